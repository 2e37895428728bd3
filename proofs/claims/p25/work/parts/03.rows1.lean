set_option maxRecDepth 20000 in
theorem ggX0_init_X0_startAnew : GoodIn wsX0_init wsX0_startAnew := goodIn_r _ [10, 11, 12, 13, 5, 14, 15, 16, 17, 18, 19, 20, 21, 22, 23, 24] rfl (by decide +kernel)
set_option maxRecDepth 20000 in
theorem gX0_init_X0_startAnew : GoodIn wsX0_init (wsV RX0 15 RX0 yX0_startAnew wsX0_startAnew) := goodIn_app (goodIn_of _ (by decide +kernel)) ggX0_init_X0_startAnew
theorem dX0_init_0 : decode cX0_init 0 = .ok (.aload_n 0, 1) := by decide +kernel
theorem dX0_init_1 : decode cX0_init 1 = .ok (.invokespecial 3, 3) := by decide +kernel
theorem dX0_init_4 : decode cX0_init 4 = .ok (.aload_n 0, 1) := by decide +kernel
theorem dX0_init_5 : decode cX0_init 5 = .ok (.bipush 32, 2) := by decide +kernel
theorem dX0_init_7 : decode cX0_init 7 = .ok (.newarray .int, 2) := by decide +kernel
theorem dX0_init_9 : decode cX0_init 9 = .ok (.putfield 9, 3) := by decide +kernel
theorem dX0_init_12 : decode cX0_init 12 = .ok (.aload_n 0, 1) := by decide +kernel
theorem dX0_init_13 : decode cX0_init 13 = .ok (.iconst 1, 1) := by decide +kernel
theorem dX0_init_14 : decode cX0_init 14 = .ok (.iconst 1, 1) := by decide +kernel
theorem dX0_init_15 : decode cX0_init 15 = .ok (.invokevirtual 15, 3) := by decide +kernel
theorem dX0_init_18 : decode cX0_init 18 = .ok (.return_, 1) := by decide +kernel
set_option maxRecDepth 20000 in
theorem ggX0_startAnew_X8_lowBits : GoodIn wsX0_startAnew wsX8_lowBits := goodIn_r _ [7] rfl (by decide +kernel)
set_option maxRecDepth 20000 in
theorem gX0_startAnew_X8_lowBits_n26 : GoodIn wsX0_startAnew (wsX8_lowBits) := ggX0_startAnew_X8_lowBits
set_option maxRecDepth 20000 in
theorem ggX0_startAnew_J7_fill_53178 : GoodIn wsX0_startAnew wsJ7_fill_53178 := goodIn_r _ [11] rfl (by decide +kernel)
set_option maxRecDepth 20000 in
theorem gX0_startAnew_J7_fill_53178 : GoodIn wsX0_startAnew (va_wsS RX0 33 yJ7_fill_53178 wsJ7_fill_53178) := goodIn_app (goodIn_of _ (by decide +kernel)) ggX0_startAnew_J7_fill_53178
theorem dX0_startAnew_0 : decode cX0_startAnew 0 = .ok (.aload_n 0, 1) := by decide +kernel
theorem dX0_startAnew_1 : decode cX0_startAnew 1 = .ok (.iload_n 1, 1) := by decide +kernel
theorem dX0_startAnew_2 : decode cX0_startAnew 2 = .ok (.putfield 19, 3) := by decide +kernel
theorem dX0_startAnew_5 : decode cX0_startAnew 5 = .ok (.aload_n 0, 1) := by decide +kernel
theorem dX0_startAnew_6 : decode cX0_startAnew 6 = .ok (.iload_n 2, 1) := by decide +kernel
theorem dX0_startAnew_7 : decode cX0_startAnew 7 = .ok (.putfield 23, 3) := by decide +kernel
theorem dX0_startAnew_10 : decode cX0_startAnew 10 = .ok (.aload_n 0, 1) := by decide +kernel
theorem dX0_startAnew_11 : decode cX0_startAnew 11 = .ok (.iload_n 1, 1) := by decide +kernel
theorem dX0_startAnew_12 : decode cX0_startAnew 12 = .ok (.invokestatic 26, 3) := by decide +kernel
theorem dX0_startAnew_15 : decode cX0_startAnew 15 = .ok (.putfield 30, 3) := by decide +kernel
theorem dX0_startAnew_18 : decode cX0_startAnew 18 = .ok (.aload_n 0, 1) := by decide +kernel
theorem dX0_startAnew_19 : decode cX0_startAnew 19 = .ok (.getfield 9, 3) := by decide +kernel
theorem dX0_startAnew_22 : decode cX0_startAnew 22 = .ok (.iconst 0, 1) := by decide +kernel
theorem dX0_startAnew_23 : decode cX0_startAnew 23 = .ok (.invokestatic 33, 3) := by decide +kernel
theorem dX0_startAnew_26 : decode cX0_startAnew 26 = .ok (.return_, 1) := by decide +kernel
set_option maxRecDepth 20000 in
theorem ggX0_hasState_X8_within : GoodIn wsX0_hasState wsX8_within := goodIn_r _ [4] rfl (by decide +kernel)
set_option maxRecDepth 20000 in
theorem gX0_hasState_X8_within_n39 : GoodIn wsX0_hasState (wsX8_within) := ggX0_hasState_X8_within
theorem dX0_hasState_0 : decode cX0_hasState 0 = .ok (.iload_n 1, 1) := by decide +kernel
theorem dX0_hasState_1 : decode cX0_hasState 1 = .ok (.iconst 0, 1) := by decide +kernel
theorem dX0_hasState_2 : decode cX0_hasState 2 = .ok (.aload_n 0, 1) := by decide +kernel
theorem dX0_hasState_3 : decode cX0_hasState 3 = .ok (.getfield 19, 3) := by decide +kernel
theorem dX0_hasState_6 : decode cX0_hasState 6 = .ok (.iconst 1, 1) := by decide +kernel
theorem dX0_hasState_7 : decode cX0_hasState 7 = .ok (.isub, 1) := by decide +kernel
theorem dX0_hasState_8 : decode cX0_hasState 8 = .ok (.invokestatic 39, 3) := by decide +kernel
theorem dX0_hasState_11 : decode cX0_hasState 11 = .ok (.ireturn, 1) := by decide +kernel
set_option maxRecDepth 20000 in
theorem ggX0_hasButton_X8_within : GoodIn wsX0_hasButton wsX8_within := goodIn_r _ [4] rfl (by decide +kernel)
set_option maxRecDepth 20000 in
theorem gX0_hasButton_X8_within_n39 : GoodIn wsX0_hasButton (wsX8_within) := ggX0_hasButton_X8_within
theorem dX0_hasButton_0 : decode cX0_hasButton 0 = .ok (.iload_n 1, 1) := by decide +kernel
theorem dX0_hasButton_1 : decode cX0_hasButton 1 = .ok (.iconst 0, 1) := by decide +kernel
theorem dX0_hasButton_2 : decode cX0_hasButton 2 = .ok (.aload_n 0, 1) := by decide +kernel
theorem dX0_hasButton_3 : decode cX0_hasButton 3 = .ok (.getfield 23, 3) := by decide +kernel
theorem dX0_hasButton_6 : decode cX0_hasButton 6 = .ok (.iconst 1, 1) := by decide +kernel
theorem dX0_hasButton_7 : decode cX0_hasButton 7 = .ok (.isub, 1) := by decide +kernel
theorem dX0_hasButton_8 : decode cX0_hasButton 8 = .ok (.invokestatic 39, 3) := by decide +kernel
theorem dX0_hasButton_11 : decode cX0_hasButton 11 = .ok (.ireturn, 1) := by decide +kernel
set_option maxRecDepth 20000 in
theorem ggX0_hasSet_X8_lowBits : GoodIn wsX0_hasSet wsX8_lowBits := goodIn_r _ [4] rfl (by decide +kernel)
set_option maxRecDepth 20000 in
theorem gX0_hasSet_X8_lowBits_n26 : GoodIn wsX0_hasSet (wsX8_lowBits) := ggX0_hasSet_X8_lowBits
set_option maxRecDepth 20000 in
theorem ggX0_hasSet_X8_within : GoodIn wsX0_hasSet wsX8_within := goodIn_r _ [6] rfl (by decide +kernel)
set_option maxRecDepth 20000 in
theorem gX0_hasSet_X8_within_n39 : GoodIn wsX0_hasSet (wsX8_within) := ggX0_hasSet_X8_within
theorem dX0_hasSet_0 : decode cX0_hasSet 0 = .ok (.iload_n 1, 1) := by decide +kernel
theorem dX0_hasSet_1 : decode cX0_hasSet 1 = .ok (.iconst 1, 1) := by decide +kernel
theorem dX0_hasSet_2 : decode cX0_hasSet 2 = .ok (.aload_n 0, 1) := by decide +kernel
theorem dX0_hasSet_3 : decode cX0_hasSet 3 = .ok (.getfield 19, 3) := by decide +kernel
theorem dX0_hasSet_6 : decode cX0_hasSet 6 = .ok (.invokestatic 26, 3) := by decide +kernel
theorem dX0_hasSet_9 : decode cX0_hasSet 9 = .ok (.invokestatic 39, 3) := by decide +kernel
theorem dX0_hasSet_12 : decode cX0_hasSet 12 = .ok (.ireturn, 1) := by decide +kernel
set_option maxRecDepth 20000 in
theorem ggX0_setLead_X0_hasState : GoodIn wsX0_setLead wsX0_hasState := goodIn_r _ [6, 7, 8, 9, 10, 16, 17, 18, 19] rfl (by decide +kernel)
set_option maxRecDepth 20000 in
theorem gX0_setLead_X0_hasState : GoodIn wsX0_setLead (wsV RX0 43 RX0 yX0_hasState wsX0_hasState) := goodIn_app (goodIn_of _ (by decide +kernel)) ggX0_setLead_X0_hasState
set_option maxRecDepth 20000 in
theorem ggX0_setLead_X0_hasButton : GoodIn wsX0_setLead wsX0_hasButton := goodIn_r _ [14, 15, 8, 9, 10, 16, 17, 18, 19] rfl (by decide +kernel)
set_option maxRecDepth 20000 in
theorem gX0_setLead_X0_hasButton : GoodIn wsX0_setLead (wsV RX0 47 RX0 yX0_hasButton wsX0_hasButton) := goodIn_app (goodIn_of _ (by decide +kernel)) ggX0_setLead_X0_hasButton
theorem dX0_setLead_0 : decode cX0_setLead 0 = .ok (.aload_n 0, 1) := by decide +kernel
theorem dX0_setLead_1 : decode cX0_setLead 1 = .ok (.iload_n 1, 1) := by decide +kernel
theorem dX0_setLead_2 : decode cX0_setLead 2 = .ok (.invokevirtual 43, 3) := by decide +kernel
theorem dX0_setLead_5 : decode cX0_setLead 5 = .ok (.ifCond .eq 22, 3) := by decide +kernel
theorem dX0_setLead_8 : decode cX0_setLead 8 = .ok (.aload_n 0, 1) := by decide +kernel
theorem dX0_setLead_9 : decode cX0_setLead 9 = .ok (.iload_n 2, 1) := by decide +kernel
theorem dX0_setLead_10 : decode cX0_setLead 10 = .ok (.invokevirtual 47, 3) := by decide +kernel
theorem dX0_setLead_13 : decode cX0_setLead 13 = .ok (.ifCond .eq 14, 3) := by decide +kernel
theorem dX0_setLead_16 : decode cX0_setLead 16 = .ok (.aload_n 0, 1) := by decide +kernel
theorem dX0_setLead_17 : decode cX0_setLead 17 = .ok (.getfield 9, 3) := by decide +kernel
theorem dX0_setLead_20 : decode cX0_setLead 20 = .ok (.iload_n 1, 1) := by decide +kernel
theorem dX0_setLead_21 : decode cX0_setLead 21 = .ok (.iconst 4, 1) := by decide +kernel
theorem dX0_setLead_22 : decode cX0_setLead 22 = .ok (.imul, 1) := by decide +kernel
theorem dX0_setLead_23 : decode cX0_setLead 23 = .ok (.iload_n 2, 1) := by decide +kernel
theorem dX0_setLead_24 : decode cX0_setLead 24 = .ok (.iadd, 1) := by decide +kernel
theorem dX0_setLead_25 : decode cX0_setLead 25 = .ok (.iload_n 3, 1) := by decide +kernel
theorem dX0_setLead_26 : decode cX0_setLead 26 = .ok (.iastore, 1) := by decide +kernel
theorem dX0_setLead_27 : decode cX0_setLead 27 = .ok (.return_, 1) := by decide +kernel
set_option maxRecDepth 20000 in
theorem ggX0_behind_X0_hasButton : GoodIn wsX0_behind wsX0_hasButton := goodIn_r _ [7, 8, 9, 10, 11, 12, 13, 14, 15] rfl (by decide +kernel)
set_option maxRecDepth 20000 in
theorem gX0_behind_X0_hasButton : GoodIn wsX0_behind (wsV RX0 47 RX0 yX0_hasButton wsX0_hasButton) := goodIn_app (goodIn_of _ (by decide +kernel)) ggX0_behind_X0_hasButton
theorem dX0_behind_0 : decode cX0_behind 0 = .ok (.iconst 0, 1) := by decide +kernel
theorem dX0_behind_1 : decode cX0_behind 1 = .ok (.istore_n 3, 1) := by decide +kernel
theorem dX0_behind_2 : decode cX0_behind 2 = .ok (.iconst 0, 1) := by decide +kernel
theorem dX0_behind_3 : decode cX0_behind 3 = .ok (.istore 4, 2) := by decide +kernel
theorem dX0_behind_5 : decode cX0_behind 5 = .ok (.iload 4, 2) := by decide +kernel
theorem dX0_behind_7 : decode cX0_behind 7 = .ok (.aload_n 0, 1) := by decide +kernel
theorem dX0_behind_8 : decode cX0_behind 8 = .ok (.getfield 19, 3) := by decide +kernel
theorem dX0_behind_11 : decode cX0_behind 11 = .ok (.if_icmp .ge 43, 3) := by decide +kernel
theorem dX0_behind_14 : decode cX0_behind 14 = .ok (.aload_n 0, 1) := by decide +kernel
theorem dX0_behind_15 : decode cX0_behind 15 = .ok (.iload_n 2, 1) := by decide +kernel
theorem dX0_behind_16 : decode cX0_behind 16 = .ok (.invokevirtual 47, 3) := by decide +kernel
theorem dX0_behind_19 : decode cX0_behind 19 = .ok (.ifCond .eq 35, 3) := by decide +kernel
theorem dX0_behind_22 : decode cX0_behind 22 = .ok (.iload_n 1, 1) := by decide +kernel
theorem dX0_behind_23 : decode cX0_behind 23 = .ok (.iload 4, 2) := by decide +kernel
theorem dX0_behind_25 : decode cX0_behind 25 = .ok (.ishr, 1) := by decide +kernel
theorem dX0_behind_26 : decode cX0_behind 26 = .ok (.iconst 1, 1) := by decide +kernel
theorem dX0_behind_27 : decode cX0_behind 27 = .ok (.iand, 1) := by decide +kernel
theorem dX0_behind_28 : decode cX0_behind 28 = .ok (.iconst 1, 1) := by decide +kernel
theorem dX0_behind_29 : decode cX0_behind 29 = .ok (.if_icmp .ne 19, 3) := by decide +kernel
theorem dX0_behind_32 : decode cX0_behind 32 = .ok (.iload_n 3, 1) := by decide +kernel
theorem dX0_behind_33 : decode cX0_behind 33 = .ok (.iconst 1, 1) := by decide +kernel
theorem dX0_behind_34 : decode cX0_behind 34 = .ok (.aload_n 0, 1) := by decide +kernel
theorem dX0_behind_35 : decode cX0_behind 35 = .ok (.getfield 9, 3) := by decide +kernel
theorem dX0_behind_38 : decode cX0_behind 38 = .ok (.iload 4, 2) := by decide +kernel
theorem dX0_behind_40 : decode cX0_behind 40 = .ok (.iconst 4, 1) := by decide +kernel
theorem dX0_behind_41 : decode cX0_behind 41 = .ok (.imul, 1) := by decide +kernel
theorem dX0_behind_42 : decode cX0_behind 42 = .ok (.iload_n 2, 1) := by decide +kernel
theorem dX0_behind_43 : decode cX0_behind 43 = .ok (.iadd, 1) := by decide +kernel
theorem dX0_behind_44 : decode cX0_behind 44 = .ok (.iaload, 1) := by decide +kernel
theorem dX0_behind_45 : decode cX0_behind 45 = .ok (.ishl, 1) := by decide +kernel
theorem dX0_behind_46 : decode cX0_behind 46 = .ok (.ior, 1) := by decide +kernel
theorem dX0_behind_47 : decode cX0_behind 47 = .ok (.istore_n 3, 1) := by decide +kernel
theorem dX0_behind_48 : decode cX0_behind 48 = .ok (.iinc 4 1, 3) := by decide +kernel
theorem dX0_behind_51 : decode cX0_behind 51 = .ok (.goto (-46), 3) := by decide +kernel
theorem dX0_behind_54 : decode cX0_behind 54 = .ok (.iload_n 3, 1) := by decide +kernel
theorem dX0_behind_55 : decode cX0_behind 55 = .ok (.ireturn, 1) := by decide +kernel
theorem dX1_init_0 : decode cX1_init 0 = .ok (.aload_n 0, 1) := by decide +kernel
theorem dX1_init_1 : decode cX1_init 1 = .ok (.invokespecial 1, 3) := by decide +kernel
theorem dX1_init_4 : decode cX1_init 4 = .ok (.return_, 1) := by decide +kernel
set_option maxRecDepth 20000 in
theorem ggX2_init_X1_init : GoodIn wsX2_init wsX1_init := goodIn_r _ [5, 6, 7, 8] rfl (by decide +kernel)
set_option maxRecDepth 20000 in
theorem gX2_init_X1_init_n3 : GoodIn wsX2_init (wsX1_init) := ggX2_init_X1_init
theorem dX2_init_0 : decode cX2_init 0 = .ok (.aload_n 0, 1) := by decide +kernel
theorem dX2_init_1 : decode cX2_init 1 = .ok (.invokespecial 3, 3) := by decide +kernel
theorem dX2_init_4 : decode cX2_init 4 = .ok (.aload_n 0, 1) := by decide +kernel
theorem dX2_init_5 : decode cX2_init 5 = .ok (.iload_n 1, 1) := by decide +kernel
theorem dX2_init_6 : decode cX2_init 6 = .ok (.putfield 9, 3) := by decide +kernel
theorem dX2_init_9 : decode cX2_init 9 = .ok (.aload_n 0, 1) := by decide +kernel
theorem dX2_init_10 : decode cX2_init 10 = .ok (.iload_n 2, 1) := by decide +kernel
theorem dX2_init_11 : decode cX2_init 11 = .ok (.putfield 15, 3) := by decide +kernel
theorem dX2_init_14 : decode cX2_init 14 = .ok (.return_, 1) := by decide +kernel
theorem dX2_isOn_0 : decode cX2_isOn 0 = .ok (.iload_n 2, 1) := by decide +kernel
theorem dX2_isOn_1 : decode cX2_isOn 1 = .ok (.ifCond .ne 5, 3) := by decide +kernel
theorem dX2_isOn_4 : decode cX2_isOn 4 = .ok (.iconst 1, 1) := by decide +kernel
theorem dX2_isOn_5 : decode cX2_isOn 5 = .ok (.ireturn, 1) := by decide +kernel
theorem dX2_isOn_6 : decode cX2_isOn 6 = .ok (.iload_n 1, 1) := by decide +kernel
theorem dX2_isOn_7 : decode cX2_isOn 7 = .ok (.aload_n 0, 1) := by decide +kernel
theorem dX2_isOn_8 : decode cX2_isOn 8 = .ok (.getfield 9, 3) := by decide +kernel
theorem dX2_isOn_11 : decode cX2_isOn 11 = .ok (.iload_n 2, 1) := by decide +kernel
theorem dX2_isOn_12 : decode cX2_isOn 12 = .ok (.iconst 1, 1) := by decide +kernel
theorem dX2_isOn_13 : decode cX2_isOn 13 = .ok (.iadd, 1) := by decide +kernel
theorem dX2_isOn_14 : decode cX2_isOn 14 = .ok (.iconst 2, 1) := by decide +kernel
theorem dX2_isOn_15 : decode cX2_isOn 15 = .ok (.idiv, 1) := by decide +kernel
theorem dX2_isOn_16 : decode cX2_isOn 16 = .ok (.isub, 1) := by decide +kernel
theorem dX2_isOn_17 : decode cX2_isOn 17 = .ok (.ishr, 1) := by decide +kernel
theorem dX2_isOn_18 : decode cX2_isOn 18 = .ok (.iconst 1, 1) := by decide +kernel
theorem dX2_isOn_19 : decode cX2_isOn 19 = .ok (.iand, 1) := by decide +kernel
theorem dX2_isOn_20 : decode cX2_isOn 20 = .ok (.istore_n 3, 1) := by decide +kernel
theorem dX2_isOn_21 : decode cX2_isOn 21 = .ok (.iload_n 2, 1) := by decide +kernel
theorem dX2_isOn_22 : decode cX2_isOn 22 = .ok (.iconst 2, 1) := by decide +kernel
theorem dX2_isOn_23 : decode cX2_isOn 23 = .ok (.irem, 1) := by decide +kernel
theorem dX2_isOn_24 : decode cX2_isOn 24 = .ok (.iconst 1, 1) := by decide +kernel
theorem dX2_isOn_25 : decode cX2_isOn 25 = .ok (.if_icmp .ne 7, 3) := by decide +kernel
theorem dX2_isOn_28 : decode cX2_isOn 28 = .ok (.iconst 1, 1) := by decide +kernel
theorem dX2_isOn_29 : decode cX2_isOn 29 = .ok (.goto 4, 3) := by decide +kernel
theorem dX2_isOn_32 : decode cX2_isOn 32 = .ok (.iconst 0, 1) := by decide +kernel
theorem dX2_isOn_33 : decode cX2_isOn 33 = .ok (.iload_n 3, 1) := by decide +kernel
theorem dX2_isOn_34 : decode cX2_isOn 34 = .ok (.ifCond .ne 7, 3) := by decide +kernel
theorem dX2_isOn_37 : decode cX2_isOn 37 = .ok (.iconst 1, 1) := by decide +kernel
theorem dX2_isOn_38 : decode cX2_isOn 38 = .ok (.goto 4, 3) := by decide +kernel
theorem dX2_isOn_41 : decode cX2_isOn 41 = .ok (.iconst 0, 1) := by decide +kernel
theorem dX2_isOn_42 : decode cX2_isOn 42 = .ok (.if_icmp .ne 7, 3) := by decide +kernel
theorem dX2_isOn_45 : decode cX2_isOn 45 = .ok (.iconst 1, 1) := by decide +kernel
theorem dX2_isOn_46 : decode cX2_isOn 46 = .ok (.goto 4, 3) := by decide +kernel
theorem dX2_isOn_49 : decode cX2_isOn 49 = .ok (.iconst 0, 1) := by decide +kernel
theorem dX2_isOn_50 : decode cX2_isOn 50 = .ok (.ireturn, 1) := by decide +kernel
set_option maxRecDepth 20000 in
theorem ggX2_write_X2_isOn : GoodIn wsX2_write wsX2_isOn := goodIn_r _ [7, 1, 19, 20] rfl (by decide +kernel)
set_option maxRecDepth 20000 in
theorem gX2_write_X2_isOn : GoodIn wsX2_write (wsV RX2 18 RX2 yX2_isOn wsX2_isOn) := goodIn_app (goodIn_of _ (by decide +kernel)) ggX2_write_X2_isOn
set_option maxRecDepth 20000 in
theorem ggX2_write_X7_append : GoodIn wsX2_write wsX7_append := goodIn_r _ [12, 13, 14, 21, 22] rfl (by decide +kernel)
set_option maxRecDepth 20000 in
theorem gX2_write_X7_append : GoodIn wsX2_write (wsV RX2 22 RX7 yX7_append wsX7_append) := goodIn_app (goodIn_of _ (by decide +kernel)) ggX2_write_X7_append
set_option maxRecDepth 20000 in
theorem ggX2_write_X7_lengthenLast : GoodIn wsX2_write wsX7_lengthenLast := goodIn_r _ [18, 13, 14, 21, 22] rfl (by decide +kernel)
set_option maxRecDepth 20000 in
theorem gX2_write_X7_lengthenLast : GoodIn wsX2_write (wsV RX2 28 RX7 yX7_lengthenLast wsX7_lengthenLast) := goodIn_app (goodIn_of _ (by decide +kernel)) ggX2_write_X7_lengthenLast
theorem dX2_write_0 : decode cX2_write 0 = .ok (.aload_n 0, 1) := by decide +kernel
theorem dX2_write_1 : decode cX2_write 1 = .ok (.iload_n 1, 1) := by decide +kernel
theorem dX2_write_2 : decode cX2_write 2 = .ok (.iconst 2, 1) := by decide +kernel
theorem dX2_write_3 : decode cX2_write 3 = .ok (.aload_n 0, 1) := by decide +kernel
theorem dX2_write_4 : decode cX2_write 4 = .ok (.getfield 9, 3) := by decide +kernel
theorem dX2_write_7 : decode cX2_write 7 = .ok (.imul, 1) := by decide +kernel
theorem dX2_write_8 : decode cX2_write 8 = .ok (.invokevirtual 18, 3) := by decide +kernel
theorem dX2_write_11 : decode cX2_write 11 = .ok (.ifCond .eq 12, 3) := by decide +kernel
theorem dX2_write_14 : decode cX2_write 14 = .ok (.iconst 2, 1) := by decide +kernel
theorem dX2_write_15 : decode cX2_write 15 = .ok (.aload_n 0, 1) := by decide +kernel
theorem dX2_write_16 : decode cX2_write 16 = .ok (.getfield 9, 3) := by decide +kernel
theorem dX2_write_19 : decode cX2_write 19 = .ok (.imul, 1) := by decide +kernel
theorem dX2_write_20 : decode cX2_write 20 = .ok (.goto 11, 3) := by decide +kernel
theorem dX2_write_23 : decode cX2_write 23 = .ok (.iconst 2, 1) := by decide +kernel
theorem dX2_write_24 : decode cX2_write 24 = .ok (.aload_n 0, 1) := by decide +kernel
theorem dX2_write_25 : decode cX2_write 25 = .ok (.getfield 9, 3) := by decide +kernel
theorem dX2_write_28 : decode cX2_write 28 = .ok (.imul, 1) := by decide +kernel
theorem dX2_write_29 : decode cX2_write 29 = .ok (.iconst 1, 1) := by decide +kernel
theorem dX2_write_30 : decode cX2_write 30 = .ok (.isub, 1) := by decide +kernel
theorem dX2_write_31 : decode cX2_write 31 = .ok (.istore_n 3, 1) := by decide +kernel
theorem dX2_write_32 : decode cX2_write 32 = .ok (.aload_n 2, 1) := by decide +kernel
theorem dX2_write_33 : decode cX2_write 33 = .ok (.aload_n 0, 1) := by decide +kernel
theorem dX2_write_34 : decode cX2_write 34 = .ok (.getfield 15, 3) := by decide +kernel
theorem dX2_write_37 : decode cX2_write 37 = .ok (.invokevirtual 22, 3) := by decide +kernel
theorem dX2_write_40 : decode cX2_write 40 = .ok (.iconst 1, 1) := by decide +kernel
theorem dX2_write_41 : decode cX2_write 41 = .ok (.istore 4, 2) := by decide +kernel
theorem dX2_write_43 : decode cX2_write 43 = .ok (.iload 4, 2) := by decide +kernel
theorem dX2_write_45 : decode cX2_write 45 = .ok (.iload_n 3, 1) := by decide +kernel
theorem dX2_write_46 : decode cX2_write 46 = .ok (.if_icmp .gt 47, 3) := by decide +kernel
theorem dX2_write_49 : decode cX2_write 49 = .ok (.aload_n 0, 1) := by decide +kernel
theorem dX2_write_50 : decode cX2_write 50 = .ok (.iload_n 1, 1) := by decide +kernel
theorem dX2_write_51 : decode cX2_write 51 = .ok (.iload 4, 2) := by decide +kernel
theorem dX2_write_53 : decode cX2_write 53 = .ok (.invokevirtual 18, 3) := by decide +kernel
theorem dX2_write_56 : decode cX2_write 56 = .ok (.aload_n 0, 1) := by decide +kernel
theorem dX2_write_57 : decode cX2_write 57 = .ok (.iload_n 1, 1) := by decide +kernel
theorem dX2_write_58 : decode cX2_write 58 = .ok (.iload 4, 2) := by decide +kernel
theorem dX2_write_60 : decode cX2_write 60 = .ok (.iconst 1, 1) := by decide +kernel
theorem dX2_write_61 : decode cX2_write 61 = .ok (.isub, 1) := by decide +kernel
theorem dX2_write_62 : decode cX2_write 62 = .ok (.invokevirtual 18, 3) := by decide +kernel
theorem dX2_write_65 : decode cX2_write 65 = .ok (.if_icmp .ne 14, 3) := by decide +kernel
theorem dX2_write_68 : decode cX2_write 68 = .ok (.aload_n 2, 1) := by decide +kernel
theorem dX2_write_69 : decode cX2_write 69 = .ok (.aload_n 0, 1) := by decide +kernel
theorem dX2_write_70 : decode cX2_write 70 = .ok (.getfield 15, 3) := by decide +kernel
theorem dX2_write_73 : decode cX2_write 73 = .ok (.invokevirtual 28, 3) := by decide +kernel
theorem dX2_write_76 : decode cX2_write 76 = .ok (.goto 11, 3) := by decide +kernel
theorem dX2_write_79 : decode cX2_write 79 = .ok (.aload_n 2, 1) := by decide +kernel
theorem dX2_write_80 : decode cX2_write 80 = .ok (.aload_n 0, 1) := by decide +kernel
theorem dX2_write_81 : decode cX2_write 81 = .ok (.getfield 15, 3) := by decide +kernel
theorem dX2_write_84 : decode cX2_write 84 = .ok (.invokevirtual 22, 3) := by decide +kernel
theorem dX2_write_87 : decode cX2_write 87 = .ok (.iinc 4 1, 3) := by decide +kernel
theorem dX2_write_90 : decode cX2_write 90 = .ok (.goto (-47), 3) := by decide +kernel
theorem dX2_write_93 : decode cX2_write 93 = .ok (.return_, 1) := by decide +kernel
set_option maxRecDepth 20000 in
theorem ggX2_decode_X7_at : GoodIn wsX2_decode wsX7_at := goodIn_r _ [7, 8, 9, 10, 11, 12, 28, 29] rfl (by decide +kernel)
set_option maxRecDepth 20000 in
theorem gX2_decode_X7_at : GoodIn wsX2_decode (wsV RX2 34 RX7 yX7_at wsX7_at) := goodIn_app (goodIn_of _ (by decide +kernel)) ggX2_decode_X7_at
set_option maxRecDepth 20000 in
theorem ggX2_decode_X8_nearerOf : GoodIn wsX2_decode wsX8_nearerOf := goodIn_r _ [14, 15, 16, 17, 18, 19, 20, 11, 21, 22, 23, 24, 25, 10, 12] rfl (by decide +kernel)
set_option maxRecDepth 20000 in
theorem gX2_decode_X8_nearerOf_n38 : GoodIn wsX2_decode (wsX8_nearerOf) := ggX2_decode_X8_nearerOf
set_option maxRecDepth 20000 in
theorem ggX2_decode_X8_fault : GoodIn wsX2_decode wsX8_fault := goodIn_r _ [27] rfl (by decide +kernel)
set_option maxRecDepth 20000 in
theorem gX2_decode_X8_fault_n42 : GoodIn wsX2_decode (wsX8_fault) := ggX2_decode_X8_fault
theorem dX2_decode_0 : decode cX2_decode 0 = .ok (.iconst 0, 1) := by decide +kernel
theorem dX2_decode_1 : decode cX2_decode 1 = .ok (.istore_n 3, 1) := by decide +kernel
theorem dX2_decode_2 : decode cX2_decode 2 = .ok (.iconst 0, 1) := by decide +kernel
theorem dX2_decode_3 : decode cX2_decode 3 = .ok (.istore 4, 2) := by decide +kernel
theorem dX2_decode_5 : decode cX2_decode 5 = .ok (.iconst 0, 1) := by decide +kernel
theorem dX2_decode_6 : decode cX2_decode 6 = .ok (.istore 5, 2) := by decide +kernel
theorem dX2_decode_8 : decode cX2_decode 8 = .ok (.iconst 0, 1) := by decide +kernel
theorem dX2_decode_9 : decode cX2_decode 9 = .ok (.istore 6, 2) := by decide +kernel
theorem dX2_decode_11 : decode cX2_decode 11 = .ok (.iload 6, 2) := by decide +kernel
theorem dX2_decode_13 : decode cX2_decode 13 = .ok (.aload_n 1, 1) := by decide +kernel
theorem dX2_decode_14 : decode cX2_decode 14 = .ok (.getfield 31, 3) := by decide +kernel
theorem dX2_decode_17 : decode cX2_decode 17 = .ok (.if_icmp .ge 148, 3) := by decide +kernel
theorem dX2_decode_20 : decode cX2_decode 20 = .ok (.aload_n 1, 1) := by decide +kernel
theorem dX2_decode_21 : decode cX2_decode 21 = .ok (.iload 6, 2) := by decide +kernel
theorem dX2_decode_23 : decode cX2_decode 23 = .ok (.invokevirtual 34, 3) := by decide +kernel
theorem dX2_decode_26 : decode cX2_decode 26 = .ok (.aload_n 0, 1) := by decide +kernel
theorem dX2_decode_27 : decode cX2_decode 27 = .ok (.getfield 15, 3) := by decide +kernel
theorem dX2_decode_30 : decode cX2_decode 30 = .ok (.iconst 2, 1) := by decide +kernel
theorem dX2_decode_31 : decode cX2_decode 31 = .ok (.aload_n 0, 1) := by decide +kernel
theorem dX2_decode_32 : decode cX2_decode 32 = .ok (.getfield 15, 3) := by decide +kernel
theorem dX2_decode_35 : decode cX2_decode 35 = .ok (.imul, 1) := by decide +kernel
theorem dX2_decode_36 : decode cX2_decode 36 = .ok (.iload_n 2, 1) := by decide +kernel
theorem dX2_decode_37 : decode cX2_decode 37 = .ok (.invokestatic 38, 3) := by decide +kernel
theorem dX2_decode_40 : decode cX2_decode 40 = .ok (.istore 7, 2) := by decide +kernel
theorem dX2_decode_42 : decode cX2_decode 42 = .ok (.iload 7, 2) := by decide +kernel
theorem dX2_decode_44 : decode cX2_decode 44 = .ok (.iconst (-1), 1) := by decide +kernel
theorem dX2_decode_45 : decode cX2_decode 45 = .ok (.if_icmp .ne 9, 3) := by decide +kernel
theorem dX2_decode_48 : decode cX2_decode 48 = .ok (.iload 6, 2) := by decide +kernel
theorem dX2_decode_50 : decode cX2_decode 50 = .ok (.invokestatic 42, 3) := by decide +kernel
theorem dX2_decode_53 : decode cX2_decode 53 = .ok (.ireturn, 1) := by decide +kernel
theorem dX2_decode_54 : decode cX2_decode 54 = .ok (.iload 6, 2) := by decide +kernel
theorem dX2_decode_56 : decode cX2_decode 56 = .ok (.iconst 2, 1) := by decide +kernel
theorem dX2_decode_57 : decode cX2_decode 57 = .ok (.irem, 1) := by decide +kernel
theorem dX2_decode_58 : decode cX2_decode 58 = .ok (.ifCond .ne 7, 3) := by decide +kernel
theorem dX2_decode_61 : decode cX2_decode 61 = .ok (.iconst 1, 1) := by decide +kernel
theorem dX2_decode_62 : decode cX2_decode 62 = .ok (.goto 4, 3) := by decide +kernel
theorem dX2_decode_65 : decode cX2_decode 65 = .ok (.iconst 0, 1) := by decide +kernel
theorem dX2_decode_66 : decode cX2_decode 66 = .ok (.istore 8, 2) := by decide +kernel
theorem dX2_decode_68 : decode cX2_decode 68 = .ok (.iconst 0, 1) := by decide +kernel
theorem dX2_decode_69 : decode cX2_decode 69 = .ok (.istore 9, 2) := by decide +kernel
theorem dX2_decode_71 : decode cX2_decode 71 = .ok (.iload 9, 2) := by decide +kernel
theorem dX2_decode_73 : decode cX2_decode 73 = .ok (.iload 7, 2) := by decide +kernel
theorem dX2_decode_75 : decode cX2_decode 75 = .ok (.if_icmp .gt 84, 3) := by decide +kernel
theorem dX2_decode_78 : decode cX2_decode 78 = .ok (.iload 4, 2) := by decide +kernel
theorem dX2_decode_80 : decode cX2_decode 80 = .ok (.ifCond .le 14, 3) := by decide +kernel
theorem dX2_decode_83 : decode cX2_decode 83 = .ok (.iload 4, 2) := by decide +kernel
theorem dX2_decode_85 : decode cX2_decode 85 = .ok (.iconst 2, 1) := by decide +kernel
theorem dX2_decode_86 : decode cX2_decode 86 = .ok (.irem, 1) := by decide +kernel
theorem dX2_decode_87 : decode cX2_decode 87 = .ok (.ifCond .ne 7, 3) := by decide +kernel
theorem dX2_decode_90 : decode cX2_decode 90 = .ok (.iconst 1, 1) := by decide +kernel
theorem dX2_decode_91 : decode cX2_decode 91 = .ok (.goto 4, 3) := by decide +kernel
theorem dX2_decode_94 : decode cX2_decode 94 = .ok (.iconst 0, 1) := by decide +kernel
theorem dX2_decode_95 : decode cX2_decode 95 = .ok (.istore 10, 2) := by decide +kernel
theorem dX2_decode_97 : decode cX2_decode 97 = .ok (.iload 4, 2) := by decide +kernel
theorem dX2_decode_99 : decode cX2_decode 99 = .ok (.iconst 2, 1) := by decide +kernel
theorem dX2_decode_100 : decode cX2_decode 100 = .ok (.aload_n 0, 1) := by decide +kernel
theorem dX2_decode_101 : decode cX2_decode 101 = .ok (.getfield 9, 3) := by decide +kernel
theorem dX2_decode_104 : decode cX2_decode 104 = .ok (.imul, 1) := by decide +kernel
theorem dX2_decode_105 : decode cX2_decode 105 = .ok (.if_icmp .gt 15, 3) := by decide +kernel
theorem dX2_decode_108 : decode cX2_decode 108 = .ok (.iload 10, 2) := by decide +kernel
theorem dX2_decode_110 : decode cX2_decode 110 = .ok (.ifCond .eq 16, 3) := by decide +kernel
theorem dX2_decode_113 : decode cX2_decode 113 = .ok (.iload 8, 2) := by decide +kernel
theorem dX2_decode_115 : decode cX2_decode 115 = .ok (.iload 5, 2) := by decide +kernel
theorem dX2_decode_117 : decode cX2_decode 117 = .ok (.if_icmp .ne 9, 3) := by decide +kernel
theorem dX2_decode_120 : decode cX2_decode 120 = .ok (.iload 6, 2) := by decide +kernel
theorem dX2_decode_122 : decode cX2_decode 122 = .ok (.invokestatic 42, 3) := by decide +kernel
theorem dX2_decode_125 : decode cX2_decode 125 = .ok (.ireturn, 1) := by decide +kernel
theorem dX2_decode_126 : decode cX2_decode 126 = .ok (.iload 10, 2) := by decide +kernel
theorem dX2_decode_128 : decode cX2_decode 128 = .ok (.ifCond .eq 18, 3) := by decide +kernel
theorem dX2_decode_131 : decode cX2_decode 131 = .ok (.iload_n 3, 1) := by decide +kernel
theorem dX2_decode_132 : decode cX2_decode 132 = .ok (.iconst 2, 1) := by decide +kernel
theorem dX2_decode_133 : decode cX2_decode 133 = .ok (.imul, 1) := by decide +kernel
theorem dX2_decode_134 : decode cX2_decode 134 = .ok (.iload 5, 2) := by decide +kernel
theorem dX2_decode_136 : decode cX2_decode 136 = .ok (.ifCond .eq 7, 3) := by decide +kernel
theorem dX2_decode_139 : decode cX2_decode 139 = .ok (.iconst 0, 1) := by decide +kernel
theorem dX2_decode_140 : decode cX2_decode 140 = .ok (.goto 4, 3) := by decide +kernel
theorem dX2_decode_143 : decode cX2_decode 143 = .ok (.iconst 1, 1) := by decide +kernel
theorem dX2_decode_144 : decode cX2_decode 144 = .ok (.iadd, 1) := by decide +kernel
theorem dX2_decode_145 : decode cX2_decode 145 = .ok (.istore_n 3, 1) := by decide +kernel
theorem dX2_decode_146 : decode cX2_decode 146 = .ok (.iload 8, 2) := by decide +kernel
theorem dX2_decode_148 : decode cX2_decode 148 = .ok (.istore 5, 2) := by decide +kernel
theorem dX2_decode_150 : decode cX2_decode 150 = .ok (.iinc 4 1, 3) := by decide +kernel
theorem dX2_decode_153 : decode cX2_decode 153 = .ok (.iinc 9 1, 3) := by decide +kernel
theorem dX2_decode_156 : decode cX2_decode 156 = .ok (.goto (-85), 3) := by decide +kernel
theorem dX2_decode_159 : decode cX2_decode 159 = .ok (.iinc 6 1, 3) := by decide +kernel
theorem dX2_decode_162 : decode cX2_decode 162 = .ok (.goto (-151), 3) := by decide +kernel
theorem dX2_decode_165 : decode cX2_decode 165 = .ok (.iload 4, 2) := by decide +kernel
theorem dX2_decode_167 : decode cX2_decode 167 = .ok (.iconst 2, 1) := by decide +kernel
theorem dX2_decode_168 : decode cX2_decode 168 = .ok (.aload_n 0, 1) := by decide +kernel
theorem dX2_decode_169 : decode cX2_decode 169 = .ok (.getfield 9, 3) := by decide +kernel
theorem dX2_decode_172 : decode cX2_decode 172 = .ok (.imul, 1) := by decide +kernel
theorem dX2_decode_173 : decode cX2_decode 173 = .ok (.if_icmp .ne 12, 3) := by decide +kernel
theorem dX2_decode_176 : decode cX2_decode 176 = .ok (.iload 5, 2) := by decide +kernel
theorem dX2_decode_178 : decode cX2_decode 178 = .ok (.ifCond .eq 7, 3) := by decide +kernel
theorem dX2_decode_181 : decode cX2_decode 181 = .ok (.iload_n 3, 1) := by decide +kernel
theorem dX2_decode_182 : decode cX2_decode 182 = .ok (.iconst 2, 1) := by decide +kernel
theorem dX2_decode_183 : decode cX2_decode 183 = .ok (.imul, 1) := by decide +kernel
theorem dX2_decode_184 : decode cX2_decode 184 = .ok (.ireturn, 1) := by decide +kernel
theorem dX2_decode_185 : decode cX2_decode 185 = .ok (.iload 4, 2) := by decide +kernel
theorem dX2_decode_187 : decode cX2_decode 187 = .ok (.iconst 2, 1) := by decide +kernel
theorem dX2_decode_188 : decode cX2_decode 188 = .ok (.aload_n 0, 1) := by decide +kernel
theorem dX2_decode_189 : decode cX2_decode 189 = .ok (.getfield 9, 3) := by decide +kernel
theorem dX2_decode_192 : decode cX2_decode 192 = .ok (.imul, 1) := by decide +kernel
theorem dX2_decode_193 : decode cX2_decode 193 = .ok (.if_icmp .le 7, 3) := by decide +kernel
theorem dX2_decode_196 : decode cX2_decode 196 = .ok (.iload_n 3, 1) := by decide +kernel
theorem dX2_decode_197 : decode cX2_decode 197 = .ok (.goto 10, 3) := by decide +kernel
theorem dX2_decode_200 : decode cX2_decode 200 = .ok (.aload_n 1, 1) := by decide +kernel
theorem dX2_decode_201 : decode cX2_decode 201 = .ok (.getfield 31, 3) := by decide +kernel
theorem dX2_decode_204 : decode cX2_decode 204 = .ok (.invokestatic 42, 3) := by decide +kernel
theorem dX2_decode_207 : decode cX2_decode 207 = .ok (.ireturn, 1) := by decide +kernel
set_option maxRecDepth 20000 in
theorem ggX3_init_X3_startWithFlip : GoodIn wsX3_init wsX3_startWithFlip := goodIn_r _ [12, 13, 14, 5, 15, 16, 17, 18, 19, 20, 21, 11, 22, 23, 7, 24, 25, 6, 26, 27, 28, 29, 30, 31, 32, 33, 34, 35, 36, 37, 38, 39, 40, 41, 42, 43, 44, 45, 46, 47, 48, 49, 50, 51, 52, 53, 54, 55, 56] rfl (by decide +kernel)
set_option maxRecDepth 20000 in
theorem gX3_init_X3_startWithFlip : GoodIn wsX3_init (wsV RX3 22 RX3 yX3_startWithFlip wsX3_startWithFlip) := goodIn_app (goodIn_of _ (by decide +kernel)) ggX3_init_X3_startWithFlip
theorem dX3_init_0 : decode cX3_init 0 = .ok (.aload_n 0, 1) := by decide +kernel
theorem dX3_init_1 : decode cX3_init 1 = .ok (.invokespecial 3, 3) := by decide +kernel
theorem dX3_init_4 : decode cX3_init 4 = .ok (.aload_n 0, 1) := by decide +kernel
theorem dX3_init_5 : decode cX3_init 5 = .ok (.bipush 16, 2) := by decide +kernel
theorem dX3_init_7 : decode cX3_init 7 = .ok (.newarray .int, 2) := by decide +kernel
theorem dX3_init_9 : decode cX3_init 9 = .ok (.putfield 9, 3) := by decide +kernel
theorem dX3_init_12 : decode cX3_init 12 = .ok (.aload_n 0, 1) := by decide +kernel
theorem dX3_init_13 : decode cX3_init 13 = .ok (.iconst 4, 1) := by decide +kernel
theorem dX3_init_14 : decode cX3_init 14 = .ok (.newarray .int, 2) := by decide +kernel
theorem dX3_init_16 : decode cX3_init 16 = .ok (.putfield 15, 3) := by decide +kernel
theorem dX3_init_19 : decode cX3_init 19 = .ok (.aload_n 0, 1) := by decide +kernel
theorem dX3_init_20 : decode cX3_init 20 = .ok (.iload_n 1, 1) := by decide +kernel
theorem dX3_init_21 : decode cX3_init 21 = .ok (.putfield 18, 3) := by decide +kernel
theorem dX3_init_24 : decode cX3_init 24 = .ok (.aload_n 0, 1) := by decide +kernel
theorem dX3_init_25 : decode cX3_init 25 = .ok (.iconst (-1), 1) := by decide +kernel
theorem dX3_init_26 : decode cX3_init 26 = .ok (.invokevirtual 22, 3) := by decide +kernel
theorem dX3_init_29 : decode cX3_init 29 = .ok (.return_, 1) := by decide +kernel
set_option maxRecDepth 20000 in
theorem ggX3_startWithFlip_J7_fill_53178 : GoodIn wsX3_startWithFlip wsJ7_fill_53178 := goodIn_r _ [7] rfl (by decide +kernel)
set_option maxRecDepth 20000 in
theorem gX3_startWithFlip_J7_fill_53178 : GoodIn wsX3_startWithFlip (va_wsS RX3 32 yJ7_fill_53178 wsJ7_fill_53178) := goodIn_app (goodIn_of _ (by decide +kernel)) ggX3_startWithFlip_J7_fill_53178
set_option maxRecDepth 20000 in
theorem ggX3_startWithFlip_X3_compareAll : GoodIn wsX3_startWithFlip wsX3_compareAll := goodIn_r _ [12, 13, 14, 3, 15, 16, 17, 18, 19, 20, 21, 22, 23, 11, 24, 1, 25, 26, 27, 28, 29, 30, 31, 32, 33, 34, 35, 36, 37, 38, 39, 40, 41, 42, 43, 44, 45, 46, 47, 48] rfl (by decide +kernel)
set_option maxRecDepth 20000 in
theorem gX3_startWithFlip_X3_compareAll : GoodIn wsX3_startWithFlip (wsV RX3 38 RX3 yX3_compareAll wsX3_compareAll) := goodIn_app (goodIn_of _ (by decide +kernel)) ggX3_startWithFlip_X3_compareAll
theorem dX3_startWithFlip_0 : decode cX3_startWithFlip 0 = .ok (.aload_n 0, 1) := by decide +kernel
theorem dX3_startWithFlip_1 : decode cX3_startWithFlip 1 = .ok (.iload_n 1, 1) := by decide +kernel
theorem dX3_startWithFlip_2 : decode cX3_startWithFlip 2 = .ok (.putfield 26, 3) := by decide +kernel
theorem dX3_startWithFlip_5 : decode cX3_startWithFlip 5 = .ok (.aload_n 0, 1) := by decide +kernel
theorem dX3_startWithFlip_6 : decode cX3_startWithFlip 6 = .ok (.iconst 0, 1) := by decide +kernel
theorem dX3_startWithFlip_7 : decode cX3_startWithFlip 7 = .ok (.putfield 29, 3) := by decide +kernel
theorem dX3_startWithFlip_10 : decode cX3_startWithFlip 10 = .ok (.aload_n 0, 1) := by decide +kernel
theorem dX3_startWithFlip_11 : decode cX3_startWithFlip 11 = .ok (.getfield 9, 3) := by decide +kernel
theorem dX3_startWithFlip_14 : decode cX3_startWithFlip 14 = .ok (.iconst (-1), 1) := by decide +kernel
theorem dX3_startWithFlip_15 : decode cX3_startWithFlip 15 = .ok (.invokestatic 32, 3) := by decide +kernel
theorem dX3_startWithFlip_18 : decode cX3_startWithFlip 18 = .ok (.aload_n 0, 1) := by decide +kernel
theorem dX3_startWithFlip_19 : decode cX3_startWithFlip 19 = .ok (.invokevirtual 38, 3) := by decide +kernel
theorem dX3_startWithFlip_22 : decode cX3_startWithFlip 22 = .ok (.return_, 1) := by decide +kernel
theorem dX3_flipMask_0 : decode cX3_flipMask 0 = .ok (.aload_n 0, 1) := by decide +kernel
theorem dX3_flipMask_1 : decode cX3_flipMask 1 = .ok (.getfield 26, 3) := by decide +kernel
theorem dX3_flipMask_4 : decode cX3_flipMask 4 = .ok (.iconst (-1), 1) := by decide +kernel
theorem dX3_flipMask_5 : decode cX3_flipMask 5 = .ok (.if_icmp .ne 7, 3) := by decide +kernel
theorem dX3_flipMask_8 : decode cX3_flipMask 8 = .ok (.iconst 0, 1) := by decide +kernel
theorem dX3_flipMask_9 : decode cX3_flipMask 9 = .ok (.goto 9, 3) := by decide +kernel
theorem dX3_flipMask_12 : decode cX3_flipMask 12 = .ok (.iconst 1, 1) := by decide +kernel
theorem dX3_flipMask_13 : decode cX3_flipMask 13 = .ok (.aload_n 0, 1) := by decide +kernel
theorem dX3_flipMask_14 : decode cX3_flipMask 14 = .ok (.getfield 26, 3) := by decide +kernel
theorem dX3_flipMask_17 : decode cX3_flipMask 17 = .ok (.ishl, 1) := by decide +kernel
theorem dX3_flipMask_18 : decode cX3_flipMask 18 = .ok (.ireturn, 1) := by decide +kernel
set_option maxRecDepth 20000 in
theorem ggX3_hasKey_X8_within : GoodIn wsX3_hasKey wsX8_within := goodIn_r _ [3] rfl (by decide +kernel)
set_option maxRecDepth 20000 in
theorem gX3_hasKey_X8_within_n41 : GoodIn wsX3_hasKey (wsX8_within) := ggX3_hasKey_X8_within
theorem dX3_hasKey_0 : decode cX3_hasKey 0 = .ok (.iload_n 1, 1) := by decide +kernel
theorem dX3_hasKey_1 : decode cX3_hasKey 1 = .ok (.iconst 0, 1) := by decide +kernel
theorem dX3_hasKey_2 : decode cX3_hasKey 2 = .ok (.bipush 15, 2) := by decide +kernel
theorem dX3_hasKey_4 : decode cX3_hasKey 4 = .ok (.invokestatic 41, 3) := by decide +kernel
theorem dX3_hasKey_7 : decode cX3_hasKey 7 = .ok (.ireturn, 1) := by decide +kernel
set_option maxRecDepth 20000 in
theorem ggX3_codeOf_X3_hasKey : GoodIn wsX3_codeOf wsX3_hasKey := goodIn_r _ [6, 7, 8, 9] rfl (by decide +kernel)
set_option maxRecDepth 20000 in
theorem gX3_codeOf_X3_hasKey : GoodIn wsX3_codeOf (wsV RX3 45 RX3 yX3_hasKey wsX3_hasKey) := goodIn_app (goodIn_of _ (by decide +kernel)) ggX3_codeOf_X3_hasKey
theorem dX3_codeOf_0 : decode cX3_codeOf 0 = .ok (.aload_n 0, 1) := by decide +kernel
theorem dX3_codeOf_1 : decode cX3_codeOf 1 = .ok (.iload_n 1, 1) := by decide +kernel
theorem dX3_codeOf_2 : decode cX3_codeOf 2 = .ok (.invokevirtual 45, 3) := by decide +kernel
theorem dX3_codeOf_5 : decode cX3_codeOf 5 = .ok (.ifCond .eq 12, 3) := by decide +kernel
theorem dX3_codeOf_8 : decode cX3_codeOf 8 = .ok (.aload_n 0, 1) := by decide +kernel
theorem dX3_codeOf_9 : decode cX3_codeOf 9 = .ok (.getfield 9, 3) := by decide +kernel
theorem dX3_codeOf_12 : decode cX3_codeOf 12 = .ok (.iload_n 1, 1) := by decide +kernel
theorem dX3_codeOf_13 : decode cX3_codeOf 13 = .ok (.iaload, 1) := by decide +kernel
theorem dX3_codeOf_14 : decode cX3_codeOf 14 = .ok (.goto 4, 3) := by decide +kernel
theorem dX3_codeOf_17 : decode cX3_codeOf 17 = .ok (.iconst (-1), 1) := by decide +kernel
theorem dX3_codeOf_18 : decode cX3_codeOf 18 = .ok (.ireturn, 1) := by decide +kernel
set_option maxRecDepth 20000 in
theorem ggX3_take_X3_flipMask : GoodIn wsX3_take wsX3_flipMask := goodIn_r _ [6, 7, 42, 43, 44, 45, 46, 47, 48, 49] rfl (by decide +kernel)
set_option maxRecDepth 20000 in
theorem gX3_take_X3_flipMask : GoodIn wsX3_take (wsV RX3 49 RX3 yX3_flipMask wsX3_flipMask) := goodIn_app (goodIn_of _ (by decide +kernel)) ggX3_take_X3_flipMask
set_option maxRecDepth 20000 in
theorem ggX3_take_X3_hasKey : GoodIn wsX3_take wsX3_hasKey := goodIn_r _ [11, 12, 13, 14] rfl (by decide +kernel)
set_option maxRecDepth 20000 in
theorem gX3_take_X3_hasKey : GoodIn wsX3_take (wsV RX3 45 RX3 yX3_hasKey wsX3_hasKey) := goodIn_app (goodIn_of _ (by decide +kernel)) ggX3_take_X3_hasKey
set_option maxRecDepth 20000 in
theorem ggX3_take_X3_compareAll : GoodIn wsX3_take wsX3_compareAll := goodIn_r _ [18, 19, 20, 1, 21, 22, 23, 24, 13, 25, 2, 3, 4, 5, 6, 7, 26, 27, 28, 29, 30, 31, 32, 33, 34, 35, 36, 37, 38, 39, 40, 41, 42, 43, 44, 45, 46, 47, 48, 49] rfl (by decide +kernel)
set_option maxRecDepth 20000 in
theorem gX3_take_X3_compareAll : GoodIn wsX3_take (wsV RX3 38 RX3 yX3_compareAll wsX3_compareAll) := goodIn_app (goodIn_of _ (by decide +kernel)) ggX3_take_X3_compareAll
theorem dX3_take_0 : decode cX3_take 0 = .ok (.iload_n 2, 1) := by decide +kernel
theorem dX3_take_1 : decode cX3_take 1 = .ok (.aload_n 0, 1) := by decide +kernel
theorem dX3_take_2 : decode cX3_take 2 = .ok (.invokevirtual 49, 3) := by decide +kernel
theorem dX3_take_5 : decode cX3_take 5 = .ok (.iconst (-1), 1) := by decide +kernel
theorem dX3_take_6 : decode cX3_take 6 = .ok (.ixor, 1) := by decide +kernel
theorem dX3_take_7 : decode cX3_take 7 = .ok (.iand, 1) := by decide +kernel
theorem dX3_take_8 : decode cX3_take 8 = .ok (.istore_n 3, 1) := by decide +kernel
theorem dX3_take_9 : decode cX3_take 9 = .ok (.aload_n 0, 1) := by decide +kernel
theorem dX3_take_10 : decode cX3_take 10 = .ok (.iload_n 1, 1) := by decide +kernel
theorem dX3_take_11 : decode cX3_take 11 = .ok (.invokevirtual 45, 3) := by decide +kernel
theorem dX3_take_14 : decode cX3_take 14 = .ok (.ifCond .eq 23, 3) := by decide +kernel
theorem dX3_take_17 : decode cX3_take 17 = .ok (.aload_n 0, 1) := by decide +kernel
theorem dX3_take_18 : decode cX3_take 18 = .ok (.getfield 9, 3) := by decide +kernel
theorem dX3_take_21 : decode cX3_take 21 = .ok (.iload_n 1, 1) := by decide +kernel
theorem dX3_take_22 : decode cX3_take 22 = .ok (.iaload, 1) := by decide +kernel
theorem dX3_take_23 : decode cX3_take 23 = .ok (.iconst (-1), 1) := by decide +kernel
theorem dX3_take_24 : decode cX3_take 24 = .ok (.if_icmp .eq 15, 3) := by decide +kernel
theorem dX3_take_27 : decode cX3_take 27 = .ok (.aload_n 0, 1) := by decide +kernel
theorem dX3_take_28 : decode cX3_take 28 = .ok (.getfield 9, 3) := by decide +kernel
theorem dX3_take_31 : decode cX3_take 31 = .ok (.iload_n 1, 1) := by decide +kernel
theorem dX3_take_32 : decode cX3_take 32 = .ok (.iaload, 1) := by decide +kernel
theorem dX3_take_33 : decode cX3_take 33 = .ok (.iload_n 3, 1) := by decide +kernel
theorem dX3_take_34 : decode cX3_take 34 = .ok (.if_icmp .eq 5, 3) := by decide +kernel
theorem dX3_take_37 : decode cX3_take 37 = .ok (.iconst (-1), 1) := by decide +kernel
theorem dX3_take_38 : decode cX3_take 38 = .ok (.ireturn, 1) := by decide +kernel
theorem dX3_take_39 : decode cX3_take 39 = .ok (.aload_n 0, 1) := by decide +kernel
theorem dX3_take_40 : decode cX3_take 40 = .ok (.getfield 9, 3) := by decide +kernel
theorem dX3_take_43 : decode cX3_take 43 = .ok (.iload_n 1, 1) := by decide +kernel
theorem dX3_take_44 : decode cX3_take 44 = .ok (.iload_n 3, 1) := by decide +kernel
theorem dX3_take_45 : decode cX3_take 45 = .ok (.iastore, 1) := by decide +kernel
theorem dX3_take_46 : decode cX3_take 46 = .ok (.aload_n 0, 1) := by decide +kernel
theorem dX3_take_47 : decode cX3_take 47 = .ok (.invokevirtual 38, 3) := by decide +kernel
theorem dX3_take_50 : decode cX3_take 50 = .ok (.iload_n 3, 1) := by decide +kernel
theorem dX3_take_51 : decode cX3_take 51 = .ok (.ireturn, 1) := by decide +kernel
set_option maxRecDepth 20000 in
theorem ggX3_drop_X3_codeOf : GoodIn wsX3_drop wsX3_codeOf := goodIn_r _ [6, 1, 7, 8, 9, 5, 10, 11, 12, 13, 46, 47, 48, 49, 50, 51, 52, 53] rfl (by decide +kernel)
set_option maxRecDepth 20000 in
theorem gX3_drop_X3_codeOf : GoodIn wsX3_drop (wsV RX3 53 RX3 yX3_codeOf wsX3_codeOf) := goodIn_app (goodIn_of _ (by decide +kernel)) ggX3_drop_X3_codeOf
set_option maxRecDepth 20000 in
theorem ggX3_drop_X3_compareAll : GoodIn wsX3_drop wsX3_compareAll := goodIn_r _ [17, 18, 19, 1, 20, 21, 22, 23, 12, 24, 25, 26, 27, 5, 28, 29, 30, 31, 32, 33, 34, 35, 36, 37, 38, 39, 40, 41, 42, 43, 44, 45, 46, 47, 48, 49, 50, 51, 52, 53] rfl (by decide +kernel)
set_option maxRecDepth 20000 in
theorem gX3_drop_X3_compareAll : GoodIn wsX3_drop (wsV RX3 38 RX3 yX3_compareAll wsX3_compareAll) := goodIn_app (goodIn_of _ (by decide +kernel)) ggX3_drop_X3_compareAll
theorem dX3_drop_0 : decode cX3_drop 0 = .ok (.aload_n 0, 1) := by decide +kernel
theorem dX3_drop_1 : decode cX3_drop 1 = .ok (.iload_n 1, 1) := by decide +kernel
theorem dX3_drop_2 : decode cX3_drop 2 = .ok (.invokevirtual 53, 3) := by decide +kernel
theorem dX3_drop_5 : decode cX3_drop 5 = .ok (.iconst (-1), 1) := by decide +kernel
theorem dX3_drop_6 : decode cX3_drop 6 = .ok (.if_icmp .ne 5, 3) := by decide +kernel
theorem dX3_drop_9 : decode cX3_drop 9 = .ok (.iconst 0, 1) := by decide +kernel
theorem dX3_drop_10 : decode cX3_drop 10 = .ok (.ireturn, 1) := by decide +kernel
theorem dX3_drop_11 : decode cX3_drop 11 = .ok (.aload_n 0, 1) := by decide +kernel
theorem dX3_drop_12 : decode cX3_drop 12 = .ok (.getfield 9, 3) := by decide +kernel
theorem dX3_drop_15 : decode cX3_drop 15 = .ok (.iload_n 1, 1) := by decide +kernel
theorem dX3_drop_16 : decode cX3_drop 16 = .ok (.iconst (-1), 1) := by decide +kernel
theorem dX3_drop_17 : decode cX3_drop 17 = .ok (.iastore, 1) := by decide +kernel
theorem dX3_drop_18 : decode cX3_drop 18 = .ok (.aload_n 0, 1) := by decide +kernel
theorem dX3_drop_19 : decode cX3_drop 19 = .ok (.invokevirtual 38, 3) := by decide +kernel
theorem dX3_drop_22 : decode cX3_drop 22 = .ok (.iconst 1, 1) := by decide +kernel
theorem dX3_drop_23 : decode cX3_drop 23 = .ok (.ireturn, 1) := by decide +kernel
set_option maxRecDepth 20000 in
theorem ggX3_codeToSend_X3_codeOf : GoodIn wsX3_codeToSend wsX3_codeOf := goodIn_r _ [7, 8, 9, 10, 11, 6, 12, 13, 14, 15, 20, 21, 22, 23, 24, 25, 26, 27] rfl (by decide +kernel)
set_option maxRecDepth 20000 in
theorem gX3_codeToSend_X3_codeOf : GoodIn wsX3_codeToSend (wsV RX3 53 RX3 yX3_codeOf wsX3_codeOf) := goodIn_app (goodIn_of _ (by decide +kernel)) ggX3_codeToSend_X3_codeOf
set_option maxRecDepth 20000 in
theorem ggX3_codeToSend_X3_flipMask : GoodIn wsX3_codeToSend wsX3_flipMask := goodIn_r _ [19, 2, 20, 21, 22, 23, 24, 25, 26, 27] rfl (by decide +kernel)
set_option maxRecDepth 20000 in
theorem gX3_codeToSend_X3_flipMask : GoodIn wsX3_codeToSend (wsV RX3 49 RX3 yX3_flipMask wsX3_flipMask) := goodIn_app (goodIn_of _ (by decide +kernel)) ggX3_codeToSend_X3_flipMask
theorem dX3_codeToSend_0 : decode cX3_codeToSend 0 = .ok (.aload_n 0, 1) := by decide +kernel
theorem dX3_codeToSend_1 : decode cX3_codeToSend 1 = .ok (.getfield 29, 3) := by decide +kernel
theorem dX3_codeToSend_4 : decode cX3_codeToSend 4 = .ok (.ifCond .ne 11, 3) := by decide +kernel
theorem dX3_codeToSend_7 : decode cX3_codeToSend 7 = .ok (.aload_n 0, 1) := by decide +kernel
theorem dX3_codeToSend_8 : decode cX3_codeToSend 8 = .ok (.iload_n 1, 1) := by decide +kernel
theorem dX3_codeToSend_9 : decode cX3_codeToSend 9 = .ok (.invokevirtual 53, 3) := by decide +kernel
theorem dX3_codeToSend_12 : decode cX3_codeToSend 12 = .ok (.goto 13, 3) := by decide +kernel
theorem dX3_codeToSend_15 : decode cX3_codeToSend 15 = .ok (.aload_n 0, 1) := by decide +kernel
theorem dX3_codeToSend_16 : decode cX3_codeToSend 16 = .ok (.iload_n 1, 1) := by decide +kernel
theorem dX3_codeToSend_17 : decode cX3_codeToSend 17 = .ok (.invokevirtual 53, 3) := by decide +kernel
theorem dX3_codeToSend_20 : decode cX3_codeToSend 20 = .ok (.aload_n 0, 1) := by decide +kernel
theorem dX3_codeToSend_21 : decode cX3_codeToSend 21 = .ok (.invokevirtual 49, 3) := by decide +kernel
theorem dX3_codeToSend_24 : decode cX3_codeToSend 24 = .ok (.ior, 1) := by decide +kernel
theorem dX3_codeToSend_25 : decode cX3_codeToSend 25 = .ok (.istore_n 2, 1) := by decide +kernel
theorem dX3_codeToSend_26 : decode cX3_codeToSend 26 = .ok (.aload_n 0, 1) := by decide +kernel
theorem dX3_codeToSend_27 : decode cX3_codeToSend 27 = .ok (.getfield 26, 3) := by decide +kernel
theorem dX3_codeToSend_30 : decode cX3_codeToSend 30 = .ok (.iconst (-1), 1) := by decide +kernel
theorem dX3_codeToSend_31 : decode cX3_codeToSend 31 = .ok (.if_icmp .eq 13, 3) := by decide +kernel
theorem dX3_codeToSend_34 : decode cX3_codeToSend 34 = .ok (.aload_n 0, 1) := by decide +kernel
theorem dX3_codeToSend_35 : decode cX3_codeToSend 35 = .ok (.iconst 1, 1) := by decide +kernel
theorem dX3_codeToSend_36 : decode cX3_codeToSend 36 = .ok (.aload_n 0, 1) := by decide +kernel
theorem dX3_codeToSend_37 : decode cX3_codeToSend 37 = .ok (.getfield 29, 3) := by decide +kernel
theorem dX3_codeToSend_40 : decode cX3_codeToSend 40 = .ok (.isub, 1) := by decide +kernel
theorem dX3_codeToSend_41 : decode cX3_codeToSend 41 = .ok (.putfield 29, 3) := by decide +kernel
theorem dX3_codeToSend_44 : decode cX3_codeToSend 44 = .ok (.iload_n 2, 1) := by decide +kernel
theorem dX3_codeToSend_45 : decode cX3_codeToSend 45 = .ok (.ireturn, 1) := by decide +kernel
set_option maxRecDepth 20000 in
theorem ggX3_compareAll_X8_lowBits : GoodIn wsX3_compareAll wsX8_lowBits := goodIn_r _ [9] rfl (by decide +kernel)
set_option maxRecDepth 20000 in
theorem gX3_compareAll_X8_lowBits_n60 : GoodIn wsX3_compareAll (wsX8_lowBits) := ggX3_compareAll_X8_lowBits
set_option maxRecDepth 20000 in
theorem ggX3_compareAll_X3_flipMask : GoodIn wsX3_compareAll wsX3_flipMask := goodIn_r _ [14, 15, 32, 33, 34, 35, 36, 37, 38, 39] rfl (by decide +kernel)
set_option maxRecDepth 20000 in
theorem gX3_compareAll_X3_flipMask : GoodIn wsX3_compareAll (wsV RX3 49 RX3 yX3_flipMask wsX3_flipMask) := goodIn_app (goodIn_of _ (by decide +kernel)) ggX3_compareAll_X3_flipMask
set_option maxRecDepth 20000 in
theorem ggX3_compareAll_X3_isCheck : GoodIn wsX3_compareAll wsX3_isCheck := goodIn_r _ [19, 2, 15, 32, 33, 34, 35, 36, 37, 38, 39] rfl (by decide +kernel)
set_option maxRecDepth 20000 in
theorem gX3_compareAll_X3_isCheck : GoodIn wsX3_compareAll (wsV RX3 69 RX3 yX3_isCheck wsX3_isCheck) := goodIn_app (goodIn_of _ (by decide +kernel)) ggX3_compareAll_X3_isCheck
set_option maxRecDepth 20000 in
theorem ggX3_compareAll_X3_commonConstant : GoodIn wsX3_compareAll wsX3_commonConstant := goodIn_r _ [23, 3, 24, 25, 26, 13, 27, 28, 29, 30, 31, 2, 7, 8, 9, 32, 33, 34, 35, 36, 37, 38, 39] rfl (by decide +kernel)
set_option maxRecDepth 20000 in
theorem gX3_compareAll_X3_commonConstant : GoodIn wsX3_compareAll (wsV RX3 72 RX3 yX3_commonConstant wsX3_commonConstant) := goodIn_app (goodIn_of _ (by decide +kernel)) ggX3_compareAll_X3_commonConstant
theorem dX3_compareAll_0 : decode cX3_compareAll 0 = .ok (.aload_n 0, 1) := by decide +kernel
theorem dX3_compareAll_1 : decode cX3_compareAll 1 = .ok (.iconst 0, 1) := by decide +kernel
theorem dX3_compareAll_2 : decode cX3_compareAll 2 = .ok (.putfield 57, 3) := by decide +kernel
theorem dX3_compareAll_5 : decode cX3_compareAll 5 = .ok (.aload_n 0, 1) := by decide +kernel
theorem dX3_compareAll_6 : decode cX3_compareAll 6 = .ok (.getfield 18, 3) := by decide +kernel
theorem dX3_compareAll_9 : decode cX3_compareAll 9 = .ok (.invokestatic 60, 3) := by decide +kernel
theorem dX3_compareAll_12 : decode cX3_compareAll 12 = .ok (.istore_n 1, 1) := by decide +kernel
theorem dX3_compareAll_13 : decode cX3_compareAll 13 = .ok (.iconst 0, 1) := by decide +kernel
theorem dX3_compareAll_14 : decode cX3_compareAll 14 = .ok (.istore_n 2, 1) := by decide +kernel
theorem dX3_compareAll_15 : decode cX3_compareAll 15 = .ok (.iconst 0, 1) := by decide +kernel
theorem dX3_compareAll_16 : decode cX3_compareAll 16 = .ok (.istore_n 3, 1) := by decide +kernel
theorem dX3_compareAll_17 : decode cX3_compareAll 17 = .ok (.iload_n 3, 1) := by decide +kernel
theorem dX3_compareAll_18 : decode cX3_compareAll 18 = .ok (.bipush 16, 2) := by decide +kernel
theorem dX3_compareAll_20 : decode cX3_compareAll 20 = .ok (.if_icmp .ge 47, 3) := by decide +kernel
theorem dX3_compareAll_23 : decode cX3_compareAll 23 = .ok (.aload_n 0, 1) := by decide +kernel
theorem dX3_compareAll_24 : decode cX3_compareAll 24 = .ok (.getfield 9, 3) := by decide +kernel
theorem dX3_compareAll_27 : decode cX3_compareAll 27 = .ok (.iload_n 3, 1) := by decide +kernel
theorem dX3_compareAll_28 : decode cX3_compareAll 28 = .ok (.iaload, 1) := by decide +kernel
theorem dX3_compareAll_29 : decode cX3_compareAll 29 = .ok (.iconst (-1), 1) := by decide +kernel
theorem dX3_compareAll_30 : decode cX3_compareAll 30 = .ok (.if_icmp .eq 31, 3) := by decide +kernel
theorem dX3_compareAll_33 : decode cX3_compareAll 33 = .ok (.aload_n 0, 1) := by decide +kernel
theorem dX3_compareAll_34 : decode cX3_compareAll 34 = .ok (.dup, 1) := by decide +kernel
theorem dX3_compareAll_35 : decode cX3_compareAll 35 = .ok (.getfield 57, 3) := by decide +kernel
theorem dX3_compareAll_38 : decode cX3_compareAll 38 = .ok (.iconst 1, 1) := by decide +kernel
theorem dX3_compareAll_39 : decode cX3_compareAll 39 = .ok (.iadd, 1) := by decide +kernel
theorem dX3_compareAll_40 : decode cX3_compareAll 40 = .ok (.putfield 57, 3) := by decide +kernel
theorem dX3_compareAll_43 : decode cX3_compareAll 43 = .ok (.iload_n 1, 1) := by decide +kernel
theorem dX3_compareAll_44 : decode cX3_compareAll 44 = .ok (.aload_n 0, 1) := by decide +kernel
theorem dX3_compareAll_45 : decode cX3_compareAll 45 = .ok (.getfield 9, 3) := by decide +kernel
theorem dX3_compareAll_48 : decode cX3_compareAll 48 = .ok (.iload_n 3, 1) := by decide +kernel
theorem dX3_compareAll_49 : decode cX3_compareAll 49 = .ok (.iaload, 1) := by decide +kernel
theorem dX3_compareAll_50 : decode cX3_compareAll 50 = .ok (.iand, 1) := by decide +kernel
theorem dX3_compareAll_51 : decode cX3_compareAll 51 = .ok (.istore_n 1, 1) := by decide +kernel
theorem dX3_compareAll_52 : decode cX3_compareAll 52 = .ok (.iload_n 2, 1) := by decide +kernel
theorem dX3_compareAll_53 : decode cX3_compareAll 53 = .ok (.aload_n 0, 1) := by decide +kernel
theorem dX3_compareAll_54 : decode cX3_compareAll 54 = .ok (.getfield 9, 3) := by decide +kernel
theorem dX3_compareAll_57 : decode cX3_compareAll 57 = .ok (.iload_n 3, 1) := by decide +kernel
theorem dX3_compareAll_58 : decode cX3_compareAll 58 = .ok (.iaload, 1) := by decide +kernel
theorem dX3_compareAll_59 : decode cX3_compareAll 59 = .ok (.ior, 1) := by decide +kernel
theorem dX3_compareAll_60 : decode cX3_compareAll 60 = .ok (.istore_n 2, 1) := by decide +kernel
theorem dX3_compareAll_61 : decode cX3_compareAll 61 = .ok (.iinc 3 1, 3) := by decide +kernel
theorem dX3_compareAll_64 : decode cX3_compareAll 64 = .ok (.goto (-47), 3) := by decide +kernel
theorem dX3_compareAll_67 : decode cX3_compareAll 67 = .ok (.aload_n 0, 1) := by decide +kernel
theorem dX3_compareAll_68 : decode cX3_compareAll 68 = .ok (.aload_n 0, 1) := by decide +kernel
theorem dX3_compareAll_69 : decode cX3_compareAll 69 = .ok (.getfield 57, 3) := by decide +kernel
theorem dX3_compareAll_72 : decode cX3_compareAll 72 = .ok (.ifCond .ne 7, 3) := by decide +kernel
theorem dX3_compareAll_75 : decode cX3_compareAll 75 = .ok (.iconst 0, 1) := by decide +kernel
theorem dX3_compareAll_76 : decode cX3_compareAll 76 = .ok (.goto 25, 3) := by decide +kernel
theorem dX3_compareAll_79 : decode cX3_compareAll 79 = .ok (.aload_n 0, 1) := by decide +kernel
theorem dX3_compareAll_80 : decode cX3_compareAll 80 = .ok (.getfield 18, 3) := by decide +kernel
theorem dX3_compareAll_83 : decode cX3_compareAll 83 = .ok (.invokestatic 60, 3) := by decide +kernel
theorem dX3_compareAll_86 : decode cX3_compareAll 86 = .ok (.iload_n 2, 1) := by decide +kernel
theorem dX3_compareAll_87 : decode cX3_compareAll 87 = .ok (.iload_n 1, 1) := by decide +kernel
theorem dX3_compareAll_88 : decode cX3_compareAll 88 = .ok (.iconst (-1), 1) := by decide +kernel
theorem dX3_compareAll_89 : decode cX3_compareAll 89 = .ok (.ixor, 1) := by decide +kernel
theorem dX3_compareAll_90 : decode cX3_compareAll 90 = .ok (.iand, 1) := by decide +kernel
theorem dX3_compareAll_91 : decode cX3_compareAll 91 = .ok (.iconst (-1), 1) := by decide +kernel
theorem dX3_compareAll_92 : decode cX3_compareAll 92 = .ok (.ixor, 1) := by decide +kernel
theorem dX3_compareAll_93 : decode cX3_compareAll 93 = .ok (.iand, 1) := by decide +kernel
theorem dX3_compareAll_94 : decode cX3_compareAll 94 = .ok (.aload_n 0, 1) := by decide +kernel
theorem dX3_compareAll_95 : decode cX3_compareAll 95 = .ok (.invokevirtual 49, 3) := by decide +kernel
theorem dX3_compareAll_98 : decode cX3_compareAll 98 = .ok (.iconst (-1), 1) := by decide +kernel
theorem dX3_compareAll_99 : decode cX3_compareAll 99 = .ok (.ixor, 1) := by decide +kernel
theorem dX3_compareAll_100 : decode cX3_compareAll 100 = .ok (.iand, 1) := by decide +kernel
theorem dX3_compareAll_101 : decode cX3_compareAll 101 = .ok (.putfield 63, 3) := by decide +kernel
theorem dX3_compareAll_104 : decode cX3_compareAll 104 = .ok (.aload_n 0, 1) := by decide +kernel
theorem dX3_compareAll_105 : decode cX3_compareAll 105 = .ok (.iload_n 1, 1) := by decide +kernel
theorem dX3_compareAll_106 : decode cX3_compareAll 106 = .ok (.aload_n 0, 1) := by decide +kernel
theorem dX3_compareAll_107 : decode cX3_compareAll 107 = .ok (.getfield 63, 3) := by decide +kernel
theorem dX3_compareAll_110 : decode cX3_compareAll 110 = .ok (.iand, 1) := by decide +kernel
theorem dX3_compareAll_111 : decode cX3_compareAll 111 = .ok (.putfield 66, 3) := by decide +kernel
theorem dX3_compareAll_114 : decode cX3_compareAll 114 = .ok (.iconst 1, 1) := by decide +kernel
theorem dX3_compareAll_115 : decode cX3_compareAll 115 = .ok (.istore_n 3, 1) := by decide +kernel
theorem dX3_compareAll_116 : decode cX3_compareAll 116 = .ok (.iload_n 3, 1) := by decide +kernel
theorem dX3_compareAll_117 : decode cX3_compareAll 117 = .ok (.iconst 3, 1) := by decide +kernel
theorem dX3_compareAll_118 : decode cX3_compareAll 118 = .ok (.if_icmp .gt 40, 3) := by decide +kernel
theorem dX3_compareAll_121 : decode cX3_compareAll 121 = .ok (.aload_n 0, 1) := by decide +kernel
theorem dX3_compareAll_122 : decode cX3_compareAll 122 = .ok (.getfield 15, 3) := by decide +kernel
theorem dX3_compareAll_125 : decode cX3_compareAll 125 = .ok (.iload_n 3, 1) := by decide +kernel
theorem dX3_compareAll_126 : decode cX3_compareAll 126 = .ok (.aload_n 0, 1) := by decide +kernel
theorem dX3_compareAll_127 : decode cX3_compareAll 127 = .ok (.iload_n 3, 1) := by decide +kernel
theorem dX3_compareAll_128 : decode cX3_compareAll 128 = .ok (.invokevirtual 69, 3) := by decide +kernel
theorem dX3_compareAll_131 : decode cX3_compareAll 131 = .ok (.ifCond .eq 19, 3) := by decide +kernel
theorem dX3_compareAll_134 : decode cX3_compareAll 134 = .ok (.aload_n 0, 1) := by decide +kernel
theorem dX3_compareAll_135 : decode cX3_compareAll 135 = .ok (.getfield 57, 3) := by decide +kernel
theorem dX3_compareAll_138 : decode cX3_compareAll 138 = .ok (.iconst 2, 1) := by decide +kernel
theorem dX3_compareAll_139 : decode cX3_compareAll 139 = .ok (.if_icmp .lt 11, 3) := by decide +kernel
theorem dX3_compareAll_142 : decode cX3_compareAll 142 = .ok (.aload_n 0, 1) := by decide +kernel
theorem dX3_compareAll_143 : decode cX3_compareAll 143 = .ok (.iload_n 3, 1) := by decide +kernel
theorem dX3_compareAll_144 : decode cX3_compareAll 144 = .ok (.invokevirtual 72, 3) := by decide +kernel
theorem dX3_compareAll_147 : decode cX3_compareAll 147 = .ok (.goto 4, 3) := by decide +kernel
theorem dX3_compareAll_150 : decode cX3_compareAll 150 = .ok (.iconst (-1), 1) := by decide +kernel
theorem dX3_compareAll_151 : decode cX3_compareAll 151 = .ok (.iastore, 1) := by decide +kernel
theorem dX3_compareAll_152 : decode cX3_compareAll 152 = .ok (.iinc 3 1, 3) := by decide +kernel
theorem dX3_compareAll_155 : decode cX3_compareAll 155 = .ok (.goto (-39), 3) := by decide +kernel
theorem dX3_compareAll_158 : decode cX3_compareAll 158 = .ok (.return_, 1) := by decide +kernel
theorem dX3_isCheck_0 : decode cX3_isCheck 0 = .ok (.aload_n 0, 1) := by decide +kernel
theorem dX3_isCheck_1 : decode cX3_isCheck 1 = .ok (.getfield 18, 3) := by decide +kernel
theorem dX3_isCheck_4 : decode cX3_isCheck 4 = .ok (.iconst 4, 1) := by decide +kernel
theorem dX3_isCheck_5 : decode cX3_isCheck 5 = .ok (.if_icmp .le 29, 3) := by decide +kernel
theorem dX3_isCheck_8 : decode cX3_isCheck 8 = .ok (.iload_n 1, 1) := by decide +kernel
theorem dX3_isCheck_9 : decode cX3_isCheck 9 = .ok (.iconst 3, 1) := by decide +kernel
theorem dX3_isCheck_10 : decode cX3_isCheck 10 = .ok (.if_icmp .ne 20, 3) := by decide +kernel
theorem dX3_isCheck_13 : decode cX3_isCheck 13 = .ok (.aload_n 0, 1) := by decide +kernel
theorem dX3_isCheck_14 : decode cX3_isCheck 14 = .ok (.getfield 18, 3) := by decide +kernel
theorem dX3_isCheck_17 : decode cX3_isCheck 17 = .ok (.iconst 2, 1) := by decide +kernel
theorem dX3_isCheck_18 : decode cX3_isCheck 18 = .ok (.irem, 1) := by decide +kernel
theorem dX3_isCheck_19 : decode cX3_isCheck 19 = .ok (.ifCond .ne 15, 3) := by decide +kernel
theorem dX3_isCheck_22 : decode cX3_isCheck 22 = .ok (.aload_n 0, 1) := by decide +kernel
theorem dX3_isCheck_23 : decode cX3_isCheck 23 = .ok (.getfield 26, 3) := by decide +kernel
theorem dX3_isCheck_26 : decode cX3_isCheck 26 = .ok (.iconst (-1), 1) := by decide +kernel
theorem dX3_isCheck_27 : decode cX3_isCheck 27 = .ok (.if_icmp .ne 7, 3) := by decide +kernel
theorem dX3_isCheck_30 : decode cX3_isCheck 30 = .ok (.iconst 1, 1) := by decide +kernel
theorem dX3_isCheck_31 : decode cX3_isCheck 31 = .ok (.goto 4, 3) := by decide +kernel
theorem dX3_isCheck_34 : decode cX3_isCheck 34 = .ok (.iconst 0, 1) := by decide +kernel
theorem dX3_isCheck_35 : decode cX3_isCheck 35 = .ok (.ireturn, 1) := by decide +kernel
set_option maxRecDepth 20000 in
theorem ggX3_commonConstant_X3_constantFor : GoodIn wsX3_commonConstant wsX3_constantFor := goodIn_r _ [6, 7, 8, 9, 5, 10, 11, 12, 13, 14, 15, 16, 17, 18, 19, 20, 21, 22] rfl (by decide +kernel)
set_option maxRecDepth 20000 in
theorem gX3_commonConstant_X3_constantFor : GoodIn wsX3_commonConstant (wsV RX3 75 RX3 yX3_constantFor wsX3_constantFor) := goodIn_app (goodIn_of _ (by decide +kernel)) ggX3_commonConstant_X3_constantFor
theorem dX3_commonConstant_0 : decode cX3_commonConstant 0 = .ok (.iconst (-1), 1) := by decide +kernel
theorem dX3_commonConstant_1 : decode cX3_commonConstant 1 = .ok (.istore_n 2, 1) := by decide +kernel
theorem dX3_commonConstant_2 : decode cX3_commonConstant 2 = .ok (.iconst 0, 1) := by decide +kernel
theorem dX3_commonConstant_3 : decode cX3_commonConstant 3 = .ok (.istore_n 3, 1) := by decide +kernel
theorem dX3_commonConstant_4 : decode cX3_commonConstant 4 = .ok (.iconst 0, 1) := by decide +kernel
theorem dX3_commonConstant_5 : decode cX3_commonConstant 5 = .ok (.istore 4, 2) := by decide +kernel
theorem dX3_commonConstant_7 : decode cX3_commonConstant 7 = .ok (.iload 4, 2) := by decide +kernel
theorem dX3_commonConstant_9 : decode cX3_commonConstant 9 = .ok (.bipush 16, 2) := by decide +kernel
theorem dX3_commonConstant_11 : decode cX3_commonConstant 11 = .ok (.if_icmp .ge 51, 3) := by decide +kernel
theorem dX3_commonConstant_14 : decode cX3_commonConstant 14 = .ok (.aload_n 0, 1) := by decide +kernel
theorem dX3_commonConstant_15 : decode cX3_commonConstant 15 = .ok (.getfield 9, 3) := by decide +kernel
theorem dX3_commonConstant_18 : decode cX3_commonConstant 18 = .ok (.iload 4, 2) := by decide +kernel
theorem dX3_commonConstant_20 : decode cX3_commonConstant 20 = .ok (.iaload, 1) := by decide +kernel
theorem dX3_commonConstant_21 : decode cX3_commonConstant 21 = .ok (.iconst (-1), 1) := by decide +kernel
theorem dX3_commonConstant_22 : decode cX3_commonConstant 22 = .ok (.if_icmp .eq 34, 3) := by decide +kernel
theorem dX3_commonConstant_25 : decode cX3_commonConstant 25 = .ok (.aload_n 0, 1) := by decide +kernel
theorem dX3_commonConstant_26 : decode cX3_commonConstant 26 = .ok (.iload_n 1, 1) := by decide +kernel
theorem dX3_commonConstant_27 : decode cX3_commonConstant 27 = .ok (.aload_n 0, 1) := by decide +kernel
theorem dX3_commonConstant_28 : decode cX3_commonConstant 28 = .ok (.getfield 9, 3) := by decide +kernel
theorem dX3_commonConstant_31 : decode cX3_commonConstant 31 = .ok (.iload 4, 2) := by decide +kernel
theorem dX3_commonConstant_33 : decode cX3_commonConstant 33 = .ok (.iaload, 1) := by decide +kernel
theorem dX3_commonConstant_34 : decode cX3_commonConstant 34 = .ok (.invokevirtual 75, 3) := by decide +kernel
theorem dX3_commonConstant_37 : decode cX3_commonConstant 37 = .ok (.istore 5, 2) := by decide +kernel
theorem dX3_commonConstant_39 : decode cX3_commonConstant 39 = .ok (.iload_n 3, 1) := by decide +kernel
theorem dX3_commonConstant_40 : decode cX3_commonConstant 40 = .ok (.ifCond .eq 11, 3) := by decide +kernel
theorem dX3_commonConstant_43 : decode cX3_commonConstant 43 = .ok (.iload 5, 2) := by decide +kernel
theorem dX3_commonConstant_45 : decode cX3_commonConstant 45 = .ok (.iload_n 2, 1) := by decide +kernel
theorem dX3_commonConstant_46 : decode cX3_commonConstant 46 = .ok (.if_icmp .eq 5, 3) := by decide +kernel
theorem dX3_commonConstant_49 : decode cX3_commonConstant 49 = .ok (.iconst (-1), 1) := by decide +kernel
theorem dX3_commonConstant_50 : decode cX3_commonConstant 50 = .ok (.ireturn, 1) := by decide +kernel
theorem dX3_commonConstant_51 : decode cX3_commonConstant 51 = .ok (.iload 5, 2) := by decide +kernel
theorem dX3_commonConstant_53 : decode cX3_commonConstant 53 = .ok (.istore_n 2, 1) := by decide +kernel
theorem dX3_commonConstant_54 : decode cX3_commonConstant 54 = .ok (.iconst 1, 1) := by decide +kernel
theorem dX3_commonConstant_55 : decode cX3_commonConstant 55 = .ok (.istore_n 3, 1) := by decide +kernel
theorem dX3_commonConstant_56 : decode cX3_commonConstant 56 = .ok (.iinc 4 1, 3) := by decide +kernel
theorem dX3_commonConstant_59 : decode cX3_commonConstant 59 = .ok (.goto (-52), 3) := by decide +kernel
theorem dX3_commonConstant_62 : decode cX3_commonConstant 62 = .ok (.iload_n 2, 1) := by decide +kernel
theorem dX3_commonConstant_63 : decode cX3_commonConstant 63 = .ok (.ireturn, 1) := by decide +kernel
set_option maxRecDepth 20000 in
theorem ggX3_constantFor_X3_isContrary : GoodIn wsX3_constantFor wsX3_isContrary := goodIn_r _ [5, 6, 7, 8, 9, 10, 11, 12, 13, 14, 15, 16, 17] rfl (by decide +kernel)
set_option maxRecDepth 20000 in
theorem gX3_constantFor_X3_isContrary : GoodIn wsX3_constantFor (wsV RX3 79 RX3 yX3_isContrary wsX3_isContrary) := goodIn_app (goodIn_of _ (by decide +kernel)) ggX3_constantFor_X3_isContrary
theorem dX3_constantFor_0 : decode cX3_constantFor 0 = .ok (.iload_n 1, 1) := by decide +kernel
theorem dX3_constantFor_1 : decode cX3_constantFor 1 = .ok (.lookupswitch 85 #[(1, 27), (2, 56)], 27) := by decide +kernel
theorem dX3_constantFor_28 : decode cX3_constantFor 28 = .ok (.iload_n 2, 1) := by decide +kernel
theorem dX3_constantFor_29 : decode cX3_constantFor 29 = .ok (.iload_n 2, 1) := by decide +kernel
theorem dX3_constantFor_30 : decode cX3_constantFor 30 = .ok (.iconst 4, 1) := by decide +kernel
theorem dX3_constantFor_31 : decode cX3_constantFor 31 = .ok (.ishr, 1) := by decide +kernel
theorem dX3_constantFor_32 : decode cX3_constantFor 32 = .ok (.isub, 1) := by decide +kernel
theorem dX3_constantFor_33 : decode cX3_constantFor 33 = .ok (.iload_n 2, 1) := by decide +kernel
theorem dX3_constantFor_34 : decode cX3_constantFor 34 = .ok (.bipush 8, 2) := by decide +kernel
theorem dX3_constantFor_36 : decode cX3_constantFor 36 = .ok (.ishr, 1) := by decide +kernel
theorem dX3_constantFor_37 : decode cX3_constantFor 37 = .ok (.isub, 1) := by decide +kernel
theorem dX3_constantFor_38 : decode cX3_constantFor 38 = .ok (.iload_n 2, 1) := by decide +kernel
theorem dX3_constantFor_39 : decode cX3_constantFor 39 = .ok (.bipush 12, 2) := by decide +kernel
theorem dX3_constantFor_41 : decode cX3_constantFor 41 = .ok (.ishr, 1) := by decide +kernel
theorem dX3_constantFor_42 : decode cX3_constantFor 42 = .ok (.isub, 1) := by decide +kernel
theorem dX3_constantFor_43 : decode cX3_constantFor 43 = .ok (.iload_n 2, 1) := by decide +kernel
theorem dX3_constantFor_44 : decode cX3_constantFor 44 = .ok (.bipush 16, 2) := by decide +kernel
theorem dX3_constantFor_46 : decode cX3_constantFor 46 = .ok (.ishr, 1) := by decide +kernel
theorem dX3_constantFor_47 : decode cX3_constantFor 47 = .ok (.isub, 1) := by decide +kernel
theorem dX3_constantFor_48 : decode cX3_constantFor 48 = .ok (.iload_n 2, 1) := by decide +kernel
theorem dX3_constantFor_49 : decode cX3_constantFor 49 = .ok (.bipush 20, 2) := by decide +kernel
theorem dX3_constantFor_51 : decode cX3_constantFor 51 = .ok (.ishr, 1) := by decide +kernel
theorem dX3_constantFor_52 : decode cX3_constantFor 52 = .ok (.isub, 1) := by decide +kernel
theorem dX3_constantFor_53 : decode cX3_constantFor 53 = .ok (.bipush 15, 2) := by decide +kernel
theorem dX3_constantFor_55 : decode cX3_constantFor 55 = .ok (.iand, 1) := by decide +kernel
theorem dX3_constantFor_56 : decode cX3_constantFor 56 = .ok (.ireturn, 1) := by decide +kernel
theorem dX3_constantFor_57 : decode cX3_constantFor 57 = .ok (.iload_n 2, 1) := by decide +kernel
theorem dX3_constantFor_58 : decode cX3_constantFor 58 = .ok (.iload_n 2, 1) := by decide +kernel
theorem dX3_constantFor_59 : decode cX3_constantFor 59 = .ok (.iconst 4, 1) := by decide +kernel
theorem dX3_constantFor_60 : decode cX3_constantFor 60 = .ok (.ishr, 1) := by decide +kernel
theorem dX3_constantFor_61 : decode cX3_constantFor 61 = .ok (.ixor, 1) := by decide +kernel
theorem dX3_constantFor_62 : decode cX3_constantFor 62 = .ok (.iload_n 2, 1) := by decide +kernel
theorem dX3_constantFor_63 : decode cX3_constantFor 63 = .ok (.bipush 8, 2) := by decide +kernel
theorem dX3_constantFor_65 : decode cX3_constantFor 65 = .ok (.ishr, 1) := by decide +kernel
theorem dX3_constantFor_66 : decode cX3_constantFor 66 = .ok (.ixor, 1) := by decide +kernel
theorem dX3_constantFor_67 : decode cX3_constantFor 67 = .ok (.iload_n 2, 1) := by decide +kernel
theorem dX3_constantFor_68 : decode cX3_constantFor 68 = .ok (.bipush 12, 2) := by decide +kernel
theorem dX3_constantFor_70 : decode cX3_constantFor 70 = .ok (.ishr, 1) := by decide +kernel
theorem dX3_constantFor_71 : decode cX3_constantFor 71 = .ok (.ixor, 1) := by decide +kernel
theorem dX3_constantFor_72 : decode cX3_constantFor 72 = .ok (.iload_n 2, 1) := by decide +kernel
theorem dX3_constantFor_73 : decode cX3_constantFor 73 = .ok (.bipush 16, 2) := by decide +kernel
theorem dX3_constantFor_75 : decode cX3_constantFor 75 = .ok (.ishr, 1) := by decide +kernel
theorem dX3_constantFor_76 : decode cX3_constantFor 76 = .ok (.ixor, 1) := by decide +kernel
theorem dX3_constantFor_77 : decode cX3_constantFor 77 = .ok (.iload_n 2, 1) := by decide +kernel
theorem dX3_constantFor_78 : decode cX3_constantFor 78 = .ok (.bipush 20, 2) := by decide +kernel
theorem dX3_constantFor_80 : decode cX3_constantFor 80 = .ok (.ishr, 1) := by decide +kernel
theorem dX3_constantFor_81 : decode cX3_constantFor 81 = .ok (.ixor, 1) := by decide +kernel
theorem dX3_constantFor_82 : decode cX3_constantFor 82 = .ok (.bipush 15, 2) := by decide +kernel
theorem dX3_constantFor_84 : decode cX3_constantFor 84 = .ok (.iand, 1) := by decide +kernel
theorem dX3_constantFor_85 : decode cX3_constantFor 85 = .ok (.ireturn, 1) := by decide +kernel
theorem dX3_constantFor_86 : decode cX3_constantFor 86 = .ok (.aload_n 0, 1) := by decide +kernel
theorem dX3_constantFor_87 : decode cX3_constantFor 87 = .ok (.iload_n 2, 1) := by decide +kernel
theorem dX3_constantFor_88 : decode cX3_constantFor 88 = .ok (.invokevirtual 79, 3) := by decide +kernel
theorem dX3_constantFor_91 : decode cX3_constantFor 91 = .ok (.ifCond .eq 7, 3) := by decide +kernel
theorem dX3_constantFor_94 : decode cX3_constantFor 94 = .ok (.iconst 0, 1) := by decide +kernel
theorem dX3_constantFor_95 : decode cX3_constantFor 95 = .ok (.goto 4, 3) := by decide +kernel
theorem dX3_constantFor_98 : decode cX3_constantFor 98 = .ok (.iconst (-1), 1) := by decide +kernel
theorem dX3_constantFor_99 : decode cX3_constantFor 99 = .ok (.ireturn, 1) := by decide +kernel
set_option maxRecDepth 20000 in
theorem ggX3_isContrary_X8_lowBits : GoodIn wsX3_isContrary wsX8_lowBits := goodIn_r _ [4] rfl (by decide +kernel)
set_option maxRecDepth 20000 in
theorem gX3_isContrary_X8_lowBits_n60 : GoodIn wsX3_isContrary (wsX8_lowBits) := ggX3_isContrary_X8_lowBits
theorem dX3_isContrary_0 : decode cX3_isContrary 0 = .ok (.aload_n 0, 1) := by decide +kernel
theorem dX3_isContrary_1 : decode cX3_isContrary 1 = .ok (.getfield 18, 3) := by decide +kernel
theorem dX3_isContrary_4 : decode cX3_isContrary 4 = .ok (.iconst 2, 1) := by decide +kernel
theorem dX3_isContrary_5 : decode cX3_isContrary 5 = .ok (.idiv, 1) := by decide +kernel
theorem dX3_isContrary_6 : decode cX3_isContrary 6 = .ok (.invokestatic 60, 3) := by decide +kernel
theorem dX3_isContrary_9 : decode cX3_isContrary 9 = .ok (.istore_n 2, 1) := by decide +kernel
theorem dX3_isContrary_10 : decode cX3_isContrary 10 = .ok (.iload_n 1, 1) := by decide +kernel
theorem dX3_isContrary_11 : decode cX3_isContrary 11 = .ok (.iload_n 1, 1) := by decide +kernel
theorem dX3_isContrary_12 : decode cX3_isContrary 12 = .ok (.aload_n 0, 1) := by decide +kernel
theorem dX3_isContrary_13 : decode cX3_isContrary 13 = .ok (.getfield 18, 3) := by decide +kernel
theorem dX3_isContrary_16 : decode cX3_isContrary 16 = .ok (.iconst 2, 1) := by decide +kernel
theorem dX3_isContrary_17 : decode cX3_isContrary 17 = .ok (.idiv, 1) := by decide +kernel
theorem dX3_isContrary_18 : decode cX3_isContrary 18 = .ok (.ishr, 1) := by decide +kernel
theorem dX3_isContrary_19 : decode cX3_isContrary 19 = .ok (.ixor, 1) := by decide +kernel
theorem dX3_isContrary_20 : decode cX3_isContrary 20 = .ok (.iload_n 2, 1) := by decide +kernel
theorem dX3_isContrary_21 : decode cX3_isContrary 21 = .ok (.iand, 1) := by decide +kernel
theorem dX3_isContrary_22 : decode cX3_isContrary 22 = .ok (.iload_n 2, 1) := by decide +kernel
theorem dX3_isContrary_23 : decode cX3_isContrary 23 = .ok (.if_icmp .ne 7, 3) := by decide +kernel
theorem dX3_isContrary_26 : decode cX3_isContrary 26 = .ok (.iconst 1, 1) := by decide +kernel
theorem dX3_isContrary_27 : decode cX3_isContrary 27 = .ok (.goto 4, 3) := by decide +kernel
theorem dX3_isContrary_30 : decode cX3_isContrary 30 = .ok (.iconst 0, 1) := by decide +kernel
theorem dX3_isContrary_31 : decode cX3_isContrary 31 = .ok (.ireturn, 1) := by decide +kernel
set_option maxRecDepth 20000 in
theorem ggX3_constantThatHolds_X8_within : GoodIn wsX3_constantThatHolds wsX8_within := goodIn_r _ [4] rfl (by decide +kernel)
set_option maxRecDepth 20000 in
theorem gX3_constantThatHolds_X8_within_n41 : GoodIn wsX3_constantThatHolds (wsX8_within) := ggX3_constantThatHolds_X8_within
theorem dX3_constantThatHolds_0 : decode cX3_constantThatHolds 0 = .ok (.iload_n 1, 1) := by decide +kernel
theorem dX3_constantThatHolds_1 : decode cX3_constantThatHolds 1 = .ok (.iconst 1, 1) := by decide +kernel
theorem dX3_constantThatHolds_2 : decode cX3_constantThatHolds 2 = .ok (.iconst 3, 1) := by decide +kernel
theorem dX3_constantThatHolds_3 : decode cX3_constantThatHolds 3 = .ok (.invokestatic 41, 3) := by decide +kernel
theorem dX3_constantThatHolds_6 : decode cX3_constantThatHolds 6 = .ok (.ifCond .eq 12, 3) := by decide +kernel
theorem dX3_constantThatHolds_9 : decode cX3_constantThatHolds 9 = .ok (.aload_n 0, 1) := by decide +kernel
theorem dX3_constantThatHolds_10 : decode cX3_constantThatHolds 10 = .ok (.getfield 15, 3) := by decide +kernel
theorem dX3_constantThatHolds_13 : decode cX3_constantThatHolds 13 = .ok (.iload_n 1, 1) := by decide +kernel
theorem dX3_constantThatHolds_14 : decode cX3_constantThatHolds 14 = .ok (.iaload, 1) := by decide +kernel
theorem dX3_constantThatHolds_15 : decode cX3_constantThatHolds 15 = .ok (.goto 4, 3) := by decide +kernel
theorem dX3_constantThatHolds_18 : decode cX3_constantThatHolds 18 = .ok (.iconst (-1), 1) := by decide +kernel
theorem dX3_constantThatHolds_19 : decode cX3_constantThatHolds 19 = .ok (.ireturn, 1) := by decide +kernel
set_option maxRecDepth 20000 in
theorem ggX3_free_X8_lowBits : GoodIn wsX3_free wsX8_lowBits := goodIn_r _ [5] rfl (by decide +kernel)
set_option maxRecDepth 20000 in
theorem gX3_free_X8_lowBits_n60 : GoodIn wsX3_free (wsX8_lowBits) := ggX3_free_X8_lowBits
set_option maxRecDepth 20000 in
theorem ggX3_free_X3_flipMask : GoodIn wsX3_free wsX3_flipMask := goodIn_r _ [10, 11, 12, 13, 14, 15, 16, 17, 18, 19] rfl (by decide +kernel)
set_option maxRecDepth 20000 in
theorem gX3_free_X3_flipMask : GoodIn wsX3_free (wsV RX3 49 RX3 yX3_flipMask wsX3_flipMask) := goodIn_app (goodIn_of _ (by decide +kernel)) ggX3_free_X3_flipMask
theorem dX3_free_0 : decode cX3_free 0 = .ok (.aload_n 0, 1) := by decide +kernel
theorem dX3_free_1 : decode cX3_free 1 = .ok (.getfield 18, 3) := by decide +kernel
theorem dX3_free_4 : decode cX3_free 4 = .ok (.invokestatic 60, 3) := by decide +kernel
theorem dX3_free_7 : decode cX3_free 7 = .ok (.aload_n 0, 1) := by decide +kernel
theorem dX3_free_8 : decode cX3_free 8 = .ok (.getfield 63, 3) := by decide +kernel
theorem dX3_free_11 : decode cX3_free 11 = .ok (.iconst (-1), 1) := by decide +kernel
theorem dX3_free_12 : decode cX3_free 12 = .ok (.ixor, 1) := by decide +kernel
theorem dX3_free_13 : decode cX3_free 13 = .ok (.iand, 1) := by decide +kernel
theorem dX3_free_14 : decode cX3_free 14 = .ok (.aload_n 0, 1) := by decide +kernel
theorem dX3_free_15 : decode cX3_free 15 = .ok (.invokevirtual 49, 3) := by decide +kernel
theorem dX3_free_18 : decode cX3_free 18 = .ok (.iconst (-1), 1) := by decide +kernel
theorem dX3_free_19 : decode cX3_free 19 = .ok (.ixor, 1) := by decide +kernel
theorem dX3_free_20 : decode cX3_free 20 = .ok (.iand, 1) := by decide +kernel
theorem dX3_free_21 : decode cX3_free 21 = .ok (.ireturn, 1) := by decide +kernel
set_option maxRecDepth 20000 in
theorem ggX3_canForesee_X3_free : GoodIn wsX3_canForesee wsX3_free := goodIn_r _ [6, 7, 8, 9, 10, 11, 12, 13, 14, 5, 15, 16, 24, 25, 26, 27, 28, 29, 30, 31] rfl (by decide +kernel)
set_option maxRecDepth 20000 in
theorem gX3_canForesee_X3_free : GoodIn wsX3_canForesee (wsV RX3 82 RX3 yX3_free wsX3_free) := goodIn_app (goodIn_of _ (by decide +kernel)) ggX3_canForesee_X3_free
set_option maxRecDepth 20000 in
theorem ggX3_canForesee_J6_bitCount_0f7a4 : GoodIn wsX3_canForesee wsJ6_bitCount_0f7a4 := goodIn_r _ [20, 21, 22, 23] rfl (by decide +kernel)
set_option maxRecDepth 20000 in
theorem gX3_canForesee_J6_bitCount_0f7a4 : GoodIn wsX3_canForesee (va_wsS RX3 85 yJ6_bitCount_0f7a4 wsJ6_bitCount_0f7a4) := goodIn_app (goodIn_of _ (by decide +kernel)) ggX3_canForesee_J6_bitCount_0f7a4
theorem dX3_canForesee_0 : decode cX3_canForesee 0 = .ok (.aload_n 0, 1) := by decide +kernel
theorem dX3_canForesee_1 : decode cX3_canForesee 1 = .ok (.getfield 57, 3) := by decide +kernel
theorem dX3_canForesee_4 : decode cX3_canForesee 4 = .ok (.ifCond .le 19, 3) := by decide +kernel
theorem dX3_canForesee_7 : decode cX3_canForesee 7 = .ok (.aload_n 0, 1) := by decide +kernel
theorem dX3_canForesee_8 : decode cX3_canForesee 8 = .ok (.invokevirtual 82, 3) := by decide +kernel
theorem dX3_canForesee_11 : decode cX3_canForesee 11 = .ok (.invokestatic 85, 3) := by decide +kernel
theorem dX3_canForesee_14 : decode cX3_canForesee 14 = .ok (.bipush 14, 2) := by decide +kernel
theorem dX3_canForesee_16 : decode cX3_canForesee 16 = .ok (.if_icmp .gt 7, 3) := by decide +kernel
theorem dX3_canForesee_19 : decode cX3_canForesee 19 = .ok (.iconst 1, 1) := by decide +kernel
theorem dX3_canForesee_20 : decode cX3_canForesee 20 = .ok (.goto 4, 3) := by decide +kernel
theorem dX3_canForesee_23 : decode cX3_canForesee 23 = .ok (.iconst 0, 1) := by decide +kernel
theorem dX3_canForesee_24 : decode cX3_canForesee 24 = .ok (.ireturn, 1) := by decide +kernel
set_option maxRecDepth 20000 in
theorem ggX3_checksHoldFor_X3_constantFor : GoodIn wsX3_checksHoldFor wsX3_constantFor := goodIn_r _ [6, 7, 8, 9, 5, 10, 11, 12, 13, 14, 15, 16, 17, 18, 19, 20, 21, 22] rfl (by decide +kernel)
set_option maxRecDepth 20000 in
theorem gX3_checksHoldFor_X3_constantFor : GoodIn wsX3_checksHoldFor (wsV RX3 75 RX3 yX3_constantFor wsX3_constantFor) := goodIn_app (goodIn_of _ (by decide +kernel)) ggX3_checksHoldFor_X3_constantFor
theorem dX3_checksHoldFor_0 : decode cX3_checksHoldFor 0 = .ok (.iconst 1, 1) := by decide +kernel
theorem dX3_checksHoldFor_1 : decode cX3_checksHoldFor 1 = .ok (.istore_n 2, 1) := by decide +kernel
theorem dX3_checksHoldFor_2 : decode cX3_checksHoldFor 2 = .ok (.iload_n 2, 1) := by decide +kernel
theorem dX3_checksHoldFor_3 : decode cX3_checksHoldFor 3 = .ok (.iconst 3, 1) := by decide +kernel
theorem dX3_checksHoldFor_4 : decode cX3_checksHoldFor 4 = .ok (.if_icmp .gt 36, 3) := by decide +kernel
theorem dX3_checksHoldFor_7 : decode cX3_checksHoldFor 7 = .ok (.aload_n 0, 1) := by decide +kernel
theorem dX3_checksHoldFor_8 : decode cX3_checksHoldFor 8 = .ok (.getfield 15, 3) := by decide +kernel
theorem dX3_checksHoldFor_11 : decode cX3_checksHoldFor 11 = .ok (.iload_n 2, 1) := by decide +kernel
theorem dX3_checksHoldFor_12 : decode cX3_checksHoldFor 12 = .ok (.iaload, 1) := by decide +kernel
theorem dX3_checksHoldFor_13 : decode cX3_checksHoldFor 13 = .ok (.iconst (-1), 1) := by decide +kernel
theorem dX3_checksHoldFor_14 : decode cX3_checksHoldFor 14 = .ok (.if_icmp .eq 20, 3) := by decide +kernel
theorem dX3_checksHoldFor_17 : decode cX3_checksHoldFor 17 = .ok (.aload_n 0, 1) := by decide +kernel
theorem dX3_checksHoldFor_18 : decode cX3_checksHoldFor 18 = .ok (.iload_n 2, 1) := by decide +kernel
theorem dX3_checksHoldFor_19 : decode cX3_checksHoldFor 19 = .ok (.iload_n 1, 1) := by decide +kernel
theorem dX3_checksHoldFor_20 : decode cX3_checksHoldFor 20 = .ok (.invokevirtual 75, 3) := by decide +kernel
theorem dX3_checksHoldFor_23 : decode cX3_checksHoldFor 23 = .ok (.aload_n 0, 1) := by decide +kernel
theorem dX3_checksHoldFor_24 : decode cX3_checksHoldFor 24 = .ok (.getfield 15, 3) := by decide +kernel
theorem dX3_checksHoldFor_27 : decode cX3_checksHoldFor 27 = .ok (.iload_n 2, 1) := by decide +kernel
theorem dX3_checksHoldFor_28 : decode cX3_checksHoldFor 28 = .ok (.iaload, 1) := by decide +kernel
theorem dX3_checksHoldFor_29 : decode cX3_checksHoldFor 29 = .ok (.if_icmp .eq 5, 3) := by decide +kernel
theorem dX3_checksHoldFor_32 : decode cX3_checksHoldFor 32 = .ok (.iconst 0, 1) := by decide +kernel
theorem dX3_checksHoldFor_33 : decode cX3_checksHoldFor 33 = .ok (.ireturn, 1) := by decide +kernel
theorem dX3_checksHoldFor_34 : decode cX3_checksHoldFor 34 = .ok (.iinc 2 1, 3) := by decide +kernel
theorem dX3_checksHoldFor_37 : decode cX3_checksHoldFor 37 = .ok (.goto (-35), 3) := by decide +kernel
theorem dX3_checksHoldFor_40 : decode cX3_checksHoldFor 40 = .ok (.iconst 1, 1) := by decide +kernel
theorem dX3_checksHoldFor_41 : decode cX3_checksHoldFor 41 = .ok (.ireturn, 1) := by decide +kernel
set_option maxRecDepth 20000 in
theorem ggX3_foresees_X3_free : GoodIn wsX3_foresees wsX3_free := goodIn_r _ [6, 7, 8, 9, 10, 11, 12, 13, 14, 5, 15, 16, 30, 31, 32, 33, 34, 35, 36, 37] rfl (by decide +kernel)
set_option maxRecDepth 20000 in
theorem gX3_foresees_X3_free : GoodIn wsX3_foresees (wsV RX3 82 RX3 yX3_free wsX3_free) := goodIn_app (goodIn_of _ (by decide +kernel)) ggX3_foresees_X3_free
set_option maxRecDepth 20000 in
theorem ggX3_foresees_X3_checksHoldFor : GoodIn wsX3_foresees wsX3_checksHoldFor := goodIn_r _ [20, 21, 22, 23, 24, 5, 25, 26, 27, 28, 29, 7, 9, 10, 11, 30, 31, 32, 33, 34, 35, 36, 37] rfl (by decide +kernel)
set_option maxRecDepth 20000 in
theorem gX3_foresees_X3_checksHoldFor : GoodIn wsX3_foresees (wsV RX3 90 RX3 yX3_checksHoldFor wsX3_checksHoldFor) := goodIn_app (goodIn_of _ (by decide +kernel)) ggX3_foresees_X3_checksHoldFor
theorem dX3_foresees_0 : decode cX3_foresees 0 = .ok (.iload_n 1, 1) := by decide +kernel
theorem dX3_foresees_1 : decode cX3_foresees 1 = .ok (.aload_n 0, 1) := by decide +kernel
theorem dX3_foresees_2 : decode cX3_foresees 2 = .ok (.invokevirtual 82, 3) := by decide +kernel
theorem dX3_foresees_5 : decode cX3_foresees 5 = .ok (.iconst (-1), 1) := by decide +kernel
theorem dX3_foresees_6 : decode cX3_foresees 6 = .ok (.ixor, 1) := by decide +kernel
theorem dX3_foresees_7 : decode cX3_foresees 7 = .ok (.iand, 1) := by decide +kernel
theorem dX3_foresees_8 : decode cX3_foresees 8 = .ok (.aload_n 0, 1) := by decide +kernel
theorem dX3_foresees_9 : decode cX3_foresees 9 = .ok (.getfield 66, 3) := by decide +kernel
theorem dX3_foresees_12 : decode cX3_foresees 12 = .ok (.if_icmp .ne 15, 3) := by decide +kernel
theorem dX3_foresees_15 : decode cX3_foresees 15 = .ok (.aload_n 0, 1) := by decide +kernel
theorem dX3_foresees_16 : decode cX3_foresees 16 = .ok (.iload_n 1, 1) := by decide +kernel
theorem dX3_foresees_17 : decode cX3_foresees 17 = .ok (.invokevirtual 90, 3) := by decide +kernel
theorem dX3_foresees_20 : decode cX3_foresees 20 = .ok (.ifCond .eq 7, 3) := by decide +kernel
theorem dX3_foresees_23 : decode cX3_foresees 23 = .ok (.iconst 1, 1) := by decide +kernel
theorem dX3_foresees_24 : decode cX3_foresees 24 = .ok (.goto 4, 3) := by decide +kernel
theorem dX3_foresees_27 : decode cX3_foresees 27 = .ok (.iconst 0, 1) := by decide +kernel
theorem dX3_foresees_28 : decode cX3_foresees 28 = .ok (.ireturn, 1) := by decide +kernel
set_option maxRecDepth 20000 in
theorem ggX3_foreseenAbove_X3_free : GoodIn wsX3_foreseenAbove wsX3_free := goodIn_r _ [6, 7, 8, 9, 10, 11, 12, 13, 14, 5, 15, 16, 37, 38, 39, 40, 41, 42, 43, 44] rfl (by decide +kernel)
set_option maxRecDepth 20000 in
theorem gX3_foreseenAbove_X3_free : GoodIn wsX3_foreseenAbove (wsV RX3 82 RX3 yX3_free wsX3_free) := goodIn_app (goodIn_of _ (by decide +kernel)) ggX3_foreseenAbove_X3_free
set_option maxRecDepth 20000 in
theorem ggX3_foreseenAbove_J6_bitCount_0f7a4 : GoodIn wsX3_foreseenAbove wsJ6_bitCount_0f7a4 := goodIn_r _ [20, 21, 22, 23] rfl (by decide +kernel)
set_option maxRecDepth 20000 in
theorem gX3_foreseenAbove_J6_bitCount_0f7a4 : GoodIn wsX3_foreseenAbove (va_wsS RX3 85 yJ6_bitCount_0f7a4 wsJ6_bitCount_0f7a4) := goodIn_app (goodIn_of _ (by decide +kernel)) ggX3_foreseenAbove_J6_bitCount_0f7a4
set_option maxRecDepth 20000 in
theorem ggX3_foreseenAbove_X3_checksHoldFor : GoodIn wsX3_foreseenAbove wsX3_checksHoldFor := goodIn_r _ [27, 28, 29, 30, 31, 5, 32, 33, 34, 35, 36, 7, 9, 10, 11, 37, 38, 39, 40, 41, 42, 43, 44] rfl (by decide +kernel)
set_option maxRecDepth 20000 in
theorem gX3_foreseenAbove_X3_checksHoldFor : GoodIn wsX3_foreseenAbove (wsV RX3 90 RX3 yX3_checksHoldFor wsX3_checksHoldFor) := goodIn_app (goodIn_of _ (by decide +kernel)) ggX3_foreseenAbove_X3_checksHoldFor
theorem dX3_foreseenAbove_0 : decode cX3_foreseenAbove 0 = .ok (.aload_n 0, 1) := by decide +kernel
theorem dX3_foreseenAbove_1 : decode cX3_foreseenAbove 1 = .ok (.invokevirtual 82, 3) := by decide +kernel
theorem dX3_foreseenAbove_4 : decode cX3_foreseenAbove 4 = .ok (.istore_n 2, 1) := by decide +kernel
theorem dX3_foreseenAbove_5 : decode cX3_foreseenAbove 5 = .ok (.iconst 1, 1) := by decide +kernel
theorem dX3_foreseenAbove_6 : decode cX3_foreseenAbove 6 = .ok (.iload_n 2, 1) := by decide +kernel
theorem dX3_foreseenAbove_7 : decode cX3_foreseenAbove 7 = .ok (.invokestatic 85, 3) := by decide +kernel
theorem dX3_foreseenAbove_10 : decode cX3_foreseenAbove 10 = .ok (.ishl, 1) := by decide +kernel
theorem dX3_foreseenAbove_11 : decode cX3_foreseenAbove 11 = .ok (.istore_n 3, 1) := by decide +kernel
theorem dX3_foreseenAbove_12 : decode cX3_foreseenAbove 12 = .ok (.iload_n 1, 1) := by decide +kernel
theorem dX3_foreseenAbove_13 : decode cX3_foreseenAbove 13 = .ok (.iload_n 2, 1) := by decide +kernel
theorem dX3_foreseenAbove_14 : decode cX3_foreseenAbove 14 = .ok (.iand, 1) := by decide +kernel
theorem dX3_foreseenAbove_15 : decode cX3_foreseenAbove 15 = .ok (.istore 4, 2) := by decide +kernel
theorem dX3_foreseenAbove_17 : decode cX3_foreseenAbove 17 = .ok (.iconst 0, 1) := by decide +kernel
theorem dX3_foreseenAbove_18 : decode cX3_foreseenAbove 18 = .ok (.istore 5, 2) := by decide +kernel
theorem dX3_foreseenAbove_20 : decode cX3_foreseenAbove 20 = .ok (.iload 5, 2) := by decide +kernel
theorem dX3_foreseenAbove_22 : decode cX3_foreseenAbove 22 = .ok (.iload_n 3, 1) := by decide +kernel
theorem dX3_foreseenAbove_23 : decode cX3_foreseenAbove 23 = .ok (.if_icmp .ge 51, 3) := by decide +kernel
theorem dX3_foreseenAbove_26 : decode cX3_foreseenAbove 26 = .ok (.iload 4, 2) := by decide +kernel
theorem dX3_foreseenAbove_28 : decode cX3_foreseenAbove 28 = .ok (.iload_n 2, 1) := by decide +kernel
theorem dX3_foreseenAbove_29 : decode cX3_foreseenAbove 29 = .ok (.isub, 1) := by decide +kernel
theorem dX3_foreseenAbove_30 : decode cX3_foreseenAbove 30 = .ok (.iload_n 2, 1) := by decide +kernel
theorem dX3_foreseenAbove_31 : decode cX3_foreseenAbove 31 = .ok (.iand, 1) := by decide +kernel
theorem dX3_foreseenAbove_32 : decode cX3_foreseenAbove 32 = .ok (.istore 4, 2) := by decide +kernel
theorem dX3_foreseenAbove_34 : decode cX3_foreseenAbove 34 = .ok (.iload 4, 2) := by decide +kernel
theorem dX3_foreseenAbove_36 : decode cX3_foreseenAbove 36 = .ok (.ifCond .ne 10, 3) := by decide +kernel
theorem dX3_foreseenAbove_39 : decode cX3_foreseenAbove 39 = .ok (.iload_n 1, 1) := by decide +kernel
theorem dX3_foreseenAbove_40 : decode cX3_foreseenAbove 40 = .ok (.iconst (-1), 1) := by decide +kernel
theorem dX3_foreseenAbove_41 : decode cX3_foreseenAbove 41 = .ok (.if_icmp .eq 5, 3) := by decide +kernel
theorem dX3_foreseenAbove_44 : decode cX3_foreseenAbove 44 = .ok (.iconst (-1), 1) := by decide +kernel
theorem dX3_foreseenAbove_45 : decode cX3_foreseenAbove 45 = .ok (.ireturn, 1) := by decide +kernel
theorem dX3_foreseenAbove_46 : decode cX3_foreseenAbove 46 = .ok (.aload_n 0, 1) := by decide +kernel
theorem dX3_foreseenAbove_47 : decode cX3_foreseenAbove 47 = .ok (.aload_n 0, 1) := by decide +kernel
theorem dX3_foreseenAbove_48 : decode cX3_foreseenAbove 48 = .ok (.getfield 66, 3) := by decide +kernel
theorem dX3_foreseenAbove_51 : decode cX3_foreseenAbove 51 = .ok (.iload 4, 2) := by decide +kernel
theorem dX3_foreseenAbove_53 : decode cX3_foreseenAbove 53 = .ok (.ior, 1) := by decide +kernel
theorem dX3_foreseenAbove_54 : decode cX3_foreseenAbove 54 = .ok (.invokevirtual 90, 3) := by decide +kernel
theorem dX3_foreseenAbove_57 : decode cX3_foreseenAbove 57 = .ok (.ifCond .eq 11, 3) := by decide +kernel
theorem dX3_foreseenAbove_60 : decode cX3_foreseenAbove 60 = .ok (.aload_n 0, 1) := by decide +kernel
theorem dX3_foreseenAbove_61 : decode cX3_foreseenAbove 61 = .ok (.getfield 66, 3) := by decide +kernel
theorem dX3_foreseenAbove_64 : decode cX3_foreseenAbove 64 = .ok (.iload 4, 2) := by decide +kernel
theorem dX3_foreseenAbove_66 : decode cX3_foreseenAbove 66 = .ok (.ior, 1) := by decide +kernel
theorem dX3_foreseenAbove_67 : decode cX3_foreseenAbove 67 = .ok (.ireturn, 1) := by decide +kernel
theorem dX3_foreseenAbove_68 : decode cX3_foreseenAbove 68 = .ok (.iinc 5 1, 3) := by decide +kernel
theorem dX3_foreseenAbove_71 : decode cX3_foreseenAbove 71 = .ok (.goto (-51), 3) := by decide +kernel
theorem dX3_foreseenAbove_74 : decode cX3_foreseenAbove 74 = .ok (.iconst (-1), 1) := by decide +kernel
theorem dX3_foreseenAbove_75 : decode cX3_foreseenAbove 75 = .ok (.ireturn, 1) := by decide +kernel
set_option maxRecDepth 20000 in
theorem ggX3_foreseenCount_X3_foreseenAbove : GoodIn wsX3_foreseenCount wsX3_foreseenAbove := goodIn_r _ [5, 6, 7, 8, 9, 4, 10, 11, 12, 13, 14, 15, 16, 17, 18, 19, 20, 21, 22, 23, 24, 25, 26, 27, 28, 29, 30, 31, 32, 33, 34, 35, 36, 37, 38, 39, 40, 41, 42, 43, 44, 45, 46, 47, 48] rfl (by decide +kernel)
set_option maxRecDepth 20000 in
theorem gX3_foreseenCount_X3_foreseenAbove : GoodIn wsX3_foreseenCount (wsV RX3 93 RX3 yX3_foreseenAbove wsX3_foreseenAbove) := goodIn_app (goodIn_of _ (by decide +kernel)) ggX3_foreseenCount_X3_foreseenAbove
theorem dX3_foreseenCount_0 : decode cX3_foreseenCount 0 = .ok (.iconst 0, 1) := by decide +kernel
theorem dX3_foreseenCount_1 : decode cX3_foreseenCount 1 = .ok (.istore_n 1, 1) := by decide +kernel
theorem dX3_foreseenCount_2 : decode cX3_foreseenCount 2 = .ok (.aload_n 0, 1) := by decide +kernel
theorem dX3_foreseenCount_3 : decode cX3_foreseenCount 3 = .ok (.iconst (-1), 1) := by decide +kernel
theorem dX3_foreseenCount_4 : decode cX3_foreseenCount 4 = .ok (.invokevirtual 93, 3) := by decide +kernel
theorem dX3_foreseenCount_7 : decode cX3_foreseenCount 7 = .ok (.istore_n 2, 1) := by decide +kernel
theorem dX3_foreseenCount_8 : decode cX3_foreseenCount 8 = .ok (.iload_n 2, 1) := by decide +kernel
theorem dX3_foreseenCount_9 : decode cX3_foreseenCount 9 = .ok (.iconst (-1), 1) := by decide +kernel
theorem dX3_foreseenCount_10 : decode cX3_foreseenCount 10 = .ok (.if_icmp .eq 22, 3) := by decide +kernel
theorem dX3_foreseenCount_13 : decode cX3_foreseenCount 13 = .ok (.iload_n 1, 1) := by decide +kernel
theorem dX3_foreseenCount_14 : decode cX3_foreseenCount 14 = .ok (.sipush 16384, 3) := by decide +kernel
theorem dX3_foreseenCount_17 : decode cX3_foreseenCount 17 = .ok (.if_icmp .ge 15, 3) := by decide +kernel
theorem dX3_foreseenCount_20 : decode cX3_foreseenCount 20 = .ok (.iinc 1 1, 3) := by decide +kernel
theorem dX3_foreseenCount_23 : decode cX3_foreseenCount 23 = .ok (.aload_n 0, 1) := by decide +kernel
theorem dX3_foreseenCount_24 : decode cX3_foreseenCount 24 = .ok (.iload_n 2, 1) := by decide +kernel
theorem dX3_foreseenCount_25 : decode cX3_foreseenCount 25 = .ok (.invokevirtual 93, 3) := by decide +kernel
theorem dX3_foreseenCount_28 : decode cX3_foreseenCount 28 = .ok (.istore_n 2, 1) := by decide +kernel
theorem dX3_foreseenCount_29 : decode cX3_foreseenCount 29 = .ok (.goto (-21), 3) := by decide +kernel
theorem dX3_foreseenCount_32 : decode cX3_foreseenCount 32 = .ok (.iload_n 1, 1) := by decide +kernel
theorem dX3_foreseenCount_33 : decode cX3_foreseenCount 33 = .ok (.ireturn, 1) := by decide +kernel
set_option maxRecDepth 20000 in
theorem ggX3_foreseenAt_X8_within : GoodIn wsX3_foreseenAt wsX8_within := goodIn_r _ [3] rfl (by decide +kernel)
set_option maxRecDepth 20000 in
theorem gX3_foreseenAt_X8_within_n41 : GoodIn wsX3_foreseenAt (wsX8_within) := ggX3_foreseenAt_X8_within
set_option maxRecDepth 20000 in
theorem ggX3_foreseenAt_X3_foreseenAbove : GoodIn wsX3_foreseenAt wsX3_foreseenAbove := goodIn_r _ [8, 9, 10, 11, 12, 7, 13, 14, 15, 16, 2, 17, 18, 19, 20, 21, 22, 23, 24, 25, 26, 27, 28, 29, 30, 31, 32, 33, 34, 35, 36, 37, 38, 39, 40, 41, 42, 43, 44, 45, 46, 47, 48, 49, 50] rfl (by decide +kernel)
set_option maxRecDepth 20000 in
theorem gX3_foreseenAt_X3_foreseenAbove : GoodIn wsX3_foreseenAt (wsV RX3 93 RX3 yX3_foreseenAbove wsX3_foreseenAbove) := goodIn_app (goodIn_of _ (by decide +kernel)) ggX3_foreseenAt_X3_foreseenAbove
theorem dX3_foreseenAt_0 : decode cX3_foreseenAt 0 = .ok (.iload_n 1, 1) := by decide +kernel
theorem dX3_foreseenAt_1 : decode cX3_foreseenAt 1 = .ok (.iconst 0, 1) := by decide +kernel
theorem dX3_foreseenAt_2 : decode cX3_foreseenAt 2 = .ok (.sipush 16383, 3) := by decide +kernel
theorem dX3_foreseenAt_5 : decode cX3_foreseenAt 5 = .ok (.invokestatic 41, 3) := by decide +kernel
theorem dX3_foreseenAt_8 : decode cX3_foreseenAt 8 = .ok (.ifCond .ne 5, 3) := by decide +kernel
theorem dX3_foreseenAt_11 : decode cX3_foreseenAt 11 = .ok (.iconst (-1), 1) := by decide +kernel
theorem dX3_foreseenAt_12 : decode cX3_foreseenAt 12 = .ok (.ireturn, 1) := by decide +kernel
theorem dX3_foreseenAt_13 : decode cX3_foreseenAt 13 = .ok (.aload_n 0, 1) := by decide +kernel
theorem dX3_foreseenAt_14 : decode cX3_foreseenAt 14 = .ok (.iconst (-1), 1) := by decide +kernel
theorem dX3_foreseenAt_15 : decode cX3_foreseenAt 15 = .ok (.invokevirtual 93, 3) := by decide +kernel
theorem dX3_foreseenAt_18 : decode cX3_foreseenAt 18 = .ok (.istore_n 2, 1) := by decide +kernel
theorem dX3_foreseenAt_19 : decode cX3_foreseenAt 19 = .ok (.iconst 0, 1) := by decide +kernel
theorem dX3_foreseenAt_20 : decode cX3_foreseenAt 20 = .ok (.istore_n 3, 1) := by decide +kernel
theorem dX3_foreseenAt_21 : decode cX3_foreseenAt 21 = .ok (.iload_n 3, 1) := by decide +kernel
theorem dX3_foreseenAt_22 : decode cX3_foreseenAt 22 = .ok (.iload_n 1, 1) := by decide +kernel
theorem dX3_foreseenAt_23 : decode cX3_foreseenAt 23 = .ok (.if_icmp .ge 20, 3) := by decide +kernel
theorem dX3_foreseenAt_26 : decode cX3_foreseenAt 26 = .ok (.iload_n 2, 1) := by decide +kernel
theorem dX3_foreseenAt_27 : decode cX3_foreseenAt 27 = .ok (.iconst (-1), 1) := by decide +kernel
theorem dX3_foreseenAt_28 : decode cX3_foreseenAt 28 = .ok (.if_icmp .eq 15, 3) := by decide +kernel
theorem dX3_foreseenAt_31 : decode cX3_foreseenAt 31 = .ok (.aload_n 0, 1) := by decide +kernel
theorem dX3_foreseenAt_32 : decode cX3_foreseenAt 32 = .ok (.iload_n 2, 1) := by decide +kernel
theorem dX3_foreseenAt_33 : decode cX3_foreseenAt 33 = .ok (.invokevirtual 93, 3) := by decide +kernel
theorem dX3_foreseenAt_36 : decode cX3_foreseenAt 36 = .ok (.istore_n 2, 1) := by decide +kernel
theorem dX3_foreseenAt_37 : decode cX3_foreseenAt 37 = .ok (.iinc 3 1, 3) := by decide +kernel
theorem dX3_foreseenAt_40 : decode cX3_foreseenAt 40 = .ok (.goto (-19), 3) := by decide +kernel
theorem dX3_foreseenAt_43 : decode cX3_foreseenAt 43 = .ok (.iload_n 2, 1) := by decide +kernel
theorem dX3_foreseenAt_44 : decode cX3_foreseenAt 44 = .ok (.ireturn, 1) := by decide +kernel
set_option maxRecDepth 20000 in
theorem ggX3_leastForeseenWith_X3_foreseenAbove : GoodIn wsX3_leastForeseenWith wsX3_foreseenAbove := goodIn_r _ [5, 6, 7, 8, 9, 4, 10, 11, 12, 13, 14, 15, 16, 17, 18, 19, 20, 21, 22, 23, 24, 25, 26, 27, 28, 29, 30, 31, 32, 33, 34, 35, 36, 37, 38, 39, 40, 45, 46, 47, 48, 49, 50, 51, 52] rfl (by decide +kernel)
set_option maxRecDepth 20000 in
theorem gX3_leastForeseenWith_X3_foreseenAbove : GoodIn wsX3_leastForeseenWith (wsV RX3 93 RX3 yX3_foreseenAbove wsX3_foreseenAbove) := goodIn_app (goodIn_of _ (by decide +kernel)) ggX3_leastForeseenWith_X3_foreseenAbove
set_option maxRecDepth 20000 in
theorem ggX3_leastForeseenWith_X3_foresees : GoodIn wsX3_leastForeseenWith wsX3_foresees := goodIn_r _ [44, 6, 7, 8, 9, 4, 10, 11, 12, 13, 14, 15, 16, 17, 18, 19, 20, 28, 29, 30, 31, 32, 33, 34, 35, 36, 37, 38, 39, 40, 45, 46, 47, 48, 49, 50, 51, 52] rfl (by decide +kernel)
set_option maxRecDepth 20000 in
theorem gX3_leastForeseenWith_X3_foresees : GoodIn wsX3_leastForeseenWith (wsV RX3 96 RX3 yX3_foresees wsX3_foresees) := goodIn_app (goodIn_of _ (by decide +kernel)) ggX3_leastForeseenWith_X3_foresees
theorem dX3_leastForeseenWith_0 : decode cX3_leastForeseenWith 0 = .ok (.aload_n 0, 1) := by decide +kernel
theorem dX3_leastForeseenWith_1 : decode cX3_leastForeseenWith 1 = .ok (.iconst (-1), 1) := by decide +kernel
theorem dX3_leastForeseenWith_2 : decode cX3_leastForeseenWith 2 = .ok (.invokevirtual 93, 3) := by decide +kernel
theorem dX3_leastForeseenWith_5 : decode cX3_leastForeseenWith 5 = .ok (.istore_n 2, 1) := by decide +kernel
theorem dX3_leastForeseenWith_6 : decode cX3_leastForeseenWith 6 = .ok (.iconst 0, 1) := by decide +kernel
theorem dX3_leastForeseenWith_7 : decode cX3_leastForeseenWith 7 = .ok (.istore_n 3, 1) := by decide +kernel
theorem dX3_leastForeseenWith_8 : decode cX3_leastForeseenWith 8 = .ok (.iload_n 3, 1) := by decide +kernel
theorem dX3_leastForeseenWith_9 : decode cX3_leastForeseenWith 9 = .ok (.sipush 16384, 3) := by decide +kernel
theorem dX3_leastForeseenWith_12 : decode cX3_leastForeseenWith 12 = .ok (.if_icmp .ge 30, 3) := by decide +kernel
theorem dX3_leastForeseenWith_15 : decode cX3_leastForeseenWith 15 = .ok (.iload_n 2, 1) := by decide +kernel
theorem dX3_leastForeseenWith_16 : decode cX3_leastForeseenWith 16 = .ok (.iconst (-1), 1) := by decide +kernel
theorem dX3_leastForeseenWith_17 : decode cX3_leastForeseenWith 17 = .ok (.if_icmp .eq 25, 3) := by decide +kernel
theorem dX3_leastForeseenWith_20 : decode cX3_leastForeseenWith 20 = .ok (.aload_n 1, 1) := by decide +kernel
theorem dX3_leastForeseenWith_21 : decode cX3_leastForeseenWith 21 = .ok (.iload_n 2, 1) := by decide +kernel
theorem dX3_leastForeseenWith_22 : decode cX3_leastForeseenWith 22 = .ok (.invokevirtual 96, 3) := by decide +kernel
theorem dX3_leastForeseenWith_25 : decode cX3_leastForeseenWith 25 = .ok (.ifCond .eq 5, 3) := by decide +kernel
theorem dX3_leastForeseenWith_28 : decode cX3_leastForeseenWith 28 = .ok (.iload_n 2, 1) := by decide +kernel
theorem dX3_leastForeseenWith_29 : decode cX3_leastForeseenWith 29 = .ok (.ireturn, 1) := by decide +kernel
theorem dX3_leastForeseenWith_30 : decode cX3_leastForeseenWith 30 = .ok (.aload_n 0, 1) := by decide +kernel
theorem dX3_leastForeseenWith_31 : decode cX3_leastForeseenWith 31 = .ok (.iload_n 2, 1) := by decide +kernel
theorem dX3_leastForeseenWith_32 : decode cX3_leastForeseenWith 32 = .ok (.invokevirtual 93, 3) := by decide +kernel
theorem dX3_leastForeseenWith_35 : decode cX3_leastForeseenWith 35 = .ok (.istore_n 2, 1) := by decide +kernel
theorem dX3_leastForeseenWith_36 : decode cX3_leastForeseenWith 36 = .ok (.iinc 3 1, 3) := by decide +kernel
theorem dX3_leastForeseenWith_39 : decode cX3_leastForeseenWith 39 = .ok (.goto (-31), 3) := by decide +kernel
theorem dX3_leastForeseenWith_42 : decode cX3_leastForeseenWith 42 = .ok (.bipush (-2), 2) := by decide +kernel
theorem dX3_leastForeseenWith_44 : decode cX3_leastForeseenWith 44 = .ok (.ireturn, 1) := by decide +kernel
set_option maxRecDepth 20000 in
theorem ggX4_init_X3_init : GoodIn wsX4_init wsX3_init := goodIn_r _ [14, 15, 2, 3, 16, 17, 18, 19, 20, 21, 22, 10, 23, 24, 25, 26, 27, 28, 29, 30, 31, 32, 33, 34, 35, 36, 37, 38, 39, 40, 41, 42, 43, 44, 45, 46, 47, 48, 49, 50, 51, 52, 53, 54, 55, 56, 57, 58, 59, 65, 66, 67, 68, 69, 70, 71, 72] rfl (by decide +kernel)
set_option maxRecDepth 20000 in
theorem gX4_init_X3_init : GoodIn wsX4_init (wsX3_init) := ggX4_init_X3_init
theorem dX4_init_0 : decode cX4_init 0 = .ok (.aload_n 0, 1) := by decide +kernel
theorem dX4_init_1 : decode cX4_init 1 = .ok (.invokespecial 3, 3) := by decide +kernel
theorem dX4_init_4 : decode cX4_init 4 = .ok (.aload_n 0, 1) := by decide +kernel
theorem dX4_init_5 : decode cX4_init 5 = .ok (.bipush 20, 2) := by decide +kernel
theorem dX4_init_7 : decode cX4_init 7 = .ok (.putfield 9, 3) := by decide +kernel
theorem dX4_init_10 : decode cX4_init 10 = .ok (.aload_n 0, 1) := by decide +kernel
theorem dX4_init_11 : decode cX4_init 11 = .ok (.iload_n 1, 1) := by decide +kernel
theorem dX4_init_12 : decode cX4_init 12 = .ok (.putfield 15, 3) := by decide +kernel
theorem dX4_init_15 : decode cX4_init 15 = .ok (.aload_n 0, 1) := by decide +kernel
theorem dX4_init_16 : decode cX4_init 16 = .ok (.iload_n 2, 1) := by decide +kernel
theorem dX4_init_17 : decode cX4_init 17 = .ok (.putfield 18, 3) := by decide +kernel
theorem dX4_init_20 : decode cX4_init 20 = .ok (.aload_n 0, 1) := by decide +kernel
theorem dX4_init_21 : decode cX4_init 21 = .ok (.aload_n 3, 1) := by decide +kernel
theorem dX4_init_22 : decode cX4_init 22 = .ok (.putfield 21, 3) := by decide +kernel
theorem dX4_init_25 : decode cX4_init 25 = .ok (.aload_n 0, 1) := by decide +kernel
theorem dX4_init_26 : decode cX4_init 26 = .ok (.new 25, 3) := by decide +kernel
theorem dX4_init_29 : decode cX4_init 29 = .ok (.dup, 1) := by decide +kernel
theorem dX4_init_30 : decode cX4_init 30 = .ok (.iload_n 2, 1) := by decide +kernel
theorem dX4_init_31 : decode cX4_init 31 = .ok (.invokespecial 27, 3) := by decide +kernel
theorem dX4_init_34 : decode cX4_init 34 = .ok (.putfield 30, 3) := by decide +kernel
theorem dX4_init_37 : decode cX4_init 37 = .ok (.return_, 1) := by decide +kernel
set_option maxRecDepth 20000 in
theorem ggX4_flash_X2_write : GoodIn wsX4_flash wsX2_write := goodIn_r _ [7, 8, 9, 10, 11, 12, 6, 13, 14, 15, 16, 17, 18, 19, 20, 21, 22, 23, 24, 53, 54, 46, 47] rfl (by decide +kernel)
set_option maxRecDepth 20000 in
theorem gX4_flash_X2_write_u39X2 : GoodIn wsX4_flash (va_wsU RX4 39 RX2 "OneHandset$Form" ⟨"OneHandset$Form", "write", "(ILOneHandset$Tape;)V"⟩ yX2_write wsX2_write) := goodIn_app (goodIn_of _ (by decide +kernel)) ggX4_flash_X2_write
set_option maxRecDepth 20000 in
theorem ggX4_flash_X5_write : GoodIn wsX4_flash wsX5_write := goodIn_r _ [28, 29, 30, 31, 32, 33, 34, 35, 27, 36, 37, 38, 15, 16, 17, 18, 19, 20, 39, 40, 41, 42, 43, 44, 45, 55, 56, 57, 58, 59, 60, 61, 62, 46, 47] rfl (by decide +kernel)
set_option maxRecDepth 20000 in
theorem gX4_flash_X5_write_u39X5 : GoodIn wsX4_flash (va_wsU RX4 39 RX5 "OneHandset$Form" ⟨"OneHandset$Form", "write", "(ILOneHandset$Tape;)V"⟩ yX5_write wsX5_write) := goodIn_app (goodIn_of _ (by decide +kernel)) ggX4_flash_X5_write
theorem dX4_flash_0 : decode cX4_flash 0 = .ok (.aload_n 2, 1) := by decide +kernel
theorem dX4_flash_1 : decode cX4_flash 1 = .ok (.iconst 0, 1) := by decide +kernel
theorem dX4_flash_2 : decode cX4_flash 2 = .ok (.putfield 34, 3) := by decide +kernel
theorem dX4_flash_5 : decode cX4_flash 5 = .ok (.aload_n 0, 1) := by decide +kernel
theorem dX4_flash_6 : decode cX4_flash 6 = .ok (.getfield 21, 3) := by decide +kernel
theorem dX4_flash_9 : decode cX4_flash 9 = .ok (.iload_n 1, 1) := by decide +kernel
theorem dX4_flash_10 : decode cX4_flash 10 = .ok (.aload_n 2, 1) := by decide +kernel
theorem dX4_flash_11 : decode cX4_flash 11 = .ok (.invokevirtual 39, 3) := by decide +kernel
theorem dX4_flash_14 : decode cX4_flash 14 = .ok (.aload_n 2, 1) := by decide +kernel
theorem dX4_flash_15 : decode cX4_flash 15 = .ok (.getfield 34, 3) := by decide +kernel
theorem dX4_flash_18 : decode cX4_flash 18 = .ok (.ireturn, 1) := by decide +kernel
set_option maxRecDepth 20000 in
theorem ggX4_decode_X2_decode : GoodIn wsX4_decode wsX2_decode := goodIn_r _ [8, 9, 10, 11, 12, 13, 14, 15, 16, 17, 18, 19, 20, 21, 22, 23, 24, 25, 26, 27, 28, 29, 30, 31, 32, 33, 34, 35, 61, 62, 63, 64] rfl (by decide +kernel)
set_option maxRecDepth 20000 in
theorem gX4_decode_X2_decode_u45X2 : GoodIn wsX4_decode (va_wsU RX4 45 RX2 "OneHandset$Form" ⟨"OneHandset$Form", "decode", "(LOneHandset$Tape;I)I"⟩ yX2_decode wsX2_decode) := goodIn_app (goodIn_of _ (by decide +kernel)) ggX4_decode_X2_decode
set_option maxRecDepth 20000 in
theorem ggX4_decode_X5_decode : GoodIn wsX4_decode wsX5_decode := goodIn_r _ [39, 40, 41, 42, 34, 19, 35, 43, 12, 13, 14, 15, 16, 17, 18, 20, 44, 45, 46, 38, 47, 48, 21, 22, 23, 24, 25, 26, 27, 28, 29, 30, 31, 32, 33, 49, 50, 51, 52, 53, 54, 55, 61, 62, 65, 66, 67, 68, 69, 70, 71, 72] rfl (by decide +kernel)
set_option maxRecDepth 20000 in
theorem gX4_decode_X5_decode_u45X5 : GoodIn wsX4_decode (va_wsU RX4 45 RX5 "OneHandset$Form" ⟨"OneHandset$Form", "decode", "(LOneHandset$Tape;I)I"⟩ yX5_decode wsX5_decode) := goodIn_app (goodIn_of _ (by decide +kernel)) ggX4_decode_X5_decode
theorem dX4_decode_0 : decode cX4_decode 0 = .ok (.aload_n 0, 1) := by decide +kernel
theorem dX4_decode_1 : decode cX4_decode 1 = .ok (.getfield 21, 3) := by decide +kernel
theorem dX4_decode_4 : decode cX4_decode 4 = .ok (.aload_n 1, 1) := by decide +kernel
theorem dX4_decode_5 : decode cX4_decode 5 = .ok (.aload_n 0, 1) := by decide +kernel
theorem dX4_decode_6 : decode cX4_decode 6 = .ok (.getfield 9, 3) := by decide +kernel
theorem dX4_decode_9 : decode cX4_decode 9 = .ok (.invokevirtual 45, 3) := by decide +kernel
theorem dX4_decode_12 : decode cX4_decode 12 = .ok (.ireturn, 1) := by decide +kernel
set_option maxRecDepth 20000 in
theorem ggX5_init_X1_init : GoodIn wsX5_init wsX1_init := goodIn_r _ [11, 12, 13, 14] rfl (by decide +kernel)
set_option maxRecDepth 20000 in
theorem gX5_init_X1_init_n3 : GoodIn wsX5_init (wsX1_init) := ggX5_init_X1_init
theorem dX5_init_0 : decode cX5_init 0 = .ok (.aload_n 0, 1) := by decide +kernel
theorem dX5_init_1 : decode cX5_init 1 = .ok (.invokespecial 3, 3) := by decide +kernel
theorem dX5_init_4 : decode cX5_init 4 = .ok (.aload_n 0, 1) := by decide +kernel
theorem dX5_init_5 : decode cX5_init 5 = .ok (.iload_n 1, 1) := by decide +kernel
theorem dX5_init_6 : decode cX5_init 6 = .ok (.putfield 9, 3) := by decide +kernel
theorem dX5_init_9 : decode cX5_init 9 = .ok (.aload_n 0, 1) := by decide +kernel
theorem dX5_init_10 : decode cX5_init 10 = .ok (.iload_n 2, 1) := by decide +kernel
theorem dX5_init_11 : decode cX5_init 11 = .ok (.putfield 15, 3) := by decide +kernel
theorem dX5_init_14 : decode cX5_init 14 = .ok (.aload_n 0, 1) := by decide +kernel
theorem dX5_init_15 : decode cX5_init 15 = .ok (.iload_n 3, 1) := by decide +kernel
theorem dX5_init_16 : decode cX5_init 16 = .ok (.putfield 19, 3) := by decide +kernel
theorem dX5_init_19 : decode cX5_init 19 = .ok (.aload_n 0, 1) := by decide +kernel
theorem dX5_init_20 : decode cX5_init 20 = .ok (.iload 4, 2) := by decide +kernel
theorem dX5_init_22 : decode cX5_init 22 = .ok (.putfield 22, 3) := by decide +kernel
theorem dX5_init_25 : decode cX5_init 25 = .ok (.aload_n 0, 1) := by decide +kernel
theorem dX5_init_26 : decode cX5_init 26 = .ok (.iload 5, 2) := by decide +kernel
theorem dX5_init_28 : decode cX5_init 28 = .ok (.putfield 25, 3) := by decide +kernel
theorem dX5_init_31 : decode cX5_init 31 = .ok (.aload_n 0, 1) := by decide +kernel
theorem dX5_init_32 : decode cX5_init 32 = .ok (.iload 6, 2) := by decide +kernel
theorem dX5_init_34 : decode cX5_init 34 = .ok (.putfield 28, 3) := by decide +kernel
theorem dX5_init_37 : decode cX5_init 37 = .ok (.aload_n 0, 1) := by decide +kernel
theorem dX5_init_38 : decode cX5_init 38 = .ok (.iload 7, 2) := by decide +kernel
theorem dX5_init_40 : decode cX5_init 40 = .ok (.putfield 31, 3) := by decide +kernel
theorem dX5_init_43 : decode cX5_init 43 = .ok (.aload_n 0, 1) := by decide +kernel
theorem dX5_init_44 : decode cX5_init 44 = .ok (.iload_n 1, 1) := by decide +kernel
theorem dX5_init_45 : decode cX5_init 45 = .ok (.ifCond .eq 11, 3) := by decide +kernel
theorem dX5_init_48 : decode cX5_init 48 = .ok (.iconst 2, 1) := by decide +kernel
theorem dX5_init_49 : decode cX5_init 49 = .ok (.iload_n 2, 1) := by decide +kernel
theorem dX5_init_50 : decode cX5_init 50 = .ok (.imul, 1) := by decide +kernel
theorem dX5_init_51 : decode cX5_init 51 = .ok (.iconst 1, 1) := by decide +kernel
theorem dX5_init_52 : decode cX5_init 52 = .ok (.iadd, 1) := by decide +kernel
theorem dX5_init_53 : decode cX5_init 53 = .ok (.goto 8, 3) := by decide +kernel
theorem dX5_init_56 : decode cX5_init 56 = .ok (.iconst 2, 1) := by decide +kernel
theorem dX5_init_57 : decode cX5_init 57 = .ok (.iload_n 2, 1) := by decide +kernel
theorem dX5_init_58 : decode cX5_init 58 = .ok (.imul, 1) := by decide +kernel
theorem dX5_init_59 : decode cX5_init 59 = .ok (.iconst 3, 1) := by decide +kernel
theorem dX5_init_60 : decode cX5_init 60 = .ok (.iadd, 1) := by decide +kernel
theorem dX5_init_61 : decode cX5_init 61 = .ok (.putfield 34, 3) := by decide +kernel
theorem dX5_init_64 : decode cX5_init 64 = .ok (.return_, 1) := by decide +kernel
theorem dX5_tellsBit_0 : decode cX5_tellsBit 0 = .ok (.iload_n 1, 1) := by decide +kernel
theorem dX5_tellsBit_1 : decode cX5_tellsBit 1 = .ok (.iconst 2, 1) := by decide +kernel
theorem dX5_tellsBit_2 : decode cX5_tellsBit 2 = .ok (.if_icmp .lt 25, 3) := by decide +kernel
theorem dX5_tellsBit_5 : decode cX5_tellsBit 5 = .ok (.iload_n 1, 1) := by decide +kernel
theorem dX5_tellsBit_6 : decode cX5_tellsBit 6 = .ok (.iconst 2, 1) := by decide +kernel
theorem dX5_tellsBit_7 : decode cX5_tellsBit 7 = .ok (.irem, 1) := by decide +kernel
theorem dX5_tellsBit_8 : decode cX5_tellsBit 8 = .ok (.ifCond .ne 7, 3) := by decide +kernel
theorem dX5_tellsBit_11 : decode cX5_tellsBit 11 = .ok (.iconst 1, 1) := by decide +kernel
theorem dX5_tellsBit_12 : decode cX5_tellsBit 12 = .ok (.goto 4, 3) := by decide +kernel
theorem dX5_tellsBit_15 : decode cX5_tellsBit 15 = .ok (.iconst 0, 1) := by decide +kernel
theorem dX5_tellsBit_16 : decode cX5_tellsBit 16 = .ok (.aload_n 0, 1) := by decide +kernel
theorem dX5_tellsBit_17 : decode cX5_tellsBit 17 = .ok (.getfield 9, 3) := by decide +kernel
theorem dX5_tellsBit_20 : decode cX5_tellsBit 20 = .ok (.if_icmp .ne 7, 3) := by decide +kernel
theorem dX5_tellsBit_23 : decode cX5_tellsBit 23 = .ok (.iconst 1, 1) := by decide +kernel
theorem dX5_tellsBit_24 : decode cX5_tellsBit 24 = .ok (.goto 4, 3) := by decide +kernel
theorem dX5_tellsBit_27 : decode cX5_tellsBit 27 = .ok (.iconst 0, 1) := by decide +kernel
theorem dX5_tellsBit_28 : decode cX5_tellsBit 28 = .ok (.ireturn, 1) := by decide +kernel
theorem dX5_plainTime_0 : decode cX5_plainTime 0 = .ok (.iload_n 1, 1) := by decide +kernel
theorem dX5_plainTime_1 : decode cX5_plainTime 1 = .ok (.ifCond .ne 8, 3) := by decide +kernel
theorem dX5_plainTime_4 : decode cX5_plainTime 4 = .ok (.aload_n 0, 1) := by decide +kernel
theorem dX5_plainTime_5 : decode cX5_plainTime 5 = .ok (.getfield 19, 3) := by decide +kernel
theorem dX5_plainTime_8 : decode cX5_plainTime 8 = .ok (.ireturn, 1) := by decide +kernel
theorem dX5_plainTime_9 : decode cX5_plainTime 9 = .ok (.iload_n 1, 1) := by decide +kernel
theorem dX5_plainTime_10 : decode cX5_plainTime 10 = .ok (.iconst 1, 1) := by decide +kernel
theorem dX5_plainTime_11 : decode cX5_plainTime 11 = .ok (.if_icmp .ne 10, 3) := by decide +kernel
theorem dX5_plainTime_14 : decode cX5_plainTime 14 = .ok (.aload_n 0, 1) := by decide +kernel
theorem dX5_plainTime_15 : decode cX5_plainTime 15 = .ok (.getfield 22, 3) := by decide +kernel
theorem dX5_plainTime_18 : decode cX5_plainTime 18 = .ok (.goto 7, 3) := by decide +kernel
theorem dX5_plainTime_21 : decode cX5_plainTime 21 = .ok (.aload_n 0, 1) := by decide +kernel
theorem dX5_plainTime_22 : decode cX5_plainTime 22 = .ok (.getfield 25, 3) := by decide +kernel
theorem dX5_plainTime_25 : decode cX5_plainTime 25 = .ok (.ireturn, 1) := by decide +kernel
set_option maxRecDepth 20000 in
theorem ggX5_write_X5_tellsBit : GoodIn wsX5_write wsX5_tellsBit := goodIn_r _ [9, 10, 25, 26, 27, 28, 29, 30, 31, 32] rfl (by decide +kernel)
set_option maxRecDepth 20000 in
theorem gX5_write_X5_tellsBit : GoodIn wsX5_write (wsV RX5 37 RX5 yX5_tellsBit wsX5_tellsBit) := goodIn_app (goodIn_of _ (by decide +kernel)) ggX5_write_X5_tellsBit
set_option maxRecDepth 20000 in
theorem ggX5_write_X7_append : GoodIn wsX5_write wsX7_append := goodIn_r _ [15, 16, 17, 33, 34] rfl (by decide +kernel)
set_option maxRecDepth 20000 in
theorem gX5_write_X7_append : GoodIn wsX5_write (wsV RX5 41 RX7 yX7_append wsX7_append) := goodIn_app (goodIn_of _ (by decide +kernel)) ggX5_write_X7_append
set_option maxRecDepth 20000 in
theorem ggX5_write_X5_plainTime : GoodIn wsX5_write wsX5_plainTime := goodIn_r _ [21, 22, 23, 24, 25, 26, 27, 28, 29, 30, 31, 32] rfl (by decide +kernel)
set_option maxRecDepth 20000 in
theorem gX5_write_X5_plainTime : GoodIn wsX5_write (wsV RX5 47 RX5 yX5_plainTime wsX5_plainTime) := goodIn_app (goodIn_of _ (by decide +kernel)) ggX5_write_X5_plainTime
theorem dX5_write_0 : decode cX5_write 0 = .ok (.aload_n 0, 1) := by decide +kernel
theorem dX5_write_1 : decode cX5_write 1 = .ok (.getfield 15, 3) := by decide +kernel
theorem dX5_write_4 : decode cX5_write 4 = .ok (.istore_n 3, 1) := by decide +kernel
theorem dX5_write_5 : decode cX5_write 5 = .ok (.iconst 0, 1) := by decide +kernel
theorem dX5_write_6 : decode cX5_write 6 = .ok (.istore 4, 2) := by decide +kernel
theorem dX5_write_8 : decode cX5_write 8 = .ok (.iload 4, 2) := by decide +kernel
theorem dX5_write_10 : decode cX5_write 10 = .ok (.aload_n 0, 1) := by decide +kernel
theorem dX5_write_11 : decode cX5_write 11 = .ok (.getfield 34, 3) := by decide +kernel
theorem dX5_write_14 : decode cX5_write 14 = .ok (.if_icmp .ge 57, 3) := by decide +kernel
theorem dX5_write_17 : decode cX5_write 17 = .ok (.aload_n 0, 1) := by decide +kernel
theorem dX5_write_18 : decode cX5_write 18 = .ok (.iload 4, 2) := by decide +kernel
theorem dX5_write_20 : decode cX5_write 20 = .ok (.invokevirtual 37, 3) := by decide +kernel
theorem dX5_write_23 : decode cX5_write 23 = .ok (.ifCond .eq 32, 3) := by decide +kernel
theorem dX5_write_26 : decode cX5_write 26 = .ok (.iinc 3 (-1), 3) := by decide +kernel
theorem dX5_write_29 : decode cX5_write 29 = .ok (.aload_n 2, 1) := by decide +kernel
theorem dX5_write_30 : decode cX5_write 30 = .ok (.iload_n 1, 1) := by decide +kernel
theorem dX5_write_31 : decode cX5_write 31 = .ok (.iload_n 3, 1) := by decide +kernel
theorem dX5_write_32 : decode cX5_write 32 = .ok (.ishr, 1) := by decide +kernel
theorem dX5_write_33 : decode cX5_write 33 = .ok (.iconst 1, 1) := by decide +kernel
theorem dX5_write_34 : decode cX5_write 34 = .ok (.iand, 1) := by decide +kernel
theorem dX5_write_35 : decode cX5_write 35 = .ok (.ifCond .ne 10, 3) := by decide +kernel
theorem dX5_write_38 : decode cX5_write 38 = .ok (.aload_n 0, 1) := by decide +kernel
theorem dX5_write_39 : decode cX5_write 39 = .ok (.getfield 28, 3) := by decide +kernel
theorem dX5_write_42 : decode cX5_write 42 = .ok (.goto 7, 3) := by decide +kernel
theorem dX5_write_45 : decode cX5_write 45 = .ok (.aload_n 0, 1) := by decide +kernel
theorem dX5_write_46 : decode cX5_write 46 = .ok (.getfield 31, 3) := by decide +kernel
theorem dX5_write_49 : decode cX5_write 49 = .ok (.invokevirtual 41, 3) := by decide +kernel
theorem dX5_write_52 : decode cX5_write 52 = .ok (.goto 13, 3) := by decide +kernel
theorem dX5_write_55 : decode cX5_write 55 = .ok (.aload_n 2, 1) := by decide +kernel
theorem dX5_write_56 : decode cX5_write 56 = .ok (.aload_n 0, 1) := by decide +kernel
theorem dX5_write_57 : decode cX5_write 57 = .ok (.iload 4, 2) := by decide +kernel
theorem dX5_write_59 : decode cX5_write 59 = .ok (.invokevirtual 47, 3) := by decide +kernel
theorem dX5_write_62 : decode cX5_write 62 = .ok (.invokevirtual 41, 3) := by decide +kernel
theorem dX5_write_65 : decode cX5_write 65 = .ok (.iinc 4 1, 3) := by decide +kernel
theorem dX5_write_68 : decode cX5_write 68 = .ok (.goto (-60), 3) := by decide +kernel
theorem dX5_write_71 : decode cX5_write 71 = .ok (.return_, 1) := by decide +kernel
set_option maxRecDepth 20000 in
theorem ggX5_decode_X8_fault : GoodIn wsX5_decode wsX8_fault := goodIn_r _ [6] rfl (by decide +kernel)
set_option maxRecDepth 20000 in
theorem gX5_decode_X8_fault_n54 : GoodIn wsX5_decode (wsX8_fault) := ggX5_decode_X8_fault
set_option maxRecDepth 20000 in
theorem ggX5_decode_X7_at : GoodIn wsX5_decode wsX7_at := goodIn_r _ [11, 12, 13, 14, 5, 15, 42, 43] rfl (by decide +kernel)
set_option maxRecDepth 20000 in
theorem gX5_decode_X7_at : GoodIn wsX5_decode (wsV RX5 57 RX7 yX7_at wsX7_at) := goodIn_app (goodIn_of _ (by decide +kernel)) ggX5_decode_X7_at
set_option maxRecDepth 20000 in
theorem ggX5_decode_X5_tellsBit : GoodIn wsX5_decode wsX5_tellsBit := goodIn_r _ [20, 21, 44, 45, 46, 47, 48, 49, 50, 51] rfl (by decide +kernel)
set_option maxRecDepth 20000 in
theorem gX5_decode_X5_tellsBit : GoodIn wsX5_decode (wsV RX5 37 RX5 yX5_tellsBit wsX5_tellsBit) := goodIn_app (goodIn_of _ (by decide +kernel)) ggX5_decode_X5_tellsBit
set_option maxRecDepth 20000 in
theorem ggX5_decode_X8_nearerOf : GoodIn wsX5_decode wsX8_nearerOf := goodIn_r _ [23, 24, 25, 26, 27, 28, 29, 5, 30, 31, 32, 33, 34, 14, 15] rfl (by decide +kernel)
set_option maxRecDepth 20000 in
theorem gX5_decode_X8_nearerOf_n60 : GoodIn wsX5_decode (wsX8_nearerOf) := ggX5_decode_X8_nearerOf
set_option maxRecDepth 20000 in
theorem ggX5_decode_X5_plainTime : GoodIn wsX5_decode wsX5_plainTime := goodIn_r _ [38, 39, 40, 41, 44, 45, 46, 47, 48, 49, 50, 51] rfl (by decide +kernel)
set_option maxRecDepth 20000 in
theorem gX5_decode_X5_plainTime : GoodIn wsX5_decode (wsV RX5 47 RX5 yX5_plainTime wsX5_plainTime) := goodIn_app (goodIn_of _ (by decide +kernel)) ggX5_decode_X5_plainTime
set_option maxRecDepth 20000 in
theorem ggX5_decode_X8_fits : GoodIn wsX5_decode wsX8_fits := goodIn_r _ [30, 24, 25, 26, 27, 31, 32, 5, 33, 34, 14, 15] rfl (by decide +kernel)
set_option maxRecDepth 20000 in
theorem gX5_decode_X8_fits_n64 : GoodIn wsX5_decode (wsX8_fits) := ggX5_decode_X8_fits
theorem dX5_decode_0 : decode cX5_decode 0 = .ok (.iconst 0, 1) := by decide +kernel
theorem dX5_decode_1 : decode cX5_decode 1 = .ok (.istore_n 3, 1) := by decide +kernel
theorem dX5_decode_2 : decode cX5_decode 2 = .ok (.iconst 0, 1) := by decide +kernel
theorem dX5_decode_3 : decode cX5_decode 3 = .ok (.istore 4, 2) := by decide +kernel
theorem dX5_decode_5 : decode cX5_decode 5 = .ok (.iload 4, 2) := by decide +kernel
theorem dX5_decode_7 : decode cX5_decode 7 = .ok (.aload_n 1, 1) := by decide +kernel
theorem dX5_decode_8 : decode cX5_decode 8 = .ok (.getfield 51, 3) := by decide +kernel
theorem dX5_decode_11 : decode cX5_decode 11 = .ok (.if_icmp .ge 100, 3) := by decide +kernel
theorem dX5_decode_14 : decode cX5_decode 14 = .ok (.iload 4, 2) := by decide +kernel
theorem dX5_decode_16 : decode cX5_decode 16 = .ok (.aload_n 0, 1) := by decide +kernel
theorem dX5_decode_17 : decode cX5_decode 17 = .ok (.getfield 34, 3) := by decide +kernel
theorem dX5_decode_20 : decode cX5_decode 20 = .ok (.if_icmp .lt 9, 3) := by decide +kernel
theorem dX5_decode_23 : decode cX5_decode 23 = .ok (.iload 4, 2) := by decide +kernel
theorem dX5_decode_25 : decode cX5_decode 25 = .ok (.invokestatic 54, 3) := by decide +kernel
theorem dX5_decode_28 : decode cX5_decode 28 = .ok (.ireturn, 1) := by decide +kernel
theorem dX5_decode_29 : decode cX5_decode 29 = .ok (.aload_n 1, 1) := by decide +kernel
theorem dX5_decode_30 : decode cX5_decode 30 = .ok (.iload 4, 2) := by decide +kernel
theorem dX5_decode_32 : decode cX5_decode 32 = .ok (.invokevirtual 57, 3) := by decide +kernel
theorem dX5_decode_35 : decode cX5_decode 35 = .ok (.istore 5, 2) := by decide +kernel
theorem dX5_decode_37 : decode cX5_decode 37 = .ok (.aload_n 0, 1) := by decide +kernel
theorem dX5_decode_38 : decode cX5_decode 38 = .ok (.iload 4, 2) := by decide +kernel
theorem dX5_decode_40 : decode cX5_decode 40 = .ok (.invokevirtual 37, 3) := by decide +kernel
theorem dX5_decode_43 : decode cX5_decode 43 = .ok (.ifCond .eq 41, 3) := by decide +kernel
theorem dX5_decode_46 : decode cX5_decode 46 = .ok (.iload 5, 2) := by decide +kernel
theorem dX5_decode_48 : decode cX5_decode 48 = .ok (.aload_n 0, 1) := by decide +kernel
theorem dX5_decode_49 : decode cX5_decode 49 = .ok (.getfield 28, 3) := by decide +kernel
theorem dX5_decode_52 : decode cX5_decode 52 = .ok (.aload_n 0, 1) := by decide +kernel
theorem dX5_decode_53 : decode cX5_decode 53 = .ok (.getfield 31, 3) := by decide +kernel
theorem dX5_decode_56 : decode cX5_decode 56 = .ok (.iload_n 2, 1) := by decide +kernel
theorem dX5_decode_57 : decode cX5_decode 57 = .ok (.invokestatic 60, 3) := by decide +kernel
theorem dX5_decode_60 : decode cX5_decode 60 = .ok (.istore 6, 2) := by decide +kernel
theorem dX5_decode_62 : decode cX5_decode 62 = .ok (.iload 6, 2) := by decide +kernel
theorem dX5_decode_64 : decode cX5_decode 64 = .ok (.iconst (-1), 1) := by decide +kernel
theorem dX5_decode_65 : decode cX5_decode 65 = .ok (.if_icmp .ne 9, 3) := by decide +kernel
theorem dX5_decode_68 : decode cX5_decode 68 = .ok (.iload 4, 2) := by decide +kernel
theorem dX5_decode_70 : decode cX5_decode 70 = .ok (.invokestatic 54, 3) := by decide +kernel
theorem dX5_decode_73 : decode cX5_decode 73 = .ok (.ireturn, 1) := by decide +kernel
theorem dX5_decode_74 : decode cX5_decode 74 = .ok (.iload_n 3, 1) := by decide +kernel
theorem dX5_decode_75 : decode cX5_decode 75 = .ok (.iconst 2, 1) := by decide +kernel
theorem dX5_decode_76 : decode cX5_decode 76 = .ok (.imul, 1) := by decide +kernel
theorem dX5_decode_77 : decode cX5_decode 77 = .ok (.iload 6, 2) := by decide +kernel
theorem dX5_decode_79 : decode cX5_decode 79 = .ok (.iadd, 1) := by decide +kernel
theorem dX5_decode_80 : decode cX5_decode 80 = .ok (.istore_n 3, 1) := by decide +kernel
theorem dX5_decode_81 : decode cX5_decode 81 = .ok (.goto 24, 3) := by decide +kernel
theorem dX5_decode_84 : decode cX5_decode 84 = .ok (.iload 5, 2) := by decide +kernel
theorem dX5_decode_86 : decode cX5_decode 86 = .ok (.aload_n 0, 1) := by decide +kernel
theorem dX5_decode_87 : decode cX5_decode 87 = .ok (.iload 4, 2) := by decide +kernel
theorem dX5_decode_89 : decode cX5_decode 89 = .ok (.invokevirtual 47, 3) := by decide +kernel
theorem dX5_decode_92 : decode cX5_decode 92 = .ok (.iload_n 2, 1) := by decide +kernel
theorem dX5_decode_93 : decode cX5_decode 93 = .ok (.invokestatic 64, 3) := by decide +kernel
theorem dX5_decode_96 : decode cX5_decode 96 = .ok (.ifCond .ne 9, 3) := by decide +kernel
theorem dX5_decode_99 : decode cX5_decode 99 = .ok (.iload 4, 2) := by decide +kernel
theorem dX5_decode_101 : decode cX5_decode 101 = .ok (.invokestatic 54, 3) := by decide +kernel
theorem dX5_decode_104 : decode cX5_decode 104 = .ok (.ireturn, 1) := by decide +kernel
theorem dX5_decode_105 : decode cX5_decode 105 = .ok (.iinc 4 1, 3) := by decide +kernel
theorem dX5_decode_108 : decode cX5_decode 108 = .ok (.goto (-103), 3) := by decide +kernel
theorem dX5_decode_111 : decode cX5_decode 111 = .ok (.aload_n 1, 1) := by decide +kernel
theorem dX5_decode_112 : decode cX5_decode 112 = .ok (.getfield 51, 3) := by decide +kernel
theorem dX5_decode_115 : decode cX5_decode 115 = .ok (.aload_n 0, 1) := by decide +kernel
theorem dX5_decode_116 : decode cX5_decode 116 = .ok (.getfield 34, 3) := by decide +kernel
theorem dX5_decode_119 : decode cX5_decode 119 = .ok (.if_icmp .ge 13, 3) := by decide +kernel
theorem dX5_decode_122 : decode cX5_decode 122 = .ok (.aload_n 1, 1) := by decide +kernel
theorem dX5_decode_123 : decode cX5_decode 123 = .ok (.getfield 51, 3) := by decide +kernel
theorem dX5_decode_126 : decode cX5_decode 126 = .ok (.invokestatic 54, 3) := by decide +kernel
theorem dX5_decode_129 : decode cX5_decode 129 = .ok (.goto 4, 3) := by decide +kernel
theorem dX5_decode_132 : decode cX5_decode 132 = .ok (.iload_n 3, 1) := by decide +kernel
theorem dX5_decode_133 : decode cX5_decode 133 = .ok (.ireturn, 1) := by decide +kernel
theorem dX6_init_0 : decode cX6_init 0 = .ok (.aload_n 0, 1) := by decide +kernel
theorem dX6_init_1 : decode cX6_init 1 = .ok (.invokespecial 3, 3) := by decide +kernel
theorem dX6_init_4 : decode cX6_init 4 = .ok (.aload_n 0, 1) := by decide +kernel
theorem dX6_init_5 : decode cX6_init 5 = .ok (.sipush 256, 3) := by decide +kernel
theorem dX6_init_8 : decode cX6_init 8 = .ok (.newarray .int, 2) := by decide +kernel
theorem dX6_init_10 : decode cX6_init 10 = .ok (.putfield 9, 3) := by decide +kernel
theorem dX6_init_13 : decode cX6_init 13 = .ok (.aload_n 0, 1) := by decide +kernel
theorem dX6_init_14 : decode cX6_init 14 = .ok (.sipush 256, 3) := by decide +kernel
theorem dX6_init_17 : decode cX6_init 17 = .ok (.newarray .int, 2) := by decide +kernel
theorem dX6_init_19 : decode cX6_init 19 = .ok (.putfield 15, 3) := by decide +kernel
theorem dX6_init_22 : decode cX6_init 22 = .ok (.aload_n 0, 1) := by decide +kernel
theorem dX6_init_23 : decode cX6_init 23 = .ok (.sipush 256, 3) := by decide +kernel
theorem dX6_init_26 : decode cX6_init 26 = .ok (.newarray .int, 2) := by decide +kernel
theorem dX6_init_28 : decode cX6_init 28 = .ok (.putfield 18, 3) := by decide +kernel
theorem dX6_init_31 : decode cX6_init 31 = .ok (.aload_n 0, 1) := by decide +kernel
theorem dX6_init_32 : decode cX6_init 32 = .ok (.sipush 256, 3) := by decide +kernel
theorem dX6_init_35 : decode cX6_init 35 = .ok (.newarray .int, 2) := by decide +kernel
theorem dX6_init_37 : decode cX6_init 37 = .ok (.putfield 21, 3) := by decide +kernel
theorem dX6_init_40 : decode cX6_init 40 = .ok (.aload_n 0, 1) := by decide +kernel
theorem dX6_init_41 : decode cX6_init 41 = .ok (.iconst 0, 1) := by decide +kernel
theorem dX6_init_42 : decode cX6_init 42 = .ok (.putfield 24, 3) := by decide +kernel
theorem dX6_init_45 : decode cX6_init 45 = .ok (.return_, 1) := by decide +kernel
set_option maxRecDepth 20000 in
theorem ggX6_find_J7_fill_53178 : GoodIn wsX6_find wsJ7_fill_53178 := goodIn_r _ [7] rfl (by decide +kernel)
set_option maxRecDepth 20000 in
theorem gX6_find_J7_fill_53178 : GoodIn wsX6_find (va_wsS RX6 28 yJ7_fill_53178 wsJ7_fill_53178) := goodIn_app (goodIn_of _ (by decide +kernel)) ggX6_find_J7_fill_53178
set_option maxRecDepth 20000 in
theorem ggX6_find_X6_keepRow : GoodIn wsX6_find wsX6_keepRow := goodIn_r _ [12, 13, 1, 14, 3, 30, 31, 32, 33, 34] rfl (by decide +kernel)
set_option maxRecDepth 20000 in
theorem gX6_find_X6_keepRow : GoodIn wsX6_find (wsV RX6 39 RX6 yX6_keepRow wsX6_keepRow) := goodIn_app (goodIn_of _ (by decide +kernel)) ggX6_find_X6_keepRow
set_option maxRecDepth 20000 in
theorem ggX6_find_X0_behind : GoodIn wsX6_find wsX0_behind := goodIn_r _ [19, 20, 21, 22, 23, 24, 18, 25, 26, 27, 28, 29, 35, 36, 37, 38] rfl (by decide +kernel)
set_option maxRecDepth 20000 in
theorem gX6_find_X0_behind : GoodIn wsX6_find (wsV RX6 46 RX0 yX0_behind wsX0_behind) := goodIn_app (goodIn_of _ (by decide +kernel)) ggX6_find_X0_behind
theorem dX6_find_0 : decode cX6_find 0 = .ok (.aload_n 0, 1) := by decide +kernel
theorem dX6_find_1 : decode cX6_find 1 = .ok (.getfield 18, 3) := by decide +kernel
theorem dX6_find_4 : decode cX6_find 4 = .ok (.iconst (-1), 1) := by decide +kernel
theorem dX6_find_5 : decode cX6_find 5 = .ok (.invokestatic 28, 3) := by decide +kernel
theorem dX6_find_8 : decode cX6_find 8 = .ok (.aload_n 1, 1) := by decide +kernel
theorem dX6_find_9 : decode cX6_find 9 = .ok (.getfield 34, 3) := by decide +kernel
theorem dX6_find_12 : decode cX6_find 12 = .ok (.istore_n 3, 1) := by decide +kernel
theorem dX6_find_13 : decode cX6_find 13 = .ok (.aload_n 0, 1) := by decide +kernel
theorem dX6_find_14 : decode cX6_find 14 = .ok (.getfield 15, 3) := by decide +kernel
theorem dX6_find_17 : decode cX6_find 17 = .ok (.iconst 0, 1) := by decide +kernel
theorem dX6_find_18 : decode cX6_find 18 = .ok (.iload_n 3, 1) := by decide +kernel
theorem dX6_find_19 : decode cX6_find 19 = .ok (.iastore, 1) := by decide +kernel
theorem dX6_find_20 : decode cX6_find 20 = .ok (.aload_n 0, 1) := by decide +kernel
theorem dX6_find_21 : decode cX6_find 21 = .ok (.getfield 18, 3) := by decide +kernel
theorem dX6_find_24 : decode cX6_find 24 = .ok (.iload_n 3, 1) := by decide +kernel
theorem dX6_find_25 : decode cX6_find 25 = .ok (.iload_n 3, 1) := by decide +kernel
theorem dX6_find_26 : decode cX6_find 26 = .ok (.iastore, 1) := by decide +kernel
theorem dX6_find_27 : decode cX6_find 27 = .ok (.iconst 1, 1) := by decide +kernel
theorem dX6_find_28 : decode cX6_find 28 = .ok (.istore 4, 2) := by decide +kernel
theorem dX6_find_30 : decode cX6_find 30 = .ok (.iconst 0, 1) := by decide +kernel
theorem dX6_find_31 : decode cX6_find 31 = .ok (.istore 5, 2) := by decide +kernel
theorem dX6_find_33 : decode cX6_find 33 = .ok (.iload 5, 2) := by decide +kernel
theorem dX6_find_35 : decode cX6_find 35 = .ok (.iload 4, 2) := by decide +kernel
theorem dX6_find_37 : decode cX6_find 37 = .ok (.if_icmp .ge 120, 3) := by decide +kernel
theorem dX6_find_40 : decode cX6_find 40 = .ok (.iload 5, 2) := by decide +kernel
theorem dX6_find_42 : decode cX6_find 42 = .ok (.sipush 256, 3) := by decide +kernel
theorem dX6_find_45 : decode cX6_find 45 = .ok (.if_icmp .ge 112, 3) := by decide +kernel
theorem dX6_find_48 : decode cX6_find 48 = .ok (.aload_n 0, 1) := by decide +kernel
theorem dX6_find_49 : decode cX6_find 49 = .ok (.getfield 15, 3) := by decide +kernel
theorem dX6_find_52 : decode cX6_find 52 = .ok (.iload 5, 2) := by decide +kernel
theorem dX6_find_54 : decode cX6_find 54 = .ok (.iaload, 1) := by decide +kernel
theorem dX6_find_55 : decode cX6_find 55 = .ok (.istore 6, 2) := by decide +kernel
theorem dX6_find_57 : decode cX6_find 57 = .ok (.iload 6, 2) := by decide +kernel
theorem dX6_find_59 : decode cX6_find 59 = .ok (.iload_n 2, 1) := by decide +kernel
theorem dX6_find_60 : decode cX6_find 60 = .ok (.iconst (-1), 1) := by decide +kernel
theorem dX6_find_61 : decode cX6_find 61 = .ok (.ixor, 1) := by decide +kernel
theorem dX6_find_62 : decode cX6_find 62 = .ok (.iand, 1) := by decide +kernel
theorem dX6_find_63 : decode cX6_find 63 = .ok (.ifCond .ne 11, 3) := by decide +kernel
theorem dX6_find_66 : decode cX6_find 66 = .ok (.aload_n 0, 1) := by decide +kernel
theorem dX6_find_67 : decode cX6_find 67 = .ok (.iload_n 3, 1) := by decide +kernel
theorem dX6_find_68 : decode cX6_find 68 = .ok (.iload 6, 2) := by decide +kernel
theorem dX6_find_70 : decode cX6_find 70 = .ok (.invokevirtual 39, 3) := by decide +kernel
theorem dX6_find_73 : decode cX6_find 73 = .ok (.ireturn, 1) := by decide +kernel
theorem dX6_find_74 : decode cX6_find 74 = .ok (.iconst 0, 1) := by decide +kernel
theorem dX6_find_75 : decode cX6_find 75 = .ok (.istore 7, 2) := by decide +kernel
theorem dX6_find_77 : decode cX6_find 77 = .ok (.iload 7, 2) := by decide +kernel
theorem dX6_find_79 : decode cX6_find 79 = .ok (.aload_n 1, 1) := by decide +kernel
theorem dX6_find_80 : decode cX6_find 80 = .ok (.getfield 43, 3) := by decide +kernel
theorem dX6_find_83 : decode cX6_find 83 = .ok (.if_icmp .ge 68, 3) := by decide +kernel
theorem dX6_find_86 : decode cX6_find 86 = .ok (.aload_n 1, 1) := by decide +kernel
theorem dX6_find_87 : decode cX6_find 87 = .ok (.iload 6, 2) := by decide +kernel
theorem dX6_find_89 : decode cX6_find 89 = .ok (.iload 7, 2) := by decide +kernel
theorem dX6_find_91 : decode cX6_find 91 = .ok (.invokevirtual 46, 3) := by decide +kernel
theorem dX6_find_94 : decode cX6_find 94 = .ok (.istore 8, 2) := by decide +kernel
theorem dX6_find_96 : decode cX6_find 96 = .ok (.aload_n 0, 1) := by decide +kernel
theorem dX6_find_97 : decode cX6_find 97 = .ok (.getfield 18, 3) := by decide +kernel
theorem dX6_find_100 : decode cX6_find 100 = .ok (.iload 8, 2) := by decide +kernel
theorem dX6_find_102 : decode cX6_find 102 = .ok (.iaload, 1) := by decide +kernel
theorem dX6_find_103 : decode cX6_find 103 = .ok (.iconst (-1), 1) := by decide +kernel
theorem dX6_find_104 : decode cX6_find 104 = .ok (.if_icmp .ne 41, 3) := by decide +kernel
theorem dX6_find_107 : decode cX6_find 107 = .ok (.iload 4, 2) := by decide +kernel
theorem dX6_find_109 : decode cX6_find 109 = .ok (.sipush 256, 3) := by decide +kernel
theorem dX6_find_112 : decode cX6_find 112 = .ok (.if_icmp .ge 33, 3) := by decide +kernel
theorem dX6_find_115 : decode cX6_find 115 = .ok (.aload_n 0, 1) := by decide +kernel
theorem dX6_find_116 : decode cX6_find 116 = .ok (.getfield 18, 3) := by decide +kernel
theorem dX6_find_119 : decode cX6_find 119 = .ok (.iload 8, 2) := by decide +kernel
theorem dX6_find_121 : decode cX6_find 121 = .ok (.iload 6, 2) := by decide +kernel
theorem dX6_find_123 : decode cX6_find 123 = .ok (.iastore, 1) := by decide +kernel
theorem dX6_find_124 : decode cX6_find 124 = .ok (.aload_n 0, 1) := by decide +kernel
theorem dX6_find_125 : decode cX6_find 125 = .ok (.getfield 21, 3) := by decide +kernel
theorem dX6_find_128 : decode cX6_find 128 = .ok (.iload 8, 2) := by decide +kernel
theorem dX6_find_130 : decode cX6_find 130 = .ok (.iload 7, 2) := by decide +kernel
theorem dX6_find_132 : decode cX6_find 132 = .ok (.iastore, 1) := by decide +kernel
theorem dX6_find_133 : decode cX6_find 133 = .ok (.aload_n 0, 1) := by decide +kernel
theorem dX6_find_134 : decode cX6_find 134 = .ok (.getfield 15, 3) := by decide +kernel
theorem dX6_find_137 : decode cX6_find 137 = .ok (.iload 4, 2) := by decide +kernel
theorem dX6_find_139 : decode cX6_find 139 = .ok (.iload 8, 2) := by decide +kernel
theorem dX6_find_141 : decode cX6_find 141 = .ok (.iastore, 1) := by decide +kernel
theorem dX6_find_142 : decode cX6_find 142 = .ok (.iinc 4 1, 3) := by decide +kernel
theorem dX6_find_145 : decode cX6_find 145 = .ok (.iinc 7 1, 3) := by decide +kernel
theorem dX6_find_148 : decode cX6_find 148 = .ok (.goto (-71), 3) := by decide +kernel
theorem dX6_find_151 : decode cX6_find 151 = .ok (.iinc 5 1, 3) := by decide +kernel
theorem dX6_find_154 : decode cX6_find 154 = .ok (.goto (-121), 3) := by decide +kernel
theorem dX6_find_157 : decode cX6_find 157 = .ok (.bipush (-2), 2) := by decide +kernel
theorem dX6_find_159 : decode cX6_find 159 = .ok (.ireturn, 1) := by decide +kernel
theorem dX6_keepRow_0 : decode cX6_keepRow 0 = .ok (.aload_n 0, 1) := by decide +kernel
theorem dX6_keepRow_1 : decode cX6_keepRow 1 = .ok (.iconst 0, 1) := by decide +kernel
theorem dX6_keepRow_2 : decode cX6_keepRow 2 = .ok (.putfield 24, 3) := by decide +kernel
theorem dX6_keepRow_5 : decode cX6_keepRow 5 = .ok (.iload_n 2, 1) := by decide +kernel
theorem dX6_keepRow_6 : decode cX6_keepRow 6 = .ok (.istore_n 3, 1) := by decide +kernel
theorem dX6_keepRow_7 : decode cX6_keepRow 7 = .ok (.iload_n 3, 1) := by decide +kernel
theorem dX6_keepRow_8 : decode cX6_keepRow 8 = .ok (.iload_n 1, 1) := by decide +kernel
theorem dX6_keepRow_9 : decode cX6_keepRow 9 = .ok (.if_icmp .eq 33, 3) := by decide +kernel
theorem dX6_keepRow_12 : decode cX6_keepRow 12 = .ok (.aload_n 0, 1) := by decide +kernel
theorem dX6_keepRow_13 : decode cX6_keepRow 13 = .ok (.getfield 24, 3) := by decide +kernel
theorem dX6_keepRow_16 : decode cX6_keepRow 16 = .ok (.sipush 256, 3) := by decide +kernel
theorem dX6_keepRow_19 : decode cX6_keepRow 19 = .ok (.if_icmp .ge 23, 3) := by decide +kernel
theorem dX6_keepRow_22 : decode cX6_keepRow 22 = .ok (.aload_n 0, 1) := by decide +kernel
theorem dX6_keepRow_23 : decode cX6_keepRow 23 = .ok (.dup, 1) := by decide +kernel
theorem dX6_keepRow_24 : decode cX6_keepRow 24 = .ok (.getfield 24, 3) := by decide +kernel
theorem dX6_keepRow_27 : decode cX6_keepRow 27 = .ok (.iconst 1, 1) := by decide +kernel
theorem dX6_keepRow_28 : decode cX6_keepRow 28 = .ok (.iadd, 1) := by decide +kernel
theorem dX6_keepRow_29 : decode cX6_keepRow 29 = .ok (.putfield 24, 3) := by decide +kernel
theorem dX6_keepRow_32 : decode cX6_keepRow 32 = .ok (.aload_n 0, 1) := by decide +kernel
theorem dX6_keepRow_33 : decode cX6_keepRow 33 = .ok (.getfield 18, 3) := by decide +kernel
theorem dX6_keepRow_36 : decode cX6_keepRow 36 = .ok (.iload_n 3, 1) := by decide +kernel
theorem dX6_keepRow_37 : decode cX6_keepRow 37 = .ok (.iaload, 1) := by decide +kernel
theorem dX6_keepRow_38 : decode cX6_keepRow 38 = .ok (.istore_n 3, 1) := by decide +kernel
theorem dX6_keepRow_39 : decode cX6_keepRow 39 = .ok (.goto (-32), 3) := by decide +kernel
theorem dX6_keepRow_42 : decode cX6_keepRow 42 = .ok (.iload_n 2, 1) := by decide +kernel
theorem dX6_keepRow_43 : decode cX6_keepRow 43 = .ok (.istore_n 3, 1) := by decide +kernel
theorem dX6_keepRow_44 : decode cX6_keepRow 44 = .ok (.aload_n 0, 1) := by decide +kernel
theorem dX6_keepRow_45 : decode cX6_keepRow 45 = .ok (.getfield 24, 3) := by decide +kernel
theorem dX6_keepRow_48 : decode cX6_keepRow 48 = .ok (.iconst 1, 1) := by decide +kernel
theorem dX6_keepRow_49 : decode cX6_keepRow 49 = .ok (.isub, 1) := by decide +kernel
theorem dX6_keepRow_50 : decode cX6_keepRow 50 = .ok (.istore 4, 2) := by decide +kernel
theorem dX6_keepRow_52 : decode cX6_keepRow 52 = .ok (.iload 4, 2) := by decide +kernel
theorem dX6_keepRow_54 : decode cX6_keepRow 54 = .ok (.ifCond .lt 29, 3) := by decide +kernel
theorem dX6_keepRow_57 : decode cX6_keepRow 57 = .ok (.aload_n 0, 1) := by decide +kernel
theorem dX6_keepRow_58 : decode cX6_keepRow 58 = .ok (.getfield 9, 3) := by decide +kernel
theorem dX6_keepRow_61 : decode cX6_keepRow 61 = .ok (.iload 4, 2) := by decide +kernel
theorem dX6_keepRow_63 : decode cX6_keepRow 63 = .ok (.aload_n 0, 1) := by decide +kernel
theorem dX6_keepRow_64 : decode cX6_keepRow 64 = .ok (.getfield 21, 3) := by decide +kernel
theorem dX6_keepRow_67 : decode cX6_keepRow 67 = .ok (.iload_n 3, 1) := by decide +kernel
theorem dX6_keepRow_68 : decode cX6_keepRow 68 = .ok (.iaload, 1) := by decide +kernel
theorem dX6_keepRow_69 : decode cX6_keepRow 69 = .ok (.iastore, 1) := by decide +kernel
theorem dX6_keepRow_70 : decode cX6_keepRow 70 = .ok (.aload_n 0, 1) := by decide +kernel
theorem dX6_keepRow_71 : decode cX6_keepRow 71 = .ok (.getfield 18, 3) := by decide +kernel
theorem dX6_keepRow_74 : decode cX6_keepRow 74 = .ok (.iload_n 3, 1) := by decide +kernel
theorem dX6_keepRow_75 : decode cX6_keepRow 75 = .ok (.iaload, 1) := by decide +kernel
theorem dX6_keepRow_76 : decode cX6_keepRow 76 = .ok (.istore_n 3, 1) := by decide +kernel
theorem dX6_keepRow_77 : decode cX6_keepRow 77 = .ok (.iinc 4 (-1), 3) := by decide +kernel
theorem dX6_keepRow_80 : decode cX6_keepRow 80 = .ok (.goto (-28), 3) := by decide +kernel
theorem dX6_keepRow_83 : decode cX6_keepRow 83 = .ok (.aload_n 0, 1) := by decide +kernel
theorem dX6_keepRow_84 : decode cX6_keepRow 84 = .ok (.getfield 24, 3) := by decide +kernel
theorem dX6_keepRow_87 : decode cX6_keepRow 87 = .ok (.ireturn, 1) := by decide +kernel
set_option maxRecDepth 20000 in
theorem ggX6_buttonAt_X8_within : GoodIn wsX6_buttonAt wsX8_within := goodIn_r _ [5] rfl (by decide +kernel)
set_option maxRecDepth 20000 in
theorem gX6_buttonAt_X8_within_n49 : GoodIn wsX6_buttonAt (wsX8_within) := ggX6_buttonAt_X8_within
theorem dX6_buttonAt_0 : decode cX6_buttonAt 0 = .ok (.iload_n 1, 1) := by decide +kernel
theorem dX6_buttonAt_1 : decode cX6_buttonAt 1 = .ok (.iconst 0, 1) := by decide +kernel
theorem dX6_buttonAt_2 : decode cX6_buttonAt 2 = .ok (.aload_n 0, 1) := by decide +kernel
theorem dX6_buttonAt_3 : decode cX6_buttonAt 3 = .ok (.getfield 24, 3) := by decide +kernel
theorem dX6_buttonAt_6 : decode cX6_buttonAt 6 = .ok (.iconst 1, 1) := by decide +kernel
theorem dX6_buttonAt_7 : decode cX6_buttonAt 7 = .ok (.isub, 1) := by decide +kernel
theorem dX6_buttonAt_8 : decode cX6_buttonAt 8 = .ok (.invokestatic 49, 3) := by decide +kernel
theorem dX6_buttonAt_11 : decode cX6_buttonAt 11 = .ok (.ifCond .eq 12, 3) := by decide +kernel
theorem dX6_buttonAt_14 : decode cX6_buttonAt 14 = .ok (.aload_n 0, 1) := by decide +kernel
theorem dX6_buttonAt_15 : decode cX6_buttonAt 15 = .ok (.getfield 9, 3) := by decide +kernel
theorem dX6_buttonAt_18 : decode cX6_buttonAt 18 = .ok (.iload_n 1, 1) := by decide +kernel
theorem dX6_buttonAt_19 : decode cX6_buttonAt 19 = .ok (.iaload, 1) := by decide +kernel
theorem dX6_buttonAt_20 : decode cX6_buttonAt 20 = .ok (.goto 4, 3) := by decide +kernel
theorem dX6_buttonAt_23 : decode cX6_buttonAt 23 = .ok (.iconst (-1), 1) := by decide +kernel
theorem dX6_buttonAt_24 : decode cX6_buttonAt 24 = .ok (.ireturn, 1) := by decide +kernel
theorem dX7_init_0 : decode cX7_init 0 = .ok (.aload_n 0, 1) := by decide +kernel
theorem dX7_init_1 : decode cX7_init 1 = .ok (.invokespecial 3, 3) := by decide +kernel
theorem dX7_init_4 : decode cX7_init 4 = .ok (.aload_n 0, 1) := by decide +kernel
theorem dX7_init_5 : decode cX7_init 5 = .ok (.bipush 120, 2) := by decide +kernel
theorem dX7_init_7 : decode cX7_init 7 = .ok (.newarray .int, 2) := by decide +kernel
theorem dX7_init_9 : decode cX7_init 9 = .ok (.putfield 9, 3) := by decide +kernel
theorem dX7_init_12 : decode cX7_init 12 = .ok (.aload_n 0, 1) := by decide +kernel
theorem dX7_init_13 : decode cX7_init 13 = .ok (.iconst 0, 1) := by decide +kernel
theorem dX7_init_14 : decode cX7_init 14 = .ok (.putfield 15, 3) := by decide +kernel
theorem dX7_init_17 : decode cX7_init 17 = .ok (.return_, 1) := by decide +kernel
theorem dX7_append_0 : decode cX7_append 0 = .ok (.aload_n 0, 1) := by decide +kernel
theorem dX7_append_1 : decode cX7_append 1 = .ok (.getfield 15, 3) := by decide +kernel
theorem dX7_append_4 : decode cX7_append 4 = .ok (.bipush 120, 2) := by decide +kernel
theorem dX7_append_6 : decode cX7_append 6 = .ok (.if_icmp .ge 23, 3) := by decide +kernel
theorem dX7_append_9 : decode cX7_append 9 = .ok (.aload_n 0, 1) := by decide +kernel
theorem dX7_append_10 : decode cX7_append 10 = .ok (.getfield 9, 3) := by decide +kernel
theorem dX7_append_13 : decode cX7_append 13 = .ok (.aload_n 0, 1) := by decide +kernel
theorem dX7_append_14 : decode cX7_append 14 = .ok (.getfield 15, 3) := by decide +kernel
theorem dX7_append_17 : decode cX7_append 17 = .ok (.iload_n 1, 1) := by decide +kernel
theorem dX7_append_18 : decode cX7_append 18 = .ok (.iastore, 1) := by decide +kernel
theorem dX7_append_19 : decode cX7_append 19 = .ok (.aload_n 0, 1) := by decide +kernel
theorem dX7_append_20 : decode cX7_append 20 = .ok (.dup, 1) := by decide +kernel
theorem dX7_append_21 : decode cX7_append 21 = .ok (.getfield 15, 3) := by decide +kernel
theorem dX7_append_24 : decode cX7_append 24 = .ok (.iconst 1, 1) := by decide +kernel
theorem dX7_append_25 : decode cX7_append 25 = .ok (.iadd, 1) := by decide +kernel
theorem dX7_append_26 : decode cX7_append 26 = .ok (.putfield 15, 3) := by decide +kernel
theorem dX7_append_29 : decode cX7_append 29 = .ok (.return_, 1) := by decide +kernel
theorem dX7_lengthenLast_0 : decode cX7_lengthenLast 0 = .ok (.aload_n 0, 1) := by decide +kernel
theorem dX7_lengthenLast_1 : decode cX7_lengthenLast 1 = .ok (.getfield 15, 3) := by decide +kernel
theorem dX7_lengthenLast_4 : decode cX7_lengthenLast 4 = .ok (.ifCond .le 18, 3) := by decide +kernel
theorem dX7_lengthenLast_7 : decode cX7_lengthenLast 7 = .ok (.aload_n 0, 1) := by decide +kernel
theorem dX7_lengthenLast_8 : decode cX7_lengthenLast 8 = .ok (.getfield 9, 3) := by decide +kernel
theorem dX7_lengthenLast_11 : decode cX7_lengthenLast 11 = .ok (.aload_n 0, 1) := by decide +kernel
theorem dX7_lengthenLast_12 : decode cX7_lengthenLast 12 = .ok (.getfield 15, 3) := by decide +kernel
theorem dX7_lengthenLast_15 : decode cX7_lengthenLast 15 = .ok (.iconst 1, 1) := by decide +kernel
theorem dX7_lengthenLast_16 : decode cX7_lengthenLast 16 = .ok (.isub, 1) := by decide +kernel
theorem dX7_lengthenLast_17 : decode cX7_lengthenLast 17 = .ok (.dup2, 1) := by decide +kernel
theorem dX7_lengthenLast_18 : decode cX7_lengthenLast 18 = .ok (.iaload, 1) := by decide +kernel
theorem dX7_lengthenLast_19 : decode cX7_lengthenLast 19 = .ok (.iload_n 1, 1) := by decide +kernel
theorem dX7_lengthenLast_20 : decode cX7_lengthenLast 20 = .ok (.iadd, 1) := by decide +kernel
theorem dX7_lengthenLast_21 : decode cX7_lengthenLast 21 = .ok (.iastore, 1) := by decide +kernel
theorem dX7_lengthenLast_22 : decode cX7_lengthenLast 22 = .ok (.return_, 1) := by decide +kernel
set_option maxRecDepth 20000 in
theorem ggX7_at_X8_within : GoodIn wsX7_at wsX8_within := goodIn_r _ [5] rfl (by decide +kernel)
set_option maxRecDepth 20000 in
theorem gX7_at_X8_within_n19 : GoodIn wsX7_at (wsX8_within) := ggX7_at_X8_within
theorem dX7_at_0 : decode cX7_at 0 = .ok (.iload_n 1, 1) := by decide +kernel
theorem dX7_at_1 : decode cX7_at 1 = .ok (.iconst 0, 1) := by decide +kernel
theorem dX7_at_2 : decode cX7_at 2 = .ok (.aload_n 0, 1) := by decide +kernel
theorem dX7_at_3 : decode cX7_at 3 = .ok (.getfield 15, 3) := by decide +kernel
theorem dX7_at_6 : decode cX7_at 6 = .ok (.iconst 1, 1) := by decide +kernel
theorem dX7_at_7 : decode cX7_at 7 = .ok (.isub, 1) := by decide +kernel
theorem dX7_at_8 : decode cX7_at 8 = .ok (.invokestatic 19, 3) := by decide +kernel
theorem dX7_at_11 : decode cX7_at 11 = .ok (.ifCond .eq 12, 3) := by decide +kernel
theorem dX7_at_14 : decode cX7_at 14 = .ok (.aload_n 0, 1) := by decide +kernel
theorem dX7_at_15 : decode cX7_at 15 = .ok (.getfield 9, 3) := by decide +kernel
theorem dX7_at_18 : decode cX7_at 18 = .ok (.iload_n 1, 1) := by decide +kernel
theorem dX7_at_19 : decode cX7_at 19 = .ok (.iaload, 1) := by decide +kernel
theorem dX7_at_20 : decode cX7_at 20 = .ok (.goto 4, 3) := by decide +kernel
theorem dX7_at_23 : decode cX7_at 23 = .ok (.iconst 0, 1) := by decide +kernel
theorem dX7_at_24 : decode cX7_at 24 = .ok (.ireturn, 1) := by decide +kernel
