set_option maxHeartbeats 4000000 in
set_option maxRecDepth 100000 in
theorem g_isTime (l : Launch) (D : va_G) (sz : Nat) (v : Int32)  : Ci l yX8_isTime wsX8_isTime ({ frames := 1, cells := 0, slots := 0, locals := 22 } : Room) D [.int v] [] [] sz (fun (r : Int32) => fun (_ : Unit) => r = wi v 1 20000) (fun (_ : Unit) => []) (fun (_ : Unit) => []) := by
  refine ct_i (cc := cX8_isTime) (maxL := 1) (ret := (some .boolean)) (by decide) rfl (Nat.le_of_ble_eq_true rfl) ?_
  intro p e s m below meth c A ls H hx hb hr hts hown hml hlocks hin hA hS hP hK hD hNW hl hAe hsz
  have hl : lv_has ls 1 [(0, .int v)] := hl
  refine lv_iload_n hx hb dX8_isTime_0 rfl (lv_at hl 0 rfl) ?_
  refine lv_iconst (v := 1) hx hb dX8_isTime_1 (by decide) ?_
  refine lv_sipush (v := 20000) hx hb dX8_isTime_2 (by decide) ?_
  refine go_i (wr := []) (tysr := []) hP hD hS hA hK [] [] [] rfl rfl (by decide) (by decide) rfl (va_runS (As := [.int v, .int 1, .int 20000]) (rest := []) ⟨hx, hb, hml, hown, hts⟩ (c_X8_within l D H.size v 1 20000 ) (va_cwS 3 hts gX8_isTime_X8_within rfl rfl rfl (by decide +kernel) ⟨Nat.le_of_ble_eq_true rfl, Nat.le_of_ble_eq_true rfl⟩) (st_preS hP hD hK hNW [] [] rfl rfl (by decide) rfl) rfl rfl hl.1 rfl (lv_room (Nat.le_of_ble_eq_true rfl)) dX8_isTime_5 ⟨(Nat.le_of_ble_eq_true rfl), (Nat.le_of_ble_eq_true rfl)⟩) (fun r_1 u H locs hw hP hD hK hS => ?_)
  have hw : r_1 = wi v 1 20000 := hw
  subst hw
  have hP : va_P D vwCl [] H := hP
  have hD : va_D A [] := hD
  have hK : va_K D vwCl [] s := hK
  exact ret_i hx hb hr hlocks (wi_nar _ _ _) (u := ()) rfl (hP.sub [] rfl) (hK.sub [] rfl) (hD.sub [] (by decide) rfl) hS (Nat.le_of_ble_eq_true rfl) (Nat.le_of_ble_eq_true rfl) dX8_isTime_8
set_option maxHeartbeats 4000000 in
set_option maxRecDepth 100000 in
theorem g_fault (l : Launch) (D : va_G) (sz : Nat) (v : Int32)  : Ci l yX8_fault wsX8_fault ({ frames := 0, cells := 0, slots := 0, locals := 0 } : Room) D [.int v] [] [] sz (fun (r : Int32) => fun (_ : Unit) => True) (fun (_ : Unit) => []) (fun (_ : Unit) => []) := by
  refine ct_i (cc := cX8_fault) (maxL := 1) (ret := (some .int)) (by decide) rfl (Nat.le_of_ble_eq_true rfl) ?_
  intro p e s m below meth c A ls H hx hb hr hts hown hml hlocks hin hA hS hP hK hD hNW hl hAe hsz
  have hl : lv_has ls 1 [(0, .int v)] := hl
  refine lv_bipush (v := (-2)) hx hb dX8_fault_0 (by decide) ?_
  refine lv_iload_n hx hb dX8_fault_2 rfl (lv_at hl 0 rfl) ?_
  refine lv_isub hx hb dX8_fault_3 ?_
  refine lv_topi (fun y_1 _ => ?_)
  exact ret_i hx hb hr hlocks rfl (u := ()) trivial (hP.sub [] rfl) (hK.sub [] rfl) (hD.sub [] (by decide) rfl) hS (Nat.le_of_ble_eq_true rfl) (Nat.le_of_ble_eq_true rfl) dX8_fault_4
set_option maxHeartbeats 4000000 in
set_option maxRecDepth 100000 in
theorem g_bitCount (l : Launch) (D : va_G) (sz : Nat) (v : Int32)  : Ci l yJ6_bitCount_0f7a4 wsJ6_bitCount_0f7a4 ({ frames := 0, cells := 0, slots := 0, locals := 0 } : Room) D [.int v] [] [] sz (fun (r : Int32) => fun (_ : Unit) => True) (fun (_ : Unit) => []) (fun (_ : Unit) => []) := by
  refine ct_i (cc := cJ6_bitCount_0f7a4) (maxL := 1) (ret := (some .int)) (by decide) rfl (Nat.le_of_ble_eq_true rfl) ?_
  intro p e s m below meth c A ls H hx hb hr hts hown hml hlocks hin hA hS hP hK hD hNW hl hAe hsz
  have hl : lv_has ls 1 [(0, .int v)] := hl
  refine lv_iload_n hx hb dJ6_bitCount_0f7a4_0 rfl (lv_at hl 0 rfl) ?_
  refine lv_iload_n hx hb dJ6_bitCount_0f7a4_1 rfl (lv_at hl 0 rfl) ?_
  refine lv_iconst (v := 1) hx hb dJ6_bitCount_0f7a4_2 (by decide) ?_
  refine lv_iushr hx hb dJ6_bitCount_0f7a4_3 rfl ?_
  refine lv_topi (fun y_1 _ => ?_)
  refine lv_ldcw hx hb hown (hts _ (List.mem_of_getElem? (i := 1) rfl)) dJ6_bitCount_0f7a4_4 ?_
  refine lv_topi (fun y_2 _ => ?_)
  refine lv_iand hx hb dJ6_bitCount_0f7a4_7 ?_
  refine lv_topi (fun y_3 _ => ?_)
  refine lv_isub hx hb dJ6_bitCount_0f7a4_8 ?_
  refine lv_topi (fun y_4 _ => ?_)
  refine lv_istore_n (lv' := [(0, .int y_4)]) hx hb dJ6_bitCount_0f7a4_9 rfl hl (by decide) rfl (fun ls hl => ?_)
  refine lv_iload_n hx hb dJ6_bitCount_0f7a4_10 rfl (lv_at hl 0 rfl) ?_
  refine lv_ldcw hx hb hown (hts _ (List.mem_of_getElem? (i := 2) rfl)) dJ6_bitCount_0f7a4_11 ?_
  refine lv_topi (fun y_5 _ => ?_)
  refine lv_iand hx hb dJ6_bitCount_0f7a4_14 ?_
  refine lv_topi (fun y_6 _ => ?_)
  refine lv_iload_n hx hb dJ6_bitCount_0f7a4_15 rfl (lv_at hl 0 rfl) ?_
  refine lv_iconst (v := 2) hx hb dJ6_bitCount_0f7a4_16 (by decide) ?_
  refine lv_iushr hx hb dJ6_bitCount_0f7a4_17 rfl ?_
  refine lv_topi (fun y_7 _ => ?_)
  refine lv_ldcw hx hb hown (hts _ (List.mem_of_getElem? (i := 2) rfl)) dJ6_bitCount_0f7a4_18 ?_
  refine lv_topi (fun y_8 _ => ?_)
  refine lv_iand hx hb dJ6_bitCount_0f7a4_21 ?_
  refine lv_topi (fun y_9 _ => ?_)
  refine lv_iadd hx hb dJ6_bitCount_0f7a4_22 ?_
  refine lv_topi (fun y_10 _ => ?_)
  refine lv_istore_n (lv' := [(0, .int y_10)]) hx hb dJ6_bitCount_0f7a4_23 rfl hl (by decide) rfl (fun ls hl => ?_)
  refine lv_iload_n hx hb dJ6_bitCount_0f7a4_24 rfl (lv_at hl 0 rfl) ?_
  refine lv_iload_n hx hb dJ6_bitCount_0f7a4_25 rfl (lv_at hl 0 rfl) ?_
  refine lv_iconst (v := 4) hx hb dJ6_bitCount_0f7a4_26 (by decide) ?_
  refine lv_iushr hx hb dJ6_bitCount_0f7a4_27 rfl ?_
  refine lv_topi (fun y_11 _ => ?_)
  refine lv_iadd hx hb dJ6_bitCount_0f7a4_28 ?_
  refine lv_topi (fun y_12 _ => ?_)
  refine lv_ldcw hx hb hown (hts _ (List.mem_of_getElem? (i := 3) rfl)) dJ6_bitCount_0f7a4_29 ?_
  refine lv_topi (fun y_13 _ => ?_)
  refine lv_iand hx hb dJ6_bitCount_0f7a4_32 ?_
  refine lv_topi (fun y_14 _ => ?_)
  refine lv_istore_n (lv' := [(0, .int y_14)]) hx hb dJ6_bitCount_0f7a4_33 rfl hl (by decide) rfl (fun ls hl => ?_)
  refine lv_iload_n hx hb dJ6_bitCount_0f7a4_34 rfl (lv_at hl 0 rfl) ?_
  refine lv_iload_n hx hb dJ6_bitCount_0f7a4_35 rfl (lv_at hl 0 rfl) ?_
  refine lv_bipush (v := 8) hx hb dJ6_bitCount_0f7a4_36 (by decide) ?_
  refine lv_iushr hx hb dJ6_bitCount_0f7a4_38 rfl ?_
  refine lv_topi (fun y_15 _ => ?_)
  refine lv_iadd hx hb dJ6_bitCount_0f7a4_39 ?_
  refine lv_topi (fun y_16 _ => ?_)
  refine lv_istore_n (lv' := [(0, .int y_16)]) hx hb dJ6_bitCount_0f7a4_40 rfl hl (by decide) rfl (fun ls hl => ?_)
  refine lv_iload_n hx hb dJ6_bitCount_0f7a4_41 rfl (lv_at hl 0 rfl) ?_
  refine lv_iload_n hx hb dJ6_bitCount_0f7a4_42 rfl (lv_at hl 0 rfl) ?_
  refine lv_bipush (v := 16) hx hb dJ6_bitCount_0f7a4_43 (by decide) ?_
  refine lv_iushr hx hb dJ6_bitCount_0f7a4_45 rfl ?_
  refine lv_topi (fun y_17 _ => ?_)
  refine lv_iadd hx hb dJ6_bitCount_0f7a4_46 ?_
  refine lv_topi (fun y_18 _ => ?_)
  refine lv_istore_n (lv' := [(0, .int y_18)]) hx hb dJ6_bitCount_0f7a4_47 rfl hl (by decide) rfl (fun ls hl => ?_)
  refine lv_iload_n hx hb dJ6_bitCount_0f7a4_48 rfl (lv_at hl 0 rfl) ?_
  refine lv_bipush (v := 63) hx hb dJ6_bitCount_0f7a4_49 (by decide) ?_
  refine lv_iand hx hb dJ6_bitCount_0f7a4_51 ?_
  refine lv_topi (fun y_19 _ => ?_)
  exact ret_i hx hb hr hlocks rfl (u := ()) trivial (hP.sub [] rfl) (hK.sub [] rfl) (hD.sub [] (by decide) rfl) hS (Nat.le_of_ble_eq_true rfl) (Nat.le_of_ble_eq_true rfl) dJ6_bitCount_0f7a4_52
set_option maxHeartbeats 4000000 in
set_option maxRecDepth 100000 in
theorem g_fits (l : Launch) (D : va_G) (sz : Nat) (t : Int32) (w : Int32) (mi : Int32)  : Ci l yX8_fits wsX8_fits ({ frames := 2, cells := 0, slots := 0, locals := 42 } : Room) D [.int t, .int w, .int mi] [] [] sz (fun (r : Int32) => fun (_ : Unit) => True) (fun (_ : Unit) => []) (fun (_ : Unit) => []) := by
  refine ct_i (cc := cX8_fits) (maxL := 3) (ret := (some .boolean)) (by decide) rfl (Nat.le_of_ble_eq_true rfl) ?_
  intro p e s m below meth c A ls H hx hb hr hts hown hml hlocks hin hA hS hP hK hD hNW hl hAe hsz
  have hl : lv_has ls 3 [(0, .int t), (1, .int w), (2, .int mi)] := hl
  refine lv_iload_n hx hb dX8_fits_0 rfl (lv_at hl 0 rfl) ?_
  refine go_i (wr := []) (tysr := []) hP hD hS hA hK [] [] [] rfl rfl (by decide) (by decide) rfl (va_runS (As := [.int t]) (rest := []) ⟨hx, hb, hml, hown, hts⟩ (g_isTime l D H.size t ) (va_cwS 1 hts gX8_fits_X8_isTime rfl rfl rfl (by decide +kernel) ⟨Nat.le_of_ble_eq_true rfl, Nat.le_of_ble_eq_true rfl⟩) (st_preS hP hD hK hNW [] [] rfl rfl (by decide) rfl) rfl rfl hl.1 rfl (lv_room (Nat.le_of_ble_eq_true rfl)) dX8_fits_1 ⟨(Nat.le_of_ble_eq_true rfl), (Nat.le_of_ble_eq_true rfl)⟩) (fun r_1 u H locs hw hP hD hK hS => ?_)
  have hw : r_1 = wi t 1 20000 := hw
  subst hw
  have hP : va_P D vwCl [] H := hP
  have hD : va_D A [] := hD
  have hK : va_K D vwCl [] s := hK
  refine lv_if_eq (tgt := 26) hx hb dX8_fits_4 (by decide) (fun c_2 => ?_) (fun c_2 => ?_)
  · refine lv_iconst (v := 0) hx hb dX8_fits_26 (by decide) ?_
    exact ret_i hx hb hr hlocks rfl (u := ()) trivial (hP.sub [] rfl) (hK.sub [] rfl) (hD.sub [] (by decide) rfl) hS (Nat.le_of_ble_eq_true rfl) (Nat.le_of_ble_eq_true rfl) dX8_fits_27
  refine lv_iload_n hx hb dX8_fits_7 rfl (lv_at hl 0 rfl) ?_
  refine lv_iload_n hx hb dX8_fits_8 rfl (lv_at hl 1 rfl) ?_
  refine lv_isub hx hb dX8_fits_9 ?_
  refine lv_topi (fun y_3 _ => ?_)
  refine va_mabs hx hb (hml.trans hl.1.symm) hown (hts (.methodLink RX8 202 Lib.Math.abs.name) (List.mem_of_getElem? (i := 1) rfl)) (hts (.static Lib.Math.abs.name) (List.mem_of_getElem? (i := 2) rfl)) (hts (.initialized "java/lang/Math") (List.mem_of_getElem? (i := 3) rfl)) (hts (.code Lib.Math.abs.name Lib.Math.abs.code 1 (some .int)) (List.mem_of_getElem? (i := 4) rfl)) (Nat.le_of_ble_eq_true rfl) (Nat.le_of_ble_eq_true rfl) (Nat.le_of_ble_eq_true rfl) (Nat.le_of_ble_eq_true rfl) dX8_fits_10 ?_
  refine lv_bipush (v := 100) hx hb dX8_fits_13 (by decide) ?_
  refine lv_imul hx hb dX8_fits_15 ?_
  refine lv_topi (fun y_4 _ => ?_)
  refine lv_iload_n hx hb dX8_fits_16 rfl (lv_at hl 2 rfl) ?_
  refine lv_iload_n hx hb dX8_fits_17 rfl (lv_at hl 1 rfl) ?_
  refine lv_imul hx hb dX8_fits_18 ?_
  refine lv_topi (fun y_5 _ => ?_)
  refine lv_icmp_gt (tgt := 26) hx hb dX8_fits_19 (by decide) (fun c_6 => ?_) (fun c_6 => ?_)
  · refine lv_iconst (v := 0) hx hb dX8_fits_26 (by decide) ?_
    exact ret_i hx hb hr hlocks rfl (u := ()) trivial (hP.sub [] rfl) (hK.sub [] rfl) (hD.sub [] (by decide) rfl) hS (Nat.le_of_ble_eq_true rfl) (Nat.le_of_ble_eq_true rfl) dX8_fits_27
  refine lv_iconst (v := 1) hx hb dX8_fits_22 (by decide) ?_
  refine lv_goto (tgt := 27) hx hb dX8_fits_23 (by decide) ?_
  exact ret_i hx hb hr hlocks rfl (u := ()) trivial (hP.sub [] rfl) (hK.sub [] rfl) (hD.sub [] (by decide) rfl) hS (Nat.le_of_ble_eq_true rfl) (Nat.le_of_ble_eq_true rfl) dX8_fits_27
set_option maxHeartbeats 4000000 in
set_option maxRecDepth 100000 in
theorem g_nearerOf (l : Launch) (D : va_G) (sz : Nat) (t : Int32) (w : Int32) (x : Int32) (mi : Int32)  : Ci l yX8_nearerOf wsX8_nearerOf ({ frames := 3, cells := 0, slots := 0, locals := 64 } : Room) D [.int t, .int w, .int x, .int mi] [] [] sz (fun (r : Int32) => fun (_ : Unit) => r = 0 ∨ r = 1 ∨ r = -1) (fun (_ : Unit) => []) (fun (_ : Unit) => []) := by
  refine ct_i (cc := cX8_nearerOf) (maxL := 6) (ret := (some .int)) (by decide) rfl (Nat.le_of_ble_eq_true rfl) ?_
  intro p e s m below meth c A ls H hx hb hr hts hown hml hlocks hin hA hS hP hK hD hNW hl hAe hsz
  have hl : lv_has ls 6 [(0, .int t), (1, .int w), (2, .int x), (3, .int mi)] := hl
  refine lv_iload_n hx hb dX8_nearerOf_0 rfl (lv_at hl 0 rfl) ?_
  refine lv_iload_n hx hb dX8_nearerOf_1 rfl (lv_at hl 1 rfl) ?_
  refine lv_iload_n hx hb dX8_nearerOf_2 rfl (lv_at hl 3 rfl) ?_
  refine go_i (wr := []) (tysr := []) hP hD hS hA hK [] [] [] rfl rfl (by decide) (by decide) rfl (va_runS (As := [.int t, .int w, .int mi]) (rest := []) ⟨hx, hb, hml, hown, hts⟩ (g_fits l D H.size t w mi ) (va_cwS 3 hts gX8_nearerOf_X8_fits rfl rfl rfl (by decide +kernel) ⟨Nat.le_of_ble_eq_true rfl, Nat.le_of_ble_eq_true rfl⟩) (st_preS hP hD hK hNW [] [] rfl rfl (by decide) rfl) rfl rfl hl.1 rfl (lv_room (Nat.le_of_ble_eq_true rfl)) dX8_nearerOf_3 ⟨(Nat.le_of_ble_eq_true rfl), (Nat.le_of_ble_eq_true rfl)⟩) (fun r_1 u H locs hw hP hD hK hS => ?_)
  have hP : va_P D vwCl [] H := hP
  have hD : va_D A [] := hD
  have hK : va_K D vwCl [] s := hK
  refine lv_istore (lv' := [(4, .int r_1), (0, .int t), (1, .int w), (2, .int x), (3, .int mi)]) hx hb dX8_nearerOf_6 hl (by decide) rfl (fun ls hl => ?_)
  refine lv_iload_n hx hb dX8_nearerOf_8 rfl (lv_at hl 1 rfl) ?_
  refine lv_iload_n hx hb dX8_nearerOf_9 rfl (lv_at hl 3 rfl) ?_
  refine lv_iload_n hx hb dX8_nearerOf_10 rfl (lv_at hl 4 rfl) ?_
  refine go_i (wr := []) (tysr := []) hP hD hS hA hK [] [] [] rfl rfl (by decide) (by decide) rfl (va_runS (As := [.int t, .int x, .int mi]) (rest := []) ⟨hx, hb, hml, hown, hts⟩ (g_fits l D H.size t x mi ) (va_cwS 3 hts gX8_nearerOf_X8_fits rfl rfl rfl (by decide +kernel) ⟨Nat.le_of_ble_eq_true rfl, Nat.le_of_ble_eq_true rfl⟩) (st_preS hP hD hK hNW [] [] rfl rfl (by decide) rfl) rfl rfl hl.1 rfl (lv_room (Nat.le_of_ble_eq_true rfl)) dX8_nearerOf_11 ⟨(Nat.le_of_ble_eq_true rfl), (Nat.le_of_ble_eq_true rfl)⟩) (fun r_2 u H locs hw hP hD hK hS => ?_)
  have hP : va_P D vwCl [] H := hP
  have hD : va_D A [] := hD
  have hK : va_K D vwCl [] s := hK
  refine lv_istore (lv' := [(5, .int r_2), (4, .int r_1), (0, .int t), (1, .int w), (2, .int x), (3, .int mi)]) hx hb dX8_nearerOf_14 hl (by decide) rfl (fun ls hl => ?_)
  refine lv_iload hx hb dX8_nearerOf_16 (lv_at hl 1 rfl) ?_
  refine lv_if_eq (tgt := 47) hx hb dX8_nearerOf_18 (by decide) (fun c_3 => ?_) (fun c_3 => ?_)
  · refine lv_iload hx hb dX8_nearerOf_47 (lv_at hl 1 rfl) ?_
    refine lv_if_eq (tgt := 54) hx hb dX8_nearerOf_49 (by decide) (fun c_4 => ?_) (fun c_4 => ?_)
    · refine lv_iload hx hb dX8_nearerOf_54 (lv_at hl 0 rfl) ?_
      refine lv_if_eq (tgt := 63) hx hb dX8_nearerOf_56 (by decide) (fun c_5 => ?_) (fun c_5 => ?_)
      · refine lv_iconst (v := (-1)) hx hb dX8_nearerOf_63 (by decide) ?_
        exact ret_i hx hb hr hlocks rfl (u := ()) (Or.inr (Or.inr rfl)) (hP.sub [] rfl) (hK.sub [] rfl) (hD.sub [] (by decide) rfl) hS (Nat.le_of_ble_eq_true rfl) (Nat.le_of_ble_eq_true rfl) dX8_nearerOf_64
      refine lv_iconst (v := 1) hx hb dX8_nearerOf_59 (by decide) ?_
      refine lv_goto (tgt := 64) hx hb dX8_nearerOf_60 (by decide) ?_
      exact ret_i hx hb hr hlocks rfl (u := ()) (Or.inr (Or.inl rfl)) (hP.sub [] rfl) (hK.sub [] rfl) (hD.sub [] (by decide) rfl) hS (Nat.le_of_ble_eq_true rfl) (Nat.le_of_ble_eq_true rfl) dX8_nearerOf_64
    refine lv_iconst (v := 0) hx hb dX8_nearerOf_52 (by decide) ?_
    exact ret_i hx hb hr hlocks rfl (u := ()) (Or.inl rfl) (hP.sub [] rfl) (hK.sub [] rfl) (hD.sub [] (by decide) rfl) hS (Nat.le_of_ble_eq_true rfl) (Nat.le_of_ble_eq_true rfl) dX8_nearerOf_53
  refine lv_iload hx hb dX8_nearerOf_21 (lv_at hl 0 rfl) ?_
  refine lv_if_eq (tgt := 47) hx hb dX8_nearerOf_23 (by decide) (fun c_6 => ?_) (fun c_6 => ?_)
  · refine lv_iload hx hb dX8_nearerOf_47 (lv_at hl 1 rfl) ?_
    refine lv_if_eq (tgt := 54) hx hb dX8_nearerOf_49 (by decide) (fun c_7 => ?_) (fun c_7 => ?_)
    · refine lv_iload hx hb dX8_nearerOf_54 (lv_at hl 0 rfl) ?_
      refine lv_if_eq (tgt := 63) hx hb dX8_nearerOf_56 (by decide) (fun c_8 => ?_) (fun c_8 => ?_)
      · refine lv_iconst (v := (-1)) hx hb dX8_nearerOf_63 (by decide) ?_
        exact ret_i hx hb hr hlocks rfl (u := ()) (Or.inr (Or.inr rfl)) (hP.sub [] rfl) (hK.sub [] rfl) (hD.sub [] (by decide) rfl) hS (Nat.le_of_ble_eq_true rfl) (Nat.le_of_ble_eq_true rfl) dX8_nearerOf_64
      refine lv_iconst (v := 1) hx hb dX8_nearerOf_59 (by decide) ?_
      refine lv_goto (tgt := 64) hx hb dX8_nearerOf_60 (by decide) ?_
      exact ret_i hx hb hr hlocks rfl (u := ()) (Or.inr (Or.inl rfl)) (hP.sub [] rfl) (hK.sub [] rfl) (hD.sub [] (by decide) rfl) hS (Nat.le_of_ble_eq_true rfl) (Nat.le_of_ble_eq_true rfl) dX8_nearerOf_64
    refine lv_iconst (v := 0) hx hb dX8_nearerOf_52 (by decide) ?_
    exact ret_i hx hb hr hlocks rfl (u := ()) (Or.inl rfl) (hP.sub [] rfl) (hK.sub [] rfl) (hD.sub [] (by decide) rfl) hS (Nat.le_of_ble_eq_true rfl) (Nat.le_of_ble_eq_true rfl) dX8_nearerOf_53
  refine lv_iload_n hx hb dX8_nearerOf_26 rfl (lv_at hl 2 rfl) ?_
  refine lv_iload_n hx hb dX8_nearerOf_27 rfl (lv_at hl 4 rfl) ?_
  refine lv_isub hx hb dX8_nearerOf_28 ?_
  refine lv_topi (fun y_9 _ => ?_)
  refine va_mabs hx hb (hml.trans hl.1.symm) hown (hts (.methodLink RX8 202 Lib.Math.abs.name) (List.mem_of_getElem? (i := 1) rfl)) (hts (.static Lib.Math.abs.name) (List.mem_of_getElem? (i := 2) rfl)) (hts (.initialized "java/lang/Math") (List.mem_of_getElem? (i := 3) rfl)) (hts (.code Lib.Math.abs.name Lib.Math.abs.code 1 (some .int)) (List.mem_of_getElem? (i := 4) rfl)) (Nat.le_of_ble_eq_true rfl) (Nat.le_of_ble_eq_true rfl) (Nat.le_of_ble_eq_true rfl) (Nat.le_of_ble_eq_true rfl) dX8_nearerOf_29 ?_
  refine lv_iload_n hx hb dX8_nearerOf_32 rfl (lv_at hl 2 rfl) ?_
  refine lv_iload_n hx hb dX8_nearerOf_33 rfl (lv_at hl 3 rfl) ?_
  refine lv_isub hx hb dX8_nearerOf_34 ?_
  refine lv_topi (fun y_10 _ => ?_)
  refine va_mabs hx hb (hml.trans hl.1.symm) hown (hts (.methodLink RX8 202 Lib.Math.abs.name) (List.mem_of_getElem? (i := 1) rfl)) (hts (.static Lib.Math.abs.name) (List.mem_of_getElem? (i := 2) rfl)) (hts (.initialized "java/lang/Math") (List.mem_of_getElem? (i := 3) rfl)) (hts (.code Lib.Math.abs.name Lib.Math.abs.code 1 (some .int)) (List.mem_of_getElem? (i := 4) rfl)) (Nat.le_of_ble_eq_true rfl) (Nat.le_of_ble_eq_true rfl) (Nat.le_of_ble_eq_true rfl) (Nat.le_of_ble_eq_true rfl) dX8_nearerOf_35 ?_
  refine lv_icmp_ge (tgt := 45) hx hb dX8_nearerOf_38 (by decide) (fun c_11 => ?_) (fun c_11 => ?_)
  · refine lv_iconst (v := 0) hx hb dX8_nearerOf_45 (by decide) ?_
    exact ret_i hx hb hr hlocks rfl (u := ()) (Or.inl rfl) (hP.sub [] rfl) (hK.sub [] rfl) (hD.sub [] (by decide) rfl) hS (Nat.le_of_ble_eq_true rfl) (Nat.le_of_ble_eq_true rfl) dX8_nearerOf_46
  refine lv_iconst (v := 1) hx hb dX8_nearerOf_41 (by decide) ?_
  refine lv_goto (tgt := 46) hx hb dX8_nearerOf_42 (by decide) ?_
  exact ret_i hx hb hr hlocks rfl (u := ()) (Or.inr (Or.inl rfl)) (hP.sub [] rfl) (hK.sub [] rfl) (hD.sub [] (by decide) rfl) hS (Nat.le_of_ble_eq_true rfl) (Nat.le_of_ble_eq_true rfl) dX8_nearerOf_46
