theorem hig_flipMask_X3 : ∀ w ∈ wsX30, w ∈ wsX3_flipMask := mem_pl [2, 3, 4, 5, 6, 7, 8, 9] rfl
set_option maxHeartbeats 4000000 in
set_option maxRecDepth 100000 in
theorem g_flipMask (l : Launch) (D : va_G) (sz : Nat) (h0 : Nat) (ca : Nat) (cc : Nat) (kb : Int32) (kf : Int32) (kg : Int32) (kl : Int32) (kx : Int32) (ko : Int32)  : Ci l yX3_flipMask wsX3_flipMask ({ frames := 0, cells := 0, slots := 0, locals := 0 } : Room) D [.ref h0] [(h0, .inr (2, [.int kb, .ref ca, .ref cc, .int kf, .int kg, .int kl, .int kx, .int ko]))] [] sz (fun (r : Int32) => fun (_ : Unit) => True) (fun (_ : Unit) => [(h0, .inr (2, [.int kb, .ref ca, .ref cc, .int kf, .int kg, .int kl, .int kx, .int ko]))]) (fun (_ : Unit) => []) := by
  refine ct_i (cc := cX3_flipMask) (maxL := 1) (ret := (some .int)) (by decide) rfl (Nat.le_of_ble_eq_true rfl) ?_
  intro p e s m below meth c A ls H hx hb hr hts hown hml hlocks hin hA hS hP hK hD hNW hl hAe hsz
  have hl : lv_has ls 1 [(0, .ref h0)] := hl
  refine lv_aload_n hx hb dX3_flipMask_0 rfl (lv_at hl 0 rfl) ?_
  refine va_get (D := D) (ci := 2) (v := .int kf) (C := RX3) (T := TX3) (N := 8) hx hb hts hig_flipMask_X3 hown hK hP 0 rfl rfl 3 (by decide) (hts (.fieldLink RX3 26 "OneHandset$Keys" "flip" "I") (List.mem_of_getElem? (i := 1) rfl)) (fun _ h9 => h9) rfl dX3_flipMask_1 ?_
  refine lv_iconst (v := (-1)) hx hb dX3_flipMask_4 (by decide) ?_
  refine lv_icmp_ne (tgt := 12) hx hb dX3_flipMask_5 (by decide) (fun c_1 => ?_) (fun c_1 => ?_)
  · refine lv_iconst (v := 1) hx hb dX3_flipMask_12 (by decide) ?_
    refine lv_aload_n hx hb dX3_flipMask_13 rfl (lv_at hl 0 rfl) ?_
    refine va_get (D := D) (ci := 2) (v := .int kf) (C := RX3) (T := TX3) (N := 8) hx hb hts hig_flipMask_X3 hown hK hP 0 rfl rfl 3 (by decide) (hts (.fieldLink RX3 26 "OneHandset$Keys" "flip" "I") (List.mem_of_getElem? (i := 1) rfl)) (fun _ h9 => h9) rfl dX3_flipMask_14 ?_
    refine lv_ishl hx hb dX3_flipMask_17 ?_
    refine lv_topi (fun y_2 _ => ?_)
    exact ret_i hx hb hr hlocks rfl (u := ()) trivial (hP.sub [0] rfl) (hK.sub [] rfl) (hD.sub [0] (by decide) rfl) hS (Nat.le_of_ble_eq_true rfl) (Nat.le_of_ble_eq_true rfl) dX3_flipMask_18
  refine lv_iconst (v := 0) hx hb dX3_flipMask_8 (by decide) ?_
  refine lv_goto (tgt := 18) hx hb dX3_flipMask_9 (by decide) ?_
  exact ret_i hx hb hr hlocks rfl (u := ()) trivial (hP.sub [0] rfl) (hK.sub [] rfl) (hD.sub [0] (by decide) rfl) hS (Nat.le_of_ble_eq_true rfl) (Nat.le_of_ble_eq_true rfl) dX3_flipMask_18
set_option maxHeartbeats 4000000 in
set_option maxRecDepth 100000 in
theorem g_hasKey (l : Launch) (D : va_G) (sz : Nat) (h0 : Nat) (ca : Nat) (cc : Nat) (kb : Int32) (kf : Int32) (kg : Int32) (kl : Int32) (kx : Int32) (ko : Int32) (v : Int32)  : Ci l yX3_hasKey wsX3_hasKey ({ frames := 1, cells := 0, slots := 0, locals := 22 } : Room) D [.ref h0, .int v] [(h0, .inr (2, [.int kb, .ref ca, .ref cc, .int kf, .int kg, .int kl, .int kx, .int ko]))] [] sz (fun (r : Int32) => fun (_ : Unit) => r = wi v 0 15) (fun (_ : Unit) => [(h0, .inr (2, [.int kb, .ref ca, .ref cc, .int kf, .int kg, .int kl, .int kx, .int ko]))]) (fun (_ : Unit) => []) := by
  refine ct_i (cc := cX3_hasKey) (maxL := 2) (ret := (some .boolean)) (by decide) rfl (Nat.le_of_ble_eq_true rfl) ?_
  intro p e s m below meth c A ls H hx hb hr hts hown hml hlocks hin hA hS hP hK hD hNW hl hAe hsz
  have hl : lv_has ls 2 [(0, .ref h0), (1, .int v)] := hl
  refine lv_iload_n hx hb dX3_hasKey_0 rfl (lv_at hl 1 rfl) ?_
  refine lv_iconst (v := 0) hx hb dX3_hasKey_1 (by decide) ?_
  refine lv_bipush (v := 15) hx hb dX3_hasKey_2 (by decide) ?_
  refine go_i (wr := [(h0, .inr (2, [.int kb, .ref ca, .ref cc, .int kf, .int kg, .int kl, .int kx, .int ko]))]) (tysr := []) hP hD hS hA hK [] [0] [] rfl rfl (by decide) (by decide) rfl (va_runSN (As := [.int v, .int 0, .int 15]) (rest := []) ⟨hx, hb, hml, hown, hts⟩ (c_X8_within l D H.size v 0 15 ) ⟨(va_cnB (own := RX3) (host := RX8) (index := 41) 3 hts gX3_hasKey_X8_within_n41 rfl rfl rfl (hNW.2.1 (RX3, 41, yX8_within, RX8) (List.mem_of_getElem? (l := nw_M) (i := 14) rfl)) (hts (.initialized RX8) (List.mem_of_getElem? (i := 2) rfl)) (by decide +kernel) ⟨Nat.le_of_ble_eq_true rfl, Nat.le_of_ble_eq_true rfl⟩), (hts (.static yX8_within) (List.mem_of_getElem? (i := 1) rfl)), trivial⟩ (st_preS hP hD hK hNW [] [] rfl rfl (by decide) rfl) rfl rfl hl.1 rfl (lv_room (Nat.le_of_ble_eq_true rfl)) dX3_hasKey_4 ⟨(Nat.le_of_ble_eq_true rfl), (Nat.le_of_ble_eq_true rfl)⟩) (fun r_1 u H locs hw hP hD hK hS => ?_)
  have hw : r_1 = wi v 0 15 := hw
  subst hw
  have hP : va_P D vwCl [(h0, .inr (2, [.int kb, .ref ca, .ref cc, .int kf, .int kg, .int kl, .int kx, .int ko]))] H := hP
  have hD : va_D A [(h0, .inr (2, [.int kb, .ref ca, .ref cc, .int kf, .int kg, .int kl, .int kx, .int ko]))] := hD
  have hK : va_K D vwCl [] s := hK
  exact ret_i hx hb hr hlocks (wi_nar _ _ _) (u := ()) rfl (hP.sub [0] rfl) (hK.sub [] rfl) (hD.sub [0] (by decide) rfl) hS (Nat.le_of_ble_eq_true rfl) (Nat.le_of_ble_eq_true rfl) dX3_hasKey_7
theorem hig_codeOf_X3 : ∀ w ∈ wsX30, w ∈ wsX3_codeOf := mem_pl [10, 11, 12, 13, 14, 15, 16, 17] rfl
set_option maxHeartbeats 4000000 in
set_option maxRecDepth 100000 in
theorem g_codeOf (l : Launch) (D : va_G) (sz : Nat) (cI : ClassId) (h0 : Nat) (ca : Nat) (cc : Nat) (kb : Int32) (kf : Int32) (kg : Int32) (kl : Int32) (kx : Int32) (ko : Int32) (kc : Nat → Int32) (kd : Nat → Int32) (v : Int32)  : Ci l yX3_codeOf wsX3_codeOf ({ frames := 2, cells := 0, slots := 0, locals := 43 } : Room) D [.ref h0, .int v] [(h0, .inr (2, [.int kb, .ref ca, .ref cc, .int kf, .int kg, .int kl, .int kx, .int ko])), (ca, .inl (cI, 16, .inl kc)), (cc, .inl (cI, 4, .inl kd))] [(cI, .int)] sz (fun (r : Int32) => fun (_ : Unit) => r = -1 ∨ bi v 0 15) (fun (_ : Unit) => [(h0, .inr (2, [.int kb, .ref ca, .ref cc, .int kf, .int kg, .int kl, .int kx, .int ko])), (ca, .inl (cI, 16, .inl kc)), (cc, .inl (cI, 4, .inl kd))]) (fun (_ : Unit) => []) := by
  refine ct_i (cc := cX3_codeOf) (maxL := 2) (ret := (some .int)) (by decide) rfl (Nat.le_of_ble_eq_true rfl) ?_
  intro p e s m below meth c A ls H hx hb hr hts hown hml hlocks hin hA hS hP hK hD hNW hl hAe hsz
  have hl : lv_has ls 2 [(0, .ref h0), (1, .int v)] := hl
  refine lv_aload_n hx hb dX3_codeOf_0 rfl (lv_at hl 0 rfl) ?_
  refine lv_iload_n hx hb dX3_codeOf_1 rfl (lv_at hl 1 rfl) ?_
  refine go_i (wr := [(ca, .inl (cI, 16, .inl kc)), (cc, .inl (cI, 4, .inl kd))]) (tysr := [(cI, .int)]) hP hD hS hA hK [0] [1, 2] [0] rfl rfl (by decide) (by decide) rfl (va_runV (As := [.int v]) (rest := []) ⟨hx, hb, hml, hown, hts⟩ (g_hasKey l D H.size h0 ca cc kb kf kg kl kx ko v ) (cwV 1 hts gX3_codeOf_X3_hasKey rfl rfl rfl (by decide +kernel) ⟨Nat.le_of_ble_eq_true rfl, Nat.le_of_ble_eq_true rfl⟩) (st_preV (ci := 2) (q0 := 0) hP hD hK hNW [0] [] rfl rfl (by decide) rfl rfl rfl rfl) rfl rfl hl.1 rfl (lv_room (Nat.le_of_ble_eq_true rfl)) dX3_codeOf_2 ⟨(Nat.le_of_ble_eq_true rfl), (Nat.le_of_ble_eq_true rfl)⟩) (fun r_1 u H locs hw hP hD hK hS => ?_)
  have hw : r_1 = wi v 0 15 := hw
  subst hw
  have hP : va_P D vwCl [(ca, .inl (cI, 16, .inl kc)), (cc, .inl (cI, 4, .inl kd)), (h0, .inr (2, [.int kb, .ref ca, .ref cc, .int kf, .int kg, .int kl, .int kx, .int ko]))] H := hP
  have hD : va_D A [(ca, .inl (cI, 16, .inl kc)), (cc, .inl (cI, 4, .inl kd)), (h0, .inr (2, [.int kb, .ref ca, .ref cc, .int kf, .int kg, .int kl, .int kx, .int ko]))] := hD
  have hK : va_K D vwCl [(cI, .int)] s := hK
  refine lv_if_eq (tgt := 17) hx hb dX3_codeOf_5 (by decide) (fun c_2 => ?_) (fun c_2 => ?_)
  · refine lv_iconst (v := (-1)) hx hb dX3_codeOf_17 (by decide) ?_
    exact ret_i hx hb hr hlocks rfl (u := ()) (Or.inl rfl) (hP.sub [2, 0, 1] rfl) (hK.sub [] rfl) (hD.sub [2, 0, 1] (by decide) rfl) hS (Nat.le_of_ble_eq_true rfl) (Nat.le_of_ble_eq_true rfl) dX3_codeOf_18
  refine lv_aload_n hx hb dX3_codeOf_8 rfl (lv_at hl 0 rfl) ?_
  refine va_get (D := D) (ci := 2) (v := .ref ca) (C := RX3) (T := TX3) (N := 8) hx hb hts hig_codeOf_X3 hown hK hP 2 rfl rfl 1 (by decide) (hts (.fieldLink RX3 9 "OneHandset$Keys" "codes" "[I") (List.mem_of_getElem? (i := 1) rfl)) (fun _ h9 => h9) rfl dX3_codeOf_9 ?_
  refine lv_iload_n hx hb dX3_codeOf_12 rfl (lv_at hl 1 rfl) ?_
  refine va_iald hx hb hK hP 0 0 rfl rfl (by have : (0 : Int32).toInt = 0 := (by decide); have : (15 : Int32).toInt = 15 := (by decide); have := ti_wi1 c_2; exact vp_in_iff.mpr (by omega)) dX3_codeOf_13 ?_
  refine lv_goto (tgt := 18) hx hb dX3_codeOf_14 (by decide) ?_
  exact ret_i hx hb hr hlocks rfl (u := ()) (Or.inr (by have : (0 : Int32).toInt = 0 := (by decide); have : (15 : Int32).toInt = 15 := (by decide); have := ti_wi1 c_2; omega)) (hP.sub [2, 0, 1] rfl) (hK.sub [] rfl) (hD.sub [2, 0, 1] (by decide) rfl) hS (Nat.le_of_ble_eq_true rfl) (Nat.le_of_ble_eq_true rfl) dX3_codeOf_18
theorem hig_isCheck_X3 : ∀ w ∈ wsX30, w ∈ wsX3_isCheck := mem_pl [3, 4, 5, 6, 7, 8, 9, 10] rfl
set_option maxHeartbeats 4000000 in
set_option maxRecDepth 100000 in
theorem g_isCheck (l : Launch) (D : va_G) (sz : Nat) (h0 : Nat) (ca : Nat) (cc : Nat) (kb : Int32) (kf : Int32) (kg : Int32) (kl : Int32) (kx : Int32) (ko : Int32) (v : Int32)  : Ci l yX3_isCheck wsX3_isCheck ({ frames := 0, cells := 0, slots := 0, locals := 0 } : Room) D [.ref h0, .int v] [(h0, .inr (2, [.int kb, .ref ca, .ref cc, .int kf, .int kg, .int kl, .int kx, .int ko]))] [] sz (fun (r : Int32) => fun (_ : Unit) => True) (fun (_ : Unit) => [(h0, .inr (2, [.int kb, .ref ca, .ref cc, .int kf, .int kg, .int kl, .int kx, .int ko]))]) (fun (_ : Unit) => []) := by
  refine ct_i (cc := cX3_isCheck) (maxL := 2) (ret := (some .boolean)) (by decide) rfl (Nat.le_of_ble_eq_true rfl) ?_
  intro p e s m below meth c A ls H hx hb hr hts hown hml hlocks hin hA hS hP hK hD hNW hl hAe hsz
  have hl : lv_has ls 2 [(0, .ref h0), (1, .int v)] := hl
  refine lv_aload_n hx hb dX3_isCheck_0 rfl (lv_at hl 0 rfl) ?_
  refine va_get (D := D) (ci := 2) (v := .int kb) (C := RX3) (T := TX3) (N := 8) hx hb hts hig_isCheck_X3 hown hK hP 0 rfl rfl 0 (by decide) (hts (.fieldLink RX3 18 "OneHandset$Keys" "bits" "I") (List.mem_of_getElem? (i := 1) rfl)) (fun _ h9 => h9) rfl dX3_isCheck_1 ?_
  refine lv_iconst (v := 4) hx hb dX3_isCheck_4 (by decide) ?_
  refine lv_icmp_le (tgt := 34) hx hb dX3_isCheck_5 (by decide) (fun c_1 => ?_) (fun c_1 => ?_)
  · refine lv_iconst (v := 0) hx hb dX3_isCheck_34 (by decide) ?_
    exact ret_i hx hb hr hlocks rfl (u := ()) trivial (hP.sub [0] rfl) (hK.sub [] rfl) (hD.sub [0] (by decide) rfl) hS (Nat.le_of_ble_eq_true rfl) (Nat.le_of_ble_eq_true rfl) dX3_isCheck_35
  refine lv_iload_n hx hb dX3_isCheck_8 rfl (lv_at hl 1 rfl) ?_
  refine lv_iconst (v := 3) hx hb dX3_isCheck_9 (by decide) ?_
  refine lv_icmp_ne (tgt := 30) hx hb dX3_isCheck_10 (by decide) (fun c_2 => ?_) (fun c_2 => ?_)
  · refine lv_iconst (v := 1) hx hb dX3_isCheck_30 (by decide) ?_
    refine lv_goto (tgt := 35) hx hb dX3_isCheck_31 (by decide) ?_
    exact ret_i hx hb hr hlocks rfl (u := ()) trivial (hP.sub [0] rfl) (hK.sub [] rfl) (hD.sub [0] (by decide) rfl) hS (Nat.le_of_ble_eq_true rfl) (Nat.le_of_ble_eq_true rfl) dX3_isCheck_35
  refine lv_aload_n hx hb dX3_isCheck_13 rfl (lv_at hl 0 rfl) ?_
  refine va_get (D := D) (ci := 2) (v := .int kb) (C := RX3) (T := TX3) (N := 8) hx hb hts hig_isCheck_X3 hown hK hP 0 rfl rfl 0 (by decide) (hts (.fieldLink RX3 18 "OneHandset$Keys" "bits" "I") (List.mem_of_getElem? (i := 1) rfl)) (fun _ h9 => h9) rfl dX3_isCheck_14 ?_
  refine lv_iconst (v := 2) hx hb dX3_isCheck_17 (by decide) ?_
  refine lv_irem hx hb dX3_isCheck_18 (by decide) ?_
  refine lv_topi (fun y_3 _ => ?_)
  refine lv_if_ne (tgt := 34) hx hb dX3_isCheck_19 (by decide) (fun c_4 => ?_) (fun c_4 => ?_)
  · refine lv_iconst (v := 0) hx hb dX3_isCheck_34 (by decide) ?_
    exact ret_i hx hb hr hlocks rfl (u := ()) trivial (hP.sub [0] rfl) (hK.sub [] rfl) (hD.sub [0] (by decide) rfl) hS (Nat.le_of_ble_eq_true rfl) (Nat.le_of_ble_eq_true rfl) dX3_isCheck_35
  refine lv_aload_n hx hb dX3_isCheck_22 rfl (lv_at hl 0 rfl) ?_
  refine va_get (D := D) (ci := 2) (v := .int kf) (C := RX3) (T := TX3) (N := 8) hx hb hts hig_isCheck_X3 hown hK hP 0 rfl rfl 3 (by decide) (hts (.fieldLink RX3 26 "OneHandset$Keys" "flip" "I") (List.mem_of_getElem? (i := 2) rfl)) (fun _ h9 => h9) rfl dX3_isCheck_23 ?_
  refine lv_iconst (v := (-1)) hx hb dX3_isCheck_26 (by decide) ?_
  refine lv_icmp_ne (tgt := 34) hx hb dX3_isCheck_27 (by decide) (fun c_5 => ?_) (fun c_5 => ?_)
  · refine lv_iconst (v := 0) hx hb dX3_isCheck_34 (by decide) ?_
    exact ret_i hx hb hr hlocks rfl (u := ()) trivial (hP.sub [0] rfl) (hK.sub [] rfl) (hD.sub [0] (by decide) rfl) hS (Nat.le_of_ble_eq_true rfl) (Nat.le_of_ble_eq_true rfl) dX3_isCheck_35
  refine lv_iconst (v := 1) hx hb dX3_isCheck_30 (by decide) ?_
  refine lv_goto (tgt := 35) hx hb dX3_isCheck_31 (by decide) ?_
  exact ret_i hx hb hr hlocks rfl (u := ()) trivial (hP.sub [0] rfl) (hK.sub [] rfl) (hD.sub [0] (by decide) rfl) hS (Nat.le_of_ble_eq_true rfl) (Nat.le_of_ble_eq_true rfl) dX3_isCheck_35
theorem hig_isContrary_X3 : ∀ w ∈ wsX30, w ∈ wsX3_isContrary := mem_pl [5, 6, 7, 8, 9, 10, 11, 12] rfl
set_option maxHeartbeats 4000000 in
set_option maxRecDepth 100000 in
theorem g_isContrary (l : Launch) (D : va_G) (sz : Nat) (h0 : Nat) (ca : Nat) (cc : Nat) (kb : Int32) (kf : Int32) (kg : Int32) (kl : Int32) (kx : Int32) (ko : Int32) (v : Int32)  : Ci l yX3_isContrary wsX3_isContrary ({ frames := 1, cells := 0, slots := 0, locals := 20 } : Room) D [.ref h0, .int v] [(h0, .inr (2, [.int kb, .ref ca, .ref cc, .int kf, .int kg, .int kl, .int kx, .int ko]))] [] sz (fun (r : Int32) => fun (_ : Unit) => True) (fun (_ : Unit) => [(h0, .inr (2, [.int kb, .ref ca, .ref cc, .int kf, .int kg, .int kl, .int kx, .int ko]))]) (fun (_ : Unit) => []) := by
  refine ct_i (cc := cX3_isContrary) (maxL := 3) (ret := (some .boolean)) (by decide) rfl (Nat.le_of_ble_eq_true rfl) ?_
  intro p e s m below meth c A ls H hx hb hr hts hown hml hlocks hin hA hS hP hK hD hNW hl hAe hsz
  have hl : lv_has ls 3 [(0, .ref h0), (1, .int v)] := hl
  refine lv_aload_n hx hb dX3_isContrary_0 rfl (lv_at hl 0 rfl) ?_
  refine va_get (D := D) (ci := 2) (v := .int kb) (C := RX3) (T := TX3) (N := 8) hx hb hts hig_isContrary_X3 hown hK hP 0 rfl rfl 0 (by decide) (hts (.fieldLink RX3 18 "OneHandset$Keys" "bits" "I") (List.mem_of_getElem? (i := 1) rfl)) (fun _ h9 => h9) rfl dX3_isContrary_1 ?_
  refine lv_iconst (v := 2) hx hb dX3_isContrary_4 (by decide) ?_
  refine lv_idiv hx hb dX3_isContrary_5 (by decide) ?_
  refine lv_topi (fun y_1 _ => ?_)
  refine go_i (wr := [(h0, .inr (2, [.int kb, .ref ca, .ref cc, .int kf, .int kg, .int kl, .int kx, .int ko]))]) (tysr := []) hP hD hS hA hK [] [0] [] rfl rfl (by decide) (by decide) rfl (va_runSN (As := [.int y_1]) (rest := []) ⟨hx, hb, hml, hown, hts⟩ (c_X8_lowBits l D H.size y_1 ) ⟨(va_cnB (own := RX3) (host := RX8) (index := 60) 1 hts gX3_isContrary_X8_lowBits_n60 rfl rfl rfl (hNW.2.1 (RX3, 60, yX8_lowBits, RX8) (List.mem_of_getElem? (l := nw_M) (i := 5) rfl)) (hts (.initialized RX8) (List.mem_of_getElem? (i := 3) rfl)) (by decide +kernel) ⟨Nat.le_of_ble_eq_true rfl, Nat.le_of_ble_eq_true rfl⟩), (hts (.static yX8_lowBits) (List.mem_of_getElem? (i := 2) rfl)), trivial⟩ (st_preS hP hD hK hNW [] [] rfl rfl (by decide) rfl) rfl rfl hl.1 rfl (lv_room (Nat.le_of_ble_eq_true rfl)) dX3_isContrary_6 ⟨(Nat.le_of_ble_eq_true rfl), (Nat.le_of_ble_eq_true rfl)⟩) (fun r_2 u H locs hw hP hD hK hS => ?_)
  have hw : r_2 = lb y_1 := hw
  subst hw
  have hP : va_P D vwCl [(h0, .inr (2, [.int kb, .ref ca, .ref cc, .int kf, .int kg, .int kl, .int kx, .int ko]))] H := hP
  have hD : va_D A [(h0, .inr (2, [.int kb, .ref ca, .ref cc, .int kf, .int kg, .int kl, .int kx, .int ko]))] := hD
  have hK : va_K D vwCl [] s := hK
  refine lv_istore_n (lv' := [(2, .int (lb y_1)), (0, .ref h0), (1, .int v)]) hx hb dX3_isContrary_9 rfl hl (by decide) rfl (fun ls hl => ?_)
  refine lv_iload_n hx hb dX3_isContrary_10 rfl (lv_at hl 2 rfl) ?_
  refine lv_iload_n hx hb dX3_isContrary_11 rfl (lv_at hl 2 rfl) ?_
  refine lv_aload_n hx hb dX3_isContrary_12 rfl (lv_at hl 1 rfl) ?_
  refine va_get (D := D) (ci := 2) (v := .int kb) (C := RX3) (T := TX3) (N := 8) hx hb hts hig_isContrary_X3 hown hK hP 0 rfl rfl 0 (by decide) (hts (.fieldLink RX3 18 "OneHandset$Keys" "bits" "I") (List.mem_of_getElem? (i := 1) rfl)) (fun _ h9 => h9) rfl dX3_isContrary_13 ?_
  refine lv_iconst (v := 2) hx hb dX3_isContrary_16 (by decide) ?_
  refine lv_idiv hx hb dX3_isContrary_17 (by decide) ?_
  refine lv_topi (fun y_3 _ => ?_)
  refine lv_ishr hx hb dX3_isContrary_18 ?_
  refine lv_topi (fun y_4 _ => ?_)
  refine lv_ixor hx hb dX3_isContrary_19 ?_
  refine lv_topi (fun y_5 _ => ?_)
  refine lv_iload_n hx hb dX3_isContrary_20 rfl (lv_at hl 0 rfl) ?_
  refine lv_iand hx hb dX3_isContrary_21 ?_
  refine lv_topi (fun y_6 _ => ?_)
  refine lv_iload_n hx hb dX3_isContrary_22 rfl (lv_at hl 0 rfl) ?_
  refine lv_icmp_ne (tgt := 30) hx hb dX3_isContrary_23 (by decide) (fun c_7 => ?_) (fun c_7 => ?_)
  · refine lv_iconst (v := 0) hx hb dX3_isContrary_30 (by decide) ?_
    exact ret_i hx hb hr hlocks rfl (u := ()) trivial (hP.sub [0] rfl) (hK.sub [] rfl) (hD.sub [0] (by decide) rfl) hS (Nat.le_of_ble_eq_true rfl) (Nat.le_of_ble_eq_true rfl) dX3_isContrary_31
  refine lv_iconst (v := 1) hx hb dX3_isContrary_26 (by decide) ?_
  refine lv_goto (tgt := 31) hx hb dX3_isContrary_27 (by decide) ?_
  exact ret_i hx hb hr hlocks rfl (u := ()) trivial (hP.sub [0] rfl) (hK.sub [] rfl) (hD.sub [0] (by decide) rfl) hS (Nat.le_of_ble_eq_true rfl) (Nat.le_of_ble_eq_true rfl) dX3_isContrary_31
set_option maxHeartbeats 4000000 in
set_option maxRecDepth 100000 in
theorem g_constantFor (l : Launch) (D : va_G) (sz : Nat) (h0 : Nat) (ca : Nat) (cc : Nat) (kb : Int32) (kf : Int32) (kg : Int32) (kl : Int32) (kx : Int32) (ko : Int32) (v : Int32) (w : Int32)  : Ci l yX3_constantFor wsX3_constantFor ({ frames := 2, cells := 0, slots := 0, locals := 42 } : Room) D [.ref h0, .int v, .int w] [(h0, .inr (2, [.int kb, .ref ca, .ref cc, .int kf, .int kg, .int kl, .int kx, .int ko]))] [] sz (fun (r : Int32) => fun (_ : Unit) => True) (fun (_ : Unit) => [(h0, .inr (2, [.int kb, .ref ca, .ref cc, .int kf, .int kg, .int kl, .int kx, .int ko]))]) (fun (_ : Unit) => []) := by
  refine ct_i (cc := cX3_constantFor) (maxL := 3) (ret := (some .int)) (by decide) rfl (Nat.le_of_ble_eq_true rfl) ?_
  intro p e s m below meth c A ls H hx hb hr hts hown hml hlocks hin hA hS hP hK hD hNW hl hAe hsz
  have hl : lv_has ls 3 [(0, .ref h0), (1, .int v), (2, .int w)] := hl
  refine lv_iload_n hx hb dX3_constantFor_0 rfl (lv_at hl 1 rfl) ?_
  by_cases c_1 : v = (1 : Int32)
  · refine lv_lookup (off := 27) (tgt := 28) hx hb dX3_constantFor_1 (by decide) (by rw [c_1]; decide) (by decide) ?_
    refine lv_iload_n hx hb dX3_constantFor_28 rfl (lv_at hl 2 rfl) ?_
    refine lv_iload_n hx hb dX3_constantFor_29 rfl (lv_at hl 2 rfl) ?_
    refine lv_iconst (v := 4) hx hb dX3_constantFor_30 (by decide) ?_
    refine lv_ishr hx hb dX3_constantFor_31 ?_
    refine lv_topi (fun y_2 _ => ?_)
    refine lv_isub hx hb dX3_constantFor_32 ?_
    refine lv_topi (fun y_3 _ => ?_)
    refine lv_iload_n hx hb dX3_constantFor_33 rfl (lv_at hl 2 rfl) ?_
    refine lv_bipush (v := 8) hx hb dX3_constantFor_34 (by decide) ?_
    refine lv_ishr hx hb dX3_constantFor_36 ?_
    refine lv_topi (fun y_4 _ => ?_)
    refine lv_isub hx hb dX3_constantFor_37 ?_
    refine lv_topi (fun y_5 _ => ?_)
    refine lv_iload_n hx hb dX3_constantFor_38 rfl (lv_at hl 2 rfl) ?_
    refine lv_bipush (v := 12) hx hb dX3_constantFor_39 (by decide) ?_
    refine lv_ishr hx hb dX3_constantFor_41 ?_
    refine lv_topi (fun y_6 _ => ?_)
    refine lv_isub hx hb dX3_constantFor_42 ?_
    refine lv_topi (fun y_7 _ => ?_)
    refine lv_iload_n hx hb dX3_constantFor_43 rfl (lv_at hl 2 rfl) ?_
    refine lv_bipush (v := 16) hx hb dX3_constantFor_44 (by decide) ?_
    refine lv_ishr hx hb dX3_constantFor_46 ?_
    refine lv_topi (fun y_8 _ => ?_)
    refine lv_isub hx hb dX3_constantFor_47 ?_
    refine lv_topi (fun y_9 _ => ?_)
    refine lv_iload_n hx hb dX3_constantFor_48 rfl (lv_at hl 2 rfl) ?_
    refine lv_bipush (v := 20) hx hb dX3_constantFor_49 (by decide) ?_
    refine lv_ishr hx hb dX3_constantFor_51 ?_
    refine lv_topi (fun y_10 _ => ?_)
    refine lv_isub hx hb dX3_constantFor_52 ?_
    refine lv_topi (fun y_11 _ => ?_)
    refine lv_bipush (v := 15) hx hb dX3_constantFor_53 (by decide) ?_
    refine lv_iand hx hb dX3_constantFor_55 ?_
    refine lv_topi (fun y_12 _ => ?_)
    exact ret_i hx hb hr hlocks rfl (u := ()) trivial (hP.sub [0] rfl) (hK.sub [] rfl) (hD.sub [0] (by decide) rfl) hS (Nat.le_of_ble_eq_true rfl) (Nat.le_of_ble_eq_true rfl) dX3_constantFor_56
  by_cases c_13 : v = (2 : Int32)
  · refine lv_lookup (off := 56) (tgt := 57) hx hb dX3_constantFor_1 (by decide) (by rw [c_13]; decide) (by decide) ?_
    refine lv_iload_n hx hb dX3_constantFor_57 rfl (lv_at hl 2 rfl) ?_
    refine lv_iload_n hx hb dX3_constantFor_58 rfl (lv_at hl 2 rfl) ?_
    refine lv_iconst (v := 4) hx hb dX3_constantFor_59 (by decide) ?_
    refine lv_ishr hx hb dX3_constantFor_60 ?_
    refine lv_topi (fun y_14 _ => ?_)
    refine lv_ixor hx hb dX3_constantFor_61 ?_
    refine lv_topi (fun y_15 _ => ?_)
    refine lv_iload_n hx hb dX3_constantFor_62 rfl (lv_at hl 2 rfl) ?_
    refine lv_bipush (v := 8) hx hb dX3_constantFor_63 (by decide) ?_
    refine lv_ishr hx hb dX3_constantFor_65 ?_
    refine lv_topi (fun y_16 _ => ?_)
    refine lv_ixor hx hb dX3_constantFor_66 ?_
    refine lv_topi (fun y_17 _ => ?_)
    refine lv_iload_n hx hb dX3_constantFor_67 rfl (lv_at hl 2 rfl) ?_
    refine lv_bipush (v := 12) hx hb dX3_constantFor_68 (by decide) ?_
    refine lv_ishr hx hb dX3_constantFor_70 ?_
    refine lv_topi (fun y_18 _ => ?_)
    refine lv_ixor hx hb dX3_constantFor_71 ?_
    refine lv_topi (fun y_19 _ => ?_)
    refine lv_iload_n hx hb dX3_constantFor_72 rfl (lv_at hl 2 rfl) ?_
    refine lv_bipush (v := 16) hx hb dX3_constantFor_73 (by decide) ?_
    refine lv_ishr hx hb dX3_constantFor_75 ?_
    refine lv_topi (fun y_20 _ => ?_)
    refine lv_ixor hx hb dX3_constantFor_76 ?_
    refine lv_topi (fun y_21 _ => ?_)
    refine lv_iload_n hx hb dX3_constantFor_77 rfl (lv_at hl 2 rfl) ?_
    refine lv_bipush (v := 20) hx hb dX3_constantFor_78 (by decide) ?_
    refine lv_ishr hx hb dX3_constantFor_80 ?_
    refine lv_topi (fun y_22 _ => ?_)
    refine lv_ixor hx hb dX3_constantFor_81 ?_
    refine lv_topi (fun y_23 _ => ?_)
    refine lv_bipush (v := 15) hx hb dX3_constantFor_82 (by decide) ?_
    refine lv_iand hx hb dX3_constantFor_84 ?_
    refine lv_topi (fun y_24 _ => ?_)
    exact ret_i hx hb hr hlocks rfl (u := ()) trivial (hP.sub [0] rfl) (hK.sub [] rfl) (hD.sub [0] (by decide) rfl) hS (Nat.le_of_ble_eq_true rfl) (Nat.le_of_ble_eq_true rfl) dX3_constantFor_85
  refine lv_lookup (off := 85) (tgt := 86) hx hb dX3_constantFor_1 (by decide) ((lv_osw c_1 (by decide)).trans <| (lv_osw c_13 (by decide)).trans <| rfl) (by decide) ?_
  refine lv_aload_n hx hb dX3_constantFor_86 rfl (lv_at hl 0 rfl) ?_
  refine lv_iload_n hx hb dX3_constantFor_87 rfl (lv_at hl 2 rfl) ?_
  refine go_i (wr := []) (tysr := []) hP hD hS hA hK [0] [] [] rfl rfl (by decide) (by decide) rfl (va_runV (As := [.int w]) (rest := []) ⟨hx, hb, hml, hown, hts⟩ (g_isContrary l D H.size h0 ca cc kb kf kg kl kx ko w ) (cwV 1 hts gX3_constantFor_X3_isContrary rfl rfl rfl (by decide +kernel) ⟨Nat.le_of_ble_eq_true rfl, Nat.le_of_ble_eq_true rfl⟩) (st_preV (ci := 2) (q0 := 0) hP hD hK hNW [0] [] rfl rfl (by decide) rfl rfl rfl rfl) rfl rfl hl.1 rfl (lv_room (Nat.le_of_ble_eq_true rfl)) dX3_constantFor_88 ⟨(Nat.le_of_ble_eq_true rfl), (Nat.le_of_ble_eq_true rfl)⟩) (fun r_25 u H locs hw hP hD hK hS => ?_)
  have hP : va_P D vwCl [(h0, .inr (2, [.int kb, .ref ca, .ref cc, .int kf, .int kg, .int kl, .int kx, .int ko]))] H := hP
  have hD : va_D A [(h0, .inr (2, [.int kb, .ref ca, .ref cc, .int kf, .int kg, .int kl, .int kx, .int ko]))] := hD
  have hK : va_K D vwCl [] s := hK
  refine lv_if_eq (tgt := 98) hx hb dX3_constantFor_91 (by decide) (fun c_26 => ?_) (fun c_26 => ?_)
  · refine lv_iconst (v := (-1)) hx hb dX3_constantFor_98 (by decide) ?_
    exact ret_i hx hb hr hlocks rfl (u := ()) trivial (hP.sub [0] rfl) (hK.sub [] rfl) (hD.sub [0] (by decide) rfl) hS (Nat.le_of_ble_eq_true rfl) (Nat.le_of_ble_eq_true rfl) dX3_constantFor_99
  refine lv_iconst (v := 0) hx hb dX3_constantFor_94 (by decide) ?_
  refine lv_goto (tgt := 99) hx hb dX3_constantFor_95 (by decide) ?_
  exact ret_i hx hb hr hlocks rfl (u := ()) trivial (hP.sub [0] rfl) (hK.sub [] rfl) (hD.sub [0] (by decide) rfl) hS (Nat.le_of_ble_eq_true rfl) (Nat.le_of_ble_eq_true rfl) dX3_constantFor_99
theorem hig_commonConstant_X3 : ∀ w ∈ wsX30, w ∈ wsX3_commonConstant := mem_pl [15, 16, 17, 18, 19, 20, 21, 22] rfl
set_option maxHeartbeats 4000000 in
set_option maxRecDepth 100000 in
theorem g_commonConstant (l : Launch) (D : va_G) (sz : Nat) (cI : ClassId) (h0 : Nat) (ca : Nat) (cc : Nat) (kb : Int32) (kf : Int32) (kg : Int32) (kl : Int32) (kx : Int32) (ko : Int32) (kc : Nat → Int32) (kd : Nat → Int32) (v : Int32)  : Ci l yX3_commonConstant wsX3_commonConstant ({ frames := 3, cells := 0, slots := 0, locals := 64 } : Room) D [.ref h0, .int v] [(h0, .inr (2, [.int kb, .ref ca, .ref cc, .int kf, .int kg, .int kl, .int kx, .int ko])), (ca, .inl (cI, 16, .inl kc)), (cc, .inl (cI, 4, .inl kd))] [(cI, .int)] sz (fun (r : Int32) => fun (_ : Unit) => True) (fun (_ : Unit) => [(h0, .inr (2, [.int kb, .ref ca, .ref cc, .int kf, .int kg, .int kl, .int kx, .int ko])), (ca, .inl (cI, 16, .inl kc)), (cc, .inl (cI, 4, .inl kd))]) (fun (_ : Unit) => []) := by
  refine ct_i (cc := cX3_commonConstant) (maxL := 6) (ret := (some .int)) (by decide) rfl (Nat.le_of_ble_eq_true rfl) ?_
  intro p e s m below meth c A ls H hx hb hr hts hown hml hlocks hin hA hS hP hK hD hNW hl hAe hsz
  have hl : lv_has ls 6 [(0, .ref h0), (1, .int v)] := hl
  refine lv_iconst (v := (-1)) hx hb dX3_commonConstant_0 (by decide) ?_
  refine lv_istore_n (lv' := [(2, .int (-1)), (0, .ref h0), (1, .int v)]) hx hb dX3_commonConstant_1 rfl hl (by decide) rfl (fun ls hl => ?_)
  refine lv_iconst (v := 0) hx hb dX3_commonConstant_2 (by decide) ?_
  refine lv_istore_n (lv' := [(3, .int 0), (2, .int (-1)), (0, .ref h0), (1, .int v)]) hx hb dX3_commonConstant_3 rfl hl (by decide) rfl (fun ls hl => ?_)
  refine lv_iconst (v := 0) hx hb dX3_commonConstant_4 (by decide) ?_
  refine lv_istore (lv' := [(4, .int 0), (3, .int 0), (2, .int (-1)), (0, .ref h0), (1, .int v)]) hx hb dX3_commonConstant_5 hl (by decide) rfl (fun ls hl => ?_)
  refine lp_N (fun n9 H locs ls => ∃ (i2_1 : Int32), ∃ (i3_2 : Int32), ∃ (i_3 : Int32), n9 = (16 - i_3.toInt).toNat ∧ (va_P D vwCl [(h0, .inr (2, [.int kb, .ref ca, .ref cc, .int kf, .int kg, .int kl, .int kx, .int ko])), (ca, .inl (cI, 16, .inl kc)), (cc, .inl (cI, 4, .inl kd))] H ∧ va_D A [(h0, .inr (2, [.int kb, .ref ca, .ref cc, .int kf, .int kg, .int kl, .int kx, .int ko])), (ca, .inl (cI, 16, .inl kc)), (cc, .inl (cI, 4, .inl kd))]) ∧ va_S A s.heap H locs ∧ lv_has ls 6 [(4, .int i_3), (3, .int i3_2), (2, .int i2_1), (0, .ref h0), (1, .int v)] ∧ (0 ≤ i_3.toInt)) ?_ ⟨(-1), 0, 0, rfl, ⟨hP, hD⟩, hS, hl, (by decide)⟩
  intro n9 ih_4 H locs ls hI
  obtain ⟨i2_1, i3_2, i_3, rfl, ⟨hP, hD⟩, hS, hl, hv_5⟩ := hI
  refine lv_iload hx hb dX3_commonConstant_7 (lv_at hl 0 rfl) ?_
  refine lv_bipush (v := 16) hx hb dX3_commonConstant_9 (by decide) ?_
  refine lv_icmp_ge (tgt := 62) hx hb dX3_commonConstant_11 (by decide) (fun c_6 => ?_) (fun c_6 => ?_)
  · refine lv_iload_n hx hb dX3_commonConstant_62 rfl (lv_at hl 2 rfl) ?_
    exact ret_i hx hb hr hlocks rfl (u := ()) trivial (hP.sub [0, 1, 2] rfl) (hK.sub [] rfl) (hD.sub [0, 1, 2] (by decide) rfl) hS (Nat.le_of_ble_eq_true rfl) (Nat.le_of_ble_eq_true rfl) dX3_commonConstant_63
  refine jn_S 56 (fun st9 H locs ls => ∃ (i2_7 : Int32), ∃ (i3_8 : Int32), st9 = [] ∧ (va_P D vwCl [(h0, .inr (2, [.int kb, .ref ca, .ref cc, .int kf, .int kg, .int kl, .int kx, .int ko])), (ca, .inl (cI, 16, .inl kc)), (cc, .inl (cI, 4, .inl kd))] H ∧ va_D A [(h0, .inr (2, [.int kb, .ref ca, .ref cc, .int kf, .int kg, .int kl, .int kx, .int ko])), (ca, .inl (cI, 16, .inl kc)), (cc, .inl (cI, 4, .inl kd))]) ∧ va_S A s.heap H locs ∧ lv_has ls 6 [(4, .int i_3), (3, .int i3_8), (2, .int i2_7), (0, .ref h0), (1, .int v)]) ?_ ?_
  · intro st9 H locs ls hI
    obtain ⟨i2_7, i3_8, rfl, ⟨hP, hD⟩, hS, hl⟩ := hI
    refine lv_iinc (v := i_3 + 1) (lv' := [(4, .int (i_3 + 1)), (3, .int i3_8), (2, .int i2_7), (0, .ref h0), (1, .int v)]) hx hb dX3_commonConstant_56 hl (k := 0) rfl rfl (by decide) rfl (fun ls hl => ?_)
    refine lv_goto (tgt := 7) hx hb dX3_commonConstant_59 (by decide) ?_
    exact ih_4 _ _ _ _ (by have : (16 : Int32).toInt = 16 := (by decide); have := ti_nle c_6; have kn : (16 : Int32).toInt = 16 := (by decide); have u1 := ti_up (i := i_3) (n := 16) (by omega); omega) ⟨i2_7, i3_8, i_3 + 1, rfl, ⟨hP, hD⟩, hS, lv_sub hl [0, 1, 2, 3, 4] rfl, (by have : (16 : Int32).toInt = 16 := (by decide); have := ti_nle c_6; have kn : (16 : Int32).toInt = 16 := (by decide); have u1 := ti_up (i := i_3) (n := 16) (by omega); omega)⟩
  · intro hJ_10
    refine lv_aload_n hx hb dX3_commonConstant_14 rfl (lv_at hl 3 rfl) ?_
    refine va_get (D := D) (ci := 2) (v := .ref ca) (C := RX3) (T := TX3) (N := 8) hx hb hts hig_commonConstant_X3 hown hK hP 0 rfl rfl 1 (by decide) (hts (.fieldLink RX3 9 "OneHandset$Keys" "codes" "[I") (List.mem_of_getElem? (i := 1) rfl)) (fun _ h9 => h9) rfl dX3_commonConstant_15 ?_
    refine lv_iload hx hb dX3_commonConstant_18 (lv_at hl 0 rfl) ?_
    refine va_iald hx hb hK hP 1 0 rfl rfl (by have : (16 : Int32).toInt = 16 := (by decide); have := ti_nle c_6; exact vp_in_iff.mpr (by omega)) dX3_commonConstant_20 ?_
    refine lv_iconst (v := (-1)) hx hb dX3_commonConstant_21 (by decide) ?_
    refine lv_icmp_eq (tgt := 56) hx hb dX3_commonConstant_22 (by decide) (fun c_11 => ?_) (fun c_11 => ?_)
    · exact hJ_10 _ _ _ _ ⟨i2_1, i3_2, rfl, ⟨hP, hD⟩, hS, lv_sub hl [0, 1, 2, 3, 4] rfl⟩
    refine lv_aload_n hx hb dX3_commonConstant_25 rfl (lv_at hl 3 rfl) ?_
    refine lv_iload_n hx hb dX3_commonConstant_26 rfl (lv_at hl 4 rfl) ?_
    refine lv_aload_n hx hb dX3_commonConstant_27 rfl (lv_at hl 3 rfl) ?_
    refine va_get (D := D) (ci := 2) (v := .ref ca) (C := RX3) (T := TX3) (N := 8) hx hb hts hig_commonConstant_X3 hown hK hP 0 rfl rfl 1 (by decide) (hts (.fieldLink RX3 9 "OneHandset$Keys" "codes" "[I") (List.mem_of_getElem? (i := 1) rfl)) (fun _ h9 => h9) rfl dX3_commonConstant_28 ?_
    refine lv_iload hx hb dX3_commonConstant_31 (lv_at hl 0 rfl) ?_
    refine va_iald hx hb hK hP 1 0 rfl rfl (by have : ((-1) : Int32).toInt = -1 := (by decide); have : (16 : Int32).toInt = 16 := (by decide); have := ti_nle c_6; have := ti_ne c_11; exact vp_in_iff.mpr (by omega)) dX3_commonConstant_33 ?_
    refine go_i (wr := [(ca, .inl (cI, 16, .inl kc)), (cc, .inl (cI, 4, .inl kd))]) (tysr := [(cI, .int)]) hP hD hS hA hK [0] [1, 2] [0] rfl rfl (by decide) (by decide) rfl (va_runV (As := [.int v, .int (kc (Int32.toNatClampNeg i_3))]) (rest := []) ⟨hx, hb, hml, hown, hts⟩ (g_constantFor l D H.size h0 ca cc kb kf kg kl kx ko v (kc (Int32.toNatClampNeg i_3)) ) (cwV 2 hts gX3_commonConstant_X3_constantFor rfl rfl rfl (by decide +kernel) ⟨Nat.le_of_ble_eq_true rfl, Nat.le_of_ble_eq_true rfl⟩) (st_preV (ci := 2) (q0 := 0) hP hD hK hNW [0] [] rfl rfl (by decide) rfl rfl rfl rfl) rfl rfl hl.1 rfl (lv_room (Nat.le_of_ble_eq_true rfl)) dX3_commonConstant_34 ⟨(Nat.le_of_ble_eq_true rfl), (Nat.le_of_ble_eq_true rfl)⟩) (fun r_12 u H locs hw hP hD hK hS => ?_)
    have hP : va_P D vwCl [(ca, .inl (cI, 16, .inl kc)), (cc, .inl (cI, 4, .inl kd)), (h0, .inr (2, [.int kb, .ref ca, .ref cc, .int kf, .int kg, .int kl, .int kx, .int ko]))] H := hP
    have hD : va_D A [(ca, .inl (cI, 16, .inl kc)), (cc, .inl (cI, 4, .inl kd)), (h0, .inr (2, [.int kb, .ref ca, .ref cc, .int kf, .int kg, .int kl, .int kx, .int ko]))] := hD
    have hK : va_K D vwCl [(cI, .int)] s := hK
    refine lv_istore (lv' := [(5, .int r_12), (4, .int i_3), (3, .int i3_2), (2, .int i2_1), (0, .ref h0), (1, .int v)]) hx hb dX3_commonConstant_37 hl (by decide) rfl (fun ls hl => ?_)
    refine lv_iload_n hx hb dX3_commonConstant_39 rfl (lv_at hl 2 rfl) ?_
    refine lv_if_eq (tgt := 51) hx hb dX3_commonConstant_40 (by decide) (fun c_13 => ?_) (fun c_13 => ?_)
    · refine lv_iload hx hb dX3_commonConstant_51 (lv_at hl 0 rfl) ?_
      refine lv_istore_n (lv' := [(2, .int r_12), (5, .int r_12), (4, .int i_3), (3, .int i3_2), (0, .ref h0), (1, .int v)]) hx hb dX3_commonConstant_53 rfl hl (by decide) rfl (fun ls hl => ?_)
      refine lv_iconst (v := 1) hx hb dX3_commonConstant_54 (by decide) ?_
      refine lv_istore_n (lv' := [(3, .int 1), (2, .int r_12), (5, .int r_12), (4, .int i_3), (0, .ref h0), (1, .int v)]) hx hb dX3_commonConstant_55 rfl hl (by decide) rfl (fun ls hl => ?_)
      exact hJ_10 _ _ _ _ ⟨r_12, 1, rfl, ⟨hP.sub [2, 0, 1] rfl, hD.sub [2, 0, 1] (by decide) rfl⟩, hS, lv_sub hl [3, 0, 1, 4, 5] rfl⟩
    refine lv_iload hx hb dX3_commonConstant_43 (lv_at hl 0 rfl) ?_
    refine lv_iload_n hx hb dX3_commonConstant_45 rfl (lv_at hl 3 rfl) ?_
    refine lv_icmp_eq (tgt := 51) hx hb dX3_commonConstant_46 (by decide) (fun c_14 => ?_) (fun c_14 => ?_)
    · refine lv_iload hx hb dX3_commonConstant_51 (lv_at hl 0 rfl) ?_
      refine lv_istore_n (lv' := [(2, .int r_12), (5, .int r_12), (4, .int i_3), (3, .int i3_2), (0, .ref h0), (1, .int v)]) hx hb dX3_commonConstant_53 rfl hl (by decide) rfl (fun ls hl => ?_)
      refine lv_iconst (v := 1) hx hb dX3_commonConstant_54 (by decide) ?_
      refine lv_istore_n (lv' := [(3, .int 1), (2, .int r_12), (5, .int r_12), (4, .int i_3), (0, .ref h0), (1, .int v)]) hx hb dX3_commonConstant_55 rfl hl (by decide) rfl (fun ls hl => ?_)
      exact hJ_10 _ _ _ _ ⟨r_12, 1, rfl, ⟨hP.sub [2, 0, 1] rfl, hD.sub [2, 0, 1] (by decide) rfl⟩, hS, lv_sub hl [3, 0, 1, 4, 5] rfl⟩
    refine lv_iconst (v := (-1)) hx hb dX3_commonConstant_49 (by decide) ?_
    exact ret_i hx hb hr hlocks rfl (u := ()) trivial (hP.sub [2, 0, 1] rfl) (hK.sub [] rfl) (hD.sub [2, 0, 1] (by decide) rfl) hS (Nat.le_of_ble_eq_true rfl) (Nat.le_of_ble_eq_true rfl) dX3_commonConstant_50
theorem hig_compareAll_X3 : ∀ w ∈ wsX30, w ∈ wsX3_compareAll := mem_pl [32, 33, 34, 35, 36, 37, 38, 39] rfl
set_option maxHeartbeats 4000000 in
set_option maxRecDepth 100000 in
theorem g_compareAll (l : Launch) (D : va_G) (sz : Nat) (cI : ClassId) (h0 : Nat) (ca : Nat) (cc : Nat) (kb : Int32) (kf : Int32) (kg : Int32) (kl : Int32) (kx : Int32) (ko : Int32) (kc : Nat → Int32) (kd : Nat → Int32)  : Cv l yX3_compareAll wsX3_compareAll ({ frames := 4, cells := 0, slots := 0, locals := 89 } : Room) D [.ref h0] [(h0, .inr (2, [.int kb, .ref ca, .ref cc, .int kf, .int kg, .int kl, .int kx, .int ko])), (ca, .inl (cI, 16, .inl kc)), (cc, .inl (cI, 4, .inl kd))] [(cI, .int)] sz (fun (u9 : Int32 × Int32 × Int32 × (Nat → Int32)) => match u9 with | (kl2, kx2, ko2, kd2) => True) (fun (u9 : Int32 × Int32 × Int32 × (Nat → Int32)) => match u9 with | (kl2, kx2, ko2, kd2) => [(h0, .inr (2, [.int kb, .ref ca, .ref cc, .int kf, .int kg, .int kl2, .int kx2, .int ko2])), (ca, .inl (cI, 16, .inl kc)), (cc, .inl (cI, 4, .inl kd2))]) (fun (u9 : Int32 × Int32 × Int32 × (Nat → Int32)) => match u9 with | (kl2, kx2, ko2, kd2) => []) := by
  refine ct_v (cc := cX3_compareAll) (maxL := 4) (ret := none) (by decide) rfl (Nat.le_of_ble_eq_true rfl) ?_
  intro p e s m below meth c A ls H hx hb hr hts hown hml hlocks hin hA hS hP hK hD hNW hl hAe hsz
  have hl : lv_has ls 4 [(0, .ref h0)] := hl
  refine lv_aload_n hx hb dX3_compareAll_0 rfl (lv_at hl 0 rfl) ?_
  refine lv_iconst (v := 0) hx hb dX3_compareAll_1 (by decide) ?_
  refine va_put (D := D) (ci := 2) (v := .int 0) (ty := .int) (C := RX3) (T := TX3) (N := 8) hx hb hts hig_compareAll_X3 tyX3 tyX3_ok nmX3 hown hK hP hD hS 0 rfl rfl 5 (by decide) (hts (.fieldLink RX3 57 "OneHandset$Keys" "learnt" "I") (List.mem_of_getElem? (i := 1) rfl)) (fun _ h9 => h9) rfl (by decide +kernel) rfl rfl (Nat.le_of_ble_eq_true rfl) dX3_compareAll_2 (fun H locs hP hD hS => ?_)
  have hP : va_P D vwCl [(h0, .inr (2, [.int kb, .ref ca, .ref cc, .int kf, .int kg, .int 0, .int kx, .int ko])), (ca, .inl (cI, 16, .inl kc)), (cc, .inl (cI, 4, .inl kd))] H := hP
  have hD : va_D A [(h0, .inr (2, [.int kb, .ref ca, .ref cc, .int kf, .int kg, .int 0, .int kx, .int ko])), (ca, .inl (cI, 16, .inl kc)), (cc, .inl (cI, 4, .inl kd))] := hD
  refine lv_aload_n hx hb dX3_compareAll_5 rfl (lv_at hl 0 rfl) ?_
  refine va_get (D := D) (ci := 2) (v := .int kb) (C := RX3) (T := TX3) (N := 8) hx hb hts hig_compareAll_X3 hown hK hP 0 rfl rfl 0 (by decide) (hts (.fieldLink RX3 18 "OneHandset$Keys" "bits" "I") (List.mem_of_getElem? (i := 2) rfl)) (fun _ h9 => h9) rfl dX3_compareAll_6 ?_
  refine go_i (wr := [(h0, .inr (2, [.int kb, .ref ca, .ref cc, .int kf, .int kg, .int 0, .int kx, .int ko])), (ca, .inl (cI, 16, .inl kc)), (cc, .inl (cI, 4, .inl kd))]) (tysr := [(cI, .int)]) hP hD hS hA hK [] [0, 1, 2] [0] rfl rfl (by decide) (by decide) rfl (va_runSN (As := [.int kb]) (rest := []) ⟨hx, hb, hml, hown, hts⟩ (c_X8_lowBits l D H.size kb ) ⟨(va_cnB (own := RX3) (host := RX8) (index := 60) 1 hts gX3_compareAll_X8_lowBits_n60 rfl rfl rfl (hNW.2.1 (RX3, 60, yX8_lowBits, RX8) (List.mem_of_getElem? (l := nw_M) (i := 5) rfl)) (hts (.initialized RX8) (List.mem_of_getElem? (i := 8) rfl)) (by decide +kernel) ⟨Nat.le_of_ble_eq_true rfl, Nat.le_of_ble_eq_true rfl⟩), (hts (.static yX8_lowBits) (List.mem_of_getElem? (i := 7) rfl)), trivial⟩ (st_preS hP hD hK hNW [] [] rfl rfl (by decide) rfl) rfl rfl hl.1 rfl (lv_room (Nat.le_of_ble_eq_true rfl)) dX3_compareAll_9 ⟨(Nat.le_of_ble_eq_true rfl), (Nat.le_of_ble_eq_true rfl)⟩) (fun r_1 u H locs hw hP hD hK hS => ?_)
  have hw : r_1 = lb kb := hw
  subst hw
  have hP : va_P D vwCl [(h0, .inr (2, [.int kb, .ref ca, .ref cc, .int kf, .int kg, .int 0, .int kx, .int ko])), (ca, .inl (cI, 16, .inl kc)), (cc, .inl (cI, 4, .inl kd))] H := hP
  have hD : va_D A [(h0, .inr (2, [.int kb, .ref ca, .ref cc, .int kf, .int kg, .int 0, .int kx, .int ko])), (ca, .inl (cI, 16, .inl kc)), (cc, .inl (cI, 4, .inl kd))] := hD
  have hK : va_K D vwCl [(cI, .int)] s := hK
  refine lv_istore_n (lv' := [(1, .int (lb kb)), (0, .ref h0)]) hx hb dX3_compareAll_12 rfl hl (by decide) rfl (fun ls hl => ?_)
  refine lv_iconst (v := 0) hx hb dX3_compareAll_13 (by decide) ?_
  refine lv_istore_n (lv' := [(2, .int 0), (1, .int (lb kb)), (0, .ref h0)]) hx hb dX3_compareAll_14 rfl hl (by decide) rfl (fun ls hl => ?_)
  refine lv_iconst (v := 0) hx hb dX3_compareAll_15 (by decide) ?_
  refine lv_istore_n (lv' := [(3, .int 0), (2, .int 0), (1, .int (lb kb)), (0, .ref h0)]) hx hb dX3_compareAll_16 rfl hl (by decide) rfl (fun ls hl => ?_)
  refine lp_N (fun n9 H locs ls => ∃ (z5_2 : Int32), ∃ (i1_3 : Int32), ∃ (i2_4 : Int32), ∃ (i_5 : Int32), n9 = (16 - i_5.toInt).toNat ∧ (va_P D vwCl [(h0, .inr (2, [.int kb, .ref ca, .ref cc, .int kf, .int kg, .int z5_2, .int kx, .int ko])), (ca, .inl (cI, 16, .inl kc)), (cc, .inl (cI, 4, .inl kd))] H ∧ va_D A [(h0, .inr (2, [.int kb, .ref ca, .ref cc, .int kf, .int kg, .int z5_2, .int kx, .int ko])), (ca, .inl (cI, 16, .inl kc)), (cc, .inl (cI, 4, .inl kd))]) ∧ va_S A s.heap H locs ∧ lv_has ls 4 [(3, .int i_5), (2, .int i2_4), (1, .int i1_3), (0, .ref h0)] ∧ (0 ≤ i_5.toInt)) ?_ ⟨0, lb kb, 0, 0, rfl, ⟨hP, hD⟩, hS, hl, (by decide)⟩
  intro n9 ih_6 H locs ls hI
  obtain ⟨z5_2, i1_3, i2_4, i_5, rfl, ⟨hP, hD⟩, hS, hl, hv_7⟩ := hI
  refine lv_iload_n hx hb dX3_compareAll_17 rfl (lv_at hl 0 rfl) ?_
  refine lv_bipush (v := 16) hx hb dX3_compareAll_18 (by decide) ?_
  refine lv_icmp_ge (tgt := 67) hx hb dX3_compareAll_20 (by decide) (fun c_8 => ?_) (fun c_8 => ?_)
  · refine lv_aload_n hx hb dX3_compareAll_67 rfl (lv_at hl 3 rfl) ?_
    refine jn_S 101 (fun st9 H locs ls => ∃ (q_9 : Int32), st9 = [.int q_9, .ref h0] ∧ (va_P D vwCl [(h0, .inr (2, [.int kb, .ref ca, .ref cc, .int kf, .int kg, .int z5_2, .int kx, .int ko])), (ca, .inl (cI, 16, .inl kc)), (cc, .inl (cI, 4, .inl kd))] H ∧ va_D A [(h0, .inr (2, [.int kb, .ref ca, .ref cc, .int kf, .int kg, .int z5_2, .int kx, .int ko])), (ca, .inl (cI, 16, .inl kc)), (cc, .inl (cI, 4, .inl kd))]) ∧ va_S A s.heap H locs ∧ lv_has ls 4 [(3, .int i_5), (2, .int i2_4), (1, .int i1_3), (0, .ref h0)]) ?_ ?_
    · intro st9 H locs ls hI
      obtain ⟨q_9, rfl, ⟨hP, hD⟩, hS, hl⟩ := hI
      refine va_put (D := D) (ci := 2) (v := .int q_9) (ty := .int) (C := RX3) (T := TX3) (N := 8) hx hb hts hig_compareAll_X3 tyX3 tyX3_ok nmX3 hown hK hP hD hS 0 rfl rfl 6 (by decide) (hts (.fieldLink RX3 63 "OneHandset$Keys" "fixed" "I") (List.mem_of_getElem? (i := 4) rfl)) (fun _ h9 => h9) rfl (by decide +kernel) rfl rfl (Nat.le_of_ble_eq_true rfl) dX3_compareAll_101 (fun H locs hP hD hS => ?_)
      have hP : va_P D vwCl [(h0, .inr (2, [.int kb, .ref ca, .ref cc, .int kf, .int kg, .int z5_2, .int q_9, .int ko])), (ca, .inl (cI, 16, .inl kc)), (cc, .inl (cI, 4, .inl kd))] H := hP
      have hD : va_D A [(h0, .inr (2, [.int kb, .ref ca, .ref cc, .int kf, .int kg, .int z5_2, .int q_9, .int ko])), (ca, .inl (cI, 16, .inl kc)), (cc, .inl (cI, 4, .inl kd))] := hD
      refine lv_aload_n hx hb dX3_compareAll_104 rfl (lv_at hl 3 rfl) ?_
      refine lv_iload_n hx hb dX3_compareAll_105 rfl (lv_at hl 2 rfl) ?_
      refine lv_aload_n hx hb dX3_compareAll_106 rfl (lv_at hl 3 rfl) ?_
      refine va_get (D := D) (ci := 2) (v := .int q_9) (C := RX3) (T := TX3) (N := 8) hx hb hts hig_compareAll_X3 hown hK hP 0 rfl rfl 6 (by decide) (hts (.fieldLink RX3 63 "OneHandset$Keys" "fixed" "I") (List.mem_of_getElem? (i := 4) rfl)) (fun _ h9 => h9) rfl dX3_compareAll_107 ?_
      refine lv_iand hx hb dX3_compareAll_110 ?_
      refine lv_topi (fun y_11 _ => ?_)
      refine va_put (D := D) (ci := 2) (v := .int y_11) (ty := .int) (C := RX3) (T := TX3) (N := 8) hx hb hts hig_compareAll_X3 tyX3 tyX3_ok nmX3 hown hK hP hD hS 0 rfl rfl 7 (by decide) (hts (.fieldLink RX3 66 "OneHandset$Keys" "fixedOn" "I") (List.mem_of_getElem? (i := 5) rfl)) (fun _ h9 => h9) rfl (by decide +kernel) rfl rfl (Nat.le_of_ble_eq_true rfl) dX3_compareAll_111 (fun H locs hP hD hS => ?_)
      have hP : va_P D vwCl [(h0, .inr (2, [.int kb, .ref ca, .ref cc, .int kf, .int kg, .int z5_2, .int q_9, .int y_11])), (ca, .inl (cI, 16, .inl kc)), (cc, .inl (cI, 4, .inl kd))] H := hP
      have hD : va_D A [(h0, .inr (2, [.int kb, .ref ca, .ref cc, .int kf, .int kg, .int z5_2, .int q_9, .int y_11])), (ca, .inl (cI, 16, .inl kc)), (cc, .inl (cI, 4, .inl kd))] := hD
      refine lv_iconst (v := 1) hx hb dX3_compareAll_114 (by decide) ?_
      refine lv_istore_n (lv' := [(3, .int 1), (2, .int i2_4), (1, .int i1_3), (0, .ref h0)]) hx hb dX3_compareAll_115 rfl hl (by decide) rfl (fun ls hl => ?_)
      refine lp_N (fun n9 H locs ls => ∃ (g_12 : Nat → Int32), ∃ (i_13 : Int32), n9 = (4 - i_13.toInt).toNat ∧ (va_P D vwCl [(h0, .inr (2, [.int kb, .ref ca, .ref cc, .int kf, .int kg, .int z5_2, .int q_9, .int y_11])), (ca, .inl (cI, 16, .inl kc)), (cc, .inl (cI, 4, .inl g_12))] H ∧ va_D A [(h0, .inr (2, [.int kb, .ref ca, .ref cc, .int kf, .int kg, .int z5_2, .int q_9, .int y_11])), (ca, .inl (cI, 16, .inl kc)), (cc, .inl (cI, 4, .inl g_12))]) ∧ va_S A s.heap H locs ∧ lv_has ls 4 [(3, .int i_13), (2, .int i2_4), (1, .int i1_3), (0, .ref h0)] ∧ (1 ≤ i_13.toInt)) ?_ ⟨kd, 1, rfl, ⟨hP, hD⟩, hS, hl, (by decide)⟩
      intro n9 ih_14 H locs ls hI
      obtain ⟨g_12, i_13, rfl, ⟨hP, hD⟩, hS, hl, hv_15⟩ := hI
      refine lv_iload_n hx hb dX3_compareAll_116 rfl (lv_at hl 0 rfl) ?_
      refine lv_iconst (v := 3) hx hb dX3_compareAll_117 (by decide) ?_
      refine lv_icmp_gt (tgt := 158) hx hb dX3_compareAll_118 (by decide) (fun c_16 => ?_) (fun c_16 => ?_)
      · exact ret_v hx hb hr hlocks (u := (z5_2, q_9, y_11, g_12)) trivial (hP.sub [0, 1, 2] rfl) (hK.sub [] rfl) (hD.sub [0, 1, 2] (by decide) rfl) hS (Nat.le_of_ble_eq_true rfl) (Nat.le_of_ble_eq_true rfl) dX3_compareAll_158
      refine lv_aload_n hx hb dX3_compareAll_121 rfl (lv_at hl 3 rfl) ?_
      refine va_get (D := D) (ci := 2) (v := .ref cc) (C := RX3) (T := TX3) (N := 8) hx hb hts hig_compareAll_X3 hown hK hP 0 rfl rfl 2 (by decide) (hts (.fieldLink RX3 15 "OneHandset$Keys" "constants" "[I") (List.mem_of_getElem? (i := 6) rfl)) (fun _ h9 => h9) rfl dX3_compareAll_122 ?_
      refine lv_iload_n hx hb dX3_compareAll_125 rfl (lv_at hl 0 rfl) ?_
      refine jn_S 151 (fun st9 H locs ls => ∃ (q_17 : Int32), st9 = [.int q_17, .int i_13, .ref cc] ∧ (va_P D vwCl [(h0, .inr (2, [.int kb, .ref ca, .ref cc, .int kf, .int kg, .int z5_2, .int q_9, .int y_11])), (ca, .inl (cI, 16, .inl kc)), (cc, .inl (cI, 4, .inl g_12))] H ∧ va_D A [(h0, .inr (2, [.int kb, .ref ca, .ref cc, .int kf, .int kg, .int z5_2, .int q_9, .int y_11])), (ca, .inl (cI, 16, .inl kc)), (cc, .inl (cI, 4, .inl g_12))]) ∧ va_S A s.heap H locs ∧ lv_has ls 4 [(3, .int i_13), (2, .int i2_4), (1, .int i1_3), (0, .ref h0)]) ?_ ?_
      · intro st9 H locs ls hI
        obtain ⟨q_17, rfl, ⟨hP, hD⟩, hS, hl⟩ := hI
        refine va_iast hx hb hK hP hD hS 2 0 rfl rfl (by have : (3 : Int32).toInt = 3 := (by decide); have : (16 : Int32).toInt = 16 := (by decide); have := ti_le c_8; have := ti_nlt c_16; exact vp_in_iff.mpr (by omega)) dX3_compareAll_151 (fun H locs hP hD hS => ?_)
        obtain ⟨g_19, hP, hD⟩ : ∃ g9 : Nat → Int32, va_P D vwCl [(h0, .inr (2, [.int kb, .ref ca, .ref cc, .int kf, .int kg, .int z5_2, .int q_9, .int y_11])), (ca, .inl (cI, 16, .inl kc)), (cc, .inl (cI, 4, .inl g9))] H ∧ va_D A [(h0, .inr (2, [.int kb, .ref ca, .ref cc, .int kf, .int kg, .int z5_2, .int q_9, .int y_11])), (ca, .inl (cI, 16, .inl kc)), (cc, .inl (cI, 4, .inl g9))] := ⟨_, hP, hD⟩
        refine lv_iinc (v := i_13 + 1) (lv' := [(3, .int (i_13 + 1)), (2, .int i2_4), (1, .int i1_3), (0, .ref h0)]) hx hb dX3_compareAll_152 hl (k := 0) rfl rfl (by decide) rfl (fun ls hl => ?_)
        refine lv_goto (tgt := 116) hx hb dX3_compareAll_155 (by decide) ?_
        exact ih_14 _ _ _ _ (by have : (3 : Int32).toInt = 3 := (by decide); have : (16 : Int32).toInt = 16 := (by decide); have := ti_le c_8; have := ti_nlt c_16; have kn : (4 : Int32).toInt = 4 := (by decide); have u1 := ti_up (i := i_13) (n := 4) (by omega); omega) ⟨g_19, i_13 + 1, rfl, ⟨hP, hD⟩, hS, lv_sub hl [0, 1, 2, 3] rfl, (by have : (3 : Int32).toInt = 3 := (by decide); have : (16 : Int32).toInt = 16 := (by decide); have := ti_le c_8; have := ti_nlt c_16; have kn : (4 : Int32).toInt = 4 := (by decide); have u1 := ti_up (i := i_13) (n := 4) (by omega); omega)⟩
      · intro hJ_20
        refine lv_aload_n hx hb dX3_compareAll_126 rfl (lv_at hl 3 rfl) ?_
        refine lv_iload_n hx hb dX3_compareAll_127 rfl (lv_at hl 0 rfl) ?_
        refine go_i (wr := [(ca, .inl (cI, 16, .inl kc)), (cc, .inl (cI, 4, .inl g_12))]) (tysr := [(cI, .int)]) hP hD hS hA hK [0] [1, 2] [0] rfl rfl (by decide) (by decide) rfl (va_runV (As := [.int i_13]) (rest := [.int i_13, .ref cc]) ⟨hx, hb, hml, hown, hts⟩ (g_isCheck l D H.size h0 ca cc kb kf kg z5_2 q_9 y_11 i_13 ) (cwV 1 hts gX3_compareAll_X3_isCheck rfl rfl rfl (by decide +kernel) ⟨Nat.le_of_ble_eq_true rfl, Nat.le_of_ble_eq_true rfl⟩) (st_preV (ci := 2) (q0 := 0) hP hD hK hNW [0] [] rfl rfl (by decide) rfl rfl rfl rfl) rfl rfl hl.1 rfl (lv_room (Nat.le_of_ble_eq_true rfl)) dX3_compareAll_128 ⟨(Nat.le_of_ble_eq_true rfl), (Nat.le_of_ble_eq_true rfl)⟩) (fun r_21 u H locs hw hP hD hK hS => ?_)
        have hP : va_P D vwCl [(ca, .inl (cI, 16, .inl kc)), (cc, .inl (cI, 4, .inl g_12)), (h0, .inr (2, [.int kb, .ref ca, .ref cc, .int kf, .int kg, .int z5_2, .int q_9, .int y_11]))] H := hP
        have hD : va_D A [(ca, .inl (cI, 16, .inl kc)), (cc, .inl (cI, 4, .inl g_12)), (h0, .inr (2, [.int kb, .ref ca, .ref cc, .int kf, .int kg, .int z5_2, .int q_9, .int y_11]))] := hD
        have hK : va_K D vwCl [(cI, .int)] s := hK
        refine lv_if_eq (tgt := 150) hx hb dX3_compareAll_131 (by decide) (fun c_22 => ?_) (fun c_22 => ?_)
        · refine lv_iconst (v := (-1)) hx hb dX3_compareAll_150 (by decide) ?_
          exact hJ_20 _ _ _ _ ⟨(-1), rfl, ⟨hP.sub [2, 0, 1] rfl, hD.sub [2, 0, 1] (by decide) rfl⟩, hS, lv_sub hl [0, 1, 2, 3] rfl⟩
        refine lv_aload_n hx hb dX3_compareAll_134 rfl (lv_at hl 3 rfl) ?_
        refine va_get (D := D) (ci := 2) (v := .int z5_2) (C := RX3) (T := TX3) (N := 8) hx hb hts hig_compareAll_X3 hown hK hP 2 rfl rfl 5 (by decide) (hts (.fieldLink RX3 57 "OneHandset$Keys" "learnt" "I") (List.mem_of_getElem? (i := 1) rfl)) (fun _ h9 => h9) rfl dX3_compareAll_135 ?_
        refine lv_iconst (v := 2) hx hb dX3_compareAll_138 (by decide) ?_
        refine lv_icmp_lt (tgt := 150) hx hb dX3_compareAll_139 (by decide) (fun c_23 => ?_) (fun c_23 => ?_)
        · refine lv_iconst (v := (-1)) hx hb dX3_compareAll_150 (by decide) ?_
          exact hJ_20 _ _ _ _ ⟨(-1), rfl, ⟨hP.sub [2, 0, 1] rfl, hD.sub [2, 0, 1] (by decide) rfl⟩, hS, lv_sub hl [0, 1, 2, 3] rfl⟩
        refine lv_aload_n hx hb dX3_compareAll_142 rfl (lv_at hl 3 rfl) ?_
        refine lv_iload_n hx hb dX3_compareAll_143 rfl (lv_at hl 0 rfl) ?_
        refine go_i (wr := []) (tysr := [(cI, .int)]) hP hD hS hA hK [2, 0, 1] [] [0] rfl rfl (by decide) (by decide) rfl (va_runV (As := [.int i_13]) (rest := [.int i_13, .ref cc]) ⟨hx, hb, hml, hown, hts⟩ (g_commonConstant l D H.size cI h0 ca cc kb kf kg z5_2 q_9 y_11 kc g_12 i_13 ) (cwV 1 hts gX3_compareAll_X3_commonConstant rfl rfl rfl (by decide +kernel) ⟨Nat.le_of_ble_eq_true rfl, Nat.le_of_ble_eq_true rfl⟩) (st_preV (ci := 2) (q0 := 2) hP hD hK hNW [2, 0, 1] [0] rfl rfl (by decide) rfl rfl rfl rfl) rfl rfl hl.1 rfl (lv_room (Nat.le_of_ble_eq_true rfl)) dX3_compareAll_144 ⟨(Nat.le_of_ble_eq_true rfl), (Nat.le_of_ble_eq_true rfl)⟩) (fun r_24 u H locs hw hP hD hK hS => ?_)
        have hP : va_P D vwCl [(h0, .inr (2, [.int kb, .ref ca, .ref cc, .int kf, .int kg, .int z5_2, .int q_9, .int y_11])), (ca, .inl (cI, 16, .inl kc)), (cc, .inl (cI, 4, .inl g_12))] H := hP
        have hD : va_D A [(h0, .inr (2, [.int kb, .ref ca, .ref cc, .int kf, .int kg, .int z5_2, .int q_9, .int y_11])), (ca, .inl (cI, 16, .inl kc)), (cc, .inl (cI, 4, .inl g_12))] := hD
        have hK : va_K D vwCl [(cI, .int)] s := hK
        refine lv_goto (tgt := 151) hx hb dX3_compareAll_147 (by decide) ?_
        exact hJ_20 _ _ _ _ ⟨r_24, rfl, ⟨hP, hD⟩, hS, lv_sub hl [0, 1, 2, 3] rfl⟩
    · intro hJ_25
      refine lv_aload_n hx hb dX3_compareAll_68 rfl (lv_at hl 3 rfl) ?_
      refine va_get (D := D) (ci := 2) (v := .int z5_2) (C := RX3) (T := TX3) (N := 8) hx hb hts hig_compareAll_X3 hown hK hP 0 rfl rfl 5 (by decide) (hts (.fieldLink RX3 57 "OneHandset$Keys" "learnt" "I") (List.mem_of_getElem? (i := 1) rfl)) (fun _ h9 => h9) rfl dX3_compareAll_69 ?_
      refine lv_if_ne (tgt := 79) hx hb dX3_compareAll_72 (by decide) (fun c_26 => ?_) (fun c_26 => ?_)
      · refine lv_aload_n hx hb dX3_compareAll_79 rfl (lv_at hl 3 rfl) ?_
        refine va_get (D := D) (ci := 2) (v := .int kb) (C := RX3) (T := TX3) (N := 8) hx hb hts hig_compareAll_X3 hown hK hP 0 rfl rfl 0 (by decide) (hts (.fieldLink RX3 18 "OneHandset$Keys" "bits" "I") (List.mem_of_getElem? (i := 2) rfl)) (fun _ h9 => h9) rfl dX3_compareAll_80 ?_
        refine go_i (wr := [(h0, .inr (2, [.int kb, .ref ca, .ref cc, .int kf, .int kg, .int z5_2, .int kx, .int ko])), (ca, .inl (cI, 16, .inl kc)), (cc, .inl (cI, 4, .inl kd))]) (tysr := [(cI, .int)]) hP hD hS hA hK [] [0, 1, 2] [0] rfl rfl (by decide) (by decide) rfl (va_runSN (As := [.int kb]) (rest := [.ref h0]) ⟨hx, hb, hml, hown, hts⟩ (c_X8_lowBits l D H.size kb ) ⟨(va_cnB (own := RX3) (host := RX8) (index := 60) 1 hts gX3_compareAll_X8_lowBits_n60 rfl rfl rfl (hNW.2.1 (RX3, 60, yX8_lowBits, RX8) (List.mem_of_getElem? (l := nw_M) (i := 5) rfl)) (hts (.initialized RX8) (List.mem_of_getElem? (i := 8) rfl)) (by decide +kernel) ⟨Nat.le_of_ble_eq_true rfl, Nat.le_of_ble_eq_true rfl⟩), (hts (.static yX8_lowBits) (List.mem_of_getElem? (i := 7) rfl)), trivial⟩ (st_preS hP hD hK hNW [] [] rfl rfl (by decide) rfl) rfl rfl hl.1 rfl (lv_room (Nat.le_of_ble_eq_true rfl)) dX3_compareAll_83 ⟨(Nat.le_of_ble_eq_true rfl), (Nat.le_of_ble_eq_true rfl)⟩) (fun r_27 u H locs hw hP hD hK hS => ?_)
        have hw : r_27 = lb kb := hw
        subst hw
        have hP : va_P D vwCl [(h0, .inr (2, [.int kb, .ref ca, .ref cc, .int kf, .int kg, .int z5_2, .int kx, .int ko])), (ca, .inl (cI, 16, .inl kc)), (cc, .inl (cI, 4, .inl kd))] H := hP
        have hD : va_D A [(h0, .inr (2, [.int kb, .ref ca, .ref cc, .int kf, .int kg, .int z5_2, .int kx, .int ko])), (ca, .inl (cI, 16, .inl kc)), (cc, .inl (cI, 4, .inl kd))] := hD
        have hK : va_K D vwCl [(cI, .int)] s := hK
        refine lv_iload_n hx hb dX3_compareAll_86 rfl (lv_at hl 1 rfl) ?_
        refine lv_iload_n hx hb dX3_compareAll_87 rfl (lv_at hl 2 rfl) ?_
        refine lv_iconst (v := (-1)) hx hb dX3_compareAll_88 (by decide) ?_
        refine lv_ixor hx hb dX3_compareAll_89 ?_
        refine lv_topi (fun y_28 _ => ?_)
        refine lv_iand hx hb dX3_compareAll_90 ?_
        refine lv_topi (fun y_29 _ => ?_)
        refine lv_iconst (v := (-1)) hx hb dX3_compareAll_91 (by decide) ?_
        refine lv_ixor hx hb dX3_compareAll_92 ?_
        refine lv_topi (fun y_30 _ => ?_)
        refine lv_iand hx hb dX3_compareAll_93 ?_
        refine lv_topi (fun y_31 _ => ?_)
        refine lv_aload_n hx hb dX3_compareAll_94 rfl (lv_at hl 3 rfl) ?_
        refine go_i (wr := [(ca, .inl (cI, 16, .inl kc)), (cc, .inl (cI, 4, .inl kd))]) (tysr := [(cI, .int)]) hP hD hS hA hK [0] [1, 2] [0] rfl rfl (by decide) (by decide) rfl (va_runV (As := []) (rest := [.int y_31, .ref h0]) ⟨hx, hb, hml, hown, hts⟩ (g_flipMask l D H.size h0 ca cc kb kf kg z5_2 kx ko ) (cwV 0 hts gX3_compareAll_X3_flipMask rfl rfl rfl (by decide +kernel) ⟨Nat.le_of_ble_eq_true rfl, Nat.le_of_ble_eq_true rfl⟩) (st_preV (ci := 2) (q0 := 0) hP hD hK hNW [0] [] rfl rfl (by decide) rfl rfl rfl rfl) rfl rfl hl.1 rfl (lv_room (Nat.le_of_ble_eq_true rfl)) dX3_compareAll_95 ⟨(Nat.le_of_ble_eq_true rfl), (Nat.le_of_ble_eq_true rfl)⟩) (fun r_32 u H locs hw hP hD hK hS => ?_)
        have hP : va_P D vwCl [(ca, .inl (cI, 16, .inl kc)), (cc, .inl (cI, 4, .inl kd)), (h0, .inr (2, [.int kb, .ref ca, .ref cc, .int kf, .int kg, .int z5_2, .int kx, .int ko]))] H := hP
        have hD : va_D A [(ca, .inl (cI, 16, .inl kc)), (cc, .inl (cI, 4, .inl kd)), (h0, .inr (2, [.int kb, .ref ca, .ref cc, .int kf, .int kg, .int z5_2, .int kx, .int ko]))] := hD
        have hK : va_K D vwCl [(cI, .int)] s := hK
        refine lv_iconst (v := (-1)) hx hb dX3_compareAll_98 (by decide) ?_
        refine lv_ixor hx hb dX3_compareAll_99 ?_
        refine lv_topi (fun y_33 _ => ?_)
        refine lv_iand hx hb dX3_compareAll_100 ?_
        refine lv_topi (fun y_34 _ => ?_)
        exact hJ_25 _ _ _ _ ⟨y_34, rfl, ⟨hP.sub [2, 0, 1] rfl, hD.sub [2, 0, 1] (by decide) rfl⟩, hS, lv_sub hl [0, 1, 2, 3] rfl⟩
      refine lv_iconst (v := 0) hx hb dX3_compareAll_75 (by decide) ?_
      refine lv_goto (tgt := 101) hx hb dX3_compareAll_76 (by decide) ?_
      exact hJ_25 _ _ _ _ ⟨0, rfl, ⟨hP, hD⟩, hS, lv_sub hl [0, 1, 2, 3] rfl⟩
  refine jn_S 61 (fun st9 H locs ls => ∃ (z5_35 : Int32), ∃ (i1_36 : Int32), ∃ (i2_37 : Int32), st9 = [] ∧ (va_P D vwCl [(h0, .inr (2, [.int kb, .ref ca, .ref cc, .int kf, .int kg, .int z5_35, .int kx, .int ko])), (ca, .inl (cI, 16, .inl kc)), (cc, .inl (cI, 4, .inl kd))] H ∧ va_D A [(h0, .inr (2, [.int kb, .ref ca, .ref cc, .int kf, .int kg, .int z5_35, .int kx, .int ko])), (ca, .inl (cI, 16, .inl kc)), (cc, .inl (cI, 4, .inl kd))]) ∧ va_S A s.heap H locs ∧ lv_has ls 4 [(3, .int i_5), (2, .int i2_37), (1, .int i1_36), (0, .ref h0)]) ?_ ?_
  · intro st9 H locs ls hI
    obtain ⟨z5_35, i1_36, i2_37, rfl, ⟨hP, hD⟩, hS, hl⟩ := hI
    refine lv_iinc (v := i_5 + 1) (lv' := [(3, .int (i_5 + 1)), (2, .int i2_37), (1, .int i1_36), (0, .ref h0)]) hx hb dX3_compareAll_61 hl (k := 0) rfl rfl (by decide) rfl (fun ls hl => ?_)
    refine lv_goto (tgt := 17) hx hb dX3_compareAll_64 (by decide) ?_
    exact ih_6 _ _ _ _ (by have : (16 : Int32).toInt = 16 := (by decide); have := ti_nle c_8; have kn : (16 : Int32).toInt = 16 := (by decide); have u1 := ti_up (i := i_5) (n := 16) (by omega); omega) ⟨z5_35, i1_36, i2_37, i_5 + 1, rfl, ⟨hP, hD⟩, hS, lv_sub hl [0, 1, 2, 3] rfl, (by have : (16 : Int32).toInt = 16 := (by decide); have := ti_nle c_8; have kn : (16 : Int32).toInt = 16 := (by decide); have u1 := ti_up (i := i_5) (n := 16) (by omega); omega)⟩
  · intro hJ_39
    refine lv_aload_n hx hb dX3_compareAll_23 rfl (lv_at hl 3 rfl) ?_
    refine va_get (D := D) (ci := 2) (v := .ref ca) (C := RX3) (T := TX3) (N := 8) hx hb hts hig_compareAll_X3 hown hK hP 0 rfl rfl 1 (by decide) (hts (.fieldLink RX3 9 "OneHandset$Keys" "codes" "[I") (List.mem_of_getElem? (i := 3) rfl)) (fun _ h9 => h9) rfl dX3_compareAll_24 ?_
    refine lv_iload_n hx hb dX3_compareAll_27 rfl (lv_at hl 0 rfl) ?_
    refine va_iald hx hb hK hP 1 0 rfl rfl (by have : (16 : Int32).toInt = 16 := (by decide); have := ti_nle c_8; exact vp_in_iff.mpr (by omega)) dX3_compareAll_28 ?_
    refine lv_iconst (v := (-1)) hx hb dX3_compareAll_29 (by decide) ?_
    refine lv_icmp_eq (tgt := 61) hx hb dX3_compareAll_30 (by decide) (fun c_40 => ?_) (fun c_40 => ?_)
    · exact hJ_39 _ _ _ _ ⟨z5_2, i1_3, i2_4, rfl, ⟨hP, hD⟩, hS, lv_sub hl [0, 1, 2, 3] rfl⟩
    refine lv_aload_n hx hb dX3_compareAll_33 rfl (lv_at hl 3 rfl) ?_
    refine lv_dup hx hb dX3_compareAll_34 rfl ?_
    refine va_get (D := D) (ci := 2) (v := .int z5_2) (C := RX3) (T := TX3) (N := 8) hx hb hts hig_compareAll_X3 hown hK hP 0 rfl rfl 5 (by decide) (hts (.fieldLink RX3 57 "OneHandset$Keys" "learnt" "I") (List.mem_of_getElem? (i := 1) rfl)) (fun _ h9 => h9) rfl dX3_compareAll_35 ?_
    refine lv_iconst (v := 1) hx hb dX3_compareAll_38 (by decide) ?_
    refine lv_iadd hx hb dX3_compareAll_39 ?_
    refine lv_topi (fun y_41 _ => ?_)
    refine va_put (D := D) (ci := 2) (v := .int y_41) (ty := .int) (C := RX3) (T := TX3) (N := 8) hx hb hts hig_compareAll_X3 tyX3 tyX3_ok nmX3 hown hK hP hD hS 0 rfl rfl 5 (by decide) (hts (.fieldLink RX3 57 "OneHandset$Keys" "learnt" "I") (List.mem_of_getElem? (i := 1) rfl)) (fun _ h9 => h9) rfl (by decide +kernel) rfl rfl (Nat.le_of_ble_eq_true rfl) dX3_compareAll_40 (fun H locs hP hD hS => ?_)
    have hP : va_P D vwCl [(h0, .inr (2, [.int kb, .ref ca, .ref cc, .int kf, .int kg, .int y_41, .int kx, .int ko])), (ca, .inl (cI, 16, .inl kc)), (cc, .inl (cI, 4, .inl kd))] H := hP
    have hD : va_D A [(h0, .inr (2, [.int kb, .ref ca, .ref cc, .int kf, .int kg, .int y_41, .int kx, .int ko])), (ca, .inl (cI, 16, .inl kc)), (cc, .inl (cI, 4, .inl kd))] := hD
    refine lv_iload_n hx hb dX3_compareAll_43 rfl (lv_at hl 2 rfl) ?_
    refine lv_aload_n hx hb dX3_compareAll_44 rfl (lv_at hl 3 rfl) ?_
    refine va_get (D := D) (ci := 2) (v := .ref ca) (C := RX3) (T := TX3) (N := 8) hx hb hts hig_compareAll_X3 hown hK hP 0 rfl rfl 1 (by decide) (hts (.fieldLink RX3 9 "OneHandset$Keys" "codes" "[I") (List.mem_of_getElem? (i := 3) rfl)) (fun _ h9 => h9) rfl dX3_compareAll_45 ?_
    refine lv_iload_n hx hb dX3_compareAll_48 rfl (lv_at hl 0 rfl) ?_
    refine va_iald hx hb hK hP 1 0 rfl rfl (by have : ((-1) : Int32).toInt = -1 := (by decide); have : (16 : Int32).toInt = 16 := (by decide); have := ti_nle c_8; have := ti_ne c_40; exact vp_in_iff.mpr (by omega)) dX3_compareAll_49 ?_
    refine lv_iand hx hb dX3_compareAll_50 ?_
    refine lv_topi (fun y_42 _ => ?_)
    refine lv_istore_n (lv' := [(1, .int y_42), (3, .int i_5), (2, .int i2_4), (0, .ref h0)]) hx hb dX3_compareAll_51 rfl hl (by decide) rfl (fun ls hl => ?_)
    refine lv_iload_n hx hb dX3_compareAll_52 rfl (lv_at hl 2 rfl) ?_
    refine lv_aload_n hx hb dX3_compareAll_53 rfl (lv_at hl 3 rfl) ?_
    refine va_get (D := D) (ci := 2) (v := .ref ca) (C := RX3) (T := TX3) (N := 8) hx hb hts hig_compareAll_X3 hown hK hP 0 rfl rfl 1 (by decide) (hts (.fieldLink RX3 9 "OneHandset$Keys" "codes" "[I") (List.mem_of_getElem? (i := 3) rfl)) (fun _ h9 => h9) rfl dX3_compareAll_54 ?_
    refine lv_iload_n hx hb dX3_compareAll_57 rfl (lv_at hl 1 rfl) ?_
    refine va_iald hx hb hK hP 1 0 rfl rfl (by have : ((-1) : Int32).toInt = -1 := (by decide); have : (16 : Int32).toInt = 16 := (by decide); have := ti_nle c_8; have := ti_ne c_40; exact vp_in_iff.mpr (by omega)) dX3_compareAll_58 ?_
    refine lv_ior hx hb dX3_compareAll_59 ?_
    refine lv_topi (fun y_43 _ => ?_)
    refine lv_istore_n (lv' := [(2, .int y_43), (1, .int y_42), (3, .int i_5), (0, .ref h0)]) hx hb dX3_compareAll_60 rfl hl (by decide) rfl (fun ls hl => ?_)
    exact hJ_39 _ _ _ _ ⟨y_41, y_42, y_43, rfl, ⟨hP, hD⟩, hS, lv_sub hl [2, 0, 1, 3] rfl⟩
theorem hig_startWithFlip_X3 : ∀ w ∈ wsX30, w ∈ wsX3_startWithFlip := mem_pl [41, 42, 43, 44, 45, 46, 47, 48] rfl
set_option maxHeartbeats 4000000 in
set_option maxRecDepth 100000 in
theorem g_startWithFlip (l : Launch) (D : va_G) (sz : Nat) (cI : ClassId) (h0 : Nat) (ca : Nat) (cc : Nat) (kb : Int32) (kf : Int32) (kg : Int32) (kl : Int32) (kx : Int32) (ko : Int32) (kc : Nat → Int32) (kd : Nat → Int32) (v : Int32)  : Cv l yX3_startWithFlip wsX3_startWithFlip ({ frames := 5, cells := 0, slots := 0, locals := 112 } : Room) D [.ref h0, .int v] [(h0, .inr (2, [.int kb, .ref ca, .ref cc, .int kf, .int kg, .int kl, .int kx, .int ko])), (ca, .inl (cI, 16, .inl kc)), (cc, .inl (cI, 4, .inl kd))] [(cI, .int)] sz (fun (u9 : Int32 × Int32 × Int32 × Int32 × Int32 × (Nat → Int32) × (Nat → Int32)) => match u9 with | (kf2, kg2, kl2, kx2, ko2, kc2, kd2) => True) (fun (u9 : Int32 × Int32 × Int32 × Int32 × Int32 × (Nat → Int32) × (Nat → Int32)) => match u9 with | (kf2, kg2, kl2, kx2, ko2, kc2, kd2) => [(h0, .inr (2, [.int kb, .ref ca, .ref cc, .int kf2, .int kg2, .int kl2, .int kx2, .int ko2])), (ca, .inl (cI, 16, .inl kc2)), (cc, .inl (cI, 4, .inl kd2))]) (fun (u9 : Int32 × Int32 × Int32 × Int32 × Int32 × (Nat → Int32) × (Nat → Int32)) => match u9 with | (kf2, kg2, kl2, kx2, ko2, kc2, kd2) => []) := by
  refine ct_v (cc := cX3_startWithFlip) (maxL := 2) (ret := none) (by decide) rfl (Nat.le_of_ble_eq_true rfl) ?_
  intro p e s m below meth c A ls H hx hb hr hts hown hml hlocks hin hA hS hP hK hD hNW hl hAe hsz
  have hl : lv_has ls 2 [(0, .ref h0), (1, .int v)] := hl
  refine lv_aload_n hx hb dX3_startWithFlip_0 rfl (lv_at hl 0 rfl) ?_
  refine lv_iload_n hx hb dX3_startWithFlip_1 rfl (lv_at hl 1 rfl) ?_
  refine va_put (D := D) (ci := 2) (v := .int v) (ty := .int) (C := RX3) (T := TX3) (N := 8) hx hb hts hig_startWithFlip_X3 tyX3 tyX3_ok nmX3 hown hK hP hD hS 0 rfl rfl 3 (by decide) (hts (.fieldLink RX3 26 "OneHandset$Keys" "flip" "I") (List.mem_of_getElem? (i := 1) rfl)) (fun _ h9 => h9) rfl (by decide +kernel) rfl rfl (Nat.le_of_ble_eq_true rfl) dX3_startWithFlip_2 (fun H locs hP hD hS => ?_)
  have hP : va_P D vwCl [(h0, .inr (2, [.int kb, .ref ca, .ref cc, .int v, .int kg, .int kl, .int kx, .int ko])), (ca, .inl (cI, 16, .inl kc)), (cc, .inl (cI, 4, .inl kd))] H := hP
  have hD : va_D A [(h0, .inr (2, [.int kb, .ref ca, .ref cc, .int v, .int kg, .int kl, .int kx, .int ko])), (ca, .inl (cI, 16, .inl kc)), (cc, .inl (cI, 4, .inl kd))] := hD
  refine lv_aload_n hx hb dX3_startWithFlip_5 rfl (lv_at hl 0 rfl) ?_
  refine lv_iconst (v := 0) hx hb dX3_startWithFlip_6 (by decide) ?_
  refine va_put (D := D) (ci := 2) (v := .int 0) (ty := .int) (C := RX3) (T := TX3) (N := 8) hx hb hts hig_startWithFlip_X3 tyX3 tyX3_ok nmX3 hown hK hP hD hS 0 rfl rfl 4 (by decide) (hts (.fieldLink RX3 29 "OneHandset$Keys" "flipBit" "I") (List.mem_of_getElem? (i := 2) rfl)) (fun _ h9 => h9) rfl (by decide +kernel) rfl rfl (Nat.le_of_ble_eq_true rfl) dX3_startWithFlip_7 (fun H locs hP hD hS => ?_)
  have hP : va_P D vwCl [(h0, .inr (2, [.int kb, .ref ca, .ref cc, .int v, .int 0, .int kl, .int kx, .int ko])), (ca, .inl (cI, 16, .inl kc)), (cc, .inl (cI, 4, .inl kd))] H := hP
  have hD : va_D A [(h0, .inr (2, [.int kb, .ref ca, .ref cc, .int v, .int 0, .int kl, .int kx, .int ko])), (ca, .inl (cI, 16, .inl kc)), (cc, .inl (cI, 4, .inl kd))] := hD
  refine lv_aload_n hx hb dX3_startWithFlip_10 rfl (lv_at hl 0 rfl) ?_
  refine va_get (D := D) (ci := 2) (v := .ref ca) (C := RX3) (T := TX3) (N := 8) hx hb hts hig_startWithFlip_X3 hown hK hP 0 rfl rfl 1 (by decide) (hts (.fieldLink RX3 9 "OneHandset$Keys" "codes" "[I") (List.mem_of_getElem? (i := 3) rfl)) (fun _ h9 => h9) rfl dX3_startWithFlip_11 ?_
  refine lv_iconst (v := (-1)) hx hb dX3_startWithFlip_14 (by decide) ?_
  refine go_v (wr := [(h0, .inr (2, [.int kb, .ref ca, .ref cc, .int v, .int 0, .int kl, .int kx, .int ko])), (cc, .inl (cI, 4, .inl kd))]) (tysr := [(cI, .int)]) hP hD hS hA hK [1] [0, 2] [0] rfl rfl (by decide) (by decide) rfl (va_runS (As := [.ref ca, .int (-1)]) (rest := []) ⟨hx, hb, hml, hown, hts⟩ (c_J7_fill_53178 l D H.size ca cI 16 kc (-1) (by decide)) (va_cwS 2 hts gX3_startWithFlip_J7_fill_53178 rfl rfl rfl (by decide +kernel) ⟨Nat.le_of_ble_eq_true rfl, Nat.le_of_ble_eq_true rfl⟩) (st_preS hP hD hK hNW [1] [0] rfl rfl (by decide) rfl) rfl rfl hl.1 rfl (lv_room (Nat.le_of_ble_eq_true rfl)) dX3_startWithFlip_15 ⟨(Nat.le_of_ble_eq_true rfl), (Nat.le_of_ble_eq_true rfl)⟩) (fun u H locs hw hP hD hK hS => ?_)
  have hP : va_P D vwCl [(h0, .inr (2, [.int kb, .ref ca, .ref cc, .int v, .int 0, .int kl, .int kx, .int ko])), (cc, .inl (cI, 4, .inl kd)), (ca, .inl (cI, 16, .inl (fl kc (-1) 16)))] H := hP
  have hD : va_D A [(h0, .inr (2, [.int kb, .ref ca, .ref cc, .int v, .int 0, .int kl, .int kx, .int ko])), (cc, .inl (cI, 4, .inl kd)), (ca, .inl (cI, 16, .inl (fl kc (-1) 16)))] := hD
  have hK : va_K D vwCl [(cI, .int), (cI, .int)] s := hK
  refine lv_aload_n hx hb dX3_startWithFlip_18 rfl (lv_at hl 0 rfl) ?_
  refine go_v (wr := []) (tysr := [(cI, .int), (cI, .int)]) hP hD hS hA hK [0, 2, 1] [] [0, 1] rfl rfl (by decide) (by decide) rfl (va_runV (As := []) (rest := []) ⟨hx, hb, hml, hown, hts⟩ (g_compareAll l D H.size cI h0 ca cc kb v 0 kl kx ko (fl kc (-1) 16) kd ) (cwV 0 hts gX3_startWithFlip_X3_compareAll rfl rfl rfl (by decide +kernel) ⟨Nat.le_of_ble_eq_true rfl, Nat.le_of_ble_eq_true rfl⟩) (st_preV (ci := 2) (q0 := 0) hP hD hK hNW [0, 2, 1] [0] rfl rfl (by decide) rfl rfl rfl rfl) rfl rfl hl.1 rfl (lv_room (Nat.le_of_ble_eq_true rfl)) dX3_startWithFlip_19 ⟨(Nat.le_of_ble_eq_true rfl), (Nat.le_of_ble_eq_true rfl)⟩) (fun u H locs hw hP hD hK hS => ?_)
  obtain ⟨kl_3, kx_4, ko_5, kd_6⟩ := u
  have hP : va_P D vwCl [(h0, .inr (2, [.int kb, .ref ca, .ref cc, .int v, .int 0, .int kl_3, .int kx_4, .int ko_5])), (ca, .inl (cI, 16, .inl (fl kc (-1) 16))), (cc, .inl (cI, 4, .inl kd_6))] H := hP
  have hD : va_D A [(h0, .inr (2, [.int kb, .ref ca, .ref cc, .int v, .int 0, .int kl_3, .int kx_4, .int ko_5])), (ca, .inl (cI, 16, .inl (fl kc (-1) 16))), (cc, .inl (cI, 4, .inl kd_6))] := hD
  have hK : va_K D vwCl [(cI, .int), (cI, .int)] s := hK
  exact ret_v hx hb hr hlocks (u := (v, 0, kl_3, kx_4, ko_5, (fl kc (-1) 16), kd_6)) trivial (hP.sub [0, 1, 2] rfl) (hK.sub [] rfl) (hD.sub [0, 1, 2] (by decide) rfl) hS (Nat.le_of_ble_eq_true rfl) (Nat.le_of_ble_eq_true rfl) dX3_startWithFlip_22
theorem hig_take_X3 : ∀ w ∈ wsX30, w ∈ wsX3_take := mem_pl [42, 43, 44, 45, 46, 47, 48, 49] rfl
set_option maxHeartbeats 4000000 in
set_option maxRecDepth 100000 in
theorem g_take (l : Launch) (D : va_G) (sz : Nat) (cI : ClassId) (h0 : Nat) (ca : Nat) (cc : Nat) (kb : Int32) (kf : Int32) (kg : Int32) (kl : Int32) (kx : Int32) (ko : Int32) (kc : Nat → Int32) (kd : Nat → Int32) (v : Int32) (w : Int32)  : Ci l yX3_take wsX3_take ({ frames := 5, cells := 0, slots := 0, locals := 112 } : Room) D [.ref h0, .int v, .int w] [(h0, .inr (2, [.int kb, .ref ca, .ref cc, .int kf, .int kg, .int kl, .int kx, .int ko])), (ca, .inl (cI, 16, .inl kc)), (cc, .inl (cI, 4, .inl kd))] [(cI, .int)] sz (fun (r : Int32) => fun (u9 : Int32 × Int32 × Int32 × (Nat → Int32) × (Nat → Int32)) => match u9 with | (kl2, kx2, ko2, kc2, kd2) => True) (fun (u9 : Int32 × Int32 × Int32 × (Nat → Int32) × (Nat → Int32)) => match u9 with | (kl2, kx2, ko2, kc2, kd2) => [(h0, .inr (2, [.int kb, .ref ca, .ref cc, .int kf, .int kg, .int kl2, .int kx2, .int ko2])), (ca, .inl (cI, 16, .inl kc2)), (cc, .inl (cI, 4, .inl kd2))]) (fun (u9 : Int32 × Int32 × Int32 × (Nat → Int32) × (Nat → Int32)) => match u9 with | (kl2, kx2, ko2, kc2, kd2) => []) := by
  refine ct_i (cc := cX3_take) (maxL := 4) (ret := (some .int)) (by decide) rfl (Nat.le_of_ble_eq_true rfl) ?_
  intro p e s m below meth c A ls H hx hb hr hts hown hml hlocks hin hA hS hP hK hD hNW hl hAe hsz
  have hl : lv_has ls 4 [(0, .ref h0), (1, .int v), (2, .int w)] := hl
  refine lv_iload_n hx hb dX3_take_0 rfl (lv_at hl 2 rfl) ?_
  refine lv_aload_n hx hb dX3_take_1 rfl (lv_at hl 0 rfl) ?_
  refine go_i (wr := [(ca, .inl (cI, 16, .inl kc)), (cc, .inl (cI, 4, .inl kd))]) (tysr := [(cI, .int)]) hP hD hS hA hK [0] [1, 2] [0] rfl rfl (by decide) (by decide) rfl (va_runV (As := []) (rest := [.int w]) ⟨hx, hb, hml, hown, hts⟩ (g_flipMask l D H.size h0 ca cc kb kf kg kl kx ko ) (cwV 0 hts gX3_take_X3_flipMask rfl rfl rfl (by decide +kernel) ⟨Nat.le_of_ble_eq_true rfl, Nat.le_of_ble_eq_true rfl⟩) (st_preV (ci := 2) (q0 := 0) hP hD hK hNW [0] [] rfl rfl (by decide) rfl rfl rfl rfl) rfl rfl hl.1 rfl (lv_room (Nat.le_of_ble_eq_true rfl)) dX3_take_2 ⟨(Nat.le_of_ble_eq_true rfl), (Nat.le_of_ble_eq_true rfl)⟩) (fun r_1 u H locs hw hP hD hK hS => ?_)
  have hP : va_P D vwCl [(ca, .inl (cI, 16, .inl kc)), (cc, .inl (cI, 4, .inl kd)), (h0, .inr (2, [.int kb, .ref ca, .ref cc, .int kf, .int kg, .int kl, .int kx, .int ko]))] H := hP
  have hD : va_D A [(ca, .inl (cI, 16, .inl kc)), (cc, .inl (cI, 4, .inl kd)), (h0, .inr (2, [.int kb, .ref ca, .ref cc, .int kf, .int kg, .int kl, .int kx, .int ko]))] := hD
  have hK : va_K D vwCl [(cI, .int)] s := hK
  refine lv_iconst (v := (-1)) hx hb dX3_take_5 (by decide) ?_
  refine lv_ixor hx hb dX3_take_6 ?_
  refine lv_topi (fun y_2 _ => ?_)
  refine lv_iand hx hb dX3_take_7 ?_
  refine lv_topi (fun y_3 _ => ?_)
  refine lv_istore_n (lv' := [(3, .int y_3), (0, .ref h0), (1, .int v), (2, .int w)]) hx hb dX3_take_8 rfl hl (by decide) rfl (fun ls hl => ?_)
  refine lv_aload_n hx hb dX3_take_9 rfl (lv_at hl 1 rfl) ?_
  refine lv_iload_n hx hb dX3_take_10 rfl (lv_at hl 2 rfl) ?_
  refine go_i (wr := [(ca, .inl (cI, 16, .inl kc)), (cc, .inl (cI, 4, .inl kd))]) (tysr := [(cI, .int)]) hP hD hS hA hK [2] [0, 1] [0] rfl rfl (by decide) (by decide) rfl (va_runV (As := [.int v]) (rest := []) ⟨hx, hb, hml, hown, hts⟩ (g_hasKey l D H.size h0 ca cc kb kf kg kl kx ko v ) (cwV 1 hts gX3_take_X3_hasKey rfl rfl rfl (by decide +kernel) ⟨Nat.le_of_ble_eq_true rfl, Nat.le_of_ble_eq_true rfl⟩) (st_preV (ci := 2) (q0 := 2) hP hD hK hNW [2] [] rfl rfl (by decide) rfl rfl rfl rfl) rfl rfl hl.1 rfl (lv_room (Nat.le_of_ble_eq_true rfl)) dX3_take_11 ⟨(Nat.le_of_ble_eq_true rfl), (Nat.le_of_ble_eq_true rfl)⟩) (fun r_4 u H locs hw hP hD hK hS => ?_)
  have hw : r_4 = wi v 0 15 := hw
  subst hw
  have hP : va_P D vwCl [(ca, .inl (cI, 16, .inl kc)), (cc, .inl (cI, 4, .inl kd)), (h0, .inr (2, [.int kb, .ref ca, .ref cc, .int kf, .int kg, .int kl, .int kx, .int ko]))] H := hP
  have hD : va_D A [(ca, .inl (cI, 16, .inl kc)), (cc, .inl (cI, 4, .inl kd)), (h0, .inr (2, [.int kb, .ref ca, .ref cc, .int kf, .int kg, .int kl, .int kx, .int ko]))] := hD
  have hK : va_K D vwCl [(cI, .int)] s := hK
  refine lv_if_eq (tgt := 37) hx hb dX3_take_14 (by decide) (fun c_5 => ?_) (fun c_5 => ?_)
  · refine lv_iconst (v := (-1)) hx hb dX3_take_37 (by decide) ?_
    exact ret_i hx hb hr hlocks rfl (u := (kl, kx, ko, kc, kd)) trivial (hP.sub [2, 0, 1] rfl) (hK.sub [] rfl) (hD.sub [2, 0, 1] (by decide) rfl) hS (Nat.le_of_ble_eq_true rfl) (Nat.le_of_ble_eq_true rfl) dX3_take_38
  refine lv_aload_n hx hb dX3_take_17 rfl (lv_at hl 1 rfl) ?_
  refine va_get (D := D) (ci := 2) (v := .ref ca) (C := RX3) (T := TX3) (N := 8) hx hb hts hig_take_X3 hown hK hP 2 rfl rfl 1 (by decide) (hts (.fieldLink RX3 9 "OneHandset$Keys" "codes" "[I") (List.mem_of_getElem? (i := 1) rfl)) (fun _ h9 => h9) rfl dX3_take_18 ?_
  refine lv_iload_n hx hb dX3_take_21 rfl (lv_at hl 2 rfl) ?_
  refine va_iald hx hb hK hP 0 0 rfl rfl (by have : (0 : Int32).toInt = 0 := (by decide); have : (15 : Int32).toInt = 15 := (by decide); have := ti_wi1 c_5; exact vp_in_iff.mpr (by omega)) dX3_take_22 ?_
  refine lv_iconst (v := (-1)) hx hb dX3_take_23 (by decide) ?_
  refine lv_icmp_eq (tgt := 39) hx hb dX3_take_24 (by decide) (fun c_6 => ?_) (fun c_6 => ?_)
  · refine lv_aload_n hx hb dX3_take_39 rfl (lv_at hl 1 rfl) ?_
    refine va_get (D := D) (ci := 2) (v := .ref ca) (C := RX3) (T := TX3) (N := 8) hx hb hts hig_take_X3 hown hK hP 2 rfl rfl 1 (by decide) (hts (.fieldLink RX3 9 "OneHandset$Keys" "codes" "[I") (List.mem_of_getElem? (i := 1) rfl)) (fun _ h9 => h9) rfl dX3_take_40 ?_
    refine lv_iload_n hx hb dX3_take_43 rfl (lv_at hl 2 rfl) ?_
    refine lv_iload_n hx hb dX3_take_44 rfl (lv_at hl 0 rfl) ?_
    refine va_iast hx hb hK hP hD hS 0 0 rfl rfl (by have : ((-1) : Int32).toInt = -1 := (by decide); have : (0 : Int32).toInt = 0 := (by decide); have : (15 : Int32).toInt = 15 := (by decide); have := ti_wi1 c_5; have := ti_eq c_6; exact vp_in_iff.mpr (by omega)) dX3_take_45 (fun H locs hP hD hS => ?_)
    have hP : va_P D vwCl [(ca, .inl (cI, 16, .inl (upd kc (Int32.toNatClampNeg v) y_3))), (cc, .inl (cI, 4, .inl kd)), (h0, .inr (2, [.int kb, .ref ca, .ref cc, .int kf, .int kg, .int kl, .int kx, .int ko]))] H := hP
    have hD : va_D A [(ca, .inl (cI, 16, .inl (upd kc (Int32.toNatClampNeg v) y_3))), (cc, .inl (cI, 4, .inl kd)), (h0, .inr (2, [.int kb, .ref ca, .ref cc, .int kf, .int kg, .int kl, .int kx, .int ko]))] := hD
    refine lv_aload_n hx hb dX3_take_46 rfl (lv_at hl 1 rfl) ?_
    refine go_v (wr := []) (tysr := [(cI, .int)]) hP hD hS hA hK [2, 0, 1] [] [0] rfl rfl (by decide) (by decide) rfl (va_runV (As := []) (rest := []) ⟨hx, hb, hml, hown, hts⟩ (g_compareAll l D H.size cI h0 ca cc kb kf kg kl kx ko (upd kc (Int32.toNatClampNeg v) y_3) kd ) (cwV 0 hts gX3_take_X3_compareAll rfl rfl rfl (by decide +kernel) ⟨Nat.le_of_ble_eq_true rfl, Nat.le_of_ble_eq_true rfl⟩) (st_preV (ci := 2) (q0 := 2) hP hD hK hNW [2, 0, 1] [0] rfl rfl (by decide) rfl rfl rfl rfl) rfl rfl hl.1 rfl (lv_room (Nat.le_of_ble_eq_true rfl)) dX3_take_47 ⟨(Nat.le_of_ble_eq_true rfl), (Nat.le_of_ble_eq_true rfl)⟩) (fun u H locs hw hP hD hK hS => ?_)
    obtain ⟨kl_8, kx_9, ko_10, kd_11⟩ := u
    have hP : va_P D vwCl [(h0, .inr (2, [.int kb, .ref ca, .ref cc, .int kf, .int kg, .int kl_8, .int kx_9, .int ko_10])), (ca, .inl (cI, 16, .inl (upd kc (Int32.toNatClampNeg v) y_3))), (cc, .inl (cI, 4, .inl kd_11))] H := hP
    have hD : va_D A [(h0, .inr (2, [.int kb, .ref ca, .ref cc, .int kf, .int kg, .int kl_8, .int kx_9, .int ko_10])), (ca, .inl (cI, 16, .inl (upd kc (Int32.toNatClampNeg v) y_3))), (cc, .inl (cI, 4, .inl kd_11))] := hD
    have hK : va_K D vwCl [(cI, .int)] s := hK
    refine lv_iload_n hx hb dX3_take_50 rfl (lv_at hl 0 rfl) ?_
    exact ret_i hx hb hr hlocks rfl (u := (kl_8, kx_9, ko_10, (upd kc (Int32.toNatClampNeg v) y_3), kd_11)) trivial (hP.sub [0, 1, 2] rfl) (hK.sub [] rfl) (hD.sub [0, 1, 2] (by decide) rfl) hS (Nat.le_of_ble_eq_true rfl) (Nat.le_of_ble_eq_true rfl) dX3_take_51
  refine lv_aload_n hx hb dX3_take_27 rfl (lv_at hl 1 rfl) ?_
  refine va_get (D := D) (ci := 2) (v := .ref ca) (C := RX3) (T := TX3) (N := 8) hx hb hts hig_take_X3 hown hK hP 2 rfl rfl 1 (by decide) (hts (.fieldLink RX3 9 "OneHandset$Keys" "codes" "[I") (List.mem_of_getElem? (i := 1) rfl)) (fun _ h9 => h9) rfl dX3_take_28 ?_
  refine lv_iload_n hx hb dX3_take_31 rfl (lv_at hl 2 rfl) ?_
  refine va_iald hx hb hK hP 0 0 rfl rfl (by have : ((-1) : Int32).toInt = -1 := (by decide); have : (0 : Int32).toInt = 0 := (by decide); have : (15 : Int32).toInt = 15 := (by decide); have := ti_wi1 c_5; have := ti_ne c_6; exact vp_in_iff.mpr (by omega)) dX3_take_32 ?_
  refine lv_iload_n hx hb dX3_take_33 rfl (lv_at hl 0 rfl) ?_
  refine lv_icmp_eq (tgt := 39) hx hb dX3_take_34 (by decide) (fun c_12 => ?_) (fun c_12 => ?_)
  · refine lv_aload_n hx hb dX3_take_39 rfl (lv_at hl 1 rfl) ?_
    refine va_get (D := D) (ci := 2) (v := .ref ca) (C := RX3) (T := TX3) (N := 8) hx hb hts hig_take_X3 hown hK hP 2 rfl rfl 1 (by decide) (hts (.fieldLink RX3 9 "OneHandset$Keys" "codes" "[I") (List.mem_of_getElem? (i := 1) rfl)) (fun _ h9 => h9) rfl dX3_take_40 ?_
    refine lv_iload_n hx hb dX3_take_43 rfl (lv_at hl 2 rfl) ?_
    refine lv_iload_n hx hb dX3_take_44 rfl (lv_at hl 0 rfl) ?_
    refine va_iast hx hb hK hP hD hS 0 0 rfl rfl (by have : ((-1) : Int32).toInt = -1 := (by decide); have : (0 : Int32).toInt = 0 := (by decide); have : (15 : Int32).toInt = 15 := (by decide); have := ti_wi1 c_5; have := ti_ne c_6; have := ti_eq c_12; exact vp_in_iff.mpr (by omega)) dX3_take_45 (fun H locs hP hD hS => ?_)
    have hP : va_P D vwCl [(ca, .inl (cI, 16, .inl (upd kc (Int32.toNatClampNeg v) y_3))), (cc, .inl (cI, 4, .inl kd)), (h0, .inr (2, [.int kb, .ref ca, .ref cc, .int kf, .int kg, .int kl, .int kx, .int ko]))] H := hP
    have hD : va_D A [(ca, .inl (cI, 16, .inl (upd kc (Int32.toNatClampNeg v) y_3))), (cc, .inl (cI, 4, .inl kd)), (h0, .inr (2, [.int kb, .ref ca, .ref cc, .int kf, .int kg, .int kl, .int kx, .int ko]))] := hD
    refine lv_aload_n hx hb dX3_take_46 rfl (lv_at hl 1 rfl) ?_
    refine go_v (wr := []) (tysr := [(cI, .int)]) hP hD hS hA hK [2, 0, 1] [] [0] rfl rfl (by decide) (by decide) rfl (va_runV (As := []) (rest := []) ⟨hx, hb, hml, hown, hts⟩ (g_compareAll l D H.size cI h0 ca cc kb kf kg kl kx ko (upd kc (Int32.toNatClampNeg v) y_3) kd ) (cwV 0 hts gX3_take_X3_compareAll rfl rfl rfl (by decide +kernel) ⟨Nat.le_of_ble_eq_true rfl, Nat.le_of_ble_eq_true rfl⟩) (st_preV (ci := 2) (q0 := 2) hP hD hK hNW [2, 0, 1] [0] rfl rfl (by decide) rfl rfl rfl rfl) rfl rfl hl.1 rfl (lv_room (Nat.le_of_ble_eq_true rfl)) dX3_take_47 ⟨(Nat.le_of_ble_eq_true rfl), (Nat.le_of_ble_eq_true rfl)⟩) (fun u H locs hw hP hD hK hS => ?_)
    obtain ⟨kl_14, kx_15, ko_16, kd_17⟩ := u
    have hP : va_P D vwCl [(h0, .inr (2, [.int kb, .ref ca, .ref cc, .int kf, .int kg, .int kl_14, .int kx_15, .int ko_16])), (ca, .inl (cI, 16, .inl (upd kc (Int32.toNatClampNeg v) y_3))), (cc, .inl (cI, 4, .inl kd_17))] H := hP
    have hD : va_D A [(h0, .inr (2, [.int kb, .ref ca, .ref cc, .int kf, .int kg, .int kl_14, .int kx_15, .int ko_16])), (ca, .inl (cI, 16, .inl (upd kc (Int32.toNatClampNeg v) y_3))), (cc, .inl (cI, 4, .inl kd_17))] := hD
    have hK : va_K D vwCl [(cI, .int)] s := hK
    refine lv_iload_n hx hb dX3_take_50 rfl (lv_at hl 0 rfl) ?_
    exact ret_i hx hb hr hlocks rfl (u := (kl_14, kx_15, ko_16, (upd kc (Int32.toNatClampNeg v) y_3), kd_17)) trivial (hP.sub [0, 1, 2] rfl) (hK.sub [] rfl) (hD.sub [0, 1, 2] (by decide) rfl) hS (Nat.le_of_ble_eq_true rfl) (Nat.le_of_ble_eq_true rfl) dX3_take_51
  refine lv_iconst (v := (-1)) hx hb dX3_take_37 (by decide) ?_
  exact ret_i hx hb hr hlocks rfl (u := (kl, kx, ko, kc, kd)) trivial (hP.sub [2, 0, 1] rfl) (hK.sub [] rfl) (hD.sub [2, 0, 1] (by decide) rfl) hS (Nat.le_of_ble_eq_true rfl) (Nat.le_of_ble_eq_true rfl) dX3_take_38
theorem hig_drop_X3 : ∀ w ∈ wsX30, w ∈ wsX3_drop := mem_pl [46, 47, 48, 49, 50, 51, 52, 53] rfl
set_option maxHeartbeats 4000000 in
set_option maxRecDepth 100000 in
theorem g_drop (l : Launch) (D : va_G) (sz : Nat) (cI : ClassId) (h0 : Nat) (ca : Nat) (cc : Nat) (kb : Int32) (kf : Int32) (kg : Int32) (kl : Int32) (kx : Int32) (ko : Int32) (kc : Nat → Int32) (kd : Nat → Int32) (v : Int32)  : Ci l yX3_drop wsX3_drop ({ frames := 5, cells := 0, slots := 0, locals := 112 } : Room) D [.ref h0, .int v] [(h0, .inr (2, [.int kb, .ref ca, .ref cc, .int kf, .int kg, .int kl, .int kx, .int ko])), (ca, .inl (cI, 16, .inl kc)), (cc, .inl (cI, 4, .inl kd))] [(cI, .int)] sz (fun (r : Int32) => fun (u9 : Int32 × Int32 × Int32 × (Nat → Int32) × (Nat → Int32)) => match u9 with | (kl2, kx2, ko2, kc2, kd2) => True) (fun (u9 : Int32 × Int32 × Int32 × (Nat → Int32) × (Nat → Int32)) => match u9 with | (kl2, kx2, ko2, kc2, kd2) => [(h0, .inr (2, [.int kb, .ref ca, .ref cc, .int kf, .int kg, .int kl2, .int kx2, .int ko2])), (ca, .inl (cI, 16, .inl kc2)), (cc, .inl (cI, 4, .inl kd2))]) (fun (u9 : Int32 × Int32 × Int32 × (Nat → Int32) × (Nat → Int32)) => match u9 with | (kl2, kx2, ko2, kc2, kd2) => []) := by
  refine ct_i (cc := cX3_drop) (maxL := 2) (ret := (some .boolean)) (by decide) rfl (Nat.le_of_ble_eq_true rfl) ?_
  intro p e s m below meth c A ls H hx hb hr hts hown hml hlocks hin hA hS hP hK hD hNW hl hAe hsz
  have hl : lv_has ls 2 [(0, .ref h0), (1, .int v)] := hl
  refine lv_aload_n hx hb dX3_drop_0 rfl (lv_at hl 0 rfl) ?_
  refine lv_iload_n hx hb dX3_drop_1 rfl (lv_at hl 1 rfl) ?_
  refine go_i (wr := []) (tysr := [(cI, .int)]) hP hD hS hA hK [0, 1, 2] [] [0] rfl rfl (by decide) (by decide) rfl (va_runV (As := [.int v]) (rest := []) ⟨hx, hb, hml, hown, hts⟩ (g_codeOf l D H.size cI h0 ca cc kb kf kg kl kx ko kc kd v ) (cwV 1 hts gX3_drop_X3_codeOf rfl rfl rfl (by decide +kernel) ⟨Nat.le_of_ble_eq_true rfl, Nat.le_of_ble_eq_true rfl⟩) (st_preV (ci := 2) (q0 := 0) hP hD hK hNW [0, 1, 2] [0] rfl rfl (by decide) rfl rfl rfl rfl) rfl rfl hl.1 rfl (lv_room (Nat.le_of_ble_eq_true rfl)) dX3_drop_2 ⟨(Nat.le_of_ble_eq_true rfl), (Nat.le_of_ble_eq_true rfl)⟩) (fun r_1 u H locs hw hP hD hK hS => ?_)
  have hw : r_1 = -1 ∨ bi v 0 15 := hw
  have hw_2 := hw
  have hP : va_P D vwCl [(h0, .inr (2, [.int kb, .ref ca, .ref cc, .int kf, .int kg, .int kl, .int kx, .int ko])), (ca, .inl (cI, 16, .inl kc)), (cc, .inl (cI, 4, .inl kd))] H := hP
  have hD : va_D A [(h0, .inr (2, [.int kb, .ref ca, .ref cc, .int kf, .int kg, .int kl, .int kx, .int ko])), (ca, .inl (cI, 16, .inl kc)), (cc, .inl (cI, 4, .inl kd))] := hD
  have hK : va_K D vwCl [(cI, .int)] s := hK
  refine lv_iconst (v := (-1)) hx hb dX3_drop_5 (by decide) ?_
  refine lv_icmp_ne (tgt := 11) hx hb dX3_drop_6 (by decide) (fun c_3 => ?_) (fun c_3 => ?_)
  · refine lv_aload_n hx hb dX3_drop_11 rfl (lv_at hl 0 rfl) ?_
    refine va_get (D := D) (ci := 2) (v := .ref ca) (C := RX3) (T := TX3) (N := 8) hx hb hts hig_drop_X3 hown hK hP 0 rfl rfl 1 (by decide) (hts (.fieldLink RX3 9 "OneHandset$Keys" "codes" "[I") (List.mem_of_getElem? (i := 1) rfl)) (fun _ h9 => h9) rfl dX3_drop_12 ?_
    refine lv_iload_n hx hb dX3_drop_15 rfl (lv_at hl 1 rfl) ?_
    refine lv_iconst (v := (-1)) hx hb dX3_drop_16 (by decide) ?_
    refine va_iast hx hb hK hP hD hS 1 0 rfl rfl (vp_in_iff.mpr (by have u7 := (hw_2).resolve_left c_3; omega)) dX3_drop_17 (fun H locs hP hD hS => ?_)
    have hP : va_P D vwCl [(h0, .inr (2, [.int kb, .ref ca, .ref cc, .int kf, .int kg, .int kl, .int kx, .int ko])), (ca, .inl (cI, 16, .inl (upd kc (Int32.toNatClampNeg v) (-1)))), (cc, .inl (cI, 4, .inl kd))] H := hP
    have hD : va_D A [(h0, .inr (2, [.int kb, .ref ca, .ref cc, .int kf, .int kg, .int kl, .int kx, .int ko])), (ca, .inl (cI, 16, .inl (upd kc (Int32.toNatClampNeg v) (-1)))), (cc, .inl (cI, 4, .inl kd))] := hD
    refine lv_aload_n hx hb dX3_drop_18 rfl (lv_at hl 0 rfl) ?_
    refine go_v (wr := []) (tysr := [(cI, .int)]) hP hD hS hA hK [0, 1, 2] [] [0] rfl rfl (by decide) (by decide) rfl (va_runV (As := []) (rest := []) ⟨hx, hb, hml, hown, hts⟩ (g_compareAll l D H.size cI h0 ca cc kb kf kg kl kx ko (upd kc (Int32.toNatClampNeg v) (-1)) kd ) (cwV 0 hts gX3_drop_X3_compareAll rfl rfl rfl (by decide +kernel) ⟨Nat.le_of_ble_eq_true rfl, Nat.le_of_ble_eq_true rfl⟩) (st_preV (ci := 2) (q0 := 0) hP hD hK hNW [0, 1, 2] [0] rfl rfl (by decide) rfl rfl rfl rfl) rfl rfl hl.1 rfl (lv_room (Nat.le_of_ble_eq_true rfl)) dX3_drop_19 ⟨(Nat.le_of_ble_eq_true rfl), (Nat.le_of_ble_eq_true rfl)⟩) (fun u H locs hw hP hD hK hS => ?_)
    obtain ⟨kl_5, kx_6, ko_7, kd_8⟩ := u
    have hP : va_P D vwCl [(h0, .inr (2, [.int kb, .ref ca, .ref cc, .int kf, .int kg, .int kl_5, .int kx_6, .int ko_7])), (ca, .inl (cI, 16, .inl (upd kc (Int32.toNatClampNeg v) (-1)))), (cc, .inl (cI, 4, .inl kd_8))] H := hP
    have hD : va_D A [(h0, .inr (2, [.int kb, .ref ca, .ref cc, .int kf, .int kg, .int kl_5, .int kx_6, .int ko_7])), (ca, .inl (cI, 16, .inl (upd kc (Int32.toNatClampNeg v) (-1)))), (cc, .inl (cI, 4, .inl kd_8))] := hD
    have hK : va_K D vwCl [(cI, .int)] s := hK
    refine lv_iconst (v := 1) hx hb dX3_drop_22 (by decide) ?_
    exact ret_i hx hb hr hlocks rfl (u := (kl_5, kx_6, ko_7, (upd kc (Int32.toNatClampNeg v) (-1)), kd_8)) trivial (hP.sub [0, 1, 2] rfl) (hK.sub [] rfl) (hD.sub [0, 1, 2] (by decide) rfl) hS (Nat.le_of_ble_eq_true rfl) (Nat.le_of_ble_eq_true rfl) dX3_drop_23
  refine lv_iconst (v := 0) hx hb dX3_drop_9 (by decide) ?_
  exact ret_i hx hb hr hlocks rfl (u := (kl, kx, ko, kc, kd)) trivial (hP.sub [0, 1, 2] rfl) (hK.sub [] rfl) (hD.sub [0, 1, 2] (by decide) rfl) hS (Nat.le_of_ble_eq_true rfl) (Nat.le_of_ble_eq_true rfl) dX3_drop_10
theorem hig_codeToSend_X3 : ∀ w ∈ wsX30, w ∈ wsX3_codeToSend := mem_pl [20, 21, 22, 23, 24, 25, 26, 27] rfl
set_option maxHeartbeats 4000000 in
set_option maxRecDepth 100000 in
theorem g_codeToSend (l : Launch) (D : va_G) (sz : Nat) (cI : ClassId) (h0 : Nat) (ca : Nat) (cc : Nat) (kb : Int32) (kf : Int32) (kg : Int32) (kl : Int32) (kx : Int32) (ko : Int32) (kc : Nat → Int32) (kd : Nat → Int32) (v : Int32)  : Ci l yX3_codeToSend wsX3_codeToSend ({ frames := 3, cells := 0, slots := 0, locals := 64 } : Room) D [.ref h0, .int v] [(h0, .inr (2, [.int kb, .ref ca, .ref cc, .int kf, .int kg, .int kl, .int kx, .int ko])), (ca, .inl (cI, 16, .inl kc)), (cc, .inl (cI, 4, .inl kd))] [(cI, .int)] sz (fun (r : Int32) => fun (kg2 : Int32) => True) (fun (kg2 : Int32) => [(h0, .inr (2, [.int kb, .ref ca, .ref cc, .int kf, .int kg2, .int kl, .int kx, .int ko])), (ca, .inl (cI, 16, .inl kc)), (cc, .inl (cI, 4, .inl kd))]) (fun (kg2 : Int32) => []) := by
  refine ct_i (cc := cX3_codeToSend) (maxL := 3) (ret := (some .int)) (by decide) rfl (Nat.le_of_ble_eq_true rfl) ?_
  intro p e s m below meth c A ls H hx hb hr hts hown hml hlocks hin hA hS hP hK hD hNW hl hAe hsz
  have hl : lv_has ls 3 [(0, .ref h0), (1, .int v)] := hl
  refine lv_aload_n hx hb dX3_codeToSend_0 rfl (lv_at hl 0 rfl) ?_
  refine va_get (D := D) (ci := 2) (v := .int kg) (C := RX3) (T := TX3) (N := 8) hx hb hts hig_codeToSend_X3 hown hK hP 0 rfl rfl 4 (by decide) (hts (.fieldLink RX3 29 "OneHandset$Keys" "flipBit" "I") (List.mem_of_getElem? (i := 1) rfl)) (fun _ h9 => h9) rfl dX3_codeToSend_1 ?_
  refine lv_if_ne (tgt := 15) hx hb dX3_codeToSend_4 (by decide) (fun c_1 => ?_) (fun c_1 => ?_)
  · refine lv_aload_n hx hb dX3_codeToSend_15 rfl (lv_at hl 0 rfl) ?_
    refine lv_iload_n hx hb dX3_codeToSend_16 rfl (lv_at hl 1 rfl) ?_
    refine go_i (wr := []) (tysr := [(cI, .int)]) hP hD hS hA hK [0, 1, 2] [] [0] rfl rfl (by decide) (by decide) rfl (va_runV (As := [.int v]) (rest := []) ⟨hx, hb, hml, hown, hts⟩ (g_codeOf l D H.size cI h0 ca cc kb kf kg kl kx ko kc kd v ) (cwV 1 hts gX3_codeToSend_X3_codeOf rfl rfl rfl (by decide +kernel) ⟨Nat.le_of_ble_eq_true rfl, Nat.le_of_ble_eq_true rfl⟩) (st_preV (ci := 2) (q0 := 0) hP hD hK hNW [0, 1, 2] [0] rfl rfl (by decide) rfl rfl rfl rfl) rfl rfl hl.1 rfl (lv_room (Nat.le_of_ble_eq_true rfl)) dX3_codeToSend_17 ⟨(Nat.le_of_ble_eq_true rfl), (Nat.le_of_ble_eq_true rfl)⟩) (fun r_2 u H locs hw hP hD hK hS => ?_)
    have hw : r_2 = -1 ∨ bi v 0 15 := hw
    have hw_3 := hw
    have hP : va_P D vwCl [(h0, .inr (2, [.int kb, .ref ca, .ref cc, .int kf, .int kg, .int kl, .int kx, .int ko])), (ca, .inl (cI, 16, .inl kc)), (cc, .inl (cI, 4, .inl kd))] H := hP
    have hD : va_D A [(h0, .inr (2, [.int kb, .ref ca, .ref cc, .int kf, .int kg, .int kl, .int kx, .int ko])), (ca, .inl (cI, 16, .inl kc)), (cc, .inl (cI, 4, .inl kd))] := hD
    have hK : va_K D vwCl [(cI, .int)] s := hK
    refine lv_aload_n hx hb dX3_codeToSend_20 rfl (lv_at hl 0 rfl) ?_
    refine go_i (wr := [(ca, .inl (cI, 16, .inl kc)), (cc, .inl (cI, 4, .inl kd))]) (tysr := [(cI, .int)]) hP hD hS hA hK [0] [1, 2] [0] rfl rfl (by decide) (by decide) rfl (va_runV (As := []) (rest := [.int r_2]) ⟨hx, hb, hml, hown, hts⟩ (g_flipMask l D H.size h0 ca cc kb kf kg kl kx ko ) (cwV 0 hts gX3_codeToSend_X3_flipMask rfl rfl rfl (by decide +kernel) ⟨Nat.le_of_ble_eq_true rfl, Nat.le_of_ble_eq_true rfl⟩) (st_preV (ci := 2) (q0 := 0) hP hD hK hNW [0] [] rfl rfl (by decide) rfl rfl rfl rfl) rfl rfl hl.1 rfl (lv_room (Nat.le_of_ble_eq_true rfl)) dX3_codeToSend_21 ⟨(Nat.le_of_ble_eq_true rfl), (Nat.le_of_ble_eq_true rfl)⟩) (fun r_4 u H locs hw hP hD hK hS => ?_)
    have hP : va_P D vwCl [(ca, .inl (cI, 16, .inl kc)), (cc, .inl (cI, 4, .inl kd)), (h0, .inr (2, [.int kb, .ref ca, .ref cc, .int kf, .int kg, .int kl, .int kx, .int ko]))] H := hP
    have hD : va_D A [(ca, .inl (cI, 16, .inl kc)), (cc, .inl (cI, 4, .inl kd)), (h0, .inr (2, [.int kb, .ref ca, .ref cc, .int kf, .int kg, .int kl, .int kx, .int ko]))] := hD
    have hK : va_K D vwCl [(cI, .int)] s := hK
    refine lv_ior hx hb dX3_codeToSend_24 ?_
    refine lv_topi (fun y_5 _ => ?_)
    refine lv_istore_n (lv' := [(2, .int y_5), (0, .ref h0), (1, .int v)]) hx hb dX3_codeToSend_25 rfl hl (by decide) rfl (fun ls hl => ?_)
    refine lv_aload_n hx hb dX3_codeToSend_26 rfl (lv_at hl 1 rfl) ?_
    refine va_get (D := D) (ci := 2) (v := .int kf) (C := RX3) (T := TX3) (N := 8) hx hb hts hig_codeToSend_X3 hown hK hP 2 rfl rfl 3 (by decide) (hts (.fieldLink RX3 26 "OneHandset$Keys" "flip" "I") (List.mem_of_getElem? (i := 2) rfl)) (fun _ h9 => h9) rfl dX3_codeToSend_27 ?_
    refine lv_iconst (v := (-1)) hx hb dX3_codeToSend_30 (by decide) ?_
    refine lv_icmp_eq (tgt := 44) hx hb dX3_codeToSend_31 (by decide) (fun c_6 => ?_) (fun c_6 => ?_)
    · refine lv_iload_n hx hb dX3_codeToSend_44 rfl (lv_at hl 0 rfl) ?_
      exact ret_i hx hb hr hlocks rfl (u := kg) trivial (hP.sub [2, 0, 1] rfl) (hK.sub [] rfl) (hD.sub [2, 0, 1] (by decide) rfl) hS (Nat.le_of_ble_eq_true rfl) (Nat.le_of_ble_eq_true rfl) dX3_codeToSend_45
    refine lv_aload_n hx hb dX3_codeToSend_34 rfl (lv_at hl 1 rfl) ?_
    refine lv_iconst (v := 1) hx hb dX3_codeToSend_35 (by decide) ?_
    refine lv_aload_n hx hb dX3_codeToSend_36 rfl (lv_at hl 1 rfl) ?_
    refine va_get (D := D) (ci := 2) (v := .int kg) (C := RX3) (T := TX3) (N := 8) hx hb hts hig_codeToSend_X3 hown hK hP 2 rfl rfl 4 (by decide) (hts (.fieldLink RX3 29 "OneHandset$Keys" "flipBit" "I") (List.mem_of_getElem? (i := 1) rfl)) (fun _ h9 => h9) rfl dX3_codeToSend_37 ?_
    refine lv_isub hx hb dX3_codeToSend_40 ?_
    refine lv_topi (fun y_7 _ => ?_)
    refine va_put (D := D) (ci := 2) (v := .int y_7) (ty := .int) (C := RX3) (T := TX3) (N := 8) hx hb hts hig_codeToSend_X3 tyX3 tyX3_ok nmX3 hown hK hP hD hS 2 rfl rfl 4 (by decide) (hts (.fieldLink RX3 29 "OneHandset$Keys" "flipBit" "I") (List.mem_of_getElem? (i := 1) rfl)) (fun _ h9 => h9) rfl (by decide +kernel) rfl rfl (Nat.le_of_ble_eq_true rfl) dX3_codeToSend_41 (fun H locs hP hD hS => ?_)
    have hP : va_P D vwCl [(ca, .inl (cI, 16, .inl kc)), (cc, .inl (cI, 4, .inl kd)), (h0, .inr (2, [.int kb, .ref ca, .ref cc, .int kf, .int y_7, .int kl, .int kx, .int ko]))] H := hP
    have hD : va_D A [(ca, .inl (cI, 16, .inl kc)), (cc, .inl (cI, 4, .inl kd)), (h0, .inr (2, [.int kb, .ref ca, .ref cc, .int kf, .int y_7, .int kl, .int kx, .int ko]))] := hD
    refine lv_iload_n hx hb dX3_codeToSend_44 rfl (lv_at hl 0 rfl) ?_
    exact ret_i hx hb hr hlocks rfl (u := y_7) trivial (hP.sub [2, 0, 1] rfl) (hK.sub [] rfl) (hD.sub [2, 0, 1] (by decide) rfl) hS (Nat.le_of_ble_eq_true rfl) (Nat.le_of_ble_eq_true rfl) dX3_codeToSend_45
  refine lv_aload_n hx hb dX3_codeToSend_7 rfl (lv_at hl 0 rfl) ?_
  refine lv_iload_n hx hb dX3_codeToSend_8 rfl (lv_at hl 1 rfl) ?_
  refine go_i (wr := []) (tysr := [(cI, .int)]) hP hD hS hA hK [0, 1, 2] [] [0] rfl rfl (by decide) (by decide) rfl (va_runV (As := [.int v]) (rest := []) ⟨hx, hb, hml, hown, hts⟩ (g_codeOf l D H.size cI h0 ca cc kb kf kg kl kx ko kc kd v ) (cwV 1 hts gX3_codeToSend_X3_codeOf rfl rfl rfl (by decide +kernel) ⟨Nat.le_of_ble_eq_true rfl, Nat.le_of_ble_eq_true rfl⟩) (st_preV (ci := 2) (q0 := 0) hP hD hK hNW [0, 1, 2] [0] rfl rfl (by decide) rfl rfl rfl rfl) rfl rfl hl.1 rfl (lv_room (Nat.le_of_ble_eq_true rfl)) dX3_codeToSend_9 ⟨(Nat.le_of_ble_eq_true rfl), (Nat.le_of_ble_eq_true rfl)⟩) (fun r_8 u H locs hw hP hD hK hS => ?_)
  have hw : r_8 = -1 ∨ bi v 0 15 := hw
  have hw_9 := hw
  have hP : va_P D vwCl [(h0, .inr (2, [.int kb, .ref ca, .ref cc, .int kf, .int kg, .int kl, .int kx, .int ko])), (ca, .inl (cI, 16, .inl kc)), (cc, .inl (cI, 4, .inl kd))] H := hP
  have hD : va_D A [(h0, .inr (2, [.int kb, .ref ca, .ref cc, .int kf, .int kg, .int kl, .int kx, .int ko])), (ca, .inl (cI, 16, .inl kc)), (cc, .inl (cI, 4, .inl kd))] := hD
  have hK : va_K D vwCl [(cI, .int)] s := hK
  refine lv_goto (tgt := 25) hx hb dX3_codeToSend_12 (by decide) ?_
  refine lv_istore_n (lv' := [(2, .int r_8), (0, .ref h0), (1, .int v)]) hx hb dX3_codeToSend_25 rfl hl (by decide) rfl (fun ls hl => ?_)
  refine lv_aload_n hx hb dX3_codeToSend_26 rfl (lv_at hl 1 rfl) ?_
  refine va_get (D := D) (ci := 2) (v := .int kf) (C := RX3) (T := TX3) (N := 8) hx hb hts hig_codeToSend_X3 hown hK hP 0 rfl rfl 3 (by decide) (hts (.fieldLink RX3 26 "OneHandset$Keys" "flip" "I") (List.mem_of_getElem? (i := 2) rfl)) (fun _ h9 => h9) rfl dX3_codeToSend_27 ?_
  refine lv_iconst (v := (-1)) hx hb dX3_codeToSend_30 (by decide) ?_
  refine lv_icmp_eq (tgt := 44) hx hb dX3_codeToSend_31 (by decide) (fun c_10 => ?_) (fun c_10 => ?_)
  · refine lv_iload_n hx hb dX3_codeToSend_44 rfl (lv_at hl 0 rfl) ?_
    exact ret_i hx hb hr hlocks rfl (u := kg) trivial (hP.sub [0, 1, 2] rfl) (hK.sub [] rfl) (hD.sub [0, 1, 2] (by decide) rfl) hS (Nat.le_of_ble_eq_true rfl) (Nat.le_of_ble_eq_true rfl) dX3_codeToSend_45
  refine lv_aload_n hx hb dX3_codeToSend_34 rfl (lv_at hl 1 rfl) ?_
  refine lv_iconst (v := 1) hx hb dX3_codeToSend_35 (by decide) ?_
  refine lv_aload_n hx hb dX3_codeToSend_36 rfl (lv_at hl 1 rfl) ?_
  refine va_get (D := D) (ci := 2) (v := .int kg) (C := RX3) (T := TX3) (N := 8) hx hb hts hig_codeToSend_X3 hown hK hP 0 rfl rfl 4 (by decide) (hts (.fieldLink RX3 29 "OneHandset$Keys" "flipBit" "I") (List.mem_of_getElem? (i := 1) rfl)) (fun _ h9 => h9) rfl dX3_codeToSend_37 ?_
  refine lv_isub hx hb dX3_codeToSend_40 ?_
  refine lv_topi (fun y_11 _ => ?_)
  refine va_put (D := D) (ci := 2) (v := .int y_11) (ty := .int) (C := RX3) (T := TX3) (N := 8) hx hb hts hig_codeToSend_X3 tyX3 tyX3_ok nmX3 hown hK hP hD hS 0 rfl rfl 4 (by decide) (hts (.fieldLink RX3 29 "OneHandset$Keys" "flipBit" "I") (List.mem_of_getElem? (i := 1) rfl)) (fun _ h9 => h9) rfl (by decide +kernel) rfl rfl (Nat.le_of_ble_eq_true rfl) dX3_codeToSend_41 (fun H locs hP hD hS => ?_)
  have hP : va_P D vwCl [(h0, .inr (2, [.int kb, .ref ca, .ref cc, .int kf, .int y_11, .int kl, .int kx, .int ko])), (ca, .inl (cI, 16, .inl kc)), (cc, .inl (cI, 4, .inl kd))] H := hP
  have hD : va_D A [(h0, .inr (2, [.int kb, .ref ca, .ref cc, .int kf, .int y_11, .int kl, .int kx, .int ko])), (ca, .inl (cI, 16, .inl kc)), (cc, .inl (cI, 4, .inl kd))] := hD
  refine lv_iload_n hx hb dX3_codeToSend_44 rfl (lv_at hl 0 rfl) ?_
  exact ret_i hx hb hr hlocks rfl (u := y_11) trivial (hP.sub [0, 1, 2] rfl) (hK.sub [] rfl) (hD.sub [0, 1, 2] (by decide) rfl) hS (Nat.le_of_ble_eq_true rfl) (Nat.le_of_ble_eq_true rfl) dX3_codeToSend_45
theorem hig_constantThatHolds_X3 : ∀ w ∈ wsX30, w ∈ wsX3_constantThatHolds := mem_pl [5, 6, 7, 8, 9, 10, 11, 12] rfl
set_option maxHeartbeats 4000000 in
set_option maxRecDepth 100000 in
theorem g_constantThatHolds (l : Launch) (D : va_G) (sz : Nat) (cI : ClassId) (h0 : Nat) (ca : Nat) (cc : Nat) (kb : Int32) (kf : Int32) (kg : Int32) (kl : Int32) (kx : Int32) (ko : Int32) (kc : Nat → Int32) (kd : Nat → Int32) (v : Int32)  : Ci l yX3_constantThatHolds wsX3_constantThatHolds ({ frames := 1, cells := 0, slots := 0, locals := 22 } : Room) D [.ref h0, .int v] [(h0, .inr (2, [.int kb, .ref ca, .ref cc, .int kf, .int kg, .int kl, .int kx, .int ko])), (ca, .inl (cI, 16, .inl kc)), (cc, .inl (cI, 4, .inl kd))] [(cI, .int)] sz (fun (r : Int32) => fun (_ : Unit) => True) (fun (_ : Unit) => [(h0, .inr (2, [.int kb, .ref ca, .ref cc, .int kf, .int kg, .int kl, .int kx, .int ko])), (ca, .inl (cI, 16, .inl kc)), (cc, .inl (cI, 4, .inl kd))]) (fun (_ : Unit) => []) := by
  refine ct_i (cc := cX3_constantThatHolds) (maxL := 2) (ret := (some .int)) (by decide) rfl (Nat.le_of_ble_eq_true rfl) ?_
  intro p e s m below meth c A ls H hx hb hr hts hown hml hlocks hin hA hS hP hK hD hNW hl hAe hsz
  have hl : lv_has ls 2 [(0, .ref h0), (1, .int v)] := hl
  refine lv_iload_n hx hb dX3_constantThatHolds_0 rfl (lv_at hl 1 rfl) ?_
  refine lv_iconst (v := 1) hx hb dX3_constantThatHolds_1 (by decide) ?_
  refine lv_iconst (v := 3) hx hb dX3_constantThatHolds_2 (by decide) ?_
  refine go_i (wr := [(h0, .inr (2, [.int kb, .ref ca, .ref cc, .int kf, .int kg, .int kl, .int kx, .int ko])), (ca, .inl (cI, 16, .inl kc)), (cc, .inl (cI, 4, .inl kd))]) (tysr := [(cI, .int)]) hP hD hS hA hK [] [0, 1, 2] [0] rfl rfl (by decide) (by decide) rfl (va_runSN (As := [.int v, .int 1, .int 3]) (rest := []) ⟨hx, hb, hml, hown, hts⟩ (c_X8_within l D H.size v 1 3 ) ⟨(va_cnB (own := RX3) (host := RX8) (index := 41) 3 hts gX3_constantThatHolds_X8_within_n41 rfl rfl rfl (hNW.2.1 (RX3, 41, yX8_within, RX8) (List.mem_of_getElem? (l := nw_M) (i := 14) rfl)) (hts (.initialized RX8) (List.mem_of_getElem? (i := 3) rfl)) (by decide +kernel) ⟨Nat.le_of_ble_eq_true rfl, Nat.le_of_ble_eq_true rfl⟩), (hts (.static yX8_within) (List.mem_of_getElem? (i := 2) rfl)), trivial⟩ (st_preS hP hD hK hNW [] [] rfl rfl (by decide) rfl) rfl rfl hl.1 rfl (lv_room (Nat.le_of_ble_eq_true rfl)) dX3_constantThatHolds_3 ⟨(Nat.le_of_ble_eq_true rfl), (Nat.le_of_ble_eq_true rfl)⟩) (fun r_1 u H locs hw hP hD hK hS => ?_)
  have hw : r_1 = wi v 1 3 := hw
  subst hw
  have hP : va_P D vwCl [(h0, .inr (2, [.int kb, .ref ca, .ref cc, .int kf, .int kg, .int kl, .int kx, .int ko])), (ca, .inl (cI, 16, .inl kc)), (cc, .inl (cI, 4, .inl kd))] H := hP
  have hD : va_D A [(h0, .inr (2, [.int kb, .ref ca, .ref cc, .int kf, .int kg, .int kl, .int kx, .int ko])), (ca, .inl (cI, 16, .inl kc)), (cc, .inl (cI, 4, .inl kd))] := hD
  have hK : va_K D vwCl [(cI, .int)] s := hK
  refine lv_if_eq (tgt := 18) hx hb dX3_constantThatHolds_6 (by decide) (fun c_2 => ?_) (fun c_2 => ?_)
  · refine lv_iconst (v := (-1)) hx hb dX3_constantThatHolds_18 (by decide) ?_
    exact ret_i hx hb hr hlocks rfl (u := ()) trivial (hP.sub [0, 1, 2] rfl) (hK.sub [] rfl) (hD.sub [0, 1, 2] (by decide) rfl) hS (Nat.le_of_ble_eq_true rfl) (Nat.le_of_ble_eq_true rfl) dX3_constantThatHolds_19
  refine lv_aload_n hx hb dX3_constantThatHolds_9 rfl (lv_at hl 0 rfl) ?_
  refine va_get (D := D) (ci := 2) (v := .ref cc) (C := RX3) (T := TX3) (N := 8) hx hb hts hig_constantThatHolds_X3 hown hK hP 0 rfl rfl 2 (by decide) (hts (.fieldLink RX3 15 "OneHandset$Keys" "constants" "[I") (List.mem_of_getElem? (i := 1) rfl)) (fun _ h9 => h9) rfl dX3_constantThatHolds_10 ?_
  refine lv_iload_n hx hb dX3_constantThatHolds_13 rfl (lv_at hl 1 rfl) ?_
  refine va_iald hx hb hK hP 2 0 rfl rfl (by have : (1 : Int32).toInt = 1 := (by decide); have : (3 : Int32).toInt = 3 := (by decide); have := ti_wi1 c_2; exact vp_in_iff.mpr (by omega)) dX3_constantThatHolds_14 ?_
  refine lv_goto (tgt := 19) hx hb dX3_constantThatHolds_15 (by decide) ?_
  exact ret_i hx hb hr hlocks rfl (u := ()) trivial (hP.sub [0, 1, 2] rfl) (hK.sub [] rfl) (hD.sub [0, 1, 2] (by decide) rfl) hS (Nat.le_of_ble_eq_true rfl) (Nat.le_of_ble_eq_true rfl) dX3_constantThatHolds_19
theorem hig_free_X3 : ∀ w ∈ wsX30, w ∈ wsX3_free := mem_pl [12, 13, 14, 15, 16, 17, 18, 19] rfl
set_option maxHeartbeats 4000000 in
set_option maxRecDepth 100000 in
theorem g_free (l : Launch) (D : va_G) (sz : Nat) (h0 : Nat) (ca : Nat) (cc : Nat) (kb : Int32) (kf : Int32) (kg : Int32) (kl : Int32) (kx : Int32) (ko : Int32)  : Ci l yX3_free wsX3_free ({ frames := 1, cells := 0, slots := 0, locals := 20 } : Room) D [.ref h0] [(h0, .inr (2, [.int kb, .ref ca, .ref cc, .int kf, .int kg, .int kl, .int kx, .int ko]))] [] sz (fun (r : Int32) => fun (_ : Unit) => True) (fun (_ : Unit) => [(h0, .inr (2, [.int kb, .ref ca, .ref cc, .int kf, .int kg, .int kl, .int kx, .int ko]))]) (fun (_ : Unit) => []) := by
  refine ct_i (cc := cX3_free) (maxL := 1) (ret := (some .int)) (by decide) rfl (Nat.le_of_ble_eq_true rfl) ?_
  intro p e s m below meth c A ls H hx hb hr hts hown hml hlocks hin hA hS hP hK hD hNW hl hAe hsz
  have hl : lv_has ls 1 [(0, .ref h0)] := hl
  refine lv_aload_n hx hb dX3_free_0 rfl (lv_at hl 0 rfl) ?_
  refine va_get (D := D) (ci := 2) (v := .int kb) (C := RX3) (T := TX3) (N := 8) hx hb hts hig_free_X3 hown hK hP 0 rfl rfl 0 (by decide) (hts (.fieldLink RX3 18 "OneHandset$Keys" "bits" "I") (List.mem_of_getElem? (i := 1) rfl)) (fun _ h9 => h9) rfl dX3_free_1 ?_
  refine go_i (wr := [(h0, .inr (2, [.int kb, .ref ca, .ref cc, .int kf, .int kg, .int kl, .int kx, .int ko]))]) (tysr := []) hP hD hS hA hK [] [0] [] rfl rfl (by decide) (by decide) rfl (va_runSN (As := [.int kb]) (rest := []) ⟨hx, hb, hml, hown, hts⟩ (c_X8_lowBits l D H.size kb ) ⟨(va_cnB (own := RX3) (host := RX8) (index := 60) 1 hts gX3_free_X8_lowBits_n60 rfl rfl rfl (hNW.2.1 (RX3, 60, yX8_lowBits, RX8) (List.mem_of_getElem? (l := nw_M) (i := 5) rfl)) (hts (.initialized RX8) (List.mem_of_getElem? (i := 4) rfl)) (by decide +kernel) ⟨Nat.le_of_ble_eq_true rfl, Nat.le_of_ble_eq_true rfl⟩), (hts (.static yX8_lowBits) (List.mem_of_getElem? (i := 3) rfl)), trivial⟩ (st_preS hP hD hK hNW [] [] rfl rfl (by decide) rfl) rfl rfl hl.1 rfl (lv_room (Nat.le_of_ble_eq_true rfl)) dX3_free_4 ⟨(Nat.le_of_ble_eq_true rfl), (Nat.le_of_ble_eq_true rfl)⟩) (fun r_1 u H locs hw hP hD hK hS => ?_)
  have hw : r_1 = lb kb := hw
  subst hw
  have hP : va_P D vwCl [(h0, .inr (2, [.int kb, .ref ca, .ref cc, .int kf, .int kg, .int kl, .int kx, .int ko]))] H := hP
  have hD : va_D A [(h0, .inr (2, [.int kb, .ref ca, .ref cc, .int kf, .int kg, .int kl, .int kx, .int ko]))] := hD
  have hK : va_K D vwCl [] s := hK
  refine lv_aload_n hx hb dX3_free_7 rfl (lv_at hl 0 rfl) ?_
  refine va_get (D := D) (ci := 2) (v := .int kx) (C := RX3) (T := TX3) (N := 8) hx hb hts hig_free_X3 hown hK hP 0 rfl rfl 6 (by decide) (hts (.fieldLink RX3 63 "OneHandset$Keys" "fixed" "I") (List.mem_of_getElem? (i := 2) rfl)) (fun _ h9 => h9) rfl dX3_free_8 ?_
  refine lv_iconst (v := (-1)) hx hb dX3_free_11 (by decide) ?_
  refine lv_ixor hx hb dX3_free_12 ?_
  refine lv_topi (fun y_2 _ => ?_)
  refine lv_iand hx hb dX3_free_13 ?_
  refine lv_topi (fun y_3 _ => ?_)
  refine lv_aload_n hx hb dX3_free_14 rfl (lv_at hl 0 rfl) ?_
  refine go_i (wr := []) (tysr := []) hP hD hS hA hK [0] [] [] rfl rfl (by decide) (by decide) rfl (va_runV (As := []) (rest := [.int y_3]) ⟨hx, hb, hml, hown, hts⟩ (g_flipMask l D H.size h0 ca cc kb kf kg kl kx ko ) (cwV 0 hts gX3_free_X3_flipMask rfl rfl rfl (by decide +kernel) ⟨Nat.le_of_ble_eq_true rfl, Nat.le_of_ble_eq_true rfl⟩) (st_preV (ci := 2) (q0 := 0) hP hD hK hNW [0] [] rfl rfl (by decide) rfl rfl rfl rfl) rfl rfl hl.1 rfl (lv_room (Nat.le_of_ble_eq_true rfl)) dX3_free_15 ⟨(Nat.le_of_ble_eq_true rfl), (Nat.le_of_ble_eq_true rfl)⟩) (fun r_4 u H locs hw hP hD hK hS => ?_)
  have hP : va_P D vwCl [(h0, .inr (2, [.int kb, .ref ca, .ref cc, .int kf, .int kg, .int kl, .int kx, .int ko]))] H := hP
  have hD : va_D A [(h0, .inr (2, [.int kb, .ref ca, .ref cc, .int kf, .int kg, .int kl, .int kx, .int ko]))] := hD
  have hK : va_K D vwCl [] s := hK
  refine lv_iconst (v := (-1)) hx hb dX3_free_18 (by decide) ?_
  refine lv_ixor hx hb dX3_free_19 ?_
  refine lv_topi (fun y_5 _ => ?_)
  refine lv_iand hx hb dX3_free_20 ?_
  refine lv_topi (fun y_6 _ => ?_)
  exact ret_i hx hb hr hlocks rfl (u := ()) trivial (hP.sub [0] rfl) (hK.sub [] rfl) (hD.sub [0] (by decide) rfl) hS (Nat.le_of_ble_eq_true rfl) (Nat.le_of_ble_eq_true rfl) dX3_free_21
theorem hig_canForesee_X3 : ∀ w ∈ wsX30, w ∈ wsX3_canForesee := mem_pl [24, 25, 26, 27, 28, 29, 30, 31] rfl
set_option maxHeartbeats 4000000 in
set_option maxRecDepth 100000 in
theorem g_canForesee (l : Launch) (D : va_G) (sz : Nat) (h0 : Nat) (ca : Nat) (cc : Nat) (kb : Int32) (kf : Int32) (kg : Int32) (kl : Int32) (kx : Int32) (ko : Int32)  : Ci l yX3_canForesee wsX3_canForesee ({ frames := 2, cells := 0, slots := 0, locals := 40 } : Room) D [.ref h0] [(h0, .inr (2, [.int kb, .ref ca, .ref cc, .int kf, .int kg, .int kl, .int kx, .int ko]))] [] sz (fun (r : Int32) => fun (_ : Unit) => True) (fun (_ : Unit) => [(h0, .inr (2, [.int kb, .ref ca, .ref cc, .int kf, .int kg, .int kl, .int kx, .int ko]))]) (fun (_ : Unit) => []) := by
  refine ct_i (cc := cX3_canForesee) (maxL := 1) (ret := (some .boolean)) (by decide) rfl (Nat.le_of_ble_eq_true rfl) ?_
  intro p e s m below meth c A ls H hx hb hr hts hown hml hlocks hin hA hS hP hK hD hNW hl hAe hsz
  have hl : lv_has ls 1 [(0, .ref h0)] := hl
  refine lv_aload_n hx hb dX3_canForesee_0 rfl (lv_at hl 0 rfl) ?_
  refine va_get (D := D) (ci := 2) (v := .int kl) (C := RX3) (T := TX3) (N := 8) hx hb hts hig_canForesee_X3 hown hK hP 0 rfl rfl 5 (by decide) (hts (.fieldLink RX3 57 "OneHandset$Keys" "learnt" "I") (List.mem_of_getElem? (i := 1) rfl)) (fun _ h9 => h9) rfl dX3_canForesee_1 ?_
  refine lv_if_le (tgt := 23) hx hb dX3_canForesee_4 (by decide) (fun c_1 => ?_) (fun c_1 => ?_)
  · refine lv_iconst (v := 0) hx hb dX3_canForesee_23 (by decide) ?_
    exact ret_i hx hb hr hlocks rfl (u := ()) trivial (hP.sub [0] rfl) (hK.sub [] rfl) (hD.sub [0] (by decide) rfl) hS (Nat.le_of_ble_eq_true rfl) (Nat.le_of_ble_eq_true rfl) dX3_canForesee_24
  refine lv_aload_n hx hb dX3_canForesee_7 rfl (lv_at hl 0 rfl) ?_
  refine go_i (wr := []) (tysr := []) hP hD hS hA hK [0] [] [] rfl rfl (by decide) (by decide) rfl (va_runV (As := []) (rest := []) ⟨hx, hb, hml, hown, hts⟩ (g_free l D H.size h0 ca cc kb kf kg kl kx ko ) (cwV 0 hts gX3_canForesee_X3_free rfl rfl rfl (by decide +kernel) ⟨Nat.le_of_ble_eq_true rfl, Nat.le_of_ble_eq_true rfl⟩) (st_preV (ci := 2) (q0 := 0) hP hD hK hNW [0] [] rfl rfl (by decide) rfl rfl rfl rfl) rfl rfl hl.1 rfl (lv_room (Nat.le_of_ble_eq_true rfl)) dX3_canForesee_8 ⟨(Nat.le_of_ble_eq_true rfl), (Nat.le_of_ble_eq_true rfl)⟩) (fun r_2 u H locs hw hP hD hK hS => ?_)
  have hP : va_P D vwCl [(h0, .inr (2, [.int kb, .ref ca, .ref cc, .int kf, .int kg, .int kl, .int kx, .int ko]))] H := hP
  have hD : va_D A [(h0, .inr (2, [.int kb, .ref ca, .ref cc, .int kf, .int kg, .int kl, .int kx, .int ko]))] := hD
  have hK : va_K D vwCl [] s := hK
  refine go_i (wr := [(h0, .inr (2, [.int kb, .ref ca, .ref cc, .int kf, .int kg, .int kl, .int kx, .int ko]))]) (tysr := []) hP hD hS hA hK [] [0] [] rfl rfl (by decide) (by decide) rfl (va_runS (As := [.int r_2]) (rest := []) ⟨hx, hb, hml, hown, hts⟩ (g_bitCount l D H.size r_2 ) (va_cwS 1 hts gX3_canForesee_J6_bitCount_0f7a4 rfl rfl rfl (by decide +kernel) ⟨Nat.le_of_ble_eq_true rfl, Nat.le_of_ble_eq_true rfl⟩) (st_preS hP hD hK hNW [] [] rfl rfl (by decide) rfl) rfl rfl hl.1 rfl (lv_room (Nat.le_of_ble_eq_true rfl)) dX3_canForesee_11 ⟨(Nat.le_of_ble_eq_true rfl), (Nat.le_of_ble_eq_true rfl)⟩) (fun r_3 u H locs hw hP hD hK hS => ?_)
  have hP : va_P D vwCl [(h0, .inr (2, [.int kb, .ref ca, .ref cc, .int kf, .int kg, .int kl, .int kx, .int ko]))] H := hP
  have hD : va_D A [(h0, .inr (2, [.int kb, .ref ca, .ref cc, .int kf, .int kg, .int kl, .int kx, .int ko]))] := hD
  have hK : va_K D vwCl [] s := hK
  refine lv_bipush (v := 14) hx hb dX3_canForesee_14 (by decide) ?_
  refine lv_icmp_gt (tgt := 23) hx hb dX3_canForesee_16 (by decide) (fun c_4 => ?_) (fun c_4 => ?_)
  · refine lv_iconst (v := 0) hx hb dX3_canForesee_23 (by decide) ?_
    exact ret_i hx hb hr hlocks rfl (u := ()) trivial (hP.sub [0] rfl) (hK.sub [] rfl) (hD.sub [0] (by decide) rfl) hS (Nat.le_of_ble_eq_true rfl) (Nat.le_of_ble_eq_true rfl) dX3_canForesee_24
  refine lv_iconst (v := 1) hx hb dX3_canForesee_19 (by decide) ?_
  refine lv_goto (tgt := 24) hx hb dX3_canForesee_20 (by decide) ?_
  exact ret_i hx hb hr hlocks rfl (u := ()) trivial (hP.sub [0] rfl) (hK.sub [] rfl) (hD.sub [0] (by decide) rfl) hS (Nat.le_of_ble_eq_true rfl) (Nat.le_of_ble_eq_true rfl) dX3_canForesee_24
theorem hig_checksHoldFor_X3 : ∀ w ∈ wsX30, w ∈ wsX3_checksHoldFor := mem_pl [15, 16, 17, 18, 19, 20, 21, 22] rfl
set_option maxHeartbeats 4000000 in
set_option maxRecDepth 100000 in
theorem g_checksHoldFor (l : Launch) (D : va_G) (sz : Nat) (cI : ClassId) (h0 : Nat) (ca : Nat) (cc : Nat) (kb : Int32) (kf : Int32) (kg : Int32) (kl : Int32) (kx : Int32) (ko : Int32) (kc : Nat → Int32) (kd : Nat → Int32) (v : Int32)  : Ci l yX3_checksHoldFor wsX3_checksHoldFor ({ frames := 3, cells := 0, slots := 0, locals := 64 } : Room) D [.ref h0, .int v] [(h0, .inr (2, [.int kb, .ref ca, .ref cc, .int kf, .int kg, .int kl, .int kx, .int ko])), (ca, .inl (cI, 16, .inl kc)), (cc, .inl (cI, 4, .inl kd))] [(cI, .int)] sz (fun (r : Int32) => fun (_ : Unit) => True) (fun (_ : Unit) => [(h0, .inr (2, [.int kb, .ref ca, .ref cc, .int kf, .int kg, .int kl, .int kx, .int ko])), (ca, .inl (cI, 16, .inl kc)), (cc, .inl (cI, 4, .inl kd))]) (fun (_ : Unit) => []) := by
  refine ct_i (cc := cX3_checksHoldFor) (maxL := 3) (ret := (some .boolean)) (by decide) rfl (Nat.le_of_ble_eq_true rfl) ?_
  intro p e s m below meth c A ls H hx hb hr hts hown hml hlocks hin hA hS hP hK hD hNW hl hAe hsz
  have hl : lv_has ls 3 [(0, .ref h0), (1, .int v)] := hl
  refine lv_iconst (v := 1) hx hb dX3_checksHoldFor_0 (by decide) ?_
  refine lv_istore_n (lv' := [(2, .int 1), (0, .ref h0), (1, .int v)]) hx hb dX3_checksHoldFor_1 rfl hl (by decide) rfl (fun ls hl => ?_)
  refine lp_N (fun n9 H locs ls => ∃ (i_1 : Int32), n9 = (4 - i_1.toInt).toNat ∧ (va_P D vwCl [(h0, .inr (2, [.int kb, .ref ca, .ref cc, .int kf, .int kg, .int kl, .int kx, .int ko])), (ca, .inl (cI, 16, .inl kc)), (cc, .inl (cI, 4, .inl kd))] H ∧ va_D A [(h0, .inr (2, [.int kb, .ref ca, .ref cc, .int kf, .int kg, .int kl, .int kx, .int ko])), (ca, .inl (cI, 16, .inl kc)), (cc, .inl (cI, 4, .inl kd))]) ∧ va_S A s.heap H locs ∧ lv_has ls 3 [(2, .int i_1), (0, .ref h0), (1, .int v)] ∧ (1 ≤ i_1.toInt)) ?_ ⟨1, rfl, ⟨hP, hD⟩, hS, hl, (by decide)⟩
  intro n9 ih_2 H locs ls hI
  obtain ⟨i_1, rfl, ⟨hP, hD⟩, hS, hl, hv_3⟩ := hI
  refine lv_iload_n hx hb dX3_checksHoldFor_2 rfl (lv_at hl 0 rfl) ?_
  refine lv_iconst (v := 3) hx hb dX3_checksHoldFor_3 (by decide) ?_
  refine lv_icmp_gt (tgt := 40) hx hb dX3_checksHoldFor_4 (by decide) (fun c_4 => ?_) (fun c_4 => ?_)
  · refine lv_iconst (v := 1) hx hb dX3_checksHoldFor_40 (by decide) ?_
    exact ret_i hx hb hr hlocks rfl (u := ()) trivial (hP.sub [0, 1, 2] rfl) (hK.sub [] rfl) (hD.sub [0, 1, 2] (by decide) rfl) hS (Nat.le_of_ble_eq_true rfl) (Nat.le_of_ble_eq_true rfl) dX3_checksHoldFor_41
  refine jn_S 34 (fun st9 H locs ls => st9 = [] ∧ (va_P D vwCl [(h0, .inr (2, [.int kb, .ref ca, .ref cc, .int kf, .int kg, .int kl, .int kx, .int ko])), (ca, .inl (cI, 16, .inl kc)), (cc, .inl (cI, 4, .inl kd))] H ∧ va_D A [(h0, .inr (2, [.int kb, .ref ca, .ref cc, .int kf, .int kg, .int kl, .int kx, .int ko])), (ca, .inl (cI, 16, .inl kc)), (cc, .inl (cI, 4, .inl kd))]) ∧ va_S A s.heap H locs ∧ lv_has ls 3 [(2, .int i_1), (0, .ref h0), (1, .int v)]) ?_ ?_
  · intro st9 H locs ls hI
    obtain ⟨rfl, ⟨hP, hD⟩, hS, hl⟩ := hI
    refine lv_iinc (v := i_1 + 1) (lv' := [(2, .int (i_1 + 1)), (0, .ref h0), (1, .int v)]) hx hb dX3_checksHoldFor_34 hl (k := 0) rfl rfl (by decide) rfl (fun ls hl => ?_)
    refine lv_goto (tgt := 2) hx hb dX3_checksHoldFor_37 (by decide) ?_
    exact ih_2 _ _ _ _ (by have : (3 : Int32).toInt = 3 := (by decide); have := ti_nlt c_4; have kn : (4 : Int32).toInt = 4 := (by decide); have u1 := ti_up (i := i_1) (n := 4) (by omega); omega) ⟨i_1 + 1, rfl, ⟨hP, hD⟩, hS, lv_sub hl [0, 1, 2] rfl, (by have : (3 : Int32).toInt = 3 := (by decide); have := ti_nlt c_4; have kn : (4 : Int32).toInt = 4 := (by decide); have u1 := ti_up (i := i_1) (n := 4) (by omega); omega)⟩
  · intro hJ_6
    refine lv_aload_n hx hb dX3_checksHoldFor_7 rfl (lv_at hl 1 rfl) ?_
    refine va_get (D := D) (ci := 2) (v := .ref cc) (C := RX3) (T := TX3) (N := 8) hx hb hts hig_checksHoldFor_X3 hown hK hP 0 rfl rfl 2 (by decide) (hts (.fieldLink RX3 15 "OneHandset$Keys" "constants" "[I") (List.mem_of_getElem? (i := 1) rfl)) (fun _ h9 => h9) rfl dX3_checksHoldFor_8 ?_
    refine lv_iload_n hx hb dX3_checksHoldFor_11 rfl (lv_at hl 0 rfl) ?_
    refine va_iald hx hb hK hP 2 0 rfl rfl (by have : (3 : Int32).toInt = 3 := (by decide); have := ti_nlt c_4; exact vp_in_iff.mpr (by omega)) dX3_checksHoldFor_12 ?_
    refine lv_iconst (v := (-1)) hx hb dX3_checksHoldFor_13 (by decide) ?_
    refine lv_icmp_eq (tgt := 34) hx hb dX3_checksHoldFor_14 (by decide) (fun c_7 => ?_) (fun c_7 => ?_)
    · exact hJ_6 _ _ _ _ ⟨rfl, ⟨hP, hD⟩, hS, lv_sub hl [0, 1, 2] rfl⟩
    refine lv_aload_n hx hb dX3_checksHoldFor_17 rfl (lv_at hl 1 rfl) ?_
    refine lv_iload_n hx hb dX3_checksHoldFor_18 rfl (lv_at hl 0 rfl) ?_
    refine lv_iload_n hx hb dX3_checksHoldFor_19 rfl (lv_at hl 2 rfl) ?_
    refine go_i (wr := [(ca, .inl (cI, 16, .inl kc)), (cc, .inl (cI, 4, .inl kd))]) (tysr := [(cI, .int)]) hP hD hS hA hK [0] [1, 2] [0] rfl rfl (by decide) (by decide) rfl (va_runV (As := [.int i_1, .int v]) (rest := []) ⟨hx, hb, hml, hown, hts⟩ (g_constantFor l D H.size h0 ca cc kb kf kg kl kx ko i_1 v ) (cwV 2 hts gX3_checksHoldFor_X3_constantFor rfl rfl rfl (by decide +kernel) ⟨Nat.le_of_ble_eq_true rfl, Nat.le_of_ble_eq_true rfl⟩) (st_preV (ci := 2) (q0 := 0) hP hD hK hNW [0] [] rfl rfl (by decide) rfl rfl rfl rfl) rfl rfl hl.1 rfl (lv_room (Nat.le_of_ble_eq_true rfl)) dX3_checksHoldFor_20 ⟨(Nat.le_of_ble_eq_true rfl), (Nat.le_of_ble_eq_true rfl)⟩) (fun r_8 u H locs hw hP hD hK hS => ?_)
    have hP : va_P D vwCl [(ca, .inl (cI, 16, .inl kc)), (cc, .inl (cI, 4, .inl kd)), (h0, .inr (2, [.int kb, .ref ca, .ref cc, .int kf, .int kg, .int kl, .int kx, .int ko]))] H := hP
    have hD : va_D A [(ca, .inl (cI, 16, .inl kc)), (cc, .inl (cI, 4, .inl kd)), (h0, .inr (2, [.int kb, .ref ca, .ref cc, .int kf, .int kg, .int kl, .int kx, .int ko]))] := hD
    have hK : va_K D vwCl [(cI, .int)] s := hK
    refine lv_aload_n hx hb dX3_checksHoldFor_23 rfl (lv_at hl 1 rfl) ?_
    refine va_get (D := D) (ci := 2) (v := .ref cc) (C := RX3) (T := TX3) (N := 8) hx hb hts hig_checksHoldFor_X3 hown hK hP 2 rfl rfl 2 (by decide) (hts (.fieldLink RX3 15 "OneHandset$Keys" "constants" "[I") (List.mem_of_getElem? (i := 1) rfl)) (fun _ h9 => h9) rfl dX3_checksHoldFor_24 ?_
    refine lv_iload_n hx hb dX3_checksHoldFor_27 rfl (lv_at hl 0 rfl) ?_
    refine va_iald hx hb hK hP 1 0 rfl rfl (by have : ((-1) : Int32).toInt = -1 := (by decide); have : (3 : Int32).toInt = 3 := (by decide); have := ti_nlt c_4; have := ti_ne c_7; exact vp_in_iff.mpr (by omega)) dX3_checksHoldFor_28 ?_
    refine lv_icmp_eq (tgt := 34) hx hb dX3_checksHoldFor_29 (by decide) (fun c_9 => ?_) (fun c_9 => ?_)
    · exact hJ_6 _ _ _ _ ⟨rfl, ⟨hP.sub [2, 0, 1] rfl, hD.sub [2, 0, 1] (by decide) rfl⟩, hS, lv_sub hl [0, 1, 2] rfl⟩
    refine lv_iconst (v := 0) hx hb dX3_checksHoldFor_32 (by decide) ?_
    exact ret_i hx hb hr hlocks rfl (u := ()) trivial (hP.sub [2, 0, 1] rfl) (hK.sub [] rfl) (hD.sub [2, 0, 1] (by decide) rfl) hS (Nat.le_of_ble_eq_true rfl) (Nat.le_of_ble_eq_true rfl) dX3_checksHoldFor_33
theorem hig_foresees_X3 : ∀ w ∈ wsX30, w ∈ wsX3_foresees := mem_pl [30, 31, 32, 33, 34, 35, 36, 37] rfl
set_option maxHeartbeats 4000000 in
set_option maxRecDepth 100000 in
theorem g_foresees (l : Launch) (D : va_G) (sz : Nat) (cI : ClassId) (h0 : Nat) (ca : Nat) (cc : Nat) (kb : Int32) (kf : Int32) (kg : Int32) (kl : Int32) (kx : Int32) (ko : Int32) (kc : Nat → Int32) (kd : Nat → Int32) (v : Int32)  : Ci l yX3_foresees wsX3_foresees ({ frames := 4, cells := 0, slots := 0, locals := 86 } : Room) D [.ref h0, .int v] [(h0, .inr (2, [.int kb, .ref ca, .ref cc, .int kf, .int kg, .int kl, .int kx, .int ko])), (ca, .inl (cI, 16, .inl kc)), (cc, .inl (cI, 4, .inl kd))] [(cI, .int)] sz (fun (r : Int32) => fun (_ : Unit) => True) (fun (_ : Unit) => [(h0, .inr (2, [.int kb, .ref ca, .ref cc, .int kf, .int kg, .int kl, .int kx, .int ko])), (ca, .inl (cI, 16, .inl kc)), (cc, .inl (cI, 4, .inl kd))]) (fun (_ : Unit) => []) := by
  refine ct_i (cc := cX3_foresees) (maxL := 2) (ret := (some .boolean)) (by decide) rfl (Nat.le_of_ble_eq_true rfl) ?_
  intro p e s m below meth c A ls H hx hb hr hts hown hml hlocks hin hA hS hP hK hD hNW hl hAe hsz
  have hl : lv_has ls 2 [(0, .ref h0), (1, .int v)] := hl
  refine lv_iload_n hx hb dX3_foresees_0 rfl (lv_at hl 1 rfl) ?_
  refine lv_aload_n hx hb dX3_foresees_1 rfl (lv_at hl 0 rfl) ?_
  refine go_i (wr := [(ca, .inl (cI, 16, .inl kc)), (cc, .inl (cI, 4, .inl kd))]) (tysr := [(cI, .int)]) hP hD hS hA hK [0] [1, 2] [0] rfl rfl (by decide) (by decide) rfl (va_runV (As := []) (rest := [.int v]) ⟨hx, hb, hml, hown, hts⟩ (g_free l D H.size h0 ca cc kb kf kg kl kx ko ) (cwV 0 hts gX3_foresees_X3_free rfl rfl rfl (by decide +kernel) ⟨Nat.le_of_ble_eq_true rfl, Nat.le_of_ble_eq_true rfl⟩) (st_preV (ci := 2) (q0 := 0) hP hD hK hNW [0] [] rfl rfl (by decide) rfl rfl rfl rfl) rfl rfl hl.1 rfl (lv_room (Nat.le_of_ble_eq_true rfl)) dX3_foresees_2 ⟨(Nat.le_of_ble_eq_true rfl), (Nat.le_of_ble_eq_true rfl)⟩) (fun r_1 u H locs hw hP hD hK hS => ?_)
  have hP : va_P D vwCl [(ca, .inl (cI, 16, .inl kc)), (cc, .inl (cI, 4, .inl kd)), (h0, .inr (2, [.int kb, .ref ca, .ref cc, .int kf, .int kg, .int kl, .int kx, .int ko]))] H := hP
  have hD : va_D A [(ca, .inl (cI, 16, .inl kc)), (cc, .inl (cI, 4, .inl kd)), (h0, .inr (2, [.int kb, .ref ca, .ref cc, .int kf, .int kg, .int kl, .int kx, .int ko]))] := hD
  have hK : va_K D vwCl [(cI, .int)] s := hK
  refine lv_iconst (v := (-1)) hx hb dX3_foresees_5 (by decide) ?_
  refine lv_ixor hx hb dX3_foresees_6 ?_
  refine lv_topi (fun y_2 _ => ?_)
  refine lv_iand hx hb dX3_foresees_7 ?_
  refine lv_topi (fun y_3 _ => ?_)
  refine lv_aload_n hx hb dX3_foresees_8 rfl (lv_at hl 0 rfl) ?_
  refine va_get (D := D) (ci := 2) (v := .int ko) (C := RX3) (T := TX3) (N := 8) hx hb hts hig_foresees_X3 hown hK hP 2 rfl rfl 7 (by decide) (hts (.fieldLink RX3 66 "OneHandset$Keys" "fixedOn" "I") (List.mem_of_getElem? (i := 1) rfl)) (fun _ h9 => h9) rfl dX3_foresees_9 ?_
  refine lv_icmp_ne (tgt := 27) hx hb dX3_foresees_12 (by decide) (fun c_4 => ?_) (fun c_4 => ?_)
  · refine lv_iconst (v := 0) hx hb dX3_foresees_27 (by decide) ?_
    exact ret_i hx hb hr hlocks rfl (u := ()) trivial (hP.sub [2, 0, 1] rfl) (hK.sub [] rfl) (hD.sub [2, 0, 1] (by decide) rfl) hS (Nat.le_of_ble_eq_true rfl) (Nat.le_of_ble_eq_true rfl) dX3_foresees_28
  refine lv_aload_n hx hb dX3_foresees_15 rfl (lv_at hl 0 rfl) ?_
  refine lv_iload_n hx hb dX3_foresees_16 rfl (lv_at hl 1 rfl) ?_
  refine go_i (wr := []) (tysr := [(cI, .int)]) hP hD hS hA hK [2, 0, 1] [] [0] rfl rfl (by decide) (by decide) rfl (va_runV (As := [.int v]) (rest := []) ⟨hx, hb, hml, hown, hts⟩ (g_checksHoldFor l D H.size cI h0 ca cc kb kf kg kl kx ko kc kd v ) (cwV 1 hts gX3_foresees_X3_checksHoldFor rfl rfl rfl (by decide +kernel) ⟨Nat.le_of_ble_eq_true rfl, Nat.le_of_ble_eq_true rfl⟩) (st_preV (ci := 2) (q0 := 2) hP hD hK hNW [2, 0, 1] [0] rfl rfl (by decide) rfl rfl rfl rfl) rfl rfl hl.1 rfl (lv_room (Nat.le_of_ble_eq_true rfl)) dX3_foresees_17 ⟨(Nat.le_of_ble_eq_true rfl), (Nat.le_of_ble_eq_true rfl)⟩) (fun r_5 u H locs hw hP hD hK hS => ?_)
  have hP : va_P D vwCl [(h0, .inr (2, [.int kb, .ref ca, .ref cc, .int kf, .int kg, .int kl, .int kx, .int ko])), (ca, .inl (cI, 16, .inl kc)), (cc, .inl (cI, 4, .inl kd))] H := hP
  have hD : va_D A [(h0, .inr (2, [.int kb, .ref ca, .ref cc, .int kf, .int kg, .int kl, .int kx, .int ko])), (ca, .inl (cI, 16, .inl kc)), (cc, .inl (cI, 4, .inl kd))] := hD
  have hK : va_K D vwCl [(cI, .int)] s := hK
  refine lv_if_eq (tgt := 27) hx hb dX3_foresees_20 (by decide) (fun c_6 => ?_) (fun c_6 => ?_)
  · refine lv_iconst (v := 0) hx hb dX3_foresees_27 (by decide) ?_
    exact ret_i hx hb hr hlocks rfl (u := ()) trivial (hP.sub [0, 1, 2] rfl) (hK.sub [] rfl) (hD.sub [0, 1, 2] (by decide) rfl) hS (Nat.le_of_ble_eq_true rfl) (Nat.le_of_ble_eq_true rfl) dX3_foresees_28
  refine lv_iconst (v := 1) hx hb dX3_foresees_23 (by decide) ?_
  refine lv_goto (tgt := 28) hx hb dX3_foresees_24 (by decide) ?_
  exact ret_i hx hb hr hlocks rfl (u := ()) trivial (hP.sub [0, 1, 2] rfl) (hK.sub [] rfl) (hD.sub [0, 1, 2] (by decide) rfl) hS (Nat.le_of_ble_eq_true rfl) (Nat.le_of_ble_eq_true rfl) dX3_foresees_28
theorem hig_foreseenAbove_X3 : ∀ w ∈ wsX30, w ∈ wsX3_foreseenAbove := mem_pl [37, 38, 39, 40, 41, 42, 43, 44] rfl
set_option maxHeartbeats 4000000 in
set_option maxRecDepth 100000 in
theorem g_foreseenAbove (l : Launch) (D : va_G) (sz : Nat) (cI : ClassId) (h0 : Nat) (ca : Nat) (cc : Nat) (kb : Int32) (kf : Int32) (kg : Int32) (kl : Int32) (kx : Int32) (ko : Int32) (kc : Nat → Int32) (kd : Nat → Int32) (v : Int32)  : Ci l yX3_foreseenAbove wsX3_foreseenAbove ({ frames := 4, cells := 0, slots := 0, locals := 86 } : Room) D [.ref h0, .int v] [(h0, .inr (2, [.int kb, .ref ca, .ref cc, .int kf, .int kg, .int kl, .int kx, .int ko])), (ca, .inl (cI, 16, .inl kc)), (cc, .inl (cI, 4, .inl kd))] [(cI, .int)] sz (fun (r : Int32) => fun (_ : Unit) => True) (fun (_ : Unit) => [(h0, .inr (2, [.int kb, .ref ca, .ref cc, .int kf, .int kg, .int kl, .int kx, .int ko])), (ca, .inl (cI, 16, .inl kc)), (cc, .inl (cI, 4, .inl kd))]) (fun (_ : Unit) => []) := by
  refine ct_i (cc := cX3_foreseenAbove) (maxL := 6) (ret := (some .int)) (by decide) rfl (Nat.le_of_ble_eq_true rfl) ?_
  intro p e s m below meth c A ls H hx hb hr hts hown hml hlocks hin hA hS hP hK hD hNW hl hAe hsz
  have hl : lv_has ls 6 [(0, .ref h0), (1, .int v)] := hl
  refine lv_aload_n hx hb dX3_foreseenAbove_0 rfl (lv_at hl 0 rfl) ?_
  refine go_i (wr := [(ca, .inl (cI, 16, .inl kc)), (cc, .inl (cI, 4, .inl kd))]) (tysr := [(cI, .int)]) hP hD hS hA hK [0] [1, 2] [0] rfl rfl (by decide) (by decide) rfl (va_runV (As := []) (rest := []) ⟨hx, hb, hml, hown, hts⟩ (g_free l D H.size h0 ca cc kb kf kg kl kx ko ) (cwV 0 hts gX3_foreseenAbove_X3_free rfl rfl rfl (by decide +kernel) ⟨Nat.le_of_ble_eq_true rfl, Nat.le_of_ble_eq_true rfl⟩) (st_preV (ci := 2) (q0 := 0) hP hD hK hNW [0] [] rfl rfl (by decide) rfl rfl rfl rfl) rfl rfl hl.1 rfl (lv_room (Nat.le_of_ble_eq_true rfl)) dX3_foreseenAbove_1 ⟨(Nat.le_of_ble_eq_true rfl), (Nat.le_of_ble_eq_true rfl)⟩) (fun r_1 u H locs hw hP hD hK hS => ?_)
  have hP : va_P D vwCl [(ca, .inl (cI, 16, .inl kc)), (cc, .inl (cI, 4, .inl kd)), (h0, .inr (2, [.int kb, .ref ca, .ref cc, .int kf, .int kg, .int kl, .int kx, .int ko]))] H := hP
  have hD : va_D A [(ca, .inl (cI, 16, .inl kc)), (cc, .inl (cI, 4, .inl kd)), (h0, .inr (2, [.int kb, .ref ca, .ref cc, .int kf, .int kg, .int kl, .int kx, .int ko]))] := hD
  have hK : va_K D vwCl [(cI, .int)] s := hK
  refine lv_istore_n (lv' := [(2, .int r_1), (0, .ref h0), (1, .int v)]) hx hb dX3_foreseenAbove_4 rfl hl (by decide) rfl (fun ls hl => ?_)
  refine lv_iconst (v := 1) hx hb dX3_foreseenAbove_5 (by decide) ?_
  refine lv_iload_n hx hb dX3_foreseenAbove_6 rfl (lv_at hl 0 rfl) ?_
  refine go_i (wr := [(ca, .inl (cI, 16, .inl kc)), (cc, .inl (cI, 4, .inl kd)), (h0, .inr (2, [.int kb, .ref ca, .ref cc, .int kf, .int kg, .int kl, .int kx, .int ko]))]) (tysr := [(cI, .int)]) hP hD hS hA hK [] [0, 1, 2] [0] rfl rfl (by decide) (by decide) rfl (va_runS (As := [.int r_1]) (rest := [.int 1]) ⟨hx, hb, hml, hown, hts⟩ (g_bitCount l D H.size r_1 ) (va_cwS 1 hts gX3_foreseenAbove_J6_bitCount_0f7a4 rfl rfl rfl (by decide +kernel) ⟨Nat.le_of_ble_eq_true rfl, Nat.le_of_ble_eq_true rfl⟩) (st_preS hP hD hK hNW [] [] rfl rfl (by decide) rfl) rfl rfl hl.1 rfl (lv_room (Nat.le_of_ble_eq_true rfl)) dX3_foreseenAbove_7 ⟨(Nat.le_of_ble_eq_true rfl), (Nat.le_of_ble_eq_true rfl)⟩) (fun r_2 u H locs hw hP hD hK hS => ?_)
  have hP : va_P D vwCl [(ca, .inl (cI, 16, .inl kc)), (cc, .inl (cI, 4, .inl kd)), (h0, .inr (2, [.int kb, .ref ca, .ref cc, .int kf, .int kg, .int kl, .int kx, .int ko]))] H := hP
  have hD : va_D A [(ca, .inl (cI, 16, .inl kc)), (cc, .inl (cI, 4, .inl kd)), (h0, .inr (2, [.int kb, .ref ca, .ref cc, .int kf, .int kg, .int kl, .int kx, .int ko]))] := hD
  have hK : va_K D vwCl [(cI, .int)] s := hK
  refine lv_ishl hx hb dX3_foreseenAbove_10 ?_
  refine lv_topi (fun y_3 _ => ?_)
  refine lv_istore_n (lv' := [(3, .int y_3), (2, .int r_1), (0, .ref h0), (1, .int v)]) hx hb dX3_foreseenAbove_11 rfl hl (by decide) rfl (fun ls hl => ?_)
  refine lv_iload_n hx hb dX3_foreseenAbove_12 rfl (lv_at hl 3 rfl) ?_
  refine lv_iload_n hx hb dX3_foreseenAbove_13 rfl (lv_at hl 1 rfl) ?_
  refine lv_iand hx hb dX3_foreseenAbove_14 ?_
  refine lv_topi (fun y_4 _ => ?_)
  refine lv_istore (lv' := [(4, .int y_4), (3, .int y_3), (2, .int r_1), (0, .ref h0), (1, .int v)]) hx hb dX3_foreseenAbove_15 hl (by decide) rfl (fun ls hl => ?_)
  refine lv_iconst (v := 0) hx hb dX3_foreseenAbove_17 (by decide) ?_
  refine lv_istore (lv' := [(5, .int 0), (4, .int y_4), (3, .int y_3), (2, .int r_1), (0, .ref h0), (1, .int v)]) hx hb dX3_foreseenAbove_18 hl (by decide) rfl (fun ls hl => ?_)
  refine lp_N (fun n9 H locs ls => ∃ (i4_5 : Int32), ∃ (i_6 : Int32), n9 = (y_3.toInt - i_6.toInt).toNat ∧ (va_P D vwCl [(ca, .inl (cI, 16, .inl kc)), (cc, .inl (cI, 4, .inl kd)), (h0, .inr (2, [.int kb, .ref ca, .ref cc, .int kf, .int kg, .int kl, .int kx, .int ko]))] H ∧ va_D A [(ca, .inl (cI, 16, .inl kc)), (cc, .inl (cI, 4, .inl kd)), (h0, .inr (2, [.int kb, .ref ca, .ref cc, .int kf, .int kg, .int kl, .int kx, .int ko]))]) ∧ va_S A s.heap H locs ∧ lv_has ls 6 [(5, .int i_6), (4, .int i4_5), (3, .int y_3), (2, .int r_1), (0, .ref h0), (1, .int v)] ∧ (0 ≤ i_6.toInt)) ?_ ⟨y_4, 0, rfl, ⟨hP, hD⟩, hS, hl, (by decide)⟩
  intro n9 ih_7 H locs ls hI
  obtain ⟨i4_5, i_6, rfl, ⟨hP, hD⟩, hS, hl, hv_8⟩ := hI
  refine lv_iload hx hb dX3_foreseenAbove_20 (lv_at hl 0 rfl) ?_
  refine lv_iload_n hx hb dX3_foreseenAbove_22 rfl (lv_at hl 2 rfl) ?_
  refine lv_icmp_ge (tgt := 74) hx hb dX3_foreseenAbove_23 (by decide) (fun c_9 => ?_) (fun c_9 => ?_)
  · refine lv_iconst (v := (-1)) hx hb dX3_foreseenAbove_74 (by decide) ?_
    exact ret_i hx hb hr hlocks rfl (u := ()) trivial (hP.sub [2, 0, 1] rfl) (hK.sub [] rfl) (hD.sub [2, 0, 1] (by decide) rfl) hS (Nat.le_of_ble_eq_true rfl) (Nat.le_of_ble_eq_true rfl) dX3_foreseenAbove_75
  refine lv_iload hx hb dX3_foreseenAbove_26 (lv_at hl 1 rfl) ?_
  refine lv_iload_n hx hb dX3_foreseenAbove_28 rfl (lv_at hl 3 rfl) ?_
  refine lv_isub hx hb dX3_foreseenAbove_29 ?_
  refine lv_topi (fun y_10 _ => ?_)
  refine lv_iload_n hx hb dX3_foreseenAbove_30 rfl (lv_at hl 3 rfl) ?_
  refine lv_iand hx hb dX3_foreseenAbove_31 ?_
  refine lv_topi (fun y_11 _ => ?_)
  refine lv_istore (lv' := [(4, .int y_11), (5, .int i_6), (3, .int y_3), (2, .int r_1), (0, .ref h0), (1, .int v)]) hx hb dX3_foreseenAbove_32 hl (by decide) rfl (fun ls hl => ?_)
  refine jn_S 46 (fun st9 H locs ls => st9 = [] ∧ (va_P D vwCl [(ca, .inl (cI, 16, .inl kc)), (cc, .inl (cI, 4, .inl kd)), (h0, .inr (2, [.int kb, .ref ca, .ref cc, .int kf, .int kg, .int kl, .int kx, .int ko]))] H ∧ va_D A [(ca, .inl (cI, 16, .inl kc)), (cc, .inl (cI, 4, .inl kd)), (h0, .inr (2, [.int kb, .ref ca, .ref cc, .int kf, .int kg, .int kl, .int kx, .int ko]))]) ∧ va_S A s.heap H locs ∧ lv_has ls 6 [(4, .int y_11), (5, .int i_6), (3, .int y_3), (2, .int r_1), (0, .ref h0), (1, .int v)]) ?_ ?_
  · intro st9 H locs ls hI
    obtain ⟨rfl, ⟨hP, hD⟩, hS, hl⟩ := hI
    refine lv_aload_n hx hb dX3_foreseenAbove_46 rfl (lv_at hl 4 rfl) ?_
    refine lv_aload_n hx hb dX3_foreseenAbove_47 rfl (lv_at hl 4 rfl) ?_
    refine va_get (D := D) (ci := 2) (v := .int ko) (C := RX3) (T := TX3) (N := 8) hx hb hts hig_foreseenAbove_X3 hown hK hP 2 rfl rfl 7 (by decide) (hts (.fieldLink RX3 66 "OneHandset$Keys" "fixedOn" "I") (List.mem_of_getElem? (i := 1) rfl)) (fun _ h9 => h9) rfl dX3_foreseenAbove_48 ?_
    refine lv_iload hx hb dX3_foreseenAbove_51 (lv_at hl 0 rfl) ?_
    refine lv_ior hx hb dX3_foreseenAbove_53 ?_
    refine lv_topi (fun y_13 _ => ?_)
    refine go_i (wr := []) (tysr := [(cI, .int)]) hP hD hS hA hK [2, 0, 1] [] [0] rfl rfl (by decide) (by decide) rfl (va_runV (As := [.int y_13]) (rest := []) ⟨hx, hb, hml, hown, hts⟩ (g_checksHoldFor l D H.size cI h0 ca cc kb kf kg kl kx ko kc kd y_13 ) (cwV 1 hts gX3_foreseenAbove_X3_checksHoldFor rfl rfl rfl (by decide +kernel) ⟨Nat.le_of_ble_eq_true rfl, Nat.le_of_ble_eq_true rfl⟩) (st_preV (ci := 2) (q0 := 2) hP hD hK hNW [2, 0, 1] [0] rfl rfl (by decide) rfl rfl rfl rfl) rfl rfl hl.1 rfl (lv_room (Nat.le_of_ble_eq_true rfl)) dX3_foreseenAbove_54 ⟨(Nat.le_of_ble_eq_true rfl), (Nat.le_of_ble_eq_true rfl)⟩) (fun r_14 u H locs hw hP hD hK hS => ?_)
    have hP : va_P D vwCl [(h0, .inr (2, [.int kb, .ref ca, .ref cc, .int kf, .int kg, .int kl, .int kx, .int ko])), (ca, .inl (cI, 16, .inl kc)), (cc, .inl (cI, 4, .inl kd))] H := hP
    have hD : va_D A [(h0, .inr (2, [.int kb, .ref ca, .ref cc, .int kf, .int kg, .int kl, .int kx, .int ko])), (ca, .inl (cI, 16, .inl kc)), (cc, .inl (cI, 4, .inl kd))] := hD
    have hK : va_K D vwCl [(cI, .int)] s := hK
    refine lv_if_eq (tgt := 68) hx hb dX3_foreseenAbove_57 (by decide) (fun c_15 => ?_) (fun c_15 => ?_)
    · refine lv_iinc (v := i_6 + 1) (lv' := [(5, .int (i_6 + 1)), (4, .int y_11), (3, .int y_3), (2, .int r_1), (0, .ref h0), (1, .int v)]) hx hb dX3_foreseenAbove_68 hl (k := 1) rfl rfl (by decide) rfl (fun ls hl => ?_)
      refine lv_goto (tgt := 20) hx hb dX3_foreseenAbove_71 (by decide) ?_
      exact ih_7 _ _ _ _ (by have : (0 : Int32).toInt = 0 := (by decide); have := ti_nle c_9; have := ti_eq c_15; have u1 := ti_up (i := i_6) (n := y_3) (by omega); omega) ⟨y_11, i_6 + 1, rfl, ⟨hP.sub [1, 2, 0] rfl, hD.sub [1, 2, 0] (by decide) rfl⟩, hS, lv_sub hl [0, 1, 2, 3, 4, 5] rfl, (by have : (0 : Int32).toInt = 0 := (by decide); have := ti_nle c_9; have := ti_eq c_15; have u1 := ti_up (i := i_6) (n := y_3) (by omega); omega)⟩
    refine lv_aload_n hx hb dX3_foreseenAbove_60 rfl (lv_at hl 4 rfl) ?_
    refine va_get (D := D) (ci := 2) (v := .int ko) (C := RX3) (T := TX3) (N := 8) hx hb hts hig_foreseenAbove_X3 hown hK hP 0 rfl rfl 7 (by decide) (hts (.fieldLink RX3 66 "OneHandset$Keys" "fixedOn" "I") (List.mem_of_getElem? (i := 1) rfl)) (fun _ h9 => h9) rfl dX3_foreseenAbove_61 ?_
    refine lv_iload hx hb dX3_foreseenAbove_64 (lv_at hl 0 rfl) ?_
    refine lv_ior hx hb dX3_foreseenAbove_66 ?_
    refine lv_topi (fun y_16 _ => ?_)
    exact ret_i hx hb hr hlocks rfl (u := ()) trivial (hP.sub [0, 1, 2] rfl) (hK.sub [] rfl) (hD.sub [0, 1, 2] (by decide) rfl) hS (Nat.le_of_ble_eq_true rfl) (Nat.le_of_ble_eq_true rfl) dX3_foreseenAbove_67
  · intro hJ_17
    refine lv_iload hx hb dX3_foreseenAbove_34 (lv_at hl 0 rfl) ?_
    refine lv_if_ne (tgt := 46) hx hb dX3_foreseenAbove_36 (by decide) (fun c_18 => ?_) (fun c_18 => ?_)
    · exact hJ_17 _ _ _ _ ⟨rfl, ⟨hP, hD⟩, hS, lv_sub hl [0, 1, 2, 3, 4, 5] rfl⟩
    refine lv_iload_n hx hb dX3_foreseenAbove_39 rfl (lv_at hl 5 rfl) ?_
    refine lv_iconst (v := (-1)) hx hb dX3_foreseenAbove_40 (by decide) ?_
    refine lv_icmp_eq (tgt := 46) hx hb dX3_foreseenAbove_41 (by decide) (fun c_19 => ?_) (fun c_19 => ?_)
    · exact hJ_17 _ _ _ _ ⟨rfl, ⟨hP, hD⟩, hS, lv_sub hl [0, 1, 2, 3, 4, 5] rfl⟩
    refine lv_iconst (v := (-1)) hx hb dX3_foreseenAbove_44 (by decide) ?_
    exact ret_i hx hb hr hlocks rfl (u := ()) trivial (hP.sub [2, 0, 1] rfl) (hK.sub [] rfl) (hD.sub [2, 0, 1] (by decide) rfl) hS (Nat.le_of_ble_eq_true rfl) (Nat.le_of_ble_eq_true rfl) dX3_foreseenAbove_45
set_option maxHeartbeats 4000000 in
set_option maxRecDepth 100000 in
theorem g_foreseenCount (l : Launch) (D : va_G) (sz : Nat) (cI : ClassId) (h0 : Nat) (ca : Nat) (cc : Nat) (kb : Int32) (kf : Int32) (kg : Int32) (kl : Int32) (kx : Int32) (ko : Int32) (kc : Nat → Int32) (kd : Nat → Int32)  : Ci l yX3_foreseenCount wsX3_foreseenCount ({ frames := 5, cells := 0, slots := 0, locals := 111 } : Room) D [.ref h0] [(h0, .inr (2, [.int kb, .ref ca, .ref cc, .int kf, .int kg, .int kl, .int kx, .int ko])), (ca, .inl (cI, 16, .inl kc)), (cc, .inl (cI, 4, .inl kd))] [(cI, .int)] sz (fun (r : Int32) => fun (_ : Unit) => True) (fun (_ : Unit) => [(h0, .inr (2, [.int kb, .ref ca, .ref cc, .int kf, .int kg, .int kl, .int kx, .int ko])), (ca, .inl (cI, 16, .inl kc)), (cc, .inl (cI, 4, .inl kd))]) (fun (_ : Unit) => []) := by
  refine ct_i (cc := cX3_foreseenCount) (maxL := 3) (ret := (some .int)) (by decide) rfl (Nat.le_of_ble_eq_true rfl) ?_
  intro p e s m below meth c A ls H hx hb hr hts hown hml hlocks hin hA hS hP hK hD hNW hl hAe hsz
  have hl : lv_has ls 3 [(0, .ref h0)] := hl
  refine lv_iconst (v := 0) hx hb dX3_foreseenCount_0 (by decide) ?_
  refine lv_istore_n (lv' := [(1, .int 0), (0, .ref h0)]) hx hb dX3_foreseenCount_1 rfl hl (by decide) rfl (fun ls hl => ?_)
  refine lv_aload_n hx hb dX3_foreseenCount_2 rfl (lv_at hl 1 rfl) ?_
  refine lv_iconst (v := (-1)) hx hb dX3_foreseenCount_3 (by decide) ?_
  refine go_i (wr := []) (tysr := [(cI, .int)]) hP hD hS hA hK [0, 1, 2] [] [0] rfl rfl (by decide) (by decide) rfl (va_runV (As := [.int (-1)]) (rest := []) ⟨hx, hb, hml, hown, hts⟩ (g_foreseenAbove l D H.size cI h0 ca cc kb kf kg kl kx ko kc kd (-1) ) (cwV 1 hts gX3_foreseenCount_X3_foreseenAbove rfl rfl rfl (by decide +kernel) ⟨Nat.le_of_ble_eq_true rfl, Nat.le_of_ble_eq_true rfl⟩) (st_preV (ci := 2) (q0 := 0) hP hD hK hNW [0, 1, 2] [0] rfl rfl (by decide) rfl rfl rfl rfl) rfl rfl hl.1 rfl (lv_room (Nat.le_of_ble_eq_true rfl)) dX3_foreseenCount_4 ⟨(Nat.le_of_ble_eq_true rfl), (Nat.le_of_ble_eq_true rfl)⟩) (fun r_1 u H locs hw hP hD hK hS => ?_)
  have hP : va_P D vwCl [(h0, .inr (2, [.int kb, .ref ca, .ref cc, .int kf, .int kg, .int kl, .int kx, .int ko])), (ca, .inl (cI, 16, .inl kc)), (cc, .inl (cI, 4, .inl kd))] H := hP
  have hD : va_D A [(h0, .inr (2, [.int kb, .ref ca, .ref cc, .int kf, .int kg, .int kl, .int kx, .int ko])), (ca, .inl (cI, 16, .inl kc)), (cc, .inl (cI, 4, .inl kd))] := hD
  have hK : va_K D vwCl [(cI, .int)] s := hK
  refine jn_S 32 (fun st9 H locs ls => ∃ (i1_2 : Int32), st9 = [] ∧ (va_P D vwCl [(h0, .inr (2, [.int kb, .ref ca, .ref cc, .int kf, .int kg, .int kl, .int kx, .int ko])), (ca, .inl (cI, 16, .inl kc)), (cc, .inl (cI, 4, .inl kd))] H ∧ va_D A [(h0, .inr (2, [.int kb, .ref ca, .ref cc, .int kf, .int kg, .int kl, .int kx, .int ko])), (ca, .inl (cI, 16, .inl kc)), (cc, .inl (cI, 4, .inl kd))]) ∧ va_S A s.heap H locs ∧ lv_has ls 3 [(1, .int i1_2), (0, .ref h0)]) ?_ ?_
  · intro st9 H locs ls hI
    obtain ⟨i1_2, rfl, ⟨hP, hD⟩, hS, hl⟩ := hI
    refine lv_iload_n hx hb dX3_foreseenCount_32 rfl (lv_at hl 0 rfl) ?_
    exact ret_i hx hb hr hlocks rfl (u := ()) trivial (hP.sub [0, 1, 2] rfl) (hK.sub [] rfl) (hD.sub [0, 1, 2] (by decide) rfl) hS (Nat.le_of_ble_eq_true rfl) (Nat.le_of_ble_eq_true rfl) dX3_foreseenCount_33
  · intro hJ_4
    refine lv_istore_n (lv' := [(2, .int r_1), (1, .int 0), (0, .ref h0)]) hx hb dX3_foreseenCount_7 rfl hl (by decide) rfl (fun ls hl => ?_)
    refine lp_N (fun n9 H locs ls => ∃ (i_5 : Int32), ∃ (i2_6 : Int32), n9 = (16384 - i_5.toInt).toNat ∧ (va_P D vwCl [(h0, .inr (2, [.int kb, .ref ca, .ref cc, .int kf, .int kg, .int kl, .int kx, .int ko])), (ca, .inl (cI, 16, .inl kc)), (cc, .inl (cI, 4, .inl kd))] H ∧ va_D A [(h0, .inr (2, [.int kb, .ref ca, .ref cc, .int kf, .int kg, .int kl, .int kx, .int ko])), (ca, .inl (cI, 16, .inl kc)), (cc, .inl (cI, 4, .inl kd))]) ∧ va_S A s.heap H locs ∧ lv_has ls 3 [(2, .int i2_6), (1, .int i_5), (0, .ref h0)] ∧ (0 ≤ i_5.toInt)) ?_ ⟨0, r_1, rfl, ⟨hP, hD⟩, hS, hl, (by decide)⟩
    intro n9 ih_7 H locs ls hI
    obtain ⟨i_5, i2_6, rfl, ⟨hP, hD⟩, hS, hl, hv_8⟩ := hI
    refine lv_iload_n hx hb dX3_foreseenCount_8 rfl (lv_at hl 0 rfl) ?_
    refine lv_iconst (v := (-1)) hx hb dX3_foreseenCount_9 (by decide) ?_
    refine lv_icmp_eq (tgt := 32) hx hb dX3_foreseenCount_10 (by decide) (fun c_9 => ?_) (fun c_9 => ?_)
    · exact hJ_4 _ _ _ _ ⟨i_5, rfl, ⟨hP, hD⟩, hS, lv_sub hl [1, 2] rfl⟩
    refine lv_iload_n hx hb dX3_foreseenCount_13 rfl (lv_at hl 1 rfl) ?_
    refine lv_sipush (v := 16384) hx hb dX3_foreseenCount_14 (by decide) ?_
    refine lv_icmp_ge (tgt := 32) hx hb dX3_foreseenCount_17 (by decide) (fun c_10 => ?_) (fun c_10 => ?_)
    · exact hJ_4 _ _ _ _ ⟨i_5, rfl, ⟨hP, hD⟩, hS, lv_sub hl [1, 2] rfl⟩
    refine lv_iinc (v := i_5 + 1) (lv' := [(1, .int (i_5 + 1)), (2, .int i2_6), (0, .ref h0)]) hx hb dX3_foreseenCount_20 hl (k := 1) rfl rfl (by decide) rfl (fun ls hl => ?_)
    refine lv_aload_n hx hb dX3_foreseenCount_23 rfl (lv_at hl 2 rfl) ?_
    refine lv_iload_n hx hb dX3_foreseenCount_24 rfl (lv_at hl 1 rfl) ?_
    refine go_i (wr := []) (tysr := [(cI, .int)]) hP hD hS hA hK [0, 1, 2] [] [0] rfl rfl (by decide) (by decide) rfl (va_runV (As := [.int i2_6]) (rest := []) ⟨hx, hb, hml, hown, hts⟩ (g_foreseenAbove l D H.size cI h0 ca cc kb kf kg kl kx ko kc kd i2_6 ) (cwV 1 hts gX3_foreseenCount_X3_foreseenAbove rfl rfl rfl (by decide +kernel) ⟨Nat.le_of_ble_eq_true rfl, Nat.le_of_ble_eq_true rfl⟩) (st_preV (ci := 2) (q0 := 0) hP hD hK hNW [0, 1, 2] [0] rfl rfl (by decide) rfl rfl rfl rfl) rfl rfl hl.1 rfl (lv_room (Nat.le_of_ble_eq_true rfl)) dX3_foreseenCount_25 ⟨(Nat.le_of_ble_eq_true rfl), (Nat.le_of_ble_eq_true rfl)⟩) (fun r_11 u H locs hw hP hD hK hS => ?_)
    have hP : va_P D vwCl [(h0, .inr (2, [.int kb, .ref ca, .ref cc, .int kf, .int kg, .int kl, .int kx, .int ko])), (ca, .inl (cI, 16, .inl kc)), (cc, .inl (cI, 4, .inl kd))] H := hP
    have hD : va_D A [(h0, .inr (2, [.int kb, .ref ca, .ref cc, .int kf, .int kg, .int kl, .int kx, .int ko])), (ca, .inl (cI, 16, .inl kc)), (cc, .inl (cI, 4, .inl kd))] := hD
    have hK : va_K D vwCl [(cI, .int)] s := hK
    refine lv_istore_n (lv' := [(2, .int r_11), (1, .int (i_5 + 1)), (0, .ref h0)]) hx hb dX3_foreseenCount_28 rfl hl (by decide) rfl (fun ls hl => ?_)
    refine lv_goto (tgt := 8) hx hb dX3_foreseenCount_29 (by decide) ?_
    exact ih_7 _ _ _ _ (by have : ((-1) : Int32).toInt = -1 := (by decide); have : (16384 : Int32).toInt = 16384 := (by decide); have := ti_ne c_9; have := ti_nle c_10; have kn : (16384 : Int32).toInt = 16384 := (by decide); have u1 := ti_up (i := i_5) (n := 16384) (by omega); omega) ⟨i_5 + 1, r_11, rfl, ⟨hP, hD⟩, hS, lv_sub hl [0, 1, 2] rfl, (by have : ((-1) : Int32).toInt = -1 := (by decide); have : (16384 : Int32).toInt = 16384 := (by decide); have := ti_ne c_9; have := ti_nle c_10; have kn : (16384 : Int32).toInt = 16384 := (by decide); have u1 := ti_up (i := i_5) (n := 16384) (by omega); omega)⟩
set_option maxHeartbeats 4000000 in
set_option maxRecDepth 100000 in
theorem g_foreseenAt (l : Launch) (D : va_G) (sz : Nat) (cI : ClassId) (h0 : Nat) (ca : Nat) (cc : Nat) (kb : Int32) (kf : Int32) (kg : Int32) (kl : Int32) (kx : Int32) (ko : Int32) (kc : Nat → Int32) (kd : Nat → Int32) (v : Int32)  : Ci l yX3_foreseenAt wsX3_foreseenAt ({ frames := 5, cells := 0, slots := 0, locals := 111 } : Room) D [.ref h0, .int v] [(h0, .inr (2, [.int kb, .ref ca, .ref cc, .int kf, .int kg, .int kl, .int kx, .int ko])), (ca, .inl (cI, 16, .inl kc)), (cc, .inl (cI, 4, .inl kd))] [(cI, .int)] sz (fun (r : Int32) => fun (_ : Unit) => True) (fun (_ : Unit) => [(h0, .inr (2, [.int kb, .ref ca, .ref cc, .int kf, .int kg, .int kl, .int kx, .int ko])), (ca, .inl (cI, 16, .inl kc)), (cc, .inl (cI, 4, .inl kd))]) (fun (_ : Unit) => []) := by
  refine ct_i (cc := cX3_foreseenAt) (maxL := 4) (ret := (some .int)) (by decide) rfl (Nat.le_of_ble_eq_true rfl) ?_
  intro p e s m below meth c A ls H hx hb hr hts hown hml hlocks hin hA hS hP hK hD hNW hl hAe hsz
  have hl : lv_has ls 4 [(0, .ref h0), (1, .int v)] := hl
  refine lv_iload_n hx hb dX3_foreseenAt_0 rfl (lv_at hl 1 rfl) ?_
  refine lv_iconst (v := 0) hx hb dX3_foreseenAt_1 (by decide) ?_
  refine lv_sipush (v := 16383) hx hb dX3_foreseenAt_2 (by decide) ?_
  refine go_i (wr := [(h0, .inr (2, [.int kb, .ref ca, .ref cc, .int kf, .int kg, .int kl, .int kx, .int ko])), (ca, .inl (cI, 16, .inl kc)), (cc, .inl (cI, 4, .inl kd))]) (tysr := [(cI, .int)]) hP hD hS hA hK [] [0, 1, 2] [0] rfl rfl (by decide) (by decide) rfl (va_runSN (As := [.int v, .int 0, .int 16383]) (rest := []) ⟨hx, hb, hml, hown, hts⟩ (c_X8_within l D H.size v 0 16383 ) ⟨(va_cnB (own := RX3) (host := RX8) (index := 41) 3 hts gX3_foreseenAt_X8_within_n41 rfl rfl rfl (hNW.2.1 (RX3, 41, yX8_within, RX8) (List.mem_of_getElem? (l := nw_M) (i := 14) rfl)) (hts (.initialized RX8) (List.mem_of_getElem? (i := 2) rfl)) (by decide +kernel) ⟨Nat.le_of_ble_eq_true rfl, Nat.le_of_ble_eq_true rfl⟩), (hts (.static yX8_within) (List.mem_of_getElem? (i := 1) rfl)), trivial⟩ (st_preS hP hD hK hNW [] [] rfl rfl (by decide) rfl) rfl rfl hl.1 rfl (lv_room (Nat.le_of_ble_eq_true rfl)) dX3_foreseenAt_5 ⟨(Nat.le_of_ble_eq_true rfl), (Nat.le_of_ble_eq_true rfl)⟩) (fun r_1 u H locs hw hP hD hK hS => ?_)
  have hw : r_1 = wi v 0 16383 := hw
  subst hw
  have hP : va_P D vwCl [(h0, .inr (2, [.int kb, .ref ca, .ref cc, .int kf, .int kg, .int kl, .int kx, .int ko])), (ca, .inl (cI, 16, .inl kc)), (cc, .inl (cI, 4, .inl kd))] H := hP
  have hD : va_D A [(h0, .inr (2, [.int kb, .ref ca, .ref cc, .int kf, .int kg, .int kl, .int kx, .int ko])), (ca, .inl (cI, 16, .inl kc)), (cc, .inl (cI, 4, .inl kd))] := hD
  have hK : va_K D vwCl [(cI, .int)] s := hK
  refine lv_if_ne (tgt := 13) hx hb dX3_foreseenAt_8 (by decide) (fun c_2 => ?_) (fun c_2 => ?_)
  · refine lv_aload_n hx hb dX3_foreseenAt_13 rfl (lv_at hl 0 rfl) ?_
    refine lv_iconst (v := (-1)) hx hb dX3_foreseenAt_14 (by decide) ?_
    refine go_i (wr := []) (tysr := [(cI, .int)]) hP hD hS hA hK [0, 1, 2] [] [0] rfl rfl (by decide) (by decide) rfl (va_runV (As := [.int (-1)]) (rest := []) ⟨hx, hb, hml, hown, hts⟩ (g_foreseenAbove l D H.size cI h0 ca cc kb kf kg kl kx ko kc kd (-1) ) (cwV 1 hts gX3_foreseenAt_X3_foreseenAbove rfl rfl rfl (by decide +kernel) ⟨Nat.le_of_ble_eq_true rfl, Nat.le_of_ble_eq_true rfl⟩) (st_preV (ci := 2) (q0 := 0) hP hD hK hNW [0, 1, 2] [0] rfl rfl (by decide) rfl rfl rfl rfl) rfl rfl hl.1 rfl (lv_room (Nat.le_of_ble_eq_true rfl)) dX3_foreseenAt_15 ⟨(Nat.le_of_ble_eq_true rfl), (Nat.le_of_ble_eq_true rfl)⟩) (fun r_3 u H locs hw hP hD hK hS => ?_)
    have hP : va_P D vwCl [(h0, .inr (2, [.int kb, .ref ca, .ref cc, .int kf, .int kg, .int kl, .int kx, .int ko])), (ca, .inl (cI, 16, .inl kc)), (cc, .inl (cI, 4, .inl kd))] H := hP
    have hD : va_D A [(h0, .inr (2, [.int kb, .ref ca, .ref cc, .int kf, .int kg, .int kl, .int kx, .int ko])), (ca, .inl (cI, 16, .inl kc)), (cc, .inl (cI, 4, .inl kd))] := hD
    have hK : va_K D vwCl [(cI, .int)] s := hK
    refine lv_istore_n (lv' := [(2, .int r_3), (0, .ref h0), (1, .int v)]) hx hb dX3_foreseenAt_18 rfl hl (by decide) rfl (fun ls hl => ?_)
    refine lv_iconst (v := 0) hx hb dX3_foreseenAt_19 (by decide) ?_
    refine jn_S 43 (fun st9 H locs ls => ∃ (i2_4 : Int32), st9 = [] ∧ (va_P D vwCl [(h0, .inr (2, [.int kb, .ref ca, .ref cc, .int kf, .int kg, .int kl, .int kx, .int ko])), (ca, .inl (cI, 16, .inl kc)), (cc, .inl (cI, 4, .inl kd))] H ∧ va_D A [(h0, .inr (2, [.int kb, .ref ca, .ref cc, .int kf, .int kg, .int kl, .int kx, .int ko])), (ca, .inl (cI, 16, .inl kc)), (cc, .inl (cI, 4, .inl kd))]) ∧ va_S A s.heap H locs ∧ lv_has ls 4 [(2, .int i2_4), (0, .ref h0), (1, .int v)]) ?_ ?_
    · intro st9 H locs ls hI
      obtain ⟨i2_4, rfl, ⟨hP, hD⟩, hS, hl⟩ := hI
      refine lv_iload_n hx hb dX3_foreseenAt_43 rfl (lv_at hl 0 rfl) ?_
      exact ret_i hx hb hr hlocks rfl (u := ()) trivial (hP.sub [0, 1, 2] rfl) (hK.sub [] rfl) (hD.sub [0, 1, 2] (by decide) rfl) hS (Nat.le_of_ble_eq_true rfl) (Nat.le_of_ble_eq_true rfl) dX3_foreseenAt_44
    · intro hJ_6
      refine lv_istore_n (lv' := [(3, .int 0), (2, .int r_3), (0, .ref h0), (1, .int v)]) hx hb dX3_foreseenAt_20 rfl hl (by decide) rfl (fun ls hl => ?_)
      refine lp_N (fun n9 H locs ls => ∃ (i2_7 : Int32), ∃ (i_8 : Int32), n9 = (v.toInt - i_8.toInt).toNat ∧ (va_P D vwCl [(h0, .inr (2, [.int kb, .ref ca, .ref cc, .int kf, .int kg, .int kl, .int kx, .int ko])), (ca, .inl (cI, 16, .inl kc)), (cc, .inl (cI, 4, .inl kd))] H ∧ va_D A [(h0, .inr (2, [.int kb, .ref ca, .ref cc, .int kf, .int kg, .int kl, .int kx, .int ko])), (ca, .inl (cI, 16, .inl kc)), (cc, .inl (cI, 4, .inl kd))]) ∧ va_S A s.heap H locs ∧ lv_has ls 4 [(3, .int i_8), (2, .int i2_7), (0, .ref h0), (1, .int v)] ∧ (0 ≤ i_8.toInt)) ?_ ⟨r_3, 0, rfl, ⟨hP, hD⟩, hS, hl, (by decide)⟩
      intro n9 ih_9 H locs ls hI
      obtain ⟨i2_7, i_8, rfl, ⟨hP, hD⟩, hS, hl, hv_10⟩ := hI
      refine lv_iload_n hx hb dX3_foreseenAt_21 rfl (lv_at hl 0 rfl) ?_
      refine lv_iload_n hx hb dX3_foreseenAt_22 rfl (lv_at hl 3 rfl) ?_
      refine lv_icmp_ge (tgt := 43) hx hb dX3_foreseenAt_23 (by decide) (fun c_11 => ?_) (fun c_11 => ?_)
      · exact hJ_6 _ _ _ _ ⟨i2_7, rfl, ⟨hP, hD⟩, hS, lv_sub hl [1, 2, 3] rfl⟩
      refine lv_iload_n hx hb dX3_foreseenAt_26 rfl (lv_at hl 1 rfl) ?_
      refine lv_iconst (v := (-1)) hx hb dX3_foreseenAt_27 (by decide) ?_
      refine lv_icmp_eq (tgt := 43) hx hb dX3_foreseenAt_28 (by decide) (fun c_12 => ?_) (fun c_12 => ?_)
      · exact hJ_6 _ _ _ _ ⟨i2_7, rfl, ⟨hP, hD⟩, hS, lv_sub hl [1, 2, 3] rfl⟩
      refine lv_aload_n hx hb dX3_foreseenAt_31 rfl (lv_at hl 2 rfl) ?_
      refine lv_iload_n hx hb dX3_foreseenAt_32 rfl (lv_at hl 1 rfl) ?_
      refine go_i (wr := []) (tysr := [(cI, .int)]) hP hD hS hA hK [0, 1, 2] [] [0] rfl rfl (by decide) (by decide) rfl (va_runV (As := [.int i2_7]) (rest := []) ⟨hx, hb, hml, hown, hts⟩ (g_foreseenAbove l D H.size cI h0 ca cc kb kf kg kl kx ko kc kd i2_7 ) (cwV 1 hts gX3_foreseenAt_X3_foreseenAbove rfl rfl rfl (by decide +kernel) ⟨Nat.le_of_ble_eq_true rfl, Nat.le_of_ble_eq_true rfl⟩) (st_preV (ci := 2) (q0 := 0) hP hD hK hNW [0, 1, 2] [0] rfl rfl (by decide) rfl rfl rfl rfl) rfl rfl hl.1 rfl (lv_room (Nat.le_of_ble_eq_true rfl)) dX3_foreseenAt_33 ⟨(Nat.le_of_ble_eq_true rfl), (Nat.le_of_ble_eq_true rfl)⟩) (fun r_13 u H locs hw hP hD hK hS => ?_)
      have hP : va_P D vwCl [(h0, .inr (2, [.int kb, .ref ca, .ref cc, .int kf, .int kg, .int kl, .int kx, .int ko])), (ca, .inl (cI, 16, .inl kc)), (cc, .inl (cI, 4, .inl kd))] H := hP
      have hD : va_D A [(h0, .inr (2, [.int kb, .ref ca, .ref cc, .int kf, .int kg, .int kl, .int kx, .int ko])), (ca, .inl (cI, 16, .inl kc)), (cc, .inl (cI, 4, .inl kd))] := hD
      have hK : va_K D vwCl [(cI, .int)] s := hK
      refine lv_istore_n (lv' := [(2, .int r_13), (3, .int i_8), (0, .ref h0), (1, .int v)]) hx hb dX3_foreseenAt_36 rfl hl (by decide) rfl (fun ls hl => ?_)
      refine lv_iinc (v := i_8 + 1) (lv' := [(3, .int (i_8 + 1)), (2, .int r_13), (0, .ref h0), (1, .int v)]) hx hb dX3_foreseenAt_37 hl (k := 1) rfl rfl (by decide) rfl (fun ls hl => ?_)
      refine lv_goto (tgt := 21) hx hb dX3_foreseenAt_40 (by decide) ?_
      exact ih_9 _ _ _ _ (by have : ((-1) : Int32).toInt = -1 := (by decide); have : (0 : Int32).toInt = 0 := (by decide); have : (16383 : Int32).toInt = 16383 := (by decide); have := ti_wi1 c_2; have := ti_nle c_11; have := ti_ne c_12; have u1 := ti_up (i := i_8) (n := v) (by omega); omega) ⟨r_13, i_8 + 1, rfl, ⟨hP, hD⟩, hS, lv_sub hl [0, 1, 2, 3] rfl, (by have : ((-1) : Int32).toInt = -1 := (by decide); have : (0 : Int32).toInt = 0 := (by decide); have : (16383 : Int32).toInt = 16383 := (by decide); have := ti_wi1 c_2; have := ti_nle c_11; have := ti_ne c_12; have u1 := ti_up (i := i_8) (n := v) (by omega); omega)⟩
  refine lv_iconst (v := (-1)) hx hb dX3_foreseenAt_11 (by decide) ?_
  exact ret_i hx hb hr hlocks rfl (u := ()) trivial (hP.sub [0, 1, 2] rfl) (hK.sub [] rfl) (hD.sub [0, 1, 2] (by decide) rfl) hS (Nat.le_of_ble_eq_true rfl) (Nat.le_of_ble_eq_true rfl) dX3_foreseenAt_12
set_option maxHeartbeats 4000000 in
set_option maxRecDepth 100000 in
theorem g_leastSame (l : Launch) (D : va_G) (sz : Nat) (cI : ClassId) (h0 : Nat) (ca : Nat) (cc : Nat) (kb : Int32) (kf : Int32) (kg : Int32) (kl : Int32) (kx : Int32) (ko : Int32) (kc : Nat → Int32) (kd : Nat → Int32)  : Ci l yX3_leastForeseenWith wsX3_leastForeseenWith ({ frames := 5, cells := 0, slots := 0, locals := 111 } : Room) D [.ref h0, .ref h0] [(h0, .inr (2, [.int kb, .ref ca, .ref cc, .int kf, .int kg, .int kl, .int kx, .int ko])), (ca, .inl (cI, 16, .inl kc)), (cc, .inl (cI, 4, .inl kd))] [(cI, .int)] sz (fun (r : Int32) => fun (_ : Unit) => True) (fun (_ : Unit) => [(h0, .inr (2, [.int kb, .ref ca, .ref cc, .int kf, .int kg, .int kl, .int kx, .int ko])), (ca, .inl (cI, 16, .inl kc)), (cc, .inl (cI, 4, .inl kd))]) (fun (_ : Unit) => []) := by
  refine ct_i (cc := cX3_leastForeseenWith) (maxL := 4) (ret := (some .int)) (by decide) rfl (Nat.le_of_ble_eq_true rfl) ?_
  intro p e s m below meth c A ls H hx hb hr hts hown hml hlocks hin hA hS hP hK hD hNW hl hAe hsz
  have hl : lv_has ls 4 [(0, .ref h0), (1, .ref h0)] := hl
  refine lv_aload_n hx hb dX3_leastForeseenWith_0 rfl (lv_at hl 0 rfl) ?_
  refine lv_iconst (v := (-1)) hx hb dX3_leastForeseenWith_1 (by decide) ?_
  refine go_i (wr := []) (tysr := [(cI, .int)]) hP hD hS hA hK [0, 1, 2] [] [0] rfl rfl (by decide) (by decide) rfl (va_runV (As := [.int (-1)]) (rest := []) ⟨hx, hb, hml, hown, hts⟩ (g_foreseenAbove l D H.size cI h0 ca cc kb kf kg kl kx ko kc kd (-1) ) (cwV 1 hts gX3_leastForeseenWith_X3_foreseenAbove rfl rfl rfl (by decide +kernel) ⟨Nat.le_of_ble_eq_true rfl, Nat.le_of_ble_eq_true rfl⟩) (st_preV (ci := 2) (q0 := 0) hP hD hK hNW [0, 1, 2] [0] rfl rfl (by decide) rfl rfl rfl rfl) rfl rfl hl.1 rfl (lv_room (Nat.le_of_ble_eq_true rfl)) dX3_leastForeseenWith_2 ⟨(Nat.le_of_ble_eq_true rfl), (Nat.le_of_ble_eq_true rfl)⟩) (fun r_1 u H locs hw hP hD hK hS => ?_)
  have hP : va_P D vwCl [(h0, .inr (2, [.int kb, .ref ca, .ref cc, .int kf, .int kg, .int kl, .int kx, .int ko])), (ca, .inl (cI, 16, .inl kc)), (cc, .inl (cI, 4, .inl kd))] H := hP
  have hD : va_D A [(h0, .inr (2, [.int kb, .ref ca, .ref cc, .int kf, .int kg, .int kl, .int kx, .int ko])), (ca, .inl (cI, 16, .inl kc)), (cc, .inl (cI, 4, .inl kd))] := hD
  have hK : va_K D vwCl [(cI, .int)] s := hK
  refine lv_istore_n (lv' := [(2, .int r_1), (0, .ref h0), (1, .ref h0)]) hx hb dX3_leastForeseenWith_5 rfl hl (by decide) rfl (fun ls hl => ?_)
  refine lv_iconst (v := 0) hx hb dX3_leastForeseenWith_6 (by decide) ?_
  refine jn_S 42 (fun st9 H locs ls => ∃ (i2_2 : Int32), st9 = [] ∧ (va_P D vwCl [(h0, .inr (2, [.int kb, .ref ca, .ref cc, .int kf, .int kg, .int kl, .int kx, .int ko])), (ca, .inl (cI, 16, .inl kc)), (cc, .inl (cI, 4, .inl kd))] H ∧ va_D A [(h0, .inr (2, [.int kb, .ref ca, .ref cc, .int kf, .int kg, .int kl, .int kx, .int ko])), (ca, .inl (cI, 16, .inl kc)), (cc, .inl (cI, 4, .inl kd))]) ∧ va_S A s.heap H locs ∧ lv_has ls 4 [(2, .int i2_2), (0, .ref h0), (1, .ref h0)]) ?_ ?_
  · intro st9 H locs ls hI
    obtain ⟨i2_2, rfl, ⟨hP, hD⟩, hS, hl⟩ := hI
    refine lv_bipush (v := (-2)) hx hb dX3_leastForeseenWith_42 (by decide) ?_
    exact ret_i hx hb hr hlocks rfl (u := ()) trivial (hP.sub [0, 1, 2] rfl) (hK.sub [] rfl) (hD.sub [0, 1, 2] (by decide) rfl) hS (Nat.le_of_ble_eq_true rfl) (Nat.le_of_ble_eq_true rfl) dX3_leastForeseenWith_44
  · intro hJ_4
    refine lv_istore_n (lv' := [(3, .int 0), (2, .int r_1), (0, .ref h0), (1, .ref h0)]) hx hb dX3_leastForeseenWith_7 rfl hl (by decide) rfl (fun ls hl => ?_)
    refine lp_N (fun n9 H locs ls => ∃ (i2_5 : Int32), ∃ (i_6 : Int32), n9 = (16384 - i_6.toInt).toNat ∧ (va_P D vwCl [(h0, .inr (2, [.int kb, .ref ca, .ref cc, .int kf, .int kg, .int kl, .int kx, .int ko])), (ca, .inl (cI, 16, .inl kc)), (cc, .inl (cI, 4, .inl kd))] H ∧ va_D A [(h0, .inr (2, [.int kb, .ref ca, .ref cc, .int kf, .int kg, .int kl, .int kx, .int ko])), (ca, .inl (cI, 16, .inl kc)), (cc, .inl (cI, 4, .inl kd))]) ∧ va_S A s.heap H locs ∧ lv_has ls 4 [(3, .int i_6), (2, .int i2_5), (0, .ref h0), (1, .ref h0)] ∧ (0 ≤ i_6.toInt)) ?_ ⟨r_1, 0, rfl, ⟨hP, hD⟩, hS, hl, (by decide)⟩
    intro n9 ih_7 H locs ls hI
    obtain ⟨i2_5, i_6, rfl, ⟨hP, hD⟩, hS, hl, hv_8⟩ := hI
    refine lv_iload_n hx hb dX3_leastForeseenWith_8 rfl (lv_at hl 0 rfl) ?_
    refine lv_sipush (v := 16384) hx hb dX3_leastForeseenWith_9 (by decide) ?_
    refine lv_icmp_ge (tgt := 42) hx hb dX3_leastForeseenWith_12 (by decide) (fun c_9 => ?_) (fun c_9 => ?_)
    · exact hJ_4 _ _ _ _ ⟨i2_5, rfl, ⟨hP, hD⟩, hS, lv_sub hl [1, 2, 3] rfl⟩
    refine lv_iload_n hx hb dX3_leastForeseenWith_15 rfl (lv_at hl 1 rfl) ?_
    refine lv_iconst (v := (-1)) hx hb dX3_leastForeseenWith_16 (by decide) ?_
    refine lv_icmp_eq (tgt := 42) hx hb dX3_leastForeseenWith_17 (by decide) (fun c_10 => ?_) (fun c_10 => ?_)
    · exact hJ_4 _ _ _ _ ⟨i2_5, rfl, ⟨hP, hD⟩, hS, lv_sub hl [1, 2, 3] rfl⟩
    refine lv_aload_n hx hb dX3_leastForeseenWith_20 rfl (lv_at hl 3 rfl) ?_
    refine lv_iload_n hx hb dX3_leastForeseenWith_21 rfl (lv_at hl 1 rfl) ?_
    refine go_i (wr := []) (tysr := [(cI, .int)]) hP hD hS hA hK [0, 1, 2] [] [0] rfl rfl (by decide) (by decide) rfl (va_runV (As := [.int i2_5]) (rest := []) ⟨hx, hb, hml, hown, hts⟩ (g_foresees l D H.size cI h0 ca cc kb kf kg kl kx ko kc kd i2_5 ) (cwV 1 hts gX3_leastForeseenWith_X3_foresees rfl rfl rfl (by decide +kernel) ⟨Nat.le_of_ble_eq_true rfl, Nat.le_of_ble_eq_true rfl⟩) (st_preV (ci := 2) (q0 := 0) hP hD hK hNW [0, 1, 2] [0] rfl rfl (by decide) rfl rfl rfl rfl) rfl rfl hl.1 rfl (lv_room (Nat.le_of_ble_eq_true rfl)) dX3_leastForeseenWith_22 ⟨(Nat.le_of_ble_eq_true rfl), (Nat.le_of_ble_eq_true rfl)⟩) (fun r_11 u H locs hw hP hD hK hS => ?_)
    have hP : va_P D vwCl [(h0, .inr (2, [.int kb, .ref ca, .ref cc, .int kf, .int kg, .int kl, .int kx, .int ko])), (ca, .inl (cI, 16, .inl kc)), (cc, .inl (cI, 4, .inl kd))] H := hP
    have hD : va_D A [(h0, .inr (2, [.int kb, .ref ca, .ref cc, .int kf, .int kg, .int kl, .int kx, .int ko])), (ca, .inl (cI, 16, .inl kc)), (cc, .inl (cI, 4, .inl kd))] := hD
    have hK : va_K D vwCl [(cI, .int)] s := hK
    refine lv_if_eq (tgt := 30) hx hb dX3_leastForeseenWith_25 (by decide) (fun c_12 => ?_) (fun c_12 => ?_)
    · refine lv_aload_n hx hb dX3_leastForeseenWith_30 rfl (lv_at hl 2 rfl) ?_
      refine lv_iload_n hx hb dX3_leastForeseenWith_31 rfl (lv_at hl 1 rfl) ?_
      refine go_i (wr := []) (tysr := [(cI, .int)]) hP hD hS hA hK [0, 1, 2] [] [0] rfl rfl (by decide) (by decide) rfl (va_runV (As := [.int i2_5]) (rest := []) ⟨hx, hb, hml, hown, hts⟩ (g_foreseenAbove l D H.size cI h0 ca cc kb kf kg kl kx ko kc kd i2_5 ) (cwV 1 hts gX3_leastForeseenWith_X3_foreseenAbove rfl rfl rfl (by decide +kernel) ⟨Nat.le_of_ble_eq_true rfl, Nat.le_of_ble_eq_true rfl⟩) (st_preV (ci := 2) (q0 := 0) hP hD hK hNW [0, 1, 2] [0] rfl rfl (by decide) rfl rfl rfl rfl) rfl rfl hl.1 rfl (lv_room (Nat.le_of_ble_eq_true rfl)) dX3_leastForeseenWith_32 ⟨(Nat.le_of_ble_eq_true rfl), (Nat.le_of_ble_eq_true rfl)⟩) (fun r_13 u H locs hw hP hD hK hS => ?_)
      have hP : va_P D vwCl [(h0, .inr (2, [.int kb, .ref ca, .ref cc, .int kf, .int kg, .int kl, .int kx, .int ko])), (ca, .inl (cI, 16, .inl kc)), (cc, .inl (cI, 4, .inl kd))] H := hP
      have hD : va_D A [(h0, .inr (2, [.int kb, .ref ca, .ref cc, .int kf, .int kg, .int kl, .int kx, .int ko])), (ca, .inl (cI, 16, .inl kc)), (cc, .inl (cI, 4, .inl kd))] := hD
      have hK : va_K D vwCl [(cI, .int)] s := hK
      refine lv_istore_n (lv' := [(2, .int r_13), (3, .int i_6), (0, .ref h0), (1, .ref h0)]) hx hb dX3_leastForeseenWith_35 rfl hl (by decide) rfl (fun ls hl => ?_)
      refine lv_iinc (v := i_6 + 1) (lv' := [(3, .int (i_6 + 1)), (2, .int r_13), (0, .ref h0), (1, .ref h0)]) hx hb dX3_leastForeseenWith_36 hl (k := 1) rfl rfl (by decide) rfl (fun ls hl => ?_)
      refine lv_goto (tgt := 8) hx hb dX3_leastForeseenWith_39 (by decide) ?_
      exact ih_7 _ _ _ _ (by have : ((-1) : Int32).toInt = -1 := (by decide); have : (0 : Int32).toInt = 0 := (by decide); have : (16384 : Int32).toInt = 16384 := (by decide); have := ti_nle c_9; have := ti_ne c_10; have := ti_eq c_12; have kn : (16384 : Int32).toInt = 16384 := (by decide); have u1 := ti_up (i := i_6) (n := 16384) (by omega); omega) ⟨r_13, i_6 + 1, rfl, ⟨hP, hD⟩, hS, lv_sub hl [0, 1, 2, 3] rfl, (by have : ((-1) : Int32).toInt = -1 := (by decide); have : (0 : Int32).toInt = 0 := (by decide); have : (16384 : Int32).toInt = 16384 := (by decide); have := ti_nle c_9; have := ti_ne c_10; have := ti_eq c_12; have kn : (16384 : Int32).toInt = 16384 := (by decide); have u1 := ti_up (i := i_6) (n := 16384) (by omega); omega)⟩
    refine lv_iload_n hx hb dX3_leastForeseenWith_28 rfl (lv_at hl 1 rfl) ?_
    exact ret_i hx hb hr hlocks rfl (u := ()) trivial (hP.sub [0, 1, 2] rfl) (hK.sub [] rfl) (hD.sub [0, 1, 2] (by decide) rfl) hS (Nat.le_of_ble_eq_true rfl) (Nat.le_of_ble_eq_true rfl) dX3_leastForeseenWith_29
set_option maxHeartbeats 4000000 in
set_option maxRecDepth 100000 in
theorem g_leastOther (l : Launch) (D : va_G) (sz : Nat) (cI : ClassId) (h0 : Nat) (ca : Nat) (cc : Nat) (kb : Int32) (kf : Int32) (kg : Int32) (kl : Int32) (kx : Int32) (ko : Int32) (kc : Nat → Int32) (kd : Nat → Int32) (h1 : Nat) (cay : Nat) (ccy : Nat) (kby : Int32) (kfy : Int32) (kgy : Int32) (kly : Int32) (kxy : Int32) (koy : Int32) (kcy : Nat → Int32) (kdy : Nat → Int32)  : Ci l yX3_leastForeseenWith wsX3_leastForeseenWith ({ frames := 5, cells := 0, slots := 0, locals := 111 } : Room) D [.ref h0, .ref h1] [(h0, .inr (2, [.int kb, .ref ca, .ref cc, .int kf, .int kg, .int kl, .int kx, .int ko])), (ca, .inl (cI, 16, .inl kc)), (cc, .inl (cI, 4, .inl kd)), (h1, .inr (2, [.int kby, .ref cay, .ref ccy, .int kfy, .int kgy, .int kly, .int kxy, .int koy])), (cay, .inl (cI, 16, .inl kcy)), (ccy, .inl (cI, 4, .inl kdy))] [(cI, .int)] sz (fun (r : Int32) => fun (_ : Unit) => True) (fun (_ : Unit) => [(h0, .inr (2, [.int kb, .ref ca, .ref cc, .int kf, .int kg, .int kl, .int kx, .int ko])), (ca, .inl (cI, 16, .inl kc)), (cc, .inl (cI, 4, .inl kd)), (h1, .inr (2, [.int kby, .ref cay, .ref ccy, .int kfy, .int kgy, .int kly, .int kxy, .int koy])), (cay, .inl (cI, 16, .inl kcy)), (ccy, .inl (cI, 4, .inl kdy))]) (fun (_ : Unit) => []) := by
  refine ct_i (cc := cX3_leastForeseenWith) (maxL := 4) (ret := (some .int)) (by decide) rfl (Nat.le_of_ble_eq_true rfl) ?_
  intro p e s m below meth c A ls H hx hb hr hts hown hml hlocks hin hA hS hP hK hD hNW hl hAe hsz
  have hl : lv_has ls 4 [(0, .ref h0), (1, .ref h1)] := hl
  refine lv_aload_n hx hb dX3_leastForeseenWith_0 rfl (lv_at hl 0 rfl) ?_
  refine lv_iconst (v := (-1)) hx hb dX3_leastForeseenWith_1 (by decide) ?_
  refine go_i (wr := [(h1, .inr (2, [.int kby, .ref cay, .ref ccy, .int kfy, .int kgy, .int kly, .int kxy, .int koy])), (cay, .inl (cI, 16, .inl kcy)), (ccy, .inl (cI, 4, .inl kdy))]) (tysr := [(cI, .int)]) hP hD hS hA hK [0, 1, 2] [3, 4, 5] [0] rfl rfl (by decide) (by decide) rfl (va_runV (As := [.int (-1)]) (rest := []) ⟨hx, hb, hml, hown, hts⟩ (g_foreseenAbove l D H.size cI h0 ca cc kb kf kg kl kx ko kc kd (-1) ) (cwV 1 hts gX3_leastForeseenWith_X3_foreseenAbove rfl rfl rfl (by decide +kernel) ⟨Nat.le_of_ble_eq_true rfl, Nat.le_of_ble_eq_true rfl⟩) (st_preV (ci := 2) (q0 := 0) hP hD hK hNW [0, 1, 2] [0] rfl rfl (by decide) rfl rfl rfl rfl) rfl rfl hl.1 rfl (lv_room (Nat.le_of_ble_eq_true rfl)) dX3_leastForeseenWith_2 ⟨(Nat.le_of_ble_eq_true rfl), (Nat.le_of_ble_eq_true rfl)⟩) (fun r_1 u H locs hw hP hD hK hS => ?_)
  have hP : va_P D vwCl [(h1, .inr (2, [.int kby, .ref cay, .ref ccy, .int kfy, .int kgy, .int kly, .int kxy, .int koy])), (cay, .inl (cI, 16, .inl kcy)), (ccy, .inl (cI, 4, .inl kdy)), (h0, .inr (2, [.int kb, .ref ca, .ref cc, .int kf, .int kg, .int kl, .int kx, .int ko])), (ca, .inl (cI, 16, .inl kc)), (cc, .inl (cI, 4, .inl kd))] H := hP
  have hD : va_D A [(h1, .inr (2, [.int kby, .ref cay, .ref ccy, .int kfy, .int kgy, .int kly, .int kxy, .int koy])), (cay, .inl (cI, 16, .inl kcy)), (ccy, .inl (cI, 4, .inl kdy)), (h0, .inr (2, [.int kb, .ref ca, .ref cc, .int kf, .int kg, .int kl, .int kx, .int ko])), (ca, .inl (cI, 16, .inl kc)), (cc, .inl (cI, 4, .inl kd))] := hD
  have hK : va_K D vwCl [(cI, .int)] s := hK
  refine lv_istore_n (lv' := [(2, .int r_1), (0, .ref h0), (1, .ref h1)]) hx hb dX3_leastForeseenWith_5 rfl hl (by decide) rfl (fun ls hl => ?_)
  refine lv_iconst (v := 0) hx hb dX3_leastForeseenWith_6 (by decide) ?_
  refine jn_S 42 (fun st9 H locs ls => ∃ (i2_2 : Int32), st9 = [] ∧ (va_P D vwCl [(h1, .inr (2, [.int kby, .ref cay, .ref ccy, .int kfy, .int kgy, .int kly, .int kxy, .int koy])), (cay, .inl (cI, 16, .inl kcy)), (ccy, .inl (cI, 4, .inl kdy)), (h0, .inr (2, [.int kb, .ref ca, .ref cc, .int kf, .int kg, .int kl, .int kx, .int ko])), (ca, .inl (cI, 16, .inl kc)), (cc, .inl (cI, 4, .inl kd))] H ∧ va_D A [(h1, .inr (2, [.int kby, .ref cay, .ref ccy, .int kfy, .int kgy, .int kly, .int kxy, .int koy])), (cay, .inl (cI, 16, .inl kcy)), (ccy, .inl (cI, 4, .inl kdy)), (h0, .inr (2, [.int kb, .ref ca, .ref cc, .int kf, .int kg, .int kl, .int kx, .int ko])), (ca, .inl (cI, 16, .inl kc)), (cc, .inl (cI, 4, .inl kd))]) ∧ va_S A s.heap H locs ∧ lv_has ls 4 [(2, .int i2_2), (0, .ref h0), (1, .ref h1)]) ?_ ?_
  · intro st9 H locs ls hI
    obtain ⟨i2_2, rfl, ⟨hP, hD⟩, hS, hl⟩ := hI
    refine lv_bipush (v := (-2)) hx hb dX3_leastForeseenWith_42 (by decide) ?_
    exact ret_i hx hb hr hlocks rfl (u := ()) trivial (hP.sub [3, 4, 5, 0, 1, 2] rfl) (hK.sub [] rfl) (hD.sub [3, 4, 5, 0, 1, 2] (by decide) rfl) hS (Nat.le_of_ble_eq_true rfl) (Nat.le_of_ble_eq_true rfl) dX3_leastForeseenWith_44
  · intro hJ_4
    refine lv_istore_n (lv' := [(3, .int 0), (2, .int r_1), (0, .ref h0), (1, .ref h1)]) hx hb dX3_leastForeseenWith_7 rfl hl (by decide) rfl (fun ls hl => ?_)
    refine lp_N (fun n9 H locs ls => ∃ (i2_5 : Int32), ∃ (i_6 : Int32), n9 = (16384 - i_6.toInt).toNat ∧ (va_P D vwCl [(h1, .inr (2, [.int kby, .ref cay, .ref ccy, .int kfy, .int kgy, .int kly, .int kxy, .int koy])), (cay, .inl (cI, 16, .inl kcy)), (ccy, .inl (cI, 4, .inl kdy)), (h0, .inr (2, [.int kb, .ref ca, .ref cc, .int kf, .int kg, .int kl, .int kx, .int ko])), (ca, .inl (cI, 16, .inl kc)), (cc, .inl (cI, 4, .inl kd))] H ∧ va_D A [(h1, .inr (2, [.int kby, .ref cay, .ref ccy, .int kfy, .int kgy, .int kly, .int kxy, .int koy])), (cay, .inl (cI, 16, .inl kcy)), (ccy, .inl (cI, 4, .inl kdy)), (h0, .inr (2, [.int kb, .ref ca, .ref cc, .int kf, .int kg, .int kl, .int kx, .int ko])), (ca, .inl (cI, 16, .inl kc)), (cc, .inl (cI, 4, .inl kd))]) ∧ va_S A s.heap H locs ∧ lv_has ls 4 [(3, .int i_6), (2, .int i2_5), (0, .ref h0), (1, .ref h1)] ∧ (0 ≤ i_6.toInt)) ?_ ⟨r_1, 0, rfl, ⟨hP, hD⟩, hS, hl, (by decide)⟩
    intro n9 ih_7 H locs ls hI
    obtain ⟨i2_5, i_6, rfl, ⟨hP, hD⟩, hS, hl, hv_8⟩ := hI
    refine lv_iload_n hx hb dX3_leastForeseenWith_8 rfl (lv_at hl 0 rfl) ?_
    refine lv_sipush (v := 16384) hx hb dX3_leastForeseenWith_9 (by decide) ?_
    refine lv_icmp_ge (tgt := 42) hx hb dX3_leastForeseenWith_12 (by decide) (fun c_9 => ?_) (fun c_9 => ?_)
    · exact hJ_4 _ _ _ _ ⟨i2_5, rfl, ⟨hP, hD⟩, hS, lv_sub hl [1, 2, 3] rfl⟩
    refine lv_iload_n hx hb dX3_leastForeseenWith_15 rfl (lv_at hl 1 rfl) ?_
    refine lv_iconst (v := (-1)) hx hb dX3_leastForeseenWith_16 (by decide) ?_
    refine lv_icmp_eq (tgt := 42) hx hb dX3_leastForeseenWith_17 (by decide) (fun c_10 => ?_) (fun c_10 => ?_)
    · exact hJ_4 _ _ _ _ ⟨i2_5, rfl, ⟨hP, hD⟩, hS, lv_sub hl [1, 2, 3] rfl⟩
    refine lv_aload_n hx hb dX3_leastForeseenWith_20 rfl (lv_at hl 3 rfl) ?_
    refine lv_iload_n hx hb dX3_leastForeseenWith_21 rfl (lv_at hl 1 rfl) ?_
    refine go_i (wr := [(h0, .inr (2, [.int kb, .ref ca, .ref cc, .int kf, .int kg, .int kl, .int kx, .int ko])), (ca, .inl (cI, 16, .inl kc)), (cc, .inl (cI, 4, .inl kd))]) (tysr := [(cI, .int)]) hP hD hS hA hK [0, 1, 2] [3, 4, 5] [0] rfl rfl (by decide) (by decide) rfl (va_runV (As := [.int i2_5]) (rest := []) ⟨hx, hb, hml, hown, hts⟩ (g_foresees l D H.size cI h1 cay ccy kby kfy kgy kly kxy koy kcy kdy i2_5 ) (cwV 1 hts gX3_leastForeseenWith_X3_foresees rfl rfl rfl (by decide +kernel) ⟨Nat.le_of_ble_eq_true rfl, Nat.le_of_ble_eq_true rfl⟩) (st_preV (ci := 2) (q0 := 0) hP hD hK hNW [0, 1, 2] [0] rfl rfl (by decide) rfl rfl rfl rfl) rfl rfl hl.1 rfl (lv_room (Nat.le_of_ble_eq_true rfl)) dX3_leastForeseenWith_22 ⟨(Nat.le_of_ble_eq_true rfl), (Nat.le_of_ble_eq_true rfl)⟩) (fun r_11 u H locs hw hP hD hK hS => ?_)
    have hP : va_P D vwCl [(h0, .inr (2, [.int kb, .ref ca, .ref cc, .int kf, .int kg, .int kl, .int kx, .int ko])), (ca, .inl (cI, 16, .inl kc)), (cc, .inl (cI, 4, .inl kd)), (h1, .inr (2, [.int kby, .ref cay, .ref ccy, .int kfy, .int kgy, .int kly, .int kxy, .int koy])), (cay, .inl (cI, 16, .inl kcy)), (ccy, .inl (cI, 4, .inl kdy))] H := hP
    have hD : va_D A [(h0, .inr (2, [.int kb, .ref ca, .ref cc, .int kf, .int kg, .int kl, .int kx, .int ko])), (ca, .inl (cI, 16, .inl kc)), (cc, .inl (cI, 4, .inl kd)), (h1, .inr (2, [.int kby, .ref cay, .ref ccy, .int kfy, .int kgy, .int kly, .int kxy, .int koy])), (cay, .inl (cI, 16, .inl kcy)), (ccy, .inl (cI, 4, .inl kdy))] := hD
    have hK : va_K D vwCl [(cI, .int)] s := hK
    refine lv_if_eq (tgt := 30) hx hb dX3_leastForeseenWith_25 (by decide) (fun c_12 => ?_) (fun c_12 => ?_)
    · refine lv_aload_n hx hb dX3_leastForeseenWith_30 rfl (lv_at hl 2 rfl) ?_
      refine lv_iload_n hx hb dX3_leastForeseenWith_31 rfl (lv_at hl 1 rfl) ?_
      refine go_i (wr := [(h1, .inr (2, [.int kby, .ref cay, .ref ccy, .int kfy, .int kgy, .int kly, .int kxy, .int koy])), (cay, .inl (cI, 16, .inl kcy)), (ccy, .inl (cI, 4, .inl kdy))]) (tysr := [(cI, .int)]) hP hD hS hA hK [0, 1, 2] [3, 4, 5] [0] rfl rfl (by decide) (by decide) rfl (va_runV (As := [.int i2_5]) (rest := []) ⟨hx, hb, hml, hown, hts⟩ (g_foreseenAbove l D H.size cI h0 ca cc kb kf kg kl kx ko kc kd i2_5 ) (cwV 1 hts gX3_leastForeseenWith_X3_foreseenAbove rfl rfl rfl (by decide +kernel) ⟨Nat.le_of_ble_eq_true rfl, Nat.le_of_ble_eq_true rfl⟩) (st_preV (ci := 2) (q0 := 0) hP hD hK hNW [0, 1, 2] [0] rfl rfl (by decide) rfl rfl rfl rfl) rfl rfl hl.1 rfl (lv_room (Nat.le_of_ble_eq_true rfl)) dX3_leastForeseenWith_32 ⟨(Nat.le_of_ble_eq_true rfl), (Nat.le_of_ble_eq_true rfl)⟩) (fun r_13 u H locs hw hP hD hK hS => ?_)
      have hP : va_P D vwCl [(h1, .inr (2, [.int kby, .ref cay, .ref ccy, .int kfy, .int kgy, .int kly, .int kxy, .int koy])), (cay, .inl (cI, 16, .inl kcy)), (ccy, .inl (cI, 4, .inl kdy)), (h0, .inr (2, [.int kb, .ref ca, .ref cc, .int kf, .int kg, .int kl, .int kx, .int ko])), (ca, .inl (cI, 16, .inl kc)), (cc, .inl (cI, 4, .inl kd))] H := hP
      have hD : va_D A [(h1, .inr (2, [.int kby, .ref cay, .ref ccy, .int kfy, .int kgy, .int kly, .int kxy, .int koy])), (cay, .inl (cI, 16, .inl kcy)), (ccy, .inl (cI, 4, .inl kdy)), (h0, .inr (2, [.int kb, .ref ca, .ref cc, .int kf, .int kg, .int kl, .int kx, .int ko])), (ca, .inl (cI, 16, .inl kc)), (cc, .inl (cI, 4, .inl kd))] := hD
      have hK : va_K D vwCl [(cI, .int)] s := hK
      refine lv_istore_n (lv' := [(2, .int r_13), (3, .int i_6), (0, .ref h0), (1, .ref h1)]) hx hb dX3_leastForeseenWith_35 rfl hl (by decide) rfl (fun ls hl => ?_)
      refine lv_iinc (v := i_6 + 1) (lv' := [(3, .int (i_6 + 1)), (2, .int r_13), (0, .ref h0), (1, .ref h1)]) hx hb dX3_leastForeseenWith_36 hl (k := 1) rfl rfl (by decide) rfl (fun ls hl => ?_)
      refine lv_goto (tgt := 8) hx hb dX3_leastForeseenWith_39 (by decide) ?_
      exact ih_7 _ _ _ _ (by have : ((-1) : Int32).toInt = -1 := (by decide); have : (0 : Int32).toInt = 0 := (by decide); have : (16384 : Int32).toInt = 16384 := (by decide); have := ti_nle c_9; have := ti_ne c_10; have := ti_eq c_12; have kn : (16384 : Int32).toInt = 16384 := (by decide); have u1 := ti_up (i := i_6) (n := 16384) (by omega); omega) ⟨r_13, i_6 + 1, rfl, ⟨hP, hD⟩, hS, lv_sub hl [0, 1, 2, 3] rfl, (by have : ((-1) : Int32).toInt = -1 := (by decide); have : (0 : Int32).toInt = 0 := (by decide); have : (16384 : Int32).toInt = 16384 := (by decide); have := ti_nle c_9; have := ti_ne c_10; have := ti_eq c_12; have kn : (16384 : Int32).toInt = 16384 := (by decide); have u1 := ti_up (i := i_6) (n := 16384) (by omega); omega)⟩
    refine lv_iload_n hx hb dX3_leastForeseenWith_28 rfl (lv_at hl 1 rfl) ?_
    exact ret_i hx hb hr hlocks rfl (u := ()) trivial (hP.sub [0, 1, 2, 3, 4, 5] rfl) (hK.sub [] rfl) (hD.sub [0, 1, 2, 3, 4, 5] (by decide) rfl) hS (Nat.le_of_ble_eq_true rfl) (Nat.le_of_ble_eq_true rfl) dX3_leastForeseenWith_29
