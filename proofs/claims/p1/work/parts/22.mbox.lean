set_option maxHeartbeats 4000000 in
set_option maxRecDepth 100000 in
theorem c_X9_isBox (l : Launch) (D : va_G) (sz : Nat) (v : Int32)  : Ci l yX9_isBox wsX9_isBox ({ frames := 1, cells := 0, slots := 0, locals := 22 } : Room) D [.int v] [] [] sz (fun (r : Int32) => fun (_ : Unit) => r = wi v 0 3) (fun (_ : Unit) => []) (fun (_ : Unit) => []) := by
  refine ct_i (cc := cX9_isBox) (maxL := 1) (ret := (some .boolean)) (by decide) rfl (Nat.le_of_ble_eq_true rfl) ?_
  intro p e s m below meth c A ls H hx hb hr hts hown hml hlocks hin hA hS hP hK hD hNW hl hAe hsz
  have hl : lv_has ls 1 [(0, .int v)] := hl
  refine lv_iload_n hx hb dX9_isBox_0 rfl (lv_at hl 0 rfl) ?_
  refine lv_iconst (v := 0) hx hb dX9_isBox_1 (by decide) ?_
  refine lv_iconst (v := 3) hx hb dX9_isBox_2 (by decide) ?_
  refine go_i (wr := []) (tysr := []) hP hD hS hA hK [] [] [] rfl rfl (by decide) (by decide) rfl (va_runS (As := [.int v, .int 0, .int 3]) (rest := []) ⟨hx, hb, hml, hown, hts⟩ (c_X9_in l D H.size v 0 3 ) (va_cwS 3 hts gX9_isBox_X9_in rfl rfl rfl (by decide +kernel) ⟨Nat.le_of_ble_eq_true rfl, Nat.le_of_ble_eq_true rfl⟩) (st_preS hP hD hK hNW [] [] rfl rfl (by decide) rfl) rfl rfl hl.1 rfl (lv_room (Nat.le_of_ble_eq_true rfl)) dX9_isBox_3 ⟨(Nat.le_of_ble_eq_true rfl), (Nat.le_of_ble_eq_true rfl)⟩) (fun r_1 u H locs hw hP hD hK hS => ?_)
  have hw : r_1 = wi v 0 3 := hw
  subst hw
  have hP : va_P D vwCl [] H := hP
  have hD : va_D A [] := hD
  have hK : va_K D vwCl [] s := hK
  exact ret_i hx hb hr hlocks (wi_nar _ _ _) (u := ()) rfl (hP.sub [] rfl) (hK.sub [] rfl) (hD.sub [] (by decide) rfl) hS (Nat.le_of_ble_eq_true rfl) (Nat.le_of_ble_eq_true rfl) dX9_isBox_6
theorem hiX9_isSet_X9 : ∀ w ∈ wsX90, w ∈ wsX9_isSet := mem_pl [6, 7, 8, 9, 10, 11, 12, 13, 14, 15, 16, 17, 18, 19, 20, 21, 22] rfl
set_option maxHeartbeats 4000000 in
set_option maxRecDepth 100000 in
theorem c_X9_isSet (l : Launch) (D : va_G) (sz : Nat) (h0 : Nat) (a0 : Nat) (a2 : Nat) (a4 : Nat) (a5 : Nat) (a6 : Nat) (a7 : Nat) (a8 : Nat) (a9 : Nat) (a14 : Nat) (a15 : Nat) (a16 : Nat) (th : Int32) (k5 : ClassId) (f5 : Nat → Int32) (bq : Int32) (x : Int32) (hB : ¬ wi bq 0 3 = 0) (hs5 : ∀ k, k < 4 → f5 k = 1) : Ci l yX9_isSet wsX9_isSet ({ frames := 1, cells := 0, slots := 0, locals := 22 } : Room) D [.ref h0, .int bq, .int x] [(h0, .inr (8, [.ref a0, .int 0, .ref a2, .int 0, .ref a4, .ref a5, .ref a6, .ref a7, .ref a8, .ref a9, .int 0, .int 0, .int th, .int 0, .ref a14, .ref a15, .ref a16])), (a5, .inl (k5, 4, .inl f5))] [(k5, .int)] sz (fun (r : Int32) => fun (_ : Unit) => r = wi x 1 1) (fun (_ : Unit) => [(h0, .inr (8, [.ref a0, .int 0, .ref a2, .int 0, .ref a4, .ref a5, .ref a6, .ref a7, .ref a8, .ref a9, .int 0, .int 0, .int th, .int 0, .ref a14, .ref a15, .ref a16])), (a5, .inl (k5, 4, .inl f5))]) (fun (_ : Unit) => [(k5, .int)]) := by
  refine ct_i (cc := cX9_isSet) (maxL := 3) (ret := (some .boolean)) (by decide) rfl (Nat.le_of_ble_eq_true rfl) ?_
  intro p e s m below meth c A ls H hx hb hr hts hown hml hlocks hin hA hS hP hK hD hNW hl hAe hsz
  have hl : lv_has ls 3 [(0, .ref h0), (1, .int bq), (2, .int x)] := hl
  refine lv_iload_n hx hb dX9_isSet_0 rfl (lv_at hl 2 rfl) ?_
  refine lv_iconst (v := 1) hx hb dX9_isSet_1 (by decide) ?_
  refine lv_iconst (v := 1) hx hb dX9_isSet_2 (by decide) ?_
  refine lv_aload_n hx hb dX9_isSet_3 rfl (lv_at hl 0 rfl) ?_
  refine va_get (D := D) (ci := 8) (v := .ref a5) (C := RX9) (T := TX9) (N := 17) hx hb hts hiX9_isSet_X9 hown hK hP 0 rfl rfl 5 (by decide) (hts (.fieldLink RX9 19 "OneHandsetModel" "states" "[I") (List.mem_of_getElem? (i := 1) rfl)) (fun _ h9 => h9) rfl dX9_isSet_4 ?_
  refine lv_iload_n hx hb dX9_isSet_7 rfl (lv_at hl 1 rfl) ?_
  refine va_iald hx hb hK hP 1 0 rfl rfl (wi_in hB) dX9_isSet_8 ?_
  refine lv_topi (fun v_1 ev_1 => ?_)
  obtain rfl : v_1 = 1 := ev_1.trans (hs5 _ (wi_lt hB))
  refine lv_ishl hx hb dX9_isSet_9 ?_
  refine lv_topi (fun v_2 ev_2 => ?_)
  obtain rfl : v_2 = (2 : Int32) := ev_2.trans (by decide)
  refine lv_iconst (v := 1) hx hb dX9_isSet_10 (by decide) ?_
  refine lv_isub hx hb dX9_isSet_11 ?_
  refine lv_topi (fun v_3 ev_3 => ?_)
  obtain rfl : v_3 = (1 : Int32) := ev_3.trans (by decide)
  refine go_i (wr := [(h0, .inr (8, [.ref a0, .int 0, .ref a2, .int 0, .ref a4, .ref a5, .ref a6, .ref a7, .ref a8, .ref a9, .int 0, .int 0, .int th, .int 0, .ref a14, .ref a15, .ref a16])), (a5, .inl (k5, 4, .inl f5))]) (tysr := [(k5, .int)]) hP hD hS hA hK [] [0, 1] [0] rfl rfl (by decide) (by decide) rfl (va_runS (As := [.int x, .int 1, .int 1]) (rest := []) ⟨hx, hb, hml, hown, hts⟩ (c_X9_in l D H.size x 1 1 ) (va_cwS 3 hts gX9_isSet_X9_in rfl rfl rfl (by decide +kernel) ⟨Nat.le_of_ble_eq_true rfl, Nat.le_of_ble_eq_true rfl⟩) (st_preS hP hD hK hNW [] [] rfl rfl (by decide) rfl) rfl rfl hl.1 rfl (lv_room (Nat.le_of_ble_eq_true rfl)) dX9_isSet_12 ⟨(Nat.le_of_ble_eq_true rfl), (Nat.le_of_ble_eq_true rfl)⟩) (fun r_4 u H locs hw hP hD hK hS => ?_)
  have hw : r_4 = wi x 1 1 := hw
  subst hw
  have hP : va_P D vwCl [(h0, .inr (8, [.ref a0, .int 0, .ref a2, .int 0, .ref a4, .ref a5, .ref a6, .ref a7, .ref a8, .ref a9, .int 0, .int 0, .int th, .int 0, .ref a14, .ref a15, .ref a16])), (a5, .inl (k5, 4, .inl f5))] H := hP
  have hD : va_D A [(h0, .inr (8, [.ref a0, .int 0, .ref a2, .int 0, .ref a4, .ref a5, .ref a6, .ref a7, .ref a8, .ref a9, .int 0, .int 0, .int th, .int 0, .ref a14, .ref a15, .ref a16])), (a5, .inl (k5, 4, .inl f5))] := hD
  have hK : va_K D vwCl [(k5, .int)] s := hK
  exact ret_i hx hb hr hlocks (wi_nar _ _ _) (u := ()) rfl (hP.sub [0, 1] rfl) (hK.sub [0] rfl) (hD.sub [0, 1] (by decide) rfl) hS (Nat.le_of_ble_eq_true rfl) (Nat.le_of_ble_eq_true rfl) dX9_isSet_15
theorem hiX9_behind_X9 : ∀ w ∈ wsX90, w ∈ wsX9_behind := mem_pl [3, 4, 5, 6, 7, 8, 9, 10, 11, 12, 13, 14, 15, 16, 17, 18, 19] rfl
set_option maxHeartbeats 4000000 in
set_option maxRecDepth 100000 in
theorem c_X9_behind (l : Launch) (D : va_G) (sz : Nat) (h0 : Nat) (a0 : Nat) (a2 : Nat) (a4 : Nat) (a5 : Nat) (a6 : Nat) (a7 : Nat) (a8 : Nat) (a9 : Nat) (a14 : Nat) (a15 : Nat) (a16 : Nat) (th : Int32) (k5 : ClassId) (k7 : ClassId) (f5 : Nat → Int32) (f7 : Nat → Int32) (bq : Int32) (hB : ¬ wi bq 0 3 = 0) (hs5 : ∀ k, k < 4 → f5 k = 1) (hs7 : ∀ k, k < 128 → f7 k = 0) : Ci l yX9_behind wsX9_behind ({ frames := 0, cells := 0, slots := 0, locals := 0 } : Room) D [.ref h0, .int bq, .int 1, .int 0] [(h0, .inr (8, [.ref a0, .int 0, .ref a2, .int 0, .ref a4, .ref a5, .ref a6, .ref a7, .ref a8, .ref a9, .int 0, .int 0, .int th, .int 0, .ref a14, .ref a15, .ref a16])), (a5, .inl (k5, 4, .inl f5)), (a7, .inl (k7, 128, .inl f7))] [(k5, .int), (k7, .int)] sz (fun (r : Int32) => fun (_ : Unit) => r = 1) (fun (_ : Unit) => [(h0, .inr (8, [.ref a0, .int 0, .ref a2, .int 0, .ref a4, .ref a5, .ref a6, .ref a7, .ref a8, .ref a9, .int 0, .int 0, .int th, .int 0, .ref a14, .ref a15, .ref a16])), (a5, .inl (k5, 4, .inl f5)), (a7, .inl (k7, 128, .inl f7))]) (fun (_ : Unit) => [(k5, .int), (k7, .int)]) := by
  refine ct_i (cc := cX9_behind) (maxL := 6) (ret := (some .int)) (by decide) rfl (Nat.le_of_ble_eq_true rfl) ?_
  intro p e s m below meth c A ls H hx hb hr hts hown hml hlocks hin hA hS hP hK hD hNW hl hAe hsz
  have hl : lv_has ls 6 [(0, .ref h0), (1, .int bq), (2, .int 1), (3, .int 0)] := hl
  refine lv_iconst (v := 0) hx hb dX9_behind_0 (by decide) ?_
  refine lv_istore (lv' := [(4, .int 0), (0, .ref h0), (1, .int bq), (2, .int 1), (3, .int 0)]) hx hb dX9_behind_1 hl (by decide) rfl (fun ls hl => ?_)
  refine lv_iconst (v := 0) hx hb dX9_behind_3 (by decide) ?_
  refine lv_istore (lv' := [(5, .int 0), (4, .int 0), (0, .ref h0), (1, .int bq), (2, .int 1), (3, .int 0)]) hx hb dX9_behind_4 hl (by decide) rfl (fun ls hl => ?_)
  refine lv_iload hx hb dX9_behind_6 (lv_at hl 0 rfl) ?_
  refine lv_aload_n hx hb dX9_behind_8 rfl (lv_at hl 2 rfl) ?_
  refine va_get (D := D) (ci := 8) (v := .ref a5) (C := RX9) (T := TX9) (N := 17) hx hb hts hiX9_behind_X9 hown hK hP 0 rfl rfl 5 (by decide) (hts (.fieldLink RX9 19 "OneHandsetModel" "states" "[I") (List.mem_of_getElem? (i := 1) rfl)) (fun _ h9 => h9) rfl dX9_behind_9 ?_
  refine lv_iload_n hx hb dX9_behind_12 rfl (lv_at hl 3 rfl) ?_
  refine va_iald hx hb hK hP 1 0 rfl rfl (wi_in hB) dX9_behind_13 ?_
  refine lv_topi (fun v_1 ev_1 => ?_)
  obtain rfl : v_1 = 1 := ev_1.trans (hs5 _ (wi_lt hB))
  refine lv_icmp_ge (tgt := 56) hx hb dX9_behind_14 (by decide) (fun c_2 => absurd c_2 (by decide)) (fun _ => ?_)
  refine lv_iload_n hx hb dX9_behind_17 rfl (lv_at hl 4 rfl) ?_
  refine lv_iload hx hb dX9_behind_18 (lv_at hl 0 rfl) ?_
  refine lv_ishr hx hb dX9_behind_20 ?_
  refine lv_topi (fun v_3 ev_3 => ?_)
  obtain rfl : v_3 = (1 : Int32) := ev_3.trans (by decide)
  refine lv_iconst (v := 1) hx hb dX9_behind_21 (by decide) ?_
  refine lv_iand hx hb dX9_behind_22 ?_
  refine lv_topi (fun v_4 ev_4 => ?_)
  obtain rfl : v_4 = (1 : Int32) := ev_4.trans (by decide)
  refine lv_iconst (v := 1) hx hb dX9_behind_23 (by decide) ?_
  refine lv_icmp_ne (tgt := 50) hx hb dX9_behind_24 (by decide) (fun c_5 => absurd c_5 (by decide)) (fun _ => ?_)
  refine lv_iload hx hb dX9_behind_27 (lv_at hl 1 rfl) ?_
  refine lv_iconst (v := 1) hx hb dX9_behind_29 (by decide) ?_
  refine lv_aload_n hx hb dX9_behind_30 rfl (lv_at hl 2 rfl) ?_
  refine va_get (D := D) (ci := 8) (v := .ref a7) (C := RX9) (T := TX9) (N := 17) hx hb hts hiX9_behind_X9 hown hK hP 0 rfl rfl 7 (by decide) (hts (.fieldLink RX9 25 "OneHandsetModel" "leads" "[I") (List.mem_of_getElem? (i := 2) rfl)) (fun _ h9 => h9) rfl dX9_behind_31 ?_
  refine lv_bipush (v := 32) hx hb dX9_behind_34 (by decide) ?_
  refine lv_iload_n hx hb dX9_behind_36 rfl (lv_at hl 3 rfl) ?_
  refine lv_imul hx hb dX9_behind_37 ?_
  refine lv_iconst (v := 4) hx hb dX9_behind_38 (by decide) ?_
  refine lv_iload hx hb dX9_behind_39 (lv_at hl 0 rfl) ?_
  refine lv_imul hx hb dX9_behind_41 ?_
  refine lv_topi (fun v_6 ev_6 => ?_)
  obtain rfl : v_6 = (0 : Int32) := ev_6.trans (by decide)
  refine lv_iadd hx hb dX9_behind_42 ?_
  refine lv_iload_n hx hb dX9_behind_43 rfl (lv_at hl 5 rfl) ?_
  refine lv_iadd hx hb dX9_behind_44 ?_
  refine va_iald hx hb hK hP 2 1 rfl rfl (by rcases wi_bx hB with rfl | rfl | rfl | rfl <;> exact vin (by decide)) dX9_behind_45 ?_
  refine lv_topi (fun v_7 ev_7 => ?_)
  obtain rfl : v_7 = 0 := ev_7.trans (hs7 _ (by rcases wi_bx hB with rfl | rfl | rfl | rfl <;> decide))
  refine lv_ishl hx hb dX9_behind_46 ?_
  refine lv_topi (fun v_8 ev_8 => ?_)
  obtain rfl : v_8 = (1 : Int32) := ev_8.trans (by decide)
  refine lv_ior hx hb dX9_behind_47 ?_
  refine lv_topi (fun v_9 ev_9 => ?_)
  obtain rfl : v_9 = (1 : Int32) := ev_9.trans (by decide)
  refine lv_istore (lv' := [(4, .int 1), (5, .int 0), (0, .ref h0), (1, .int bq), (2, .int 1), (3, .int 0)]) hx hb dX9_behind_48 hl (by decide) rfl (fun ls hl => ?_)
  refine lv_iinc (v := 1) (lv' := [(5, .int 1), (4, .int 1), (0, .ref h0), (1, .int bq), (2, .int 1), (3, .int 0)]) hx hb dX9_behind_50 hl (k := 1) rfl (by decide) (by decide) rfl (fun ls hl => ?_)
  refine lv_goto (tgt := 6) hx hb dX9_behind_53 (by decide) ?_
  refine lv_iload hx hb dX9_behind_6 (lv_at hl 0 rfl) ?_
  refine lv_aload_n hx hb dX9_behind_8 rfl (lv_at hl 2 rfl) ?_
  refine va_get (D := D) (ci := 8) (v := .ref a5) (C := RX9) (T := TX9) (N := 17) hx hb hts hiX9_behind_X9 hown hK hP 0 rfl rfl 5 (by decide) (hts (.fieldLink RX9 19 "OneHandsetModel" "states" "[I") (List.mem_of_getElem? (i := 1) rfl)) (fun _ h9 => h9) rfl dX9_behind_9 ?_
  refine lv_iload_n hx hb dX9_behind_12 rfl (lv_at hl 3 rfl) ?_
  refine va_iald hx hb hK hP 1 0 rfl rfl (wi_in hB) dX9_behind_13 ?_
  refine lv_topi (fun v_10 ev_10 => ?_)
  obtain rfl : v_10 = 1 := ev_10.trans (hs5 _ (wi_lt hB))
  refine lv_icmp_ge (tgt := 56) hx hb dX9_behind_14 (by decide) (fun _ => ?_) (fun c_11 => absurd (by decide) c_11)
  refine lv_iload hx hb dX9_behind_56 (lv_at hl 1 rfl) ?_
  exact ret_i hx hb hr hlocks rfl (u := ()) rfl (hP.sub [0, 1, 2] rfl) (hK.sub [0, 1] rfl) (hD.sub [0, 1, 2] (by decide) rfl) hS (Nat.le_of_ble_eq_true rfl) (Nat.le_of_ble_eq_true rfl) dX9_behind_58
theorem hiX9_tell_X9 : ∀ w ∈ wsX90, w ∈ wsX9_tell := mem_pl [6, 7, 8, 9, 10, 11, 12, 13, 14, 15, 16, 17, 18, 19, 20, 21, 22] rfl
set_option maxHeartbeats 4000000 in
set_option maxRecDepth 100000 in
theorem c_X9_tell (l : Launch) (D : va_G) (sz : Nat) (h0 : Nat) (a0 : Nat) (a2 : Nat) (a4 : Nat) (a5 : Nat) (a6 : Nat) (a7 : Nat) (a8 : Nat) (a9 : Nat) (a14 : Nat) (a15 : Nat) (a16 : Nat) (th : Int32) (k8 : ClassId) (f8 : Nat → Int32) (bq : Int32) (hB : ¬ wi bq 0 3 = 0) (hs8 : ∀ k, k < 4 → f8 k = 1) : Ci l yX9_tell wsX9_tell ({ frames := 0, cells := 0, slots := 0, locals := 0 } : Room) D [.ref h0, .int bq, .int 1] [(h0, .inr (8, [.ref a0, .int 0, .ref a2, .int 0, .ref a4, .ref a5, .ref a6, .ref a7, .ref a8, .ref a9, .int 0, .int 0, .int th, .int 0, .ref a14, .ref a15, .ref a16])), (a8, .inl (k8, 4, .inl f8))] [(k8, .int)] sz (fun (r : Int32) => fun (_ : Unit) => r = 0) (fun (_ : Unit) => []) (fun (_ : Unit) => []) := by
  refine ct_i (cc := cX9_tell) (maxL := 5) (ret := (some .int)) (by decide) rfl (Nat.le_of_ble_eq_true rfl) ?_
  intro p e s m below meth c A ls H hx hb hr hts hown hml hlocks hin hA hS hP hK hD hNW hl hAe hsz
  have hl : lv_has ls 5 [(0, .ref h0), (1, .int bq), (2, .int 1)] := hl
  refine lv_iconst (v := 0) hx hb dX9_tell_0 (by decide) ?_
  refine lv_istore_n (lv' := [(3, .int 0), (0, .ref h0), (1, .int bq), (2, .int 1)]) hx hb dX9_tell_1 rfl hl (by decide) rfl (fun ls hl => ?_)
  refine lv_iload_n hx hb dX9_tell_2 rfl (lv_at hl 3 rfl) ?_
  refine lv_istore (lv' := [(4, .int 1), (3, .int 0), (0, .ref h0), (1, .int bq), (2, .int 1)]) hx hb dX9_tell_3 hl (by decide) rfl (fun ls hl => ?_)
  refine lv_iload hx hb dX9_tell_5 (lv_at hl 0 rfl) ?_
  refine lv_aload_n hx hb dX9_tell_7 rfl (lv_at hl 2 rfl) ?_
  refine va_get (D := D) (ci := 8) (v := .ref a8) (C := RX9) (T := TX9) (N := 17) hx hb hts hiX9_tell_X9 hown hK hP 0 rfl rfl 8 (by decide) (hts (.fieldLink RX9 28 "OneHandsetModel" "sets" "[I") (List.mem_of_getElem? (i := 1) rfl)) (fun _ h9 => h9) rfl dX9_tell_8 ?_
  refine lv_iload_n hx hb dX9_tell_11 rfl (lv_at hl 3 rfl) ?_
  refine va_iald hx hb hK hP 1 0 rfl rfl (wi_in hB) dX9_tell_12 ?_
  refine lv_topi (fun v_1 ev_1 => ?_)
  obtain rfl : v_1 = 1 := ev_1.trans (hs8 _ (wi_lt hB))
  refine lv_icmp_eq (tgt := 31) hx hb dX9_tell_13 (by decide) (fun _ => ?_) (fun c_2 => absurd (by decide) c_2)
  refine lv_aload_n hx hb dX9_tell_31 rfl (lv_at hl 2 rfl) ?_
  refine lv_iload_n hx hb dX9_tell_32 rfl (lv_at hl 1 rfl) ?_
  refine va_put (D := D) (ci := 8) (v := .int 0) (ty := .int) (C := RX9) (T := TX9) (N := 17) hx hb hts hiX9_tell_X9 tyX9 tyX9_ok nmX9 hown hK hP hD hS 0 rfl rfl 10 (by decide) (hts (.fieldLink RX9 168 "OneHandsetModel" "wayMany" "I") (List.mem_of_getElem? (i := 3) rfl)) (fun _ h9 => h9) rfl (by decide +kernel) rfl rfl (Nat.le_of_ble_eq_true rfl) dX9_tell_33 (fun H locs hP hD hS => ?_)
  have hP : va_P D vwCl [(h0, .inr (8, [.ref a0, .int 0, .ref a2, .int 0, .ref a4, .ref a5, .ref a6, .ref a7, .ref a8, .ref a9, .int 0, .int 0, .int th, .int 0, .ref a14, .ref a15, .ref a16])), (a8, .inl (k8, 4, .inl f8))] H := hP
  have hD : va_D A [(h0, .inr (8, [.ref a0, .int 0, .ref a2, .int 0, .ref a4, .ref a5, .ref a6, .ref a7, .ref a8, .ref a9, .int 0, .int 0, .int th, .int 0, .ref a14, .ref a15, .ref a16])), (a8, .inl (k8, 4, .inl f8))] := hD
  refine lv_iload_n hx hb dX9_tell_36 rfl (lv_at hl 4 rfl) ?_
  refine lv_istore (lv' := [(4, .int 1), (3, .int 0), (0, .ref h0), (1, .int bq), (2, .int 1)]) hx hb dX9_tell_37 hl (by decide) rfl (fun ls hl => ?_)
  refine lv_iload hx hb dX9_tell_39 (lv_at hl 0 rfl) ?_
  refine lv_aload_n hx hb dX9_tell_41 rfl (lv_at hl 2 rfl) ?_
  refine va_get (D := D) (ci := 8) (v := .ref a8) (C := RX9) (T := TX9) (N := 17) hx hb hts hiX9_tell_X9 hown hK hP 0 rfl rfl 8 (by decide) (hts (.fieldLink RX9 28 "OneHandsetModel" "sets" "[I") (List.mem_of_getElem? (i := 1) rfl)) (fun _ h9 => h9) rfl dX9_tell_42 ?_
  refine lv_iload_n hx hb dX9_tell_45 rfl (lv_at hl 3 rfl) ?_
  refine va_iald hx hb hK hP 1 0 rfl rfl (wi_in hB) dX9_tell_46 ?_
  refine lv_topi (fun v_3 ev_3 => ?_)
  obtain rfl : v_3 = 1 := ev_3.trans (hs8 _ (wi_lt hB))
  refine lv_icmp_eq (tgt := 78) hx hb dX9_tell_47 (by decide) (fun _ => ?_) (fun c_4 => absurd (by decide) c_4)
  refine lv_aload_n hx hb dX9_tell_78 rfl (lv_at hl 2 rfl) ?_
  refine va_get (D := D) (ci := 8) (v := .int 0) (C := RX9) (T := TX9) (N := 17) hx hb hts hiX9_tell_X9 hown hK hP 0 rfl rfl 10 (by decide) (hts (.fieldLink RX9 168 "OneHandsetModel" "wayMany" "I") (List.mem_of_getElem? (i := 3) rfl)) (fun _ h9 => h9) rfl dX9_tell_79 ?_
  exact ret_i hx hb hr hlocks rfl (u := ()) rfl (hP.sub [] rfl) (hK.sub [] rfl) (hD.sub [] (by decide) rfl) hS (Nat.le_of_ble_eq_true rfl) (Nat.le_of_ble_eq_true rfl) dX9_tell_82
theorem hiX9_box_X9 : ∀ w ∈ wsX90, w ∈ wsX9_box := mem_pl [13, 14, 15, 16, 17, 18, 19, 20, 21, 22, 23, 24, 25, 26, 27, 28, 29] rfl
set_option maxHeartbeats 4000000 in
set_option maxRecDepth 100000 in
theorem c_X9_box (l : Launch) (D : va_G) (sz : Nat) (h0 : Nat) (a0 : Nat) (a2 : Nat) (a4 : Nat) (a5 : Nat) (a6 : Nat) (a7 : Nat) (a8 : Nat) (a9 : Nat) (a14 : Nat) (a15 : Nat) (a16 : Nat) (th : Int32) (k5 : ClassId) (k6 : ClassId) (k7 : ClassId) (k8 : ClassId) (f5 : Nat → Int32) (f6 : Nat → Int32) (f7 : Nat → Int32) (f8 : Nat → Int32) (bq : Int32) (k : Int32) (mm : Int32) (hs5 : ∀ k, k < 4 → f5 k = 1) (hs6 : ∀ k, k < 4 → f6 k = 1) (hs7 : ∀ k, k < 128 → f7 k = 0) (hs8 : ∀ k, k < 4 → f8 k = 1) : Ci l yX9_box wsX9_box ({ frames := 2, cells := 0, slots := 0, locals := 42 } : Room) D [.ref h0, .int bq, .int k, .int mm] [(h0, .inr (8, [.ref a0, .int 0, .ref a2, .int 0, .ref a4, .ref a5, .ref a6, .ref a7, .ref a8, .ref a9, .int 0, .int 0, .int th, .int 0, .ref a14, .ref a15, .ref a16])), (a5, .inl (k5, 4, .inl f5)), (a6, .inl (k6, 4, .inl f6)), (a7, .inl (k7, 128, .inl f7)), (a8, .inl (k8, 4, .inl f8))] [(k5, .int), (k6, .int), (k7, .int), (k8, .int)] sz (fun (r : Int32) => fun (_ : Unit) => r = bxS bq k mm) (fun (_ : Unit) => []) (fun (_ : Unit) => []) := by
  refine ct_i (cc := cX9_box) (maxL := 5) (ret := (some .boolean)) (by decide) rfl (Nat.le_of_ble_eq_true rfl) ?_
  intro p e s m below meth c A ls H hx hb hr hts hown hml hlocks hin hA hS hP hK hD hNW hl hAe hsz
  have hl : lv_has ls 5 [(0, .ref h0), (1, .int bq), (2, .int k), (3, .int mm)] := hl
  refine lv_aload_n hx hb dX9_box_0 rfl (lv_at hl 0 rfl) ?_
  refine lv_iconst (v := 0) hx hb dX9_box_1 (by decide) ?_
  refine va_put (D := D) (ci := 8) (v := .int 0) (ty := .int) (C := RX9) (T := TX9) (N := 17) hx hb hts hiX9_box_X9 tyX9 tyX9_ok nmX9 hown hK hP hD hS 0 rfl rfl 12 (by decide) (hts (.fieldLink RX9 43 "OneHandsetModel" "thrown" "I") (List.mem_of_getElem? (i := 1) rfl)) (fun _ h9 => h9) rfl (by decide +kernel) rfl rfl (Nat.le_of_ble_eq_true rfl) dX9_box_2 (fun H locs hP hD hS => ?_)
  have hP : va_P D vwCl [(h0, .inr (8, [.ref a0, .int 0, .ref a2, .int 0, .ref a4, .ref a5, .ref a6, .ref a7, .ref a8, .ref a9, .int 0, .int 0, .int 0, .int 0, .ref a14, .ref a15, .ref a16])), (a5, .inl (k5, 4, .inl f5)), (a6, .inl (k6, 4, .inl f6)), (a7, .inl (k7, 128, .inl f7)), (a8, .inl (k8, 4, .inl f8))] H := hP
  have hD : va_D A [(h0, .inr (8, [.ref a0, .int 0, .ref a2, .int 0, .ref a4, .ref a5, .ref a6, .ref a7, .ref a8, .ref a9, .int 0, .int 0, .int 0, .int 0, .ref a14, .ref a15, .ref a16])), (a5, .inl (k5, 4, .inl f5)), (a6, .inl (k6, 4, .inl f6)), (a7, .inl (k7, 128, .inl f7)), (a8, .inl (k8, 4, .inl f8))] := hD
  refine lv_iload_n hx hb dX9_box_5 rfl (lv_at hl 1 rfl) ?_
  refine go_i (wr := [(h0, .inr (8, [.ref a0, .int 0, .ref a2, .int 0, .ref a4, .ref a5, .ref a6, .ref a7, .ref a8, .ref a9, .int 0, .int 0, .int 0, .int 0, .ref a14, .ref a15, .ref a16])), (a5, .inl (k5, 4, .inl f5)), (a6, .inl (k6, 4, .inl f6)), (a7, .inl (k7, 128, .inl f7)), (a8, .inl (k8, 4, .inl f8))]) (tysr := [(k5, .int), (k6, .int), (k7, .int), (k8, .int)]) hP hD hS hA hK [] [0, 1, 2, 3, 4] [0, 1, 2, 3] rfl rfl (by decide) (by decide) rfl (va_runS (As := [.int bq]) (rest := []) ⟨hx, hb, hml, hown, hts⟩ (c_X9_isBox l D H.size bq ) (va_cwS 1 hts gX9_box_X9_isBox rfl rfl rfl (by decide +kernel) ⟨Nat.le_of_ble_eq_true rfl, Nat.le_of_ble_eq_true rfl⟩) (st_preS hP hD hK hNW [] [] rfl rfl (by decide) rfl) rfl rfl hl.1 rfl (lv_room (Nat.le_of_ble_eq_true rfl)) dX9_box_6 ⟨(Nat.le_of_ble_eq_true rfl), (Nat.le_of_ble_eq_true rfl)⟩) (fun r_1 u H locs hw hP hD hK hS => ?_)
  have hw : r_1 = wi bq 0 3 := hw
  subst hw
  have hP : va_P D vwCl [(h0, .inr (8, [.ref a0, .int 0, .ref a2, .int 0, .ref a4, .ref a5, .ref a6, .ref a7, .ref a8, .ref a9, .int 0, .int 0, .int 0, .int 0, .ref a14, .ref a15, .ref a16])), (a5, .inl (k5, 4, .inl f5)), (a6, .inl (k6, 4, .inl f6)), (a7, .inl (k7, 128, .inl f7)), (a8, .inl (k8, 4, .inl f8))] H := hP
  have hD : va_D A [(h0, .inr (8, [.ref a0, .int 0, .ref a2, .int 0, .ref a4, .ref a5, .ref a6, .ref a7, .ref a8, .ref a9, .int 0, .int 0, .int 0, .int 0, .ref a14, .ref a15, .ref a16])), (a5, .inl (k5, 4, .inl f5)), (a6, .inl (k6, 4, .inl f6)), (a7, .inl (k7, 128, .inl f7)), (a8, .inl (k8, 4, .inl f8))] := hD
  have hK : va_K D vwCl [(k5, .int), (k6, .int), (k7, .int), (k8, .int)] s := hK
  refine lv_if_eq (tgt := 31) hx hb dX9_box_9 (by decide) (fun c_2 => ?_) (fun c_2 => ?_)
  · refine lv_iconst (v := 0) hx hb dX9_box_31 (by decide) ?_
    exact ret_i hx hb hr hlocks rfl (u := ()) (by simp [bxS, c_2]) (hP.sub [] rfl) (hK.sub [] rfl) (hD.sub [] (by decide) rfl) hS (Nat.le_of_ble_eq_true rfl) (Nat.le_of_ble_eq_true rfl) dX9_box_32
  refine lv_iload_n hx hb dX9_box_12 rfl (lv_at hl 2 rfl) ?_
  refine lv_iconst (v := 1) hx hb dX9_box_13 (by decide) ?_
  refine lv_bipush (v := 8) hx hb dX9_box_14 (by decide) ?_
  refine go_i (wr := [(h0, .inr (8, [.ref a0, .int 0, .ref a2, .int 0, .ref a4, .ref a5, .ref a6, .ref a7, .ref a8, .ref a9, .int 0, .int 0, .int 0, .int 0, .ref a14, .ref a15, .ref a16])), (a5, .inl (k5, 4, .inl f5)), (a6, .inl (k6, 4, .inl f6)), (a7, .inl (k7, 128, .inl f7)), (a8, .inl (k8, 4, .inl f8))]) (tysr := [(k5, .int), (k6, .int), (k7, .int), (k8, .int)]) hP hD hS hA hK [] [0, 1, 2, 3, 4] [0, 1, 2, 3] rfl rfl (by decide) (by decide) rfl (va_runS (As := [.int k, .int 1, .int 8]) (rest := []) ⟨hx, hb, hml, hown, hts⟩ (c_X9_in l D H.size k 1 8 ) (va_cwS 3 hts gX9_box_X9_in rfl rfl rfl (by decide +kernel) ⟨Nat.le_of_ble_eq_true rfl, Nat.le_of_ble_eq_true rfl⟩) (st_preS hP hD hK hNW [] [] rfl rfl (by decide) rfl) rfl rfl hl.1 rfl (lv_room (Nat.le_of_ble_eq_true rfl)) dX9_box_16 ⟨(Nat.le_of_ble_eq_true rfl), (Nat.le_of_ble_eq_true rfl)⟩) (fun r_3 u H locs hw hP hD hK hS => ?_)
  have hw : r_3 = wi k 1 8 := hw
  subst hw
  have hP : va_P D vwCl [(h0, .inr (8, [.ref a0, .int 0, .ref a2, .int 0, .ref a4, .ref a5, .ref a6, .ref a7, .ref a8, .ref a9, .int 0, .int 0, .int 0, .int 0, .ref a14, .ref a15, .ref a16])), (a5, .inl (k5, 4, .inl f5)), (a6, .inl (k6, 4, .inl f6)), (a7, .inl (k7, 128, .inl f7)), (a8, .inl (k8, 4, .inl f8))] H := hP
  have hD : va_D A [(h0, .inr (8, [.ref a0, .int 0, .ref a2, .int 0, .ref a4, .ref a5, .ref a6, .ref a7, .ref a8, .ref a9, .int 0, .int 0, .int 0, .int 0, .ref a14, .ref a15, .ref a16])), (a5, .inl (k5, 4, .inl f5)), (a6, .inl (k6, 4, .inl f6)), (a7, .inl (k7, 128, .inl f7)), (a8, .inl (k8, 4, .inl f8))] := hD
  have hK : va_K D vwCl [(k5, .int), (k6, .int), (k7, .int), (k8, .int)] s := hK
  refine lv_if_eq (tgt := 31) hx hb dX9_box_19 (by decide) (fun c_4 => ?_) (fun c_4 => ?_)
  · refine lv_iconst (v := 0) hx hb dX9_box_31 (by decide) ?_
    exact ret_i hx hb hr hlocks rfl (u := ()) (by simp [bxS, c_2, c_4]) (hP.sub [] rfl) (hK.sub [] rfl) (hD.sub [] (by decide) rfl) hS (Nat.le_of_ble_eq_true rfl) (Nat.le_of_ble_eq_true rfl) dX9_box_32
  refine lv_iload_n hx hb dX9_box_22 rfl (lv_at hl 3 rfl) ?_
  refine lv_iconst (v := 1) hx hb dX9_box_23 (by decide) ?_
  refine lv_iconst (v := 4) hx hb dX9_box_24 (by decide) ?_
  refine go_i (wr := [(h0, .inr (8, [.ref a0, .int 0, .ref a2, .int 0, .ref a4, .ref a5, .ref a6, .ref a7, .ref a8, .ref a9, .int 0, .int 0, .int 0, .int 0, .ref a14, .ref a15, .ref a16])), (a5, .inl (k5, 4, .inl f5)), (a6, .inl (k6, 4, .inl f6)), (a7, .inl (k7, 128, .inl f7)), (a8, .inl (k8, 4, .inl f8))]) (tysr := [(k5, .int), (k6, .int), (k7, .int), (k8, .int)]) hP hD hS hA hK [] [0, 1, 2, 3, 4] [0, 1, 2, 3] rfl rfl (by decide) (by decide) rfl (va_runS (As := [.int mm, .int 1, .int 4]) (rest := []) ⟨hx, hb, hml, hown, hts⟩ (c_X9_in l D H.size mm 1 4 ) (va_cwS 3 hts gX9_box_X9_in rfl rfl rfl (by decide +kernel) ⟨Nat.le_of_ble_eq_true rfl, Nat.le_of_ble_eq_true rfl⟩) (st_preS hP hD hK hNW [] [] rfl rfl (by decide) rfl) rfl rfl hl.1 rfl (lv_room (Nat.le_of_ble_eq_true rfl)) dX9_box_25 ⟨(Nat.le_of_ble_eq_true rfl), (Nat.le_of_ble_eq_true rfl)⟩) (fun r_5 u H locs hw hP hD hK hS => ?_)
  have hw : r_5 = wi mm 1 4 := hw
  subst hw
  have hP : va_P D vwCl [(h0, .inr (8, [.ref a0, .int 0, .ref a2, .int 0, .ref a4, .ref a5, .ref a6, .ref a7, .ref a8, .ref a9, .int 0, .int 0, .int 0, .int 0, .ref a14, .ref a15, .ref a16])), (a5, .inl (k5, 4, .inl f5)), (a6, .inl (k6, 4, .inl f6)), (a7, .inl (k7, 128, .inl f7)), (a8, .inl (k8, 4, .inl f8))] H := hP
  have hD : va_D A [(h0, .inr (8, [.ref a0, .int 0, .ref a2, .int 0, .ref a4, .ref a5, .ref a6, .ref a7, .ref a8, .ref a9, .int 0, .int 0, .int 0, .int 0, .ref a14, .ref a15, .ref a16])), (a5, .inl (k5, 4, .inl f5)), (a6, .inl (k6, 4, .inl f6)), (a7, .inl (k7, 128, .inl f7)), (a8, .inl (k8, 4, .inl f8))] := hD
  have hK : va_K D vwCl [(k5, .int), (k6, .int), (k7, .int), (k8, .int)] s := hK
  refine lv_if_ne (tgt := 33) hx hb dX9_box_28 (by decide) (fun c_6 => ?_) (fun c_6 => ?_)
  · refine lv_aload_n hx hb dX9_box_33 rfl (lv_at hl 0 rfl) ?_
    refine va_get (D := D) (ci := 8) (v := .ref a5) (C := RX9) (T := TX9) (N := 17) hx hb hts hiX9_box_X9 hown hK hP 0 rfl rfl 5 (by decide) (hts (.fieldLink RX9 19 "OneHandsetModel" "states" "[I") (List.mem_of_getElem? (i := 2) rfl)) (fun _ h9 => h9) rfl dX9_box_34 ?_
    refine lv_iload_n hx hb dX9_box_37 rfl (lv_at hl 1 rfl) ?_
    refine lv_iload_n hx hb dX9_box_38 rfl (lv_at hl 2 rfl) ?_
    refine va_iast hx hb hK hP hD hS 1 0 rfl rfl (wi_in c_2) dX9_box_39 (fun H locs hP hD hS => ?_)
    obtain ⟨g_7, hP, hD⟩ : ∃ g9 : Nat → Int32, va_P D vwCl [(h0, .inr (8, [.ref a0, .int 0, .ref a2, .int 0, .ref a4, .ref a5, .ref a6, .ref a7, .ref a8, .ref a9, .int 0, .int 0, .int 0, .int 0, .ref a14, .ref a15, .ref a16])), (a5, .inl (k5, 4, .inl g9)), (a6, .inl (k6, 4, .inl f6)), (a7, .inl (k7, 128, .inl f7)), (a8, .inl (k8, 4, .inl f8))] H ∧ va_D A [(h0, .inr (8, [.ref a0, .int 0, .ref a2, .int 0, .ref a4, .ref a5, .ref a6, .ref a7, .ref a8, .ref a9, .int 0, .int 0, .int 0, .int 0, .ref a14, .ref a15, .ref a16])), (a5, .inl (k5, 4, .inl g9)), (a6, .inl (k6, 4, .inl f6)), (a7, .inl (k7, 128, .inl f7)), (a8, .inl (k8, 4, .inl f8))] := ⟨_, hP, hD⟩
    refine lv_aload_n hx hb dX9_box_40 rfl (lv_at hl 0 rfl) ?_
    refine va_get (D := D) (ci := 8) (v := .ref a6) (C := RX9) (T := TX9) (N := 17) hx hb hts hiX9_box_X9 hown hK hP 0 rfl rfl 6 (by decide) (hts (.fieldLink RX9 22 "OneHandsetModel" "buttons" "[I") (List.mem_of_getElem? (i := 3) rfl)) (fun _ h9 => h9) rfl dX9_box_41 ?_
    refine lv_iload_n hx hb dX9_box_44 rfl (lv_at hl 1 rfl) ?_
    refine lv_iload_n hx hb dX9_box_45 rfl (lv_at hl 3 rfl) ?_
    refine va_iast hx hb hK hP hD hS 2 1 rfl rfl (wi_in c_2) dX9_box_46 (fun H locs hP hD hS => ?_)
    obtain ⟨g_8, hP, hD⟩ : ∃ g9 : Nat → Int32, va_P D vwCl [(h0, .inr (8, [.ref a0, .int 0, .ref a2, .int 0, .ref a4, .ref a5, .ref a6, .ref a7, .ref a8, .ref a9, .int 0, .int 0, .int 0, .int 0, .ref a14, .ref a15, .ref a16])), (a5, .inl (k5, 4, .inl g_7)), (a6, .inl (k6, 4, .inl g9)), (a7, .inl (k7, 128, .inl f7)), (a8, .inl (k8, 4, .inl f8))] H ∧ va_D A [(h0, .inr (8, [.ref a0, .int 0, .ref a2, .int 0, .ref a4, .ref a5, .ref a6, .ref a7, .ref a8, .ref a9, .int 0, .int 0, .int 0, .int 0, .ref a14, .ref a15, .ref a16])), (a5, .inl (k5, 4, .inl g_7)), (a6, .inl (k6, 4, .inl g9)), (a7, .inl (k7, 128, .inl f7)), (a8, .inl (k8, 4, .inl f8))] := ⟨_, hP, hD⟩
    refine lv_iconst (v := 0) hx hb dX9_box_47 (by decide) ?_
    refine lv_istore (lv' := [(4, .int 0), (0, .ref h0), (1, .int bq), (2, .int k), (3, .int mm)]) hx hb dX9_box_48 hl (by decide) rfl (fun ls hl => ?_)
    refine lv_iload hx hb dX9_box_50 (lv_at hl 0 rfl) ?_
    refine lv_bipush (v := 32) hx hb dX9_box_52 (by decide) ?_
    refine lv_icmp_ge (tgt := 76) hx hb dX9_box_54 (by decide) (fun c_9 => absurd c_9 (by decide)) (fun _ => ?_)
    refine lv_aload_n hx hb dX9_box_57 rfl (lv_at hl 1 rfl) ?_
    refine va_get (D := D) (ci := 8) (v := .ref a7) (C := RX9) (T := TX9) (N := 17) hx hb hts hiX9_box_X9 hown hK hP 0 rfl rfl 7 (by decide) (hts (.fieldLink RX9 25 "OneHandsetModel" "leads" "[I") (List.mem_of_getElem? (i := 4) rfl)) (fun _ h9 => h9) rfl dX9_box_58 ?_
    refine lv_bipush (v := 32) hx hb dX9_box_61 (by decide) ?_
    refine lv_iload_n hx hb dX9_box_63 rfl (lv_at hl 2 rfl) ?_
    refine lv_imul hx hb dX9_box_64 ?_
    refine lv_iload hx hb dX9_box_65 (lv_at hl 0 rfl) ?_
    refine lv_iadd hx hb dX9_box_67 ?_
    refine lv_iconst (v := 0) hx hb dX9_box_68 (by decide) ?_
    refine va_iast hx hb hK hP hD hS 3 2 rfl rfl (by rcases wi_bx c_2 with rfl | rfl | rfl | rfl <;> exact vin (by decide)) dX9_box_69 (fun H locs hP hD hS => ?_)
    obtain ⟨g_10, hP, hD⟩ : ∃ g9 : Nat → Int32, va_P D vwCl [(h0, .inr (8, [.ref a0, .int 0, .ref a2, .int 0, .ref a4, .ref a5, .ref a6, .ref a7, .ref a8, .ref a9, .int 0, .int 0, .int 0, .int 0, .ref a14, .ref a15, .ref a16])), (a5, .inl (k5, 4, .inl g_7)), (a6, .inl (k6, 4, .inl g_8)), (a7, .inl (k7, 128, .inl g9)), (a8, .inl (k8, 4, .inl f8))] H ∧ va_D A [(h0, .inr (8, [.ref a0, .int 0, .ref a2, .int 0, .ref a4, .ref a5, .ref a6, .ref a7, .ref a8, .ref a9, .int 0, .int 0, .int 0, .int 0, .ref a14, .ref a15, .ref a16])), (a5, .inl (k5, 4, .inl g_7)), (a6, .inl (k6, 4, .inl g_8)), (a7, .inl (k7, 128, .inl g9)), (a8, .inl (k8, 4, .inl f8))] := ⟨_, hP, hD⟩
    refine lv_iinc (v := 1) (lv' := [(4, .int 1), (0, .ref h0), (1, .int bq), (2, .int k), (3, .int mm)]) hx hb dX9_box_70 hl (k := 0) rfl (by decide) (by decide) rfl (fun ls hl => ?_)
    refine lv_goto (tgt := 50) hx hb dX9_box_73 (by decide) ?_
    refine lv_iload hx hb dX9_box_50 (lv_at hl 0 rfl) ?_
    refine lv_bipush (v := 32) hx hb dX9_box_52 (by decide) ?_
    refine lv_icmp_ge (tgt := 76) hx hb dX9_box_54 (by decide) (fun c_11 => absurd c_11 (by decide)) (fun _ => ?_)
    refine lv_aload_n hx hb dX9_box_57 rfl (lv_at hl 1 rfl) ?_
    refine va_get (D := D) (ci := 8) (v := .ref a7) (C := RX9) (T := TX9) (N := 17) hx hb hts hiX9_box_X9 hown hK hP 0 rfl rfl 7 (by decide) (hts (.fieldLink RX9 25 "OneHandsetModel" "leads" "[I") (List.mem_of_getElem? (i := 4) rfl)) (fun _ h9 => h9) rfl dX9_box_58 ?_
    refine lv_bipush (v := 32) hx hb dX9_box_61 (by decide) ?_
    refine lv_iload_n hx hb dX9_box_63 rfl (lv_at hl 2 rfl) ?_
    refine lv_imul hx hb dX9_box_64 ?_
    refine lv_iload hx hb dX9_box_65 (lv_at hl 0 rfl) ?_
    refine lv_iadd hx hb dX9_box_67 ?_
    refine lv_iconst (v := 0) hx hb dX9_box_68 (by decide) ?_
    refine va_iast hx hb hK hP hD hS 3 2 rfl rfl (by rcases wi_bx c_2 with rfl | rfl | rfl | rfl <;> exact vin (by decide)) dX9_box_69 (fun H locs hP hD hS => ?_)
    obtain ⟨g_12, hP, hD⟩ : ∃ g9 : Nat → Int32, va_P D vwCl [(h0, .inr (8, [.ref a0, .int 0, .ref a2, .int 0, .ref a4, .ref a5, .ref a6, .ref a7, .ref a8, .ref a9, .int 0, .int 0, .int 0, .int 0, .ref a14, .ref a15, .ref a16])), (a5, .inl (k5, 4, .inl g_7)), (a6, .inl (k6, 4, .inl g_8)), (a7, .inl (k7, 128, .inl g9)), (a8, .inl (k8, 4, .inl f8))] H ∧ va_D A [(h0, .inr (8, [.ref a0, .int 0, .ref a2, .int 0, .ref a4, .ref a5, .ref a6, .ref a7, .ref a8, .ref a9, .int 0, .int 0, .int 0, .int 0, .ref a14, .ref a15, .ref a16])), (a5, .inl (k5, 4, .inl g_7)), (a6, .inl (k6, 4, .inl g_8)), (a7, .inl (k7, 128, .inl g9)), (a8, .inl (k8, 4, .inl f8))] := ⟨_, hP, hD⟩
    refine lv_iinc (v := 2) (lv' := [(4, .int 2), (0, .ref h0), (1, .int bq), (2, .int k), (3, .int mm)]) hx hb dX9_box_70 hl (k := 0) rfl (by decide) (by decide) rfl (fun ls hl => ?_)
    refine lv_goto (tgt := 50) hx hb dX9_box_73 (by decide) ?_
    refine lv_iload hx hb dX9_box_50 (lv_at hl 0 rfl) ?_
    refine lv_bipush (v := 32) hx hb dX9_box_52 (by decide) ?_
    refine lv_icmp_ge (tgt := 76) hx hb dX9_box_54 (by decide) (fun c_13 => absurd c_13 (by decide)) (fun _ => ?_)
    refine lv_aload_n hx hb dX9_box_57 rfl (lv_at hl 1 rfl) ?_
    refine va_get (D := D) (ci := 8) (v := .ref a7) (C := RX9) (T := TX9) (N := 17) hx hb hts hiX9_box_X9 hown hK hP 0 rfl rfl 7 (by decide) (hts (.fieldLink RX9 25 "OneHandsetModel" "leads" "[I") (List.mem_of_getElem? (i := 4) rfl)) (fun _ h9 => h9) rfl dX9_box_58 ?_
    refine lv_bipush (v := 32) hx hb dX9_box_61 (by decide) ?_
    refine lv_iload_n hx hb dX9_box_63 rfl (lv_at hl 2 rfl) ?_
    refine lv_imul hx hb dX9_box_64 ?_
    refine lv_iload hx hb dX9_box_65 (lv_at hl 0 rfl) ?_
    refine lv_iadd hx hb dX9_box_67 ?_
    refine lv_iconst (v := 0) hx hb dX9_box_68 (by decide) ?_
    refine va_iast hx hb hK hP hD hS 3 2 rfl rfl (by rcases wi_bx c_2 with rfl | rfl | rfl | rfl <;> exact vin (by decide)) dX9_box_69 (fun H locs hP hD hS => ?_)
    obtain ⟨g_14, hP, hD⟩ : ∃ g9 : Nat → Int32, va_P D vwCl [(h0, .inr (8, [.ref a0, .int 0, .ref a2, .int 0, .ref a4, .ref a5, .ref a6, .ref a7, .ref a8, .ref a9, .int 0, .int 0, .int 0, .int 0, .ref a14, .ref a15, .ref a16])), (a5, .inl (k5, 4, .inl g_7)), (a6, .inl (k6, 4, .inl g_8)), (a7, .inl (k7, 128, .inl g9)), (a8, .inl (k8, 4, .inl f8))] H ∧ va_D A [(h0, .inr (8, [.ref a0, .int 0, .ref a2, .int 0, .ref a4, .ref a5, .ref a6, .ref a7, .ref a8, .ref a9, .int 0, .int 0, .int 0, .int 0, .ref a14, .ref a15, .ref a16])), (a5, .inl (k5, 4, .inl g_7)), (a6, .inl (k6, 4, .inl g_8)), (a7, .inl (k7, 128, .inl g9)), (a8, .inl (k8, 4, .inl f8))] := ⟨_, hP, hD⟩
    refine lv_iinc (v := 3) (lv' := [(4, .int 3), (0, .ref h0), (1, .int bq), (2, .int k), (3, .int mm)]) hx hb dX9_box_70 hl (k := 0) rfl (by decide) (by decide) rfl (fun ls hl => ?_)
    refine lv_goto (tgt := 50) hx hb dX9_box_73 (by decide) ?_
    refine lv_iload hx hb dX9_box_50 (lv_at hl 0 rfl) ?_
    refine lv_bipush (v := 32) hx hb dX9_box_52 (by decide) ?_
    refine lv_icmp_ge (tgt := 76) hx hb dX9_box_54 (by decide) (fun c_15 => absurd c_15 (by decide)) (fun _ => ?_)
    refine lv_aload_n hx hb dX9_box_57 rfl (lv_at hl 1 rfl) ?_
    refine va_get (D := D) (ci := 8) (v := .ref a7) (C := RX9) (T := TX9) (N := 17) hx hb hts hiX9_box_X9 hown hK hP 0 rfl rfl 7 (by decide) (hts (.fieldLink RX9 25 "OneHandsetModel" "leads" "[I") (List.mem_of_getElem? (i := 4) rfl)) (fun _ h9 => h9) rfl dX9_box_58 ?_
    refine lv_bipush (v := 32) hx hb dX9_box_61 (by decide) ?_
    refine lv_iload_n hx hb dX9_box_63 rfl (lv_at hl 2 rfl) ?_
    refine lv_imul hx hb dX9_box_64 ?_
    refine lv_iload hx hb dX9_box_65 (lv_at hl 0 rfl) ?_
    refine lv_iadd hx hb dX9_box_67 ?_
    refine lv_iconst (v := 0) hx hb dX9_box_68 (by decide) ?_
    refine va_iast hx hb hK hP hD hS 3 2 rfl rfl (by rcases wi_bx c_2 with rfl | rfl | rfl | rfl <;> exact vin (by decide)) dX9_box_69 (fun H locs hP hD hS => ?_)
    obtain ⟨g_16, hP, hD⟩ : ∃ g9 : Nat → Int32, va_P D vwCl [(h0, .inr (8, [.ref a0, .int 0, .ref a2, .int 0, .ref a4, .ref a5, .ref a6, .ref a7, .ref a8, .ref a9, .int 0, .int 0, .int 0, .int 0, .ref a14, .ref a15, .ref a16])), (a5, .inl (k5, 4, .inl g_7)), (a6, .inl (k6, 4, .inl g_8)), (a7, .inl (k7, 128, .inl g9)), (a8, .inl (k8, 4, .inl f8))] H ∧ va_D A [(h0, .inr (8, [.ref a0, .int 0, .ref a2, .int 0, .ref a4, .ref a5, .ref a6, .ref a7, .ref a8, .ref a9, .int 0, .int 0, .int 0, .int 0, .ref a14, .ref a15, .ref a16])), (a5, .inl (k5, 4, .inl g_7)), (a6, .inl (k6, 4, .inl g_8)), (a7, .inl (k7, 128, .inl g9)), (a8, .inl (k8, 4, .inl f8))] := ⟨_, hP, hD⟩
    refine lv_iinc (v := 4) (lv' := [(4, .int 4), (0, .ref h0), (1, .int bq), (2, .int k), (3, .int mm)]) hx hb dX9_box_70 hl (k := 0) rfl (by decide) (by decide) rfl (fun ls hl => ?_)
    refine lv_goto (tgt := 50) hx hb dX9_box_73 (by decide) ?_
    refine lv_iload hx hb dX9_box_50 (lv_at hl 0 rfl) ?_
    refine lv_bipush (v := 32) hx hb dX9_box_52 (by decide) ?_
    refine lv_icmp_ge (tgt := 76) hx hb dX9_box_54 (by decide) (fun c_17 => absurd c_17 (by decide)) (fun _ => ?_)
    refine lv_aload_n hx hb dX9_box_57 rfl (lv_at hl 1 rfl) ?_
    refine va_get (D := D) (ci := 8) (v := .ref a7) (C := RX9) (T := TX9) (N := 17) hx hb hts hiX9_box_X9 hown hK hP 0 rfl rfl 7 (by decide) (hts (.fieldLink RX9 25 "OneHandsetModel" "leads" "[I") (List.mem_of_getElem? (i := 4) rfl)) (fun _ h9 => h9) rfl dX9_box_58 ?_
    refine lv_bipush (v := 32) hx hb dX9_box_61 (by decide) ?_
    refine lv_iload_n hx hb dX9_box_63 rfl (lv_at hl 2 rfl) ?_
    refine lv_imul hx hb dX9_box_64 ?_
    refine lv_iload hx hb dX9_box_65 (lv_at hl 0 rfl) ?_
    refine lv_iadd hx hb dX9_box_67 ?_
    refine lv_iconst (v := 0) hx hb dX9_box_68 (by decide) ?_
    refine va_iast hx hb hK hP hD hS 3 2 rfl rfl (by rcases wi_bx c_2 with rfl | rfl | rfl | rfl <;> exact vin (by decide)) dX9_box_69 (fun H locs hP hD hS => ?_)
    obtain ⟨g_18, hP, hD⟩ : ∃ g9 : Nat → Int32, va_P D vwCl [(h0, .inr (8, [.ref a0, .int 0, .ref a2, .int 0, .ref a4, .ref a5, .ref a6, .ref a7, .ref a8, .ref a9, .int 0, .int 0, .int 0, .int 0, .ref a14, .ref a15, .ref a16])), (a5, .inl (k5, 4, .inl g_7)), (a6, .inl (k6, 4, .inl g_8)), (a7, .inl (k7, 128, .inl g9)), (a8, .inl (k8, 4, .inl f8))] H ∧ va_D A [(h0, .inr (8, [.ref a0, .int 0, .ref a2, .int 0, .ref a4, .ref a5, .ref a6, .ref a7, .ref a8, .ref a9, .int 0, .int 0, .int 0, .int 0, .ref a14, .ref a15, .ref a16])), (a5, .inl (k5, 4, .inl g_7)), (a6, .inl (k6, 4, .inl g_8)), (a7, .inl (k7, 128, .inl g9)), (a8, .inl (k8, 4, .inl f8))] := ⟨_, hP, hD⟩
    refine lv_iinc (v := 5) (lv' := [(4, .int 5), (0, .ref h0), (1, .int bq), (2, .int k), (3, .int mm)]) hx hb dX9_box_70 hl (k := 0) rfl (by decide) (by decide) rfl (fun ls hl => ?_)
    refine lv_goto (tgt := 50) hx hb dX9_box_73 (by decide) ?_
    refine lv_iload hx hb dX9_box_50 (lv_at hl 0 rfl) ?_
    refine lv_bipush (v := 32) hx hb dX9_box_52 (by decide) ?_
    refine lv_icmp_ge (tgt := 76) hx hb dX9_box_54 (by decide) (fun c_19 => absurd c_19 (by decide)) (fun _ => ?_)
    refine lv_aload_n hx hb dX9_box_57 rfl (lv_at hl 1 rfl) ?_
    refine va_get (D := D) (ci := 8) (v := .ref a7) (C := RX9) (T := TX9) (N := 17) hx hb hts hiX9_box_X9 hown hK hP 0 rfl rfl 7 (by decide) (hts (.fieldLink RX9 25 "OneHandsetModel" "leads" "[I") (List.mem_of_getElem? (i := 4) rfl)) (fun _ h9 => h9) rfl dX9_box_58 ?_
    refine lv_bipush (v := 32) hx hb dX9_box_61 (by decide) ?_
    refine lv_iload_n hx hb dX9_box_63 rfl (lv_at hl 2 rfl) ?_
    refine lv_imul hx hb dX9_box_64 ?_
    refine lv_iload hx hb dX9_box_65 (lv_at hl 0 rfl) ?_
    refine lv_iadd hx hb dX9_box_67 ?_
    refine lv_iconst (v := 0) hx hb dX9_box_68 (by decide) ?_
    refine va_iast hx hb hK hP hD hS 3 2 rfl rfl (by rcases wi_bx c_2 with rfl | rfl | rfl | rfl <;> exact vin (by decide)) dX9_box_69 (fun H locs hP hD hS => ?_)
    obtain ⟨g_20, hP, hD⟩ : ∃ g9 : Nat → Int32, va_P D vwCl [(h0, .inr (8, [.ref a0, .int 0, .ref a2, .int 0, .ref a4, .ref a5, .ref a6, .ref a7, .ref a8, .ref a9, .int 0, .int 0, .int 0, .int 0, .ref a14, .ref a15, .ref a16])), (a5, .inl (k5, 4, .inl g_7)), (a6, .inl (k6, 4, .inl g_8)), (a7, .inl (k7, 128, .inl g9)), (a8, .inl (k8, 4, .inl f8))] H ∧ va_D A [(h0, .inr (8, [.ref a0, .int 0, .ref a2, .int 0, .ref a4, .ref a5, .ref a6, .ref a7, .ref a8, .ref a9, .int 0, .int 0, .int 0, .int 0, .ref a14, .ref a15, .ref a16])), (a5, .inl (k5, 4, .inl g_7)), (a6, .inl (k6, 4, .inl g_8)), (a7, .inl (k7, 128, .inl g9)), (a8, .inl (k8, 4, .inl f8))] := ⟨_, hP, hD⟩
    refine lv_iinc (v := 6) (lv' := [(4, .int 6), (0, .ref h0), (1, .int bq), (2, .int k), (3, .int mm)]) hx hb dX9_box_70 hl (k := 0) rfl (by decide) (by decide) rfl (fun ls hl => ?_)
    refine lv_goto (tgt := 50) hx hb dX9_box_73 (by decide) ?_
    refine lv_iload hx hb dX9_box_50 (lv_at hl 0 rfl) ?_
    refine lv_bipush (v := 32) hx hb dX9_box_52 (by decide) ?_
    refine lv_icmp_ge (tgt := 76) hx hb dX9_box_54 (by decide) (fun c_21 => absurd c_21 (by decide)) (fun _ => ?_)
    refine lv_aload_n hx hb dX9_box_57 rfl (lv_at hl 1 rfl) ?_
    refine va_get (D := D) (ci := 8) (v := .ref a7) (C := RX9) (T := TX9) (N := 17) hx hb hts hiX9_box_X9 hown hK hP 0 rfl rfl 7 (by decide) (hts (.fieldLink RX9 25 "OneHandsetModel" "leads" "[I") (List.mem_of_getElem? (i := 4) rfl)) (fun _ h9 => h9) rfl dX9_box_58 ?_
    refine lv_bipush (v := 32) hx hb dX9_box_61 (by decide) ?_
    refine lv_iload_n hx hb dX9_box_63 rfl (lv_at hl 2 rfl) ?_
    refine lv_imul hx hb dX9_box_64 ?_
    refine lv_iload hx hb dX9_box_65 (lv_at hl 0 rfl) ?_
    refine lv_iadd hx hb dX9_box_67 ?_
    refine lv_iconst (v := 0) hx hb dX9_box_68 (by decide) ?_
    refine va_iast hx hb hK hP hD hS 3 2 rfl rfl (by rcases wi_bx c_2 with rfl | rfl | rfl | rfl <;> exact vin (by decide)) dX9_box_69 (fun H locs hP hD hS => ?_)
    obtain ⟨g_22, hP, hD⟩ : ∃ g9 : Nat → Int32, va_P D vwCl [(h0, .inr (8, [.ref a0, .int 0, .ref a2, .int 0, .ref a4, .ref a5, .ref a6, .ref a7, .ref a8, .ref a9, .int 0, .int 0, .int 0, .int 0, .ref a14, .ref a15, .ref a16])), (a5, .inl (k5, 4, .inl g_7)), (a6, .inl (k6, 4, .inl g_8)), (a7, .inl (k7, 128, .inl g9)), (a8, .inl (k8, 4, .inl f8))] H ∧ va_D A [(h0, .inr (8, [.ref a0, .int 0, .ref a2, .int 0, .ref a4, .ref a5, .ref a6, .ref a7, .ref a8, .ref a9, .int 0, .int 0, .int 0, .int 0, .ref a14, .ref a15, .ref a16])), (a5, .inl (k5, 4, .inl g_7)), (a6, .inl (k6, 4, .inl g_8)), (a7, .inl (k7, 128, .inl g9)), (a8, .inl (k8, 4, .inl f8))] := ⟨_, hP, hD⟩
    refine lv_iinc (v := 7) (lv' := [(4, .int 7), (0, .ref h0), (1, .int bq), (2, .int k), (3, .int mm)]) hx hb dX9_box_70 hl (k := 0) rfl (by decide) (by decide) rfl (fun ls hl => ?_)
    refine lv_goto (tgt := 50) hx hb dX9_box_73 (by decide) ?_
    refine lv_iload hx hb dX9_box_50 (lv_at hl 0 rfl) ?_
    refine lv_bipush (v := 32) hx hb dX9_box_52 (by decide) ?_
    refine lv_icmp_ge (tgt := 76) hx hb dX9_box_54 (by decide) (fun c_23 => absurd c_23 (by decide)) (fun _ => ?_)
    refine lv_aload_n hx hb dX9_box_57 rfl (lv_at hl 1 rfl) ?_
    refine va_get (D := D) (ci := 8) (v := .ref a7) (C := RX9) (T := TX9) (N := 17) hx hb hts hiX9_box_X9 hown hK hP 0 rfl rfl 7 (by decide) (hts (.fieldLink RX9 25 "OneHandsetModel" "leads" "[I") (List.mem_of_getElem? (i := 4) rfl)) (fun _ h9 => h9) rfl dX9_box_58 ?_
    refine lv_bipush (v := 32) hx hb dX9_box_61 (by decide) ?_
    refine lv_iload_n hx hb dX9_box_63 rfl (lv_at hl 2 rfl) ?_
    refine lv_imul hx hb dX9_box_64 ?_
    refine lv_iload hx hb dX9_box_65 (lv_at hl 0 rfl) ?_
    refine lv_iadd hx hb dX9_box_67 ?_
    refine lv_iconst (v := 0) hx hb dX9_box_68 (by decide) ?_
    refine va_iast hx hb hK hP hD hS 3 2 rfl rfl (by rcases wi_bx c_2 with rfl | rfl | rfl | rfl <;> exact vin (by decide)) dX9_box_69 (fun H locs hP hD hS => ?_)
    obtain ⟨g_24, hP, hD⟩ : ∃ g9 : Nat → Int32, va_P D vwCl [(h0, .inr (8, [.ref a0, .int 0, .ref a2, .int 0, .ref a4, .ref a5, .ref a6, .ref a7, .ref a8, .ref a9, .int 0, .int 0, .int 0, .int 0, .ref a14, .ref a15, .ref a16])), (a5, .inl (k5, 4, .inl g_7)), (a6, .inl (k6, 4, .inl g_8)), (a7, .inl (k7, 128, .inl g9)), (a8, .inl (k8, 4, .inl f8))] H ∧ va_D A [(h0, .inr (8, [.ref a0, .int 0, .ref a2, .int 0, .ref a4, .ref a5, .ref a6, .ref a7, .ref a8, .ref a9, .int 0, .int 0, .int 0, .int 0, .ref a14, .ref a15, .ref a16])), (a5, .inl (k5, 4, .inl g_7)), (a6, .inl (k6, 4, .inl g_8)), (a7, .inl (k7, 128, .inl g9)), (a8, .inl (k8, 4, .inl f8))] := ⟨_, hP, hD⟩
    refine lv_iinc (v := 8) (lv' := [(4, .int 8), (0, .ref h0), (1, .int bq), (2, .int k), (3, .int mm)]) hx hb dX9_box_70 hl (k := 0) rfl (by decide) (by decide) rfl (fun ls hl => ?_)
    refine lv_goto (tgt := 50) hx hb dX9_box_73 (by decide) ?_
    refine lv_iload hx hb dX9_box_50 (lv_at hl 0 rfl) ?_
    refine lv_bipush (v := 32) hx hb dX9_box_52 (by decide) ?_
    refine lv_icmp_ge (tgt := 76) hx hb dX9_box_54 (by decide) (fun c_25 => absurd c_25 (by decide)) (fun _ => ?_)
    refine lv_aload_n hx hb dX9_box_57 rfl (lv_at hl 1 rfl) ?_
    refine va_get (D := D) (ci := 8) (v := .ref a7) (C := RX9) (T := TX9) (N := 17) hx hb hts hiX9_box_X9 hown hK hP 0 rfl rfl 7 (by decide) (hts (.fieldLink RX9 25 "OneHandsetModel" "leads" "[I") (List.mem_of_getElem? (i := 4) rfl)) (fun _ h9 => h9) rfl dX9_box_58 ?_
    refine lv_bipush (v := 32) hx hb dX9_box_61 (by decide) ?_
    refine lv_iload_n hx hb dX9_box_63 rfl (lv_at hl 2 rfl) ?_
    refine lv_imul hx hb dX9_box_64 ?_
    refine lv_iload hx hb dX9_box_65 (lv_at hl 0 rfl) ?_
    refine lv_iadd hx hb dX9_box_67 ?_
    refine lv_iconst (v := 0) hx hb dX9_box_68 (by decide) ?_
    refine va_iast hx hb hK hP hD hS 3 2 rfl rfl (by rcases wi_bx c_2 with rfl | rfl | rfl | rfl <;> exact vin (by decide)) dX9_box_69 (fun H locs hP hD hS => ?_)
    obtain ⟨g_26, hP, hD⟩ : ∃ g9 : Nat → Int32, va_P D vwCl [(h0, .inr (8, [.ref a0, .int 0, .ref a2, .int 0, .ref a4, .ref a5, .ref a6, .ref a7, .ref a8, .ref a9, .int 0, .int 0, .int 0, .int 0, .ref a14, .ref a15, .ref a16])), (a5, .inl (k5, 4, .inl g_7)), (a6, .inl (k6, 4, .inl g_8)), (a7, .inl (k7, 128, .inl g9)), (a8, .inl (k8, 4, .inl f8))] H ∧ va_D A [(h0, .inr (8, [.ref a0, .int 0, .ref a2, .int 0, .ref a4, .ref a5, .ref a6, .ref a7, .ref a8, .ref a9, .int 0, .int 0, .int 0, .int 0, .ref a14, .ref a15, .ref a16])), (a5, .inl (k5, 4, .inl g_7)), (a6, .inl (k6, 4, .inl g_8)), (a7, .inl (k7, 128, .inl g9)), (a8, .inl (k8, 4, .inl f8))] := ⟨_, hP, hD⟩
    refine lv_iinc (v := 9) (lv' := [(4, .int 9), (0, .ref h0), (1, .int bq), (2, .int k), (3, .int mm)]) hx hb dX9_box_70 hl (k := 0) rfl (by decide) (by decide) rfl (fun ls hl => ?_)
    refine lv_goto (tgt := 50) hx hb dX9_box_73 (by decide) ?_
    refine lv_iload hx hb dX9_box_50 (lv_at hl 0 rfl) ?_
    refine lv_bipush (v := 32) hx hb dX9_box_52 (by decide) ?_
    refine lv_icmp_ge (tgt := 76) hx hb dX9_box_54 (by decide) (fun c_27 => absurd c_27 (by decide)) (fun _ => ?_)
    refine lv_aload_n hx hb dX9_box_57 rfl (lv_at hl 1 rfl) ?_
    refine va_get (D := D) (ci := 8) (v := .ref a7) (C := RX9) (T := TX9) (N := 17) hx hb hts hiX9_box_X9 hown hK hP 0 rfl rfl 7 (by decide) (hts (.fieldLink RX9 25 "OneHandsetModel" "leads" "[I") (List.mem_of_getElem? (i := 4) rfl)) (fun _ h9 => h9) rfl dX9_box_58 ?_
    refine lv_bipush (v := 32) hx hb dX9_box_61 (by decide) ?_
    refine lv_iload_n hx hb dX9_box_63 rfl (lv_at hl 2 rfl) ?_
    refine lv_imul hx hb dX9_box_64 ?_
    refine lv_iload hx hb dX9_box_65 (lv_at hl 0 rfl) ?_
    refine lv_iadd hx hb dX9_box_67 ?_
    refine lv_iconst (v := 0) hx hb dX9_box_68 (by decide) ?_
    refine va_iast hx hb hK hP hD hS 3 2 rfl rfl (by rcases wi_bx c_2 with rfl | rfl | rfl | rfl <;> exact vin (by decide)) dX9_box_69 (fun H locs hP hD hS => ?_)
    obtain ⟨g_28, hP, hD⟩ : ∃ g9 : Nat → Int32, va_P D vwCl [(h0, .inr (8, [.ref a0, .int 0, .ref a2, .int 0, .ref a4, .ref a5, .ref a6, .ref a7, .ref a8, .ref a9, .int 0, .int 0, .int 0, .int 0, .ref a14, .ref a15, .ref a16])), (a5, .inl (k5, 4, .inl g_7)), (a6, .inl (k6, 4, .inl g_8)), (a7, .inl (k7, 128, .inl g9)), (a8, .inl (k8, 4, .inl f8))] H ∧ va_D A [(h0, .inr (8, [.ref a0, .int 0, .ref a2, .int 0, .ref a4, .ref a5, .ref a6, .ref a7, .ref a8, .ref a9, .int 0, .int 0, .int 0, .int 0, .ref a14, .ref a15, .ref a16])), (a5, .inl (k5, 4, .inl g_7)), (a6, .inl (k6, 4, .inl g_8)), (a7, .inl (k7, 128, .inl g9)), (a8, .inl (k8, 4, .inl f8))] := ⟨_, hP, hD⟩
    refine lv_iinc (v := 10) (lv' := [(4, .int 10), (0, .ref h0), (1, .int bq), (2, .int k), (3, .int mm)]) hx hb dX9_box_70 hl (k := 0) rfl (by decide) (by decide) rfl (fun ls hl => ?_)
    refine lv_goto (tgt := 50) hx hb dX9_box_73 (by decide) ?_
    refine lv_iload hx hb dX9_box_50 (lv_at hl 0 rfl) ?_
    refine lv_bipush (v := 32) hx hb dX9_box_52 (by decide) ?_
    refine lv_icmp_ge (tgt := 76) hx hb dX9_box_54 (by decide) (fun c_29 => absurd c_29 (by decide)) (fun _ => ?_)
    refine lv_aload_n hx hb dX9_box_57 rfl (lv_at hl 1 rfl) ?_
    refine va_get (D := D) (ci := 8) (v := .ref a7) (C := RX9) (T := TX9) (N := 17) hx hb hts hiX9_box_X9 hown hK hP 0 rfl rfl 7 (by decide) (hts (.fieldLink RX9 25 "OneHandsetModel" "leads" "[I") (List.mem_of_getElem? (i := 4) rfl)) (fun _ h9 => h9) rfl dX9_box_58 ?_
    refine lv_bipush (v := 32) hx hb dX9_box_61 (by decide) ?_
    refine lv_iload_n hx hb dX9_box_63 rfl (lv_at hl 2 rfl) ?_
    refine lv_imul hx hb dX9_box_64 ?_
    refine lv_iload hx hb dX9_box_65 (lv_at hl 0 rfl) ?_
    refine lv_iadd hx hb dX9_box_67 ?_
    refine lv_iconst (v := 0) hx hb dX9_box_68 (by decide) ?_
    refine va_iast hx hb hK hP hD hS 3 2 rfl rfl (by rcases wi_bx c_2 with rfl | rfl | rfl | rfl <;> exact vin (by decide)) dX9_box_69 (fun H locs hP hD hS => ?_)
    obtain ⟨g_30, hP, hD⟩ : ∃ g9 : Nat → Int32, va_P D vwCl [(h0, .inr (8, [.ref a0, .int 0, .ref a2, .int 0, .ref a4, .ref a5, .ref a6, .ref a7, .ref a8, .ref a9, .int 0, .int 0, .int 0, .int 0, .ref a14, .ref a15, .ref a16])), (a5, .inl (k5, 4, .inl g_7)), (a6, .inl (k6, 4, .inl g_8)), (a7, .inl (k7, 128, .inl g9)), (a8, .inl (k8, 4, .inl f8))] H ∧ va_D A [(h0, .inr (8, [.ref a0, .int 0, .ref a2, .int 0, .ref a4, .ref a5, .ref a6, .ref a7, .ref a8, .ref a9, .int 0, .int 0, .int 0, .int 0, .ref a14, .ref a15, .ref a16])), (a5, .inl (k5, 4, .inl g_7)), (a6, .inl (k6, 4, .inl g_8)), (a7, .inl (k7, 128, .inl g9)), (a8, .inl (k8, 4, .inl f8))] := ⟨_, hP, hD⟩
    refine lv_iinc (v := 11) (lv' := [(4, .int 11), (0, .ref h0), (1, .int bq), (2, .int k), (3, .int mm)]) hx hb dX9_box_70 hl (k := 0) rfl (by decide) (by decide) rfl (fun ls hl => ?_)
    refine lv_goto (tgt := 50) hx hb dX9_box_73 (by decide) ?_
    refine lv_iload hx hb dX9_box_50 (lv_at hl 0 rfl) ?_
    refine lv_bipush (v := 32) hx hb dX9_box_52 (by decide) ?_
    refine lv_icmp_ge (tgt := 76) hx hb dX9_box_54 (by decide) (fun c_31 => absurd c_31 (by decide)) (fun _ => ?_)
    refine lv_aload_n hx hb dX9_box_57 rfl (lv_at hl 1 rfl) ?_
    refine va_get (D := D) (ci := 8) (v := .ref a7) (C := RX9) (T := TX9) (N := 17) hx hb hts hiX9_box_X9 hown hK hP 0 rfl rfl 7 (by decide) (hts (.fieldLink RX9 25 "OneHandsetModel" "leads" "[I") (List.mem_of_getElem? (i := 4) rfl)) (fun _ h9 => h9) rfl dX9_box_58 ?_
    refine lv_bipush (v := 32) hx hb dX9_box_61 (by decide) ?_
    refine lv_iload_n hx hb dX9_box_63 rfl (lv_at hl 2 rfl) ?_
    refine lv_imul hx hb dX9_box_64 ?_
    refine lv_iload hx hb dX9_box_65 (lv_at hl 0 rfl) ?_
    refine lv_iadd hx hb dX9_box_67 ?_
    refine lv_iconst (v := 0) hx hb dX9_box_68 (by decide) ?_
    refine va_iast hx hb hK hP hD hS 3 2 rfl rfl (by rcases wi_bx c_2 with rfl | rfl | rfl | rfl <;> exact vin (by decide)) dX9_box_69 (fun H locs hP hD hS => ?_)
    obtain ⟨g_32, hP, hD⟩ : ∃ g9 : Nat → Int32, va_P D vwCl [(h0, .inr (8, [.ref a0, .int 0, .ref a2, .int 0, .ref a4, .ref a5, .ref a6, .ref a7, .ref a8, .ref a9, .int 0, .int 0, .int 0, .int 0, .ref a14, .ref a15, .ref a16])), (a5, .inl (k5, 4, .inl g_7)), (a6, .inl (k6, 4, .inl g_8)), (a7, .inl (k7, 128, .inl g9)), (a8, .inl (k8, 4, .inl f8))] H ∧ va_D A [(h0, .inr (8, [.ref a0, .int 0, .ref a2, .int 0, .ref a4, .ref a5, .ref a6, .ref a7, .ref a8, .ref a9, .int 0, .int 0, .int 0, .int 0, .ref a14, .ref a15, .ref a16])), (a5, .inl (k5, 4, .inl g_7)), (a6, .inl (k6, 4, .inl g_8)), (a7, .inl (k7, 128, .inl g9)), (a8, .inl (k8, 4, .inl f8))] := ⟨_, hP, hD⟩
    refine lv_iinc (v := 12) (lv' := [(4, .int 12), (0, .ref h0), (1, .int bq), (2, .int k), (3, .int mm)]) hx hb dX9_box_70 hl (k := 0) rfl (by decide) (by decide) rfl (fun ls hl => ?_)
    refine lv_goto (tgt := 50) hx hb dX9_box_73 (by decide) ?_
    refine lv_iload hx hb dX9_box_50 (lv_at hl 0 rfl) ?_
    refine lv_bipush (v := 32) hx hb dX9_box_52 (by decide) ?_
    refine lv_icmp_ge (tgt := 76) hx hb dX9_box_54 (by decide) (fun c_33 => absurd c_33 (by decide)) (fun _ => ?_)
    refine lv_aload_n hx hb dX9_box_57 rfl (lv_at hl 1 rfl) ?_
    refine va_get (D := D) (ci := 8) (v := .ref a7) (C := RX9) (T := TX9) (N := 17) hx hb hts hiX9_box_X9 hown hK hP 0 rfl rfl 7 (by decide) (hts (.fieldLink RX9 25 "OneHandsetModel" "leads" "[I") (List.mem_of_getElem? (i := 4) rfl)) (fun _ h9 => h9) rfl dX9_box_58 ?_
    refine lv_bipush (v := 32) hx hb dX9_box_61 (by decide) ?_
    refine lv_iload_n hx hb dX9_box_63 rfl (lv_at hl 2 rfl) ?_
    refine lv_imul hx hb dX9_box_64 ?_
    refine lv_iload hx hb dX9_box_65 (lv_at hl 0 rfl) ?_
    refine lv_iadd hx hb dX9_box_67 ?_
    refine lv_iconst (v := 0) hx hb dX9_box_68 (by decide) ?_
    refine va_iast hx hb hK hP hD hS 3 2 rfl rfl (by rcases wi_bx c_2 with rfl | rfl | rfl | rfl <;> exact vin (by decide)) dX9_box_69 (fun H locs hP hD hS => ?_)
    obtain ⟨g_34, hP, hD⟩ : ∃ g9 : Nat → Int32, va_P D vwCl [(h0, .inr (8, [.ref a0, .int 0, .ref a2, .int 0, .ref a4, .ref a5, .ref a6, .ref a7, .ref a8, .ref a9, .int 0, .int 0, .int 0, .int 0, .ref a14, .ref a15, .ref a16])), (a5, .inl (k5, 4, .inl g_7)), (a6, .inl (k6, 4, .inl g_8)), (a7, .inl (k7, 128, .inl g9)), (a8, .inl (k8, 4, .inl f8))] H ∧ va_D A [(h0, .inr (8, [.ref a0, .int 0, .ref a2, .int 0, .ref a4, .ref a5, .ref a6, .ref a7, .ref a8, .ref a9, .int 0, .int 0, .int 0, .int 0, .ref a14, .ref a15, .ref a16])), (a5, .inl (k5, 4, .inl g_7)), (a6, .inl (k6, 4, .inl g_8)), (a7, .inl (k7, 128, .inl g9)), (a8, .inl (k8, 4, .inl f8))] := ⟨_, hP, hD⟩
    refine lv_iinc (v := 13) (lv' := [(4, .int 13), (0, .ref h0), (1, .int bq), (2, .int k), (3, .int mm)]) hx hb dX9_box_70 hl (k := 0) rfl (by decide) (by decide) rfl (fun ls hl => ?_)
    refine lv_goto (tgt := 50) hx hb dX9_box_73 (by decide) ?_
    refine lv_iload hx hb dX9_box_50 (lv_at hl 0 rfl) ?_
    refine lv_bipush (v := 32) hx hb dX9_box_52 (by decide) ?_
    refine lv_icmp_ge (tgt := 76) hx hb dX9_box_54 (by decide) (fun c_35 => absurd c_35 (by decide)) (fun _ => ?_)
    refine lv_aload_n hx hb dX9_box_57 rfl (lv_at hl 1 rfl) ?_
    refine va_get (D := D) (ci := 8) (v := .ref a7) (C := RX9) (T := TX9) (N := 17) hx hb hts hiX9_box_X9 hown hK hP 0 rfl rfl 7 (by decide) (hts (.fieldLink RX9 25 "OneHandsetModel" "leads" "[I") (List.mem_of_getElem? (i := 4) rfl)) (fun _ h9 => h9) rfl dX9_box_58 ?_
    refine lv_bipush (v := 32) hx hb dX9_box_61 (by decide) ?_
    refine lv_iload_n hx hb dX9_box_63 rfl (lv_at hl 2 rfl) ?_
    refine lv_imul hx hb dX9_box_64 ?_
    refine lv_iload hx hb dX9_box_65 (lv_at hl 0 rfl) ?_
    refine lv_iadd hx hb dX9_box_67 ?_
    refine lv_iconst (v := 0) hx hb dX9_box_68 (by decide) ?_
    refine va_iast hx hb hK hP hD hS 3 2 rfl rfl (by rcases wi_bx c_2 with rfl | rfl | rfl | rfl <;> exact vin (by decide)) dX9_box_69 (fun H locs hP hD hS => ?_)
    obtain ⟨g_36, hP, hD⟩ : ∃ g9 : Nat → Int32, va_P D vwCl [(h0, .inr (8, [.ref a0, .int 0, .ref a2, .int 0, .ref a4, .ref a5, .ref a6, .ref a7, .ref a8, .ref a9, .int 0, .int 0, .int 0, .int 0, .ref a14, .ref a15, .ref a16])), (a5, .inl (k5, 4, .inl g_7)), (a6, .inl (k6, 4, .inl g_8)), (a7, .inl (k7, 128, .inl g9)), (a8, .inl (k8, 4, .inl f8))] H ∧ va_D A [(h0, .inr (8, [.ref a0, .int 0, .ref a2, .int 0, .ref a4, .ref a5, .ref a6, .ref a7, .ref a8, .ref a9, .int 0, .int 0, .int 0, .int 0, .ref a14, .ref a15, .ref a16])), (a5, .inl (k5, 4, .inl g_7)), (a6, .inl (k6, 4, .inl g_8)), (a7, .inl (k7, 128, .inl g9)), (a8, .inl (k8, 4, .inl f8))] := ⟨_, hP, hD⟩
    refine lv_iinc (v := 14) (lv' := [(4, .int 14), (0, .ref h0), (1, .int bq), (2, .int k), (3, .int mm)]) hx hb dX9_box_70 hl (k := 0) rfl (by decide) (by decide) rfl (fun ls hl => ?_)
    refine lv_goto (tgt := 50) hx hb dX9_box_73 (by decide) ?_
    refine lv_iload hx hb dX9_box_50 (lv_at hl 0 rfl) ?_
    refine lv_bipush (v := 32) hx hb dX9_box_52 (by decide) ?_
    refine lv_icmp_ge (tgt := 76) hx hb dX9_box_54 (by decide) (fun c_37 => absurd c_37 (by decide)) (fun _ => ?_)
    refine lv_aload_n hx hb dX9_box_57 rfl (lv_at hl 1 rfl) ?_
    refine va_get (D := D) (ci := 8) (v := .ref a7) (C := RX9) (T := TX9) (N := 17) hx hb hts hiX9_box_X9 hown hK hP 0 rfl rfl 7 (by decide) (hts (.fieldLink RX9 25 "OneHandsetModel" "leads" "[I") (List.mem_of_getElem? (i := 4) rfl)) (fun _ h9 => h9) rfl dX9_box_58 ?_
    refine lv_bipush (v := 32) hx hb dX9_box_61 (by decide) ?_
    refine lv_iload_n hx hb dX9_box_63 rfl (lv_at hl 2 rfl) ?_
    refine lv_imul hx hb dX9_box_64 ?_
    refine lv_iload hx hb dX9_box_65 (lv_at hl 0 rfl) ?_
    refine lv_iadd hx hb dX9_box_67 ?_
    refine lv_iconst (v := 0) hx hb dX9_box_68 (by decide) ?_
    refine va_iast hx hb hK hP hD hS 3 2 rfl rfl (by rcases wi_bx c_2 with rfl | rfl | rfl | rfl <;> exact vin (by decide)) dX9_box_69 (fun H locs hP hD hS => ?_)
    obtain ⟨g_38, hP, hD⟩ : ∃ g9 : Nat → Int32, va_P D vwCl [(h0, .inr (8, [.ref a0, .int 0, .ref a2, .int 0, .ref a4, .ref a5, .ref a6, .ref a7, .ref a8, .ref a9, .int 0, .int 0, .int 0, .int 0, .ref a14, .ref a15, .ref a16])), (a5, .inl (k5, 4, .inl g_7)), (a6, .inl (k6, 4, .inl g_8)), (a7, .inl (k7, 128, .inl g9)), (a8, .inl (k8, 4, .inl f8))] H ∧ va_D A [(h0, .inr (8, [.ref a0, .int 0, .ref a2, .int 0, .ref a4, .ref a5, .ref a6, .ref a7, .ref a8, .ref a9, .int 0, .int 0, .int 0, .int 0, .ref a14, .ref a15, .ref a16])), (a5, .inl (k5, 4, .inl g_7)), (a6, .inl (k6, 4, .inl g_8)), (a7, .inl (k7, 128, .inl g9)), (a8, .inl (k8, 4, .inl f8))] := ⟨_, hP, hD⟩
    refine lv_iinc (v := 15) (lv' := [(4, .int 15), (0, .ref h0), (1, .int bq), (2, .int k), (3, .int mm)]) hx hb dX9_box_70 hl (k := 0) rfl (by decide) (by decide) rfl (fun ls hl => ?_)
    refine lv_goto (tgt := 50) hx hb dX9_box_73 (by decide) ?_
    refine lv_iload hx hb dX9_box_50 (lv_at hl 0 rfl) ?_
    refine lv_bipush (v := 32) hx hb dX9_box_52 (by decide) ?_
    refine lv_icmp_ge (tgt := 76) hx hb dX9_box_54 (by decide) (fun c_39 => absurd c_39 (by decide)) (fun _ => ?_)
    refine lv_aload_n hx hb dX9_box_57 rfl (lv_at hl 1 rfl) ?_
    refine va_get (D := D) (ci := 8) (v := .ref a7) (C := RX9) (T := TX9) (N := 17) hx hb hts hiX9_box_X9 hown hK hP 0 rfl rfl 7 (by decide) (hts (.fieldLink RX9 25 "OneHandsetModel" "leads" "[I") (List.mem_of_getElem? (i := 4) rfl)) (fun _ h9 => h9) rfl dX9_box_58 ?_
    refine lv_bipush (v := 32) hx hb dX9_box_61 (by decide) ?_
    refine lv_iload_n hx hb dX9_box_63 rfl (lv_at hl 2 rfl) ?_
    refine lv_imul hx hb dX9_box_64 ?_
    refine lv_iload hx hb dX9_box_65 (lv_at hl 0 rfl) ?_
    refine lv_iadd hx hb dX9_box_67 ?_
    refine lv_iconst (v := 0) hx hb dX9_box_68 (by decide) ?_
    refine va_iast hx hb hK hP hD hS 3 2 rfl rfl (by rcases wi_bx c_2 with rfl | rfl | rfl | rfl <;> exact vin (by decide)) dX9_box_69 (fun H locs hP hD hS => ?_)
    obtain ⟨g_40, hP, hD⟩ : ∃ g9 : Nat → Int32, va_P D vwCl [(h0, .inr (8, [.ref a0, .int 0, .ref a2, .int 0, .ref a4, .ref a5, .ref a6, .ref a7, .ref a8, .ref a9, .int 0, .int 0, .int 0, .int 0, .ref a14, .ref a15, .ref a16])), (a5, .inl (k5, 4, .inl g_7)), (a6, .inl (k6, 4, .inl g_8)), (a7, .inl (k7, 128, .inl g9)), (a8, .inl (k8, 4, .inl f8))] H ∧ va_D A [(h0, .inr (8, [.ref a0, .int 0, .ref a2, .int 0, .ref a4, .ref a5, .ref a6, .ref a7, .ref a8, .ref a9, .int 0, .int 0, .int 0, .int 0, .ref a14, .ref a15, .ref a16])), (a5, .inl (k5, 4, .inl g_7)), (a6, .inl (k6, 4, .inl g_8)), (a7, .inl (k7, 128, .inl g9)), (a8, .inl (k8, 4, .inl f8))] := ⟨_, hP, hD⟩
    refine lv_iinc (v := 16) (lv' := [(4, .int 16), (0, .ref h0), (1, .int bq), (2, .int k), (3, .int mm)]) hx hb dX9_box_70 hl (k := 0) rfl (by decide) (by decide) rfl (fun ls hl => ?_)
    refine lv_goto (tgt := 50) hx hb dX9_box_73 (by decide) ?_
    refine lv_iload hx hb dX9_box_50 (lv_at hl 0 rfl) ?_
    refine lv_bipush (v := 32) hx hb dX9_box_52 (by decide) ?_
    refine lv_icmp_ge (tgt := 76) hx hb dX9_box_54 (by decide) (fun c_41 => absurd c_41 (by decide)) (fun _ => ?_)
    refine lv_aload_n hx hb dX9_box_57 rfl (lv_at hl 1 rfl) ?_
    refine va_get (D := D) (ci := 8) (v := .ref a7) (C := RX9) (T := TX9) (N := 17) hx hb hts hiX9_box_X9 hown hK hP 0 rfl rfl 7 (by decide) (hts (.fieldLink RX9 25 "OneHandsetModel" "leads" "[I") (List.mem_of_getElem? (i := 4) rfl)) (fun _ h9 => h9) rfl dX9_box_58 ?_
    refine lv_bipush (v := 32) hx hb dX9_box_61 (by decide) ?_
    refine lv_iload_n hx hb dX9_box_63 rfl (lv_at hl 2 rfl) ?_
    refine lv_imul hx hb dX9_box_64 ?_
    refine lv_iload hx hb dX9_box_65 (lv_at hl 0 rfl) ?_
    refine lv_iadd hx hb dX9_box_67 ?_
    refine lv_iconst (v := 0) hx hb dX9_box_68 (by decide) ?_
    refine va_iast hx hb hK hP hD hS 3 2 rfl rfl (by rcases wi_bx c_2 with rfl | rfl | rfl | rfl <;> exact vin (by decide)) dX9_box_69 (fun H locs hP hD hS => ?_)
    obtain ⟨g_42, hP, hD⟩ : ∃ g9 : Nat → Int32, va_P D vwCl [(h0, .inr (8, [.ref a0, .int 0, .ref a2, .int 0, .ref a4, .ref a5, .ref a6, .ref a7, .ref a8, .ref a9, .int 0, .int 0, .int 0, .int 0, .ref a14, .ref a15, .ref a16])), (a5, .inl (k5, 4, .inl g_7)), (a6, .inl (k6, 4, .inl g_8)), (a7, .inl (k7, 128, .inl g9)), (a8, .inl (k8, 4, .inl f8))] H ∧ va_D A [(h0, .inr (8, [.ref a0, .int 0, .ref a2, .int 0, .ref a4, .ref a5, .ref a6, .ref a7, .ref a8, .ref a9, .int 0, .int 0, .int 0, .int 0, .ref a14, .ref a15, .ref a16])), (a5, .inl (k5, 4, .inl g_7)), (a6, .inl (k6, 4, .inl g_8)), (a7, .inl (k7, 128, .inl g9)), (a8, .inl (k8, 4, .inl f8))] := ⟨_, hP, hD⟩
    refine lv_iinc (v := 17) (lv' := [(4, .int 17), (0, .ref h0), (1, .int bq), (2, .int k), (3, .int mm)]) hx hb dX9_box_70 hl (k := 0) rfl (by decide) (by decide) rfl (fun ls hl => ?_)
    refine lv_goto (tgt := 50) hx hb dX9_box_73 (by decide) ?_
    refine lv_iload hx hb dX9_box_50 (lv_at hl 0 rfl) ?_
    refine lv_bipush (v := 32) hx hb dX9_box_52 (by decide) ?_
    refine lv_icmp_ge (tgt := 76) hx hb dX9_box_54 (by decide) (fun c_43 => absurd c_43 (by decide)) (fun _ => ?_)
    refine lv_aload_n hx hb dX9_box_57 rfl (lv_at hl 1 rfl) ?_
    refine va_get (D := D) (ci := 8) (v := .ref a7) (C := RX9) (T := TX9) (N := 17) hx hb hts hiX9_box_X9 hown hK hP 0 rfl rfl 7 (by decide) (hts (.fieldLink RX9 25 "OneHandsetModel" "leads" "[I") (List.mem_of_getElem? (i := 4) rfl)) (fun _ h9 => h9) rfl dX9_box_58 ?_
    refine lv_bipush (v := 32) hx hb dX9_box_61 (by decide) ?_
    refine lv_iload_n hx hb dX9_box_63 rfl (lv_at hl 2 rfl) ?_
    refine lv_imul hx hb dX9_box_64 ?_
    refine lv_iload hx hb dX9_box_65 (lv_at hl 0 rfl) ?_
    refine lv_iadd hx hb dX9_box_67 ?_
    refine lv_iconst (v := 0) hx hb dX9_box_68 (by decide) ?_
    refine va_iast hx hb hK hP hD hS 3 2 rfl rfl (by rcases wi_bx c_2 with rfl | rfl | rfl | rfl <;> exact vin (by decide)) dX9_box_69 (fun H locs hP hD hS => ?_)
    obtain ⟨g_44, hP, hD⟩ : ∃ g9 : Nat → Int32, va_P D vwCl [(h0, .inr (8, [.ref a0, .int 0, .ref a2, .int 0, .ref a4, .ref a5, .ref a6, .ref a7, .ref a8, .ref a9, .int 0, .int 0, .int 0, .int 0, .ref a14, .ref a15, .ref a16])), (a5, .inl (k5, 4, .inl g_7)), (a6, .inl (k6, 4, .inl g_8)), (a7, .inl (k7, 128, .inl g9)), (a8, .inl (k8, 4, .inl f8))] H ∧ va_D A [(h0, .inr (8, [.ref a0, .int 0, .ref a2, .int 0, .ref a4, .ref a5, .ref a6, .ref a7, .ref a8, .ref a9, .int 0, .int 0, .int 0, .int 0, .ref a14, .ref a15, .ref a16])), (a5, .inl (k5, 4, .inl g_7)), (a6, .inl (k6, 4, .inl g_8)), (a7, .inl (k7, 128, .inl g9)), (a8, .inl (k8, 4, .inl f8))] := ⟨_, hP, hD⟩
    refine lv_iinc (v := 18) (lv' := [(4, .int 18), (0, .ref h0), (1, .int bq), (2, .int k), (3, .int mm)]) hx hb dX9_box_70 hl (k := 0) rfl (by decide) (by decide) rfl (fun ls hl => ?_)
    refine lv_goto (tgt := 50) hx hb dX9_box_73 (by decide) ?_
    refine lv_iload hx hb dX9_box_50 (lv_at hl 0 rfl) ?_
    refine lv_bipush (v := 32) hx hb dX9_box_52 (by decide) ?_
    refine lv_icmp_ge (tgt := 76) hx hb dX9_box_54 (by decide) (fun c_45 => absurd c_45 (by decide)) (fun _ => ?_)
    refine lv_aload_n hx hb dX9_box_57 rfl (lv_at hl 1 rfl) ?_
    refine va_get (D := D) (ci := 8) (v := .ref a7) (C := RX9) (T := TX9) (N := 17) hx hb hts hiX9_box_X9 hown hK hP 0 rfl rfl 7 (by decide) (hts (.fieldLink RX9 25 "OneHandsetModel" "leads" "[I") (List.mem_of_getElem? (i := 4) rfl)) (fun _ h9 => h9) rfl dX9_box_58 ?_
    refine lv_bipush (v := 32) hx hb dX9_box_61 (by decide) ?_
    refine lv_iload_n hx hb dX9_box_63 rfl (lv_at hl 2 rfl) ?_
    refine lv_imul hx hb dX9_box_64 ?_
    refine lv_iload hx hb dX9_box_65 (lv_at hl 0 rfl) ?_
    refine lv_iadd hx hb dX9_box_67 ?_
    refine lv_iconst (v := 0) hx hb dX9_box_68 (by decide) ?_
    refine va_iast hx hb hK hP hD hS 3 2 rfl rfl (by rcases wi_bx c_2 with rfl | rfl | rfl | rfl <;> exact vin (by decide)) dX9_box_69 (fun H locs hP hD hS => ?_)
    obtain ⟨g_46, hP, hD⟩ : ∃ g9 : Nat → Int32, va_P D vwCl [(h0, .inr (8, [.ref a0, .int 0, .ref a2, .int 0, .ref a4, .ref a5, .ref a6, .ref a7, .ref a8, .ref a9, .int 0, .int 0, .int 0, .int 0, .ref a14, .ref a15, .ref a16])), (a5, .inl (k5, 4, .inl g_7)), (a6, .inl (k6, 4, .inl g_8)), (a7, .inl (k7, 128, .inl g9)), (a8, .inl (k8, 4, .inl f8))] H ∧ va_D A [(h0, .inr (8, [.ref a0, .int 0, .ref a2, .int 0, .ref a4, .ref a5, .ref a6, .ref a7, .ref a8, .ref a9, .int 0, .int 0, .int 0, .int 0, .ref a14, .ref a15, .ref a16])), (a5, .inl (k5, 4, .inl g_7)), (a6, .inl (k6, 4, .inl g_8)), (a7, .inl (k7, 128, .inl g9)), (a8, .inl (k8, 4, .inl f8))] := ⟨_, hP, hD⟩
    refine lv_iinc (v := 19) (lv' := [(4, .int 19), (0, .ref h0), (1, .int bq), (2, .int k), (3, .int mm)]) hx hb dX9_box_70 hl (k := 0) rfl (by decide) (by decide) rfl (fun ls hl => ?_)
    refine lv_goto (tgt := 50) hx hb dX9_box_73 (by decide) ?_
    refine lv_iload hx hb dX9_box_50 (lv_at hl 0 rfl) ?_
    refine lv_bipush (v := 32) hx hb dX9_box_52 (by decide) ?_
    refine lv_icmp_ge (tgt := 76) hx hb dX9_box_54 (by decide) (fun c_47 => absurd c_47 (by decide)) (fun _ => ?_)
    refine lv_aload_n hx hb dX9_box_57 rfl (lv_at hl 1 rfl) ?_
    refine va_get (D := D) (ci := 8) (v := .ref a7) (C := RX9) (T := TX9) (N := 17) hx hb hts hiX9_box_X9 hown hK hP 0 rfl rfl 7 (by decide) (hts (.fieldLink RX9 25 "OneHandsetModel" "leads" "[I") (List.mem_of_getElem? (i := 4) rfl)) (fun _ h9 => h9) rfl dX9_box_58 ?_
    refine lv_bipush (v := 32) hx hb dX9_box_61 (by decide) ?_
    refine lv_iload_n hx hb dX9_box_63 rfl (lv_at hl 2 rfl) ?_
    refine lv_imul hx hb dX9_box_64 ?_
    refine lv_iload hx hb dX9_box_65 (lv_at hl 0 rfl) ?_
    refine lv_iadd hx hb dX9_box_67 ?_
    refine lv_iconst (v := 0) hx hb dX9_box_68 (by decide) ?_
    refine va_iast hx hb hK hP hD hS 3 2 rfl rfl (by rcases wi_bx c_2 with rfl | rfl | rfl | rfl <;> exact vin (by decide)) dX9_box_69 (fun H locs hP hD hS => ?_)
    obtain ⟨g_48, hP, hD⟩ : ∃ g9 : Nat → Int32, va_P D vwCl [(h0, .inr (8, [.ref a0, .int 0, .ref a2, .int 0, .ref a4, .ref a5, .ref a6, .ref a7, .ref a8, .ref a9, .int 0, .int 0, .int 0, .int 0, .ref a14, .ref a15, .ref a16])), (a5, .inl (k5, 4, .inl g_7)), (a6, .inl (k6, 4, .inl g_8)), (a7, .inl (k7, 128, .inl g9)), (a8, .inl (k8, 4, .inl f8))] H ∧ va_D A [(h0, .inr (8, [.ref a0, .int 0, .ref a2, .int 0, .ref a4, .ref a5, .ref a6, .ref a7, .ref a8, .ref a9, .int 0, .int 0, .int 0, .int 0, .ref a14, .ref a15, .ref a16])), (a5, .inl (k5, 4, .inl g_7)), (a6, .inl (k6, 4, .inl g_8)), (a7, .inl (k7, 128, .inl g9)), (a8, .inl (k8, 4, .inl f8))] := ⟨_, hP, hD⟩
    refine lv_iinc (v := 20) (lv' := [(4, .int 20), (0, .ref h0), (1, .int bq), (2, .int k), (3, .int mm)]) hx hb dX9_box_70 hl (k := 0) rfl (by decide) (by decide) rfl (fun ls hl => ?_)
    refine lv_goto (tgt := 50) hx hb dX9_box_73 (by decide) ?_
    refine lv_iload hx hb dX9_box_50 (lv_at hl 0 rfl) ?_
    refine lv_bipush (v := 32) hx hb dX9_box_52 (by decide) ?_
    refine lv_icmp_ge (tgt := 76) hx hb dX9_box_54 (by decide) (fun c_49 => absurd c_49 (by decide)) (fun _ => ?_)
    refine lv_aload_n hx hb dX9_box_57 rfl (lv_at hl 1 rfl) ?_
    refine va_get (D := D) (ci := 8) (v := .ref a7) (C := RX9) (T := TX9) (N := 17) hx hb hts hiX9_box_X9 hown hK hP 0 rfl rfl 7 (by decide) (hts (.fieldLink RX9 25 "OneHandsetModel" "leads" "[I") (List.mem_of_getElem? (i := 4) rfl)) (fun _ h9 => h9) rfl dX9_box_58 ?_
    refine lv_bipush (v := 32) hx hb dX9_box_61 (by decide) ?_
    refine lv_iload_n hx hb dX9_box_63 rfl (lv_at hl 2 rfl) ?_
    refine lv_imul hx hb dX9_box_64 ?_
    refine lv_iload hx hb dX9_box_65 (lv_at hl 0 rfl) ?_
    refine lv_iadd hx hb dX9_box_67 ?_
    refine lv_iconst (v := 0) hx hb dX9_box_68 (by decide) ?_
    refine va_iast hx hb hK hP hD hS 3 2 rfl rfl (by rcases wi_bx c_2 with rfl | rfl | rfl | rfl <;> exact vin (by decide)) dX9_box_69 (fun H locs hP hD hS => ?_)
    obtain ⟨g_50, hP, hD⟩ : ∃ g9 : Nat → Int32, va_P D vwCl [(h0, .inr (8, [.ref a0, .int 0, .ref a2, .int 0, .ref a4, .ref a5, .ref a6, .ref a7, .ref a8, .ref a9, .int 0, .int 0, .int 0, .int 0, .ref a14, .ref a15, .ref a16])), (a5, .inl (k5, 4, .inl g_7)), (a6, .inl (k6, 4, .inl g_8)), (a7, .inl (k7, 128, .inl g9)), (a8, .inl (k8, 4, .inl f8))] H ∧ va_D A [(h0, .inr (8, [.ref a0, .int 0, .ref a2, .int 0, .ref a4, .ref a5, .ref a6, .ref a7, .ref a8, .ref a9, .int 0, .int 0, .int 0, .int 0, .ref a14, .ref a15, .ref a16])), (a5, .inl (k5, 4, .inl g_7)), (a6, .inl (k6, 4, .inl g_8)), (a7, .inl (k7, 128, .inl g9)), (a8, .inl (k8, 4, .inl f8))] := ⟨_, hP, hD⟩
    refine lv_iinc (v := 21) (lv' := [(4, .int 21), (0, .ref h0), (1, .int bq), (2, .int k), (3, .int mm)]) hx hb dX9_box_70 hl (k := 0) rfl (by decide) (by decide) rfl (fun ls hl => ?_)
    refine lv_goto (tgt := 50) hx hb dX9_box_73 (by decide) ?_
    refine lv_iload hx hb dX9_box_50 (lv_at hl 0 rfl) ?_
    refine lv_bipush (v := 32) hx hb dX9_box_52 (by decide) ?_
    refine lv_icmp_ge (tgt := 76) hx hb dX9_box_54 (by decide) (fun c_51 => absurd c_51 (by decide)) (fun _ => ?_)
    refine lv_aload_n hx hb dX9_box_57 rfl (lv_at hl 1 rfl) ?_
    refine va_get (D := D) (ci := 8) (v := .ref a7) (C := RX9) (T := TX9) (N := 17) hx hb hts hiX9_box_X9 hown hK hP 0 rfl rfl 7 (by decide) (hts (.fieldLink RX9 25 "OneHandsetModel" "leads" "[I") (List.mem_of_getElem? (i := 4) rfl)) (fun _ h9 => h9) rfl dX9_box_58 ?_
    refine lv_bipush (v := 32) hx hb dX9_box_61 (by decide) ?_
    refine lv_iload_n hx hb dX9_box_63 rfl (lv_at hl 2 rfl) ?_
    refine lv_imul hx hb dX9_box_64 ?_
    refine lv_iload hx hb dX9_box_65 (lv_at hl 0 rfl) ?_
    refine lv_iadd hx hb dX9_box_67 ?_
    refine lv_iconst (v := 0) hx hb dX9_box_68 (by decide) ?_
    refine va_iast hx hb hK hP hD hS 3 2 rfl rfl (by rcases wi_bx c_2 with rfl | rfl | rfl | rfl <;> exact vin (by decide)) dX9_box_69 (fun H locs hP hD hS => ?_)
    obtain ⟨g_52, hP, hD⟩ : ∃ g9 : Nat → Int32, va_P D vwCl [(h0, .inr (8, [.ref a0, .int 0, .ref a2, .int 0, .ref a4, .ref a5, .ref a6, .ref a7, .ref a8, .ref a9, .int 0, .int 0, .int 0, .int 0, .ref a14, .ref a15, .ref a16])), (a5, .inl (k5, 4, .inl g_7)), (a6, .inl (k6, 4, .inl g_8)), (a7, .inl (k7, 128, .inl g9)), (a8, .inl (k8, 4, .inl f8))] H ∧ va_D A [(h0, .inr (8, [.ref a0, .int 0, .ref a2, .int 0, .ref a4, .ref a5, .ref a6, .ref a7, .ref a8, .ref a9, .int 0, .int 0, .int 0, .int 0, .ref a14, .ref a15, .ref a16])), (a5, .inl (k5, 4, .inl g_7)), (a6, .inl (k6, 4, .inl g_8)), (a7, .inl (k7, 128, .inl g9)), (a8, .inl (k8, 4, .inl f8))] := ⟨_, hP, hD⟩
    refine lv_iinc (v := 22) (lv' := [(4, .int 22), (0, .ref h0), (1, .int bq), (2, .int k), (3, .int mm)]) hx hb dX9_box_70 hl (k := 0) rfl (by decide) (by decide) rfl (fun ls hl => ?_)
    refine lv_goto (tgt := 50) hx hb dX9_box_73 (by decide) ?_
    refine lv_iload hx hb dX9_box_50 (lv_at hl 0 rfl) ?_
    refine lv_bipush (v := 32) hx hb dX9_box_52 (by decide) ?_
    refine lv_icmp_ge (tgt := 76) hx hb dX9_box_54 (by decide) (fun c_53 => absurd c_53 (by decide)) (fun _ => ?_)
    refine lv_aload_n hx hb dX9_box_57 rfl (lv_at hl 1 rfl) ?_
    refine va_get (D := D) (ci := 8) (v := .ref a7) (C := RX9) (T := TX9) (N := 17) hx hb hts hiX9_box_X9 hown hK hP 0 rfl rfl 7 (by decide) (hts (.fieldLink RX9 25 "OneHandsetModel" "leads" "[I") (List.mem_of_getElem? (i := 4) rfl)) (fun _ h9 => h9) rfl dX9_box_58 ?_
    refine lv_bipush (v := 32) hx hb dX9_box_61 (by decide) ?_
    refine lv_iload_n hx hb dX9_box_63 rfl (lv_at hl 2 rfl) ?_
    refine lv_imul hx hb dX9_box_64 ?_
    refine lv_iload hx hb dX9_box_65 (lv_at hl 0 rfl) ?_
    refine lv_iadd hx hb dX9_box_67 ?_
    refine lv_iconst (v := 0) hx hb dX9_box_68 (by decide) ?_
    refine va_iast hx hb hK hP hD hS 3 2 rfl rfl (by rcases wi_bx c_2 with rfl | rfl | rfl | rfl <;> exact vin (by decide)) dX9_box_69 (fun H locs hP hD hS => ?_)
    obtain ⟨g_54, hP, hD⟩ : ∃ g9 : Nat → Int32, va_P D vwCl [(h0, .inr (8, [.ref a0, .int 0, .ref a2, .int 0, .ref a4, .ref a5, .ref a6, .ref a7, .ref a8, .ref a9, .int 0, .int 0, .int 0, .int 0, .ref a14, .ref a15, .ref a16])), (a5, .inl (k5, 4, .inl g_7)), (a6, .inl (k6, 4, .inl g_8)), (a7, .inl (k7, 128, .inl g9)), (a8, .inl (k8, 4, .inl f8))] H ∧ va_D A [(h0, .inr (8, [.ref a0, .int 0, .ref a2, .int 0, .ref a4, .ref a5, .ref a6, .ref a7, .ref a8, .ref a9, .int 0, .int 0, .int 0, .int 0, .ref a14, .ref a15, .ref a16])), (a5, .inl (k5, 4, .inl g_7)), (a6, .inl (k6, 4, .inl g_8)), (a7, .inl (k7, 128, .inl g9)), (a8, .inl (k8, 4, .inl f8))] := ⟨_, hP, hD⟩
    refine lv_iinc (v := 23) (lv' := [(4, .int 23), (0, .ref h0), (1, .int bq), (2, .int k), (3, .int mm)]) hx hb dX9_box_70 hl (k := 0) rfl (by decide) (by decide) rfl (fun ls hl => ?_)
    refine lv_goto (tgt := 50) hx hb dX9_box_73 (by decide) ?_
    refine lv_iload hx hb dX9_box_50 (lv_at hl 0 rfl) ?_
    refine lv_bipush (v := 32) hx hb dX9_box_52 (by decide) ?_
    refine lv_icmp_ge (tgt := 76) hx hb dX9_box_54 (by decide) (fun c_55 => absurd c_55 (by decide)) (fun _ => ?_)
    refine lv_aload_n hx hb dX9_box_57 rfl (lv_at hl 1 rfl) ?_
    refine va_get (D := D) (ci := 8) (v := .ref a7) (C := RX9) (T := TX9) (N := 17) hx hb hts hiX9_box_X9 hown hK hP 0 rfl rfl 7 (by decide) (hts (.fieldLink RX9 25 "OneHandsetModel" "leads" "[I") (List.mem_of_getElem? (i := 4) rfl)) (fun _ h9 => h9) rfl dX9_box_58 ?_
    refine lv_bipush (v := 32) hx hb dX9_box_61 (by decide) ?_
    refine lv_iload_n hx hb dX9_box_63 rfl (lv_at hl 2 rfl) ?_
    refine lv_imul hx hb dX9_box_64 ?_
    refine lv_iload hx hb dX9_box_65 (lv_at hl 0 rfl) ?_
    refine lv_iadd hx hb dX9_box_67 ?_
    refine lv_iconst (v := 0) hx hb dX9_box_68 (by decide) ?_
    refine va_iast hx hb hK hP hD hS 3 2 rfl rfl (by rcases wi_bx c_2 with rfl | rfl | rfl | rfl <;> exact vin (by decide)) dX9_box_69 (fun H locs hP hD hS => ?_)
    obtain ⟨g_56, hP, hD⟩ : ∃ g9 : Nat → Int32, va_P D vwCl [(h0, .inr (8, [.ref a0, .int 0, .ref a2, .int 0, .ref a4, .ref a5, .ref a6, .ref a7, .ref a8, .ref a9, .int 0, .int 0, .int 0, .int 0, .ref a14, .ref a15, .ref a16])), (a5, .inl (k5, 4, .inl g_7)), (a6, .inl (k6, 4, .inl g_8)), (a7, .inl (k7, 128, .inl g9)), (a8, .inl (k8, 4, .inl f8))] H ∧ va_D A [(h0, .inr (8, [.ref a0, .int 0, .ref a2, .int 0, .ref a4, .ref a5, .ref a6, .ref a7, .ref a8, .ref a9, .int 0, .int 0, .int 0, .int 0, .ref a14, .ref a15, .ref a16])), (a5, .inl (k5, 4, .inl g_7)), (a6, .inl (k6, 4, .inl g_8)), (a7, .inl (k7, 128, .inl g9)), (a8, .inl (k8, 4, .inl f8))] := ⟨_, hP, hD⟩
    refine lv_iinc (v := 24) (lv' := [(4, .int 24), (0, .ref h0), (1, .int bq), (2, .int k), (3, .int mm)]) hx hb dX9_box_70 hl (k := 0) rfl (by decide) (by decide) rfl (fun ls hl => ?_)
    refine lv_goto (tgt := 50) hx hb dX9_box_73 (by decide) ?_
    refine lv_iload hx hb dX9_box_50 (lv_at hl 0 rfl) ?_
    refine lv_bipush (v := 32) hx hb dX9_box_52 (by decide) ?_
    refine lv_icmp_ge (tgt := 76) hx hb dX9_box_54 (by decide) (fun c_57 => absurd c_57 (by decide)) (fun _ => ?_)
    refine lv_aload_n hx hb dX9_box_57 rfl (lv_at hl 1 rfl) ?_
    refine va_get (D := D) (ci := 8) (v := .ref a7) (C := RX9) (T := TX9) (N := 17) hx hb hts hiX9_box_X9 hown hK hP 0 rfl rfl 7 (by decide) (hts (.fieldLink RX9 25 "OneHandsetModel" "leads" "[I") (List.mem_of_getElem? (i := 4) rfl)) (fun _ h9 => h9) rfl dX9_box_58 ?_
    refine lv_bipush (v := 32) hx hb dX9_box_61 (by decide) ?_
    refine lv_iload_n hx hb dX9_box_63 rfl (lv_at hl 2 rfl) ?_
    refine lv_imul hx hb dX9_box_64 ?_
    refine lv_iload hx hb dX9_box_65 (lv_at hl 0 rfl) ?_
    refine lv_iadd hx hb dX9_box_67 ?_
    refine lv_iconst (v := 0) hx hb dX9_box_68 (by decide) ?_
    refine va_iast hx hb hK hP hD hS 3 2 rfl rfl (by rcases wi_bx c_2 with rfl | rfl | rfl | rfl <;> exact vin (by decide)) dX9_box_69 (fun H locs hP hD hS => ?_)
    obtain ⟨g_58, hP, hD⟩ : ∃ g9 : Nat → Int32, va_P D vwCl [(h0, .inr (8, [.ref a0, .int 0, .ref a2, .int 0, .ref a4, .ref a5, .ref a6, .ref a7, .ref a8, .ref a9, .int 0, .int 0, .int 0, .int 0, .ref a14, .ref a15, .ref a16])), (a5, .inl (k5, 4, .inl g_7)), (a6, .inl (k6, 4, .inl g_8)), (a7, .inl (k7, 128, .inl g9)), (a8, .inl (k8, 4, .inl f8))] H ∧ va_D A [(h0, .inr (8, [.ref a0, .int 0, .ref a2, .int 0, .ref a4, .ref a5, .ref a6, .ref a7, .ref a8, .ref a9, .int 0, .int 0, .int 0, .int 0, .ref a14, .ref a15, .ref a16])), (a5, .inl (k5, 4, .inl g_7)), (a6, .inl (k6, 4, .inl g_8)), (a7, .inl (k7, 128, .inl g9)), (a8, .inl (k8, 4, .inl f8))] := ⟨_, hP, hD⟩
    refine lv_iinc (v := 25) (lv' := [(4, .int 25), (0, .ref h0), (1, .int bq), (2, .int k), (3, .int mm)]) hx hb dX9_box_70 hl (k := 0) rfl (by decide) (by decide) rfl (fun ls hl => ?_)
    refine lv_goto (tgt := 50) hx hb dX9_box_73 (by decide) ?_
    refine lv_iload hx hb dX9_box_50 (lv_at hl 0 rfl) ?_
    refine lv_bipush (v := 32) hx hb dX9_box_52 (by decide) ?_
    refine lv_icmp_ge (tgt := 76) hx hb dX9_box_54 (by decide) (fun c_59 => absurd c_59 (by decide)) (fun _ => ?_)
    refine lv_aload_n hx hb dX9_box_57 rfl (lv_at hl 1 rfl) ?_
    refine va_get (D := D) (ci := 8) (v := .ref a7) (C := RX9) (T := TX9) (N := 17) hx hb hts hiX9_box_X9 hown hK hP 0 rfl rfl 7 (by decide) (hts (.fieldLink RX9 25 "OneHandsetModel" "leads" "[I") (List.mem_of_getElem? (i := 4) rfl)) (fun _ h9 => h9) rfl dX9_box_58 ?_
    refine lv_bipush (v := 32) hx hb dX9_box_61 (by decide) ?_
    refine lv_iload_n hx hb dX9_box_63 rfl (lv_at hl 2 rfl) ?_
    refine lv_imul hx hb dX9_box_64 ?_
    refine lv_iload hx hb dX9_box_65 (lv_at hl 0 rfl) ?_
    refine lv_iadd hx hb dX9_box_67 ?_
    refine lv_iconst (v := 0) hx hb dX9_box_68 (by decide) ?_
    refine va_iast hx hb hK hP hD hS 3 2 rfl rfl (by rcases wi_bx c_2 with rfl | rfl | rfl | rfl <;> exact vin (by decide)) dX9_box_69 (fun H locs hP hD hS => ?_)
    obtain ⟨g_60, hP, hD⟩ : ∃ g9 : Nat → Int32, va_P D vwCl [(h0, .inr (8, [.ref a0, .int 0, .ref a2, .int 0, .ref a4, .ref a5, .ref a6, .ref a7, .ref a8, .ref a9, .int 0, .int 0, .int 0, .int 0, .ref a14, .ref a15, .ref a16])), (a5, .inl (k5, 4, .inl g_7)), (a6, .inl (k6, 4, .inl g_8)), (a7, .inl (k7, 128, .inl g9)), (a8, .inl (k8, 4, .inl f8))] H ∧ va_D A [(h0, .inr (8, [.ref a0, .int 0, .ref a2, .int 0, .ref a4, .ref a5, .ref a6, .ref a7, .ref a8, .ref a9, .int 0, .int 0, .int 0, .int 0, .ref a14, .ref a15, .ref a16])), (a5, .inl (k5, 4, .inl g_7)), (a6, .inl (k6, 4, .inl g_8)), (a7, .inl (k7, 128, .inl g9)), (a8, .inl (k8, 4, .inl f8))] := ⟨_, hP, hD⟩
    refine lv_iinc (v := 26) (lv' := [(4, .int 26), (0, .ref h0), (1, .int bq), (2, .int k), (3, .int mm)]) hx hb dX9_box_70 hl (k := 0) rfl (by decide) (by decide) rfl (fun ls hl => ?_)
    refine lv_goto (tgt := 50) hx hb dX9_box_73 (by decide) ?_
    refine lv_iload hx hb dX9_box_50 (lv_at hl 0 rfl) ?_
    refine lv_bipush (v := 32) hx hb dX9_box_52 (by decide) ?_
    refine lv_icmp_ge (tgt := 76) hx hb dX9_box_54 (by decide) (fun c_61 => absurd c_61 (by decide)) (fun _ => ?_)
    refine lv_aload_n hx hb dX9_box_57 rfl (lv_at hl 1 rfl) ?_
    refine va_get (D := D) (ci := 8) (v := .ref a7) (C := RX9) (T := TX9) (N := 17) hx hb hts hiX9_box_X9 hown hK hP 0 rfl rfl 7 (by decide) (hts (.fieldLink RX9 25 "OneHandsetModel" "leads" "[I") (List.mem_of_getElem? (i := 4) rfl)) (fun _ h9 => h9) rfl dX9_box_58 ?_
    refine lv_bipush (v := 32) hx hb dX9_box_61 (by decide) ?_
    refine lv_iload_n hx hb dX9_box_63 rfl (lv_at hl 2 rfl) ?_
    refine lv_imul hx hb dX9_box_64 ?_
    refine lv_iload hx hb dX9_box_65 (lv_at hl 0 rfl) ?_
    refine lv_iadd hx hb dX9_box_67 ?_
    refine lv_iconst (v := 0) hx hb dX9_box_68 (by decide) ?_
    refine va_iast hx hb hK hP hD hS 3 2 rfl rfl (by rcases wi_bx c_2 with rfl | rfl | rfl | rfl <;> exact vin (by decide)) dX9_box_69 (fun H locs hP hD hS => ?_)
    obtain ⟨g_62, hP, hD⟩ : ∃ g9 : Nat → Int32, va_P D vwCl [(h0, .inr (8, [.ref a0, .int 0, .ref a2, .int 0, .ref a4, .ref a5, .ref a6, .ref a7, .ref a8, .ref a9, .int 0, .int 0, .int 0, .int 0, .ref a14, .ref a15, .ref a16])), (a5, .inl (k5, 4, .inl g_7)), (a6, .inl (k6, 4, .inl g_8)), (a7, .inl (k7, 128, .inl g9)), (a8, .inl (k8, 4, .inl f8))] H ∧ va_D A [(h0, .inr (8, [.ref a0, .int 0, .ref a2, .int 0, .ref a4, .ref a5, .ref a6, .ref a7, .ref a8, .ref a9, .int 0, .int 0, .int 0, .int 0, .ref a14, .ref a15, .ref a16])), (a5, .inl (k5, 4, .inl g_7)), (a6, .inl (k6, 4, .inl g_8)), (a7, .inl (k7, 128, .inl g9)), (a8, .inl (k8, 4, .inl f8))] := ⟨_, hP, hD⟩
    refine lv_iinc (v := 27) (lv' := [(4, .int 27), (0, .ref h0), (1, .int bq), (2, .int k), (3, .int mm)]) hx hb dX9_box_70 hl (k := 0) rfl (by decide) (by decide) rfl (fun ls hl => ?_)
    refine lv_goto (tgt := 50) hx hb dX9_box_73 (by decide) ?_
    refine lv_iload hx hb dX9_box_50 (lv_at hl 0 rfl) ?_
    refine lv_bipush (v := 32) hx hb dX9_box_52 (by decide) ?_
    refine lv_icmp_ge (tgt := 76) hx hb dX9_box_54 (by decide) (fun c_63 => absurd c_63 (by decide)) (fun _ => ?_)
    refine lv_aload_n hx hb dX9_box_57 rfl (lv_at hl 1 rfl) ?_
    refine va_get (D := D) (ci := 8) (v := .ref a7) (C := RX9) (T := TX9) (N := 17) hx hb hts hiX9_box_X9 hown hK hP 0 rfl rfl 7 (by decide) (hts (.fieldLink RX9 25 "OneHandsetModel" "leads" "[I") (List.mem_of_getElem? (i := 4) rfl)) (fun _ h9 => h9) rfl dX9_box_58 ?_
    refine lv_bipush (v := 32) hx hb dX9_box_61 (by decide) ?_
    refine lv_iload_n hx hb dX9_box_63 rfl (lv_at hl 2 rfl) ?_
    refine lv_imul hx hb dX9_box_64 ?_
    refine lv_iload hx hb dX9_box_65 (lv_at hl 0 rfl) ?_
    refine lv_iadd hx hb dX9_box_67 ?_
    refine lv_iconst (v := 0) hx hb dX9_box_68 (by decide) ?_
    refine va_iast hx hb hK hP hD hS 3 2 rfl rfl (by rcases wi_bx c_2 with rfl | rfl | rfl | rfl <;> exact vin (by decide)) dX9_box_69 (fun H locs hP hD hS => ?_)
    obtain ⟨g_64, hP, hD⟩ : ∃ g9 : Nat → Int32, va_P D vwCl [(h0, .inr (8, [.ref a0, .int 0, .ref a2, .int 0, .ref a4, .ref a5, .ref a6, .ref a7, .ref a8, .ref a9, .int 0, .int 0, .int 0, .int 0, .ref a14, .ref a15, .ref a16])), (a5, .inl (k5, 4, .inl g_7)), (a6, .inl (k6, 4, .inl g_8)), (a7, .inl (k7, 128, .inl g9)), (a8, .inl (k8, 4, .inl f8))] H ∧ va_D A [(h0, .inr (8, [.ref a0, .int 0, .ref a2, .int 0, .ref a4, .ref a5, .ref a6, .ref a7, .ref a8, .ref a9, .int 0, .int 0, .int 0, .int 0, .ref a14, .ref a15, .ref a16])), (a5, .inl (k5, 4, .inl g_7)), (a6, .inl (k6, 4, .inl g_8)), (a7, .inl (k7, 128, .inl g9)), (a8, .inl (k8, 4, .inl f8))] := ⟨_, hP, hD⟩
    refine lv_iinc (v := 28) (lv' := [(4, .int 28), (0, .ref h0), (1, .int bq), (2, .int k), (3, .int mm)]) hx hb dX9_box_70 hl (k := 0) rfl (by decide) (by decide) rfl (fun ls hl => ?_)
    refine lv_goto (tgt := 50) hx hb dX9_box_73 (by decide) ?_
    refine lv_iload hx hb dX9_box_50 (lv_at hl 0 rfl) ?_
    refine lv_bipush (v := 32) hx hb dX9_box_52 (by decide) ?_
    refine lv_icmp_ge (tgt := 76) hx hb dX9_box_54 (by decide) (fun c_65 => absurd c_65 (by decide)) (fun _ => ?_)
    refine lv_aload_n hx hb dX9_box_57 rfl (lv_at hl 1 rfl) ?_
    refine va_get (D := D) (ci := 8) (v := .ref a7) (C := RX9) (T := TX9) (N := 17) hx hb hts hiX9_box_X9 hown hK hP 0 rfl rfl 7 (by decide) (hts (.fieldLink RX9 25 "OneHandsetModel" "leads" "[I") (List.mem_of_getElem? (i := 4) rfl)) (fun _ h9 => h9) rfl dX9_box_58 ?_
    refine lv_bipush (v := 32) hx hb dX9_box_61 (by decide) ?_
    refine lv_iload_n hx hb dX9_box_63 rfl (lv_at hl 2 rfl) ?_
    refine lv_imul hx hb dX9_box_64 ?_
    refine lv_iload hx hb dX9_box_65 (lv_at hl 0 rfl) ?_
    refine lv_iadd hx hb dX9_box_67 ?_
    refine lv_iconst (v := 0) hx hb dX9_box_68 (by decide) ?_
    refine va_iast hx hb hK hP hD hS 3 2 rfl rfl (by rcases wi_bx c_2 with rfl | rfl | rfl | rfl <;> exact vin (by decide)) dX9_box_69 (fun H locs hP hD hS => ?_)
    obtain ⟨g_66, hP, hD⟩ : ∃ g9 : Nat → Int32, va_P D vwCl [(h0, .inr (8, [.ref a0, .int 0, .ref a2, .int 0, .ref a4, .ref a5, .ref a6, .ref a7, .ref a8, .ref a9, .int 0, .int 0, .int 0, .int 0, .ref a14, .ref a15, .ref a16])), (a5, .inl (k5, 4, .inl g_7)), (a6, .inl (k6, 4, .inl g_8)), (a7, .inl (k7, 128, .inl g9)), (a8, .inl (k8, 4, .inl f8))] H ∧ va_D A [(h0, .inr (8, [.ref a0, .int 0, .ref a2, .int 0, .ref a4, .ref a5, .ref a6, .ref a7, .ref a8, .ref a9, .int 0, .int 0, .int 0, .int 0, .ref a14, .ref a15, .ref a16])), (a5, .inl (k5, 4, .inl g_7)), (a6, .inl (k6, 4, .inl g_8)), (a7, .inl (k7, 128, .inl g9)), (a8, .inl (k8, 4, .inl f8))] := ⟨_, hP, hD⟩
    refine lv_iinc (v := 29) (lv' := [(4, .int 29), (0, .ref h0), (1, .int bq), (2, .int k), (3, .int mm)]) hx hb dX9_box_70 hl (k := 0) rfl (by decide) (by decide) rfl (fun ls hl => ?_)
    refine lv_goto (tgt := 50) hx hb dX9_box_73 (by decide) ?_
    refine lv_iload hx hb dX9_box_50 (lv_at hl 0 rfl) ?_
    refine lv_bipush (v := 32) hx hb dX9_box_52 (by decide) ?_
    refine lv_icmp_ge (tgt := 76) hx hb dX9_box_54 (by decide) (fun c_67 => absurd c_67 (by decide)) (fun _ => ?_)
    refine lv_aload_n hx hb dX9_box_57 rfl (lv_at hl 1 rfl) ?_
    refine va_get (D := D) (ci := 8) (v := .ref a7) (C := RX9) (T := TX9) (N := 17) hx hb hts hiX9_box_X9 hown hK hP 0 rfl rfl 7 (by decide) (hts (.fieldLink RX9 25 "OneHandsetModel" "leads" "[I") (List.mem_of_getElem? (i := 4) rfl)) (fun _ h9 => h9) rfl dX9_box_58 ?_
    refine lv_bipush (v := 32) hx hb dX9_box_61 (by decide) ?_
    refine lv_iload_n hx hb dX9_box_63 rfl (lv_at hl 2 rfl) ?_
    refine lv_imul hx hb dX9_box_64 ?_
    refine lv_iload hx hb dX9_box_65 (lv_at hl 0 rfl) ?_
    refine lv_iadd hx hb dX9_box_67 ?_
    refine lv_iconst (v := 0) hx hb dX9_box_68 (by decide) ?_
    refine va_iast hx hb hK hP hD hS 3 2 rfl rfl (by rcases wi_bx c_2 with rfl | rfl | rfl | rfl <;> exact vin (by decide)) dX9_box_69 (fun H locs hP hD hS => ?_)
    obtain ⟨g_68, hP, hD⟩ : ∃ g9 : Nat → Int32, va_P D vwCl [(h0, .inr (8, [.ref a0, .int 0, .ref a2, .int 0, .ref a4, .ref a5, .ref a6, .ref a7, .ref a8, .ref a9, .int 0, .int 0, .int 0, .int 0, .ref a14, .ref a15, .ref a16])), (a5, .inl (k5, 4, .inl g_7)), (a6, .inl (k6, 4, .inl g_8)), (a7, .inl (k7, 128, .inl g9)), (a8, .inl (k8, 4, .inl f8))] H ∧ va_D A [(h0, .inr (8, [.ref a0, .int 0, .ref a2, .int 0, .ref a4, .ref a5, .ref a6, .ref a7, .ref a8, .ref a9, .int 0, .int 0, .int 0, .int 0, .ref a14, .ref a15, .ref a16])), (a5, .inl (k5, 4, .inl g_7)), (a6, .inl (k6, 4, .inl g_8)), (a7, .inl (k7, 128, .inl g9)), (a8, .inl (k8, 4, .inl f8))] := ⟨_, hP, hD⟩
    refine lv_iinc (v := 30) (lv' := [(4, .int 30), (0, .ref h0), (1, .int bq), (2, .int k), (3, .int mm)]) hx hb dX9_box_70 hl (k := 0) rfl (by decide) (by decide) rfl (fun ls hl => ?_)
    refine lv_goto (tgt := 50) hx hb dX9_box_73 (by decide) ?_
    refine lv_iload hx hb dX9_box_50 (lv_at hl 0 rfl) ?_
    refine lv_bipush (v := 32) hx hb dX9_box_52 (by decide) ?_
    refine lv_icmp_ge (tgt := 76) hx hb dX9_box_54 (by decide) (fun c_69 => absurd c_69 (by decide)) (fun _ => ?_)
    refine lv_aload_n hx hb dX9_box_57 rfl (lv_at hl 1 rfl) ?_
    refine va_get (D := D) (ci := 8) (v := .ref a7) (C := RX9) (T := TX9) (N := 17) hx hb hts hiX9_box_X9 hown hK hP 0 rfl rfl 7 (by decide) (hts (.fieldLink RX9 25 "OneHandsetModel" "leads" "[I") (List.mem_of_getElem? (i := 4) rfl)) (fun _ h9 => h9) rfl dX9_box_58 ?_
    refine lv_bipush (v := 32) hx hb dX9_box_61 (by decide) ?_
    refine lv_iload_n hx hb dX9_box_63 rfl (lv_at hl 2 rfl) ?_
    refine lv_imul hx hb dX9_box_64 ?_
    refine lv_iload hx hb dX9_box_65 (lv_at hl 0 rfl) ?_
    refine lv_iadd hx hb dX9_box_67 ?_
    refine lv_iconst (v := 0) hx hb dX9_box_68 (by decide) ?_
    refine va_iast hx hb hK hP hD hS 3 2 rfl rfl (by rcases wi_bx c_2 with rfl | rfl | rfl | rfl <;> exact vin (by decide)) dX9_box_69 (fun H locs hP hD hS => ?_)
    obtain ⟨g_70, hP, hD⟩ : ∃ g9 : Nat → Int32, va_P D vwCl [(h0, .inr (8, [.ref a0, .int 0, .ref a2, .int 0, .ref a4, .ref a5, .ref a6, .ref a7, .ref a8, .ref a9, .int 0, .int 0, .int 0, .int 0, .ref a14, .ref a15, .ref a16])), (a5, .inl (k5, 4, .inl g_7)), (a6, .inl (k6, 4, .inl g_8)), (a7, .inl (k7, 128, .inl g9)), (a8, .inl (k8, 4, .inl f8))] H ∧ va_D A [(h0, .inr (8, [.ref a0, .int 0, .ref a2, .int 0, .ref a4, .ref a5, .ref a6, .ref a7, .ref a8, .ref a9, .int 0, .int 0, .int 0, .int 0, .ref a14, .ref a15, .ref a16])), (a5, .inl (k5, 4, .inl g_7)), (a6, .inl (k6, 4, .inl g_8)), (a7, .inl (k7, 128, .inl g9)), (a8, .inl (k8, 4, .inl f8))] := ⟨_, hP, hD⟩
    refine lv_iinc (v := 31) (lv' := [(4, .int 31), (0, .ref h0), (1, .int bq), (2, .int k), (3, .int mm)]) hx hb dX9_box_70 hl (k := 0) rfl (by decide) (by decide) rfl (fun ls hl => ?_)
    refine lv_goto (tgt := 50) hx hb dX9_box_73 (by decide) ?_
    refine lv_iload hx hb dX9_box_50 (lv_at hl 0 rfl) ?_
    refine lv_bipush (v := 32) hx hb dX9_box_52 (by decide) ?_
    refine lv_icmp_ge (tgt := 76) hx hb dX9_box_54 (by decide) (fun c_71 => absurd c_71 (by decide)) (fun _ => ?_)
    refine lv_aload_n hx hb dX9_box_57 rfl (lv_at hl 1 rfl) ?_
    refine va_get (D := D) (ci := 8) (v := .ref a7) (C := RX9) (T := TX9) (N := 17) hx hb hts hiX9_box_X9 hown hK hP 0 rfl rfl 7 (by decide) (hts (.fieldLink RX9 25 "OneHandsetModel" "leads" "[I") (List.mem_of_getElem? (i := 4) rfl)) (fun _ h9 => h9) rfl dX9_box_58 ?_
    refine lv_bipush (v := 32) hx hb dX9_box_61 (by decide) ?_
    refine lv_iload_n hx hb dX9_box_63 rfl (lv_at hl 2 rfl) ?_
    refine lv_imul hx hb dX9_box_64 ?_
    refine lv_iload hx hb dX9_box_65 (lv_at hl 0 rfl) ?_
    refine lv_iadd hx hb dX9_box_67 ?_
    refine lv_iconst (v := 0) hx hb dX9_box_68 (by decide) ?_
    refine va_iast hx hb hK hP hD hS 3 2 rfl rfl (by rcases wi_bx c_2 with rfl | rfl | rfl | rfl <;> exact vin (by decide)) dX9_box_69 (fun H locs hP hD hS => ?_)
    obtain ⟨g_72, hP, hD⟩ : ∃ g9 : Nat → Int32, va_P D vwCl [(h0, .inr (8, [.ref a0, .int 0, .ref a2, .int 0, .ref a4, .ref a5, .ref a6, .ref a7, .ref a8, .ref a9, .int 0, .int 0, .int 0, .int 0, .ref a14, .ref a15, .ref a16])), (a5, .inl (k5, 4, .inl g_7)), (a6, .inl (k6, 4, .inl g_8)), (a7, .inl (k7, 128, .inl g9)), (a8, .inl (k8, 4, .inl f8))] H ∧ va_D A [(h0, .inr (8, [.ref a0, .int 0, .ref a2, .int 0, .ref a4, .ref a5, .ref a6, .ref a7, .ref a8, .ref a9, .int 0, .int 0, .int 0, .int 0, .ref a14, .ref a15, .ref a16])), (a5, .inl (k5, 4, .inl g_7)), (a6, .inl (k6, 4, .inl g_8)), (a7, .inl (k7, 128, .inl g9)), (a8, .inl (k8, 4, .inl f8))] := ⟨_, hP, hD⟩
    refine lv_iinc (v := 32) (lv' := [(4, .int 32), (0, .ref h0), (1, .int bq), (2, .int k), (3, .int mm)]) hx hb dX9_box_70 hl (k := 0) rfl (by decide) (by decide) rfl (fun ls hl => ?_)
    refine lv_goto (tgt := 50) hx hb dX9_box_73 (by decide) ?_
    refine lv_iload hx hb dX9_box_50 (lv_at hl 0 rfl) ?_
    refine lv_bipush (v := 32) hx hb dX9_box_52 (by decide) ?_
    refine lv_icmp_ge (tgt := 76) hx hb dX9_box_54 (by decide) (fun _ => ?_) (fun c_73 => absurd (by decide) c_73)
    refine lv_aload_n hx hb dX9_box_76 rfl (lv_at hl 1 rfl) ?_
    refine va_get (D := D) (ci := 8) (v := .ref a8) (C := RX9) (T := TX9) (N := 17) hx hb hts hiX9_box_X9 hown hK hP 0 rfl rfl 8 (by decide) (hts (.fieldLink RX9 28 "OneHandsetModel" "sets" "[I") (List.mem_of_getElem? (i := 5) rfl)) (fun _ h9 => h9) rfl dX9_box_77 ?_
    refine lv_iload_n hx hb dX9_box_80 rfl (lv_at hl 2 rfl) ?_
    refine lv_iconst (v := 1) hx hb dX9_box_81 (by decide) ?_
    refine lv_iload_n hx hb dX9_box_82 rfl (lv_at hl 3 rfl) ?_
    refine lv_ishl hx hb dX9_box_83 ?_
    refine lv_iconst (v := 1) hx hb dX9_box_84 (by decide) ?_
    refine lv_isub hx hb dX9_box_85 ?_
    refine va_iast hx hb hK hP hD hS 4 3 rfl rfl (wi_in c_2) dX9_box_86 (fun H locs hP hD hS => ?_)
    obtain ⟨g_74, hP, hD⟩ : ∃ g9 : Nat → Int32, va_P D vwCl [(h0, .inr (8, [.ref a0, .int 0, .ref a2, .int 0, .ref a4, .ref a5, .ref a6, .ref a7, .ref a8, .ref a9, .int 0, .int 0, .int 0, .int 0, .ref a14, .ref a15, .ref a16])), (a5, .inl (k5, 4, .inl g_7)), (a6, .inl (k6, 4, .inl g_8)), (a7, .inl (k7, 128, .inl g_72)), (a8, .inl (k8, 4, .inl g9))] H ∧ va_D A [(h0, .inr (8, [.ref a0, .int 0, .ref a2, .int 0, .ref a4, .ref a5, .ref a6, .ref a7, .ref a8, .ref a9, .int 0, .int 0, .int 0, .int 0, .ref a14, .ref a15, .ref a16])), (a5, .inl (k5, 4, .inl g_7)), (a6, .inl (k6, 4, .inl g_8)), (a7, .inl (k7, 128, .inl g_72)), (a8, .inl (k8, 4, .inl g9))] := ⟨_, hP, hD⟩
    refine lv_iconst (v := 1) hx hb dX9_box_87 (by decide) ?_
    exact ret_i hx hb hr hlocks rfl (u := ()) (by simp [bxS, c_2, c_4, c_6]) (hP.sub [] rfl) (hK.sub [] rfl) (hD.sub [] (by decide) rfl) hS (Nat.le_of_ble_eq_true rfl) (Nat.le_of_ble_eq_true rfl) dX9_box_88
  refine lv_iconst (v := 0) hx hb dX9_box_31 (by decide) ?_
  exact ret_i hx hb hr hlocks rfl (u := ()) (by simp [bxS, c_2, c_4, c_6]) (hP.sub [] rfl) (hK.sub [] rfl) (hD.sub [] (by decide) rfl) hS (Nat.le_of_ble_eq_true rfl) (Nat.le_of_ble_eq_true rfl) dX9_box_32
theorem hiX9_lead_X9 : ∀ w ∈ wsX90, w ∈ wsX9_lead := mem_pl [12, 13, 14, 15, 16, 17, 18, 19, 20, 21, 22, 23, 24, 25, 26, 27, 28] rfl
set_option maxHeartbeats 4000000 in
set_option maxRecDepth 100000 in
theorem c_X9_lead (l : Launch) (D : va_G) (sz : Nat) (h0 : Nat) (a0 : Nat) (a2 : Nat) (a4 : Nat) (a5 : Nat) (a6 : Nat) (a7 : Nat) (a8 : Nat) (a9 : Nat) (a14 : Nat) (a15 : Nat) (a16 : Nat) (th : Int32) (k5 : ClassId) (k6 : ClassId) (k7 : ClassId) (f5 : Nat → Int32) (f6 : Nat → Int32) (f7 : Nat → Int32) (bq : Int32) (x : Int32) (y : Int32) (z : Int32) (hs5 : ∀ k, k < 4 → f5 k = 1) (hs6 : ∀ k, k < 4 → f6 k = 1) (hs7 : ∀ k, k < 128 → f7 k = 0) : Ci l yX9_lead wsX9_lead ({ frames := 2, cells := 0, slots := 0, locals := 42 } : Room) D [.ref h0, .int bq, .int x, .int y, .int z] [(h0, .inr (8, [.ref a0, .int 0, .ref a2, .int 0, .ref a4, .ref a5, .ref a6, .ref a7, .ref a8, .ref a9, .int 0, .int 0, .int th, .int 0, .ref a14, .ref a15, .ref a16])), (a5, .inl (k5, 4, .inl f5)), (a6, .inl (k6, 4, .inl f6)), (a7, .inl (k7, 128, .inl f7))] [(k5, .int), (k6, .int), (k7, .int)] sz (fun (r : Int32) => fun (_ : Unit) => r = ldS bq x y z) (fun (_ : Unit) => []) (fun (_ : Unit) => []) := by
  refine ct_i (cc := cX9_lead) (maxL := 5) (ret := (some .boolean)) (by decide) rfl (Nat.le_of_ble_eq_true rfl) ?_
  intro p e s m below meth c A ls H hx hb hr hts hown hml hlocks hin hA hS hP hK hD hNW hl hAe hsz
  have hl : lv_has ls 5 [(0, .ref h0), (1, .int bq), (2, .int x), (3, .int y), (4, .int z)] := hl
  refine lv_aload_n hx hb dX9_lead_0 rfl (lv_at hl 0 rfl) ?_
  refine lv_iconst (v := 0) hx hb dX9_lead_1 (by decide) ?_
  refine va_put (D := D) (ci := 8) (v := .int 0) (ty := .int) (C := RX9) (T := TX9) (N := 17) hx hb hts hiX9_lead_X9 tyX9 tyX9_ok nmX9 hown hK hP hD hS 0 rfl rfl 12 (by decide) (hts (.fieldLink RX9 43 "OneHandsetModel" "thrown" "I") (List.mem_of_getElem? (i := 1) rfl)) (fun _ h9 => h9) rfl (by decide +kernel) rfl rfl (Nat.le_of_ble_eq_true rfl) dX9_lead_2 (fun H locs hP hD hS => ?_)
  have hP : va_P D vwCl [(h0, .inr (8, [.ref a0, .int 0, .ref a2, .int 0, .ref a4, .ref a5, .ref a6, .ref a7, .ref a8, .ref a9, .int 0, .int 0, .int 0, .int 0, .ref a14, .ref a15, .ref a16])), (a5, .inl (k5, 4, .inl f5)), (a6, .inl (k6, 4, .inl f6)), (a7, .inl (k7, 128, .inl f7))] H := hP
  have hD : va_D A [(h0, .inr (8, [.ref a0, .int 0, .ref a2, .int 0, .ref a4, .ref a5, .ref a6, .ref a7, .ref a8, .ref a9, .int 0, .int 0, .int 0, .int 0, .ref a14, .ref a15, .ref a16])), (a5, .inl (k5, 4, .inl f5)), (a6, .inl (k6, 4, .inl f6)), (a7, .inl (k7, 128, .inl f7))] := hD
  refine lv_iload_n hx hb dX9_lead_5 rfl (lv_at hl 1 rfl) ?_
  refine go_i (wr := [(h0, .inr (8, [.ref a0, .int 0, .ref a2, .int 0, .ref a4, .ref a5, .ref a6, .ref a7, .ref a8, .ref a9, .int 0, .int 0, .int 0, .int 0, .ref a14, .ref a15, .ref a16])), (a5, .inl (k5, 4, .inl f5)), (a6, .inl (k6, 4, .inl f6)), (a7, .inl (k7, 128, .inl f7))]) (tysr := [(k5, .int), (k6, .int), (k7, .int)]) hP hD hS hA hK [] [0, 1, 2, 3] [0, 1, 2] rfl rfl (by decide) (by decide) rfl (va_runS (As := [.int bq]) (rest := []) ⟨hx, hb, hml, hown, hts⟩ (c_X9_isBox l D H.size bq ) (va_cwS 1 hts gX9_lead_X9_isBox rfl rfl rfl (by decide +kernel) ⟨Nat.le_of_ble_eq_true rfl, Nat.le_of_ble_eq_true rfl⟩) (st_preS hP hD hK hNW [] [] rfl rfl (by decide) rfl) rfl rfl hl.1 rfl (lv_room (Nat.le_of_ble_eq_true rfl)) dX9_lead_6 ⟨(Nat.le_of_ble_eq_true rfl), (Nat.le_of_ble_eq_true rfl)⟩) (fun r_1 u H locs hw hP hD hK hS => ?_)
  have hw : r_1 = wi bq 0 3 := hw
  subst hw
  have hP : va_P D vwCl [(h0, .inr (8, [.ref a0, .int 0, .ref a2, .int 0, .ref a4, .ref a5, .ref a6, .ref a7, .ref a8, .ref a9, .int 0, .int 0, .int 0, .int 0, .ref a14, .ref a15, .ref a16])), (a5, .inl (k5, 4, .inl f5)), (a6, .inl (k6, 4, .inl f6)), (a7, .inl (k7, 128, .inl f7))] H := hP
  have hD : va_D A [(h0, .inr (8, [.ref a0, .int 0, .ref a2, .int 0, .ref a4, .ref a5, .ref a6, .ref a7, .ref a8, .ref a9, .int 0, .int 0, .int 0, .int 0, .ref a14, .ref a15, .ref a16])), (a5, .inl (k5, 4, .inl f5)), (a6, .inl (k6, 4, .inl f6)), (a7, .inl (k7, 128, .inl f7))] := hD
  have hK : va_K D vwCl [(k5, .int), (k6, .int), (k7, .int)] s := hK
  refine lv_if_eq (tgt := 61) hx hb dX9_lead_9 (by decide) (fun c_2 => ?_) (fun c_2 => ?_)
  · refine lv_iconst (v := 0) hx hb dX9_lead_61 (by decide) ?_
    exact ret_i hx hb hr hlocks rfl (u := ()) (by simp [ldS, c_2]) (hP.sub [] rfl) (hK.sub [] rfl) (hD.sub [] (by decide) rfl) hS (Nat.le_of_ble_eq_true rfl) (Nat.le_of_ble_eq_true rfl) dX9_lead_62
  refine lv_iload_n hx hb dX9_lead_12 rfl (lv_at hl 2 rfl) ?_
  refine lv_iconst (v := 0) hx hb dX9_lead_13 (by decide) ?_
  refine lv_aload_n hx hb dX9_lead_14 rfl (lv_at hl 0 rfl) ?_
  refine va_get (D := D) (ci := 8) (v := .ref a5) (C := RX9) (T := TX9) (N := 17) hx hb hts hiX9_lead_X9 hown hK hP 0 rfl rfl 5 (by decide) (hts (.fieldLink RX9 19 "OneHandsetModel" "states" "[I") (List.mem_of_getElem? (i := 2) rfl)) (fun _ h9 => h9) rfl dX9_lead_15 ?_
  refine lv_iload_n hx hb dX9_lead_18 rfl (lv_at hl 1 rfl) ?_
  refine va_iald hx hb hK hP 1 0 rfl rfl (wi_in c_2) dX9_lead_19 ?_
  refine lv_topi (fun v_3 ev_3 => ?_)
  obtain rfl : v_3 = 1 := ev_3.trans (hs5 _ (wi_lt c_2))
  refine lv_iconst (v := 1) hx hb dX9_lead_20 (by decide) ?_
  refine lv_isub hx hb dX9_lead_21 ?_
  refine lv_topi (fun v_4 ev_4 => ?_)
  obtain rfl : v_4 = (0 : Int32) := ev_4.trans (by decide)
  refine go_i (wr := [(h0, .inr (8, [.ref a0, .int 0, .ref a2, .int 0, .ref a4, .ref a5, .ref a6, .ref a7, .ref a8, .ref a9, .int 0, .int 0, .int 0, .int 0, .ref a14, .ref a15, .ref a16])), (a5, .inl (k5, 4, .inl f5)), (a6, .inl (k6, 4, .inl f6)), (a7, .inl (k7, 128, .inl f7))]) (tysr := [(k5, .int), (k6, .int), (k7, .int)]) hP hD hS hA hK [] [0, 1, 2, 3] [0, 1, 2] rfl rfl (by decide) (by decide) rfl (va_runS (As := [.int x, .int 0, .int 0]) (rest := []) ⟨hx, hb, hml, hown, hts⟩ (c_X9_in l D H.size x 0 0 ) (va_cwS 3 hts gX9_lead_X9_in rfl rfl rfl (by decide +kernel) ⟨Nat.le_of_ble_eq_true rfl, Nat.le_of_ble_eq_true rfl⟩) (st_preS hP hD hK hNW [] [] rfl rfl (by decide) rfl) rfl rfl hl.1 rfl (lv_room (Nat.le_of_ble_eq_true rfl)) dX9_lead_22 ⟨(Nat.le_of_ble_eq_true rfl), (Nat.le_of_ble_eq_true rfl)⟩) (fun r_5 u H locs hw hP hD hK hS => ?_)
  have hw : r_5 = wi x 0 0 := hw
  subst hw
  have hP : va_P D vwCl [(h0, .inr (8, [.ref a0, .int 0, .ref a2, .int 0, .ref a4, .ref a5, .ref a6, .ref a7, .ref a8, .ref a9, .int 0, .int 0, .int 0, .int 0, .ref a14, .ref a15, .ref a16])), (a5, .inl (k5, 4, .inl f5)), (a6, .inl (k6, 4, .inl f6)), (a7, .inl (k7, 128, .inl f7))] H := hP
  have hD : va_D A [(h0, .inr (8, [.ref a0, .int 0, .ref a2, .int 0, .ref a4, .ref a5, .ref a6, .ref a7, .ref a8, .ref a9, .int 0, .int 0, .int 0, .int 0, .ref a14, .ref a15, .ref a16])), (a5, .inl (k5, 4, .inl f5)), (a6, .inl (k6, 4, .inl f6)), (a7, .inl (k7, 128, .inl f7))] := hD
  have hK : va_K D vwCl [(k5, .int), (k6, .int), (k7, .int)] s := hK
  refine lv_if_eq (tgt := 61) hx hb dX9_lead_25 (by decide) (fun c_6 => ?_) (fun c_6 => ?_)
  · refine lv_iconst (v := 0) hx hb dX9_lead_61 (by decide) ?_
    exact ret_i hx hb hr hlocks rfl (u := ()) (by simp [ldS, c_2, c_6]) (hP.sub [] rfl) (hK.sub [] rfl) (hD.sub [] (by decide) rfl) hS (Nat.le_of_ble_eq_true rfl) (Nat.le_of_ble_eq_true rfl) dX9_lead_62
  refine lv_iload_n hx hb dX9_lead_28 rfl (lv_at hl 3 rfl) ?_
  refine lv_iconst (v := 0) hx hb dX9_lead_29 (by decide) ?_
  refine lv_aload_n hx hb dX9_lead_30 rfl (lv_at hl 0 rfl) ?_
  refine va_get (D := D) (ci := 8) (v := .ref a6) (C := RX9) (T := TX9) (N := 17) hx hb hts hiX9_lead_X9 hown hK hP 0 rfl rfl 6 (by decide) (hts (.fieldLink RX9 22 "OneHandsetModel" "buttons" "[I") (List.mem_of_getElem? (i := 3) rfl)) (fun _ h9 => h9) rfl dX9_lead_31 ?_
  refine lv_iload_n hx hb dX9_lead_34 rfl (lv_at hl 1 rfl) ?_
  refine va_iald hx hb hK hP 2 1 rfl rfl (wi_in c_2) dX9_lead_35 ?_
  refine lv_topi (fun v_7 ev_7 => ?_)
  obtain rfl : v_7 = 1 := ev_7.trans (hs6 _ (wi_lt c_2))
  refine lv_iconst (v := 1) hx hb dX9_lead_36 (by decide) ?_
  refine lv_isub hx hb dX9_lead_37 ?_
  refine lv_topi (fun v_8 ev_8 => ?_)
  obtain rfl : v_8 = (0 : Int32) := ev_8.trans (by decide)
  refine go_i (wr := [(h0, .inr (8, [.ref a0, .int 0, .ref a2, .int 0, .ref a4, .ref a5, .ref a6, .ref a7, .ref a8, .ref a9, .int 0, .int 0, .int 0, .int 0, .ref a14, .ref a15, .ref a16])), (a5, .inl (k5, 4, .inl f5)), (a6, .inl (k6, 4, .inl f6)), (a7, .inl (k7, 128, .inl f7))]) (tysr := [(k5, .int), (k6, .int), (k7, .int)]) hP hD hS hA hK [] [0, 1, 2, 3] [0, 1, 2] rfl rfl (by decide) (by decide) rfl (va_runS (As := [.int y, .int 0, .int 0]) (rest := []) ⟨hx, hb, hml, hown, hts⟩ (c_X9_in l D H.size y 0 0 ) (va_cwS 3 hts gX9_lead_X9_in rfl rfl rfl (by decide +kernel) ⟨Nat.le_of_ble_eq_true rfl, Nat.le_of_ble_eq_true rfl⟩) (st_preS hP hD hK hNW [] [] rfl rfl (by decide) rfl) rfl rfl hl.1 rfl (lv_room (Nat.le_of_ble_eq_true rfl)) dX9_lead_38 ⟨(Nat.le_of_ble_eq_true rfl), (Nat.le_of_ble_eq_true rfl)⟩) (fun r_9 u H locs hw hP hD hK hS => ?_)
  have hw : r_9 = wi y 0 0 := hw
  subst hw
  have hP : va_P D vwCl [(h0, .inr (8, [.ref a0, .int 0, .ref a2, .int 0, .ref a4, .ref a5, .ref a6, .ref a7, .ref a8, .ref a9, .int 0, .int 0, .int 0, .int 0, .ref a14, .ref a15, .ref a16])), (a5, .inl (k5, 4, .inl f5)), (a6, .inl (k6, 4, .inl f6)), (a7, .inl (k7, 128, .inl f7))] H := hP
  have hD : va_D A [(h0, .inr (8, [.ref a0, .int 0, .ref a2, .int 0, .ref a4, .ref a5, .ref a6, .ref a7, .ref a8, .ref a9, .int 0, .int 0, .int 0, .int 0, .ref a14, .ref a15, .ref a16])), (a5, .inl (k5, 4, .inl f5)), (a6, .inl (k6, 4, .inl f6)), (a7, .inl (k7, 128, .inl f7))] := hD
  have hK : va_K D vwCl [(k5, .int), (k6, .int), (k7, .int)] s := hK
  refine lv_if_eq (tgt := 61) hx hb dX9_lead_41 (by decide) (fun c_10 => ?_) (fun c_10 => ?_)
  · refine lv_iconst (v := 0) hx hb dX9_lead_61 (by decide) ?_
    exact ret_i hx hb hr hlocks rfl (u := ()) (by simp [ldS, c_2, c_6, c_10]) (hP.sub [] rfl) (hK.sub [] rfl) (hD.sub [] (by decide) rfl) hS (Nat.le_of_ble_eq_true rfl) (Nat.le_of_ble_eq_true rfl) dX9_lead_62
  refine lv_iload hx hb dX9_lead_44 (lv_at hl 4 rfl) ?_
  refine lv_iconst (v := 0) hx hb dX9_lead_46 (by decide) ?_
  refine lv_aload_n hx hb dX9_lead_47 rfl (lv_at hl 0 rfl) ?_
  refine va_get (D := D) (ci := 8) (v := .ref a5) (C := RX9) (T := TX9) (N := 17) hx hb hts hiX9_lead_X9 hown hK hP 0 rfl rfl 5 (by decide) (hts (.fieldLink RX9 19 "OneHandsetModel" "states" "[I") (List.mem_of_getElem? (i := 2) rfl)) (fun _ h9 => h9) rfl dX9_lead_48 ?_
  refine lv_iload_n hx hb dX9_lead_51 rfl (lv_at hl 1 rfl) ?_
  refine va_iald hx hb hK hP 1 0 rfl rfl (wi_in c_2) dX9_lead_52 ?_
  refine lv_topi (fun v_11 ev_11 => ?_)
  obtain rfl : v_11 = 1 := ev_11.trans (hs5 _ (wi_lt c_2))
  refine lv_iconst (v := 1) hx hb dX9_lead_53 (by decide) ?_
  refine lv_isub hx hb dX9_lead_54 ?_
  refine lv_topi (fun v_12 ev_12 => ?_)
  obtain rfl : v_12 = (0 : Int32) := ev_12.trans (by decide)
  refine go_i (wr := [(h0, .inr (8, [.ref a0, .int 0, .ref a2, .int 0, .ref a4, .ref a5, .ref a6, .ref a7, .ref a8, .ref a9, .int 0, .int 0, .int 0, .int 0, .ref a14, .ref a15, .ref a16])), (a5, .inl (k5, 4, .inl f5)), (a6, .inl (k6, 4, .inl f6)), (a7, .inl (k7, 128, .inl f7))]) (tysr := [(k5, .int), (k6, .int), (k7, .int)]) hP hD hS hA hK [] [0, 1, 2, 3] [0, 1, 2] rfl rfl (by decide) (by decide) rfl (va_runS (As := [.int z, .int 0, .int 0]) (rest := []) ⟨hx, hb, hml, hown, hts⟩ (c_X9_in l D H.size z 0 0 ) (va_cwS 3 hts gX9_lead_X9_in rfl rfl rfl (by decide +kernel) ⟨Nat.le_of_ble_eq_true rfl, Nat.le_of_ble_eq_true rfl⟩) (st_preS hP hD hK hNW [] [] rfl rfl (by decide) rfl) rfl rfl hl.1 rfl (lv_room (Nat.le_of_ble_eq_true rfl)) dX9_lead_55 ⟨(Nat.le_of_ble_eq_true rfl), (Nat.le_of_ble_eq_true rfl)⟩) (fun r_13 u H locs hw hP hD hK hS => ?_)
  have hw : r_13 = wi z 0 0 := hw
  subst hw
  have hP : va_P D vwCl [(h0, .inr (8, [.ref a0, .int 0, .ref a2, .int 0, .ref a4, .ref a5, .ref a6, .ref a7, .ref a8, .ref a9, .int 0, .int 0, .int 0, .int 0, .ref a14, .ref a15, .ref a16])), (a5, .inl (k5, 4, .inl f5)), (a6, .inl (k6, 4, .inl f6)), (a7, .inl (k7, 128, .inl f7))] H := hP
  have hD : va_D A [(h0, .inr (8, [.ref a0, .int 0, .ref a2, .int 0, .ref a4, .ref a5, .ref a6, .ref a7, .ref a8, .ref a9, .int 0, .int 0, .int 0, .int 0, .ref a14, .ref a15, .ref a16])), (a5, .inl (k5, 4, .inl f5)), (a6, .inl (k6, 4, .inl f6)), (a7, .inl (k7, 128, .inl f7))] := hD
  have hK : va_K D vwCl [(k5, .int), (k6, .int), (k7, .int)] s := hK
  refine lv_if_ne (tgt := 63) hx hb dX9_lead_58 (by decide) (fun c_14 => ?_) (fun c_14 => ?_)
  · obtain rfl : x = 0 := wi_00 c_6
    obtain rfl : y = 0 := wi_00 c_10
    obtain rfl : z = 0 := wi_00 c_14
    refine lv_aload_n hx hb dX9_lead_63 rfl (lv_at hl 0 rfl) ?_
    refine va_get (D := D) (ci := 8) (v := .ref a7) (C := RX9) (T := TX9) (N := 17) hx hb hts hiX9_lead_X9 hown hK hP 0 rfl rfl 7 (by decide) (hts (.fieldLink RX9 25 "OneHandsetModel" "leads" "[I") (List.mem_of_getElem? (i := 4) rfl)) (fun _ h9 => h9) rfl dX9_lead_64 ?_
    refine lv_bipush (v := 32) hx hb dX9_lead_67 (by decide) ?_
    refine lv_iload_n hx hb dX9_lead_69 rfl (lv_at hl 1 rfl) ?_
    refine lv_imul hx hb dX9_lead_70 ?_
    refine lv_iconst (v := 4) hx hb dX9_lead_71 (by decide) ?_
    refine lv_iload_n hx hb dX9_lead_72 rfl (lv_at hl 2 rfl) ?_
    refine lv_imul hx hb dX9_lead_73 ?_
    refine lv_topi (fun v_15 ev_15 => ?_)
    obtain rfl : v_15 = (0 : Int32) := ev_15.trans (by decide)
    refine lv_iadd hx hb dX9_lead_74 ?_
    refine lv_iload_n hx hb dX9_lead_75 rfl (lv_at hl 3 rfl) ?_
    refine lv_iadd hx hb dX9_lead_76 ?_
    refine lv_iload hx hb dX9_lead_77 (lv_at hl 4 rfl) ?_
    refine va_iast hx hb hK hP hD hS 3 2 rfl rfl (by rcases wi_bx c_2 with rfl | rfl | rfl | rfl <;> exact vin (by decide)) dX9_lead_79 (fun H locs hP hD hS => ?_)
    obtain ⟨g_16, hP, hD⟩ : ∃ g9 : Nat → Int32, va_P D vwCl [(h0, .inr (8, [.ref a0, .int 0, .ref a2, .int 0, .ref a4, .ref a5, .ref a6, .ref a7, .ref a8, .ref a9, .int 0, .int 0, .int 0, .int 0, .ref a14, .ref a15, .ref a16])), (a5, .inl (k5, 4, .inl f5)), (a6, .inl (k6, 4, .inl f6)), (a7, .inl (k7, 128, .inl g9))] H ∧ va_D A [(h0, .inr (8, [.ref a0, .int 0, .ref a2, .int 0, .ref a4, .ref a5, .ref a6, .ref a7, .ref a8, .ref a9, .int 0, .int 0, .int 0, .int 0, .ref a14, .ref a15, .ref a16])), (a5, .inl (k5, 4, .inl f5)), (a6, .inl (k6, 4, .inl f6)), (a7, .inl (k7, 128, .inl g9))] := ⟨_, hP, hD⟩
    refine lv_iconst (v := 1) hx hb dX9_lead_80 (by decide) ?_
    exact ret_i hx hb hr hlocks rfl (u := ()) (by simp [ldS, c_2, c_6, c_10, c_14]) (hP.sub [] rfl) (hK.sub [] rfl) (hD.sub [] (by decide) rfl) hS (Nat.le_of_ble_eq_true rfl) (Nat.le_of_ble_eq_true rfl) dX9_lead_81
  refine lv_iconst (v := 0) hx hb dX9_lead_61 (by decide) ?_
  exact ret_i hx hb hr hlocks rfl (u := ()) (by simp [ldS, c_2, c_6, c_10, c_14]) (hP.sub [] rfl) (hK.sub [] rfl) (hD.sub [] (by decide) rfl) hS (Nat.le_of_ble_eq_true rfl) (Nat.le_of_ble_eq_true rfl) dX9_lead_62
theorem hiX9_maybe_X9 : ∀ w ∈ wsX90, w ∈ wsX9_maybe := mem_pl [15, 16, 17, 18, 19, 20, 21, 22, 23, 24, 25, 26, 27, 28, 29, 30, 31] rfl
set_option maxHeartbeats 4000000 in
set_option maxRecDepth 100000 in
theorem c_X9_maybe (l : Launch) (D : va_G) (sz : Nat) (h0 : Nat) (a0 : Nat) (a2 : Nat) (a4 : Nat) (a5 : Nat) (a6 : Nat) (a7 : Nat) (a8 : Nat) (a9 : Nat) (a14 : Nat) (a15 : Nat) (a16 : Nat) (th : Int32) (k5 : ClassId) (k8 : ClassId) (f5 : Nat → Int32) (f8 : Nat → Int32) (bq : Int32) (x : Int32) (hs5 : ∀ k, k < 4 → f5 k = 1) (hs8 : ∀ k, k < 4 → f8 k = 1) : Ci l yX9_maybe wsX9_maybe ({ frames := 2, cells := 0, slots := 0, locals := 44 } : Room) D [.ref h0, .int bq, .int x] [(h0, .inr (8, [.ref a0, .int 0, .ref a2, .int 0, .ref a4, .ref a5, .ref a6, .ref a7, .ref a8, .ref a9, .int 0, .int 0, .int th, .int 0, .ref a14, .ref a15, .ref a16])), (a5, .inl (k5, 4, .inl f5)), (a8, .inl (k8, 4, .inl f8))] [(k5, .int), (k8, .int)] sz (fun (r : Int32) => fun (_ : Unit) => r = myS bq x) (fun (_ : Unit) => []) (fun (_ : Unit) => []) := by
  refine ct_i (cc := cX9_maybe) (maxL := 3) (ret := (some .boolean)) (by decide) rfl (Nat.le_of_ble_eq_true rfl) ?_
  intro p e s m below meth c A ls H hx hb hr hts hown hml hlocks hin hA hS hP hK hD hNW hl hAe hsz
  have hl : lv_has ls 3 [(0, .ref h0), (1, .int bq), (2, .int x)] := hl
  refine lv_aload_n hx hb dX9_maybe_0 rfl (lv_at hl 0 rfl) ?_
  refine lv_iconst (v := 0) hx hb dX9_maybe_1 (by decide) ?_
  refine va_put (D := D) (ci := 8) (v := .int 0) (ty := .int) (C := RX9) (T := TX9) (N := 17) hx hb hts hiX9_maybe_X9 tyX9 tyX9_ok nmX9 hown hK hP hD hS 0 rfl rfl 12 (by decide) (hts (.fieldLink RX9 43 "OneHandsetModel" "thrown" "I") (List.mem_of_getElem? (i := 1) rfl)) (fun _ h9 => h9) rfl (by decide +kernel) rfl rfl (Nat.le_of_ble_eq_true rfl) dX9_maybe_2 (fun H locs hP hD hS => ?_)
  have hP : va_P D vwCl [(h0, .inr (8, [.ref a0, .int 0, .ref a2, .int 0, .ref a4, .ref a5, .ref a6, .ref a7, .ref a8, .ref a9, .int 0, .int 0, .int 0, .int 0, .ref a14, .ref a15, .ref a16])), (a5, .inl (k5, 4, .inl f5)), (a8, .inl (k8, 4, .inl f8))] H := hP
  have hD : va_D A [(h0, .inr (8, [.ref a0, .int 0, .ref a2, .int 0, .ref a4, .ref a5, .ref a6, .ref a7, .ref a8, .ref a9, .int 0, .int 0, .int 0, .int 0, .ref a14, .ref a15, .ref a16])), (a5, .inl (k5, 4, .inl f5)), (a8, .inl (k8, 4, .inl f8))] := hD
  refine lv_iload_n hx hb dX9_maybe_5 rfl (lv_at hl 1 rfl) ?_
  refine go_i (wr := [(h0, .inr (8, [.ref a0, .int 0, .ref a2, .int 0, .ref a4, .ref a5, .ref a6, .ref a7, .ref a8, .ref a9, .int 0, .int 0, .int 0, .int 0, .ref a14, .ref a15, .ref a16])), (a5, .inl (k5, 4, .inl f5)), (a8, .inl (k8, 4, .inl f8))]) (tysr := [(k5, .int), (k8, .int)]) hP hD hS hA hK [] [0, 1, 2] [0, 1] rfl rfl (by decide) (by decide) rfl (va_runS (As := [.int bq]) (rest := []) ⟨hx, hb, hml, hown, hts⟩ (c_X9_isBox l D H.size bq ) (va_cwS 1 hts gX9_maybe_X9_isBox rfl rfl rfl (by decide +kernel) ⟨Nat.le_of_ble_eq_true rfl, Nat.le_of_ble_eq_true rfl⟩) (st_preS hP hD hK hNW [] [] rfl rfl (by decide) rfl) rfl rfl hl.1 rfl (lv_room (Nat.le_of_ble_eq_true rfl)) dX9_maybe_6 ⟨(Nat.le_of_ble_eq_true rfl), (Nat.le_of_ble_eq_true rfl)⟩) (fun r_1 u H locs hw hP hD hK hS => ?_)
  have hw : r_1 = wi bq 0 3 := hw
  subst hw
  have hP : va_P D vwCl [(h0, .inr (8, [.ref a0, .int 0, .ref a2, .int 0, .ref a4, .ref a5, .ref a6, .ref a7, .ref a8, .ref a9, .int 0, .int 0, .int 0, .int 0, .ref a14, .ref a15, .ref a16])), (a5, .inl (k5, 4, .inl f5)), (a8, .inl (k8, 4, .inl f8))] H := hP
  have hD : va_D A [(h0, .inr (8, [.ref a0, .int 0, .ref a2, .int 0, .ref a4, .ref a5, .ref a6, .ref a7, .ref a8, .ref a9, .int 0, .int 0, .int 0, .int 0, .ref a14, .ref a15, .ref a16])), (a5, .inl (k5, 4, .inl f5)), (a8, .inl (k8, 4, .inl f8))] := hD
  have hK : va_K D vwCl [(k5, .int), (k8, .int)] s := hK
  refine lv_if_eq (tgt := 21) hx hb dX9_maybe_9 (by decide) (fun c_2 => ?_) (fun c_2 => ?_)
  · refine lv_iconst (v := 0) hx hb dX9_maybe_21 (by decide) ?_
    exact ret_i hx hb hr hlocks rfl (u := ()) (by simp [myS, c_2]) (hP.sub [] rfl) (hK.sub [] rfl) (hD.sub [] (by decide) rfl) hS (Nat.le_of_ble_eq_true rfl) (Nat.le_of_ble_eq_true rfl) dX9_maybe_22
  refine lv_aload_n hx hb dX9_maybe_12 rfl (lv_at hl 0 rfl) ?_
  refine lv_iload_n hx hb dX9_maybe_13 rfl (lv_at hl 1 rfl) ?_
  refine lv_iload_n hx hb dX9_maybe_14 rfl (lv_at hl 2 rfl) ?_
  refine go_i (wr := [(a8, .inl (k8, 4, .inl f8))]) (tysr := [(k8, .int)]) hP hD hS hA hK [0, 1] [2] [1] rfl rfl (by decide) (by decide) rfl (va_runV (As := [.int bq, .int x]) (rest := []) ⟨hx, hb, hml, hown, hts⟩ (c_X9_isSet l D H.size h0 a0 a2 a4 a5 a6 a7 a8 a9 a14 a15 a16 0 k5 f5 bq x c_2 hs5) (cwV 2 hts gX9_maybe_X9_isSet rfl rfl rfl (by decide +kernel) ⟨Nat.le_of_ble_eq_true rfl, Nat.le_of_ble_eq_true rfl⟩) (st_preV (ci := 8) (q0 := 0) hP hD hK hNW [0, 1] [0] rfl rfl (by decide) rfl rfl rfl rfl) rfl rfl hl.1 rfl (lv_room (Nat.le_of_ble_eq_true rfl)) dX9_maybe_15 ⟨(Nat.le_of_ble_eq_true rfl), (Nat.le_of_ble_eq_true rfl)⟩) (fun r_3 u H locs hw hP hD hK hS => ?_)
  have hw : r_3 = wi x 1 1 := hw
  subst hw
  have hP : va_P D vwCl [(a8, .inl (k8, 4, .inl f8)), (h0, .inr (8, [.ref a0, .int 0, .ref a2, .int 0, .ref a4, .ref a5, .ref a6, .ref a7, .ref a8, .ref a9, .int 0, .int 0, .int 0, .int 0, .ref a14, .ref a15, .ref a16])), (a5, .inl (k5, 4, .inl f5))] H := hP
  have hD : va_D A [(a8, .inl (k8, 4, .inl f8)), (h0, .inr (8, [.ref a0, .int 0, .ref a2, .int 0, .ref a4, .ref a5, .ref a6, .ref a7, .ref a8, .ref a9, .int 0, .int 0, .int 0, .int 0, .ref a14, .ref a15, .ref a16])), (a5, .inl (k5, 4, .inl f5))] := hD
  have hK : va_K D vwCl [(k8, .int), (k5, .int)] s := hK
  refine lv_if_ne (tgt := 23) hx hb dX9_maybe_18 (by decide) (fun c_4 => ?_) (fun c_4 => ?_)
  · refine lv_aload_n hx hb dX9_maybe_23 rfl (lv_at hl 0 rfl) ?_
    refine va_get (D := D) (ci := 8) (v := .ref a8) (C := RX9) (T := TX9) (N := 17) hx hb hts hiX9_maybe_X9 hown hK hP 1 rfl rfl 8 (by decide) (hts (.fieldLink RX9 28 "OneHandsetModel" "sets" "[I") (List.mem_of_getElem? (i := 2) rfl)) (fun _ h9 => h9) rfl dX9_maybe_24 ?_
    refine lv_iload_n hx hb dX9_maybe_27 rfl (lv_at hl 1 rfl) ?_
    refine lv_iload_n hx hb dX9_maybe_28 rfl (lv_at hl 2 rfl) ?_
    refine va_iast hx hb hK hP hD hS 0 0 rfl rfl (wi_in c_2) dX9_maybe_29 (fun H locs hP hD hS => ?_)
    obtain ⟨g_5, hP, hD⟩ : ∃ g9 : Nat → Int32, va_P D vwCl [(a8, .inl (k8, 4, .inl g9)), (h0, .inr (8, [.ref a0, .int 0, .ref a2, .int 0, .ref a4, .ref a5, .ref a6, .ref a7, .ref a8, .ref a9, .int 0, .int 0, .int 0, .int 0, .ref a14, .ref a15, .ref a16])), (a5, .inl (k5, 4, .inl f5))] H ∧ va_D A [(a8, .inl (k8, 4, .inl g9)), (h0, .inr (8, [.ref a0, .int 0, .ref a2, .int 0, .ref a4, .ref a5, .ref a6, .ref a7, .ref a8, .ref a9, .int 0, .int 0, .int 0, .int 0, .ref a14, .ref a15, .ref a16])), (a5, .inl (k5, 4, .inl f5))] := ⟨_, hP, hD⟩
    refine lv_iconst (v := 1) hx hb dX9_maybe_30 (by decide) ?_
    exact ret_i hx hb hr hlocks rfl (u := ()) (by simp [myS, c_2, c_4]) (hP.sub [] rfl) (hK.sub [] rfl) (hD.sub [] (by decide) rfl) hS (Nat.le_of_ble_eq_true rfl) (Nat.le_of_ble_eq_true rfl) dX9_maybe_31
  refine lv_iconst (v := 0) hx hb dX9_maybe_21 (by decide) ?_
  exact ret_i hx hb hr hlocks rfl (u := ()) (by simp [myS, c_2, c_4]) (hP.sub [] rfl) (hK.sub [] rfl) (hD.sub [] (by decide) rfl) hS (Nat.le_of_ble_eq_true rfl) (Nat.le_of_ble_eq_true rfl) dX9_maybe_22
theorem hiX9_push_X9 : ∀ w ∈ wsX90, w ∈ wsX9_push := mem_pl [17, 18, 19, 20, 21, 22, 23, 24, 25, 26, 27, 28, 29, 30, 31, 32, 33] rfl
set_option maxHeartbeats 4000000 in
set_option maxRecDepth 100000 in
theorem c_X9_push (l : Launch) (D : va_G) (sz : Nat) (h0 : Nat) (a0 : Nat) (a2 : Nat) (a4 : Nat) (a5 : Nat) (a6 : Nat) (a7 : Nat) (a8 : Nat) (a9 : Nat) (a14 : Nat) (a15 : Nat) (a16 : Nat) (th : Int32) (k5 : ClassId) (k6 : ClassId) (k7 : ClassId) (k8 : ClassId) (f5 : Nat → Int32) (f6 : Nat → Int32) (f7 : Nat → Int32) (f8 : Nat → Int32) (bq : Int32) (x : Int32) (hs5 : ∀ k, k < 4 → f5 k = 1) (hs6 : ∀ k, k < 4 → f6 k = 1) (hs7 : ∀ k, k < 128 → f7 k = 0) (hs8 : ∀ k, k < 4 → f8 k = 1) : Ci l yX9_push wsX9_push ({ frames := 2, cells := 0, slots := 0, locals := 42 } : Room) D [.ref h0, .int bq, .int x] [(h0, .inr (8, [.ref a0, .int 0, .ref a2, .int 0, .ref a4, .ref a5, .ref a6, .ref a7, .ref a8, .ref a9, .int 0, .int 0, .int th, .int 0, .ref a14, .ref a15, .ref a16])), (a5, .inl (k5, 4, .inl f5)), (a6, .inl (k6, 4, .inl f6)), (a7, .inl (k7, 128, .inl f7)), (a8, .inl (k8, 4, .inl f8))] [(k5, .int), (k6, .int), (k7, .int), (k8, .int)] sz (fun (r : Int32) => fun (_ : Unit) => r = puS bq x) (fun (_ : Unit) => []) (fun (_ : Unit) => []) := by
  refine ct_i (cc := cX9_push) (maxL := 3) (ret := (some .int)) (by decide) rfl (Nat.le_of_ble_eq_true rfl) ?_
  intro p e s m below meth c A ls H hx hb hr hts hown hml hlocks hin hA hS hP hK hD hNW hl hAe hsz
  have hl : lv_has ls 3 [(0, .ref h0), (1, .int bq), (2, .int x)] := hl
  refine lv_aload_n hx hb dX9_push_0 rfl (lv_at hl 0 rfl) ?_
  refine lv_iconst (v := 0) hx hb dX9_push_1 (by decide) ?_
  refine va_put (D := D) (ci := 8) (v := .int 0) (ty := .int) (C := RX9) (T := TX9) (N := 17) hx hb hts hiX9_push_X9 tyX9 tyX9_ok nmX9 hown hK hP hD hS 0 rfl rfl 12 (by decide) (hts (.fieldLink RX9 43 "OneHandsetModel" "thrown" "I") (List.mem_of_getElem? (i := 1) rfl)) (fun _ h9 => h9) rfl (by decide +kernel) rfl rfl (Nat.le_of_ble_eq_true rfl) dX9_push_2 (fun H locs hP hD hS => ?_)
  have hP : va_P D vwCl [(h0, .inr (8, [.ref a0, .int 0, .ref a2, .int 0, .ref a4, .ref a5, .ref a6, .ref a7, .ref a8, .ref a9, .int 0, .int 0, .int 0, .int 0, .ref a14, .ref a15, .ref a16])), (a5, .inl (k5, 4, .inl f5)), (a6, .inl (k6, 4, .inl f6)), (a7, .inl (k7, 128, .inl f7)), (a8, .inl (k8, 4, .inl f8))] H := hP
  have hD : va_D A [(h0, .inr (8, [.ref a0, .int 0, .ref a2, .int 0, .ref a4, .ref a5, .ref a6, .ref a7, .ref a8, .ref a9, .int 0, .int 0, .int 0, .int 0, .ref a14, .ref a15, .ref a16])), (a5, .inl (k5, 4, .inl f5)), (a6, .inl (k6, 4, .inl f6)), (a7, .inl (k7, 128, .inl f7)), (a8, .inl (k8, 4, .inl f8))] := hD
  refine lv_iload_n hx hb dX9_push_5 rfl (lv_at hl 1 rfl) ?_
  refine go_i (wr := [(h0, .inr (8, [.ref a0, .int 0, .ref a2, .int 0, .ref a4, .ref a5, .ref a6, .ref a7, .ref a8, .ref a9, .int 0, .int 0, .int 0, .int 0, .ref a14, .ref a15, .ref a16])), (a5, .inl (k5, 4, .inl f5)), (a6, .inl (k6, 4, .inl f6)), (a7, .inl (k7, 128, .inl f7)), (a8, .inl (k8, 4, .inl f8))]) (tysr := [(k5, .int), (k6, .int), (k7, .int), (k8, .int)]) hP hD hS hA hK [] [0, 1, 2, 3, 4] [0, 1, 2, 3] rfl rfl (by decide) (by decide) rfl (va_runS (As := [.int bq]) (rest := []) ⟨hx, hb, hml, hown, hts⟩ (c_X9_isBox l D H.size bq ) (va_cwS 1 hts gX9_push_X9_isBox rfl rfl rfl (by decide +kernel) ⟨Nat.le_of_ble_eq_true rfl, Nat.le_of_ble_eq_true rfl⟩) (st_preS hP hD hK hNW [] [] rfl rfl (by decide) rfl) rfl rfl hl.1 rfl (lv_room (Nat.le_of_ble_eq_true rfl)) dX9_push_6 ⟨(Nat.le_of_ble_eq_true rfl), (Nat.le_of_ble_eq_true rfl)⟩) (fun r_1 u H locs hw hP hD hK hS => ?_)
  have hw : r_1 = wi bq 0 3 := hw
  subst hw
  have hP : va_P D vwCl [(h0, .inr (8, [.ref a0, .int 0, .ref a2, .int 0, .ref a4, .ref a5, .ref a6, .ref a7, .ref a8, .ref a9, .int 0, .int 0, .int 0, .int 0, .ref a14, .ref a15, .ref a16])), (a5, .inl (k5, 4, .inl f5)), (a6, .inl (k6, 4, .inl f6)), (a7, .inl (k7, 128, .inl f7)), (a8, .inl (k8, 4, .inl f8))] H := hP
  have hD : va_D A [(h0, .inr (8, [.ref a0, .int 0, .ref a2, .int 0, .ref a4, .ref a5, .ref a6, .ref a7, .ref a8, .ref a9, .int 0, .int 0, .int 0, .int 0, .ref a14, .ref a15, .ref a16])), (a5, .inl (k5, 4, .inl f5)), (a6, .inl (k6, 4, .inl f6)), (a7, .inl (k7, 128, .inl f7)), (a8, .inl (k8, 4, .inl f8))] := hD
  have hK : va_K D vwCl [(k5, .int), (k6, .int), (k7, .int), (k8, .int)] s := hK
  refine lv_if_eq (tgt := 28) hx hb dX9_push_9 (by decide) (fun c_2 => ?_) (fun c_2 => ?_)
  · refine lv_iconst (v := (-1)) hx hb dX9_push_28 (by decide) ?_
    exact ret_i hx hb hr hlocks rfl (u := ()) (by simp [puS, c_2]) (hP.sub [] rfl) (hK.sub [] rfl) (hD.sub [] (by decide) rfl) hS (Nat.le_of_ble_eq_true rfl) (Nat.le_of_ble_eq_true rfl) dX9_push_29
  refine lv_iload_n hx hb dX9_push_12 rfl (lv_at hl 2 rfl) ?_
  refine lv_iconst (v := 0) hx hb dX9_push_13 (by decide) ?_
  refine lv_aload_n hx hb dX9_push_14 rfl (lv_at hl 0 rfl) ?_
  refine va_get (D := D) (ci := 8) (v := .ref a6) (C := RX9) (T := TX9) (N := 17) hx hb hts hiX9_push_X9 hown hK hP 0 rfl rfl 6 (by decide) (hts (.fieldLink RX9 22 "OneHandsetModel" "buttons" "[I") (List.mem_of_getElem? (i := 2) rfl)) (fun _ h9 => h9) rfl dX9_push_15 ?_
  refine lv_iload_n hx hb dX9_push_18 rfl (lv_at hl 1 rfl) ?_
  refine va_iald hx hb hK hP 2 1 rfl rfl (wi_in c_2) dX9_push_19 ?_
  refine lv_topi (fun v_3 ev_3 => ?_)
  obtain rfl : v_3 = 1 := ev_3.trans (hs6 _ (wi_lt c_2))
  refine lv_iconst (v := 1) hx hb dX9_push_20 (by decide) ?_
  refine lv_isub hx hb dX9_push_21 ?_
  refine lv_topi (fun v_4 ev_4 => ?_)
  obtain rfl : v_4 = (0 : Int32) := ev_4.trans (by decide)
  refine go_i (wr := [(h0, .inr (8, [.ref a0, .int 0, .ref a2, .int 0, .ref a4, .ref a5, .ref a6, .ref a7, .ref a8, .ref a9, .int 0, .int 0, .int 0, .int 0, .ref a14, .ref a15, .ref a16])), (a5, .inl (k5, 4, .inl f5)), (a6, .inl (k6, 4, .inl f6)), (a7, .inl (k7, 128, .inl f7)), (a8, .inl (k8, 4, .inl f8))]) (tysr := [(k5, .int), (k6, .int), (k7, .int), (k8, .int)]) hP hD hS hA hK [] [0, 1, 2, 3, 4] [0, 1, 2, 3] rfl rfl (by decide) (by decide) rfl (va_runS (As := [.int x, .int 0, .int 0]) (rest := []) ⟨hx, hb, hml, hown, hts⟩ (c_X9_in l D H.size x 0 0 ) (va_cwS 3 hts gX9_push_X9_in rfl rfl rfl (by decide +kernel) ⟨Nat.le_of_ble_eq_true rfl, Nat.le_of_ble_eq_true rfl⟩) (st_preS hP hD hK hNW [] [] rfl rfl (by decide) rfl) rfl rfl hl.1 rfl (lv_room (Nat.le_of_ble_eq_true rfl)) dX9_push_22 ⟨(Nat.le_of_ble_eq_true rfl), (Nat.le_of_ble_eq_true rfl)⟩) (fun r_5 u H locs hw hP hD hK hS => ?_)
  have hw : r_5 = wi x 0 0 := hw
  subst hw
  have hP : va_P D vwCl [(h0, .inr (8, [.ref a0, .int 0, .ref a2, .int 0, .ref a4, .ref a5, .ref a6, .ref a7, .ref a8, .ref a9, .int 0, .int 0, .int 0, .int 0, .ref a14, .ref a15, .ref a16])), (a5, .inl (k5, 4, .inl f5)), (a6, .inl (k6, 4, .inl f6)), (a7, .inl (k7, 128, .inl f7)), (a8, .inl (k8, 4, .inl f8))] H := hP
  have hD : va_D A [(h0, .inr (8, [.ref a0, .int 0, .ref a2, .int 0, .ref a4, .ref a5, .ref a6, .ref a7, .ref a8, .ref a9, .int 0, .int 0, .int 0, .int 0, .ref a14, .ref a15, .ref a16])), (a5, .inl (k5, 4, .inl f5)), (a6, .inl (k6, 4, .inl f6)), (a7, .inl (k7, 128, .inl f7)), (a8, .inl (k8, 4, .inl f8))] := hD
  have hK : va_K D vwCl [(k5, .int), (k6, .int), (k7, .int), (k8, .int)] s := hK
  refine lv_if_ne (tgt := 30) hx hb dX9_push_25 (by decide) (fun c_6 => ?_) (fun c_6 => ?_)
  · obtain rfl : x = 0 := wi_00 c_6
    refine lv_aload_n hx hb dX9_push_30 rfl (lv_at hl 0 rfl) ?_
    refine va_get (D := D) (ci := 8) (v := .ref a8) (C := RX9) (T := TX9) (N := 17) hx hb hts hiX9_push_X9 hown hK hP 0 rfl rfl 8 (by decide) (hts (.fieldLink RX9 28 "OneHandsetModel" "sets" "[I") (List.mem_of_getElem? (i := 3) rfl)) (fun _ h9 => h9) rfl dX9_push_31 ?_
    refine lv_iload_n hx hb dX9_push_34 rfl (lv_at hl 1 rfl) ?_
    refine lv_aload_n hx hb dX9_push_35 rfl (lv_at hl 0 rfl) ?_
    refine lv_iload_n hx hb dX9_push_36 rfl (lv_at hl 1 rfl) ?_
    refine lv_aload_n hx hb dX9_push_37 rfl (lv_at hl 0 rfl) ?_
    refine va_get (D := D) (ci := 8) (v := .ref a8) (C := RX9) (T := TX9) (N := 17) hx hb hts hiX9_push_X9 hown hK hP 0 rfl rfl 8 (by decide) (hts (.fieldLink RX9 28 "OneHandsetModel" "sets" "[I") (List.mem_of_getElem? (i := 3) rfl)) (fun _ h9 => h9) rfl dX9_push_38 ?_
    refine lv_iload_n hx hb dX9_push_41 rfl (lv_at hl 1 rfl) ?_
    refine va_iald hx hb hK hP 4 3 rfl rfl (wi_in c_2) dX9_push_42 ?_
    refine lv_topi (fun v_7 ev_7 => ?_)
    obtain rfl : v_7 = 1 := ev_7.trans (hs8 _ (wi_lt c_2))
    refine lv_iload_n hx hb dX9_push_43 rfl (lv_at hl 2 rfl) ?_
    refine go_i (wr := [(a6, .inl (k6, 4, .inl f6)), (a8, .inl (k8, 4, .inl f8))]) (tysr := [(k6, .int), (k8, .int)]) hP hD hS hA hK [0, 1, 3] [2, 4] [1, 3] rfl rfl (by decide) (by decide) rfl (va_runV (As := [.int bq, .int 1, .int 0]) (rest := [.int bq, .ref a8]) ⟨hx, hb, hml, hown, hts⟩ (c_X9_behind l D H.size h0 a0 a2 a4 a5 a6 a7 a8 a9 a14 a15 a16 0 k5 k7 f5 f7 bq c_2 hs5 hs7) (cwV 3 hts gX9_push_X9_behind rfl rfl rfl (by decide +kernel) ⟨Nat.le_of_ble_eq_true rfl, Nat.le_of_ble_eq_true rfl⟩) (st_preV (ci := 8) (q0 := 0) hP hD hK hNW [0, 1, 3] [0, 2] rfl rfl (by decide) rfl rfl rfl rfl) rfl rfl hl.1 rfl (lv_room (Nat.le_of_ble_eq_true rfl)) dX9_push_44 ⟨(Nat.le_of_ble_eq_true rfl), (Nat.le_of_ble_eq_true rfl)⟩) (fun r_8 u H locs hw hP hD hK hS => ?_)
    have hw : r_8 = 1 := hw
    subst hw
    have hP : va_P D vwCl [(a6, .inl (k6, 4, .inl f6)), (a8, .inl (k8, 4, .inl f8)), (h0, .inr (8, [.ref a0, .int 0, .ref a2, .int 0, .ref a4, .ref a5, .ref a6, .ref a7, .ref a8, .ref a9, .int 0, .int 0, .int 0, .int 0, .ref a14, .ref a15, .ref a16])), (a5, .inl (k5, 4, .inl f5)), (a7, .inl (k7, 128, .inl f7))] H := hP
    have hD : va_D A [(a6, .inl (k6, 4, .inl f6)), (a8, .inl (k8, 4, .inl f8)), (h0, .inr (8, [.ref a0, .int 0, .ref a2, .int 0, .ref a4, .ref a5, .ref a6, .ref a7, .ref a8, .ref a9, .int 0, .int 0, .int 0, .int 0, .ref a14, .ref a15, .ref a16])), (a5, .inl (k5, 4, .inl f5)), (a7, .inl (k7, 128, .inl f7))] := hD
    have hK : va_K D vwCl [(k6, .int), (k8, .int), (k5, .int), (k7, .int)] s := hK
    refine va_iast hx hb hK hP hD hS 1 1 rfl rfl (wi_in c_2) dX9_push_47 (fun H locs hP hD hS => ?_)
    have hP : va_P D vwCl [(a6, .inl (k6, 4, .inl f6)), (a8, .inl (k8, 4, .inl (upd f8 (Int32.toNatClampNeg bq) 1))), (h0, .inr (8, [.ref a0, .int 0, .ref a2, .int 0, .ref a4, .ref a5, .ref a6, .ref a7, .ref a8, .ref a9, .int 0, .int 0, .int 0, .int 0, .ref a14, .ref a15, .ref a16])), (a5, .inl (k5, 4, .inl f5)), (a7, .inl (k7, 128, .inl f7))] H := hP
    have hD : va_D A [(a6, .inl (k6, 4, .inl f6)), (a8, .inl (k8, 4, .inl (upd f8 (Int32.toNatClampNeg bq) 1))), (h0, .inr (8, [.ref a0, .int 0, .ref a2, .int 0, .ref a4, .ref a5, .ref a6, .ref a7, .ref a8, .ref a9, .int 0, .int 0, .int 0, .int 0, .ref a14, .ref a15, .ref a16])), (a5, .inl (k5, 4, .inl f5)), (a7, .inl (k7, 128, .inl f7))] := hD
    refine lv_aload_n hx hb dX9_push_48 rfl (lv_at hl 0 rfl) ?_
    refine va_get (D := D) (ci := 8) (v := .ref a8) (C := RX9) (T := TX9) (N := 17) hx hb hts hiX9_push_X9 hown hK hP 2 rfl rfl 8 (by decide) (hts (.fieldLink RX9 28 "OneHandsetModel" "sets" "[I") (List.mem_of_getElem? (i := 3) rfl)) (fun _ h9 => h9) rfl dX9_push_49 ?_
    refine lv_iload_n hx hb dX9_push_52 rfl (lv_at hl 1 rfl) ?_
    refine va_iald hx hb hK hP 1 1 rfl rfl (wi_in c_2) dX9_push_53 ?_
    refine lv_topi (fun v_9 ev_9 => ?_)
    obtain rfl : v_9 = 1 := ev_9.trans (by simp [upd])
    exact ret_i hx hb hr hlocks rfl (u := ()) (by simp [puS, c_2, c_6]) (hP.sub [] rfl) (hK.sub [] rfl) (hD.sub [] (by decide) rfl) hS (Nat.le_of_ble_eq_true rfl) (Nat.le_of_ble_eq_true rfl) dX9_push_54
  refine lv_iconst (v := (-1)) hx hb dX9_push_28 (by decide) ?_
  exact ret_i hx hb hr hlocks rfl (u := ()) (by simp [puS, c_2, c_6]) (hP.sub [] rfl) (hK.sub [] rfl) (hD.sub [] (by decide) rfl) hS (Nat.le_of_ble_eq_true rfl) (Nat.le_of_ble_eq_true rfl) dX9_push_29
theorem hiX9_told_X9 : ∀ w ∈ wsX90, w ∈ wsX9_told := mem_pl [12, 13, 14, 15, 16, 17, 18, 19, 20, 21, 22, 23, 24, 25, 26, 27, 28] rfl
set_option maxHeartbeats 4000000 in
set_option maxRecDepth 100000 in
theorem c_X9_told (l : Launch) (D : va_G) (sz : Nat) (h0 : Nat) (a0 : Nat) (a2 : Nat) (a4 : Nat) (a5 : Nat) (a6 : Nat) (a7 : Nat) (a8 : Nat) (a9 : Nat) (a14 : Nat) (a15 : Nat) (a16 : Nat) (th : Int32) (k5 : ClassId) (k6 : ClassId) (k8 : ClassId) (f5 : Nat → Int32) (f6 : Nat → Int32) (f8 : Nat → Int32) (bq : Int32) (w : Int32) (hs5 : ∀ k, k < 4 → f5 k = 1) (hs6 : ∀ k, k < 4 → f6 k = 1) (hs8 : ∀ k, k < 4 → f8 k = 1) : Ci l yX9_told wsX9_told ({ frames := 2, cells := 0, slots := 0, locals := 42 } : Room) D [.ref h0, .int bq, .int w] [(h0, .inr (8, [.ref a0, .int 0, .ref a2, .int 0, .ref a4, .ref a5, .ref a6, .ref a7, .ref a8, .ref a9, .int 0, .int 0, .int th, .int 0, .ref a14, .ref a15, .ref a16])), (a5, .inl (k5, 4, .inl f5)), (a6, .inl (k6, 4, .inl f6)), (a8, .inl (k8, 4, .inl f8))] [(k5, .int), (k6, .int), (k8, .int)] sz (fun (r : Int32) => fun (_ : Unit) => r = toS bq w) (fun (_ : Unit) => []) (fun (_ : Unit) => []) := by
  refine ct_i (cc := cX9_told) (maxL := 3) (ret := (some .int)) (by decide) rfl (Nat.le_of_ble_eq_true rfl) ?_
  intro p e s m below meth c A ls H hx hb hr hts hown hml hlocks hin hA hS hP hK hD hNW hl hAe hsz
  have hl : lv_has ls 3 [(0, .ref h0), (1, .int bq), (2, .int w)] := hl
  refine lv_aload_n hx hb dX9_told_0 rfl (lv_at hl 0 rfl) ?_
  refine lv_iconst (v := 0) hx hb dX9_told_1 (by decide) ?_
  refine va_put (D := D) (ci := 8) (v := .int 0) (ty := .int) (C := RX9) (T := TX9) (N := 17) hx hb hts hiX9_told_X9 tyX9 tyX9_ok nmX9 hown hK hP hD hS 0 rfl rfl 12 (by decide) (hts (.fieldLink RX9 43 "OneHandsetModel" "thrown" "I") (List.mem_of_getElem? (i := 1) rfl)) (fun _ h9 => h9) rfl (by decide +kernel) rfl rfl (Nat.le_of_ble_eq_true rfl) dX9_told_2 (fun H locs hP hD hS => ?_)
  have hP : va_P D vwCl [(h0, .inr (8, [.ref a0, .int 0, .ref a2, .int 0, .ref a4, .ref a5, .ref a6, .ref a7, .ref a8, .ref a9, .int 0, .int 0, .int 0, .int 0, .ref a14, .ref a15, .ref a16])), (a5, .inl (k5, 4, .inl f5)), (a6, .inl (k6, 4, .inl f6)), (a8, .inl (k8, 4, .inl f8))] H := hP
  have hD : va_D A [(h0, .inr (8, [.ref a0, .int 0, .ref a2, .int 0, .ref a4, .ref a5, .ref a6, .ref a7, .ref a8, .ref a9, .int 0, .int 0, .int 0, .int 0, .ref a14, .ref a15, .ref a16])), (a5, .inl (k5, 4, .inl f5)), (a6, .inl (k6, 4, .inl f6)), (a8, .inl (k8, 4, .inl f8))] := hD
  refine lv_iload_n hx hb dX9_told_5 rfl (lv_at hl 1 rfl) ?_
  refine go_i (wr := [(h0, .inr (8, [.ref a0, .int 0, .ref a2, .int 0, .ref a4, .ref a5, .ref a6, .ref a7, .ref a8, .ref a9, .int 0, .int 0, .int 0, .int 0, .ref a14, .ref a15, .ref a16])), (a5, .inl (k5, 4, .inl f5)), (a6, .inl (k6, 4, .inl f6)), (a8, .inl (k8, 4, .inl f8))]) (tysr := [(k5, .int), (k6, .int), (k8, .int)]) hP hD hS hA hK [] [0, 1, 2, 3] [0, 1, 2] rfl rfl (by decide) (by decide) rfl (va_runS (As := [.int bq]) (rest := []) ⟨hx, hb, hml, hown, hts⟩ (c_X9_isBox l D H.size bq ) (va_cwS 1 hts gX9_told_X9_isBox rfl rfl rfl (by decide +kernel) ⟨Nat.le_of_ble_eq_true rfl, Nat.le_of_ble_eq_true rfl⟩) (st_preS hP hD hK hNW [] [] rfl rfl (by decide) rfl) rfl rfl hl.1 rfl (lv_room (Nat.le_of_ble_eq_true rfl)) dX9_told_6 ⟨(Nat.le_of_ble_eq_true rfl), (Nat.le_of_ble_eq_true rfl)⟩) (fun r_1 u H locs hw hP hD hK hS => ?_)
  have hw : r_1 = wi bq 0 3 := hw
  subst hw
  have hP : va_P D vwCl [(h0, .inr (8, [.ref a0, .int 0, .ref a2, .int 0, .ref a4, .ref a5, .ref a6, .ref a7, .ref a8, .ref a9, .int 0, .int 0, .int 0, .int 0, .ref a14, .ref a15, .ref a16])), (a5, .inl (k5, 4, .inl f5)), (a6, .inl (k6, 4, .inl f6)), (a8, .inl (k8, 4, .inl f8))] H := hP
  have hD : va_D A [(h0, .inr (8, [.ref a0, .int 0, .ref a2, .int 0, .ref a4, .ref a5, .ref a6, .ref a7, .ref a8, .ref a9, .int 0, .int 0, .int 0, .int 0, .ref a14, .ref a15, .ref a16])), (a5, .inl (k5, 4, .inl f5)), (a6, .inl (k6, 4, .inl f6)), (a8, .inl (k8, 4, .inl f8))] := hD
  have hK : va_K D vwCl [(k5, .int), (k6, .int), (k8, .int)] s := hK
  refine lv_if_ne (tgt := 14) hx hb dX9_told_9 (by decide) (fun c_2 => ?_) (fun c_2 => ?_)
  · refine lv_iload_n hx hb dX9_told_14 rfl (lv_at hl 2 rfl) ?_
    refine lv_if_ne (tgt := 27) hx hb dX9_told_15 (by decide) (fun c_3 => ?_) (fun c_3 => ?_)
    · refine lv_iload_n hx hb dX9_told_27 rfl (lv_at hl 2 rfl) ?_
      refine lv_iconst (v := 1) hx hb dX9_told_28 (by decide) ?_
      refine lv_icmp_ne (tgt := 41) hx hb dX9_told_29 (by decide) (fun c_4 => ?_) (fun c_4 => ?_)
      · refine lv_iload_n hx hb dX9_told_41 rfl (lv_at hl 2 rfl) ?_
        refine lv_iconst (v := 2) hx hb dX9_told_42 (by decide) ?_
        refine lv_icmp_ne (tgt := 55) hx hb dX9_told_43 (by decide) (fun c_5 => ?_) (fun c_5 => ?_)
        · refine lv_iconst (v := (-1)) hx hb dX9_told_55 (by decide) ?_
          exact ret_i hx hb hr hlocks rfl (u := ()) (by simp [toS, c_2, c_3, c_4, c_5]) (hP.sub [] rfl) (hK.sub [] rfl) (hD.sub [] (by decide) rfl) hS (Nat.le_of_ble_eq_true rfl) (Nat.le_of_ble_eq_true rfl) dX9_told_56
        refine lv_aload_n hx hb dX9_told_46 rfl (lv_at hl 0 rfl) ?_
        refine va_get (D := D) (ci := 8) (v := .ref a8) (C := RX9) (T := TX9) (N := 17) hx hb hts hiX9_told_X9 hown hK hP 0 rfl rfl 8 (by decide) (hts (.fieldLink RX9 28 "OneHandsetModel" "sets" "[I") (List.mem_of_getElem? (i := 4) rfl)) (fun _ h9 => h9) rfl dX9_told_47 ?_
        refine lv_iload_n hx hb dX9_told_50 rfl (lv_at hl 1 rfl) ?_
        refine va_iald hx hb hK hP 3 2 rfl rfl (wi_in c_2) dX9_told_51 ?_
        refine lv_topi (fun v_6 ev_6 => ?_)
        obtain rfl : v_6 = 1 := ev_6.trans (hs8 _ (wi_lt c_2))
        refine lv_goto (tgt := 56) hx hb dX9_told_52 (by decide) ?_
        exact ret_i hx hb hr hlocks rfl (u := ()) (by simp [toS, c_2, c_3, c_4, c_5]) (hP.sub [] rfl) (hK.sub [] rfl) (hD.sub [] (by decide) rfl) hS (Nat.le_of_ble_eq_true rfl) (Nat.le_of_ble_eq_true rfl) dX9_told_56
      refine lv_aload_n hx hb dX9_told_32 rfl (lv_at hl 0 rfl) ?_
      refine va_get (D := D) (ci := 8) (v := .ref a6) (C := RX9) (T := TX9) (N := 17) hx hb hts hiX9_told_X9 hown hK hP 0 rfl rfl 6 (by decide) (hts (.fieldLink RX9 22 "OneHandsetModel" "buttons" "[I") (List.mem_of_getElem? (i := 3) rfl)) (fun _ h9 => h9) rfl dX9_told_33 ?_
      refine lv_iload_n hx hb dX9_told_36 rfl (lv_at hl 1 rfl) ?_
      refine va_iald hx hb hK hP 2 1 rfl rfl (wi_in c_2) dX9_told_37 ?_
      refine lv_topi (fun v_7 ev_7 => ?_)
      obtain rfl : v_7 = 1 := ev_7.trans (hs6 _ (wi_lt c_2))
      refine lv_goto (tgt := 56) hx hb dX9_told_38 (by decide) ?_
      exact ret_i hx hb hr hlocks rfl (u := ()) (by simp [toS, c_2, c_3, c_4]) (hP.sub [] rfl) (hK.sub [] rfl) (hD.sub [] (by decide) rfl) hS (Nat.le_of_ble_eq_true rfl) (Nat.le_of_ble_eq_true rfl) dX9_told_56
    refine lv_aload_n hx hb dX9_told_18 rfl (lv_at hl 0 rfl) ?_
    refine va_get (D := D) (ci := 8) (v := .ref a5) (C := RX9) (T := TX9) (N := 17) hx hb hts hiX9_told_X9 hown hK hP 0 rfl rfl 5 (by decide) (hts (.fieldLink RX9 19 "OneHandsetModel" "states" "[I") (List.mem_of_getElem? (i := 2) rfl)) (fun _ h9 => h9) rfl dX9_told_19 ?_
    refine lv_iload_n hx hb dX9_told_22 rfl (lv_at hl 1 rfl) ?_
    refine va_iald hx hb hK hP 1 0 rfl rfl (wi_in c_2) dX9_told_23 ?_
    refine lv_topi (fun v_8 ev_8 => ?_)
    obtain rfl : v_8 = 1 := ev_8.trans (hs5 _ (wi_lt c_2))
    refine lv_goto (tgt := 56) hx hb dX9_told_24 (by decide) ?_
    exact ret_i hx hb hr hlocks rfl (u := ()) (by simp [toS, c_2, c_3]) (hP.sub [] rfl) (hK.sub [] rfl) (hD.sub [] (by decide) rfl) hS (Nat.le_of_ble_eq_true rfl) (Nat.le_of_ble_eq_true rfl) dX9_told_56
  refine lv_iconst (v := (-1)) hx hb dX9_told_12 (by decide) ?_
  exact ret_i hx hb hr hlocks rfl (u := ()) (by simp [toS, c_2]) (hP.sub [] rfl) (hK.sub [] rfl) (hD.sub [] (by decide) rfl) hS (Nat.le_of_ble_eq_true rfl) (Nat.le_of_ble_eq_true rfl) dX9_told_13
theorem hiX9_way_X9 : ∀ w ∈ wsX90, w ∈ wsX9_way := mem_pl [30, 31, 32, 33, 34, 35, 36, 37, 38, 39, 40, 41, 42, 43, 44, 45, 46] rfl
set_option maxHeartbeats 4000000 in
set_option maxRecDepth 100000 in
theorem c_X9_way (l : Launch) (D : va_G) (sz : Nat) (h0 : Nat) (a0 : Nat) (a2 : Nat) (a4 : Nat) (a5 : Nat) (a6 : Nat) (a7 : Nat) (a8 : Nat) (a9 : Nat) (a14 : Nat) (a15 : Nat) (a16 : Nat) (th : Int32) (k5 : ClassId) (k8 : ClassId) (k14 : ClassId) (k15 : ClassId) (f5 : Nat → Int32) (f8 : Nat → Int32) (f14 : Nat → Int32) (f15 : Nat → Int32) (bq : Int32) (x : Int32) (hs5 : ∀ k, k < 4 → f5 k = 1) (hs8 : ∀ k, k < 4 → f8 k = 1) : Ci l yX9_way wsX9_way ({ frames := 2, cells := 0, slots := 0, locals := 44 } : Room) D [.ref h0, .int bq, .int x] [(h0, .inr (8, [.ref a0, .int 0, .ref a2, .int 0, .ref a4, .ref a5, .ref a6, .ref a7, .ref a8, .ref a9, .int 0, .int 0, .int th, .int 0, .ref a14, .ref a15, .ref a16])), (a5, .inl (k5, 4, .inl f5)), (a8, .inl (k8, 4, .inl f8)), (a14, .inl (k14, 256, .inl f14)), (a15, .inl (k15, 256, .inl f15))] [(k5, .int), (k8, .int), (k14, .int), (k15, .int)] sz (fun (r : Int32) => fun (_ : Unit) => r = waS bq x) (fun (_ : Unit) => []) (fun (_ : Unit) => []) := by
  refine ct_i (cc := cX9_way) (maxL := 8) (ret := (some .int)) (by decide) rfl (Nat.le_of_ble_eq_true rfl) ?_
  intro p e s m below meth c A ls H hx hb hr hts hown hml hlocks hin hA hS hP hK hD hNW hl hAe hsz
  have hl : lv_has ls 8 [(0, .ref h0), (1, .int bq), (2, .int x)] := hl
  refine lv_aload_n hx hb dX9_way_0 rfl (lv_at hl 0 rfl) ?_
  refine lv_iconst (v := 0) hx hb dX9_way_1 (by decide) ?_
  refine va_put (D := D) (ci := 8) (v := .int 0) (ty := .int) (C := RX9) (T := TX9) (N := 17) hx hb hts hiX9_way_X9 tyX9 tyX9_ok nmX9 hown hK hP hD hS 0 rfl rfl 12 (by decide) (hts (.fieldLink RX9 43 "OneHandsetModel" "thrown" "I") (List.mem_of_getElem? (i := 1) rfl)) (fun _ h9 => h9) rfl (by decide +kernel) rfl rfl (Nat.le_of_ble_eq_true rfl) dX9_way_2 (fun H locs hP hD hS => ?_)
  have hP : va_P D vwCl [(h0, .inr (8, [.ref a0, .int 0, .ref a2, .int 0, .ref a4, .ref a5, .ref a6, .ref a7, .ref a8, .ref a9, .int 0, .int 0, .int 0, .int 0, .ref a14, .ref a15, .ref a16])), (a5, .inl (k5, 4, .inl f5)), (a8, .inl (k8, 4, .inl f8)), (a14, .inl (k14, 256, .inl f14)), (a15, .inl (k15, 256, .inl f15))] H := hP
  have hD : va_D A [(h0, .inr (8, [.ref a0, .int 0, .ref a2, .int 0, .ref a4, .ref a5, .ref a6, .ref a7, .ref a8, .ref a9, .int 0, .int 0, .int 0, .int 0, .ref a14, .ref a15, .ref a16])), (a5, .inl (k5, 4, .inl f5)), (a8, .inl (k8, 4, .inl f8)), (a14, .inl (k14, 256, .inl f14)), (a15, .inl (k15, 256, .inl f15))] := hD
  refine lv_iload_n hx hb dX9_way_5 rfl (lv_at hl 1 rfl) ?_
  refine go_i (wr := [(h0, .inr (8, [.ref a0, .int 0, .ref a2, .int 0, .ref a4, .ref a5, .ref a6, .ref a7, .ref a8, .ref a9, .int 0, .int 0, .int 0, .int 0, .ref a14, .ref a15, .ref a16])), (a5, .inl (k5, 4, .inl f5)), (a8, .inl (k8, 4, .inl f8)), (a14, .inl (k14, 256, .inl f14)), (a15, .inl (k15, 256, .inl f15))]) (tysr := [(k5, .int), (k8, .int), (k14, .int), (k15, .int)]) hP hD hS hA hK [] [0, 1, 2, 3, 4] [0, 1, 2, 3] rfl rfl (by decide) (by decide) rfl (va_runS (As := [.int bq]) (rest := []) ⟨hx, hb, hml, hown, hts⟩ (c_X9_isBox l D H.size bq ) (va_cwS 1 hts gX9_way_X9_isBox rfl rfl rfl (by decide +kernel) ⟨Nat.le_of_ble_eq_true rfl, Nat.le_of_ble_eq_true rfl⟩) (st_preS hP hD hK hNW [] [] rfl rfl (by decide) rfl) rfl rfl hl.1 rfl (lv_room (Nat.le_of_ble_eq_true rfl)) dX9_way_6 ⟨(Nat.le_of_ble_eq_true rfl), (Nat.le_of_ble_eq_true rfl)⟩) (fun r_1 u H locs hw hP hD hK hS => ?_)
  have hw : r_1 = wi bq 0 3 := hw
  subst hw
  have hP : va_P D vwCl [(h0, .inr (8, [.ref a0, .int 0, .ref a2, .int 0, .ref a4, .ref a5, .ref a6, .ref a7, .ref a8, .ref a9, .int 0, .int 0, .int 0, .int 0, .ref a14, .ref a15, .ref a16])), (a5, .inl (k5, 4, .inl f5)), (a8, .inl (k8, 4, .inl f8)), (a14, .inl (k14, 256, .inl f14)), (a15, .inl (k15, 256, .inl f15))] H := hP
  have hD : va_D A [(h0, .inr (8, [.ref a0, .int 0, .ref a2, .int 0, .ref a4, .ref a5, .ref a6, .ref a7, .ref a8, .ref a9, .int 0, .int 0, .int 0, .int 0, .ref a14, .ref a15, .ref a16])), (a5, .inl (k5, 4, .inl f5)), (a8, .inl (k8, 4, .inl f8)), (a14, .inl (k14, 256, .inl f14)), (a15, .inl (k15, 256, .inl f15))] := hD
  have hK : va_K D vwCl [(k5, .int), (k8, .int), (k14, .int), (k15, .int)] s := hK
  refine lv_if_eq (tgt := 21) hx hb dX9_way_9 (by decide) (fun c_2 => ?_) (fun c_2 => ?_)
  · refine lv_iconst (v := (-1)) hx hb dX9_way_21 (by decide) ?_
    exact ret_i hx hb hr hlocks rfl (u := ()) (by simp [waS, c_2]) (hP.sub [] rfl) (hK.sub [] rfl) (hD.sub [] (by decide) rfl) hS (Nat.le_of_ble_eq_true rfl) (Nat.le_of_ble_eq_true rfl) dX9_way_22
  refine lv_aload_n hx hb dX9_way_12 rfl (lv_at hl 0 rfl) ?_
  refine lv_iload_n hx hb dX9_way_13 rfl (lv_at hl 1 rfl) ?_
  refine lv_iload_n hx hb dX9_way_14 rfl (lv_at hl 2 rfl) ?_
  refine go_i (wr := [(a8, .inl (k8, 4, .inl f8)), (a14, .inl (k14, 256, .inl f14)), (a15, .inl (k15, 256, .inl f15))]) (tysr := [(k8, .int), (k14, .int), (k15, .int)]) hP hD hS hA hK [0, 1] [2, 3, 4] [1, 2, 3] rfl rfl (by decide) (by decide) rfl (va_runV (As := [.int bq, .int x]) (rest := []) ⟨hx, hb, hml, hown, hts⟩ (c_X9_isSet l D H.size h0 a0 a2 a4 a5 a6 a7 a8 a9 a14 a15 a16 0 k5 f5 bq x c_2 hs5) (cwV 2 hts gX9_way_X9_isSet rfl rfl rfl (by decide +kernel) ⟨Nat.le_of_ble_eq_true rfl, Nat.le_of_ble_eq_true rfl⟩) (st_preV (ci := 8) (q0 := 0) hP hD hK hNW [0, 1] [0] rfl rfl (by decide) rfl rfl rfl rfl) rfl rfl hl.1 rfl (lv_room (Nat.le_of_ble_eq_true rfl)) dX9_way_15 ⟨(Nat.le_of_ble_eq_true rfl), (Nat.le_of_ble_eq_true rfl)⟩) (fun r_3 u H locs hw hP hD hK hS => ?_)
  have hw : r_3 = wi x 1 1 := hw
  subst hw
  have hP : va_P D vwCl [(a8, .inl (k8, 4, .inl f8)), (a14, .inl (k14, 256, .inl f14)), (a15, .inl (k15, 256, .inl f15)), (h0, .inr (8, [.ref a0, .int 0, .ref a2, .int 0, .ref a4, .ref a5, .ref a6, .ref a7, .ref a8, .ref a9, .int 0, .int 0, .int 0, .int 0, .ref a14, .ref a15, .ref a16])), (a5, .inl (k5, 4, .inl f5))] H := hP
  have hD : va_D A [(a8, .inl (k8, 4, .inl f8)), (a14, .inl (k14, 256, .inl f14)), (a15, .inl (k15, 256, .inl f15)), (h0, .inr (8, [.ref a0, .int 0, .ref a2, .int 0, .ref a4, .ref a5, .ref a6, .ref a7, .ref a8, .ref a9, .int 0, .int 0, .int 0, .int 0, .ref a14, .ref a15, .ref a16])), (a5, .inl (k5, 4, .inl f5))] := hD
  have hK : va_K D vwCl [(k8, .int), (k14, .int), (k15, .int), (k5, .int)] s := hK
  refine lv_if_ne (tgt := 23) hx hb dX9_way_18 (by decide) (fun c_4 => ?_) (fun c_4 => ?_)
  · obtain rfl : x = 1 := wi_11 c_4
    refine lv_iconst (v := 0) hx hb dX9_way_23 (by decide) ?_
    refine lv_istore_n (lv' := [(3, .int 0), (0, .ref h0), (1, .int bq), (2, .int 1)]) hx hb dX9_way_24 rfl hl (by decide) rfl (fun ls hl => ?_)
    refine lp_W (N := 256) (P := fun i9 H locs ls => (∃ g9 : Nat → Int32, va_P D vwCl [(a8, .inl (k8, 4, .inl f8)), (a14, .inl (k14, 256, .inl f14)), (a15, .inl (k15, 256, .inl g9)), (h0, .inr (8, [.ref a0, .int 0, .ref a2, .int 0, .ref a4, .ref a5, .ref a6, .ref a7, .ref a8, .ref a9, .int 0, .int 0, .int 0, .int 0, .ref a14, .ref a15, .ref a16])), (a5, .inl (k5, 4, .inl f5))] H ∧ va_D A [(a8, .inl (k8, 4, .inl f8)), (a14, .inl (k14, 256, .inl f14)), (a15, .inl (k15, 256, .inl g9)), (h0, .inr (8, [.ref a0, .int 0, .ref a2, .int 0, .ref a4, .ref a5, .ref a6, .ref a7, .ref a8, .ref a9, .int 0, .int 0, .int 0, .int 0, .ref a14, .ref a15, .ref a16])), (a5, .inl (k5, 4, .inl f5))]) ∧ va_S A s.heap H locs ∧ lv_has ls 8 [(3, .int (nI i9)), (0, .ref h0), (1, .int bq), (2, .int 1)]) ?_ ⟨⟨_, hP, hD⟩, hS, hl⟩
    intro i9 hi9 ih H locs ls hI
    obtain ⟨⟨g9, hP, hD⟩, hS, hl⟩ := hI
    refine lv_iload_n hx hb dX9_way_25 rfl (lv_at hl 0 rfl) ?_
    refine lv_sipush (v := 256) hx hb dX9_way_26 (by decide) ?_
    refine lv_icmp_ge (tgt := 45) hx hb dX9_way_29 (by decide) (fun c_5 => ?_) (fun c_5 => ?_)
    · refine lv_aload_n hx hb dX9_way_45 rfl (lv_at hl 1 rfl) ?_
      refine va_get (D := D) (ci := 8) (v := .ref a14) (C := RX9) (T := TX9) (N := 17) hx hb hts hiX9_way_X9 hown hK hP 3 rfl rfl 14 (by decide) (hts (.fieldLink RX9 34 "OneHandsetModel" "queue" "[I") (List.mem_of_getElem? (i := 3) rfl)) (fun _ h9 => h9) rfl dX9_way_46 ?_
      refine lv_iconst (v := 0) hx hb dX9_way_49 (by decide) ?_
      refine lv_aload_n hx hb dX9_way_50 rfl (lv_at hl 1 rfl) ?_
      refine va_get (D := D) (ci := 8) (v := .ref a8) (C := RX9) (T := TX9) (N := 17) hx hb hts hiX9_way_X9 hown hK hP 3 rfl rfl 8 (by decide) (hts (.fieldLink RX9 28 "OneHandsetModel" "sets" "[I") (List.mem_of_getElem? (i := 4) rfl)) (fun _ h9 => h9) rfl dX9_way_51 ?_
      refine lv_iload_n hx hb dX9_way_54 rfl (lv_at hl 2 rfl) ?_
      refine va_iald hx hb hK hP 0 0 rfl rfl (wi_in c_2) dX9_way_55 ?_
      refine lv_topi (fun v_6 ev_6 => ?_)
      obtain rfl : v_6 = 1 := ev_6.trans (hs8 _ (wi_lt c_2))
      refine va_iast hx hb hK hP hD hS 1 1 rfl rfl (vin (by decide)) dX9_way_56 (fun H locs hP hD hS => ?_)
      have hP : va_P D vwCl [(a8, .inl (k8, 4, .inl f8)), (a14, .inl (k14, 256, .inl (upd f14 0 1))), (a15, .inl (k15, 256, .inl g9)), (h0, .inr (8, [.ref a0, .int 0, .ref a2, .int 0, .ref a4, .ref a5, .ref a6, .ref a7, .ref a8, .ref a9, .int 0, .int 0, .int 0, .int 0, .ref a14, .ref a15, .ref a16])), (a5, .inl (k5, 4, .inl f5))] H := hP
      have hD : va_D A [(a8, .inl (k8, 4, .inl f8)), (a14, .inl (k14, 256, .inl (upd f14 0 1))), (a15, .inl (k15, 256, .inl g9)), (h0, .inr (8, [.ref a0, .int 0, .ref a2, .int 0, .ref a4, .ref a5, .ref a6, .ref a7, .ref a8, .ref a9, .int 0, .int 0, .int 0, .int 0, .ref a14, .ref a15, .ref a16])), (a5, .inl (k5, 4, .inl f5))] := hD
      refine lv_aload_n hx hb dX9_way_57 rfl (lv_at hl 1 rfl) ?_
      refine va_get (D := D) (ci := 8) (v := .ref a15) (C := RX9) (T := TX9) (N := 17) hx hb hts hiX9_way_X9 hown hK hP 3 rfl rfl 15 (by decide) (hts (.fieldLink RX9 37 "OneHandsetModel" "from" "[I") (List.mem_of_getElem? (i := 2) rfl)) (fun _ h9 => h9) rfl dX9_way_58 ?_
      refine lv_aload_n hx hb dX9_way_61 rfl (lv_at hl 1 rfl) ?_
      refine va_get (D := D) (ci := 8) (v := .ref a8) (C := RX9) (T := TX9) (N := 17) hx hb hts hiX9_way_X9 hown hK hP 3 rfl rfl 8 (by decide) (hts (.fieldLink RX9 28 "OneHandsetModel" "sets" "[I") (List.mem_of_getElem? (i := 4) rfl)) (fun _ h9 => h9) rfl dX9_way_62 ?_
      refine lv_iload_n hx hb dX9_way_65 rfl (lv_at hl 2 rfl) ?_
      refine va_iald hx hb hK hP 0 0 rfl rfl (wi_in c_2) dX9_way_66 ?_
      refine lv_topi (fun v_7 ev_7 => ?_)
      obtain rfl : v_7 = 1 := ev_7.trans (hs8 _ (wi_lt c_2))
      refine lv_aload_n hx hb dX9_way_67 rfl (lv_at hl 1 rfl) ?_
      refine va_get (D := D) (ci := 8) (v := .ref a8) (C := RX9) (T := TX9) (N := 17) hx hb hts hiX9_way_X9 hown hK hP 3 rfl rfl 8 (by decide) (hts (.fieldLink RX9 28 "OneHandsetModel" "sets" "[I") (List.mem_of_getElem? (i := 4) rfl)) (fun _ h9 => h9) rfl dX9_way_68 ?_
      refine lv_iload_n hx hb dX9_way_71 rfl (lv_at hl 2 rfl) ?_
      refine va_iald hx hb hK hP 0 0 rfl rfl (wi_in c_2) dX9_way_72 ?_
      refine lv_topi (fun v_8 ev_8 => ?_)
      obtain rfl : v_8 = 1 := ev_8.trans (hs8 _ (wi_lt c_2))
      refine va_iast hx hb hK hP hD hS 2 2 rfl rfl (vin (by decide)) dX9_way_73 (fun H locs hP hD hS => ?_)
      obtain ⟨g_9, hP, hD⟩ : ∃ g9 : Nat → Int32, va_P D vwCl [(a8, .inl (k8, 4, .inl f8)), (a14, .inl (k14, 256, .inl (upd f14 0 1))), (a15, .inl (k15, 256, .inl g9)), (h0, .inr (8, [.ref a0, .int 0, .ref a2, .int 0, .ref a4, .ref a5, .ref a6, .ref a7, .ref a8, .ref a9, .int 0, .int 0, .int 0, .int 0, .ref a14, .ref a15, .ref a16])), (a5, .inl (k5, 4, .inl f5))] H ∧ va_D A [(a8, .inl (k8, 4, .inl f8)), (a14, .inl (k14, 256, .inl (upd f14 0 1))), (a15, .inl (k15, 256, .inl g9)), (h0, .inr (8, [.ref a0, .int 0, .ref a2, .int 0, .ref a4, .ref a5, .ref a6, .ref a7, .ref a8, .ref a9, .int 0, .int 0, .int 0, .int 0, .ref a14, .ref a15, .ref a16])), (a5, .inl (k5, 4, .inl f5))] := ⟨_, hP, hD⟩
      refine lv_iconst (v := 1) hx hb dX9_way_74 (by decide) ?_
      refine lv_istore_n (lv' := [(3, .int 1), (0, .ref h0), (1, .int bq), (2, .int 1)]) hx hb dX9_way_75 rfl hl (by decide) rfl (fun ls hl => ?_)
      refine lv_iconst (v := 0) hx hb dX9_way_76 (by decide) ?_
      refine lv_istore (lv' := [(4, .int 0), (3, .int 1), (0, .ref h0), (1, .int bq), (2, .int 1)]) hx hb dX9_way_77 hl (by decide) rfl (fun ls hl => ?_)
      refine lv_iload hx hb dX9_way_79 (lv_at hl 0 rfl) ?_
      refine lv_iload_n hx hb dX9_way_81 rfl (lv_at hl 1 rfl) ?_
      refine lv_icmp_ge (tgt := 191) hx hb dX9_way_82 (by decide) (fun c_10 => absurd c_10 (by decide)) (fun _ => ?_)
      refine lv_aload_n hx hb dX9_way_85 rfl (lv_at hl 2 rfl) ?_
      refine va_get (D := D) (ci := 8) (v := .ref a14) (C := RX9) (T := TX9) (N := 17) hx hb hts hiX9_way_X9 hown hK hP 3 rfl rfl 14 (by decide) (hts (.fieldLink RX9 34 "OneHandsetModel" "queue" "[I") (List.mem_of_getElem? (i := 3) rfl)) (fun _ h9 => h9) rfl dX9_way_86 ?_
      refine lv_iload hx hb dX9_way_89 (lv_at hl 0 rfl) ?_
      refine va_iald hx hb hK hP 1 1 rfl rfl (vin (by decide)) dX9_way_91 ?_
      refine lv_topi (fun v_11 ev_11 => ?_)
      obtain rfl : v_11 = 1 := ev_11.trans (by simp [upd])
      refine lv_istore (lv' := [(5, .int 1), (4, .int 0), (3, .int 1), (0, .ref h0), (1, .int bq), (2, .int 1)]) hx hb dX9_way_92 hl (by decide) rfl (fun ls hl => ?_)
      refine lv_iload hx hb dX9_way_94 (lv_at hl 0 rfl) ?_
      refine lv_iload_n hx hb dX9_way_96 rfl (lv_at hl 5 rfl) ?_
      refine lv_iconst (v := (-1)) hx hb dX9_way_97 (by decide) ?_
      refine lv_ixor hx hb dX9_way_98 ?_
      refine lv_topi (fun v_12 ev_12 => ?_)
      obtain rfl : v_12 = (-2 : Int32) := ev_12.trans (by decide)
      refine lv_iand hx hb dX9_way_99 ?_
      refine lv_topi (fun v_13 ev_13 => ?_)
      obtain rfl : v_13 = (0 : Int32) := ev_13.trans (by decide)
      refine lv_if_ne (tgt := 111) hx hb dX9_way_100 (by decide) (fun c_14 => absurd c_14 (by decide)) (fun _ => ?_)
      refine lv_aload_n hx hb dX9_way_103 rfl (lv_at hl 3 rfl) ?_
      refine lv_iload_n hx hb dX9_way_104 rfl (lv_at hl 4 rfl) ?_
      refine lv_iload hx hb dX9_way_105 (lv_at hl 0 rfl) ?_
      refine go_i (wr := [(a14, .inl (k14, 256, .inl (upd f14 0 1))), (a15, .inl (k15, 256, .inl g_9)), (a5, .inl (k5, 4, .inl f5))]) (tysr := [(k14, .int), (k15, .int), (k5, .int)]) hP hD hS hA hK [3, 0] [1, 2, 4] [1, 2, 3] rfl rfl (by decide) (by decide) rfl (va_runV (As := [.int bq, .int 1]) (rest := []) ⟨hx, hb, hml, hown, hts⟩ (c_X9_tell l D H.size h0 a0 a2 a4 a5 a6 a7 a8 a9 a14 a15 a16 0 k8 f8 bq c_2 hs8) (cwV 2 hts gX9_way_X9_tell rfl rfl rfl (by decide +kernel) ⟨Nat.le_of_ble_eq_true rfl, Nat.le_of_ble_eq_true rfl⟩) (st_preV (ci := 8) (q0 := 3) hP hD hK hNW [3, 0] [0] rfl rfl (by decide) rfl rfl rfl rfl) rfl rfl hl.1 rfl (lv_room (Nat.le_of_ble_eq_true rfl)) dX9_way_107 ⟨(Nat.le_of_ble_eq_true rfl), (Nat.le_of_ble_eq_true rfl)⟩) (fun r_15 u H locs hw hP hD hK hS => ?_)
      have hw : r_15 = 0 := hw
      subst hw
      have hP : va_P D vwCl [(a14, .inl (k14, 256, .inl (upd f14 0 1))), (a15, .inl (k15, 256, .inl g_9)), (a5, .inl (k5, 4, .inl f5))] H := hP
      have hD : va_D A [(a14, .inl (k14, 256, .inl (upd f14 0 1))), (a15, .inl (k15, 256, .inl g_9)), (a5, .inl (k5, 4, .inl f5))] := hD
      have hK : va_K D vwCl [(k14, .int), (k15, .int), (k5, .int)] s := hK
      exact ret_i hx hb hr hlocks rfl (u := ()) (by simp [waS, c_2, c_4, c_5]) (hP.sub [] rfl) (hK.sub [] rfl) (hD.sub [] (by decide) rfl) hS (Nat.le_of_ble_eq_true rfl) (Nat.le_of_ble_eq_true rfl) dX9_way_110
    refine lv_aload_n hx hb dX9_way_32 rfl (lv_at hl 1 rfl) ?_
    refine va_get (D := D) (ci := 8) (v := .ref a15) (C := RX9) (T := TX9) (N := 17) hx hb hts hiX9_way_X9 hown hK hP 3 rfl rfl 15 (by decide) (hts (.fieldLink RX9 37 "OneHandsetModel" "from" "[I") (List.mem_of_getElem? (i := 2) rfl)) (fun _ h9 => h9) rfl dX9_way_33 ?_
    refine lv_iload_n hx hb dX9_way_36 rfl (lv_at hl 0 rfl) ?_
    refine lv_iconst (v := (-1)) hx hb dX9_way_37 (by decide) ?_
    have hlt : i9 < 256 := by
      rcases Nat.lt_or_ge i9 256 with q | q
      · exact q
      · exact absurd (nI_le q (by omega)) c_5
    refine va_iast hx hb hK hP hD hS 2 2 rfl rfl (vp_in_nI hlt (by decide)) dX9_way_38 (fun H locs hP hD hS => ?_)
    obtain ⟨g_16, hP, hD⟩ : ∃ g9 : Nat → Int32, va_P D vwCl [(a8, .inl (k8, 4, .inl f8)), (a14, .inl (k14, 256, .inl f14)), (a15, .inl (k15, 256, .inl g9)), (h0, .inr (8, [.ref a0, .int 0, .ref a2, .int 0, .ref a4, .ref a5, .ref a6, .ref a7, .ref a8, .ref a9, .int 0, .int 0, .int 0, .int 0, .ref a14, .ref a15, .ref a16])), (a5, .inl (k5, 4, .inl f5))] H ∧ va_D A [(a8, .inl (k8, 4, .inl f8)), (a14, .inl (k14, 256, .inl f14)), (a15, .inl (k15, 256, .inl g9)), (h0, .inr (8, [.ref a0, .int 0, .ref a2, .int 0, .ref a4, .ref a5, .ref a6, .ref a7, .ref a8, .ref a9, .int 0, .int 0, .int 0, .int 0, .ref a14, .ref a15, .ref a16])), (a5, .inl (k5, 4, .inl f5))] := ⟨_, hP, hD⟩
    refine lv_iinc (v := nI (i9 + 1)) (lv' := [(3, .int (nI (i9 + 1))), (0, .ref h0), (1, .int bq), (2, .int 1)]) hx hb dX9_way_39 hl (k := 0) rfl (nI_1 i9) (by decide) rfl (fun ls hl => ?_)
    refine lv_goto (tgt := 25) hx hb dX9_way_42 (by decide) ?_
    exact ih _ _ _ hlt ⟨⟨_, hP, hD⟩, hS, lv_sub hl [0, 1, 2, 3] rfl⟩
  refine lv_iconst (v := (-1)) hx hb dX9_way_21 (by decide) ?_
  exact ret_i hx hb hr hlocks rfl (u := ()) (by simp [waS, c_2, c_4]) (hP.sub [] rfl) (hK.sub [] rfl) (hD.sub [] (by decide) rfl) hS (Nat.le_of_ble_eq_true rfl) (Nat.le_of_ble_eq_true rfl) dX9_way_22
