set_option maxHeartbeats 4000000 in
set_option maxRecDepth 100000 in
theorem m_in (l : Launch) (D : va_G) (sz : Nat) (v : Int32) (lo : Int32) (hi : Int32)  : Ci l yX9_in wsX9_in ({ frames := 0, cells := 0, slots := 0, locals := 0 } : Room) D [.int v, .int lo, .int hi] [] [] sz (fun (r : Int32) => fun (_ : Unit) => r = wi v lo hi) (fun (_ : Unit) => []) (fun (_ : Unit) => []) := by
  refine ct_i (cc := cX9_in) (maxL := 3) (ret := (some .boolean)) (by decide) rfl (Nat.le_of_ble_eq_true rfl) ?_
  intro p e s m below meth c A ls H hx hb hr hts hown hml hlocks hin hA hS hP hK hD hNW hl hAe hsz
  have hl : lv_has ls 3 [(0, .int v), (1, .int lo), (2, .int hi)] := hl
  refine lv_iload_n hx hb dX9_in_0 rfl (lv_at hl 0 rfl) ?_
  refine lv_iload_n hx hb dX9_in_1 rfl (lv_at hl 1 rfl) ?_
  refine lv_icmp_lt (tgt := 14) hx hb dX9_in_2 (by decide) (fun c_1 => ?_) (fun c_1 => ?_)
  · refine lv_iconst (v := 0) hx hb dX9_in_14 (by decide) ?_
    exact ret_i hx hb hr hlocks rfl (u := ()) (by simp [wi, c_1]) (hP.sub [] rfl) (hK.sub [] rfl) (hD.sub [] (by decide) rfl) hS (Nat.le_of_ble_eq_true rfl) (Nat.le_of_ble_eq_true rfl) dX9_in_15
  refine lv_iload_n hx hb dX9_in_5 rfl (lv_at hl 0 rfl) ?_
  refine lv_iload_n hx hb dX9_in_6 rfl (lv_at hl 2 rfl) ?_
  refine lv_icmp_gt (tgt := 14) hx hb dX9_in_7 (by decide) (fun c_2 => ?_) (fun c_2 => ?_)
  · refine lv_iconst (v := 0) hx hb dX9_in_14 (by decide) ?_
    exact ret_i hx hb hr hlocks rfl (u := ()) (by simp [wi, c_1, c_2]) (hP.sub [] rfl) (hK.sub [] rfl) (hD.sub [] (by decide) rfl) hS (Nat.le_of_ble_eq_true rfl) (Nat.le_of_ble_eq_true rfl) dX9_in_15
  refine lv_iconst (v := 1) hx hb dX9_in_10 (by decide) ?_
  refine lv_goto (tgt := 15) hx hb dX9_in_11 (by decide) ?_
  exact ret_i hx hb hr hlocks rfl (u := ()) (by simp [wi, c_1, c_2]) (hP.sub [] rfl) (hK.sub [] rfl) (hD.sub [] (by decide) rfl) hS (Nat.le_of_ble_eq_true rfl) (Nat.le_of_ble_eq_true rfl) dX9_in_15
theorem him_isMake_X9 : ∀ w ∈ wsX90, w ∈ wsX9_isMake := mem_pl [6, 7, 8, 9, 10, 11, 12, 13, 14, 15, 16, 17, 18, 19, 20, 21, 22] rfl
set_option maxHeartbeats 4000000 in
set_option maxRecDepth 100000 in
theorem m_isMake (l : Launch) (D : va_G) (sz : Nat) (cI : ClassId) (h0 : Nat) (a0 : Nat) (a1 : Nat) (a2 : Nat) (a3 : Nat) (a4 : Nat) (a5 : Nat) (a6 : Nat) (a7 : Nat) (a8 : Nat) (a9 : Nat) (ab : Nat) (tk : Int32) (mm : Int32) (wm : Int32) (fa : Int32) (th : Int32) (se : Int32) (v : Int32)  : Ci l yX9_isMake wsX9_isMake ({ frames := 1, cells := 0, slots := 0, locals := 22 } : Room) D [.ref h0, .int v] [(h0, .inr (8, [.ref a0, .int tk, .ref a1, .int mm, .ref a2, .ref a3, .ref a4, .ref a5, .ref a6, .ref a7, .int wm, .int fa, .int th, .int se, .ref a8, .ref a9, .ref ab]))] [(cI, .int)] sz (fun (r : Int32) => fun (_ : Unit) => r = wi v 0 (mm - 1)) (fun (_ : Unit) => [(h0, .inr (8, [.ref a0, .int tk, .ref a1, .int mm, .ref a2, .ref a3, .ref a4, .ref a5, .ref a6, .ref a7, .int wm, .int fa, .int th, .int se, .ref a8, .ref a9, .ref ab]))]) (fun (_ : Unit) => []) := by
  refine ct_i (cc := cX9_isMake) (maxL := 2) (ret := (some .boolean)) (by decide) rfl (Nat.le_of_ble_eq_true rfl) ?_
  intro p e s m below meth c A ls H hx hb hr hts hown hml hlocks hin hA hS hP hK hD hNW hl hAe hsz
  have hl : lv_has ls 2 [(0, .ref h0), (1, .int v)] := hl
  refine lv_iload_n hx hb dX9_isMake_0 rfl (lv_at hl 1 rfl) ?_
  refine lv_iconst (v := 0) hx hb dX9_isMake_1 (by decide) ?_
  refine lv_aload_n hx hb dX9_isMake_2 rfl (lv_at hl 0 rfl) ?_
  refine va_get (D := D) (ci := 8) (v := .int mm) (C := RX9) (T := TX9) (N := 17) hx hb hts him_isMake_X9 hown hK hP 0 rfl rfl 3 (by decide) (hts (.fieldLink RX9 47 "OneHandsetModel" "makeMany" "I") (List.mem_of_getElem? (i := 1) rfl)) (fun _ h9 => h9) rfl dX9_isMake_3 ?_
  refine lv_iconst (v := 1) hx hb dX9_isMake_6 (by decide) ?_
  refine lv_isub hx hb dX9_isMake_7 ?_
  refine go_i (wr := [(h0, .inr (8, [.ref a0, .int tk, .ref a1, .int mm, .ref a2, .ref a3, .ref a4, .ref a5, .ref a6, .ref a7, .int wm, .int fa, .int th, .int se, .ref a8, .ref a9, .ref ab]))]) (tysr := [(cI, .int)]) hP hD hS hA hK [] [0] [0] rfl rfl (by decide) (by decide) rfl (va_runS (As := [.int v, .int 0, .int (mm - 1)]) (rest := []) ⟨hx, hb, hml, hown, hts⟩ (m_in l D H.size v 0 (mm - 1) ) (va_cwS 3 hts gX9_isMake_X9_in rfl rfl rfl (by decide +kernel) ⟨Nat.le_of_ble_eq_true rfl, Nat.le_of_ble_eq_true rfl⟩) (st_preS hP hD hK hNW [] [] rfl rfl (by decide) rfl) rfl rfl hl.1 rfl (lv_room (Nat.le_of_ble_eq_true rfl)) dX9_isMake_8 ⟨(Nat.le_of_ble_eq_true rfl), (Nat.le_of_ble_eq_true rfl)⟩) (fun r_1 u H locs hw hP hD hK hS => ?_)
  have hw : r_1 = wi v 0 (mm - 1) := hw
  subst hw
  have hP : va_P D vwCl [(h0, .inr (8, [.ref a0, .int tk, .ref a1, .int mm, .ref a2, .ref a3, .ref a4, .ref a5, .ref a6, .ref a7, .int wm, .int fa, .int th, .int se, .ref a8, .ref a9, .ref ab]))] H := hP
  have hD : va_D A [(h0, .inr (8, [.ref a0, .int tk, .ref a1, .int mm, .ref a2, .ref a3, .ref a4, .ref a5, .ref a6, .ref a7, .int wm, .int fa, .int th, .int se, .ref a8, .ref a9, .ref ab]))] := hD
  have hK : va_K D vwCl [(cI, .int)] s := hK
  exact ret_i hx hb hr hlocks (wi_nar _ _ _) (u := ()) rfl (hP.sub [0] rfl) (hK.sub [] rfl) (hD.sub [0] (by decide) rfl) hS (Nat.le_of_ble_eq_true rfl) (Nat.le_of_ble_eq_true rfl) dX9_isMake_11
theorem him_get_X9 : ∀ w ∈ wsX90, w ∈ wsX9_get := mem_pl [2, 3, 4, 5, 6, 7, 8, 9, 10, 11, 12, 13, 14, 15, 16, 17, 18] rfl
set_option maxHeartbeats 4000000 in
set_option maxRecDepth 100000 in
theorem m_get (l : Launch) (D : va_G) (sz : Nat) (cI : ClassId) (h0 : Nat) (a0 : Nat) (a1 : Nat) (a2 : Nat) (a3 : Nat) (a4 : Nat) (a5 : Nat) (a6 : Nat) (a7 : Nat) (a8 : Nat) (a9 : Nat) (ab : Nat) (tk : Int32) (mm : Int32) (wm : Int32) (fa : Int32) (th : Int32) (se : Int32) (g1 : Nat → Int32) (v : Int32) (w : Int32) (hv : bi v 0 7) (hw9 : bi w 0 9) : Ci l yX9_get wsX9_get ({ frames := 0, cells := 0, slots := 0, locals := 0 } : Room) D [.ref h0, .int v, .int w] [(h0, .inr (8, [.ref a0, .int tk, .ref a1, .int mm, .ref a2, .ref a3, .ref a4, .ref a5, .ref a6, .ref a7, .int wm, .int fa, .int th, .int se, .ref a8, .ref a9, .ref ab])), (a1, .inl (cI, 80, .inl g1))] [(cI, .int)] sz (fun (r : Int32) => fun (_ : Unit) => r = g1 (Int32.toNatClampNeg (10 * v + w))) (fun (_ : Unit) => [(h0, .inr (8, [.ref a0, .int tk, .ref a1, .int mm, .ref a2, .ref a3, .ref a4, .ref a5, .ref a6, .ref a7, .int wm, .int fa, .int th, .int se, .ref a8, .ref a9, .ref ab])), (a1, .inl (cI, 80, .inl g1))]) (fun (_ : Unit) => []) := by
  refine ct_i (cc := cX9_get) (maxL := 3) (ret := (some .int)) (by decide) rfl (Nat.le_of_ble_eq_true rfl) ?_
  intro p e s m below meth c A ls H hx hb hr hts hown hml hlocks hin hA hS hP hK hD hNW hl hAe hsz
  have hl : lv_has ls 3 [(0, .ref h0), (1, .int v), (2, .int w)] := hl
  refine lv_aload_n hx hb dX9_get_0 rfl (lv_at hl 0 rfl) ?_
  refine va_get (D := D) (ci := 8) (v := .ref a1) (C := RX9) (T := TX9) (N := 17) hx hb hts him_get_X9 hown hK hP 0 rfl rfl 2 (by decide) (hts (.fieldLink RX9 13 "OneHandsetModel" "makes" "[I") (List.mem_of_getElem? (i := 1) rfl)) (fun _ h9 => h9) rfl dX9_get_1 ?_
  refine lv_bipush (v := 10) hx hb dX9_get_4 (by decide) ?_
  refine lv_iload_n hx hb dX9_get_6 rfl (lv_at hl 1 rfl) ?_
  refine lv_imul hx hb dX9_get_7 ?_
  refine lv_iload_n hx hb dX9_get_8 rfl (lv_at hl 2 rfl) ?_
  refine lv_iadd hx hb dX9_get_9 ?_
  refine va_iald hx hb hK hP 1 0 rfl rfl (by have u3 := ix10 hv hw9; exact vp_in_iff.mpr (by omega)) dX9_get_10 ?_
  exact ret_i hx hb hr hlocks rfl (u := ()) rfl (hP.sub [0, 1] rfl) (hK.sub [] rfl) (hD.sub [0, 1] (by decide) rfl) hS (Nat.le_of_ble_eq_true rfl) (Nat.le_of_ble_eq_true rfl) dX9_get_11
set_option maxHeartbeats 4000000 in
set_option maxRecDepth 100000 in
theorem m_isTime (l : Launch) (D : va_G) (sz : Nat) (v : Int32)  : Ci l yX9_isTime wsX9_isTime ({ frames := 1, cells := 0, slots := 0, locals := 22 } : Room) D [.int v] [] [] sz (fun (r : Int32) => fun (_ : Unit) => r = wi v 1 20000) (fun (_ : Unit) => []) (fun (_ : Unit) => []) := by
  refine ct_i (cc := cX9_isTime) (maxL := 1) (ret := (some .boolean)) (by decide) rfl (Nat.le_of_ble_eq_true rfl) ?_
  intro p e s m below meth c A ls H hx hb hr hts hown hml hlocks hin hA hS hP hK hD hNW hl hAe hsz
  have hl : lv_has ls 1 [(0, .int v)] := hl
  refine lv_iload_n hx hb dX9_isTime_0 rfl (lv_at hl 0 rfl) ?_
  refine lv_iconst (v := 1) hx hb dX9_isTime_1 (by decide) ?_
  refine lv_sipush (v := 20000) hx hb dX9_isTime_2 (by decide) ?_
  refine go_i (wr := []) (tysr := []) hP hD hS hA hK [] [] [] rfl rfl (by decide) (by decide) rfl (va_runS (As := [.int v, .int 1, .int 20000]) (rest := []) ⟨hx, hb, hml, hown, hts⟩ (m_in l D H.size v 1 20000 ) (va_cwS 3 hts gX9_isTime_X9_in rfl rfl rfl (by decide +kernel) ⟨Nat.le_of_ble_eq_true rfl, Nat.le_of_ble_eq_true rfl⟩) (st_preS hP hD hK hNW [] [] rfl rfl (by decide) rfl) rfl rfl hl.1 rfl (lv_room (Nat.le_of_ble_eq_true rfl)) dX9_isTime_5 ⟨(Nat.le_of_ble_eq_true rfl), (Nat.le_of_ble_eq_true rfl)⟩) (fun r_1 u H locs hw hP hD hK hS => ?_)
  have hw : r_1 = wi v 1 20000 := hw
  subst hw
  have hP : va_P D vwCl [] H := hP
  have hD : va_D A [] := hD
  have hK : va_K D vwCl [] s := hK
  exact ret_i hx hb hr hlocks (wi_nar _ _ _) (u := ()) rfl (hP.sub [] rfl) (hK.sub [] rfl) (hD.sub [] (by decide) rfl) hS (Nat.le_of_ble_eq_true rfl) (Nat.le_of_ble_eq_true rfl) dX9_isTime_8
set_option maxHeartbeats 4000000 in
set_option maxRecDepth 100000 in
theorem m_isBox (l : Launch) (D : va_G) (sz : Nat) (v : Int32)  : Ci l yX9_isBox wsX9_isBox ({ frames := 1, cells := 0, slots := 0, locals := 22 } : Room) D [.int v] [] [] sz (fun (r : Int32) => fun (_ : Unit) => r = wi v 0 3) (fun (_ : Unit) => []) (fun (_ : Unit) => []) := by
  refine ct_i (cc := cX9_isBox) (maxL := 1) (ret := (some .boolean)) (by decide) rfl (Nat.le_of_ble_eq_true rfl) ?_
  intro p e s m below meth c A ls H hx hb hr hts hown hml hlocks hin hA hS hP hK hD hNW hl hAe hsz
  have hl : lv_has ls 1 [(0, .int v)] := hl
  refine lv_iload_n hx hb dX9_isBox_0 rfl (lv_at hl 0 rfl) ?_
  refine lv_iconst (v := 0) hx hb dX9_isBox_1 (by decide) ?_
  refine lv_iconst (v := 3) hx hb dX9_isBox_2 (by decide) ?_
  refine go_i (wr := []) (tysr := []) hP hD hS hA hK [] [] [] rfl rfl (by decide) (by decide) rfl (va_runS (As := [.int v, .int 0, .int 3]) (rest := []) ⟨hx, hb, hml, hown, hts⟩ (m_in l D H.size v 0 3 ) (va_cwS 3 hts gX9_isBox_X9_in rfl rfl rfl (by decide +kernel) ⟨Nat.le_of_ble_eq_true rfl, Nat.le_of_ble_eq_true rfl⟩) (st_preS hP hD hK hNW [] [] rfl rfl (by decide) rfl) rfl rfl hl.1 rfl (lv_room (Nat.le_of_ble_eq_true rfl)) dX9_isBox_3 ⟨(Nat.le_of_ble_eq_true rfl), (Nat.le_of_ble_eq_true rfl)⟩) (fun r_1 u H locs hw hP hD hK hS => ?_)
  have hw : r_1 = wi v 0 3 := hw
  subst hw
  have hP : va_P D vwCl [] H := hP
  have hD : va_D A [] := hD
  have hK : va_K D vwCl [] s := hK
  exact ret_i hx hb hr hlocks (wi_nar _ _ _) (u := ()) rfl (hP.sub [] rfl) (hK.sub [] rfl) (hD.sub [] (by decide) rfl) hS (Nat.le_of_ble_eq_true rfl) (Nat.le_of_ble_eq_true rfl) dX9_isBox_6
set_option maxHeartbeats 4000000 in
set_option maxRecDepth 100000 in
theorem m_fits (l : Launch) (D : va_G) (sz : Nat) (cI : ClassId) (h0 : Nat) (a0 : Nat) (a1 : Nat) (a2 : Nat) (a3 : Nat) (a4 : Nat) (a5 : Nat) (a6 : Nat) (a7 : Nat) (a8 : Nat) (a9 : Nat) (ab : Nat) (tk : Int32) (mm : Int32) (wm : Int32) (fa : Int32) (th : Int32) (se : Int32) (g1 : Nat → Int32) (v : Int32) (t : Int32) (w : Int32) (hv : bi v 0 7) : Ci l yX9_fits wsX9_fits ({ frames := 2, cells := 0, slots := 0, locals := 42 } : Room) D [.ref h0, .int v, .int t, .int w] [(h0, .inr (8, [.ref a0, .int tk, .ref a1, .int mm, .ref a2, .ref a3, .ref a4, .ref a5, .ref a6, .ref a7, .int wm, .int fa, .int th, .int se, .ref a8, .ref a9, .ref ab])), (a1, .inl (cI, 80, .inl g1))] [(cI, .int)] sz (fun (r : Int32) => fun (_ : Unit) => True) (fun (_ : Unit) => [(h0, .inr (8, [.ref a0, .int tk, .ref a1, .int mm, .ref a2, .ref a3, .ref a4, .ref a5, .ref a6, .ref a7, .int wm, .int fa, .int th, .int se, .ref a8, .ref a9, .ref ab])), (a1, .inl (cI, 80, .inl g1))]) (fun (_ : Unit) => []) := by
  refine ct_i (cc := cX9_fits) (maxL := 4) (ret := (some .boolean)) (by decide) rfl (Nat.le_of_ble_eq_true rfl) ?_
  intro p e s m below meth c A ls H hx hb hr hts hown hml hlocks hin hA hS hP hK hD hNW hl hAe hsz
  have hl : lv_has ls 4 [(0, .ref h0), (1, .int v), (2, .int t), (3, .int w)] := hl
  refine lv_iload_n hx hb dX9_fits_0 rfl (lv_at hl 2 rfl) ?_
  refine go_i (wr := [(h0, .inr (8, [.ref a0, .int tk, .ref a1, .int mm, .ref a2, .ref a3, .ref a4, .ref a5, .ref a6, .ref a7, .int wm, .int fa, .int th, .int se, .ref a8, .ref a9, .ref ab])), (a1, .inl (cI, 80, .inl g1))]) (tysr := [(cI, .int)]) hP hD hS hA hK [] [0, 1] [0] rfl rfl (by decide) (by decide) rfl (va_runS (As := [.int t]) (rest := []) ⟨hx, hb, hml, hown, hts⟩ (m_isTime l D H.size t ) (va_cwS 1 hts gX9_fits_X9_isTime rfl rfl rfl (by decide +kernel) ⟨Nat.le_of_ble_eq_true rfl, Nat.le_of_ble_eq_true rfl⟩) (st_preS hP hD hK hNW [] [] rfl rfl (by decide) rfl) rfl rfl hl.1 rfl (lv_room (Nat.le_of_ble_eq_true rfl)) dX9_fits_1 ⟨(Nat.le_of_ble_eq_true rfl), (Nat.le_of_ble_eq_true rfl)⟩) (fun r_1 u H locs hw hP hD hK hS => ?_)
  have hw : r_1 = wi t 1 20000 := hw
  subst hw
  have hP : va_P D vwCl [(h0, .inr (8, [.ref a0, .int tk, .ref a1, .int mm, .ref a2, .ref a3, .ref a4, .ref a5, .ref a6, .ref a7, .int wm, .int fa, .int th, .int se, .ref a8, .ref a9, .ref ab])), (a1, .inl (cI, 80, .inl g1))] H := hP
  have hD : va_D A [(h0, .inr (8, [.ref a0, .int tk, .ref a1, .int mm, .ref a2, .ref a3, .ref a4, .ref a5, .ref a6, .ref a7, .int wm, .int fa, .int th, .int se, .ref a8, .ref a9, .ref ab])), (a1, .inl (cI, 80, .inl g1))] := hD
  have hK : va_K D vwCl [(cI, .int)] s := hK
  refine lv_if_eq (tgt := 32) hx hb dX9_fits_4 (by decide) (fun c_2 => ?_) (fun c_2 => ?_)
  · refine lv_iconst (v := 0) hx hb dX9_fits_32 (by decide) ?_
    exact ret_i hx hb hr hlocks rfl (u := ()) trivial (hP.sub [0, 1] rfl) (hK.sub [] rfl) (hD.sub [0, 1] (by decide) rfl) hS (Nat.le_of_ble_eq_true rfl) (Nat.le_of_ble_eq_true rfl) dX9_fits_33
  refine lv_iload_n hx hb dX9_fits_7 rfl (lv_at hl 2 rfl) ?_
  refine lv_iload_n hx hb dX9_fits_8 rfl (lv_at hl 3 rfl) ?_
  refine lv_isub hx hb dX9_fits_9 ?_
  refine lv_topi (fun y_3 _ => ?_)
  refine va_mabs hx hb (hml.trans hl.1.symm) hown (hts (.methodLink RX9 83 Lib.Math.abs.name) (List.mem_of_getElem? (i := 1) rfl)) (hts (.static Lib.Math.abs.name) (List.mem_of_getElem? (i := 2) rfl)) (hts (.initialized "java/lang/Math") (List.mem_of_getElem? (i := 3) rfl)) (hts (.code Lib.Math.abs.name Lib.Math.abs.code 1 (some .int)) (List.mem_of_getElem? (i := 4) rfl)) (Nat.le_of_ble_eq_true rfl) (Nat.le_of_ble_eq_true rfl) (Nat.le_of_ble_eq_true rfl) (Nat.le_of_ble_eq_true rfl) dX9_fits_10 ?_
  refine lv_bipush (v := 100) hx hb dX9_fits_13 (by decide) ?_
  refine lv_imul hx hb dX9_fits_15 ?_
  refine lv_topi (fun y_4 _ => ?_)
  refine lv_aload_n hx hb dX9_fits_16 rfl (lv_at hl 0 rfl) ?_
  refine lv_iload_n hx hb dX9_fits_17 rfl (lv_at hl 1 rfl) ?_
  refine lv_bipush (v := 7) hx hb dX9_fits_18 (by decide) ?_
  refine go_i (wr := []) (tysr := [(cI, .int)]) hP hD hS hA hK [0, 1] [] [0] rfl rfl (by decide) (by decide) rfl (va_runV (As := [.int v, .int 7]) (rest := [.int y_4]) ⟨hx, hb, hml, hown, hts⟩ (m_get l D H.size cI h0 a0 a1 a2 a3 a4 a5 a6 a7 a8 a9 ab tk mm wm fa th se g1 v 7 (by first | assumption | decide | omega) (by first | assumption | decide | omega)) (cwV 2 hts gX9_fits_X9_get rfl rfl rfl (by decide +kernel) ⟨Nat.le_of_ble_eq_true rfl, Nat.le_of_ble_eq_true rfl⟩) (st_preV (ci := 8) (q0 := 0) hP hD hK hNW [0, 1] [0] rfl rfl (by decide) rfl rfl rfl rfl) rfl rfl hl.1 rfl (lv_room (Nat.le_of_ble_eq_true rfl)) dX9_fits_20 ⟨(Nat.le_of_ble_eq_true rfl), (Nat.le_of_ble_eq_true rfl)⟩) (fun r_5 u H locs hw hP hD hK hS => ?_)
  have hw : r_5 = g1 (Int32.toNatClampNeg (10 * v + 7)) := hw
  subst hw
  have hP : va_P D vwCl [(h0, .inr (8, [.ref a0, .int tk, .ref a1, .int mm, .ref a2, .ref a3, .ref a4, .ref a5, .ref a6, .ref a7, .int wm, .int fa, .int th, .int se, .ref a8, .ref a9, .ref ab])), (a1, .inl (cI, 80, .inl g1))] H := hP
  have hD : va_D A [(h0, .inr (8, [.ref a0, .int tk, .ref a1, .int mm, .ref a2, .ref a3, .ref a4, .ref a5, .ref a6, .ref a7, .int wm, .int fa, .int th, .int se, .ref a8, .ref a9, .ref ab])), (a1, .inl (cI, 80, .inl g1))] := hD
  have hK : va_K D vwCl [(cI, .int)] s := hK
  refine lv_iload_n hx hb dX9_fits_23 rfl (lv_at hl 3 rfl) ?_
  refine lv_imul hx hb dX9_fits_24 ?_
  refine lv_topi (fun y_6 _ => ?_)
  refine lv_icmp_gt (tgt := 32) hx hb dX9_fits_25 (by decide) (fun c_7 => ?_) (fun c_7 => ?_)
  · refine lv_iconst (v := 0) hx hb dX9_fits_32 (by decide) ?_
    exact ret_i hx hb hr hlocks rfl (u := ()) trivial (hP.sub [0, 1] rfl) (hK.sub [] rfl) (hD.sub [0, 1] (by decide) rfl) hS (Nat.le_of_ble_eq_true rfl) (Nat.le_of_ble_eq_true rfl) dX9_fits_33
  refine lv_iconst (v := 1) hx hb dX9_fits_28 (by decide) ?_
  refine lv_goto (tgt := 33) hx hb dX9_fits_29 (by decide) ?_
  exact ret_i hx hb hr hlocks rfl (u := ()) trivial (hP.sub [0, 1] rfl) (hK.sub [] rfl) (hD.sub [0, 1] (by decide) rfl) hS (Nat.le_of_ble_eq_true rfl) (Nat.le_of_ble_eq_true rfl) dX9_fits_33
set_option maxHeartbeats 4000000 in
set_option maxRecDepth 100000 in
theorem m_which (l : Launch) (D : va_G) (sz : Nat) (cI : ClassId) (h0 : Nat) (a0 : Nat) (a1 : Nat) (a2 : Nat) (a3 : Nat) (a4 : Nat) (a5 : Nat) (a6 : Nat) (a7 : Nat) (a8 : Nat) (a9 : Nat) (ab : Nat) (tk : Int32) (mm : Int32) (wm : Int32) (fa : Int32) (th : Int32) (se : Int32) (g1 : Nat → Int32) (v : Int32) (t : Int32) (w : Int32) (x : Int32) (hv : bi v 0 7) : Ci l yX9_which wsX9_which ({ frames := 3, cells := 0, slots := 0, locals := 65 } : Room) D [.ref h0, .int v, .int t, .int w, .int x] [(h0, .inr (8, [.ref a0, .int tk, .ref a1, .int mm, .ref a2, .ref a3, .ref a4, .ref a5, .ref a6, .ref a7, .int wm, .int fa, .int th, .int se, .ref a8, .ref a9, .ref ab])), (a1, .inl (cI, 80, .inl g1))] [(cI, .int)] sz (fun (r : Int32) => fun (_ : Unit) => r = 0 ∨ r = 1 ∨ r = -1) (fun (_ : Unit) => [(h0, .inr (8, [.ref a0, .int tk, .ref a1, .int mm, .ref a2, .ref a3, .ref a4, .ref a5, .ref a6, .ref a7, .int wm, .int fa, .int th, .int se, .ref a8, .ref a9, .ref ab])), (a1, .inl (cI, 80, .inl g1))]) (fun (_ : Unit) => []) := by
  refine ct_i (cc := cX9_which) (maxL := 7) (ret := (some .int)) (by decide) rfl (Nat.le_of_ble_eq_true rfl) ?_
  intro p e s m below meth c A ls H hx hb hr hts hown hml hlocks hin hA hS hP hK hD hNW hl hAe hsz
  have hl : lv_has ls 7 [(0, .ref h0), (1, .int v), (2, .int t), (3, .int w), (4, .int x)] := hl
  refine lv_aload_n hx hb dX9_which_0 rfl (lv_at hl 0 rfl) ?_
  refine lv_iload_n hx hb dX9_which_1 rfl (lv_at hl 1 rfl) ?_
  refine lv_iload_n hx hb dX9_which_2 rfl (lv_at hl 2 rfl) ?_
  refine lv_iload_n hx hb dX9_which_3 rfl (lv_at hl 3 rfl) ?_
  refine go_i (wr := []) (tysr := [(cI, .int)]) hP hD hS hA hK [0, 1] [] [0] rfl rfl (by decide) (by decide) rfl (va_runV (As := [.int v, .int t, .int w]) (rest := []) ⟨hx, hb, hml, hown, hts⟩ (m_fits l D H.size cI h0 a0 a1 a2 a3 a4 a5 a6 a7 a8 a9 ab tk mm wm fa th se g1 v t w (by first | assumption | decide | omega)) (cwV 3 hts gX9_which_X9_fits rfl rfl rfl (by decide +kernel) ⟨Nat.le_of_ble_eq_true rfl, Nat.le_of_ble_eq_true rfl⟩) (st_preV (ci := 8) (q0 := 0) hP hD hK hNW [0, 1] [0] rfl rfl (by decide) rfl rfl rfl rfl) rfl rfl hl.1 rfl (lv_room (Nat.le_of_ble_eq_true rfl)) dX9_which_4 ⟨(Nat.le_of_ble_eq_true rfl), (Nat.le_of_ble_eq_true rfl)⟩) (fun r_1 u H locs hw hP hD hK hS => ?_)
  have hP : va_P D vwCl [(h0, .inr (8, [.ref a0, .int tk, .ref a1, .int mm, .ref a2, .ref a3, .ref a4, .ref a5, .ref a6, .ref a7, .int wm, .int fa, .int th, .int se, .ref a8, .ref a9, .ref ab])), (a1, .inl (cI, 80, .inl g1))] H := hP
  have hD : va_D A [(h0, .inr (8, [.ref a0, .int tk, .ref a1, .int mm, .ref a2, .ref a3, .ref a4, .ref a5, .ref a6, .ref a7, .int wm, .int fa, .int th, .int se, .ref a8, .ref a9, .ref ab])), (a1, .inl (cI, 80, .inl g1))] := hD
  have hK : va_K D vwCl [(cI, .int)] s := hK
  refine lv_istore (lv' := [(5, .int r_1), (0, .ref h0), (1, .int v), (2, .int t), (3, .int w), (4, .int x)]) hx hb dX9_which_7 hl (by decide) rfl (fun ls hl => ?_)
  refine lv_aload_n hx hb dX9_which_9 rfl (lv_at hl 1 rfl) ?_
  refine lv_iload_n hx hb dX9_which_10 rfl (lv_at hl 2 rfl) ?_
  refine lv_iload_n hx hb dX9_which_11 rfl (lv_at hl 3 rfl) ?_
  refine lv_iload hx hb dX9_which_12 (lv_at hl 5 rfl) ?_
  refine go_i (wr := []) (tysr := [(cI, .int)]) hP hD hS hA hK [0, 1] [] [0] rfl rfl (by decide) (by decide) rfl (va_runV (As := [.int v, .int t, .int x]) (rest := []) ⟨hx, hb, hml, hown, hts⟩ (m_fits l D H.size cI h0 a0 a1 a2 a3 a4 a5 a6 a7 a8 a9 ab tk mm wm fa th se g1 v t x (by first | assumption | decide | omega)) (cwV 3 hts gX9_which_X9_fits rfl rfl rfl (by decide +kernel) ⟨Nat.le_of_ble_eq_true rfl, Nat.le_of_ble_eq_true rfl⟩) (st_preV (ci := 8) (q0 := 0) hP hD hK hNW [0, 1] [0] rfl rfl (by decide) rfl rfl rfl rfl) rfl rfl hl.1 rfl (lv_room (Nat.le_of_ble_eq_true rfl)) dX9_which_14 ⟨(Nat.le_of_ble_eq_true rfl), (Nat.le_of_ble_eq_true rfl)⟩) (fun r_2 u H locs hw hP hD hK hS => ?_)
  have hP : va_P D vwCl [(h0, .inr (8, [.ref a0, .int tk, .ref a1, .int mm, .ref a2, .ref a3, .ref a4, .ref a5, .ref a6, .ref a7, .int wm, .int fa, .int th, .int se, .ref a8, .ref a9, .ref ab])), (a1, .inl (cI, 80, .inl g1))] H := hP
  have hD : va_D A [(h0, .inr (8, [.ref a0, .int tk, .ref a1, .int mm, .ref a2, .ref a3, .ref a4, .ref a5, .ref a6, .ref a7, .int wm, .int fa, .int th, .int se, .ref a8, .ref a9, .ref ab])), (a1, .inl (cI, 80, .inl g1))] := hD
  have hK : va_K D vwCl [(cI, .int)] s := hK
  refine lv_istore (lv' := [(6, .int r_2), (5, .int r_1), (0, .ref h0), (1, .int v), (2, .int t), (3, .int w), (4, .int x)]) hx hb dX9_which_17 hl (by decide) rfl (fun ls hl => ?_)
  refine lv_iload hx hb dX9_which_19 (lv_at hl 1 rfl) ?_
  refine lv_if_eq (tgt := 51) hx hb dX9_which_21 (by decide) (fun c_3 => ?_) (fun c_3 => ?_)
  · refine lv_iload hx hb dX9_which_51 (lv_at hl 1 rfl) ?_
    refine lv_if_eq (tgt := 60) hx hb dX9_which_53 (by decide) (fun c_4 => ?_) (fun c_4 => ?_)
    · refine lv_iload hx hb dX9_which_60 (lv_at hl 0 rfl) ?_
      refine lv_if_eq (tgt := 69) hx hb dX9_which_62 (by decide) (fun c_5 => ?_) (fun c_5 => ?_)
      · refine lv_iconst (v := (-1)) hx hb dX9_which_69 (by decide) ?_
        exact ret_i hx hb hr hlocks rfl (u := ()) (Or.inr (Or.inr rfl)) (hP.sub [0, 1] rfl) (hK.sub [] rfl) (hD.sub [0, 1] (by decide) rfl) hS (Nat.le_of_ble_eq_true rfl) (Nat.le_of_ble_eq_true rfl) dX9_which_70
      refine lv_iconst (v := 1) hx hb dX9_which_65 (by decide) ?_
      refine lv_goto (tgt := 70) hx hb dX9_which_66 (by decide) ?_
      exact ret_i hx hb hr hlocks rfl (u := ()) (Or.inr (Or.inl rfl)) (hP.sub [0, 1] rfl) (hK.sub [] rfl) (hD.sub [0, 1] (by decide) rfl) hS (Nat.le_of_ble_eq_true rfl) (Nat.le_of_ble_eq_true rfl) dX9_which_70
    refine lv_iconst (v := 0) hx hb dX9_which_56 (by decide) ?_
    refine lv_goto (tgt := 70) hx hb dX9_which_57 (by decide) ?_
    exact ret_i hx hb hr hlocks rfl (u := ()) (Or.inl rfl) (hP.sub [0, 1] rfl) (hK.sub [] rfl) (hD.sub [0, 1] (by decide) rfl) hS (Nat.le_of_ble_eq_true rfl) (Nat.le_of_ble_eq_true rfl) dX9_which_70
  refine lv_iload hx hb dX9_which_24 (lv_at hl 0 rfl) ?_
  refine lv_if_eq (tgt := 51) hx hb dX9_which_26 (by decide) (fun c_6 => ?_) (fun c_6 => ?_)
  · refine lv_iload hx hb dX9_which_51 (lv_at hl 1 rfl) ?_
    refine lv_if_eq (tgt := 60) hx hb dX9_which_53 (by decide) (fun c_7 => ?_) (fun c_7 => ?_)
    · refine lv_iload hx hb dX9_which_60 (lv_at hl 0 rfl) ?_
      refine lv_if_eq (tgt := 69) hx hb dX9_which_62 (by decide) (fun c_8 => ?_) (fun c_8 => ?_)
      · refine lv_iconst (v := (-1)) hx hb dX9_which_69 (by decide) ?_
        exact ret_i hx hb hr hlocks rfl (u := ()) (Or.inr (Or.inr rfl)) (hP.sub [0, 1] rfl) (hK.sub [] rfl) (hD.sub [0, 1] (by decide) rfl) hS (Nat.le_of_ble_eq_true rfl) (Nat.le_of_ble_eq_true rfl) dX9_which_70
      refine lv_iconst (v := 1) hx hb dX9_which_65 (by decide) ?_
      refine lv_goto (tgt := 70) hx hb dX9_which_66 (by decide) ?_
      exact ret_i hx hb hr hlocks rfl (u := ()) (Or.inr (Or.inl rfl)) (hP.sub [0, 1] rfl) (hK.sub [] rfl) (hD.sub [0, 1] (by decide) rfl) hS (Nat.le_of_ble_eq_true rfl) (Nat.le_of_ble_eq_true rfl) dX9_which_70
    refine lv_iconst (v := 0) hx hb dX9_which_56 (by decide) ?_
    refine lv_goto (tgt := 70) hx hb dX9_which_57 (by decide) ?_
    exact ret_i hx hb hr hlocks rfl (u := ()) (Or.inl rfl) (hP.sub [0, 1] rfl) (hK.sub [] rfl) (hD.sub [0, 1] (by decide) rfl) hS (Nat.le_of_ble_eq_true rfl) (Nat.le_of_ble_eq_true rfl) dX9_which_70
  refine lv_iload_n hx hb dX9_which_29 rfl (lv_at hl 4 rfl) ?_
  refine lv_iload hx hb dX9_which_30 (lv_at hl 6 rfl) ?_
  refine lv_isub hx hb dX9_which_32 ?_
  refine lv_topi (fun y_9 _ => ?_)
  refine va_mabs hx hb (hml.trans hl.1.symm) hown (hts (.methodLink RX9 83 Lib.Math.abs.name) (List.mem_of_getElem? (i := 1) rfl)) (hts (.static Lib.Math.abs.name) (List.mem_of_getElem? (i := 2) rfl)) (hts (.initialized "java/lang/Math") (List.mem_of_getElem? (i := 3) rfl)) (hts (.code Lib.Math.abs.name Lib.Math.abs.code 1 (some .int)) (List.mem_of_getElem? (i := 4) rfl)) (Nat.le_of_ble_eq_true rfl) (Nat.le_of_ble_eq_true rfl) (Nat.le_of_ble_eq_true rfl) (Nat.le_of_ble_eq_true rfl) dX9_which_33 ?_
  refine lv_iload_n hx hb dX9_which_36 rfl (lv_at hl 4 rfl) ?_
  refine lv_iload_n hx hb dX9_which_37 rfl (lv_at hl 5 rfl) ?_
  refine lv_isub hx hb dX9_which_38 ?_
  refine lv_topi (fun y_10 _ => ?_)
  refine va_mabs hx hb (hml.trans hl.1.symm) hown (hts (.methodLink RX9 83 Lib.Math.abs.name) (List.mem_of_getElem? (i := 1) rfl)) (hts (.static Lib.Math.abs.name) (List.mem_of_getElem? (i := 2) rfl)) (hts (.initialized "java/lang/Math") (List.mem_of_getElem? (i := 3) rfl)) (hts (.code Lib.Math.abs.name Lib.Math.abs.code 1 (some .int)) (List.mem_of_getElem? (i := 4) rfl)) (Nat.le_of_ble_eq_true rfl) (Nat.le_of_ble_eq_true rfl) (Nat.le_of_ble_eq_true rfl) (Nat.le_of_ble_eq_true rfl) dX9_which_39 ?_
  refine lv_icmp_ge (tgt := 49) hx hb dX9_which_42 (by decide) (fun c_11 => ?_) (fun c_11 => ?_)
  · refine lv_iconst (v := 0) hx hb dX9_which_49 (by decide) ?_
    exact ret_i hx hb hr hlocks rfl (u := ()) (Or.inl rfl) (hP.sub [0, 1] rfl) (hK.sub [] rfl) (hD.sub [0, 1] (by decide) rfl) hS (Nat.le_of_ble_eq_true rfl) (Nat.le_of_ble_eq_true rfl) dX9_which_50
  refine lv_iconst (v := 1) hx hb dX9_which_45 (by decide) ?_
  refine lv_goto (tgt := 50) hx hb dX9_which_46 (by decide) ?_
  exact ret_i hx hb hr hlocks rfl (u := ()) (Or.inr (Or.inl rfl)) (hP.sub [0, 1] rfl) (hK.sub [] rfl) (hD.sub [0, 1] (by decide) rfl) hS (Nat.le_of_ble_eq_true rfl) (Nat.le_of_ble_eq_true rfl) dX9_which_50
theorem him_fault_X9 : ∀ w ∈ wsX90, w ∈ wsX9_fault := mem_pl [2, 3, 4, 5, 6, 7, 8, 9, 10, 11, 12, 13, 14, 15, 16, 17, 18] rfl
set_option maxHeartbeats 4000000 in
set_option maxRecDepth 100000 in
theorem m_fault (l : Launch) (D : va_G) (sz : Nat) (cI : ClassId) (h0 : Nat) (a0 : Nat) (a1 : Nat) (a2 : Nat) (a3 : Nat) (a4 : Nat) (a5 : Nat) (a6 : Nat) (a7 : Nat) (a8 : Nat) (a9 : Nat) (ab : Nat) (tk : Int32) (mm : Int32) (wm : Int32) (fa : Int32) (th : Int32) (se : Int32) (v : Int32)  : Ci l yX9_fault wsX9_fault ({ frames := 0, cells := 0, slots := 0, locals := 0 } : Room) D [.ref h0, .int v] [(h0, .inr (8, [.ref a0, .int tk, .ref a1, .int mm, .ref a2, .ref a3, .ref a4, .ref a5, .ref a6, .ref a7, .int wm, .int fa, .int th, .int se, .ref a8, .ref a9, .ref ab]))] [(cI, .int)] sz (fun (r : Int32) => fun (_ : Unit) => r = -1) (fun (_ : Unit) => [(h0, .inr (8, [.ref a0, .int tk, .ref a1, .int mm, .ref a2, .ref a3, .ref a4, .ref a5, .ref a6, .ref a7, .int wm, .int v, .int th, .int se, .ref a8, .ref a9, .ref ab]))]) (fun (_ : Unit) => []) := by
  refine ct_i (cc := cX9_fault) (maxL := 2) (ret := (some .int)) (by decide) rfl (Nat.le_of_ble_eq_true rfl) ?_
  intro p e s m below meth c A ls H hx hb hr hts hown hml hlocks hin hA hS hP hK hD hNW hl hAe hsz
  have hl : lv_has ls 2 [(0, .ref h0), (1, .int v)] := hl
  refine lv_aload_n hx hb dX9_fault_0 rfl (lv_at hl 0 rfl) ?_
  refine lv_iload_n hx hb dX9_fault_1 rfl (lv_at hl 1 rfl) ?_
  refine va_put (D := D) (ci := 8) (v := .int v) (ty := .int) (C := RX9) (T := TX9) (N := 17) hx hb hts him_fault_X9 tyX9 tyX9_ok nmX9 hown hK hP hD hS 0 rfl rfl 11 (by decide) (hts (.fieldLink RX9 92 "OneHandsetModel" "faultAt" "I") (List.mem_of_getElem? (i := 1) rfl)) (fun _ h9 => h9) rfl (by decide +kernel) rfl rfl (Nat.le_of_ble_eq_true rfl) dX9_fault_2 (fun H locs hP hD hS => ?_)
  have hP : va_P D vwCl [(h0, .inr (8, [.ref a0, .int tk, .ref a1, .int mm, .ref a2, .ref a3, .ref a4, .ref a5, .ref a6, .ref a7, .int wm, .int v, .int th, .int se, .ref a8, .ref a9, .ref ab]))] H := hP
  have hD : va_D A [(h0, .inr (8, [.ref a0, .int tk, .ref a1, .int mm, .ref a2, .ref a3, .ref a4, .ref a5, .ref a6, .ref a7, .int wm, .int v, .int th, .int se, .ref a8, .ref a9, .ref ab]))] := hD
  refine lv_iconst (v := (-1)) hx hb dX9_fault_5 (by decide) ?_
  exact ret_i hx hb hr hlocks rfl (u := ()) rfl (hP.sub [0] rfl) (hK.sub [] rfl) (hD.sub [0] (by decide) rfl) hS (Nat.le_of_ble_eq_true rfl) (Nat.le_of_ble_eq_true rfl) dX9_fault_6
theorem him_readBits_X9 : ∀ w ∈ wsX90, w ∈ wsX9_readBits := mem_pl [32, 33, 34, 35, 36, 37, 38, 39, 40, 41, 42, 43, 44, 45, 46, 47, 48] rfl
set_option maxHeartbeats 4000000 in
set_option maxRecDepth 100000 in
theorem m_readBits (l : Launch) (D : va_G) (sz : Nat) (cI : ClassId) (h0 : Nat) (a0 : Nat) (a1 : Nat) (a2 : Nat) (a3 : Nat) (a4 : Nat) (a5 : Nat) (a6 : Nat) (a7 : Nat) (a8 : Nat) (a9 : Nat) (ab : Nat) (tk : Int32) (mm : Int32) (wm : Int32) (fa : Int32) (th : Int32) (se : Int32) (g0 : Nat → Int32) (g1 : Nat → Int32) (v : Int32) (hk : bi tk 0 120) (hv : bi v 0 7) : Ci l yX9_readBits wsX9_readBits ({ frames := 4, cells := 0, slots := 0, locals := 91 } : Room) D [.ref h0, .int v] [(h0, .inr (8, [.ref a0, .int tk, .ref a1, .int mm, .ref a2, .ref a3, .ref a4, .ref a5, .ref a6, .ref a7, .int wm, .int fa, .int th, .int se, .ref a8, .ref a9, .ref ab])), (a0, .inl (cI, 120, .inl g0)), (a1, .inl (cI, 80, .inl g1))] [(cI, .int)] sz (fun (r : Int32) => fun (fa2 : Int32) => True) (fun (fa2 : Int32) => [(h0, .inr (8, [.ref a0, .int tk, .ref a1, .int mm, .ref a2, .ref a3, .ref a4, .ref a5, .ref a6, .ref a7, .int wm, .int fa2, .int th, .int se, .ref a8, .ref a9, .ref ab])), (a0, .inl (cI, 120, .inl g0)), (a1, .inl (cI, 80, .inl g1))]) (fun (fa2 : Int32) => []) := by
  refine ct_i (cc := cX9_readBits) (maxL := 9) (ret := (some .int)) (by decide) rfl (Nat.le_of_ble_eq_true rfl) ?_
  intro p e s m below meth c A ls H hx hb hr hts hown hml hlocks hin hA hS hP hK hD hNW hl hAe hsz
  have hl : lv_has ls 9 [(0, .ref h0), (1, .int v)] := hl
  refine lv_aload_n hx hb dX9_readBits_0 rfl (lv_at hl 0 rfl) ?_
  refine lv_iload_n hx hb dX9_readBits_1 rfl (lv_at hl 1 rfl) ?_
  refine lv_iconst (v := 1) hx hb dX9_readBits_2 (by decide) ?_
  refine go_i (wr := [(a0, .inl (cI, 120, .inl g0))]) (tysr := [(cI, .int)]) hP hD hS hA hK [0, 2] [1] [0] rfl rfl (by decide) (by decide) rfl (va_runV (As := [.int v, .int 1]) (rest := []) ⟨hx, hb, hml, hown, hts⟩ (m_get l D H.size cI h0 a0 a1 a2 a3 a4 a5 a6 a7 a8 a9 ab tk mm wm fa th se g1 v 1 (by first | assumption | decide | omega) (by first | assumption | decide | omega)) (cwV 2 hts gX9_readBits_X9_get rfl rfl rfl (by decide +kernel) ⟨Nat.le_of_ble_eq_true rfl, Nat.le_of_ble_eq_true rfl⟩) (st_preV (ci := 8) (q0 := 0) hP hD hK hNW [0, 2] [0] rfl rfl (by decide) rfl rfl rfl rfl) rfl rfl hl.1 rfl (lv_room (Nat.le_of_ble_eq_true rfl)) dX9_readBits_3 ⟨(Nat.le_of_ble_eq_true rfl), (Nat.le_of_ble_eq_true rfl)⟩) (fun r_1 u H locs hw hP hD hK hS => ?_)
  have hw : r_1 = g1 (Int32.toNatClampNeg (10 * v + 1)) := hw
  subst hw
  have hP : va_P D vwCl [(a0, .inl (cI, 120, .inl g0)), (h0, .inr (8, [.ref a0, .int tk, .ref a1, .int mm, .ref a2, .ref a3, .ref a4, .ref a5, .ref a6, .ref a7, .int wm, .int fa, .int th, .int se, .ref a8, .ref a9, .ref ab])), (a1, .inl (cI, 80, .inl g1))] H := hP
  have hD : va_D A [(a0, .inl (cI, 120, .inl g0)), (h0, .inr (8, [.ref a0, .int tk, .ref a1, .int mm, .ref a2, .ref a3, .ref a4, .ref a5, .ref a6, .ref a7, .int wm, .int fa, .int th, .int se, .ref a8, .ref a9, .ref ab])), (a1, .inl (cI, 80, .inl g1))] := hD
  have hK : va_K D vwCl [(cI, .int)] s := hK
  refine lv_istore_n (lv' := [(2, .int (g1 (Int32.toNatClampNeg (10 * v + 1)))), (0, .ref h0), (1, .int v)]) hx hb dX9_readBits_6 rfl hl (by decide) rfl (fun ls hl => ?_)
  refine jn_S 21 (fun st9 H locs ls => ∃ (q_2 : Int32), st9 = [.int q_2] ∧ (va_P D vwCl [(a0, .inl (cI, 120, .inl g0)), (h0, .inr (8, [.ref a0, .int tk, .ref a1, .int mm, .ref a2, .ref a3, .ref a4, .ref a5, .ref a6, .ref a7, .int wm, .int fa, .int th, .int se, .ref a8, .ref a9, .ref ab])), (a1, .inl (cI, 80, .inl g1))] H ∧ va_D A [(a0, .inl (cI, 120, .inl g0)), (h0, .inr (8, [.ref a0, .int tk, .ref a1, .int mm, .ref a2, .ref a3, .ref a4, .ref a5, .ref a6, .ref a7, .int wm, .int fa, .int th, .int se, .ref a8, .ref a9, .ref ab])), (a1, .inl (cI, 80, .inl g1))]) ∧ va_S A s.heap H locs ∧ lv_has ls 9 [(2, .int (g1 (Int32.toNatClampNeg (10 * v + 1)))), (0, .ref h0), (1, .int v)]) ?_ ?_
  · intro st9 H locs ls hI
    obtain ⟨q_2, rfl, ⟨hP, hD⟩, hS, hl⟩ := hI
    refine lv_istore_n (lv' := [(3, .int q_2), (2, .int (g1 (Int32.toNatClampNeg (10 * v + 1)))), (0, .ref h0), (1, .int v)]) hx hb dX9_readBits_21 rfl hl (by decide) rfl (fun ls hl => ?_)
    refine jn_S 39 (fun st9 H locs ls => ∃ (q_4 : Int32), st9 = [.int q_4] ∧ (va_P D vwCl [(a0, .inl (cI, 120, .inl g0)), (h0, .inr (8, [.ref a0, .int tk, .ref a1, .int mm, .ref a2, .ref a3, .ref a4, .ref a5, .ref a6, .ref a7, .int wm, .int fa, .int th, .int se, .ref a8, .ref a9, .ref ab])), (a1, .inl (cI, 80, .inl g1))] H ∧ va_D A [(a0, .inl (cI, 120, .inl g0)), (h0, .inr (8, [.ref a0, .int tk, .ref a1, .int mm, .ref a2, .ref a3, .ref a4, .ref a5, .ref a6, .ref a7, .int wm, .int fa, .int th, .int se, .ref a8, .ref a9, .ref ab])), (a1, .inl (cI, 80, .inl g1))]) ∧ va_S A s.heap H locs ∧ lv_has ls 9 [(3, .int q_2), (2, .int (g1 (Int32.toNatClampNeg (10 * v + 1)))), (0, .ref h0), (1, .int v)]) ?_ ?_
    · intro st9 H locs ls hI
      obtain ⟨q_4, rfl, ⟨hP, hD⟩, hS, hl⟩ := hI
      refine lv_istore (lv' := [(4, .int q_4), (3, .int q_2), (2, .int (g1 (Int32.toNatClampNeg (10 * v + 1)))), (0, .ref h0), (1, .int v)]) hx hb dX9_readBits_39 hl (by decide) rfl (fun ls hl => ?_)
      refine lv_iconst (v := 0) hx hb dX9_readBits_41 (by decide) ?_
      refine lv_istore (lv' := [(5, .int 0), (4, .int q_4), (3, .int q_2), (2, .int (g1 (Int32.toNatClampNeg (10 * v + 1)))), (0, .ref h0), (1, .int v)]) hx hb dX9_readBits_42 hl (by decide) rfl (fun ls hl => ?_)
      refine lv_iconst (v := 0) hx hb dX9_readBits_44 (by decide) ?_
      refine lv_istore (lv' := [(6, .int 0), (5, .int 0), (4, .int q_4), (3, .int q_2), (2, .int (g1 (Int32.toNatClampNeg (10 * v + 1)))), (0, .ref h0), (1, .int v)]) hx hb dX9_readBits_45 hl (by decide) rfl (fun ls hl => ?_)
      refine lp_N (fun n9 H locs ls => ∃ (i5_6 : Int32), ∃ (i_7 : Int32), n9 = (tk.toInt - i_7.toInt).toNat ∧ (va_P D vwCl [(a0, .inl (cI, 120, .inl g0)), (h0, .inr (8, [.ref a0, .int tk, .ref a1, .int mm, .ref a2, .ref a3, .ref a4, .ref a5, .ref a6, .ref a7, .int wm, .int fa, .int th, .int se, .ref a8, .ref a9, .ref ab])), (a1, .inl (cI, 80, .inl g1))] H ∧ va_D A [(a0, .inl (cI, 120, .inl g0)), (h0, .inr (8, [.ref a0, .int tk, .ref a1, .int mm, .ref a2, .ref a3, .ref a4, .ref a5, .ref a6, .ref a7, .int wm, .int fa, .int th, .int se, .ref a8, .ref a9, .ref ab])), (a1, .inl (cI, 80, .inl g1))]) ∧ va_S A s.heap H locs ∧ lv_has ls 9 [(6, .int i_7), (5, .int i5_6), (4, .int q_4), (3, .int q_2), (2, .int (g1 (Int32.toNatClampNeg (10 * v + 1)))), (0, .ref h0), (1, .int v)] ∧ (0 ≤ i_7.toInt)) ?_ ⟨0, 0, rfl, ⟨hP, hD⟩, hS, hl, (by decide)⟩
      intro n9 ih_8 H locs ls hI
      obtain ⟨i5_6, i_7, rfl, ⟨hP, hD⟩, hS, hl, hv_9⟩ := hI
      refine lv_iload hx hb dX9_readBits_47 (lv_at hl 0 rfl) ?_
      refine lv_aload_n hx hb dX9_readBits_49 rfl (lv_at hl 5 rfl) ?_
      refine va_get (D := D) (ci := 8) (v := .int tk) (C := RX9) (T := TX9) (N := 17) hx hb hts him_readBits_X9 hown hK hP 1 rfl rfl 1 (by decide) (hts (.fieldLink RX9 62 "OneHandsetModel" "taped" "I") (List.mem_of_getElem? (i := 1) rfl)) (fun _ h9 => h9) rfl dX9_readBits_50 ?_
      refine lv_icmp_ge (tgt := 203) hx hb dX9_readBits_53 (by decide) (fun c_10 => ?_) (fun c_10 => ?_)
      · refine lv_aload_n hx hb dX9_readBits_203 rfl (lv_at hl 5 rfl) ?_
        refine va_get (D := D) (ci := 8) (v := .int tk) (C := RX9) (T := TX9) (N := 17) hx hb hts him_readBits_X9 hown hK hP 1 rfl rfl 1 (by decide) (hts (.fieldLink RX9 62 "OneHandsetModel" "taped" "I") (List.mem_of_getElem? (i := 1) rfl)) (fun _ h9 => h9) rfl dX9_readBits_204 ?_
        refine lv_iload hx hb dX9_readBits_207 (lv_at hl 2 rfl) ?_
        refine lv_icmp_ge (tgt := 223) hx hb dX9_readBits_209 (by decide) (fun c_11 => ?_) (fun c_11 => ?_)
        · refine lv_iload hx hb dX9_readBits_223 (lv_at hl 1 rfl) ?_
          exact ret_i hx hb hr hlocks rfl (u := fa) trivial (hP.sub [1, 0, 2] rfl) (hK.sub [] rfl) (hD.sub [1, 0, 2] (by decide) rfl) hS (Nat.le_of_ble_eq_true rfl) (Nat.le_of_ble_eq_true rfl) dX9_readBits_225
        refine lv_aload_n hx hb dX9_readBits_212 rfl (lv_at hl 5 rfl) ?_
        refine lv_aload_n hx hb dX9_readBits_213 rfl (lv_at hl 5 rfl) ?_
        refine va_get (D := D) (ci := 8) (v := .int tk) (C := RX9) (T := TX9) (N := 17) hx hb hts him_readBits_X9 hown hK hP 1 rfl rfl 1 (by decide) (hts (.fieldLink RX9 62 "OneHandsetModel" "taped" "I") (List.mem_of_getElem? (i := 1) rfl)) (fun _ h9 => h9) rfl dX9_readBits_214 ?_
        refine go_i (wr := [(a0, .inl (cI, 120, .inl g0)), (a1, .inl (cI, 80, .inl g1))]) (tysr := [(cI, .int)]) hP hD hS hA hK [1] [0, 2] [0] rfl rfl (by decide) (by decide) rfl (va_runV (As := [.int tk]) (rest := []) ⟨hx, hb, hml, hown, hts⟩ (m_fault l D H.size cI h0 a0 a1 a2 a3 a4 a5 a6 a7 a8 a9 ab tk mm wm fa th se tk ) (cwV 1 hts gX9_readBits_X9_fault rfl rfl rfl (by decide +kernel) ⟨Nat.le_of_ble_eq_true rfl, Nat.le_of_ble_eq_true rfl⟩) (st_preV (ci := 8) (q0 := 1) hP hD hK hNW [1] [0] rfl rfl (by decide) rfl rfl rfl rfl) rfl rfl hl.1 rfl (lv_room (Nat.le_of_ble_eq_true rfl)) dX9_readBits_217 ⟨(Nat.le_of_ble_eq_true rfl), (Nat.le_of_ble_eq_true rfl)⟩) (fun r_12 u H locs hw hP hD hK hS => ?_)
        have hw : r_12 = -1 := hw
        subst hw
        have hP : va_P D vwCl [(a0, .inl (cI, 120, .inl g0)), (a1, .inl (cI, 80, .inl g1)), (h0, .inr (8, [.ref a0, .int tk, .ref a1, .int mm, .ref a2, .ref a3, .ref a4, .ref a5, .ref a6, .ref a7, .int wm, .int tk, .int th, .int se, .ref a8, .ref a9, .ref ab]))] H := hP
        have hD : va_D A [(a0, .inl (cI, 120, .inl g0)), (a1, .inl (cI, 80, .inl g1)), (h0, .inr (8, [.ref a0, .int tk, .ref a1, .int mm, .ref a2, .ref a3, .ref a4, .ref a5, .ref a6, .ref a7, .int wm, .int tk, .int th, .int se, .ref a8, .ref a9, .ref ab]))] := hD
        have hK : va_K D vwCl [(cI, .int)] s := hK
        refine lv_goto (tgt := 225) hx hb dX9_readBits_220 (by decide) ?_
        exact ret_i hx hb hr hlocks rfl (u := tk) trivial (hP.sub [2, 0, 1] rfl) (hK.sub [] rfl) (hD.sub [2, 0, 1] (by decide) rfl) hS (Nat.le_of_ble_eq_true rfl) (Nat.le_of_ble_eq_true rfl) dX9_readBits_225
      refine lv_iload hx hb dX9_readBits_56 (lv_at hl 0 rfl) ?_
      refine lv_iload hx hb dX9_readBits_58 (lv_at hl 2 rfl) ?_
      refine lv_icmp_lt (tgt := 70) hx hb dX9_readBits_60 (by decide) (fun c_13 => ?_) (fun c_13 => ?_)
      · refine lv_aload_n hx hb dX9_readBits_70 rfl (lv_at hl 5 rfl) ?_
        refine va_get (D := D) (ci := 8) (v := .ref a0) (C := RX9) (T := TX9) (N := 17) hx hb hts him_readBits_X9 hown hK hP 1 rfl rfl 0 (by decide) (hts (.fieldLink RX9 9 "OneHandsetModel" "tape" "[I") (List.mem_of_getElem? (i := 2) rfl)) (fun _ h9 => h9) rfl dX9_readBits_71 ?_
        refine lv_iload hx hb dX9_readBits_74 (lv_at hl 0 rfl) ?_
        refine va_iald hx hb hK hP 0 0 rfl rfl (by have := ti_nle c_10; have := ti_lt c_13; exact vp_in_iff.mpr (by omega)) dX9_readBits_76 ?_
        refine lv_istore (lv' := [(7, .int (g0 (Int32.toNatClampNeg i_7))), (6, .int i_7), (5, .int i5_6), (4, .int q_4), (3, .int q_2), (2, .int (g1 (Int32.toNatClampNeg (10 * v + 1)))), (0, .ref h0), (1, .int v)]) hx hb dX9_readBits_77 hl (by decide) rfl (fun ls hl => ?_)
        refine jn_S 197 (fun st9 H locs ls => ∃ (i5_14 : Int32), st9 = [] ∧ (va_P D vwCl [(a0, .inl (cI, 120, .inl g0)), (h0, .inr (8, [.ref a0, .int tk, .ref a1, .int mm, .ref a2, .ref a3, .ref a4, .ref a5, .ref a6, .ref a7, .int wm, .int fa, .int th, .int se, .ref a8, .ref a9, .ref ab])), (a1, .inl (cI, 80, .inl g1))] H ∧ va_D A [(a0, .inl (cI, 120, .inl g0)), (h0, .inr (8, [.ref a0, .int tk, .ref a1, .int mm, .ref a2, .ref a3, .ref a4, .ref a5, .ref a6, .ref a7, .int wm, .int fa, .int th, .int se, .ref a8, .ref a9, .ref ab])), (a1, .inl (cI, 80, .inl g1))]) ∧ va_S A s.heap H locs ∧ lv_has ls 9 [(7, .int (g0 (Int32.toNatClampNeg i_7))), (6, .int i_7), (5, .int i5_14), (4, .int q_4), (3, .int q_2), (2, .int (g1 (Int32.toNatClampNeg (10 * v + 1)))), (0, .ref h0), (1, .int v)]) ?_ ?_
        · intro st9 H locs ls hI
          obtain ⟨i5_14, rfl, ⟨hP, hD⟩, hS, hl⟩ := hI
          refine lv_iinc (v := i_7 + 1) (lv' := [(6, .int (i_7 + 1)), (7, .int (g0 (Int32.toNatClampNeg i_7))), (5, .int i5_14), (4, .int q_4), (3, .int q_2), (2, .int (g1 (Int32.toNatClampNeg (10 * v + 1)))), (0, .ref h0), (1, .int v)]) hx hb dX9_readBits_197 hl (k := 1) rfl rfl (by decide) rfl (fun ls hl => ?_)
          refine lv_goto (tgt := 47) hx hb dX9_readBits_200 (by decide) ?_
          exact ih_8 _ _ _ _ (by have := ti_nle c_10; have := ti_lt c_13; have u1 := ti_up (i := i_7) (n := tk) (by omega); omega) ⟨i5_14, i_7 + 1, rfl, ⟨hP, hD⟩, hS, lv_sub hl [0, 2, 3, 4, 5, 6, 7] rfl, (by have := ti_nle c_10; have := ti_lt c_13; have u1 := ti_up (i := i_7) (n := tk) (by omega); omega)⟩
        · intro hJ_16
          refine lv_iload hx hb dX9_readBits_79 (lv_at hl 1 rfl) ?_
          refine lv_iconst (v := 2) hx hb dX9_readBits_81 (by decide) ?_
          refine lv_icmp_ge (tgt := 111) hx hb dX9_readBits_82 (by decide) (fun c_17 => ?_) (fun c_17 => ?_)
          · refine lv_iload hx hb dX9_readBits_111 (lv_at hl 1 rfl) ?_
            refine lv_iconst (v := 2) hx hb dX9_readBits_113 (by decide) ?_
            refine lv_irem hx hb dX9_readBits_114 (by decide) ?_
            refine jn_S 124 (fun st9 H locs ls => ∃ (q_18 : Int32), st9 = [.int q_18, .int (i_7 - i_7 / 2 * 2)] ∧ (va_P D vwCl [(a0, .inl (cI, 120, .inl g0)), (h0, .inr (8, [.ref a0, .int tk, .ref a1, .int mm, .ref a2, .ref a3, .ref a4, .ref a5, .ref a6, .ref a7, .int wm, .int fa, .int th, .int se, .ref a8, .ref a9, .ref ab])), (a1, .inl (cI, 80, .inl g1))] H ∧ va_D A [(a0, .inl (cI, 120, .inl g0)), (h0, .inr (8, [.ref a0, .int tk, .ref a1, .int mm, .ref a2, .ref a3, .ref a4, .ref a5, .ref a6, .ref a7, .int wm, .int fa, .int th, .int se, .ref a8, .ref a9, .ref ab])), (a1, .inl (cI, 80, .inl g1))]) ∧ va_S A s.heap H locs ∧ lv_has ls 9 [(7, .int (g0 (Int32.toNatClampNeg i_7))), (6, .int i_7), (5, .int i5_6), (4, .int q_4), (3, .int q_2), (2, .int (g1 (Int32.toNatClampNeg (10 * v + 1)))), (0, .ref h0), (1, .int v)]) ?_ ?_
            · intro st9 H locs ls hI
              obtain ⟨q_18, rfl, ⟨hP, hD⟩, hS, hl⟩ := hI
              refine lv_icmp_ne (tgt := 174) hx hb dX9_readBits_124 (by decide) (fun c_20 => ?_) (fun c_20 => ?_)
              · refine lv_aload_n hx hb dX9_readBits_174 rfl (lv_at hl 6 rfl) ?_
                refine lv_iload_n hx hb dX9_readBits_175 rfl (lv_at hl 7 rfl) ?_
                refine lv_iload hx hb dX9_readBits_176 (lv_at hl 0 rfl) ?_
                refine lv_aload_n hx hb dX9_readBits_178 rfl (lv_at hl 6 rfl) ?_
                refine lv_iload_n hx hb dX9_readBits_179 rfl (lv_at hl 7 rfl) ?_
                refine lv_iconst (v := 4) hx hb dX9_readBits_180 (by decide) ?_
                refine go_i (wr := [(a0, .inl (cI, 120, .inl g0))]) (tysr := [(cI, .int)]) hP hD hS hA hK [1, 2] [0] [0] rfl rfl (by decide) (by decide) rfl (va_runV (As := [.int v, .int 4]) (rest := [.int (g0 (Int32.toNatClampNeg i_7)), .int v, .ref h0]) ⟨hx, hb, hml, hown, hts⟩ (m_get l D H.size cI h0 a0 a1 a2 a3 a4 a5 a6 a7 a8 a9 ab tk mm wm fa th se g1 v 4 (by first | assumption | decide | omega) (by first | assumption | decide | omega)) (cwV 2 hts gX9_readBits_X9_get rfl rfl rfl (by decide +kernel) ⟨Nat.le_of_ble_eq_true rfl, Nat.le_of_ble_eq_true rfl⟩) (st_preV (ci := 8) (q0 := 1) hP hD hK hNW [1, 2] [0] rfl rfl (by decide) rfl rfl rfl rfl) rfl rfl hl.1 rfl (lv_room (Nat.le_of_ble_eq_true rfl)) dX9_readBits_181 ⟨(Nat.le_of_ble_eq_true rfl), (Nat.le_of_ble_eq_true rfl)⟩) (fun r_21 u H locs hw hP hD hK hS => ?_)
                have hw : r_21 = g1 (Int32.toNatClampNeg (10 * v + 4)) := hw
                subst hw
                have hP : va_P D vwCl [(a0, .inl (cI, 120, .inl g0)), (h0, .inr (8, [.ref a0, .int tk, .ref a1, .int mm, .ref a2, .ref a3, .ref a4, .ref a5, .ref a6, .ref a7, .int wm, .int fa, .int th, .int se, .ref a8, .ref a9, .ref ab])), (a1, .inl (cI, 80, .inl g1))] H := hP
                have hD : va_D A [(a0, .inl (cI, 120, .inl g0)), (h0, .inr (8, [.ref a0, .int tk, .ref a1, .int mm, .ref a2, .ref a3, .ref a4, .ref a5, .ref a6, .ref a7, .int wm, .int fa, .int th, .int se, .ref a8, .ref a9, .ref ab])), (a1, .inl (cI, 80, .inl g1))] := hD
                have hK : va_K D vwCl [(cI, .int)] s := hK
                refine go_i (wr := [(a0, .inl (cI, 120, .inl g0))]) (tysr := [(cI, .int)]) hP hD hS hA hK [1, 2] [0] [0] rfl rfl (by decide) (by decide) rfl (va_runV (As := [.int v, .int (g0 (Int32.toNatClampNeg i_7)), .int (g1 (Int32.toNatClampNeg (10 * v + 4)))]) (rest := []) ⟨hx, hb, hml, hown, hts⟩ (m_fits l D H.size cI h0 a0 a1 a2 a3 a4 a5 a6 a7 a8 a9 ab tk mm wm fa th se g1 v (g0 (Int32.toNatClampNeg i_7)) (g1 (Int32.toNatClampNeg (10 * v + 4))) (by first | assumption | decide | omega)) (cwV 3 hts gX9_readBits_X9_fits rfl rfl rfl (by decide +kernel) ⟨Nat.le_of_ble_eq_true rfl, Nat.le_of_ble_eq_true rfl⟩) (st_preV (ci := 8) (q0 := 1) hP hD hK hNW [1, 2] [0] rfl rfl (by decide) rfl rfl rfl rfl) rfl rfl hl.1 rfl (lv_room (Nat.le_of_ble_eq_true rfl)) dX9_readBits_184 ⟨(Nat.le_of_ble_eq_true rfl), (Nat.le_of_ble_eq_true rfl)⟩) (fun r_22 u H locs hw hP hD hK hS => ?_)
                have hP : va_P D vwCl [(a0, .inl (cI, 120, .inl g0)), (h0, .inr (8, [.ref a0, .int tk, .ref a1, .int mm, .ref a2, .ref a3, .ref a4, .ref a5, .ref a6, .ref a7, .int wm, .int fa, .int th, .int se, .ref a8, .ref a9, .ref ab])), (a1, .inl (cI, 80, .inl g1))] H := hP
                have hD : va_D A [(a0, .inl (cI, 120, .inl g0)), (h0, .inr (8, [.ref a0, .int tk, .ref a1, .int mm, .ref a2, .ref a3, .ref a4, .ref a5, .ref a6, .ref a7, .int wm, .int fa, .int th, .int se, .ref a8, .ref a9, .ref ab])), (a1, .inl (cI, 80, .inl g1))] := hD
                have hK : va_K D vwCl [(cI, .int)] s := hK
                refine lv_if_ne (tgt := 197) hx hb dX9_readBits_187 (by decide) (fun c_23 => ?_) (fun c_23 => ?_)
                · exact hJ_16 _ _ _ _ ⟨i5_6, rfl, ⟨hP, hD⟩, hS, lv_sub hl [0, 1, 2, 3, 4, 5, 6, 7] rfl⟩
                refine lv_aload_n hx hb dX9_readBits_190 rfl (lv_at hl 6 rfl) ?_
                refine lv_iload hx hb dX9_readBits_191 (lv_at hl 1 rfl) ?_
                refine go_i (wr := [(a0, .inl (cI, 120, .inl g0)), (a1, .inl (cI, 80, .inl g1))]) (tysr := [(cI, .int)]) hP hD hS hA hK [1] [0, 2] [0] rfl rfl (by decide) (by decide) rfl (va_runV (As := [.int i_7]) (rest := []) ⟨hx, hb, hml, hown, hts⟩ (m_fault l D H.size cI h0 a0 a1 a2 a3 a4 a5 a6 a7 a8 a9 ab tk mm wm fa th se i_7 ) (cwV 1 hts gX9_readBits_X9_fault rfl rfl rfl (by decide +kernel) ⟨Nat.le_of_ble_eq_true rfl, Nat.le_of_ble_eq_true rfl⟩) (st_preV (ci := 8) (q0 := 1) hP hD hK hNW [1] [0] rfl rfl (by decide) rfl rfl rfl rfl) rfl rfl hl.1 rfl (lv_room (Nat.le_of_ble_eq_true rfl)) dX9_readBits_193 ⟨(Nat.le_of_ble_eq_true rfl), (Nat.le_of_ble_eq_true rfl)⟩) (fun r_24 u H locs hw hP hD hK hS => ?_)
                have hw : r_24 = -1 := hw
                subst hw
                have hP : va_P D vwCl [(a0, .inl (cI, 120, .inl g0)), (a1, .inl (cI, 80, .inl g1)), (h0, .inr (8, [.ref a0, .int tk, .ref a1, .int mm, .ref a2, .ref a3, .ref a4, .ref a5, .ref a6, .ref a7, .int wm, .int i_7, .int th, .int se, .ref a8, .ref a9, .ref ab]))] H := hP
                have hD : va_D A [(a0, .inl (cI, 120, .inl g0)), (a1, .inl (cI, 80, .inl g1)), (h0, .inr (8, [.ref a0, .int tk, .ref a1, .int mm, .ref a2, .ref a3, .ref a4, .ref a5, .ref a6, .ref a7, .int wm, .int i_7, .int th, .int se, .ref a8, .ref a9, .ref ab]))] := hD
                have hK : va_K D vwCl [(cI, .int)] s := hK
                exact ret_i hx hb hr hlocks rfl (u := i_7) trivial (hP.sub [2, 0, 1] rfl) (hK.sub [] rfl) (hD.sub [2, 0, 1] (by decide) rfl) hS (Nat.le_of_ble_eq_true rfl) (Nat.le_of_ble_eq_true rfl) dX9_readBits_196
              refine lv_aload_n hx hb dX9_readBits_127 rfl (lv_at hl 6 rfl) ?_
              refine lv_iload_n hx hb dX9_readBits_128 rfl (lv_at hl 7 rfl) ?_
              refine lv_iload hx hb dX9_readBits_129 (lv_at hl 0 rfl) ?_
              refine lv_aload_n hx hb dX9_readBits_131 rfl (lv_at hl 6 rfl) ?_
              refine lv_iload_n hx hb dX9_readBits_132 rfl (lv_at hl 7 rfl) ?_
              refine lv_iconst (v := 5) hx hb dX9_readBits_133 (by decide) ?_
              refine go_i (wr := [(a0, .inl (cI, 120, .inl g0))]) (tysr := [(cI, .int)]) hP hD hS hA hK [1, 2] [0] [0] rfl rfl (by decide) (by decide) rfl (va_runV (As := [.int v, .int 5]) (rest := [.int (g0 (Int32.toNatClampNeg i_7)), .int v, .ref h0]) ⟨hx, hb, hml, hown, hts⟩ (m_get l D H.size cI h0 a0 a1 a2 a3 a4 a5 a6 a7 a8 a9 ab tk mm wm fa th se g1 v 5 (by first | assumption | decide | omega) (by first | assumption | decide | omega)) (cwV 2 hts gX9_readBits_X9_get rfl rfl rfl (by decide +kernel) ⟨Nat.le_of_ble_eq_true rfl, Nat.le_of_ble_eq_true rfl⟩) (st_preV (ci := 8) (q0 := 1) hP hD hK hNW [1, 2] [0] rfl rfl (by decide) rfl rfl rfl rfl) rfl rfl hl.1 rfl (lv_room (Nat.le_of_ble_eq_true rfl)) dX9_readBits_134 ⟨(Nat.le_of_ble_eq_true rfl), (Nat.le_of_ble_eq_true rfl)⟩) (fun r_25 u H locs hw hP hD hK hS => ?_)
              have hw : r_25 = g1 (Int32.toNatClampNeg (10 * v + 5)) := hw
              subst hw
              have hP : va_P D vwCl [(a0, .inl (cI, 120, .inl g0)), (h0, .inr (8, [.ref a0, .int tk, .ref a1, .int mm, .ref a2, .ref a3, .ref a4, .ref a5, .ref a6, .ref a7, .int wm, .int fa, .int th, .int se, .ref a8, .ref a9, .ref ab])), (a1, .inl (cI, 80, .inl g1))] H := hP
              have hD : va_D A [(a0, .inl (cI, 120, .inl g0)), (h0, .inr (8, [.ref a0, .int tk, .ref a1, .int mm, .ref a2, .ref a3, .ref a4, .ref a5, .ref a6, .ref a7, .int wm, .int fa, .int th, .int se, .ref a8, .ref a9, .ref ab])), (a1, .inl (cI, 80, .inl g1))] := hD
              have hK : va_K D vwCl [(cI, .int)] s := hK
              refine lv_aload_n hx hb dX9_readBits_137 rfl (lv_at hl 6 rfl) ?_
              refine lv_iload_n hx hb dX9_readBits_138 rfl (lv_at hl 7 rfl) ?_
              refine lv_bipush (v := 6) hx hb dX9_readBits_139 (by decide) ?_
              refine go_i (wr := [(a0, .inl (cI, 120, .inl g0))]) (tysr := [(cI, .int)]) hP hD hS hA hK [1, 2] [0] [0] rfl rfl (by decide) (by decide) rfl (va_runV (As := [.int v, .int 6]) (rest := [.int (g1 (Int32.toNatClampNeg (10 * v + 5))), .int (g0 (Int32.toNatClampNeg i_7)), .int v, .ref h0]) ⟨hx, hb, hml, hown, hts⟩ (m_get l D H.size cI h0 a0 a1 a2 a3 a4 a5 a6 a7 a8 a9 ab tk mm wm fa th se g1 v 6 (by first | assumption | decide | omega) (by first | assumption | decide | omega)) (cwV 2 hts gX9_readBits_X9_get rfl rfl rfl (by decide +kernel) ⟨Nat.le_of_ble_eq_true rfl, Nat.le_of_ble_eq_true rfl⟩) (st_preV (ci := 8) (q0 := 1) hP hD hK hNW [1, 2] [0] rfl rfl (by decide) rfl rfl rfl rfl) rfl rfl hl.1 rfl (lv_room (Nat.le_of_ble_eq_true rfl)) dX9_readBits_141 ⟨(Nat.le_of_ble_eq_true rfl), (Nat.le_of_ble_eq_true rfl)⟩) (fun r_26 u H locs hw hP hD hK hS => ?_)
              have hw : r_26 = g1 (Int32.toNatClampNeg (10 * v + 6)) := hw
              subst hw
              have hP : va_P D vwCl [(a0, .inl (cI, 120, .inl g0)), (h0, .inr (8, [.ref a0, .int tk, .ref a1, .int mm, .ref a2, .ref a3, .ref a4, .ref a5, .ref a6, .ref a7, .int wm, .int fa, .int th, .int se, .ref a8, .ref a9, .ref ab])), (a1, .inl (cI, 80, .inl g1))] H := hP
              have hD : va_D A [(a0, .inl (cI, 120, .inl g0)), (h0, .inr (8, [.ref a0, .int tk, .ref a1, .int mm, .ref a2, .ref a3, .ref a4, .ref a5, .ref a6, .ref a7, .int wm, .int fa, .int th, .int se, .ref a8, .ref a9, .ref ab])), (a1, .inl (cI, 80, .inl g1))] := hD
              have hK : va_K D vwCl [(cI, .int)] s := hK
              refine go_i (wr := [(a0, .inl (cI, 120, .inl g0))]) (tysr := [(cI, .int)]) hP hD hS hA hK [1, 2] [0] [0] rfl rfl (by decide) (by decide) rfl (va_runV (As := [.int v, .int (g0 (Int32.toNatClampNeg i_7)), .int (g1 (Int32.toNatClampNeg (10 * v + 5))), .int (g1 (Int32.toNatClampNeg (10 * v + 6)))]) (rest := []) ⟨hx, hb, hml, hown, hts⟩ (m_which l D H.size cI h0 a0 a1 a2 a3 a4 a5 a6 a7 a8 a9 ab tk mm wm fa th se g1 v (g0 (Int32.toNatClampNeg i_7)) (g1 (Int32.toNatClampNeg (10 * v + 5))) (g1 (Int32.toNatClampNeg (10 * v + 6))) (by first | assumption | decide | omega)) (cwV 4 hts gX9_readBits_X9_which rfl rfl rfl (by decide +kernel) ⟨Nat.le_of_ble_eq_true rfl, Nat.le_of_ble_eq_true rfl⟩) (st_preV (ci := 8) (q0 := 1) hP hD hK hNW [1, 2] [0] rfl rfl (by decide) rfl rfl rfl rfl) rfl rfl hl.1 rfl (lv_room (Nat.le_of_ble_eq_true rfl)) dX9_readBits_144 ⟨(Nat.le_of_ble_eq_true rfl), (Nat.le_of_ble_eq_true rfl)⟩) (fun r_27 u H locs hw hP hD hK hS => ?_)
              have hw : r_27 = 0 ∨ r_27 = 1 ∨ r_27 = -1 := hw
              have hw_28 := hw
              have hP : va_P D vwCl [(a0, .inl (cI, 120, .inl g0)), (h0, .inr (8, [.ref a0, .int tk, .ref a1, .int mm, .ref a2, .ref a3, .ref a4, .ref a5, .ref a6, .ref a7, .int wm, .int fa, .int th, .int se, .ref a8, .ref a9, .ref ab])), (a1, .inl (cI, 80, .inl g1))] H := hP
              have hD : va_D A [(a0, .inl (cI, 120, .inl g0)), (h0, .inr (8, [.ref a0, .int tk, .ref a1, .int mm, .ref a2, .ref a3, .ref a4, .ref a5, .ref a6, .ref a7, .int wm, .int fa, .int th, .int se, .ref a8, .ref a9, .ref ab])), (a1, .inl (cI, 80, .inl g1))] := hD
              have hK : va_K D vwCl [(cI, .int)] s := hK
              refine lv_istore (lv' := [(8, .int r_27), (7, .int (g0 (Int32.toNatClampNeg i_7))), (6, .int i_7), (5, .int i5_6), (4, .int q_4), (3, .int q_2), (2, .int (g1 (Int32.toNatClampNeg (10 * v + 1)))), (0, .ref h0), (1, .int v)]) hx hb dX9_readBits_147 hl (by decide) rfl (fun ls hl => ?_)
              refine lv_iload hx hb dX9_readBits_149 (lv_at hl 0 rfl) ?_
              refine lv_iconst (v := (-1)) hx hb dX9_readBits_151 (by decide) ?_
              refine lv_icmp_ne (tgt := 162) hx hb dX9_readBits_152 (by decide) (fun c_29 => ?_) (fun c_29 => ?_)
              · refine lv_iconst (v := 2) hx hb dX9_readBits_162 (by decide) ?_
                refine lv_iload hx hb dX9_readBits_163 (lv_at hl 3 rfl) ?_
                refine lv_imul hx hb dX9_readBits_165 ?_
                refine lv_iload hx hb dX9_readBits_166 (lv_at hl 0 rfl) ?_
                refine lv_iadd hx hb dX9_readBits_168 ?_
                refine lv_istore (lv' := [(5, .int ((2 * i5_6) + r_27)), (8, .int r_27), (7, .int (g0 (Int32.toNatClampNeg i_7))), (6, .int i_7), (4, .int q_4), (3, .int q_2), (2, .int (g1 (Int32.toNatClampNeg (10 * v + 1)))), (0, .ref h0), (1, .int v)]) hx hb dX9_readBits_169 hl (by decide) rfl (fun ls hl => ?_)
                refine lv_goto (tgt := 197) hx hb dX9_readBits_171 (by decide) ?_
                exact hJ_16 _ _ _ _ ⟨(2 * i5_6) + r_27, rfl, ⟨hP, hD⟩, hS, lv_sub hl [2, 3, 0, 4, 5, 6, 7, 8] rfl⟩
              refine lv_aload_n hx hb dX9_readBits_155 rfl (lv_at hl 7 rfl) ?_
              refine lv_iload hx hb dX9_readBits_156 (lv_at hl 2 rfl) ?_
              refine go_i (wr := [(a0, .inl (cI, 120, .inl g0)), (a1, .inl (cI, 80, .inl g1))]) (tysr := [(cI, .int)]) hP hD hS hA hK [1] [0, 2] [0] rfl rfl (by decide) (by decide) rfl (va_runV (As := [.int i_7]) (rest := []) ⟨hx, hb, hml, hown, hts⟩ (m_fault l D H.size cI h0 a0 a1 a2 a3 a4 a5 a6 a7 a8 a9 ab tk mm wm fa th se i_7 ) (cwV 1 hts gX9_readBits_X9_fault rfl rfl rfl (by decide +kernel) ⟨Nat.le_of_ble_eq_true rfl, Nat.le_of_ble_eq_true rfl⟩) (st_preV (ci := 8) (q0 := 1) hP hD hK hNW [1] [0] rfl rfl (by decide) rfl rfl rfl rfl) rfl rfl hl.1 rfl (lv_room (Nat.le_of_ble_eq_true rfl)) dX9_readBits_158 ⟨(Nat.le_of_ble_eq_true rfl), (Nat.le_of_ble_eq_true rfl)⟩) (fun r_30 u H locs hw hP hD hK hS => ?_)
              have hw : r_30 = -1 := hw
              subst hw
              have hP : va_P D vwCl [(a0, .inl (cI, 120, .inl g0)), (a1, .inl (cI, 80, .inl g1)), (h0, .inr (8, [.ref a0, .int tk, .ref a1, .int mm, .ref a2, .ref a3, .ref a4, .ref a5, .ref a6, .ref a7, .int wm, .int i_7, .int th, .int se, .ref a8, .ref a9, .ref ab]))] H := hP
              have hD : va_D A [(a0, .inl (cI, 120, .inl g0)), (a1, .inl (cI, 80, .inl g1)), (h0, .inr (8, [.ref a0, .int tk, .ref a1, .int mm, .ref a2, .ref a3, .ref a4, .ref a5, .ref a6, .ref a7, .int wm, .int i_7, .int th, .int se, .ref a8, .ref a9, .ref ab]))] := hD
              have hK : va_K D vwCl [(cI, .int)] s := hK
              exact ret_i hx hb hr hlocks rfl (u := i_7) trivial (hP.sub [2, 0, 1] rfl) (hK.sub [] rfl) (hD.sub [2, 0, 1] (by decide) rfl) hS (Nat.le_of_ble_eq_true rfl) (Nat.le_of_ble_eq_true rfl) dX9_readBits_161
            · intro hJ_31
              refine lv_iload_n hx hb dX9_readBits_115 rfl (lv_at hl 4 rfl) ?_
              refine lv_if_eq (tgt := 123) hx hb dX9_readBits_116 (by decide) (fun c_32 => ?_) (fun c_32 => ?_)
              · refine lv_iconst (v := 0) hx hb dX9_readBits_123 (by decide) ?_
                exact hJ_31 _ _ _ _ ⟨0, rfl, ⟨hP, hD⟩, hS, lv_sub hl [0, 1, 2, 3, 4, 5, 6, 7] rfl⟩
              refine lv_iconst (v := 1) hx hb dX9_readBits_119 (by decide) ?_
              refine lv_goto (tgt := 124) hx hb dX9_readBits_120 (by decide) ?_
              exact hJ_31 _ _ _ _ ⟨1, rfl, ⟨hP, hD⟩, hS, lv_sub hl [0, 1, 2, 3, 4, 5, 6, 7] rfl⟩
          refine lv_aload_n hx hb dX9_readBits_85 rfl (lv_at hl 6 rfl) ?_
          refine lv_iload_n hx hb dX9_readBits_86 rfl (lv_at hl 7 rfl) ?_
          refine lv_iload hx hb dX9_readBits_87 (lv_at hl 0 rfl) ?_
          refine lv_aload_n hx hb dX9_readBits_89 rfl (lv_at hl 6 rfl) ?_
          refine lv_iload_n hx hb dX9_readBits_90 rfl (lv_at hl 7 rfl) ?_
          refine lv_iconst (v := 2) hx hb dX9_readBits_91 (by decide) ?_
          refine lv_iload hx hb dX9_readBits_92 (lv_at hl 1 rfl) ?_
          refine lv_iadd hx hb dX9_readBits_94 ?_
          refine go_i (wr := [(a0, .inl (cI, 120, .inl g0))]) (tysr := [(cI, .int)]) hP hD hS hA hK [1, 2] [0] [0] rfl rfl (by decide) (by decide) rfl (va_runV (As := [.int v, .int (2 + i_7)]) (rest := [.int (g0 (Int32.toNatClampNeg i_7)), .int v, .ref h0]) ⟨hx, hb, hml, hown, hts⟩ (m_get l D H.size cI h0 a0 a1 a2 a3 a4 a5 a6 a7 a8 a9 ab tk mm wm fa th se g1 v (2 + i_7) (by first | assumption | omega) (by have : (2 : Int32).toInt = 2 := (by decide); have := ti_nle c_10; have := ti_lt c_13; have := ti_nle c_17; have h2 : (2 : Int32).toInt = 2 := (by decide); have u3 := ti_ad (x := 2) (y := i_7) (by rw [h2]; omega); rw [h2] at u3; omega)) (cwV 2 hts gX9_readBits_X9_get rfl rfl rfl (by decide +kernel) ⟨Nat.le_of_ble_eq_true rfl, Nat.le_of_ble_eq_true rfl⟩) (st_preV (ci := 8) (q0 := 1) hP hD hK hNW [1, 2] [0] rfl rfl (by decide) rfl rfl rfl rfl) rfl rfl hl.1 rfl (lv_room (Nat.le_of_ble_eq_true rfl)) dX9_readBits_95 ⟨(Nat.le_of_ble_eq_true rfl), (Nat.le_of_ble_eq_true rfl)⟩) (fun r_33 u H locs hw hP hD hK hS => ?_)
          have hw : r_33 = g1 (Int32.toNatClampNeg (10 * v + (2 + i_7))) := hw
          subst hw
          have hP : va_P D vwCl [(a0, .inl (cI, 120, .inl g0)), (h0, .inr (8, [.ref a0, .int tk, .ref a1, .int mm, .ref a2, .ref a3, .ref a4, .ref a5, .ref a6, .ref a7, .int wm, .int fa, .int th, .int se, .ref a8, .ref a9, .ref ab])), (a1, .inl (cI, 80, .inl g1))] H := hP
          have hD : va_D A [(a0, .inl (cI, 120, .inl g0)), (h0, .inr (8, [.ref a0, .int tk, .ref a1, .int mm, .ref a2, .ref a3, .ref a4, .ref a5, .ref a6, .ref a7, .int wm, .int fa, .int th, .int se, .ref a8, .ref a9, .ref ab])), (a1, .inl (cI, 80, .inl g1))] := hD
          have hK : va_K D vwCl [(cI, .int)] s := hK
          refine go_i (wr := [(a0, .inl (cI, 120, .inl g0))]) (tysr := [(cI, .int)]) hP hD hS hA hK [1, 2] [0] [0] rfl rfl (by decide) (by decide) rfl (va_runV (As := [.int v, .int (g0 (Int32.toNatClampNeg i_7)), .int (g1 (Int32.toNatClampNeg (10 * v + (2 + i_7))))]) (rest := []) ⟨hx, hb, hml, hown, hts⟩ (m_fits l D H.size cI h0 a0 a1 a2 a3 a4 a5 a6 a7 a8 a9 ab tk mm wm fa th se g1 v (g0 (Int32.toNatClampNeg i_7)) (g1 (Int32.toNatClampNeg (10 * v + (2 + i_7)))) (by first | assumption | decide | omega)) (cwV 3 hts gX9_readBits_X9_fits rfl rfl rfl (by decide +kernel) ⟨Nat.le_of_ble_eq_true rfl, Nat.le_of_ble_eq_true rfl⟩) (st_preV (ci := 8) (q0 := 1) hP hD hK hNW [1, 2] [0] rfl rfl (by decide) rfl rfl rfl rfl) rfl rfl hl.1 rfl (lv_room (Nat.le_of_ble_eq_true rfl)) dX9_readBits_98 ⟨(Nat.le_of_ble_eq_true rfl), (Nat.le_of_ble_eq_true rfl)⟩) (fun r_34 u H locs hw hP hD hK hS => ?_)
          have hP : va_P D vwCl [(a0, .inl (cI, 120, .inl g0)), (h0, .inr (8, [.ref a0, .int tk, .ref a1, .int mm, .ref a2, .ref a3, .ref a4, .ref a5, .ref a6, .ref a7, .int wm, .int fa, .int th, .int se, .ref a8, .ref a9, .ref ab])), (a1, .inl (cI, 80, .inl g1))] H := hP
          have hD : va_D A [(a0, .inl (cI, 120, .inl g0)), (h0, .inr (8, [.ref a0, .int tk, .ref a1, .int mm, .ref a2, .ref a3, .ref a4, .ref a5, .ref a6, .ref a7, .int wm, .int fa, .int th, .int se, .ref a8, .ref a9, .ref ab])), (a1, .inl (cI, 80, .inl g1))] := hD
          have hK : va_K D vwCl [(cI, .int)] s := hK
          refine lv_if_ne (tgt := 197) hx hb dX9_readBits_101 (by decide) (fun c_35 => ?_) (fun c_35 => ?_)
          · exact hJ_16 _ _ _ _ ⟨i5_6, rfl, ⟨hP, hD⟩, hS, lv_sub hl [0, 1, 2, 3, 4, 5, 6, 7] rfl⟩
          refine lv_aload_n hx hb dX9_readBits_104 rfl (lv_at hl 6 rfl) ?_
          refine lv_iload hx hb dX9_readBits_105 (lv_at hl 1 rfl) ?_
          refine go_i (wr := [(a0, .inl (cI, 120, .inl g0)), (a1, .inl (cI, 80, .inl g1))]) (tysr := [(cI, .int)]) hP hD hS hA hK [1] [0, 2] [0] rfl rfl (by decide) (by decide) rfl (va_runV (As := [.int i_7]) (rest := []) ⟨hx, hb, hml, hown, hts⟩ (m_fault l D H.size cI h0 a0 a1 a2 a3 a4 a5 a6 a7 a8 a9 ab tk mm wm fa th se i_7 ) (cwV 1 hts gX9_readBits_X9_fault rfl rfl rfl (by decide +kernel) ⟨Nat.le_of_ble_eq_true rfl, Nat.le_of_ble_eq_true rfl⟩) (st_preV (ci := 8) (q0 := 1) hP hD hK hNW [1] [0] rfl rfl (by decide) rfl rfl rfl rfl) rfl rfl hl.1 rfl (lv_room (Nat.le_of_ble_eq_true rfl)) dX9_readBits_107 ⟨(Nat.le_of_ble_eq_true rfl), (Nat.le_of_ble_eq_true rfl)⟩) (fun r_36 u H locs hw hP hD hK hS => ?_)
          have hw : r_36 = -1 := hw
          subst hw
          have hP : va_P D vwCl [(a0, .inl (cI, 120, .inl g0)), (a1, .inl (cI, 80, .inl g1)), (h0, .inr (8, [.ref a0, .int tk, .ref a1, .int mm, .ref a2, .ref a3, .ref a4, .ref a5, .ref a6, .ref a7, .int wm, .int i_7, .int th, .int se, .ref a8, .ref a9, .ref ab]))] H := hP
          have hD : va_D A [(a0, .inl (cI, 120, .inl g0)), (a1, .inl (cI, 80, .inl g1)), (h0, .inr (8, [.ref a0, .int tk, .ref a1, .int mm, .ref a2, .ref a3, .ref a4, .ref a5, .ref a6, .ref a7, .int wm, .int i_7, .int th, .int se, .ref a8, .ref a9, .ref ab]))] := hD
          have hK : va_K D vwCl [(cI, .int)] s := hK
          exact ret_i hx hb hr hlocks rfl (u := i_7) trivial (hP.sub [2, 0, 1] rfl) (hK.sub [] rfl) (hD.sub [2, 0, 1] (by decide) rfl) hS (Nat.le_of_ble_eq_true rfl) (Nat.le_of_ble_eq_true rfl) dX9_readBits_110
      refine lv_aload_n hx hb dX9_readBits_63 rfl (lv_at hl 5 rfl) ?_
      refine lv_iload hx hb dX9_readBits_64 (lv_at hl 0 rfl) ?_
      refine go_i (wr := [(a0, .inl (cI, 120, .inl g0)), (a1, .inl (cI, 80, .inl g1))]) (tysr := [(cI, .int)]) hP hD hS hA hK [1] [0, 2] [0] rfl rfl (by decide) (by decide) rfl (va_runV (As := [.int i_7]) (rest := []) ⟨hx, hb, hml, hown, hts⟩ (m_fault l D H.size cI h0 a0 a1 a2 a3 a4 a5 a6 a7 a8 a9 ab tk mm wm fa th se i_7 ) (cwV 1 hts gX9_readBits_X9_fault rfl rfl rfl (by decide +kernel) ⟨Nat.le_of_ble_eq_true rfl, Nat.le_of_ble_eq_true rfl⟩) (st_preV (ci := 8) (q0 := 1) hP hD hK hNW [1] [0] rfl rfl (by decide) rfl rfl rfl rfl) rfl rfl hl.1 rfl (lv_room (Nat.le_of_ble_eq_true rfl)) dX9_readBits_66 ⟨(Nat.le_of_ble_eq_true rfl), (Nat.le_of_ble_eq_true rfl)⟩) (fun r_37 u H locs hw hP hD hK hS => ?_)
      have hw : r_37 = -1 := hw
      subst hw
      have hP : va_P D vwCl [(a0, .inl (cI, 120, .inl g0)), (a1, .inl (cI, 80, .inl g1)), (h0, .inr (8, [.ref a0, .int tk, .ref a1, .int mm, .ref a2, .ref a3, .ref a4, .ref a5, .ref a6, .ref a7, .int wm, .int i_7, .int th, .int se, .ref a8, .ref a9, .ref ab]))] H := hP
      have hD : va_D A [(a0, .inl (cI, 120, .inl g0)), (a1, .inl (cI, 80, .inl g1)), (h0, .inr (8, [.ref a0, .int tk, .ref a1, .int mm, .ref a2, .ref a3, .ref a4, .ref a5, .ref a6, .ref a7, .int wm, .int i_7, .int th, .int se, .ref a8, .ref a9, .ref ab]))] := hD
      have hK : va_K D vwCl [(cI, .int)] s := hK
      exact ret_i hx hb hr hlocks rfl (u := i_7) trivial (hP.sub [2, 0, 1] rfl) (hK.sub [] rfl) (hD.sub [2, 0, 1] (by decide) rfl) hS (Nat.le_of_ble_eq_true rfl) (Nat.le_of_ble_eq_true rfl) dX9_readBits_69
    · intro hJ_38
      refine lv_iload_n hx hb dX9_readBits_22 rfl (lv_at hl 0 rfl) ?_
      refine lv_if_eq (tgt := 34) hx hb dX9_readBits_23 (by decide) (fun c_39 => ?_) (fun c_39 => ?_)
      · refine lv_iconst (v := 2) hx hb dX9_readBits_34 (by decide) ?_
        refine lv_iload_n hx hb dX9_readBits_35 rfl (lv_at hl 1 rfl) ?_
        refine lv_imul hx hb dX9_readBits_36 ?_
        refine lv_iconst (v := 1) hx hb dX9_readBits_37 (by decide) ?_
        refine lv_iadd hx hb dX9_readBits_38 ?_
        exact hJ_38 _ _ _ _ ⟨(2 * (g1 (Int32.toNatClampNeg (10 * v + 1)))) + 1, rfl, ⟨hP, hD⟩, hS, lv_sub hl [0, 1, 2, 3] rfl⟩
      refine lv_iconst (v := 2) hx hb dX9_readBits_26 (by decide) ?_
      refine lv_iload_n hx hb dX9_readBits_27 rfl (lv_at hl 1 rfl) ?_
      refine lv_imul hx hb dX9_readBits_28 ?_
      refine lv_iconst (v := 3) hx hb dX9_readBits_29 (by decide) ?_
      refine lv_iadd hx hb dX9_readBits_30 ?_
      refine lv_goto (tgt := 39) hx hb dX9_readBits_31 (by decide) ?_
      exact hJ_38 _ _ _ _ ⟨(2 * (g1 (Int32.toNatClampNeg (10 * v + 1)))) + 3, rfl, ⟨hP, hD⟩, hS, lv_sub hl [0, 1, 2, 3] rfl⟩
  · intro hJ_40
    refine lv_aload_n hx hb dX9_readBits_7 rfl (lv_at hl 1 rfl) ?_
    refine lv_iload_n hx hb dX9_readBits_8 rfl (lv_at hl 2 rfl) ?_
    refine lv_iconst (v := 0) hx hb dX9_readBits_9 (by decide) ?_
    refine go_i (wr := [(a0, .inl (cI, 120, .inl g0))]) (tysr := [(cI, .int)]) hP hD hS hA hK [1, 2] [0] [0] rfl rfl (by decide) (by decide) rfl (va_runV (As := [.int v, .int 0]) (rest := []) ⟨hx, hb, hml, hown, hts⟩ (m_get l D H.size cI h0 a0 a1 a2 a3 a4 a5 a6 a7 a8 a9 ab tk mm wm fa th se g1 v 0 (by first | assumption | decide | omega) (by first | assumption | decide | omega)) (cwV 2 hts gX9_readBits_X9_get rfl rfl rfl (by decide +kernel) ⟨Nat.le_of_ble_eq_true rfl, Nat.le_of_ble_eq_true rfl⟩) (st_preV (ci := 8) (q0 := 1) hP hD hK hNW [1, 2] [0] rfl rfl (by decide) rfl rfl rfl rfl) rfl rfl hl.1 rfl (lv_room (Nat.le_of_ble_eq_true rfl)) dX9_readBits_10 ⟨(Nat.le_of_ble_eq_true rfl), (Nat.le_of_ble_eq_true rfl)⟩) (fun r_41 u H locs hw hP hD hK hS => ?_)
    have hw : r_41 = g1 (Int32.toNatClampNeg (10 * v + 0)) := hw
    subst hw
    have hP : va_P D vwCl [(a0, .inl (cI, 120, .inl g0)), (h0, .inr (8, [.ref a0, .int tk, .ref a1, .int mm, .ref a2, .ref a3, .ref a4, .ref a5, .ref a6, .ref a7, .int wm, .int fa, .int th, .int se, .ref a8, .ref a9, .ref ab])), (a1, .inl (cI, 80, .inl g1))] H := hP
    have hD : va_D A [(a0, .inl (cI, 120, .inl g0)), (h0, .inr (8, [.ref a0, .int tk, .ref a1, .int mm, .ref a2, .ref a3, .ref a4, .ref a5, .ref a6, .ref a7, .int wm, .int fa, .int th, .int se, .ref a8, .ref a9, .ref ab])), (a1, .inl (cI, 80, .inl g1))] := hD
    have hK : va_K D vwCl [(cI, .int)] s := hK
    refine lv_if_ne (tgt := 20) hx hb dX9_readBits_13 (by decide) (fun c_42 => ?_) (fun c_42 => ?_)
    · refine lv_iconst (v := 0) hx hb dX9_readBits_20 (by decide) ?_
      exact hJ_40 _ _ _ _ ⟨0, rfl, ⟨hP, hD⟩, hS, lv_sub hl [0, 1, 2] rfl⟩
    refine lv_iconst (v := 1) hx hb dX9_readBits_16 (by decide) ?_
    refine lv_goto (tgt := 21) hx hb dX9_readBits_17 (by decide) ?_
    exact hJ_40 _ _ _ _ ⟨1, rfl, ⟨hP, hD⟩, hS, lv_sub hl [0, 1, 2] rfl⟩
theorem him_readHalves_X9 : ∀ w ∈ wsX90, w ∈ wsX9_readHalves := mem_pl [32, 33, 34, 35, 36, 37, 38, 39, 40, 41, 42, 43, 44, 45, 46, 47, 48] rfl
set_option maxHeartbeats 4000000 in
set_option maxRecDepth 100000 in
theorem m_readHalves (l : Launch) (D : va_G) (sz : Nat) (cI : ClassId) (h0 : Nat) (a0 : Nat) (a1 : Nat) (a2 : Nat) (a3 : Nat) (a4 : Nat) (a5 : Nat) (a6 : Nat) (a7 : Nat) (a8 : Nat) (a9 : Nat) (ab : Nat) (tk : Int32) (mm : Int32) (wm : Int32) (fa : Int32) (th : Int32) (se : Int32) (g0 : Nat → Int32) (g1 : Nat → Int32) (v : Int32) (hk : bi tk 0 120) (hv : bi v 0 7) : Ci l yX9_readHalves wsX9_readHalves ({ frames := 4, cells := 0, slots := 0, locals := 91 } : Room) D [.ref h0, .int v] [(h0, .inr (8, [.ref a0, .int tk, .ref a1, .int mm, .ref a2, .ref a3, .ref a4, .ref a5, .ref a6, .ref a7, .int wm, .int fa, .int th, .int se, .ref a8, .ref a9, .ref ab])), (a0, .inl (cI, 120, .inl g0)), (a1, .inl (cI, 80, .inl g1))] [(cI, .int)] sz (fun (r : Int32) => fun (fa2 : Int32) => True) (fun (fa2 : Int32) => [(h0, .inr (8, [.ref a0, .int tk, .ref a1, .int mm, .ref a2, .ref a3, .ref a4, .ref a5, .ref a6, .ref a7, .int wm, .int fa2, .int th, .int se, .ref a8, .ref a9, .ref ab])), (a0, .inl (cI, 120, .inl g0)), (a1, .inl (cI, 80, .inl g1))]) (fun (fa2 : Int32) => []) := by
  refine ct_i (cc := cX9_readHalves) (maxL := 11) (ret := (some .int)) (by decide) rfl (Nat.le_of_ble_eq_true rfl) ?_
  intro p e s m below meth c A ls H hx hb hr hts hown hml hlocks hin hA hS hP hK hD hNW hl hAe hsz
  have hl : lv_has ls 11 [(0, .ref h0), (1, .int v)] := hl
  refine lv_aload_n hx hb dX9_readHalves_0 rfl (lv_at hl 0 rfl) ?_
  refine lv_iload_n hx hb dX9_readHalves_1 rfl (lv_at hl 1 rfl) ?_
  refine lv_iconst (v := 1) hx hb dX9_readHalves_2 (by decide) ?_
  refine go_i (wr := [(a0, .inl (cI, 120, .inl g0))]) (tysr := [(cI, .int)]) hP hD hS hA hK [0, 2] [1] [0] rfl rfl (by decide) (by decide) rfl (va_runV (As := [.int v, .int 1]) (rest := []) ⟨hx, hb, hml, hown, hts⟩ (m_get l D H.size cI h0 a0 a1 a2 a3 a4 a5 a6 a7 a8 a9 ab tk mm wm fa th se g1 v 1 (by first | assumption | decide | omega) (by first | assumption | decide | omega)) (cwV 2 hts gX9_readHalves_X9_get rfl rfl rfl (by decide +kernel) ⟨Nat.le_of_ble_eq_true rfl, Nat.le_of_ble_eq_true rfl⟩) (st_preV (ci := 8) (q0 := 0) hP hD hK hNW [0, 2] [0] rfl rfl (by decide) rfl rfl rfl rfl) rfl rfl hl.1 rfl (lv_room (Nat.le_of_ble_eq_true rfl)) dX9_readHalves_3 ⟨(Nat.le_of_ble_eq_true rfl), (Nat.le_of_ble_eq_true rfl)⟩) (fun r_1 u H locs hw hP hD hK hS => ?_)
  have hw : r_1 = g1 (Int32.toNatClampNeg (10 * v + 1)) := hw
  subst hw
  have hP : va_P D vwCl [(a0, .inl (cI, 120, .inl g0)), (h0, .inr (8, [.ref a0, .int tk, .ref a1, .int mm, .ref a2, .ref a3, .ref a4, .ref a5, .ref a6, .ref a7, .int wm, .int fa, .int th, .int se, .ref a8, .ref a9, .ref ab])), (a1, .inl (cI, 80, .inl g1))] H := hP
  have hD : va_D A [(a0, .inl (cI, 120, .inl g0)), (h0, .inr (8, [.ref a0, .int tk, .ref a1, .int mm, .ref a2, .ref a3, .ref a4, .ref a5, .ref a6, .ref a7, .int wm, .int fa, .int th, .int se, .ref a8, .ref a9, .ref ab])), (a1, .inl (cI, 80, .inl g1))] := hD
  have hK : va_K D vwCl [(cI, .int)] s := hK
  refine lv_istore_n (lv' := [(2, .int (g1 (Int32.toNatClampNeg (10 * v + 1)))), (0, .ref h0), (1, .int v)]) hx hb dX9_readHalves_6 rfl hl (by decide) rfl (fun ls hl => ?_)
  refine lv_aload_n hx hb dX9_readHalves_7 rfl (lv_at hl 1 rfl) ?_
  refine lv_iload_n hx hb dX9_readHalves_8 rfl (lv_at hl 2 rfl) ?_
  refine lv_iconst (v := 4) hx hb dX9_readHalves_9 (by decide) ?_
  refine go_i (wr := [(a0, .inl (cI, 120, .inl g0))]) (tysr := [(cI, .int)]) hP hD hS hA hK [1, 2] [0] [0] rfl rfl (by decide) (by decide) rfl (va_runV (As := [.int v, .int 4]) (rest := []) ⟨hx, hb, hml, hown, hts⟩ (m_get l D H.size cI h0 a0 a1 a2 a3 a4 a5 a6 a7 a8 a9 ab tk mm wm fa th se g1 v 4 (by first | assumption | decide | omega) (by first | assumption | decide | omega)) (cwV 2 hts gX9_readHalves_X9_get rfl rfl rfl (by decide +kernel) ⟨Nat.le_of_ble_eq_true rfl, Nat.le_of_ble_eq_true rfl⟩) (st_preV (ci := 8) (q0 := 1) hP hD hK hNW [1, 2] [0] rfl rfl (by decide) rfl rfl rfl rfl) rfl rfl hl.1 rfl (lv_room (Nat.le_of_ble_eq_true rfl)) dX9_readHalves_10 ⟨(Nat.le_of_ble_eq_true rfl), (Nat.le_of_ble_eq_true rfl)⟩) (fun r_2 u H locs hw hP hD hK hS => ?_)
  have hw : r_2 = g1 (Int32.toNatClampNeg (10 * v + 4)) := hw
  subst hw
  have hP : va_P D vwCl [(a0, .inl (cI, 120, .inl g0)), (h0, .inr (8, [.ref a0, .int tk, .ref a1, .int mm, .ref a2, .ref a3, .ref a4, .ref a5, .ref a6, .ref a7, .int wm, .int fa, .int th, .int se, .ref a8, .ref a9, .ref ab])), (a1, .inl (cI, 80, .inl g1))] H := hP
  have hD : va_D A [(a0, .inl (cI, 120, .inl g0)), (h0, .inr (8, [.ref a0, .int tk, .ref a1, .int mm, .ref a2, .ref a3, .ref a4, .ref a5, .ref a6, .ref a7, .int wm, .int fa, .int th, .int se, .ref a8, .ref a9, .ref ab])), (a1, .inl (cI, 80, .inl g1))] := hD
  have hK : va_K D vwCl [(cI, .int)] s := hK
  refine lv_istore_n (lv' := [(3, .int (g1 (Int32.toNatClampNeg (10 * v + 4)))), (2, .int (g1 (Int32.toNatClampNeg (10 * v + 1)))), (0, .ref h0), (1, .int v)]) hx hb dX9_readHalves_13 rfl hl (by decide) rfl (fun ls hl => ?_)
  refine lv_iconst (v := 0) hx hb dX9_readHalves_14 (by decide) ?_
  refine lv_istore (lv' := [(4, .int 0), (3, .int (g1 (Int32.toNatClampNeg (10 * v + 4)))), (2, .int (g1 (Int32.toNatClampNeg (10 * v + 1)))), (0, .ref h0), (1, .int v)]) hx hb dX9_readHalves_15 hl (by decide) rfl (fun ls hl => ?_)
  refine lv_iconst (v := 0) hx hb dX9_readHalves_17 (by decide) ?_
  refine lv_istore (lv' := [(5, .int 0), (4, .int 0), (3, .int (g1 (Int32.toNatClampNeg (10 * v + 4)))), (2, .int (g1 (Int32.toNatClampNeg (10 * v + 1)))), (0, .ref h0), (1, .int v)]) hx hb dX9_readHalves_18 hl (by decide) rfl (fun ls hl => ?_)
  refine lv_iconst (v := 1) hx hb dX9_readHalves_20 (by decide) ?_
  refine lv_istore (lv' := [(6, .int 1), (5, .int 0), (4, .int 0), (3, .int (g1 (Int32.toNatClampNeg (10 * v + 4)))), (2, .int (g1 (Int32.toNatClampNeg (10 * v + 1)))), (0, .ref h0), (1, .int v)]) hx hb dX9_readHalves_21 hl (by decide) rfl (fun ls hl => ?_)
  refine lv_iconst (v := 0) hx hb dX9_readHalves_23 (by decide) ?_
  refine lv_istore (lv' := [(7, .int 0), (6, .int 1), (5, .int 0), (4, .int 0), (3, .int (g1 (Int32.toNatClampNeg (10 * v + 4)))), (2, .int (g1 (Int32.toNatClampNeg (10 * v + 1)))), (0, .ref h0), (1, .int v)]) hx hb dX9_readHalves_24 hl (by decide) rfl (fun ls hl => ?_)
  refine lp_N (fun n9 H locs ls => ∃ (i4_3 : Int32), ∃ (i5_4 : Int32), ∃ (i6_5 : Int32), ∃ (i_6 : Int32), n9 = (tk.toInt - i_6.toInt).toNat ∧ (va_P D vwCl [(a0, .inl (cI, 120, .inl g0)), (h0, .inr (8, [.ref a0, .int tk, .ref a1, .int mm, .ref a2, .ref a3, .ref a4, .ref a5, .ref a6, .ref a7, .int wm, .int fa, .int th, .int se, .ref a8, .ref a9, .ref ab])), (a1, .inl (cI, 80, .inl g1))] H ∧ va_D A [(a0, .inl (cI, 120, .inl g0)), (h0, .inr (8, [.ref a0, .int tk, .ref a1, .int mm, .ref a2, .ref a3, .ref a4, .ref a5, .ref a6, .ref a7, .int wm, .int fa, .int th, .int se, .ref a8, .ref a9, .ref ab])), (a1, .inl (cI, 80, .inl g1))]) ∧ va_S A s.heap H locs ∧ lv_has ls 11 [(7, .int i_6), (6, .int i6_5), (5, .int i5_4), (4, .int i4_3), (3, .int (g1 (Int32.toNatClampNeg (10 * v + 4)))), (2, .int (g1 (Int32.toNatClampNeg (10 * v + 1)))), (0, .ref h0), (1, .int v)] ∧ (0 ≤ i_6.toInt)) ?_ ⟨0, 0, 1, 0, rfl, ⟨hP, hD⟩, hS, hl, (by decide)⟩
  intro n9 ih_7 H locs ls hI
  obtain ⟨i4_3, i5_4, i6_5, i_6, rfl, ⟨hP, hD⟩, hS, hl, hv_8⟩ := hI
  refine lv_iload hx hb dX9_readHalves_26 (lv_at hl 0 rfl) ?_
  refine lv_aload_n hx hb dX9_readHalves_28 rfl (lv_at hl 6 rfl) ?_
  refine va_get (D := D) (ci := 8) (v := .int tk) (C := RX9) (T := TX9) (N := 17) hx hb hts him_readHalves_X9 hown hK hP 1 rfl rfl 1 (by decide) (hts (.fieldLink RX9 62 "OneHandsetModel" "taped" "I") (List.mem_of_getElem? (i := 1) rfl)) (fun _ h9 => h9) rfl dX9_readHalves_29 ?_
  refine lv_icmp_ge (tgt := 177) hx hb dX9_readHalves_32 (by decide) (fun c_9 => ?_) (fun c_9 => ?_)
  · refine jn_S 205 (fun st9 H locs ls => ∃ (q_10 : Int32), st9 = [.int q_10] ∧ (va_P D vwCl [(a0, .inl (cI, 120, .inl g0)), (h0, .inr (8, [.ref a0, .int tk, .ref a1, .int mm, .ref a2, .ref a3, .ref a4, .ref a5, .ref a6, .ref a7, .int wm, .int fa, .int th, .int se, .ref a8, .ref a9, .ref ab])), (a1, .inl (cI, 80, .inl g1))] H ∧ va_D A [(a0, .inl (cI, 120, .inl g0)), (h0, .inr (8, [.ref a0, .int tk, .ref a1, .int mm, .ref a2, .ref a3, .ref a4, .ref a5, .ref a6, .ref a7, .int wm, .int fa, .int th, .int se, .ref a8, .ref a9, .ref ab])), (a1, .inl (cI, 80, .inl g1))]) ∧ va_S A s.heap H locs ∧ lv_has ls 11 [(7, .int i_6), (6, .int i6_5), (5, .int i5_4), (4, .int i4_3), (3, .int (g1 (Int32.toNatClampNeg (10 * v + 4)))), (2, .int (g1 (Int32.toNatClampNeg (10 * v + 1)))), (0, .ref h0), (1, .int v)]) ?_ ?_
    · intro st9 H locs ls hI
      obtain ⟨q_10, rfl, ⟨hP, hD⟩, hS, hl⟩ := hI
      refine lv_istore (lv' := [(7, .int q_10), (6, .int i6_5), (5, .int i5_4), (4, .int i4_3), (3, .int (g1 (Int32.toNatClampNeg (10 * v + 4)))), (2, .int (g1 (Int32.toNatClampNeg (10 * v + 1)))), (0, .ref h0), (1, .int v)]) hx hb dX9_readHalves_205 hl (by decide) rfl (fun ls hl => ?_)
      refine lv_iload hx hb dX9_readHalves_207 (lv_at hl 0 rfl) ?_
      refine lv_if_eq (tgt := 217) hx hb dX9_readHalves_209 (by decide) (fun c_12 => ?_) (fun c_12 => ?_)
      · refine lv_aload_n hx hb dX9_readHalves_217 rfl (lv_at hl 6 rfl) ?_
        refine lv_aload_n hx hb dX9_readHalves_218 rfl (lv_at hl 6 rfl) ?_
        refine va_get (D := D) (ci := 8) (v := .int tk) (C := RX9) (T := TX9) (N := 17) hx hb hts him_readHalves_X9 hown hK hP 1 rfl rfl 1 (by decide) (hts (.fieldLink RX9 62 "OneHandsetModel" "taped" "I") (List.mem_of_getElem? (i := 1) rfl)) (fun _ h9 => h9) rfl dX9_readHalves_219 ?_
        refine go_i (wr := [(a0, .inl (cI, 120, .inl g0)), (a1, .inl (cI, 80, .inl g1))]) (tysr := [(cI, .int)]) hP hD hS hA hK [1] [0, 2] [0] rfl rfl (by decide) (by decide) rfl (va_runV (As := [.int tk]) (rest := []) ⟨hx, hb, hml, hown, hts⟩ (m_fault l D H.size cI h0 a0 a1 a2 a3 a4 a5 a6 a7 a8 a9 ab tk mm wm fa th se tk ) (cwV 1 hts gX9_readHalves_X9_fault rfl rfl rfl (by decide +kernel) ⟨Nat.le_of_ble_eq_true rfl, Nat.le_of_ble_eq_true rfl⟩) (st_preV (ci := 8) (q0 := 1) hP hD hK hNW [1] [0] rfl rfl (by decide) rfl rfl rfl rfl) rfl rfl hl.1 rfl (lv_room (Nat.le_of_ble_eq_true rfl)) dX9_readHalves_222 ⟨(Nat.le_of_ble_eq_true rfl), (Nat.le_of_ble_eq_true rfl)⟩) (fun r_13 u H locs hw hP hD hK hS => ?_)
        have hw : r_13 = -1 := hw
        subst hw
        have hP : va_P D vwCl [(a0, .inl (cI, 120, .inl g0)), (a1, .inl (cI, 80, .inl g1)), (h0, .inr (8, [.ref a0, .int tk, .ref a1, .int mm, .ref a2, .ref a3, .ref a4, .ref a5, .ref a6, .ref a7, .int wm, .int tk, .int th, .int se, .ref a8, .ref a9, .ref ab]))] H := hP
        have hD : va_D A [(a0, .inl (cI, 120, .inl g0)), (a1, .inl (cI, 80, .inl g1)), (h0, .inr (8, [.ref a0, .int tk, .ref a1, .int mm, .ref a2, .ref a3, .ref a4, .ref a5, .ref a6, .ref a7, .int wm, .int tk, .int th, .int se, .ref a8, .ref a9, .ref ab]))] := hD
        have hK : va_K D vwCl [(cI, .int)] s := hK
        exact ret_i hx hb hr hlocks rfl (u := tk) trivial (hP.sub [2, 0, 1] rfl) (hK.sub [] rfl) (hD.sub [2, 0, 1] (by decide) rfl) hS (Nat.le_of_ble_eq_true rfl) (Nat.le_of_ble_eq_true rfl) dX9_readHalves_225
      refine lv_iload hx hb dX9_readHalves_212 (lv_at hl 2 rfl) ?_
      refine lv_goto (tgt := 225) hx hb dX9_readHalves_214 (by decide) ?_
      exact ret_i hx hb hr hlocks rfl (u := fa) trivial (hP.sub [1, 0, 2] rfl) (hK.sub [] rfl) (hD.sub [1, 0, 2] (by decide) rfl) hS (Nat.le_of_ble_eq_true rfl) (Nat.le_of_ble_eq_true rfl) dX9_readHalves_225
    · intro hJ_14
      refine lv_iload hx hb dX9_readHalves_177 (lv_at hl 3 rfl) ?_
      refine lv_iconst (v := 2) hx hb dX9_readHalves_179 (by decide) ?_
      refine lv_iload_n hx hb dX9_readHalves_180 rfl (lv_at hl 5 rfl) ?_
      refine lv_imul hx hb dX9_readHalves_181 ?_
      refine lv_iconst (v := 1) hx hb dX9_readHalves_182 (by decide) ?_
      refine lv_iadd hx hb dX9_readHalves_183 ?_
      refine lv_icmp_eq (tgt := 200) hx hb dX9_readHalves_184 (by decide) (fun c_15 => ?_) (fun c_15 => ?_)
      · refine lv_iconst (v := 1) hx hb dX9_readHalves_200 (by decide) ?_
        refine lv_goto (tgt := 205) hx hb dX9_readHalves_201 (by decide) ?_
        exact hJ_14 _ _ _ _ ⟨1, rfl, ⟨hP, hD⟩, hS, lv_sub hl [0, 1, 2, 3, 4, 5, 6, 7] rfl⟩
      refine lv_iload hx hb dX9_readHalves_187 (lv_at hl 3 rfl) ?_
      refine lv_iconst (v := 2) hx hb dX9_readHalves_189 (by decide) ?_
      refine lv_iload_n hx hb dX9_readHalves_190 rfl (lv_at hl 5 rfl) ?_
      refine lv_imul hx hb dX9_readHalves_191 ?_
      refine lv_icmp_ne (tgt := 204) hx hb dX9_readHalves_192 (by decide) (fun c_16 => ?_) (fun c_16 => ?_)
      · refine lv_iconst (v := 0) hx hb dX9_readHalves_204 (by decide) ?_
        exact hJ_14 _ _ _ _ ⟨0, rfl, ⟨hP, hD⟩, hS, lv_sub hl [0, 1, 2, 3, 4, 5, 6, 7] rfl⟩
      refine lv_iload hx hb dX9_readHalves_195 (lv_at hl 1 rfl) ?_
      refine lv_if_eq (tgt := 204) hx hb dX9_readHalves_197 (by decide) (fun c_17 => ?_) (fun c_17 => ?_)
      · refine lv_iconst (v := 0) hx hb dX9_readHalves_204 (by decide) ?_
        exact hJ_14 _ _ _ _ ⟨0, rfl, ⟨hP, hD⟩, hS, lv_sub hl [0, 1, 2, 3, 4, 5, 6, 7] rfl⟩
      refine lv_iconst (v := 1) hx hb dX9_readHalves_200 (by decide) ?_
      refine lv_goto (tgt := 205) hx hb dX9_readHalves_201 (by decide) ?_
      exact hJ_14 _ _ _ _ ⟨1, rfl, ⟨hP, hD⟩, hS, lv_sub hl [0, 1, 2, 3, 4, 5, 6, 7] rfl⟩
  refine lv_iconst (v := 1) hx hb dX9_readHalves_35 (by decide) ?_
  refine lv_aload_n hx hb dX9_readHalves_36 rfl (lv_at hl 6 rfl) ?_
  refine lv_iload_n hx hb dX9_readHalves_37 rfl (lv_at hl 7 rfl) ?_
  refine lv_aload_n hx hb dX9_readHalves_38 rfl (lv_at hl 6 rfl) ?_
  refine va_get (D := D) (ci := 8) (v := .ref a0) (C := RX9) (T := TX9) (N := 17) hx hb hts him_readHalves_X9 hown hK hP 1 rfl rfl 0 (by decide) (hts (.fieldLink RX9 9 "OneHandsetModel" "tape" "[I") (List.mem_of_getElem? (i := 2) rfl)) (fun _ h9 => h9) rfl dX9_readHalves_39 ?_
  refine lv_iload hx hb dX9_readHalves_42 (lv_at hl 0 rfl) ?_
  refine va_iald hx hb hK hP 0 0 rfl rfl (by have := ti_nle c_9; exact vp_in_iff.mpr (by omega)) dX9_readHalves_44 ?_
  refine lv_iload_n hx hb dX9_readHalves_45 rfl (lv_at hl 4 rfl) ?_
  refine lv_iconst (v := 2) hx hb dX9_readHalves_46 (by decide) ?_
  refine lv_iload_n hx hb dX9_readHalves_47 rfl (lv_at hl 4 rfl) ?_
  refine lv_imul hx hb dX9_readHalves_48 ?_
  refine go_i (wr := [(a0, .inl (cI, 120, .inl g0))]) (tysr := [(cI, .int)]) hP hD hS hA hK [1, 2] [0] [0] rfl rfl (by decide) (by decide) rfl (va_runV (As := [.int v, .int (g0 (Int32.toNatClampNeg i_6)), .int (g1 (Int32.toNatClampNeg (10 * v + 4))), .int (2 * (g1 (Int32.toNatClampNeg (10 * v + 4))))]) (rest := [.int 1]) ⟨hx, hb, hml, hown, hts⟩ (m_which l D H.size cI h0 a0 a1 a2 a3 a4 a5 a6 a7 a8 a9 ab tk mm wm fa th se g1 v (g0 (Int32.toNatClampNeg i_6)) (g1 (Int32.toNatClampNeg (10 * v + 4))) (2 * (g1 (Int32.toNatClampNeg (10 * v + 4)))) (by first | assumption | decide | omega)) (cwV 4 hts gX9_readHalves_X9_which rfl rfl rfl (by decide +kernel) ⟨Nat.le_of_ble_eq_true rfl, Nat.le_of_ble_eq_true rfl⟩) (st_preV (ci := 8) (q0 := 1) hP hD hK hNW [1, 2] [0] rfl rfl (by decide) rfl rfl rfl rfl) rfl rfl hl.1 rfl (lv_room (Nat.le_of_ble_eq_true rfl)) dX9_readHalves_49 ⟨(Nat.le_of_ble_eq_true rfl), (Nat.le_of_ble_eq_true rfl)⟩) (fun r_18 u H locs hw hP hD hK hS => ?_)
  have hw : r_18 = 0 ∨ r_18 = 1 ∨ r_18 = -1 := hw
  have hw_19 := hw
  have hP : va_P D vwCl [(a0, .inl (cI, 120, .inl g0)), (h0, .inr (8, [.ref a0, .int tk, .ref a1, .int mm, .ref a2, .ref a3, .ref a4, .ref a5, .ref a6, .ref a7, .int wm, .int fa, .int th, .int se, .ref a8, .ref a9, .ref ab])), (a1, .inl (cI, 80, .inl g1))] H := hP
  have hD : va_D A [(a0, .inl (cI, 120, .inl g0)), (h0, .inr (8, [.ref a0, .int tk, .ref a1, .int mm, .ref a2, .ref a3, .ref a4, .ref a5, .ref a6, .ref a7, .int wm, .int fa, .int th, .int se, .ref a8, .ref a9, .ref ab])), (a1, .inl (cI, 80, .inl g1))] := hD
  have hK : va_K D vwCl [(cI, .int)] s := hK
  refine lv_iadd hx hb dX9_readHalves_52 ?_
  refine lv_istore (lv' := [(8, .int (1 + r_18)), (7, .int i_6), (6, .int i6_5), (5, .int i5_4), (4, .int i4_3), (3, .int (g1 (Int32.toNatClampNeg (10 * v + 4)))), (2, .int (g1 (Int32.toNatClampNeg (10 * v + 1)))), (0, .ref h0), (1, .int v)]) hx hb dX9_readHalves_53 hl (by decide) rfl (fun ls hl => ?_)
  refine lv_iload hx hb dX9_readHalves_55 (lv_at hl 0 rfl) ?_
  refine lv_if_ne (tgt := 67) hx hb dX9_readHalves_57 (by decide) (fun c_20 => ?_) (fun c_20 => ?_)
  · refine jn_S 79 (fun st9 H locs ls => ∃ (q_21 : Int32), st9 = [.int q_21] ∧ (va_P D vwCl [(a0, .inl (cI, 120, .inl g0)), (h0, .inr (8, [.ref a0, .int tk, .ref a1, .int mm, .ref a2, .ref a3, .ref a4, .ref a5, .ref a6, .ref a7, .int wm, .int fa, .int th, .int se, .ref a8, .ref a9, .ref ab])), (a1, .inl (cI, 80, .inl g1))] H ∧ va_D A [(a0, .inl (cI, 120, .inl g0)), (h0, .inr (8, [.ref a0, .int tk, .ref a1, .int mm, .ref a2, .ref a3, .ref a4, .ref a5, .ref a6, .ref a7, .int wm, .int fa, .int th, .int se, .ref a8, .ref a9, .ref ab])), (a1, .inl (cI, 80, .inl g1))]) ∧ va_S A s.heap H locs ∧ lv_has ls 11 [(8, .int (1 + r_18)), (7, .int i_6), (6, .int i6_5), (5, .int i5_4), (4, .int i4_3), (3, .int (g1 (Int32.toNatClampNeg (10 * v + 4)))), (2, .int (g1 (Int32.toNatClampNeg (10 * v + 1)))), (0, .ref h0), (1, .int v)]) ?_ ?_
    · intro st9 H locs ls hI
      obtain ⟨q_21, rfl, ⟨hP, hD⟩, hS, hl⟩ := hI
      refine lv_istore (lv' := [(9, .int q_21), (8, .int (1 + r_18)), (7, .int i_6), (6, .int i6_5), (5, .int i5_4), (4, .int i4_3), (3, .int (g1 (Int32.toNatClampNeg (10 * v + 4)))), (2, .int (g1 (Int32.toNatClampNeg (10 * v + 1)))), (0, .ref h0), (1, .int v)]) hx hb dX9_readHalves_79 hl (by decide) rfl (fun ls hl => ?_)
      refine lv_iconst (v := 0) hx hb dX9_readHalves_81 (by decide) ?_
      refine lv_istore (lv' := [(10, .int 0), (9, .int q_21), (8, .int (1 + r_18)), (7, .int i_6), (6, .int i6_5), (5, .int i5_4), (4, .int i4_3), (3, .int (g1 (Int32.toNatClampNeg (10 * v + 4)))), (2, .int (g1 (Int32.toNatClampNeg (10 * v + 1)))), (0, .ref h0), (1, .int v)]) hx hb dX9_readHalves_82 hl (by decide) rfl (fun ls hl => ?_)
      refine lp_N (fun n9 H locs ls => ∃ (i4_23 : Int32), ∃ (i5_24 : Int32), ∃ (i6_25 : Int32), ∃ (i_26 : Int32), n9 = (((1 + r_18)).toInt - i_26.toInt).toNat ∧ (va_P D vwCl [(a0, .inl (cI, 120, .inl g0)), (h0, .inr (8, [.ref a0, .int tk, .ref a1, .int mm, .ref a2, .ref a3, .ref a4, .ref a5, .ref a6, .ref a7, .int wm, .int fa, .int th, .int se, .ref a8, .ref a9, .ref ab])), (a1, .inl (cI, 80, .inl g1))] H ∧ va_D A [(a0, .inl (cI, 120, .inl g0)), (h0, .inr (8, [.ref a0, .int tk, .ref a1, .int mm, .ref a2, .ref a3, .ref a4, .ref a5, .ref a6, .ref a7, .int wm, .int fa, .int th, .int se, .ref a8, .ref a9, .ref ab])), (a1, .inl (cI, 80, .inl g1))]) ∧ va_S A s.heap H locs ∧ lv_has ls 11 [(10, .int i_26), (9, .int q_21), (8, .int (1 + r_18)), (7, .int i_6), (6, .int i6_25), (5, .int i5_24), (4, .int i4_23), (3, .int (g1 (Int32.toNatClampNeg (10 * v + 4)))), (2, .int (g1 (Int32.toNatClampNeg (10 * v + 1)))), (0, .ref h0), (1, .int v)] ∧ (0 ≤ i_26.toInt)) ?_ ⟨i4_3, i5_4, i6_5, 0, rfl, ⟨hP, hD⟩, hS, hl, (by decide)⟩
      intro n9 ih_27 H locs ls hI
      obtain ⟨i4_23, i5_24, i6_25, i_26, rfl, ⟨hP, hD⟩, hS, hl, hv_28⟩ := hI
      refine lv_iload hx hb dX9_readHalves_84 (lv_at hl 0 rfl) ?_
      refine lv_iload hx hb dX9_readHalves_86 (lv_at hl 2 rfl) ?_
      refine lv_icmp_ge (tgt := 171) hx hb dX9_readHalves_88 (by decide) (fun c_29 => ?_) (fun c_29 => ?_)
      · refine lv_iinc (v := i_6 + 1) (lv' := [(7, .int (i_6 + 1)), (10, .int i_26), (9, .int q_21), (8, .int (1 + r_18)), (6, .int i6_25), (5, .int i5_24), (4, .int i4_23), (3, .int (g1 (Int32.toNatClampNeg (10 * v + 4)))), (2, .int (g1 (Int32.toNatClampNeg (10 * v + 1)))), (0, .ref h0), (1, .int v)]) hx hb dX9_readHalves_171 hl (k := 3) rfl rfl (by decide) rfl (fun ls hl => ?_)
        refine lv_goto (tgt := 26) hx hb dX9_readHalves_174 (by decide) ?_
        exact ih_7 _ _ _ _ (by have : (0 : Int32).toInt = 0 := (by decide); have := ti_nle c_9; have := ti_ne c_20; have := ti_le c_29; have u1 := ti_up (i := i_6) (n := tk) (by omega); omega) ⟨i4_23, i5_24, i6_25, i_6 + 1, rfl, ⟨hP, hD⟩, hS, lv_sub hl [0, 4, 5, 6, 7, 8, 9, 10] rfl, (by have : (0 : Int32).toInt = 0 := (by decide); have := ti_nle c_9; have := ti_ne c_20; have := ti_le c_29; have u1 := ti_up (i := i_6) (n := tk) (by omega); omega)⟩
      refine lv_iload hx hb dX9_readHalves_91 (lv_at hl 6 rfl) ?_
      refine lv_iconst (v := 2) hx hb dX9_readHalves_93 (by decide) ?_
      refine lv_iload_n hx hb dX9_readHalves_94 rfl (lv_at hl 8 rfl) ?_
      refine lv_imul hx hb dX9_readHalves_95 ?_
      refine lv_icmp_le (tgt := 106) hx hb dX9_readHalves_96 (by decide) (fun c_30 => ?_) (fun c_30 => ?_)
      · refine jn_S 162 (fun st9 H locs ls => ∃ (i5_31 : Int32), ∃ (i6_32 : Int32), st9 = [] ∧ (va_P D vwCl [(a0, .inl (cI, 120, .inl g0)), (h0, .inr (8, [.ref a0, .int tk, .ref a1, .int mm, .ref a2, .ref a3, .ref a4, .ref a5, .ref a6, .ref a7, .int wm, .int fa, .int th, .int se, .ref a8, .ref a9, .ref ab])), (a1, .inl (cI, 80, .inl g1))] H ∧ va_D A [(a0, .inl (cI, 120, .inl g0)), (h0, .inr (8, [.ref a0, .int tk, .ref a1, .int mm, .ref a2, .ref a3, .ref a4, .ref a5, .ref a6, .ref a7, .int wm, .int fa, .int th, .int se, .ref a8, .ref a9, .ref ab])), (a1, .inl (cI, 80, .inl g1))]) ∧ va_S A s.heap H locs ∧ lv_has ls 11 [(10, .int i_26), (9, .int q_21), (8, .int (1 + r_18)), (7, .int i_6), (6, .int i6_32), (5, .int i5_31), (4, .int i4_23), (3, .int (g1 (Int32.toNatClampNeg (10 * v + 4)))), (2, .int (g1 (Int32.toNatClampNeg (10 * v + 1)))), (0, .ref h0), (1, .int v)]) ?_ ?_
        · intro st9 H locs ls hI
          obtain ⟨i5_31, i6_32, rfl, ⟨hP, hD⟩, hS, hl⟩ := hI
          refine lv_iinc (v := i4_23 + 1) (lv' := [(4, .int (i4_23 + 1)), (10, .int i_26), (9, .int q_21), (8, .int (1 + r_18)), (7, .int i_6), (6, .int i6_32), (5, .int i5_31), (3, .int (g1 (Int32.toNatClampNeg (10 * v + 4)))), (2, .int (g1 (Int32.toNatClampNeg (10 * v + 1)))), (0, .ref h0), (1, .int v)]) hx hb dX9_readHalves_162 hl (k := 6) rfl rfl (by decide) rfl (fun ls hl => ?_)
          refine lv_iinc (v := i_26 + 1) (lv' := [(10, .int (i_26 + 1)), (4, .int (i4_23 + 1)), (9, .int q_21), (8, .int (1 + r_18)), (7, .int i_6), (6, .int i6_32), (5, .int i5_31), (3, .int (g1 (Int32.toNatClampNeg (10 * v + 4)))), (2, .int (g1 (Int32.toNatClampNeg (10 * v + 1)))), (0, .ref h0), (1, .int v)]) hx hb dX9_readHalves_165 hl (k := 1) rfl rfl (by decide) rfl (fun ls hl => ?_)
          refine lv_goto (tgt := 84) hx hb dX9_readHalves_168 (by decide) ?_
          exact ih_27 _ _ _ _ (by have : (0 : Int32).toInt = 0 := (by decide); have := ti_nle c_9; have := ti_ne c_20; have := ti_nle c_29; have := ti_le c_30; have u1 := ti_up (i := i_26) (n := (1 + r_18)) (by omega); omega) ⟨i4_23 + 1, i5_31, i6_32, i_26 + 1, rfl, ⟨hP, hD⟩, hS, lv_sub hl [0, 2, 3, 4, 5, 6, 1, 7, 8, 9, 10] rfl, (by have : (0 : Int32).toInt = 0 := (by decide); have := ti_nle c_9; have := ti_ne c_20; have := ti_nle c_29; have := ti_le c_30; have u1 := ti_up (i := i_26) (n := (1 + r_18)) (by omega); omega)⟩
        · intro hJ_34
          refine lv_iload hx hb dX9_readHalves_106 (lv_at hl 6 rfl) ?_
          refine lv_if_le (tgt := 143) hx hb dX9_readHalves_108 (by decide) (fun c_35 => ?_) (fun c_35 => ?_)
          · refine lv_iload hx hb dX9_readHalves_143 (lv_at hl 6 rfl) ?_
            refine lv_if_le (tgt := 162) hx hb dX9_readHalves_145 (by decide) (fun c_36 => ?_) (fun c_36 => ?_)
            · exact hJ_34 _ _ _ _ ⟨i5_24, i6_25, rfl, ⟨hP, hD⟩, hS, lv_sub hl [0, 1, 2, 3, 4, 5, 6, 7, 8, 9, 10] rfl⟩
            refine lv_iload hx hb dX9_readHalves_148 (lv_at hl 4 rfl) ?_
            refine lv_iload hx hb dX9_readHalves_150 (lv_at hl 1 rfl) ?_
            refine lv_icmp_ne (tgt := 162) hx hb dX9_readHalves_152 (by decide) (fun c_37 => ?_) (fun c_37 => ?_)
            · exact hJ_34 _ _ _ _ ⟨i5_24, i6_25, rfl, ⟨hP, hD⟩, hS, lv_sub hl [0, 1, 2, 3, 4, 5, 6, 7, 8, 9, 10] rfl⟩
            refine lv_aload_n hx hb dX9_readHalves_155 rfl (lv_at hl 9 rfl) ?_
            refine lv_iload hx hb dX9_readHalves_156 (lv_at hl 3 rfl) ?_
            refine go_i (wr := [(a0, .inl (cI, 120, .inl g0)), (a1, .inl (cI, 80, .inl g1))]) (tysr := [(cI, .int)]) hP hD hS hA hK [1] [0, 2] [0] rfl rfl (by decide) (by decide) rfl (va_runV (As := [.int i_6]) (rest := []) ⟨hx, hb, hml, hown, hts⟩ (m_fault l D H.size cI h0 a0 a1 a2 a3 a4 a5 a6 a7 a8 a9 ab tk mm wm fa th se i_6 ) (cwV 1 hts gX9_readHalves_X9_fault rfl rfl rfl (by decide +kernel) ⟨Nat.le_of_ble_eq_true rfl, Nat.le_of_ble_eq_true rfl⟩) (st_preV (ci := 8) (q0 := 1) hP hD hK hNW [1] [0] rfl rfl (by decide) rfl rfl rfl rfl) rfl rfl hl.1 rfl (lv_room (Nat.le_of_ble_eq_true rfl)) dX9_readHalves_158 ⟨(Nat.le_of_ble_eq_true rfl), (Nat.le_of_ble_eq_true rfl)⟩) (fun r_38 u H locs hw hP hD hK hS => ?_)
            have hw : r_38 = -1 := hw
            subst hw
            have hP : va_P D vwCl [(a0, .inl (cI, 120, .inl g0)), (a1, .inl (cI, 80, .inl g1)), (h0, .inr (8, [.ref a0, .int tk, .ref a1, .int mm, .ref a2, .ref a3, .ref a4, .ref a5, .ref a6, .ref a7, .int wm, .int i_6, .int th, .int se, .ref a8, .ref a9, .ref ab]))] H := hP
            have hD : va_D A [(a0, .inl (cI, 120, .inl g0)), (a1, .inl (cI, 80, .inl g1)), (h0, .inr (8, [.ref a0, .int tk, .ref a1, .int mm, .ref a2, .ref a3, .ref a4, .ref a5, .ref a6, .ref a7, .int wm, .int i_6, .int th, .int se, .ref a8, .ref a9, .ref ab]))] := hD
            have hK : va_K D vwCl [(cI, .int)] s := hK
            exact ret_i hx hb hr hlocks rfl (u := i_6) trivial (hP.sub [2, 0, 1] rfl) (hK.sub [] rfl) (hD.sub [2, 0, 1] (by decide) rfl) hS (Nat.le_of_ble_eq_true rfl) (Nat.le_of_ble_eq_true rfl) dX9_readHalves_161
          refine lv_iload hx hb dX9_readHalves_111 (lv_at hl 6 rfl) ?_
          refine lv_iconst (v := 2) hx hb dX9_readHalves_113 (by decide) ?_
          refine lv_irem hx hb dX9_readHalves_114 (by decide) ?_
          refine lv_iconst (v := 1) hx hb dX9_readHalves_115 (by decide) ?_
          refine lv_icmp_ne (tgt := 143) hx hb dX9_readHalves_116 (by decide) (fun c_39 => ?_) (fun c_39 => ?_)
          · refine lv_iload hx hb dX9_readHalves_143 (lv_at hl 6 rfl) ?_
            refine lv_if_le (tgt := 162) hx hb dX9_readHalves_145 (by decide) (fun c_40 => ?_) (fun c_40 => ?_)
            · exact hJ_34 _ _ _ _ ⟨i5_24, i6_25, rfl, ⟨hP, hD⟩, hS, lv_sub hl [0, 1, 2, 3, 4, 5, 6, 7, 8, 9, 10] rfl⟩
            refine lv_iload hx hb dX9_readHalves_148 (lv_at hl 4 rfl) ?_
            refine lv_iload hx hb dX9_readHalves_150 (lv_at hl 1 rfl) ?_
            refine lv_icmp_ne (tgt := 162) hx hb dX9_readHalves_152 (by decide) (fun c_41 => ?_) (fun c_41 => ?_)
            · exact hJ_34 _ _ _ _ ⟨i5_24, i6_25, rfl, ⟨hP, hD⟩, hS, lv_sub hl [0, 1, 2, 3, 4, 5, 6, 7, 8, 9, 10] rfl⟩
            refine lv_aload_n hx hb dX9_readHalves_155 rfl (lv_at hl 9 rfl) ?_
            refine lv_iload hx hb dX9_readHalves_156 (lv_at hl 3 rfl) ?_
            refine go_i (wr := [(a0, .inl (cI, 120, .inl g0)), (a1, .inl (cI, 80, .inl g1))]) (tysr := [(cI, .int)]) hP hD hS hA hK [1] [0, 2] [0] rfl rfl (by decide) (by decide) rfl (va_runV (As := [.int i_6]) (rest := []) ⟨hx, hb, hml, hown, hts⟩ (m_fault l D H.size cI h0 a0 a1 a2 a3 a4 a5 a6 a7 a8 a9 ab tk mm wm fa th se i_6 ) (cwV 1 hts gX9_readHalves_X9_fault rfl rfl rfl (by decide +kernel) ⟨Nat.le_of_ble_eq_true rfl, Nat.le_of_ble_eq_true rfl⟩) (st_preV (ci := 8) (q0 := 1) hP hD hK hNW [1] [0] rfl rfl (by decide) rfl rfl rfl rfl) rfl rfl hl.1 rfl (lv_room (Nat.le_of_ble_eq_true rfl)) dX9_readHalves_158 ⟨(Nat.le_of_ble_eq_true rfl), (Nat.le_of_ble_eq_true rfl)⟩) (fun r_42 u H locs hw hP hD hK hS => ?_)
            have hw : r_42 = -1 := hw
            subst hw
            have hP : va_P D vwCl [(a0, .inl (cI, 120, .inl g0)), (a1, .inl (cI, 80, .inl g1)), (h0, .inr (8, [.ref a0, .int tk, .ref a1, .int mm, .ref a2, .ref a3, .ref a4, .ref a5, .ref a6, .ref a7, .int wm, .int i_6, .int th, .int se, .ref a8, .ref a9, .ref ab]))] H := hP
            have hD : va_D A [(a0, .inl (cI, 120, .inl g0)), (a1, .inl (cI, 80, .inl g1)), (h0, .inr (8, [.ref a0, .int tk, .ref a1, .int mm, .ref a2, .ref a3, .ref a4, .ref a5, .ref a6, .ref a7, .int wm, .int i_6, .int th, .int se, .ref a8, .ref a9, .ref ab]))] := hD
            have hK : va_K D vwCl [(cI, .int)] s := hK
            exact ret_i hx hb hr hlocks rfl (u := i_6) trivial (hP.sub [2, 0, 1] rfl) (hK.sub [] rfl) (hD.sub [2, 0, 1] (by decide) rfl) hS (Nat.le_of_ble_eq_true rfl) (Nat.le_of_ble_eq_true rfl) dX9_readHalves_161
          refine lv_iload hx hb dX9_readHalves_119 (lv_at hl 1 rfl) ?_
          refine lv_istore (lv' := [(6, .int q_21), (10, .int i_26), (9, .int q_21), (8, .int (1 + r_18)), (7, .int i_6), (5, .int i5_24), (4, .int i4_23), (3, .int (g1 (Int32.toNatClampNeg (10 * v + 4)))), (2, .int (g1 (Int32.toNatClampNeg (10 * v + 1)))), (0, .ref h0), (1, .int v)]) hx hb dX9_readHalves_121 hl (by decide) rfl (fun ls hl => ?_)
          refine lv_iconst (v := 2) hx hb dX9_readHalves_123 (by decide) ?_
          refine lv_iload hx hb dX9_readHalves_124 (lv_at hl 5 rfl) ?_
          refine lv_imul hx hb dX9_readHalves_126 ?_
          refine jn_S 137 (fun st9 H locs ls => ∃ (q_43 : Int32), st9 = [.int q_43, .int (2 * i5_24)] ∧ (va_P D vwCl [(a0, .inl (cI, 120, .inl g0)), (h0, .inr (8, [.ref a0, .int tk, .ref a1, .int mm, .ref a2, .ref a3, .ref a4, .ref a5, .ref a6, .ref a7, .int wm, .int fa, .int th, .int se, .ref a8, .ref a9, .ref ab])), (a1, .inl (cI, 80, .inl g1))] H ∧ va_D A [(a0, .inl (cI, 120, .inl g0)), (h0, .inr (8, [.ref a0, .int tk, .ref a1, .int mm, .ref a2, .ref a3, .ref a4, .ref a5, .ref a6, .ref a7, .int wm, .int fa, .int th, .int se, .ref a8, .ref a9, .ref ab])), (a1, .inl (cI, 80, .inl g1))]) ∧ va_S A s.heap H locs ∧ lv_has ls 11 [(6, .int q_21), (10, .int i_26), (9, .int q_21), (8, .int (1 + r_18)), (7, .int i_6), (5, .int i5_24), (4, .int i4_23), (3, .int (g1 (Int32.toNatClampNeg (10 * v + 4)))), (2, .int (g1 (Int32.toNatClampNeg (10 * v + 1)))), (0, .ref h0), (1, .int v)]) ?_ ?_
          · intro st9 H locs ls hI
            obtain ⟨q_43, rfl, ⟨hP, hD⟩, hS, hl⟩ := hI
            refine lv_iadd hx hb dX9_readHalves_137 ?_
            refine lv_istore (lv' := [(5, .int ((2 * i5_24) + q_43)), (6, .int q_21), (10, .int i_26), (9, .int q_21), (8, .int (1 + r_18)), (7, .int i_6), (4, .int i4_23), (3, .int (g1 (Int32.toNatClampNeg (10 * v + 4)))), (2, .int (g1 (Int32.toNatClampNeg (10 * v + 1)))), (0, .ref h0), (1, .int v)]) hx hb dX9_readHalves_138 hl (by decide) rfl (fun ls hl => ?_)
            refine lv_goto (tgt := 162) hx hb dX9_readHalves_140 (by decide) ?_
            exact hJ_34 _ _ _ _ ⟨(2 * i5_24) + q_43, q_21, rfl, ⟨hP, hD⟩, hS, lv_sub hl [2, 3, 4, 5, 1, 0, 6, 7, 8, 9, 10] rfl⟩
          · intro hJ_45
            refine lv_iload hx hb dX9_readHalves_127 (lv_at hl 2 rfl) ?_
            refine lv_if_eq (tgt := 136) hx hb dX9_readHalves_129 (by decide) (fun c_46 => ?_) (fun c_46 => ?_)
            · refine lv_iconst (v := 1) hx hb dX9_readHalves_136 (by decide) ?_
              exact hJ_45 _ _ _ _ ⟨1, rfl, ⟨hP, hD⟩, hS, lv_sub hl [0, 1, 2, 3, 4, 5, 6, 7, 8, 9, 10] rfl⟩
            refine lv_iconst (v := 0) hx hb dX9_readHalves_132 (by decide) ?_
            refine lv_goto (tgt := 137) hx hb dX9_readHalves_133 (by decide) ?_
            exact hJ_45 _ _ _ _ ⟨0, rfl, ⟨hP, hD⟩, hS, lv_sub hl [0, 1, 2, 3, 4, 5, 6, 7, 8, 9, 10] rfl⟩
      refine lv_aload_n hx hb dX9_readHalves_99 rfl (lv_at hl 9 rfl) ?_
      refine lv_iload hx hb dX9_readHalves_100 (lv_at hl 3 rfl) ?_
      refine go_i (wr := [(a0, .inl (cI, 120, .inl g0)), (a1, .inl (cI, 80, .inl g1))]) (tysr := [(cI, .int)]) hP hD hS hA hK [1] [0, 2] [0] rfl rfl (by decide) (by decide) rfl (va_runV (As := [.int i_6]) (rest := []) ⟨hx, hb, hml, hown, hts⟩ (m_fault l D H.size cI h0 a0 a1 a2 a3 a4 a5 a6 a7 a8 a9 ab tk mm wm fa th se i_6 ) (cwV 1 hts gX9_readHalves_X9_fault rfl rfl rfl (by decide +kernel) ⟨Nat.le_of_ble_eq_true rfl, Nat.le_of_ble_eq_true rfl⟩) (st_preV (ci := 8) (q0 := 1) hP hD hK hNW [1] [0] rfl rfl (by decide) rfl rfl rfl rfl) rfl rfl hl.1 rfl (lv_room (Nat.le_of_ble_eq_true rfl)) dX9_readHalves_102 ⟨(Nat.le_of_ble_eq_true rfl), (Nat.le_of_ble_eq_true rfl)⟩) (fun r_47 u H locs hw hP hD hK hS => ?_)
      have hw : r_47 = -1 := hw
      subst hw
      have hP : va_P D vwCl [(a0, .inl (cI, 120, .inl g0)), (a1, .inl (cI, 80, .inl g1)), (h0, .inr (8, [.ref a0, .int tk, .ref a1, .int mm, .ref a2, .ref a3, .ref a4, .ref a5, .ref a6, .ref a7, .int wm, .int i_6, .int th, .int se, .ref a8, .ref a9, .ref ab]))] H := hP
      have hD : va_D A [(a0, .inl (cI, 120, .inl g0)), (a1, .inl (cI, 80, .inl g1)), (h0, .inr (8, [.ref a0, .int tk, .ref a1, .int mm, .ref a2, .ref a3, .ref a4, .ref a5, .ref a6, .ref a7, .int wm, .int i_6, .int th, .int se, .ref a8, .ref a9, .ref ab]))] := hD
      have hK : va_K D vwCl [(cI, .int)] s := hK
      exact ret_i hx hb hr hlocks rfl (u := i_6) trivial (hP.sub [2, 0, 1] rfl) (hK.sub [] rfl) (hD.sub [2, 0, 1] (by decide) rfl) hS (Nat.le_of_ble_eq_true rfl) (Nat.le_of_ble_eq_true rfl) dX9_readHalves_105
    · intro hJ_48
      refine lv_iload hx hb dX9_readHalves_67 (lv_at hl 1 rfl) ?_
      refine lv_iconst (v := 2) hx hb dX9_readHalves_69 (by decide) ?_
      refine lv_irem hx hb dX9_readHalves_70 (by decide) ?_
      refine lv_if_ne (tgt := 78) hx hb dX9_readHalves_71 (by decide) (fun c_49 => ?_) (fun c_49 => ?_)
      · refine lv_iconst (v := 0) hx hb dX9_readHalves_78 (by decide) ?_
        exact hJ_48 _ _ _ _ ⟨0, rfl, ⟨hP, hD⟩, hS, lv_sub hl [0, 1, 2, 3, 4, 5, 6, 7, 8] rfl⟩
      refine lv_iconst (v := 1) hx hb dX9_readHalves_74 (by decide) ?_
      refine lv_goto (tgt := 79) hx hb dX9_readHalves_75 (by decide) ?_
      exact hJ_48 _ _ _ _ ⟨1, rfl, ⟨hP, hD⟩, hS, lv_sub hl [0, 1, 2, 3, 4, 5, 6, 7, 8] rfl⟩
  refine lv_aload_n hx hb dX9_readHalves_60 rfl (lv_at hl 7 rfl) ?_
  refine lv_iload hx hb dX9_readHalves_61 (lv_at hl 1 rfl) ?_
  refine go_i (wr := [(a0, .inl (cI, 120, .inl g0)), (a1, .inl (cI, 80, .inl g1))]) (tysr := [(cI, .int)]) hP hD hS hA hK [1] [0, 2] [0] rfl rfl (by decide) (by decide) rfl (va_runV (As := [.int i_6]) (rest := []) ⟨hx, hb, hml, hown, hts⟩ (m_fault l D H.size cI h0 a0 a1 a2 a3 a4 a5 a6 a7 a8 a9 ab tk mm wm fa th se i_6 ) (cwV 1 hts gX9_readHalves_X9_fault rfl rfl rfl (by decide +kernel) ⟨Nat.le_of_ble_eq_true rfl, Nat.le_of_ble_eq_true rfl⟩) (st_preV (ci := 8) (q0 := 1) hP hD hK hNW [1] [0] rfl rfl (by decide) rfl rfl rfl rfl) rfl rfl hl.1 rfl (lv_room (Nat.le_of_ble_eq_true rfl)) dX9_readHalves_63 ⟨(Nat.le_of_ble_eq_true rfl), (Nat.le_of_ble_eq_true rfl)⟩) (fun r_50 u H locs hw hP hD hK hS => ?_)
  have hw : r_50 = -1 := hw
  subst hw
  have hP : va_P D vwCl [(a0, .inl (cI, 120, .inl g0)), (a1, .inl (cI, 80, .inl g1)), (h0, .inr (8, [.ref a0, .int tk, .ref a1, .int mm, .ref a2, .ref a3, .ref a4, .ref a5, .ref a6, .ref a7, .int wm, .int i_6, .int th, .int se, .ref a8, .ref a9, .ref ab]))] H := hP
  have hD : va_D A [(a0, .inl (cI, 120, .inl g0)), (a1, .inl (cI, 80, .inl g1)), (h0, .inr (8, [.ref a0, .int tk, .ref a1, .int mm, .ref a2, .ref a3, .ref a4, .ref a5, .ref a6, .ref a7, .int wm, .int i_6, .int th, .int se, .ref a8, .ref a9, .ref ab]))] := hD
  have hK : va_K D vwCl [(cI, .int)] s := hK
  exact ret_i hx hb hr hlocks rfl (u := i_6) trivial (hP.sub [2, 0, 1] rfl) (hK.sub [] rfl) (hD.sub [2, 0, 1] (by decide) rfl) hS (Nat.le_of_ble_eq_true rfl) (Nat.le_of_ble_eq_true rfl) dX9_readHalves_66
set_option maxHeartbeats 4000000 in
set_option maxRecDepth 100000 in
theorem m_readBy (l : Launch) (D : va_G) (sz : Nat) (cI : ClassId) (h0 : Nat) (a0 : Nat) (a1 : Nat) (a2 : Nat) (a3 : Nat) (a4 : Nat) (a5 : Nat) (a6 : Nat) (a7 : Nat) (a8 : Nat) (a9 : Nat) (ab : Nat) (tk : Int32) (mm : Int32) (wm : Int32) (fa : Int32) (th : Int32) (se : Int32) (g0 : Nat → Int32) (g1 : Nat → Int32) (v : Int32) (hk : bi tk 0 120) (hv : bi v 0 7) : Ci l yX9_readBy wsX9_readBy ({ frames := 5, cells := 0, slots := 0, locals := 121 } : Room) D [.ref h0, .int v] [(h0, .inr (8, [.ref a0, .int tk, .ref a1, .int mm, .ref a2, .ref a3, .ref a4, .ref a5, .ref a6, .ref a7, .int wm, .int fa, .int th, .int se, .ref a8, .ref a9, .ref ab])), (a0, .inl (cI, 120, .inl g0)), (a1, .inl (cI, 80, .inl g1))] [(cI, .int)] sz (fun (r : Int32) => fun (fa2 : Int32) => True) (fun (fa2 : Int32) => [(h0, .inr (8, [.ref a0, .int tk, .ref a1, .int mm, .ref a2, .ref a3, .ref a4, .ref a5, .ref a6, .ref a7, .int wm, .int fa2, .int th, .int se, .ref a8, .ref a9, .ref ab])), (a0, .inl (cI, 120, .inl g0)), (a1, .inl (cI, 80, .inl g1))]) (fun (fa2 : Int32) => []) := by
  refine ct_i (cc := cX9_readBy) (maxL := 2) (ret := (some .int)) (by decide) rfl (Nat.le_of_ble_eq_true rfl) ?_
  intro p e s m below meth c A ls H hx hb hr hts hown hml hlocks hin hA hS hP hK hD hNW hl hAe hsz
  have hl : lv_has ls 2 [(0, .ref h0), (1, .int v)] := hl
  refine lv_aload_n hx hb dX9_readBy_0 rfl (lv_at hl 0 rfl) ?_
  refine lv_iload_n hx hb dX9_readBy_1 rfl (lv_at hl 1 rfl) ?_
  refine lv_iconst (v := 0) hx hb dX9_readBy_2 (by decide) ?_
  refine go_i (wr := [(a0, .inl (cI, 120, .inl g0))]) (tysr := [(cI, .int)]) hP hD hS hA hK [0, 2] [1] [0] rfl rfl (by decide) (by decide) rfl (va_runV (As := [.int v, .int 0]) (rest := []) ⟨hx, hb, hml, hown, hts⟩ (m_get l D H.size cI h0 a0 a1 a2 a3 a4 a5 a6 a7 a8 a9 ab tk mm wm fa th se g1 v 0 (by first | assumption | decide | omega) (by first | assumption | decide | omega)) (cwV 2 hts gX9_readBy_X9_get rfl rfl rfl (by decide +kernel) ⟨Nat.le_of_ble_eq_true rfl, Nat.le_of_ble_eq_true rfl⟩) (st_preV (ci := 8) (q0 := 0) hP hD hK hNW [0, 2] [0] rfl rfl (by decide) rfl rfl rfl rfl) rfl rfl hl.1 rfl (lv_room (Nat.le_of_ble_eq_true rfl)) dX9_readBy_3 ⟨(Nat.le_of_ble_eq_true rfl), (Nat.le_of_ble_eq_true rfl)⟩) (fun r_1 u H locs hw hP hD hK hS => ?_)
  have hw : r_1 = g1 (Int32.toNatClampNeg (10 * v + 0)) := hw
  subst hw
  have hP : va_P D vwCl [(a0, .inl (cI, 120, .inl g0)), (h0, .inr (8, [.ref a0, .int tk, .ref a1, .int mm, .ref a2, .ref a3, .ref a4, .ref a5, .ref a6, .ref a7, .int wm, .int fa, .int th, .int se, .ref a8, .ref a9, .ref ab])), (a1, .inl (cI, 80, .inl g1))] H := hP
  have hD : va_D A [(a0, .inl (cI, 120, .inl g0)), (h0, .inr (8, [.ref a0, .int tk, .ref a1, .int mm, .ref a2, .ref a3, .ref a4, .ref a5, .ref a6, .ref a7, .int wm, .int fa, .int th, .int se, .ref a8, .ref a9, .ref ab])), (a1, .inl (cI, 80, .inl g1))] := hD
  have hK : va_K D vwCl [(cI, .int)] s := hK
  refine lv_iconst (v := 2) hx hb dX9_readBy_6 (by decide) ?_
  refine lv_icmp_ne (tgt := 18) hx hb dX9_readBy_7 (by decide) (fun c_2 => ?_) (fun c_2 => ?_)
  · refine lv_aload_n hx hb dX9_readBy_18 rfl (lv_at hl 0 rfl) ?_
    refine lv_iload_n hx hb dX9_readBy_19 rfl (lv_at hl 1 rfl) ?_
    refine go_i (wr := []) (tysr := [(cI, .int)]) hP hD hS hA hK [1, 0, 2] [] [0] rfl rfl (by decide) (by decide) rfl (va_runV (As := [.int v]) (rest := []) ⟨hx, hb, hml, hown, hts⟩ (m_readBits l D H.size cI h0 a0 a1 a2 a3 a4 a5 a6 a7 a8 a9 ab tk mm wm fa th se g0 g1 v (by first | assumption | decide | omega) (by first | assumption | decide | omega)) (cwV 1 hts gX9_readBy_X9_readBits rfl rfl rfl (by decide +kernel) ⟨Nat.le_of_ble_eq_true rfl, Nat.le_of_ble_eq_true rfl⟩) (st_preV (ci := 8) (q0 := 1) hP hD hK hNW [1, 0, 2] [0] rfl rfl (by decide) rfl rfl rfl rfl) rfl rfl hl.1 rfl (lv_room (Nat.le_of_ble_eq_true rfl)) dX9_readBy_20 ⟨(Nat.le_of_ble_eq_true rfl), (Nat.le_of_ble_eq_true rfl)⟩) (fun r_3 u H locs hw hP hD hK hS => ?_)
    obtain ⟨fa_4, rfl⟩ : ∃ z, z = u := ⟨_, rfl⟩
    have hP : va_P D vwCl [(h0, .inr (8, [.ref a0, .int tk, .ref a1, .int mm, .ref a2, .ref a3, .ref a4, .ref a5, .ref a6, .ref a7, .int wm, .int fa_4, .int th, .int se, .ref a8, .ref a9, .ref ab])), (a0, .inl (cI, 120, .inl g0)), (a1, .inl (cI, 80, .inl g1))] H := hP
    have hD : va_D A [(h0, .inr (8, [.ref a0, .int tk, .ref a1, .int mm, .ref a2, .ref a3, .ref a4, .ref a5, .ref a6, .ref a7, .int wm, .int fa_4, .int th, .int se, .ref a8, .ref a9, .ref ab])), (a0, .inl (cI, 120, .inl g0)), (a1, .inl (cI, 80, .inl g1))] := hD
    have hK : va_K D vwCl [(cI, .int)] s := hK
    exact ret_i hx hb hr hlocks rfl (u := fa_4) trivial (hP.sub [0, 1, 2] rfl) (hK.sub [] rfl) (hD.sub [0, 1, 2] (by decide) rfl) hS (Nat.le_of_ble_eq_true rfl) (Nat.le_of_ble_eq_true rfl) dX9_readBy_23
  refine lv_aload_n hx hb dX9_readBy_10 rfl (lv_at hl 0 rfl) ?_
  refine lv_iload_n hx hb dX9_readBy_11 rfl (lv_at hl 1 rfl) ?_
  refine go_i (wr := []) (tysr := [(cI, .int)]) hP hD hS hA hK [1, 0, 2] [] [0] rfl rfl (by decide) (by decide) rfl (va_runV (As := [.int v]) (rest := []) ⟨hx, hb, hml, hown, hts⟩ (m_readHalves l D H.size cI h0 a0 a1 a2 a3 a4 a5 a6 a7 a8 a9 ab tk mm wm fa th se g0 g1 v (by first | assumption | decide | omega) (by first | assumption | decide | omega)) (cwV 1 hts gX9_readBy_X9_readHalves rfl rfl rfl (by decide +kernel) ⟨Nat.le_of_ble_eq_true rfl, Nat.le_of_ble_eq_true rfl⟩) (st_preV (ci := 8) (q0 := 1) hP hD hK hNW [1, 0, 2] [0] rfl rfl (by decide) rfl rfl rfl rfl) rfl rfl hl.1 rfl (lv_room (Nat.le_of_ble_eq_true rfl)) dX9_readBy_12 ⟨(Nat.le_of_ble_eq_true rfl), (Nat.le_of_ble_eq_true rfl)⟩) (fun r_5 u H locs hw hP hD hK hS => ?_)
  obtain ⟨fa_6, rfl⟩ : ∃ z, z = u := ⟨_, rfl⟩
  have hP : va_P D vwCl [(h0, .inr (8, [.ref a0, .int tk, .ref a1, .int mm, .ref a2, .ref a3, .ref a4, .ref a5, .ref a6, .ref a7, .int wm, .int fa_6, .int th, .int se, .ref a8, .ref a9, .ref ab])), (a0, .inl (cI, 120, .inl g0)), (a1, .inl (cI, 80, .inl g1))] H := hP
  have hD : va_D A [(h0, .inr (8, [.ref a0, .int tk, .ref a1, .int mm, .ref a2, .ref a3, .ref a4, .ref a5, .ref a6, .ref a7, .int wm, .int fa_6, .int th, .int se, .ref a8, .ref a9, .ref ab])), (a0, .inl (cI, 120, .inl g0)), (a1, .inl (cI, 80, .inl g1))] := hD
  have hK : va_K D vwCl [(cI, .int)] s := hK
  refine lv_goto (tgt := 23) hx hb dX9_readBy_15 (by decide) ?_
  exact ret_i hx hb hr hlocks rfl (u := fa_6) trivial (hP.sub [0, 1, 2] rfl) (hK.sub [] rfl) (hD.sub [0, 1, 2] (by decide) rfl) hS (Nat.le_of_ble_eq_true rfl) (Nat.le_of_ble_eq_true rfl) dX9_readBy_23
theorem him_read_X9 : ∀ w ∈ wsX90, w ∈ wsX9_read := mem_pl [50, 51, 52, 53, 54, 55, 56, 57, 58, 59, 60, 61, 62, 63, 64, 65, 66] rfl
set_option maxHeartbeats 4000000 in
set_option maxRecDepth 100000 in
theorem m_read (l : Launch) (D : va_G) (sz : Nat) (cI : ClassId) (h0 : Nat) (a0 : Nat) (a1 : Nat) (a2 : Nat) (a3 : Nat) (a4 : Nat) (a5 : Nat) (a6 : Nat) (a7 : Nat) (a8 : Nat) (a9 : Nat) (ab : Nat) (tk : Int32) (mm : Int32) (wm : Int32) (fa : Int32) (th : Int32) (se : Int32) (g0 : Nat → Int32) (g1 : Nat → Int32) (v : Int32) (hk : bi tk 0 120) (hmm : bi mm 0 8) : Ci l yX9_read wsX9_read ({ frames := 6, cells := 0, slots := 0, locals := 142 } : Room) D [.ref h0, .int v] [(h0, .inr (8, [.ref a0, .int tk, .ref a1, .int mm, .ref a2, .ref a3, .ref a4, .ref a5, .ref a6, .ref a7, .int wm, .int fa, .int th, .int se, .ref a8, .ref a9, .ref ab])), (a0, .inl (cI, 120, .inl g0)), (a1, .inl (cI, 80, .inl g1))] [(cI, .int)] sz (fun (r : Int32) => fun (u9 : Int32 × Int32) => match u9 with | (fa2, th2) => True) (fun (u9 : Int32 × Int32) => match u9 with | (fa2, th2) => [(h0, .inr (8, [.ref a0, .int tk, .ref a1, .int mm, .ref a2, .ref a3, .ref a4, .ref a5, .ref a6, .ref a7, .int wm, .int fa2, .int th2, .int se, .ref a8, .ref a9, .ref ab])), (a0, .inl (cI, 120, .inl g0)), (a1, .inl (cI, 80, .inl g1))]) (fun (u9 : Int32 × Int32) => match u9 with | (fa2, th2) => []) := by
  refine ct_i (cc := cX9_read) (maxL := 3) (ret := (some .int)) (by decide) rfl (Nat.le_of_ble_eq_true rfl) ?_
  intro p e s m below meth c A ls H hx hb hr hts hown hml hlocks hin hA hS hP hK hD hNW hl hAe hsz
  have hl : lv_has ls 3 [(0, .ref h0), (1, .int v)] := hl
  refine lv_aload_n hx hb dX9_read_0 rfl (lv_at hl 0 rfl) ?_
  refine lv_iconst (v := 0) hx hb dX9_read_1 (by decide) ?_
  refine va_put (D := D) (ci := 8) (v := .int 0) (ty := .int) (C := RX9) (T := TX9) (N := 17) hx hb hts him_read_X9 tyX9 tyX9_ok nmX9 hown hK hP hD hS 0 rfl rfl 12 (by decide) (hts (.fieldLink RX9 43 "OneHandsetModel" "thrown" "I") (List.mem_of_getElem? (i := 1) rfl)) (fun _ h9 => h9) rfl (by decide +kernel) rfl rfl (Nat.le_of_ble_eq_true rfl) dX9_read_2 (fun H locs hP hD hS => ?_)
  have hP : va_P D vwCl [(h0, .inr (8, [.ref a0, .int tk, .ref a1, .int mm, .ref a2, .ref a3, .ref a4, .ref a5, .ref a6, .ref a7, .int wm, .int fa, .int 0, .int se, .ref a8, .ref a9, .ref ab])), (a0, .inl (cI, 120, .inl g0)), (a1, .inl (cI, 80, .inl g1))] H := hP
  have hD : va_D A [(h0, .inr (8, [.ref a0, .int tk, .ref a1, .int mm, .ref a2, .ref a3, .ref a4, .ref a5, .ref a6, .ref a7, .int wm, .int fa, .int 0, .int se, .ref a8, .ref a9, .ref ab])), (a0, .inl (cI, 120, .inl g0)), (a1, .inl (cI, 80, .inl g1))] := hD
  refine lv_aload_n hx hb dX9_read_5 rfl (lv_at hl 0 rfl) ?_
  refine lv_iload_n hx hb dX9_read_6 rfl (lv_at hl 1 rfl) ?_
  refine go_i (wr := [(a0, .inl (cI, 120, .inl g0)), (a1, .inl (cI, 80, .inl g1))]) (tysr := [(cI, .int)]) hP hD hS hA hK [0] [1, 2] [0] rfl rfl (by decide) (by decide) rfl (va_runV (As := [.int v]) (rest := []) ⟨hx, hb, hml, hown, hts⟩ (m_isMake l D H.size cI h0 a0 a1 a2 a3 a4 a5 a6 a7 a8 a9 ab tk mm wm fa 0 se v ) (cwV 1 hts gX9_read_X9_isMake rfl rfl rfl (by decide +kernel) ⟨Nat.le_of_ble_eq_true rfl, Nat.le_of_ble_eq_true rfl⟩) (st_preV (ci := 8) (q0 := 0) hP hD hK hNW [0] [0] rfl rfl (by decide) rfl rfl rfl rfl) rfl rfl hl.1 rfl (lv_room (Nat.le_of_ble_eq_true rfl)) dX9_read_7 ⟨(Nat.le_of_ble_eq_true rfl), (Nat.le_of_ble_eq_true rfl)⟩) (fun r_1 u H locs hw hP hD hK hS => ?_)
  have hw : r_1 = wi v 0 (mm - 1) := hw
  subst hw
  have hP : va_P D vwCl [(a0, .inl (cI, 120, .inl g0)), (a1, .inl (cI, 80, .inl g1)), (h0, .inr (8, [.ref a0, .int tk, .ref a1, .int mm, .ref a2, .ref a3, .ref a4, .ref a5, .ref a6, .ref a7, .int wm, .int fa, .int 0, .int se, .ref a8, .ref a9, .ref ab]))] H := hP
  have hD : va_D A [(a0, .inl (cI, 120, .inl g0)), (a1, .inl (cI, 80, .inl g1)), (h0, .inr (8, [.ref a0, .int tk, .ref a1, .int mm, .ref a2, .ref a3, .ref a4, .ref a5, .ref a6, .ref a7, .int wm, .int fa, .int 0, .int se, .ref a8, .ref a9, .ref ab]))] := hD
  have hK : va_K D vwCl [(cI, .int)] s := hK
  refine lv_if_ne (tgt := 15) hx hb dX9_read_10 (by decide) (fun c_2 => ?_) (fun c_2 => ?_)
  · have hv7_3 : bi v 0 7 := (by have : (0 : Int32).toInt = 0 := (by decide); have := ti_wi1 c_2; have u1 := ti_m1 (i := mm) (by omega); omega)
    have hvm_4 : v.toInt < mm.toInt := (by have : (0 : Int32).toInt = 0 := (by decide); have := ti_wi1 c_2; have u1 := ti_m1 (i := mm) (by omega); omega)
    refine lv_aload_n hx hb dX9_read_15 rfl (lv_at hl 0 rfl) ?_
    refine lv_iload_n hx hb dX9_read_16 rfl (lv_at hl 1 rfl) ?_
    refine go_i (wr := []) (tysr := [(cI, .int)]) hP hD hS hA hK [2, 0, 1] [] [0] rfl rfl (by decide) (by decide) rfl (va_runV (As := [.int v]) (rest := []) ⟨hx, hb, hml, hown, hts⟩ (m_readBy l D H.size cI h0 a0 a1 a2 a3 a4 a5 a6 a7 a8 a9 ab tk mm wm fa 0 se g0 g1 v (by first | assumption | decide | omega) (by first | assumption | decide | omega)) (cwV 1 hts gX9_read_X9_readBy rfl rfl rfl (by decide +kernel) ⟨Nat.le_of_ble_eq_true rfl, Nat.le_of_ble_eq_true rfl⟩) (st_preV (ci := 8) (q0 := 2) hP hD hK hNW [2, 0, 1] [0] rfl rfl (by decide) rfl rfl rfl rfl) rfl rfl hl.1 rfl (lv_room (Nat.le_of_ble_eq_true rfl)) dX9_read_17 ⟨(Nat.le_of_ble_eq_true rfl), (Nat.le_of_ble_eq_true rfl)⟩) (fun r_5 u H locs hw hP hD hK hS => ?_)
    obtain ⟨fa_6, rfl⟩ : ∃ z, z = u := ⟨_, rfl⟩
    have hP : va_P D vwCl [(h0, .inr (8, [.ref a0, .int tk, .ref a1, .int mm, .ref a2, .ref a3, .ref a4, .ref a5, .ref a6, .ref a7, .int wm, .int fa_6, .int 0, .int se, .ref a8, .ref a9, .ref ab])), (a0, .inl (cI, 120, .inl g0)), (a1, .inl (cI, 80, .inl g1))] H := hP
    have hD : va_D A [(h0, .inr (8, [.ref a0, .int tk, .ref a1, .int mm, .ref a2, .ref a3, .ref a4, .ref a5, .ref a6, .ref a7, .int wm, .int fa_6, .int 0, .int se, .ref a8, .ref a9, .ref ab])), (a0, .inl (cI, 120, .inl g0)), (a1, .inl (cI, 80, .inl g1))] := hD
    have hK : va_K D vwCl [(cI, .int)] s := hK
    refine lv_istore_n (lv' := [(2, .int r_5), (0, .ref h0), (1, .int v)]) hx hb dX9_read_20 rfl hl (by decide) rfl (fun ls hl => ?_)
    refine lv_iload_n hx hb dX9_read_21 rfl (lv_at hl 0 rfl) ?_
    refine lv_iconst (v := (-1)) hx hb dX9_read_22 (by decide) ?_
    refine lv_icmp_ne (tgt := 36) hx hb dX9_read_23 (by decide) (fun c_7 => ?_) (fun c_7 => ?_)
    · refine lv_iload_n hx hb dX9_read_36 rfl (lv_at hl 0 rfl) ?_
      exact ret_i hx hb hr hlocks rfl (u := (fa_6, 0)) trivial (hP.sub [0, 1, 2] rfl) (hK.sub [] rfl) (hD.sub [0, 1, 2] (by decide) rfl) hS (Nat.le_of_ble_eq_true rfl) (Nat.le_of_ble_eq_true rfl) dX9_read_37
    refine lv_bipush (v := (-2)) hx hb dX9_read_26 (by decide) ?_
    refine lv_aload_n hx hb dX9_read_28 rfl (lv_at hl 1 rfl) ?_
    refine va_get (D := D) (ci := 8) (v := .int fa_6) (C := RX9) (T := TX9) (N := 17) hx hb hts him_read_X9 hown hK hP 0 rfl rfl 11 (by decide) (hts (.fieldLink RX9 92 "OneHandsetModel" "faultAt" "I") (List.mem_of_getElem? (i := 2) rfl)) (fun _ h9 => h9) rfl dX9_read_29 ?_
    refine lv_isub hx hb dX9_read_32 ?_
    refine lv_goto (tgt := 37) hx hb dX9_read_33 (by decide) ?_
    exact ret_i hx hb hr hlocks rfl (u := (fa_6, 0)) trivial (hP.sub [0, 1, 2] rfl) (hK.sub [] rfl) (hD.sub [0, 1, 2] (by decide) rfl) hS (Nat.le_of_ble_eq_true rfl) (Nat.le_of_ble_eq_true rfl) dX9_read_37
  refine lv_iconst (v := (-1)) hx hb dX9_read_13 (by decide) ?_
  exact ret_i hx hb hr hlocks rfl (u := (fa, 0)) trivial (hP.sub [2, 0, 1] rfl) (hK.sub [] rfl) (hD.sub [2, 0, 1] (by decide) rfl) hS (Nat.le_of_ble_eq_true rfl) (Nat.le_of_ble_eq_true rfl) dX9_read_14
theorem him_which__X9 : ∀ w ∈ wsX90, w ∈ wsX9_which_ := mem_pl [46, 47, 48, 49, 50, 51, 52, 53, 54, 55, 56, 57, 58, 59, 60, 61, 62] rfl
set_option maxHeartbeats 4000000 in
set_option maxRecDepth 100000 in
theorem m_which_ (l : Launch) (D : va_G) (sz : Nat) (cI : ClassId) (h0 : Nat) (a0 : Nat) (a1 : Nat) (a2 : Nat) (a3 : Nat) (a4 : Nat) (a5 : Nat) (a6 : Nat) (a7 : Nat) (a8 : Nat) (a9 : Nat) (ab : Nat) (tk : Int32) (mm : Int32) (wm : Int32) (fa : Int32) (th : Int32) (se : Int32) (g0 : Nat → Int32) (g1 : Nat → Int32) (hk : bi tk 0 120) (hmm : bi mm 0 8) : Ci l yX9_which_ wsX9_which_ ({ frames := 6, cells := 0, slots := 0, locals := 142 } : Room) D [.ref h0] [(h0, .inr (8, [.ref a0, .int tk, .ref a1, .int mm, .ref a2, .ref a3, .ref a4, .ref a5, .ref a6, .ref a7, .int wm, .int fa, .int th, .int se, .ref a8, .ref a9, .ref ab])), (a0, .inl (cI, 120, .inl g0)), (a1, .inl (cI, 80, .inl g1))] [(cI, .int)] sz (fun (r : Int32) => fun (u9 : Int32 × Int32) => match u9 with | (fa2, th2) => True) (fun (u9 : Int32 × Int32) => match u9 with | (fa2, th2) => [(h0, .inr (8, [.ref a0, .int tk, .ref a1, .int mm, .ref a2, .ref a3, .ref a4, .ref a5, .ref a6, .ref a7, .int wm, .int fa2, .int th2, .int se, .ref a8, .ref a9, .ref ab])), (a0, .inl (cI, 120, .inl g0)), (a1, .inl (cI, 80, .inl g1))]) (fun (u9 : Int32 × Int32) => match u9 with | (fa2, th2) => []) := by
  refine ct_i (cc := cX9_which_) (maxL := 3) (ret := (some .int)) (by decide) rfl (Nat.le_of_ble_eq_true rfl) ?_
  intro p e s m below meth c A ls H hx hb hr hts hown hml hlocks hin hA hS hP hK hD hNW hl hAe hsz
  have hl : lv_has ls 3 [(0, .ref h0)] := hl
  refine lv_aload_n hx hb dX9_which__0 rfl (lv_at hl 0 rfl) ?_
  refine lv_iconst (v := 0) hx hb dX9_which__1 (by decide) ?_
  refine va_put (D := D) (ci := 8) (v := .int 0) (ty := .int) (C := RX9) (T := TX9) (N := 17) hx hb hts him_which__X9 tyX9 tyX9_ok nmX9 hown hK hP hD hS 0 rfl rfl 12 (by decide) (hts (.fieldLink RX9 43 "OneHandsetModel" "thrown" "I") (List.mem_of_getElem? (i := 1) rfl)) (fun _ h9 => h9) rfl (by decide +kernel) rfl rfl (Nat.le_of_ble_eq_true rfl) dX9_which__2 (fun H locs hP hD hS => ?_)
  have hP : va_P D vwCl [(h0, .inr (8, [.ref a0, .int tk, .ref a1, .int mm, .ref a2, .ref a3, .ref a4, .ref a5, .ref a6, .ref a7, .int wm, .int fa, .int 0, .int se, .ref a8, .ref a9, .ref ab])), (a0, .inl (cI, 120, .inl g0)), (a1, .inl (cI, 80, .inl g1))] H := hP
  have hD : va_D A [(h0, .inr (8, [.ref a0, .int tk, .ref a1, .int mm, .ref a2, .ref a3, .ref a4, .ref a5, .ref a6, .ref a7, .int wm, .int fa, .int 0, .int se, .ref a8, .ref a9, .ref ab])), (a0, .inl (cI, 120, .inl g0)), (a1, .inl (cI, 80, .inl g1))] := hD
  refine lv_iconst (v := 0) hx hb dX9_which__5 (by decide) ?_
  refine lv_istore_n (lv' := [(1, .int 0), (0, .ref h0)]) hx hb dX9_which__6 rfl hl (by decide) rfl (fun ls hl => ?_)
  refine lv_iconst (v := 0) hx hb dX9_which__7 (by decide) ?_
  refine lv_istore_n (lv' := [(2, .int 0), (1, .int 0), (0, .ref h0)]) hx hb dX9_which__8 rfl hl (by decide) rfl (fun ls hl => ?_)
  refine lp_N (fun n9 H locs ls => ∃ (z_1 : Int32), ∃ (i1_2 : Int32), ∃ (i_3 : Int32), n9 = (mm.toInt - i_3.toInt).toNat ∧ (va_P D vwCl [(h0, .inr (8, [.ref a0, .int tk, .ref a1, .int mm, .ref a2, .ref a3, .ref a4, .ref a5, .ref a6, .ref a7, .int wm, .int z_1, .int 0, .int se, .ref a8, .ref a9, .ref ab])), (a0, .inl (cI, 120, .inl g0)), (a1, .inl (cI, 80, .inl g1))] H ∧ va_D A [(h0, .inr (8, [.ref a0, .int tk, .ref a1, .int mm, .ref a2, .ref a3, .ref a4, .ref a5, .ref a6, .ref a7, .int wm, .int z_1, .int 0, .int se, .ref a8, .ref a9, .ref ab])), (a0, .inl (cI, 120, .inl g0)), (a1, .inl (cI, 80, .inl g1))]) ∧ va_S A s.heap H locs ∧ lv_has ls 3 [(2, .int i_3), (1, .int i1_2), (0, .ref h0)] ∧ (0 ≤ i_3.toInt)) ?_ ⟨fa, 0, 0, rfl, ⟨hP, hD⟩, hS, hl, (by decide)⟩
  intro n9 ih_4 H locs ls hI
  obtain ⟨z_1, i1_2, i_3, rfl, ⟨hP, hD⟩, hS, hl, hv_5⟩ := hI
  refine lv_iload_n hx hb dX9_which__9 rfl (lv_at hl 0 rfl) ?_
  refine lv_aload_n hx hb dX9_which__10 rfl (lv_at hl 2 rfl) ?_
  refine va_get (D := D) (ci := 8) (v := .int mm) (C := RX9) (T := TX9) (N := 17) hx hb hts him_which__X9 hown hK hP 0 rfl rfl 3 (by decide) (hts (.fieldLink RX9 47 "OneHandsetModel" "makeMany" "I") (List.mem_of_getElem? (i := 2) rfl)) (fun _ h9 => h9) rfl dX9_which__11 ?_
  refine lv_icmp_ge (tgt := 38) hx hb dX9_which__14 (by decide) (fun c_6 => ?_) (fun c_6 => ?_)
  · refine lv_iload_n hx hb dX9_which__38 rfl (lv_at hl 1 rfl) ?_
    exact ret_i hx hb hr hlocks rfl (u := (z_1, 0)) trivial (hP.sub [0, 1, 2] rfl) (hK.sub [] rfl) (hD.sub [0, 1, 2] (by decide) rfl) hS (Nat.le_of_ble_eq_true rfl) (Nat.le_of_ble_eq_true rfl) dX9_which__39
  refine lv_aload_n hx hb dX9_which__17 rfl (lv_at hl 2 rfl) ?_
  refine lv_iload_n hx hb dX9_which__18 rfl (lv_at hl 0 rfl) ?_
  refine go_i (wr := []) (tysr := [(cI, .int)]) hP hD hS hA hK [0, 1, 2] [] [0] rfl rfl (by decide) (by decide) rfl (va_runV (As := [.int i_3]) (rest := []) ⟨hx, hb, hml, hown, hts⟩ (m_readBy l D H.size cI h0 a0 a1 a2 a3 a4 a5 a6 a7 a8 a9 ab tk mm wm z_1 0 se g0 g1 i_3 hk (by have := ti_nle c_6; omega)) (cwV 1 hts gX9_which__X9_readBy rfl rfl rfl (by decide +kernel) ⟨Nat.le_of_ble_eq_true rfl, Nat.le_of_ble_eq_true rfl⟩) (st_preV (ci := 8) (q0 := 0) hP hD hK hNW [0, 1, 2] [0] rfl rfl (by decide) rfl rfl rfl rfl) rfl rfl hl.1 rfl (lv_room (Nat.le_of_ble_eq_true rfl)) dX9_which__19 ⟨(Nat.le_of_ble_eq_true rfl), (Nat.le_of_ble_eq_true rfl)⟩) (fun r_7 u H locs hw hP hD hK hS => ?_)
  obtain ⟨fa_8, rfl⟩ : ∃ z, z = u := ⟨_, rfl⟩
  have hP : va_P D vwCl [(h0, .inr (8, [.ref a0, .int tk, .ref a1, .int mm, .ref a2, .ref a3, .ref a4, .ref a5, .ref a6, .ref a7, .int wm, .int fa_8, .int 0, .int se, .ref a8, .ref a9, .ref ab])), (a0, .inl (cI, 120, .inl g0)), (a1, .inl (cI, 80, .inl g1))] H := hP
  have hD : va_D A [(h0, .inr (8, [.ref a0, .int tk, .ref a1, .int mm, .ref a2, .ref a3, .ref a4, .ref a5, .ref a6, .ref a7, .int wm, .int fa_8, .int 0, .int se, .ref a8, .ref a9, .ref ab])), (a0, .inl (cI, 120, .inl g0)), (a1, .inl (cI, 80, .inl g1))] := hD
  have hK : va_K D vwCl [(cI, .int)] s := hK
  refine jn_S 32 (fun st9 H locs ls => ∃ (i1_9 : Int32), st9 = [] ∧ (va_P D vwCl [(h0, .inr (8, [.ref a0, .int tk, .ref a1, .int mm, .ref a2, .ref a3, .ref a4, .ref a5, .ref a6, .ref a7, .int wm, .int fa_8, .int 0, .int se, .ref a8, .ref a9, .ref ab])), (a0, .inl (cI, 120, .inl g0)), (a1, .inl (cI, 80, .inl g1))] H ∧ va_D A [(h0, .inr (8, [.ref a0, .int tk, .ref a1, .int mm, .ref a2, .ref a3, .ref a4, .ref a5, .ref a6, .ref a7, .int wm, .int fa_8, .int 0, .int se, .ref a8, .ref a9, .ref ab])), (a0, .inl (cI, 120, .inl g0)), (a1, .inl (cI, 80, .inl g1))]) ∧ va_S A s.heap H locs ∧ lv_has ls 3 [(2, .int i_3), (1, .int i1_9), (0, .ref h0)]) ?_ ?_
  · intro st9 H locs ls hI
    obtain ⟨i1_9, rfl, ⟨hP, hD⟩, hS, hl⟩ := hI
    refine lv_iinc (v := i_3 + 1) (lv' := [(2, .int (i_3 + 1)), (1, .int i1_9), (0, .ref h0)]) hx hb dX9_which__32 hl (k := 0) rfl rfl (by decide) rfl (fun ls hl => ?_)
    refine lv_goto (tgt := 9) hx hb dX9_which__35 (by decide) ?_
    exact ih_4 _ _ _ _ (by have := ti_nle c_6; have u1 := ti_up (i := i_3) (n := mm) (by omega); omega) ⟨fa_8, i1_9, i_3 + 1, rfl, ⟨hP, hD⟩, hS, lv_sub hl [0, 1, 2] rfl, (by have := ti_nle c_6; have u1 := ti_up (i := i_3) (n := mm) (by omega); omega)⟩
  · intro hJ_11
    refine lv_iconst (v := (-1)) hx hb dX9_which__22 (by decide) ?_
    refine lv_icmp_eq (tgt := 32) hx hb dX9_which__23 (by decide) (fun c_12 => ?_) (fun c_12 => ?_)
    · exact hJ_11 _ _ _ _ ⟨i1_2, rfl, ⟨hP, hD⟩, hS, lv_sub hl [0, 1, 2] rfl⟩
    refine lv_iload_n hx hb dX9_which__26 rfl (lv_at hl 1 rfl) ?_
    refine lv_iconst (v := 1) hx hb dX9_which__27 (by decide) ?_
    refine lv_iload_n hx hb dX9_which__28 rfl (lv_at hl 0 rfl) ?_
    refine lv_ishl hx hb dX9_which__29 ?_
    refine lv_ior hx hb dX9_which__30 ?_
    refine lv_istore_n (lv' := [(1, .int (i1_2 ||| (1 <<< (i_3 &&& 31)))), (2, .int i_3), (0, .ref h0)]) hx hb dX9_which__31 rfl hl (by decide) rfl (fun ls hl => ?_)
    exact hJ_11 _ _ _ _ ⟨i1_2 ||| (1 <<< (i_3 &&& 31)), rfl, ⟨hP, hD⟩, hS, lv_sub hl [1, 0, 2] rfl⟩
theorem him_lay_X9 : ∀ w ∈ wsX90, w ∈ wsX9_lay := mem_pl [3, 4, 5, 6, 7, 8, 9, 10, 11, 12, 13, 14, 15, 16, 17, 18, 19] rfl
set_option maxHeartbeats 4000000 in
set_option maxRecDepth 100000 in
theorem m_lay (l : Launch) (D : va_G) (sz : Nat) (cI : ClassId) (h0 : Nat) (a0 : Nat) (a1 : Nat) (a2 : Nat) (a3 : Nat) (a4 : Nat) (a5 : Nat) (a6 : Nat) (a7 : Nat) (a8 : Nat) (a9 : Nat) (ab : Nat) (tk : Int32) (mm : Int32) (wm : Int32) (fa : Int32) (th : Int32) (se : Int32) (g0 : Nat → Int32) (t : Int32) (hk : bi tk 0 119) : Cv l yX9_lay wsX9_lay ({ frames := 0, cells := 0, slots := 0, locals := 0 } : Room) D [.ref h0, .int t] [(h0, .inr (8, [.ref a0, .int tk, .ref a1, .int mm, .ref a2, .ref a3, .ref a4, .ref a5, .ref a6, .ref a7, .int wm, .int fa, .int th, .int se, .ref a8, .ref a9, .ref ab])), (a0, .inl (cI, 120, .inl g0))] [(cI, .int)] sz (fun (g02 : Nat → Int32) => True) (fun (g02 : Nat → Int32) => [(h0, .inr (8, [.ref a0, .int (tk + 1), .ref a1, .int mm, .ref a2, .ref a3, .ref a4, .ref a5, .ref a6, .ref a7, .int wm, .int fa, .int th, .int se, .ref a8, .ref a9, .ref ab])), (a0, .inl (cI, 120, .inl g02))]) (fun (g02 : Nat → Int32) => []) := by
  refine ct_v (cc := cX9_lay) (maxL := 2) (ret := none) (by decide) rfl (Nat.le_of_ble_eq_true rfl) ?_
  intro p e s m below meth c A ls H hx hb hr hts hown hml hlocks hin hA hS hP hK hD hNW hl hAe hsz
  have hl : lv_has ls 2 [(0, .ref h0), (1, .int t)] := hl
  refine lv_aload_n hx hb dX9_lay_0 rfl (lv_at hl 0 rfl) ?_
  refine va_get (D := D) (ci := 8) (v := .ref a0) (C := RX9) (T := TX9) (N := 17) hx hb hts him_lay_X9 hown hK hP 0 rfl rfl 0 (by decide) (hts (.fieldLink RX9 9 "OneHandsetModel" "tape" "[I") (List.mem_of_getElem? (i := 1) rfl)) (fun _ h9 => h9) rfl dX9_lay_1 ?_
  refine lv_aload_n hx hb dX9_lay_4 rfl (lv_at hl 0 rfl) ?_
  refine va_get (D := D) (ci := 8) (v := .int tk) (C := RX9) (T := TX9) (N := 17) hx hb hts him_lay_X9 hown hK hP 0 rfl rfl 1 (by decide) (hts (.fieldLink RX9 62 "OneHandsetModel" "taped" "I") (List.mem_of_getElem? (i := 2) rfl)) (fun _ h9 => h9) rfl dX9_lay_5 ?_
  refine lv_iload_n hx hb dX9_lay_8 rfl (lv_at hl 1 rfl) ?_
  refine va_iast hx hb hK hP hD hS 1 0 rfl rfl (by exact vp_in_iff.mpr (by omega)) dX9_lay_9 (fun H locs hP hD hS => ?_)
  have hP : va_P D vwCl [(h0, .inr (8, [.ref a0, .int tk, .ref a1, .int mm, .ref a2, .ref a3, .ref a4, .ref a5, .ref a6, .ref a7, .int wm, .int fa, .int th, .int se, .ref a8, .ref a9, .ref ab])), (a0, .inl (cI, 120, .inl (upd g0 (Int32.toNatClampNeg tk) t)))] H := hP
  have hD : va_D A [(h0, .inr (8, [.ref a0, .int tk, .ref a1, .int mm, .ref a2, .ref a3, .ref a4, .ref a5, .ref a6, .ref a7, .int wm, .int fa, .int th, .int se, .ref a8, .ref a9, .ref ab])), (a0, .inl (cI, 120, .inl (upd g0 (Int32.toNatClampNeg tk) t)))] := hD
  refine lv_aload_n hx hb dX9_lay_10 rfl (lv_at hl 0 rfl) ?_
  refine lv_dup hx hb dX9_lay_11 rfl ?_
  refine va_get (D := D) (ci := 8) (v := .int tk) (C := RX9) (T := TX9) (N := 17) hx hb hts him_lay_X9 hown hK hP 0 rfl rfl 1 (by decide) (hts (.fieldLink RX9 62 "OneHandsetModel" "taped" "I") (List.mem_of_getElem? (i := 2) rfl)) (fun _ h9 => h9) rfl dX9_lay_12 ?_
  refine lv_iconst (v := 1) hx hb dX9_lay_15 (by decide) ?_
  refine lv_iadd hx hb dX9_lay_16 ?_
  refine va_put (D := D) (ci := 8) (v := .int (tk + 1)) (ty := .int) (C := RX9) (T := TX9) (N := 17) hx hb hts him_lay_X9 tyX9 tyX9_ok nmX9 hown hK hP hD hS 0 rfl rfl 1 (by decide) (hts (.fieldLink RX9 62 "OneHandsetModel" "taped" "I") (List.mem_of_getElem? (i := 2) rfl)) (fun _ h9 => h9) rfl (by decide +kernel) rfl rfl (Nat.le_of_ble_eq_true rfl) dX9_lay_17 (fun H locs hP hD hS => ?_)
  have hP : va_P D vwCl [(h0, .inr (8, [.ref a0, .int (tk + 1), .ref a1, .int mm, .ref a2, .ref a3, .ref a4, .ref a5, .ref a6, .ref a7, .int wm, .int fa, .int th, .int se, .ref a8, .ref a9, .ref ab])), (a0, .inl (cI, 120, .inl (upd g0 (Int32.toNatClampNeg tk) t)))] H := hP
  have hD : va_D A [(h0, .inr (8, [.ref a0, .int (tk + 1), .ref a1, .int mm, .ref a2, .ref a3, .ref a4, .ref a5, .ref a6, .ref a7, .int wm, .int fa, .int th, .int se, .ref a8, .ref a9, .ref ab])), (a0, .inl (cI, 120, .inl (upd g0 (Int32.toNatClampNeg tk) t)))] := hD
  exact ret_v hx hb hr hlocks (u := upd g0 (Int32.toNatClampNeg tk) t) trivial (hP.sub [0, 1] rfl) (hK.sub [] rfl) (hD.sub [0, 1] (by decide) rfl) hS (Nat.le_of_ble_eq_true rfl) (Nat.le_of_ble_eq_true rfl) dX9_lay_20
set_option maxHeartbeats 4000000 in
set_option maxRecDepth 100000 in
theorem m_isOn (l : Launch) (D : va_G) (sz : Nat) (v : Int32) (w : Int32) (x : Int32)  : Ci l yX9_isOn wsX9_isOn ({ frames := 0, cells := 0, slots := 0, locals := 0 } : Room) D [.int v, .int w, .int x] [] [] sz (fun (r : Int32) => fun (_ : Unit) => True) (fun (_ : Unit) => []) (fun (_ : Unit) => []) := by
  refine ct_i (cc := cX9_isOn) (maxL := 4) (ret := (some .boolean)) (by decide) rfl (Nat.le_of_ble_eq_true rfl) ?_
  intro p e s m below meth c A ls H hx hb hr hts hown hml hlocks hin hA hS hP hK hD hNW hl hAe hsz
  have hl : lv_has ls 4 [(0, .int v), (1, .int w), (2, .int x)] := hl
  refine lv_iload_n hx hb dX9_isOn_0 rfl (lv_at hl 2 rfl) ?_
  refine lv_if_ne (tgt := 6) hx hb dX9_isOn_1 (by decide) (fun c_1 => ?_) (fun c_1 => ?_)
  · refine lv_iload_n hx hb dX9_isOn_6 rfl (lv_at hl 1 rfl) ?_
    refine lv_iload_n hx hb dX9_isOn_7 rfl (lv_at hl 0 rfl) ?_
    refine lv_iconst (v := 1) hx hb dX9_isOn_8 (by decide) ?_
    refine lv_isub hx hb dX9_isOn_9 ?_
    refine lv_topi (fun y_2 _ => ?_)
    refine lv_iload_n hx hb dX9_isOn_10 rfl (lv_at hl 2 rfl) ?_
    refine lv_iconst (v := 1) hx hb dX9_isOn_11 (by decide) ?_
    refine lv_isub hx hb dX9_isOn_12 ?_
    refine lv_topi (fun y_3 _ => ?_)
    refine lv_iconst (v := 2) hx hb dX9_isOn_13 (by decide) ?_
    refine lv_idiv hx hb dX9_isOn_14 (by decide) ?_
    refine lv_topi (fun y_4 _ => ?_)
    refine lv_isub hx hb dX9_isOn_15 ?_
    refine lv_topi (fun y_5 _ => ?_)
    refine lv_ishr hx hb dX9_isOn_16 ?_
    refine lv_topi (fun y_6 _ => ?_)
    refine lv_iconst (v := 1) hx hb dX9_isOn_17 (by decide) ?_
    refine lv_iand hx hb dX9_isOn_18 ?_
    refine lv_topi (fun y_7 _ => ?_)
    refine lv_istore_n (lv' := [(3, .int y_7), (0, .int v), (1, .int w), (2, .int x)]) hx hb dX9_isOn_19 rfl hl (by decide) rfl (fun ls hl => ?_)
    refine lv_iload_n hx hb dX9_isOn_20 rfl (lv_at hl 3 rfl) ?_
    refine lv_iconst (v := 1) hx hb dX9_isOn_21 (by decide) ?_
    refine lv_isub hx hb dX9_isOn_22 ?_
    refine lv_topi (fun y_8 _ => ?_)
    refine lv_iconst (v := 2) hx hb dX9_isOn_23 (by decide) ?_
    refine lv_irem hx hb dX9_isOn_24 (by decide) ?_
    refine lv_topi (fun y_9 _ => ?_)
    refine lv_iload_n hx hb dX9_isOn_25 rfl (lv_at hl 0 rfl) ?_
    refine lv_icmp_ne (tgt := 33) hx hb dX9_isOn_26 (by decide) (fun c_10 => ?_) (fun c_10 => ?_)
    · refine lv_iconst (v := 0) hx hb dX9_isOn_33 (by decide) ?_
      exact ret_i hx hb hr hlocks rfl (u := ()) trivial (hP.sub [] rfl) (hK.sub [] rfl) (hD.sub [] (by decide) rfl) hS (Nat.le_of_ble_eq_true rfl) (Nat.le_of_ble_eq_true rfl) dX9_isOn_34
    refine lv_iconst (v := 1) hx hb dX9_isOn_29 (by decide) ?_
    refine lv_goto (tgt := 34) hx hb dX9_isOn_30 (by decide) ?_
    exact ret_i hx hb hr hlocks rfl (u := ()) trivial (hP.sub [] rfl) (hK.sub [] rfl) (hD.sub [] (by decide) rfl) hS (Nat.le_of_ble_eq_true rfl) (Nat.le_of_ble_eq_true rfl) dX9_isOn_34
  refine lv_iconst (v := 1) hx hb dX9_isOn_4 (by decide) ?_
  exact ret_i hx hb hr hlocks rfl (u := ()) trivial (hP.sub [] rfl) (hK.sub [] rfl) (hD.sub [] (by decide) rfl) hS (Nat.le_of_ble_eq_true rfl) (Nat.le_of_ble_eq_true rfl) dX9_isOn_5
set_option maxHeartbeats 4000000 in
set_option maxRecDepth 100000 in
theorem m_layHalves (l : Launch) (D : va_G) (sz : Nat) (cI : ClassId) (h0 : Nat) (a0 : Nat) (a1 : Nat) (a2 : Nat) (a3 : Nat) (a4 : Nat) (a5 : Nat) (a6 : Nat) (a7 : Nat) (a8 : Nat) (a9 : Nat) (ab : Nat) (tk : Int32) (mm : Int32) (wm : Int32) (fa : Int32) (th : Int32) (se : Int32) (g0 : Nat → Int32) (v : Int32) (w : Int32) (x : Int32) (hv : bi v 1 24) (htk : tk.toInt = 0) : Cv l yX9_layHalves wsX9_layHalves ({ frames := 1, cells := 0, slots := 0, locals := 23 } : Room) D [.ref h0, .int v, .int w, .int x] [(h0, .inr (8, [.ref a0, .int tk, .ref a1, .int mm, .ref a2, .ref a3, .ref a4, .ref a5, .ref a6, .ref a7, .int wm, .int fa, .int th, .int se, .ref a8, .ref a9, .ref ab])), (a0, .inl (cI, 120, .inl g0))] [(cI, .int)] sz (fun (u9 : Int32 × (Nat → Int32)) => match u9 with | (tk2, g02) => bi tk2 0 120) (fun (u9 : Int32 × (Nat → Int32)) => match u9 with | (tk2, g02) => [(h0, .inr (8, [.ref a0, .int tk2, .ref a1, .int mm, .ref a2, .ref a3, .ref a4, .ref a5, .ref a6, .ref a7, .int wm, .int fa, .int th, .int se, .ref a8, .ref a9, .ref ab])), (a0, .inl (cI, 120, .inl g02))]) (fun (u9 : Int32 × (Nat → Int32)) => match u9 with | (tk2, g02) => []) := by
  refine ct_v (cc := cX9_layHalves) (maxL := 7) (ret := none) (by decide) rfl (Nat.le_of_ble_eq_true rfl) ?_
  intro p e s m below meth c A ls H hx hb hr hts hown hml hlocks hin hA hS hP hK hD hNW hl hAe hsz
  have hl : lv_has ls 7 [(0, .ref h0), (1, .int v), (2, .int w), (3, .int x)] := hl
  refine lv_iconst (v := 2) hx hb dX9_layHalves_0 (by decide) ?_
  refine lv_iload_n hx hb dX9_layHalves_1 rfl (lv_at hl 1 rfl) ?_
  refine lv_imul hx hb dX9_layHalves_2 ?_
  refine lv_iconst (v := 1) hx hb dX9_layHalves_3 (by decide) ?_
  refine lv_iadd hx hb dX9_layHalves_4 ?_
  refine lv_istore (lv' := [(4, .int ((2 * v) + 1)), (0, .ref h0), (1, .int v), (2, .int w), (3, .int x)]) hx hb dX9_layHalves_5 hl (by decide) rfl (fun ls hl => ?_)
  refine jn_S 22 (fun st9 H locs ls => ∃ (q_1 : Int32), st9 = [] ∧ (va_P D vwCl [(h0, .inr (8, [.ref a0, .int tk, .ref a1, .int mm, .ref a2, .ref a3, .ref a4, .ref a5, .ref a6, .ref a7, .int wm, .int fa, .int th, .int se, .ref a8, .ref a9, .ref ab])), (a0, .inl (cI, 120, .inl g0))] H ∧ va_D A [(h0, .inr (8, [.ref a0, .int tk, .ref a1, .int mm, .ref a2, .ref a3, .ref a4, .ref a5, .ref a6, .ref a7, .int wm, .int fa, .int th, .int se, .ref a8, .ref a9, .ref ab])), (a0, .inl (cI, 120, .inl g0))]) ∧ va_S A s.heap H locs ∧ lv_has ls 7 [(4, .int q_1), (0, .ref h0), (1, .int v), (2, .int w), (3, .int x)] ∧ (bi q_1 1 49)) ?_ ?_
  · intro st9 H locs ls hI
    obtain ⟨q_1, rfl, ⟨hP, hD⟩, hS, hl, hv_2⟩ := hI
    refine lv_iconst (v := 0) hx hb dX9_layHalves_22 (by decide) ?_
    refine lv_istore (lv' := [(5, .int 0), (4, .int q_1), (0, .ref h0), (1, .int v), (2, .int w), (3, .int x)]) hx hb dX9_layHalves_23 hl (by decide) rfl (fun ls hl => ?_)
    refine lv_iconst (v := 1) hx hb dX9_layHalves_25 (by decide) ?_
    refine lv_istore (lv' := [(6, .int 1), (5, .int 0), (4, .int q_1), (0, .ref h0), (1, .int v), (2, .int w), (3, .int x)]) hx hb dX9_layHalves_26 hl (by decide) rfl (fun ls hl => ?_)
    refine lp_N (fun n9 H locs ls => ∃ (z_3 : Int32), ∃ (g_4 : Nat → Int32), ∃ (i5_5 : Int32), ∃ (i_6 : Int32), n9 = ((q_1).toInt + 1 - i_6.toInt).toNat ∧ (va_P D vwCl [(h0, .inr (8, [.ref a0, .int z_3, .ref a1, .int mm, .ref a2, .ref a3, .ref a4, .ref a5, .ref a6, .ref a7, .int wm, .int fa, .int th, .int se, .ref a8, .ref a9, .ref ab])), (a0, .inl (cI, 120, .inl g_4))] H ∧ va_D A [(h0, .inr (8, [.ref a0, .int z_3, .ref a1, .int mm, .ref a2, .ref a3, .ref a4, .ref a5, .ref a6, .ref a7, .int wm, .int fa, .int th, .int se, .ref a8, .ref a9, .ref ab])), (a0, .inl (cI, 120, .inl g_4))]) ∧ va_S A s.heap H locs ∧ lv_has ls 7 [(6, .int i_6), (5, .int i5_5), (4, .int q_1), (0, .ref h0), (1, .int v), (2, .int w), (3, .int x)] ∧ (1 ≤ i_6.toInt ∧ 0 ≤ z_3.toInt ∧ z_3.toInt < i_6.toInt ∧ i_6.toInt ≤ (q_1).toInt + 1)) ?_ ⟨tk, g0, 0, 1, rfl, ⟨hP, hD⟩, hS, hl, ⟨by decide, by omega, (by have k1 : (1 : Int32).toInt = 1 := (by decide); omega), (by have k1 : (1 : Int32).toInt = 1 := (by decide); omega)⟩⟩
    intro n9 ih_7 H locs ls hI
    obtain ⟨z_3, g_4, i5_5, i_6, rfl, ⟨hP, hD⟩, hS, hl, hv_8⟩ := hI
    refine lv_iload hx hb dX9_layHalves_28 (lv_at hl 0 rfl) ?_
    refine lv_iload hx hb dX9_layHalves_30 (lv_at hl 2 rfl) ?_
    refine lv_icmp_gt (tgt := 83) hx hb dX9_layHalves_32 (by decide) (fun c_9 => ?_) (fun c_9 => ?_)
    · exact ret_v hx hb hr hlocks (u := (z_3, g_4)) (by have := ti_lt c_9; omega) (hP.sub [0, 1] rfl) (hK.sub [] rfl) (hD.sub [0, 1] (by decide) rfl) hS (Nat.le_of_ble_eq_true rfl) (Nat.le_of_ble_eq_true rfl) dX9_layHalves_83
    refine jn_S 62 (fun st9 H locs ls => st9 = [] ∧ (va_P D vwCl [(h0, .inr (8, [.ref a0, .int z_3, .ref a1, .int mm, .ref a2, .ref a3, .ref a4, .ref a5, .ref a6, .ref a7, .int wm, .int fa, .int th, .int se, .ref a8, .ref a9, .ref ab])), (a0, .inl (cI, 120, .inl g_4))] H ∧ va_D A [(h0, .inr (8, [.ref a0, .int z_3, .ref a1, .int mm, .ref a2, .ref a3, .ref a4, .ref a5, .ref a6, .ref a7, .int wm, .int fa, .int th, .int se, .ref a8, .ref a9, .ref ab])), (a0, .inl (cI, 120, .inl g_4))]) ∧ va_S A s.heap H locs ∧ lv_has ls 7 [(6, .int i_6), (5, .int i5_5), (4, .int q_1), (0, .ref h0), (1, .int v), (2, .int w), (3, .int x)]) ?_ ?_
    · intro st9 H locs ls hI
      obtain ⟨rfl, ⟨hP, hD⟩, hS, hl⟩ := hI
      refine lv_aload_n hx hb dX9_layHalves_62 rfl (lv_at hl 3 rfl) ?_
      refine lv_iload_n hx hb dX9_layHalves_63 rfl (lv_at hl 6 rfl) ?_
      refine lv_iload hx hb dX9_layHalves_64 (lv_at hl 0 rfl) ?_
      refine lv_iload hx hb dX9_layHalves_66 (lv_at hl 1 rfl) ?_
      refine lv_isub hx hb dX9_layHalves_68 ?_
      refine lv_imul hx hb dX9_layHalves_69 ?_
      refine go_v (wr := []) (tysr := [(cI, .int)]) hP hD hS hA hK [0, 1] [] [0] rfl rfl (by decide) (by decide) rfl (va_runV (As := [.int (x * (i_6 - i5_5))]) (rest := []) ⟨hx, hb, hml, hown, hts⟩ (m_lay l D H.size cI h0 a0 a1 a2 a3 a4 a5 a6 a7 a8 a9 ab z_3 mm wm fa th se g_4 (x * (i_6 - i5_5)) (by first | assumption | decide | omega)) (cwV 1 hts gX9_layHalves_X9_lay rfl rfl rfl (by decide +kernel) ⟨Nat.le_of_ble_eq_true rfl, Nat.le_of_ble_eq_true rfl⟩) (st_preV (ci := 8) (q0 := 0) hP hD hK hNW [0, 1] [0] rfl rfl (by decide) rfl rfl rfl rfl) rfl rfl hl.1 rfl (lv_room (Nat.le_of_ble_eq_true rfl)) dX9_layHalves_70 ⟨(Nat.le_of_ble_eq_true rfl), (Nat.le_of_ble_eq_true rfl)⟩) (fun u H locs hw hP hD hK hS => ?_)
      obtain ⟨g_12, rfl⟩ : ∃ z, z = u := ⟨_, rfl⟩
      have hP : va_P D vwCl [(h0, .inr (8, [.ref a0, .int (z_3 + 1), .ref a1, .int mm, .ref a2, .ref a3, .ref a4, .ref a5, .ref a6, .ref a7, .int wm, .int fa, .int th, .int se, .ref a8, .ref a9, .ref ab])), (a0, .inl (cI, 120, .inl g_12))] H := hP
      have hD : va_D A [(h0, .inr (8, [.ref a0, .int (z_3 + 1), .ref a1, .int mm, .ref a2, .ref a3, .ref a4, .ref a5, .ref a6, .ref a7, .int wm, .int fa, .int th, .int se, .ref a8, .ref a9, .ref ab])), (a0, .inl (cI, 120, .inl g_12))] := hD
      have hK : va_K D vwCl [(cI, .int)] s := hK
      refine lv_iload hx hb dX9_layHalves_73 (lv_at hl 0 rfl) ?_
      refine lv_istore (lv' := [(5, .int i_6), (6, .int i_6), (4, .int q_1), (0, .ref h0), (1, .int v), (2, .int w), (3, .int x)]) hx hb dX9_layHalves_75 hl (by decide) rfl (fun ls hl => ?_)
      refine lv_iinc (v := i_6 + 1) (lv' := [(6, .int (i_6 + 1)), (5, .int i_6), (4, .int q_1), (0, .ref h0), (1, .int v), (2, .int w), (3, .int x)]) hx hb dX9_layHalves_77 hl (k := 1) rfl rfl (by decide) rfl (fun ls hl => ?_)
      refine lv_goto (tgt := 28) hx hb dX9_layHalves_80 (by decide) ?_
      exact ih_7 _ _ _ _ (by have := ti_nlt c_9; have kn : (100 : Int32).toInt = 100 := (by decide); have k400 : (400 : Int32).toInt = 400 := (by decide); have := ti_up (i := z_3) (n := 400) (by omega); have u1 := ti_up (i := i_6) (n := 100) (by omega); omega) ⟨z_3 + 1, g_12, i_6, i_6 + 1, rfl, ⟨hP, hD⟩, hS, lv_sub hl [0, 1, 2, 3, 4, 5, 6] rfl, ⟨(by have := ti_nlt c_9; have kn : (100 : Int32).toInt = 100 := (by decide); have k400 : (400 : Int32).toInt = 400 := (by decide); have := ti_up (i := z_3) (n := 400) (by omega); have u1 := ti_up (i := i_6) (n := 100) (by omega); omega), (by have := ti_nlt c_9; have kn : (100 : Int32).toInt = 100 := (by decide); have k400 : (400 : Int32).toInt = 400 := (by decide); have := ti_up (i := z_3) (n := 400) (by omega); have u1 := ti_up (i := i_6) (n := 100) (by omega); omega), (by have := ti_nlt c_9; have kn : (100 : Int32).toInt = 100 := (by decide); have k400 : (400 : Int32).toInt = 400 := (by decide); have := ti_up (i := z_3) (n := 400) (by omega); have u1 := ti_up (i := i_6) (n := 100) (by omega); omega), (by have := ti_nlt c_9; have kn : (100 : Int32).toInt = 100 := (by decide); have k400 : (400 : Int32).toInt = 400 := (by decide); have := ti_up (i := z_3) (n := 400) (by omega); have u1 := ti_up (i := i_6) (n := 100) (by omega); omega)⟩⟩
    · intro hJ_13
      refine lv_iload hx hb dX9_layHalves_35 (lv_at hl 0 rfl) ?_
      refine lv_iload hx hb dX9_layHalves_37 (lv_at hl 2 rfl) ?_
      refine lv_icmp_ge (tgt := 62) hx hb dX9_layHalves_39 (by decide) (fun c_14 => ?_) (fun c_14 => ?_)
      · exact hJ_13 _ _ _ _ ⟨rfl, ⟨hP, hD⟩, hS, lv_sub hl [0, 1, 2, 3, 4, 5, 6] rfl⟩
      refine lv_iload_n hx hb dX9_layHalves_42 rfl (lv_at hl 4 rfl) ?_
      refine lv_iload_n hx hb dX9_layHalves_43 rfl (lv_at hl 5 rfl) ?_
      refine lv_iload hx hb dX9_layHalves_44 (lv_at hl 0 rfl) ?_
      refine go_i (wr := [(h0, .inr (8, [.ref a0, .int z_3, .ref a1, .int mm, .ref a2, .ref a3, .ref a4, .ref a5, .ref a6, .ref a7, .int wm, .int fa, .int th, .int se, .ref a8, .ref a9, .ref ab])), (a0, .inl (cI, 120, .inl g_4))]) (tysr := [(cI, .int)]) hP hD hS hA hK [] [0, 1] [0] rfl rfl (by decide) (by decide) rfl (va_runS (As := [.int v, .int w, .int i_6]) (rest := []) ⟨hx, hb, hml, hown, hts⟩ (m_isOn l D H.size v w i_6 ) (va_cwS 3 hts gX9_layHalves_X9_isOn rfl rfl rfl (by decide +kernel) ⟨Nat.le_of_ble_eq_true rfl, Nat.le_of_ble_eq_true rfl⟩) (st_preS hP hD hK hNW [] [] rfl rfl (by decide) rfl) rfl rfl hl.1 rfl (lv_room (Nat.le_of_ble_eq_true rfl)) dX9_layHalves_46 ⟨(Nat.le_of_ble_eq_true rfl), (Nat.le_of_ble_eq_true rfl)⟩) (fun r_15 u H locs hw hP hD hK hS => ?_)
      have hP : va_P D vwCl [(h0, .inr (8, [.ref a0, .int z_3, .ref a1, .int mm, .ref a2, .ref a3, .ref a4, .ref a5, .ref a6, .ref a7, .int wm, .int fa, .int th, .int se, .ref a8, .ref a9, .ref ab])), (a0, .inl (cI, 120, .inl g_4))] H := hP
      have hD : va_D A [(h0, .inr (8, [.ref a0, .int z_3, .ref a1, .int mm, .ref a2, .ref a3, .ref a4, .ref a5, .ref a6, .ref a7, .int wm, .int fa, .int th, .int se, .ref a8, .ref a9, .ref ab])), (a0, .inl (cI, 120, .inl g_4))] := hD
      have hK : va_K D vwCl [(cI, .int)] s := hK
      refine lv_iload_n hx hb dX9_layHalves_49 rfl (lv_at hl 4 rfl) ?_
      refine lv_iload_n hx hb dX9_layHalves_50 rfl (lv_at hl 5 rfl) ?_
      refine lv_iload hx hb dX9_layHalves_51 (lv_at hl 1 rfl) ?_
      refine go_i (wr := [(h0, .inr (8, [.ref a0, .int z_3, .ref a1, .int mm, .ref a2, .ref a3, .ref a4, .ref a5, .ref a6, .ref a7, .int wm, .int fa, .int th, .int se, .ref a8, .ref a9, .ref ab])), (a0, .inl (cI, 120, .inl g_4))]) (tysr := [(cI, .int)]) hP hD hS hA hK [] [0, 1] [0] rfl rfl (by decide) (by decide) rfl (va_runS (As := [.int v, .int w, .int i5_5]) (rest := [.int r_15]) ⟨hx, hb, hml, hown, hts⟩ (m_isOn l D H.size v w i5_5 ) (va_cwS 3 hts gX9_layHalves_X9_isOn rfl rfl rfl (by decide +kernel) ⟨Nat.le_of_ble_eq_true rfl, Nat.le_of_ble_eq_true rfl⟩) (st_preS hP hD hK hNW [] [] rfl rfl (by decide) rfl) rfl rfl hl.1 rfl (lv_room (Nat.le_of_ble_eq_true rfl)) dX9_layHalves_53 ⟨(Nat.le_of_ble_eq_true rfl), (Nat.le_of_ble_eq_true rfl)⟩) (fun r_16 u H locs hw hP hD hK hS => ?_)
      have hP : va_P D vwCl [(h0, .inr (8, [.ref a0, .int z_3, .ref a1, .int mm, .ref a2, .ref a3, .ref a4, .ref a5, .ref a6, .ref a7, .int wm, .int fa, .int th, .int se, .ref a8, .ref a9, .ref ab])), (a0, .inl (cI, 120, .inl g_4))] H := hP
      have hD : va_D A [(h0, .inr (8, [.ref a0, .int z_3, .ref a1, .int mm, .ref a2, .ref a3, .ref a4, .ref a5, .ref a6, .ref a7, .int wm, .int fa, .int th, .int se, .ref a8, .ref a9, .ref ab])), (a0, .inl (cI, 120, .inl g_4))] := hD
      have hK : va_K D vwCl [(cI, .int)] s := hK
      refine lv_icmp_ne (tgt := 62) hx hb dX9_layHalves_56 (by decide) (fun c_17 => ?_) (fun c_17 => ?_)
      · exact hJ_13 _ _ _ _ ⟨rfl, ⟨hP, hD⟩, hS, lv_sub hl [0, 1, 2, 3, 4, 5, 6] rfl⟩
      refine lv_goto (tgt := 77) hx hb dX9_layHalves_59 (by decide) ?_
      refine lv_iinc (v := i_6 + 1) (lv' := [(6, .int (i_6 + 1)), (5, .int i5_5), (4, .int q_1), (0, .ref h0), (1, .int v), (2, .int w), (3, .int x)]) hx hb dX9_layHalves_77 hl (k := 0) rfl rfl (by decide) rfl (fun ls hl => ?_)
      refine lv_goto (tgt := 28) hx hb dX9_layHalves_80 (by decide) ?_
      exact ih_7 _ _ _ _ (by have := ti_nlt c_9; have := ti_nle c_14; have := ti_eq c_17; have kn : (100 : Int32).toInt = 100 := (by decide); have u1 := ti_up (i := i_6) (n := 100) (by omega); omega) ⟨z_3, g_4, i5_5, i_6 + 1, rfl, ⟨hP, hD⟩, hS, lv_sub hl [0, 1, 2, 3, 4, 5, 6] rfl, ⟨(by have := ti_nlt c_9; have := ti_nle c_14; have := ti_eq c_17; have kn : (100 : Int32).toInt = 100 := (by decide); have u1 := ti_up (i := i_6) (n := 100) (by omega); omega), (by have := ti_nlt c_9; have := ti_nle c_14; have := ti_eq c_17; have kn : (100 : Int32).toInt = 100 := (by decide); have u1 := ti_up (i := i_6) (n := 100) (by omega); omega), (by have := ti_nlt c_9; have := ti_nle c_14; have := ti_eq c_17; have kn : (100 : Int32).toInt = 100 := (by decide); have u1 := ti_up (i := i_6) (n := 100) (by omega); omega), (by have := ti_nlt c_9; have := ti_nle c_14; have := ti_eq c_17; have kn : (100 : Int32).toInt = 100 := (by decide); have u1 := ti_up (i := i_6) (n := 100) (by omega); omega)⟩⟩
  · intro hJ_18
    refine lv_iload_n hx hb dX9_layHalves_7 rfl (lv_at hl 2 rfl) ?_
    refine lv_iload_n hx hb dX9_layHalves_8 rfl (lv_at hl 3 rfl) ?_
    refine lv_iload hx hb dX9_layHalves_9 (lv_at hl 0 rfl) ?_
    refine lv_iconst (v := 1) hx hb dX9_layHalves_11 (by decide) ?_
    refine lv_isub hx hb dX9_layHalves_12 ?_
    refine go_i (wr := [(h0, .inr (8, [.ref a0, .int tk, .ref a1, .int mm, .ref a2, .ref a3, .ref a4, .ref a5, .ref a6, .ref a7, .int wm, .int fa, .int th, .int se, .ref a8, .ref a9, .ref ab])), (a0, .inl (cI, 120, .inl g0))]) (tysr := [(cI, .int)]) hP hD hS hA hK [] [0, 1] [0] rfl rfl (by decide) (by decide) rfl (va_runS (As := [.int v, .int w, .int (((2 * v) + 1) - 1)]) (rest := []) ⟨hx, hb, hml, hown, hts⟩ (m_isOn l D H.size v w (((2 * v) + 1) - 1) ) (va_cwS 3 hts gX9_layHalves_X9_isOn rfl rfl rfl (by decide +kernel) ⟨Nat.le_of_ble_eq_true rfl, Nat.le_of_ble_eq_true rfl⟩) (st_preS hP hD hK hNW [] [] rfl rfl (by decide) rfl) rfl rfl hl.1 rfl (lv_room (Nat.le_of_ble_eq_true rfl)) dX9_layHalves_13 ⟨(Nat.le_of_ble_eq_true rfl), (Nat.le_of_ble_eq_true rfl)⟩) (fun r_19 u H locs hw hP hD hK hS => ?_)
    have hP : va_P D vwCl [(h0, .inr (8, [.ref a0, .int tk, .ref a1, .int mm, .ref a2, .ref a3, .ref a4, .ref a5, .ref a6, .ref a7, .int wm, .int fa, .int th, .int se, .ref a8, .ref a9, .ref ab])), (a0, .inl (cI, 120, .inl g0))] H := hP
    have hD : va_D A [(h0, .inr (8, [.ref a0, .int tk, .ref a1, .int mm, .ref a2, .ref a3, .ref a4, .ref a5, .ref a6, .ref a7, .int wm, .int fa, .int th, .int se, .ref a8, .ref a9, .ref ab])), (a0, .inl (cI, 120, .inl g0))] := hD
    have hK : va_K D vwCl [(cI, .int)] s := hK
    refine lv_if_ne (tgt := 22) hx hb dX9_layHalves_16 (by decide) (fun c_20 => ?_) (fun c_20 => ?_)
    · exact hJ_18 _ _ _ _ ⟨(2 * v) + 1, rfl, ⟨hP, hD⟩, hS, lv_sub hl [0, 1, 2, 3, 4] rfl, (by have : (0 : Int32).toInt = 0 := (by decide); have := ti_ne c_20; have k1 : (1 : Int32).toInt = 1 := (by decide); have h2 : (2 : Int32).toInt = 2 := (by decide); have u2 := ti_mu (x := 2) (y := v) (by rw [h2]; omega); rw [h2] at u2; have u3 := ti_ad (x := 2 * v) (y := 1) (by rw [k1]; omega); rw [k1] at u3; omega)⟩
    refine lv_iinc (v := (2 * v) + 1 + (-1)) (lv' := [(4, .int ((2 * v) + 1 + (-1))), (0, .ref h0), (1, .int v), (2, .int w), (3, .int x)]) hx hb dX9_layHalves_19 hl (k := 0) rfl rfl (by decide) rfl (fun ls hl => ?_)
    exact hJ_18 _ _ _ _ ⟨(2 * v) + 1 + (-1), rfl, ⟨hP, hD⟩, hS, lv_sub hl [0, 1, 2, 3, 4] rfl, (by have : (0 : Int32).toInt = 0 := (by decide); have := ti_eq c_20; have k1 : (1 : Int32).toInt = 1 := (by decide); have h2 : (2 : Int32).toInt = 2 := (by decide); have u2 := ti_mu (x := 2) (y := v) (by rw [h2]; omega); rw [h2] at u2; have u3 := ti_ad (x := 2 * v) (y := 1) (by rw [k1]; omega); rw [k1] at u3; have u4 := ti_am1 (i := 2 * v + 1) (by omega); omega)⟩
theorem him_flash_X9 : ∀ w ∈ wsX90, w ∈ wsX9_flash := mem_pl [20, 21, 22, 23, 24, 25, 26, 27, 28, 29, 30, 31, 32, 33, 34, 35, 36] rfl
set_option maxHeartbeats 4000000 in
set_option maxRecDepth 100000 in
theorem m_flash (l : Launch) (D : va_G) (sz : Nat) (cI : ClassId) (h0 : Nat) (a0 : Nat) (a1 : Nat) (a2 : Nat) (a3 : Nat) (a4 : Nat) (a5 : Nat) (a6 : Nat) (a7 : Nat) (a8 : Nat) (a9 : Nat) (ab : Nat) (tk : Int32) (mm : Int32) (wm : Int32) (fa : Int32) (th : Int32) (se : Int32) (g0 : Nat → Int32) (g1 : Nat → Int32) (v : Int32) (w : Int32) (hv : bi v 0 7) (hvm : v.toInt < mm.toInt) (hmg : MKG g1 mm) : Cv l yX9_flash wsX9_flash ({ frames := 2, cells := 0, slots := 0, locals := 49 } : Room) D [.ref h0, .int v, .int w] [(h0, .inr (8, [.ref a0, .int tk, .ref a1, .int mm, .ref a2, .ref a3, .ref a4, .ref a5, .ref a6, .ref a7, .int wm, .int fa, .int th, .int se, .ref a8, .ref a9, .ref ab])), (a0, .inl (cI, 120, .inl g0)), (a1, .inl (cI, 80, .inl g1))] [(cI, .int)] sz (fun (u9 : Int32 × (Nat → Int32)) => match u9 with | (tk2, g02) => bi tk2 0 120) (fun (u9 : Int32 × (Nat → Int32)) => match u9 with | (tk2, g02) => [(h0, .inr (8, [.ref a0, .int tk2, .ref a1, .int mm, .ref a2, .ref a3, .ref a4, .ref a5, .ref a6, .ref a7, .int wm, .int fa, .int th, .int se, .ref a8, .ref a9, .ref ab])), (a0, .inl (cI, 120, .inl g02)), (a1, .inl (cI, 80, .inl g1))]) (fun (u9 : Int32 × (Nat → Int32)) => match u9 with | (tk2, g02) => []) := by
  refine ct_v (cc := cX9_flash) (maxL := 7) (ret := none) (by decide) rfl (Nat.le_of_ble_eq_true rfl) ?_
  intro p e s m below meth c A ls H hx hb hr hts hown hml hlocks hin hA hS hP hK hD hNW hl hAe hsz
  have hl : lv_has ls 7 [(0, .ref h0), (1, .int v), (2, .int w)] := hl
  refine lv_aload_n hx hb dX9_flash_0 rfl (lv_at hl 0 rfl) ?_
  refine lv_iconst (v := 0) hx hb dX9_flash_1 (by decide) ?_
  refine va_put (D := D) (ci := 8) (v := .int 0) (ty := .int) (C := RX9) (T := TX9) (N := 17) hx hb hts him_flash_X9 tyX9 tyX9_ok nmX9 hown hK hP hD hS 0 rfl rfl 1 (by decide) (hts (.fieldLink RX9 62 "OneHandsetModel" "taped" "I") (List.mem_of_getElem? (i := 1) rfl)) (fun _ h9 => h9) rfl (by decide +kernel) rfl rfl (Nat.le_of_ble_eq_true rfl) dX9_flash_2 (fun H locs hP hD hS => ?_)
  have hP : va_P D vwCl [(h0, .inr (8, [.ref a0, .int 0, .ref a1, .int mm, .ref a2, .ref a3, .ref a4, .ref a5, .ref a6, .ref a7, .int wm, .int fa, .int th, .int se, .ref a8, .ref a9, .ref ab])), (a0, .inl (cI, 120, .inl g0)), (a1, .inl (cI, 80, .inl g1))] H := hP
  have hD : va_D A [(h0, .inr (8, [.ref a0, .int 0, .ref a1, .int mm, .ref a2, .ref a3, .ref a4, .ref a5, .ref a6, .ref a7, .int wm, .int fa, .int th, .int se, .ref a8, .ref a9, .ref ab])), (a0, .inl (cI, 120, .inl g0)), (a1, .inl (cI, 80, .inl g1))] := hD
  refine lv_aload_n hx hb dX9_flash_5 rfl (lv_at hl 0 rfl) ?_
  refine lv_iload_n hx hb dX9_flash_6 rfl (lv_at hl 1 rfl) ?_
  refine lv_iconst (v := 1) hx hb dX9_flash_7 (by decide) ?_
  refine go_i (wr := [(a0, .inl (cI, 120, .inl g0))]) (tysr := [(cI, .int)]) hP hD hS hA hK [0, 2] [1] [0] rfl rfl (by decide) (by decide) rfl (va_runV (As := [.int v, .int 1]) (rest := []) ⟨hx, hb, hml, hown, hts⟩ (m_get l D H.size cI h0 a0 a1 a2 a3 a4 a5 a6 a7 a8 a9 ab 0 mm wm fa th se g1 v 1 (by first | assumption | decide | omega) (by first | assumption | decide | omega)) (cwV 2 hts gX9_flash_X9_get rfl rfl rfl (by decide +kernel) ⟨Nat.le_of_ble_eq_true rfl, Nat.le_of_ble_eq_true rfl⟩) (st_preV (ci := 8) (q0 := 0) hP hD hK hNW [0, 2] [0] rfl rfl (by decide) rfl rfl rfl rfl) rfl rfl hl.1 rfl (lv_room (Nat.le_of_ble_eq_true rfl)) dX9_flash_8 ⟨(Nat.le_of_ble_eq_true rfl), (Nat.le_of_ble_eq_true rfl)⟩) (fun r_1 u H locs hw hP hD hK hS => ?_)
  have hw : r_1 = g1 (Int32.toNatClampNeg (10 * v + 1)) := hw
  subst hw
  have hP : va_P D vwCl [(a0, .inl (cI, 120, .inl g0)), (h0, .inr (8, [.ref a0, .int 0, .ref a1, .int mm, .ref a2, .ref a3, .ref a4, .ref a5, .ref a6, .ref a7, .int wm, .int fa, .int th, .int se, .ref a8, .ref a9, .ref ab])), (a1, .inl (cI, 80, .inl g1))] H := hP
  have hD : va_D A [(a0, .inl (cI, 120, .inl g0)), (h0, .inr (8, [.ref a0, .int 0, .ref a1, .int mm, .ref a2, .ref a3, .ref a4, .ref a5, .ref a6, .ref a7, .int wm, .int fa, .int th, .int se, .ref a8, .ref a9, .ref ab])), (a1, .inl (cI, 80, .inl g1))] := hD
  have hK : va_K D vwCl [(cI, .int)] s := hK
  refine lv_istore_n (lv' := [(3, .int (g1 (Int32.toNatClampNeg (10 * v + 1)))), (0, .ref h0), (1, .int v), (2, .int w)]) hx hb dX9_flash_11 rfl hl (by decide) rfl (fun ls hl => ?_)
  have hn_2 : bi (g1 (Int32.toNatClampNeg (10 * v + 1))) 1 24 := hmg.at hv hvm
  refine lv_aload_n hx hb dX9_flash_12 rfl (lv_at hl 1 rfl) ?_
  refine lv_iload_n hx hb dX9_flash_13 rfl (lv_at hl 2 rfl) ?_
  refine lv_iconst (v := 4) hx hb dX9_flash_14 (by decide) ?_
  refine go_i (wr := [(a0, .inl (cI, 120, .inl g0))]) (tysr := [(cI, .int)]) hP hD hS hA hK [1, 2] [0] [0] rfl rfl (by decide) (by decide) rfl (va_runV (As := [.int v, .int 4]) (rest := []) ⟨hx, hb, hml, hown, hts⟩ (m_get l D H.size cI h0 a0 a1 a2 a3 a4 a5 a6 a7 a8 a9 ab 0 mm wm fa th se g1 v 4 (by first | assumption | decide | omega) (by first | assumption | decide | omega)) (cwV 2 hts gX9_flash_X9_get rfl rfl rfl (by decide +kernel) ⟨Nat.le_of_ble_eq_true rfl, Nat.le_of_ble_eq_true rfl⟩) (st_preV (ci := 8) (q0 := 1) hP hD hK hNW [1, 2] [0] rfl rfl (by decide) rfl rfl rfl rfl) rfl rfl hl.1 rfl (lv_room (Nat.le_of_ble_eq_true rfl)) dX9_flash_15 ⟨(Nat.le_of_ble_eq_true rfl), (Nat.le_of_ble_eq_true rfl)⟩) (fun r_3 u H locs hw hP hD hK hS => ?_)
  have hw : r_3 = g1 (Int32.toNatClampNeg (10 * v + 4)) := hw
  subst hw
  have hP : va_P D vwCl [(a0, .inl (cI, 120, .inl g0)), (h0, .inr (8, [.ref a0, .int 0, .ref a1, .int mm, .ref a2, .ref a3, .ref a4, .ref a5, .ref a6, .ref a7, .int wm, .int fa, .int th, .int se, .ref a8, .ref a9, .ref ab])), (a1, .inl (cI, 80, .inl g1))] H := hP
  have hD : va_D A [(a0, .inl (cI, 120, .inl g0)), (h0, .inr (8, [.ref a0, .int 0, .ref a1, .int mm, .ref a2, .ref a3, .ref a4, .ref a5, .ref a6, .ref a7, .int wm, .int fa, .int th, .int se, .ref a8, .ref a9, .ref ab])), (a1, .inl (cI, 80, .inl g1))] := hD
  have hK : va_K D vwCl [(cI, .int)] s := hK
  refine lv_istore (lv' := [(4, .int (g1 (Int32.toNatClampNeg (10 * v + 4)))), (3, .int (g1 (Int32.toNatClampNeg (10 * v + 1)))), (0, .ref h0), (1, .int v), (2, .int w)]) hx hb dX9_flash_18 hl (by decide) rfl (fun ls hl => ?_)
  refine lv_aload_n hx hb dX9_flash_20 rfl (lv_at hl 2 rfl) ?_
  refine lv_iload_n hx hb dX9_flash_21 rfl (lv_at hl 3 rfl) ?_
  refine lv_iconst (v := 0) hx hb dX9_flash_22 (by decide) ?_
  refine go_i (wr := [(a0, .inl (cI, 120, .inl g0))]) (tysr := [(cI, .int)]) hP hD hS hA hK [1, 2] [0] [0] rfl rfl (by decide) (by decide) rfl (va_runV (As := [.int v, .int 0]) (rest := []) ⟨hx, hb, hml, hown, hts⟩ (m_get l D H.size cI h0 a0 a1 a2 a3 a4 a5 a6 a7 a8 a9 ab 0 mm wm fa th se g1 v 0 (by first | assumption | decide | omega) (by first | assumption | decide | omega)) (cwV 2 hts gX9_flash_X9_get rfl rfl rfl (by decide +kernel) ⟨Nat.le_of_ble_eq_true rfl, Nat.le_of_ble_eq_true rfl⟩) (st_preV (ci := 8) (q0 := 1) hP hD hK hNW [1, 2] [0] rfl rfl (by decide) rfl rfl rfl rfl) rfl rfl hl.1 rfl (lv_room (Nat.le_of_ble_eq_true rfl)) dX9_flash_23 ⟨(Nat.le_of_ble_eq_true rfl), (Nat.le_of_ble_eq_true rfl)⟩) (fun r_4 u H locs hw hP hD hK hS => ?_)
  have hw : r_4 = g1 (Int32.toNatClampNeg (10 * v + 0)) := hw
  subst hw
  have hP : va_P D vwCl [(a0, .inl (cI, 120, .inl g0)), (h0, .inr (8, [.ref a0, .int 0, .ref a1, .int mm, .ref a2, .ref a3, .ref a4, .ref a5, .ref a6, .ref a7, .int wm, .int fa, .int th, .int se, .ref a8, .ref a9, .ref ab])), (a1, .inl (cI, 80, .inl g1))] H := hP
  have hD : va_D A [(a0, .inl (cI, 120, .inl g0)), (h0, .inr (8, [.ref a0, .int 0, .ref a1, .int mm, .ref a2, .ref a3, .ref a4, .ref a5, .ref a6, .ref a7, .int wm, .int fa, .int th, .int se, .ref a8, .ref a9, .ref ab])), (a1, .inl (cI, 80, .inl g1))] := hD
  have hK : va_K D vwCl [(cI, .int)] s := hK
  refine lv_iconst (v := 2) hx hb dX9_flash_26 (by decide) ?_
  refine lv_icmp_ne (tgt := 39) hx hb dX9_flash_27 (by decide) (fun c_5 => ?_) (fun c_5 => ?_)
  · refine lv_aload_n hx hb dX9_flash_39 rfl (lv_at hl 2 rfl) ?_
    refine lv_aload_n hx hb dX9_flash_40 rfl (lv_at hl 2 rfl) ?_
    refine lv_iload_n hx hb dX9_flash_41 rfl (lv_at hl 3 rfl) ?_
    refine lv_iconst (v := 2) hx hb dX9_flash_42 (by decide) ?_
    refine go_i (wr := [(a0, .inl (cI, 120, .inl g0))]) (tysr := [(cI, .int)]) hP hD hS hA hK [1, 2] [0] [0] rfl rfl (by decide) (by decide) rfl (va_runV (As := [.int v, .int 2]) (rest := [.ref h0]) ⟨hx, hb, hml, hown, hts⟩ (m_get l D H.size cI h0 a0 a1 a2 a3 a4 a5 a6 a7 a8 a9 ab 0 mm wm fa th se g1 v 2 (by first | assumption | decide | omega) (by first | assumption | decide | omega)) (cwV 2 hts gX9_flash_X9_get rfl rfl rfl (by decide +kernel) ⟨Nat.le_of_ble_eq_true rfl, Nat.le_of_ble_eq_true rfl⟩) (st_preV (ci := 8) (q0 := 1) hP hD hK hNW [1, 2] [0] rfl rfl (by decide) rfl rfl rfl rfl) rfl rfl hl.1 rfl (lv_room (Nat.le_of_ble_eq_true rfl)) dX9_flash_43 ⟨(Nat.le_of_ble_eq_true rfl), (Nat.le_of_ble_eq_true rfl)⟩) (fun r_6 u H locs hw hP hD hK hS => ?_)
    have hw : r_6 = g1 (Int32.toNatClampNeg (10 * v + 2)) := hw
    subst hw
    have hP : va_P D vwCl [(a0, .inl (cI, 120, .inl g0)), (h0, .inr (8, [.ref a0, .int 0, .ref a1, .int mm, .ref a2, .ref a3, .ref a4, .ref a5, .ref a6, .ref a7, .int wm, .int fa, .int th, .int se, .ref a8, .ref a9, .ref ab])), (a1, .inl (cI, 80, .inl g1))] H := hP
    have hD : va_D A [(a0, .inl (cI, 120, .inl g0)), (h0, .inr (8, [.ref a0, .int 0, .ref a1, .int mm, .ref a2, .ref a3, .ref a4, .ref a5, .ref a6, .ref a7, .int wm, .int fa, .int th, .int se, .ref a8, .ref a9, .ref ab])), (a1, .inl (cI, 80, .inl g1))] := hD
    have hK : va_K D vwCl [(cI, .int)] s := hK
    refine go_v (wr := [(a1, .inl (cI, 80, .inl g1))]) (tysr := [(cI, .int)]) hP hD hS hA hK [1, 0] [2] [0] rfl rfl (by decide) (by decide) rfl (va_runV (As := [.int (g1 (Int32.toNatClampNeg (10 * v + 2)))]) (rest := []) ⟨hx, hb, hml, hown, hts⟩ (m_lay l D H.size cI h0 a0 a1 a2 a3 a4 a5 a6 a7 a8 a9 ab 0 mm wm fa th se g0 (g1 (Int32.toNatClampNeg (10 * v + 2))) (by first | decide | exact (by have : (2 : Int32).toInt = 2 := (by decide); have := ti_ne c_5; omega))) (cwV 1 hts gX9_flash_X9_lay rfl rfl rfl (by decide +kernel) ⟨Nat.le_of_ble_eq_true rfl, Nat.le_of_ble_eq_true rfl⟩) (st_preV (ci := 8) (q0 := 1) hP hD hK hNW [1, 0] [0] rfl rfl (by decide) rfl rfl rfl rfl) rfl rfl hl.1 rfl (lv_room (Nat.le_of_ble_eq_true rfl)) dX9_flash_46 ⟨(Nat.le_of_ble_eq_true rfl), (Nat.le_of_ble_eq_true rfl)⟩) (fun u H locs hw hP hD hK hS => ?_)
    obtain ⟨g_8, rfl⟩ : ∃ z, z = u := ⟨_, rfl⟩
    have hP : va_P D vwCl [(a1, .inl (cI, 80, .inl g1)), (h0, .inr (8, [.ref a0, .int (0 + 1), .ref a1, .int mm, .ref a2, .ref a3, .ref a4, .ref a5, .ref a6, .ref a7, .int wm, .int fa, .int th, .int se, .ref a8, .ref a9, .ref ab])), (a0, .inl (cI, 120, .inl g_8))] H := hP
    have hD : va_D A [(a1, .inl (cI, 80, .inl g1)), (h0, .inr (8, [.ref a0, .int (0 + 1), .ref a1, .int mm, .ref a2, .ref a3, .ref a4, .ref a5, .ref a6, .ref a7, .int wm, .int fa, .int th, .int se, .ref a8, .ref a9, .ref ab])), (a0, .inl (cI, 120, .inl g_8))] := hD
    have hK : va_K D vwCl [(cI, .int)] s := hK
    rw [show (0 + 1 : Int32) = 1 from by decide] at hP hD
    refine lv_aload_n hx hb dX9_flash_49 rfl (lv_at hl 2 rfl) ?_
    refine lv_aload_n hx hb dX9_flash_50 rfl (lv_at hl 2 rfl) ?_
    refine lv_iload_n hx hb dX9_flash_51 rfl (lv_at hl 3 rfl) ?_
    refine lv_iconst (v := 3) hx hb dX9_flash_52 (by decide) ?_
    refine go_i (wr := [(a0, .inl (cI, 120, .inl g_8))]) (tysr := [(cI, .int)]) hP hD hS hA hK [1, 0] [2] [0] rfl rfl (by decide) (by decide) rfl (va_runV (As := [.int v, .int 3]) (rest := [.ref h0]) ⟨hx, hb, hml, hown, hts⟩ (m_get l D H.size cI h0 a0 a1 a2 a3 a4 a5 a6 a7 a8 a9 ab 1 mm wm fa th se g1 v 3 (by first | assumption | decide | omega) (by first | assumption | decide | omega)) (cwV 2 hts gX9_flash_X9_get rfl rfl rfl (by decide +kernel) ⟨Nat.le_of_ble_eq_true rfl, Nat.le_of_ble_eq_true rfl⟩) (st_preV (ci := 8) (q0 := 1) hP hD hK hNW [1, 0] [0] rfl rfl (by decide) rfl rfl rfl rfl) rfl rfl hl.1 rfl (lv_room (Nat.le_of_ble_eq_true rfl)) dX9_flash_53 ⟨(Nat.le_of_ble_eq_true rfl), (Nat.le_of_ble_eq_true rfl)⟩) (fun r_9 u H locs hw hP hD hK hS => ?_)
    have hw : r_9 = g1 (Int32.toNatClampNeg (10 * v + 3)) := hw
    subst hw
    have hP : va_P D vwCl [(a0, .inl (cI, 120, .inl g_8)), (h0, .inr (8, [.ref a0, .int 1, .ref a1, .int mm, .ref a2, .ref a3, .ref a4, .ref a5, .ref a6, .ref a7, .int wm, .int fa, .int th, .int se, .ref a8, .ref a9, .ref ab])), (a1, .inl (cI, 80, .inl g1))] H := hP
    have hD : va_D A [(a0, .inl (cI, 120, .inl g_8)), (h0, .inr (8, [.ref a0, .int 1, .ref a1, .int mm, .ref a2, .ref a3, .ref a4, .ref a5, .ref a6, .ref a7, .int wm, .int fa, .int th, .int se, .ref a8, .ref a9, .ref ab])), (a1, .inl (cI, 80, .inl g1))] := hD
    have hK : va_K D vwCl [(cI, .int)] s := hK
    refine go_v (wr := [(a1, .inl (cI, 80, .inl g1))]) (tysr := [(cI, .int)]) hP hD hS hA hK [1, 0] [2] [0] rfl rfl (by decide) (by decide) rfl (va_runV (As := [.int (g1 (Int32.toNatClampNeg (10 * v + 3)))]) (rest := []) ⟨hx, hb, hml, hown, hts⟩ (m_lay l D H.size cI h0 a0 a1 a2 a3 a4 a5 a6 a7 a8 a9 ab 1 mm wm fa th se g_8 (g1 (Int32.toNatClampNeg (10 * v + 3))) (by first | decide | exact (by have : (2 : Int32).toInt = 2 := (by decide); have := ti_ne c_5; omega))) (cwV 1 hts gX9_flash_X9_lay rfl rfl rfl (by decide +kernel) ⟨Nat.le_of_ble_eq_true rfl, Nat.le_of_ble_eq_true rfl⟩) (st_preV (ci := 8) (q0 := 1) hP hD hK hNW [1, 0] [0] rfl rfl (by decide) rfl rfl rfl rfl) rfl rfl hl.1 rfl (lv_room (Nat.le_of_ble_eq_true rfl)) dX9_flash_56 ⟨(Nat.le_of_ble_eq_true rfl), (Nat.le_of_ble_eq_true rfl)⟩) (fun u H locs hw hP hD hK hS => ?_)
    obtain ⟨g_11, rfl⟩ : ∃ z, z = u := ⟨_, rfl⟩
    have hP : va_P D vwCl [(a1, .inl (cI, 80, .inl g1)), (h0, .inr (8, [.ref a0, .int (1 + 1), .ref a1, .int mm, .ref a2, .ref a3, .ref a4, .ref a5, .ref a6, .ref a7, .int wm, .int fa, .int th, .int se, .ref a8, .ref a9, .ref ab])), (a0, .inl (cI, 120, .inl g_11))] H := hP
    have hD : va_D A [(a1, .inl (cI, 80, .inl g1)), (h0, .inr (8, [.ref a0, .int (1 + 1), .ref a1, .int mm, .ref a2, .ref a3, .ref a4, .ref a5, .ref a6, .ref a7, .int wm, .int fa, .int th, .int se, .ref a8, .ref a9, .ref ab])), (a0, .inl (cI, 120, .inl g_11))] := hD
    have hK : va_K D vwCl [(cI, .int)] s := hK
    rw [show (1 + 1 : Int32) = 2 from by decide] at hP hD
    refine lv_iload_n hx hb dX9_flash_59 rfl (lv_at hl 1 rfl) ?_
    refine lv_iconst (v := 1) hx hb dX9_flash_60 (by decide) ?_
    refine lv_isub hx hb dX9_flash_61 ?_
    refine lv_istore (lv' := [(5, .int ((g1 (Int32.toNatClampNeg (10 * v + 1))) - 1)), (4, .int (g1 (Int32.toNatClampNeg (10 * v + 4)))), (3, .int (g1 (Int32.toNatClampNeg (10 * v + 1)))), (0, .ref h0), (1, .int v), (2, .int w)]) hx hb dX9_flash_62 hl (by decide) rfl (fun ls hl => ?_)
    refine lp_N (fun n9 H locs ls => ∃ (z_12 : Int32), ∃ (g_13 : Nat → Int32), ∃ (i_14 : Int32), n9 = (i_14.toInt + 1).toNat ∧ (va_P D vwCl [(a1, .inl (cI, 80, .inl g1)), (h0, .inr (8, [.ref a0, .int z_12, .ref a1, .int mm, .ref a2, .ref a3, .ref a4, .ref a5, .ref a6, .ref a7, .int wm, .int fa, .int th, .int se, .ref a8, .ref a9, .ref ab])), (a0, .inl (cI, 120, .inl g_13))] H ∧ va_D A [(a1, .inl (cI, 80, .inl g1)), (h0, .inr (8, [.ref a0, .int z_12, .ref a1, .int mm, .ref a2, .ref a3, .ref a4, .ref a5, .ref a6, .ref a7, .int wm, .int fa, .int th, .int se, .ref a8, .ref a9, .ref ab])), (a0, .inl (cI, 120, .inl g_13))]) ∧ va_S A s.heap H locs ∧ lv_has ls 7 [(5, .int i_14), (4, .int (g1 (Int32.toNatClampNeg (10 * v + 4)))), (3, .int (g1 (Int32.toNatClampNeg (10 * v + 1)))), (0, .ref h0), (1, .int v), (2, .int w)] ∧ (bi i_14 (-1) 23 ∧ 0 ≤ z_12.toInt ∧ z_12.toInt + 2 * i_14.toInt ≤ 2 * (g1 (Int32.toNatClampNeg (10 * v + 1))).toInt)) ?_ ⟨2, g_11, (g1 (Int32.toNatClampNeg (10 * v + 1))) - 1, rfl, ⟨hP, hD⟩, hS, hl, ⟨(by have : (2 : Int32).toInt = 2 := (by decide); have := ti_ne c_5; have k2 : (2 : Int32).toInt = 2 := (by decide); have u1 := ti_m1 (i := g1 (Int32.toNatClampNeg (10 * v + 1))) (by omega); omega), by decide, (by have : (2 : Int32).toInt = 2 := (by decide); have := ti_ne c_5; have k2 : (2 : Int32).toInt = 2 := (by decide); have u1 := ti_m1 (i := g1 (Int32.toNatClampNeg (10 * v + 1))) (by omega); omega)⟩⟩
    intro n9 ih_15 H locs ls hI
    obtain ⟨z_12, g_13, i_14, rfl, ⟨hP, hD⟩, hS, hl, hv_16⟩ := hI
    refine lv_iload hx hb dX9_flash_64 (lv_at hl 0 rfl) ?_
    refine lv_if_lt (tgt := 144) hx hb dX9_flash_66 (by decide) (fun c_17 => ?_) (fun c_17 => ?_)
    · refine lv_aload_n hx hb dX9_flash_144 rfl (lv_at hl 3 rfl) ?_
      refine lv_iload_n hx hb dX9_flash_145 rfl (lv_at hl 4 rfl) ?_
      refine lv_iconst (v := 0) hx hb dX9_flash_146 (by decide) ?_
      refine go_i (wr := [(a0, .inl (cI, 120, .inl g_13))]) (tysr := [(cI, .int)]) hP hD hS hA hK [1, 0] [2] [0] rfl rfl (by decide) (by decide) rfl (va_runV (As := [.int v, .int 0]) (rest := []) ⟨hx, hb, hml, hown, hts⟩ (m_get l D H.size cI h0 a0 a1 a2 a3 a4 a5 a6 a7 a8 a9 ab z_12 mm wm fa th se g1 v 0 (by first | assumption | decide | omega) (by first | assumption | decide | omega)) (cwV 2 hts gX9_flash_X9_get rfl rfl rfl (by decide +kernel) ⟨Nat.le_of_ble_eq_true rfl, Nat.le_of_ble_eq_true rfl⟩) (st_preV (ci := 8) (q0 := 1) hP hD hK hNW [1, 0] [0] rfl rfl (by decide) rfl rfl rfl rfl) rfl rfl hl.1 rfl (lv_room (Nat.le_of_ble_eq_true rfl)) dX9_flash_147 ⟨(Nat.le_of_ble_eq_true rfl), (Nat.le_of_ble_eq_true rfl)⟩) (fun r_18 u H locs hw hP hD hK hS => ?_)
      have hw : r_18 = g1 (Int32.toNatClampNeg (10 * v + 0)) := hw
      subst hw
      have hP : va_P D vwCl [(a0, .inl (cI, 120, .inl g_13)), (h0, .inr (8, [.ref a0, .int z_12, .ref a1, .int mm, .ref a2, .ref a3, .ref a4, .ref a5, .ref a6, .ref a7, .int wm, .int fa, .int th, .int se, .ref a8, .ref a9, .ref ab])), (a1, .inl (cI, 80, .inl g1))] H := hP
      have hD : va_D A [(a0, .inl (cI, 120, .inl g_13)), (h0, .inr (8, [.ref a0, .int z_12, .ref a1, .int mm, .ref a2, .ref a3, .ref a4, .ref a5, .ref a6, .ref a7, .int wm, .int fa, .int th, .int se, .ref a8, .ref a9, .ref ab])), (a1, .inl (cI, 80, .inl g1))] := hD
      have hK : va_K D vwCl [(cI, .int)] s := hK
      refine lv_if_ne (tgt := 159) hx hb dX9_flash_150 (by decide) (fun c_19 => ?_) (fun c_19 => ?_)
      · exact ret_v hx hb hr hlocks (u := (z_12, g_13)) (by have : (0 : Int32).toInt = 0 := (by decide); have : (2 : Int32).toInt = 2 := (by decide); have := ti_ne c_5; have := ti_lt c_17; have := ti_ne c_19; omega) (hP.sub [1, 0, 2] rfl) (hK.sub [] rfl) (hD.sub [1, 0, 2] (by decide) rfl) hS (Nat.le_of_ble_eq_true rfl) (Nat.le_of_ble_eq_true rfl) dX9_flash_159
      refine lv_aload_n hx hb dX9_flash_153 rfl (lv_at hl 3 rfl) ?_
      refine lv_iload hx hb dX9_flash_154 (lv_at hl 1 rfl) ?_
      refine go_v (wr := [(a1, .inl (cI, 80, .inl g1))]) (tysr := [(cI, .int)]) hP hD hS hA hK [1, 0] [2] [0] rfl rfl (by decide) (by decide) rfl (va_runV (As := [.int (g1 (Int32.toNatClampNeg (10 * v + 4)))]) (rest := []) ⟨hx, hb, hml, hown, hts⟩ (m_lay l D H.size cI h0 a0 a1 a2 a3 a4 a5 a6 a7 a8 a9 ab z_12 mm wm fa th se g_13 (g1 (Int32.toNatClampNeg (10 * v + 4))) (by first | decide | exact (by have : (0 : Int32).toInt = 0 := (by decide); have : (2 : Int32).toInt = 2 := (by decide); have := ti_ne c_5; have := ti_lt c_17; have := ti_eq c_19; omega))) (cwV 1 hts gX9_flash_X9_lay rfl rfl rfl (by decide +kernel) ⟨Nat.le_of_ble_eq_true rfl, Nat.le_of_ble_eq_true rfl⟩) (st_preV (ci := 8) (q0 := 1) hP hD hK hNW [1, 0] [0] rfl rfl (by decide) rfl rfl rfl rfl) rfl rfl hl.1 rfl (lv_room (Nat.le_of_ble_eq_true rfl)) dX9_flash_156 ⟨(Nat.le_of_ble_eq_true rfl), (Nat.le_of_ble_eq_true rfl)⟩) (fun u H locs hw hP hD hK hS => ?_)
      obtain ⟨g_21, rfl⟩ : ∃ z, z = u := ⟨_, rfl⟩
      have hP : va_P D vwCl [(a1, .inl (cI, 80, .inl g1)), (h0, .inr (8, [.ref a0, .int (z_12 + 1), .ref a1, .int mm, .ref a2, .ref a3, .ref a4, .ref a5, .ref a6, .ref a7, .int wm, .int fa, .int th, .int se, .ref a8, .ref a9, .ref ab])), (a0, .inl (cI, 120, .inl g_21))] H := hP
      have hD : va_D A [(a1, .inl (cI, 80, .inl g1)), (h0, .inr (8, [.ref a0, .int (z_12 + 1), .ref a1, .int mm, .ref a2, .ref a3, .ref a4, .ref a5, .ref a6, .ref a7, .int wm, .int fa, .int th, .int se, .ref a8, .ref a9, .ref ab])), (a0, .inl (cI, 120, .inl g_21))] := hD
      have hK : va_K D vwCl [(cI, .int)] s := hK
      exact ret_v hx hb hr hlocks (u := (z_12 + 1, g_21)) (by have : (0 : Int32).toInt = 0 := (by decide); have : (2 : Int32).toInt = 2 := (by decide); have := ti_ne c_5; have := ti_lt c_17; have := ti_eq c_19; have k400 : (400 : Int32).toInt = 400 := (by decide); have := ti_up (i := z_12) (n := 400) (by omega); omega) (hP.sub [1, 2, 0] rfl) (hK.sub [] rfl) (hD.sub [1, 2, 0] (by decide) rfl) hS (Nat.le_of_ble_eq_true rfl) (Nat.le_of_ble_eq_true rfl) dX9_flash_159
    refine lv_aload_n hx hb dX9_flash_69 rfl (lv_at hl 3 rfl) ?_
    refine lv_iload_n hx hb dX9_flash_70 rfl (lv_at hl 4 rfl) ?_
    refine lv_iconst (v := 5) hx hb dX9_flash_71 (by decide) ?_
    refine lv_iload_n hx hb dX9_flash_72 rfl (lv_at hl 5 rfl) ?_
    refine lv_iload hx hb dX9_flash_73 (lv_at hl 0 rfl) ?_
    refine lv_ishr hx hb dX9_flash_75 ?_
    refine lv_iconst (v := 1) hx hb dX9_flash_76 (by decide) ?_
    refine lv_iand hx hb dX9_flash_77 ?_
    refine lv_iadd hx hb dX9_flash_78 ?_
    refine go_i (wr := [(a0, .inl (cI, 120, .inl g_13))]) (tysr := [(cI, .int)]) hP hD hS hA hK [1, 0] [2] [0] rfl rfl (by decide) (by decide) rfl (va_runV (As := [.int v, .int (5 + ((w >>> (i_14 &&& 31)) &&& 1))]) (rest := []) ⟨hx, hb, hml, hown, hts⟩ (m_get l D H.size cI h0 a0 a1 a2 a3 a4 a5 a6 a7 a8 a9 ab z_12 mm wm fa th se g1 v (5 + ((w >>> (i_14 &&& 31)) &&& 1)) (by first | assumption | omega) (by have : (0 : Int32).toInt = 0 := (by decide); have : (2 : Int32).toInt = 2 := (by decide); have := ti_ne c_5; have := ti_nlt c_17; have k5 : (5 : Int32).toInt = 5 := (by decide); have u4 := and1 ((w >>> (i_14 &&& 31))); have u5 := ti_ad (x := 5) (y := ((w >>> (i_14 &&& 31))) &&& 1) (by rw [k5]; omega); rw [k5] at u5; omega)) (cwV 2 hts gX9_flash_X9_get rfl rfl rfl (by decide +kernel) ⟨Nat.le_of_ble_eq_true rfl, Nat.le_of_ble_eq_true rfl⟩) (st_preV (ci := 8) (q0 := 1) hP hD hK hNW [1, 0] [0] rfl rfl (by decide) rfl rfl rfl rfl) rfl rfl hl.1 rfl (lv_room (Nat.le_of_ble_eq_true rfl)) dX9_flash_79 ⟨(Nat.le_of_ble_eq_true rfl), (Nat.le_of_ble_eq_true rfl)⟩) (fun r_22 u H locs hw hP hD hK hS => ?_)
    have hw : r_22 = g1 (Int32.toNatClampNeg (10 * v + (5 + ((w >>> (i_14 &&& 31)) &&& 1)))) := hw
    subst hw
    have hP : va_P D vwCl [(a0, .inl (cI, 120, .inl g_13)), (h0, .inr (8, [.ref a0, .int z_12, .ref a1, .int mm, .ref a2, .ref a3, .ref a4, .ref a5, .ref a6, .ref a7, .int wm, .int fa, .int th, .int se, .ref a8, .ref a9, .ref ab])), (a1, .inl (cI, 80, .inl g1))] H := hP
    have hD : va_D A [(a0, .inl (cI, 120, .inl g_13)), (h0, .inr (8, [.ref a0, .int z_12, .ref a1, .int mm, .ref a2, .ref a3, .ref a4, .ref a5, .ref a6, .ref a7, .int wm, .int fa, .int th, .int se, .ref a8, .ref a9, .ref ab])), (a1, .inl (cI, 80, .inl g1))] := hD
    have hK : va_K D vwCl [(cI, .int)] s := hK
    refine lv_istore (lv' := [(6, .int (g1 (Int32.toNatClampNeg (10 * v + (5 + ((w >>> (i_14 &&& 31)) &&& 1)))))), (5, .int i_14), (4, .int (g1 (Int32.toNatClampNeg (10 * v + 4)))), (3, .int (g1 (Int32.toNatClampNeg (10 * v + 1)))), (0, .ref h0), (1, .int v), (2, .int w)]) hx hb dX9_flash_82 hl (by decide) rfl (fun ls hl => ?_)
    refine lv_aload_n hx hb dX9_flash_84 rfl (lv_at hl 4 rfl) ?_
    refine jn_S 101 (fun st9 H locs ls => ∃ (q_23 : Int32), st9 = [.int q_23, .ref h0] ∧ (va_P D vwCl [(a0, .inl (cI, 120, .inl g_13)), (h0, .inr (8, [.ref a0, .int z_12, .ref a1, .int mm, .ref a2, .ref a3, .ref a4, .ref a5, .ref a6, .ref a7, .int wm, .int fa, .int th, .int se, .ref a8, .ref a9, .ref ab])), (a1, .inl (cI, 80, .inl g1))] H ∧ va_D A [(a0, .inl (cI, 120, .inl g_13)), (h0, .inr (8, [.ref a0, .int z_12, .ref a1, .int mm, .ref a2, .ref a3, .ref a4, .ref a5, .ref a6, .ref a7, .int wm, .int fa, .int th, .int se, .ref a8, .ref a9, .ref ab])), (a1, .inl (cI, 80, .inl g1))]) ∧ va_S A s.heap H locs ∧ lv_has ls 7 [(6, .int (g1 (Int32.toNatClampNeg (10 * v + (5 + ((w >>> (i_14 &&& 31)) &&& 1)))))), (5, .int i_14), (4, .int (g1 (Int32.toNatClampNeg (10 * v + 4)))), (3, .int (g1 (Int32.toNatClampNeg (10 * v + 1)))), (0, .ref h0), (1, .int v), (2, .int w)]) ?_ ?_
    · intro st9 H locs ls hI
      obtain ⟨q_23, rfl, ⟨hP, hD⟩, hS, hl⟩ := hI
      refine go_v (wr := [(a1, .inl (cI, 80, .inl g1))]) (tysr := [(cI, .int)]) hP hD hS hA hK [1, 0] [2] [0] rfl rfl (by decide) (by decide) rfl (va_runV (As := [.int q_23]) (rest := []) ⟨hx, hb, hml, hown, hts⟩ (m_lay l D H.size cI h0 a0 a1 a2 a3 a4 a5 a6 a7 a8 a9 ab z_12 mm wm fa th se g_13 q_23 (by first | decide | exact (by have : (0 : Int32).toInt = 0 := (by decide); have : (2 : Int32).toInt = 2 := (by decide); have := ti_ne c_5; have := ti_nlt c_17; omega))) (cwV 1 hts gX9_flash_X9_lay rfl rfl rfl (by decide +kernel) ⟨Nat.le_of_ble_eq_true rfl, Nat.le_of_ble_eq_true rfl⟩) (st_preV (ci := 8) (q0 := 1) hP hD hK hNW [1, 0] [0] rfl rfl (by decide) rfl rfl rfl rfl) rfl rfl hl.1 rfl (lv_room (Nat.le_of_ble_eq_true rfl)) dX9_flash_101 ⟨(Nat.le_of_ble_eq_true rfl), (Nat.le_of_ble_eq_true rfl)⟩) (fun u H locs hw hP hD hK hS => ?_)
      obtain ⟨g_26, rfl⟩ : ∃ z, z = u := ⟨_, rfl⟩
      have hP : va_P D vwCl [(a1, .inl (cI, 80, .inl g1)), (h0, .inr (8, [.ref a0, .int (z_12 + 1), .ref a1, .int mm, .ref a2, .ref a3, .ref a4, .ref a5, .ref a6, .ref a7, .int wm, .int fa, .int th, .int se, .ref a8, .ref a9, .ref ab])), (a0, .inl (cI, 120, .inl g_26))] H := hP
      have hD : va_D A [(a1, .inl (cI, 80, .inl g1)), (h0, .inr (8, [.ref a0, .int (z_12 + 1), .ref a1, .int mm, .ref a2, .ref a3, .ref a4, .ref a5, .ref a6, .ref a7, .int wm, .int fa, .int th, .int se, .ref a8, .ref a9, .ref ab])), (a0, .inl (cI, 120, .inl g_26))] := hD
      have hK : va_K D vwCl [(cI, .int)] s := hK
      refine jn_S 138 (fun st9 H locs ls => ∃ (z_27 : Int32), ∃ (g_28 : Nat → Int32), st9 = [] ∧ (va_P D vwCl [(a1, .inl (cI, 80, .inl g1)), (h0, .inr (8, [.ref a0, .int z_27, .ref a1, .int mm, .ref a2, .ref a3, .ref a4, .ref a5, .ref a6, .ref a7, .int wm, .int fa, .int th, .int se, .ref a8, .ref a9, .ref ab])), (a0, .inl (cI, 120, .inl g_28))] H ∧ va_D A [(a1, .inl (cI, 80, .inl g1)), (h0, .inr (8, [.ref a0, .int z_27, .ref a1, .int mm, .ref a2, .ref a3, .ref a4, .ref a5, .ref a6, .ref a7, .int wm, .int fa, .int th, .int se, .ref a8, .ref a9, .ref ab])), (a0, .inl (cI, 120, .inl g_28))]) ∧ va_S A s.heap H locs ∧ lv_has ls 7 [(6, .int (g1 (Int32.toNatClampNeg (10 * v + (5 + ((w >>> (i_14 &&& 31)) &&& 1)))))), (5, .int i_14), (4, .int (g1 (Int32.toNatClampNeg (10 * v + 4)))), (3, .int (g1 (Int32.toNatClampNeg (10 * v + 1)))), (0, .ref h0), (1, .int v), (2, .int w)] ∧ (0 ≤ z_27.toInt ∧ z_27.toInt + 2 * (i_14).toInt ≤ 2 * (g1 (Int32.toNatClampNeg (10 * v + 1))).toInt + 2)) ?_ ?_
      · intro st9 H locs ls hI
        obtain ⟨z_27, g_28, rfl, ⟨hP, hD⟩, hS, hl, hv_29⟩ := hI
        refine lv_iinc (v := i_14 + (-1)) (lv' := [(5, .int (i_14 + (-1))), (6, .int (g1 (Int32.toNatClampNeg (10 * v + (5 + ((w >>> (i_14 &&& 31)) &&& 1)))))), (4, .int (g1 (Int32.toNatClampNeg (10 * v + 4)))), (3, .int (g1 (Int32.toNatClampNeg (10 * v + 1)))), (0, .ref h0), (1, .int v), (2, .int w)]) hx hb dX9_flash_138 hl (k := 1) rfl rfl (by decide) rfl (fun ls hl => ?_)
        refine lv_goto (tgt := 64) hx hb dX9_flash_141 (by decide) ?_
        exact ih_15 _ _ _ _ (by have : (0 : Int32).toInt = 0 := (by decide); have : (2 : Int32).toInt = 2 := (by decide); have := ti_ne c_5; have := ti_nlt c_17; have u0 := hv_29; have u1 := ti_am1 (i := i_14) (by omega); omega) ⟨z_27, g_28, i_14 + (-1), rfl, ⟨hP, hD⟩, hS, lv_sub hl [0, 2, 3, 4, 5, 6] rfl, ⟨(by have : (0 : Int32).toInt = 0 := (by decide); have : (2 : Int32).toInt = 2 := (by decide); have := ti_ne c_5; have := ti_nlt c_17; have u0 := hv_29; have u1 := ti_am1 (i := i_14) (by omega); omega), (by have : (0 : Int32).toInt = 0 := (by decide); have : (2 : Int32).toInt = 2 := (by decide); have := ti_ne c_5; have := ti_nlt c_17; have u0 := hv_29; have u1 := ti_am1 (i := i_14) (by omega); omega), (by have : (0 : Int32).toInt = 0 := (by decide); have : (2 : Int32).toInt = 2 := (by decide); have := ti_ne c_5; have := ti_nlt c_17; have u0 := hv_29; have u1 := ti_am1 (i := i_14) (by omega); omega)⟩⟩
      · intro hJ_30
        refine lv_aload_n hx hb dX9_flash_104 rfl (lv_at hl 4 rfl) ?_
        refine lv_iload_n hx hb dX9_flash_105 rfl (lv_at hl 5 rfl) ?_
        refine lv_iconst (v := 0) hx hb dX9_flash_106 (by decide) ?_
        refine go_i (wr := [(a0, .inl (cI, 120, .inl g_26))]) (tysr := [(cI, .int)]) hP hD hS hA hK [1, 0] [2] [0] rfl rfl (by decide) (by decide) rfl (va_runV (As := [.int v, .int 0]) (rest := []) ⟨hx, hb, hml, hown, hts⟩ (m_get l D H.size cI h0 a0 a1 a2 a3 a4 a5 a6 a7 a8 a9 ab (z_12 + 1) mm wm fa th se g1 v 0 (by first | assumption | decide | omega) (by first | assumption | decide | omega)) (cwV 2 hts gX9_flash_X9_get rfl rfl rfl (by decide +kernel) ⟨Nat.le_of_ble_eq_true rfl, Nat.le_of_ble_eq_true rfl⟩) (st_preV (ci := 8) (q0 := 1) hP hD hK hNW [1, 0] [0] rfl rfl (by decide) rfl rfl rfl rfl) rfl rfl hl.1 rfl (lv_room (Nat.le_of_ble_eq_true rfl)) dX9_flash_107 ⟨(Nat.le_of_ble_eq_true rfl), (Nat.le_of_ble_eq_true rfl)⟩) (fun r_31 u H locs hw hP hD hK hS => ?_)
        have hw : r_31 = g1 (Int32.toNatClampNeg (10 * v + 0)) := hw
        subst hw
        have hP : va_P D vwCl [(a0, .inl (cI, 120, .inl g_26)), (h0, .inr (8, [.ref a0, .int (z_12 + 1), .ref a1, .int mm, .ref a2, .ref a3, .ref a4, .ref a5, .ref a6, .ref a7, .int wm, .int fa, .int th, .int se, .ref a8, .ref a9, .ref ab])), (a1, .inl (cI, 80, .inl g1))] H := hP
        have hD : va_D A [(a0, .inl (cI, 120, .inl g_26)), (h0, .inr (8, [.ref a0, .int (z_12 + 1), .ref a1, .int mm, .ref a2, .ref a3, .ref a4, .ref a5, .ref a6, .ref a7, .int wm, .int fa, .int th, .int se, .ref a8, .ref a9, .ref ab])), (a1, .inl (cI, 80, .inl g1))] := hD
        have hK : va_K D vwCl [(cI, .int)] s := hK
        refine lv_if_eq (tgt := 118) hx hb dX9_flash_110 (by decide) (fun c_32 => ?_) (fun c_32 => ?_)
        · refine lv_aload_n hx hb dX9_flash_118 rfl (lv_at hl 4 rfl) ?_
          refine lv_aload_n hx hb dX9_flash_119 rfl (lv_at hl 4 rfl) ?_
          refine lv_iload_n hx hb dX9_flash_120 rfl (lv_at hl 5 rfl) ?_
          refine lv_iconst (v := 0) hx hb dX9_flash_121 (by decide) ?_
          refine go_i (wr := [(a0, .inl (cI, 120, .inl g_26))]) (tysr := [(cI, .int)]) hP hD hS hA hK [1, 2] [0] [0] rfl rfl (by decide) (by decide) rfl (va_runV (As := [.int v, .int 0]) (rest := [.ref h0]) ⟨hx, hb, hml, hown, hts⟩ (m_get l D H.size cI h0 a0 a1 a2 a3 a4 a5 a6 a7 a8 a9 ab (z_12 + 1) mm wm fa th se g1 v 0 (by first | assumption | decide | omega) (by first | assumption | decide | omega)) (cwV 2 hts gX9_flash_X9_get rfl rfl rfl (by decide +kernel) ⟨Nat.le_of_ble_eq_true rfl, Nat.le_of_ble_eq_true rfl⟩) (st_preV (ci := 8) (q0 := 1) hP hD hK hNW [1, 2] [0] rfl rfl (by decide) rfl rfl rfl rfl) rfl rfl hl.1 rfl (lv_room (Nat.le_of_ble_eq_true rfl)) dX9_flash_122 ⟨(Nat.le_of_ble_eq_true rfl), (Nat.le_of_ble_eq_true rfl)⟩) (fun r_33 u H locs hw hP hD hK hS => ?_)
          have hw : r_33 = g1 (Int32.toNatClampNeg (10 * v + 0)) := hw
          subst hw
          have hP : va_P D vwCl [(a0, .inl (cI, 120, .inl g_26)), (h0, .inr (8, [.ref a0, .int (z_12 + 1), .ref a1, .int mm, .ref a2, .ref a3, .ref a4, .ref a5, .ref a6, .ref a7, .int wm, .int fa, .int th, .int se, .ref a8, .ref a9, .ref ab])), (a1, .inl (cI, 80, .inl g1))] H := hP
          have hD : va_D A [(a0, .inl (cI, 120, .inl g_26)), (h0, .inr (8, [.ref a0, .int (z_12 + 1), .ref a1, .int mm, .ref a2, .ref a3, .ref a4, .ref a5, .ref a6, .ref a7, .int wm, .int fa, .int th, .int se, .ref a8, .ref a9, .ref ab])), (a1, .inl (cI, 80, .inl g1))] := hD
          have hK : va_K D vwCl [(cI, .int)] s := hK
          refine lv_if_ne (tgt := 133) hx hb dX9_flash_125 (by decide) (fun c_34 => ?_) (fun c_34 => ?_)
          · refine lv_iload hx hb dX9_flash_133 (lv_at hl 2 rfl) ?_
            refine go_v (wr := [(a1, .inl (cI, 80, .inl g1))]) (tysr := [(cI, .int)]) hP hD hS hA hK [1, 0] [2] [0] rfl rfl (by decide) (by decide) rfl (va_runV (As := [.int (g1 (Int32.toNatClampNeg (10 * v + 4)))]) (rest := []) ⟨hx, hb, hml, hown, hts⟩ (m_lay l D H.size cI h0 a0 a1 a2 a3 a4 a5 a6 a7 a8 a9 ab (z_12 + 1) mm wm fa th se g_26 (g1 (Int32.toNatClampNeg (10 * v + 4))) (by first | decide | exact (by have : (0 : Int32).toInt = 0 := (by decide); have : (2 : Int32).toInt = 2 := (by decide); have := ti_ne c_5; have := ti_nlt c_17; have := ti_eq c_32; have := ti_ne c_34; have k400 : (400 : Int32).toInt = 400 := (by decide); have := ti_up (i := z_12) (n := 400) (by omega); omega))) (cwV 1 hts gX9_flash_X9_lay rfl rfl rfl (by decide +kernel) ⟨Nat.le_of_ble_eq_true rfl, Nat.le_of_ble_eq_true rfl⟩) (st_preV (ci := 8) (q0 := 1) hP hD hK hNW [1, 0] [0] rfl rfl (by decide) rfl rfl rfl rfl) rfl rfl hl.1 rfl (lv_room (Nat.le_of_ble_eq_true rfl)) dX9_flash_135 ⟨(Nat.le_of_ble_eq_true rfl), (Nat.le_of_ble_eq_true rfl)⟩) (fun u H locs hw hP hD hK hS => ?_)
            obtain ⟨g_36, rfl⟩ : ∃ z, z = u := ⟨_, rfl⟩
            have hP : va_P D vwCl [(a1, .inl (cI, 80, .inl g1)), (h0, .inr (8, [.ref a0, .int ((z_12 + 1) + 1), .ref a1, .int mm, .ref a2, .ref a3, .ref a4, .ref a5, .ref a6, .ref a7, .int wm, .int fa, .int th, .int se, .ref a8, .ref a9, .ref ab])), (a0, .inl (cI, 120, .inl g_36))] H := hP
            have hD : va_D A [(a1, .inl (cI, 80, .inl g1)), (h0, .inr (8, [.ref a0, .int ((z_12 + 1) + 1), .ref a1, .int mm, .ref a2, .ref a3, .ref a4, .ref a5, .ref a6, .ref a7, .int wm, .int fa, .int th, .int se, .ref a8, .ref a9, .ref ab])), (a0, .inl (cI, 120, .inl g_36))] := hD
            have hK : va_K D vwCl [(cI, .int)] s := hK
            exact hJ_30 _ _ _ _ ⟨(z_12 + 1) + 1, g_36, rfl, ⟨hP, hD⟩, hS, lv_sub hl [0, 1, 2, 3, 4, 5, 6] rfl, ⟨(by have : (0 : Int32).toInt = 0 := (by decide); have : (2 : Int32).toInt = 2 := (by decide); have := ti_ne c_5; have := ti_nlt c_17; have := ti_eq c_32; have := ti_ne c_34; have k400 : (400 : Int32).toInt = 400 := (by decide); have := ti_up (i := z_12) (n := 400) (by omega); have := ti_up (i := z_12 + 1)) (n := 400) (by omega); omega), (by have : (0 : Int32).toInt = 0 := (by decide); have : (2 : Int32).toInt = 2 := (by decide); have := ti_ne c_5; have := ti_nlt c_17; have := ti_eq c_32; have := ti_ne c_34; have k400 : (400 : Int32).toInt = 400 := (by decide); have := ti_up (i := z_12) (n := 400) (by omega); have := ti_up (i := z_12 + 1)) (n := 400) (by omega); omega)⟩⟩
          refine lv_iload hx hb dX9_flash_128 (lv_at hl 0 rfl) ?_
          refine lv_goto (tgt := 135) hx hb dX9_flash_130 (by decide) ?_
          refine go_v (wr := [(a1, .inl (cI, 80, .inl g1))]) (tysr := [(cI, .int)]) hP hD hS hA hK [1, 0] [2] [0] rfl rfl (by decide) (by decide) rfl (va_runV (As := [.int (g1 (Int32.toNatClampNeg (10 * v + (5 + ((w >>> (i_14 &&& 31)) &&& 1)))))]) (rest := []) ⟨hx, hb, hml, hown, hts⟩ (m_lay l D H.size cI h0 a0 a1 a2 a3 a4 a5 a6 a7 a8 a9 ab (z_12 + 1) mm wm fa th se g_26 (g1 (Int32.toNatClampNeg (10 * v + (5 + ((w >>> (i_14 &&& 31)) &&& 1))))) (by first | decide | exact (by have : (0 : Int32).toInt = 0 := (by decide); have : (2 : Int32).toInt = 2 := (by decide); have := ti_ne c_5; have := ti_nlt c_17; have := ti_eq c_32; have := ti_eq c_34; have k400 : (400 : Int32).toInt = 400 := (by decide); have := ti_up (i := z_12) (n := 400) (by omega); omega))) (cwV 1 hts gX9_flash_X9_lay rfl rfl rfl (by decide +kernel) ⟨Nat.le_of_ble_eq_true rfl, Nat.le_of_ble_eq_true rfl⟩) (st_preV (ci := 8) (q0 := 1) hP hD hK hNW [1, 0] [0] rfl rfl (by decide) rfl rfl rfl rfl) rfl rfl hl.1 rfl (lv_room (Nat.le_of_ble_eq_true rfl)) dX9_flash_135 ⟨(Nat.le_of_ble_eq_true rfl), (Nat.le_of_ble_eq_true rfl)⟩) (fun u H locs hw hP hD hK hS => ?_)
          obtain ⟨g_38, rfl⟩ : ∃ z, z = u := ⟨_, rfl⟩
          have hP : va_P D vwCl [(a1, .inl (cI, 80, .inl g1)), (h0, .inr (8, [.ref a0, .int ((z_12 + 1) + 1), .ref a1, .int mm, .ref a2, .ref a3, .ref a4, .ref a5, .ref a6, .ref a7, .int wm, .int fa, .int th, .int se, .ref a8, .ref a9, .ref ab])), (a0, .inl (cI, 120, .inl g_38))] H := hP
          have hD : va_D A [(a1, .inl (cI, 80, .inl g1)), (h0, .inr (8, [.ref a0, .int ((z_12 + 1) + 1), .ref a1, .int mm, .ref a2, .ref a3, .ref a4, .ref a5, .ref a6, .ref a7, .int wm, .int fa, .int th, .int se, .ref a8, .ref a9, .ref ab])), (a0, .inl (cI, 120, .inl g_38))] := hD
          have hK : va_K D vwCl [(cI, .int)] s := hK
          exact hJ_30 _ _ _ _ ⟨(z_12 + 1) + 1, g_38, rfl, ⟨hP, hD⟩, hS, lv_sub hl [0, 1, 2, 3, 4, 5, 6] rfl, ⟨(by have : (0 : Int32).toInt = 0 := (by decide); have : (2 : Int32).toInt = 2 := (by decide); have := ti_ne c_5; have := ti_nlt c_17; have := ti_eq c_32; have := ti_eq c_34; have k400 : (400 : Int32).toInt = 400 := (by decide); have := ti_up (i := z_12) (n := 400) (by omega); have := ti_up (i := z_12 + 1)) (n := 400) (by omega); omega), (by have : (0 : Int32).toInt = 0 := (by decide); have : (2 : Int32).toInt = 2 := (by decide); have := ti_ne c_5; have := ti_nlt c_17; have := ti_eq c_32; have := ti_eq c_34; have k400 : (400 : Int32).toInt = 400 := (by decide); have := ti_up (i := z_12) (n := 400) (by omega); have := ti_up (i := z_12 + 1)) (n := 400) (by omega); omega)⟩⟩
        refine lv_iload hx hb dX9_flash_113 (lv_at hl 1 rfl) ?_
        refine lv_if_le (tgt := 138) hx hb dX9_flash_115 (by decide) (fun c_39 => ?_) (fun c_39 => ?_)
        · exact hJ_30 _ _ _ _ ⟨(z_12 + 1), g_26, rfl, ⟨hP.sub [2, 1, 0] rfl, hD.sub [2, 1, 0] (by decide) rfl⟩, hS, lv_sub hl [0, 1, 2, 3, 4, 5, 6] rfl, ⟨(by have : (0 : Int32).toInt = 0 := (by decide); have : (2 : Int32).toInt = 2 := (by decide); have := ti_ne c_5; have := ti_nlt c_17; have := ti_ne c_32; have := ti_le c_39; have k400 : (400 : Int32).toInt = 400 := (by decide); have := ti_up (i := z_12) (n := 400) (by omega); omega), (by have : (0 : Int32).toInt = 0 := (by decide); have : (2 : Int32).toInt = 2 := (by decide); have := ti_ne c_5; have := ti_nlt c_17; have := ti_ne c_32; have := ti_le c_39; have k400 : (400 : Int32).toInt = 400 := (by decide); have := ti_up (i := z_12) (n := 400) (by omega); omega)⟩⟩
        refine lv_aload_n hx hb dX9_flash_118 rfl (lv_at hl 4 rfl) ?_
        refine lv_aload_n hx hb dX9_flash_119 rfl (lv_at hl 4 rfl) ?_
        refine lv_iload_n hx hb dX9_flash_120 rfl (lv_at hl 5 rfl) ?_
        refine lv_iconst (v := 0) hx hb dX9_flash_121 (by decide) ?_
        refine go_i (wr := [(a0, .inl (cI, 120, .inl g_26))]) (tysr := [(cI, .int)]) hP hD hS hA hK [1, 2] [0] [0] rfl rfl (by decide) (by decide) rfl (va_runV (As := [.int v, .int 0]) (rest := [.ref h0]) ⟨hx, hb, hml, hown, hts⟩ (m_get l D H.size cI h0 a0 a1 a2 a3 a4 a5 a6 a7 a8 a9 ab (z_12 + 1) mm wm fa th se g1 v 0 (by first | assumption | decide | omega) (by first | assumption | decide | omega)) (cwV 2 hts gX9_flash_X9_get rfl rfl rfl (by decide +kernel) ⟨Nat.le_of_ble_eq_true rfl, Nat.le_of_ble_eq_true rfl⟩) (st_preV (ci := 8) (q0 := 1) hP hD hK hNW [1, 2] [0] rfl rfl (by decide) rfl rfl rfl rfl) rfl rfl hl.1 rfl (lv_room (Nat.le_of_ble_eq_true rfl)) dX9_flash_122 ⟨(Nat.le_of_ble_eq_true rfl), (Nat.le_of_ble_eq_true rfl)⟩) (fun r_40 u H locs hw hP hD hK hS => ?_)
        have hw : r_40 = g1 (Int32.toNatClampNeg (10 * v + 0)) := hw
        subst hw
        have hP : va_P D vwCl [(a0, .inl (cI, 120, .inl g_26)), (h0, .inr (8, [.ref a0, .int (z_12 + 1), .ref a1, .int mm, .ref a2, .ref a3, .ref a4, .ref a5, .ref a6, .ref a7, .int wm, .int fa, .int th, .int se, .ref a8, .ref a9, .ref ab])), (a1, .inl (cI, 80, .inl g1))] H := hP
        have hD : va_D A [(a0, .inl (cI, 120, .inl g_26)), (h0, .inr (8, [.ref a0, .int (z_12 + 1), .ref a1, .int mm, .ref a2, .ref a3, .ref a4, .ref a5, .ref a6, .ref a7, .int wm, .int fa, .int th, .int se, .ref a8, .ref a9, .ref ab])), (a1, .inl (cI, 80, .inl g1))] := hD
        have hK : va_K D vwCl [(cI, .int)] s := hK
        refine lv_if_ne (tgt := 133) hx hb dX9_flash_125 (by decide) (fun c_41 => ?_) (fun c_41 => ?_)
        · refine lv_iload hx hb dX9_flash_133 (lv_at hl 2 rfl) ?_
          refine go_v (wr := [(a1, .inl (cI, 80, .inl g1))]) (tysr := [(cI, .int)]) hP hD hS hA hK [1, 0] [2] [0] rfl rfl (by decide) (by decide) rfl (va_runV (As := [.int (g1 (Int32.toNatClampNeg (10 * v + 4)))]) (rest := []) ⟨hx, hb, hml, hown, hts⟩ (m_lay l D H.size cI h0 a0 a1 a2 a3 a4 a5 a6 a7 a8 a9 ab (z_12 + 1) mm wm fa th se g_26 (g1 (Int32.toNatClampNeg (10 * v + 4))) (by first | decide | exact (by have : (0 : Int32).toInt = 0 := (by decide); have : (2 : Int32).toInt = 2 := (by decide); have := ti_ne c_5; have := ti_nlt c_17; have := ti_ne c_32; have := ti_nle c_39; have := ti_ne c_41; have k400 : (400 : Int32).toInt = 400 := (by decide); have := ti_up (i := z_12) (n := 400) (by omega); omega))) (cwV 1 hts gX9_flash_X9_lay rfl rfl rfl (by decide +kernel) ⟨Nat.le_of_ble_eq_true rfl, Nat.le_of_ble_eq_true rfl⟩) (st_preV (ci := 8) (q0 := 1) hP hD hK hNW [1, 0] [0] rfl rfl (by decide) rfl rfl rfl rfl) rfl rfl hl.1 rfl (lv_room (Nat.le_of_ble_eq_true rfl)) dX9_flash_135 ⟨(Nat.le_of_ble_eq_true rfl), (Nat.le_of_ble_eq_true rfl)⟩) (fun u H locs hw hP hD hK hS => ?_)
          obtain ⟨g_43, rfl⟩ : ∃ z, z = u := ⟨_, rfl⟩
          have hP : va_P D vwCl [(a1, .inl (cI, 80, .inl g1)), (h0, .inr (8, [.ref a0, .int ((z_12 + 1) + 1), .ref a1, .int mm, .ref a2, .ref a3, .ref a4, .ref a5, .ref a6, .ref a7, .int wm, .int fa, .int th, .int se, .ref a8, .ref a9, .ref ab])), (a0, .inl (cI, 120, .inl g_43))] H := hP
          have hD : va_D A [(a1, .inl (cI, 80, .inl g1)), (h0, .inr (8, [.ref a0, .int ((z_12 + 1) + 1), .ref a1, .int mm, .ref a2, .ref a3, .ref a4, .ref a5, .ref a6, .ref a7, .int wm, .int fa, .int th, .int se, .ref a8, .ref a9, .ref ab])), (a0, .inl (cI, 120, .inl g_43))] := hD
          have hK : va_K D vwCl [(cI, .int)] s := hK
          exact hJ_30 _ _ _ _ ⟨(z_12 + 1) + 1, g_43, rfl, ⟨hP, hD⟩, hS, lv_sub hl [0, 1, 2, 3, 4, 5, 6] rfl, ⟨(by have : (0 : Int32).toInt = 0 := (by decide); have : (2 : Int32).toInt = 2 := (by decide); have := ti_ne c_5; have := ti_nlt c_17; have := ti_ne c_32; have := ti_nle c_39; have := ti_ne c_41; have k400 : (400 : Int32).toInt = 400 := (by decide); have := ti_up (i := z_12) (n := 400) (by omega); have := ti_up (i := z_12 + 1)) (n := 400) (by omega); omega), (by have : (0 : Int32).toInt = 0 := (by decide); have : (2 : Int32).toInt = 2 := (by decide); have := ti_ne c_5; have := ti_nlt c_17; have := ti_ne c_32; have := ti_nle c_39; have := ti_ne c_41; have k400 : (400 : Int32).toInt = 400 := (by decide); have := ti_up (i := z_12) (n := 400) (by omega); have := ti_up (i := z_12 + 1)) (n := 400) (by omega); omega)⟩⟩
        refine lv_iload hx hb dX9_flash_128 (lv_at hl 0 rfl) ?_
        refine lv_goto (tgt := 135) hx hb dX9_flash_130 (by decide) ?_
        refine go_v (wr := [(a1, .inl (cI, 80, .inl g1))]) (tysr := [(cI, .int)]) hP hD hS hA hK [1, 0] [2] [0] rfl rfl (by decide) (by decide) rfl (va_runV (As := [.int (g1 (Int32.toNatClampNeg (10 * v + (5 + ((w >>> (i_14 &&& 31)) &&& 1)))))]) (rest := []) ⟨hx, hb, hml, hown, hts⟩ (m_lay l D H.size cI h0 a0 a1 a2 a3 a4 a5 a6 a7 a8 a9 ab (z_12 + 1) mm wm fa th se g_26 (g1 (Int32.toNatClampNeg (10 * v + (5 + ((w >>> (i_14 &&& 31)) &&& 1))))) (by first | decide | exact (by have : (0 : Int32).toInt = 0 := (by decide); have : (2 : Int32).toInt = 2 := (by decide); have := ti_ne c_5; have := ti_nlt c_17; have := ti_ne c_32; have := ti_nle c_39; have := ti_eq c_41; have k400 : (400 : Int32).toInt = 400 := (by decide); have := ti_up (i := z_12) (n := 400) (by omega); omega))) (cwV 1 hts gX9_flash_X9_lay rfl rfl rfl (by decide +kernel) ⟨Nat.le_of_ble_eq_true rfl, Nat.le_of_ble_eq_true rfl⟩) (st_preV (ci := 8) (q0 := 1) hP hD hK hNW [1, 0] [0] rfl rfl (by decide) rfl rfl rfl rfl) rfl rfl hl.1 rfl (lv_room (Nat.le_of_ble_eq_true rfl)) dX9_flash_135 ⟨(Nat.le_of_ble_eq_true rfl), (Nat.le_of_ble_eq_true rfl)⟩) (fun u H locs hw hP hD hK hS => ?_)
        obtain ⟨g_45, rfl⟩ : ∃ z, z = u := ⟨_, rfl⟩
        have hP : va_P D vwCl [(a1, .inl (cI, 80, .inl g1)), (h0, .inr (8, [.ref a0, .int ((z_12 + 1) + 1), .ref a1, .int mm, .ref a2, .ref a3, .ref a4, .ref a5, .ref a6, .ref a7, .int wm, .int fa, .int th, .int se, .ref a8, .ref a9, .ref ab])), (a0, .inl (cI, 120, .inl g_45))] H := hP
        have hD : va_D A [(a1, .inl (cI, 80, .inl g1)), (h0, .inr (8, [.ref a0, .int ((z_12 + 1) + 1), .ref a1, .int mm, .ref a2, .ref a3, .ref a4, .ref a5, .ref a6, .ref a7, .int wm, .int fa, .int th, .int se, .ref a8, .ref a9, .ref ab])), (a0, .inl (cI, 120, .inl g_45))] := hD
        have hK : va_K D vwCl [(cI, .int)] s := hK
        exact hJ_30 _ _ _ _ ⟨(z_12 + 1) + 1, g_45, rfl, ⟨hP, hD⟩, hS, lv_sub hl [0, 1, 2, 3, 4, 5, 6] rfl, ⟨(by have : (0 : Int32).toInt = 0 := (by decide); have : (2 : Int32).toInt = 2 := (by decide); have := ti_ne c_5; have := ti_nlt c_17; have := ti_ne c_32; have := ti_nle c_39; have := ti_eq c_41; have k400 : (400 : Int32).toInt = 400 := (by decide); have := ti_up (i := z_12) (n := 400) (by omega); have := ti_up (i := z_12 + 1)) (n := 400) (by omega); omega), (by have : (0 : Int32).toInt = 0 := (by decide); have : (2 : Int32).toInt = 2 := (by decide); have := ti_ne c_5; have := ti_nlt c_17; have := ti_ne c_32; have := ti_nle c_39; have := ti_eq c_41; have k400 : (400 : Int32).toInt = 400 := (by decide); have := ti_up (i := z_12) (n := 400) (by omega); have := ti_up (i := z_12 + 1)) (n := 400) (by omega); omega)⟩⟩
    · intro hJ_46
      refine lv_aload_n hx hb dX9_flash_85 rfl (lv_at hl 4 rfl) ?_
      refine lv_iload_n hx hb dX9_flash_86 rfl (lv_at hl 5 rfl) ?_
      refine lv_iconst (v := 0) hx hb dX9_flash_87 (by decide) ?_
      refine go_i (wr := [(a0, .inl (cI, 120, .inl g_13))]) (tysr := [(cI, .int)]) hP hD hS hA hK [1, 2] [0] [0] rfl rfl (by decide) (by decide) rfl (va_runV (As := [.int v, .int 0]) (rest := [.ref h0]) ⟨hx, hb, hml, hown, hts⟩ (m_get l D H.size cI h0 a0 a1 a2 a3 a4 a5 a6 a7 a8 a9 ab z_12 mm wm fa th se g1 v 0 (by first | assumption | decide | omega) (by first | assumption | decide | omega)) (cwV 2 hts gX9_flash_X9_get rfl rfl rfl (by decide +kernel) ⟨Nat.le_of_ble_eq_true rfl, Nat.le_of_ble_eq_true rfl⟩) (st_preV (ci := 8) (q0 := 1) hP hD hK hNW [1, 2] [0] rfl rfl (by decide) rfl rfl rfl rfl) rfl rfl hl.1 rfl (lv_room (Nat.le_of_ble_eq_true rfl)) dX9_flash_88 ⟨(Nat.le_of_ble_eq_true rfl), (Nat.le_of_ble_eq_true rfl)⟩) (fun r_47 u H locs hw hP hD hK hS => ?_)
      have hw : r_47 = g1 (Int32.toNatClampNeg (10 * v + 0)) := hw
      subst hw
      have hP : va_P D vwCl [(a0, .inl (cI, 120, .inl g_13)), (h0, .inr (8, [.ref a0, .int z_12, .ref a1, .int mm, .ref a2, .ref a3, .ref a4, .ref a5, .ref a6, .ref a7, .int wm, .int fa, .int th, .int se, .ref a8, .ref a9, .ref ab])), (a1, .inl (cI, 80, .inl g1))] H := hP
      have hD : va_D A [(a0, .inl (cI, 120, .inl g_13)), (h0, .inr (8, [.ref a0, .int z_12, .ref a1, .int mm, .ref a2, .ref a3, .ref a4, .ref a5, .ref a6, .ref a7, .int wm, .int fa, .int th, .int se, .ref a8, .ref a9, .ref ab])), (a1, .inl (cI, 80, .inl g1))] := hD
      have hK : va_K D vwCl [(cI, .int)] s := hK
      refine lv_if_ne (tgt := 99) hx hb dX9_flash_91 (by decide) (fun c_48 => ?_) (fun c_48 => ?_)
      · refine lv_iload hx hb dX9_flash_99 (lv_at hl 0 rfl) ?_
        exact hJ_46 _ _ _ _ ⟨g1 (Int32.toNatClampNeg (10 * v + (5 + ((w >>> (i_14 &&& 31)) &&& 1)))), rfl, ⟨hP, hD⟩, hS, lv_sub hl [0, 1, 2, 3, 4, 5, 6] rfl⟩
      refine lv_iload hx hb dX9_flash_94 (lv_at hl 2 rfl) ?_
      refine lv_goto (tgt := 101) hx hb dX9_flash_96 (by decide) ?_
      exact hJ_46 _ _ _ _ ⟨g1 (Int32.toNatClampNeg (10 * v + 4)), rfl, ⟨hP, hD⟩, hS, lv_sub hl [0, 1, 2, 3, 4, 5, 6] rfl⟩
  refine lv_aload_n hx hb dX9_flash_30 rfl (lv_at hl 2 rfl) ?_
  refine lv_iload_n hx hb dX9_flash_31 rfl (lv_at hl 1 rfl) ?_
  refine lv_iload_n hx hb dX9_flash_32 rfl (lv_at hl 4 rfl) ?_
  refine lv_iload hx hb dX9_flash_33 (lv_at hl 0 rfl) ?_
  refine go_v (wr := [(a1, .inl (cI, 80, .inl g1))]) (tysr := [(cI, .int)]) hP hD hS hA hK [1, 0] [2] [0] rfl rfl (by decide) (by decide) rfl (va_runV (As := [.int (g1 (Int32.toNatClampNeg (10 * v + 1))), .int w, .int (g1 (Int32.toNatClampNeg (10 * v + 4)))]) (rest := []) ⟨hx, hb, hml, hown, hts⟩ (m_layHalves l D H.size cI h0 a0 a1 a2 a3 a4 a5 a6 a7 a8 a9 ab 0 mm wm fa th se g0 (g1 (Int32.toNatClampNeg (10 * v + 1))) w (g1 (Int32.toNatClampNeg (10 * v + 4))) (by first | assumption | decide | omega) (by first | assumption | decide | omega)) (cwV 3 hts gX9_flash_X9_layHalves rfl rfl rfl (by decide +kernel) ⟨Nat.le_of_ble_eq_true rfl, Nat.le_of_ble_eq_true rfl⟩) (st_preV (ci := 8) (q0 := 1) hP hD hK hNW [1, 0] [0] rfl rfl (by decide) rfl rfl rfl rfl) rfl rfl hl.1 rfl (lv_room (Nat.le_of_ble_eq_true rfl)) dX9_flash_35 ⟨(Nat.le_of_ble_eq_true rfl), (Nat.le_of_ble_eq_true rfl)⟩) (fun u H locs hw hP hD hK hS => ?_)
  obtain ⟨tk_50, g_51⟩ := u
  have hw : bi tk_50 0 120 := hw
  have hw_52 := hw
  have hP : va_P D vwCl [(a1, .inl (cI, 80, .inl g1)), (h0, .inr (8, [.ref a0, .int tk_50, .ref a1, .int mm, .ref a2, .ref a3, .ref a4, .ref a5, .ref a6, .ref a7, .int wm, .int fa, .int th, .int se, .ref a8, .ref a9, .ref ab])), (a0, .inl (cI, 120, .inl g_51))] H := hP
  have hD : va_D A [(a1, .inl (cI, 80, .inl g1)), (h0, .inr (8, [.ref a0, .int tk_50, .ref a1, .int mm, .ref a2, .ref a3, .ref a4, .ref a5, .ref a6, .ref a7, .int wm, .int fa, .int th, .int se, .ref a8, .ref a9, .ref ab])), (a0, .inl (cI, 120, .inl g_51))] := hD
  have hK : va_K D vwCl [(cI, .int)] s := hK
  exact ret_v hx hb hr hlocks (u := (tk_50, g_51)) hw_52 (hP.sub [1, 2, 0] rfl) (hK.sub [] rfl) (hD.sub [1, 2, 0] (by decide) rfl) hS (Nat.le_of_ble_eq_true rfl) (Nat.le_of_ble_eq_true rfl) dX9_flash_38
theorem him_send_X9 : ∀ w ∈ wsX90, w ∈ wsX9_send := mem_pl [33, 34, 35, 36, 37, 38, 39, 40, 41, 42, 43, 44, 45, 46, 47, 48, 49] rfl
set_option maxHeartbeats 4000000 in
set_option maxRecDepth 100000 in
theorem m_send (l : Launch) (D : va_G) (sz : Nat) (cI : ClassId) (h0 : Nat) (a0 : Nat) (a1 : Nat) (a2 : Nat) (a3 : Nat) (a4 : Nat) (a5 : Nat) (a6 : Nat) (a7 : Nat) (a8 : Nat) (a9 : Nat) (ab : Nat) (tk : Int32) (mm : Int32) (wm : Int32) (fa : Int32) (th : Int32) (se : Int32) (g0 : Nat → Int32) (g1 : Nat → Int32) (v : Int32) (w : Int32) (hk : bi tk 0 120) (hmm : bi mm 0 8) (hmg : MKG g1 mm) : Ci l yX9_send wsX9_send ({ frames := 3, cells := 0, slots := 0, locals := 75 } : Room) D [.ref h0, .int v, .int w] [(h0, .inr (8, [.ref a0, .int tk, .ref a1, .int mm, .ref a2, .ref a3, .ref a4, .ref a5, .ref a6, .ref a7, .int wm, .int fa, .int th, .int se, .ref a8, .ref a9, .ref ab])), (a0, .inl (cI, 120, .inl g0)), (a1, .inl (cI, 80, .inl g1))] [(cI, .int)] sz (fun (r : Int32) => fun (u9 : Int32 × Int32 × (Nat → Int32)) => match u9 with | (tk2, th2, g02) => bi tk2 0 120) (fun (u9 : Int32 × Int32 × (Nat → Int32)) => match u9 with | (tk2, th2, g02) => [(h0, .inr (8, [.ref a0, .int tk2, .ref a1, .int mm, .ref a2, .ref a3, .ref a4, .ref a5, .ref a6, .ref a7, .int wm, .int fa, .int th2, .int se, .ref a8, .ref a9, .ref ab])), (a0, .inl (cI, 120, .inl g02)), (a1, .inl (cI, 80, .inl g1))]) (fun (u9 : Int32 × Int32 × (Nat → Int32)) => match u9 with | (tk2, th2, g02) => []) := by
  refine ct_i (cc := cX9_send) (maxL := 3) (ret := (some .int)) (by decide) rfl (Nat.le_of_ble_eq_true rfl) ?_
  intro p e s m below meth c A ls H hx hb hr hts hown hml hlocks hin hA hS hP hK hD hNW hl hAe hsz
  have hl : lv_has ls 3 [(0, .ref h0), (1, .int v), (2, .int w)] := hl
  refine lv_aload_n hx hb dX9_send_0 rfl (lv_at hl 0 rfl) ?_
  refine lv_iconst (v := 0) hx hb dX9_send_1 (by decide) ?_
  refine va_put (D := D) (ci := 8) (v := .int 0) (ty := .int) (C := RX9) (T := TX9) (N := 17) hx hb hts him_send_X9 tyX9 tyX9_ok nmX9 hown hK hP hD hS 0 rfl rfl 12 (by decide) (hts (.fieldLink RX9 43 "OneHandsetModel" "thrown" "I") (List.mem_of_getElem? (i := 1) rfl)) (fun _ h9 => h9) rfl (by decide +kernel) rfl rfl (Nat.le_of_ble_eq_true rfl) dX9_send_2 (fun H locs hP hD hS => ?_)
  have hP : va_P D vwCl [(h0, .inr (8, [.ref a0, .int tk, .ref a1, .int mm, .ref a2, .ref a3, .ref a4, .ref a5, .ref a6, .ref a7, .int wm, .int fa, .int 0, .int se, .ref a8, .ref a9, .ref ab])), (a0, .inl (cI, 120, .inl g0)), (a1, .inl (cI, 80, .inl g1))] H := hP
  have hD : va_D A [(h0, .inr (8, [.ref a0, .int tk, .ref a1, .int mm, .ref a2, .ref a3, .ref a4, .ref a5, .ref a6, .ref a7, .int wm, .int fa, .int 0, .int se, .ref a8, .ref a9, .ref ab])), (a0, .inl (cI, 120, .inl g0)), (a1, .inl (cI, 80, .inl g1))] := hD
  refine lv_aload_n hx hb dX9_send_5 rfl (lv_at hl 0 rfl) ?_
  refine lv_iload_n hx hb dX9_send_6 rfl (lv_at hl 1 rfl) ?_
  refine go_i (wr := [(a0, .inl (cI, 120, .inl g0)), (a1, .inl (cI, 80, .inl g1))]) (tysr := [(cI, .int)]) hP hD hS hA hK [0] [1, 2] [0] rfl rfl (by decide) (by decide) rfl (va_runV (As := [.int v]) (rest := []) ⟨hx, hb, hml, hown, hts⟩ (m_isMake l D H.size cI h0 a0 a1 a2 a3 a4 a5 a6 a7 a8 a9 ab tk mm wm fa 0 se v ) (cwV 1 hts gX9_send_X9_isMake rfl rfl rfl (by decide +kernel) ⟨Nat.le_of_ble_eq_true rfl, Nat.le_of_ble_eq_true rfl⟩) (st_preV (ci := 8) (q0 := 0) hP hD hK hNW [0] [0] rfl rfl (by decide) rfl rfl rfl rfl) rfl rfl hl.1 rfl (lv_room (Nat.le_of_ble_eq_true rfl)) dX9_send_7 ⟨(Nat.le_of_ble_eq_true rfl), (Nat.le_of_ble_eq_true rfl)⟩) (fun r_1 u H locs hw hP hD hK hS => ?_)
  have hw : r_1 = wi v 0 (mm - 1) := hw
  subst hw
  have hP : va_P D vwCl [(a0, .inl (cI, 120, .inl g0)), (a1, .inl (cI, 80, .inl g1)), (h0, .inr (8, [.ref a0, .int tk, .ref a1, .int mm, .ref a2, .ref a3, .ref a4, .ref a5, .ref a6, .ref a7, .int wm, .int fa, .int 0, .int se, .ref a8, .ref a9, .ref ab]))] H := hP
  have hD : va_D A [(a0, .inl (cI, 120, .inl g0)), (a1, .inl (cI, 80, .inl g1)), (h0, .inr (8, [.ref a0, .int tk, .ref a1, .int mm, .ref a2, .ref a3, .ref a4, .ref a5, .ref a6, .ref a7, .int wm, .int fa, .int 0, .int se, .ref a8, .ref a9, .ref ab]))] := hD
  have hK : va_K D vwCl [(cI, .int)] s := hK
  refine lv_if_eq (tgt := 29) hx hb dX9_send_10 (by decide) (fun c_2 => ?_) (fun c_2 => ?_)
  · refine lv_iconst (v := (-1)) hx hb dX9_send_29 (by decide) ?_
    exact ret_i hx hb hr hlocks rfl (u := (tk, 0, g0)) hk (hP.sub [2, 0, 1] rfl) (hK.sub [] rfl) (hD.sub [2, 0, 1] (by decide) rfl) hS (Nat.le_of_ble_eq_true rfl) (Nat.le_of_ble_eq_true rfl) dX9_send_30
  have hv7_3 : bi v 0 7 := (by have : (0 : Int32).toInt = 0 := (by decide); have := ti_wi1 c_2; have u1 := ti_m1 (i := mm) (by omega); omega)
  have hvm_4 : v.toInt < mm.toInt := (by have : (0 : Int32).toInt = 0 := (by decide); have := ti_wi1 c_2; have u1 := ti_m1 (i := mm) (by omega); omega)
  refine lv_iload_n hx hb dX9_send_13 rfl (lv_at hl 2 rfl) ?_
  refine lv_if_lt (tgt := 29) hx hb dX9_send_14 (by decide) (fun c_5 => ?_) (fun c_5 => ?_)
  · refine lv_iconst (v := (-1)) hx hb dX9_send_29 (by decide) ?_
    exact ret_i hx hb hr hlocks rfl (u := (tk, 0, g0)) hk (hP.sub [2, 0, 1] rfl) (hK.sub [] rfl) (hD.sub [2, 0, 1] (by decide) rfl) hS (Nat.le_of_ble_eq_true rfl) (Nat.le_of_ble_eq_true rfl) dX9_send_30
  refine lv_iload_n hx hb dX9_send_17 rfl (lv_at hl 2 rfl) ?_
  refine lv_iconst (v := 1) hx hb dX9_send_18 (by decide) ?_
  refine lv_aload_n hx hb dX9_send_19 rfl (lv_at hl 0 rfl) ?_
  refine lv_iload_n hx hb dX9_send_20 rfl (lv_at hl 1 rfl) ?_
  refine lv_iconst (v := 1) hx hb dX9_send_21 (by decide) ?_
  refine go_i (wr := [(a0, .inl (cI, 120, .inl g0))]) (tysr := [(cI, .int)]) hP hD hS hA hK [2, 1] [0] [0] rfl rfl (by decide) (by decide) rfl (va_runV (As := [.int v, .int 1]) (rest := [.int 1, .int w]) ⟨hx, hb, hml, hown, hts⟩ (m_get l D H.size cI h0 a0 a1 a2 a3 a4 a5 a6 a7 a8 a9 ab tk mm wm fa 0 se g1 v 1 (by first | assumption | decide | omega) (by first | assumption | decide | omega)) (cwV 2 hts gX9_send_X9_get rfl rfl rfl (by decide +kernel) ⟨Nat.le_of_ble_eq_true rfl, Nat.le_of_ble_eq_true rfl⟩) (st_preV (ci := 8) (q0 := 2) hP hD hK hNW [2, 1] [0] rfl rfl (by decide) rfl rfl rfl rfl) rfl rfl hl.1 rfl (lv_room (Nat.le_of_ble_eq_true rfl)) dX9_send_22 ⟨(Nat.le_of_ble_eq_true rfl), (Nat.le_of_ble_eq_true rfl)⟩) (fun r_6 u H locs hw hP hD hK hS => ?_)
  have hw : r_6 = g1 (Int32.toNatClampNeg (10 * v + 1)) := hw
  subst hw
  have hP : va_P D vwCl [(a0, .inl (cI, 120, .inl g0)), (h0, .inr (8, [.ref a0, .int tk, .ref a1, .int mm, .ref a2, .ref a3, .ref a4, .ref a5, .ref a6, .ref a7, .int wm, .int fa, .int 0, .int se, .ref a8, .ref a9, .ref ab])), (a1, .inl (cI, 80, .inl g1))] H := hP
  have hD : va_D A [(a0, .inl (cI, 120, .inl g0)), (h0, .inr (8, [.ref a0, .int tk, .ref a1, .int mm, .ref a2, .ref a3, .ref a4, .ref a5, .ref a6, .ref a7, .int wm, .int fa, .int 0, .int se, .ref a8, .ref a9, .ref ab])), (a1, .inl (cI, 80, .inl g1))] := hD
  have hK : va_K D vwCl [(cI, .int)] s := hK
  refine lv_ishl hx hb dX9_send_25 ?_
  refine lv_icmp_lt (tgt := 31) hx hb dX9_send_26 (by decide) (fun c_7 => ?_) (fun c_7 => ?_)
  · refine lv_aload_n hx hb dX9_send_31 rfl (lv_at hl 0 rfl) ?_
    refine lv_iload_n hx hb dX9_send_32 rfl (lv_at hl 1 rfl) ?_
    refine lv_iload_n hx hb dX9_send_33 rfl (lv_at hl 2 rfl) ?_
    refine go_v (wr := []) (tysr := [(cI, .int)]) hP hD hS hA hK [1, 0, 2] [] [0] rfl rfl (by decide) (by decide) rfl (va_runV (As := [.int v, .int w]) (rest := []) ⟨hx, hb, hml, hown, hts⟩ (m_flash l D H.size cI h0 a0 a1 a2 a3 a4 a5 a6 a7 a8 a9 ab tk mm wm fa 0 se g0 g1 v w (by first | assumption | decide | omega) (by first | assumption | decide | omega) (by first | assumption | decide | omega)) (cwV 2 hts gX9_send_X9_flash rfl rfl rfl (by decide +kernel) ⟨Nat.le_of_ble_eq_true rfl, Nat.le_of_ble_eq_true rfl⟩) (st_preV (ci := 8) (q0 := 1) hP hD hK hNW [1, 0, 2] [0] rfl rfl (by decide) rfl rfl rfl rfl) rfl rfl hl.1 rfl (lv_room (Nat.le_of_ble_eq_true rfl)) dX9_send_34 ⟨(Nat.le_of_ble_eq_true rfl), (Nat.le_of_ble_eq_true rfl)⟩) (fun u H locs hw hP hD hK hS => ?_)
    obtain ⟨tk_9, g_10⟩ := u
    have hw : bi tk_9 0 120 := hw
    have hw_11 := hw
    have hP : va_P D vwCl [(h0, .inr (8, [.ref a0, .int tk_9, .ref a1, .int mm, .ref a2, .ref a3, .ref a4, .ref a5, .ref a6, .ref a7, .int wm, .int fa, .int 0, .int se, .ref a8, .ref a9, .ref ab])), (a0, .inl (cI, 120, .inl g_10)), (a1, .inl (cI, 80, .inl g1))] H := hP
    have hD : va_D A [(h0, .inr (8, [.ref a0, .int tk_9, .ref a1, .int mm, .ref a2, .ref a3, .ref a4, .ref a5, .ref a6, .ref a7, .int wm, .int fa, .int 0, .int se, .ref a8, .ref a9, .ref ab])), (a0, .inl (cI, 120, .inl g_10)), (a1, .inl (cI, 80, .inl g1))] := hD
    have hK : va_K D vwCl [(cI, .int)] s := hK
    refine lv_aload_n hx hb dX9_send_37 rfl (lv_at hl 0 rfl) ?_
    refine va_get (D := D) (ci := 8) (v := .int tk_9) (C := RX9) (T := TX9) (N := 17) hx hb hts him_send_X9 hown hK hP 0 rfl rfl 1 (by decide) (hts (.fieldLink RX9 62 "OneHandsetModel" "taped" "I") (List.mem_of_getElem? (i := 2) rfl)) (fun _ h9 => h9) rfl dX9_send_38 ?_
    exact ret_i hx hb hr hlocks rfl (u := (tk_9, 0, g_10)) hw_11 (hP.sub [0, 1, 2] rfl) (hK.sub [] rfl) (hD.sub [0, 1, 2] (by decide) rfl) hS (Nat.le_of_ble_eq_true rfl) (Nat.le_of_ble_eq_true rfl) dX9_send_41
  refine lv_iconst (v := (-1)) hx hb dX9_send_29 (by decide) ?_
  exact ret_i hx hb hr hlocks rfl (u := (tk, 0, g0)) hk (hP.sub [1, 0, 2] rfl) (hK.sub [] rfl) (hD.sub [1, 0, 2] (by decide) rfl) hS (Nat.le_of_ble_eq_true rfl) (Nat.le_of_ble_eq_true rfl) dX9_send_30
theorem him_time_X9 : ∀ w ∈ wsX90, w ∈ wsX9_time := mem_pl [8, 9, 10, 11, 12, 13, 14, 15, 16, 17, 18, 19, 20, 21, 22, 23, 24] rfl
set_option maxHeartbeats 4000000 in
set_option maxRecDepth 100000 in
theorem m_time (l : Launch) (D : va_G) (sz : Nat) (cI : ClassId) (h0 : Nat) (a0 : Nat) (a1 : Nat) (a2 : Nat) (a3 : Nat) (a4 : Nat) (a5 : Nat) (a6 : Nat) (a7 : Nat) (a8 : Nat) (a9 : Nat) (ab : Nat) (tk : Int32) (mm : Int32) (wm : Int32) (fa : Int32) (th : Int32) (se : Int32) (g0 : Nat → Int32) (v : Int32) (hk : bi tk 0 120) : Ci l yX9_time wsX9_time ({ frames := 1, cells := 0, slots := 0, locals := 22 } : Room) D [.ref h0, .int v] [(h0, .inr (8, [.ref a0, .int tk, .ref a1, .int mm, .ref a2, .ref a3, .ref a4, .ref a5, .ref a6, .ref a7, .int wm, .int fa, .int th, .int se, .ref a8, .ref a9, .ref ab])), (a0, .inl (cI, 120, .inl g0))] [(cI, .int)] sz (fun (r : Int32) => fun (th2 : Int32) => True) (fun (th2 : Int32) => [(h0, .inr (8, [.ref a0, .int tk, .ref a1, .int mm, .ref a2, .ref a3, .ref a4, .ref a5, .ref a6, .ref a7, .int wm, .int fa, .int th2, .int se, .ref a8, .ref a9, .ref ab])), (a0, .inl (cI, 120, .inl g0))]) (fun (th2 : Int32) => []) := by
  refine ct_i (cc := cX9_time) (maxL := 2) (ret := (some .int)) (by decide) rfl (Nat.le_of_ble_eq_true rfl) ?_
  intro p e s m below meth c A ls H hx hb hr hts hown hml hlocks hin hA hS hP hK hD hNW hl hAe hsz
  have hl : lv_has ls 2 [(0, .ref h0), (1, .int v)] := hl
  refine lv_aload_n hx hb dX9_time_0 rfl (lv_at hl 0 rfl) ?_
  refine lv_iconst (v := 0) hx hb dX9_time_1 (by decide) ?_
  refine va_put (D := D) (ci := 8) (v := .int 0) (ty := .int) (C := RX9) (T := TX9) (N := 17) hx hb hts him_time_X9 tyX9 tyX9_ok nmX9 hown hK hP hD hS 0 rfl rfl 12 (by decide) (hts (.fieldLink RX9 43 "OneHandsetModel" "thrown" "I") (List.mem_of_getElem? (i := 1) rfl)) (fun _ h9 => h9) rfl (by decide +kernel) rfl rfl (Nat.le_of_ble_eq_true rfl) dX9_time_2 (fun H locs hP hD hS => ?_)
  have hP : va_P D vwCl [(h0, .inr (8, [.ref a0, .int tk, .ref a1, .int mm, .ref a2, .ref a3, .ref a4, .ref a5, .ref a6, .ref a7, .int wm, .int fa, .int 0, .int se, .ref a8, .ref a9, .ref ab])), (a0, .inl (cI, 120, .inl g0))] H := hP
  have hD : va_D A [(h0, .inr (8, [.ref a0, .int tk, .ref a1, .int mm, .ref a2, .ref a3, .ref a4, .ref a5, .ref a6, .ref a7, .int wm, .int fa, .int 0, .int se, .ref a8, .ref a9, .ref ab])), (a0, .inl (cI, 120, .inl g0))] := hD
  refine lv_iload_n hx hb dX9_time_5 rfl (lv_at hl 1 rfl) ?_
  refine lv_iconst (v := 0) hx hb dX9_time_6 (by decide) ?_
  refine lv_aload_n hx hb dX9_time_7 rfl (lv_at hl 0 rfl) ?_
  refine va_get (D := D) (ci := 8) (v := .int tk) (C := RX9) (T := TX9) (N := 17) hx hb hts him_time_X9 hown hK hP 0 rfl rfl 1 (by decide) (hts (.fieldLink RX9 62 "OneHandsetModel" "taped" "I") (List.mem_of_getElem? (i := 2) rfl)) (fun _ h9 => h9) rfl dX9_time_8 ?_
  refine lv_iconst (v := 1) hx hb dX9_time_11 (by decide) ?_
  refine lv_isub hx hb dX9_time_12 ?_
  refine go_i (wr := [(h0, .inr (8, [.ref a0, .int tk, .ref a1, .int mm, .ref a2, .ref a3, .ref a4, .ref a5, .ref a6, .ref a7, .int wm, .int fa, .int 0, .int se, .ref a8, .ref a9, .ref ab])), (a0, .inl (cI, 120, .inl g0))]) (tysr := [(cI, .int)]) hP hD hS hA hK [] [0, 1] [0] rfl rfl (by decide) (by decide) rfl (va_runS (As := [.int v, .int 0, .int (tk - 1)]) (rest := []) ⟨hx, hb, hml, hown, hts⟩ (m_in l D H.size v 0 (tk - 1) ) (va_cwS 3 hts gX9_time_X9_in rfl rfl rfl (by decide +kernel) ⟨Nat.le_of_ble_eq_true rfl, Nat.le_of_ble_eq_true rfl⟩) (st_preS hP hD hK hNW [] [] rfl rfl (by decide) rfl) rfl rfl hl.1 rfl (lv_room (Nat.le_of_ble_eq_true rfl)) dX9_time_13 ⟨(Nat.le_of_ble_eq_true rfl), (Nat.le_of_ble_eq_true rfl)⟩) (fun r_1 u H locs hw hP hD hK hS => ?_)
  have hw : r_1 = wi v 0 (tk - 1) := hw
  subst hw
  have hP : va_P D vwCl [(h0, .inr (8, [.ref a0, .int tk, .ref a1, .int mm, .ref a2, .ref a3, .ref a4, .ref a5, .ref a6, .ref a7, .int wm, .int fa, .int 0, .int se, .ref a8, .ref a9, .ref ab])), (a0, .inl (cI, 120, .inl g0))] H := hP
  have hD : va_D A [(h0, .inr (8, [.ref a0, .int tk, .ref a1, .int mm, .ref a2, .ref a3, .ref a4, .ref a5, .ref a6, .ref a7, .int wm, .int fa, .int 0, .int se, .ref a8, .ref a9, .ref ab])), (a0, .inl (cI, 120, .inl g0))] := hD
  have hK : va_K D vwCl [(cI, .int)] s := hK
  refine lv_if_ne (tgt := 26) hx hb dX9_time_16 (by decide) (fun c_2 => ?_) (fun c_2 => ?_)
  · refine lv_aload_n hx hb dX9_time_26 rfl (lv_at hl 0 rfl) ?_
    refine va_get (D := D) (ci := 8) (v := .ref a0) (C := RX9) (T := TX9) (N := 17) hx hb hts him_time_X9 hown hK hP 0 rfl rfl 0 (by decide) (hts (.fieldLink RX9 9 "OneHandsetModel" "tape" "[I") (List.mem_of_getElem? (i := 3) rfl)) (fun _ h9 => h9) rfl dX9_time_27 ?_
    refine lv_iload_n hx hb dX9_time_30 rfl (lv_at hl 1 rfl) ?_
    refine va_iald hx hb hK hP 1 0 rfl rfl (by have : (0 : Int32).toInt = 0 := (by decide); have := ti_wi1 c_2; have u1 := ti_m1 (i := tk) (by omega); exact vp_in_iff.mpr (by omega)) dX9_time_31 ?_
    exact ret_i hx hb hr hlocks rfl (u := 0) trivial (hP.sub [0, 1] rfl) (hK.sub [] rfl) (hD.sub [0, 1] (by decide) rfl) hS (Nat.le_of_ble_eq_true rfl) (Nat.le_of_ble_eq_true rfl) dX9_time_32
  refine lv_aload_n hx hb dX9_time_19 rfl (lv_at hl 0 rfl) ?_
  refine lv_iconst (v := 1) hx hb dX9_time_20 (by decide) ?_
  refine va_put (D := D) (ci := 8) (v := .int 1) (ty := .int) (C := RX9) (T := TX9) (N := 17) hx hb hts him_time_X9 tyX9 tyX9_ok nmX9 hown hK hP hD hS 0 rfl rfl 12 (by decide) (hts (.fieldLink RX9 43 "OneHandsetModel" "thrown" "I") (List.mem_of_getElem? (i := 1) rfl)) (fun _ h9 => h9) rfl (by decide +kernel) rfl rfl (Nat.le_of_ble_eq_true rfl) dX9_time_21 (fun H locs hP hD hS => ?_)
  have hP : va_P D vwCl [(h0, .inr (8, [.ref a0, .int tk, .ref a1, .int mm, .ref a2, .ref a3, .ref a4, .ref a5, .ref a6, .ref a7, .int wm, .int fa, .int 1, .int se, .ref a8, .ref a9, .ref ab])), (a0, .inl (cI, 120, .inl g0))] H := hP
  have hD : va_D A [(h0, .inr (8, [.ref a0, .int tk, .ref a1, .int mm, .ref a2, .ref a3, .ref a4, .ref a5, .ref a6, .ref a7, .int wm, .int fa, .int 1, .int se, .ref a8, .ref a9, .ref ab])), (a0, .inl (cI, 120, .inl g0))] := hD
  refine lv_iconst (v := 0) hx hb dX9_time_24 (by decide) ?_
  exact ret_i hx hb hr hlocks rfl (u := 1) trivial (hP.sub [0, 1] rfl) (hK.sub [] rfl) (hD.sub [0, 1] (by decide) rfl) hS (Nat.le_of_ble_eq_true rfl) (Nat.le_of_ble_eq_true rfl) dX9_time_25
theorem him_stretch_X9 : ∀ w ∈ wsX90, w ∈ wsX9_stretch := mem_pl [11, 12, 13, 14, 15, 16, 17, 18, 19, 20, 21, 22, 23, 24, 25, 26, 27] rfl
set_option maxHeartbeats 4000000 in
set_option maxRecDepth 100000 in
theorem m_stretch (l : Launch) (D : va_G) (sz : Nat) (cI : ClassId) (h0 : Nat) (a0 : Nat) (a1 : Nat) (a2 : Nat) (a3 : Nat) (a4 : Nat) (a5 : Nat) (a6 : Nat) (a7 : Nat) (a8 : Nat) (a9 : Nat) (ab : Nat) (tk : Int32) (mm : Int32) (wm : Int32) (fa : Int32) (th : Int32) (se : Int32) (g0 : Nat → Int32) (v : Int32) (hk : bi tk 0 120) : Ci l yX9_stretch wsX9_stretch ({ frames := 2, cells := 0, slots := 0, locals := 42 } : Room) D [.ref h0, .int v] [(h0, .inr (8, [.ref a0, .int tk, .ref a1, .int mm, .ref a2, .ref a3, .ref a4, .ref a5, .ref a6, .ref a7, .int wm, .int fa, .int th, .int se, .ref a8, .ref a9, .ref ab])), (a0, .inl (cI, 120, .inl g0))] [(cI, .int)] sz (fun (r : Int32) => fun (u9 : Int32 × (Nat → Int32)) => match u9 with | (th2, g02) => r = (if wi v (-60) 60 = 0 then 0 else 1)) (fun (u9 : Int32 × (Nat → Int32)) => match u9 with | (th2, g02) => [(h0, .inr (8, [.ref a0, .int tk, .ref a1, .int mm, .ref a2, .ref a3, .ref a4, .ref a5, .ref a6, .ref a7, .int wm, .int fa, .int th2, .int se, .ref a8, .ref a9, .ref ab])), (a0, .inl (cI, 120, .inl g02))]) (fun (u9 : Int32 × (Nat → Int32)) => match u9 with | (th2, g02) => []) := by
  refine ct_i (cc := cX9_stretch) (maxL := 4) (ret := (some .boolean)) (by decide) rfl (Nat.le_of_ble_eq_true rfl) ?_
  intro p e s m below meth c A ls H hx hb hr hts hown hml hlocks hin hA hS hP hK hD hNW hl hAe hsz
  have hl : lv_has ls 4 [(0, .ref h0), (1, .int v)] := hl
  refine lv_aload_n hx hb dX9_stretch_0 rfl (lv_at hl 0 rfl) ?_
  refine lv_iconst (v := 0) hx hb dX9_stretch_1 (by decide) ?_
  refine va_put (D := D) (ci := 8) (v := .int 0) (ty := .int) (C := RX9) (T := TX9) (N := 17) hx hb hts him_stretch_X9 tyX9 tyX9_ok nmX9 hown hK hP hD hS 0 rfl rfl 12 (by decide) (hts (.fieldLink RX9 43 "OneHandsetModel" "thrown" "I") (List.mem_of_getElem? (i := 1) rfl)) (fun _ h9 => h9) rfl (by decide +kernel) rfl rfl (Nat.le_of_ble_eq_true rfl) dX9_stretch_2 (fun H locs hP hD hS => ?_)
  have hP : va_P D vwCl [(h0, .inr (8, [.ref a0, .int tk, .ref a1, .int mm, .ref a2, .ref a3, .ref a4, .ref a5, .ref a6, .ref a7, .int wm, .int fa, .int 0, .int se, .ref a8, .ref a9, .ref ab])), (a0, .inl (cI, 120, .inl g0))] H := hP
  have hD : va_D A [(h0, .inr (8, [.ref a0, .int tk, .ref a1, .int mm, .ref a2, .ref a3, .ref a4, .ref a5, .ref a6, .ref a7, .int wm, .int fa, .int 0, .int se, .ref a8, .ref a9, .ref ab])), (a0, .inl (cI, 120, .inl g0))] := hD
  refine lv_iload_n hx hb dX9_stretch_5 rfl (lv_at hl 1 rfl) ?_
  refine lv_bipush (v := (-60)) hx hb dX9_stretch_6 (by decide) ?_
  refine lv_bipush (v := 60) hx hb dX9_stretch_8 (by decide) ?_
  refine go_i (wr := [(h0, .inr (8, [.ref a0, .int tk, .ref a1, .int mm, .ref a2, .ref a3, .ref a4, .ref a5, .ref a6, .ref a7, .int wm, .int fa, .int 0, .int se, .ref a8, .ref a9, .ref ab])), (a0, .inl (cI, 120, .inl g0))]) (tysr := [(cI, .int)]) hP hD hS hA hK [] [0, 1] [0] rfl rfl (by decide) (by decide) rfl (va_runS (As := [.int v, .int (-60), .int 60]) (rest := []) ⟨hx, hb, hml, hown, hts⟩ (m_in l D H.size v (-60) 60 ) (va_cwS 3 hts gX9_stretch_X9_in rfl rfl rfl (by decide +kernel) ⟨Nat.le_of_ble_eq_true rfl, Nat.le_of_ble_eq_true rfl⟩) (st_preS hP hD hK hNW [] [] rfl rfl (by decide) rfl) rfl rfl hl.1 rfl (lv_room (Nat.le_of_ble_eq_true rfl)) dX9_stretch_10 ⟨(Nat.le_of_ble_eq_true rfl), (Nat.le_of_ble_eq_true rfl)⟩) (fun r_1 u H locs hw hP hD hK hS => ?_)
  have hw : r_1 = wi v (-60) 60 := hw
  subst hw
  have hP : va_P D vwCl [(h0, .inr (8, [.ref a0, .int tk, .ref a1, .int mm, .ref a2, .ref a3, .ref a4, .ref a5, .ref a6, .ref a7, .int wm, .int fa, .int 0, .int se, .ref a8, .ref a9, .ref ab])), (a0, .inl (cI, 120, .inl g0))] H := hP
  have hD : va_D A [(h0, .inr (8, [.ref a0, .int tk, .ref a1, .int mm, .ref a2, .ref a3, .ref a4, .ref a5, .ref a6, .ref a7, .int wm, .int fa, .int 0, .int se, .ref a8, .ref a9, .ref ab])), (a0, .inl (cI, 120, .inl g0))] := hD
  have hK : va_K D vwCl [(cI, .int)] s := hK
  refine lv_if_ne (tgt := 18) hx hb dX9_stretch_13 (by decide) (fun c_2 => ?_) (fun c_2 => ?_)
  · refine lv_iconst (v := 0) hx hb dX9_stretch_18 (by decide) ?_
    refine lv_istore_n (lv' := [(2, .int 0), (0, .ref h0), (1, .int v)]) hx hb dX9_stretch_19 rfl hl (by decide) rfl (fun ls hl => ?_)
    refine lp_N (fun n9 H locs ls => ∃ (g_3 : Nat → Int32), ∃ (i_4 : Int32), n9 = (tk.toInt - i_4.toInt).toNat ∧ (va_P D vwCl [(h0, .inr (8, [.ref a0, .int tk, .ref a1, .int mm, .ref a2, .ref a3, .ref a4, .ref a5, .ref a6, .ref a7, .int wm, .int fa, .int 0, .int se, .ref a8, .ref a9, .ref ab])), (a0, .inl (cI, 120, .inl g_3))] H ∧ va_D A [(h0, .inr (8, [.ref a0, .int tk, .ref a1, .int mm, .ref a2, .ref a3, .ref a4, .ref a5, .ref a6, .ref a7, .int wm, .int fa, .int 0, .int se, .ref a8, .ref a9, .ref ab])), (a0, .inl (cI, 120, .inl g_3))]) ∧ va_S A s.heap H locs ∧ lv_has ls 4 [(2, .int i_4), (0, .ref h0), (1, .int v)] ∧ (0 ≤ i_4.toInt)) ?_ ⟨g0, 0, rfl, ⟨hP, hD⟩, hS, hl, (by decide)⟩
    intro n9 ih_5 H locs ls hI
    obtain ⟨g_3, i_4, rfl, ⟨hP, hD⟩, hS, hl, hv_6⟩ := hI
    refine lv_iload_n hx hb dX9_stretch_20 rfl (lv_at hl 0 rfl) ?_
    refine lv_aload_n hx hb dX9_stretch_21 rfl (lv_at hl 1 rfl) ?_
    refine va_get (D := D) (ci := 8) (v := .int tk) (C := RX9) (T := TX9) (N := 17) hx hb hts him_stretch_X9 hown hK hP 0 rfl rfl 1 (by decide) (hts (.fieldLink RX9 62 "OneHandsetModel" "taped" "I") (List.mem_of_getElem? (i := 2) rfl)) (fun _ h9 => h9) rfl dX9_stretch_22 ?_
    refine lv_icmp_ge (tgt := 97) hx hb dX9_stretch_25 (by decide) (fun c_7 => ?_) (fun c_7 => ?_)
    · refine lv_iconst (v := 1) hx hb dX9_stretch_97 (by decide) ?_
      exact ret_i hx hb hr hlocks rfl (u := (0, g_3)) ((if_neg c_2).symm) (hP.sub [0, 1] rfl) (hK.sub [] rfl) (hD.sub [0, 1] (by decide) rfl) hS (Nat.le_of_ble_eq_true rfl) (Nat.le_of_ble_eq_true rfl) dX9_stretch_98
    refine lv_aload_n hx hb dX9_stretch_28 rfl (lv_at hl 1 rfl) ?_
    refine va_get (D := D) (ci := 8) (v := .ref a0) (C := RX9) (T := TX9) (N := 17) hx hb hts him_stretch_X9 hown hK hP 0 rfl rfl 0 (by decide) (hts (.fieldLink RX9 9 "OneHandsetModel" "tape" "[I") (List.mem_of_getElem? (i := 3) rfl)) (fun _ h9 => h9) rfl dX9_stretch_29 ?_
    refine lv_iload_n hx hb dX9_stretch_32 rfl (lv_at hl 0 rfl) ?_
    refine va_iald hx hb hK hP 1 0 rfl rfl (by have : ((-60) : Int32).toInt = -60 := (by decide); have : (60 : Int32).toInt = 60 := (by decide); have := ti_wi1 c_2; have := ti_nle c_7; exact vp_in_iff.mpr (by omega)) dX9_stretch_33 ?_
    refine go_i (wr := [(h0, .inr (8, [.ref a0, .int tk, .ref a1, .int mm, .ref a2, .ref a3, .ref a4, .ref a5, .ref a6, .ref a7, .int wm, .int fa, .int 0, .int se, .ref a8, .ref a9, .ref ab])), (a0, .inl (cI, 120, .inl g_3))]) (tysr := [(cI, .int)]) hP hD hS hA hK [] [0, 1] [0] rfl rfl (by decide) (by decide) rfl (va_runS (As := [.int (g_3 (Int32.toNatClampNeg i_4))]) (rest := []) ⟨hx, hb, hml, hown, hts⟩ (m_isTime l D H.size (g_3 (Int32.toNatClampNeg i_4)) ) (va_cwS 1 hts gX9_stretch_X9_isTime rfl rfl rfl (by decide +kernel) ⟨Nat.le_of_ble_eq_true rfl, Nat.le_of_ble_eq_true rfl⟩) (st_preS hP hD hK hNW [] [] rfl rfl (by decide) rfl) rfl rfl hl.1 rfl (lv_room (Nat.le_of_ble_eq_true rfl)) dX9_stretch_34 ⟨(Nat.le_of_ble_eq_true rfl), (Nat.le_of_ble_eq_true rfl)⟩) (fun r_8 u H locs hw hP hD hK hS => ?_)
    have hw : r_8 = wi (g_3 (Int32.toNatClampNeg i_4)) 1 20000 := hw
    subst hw
    have hP : va_P D vwCl [(h0, .inr (8, [.ref a0, .int tk, .ref a1, .int mm, .ref a2, .ref a3, .ref a4, .ref a5, .ref a6, .ref a7, .int wm, .int fa, .int 0, .int se, .ref a8, .ref a9, .ref ab])), (a0, .inl (cI, 120, .inl g_3))] H := hP
    have hD : va_D A [(h0, .inr (8, [.ref a0, .int tk, .ref a1, .int mm, .ref a2, .ref a3, .ref a4, .ref a5, .ref a6, .ref a7, .int wm, .int fa, .int 0, .int se, .ref a8, .ref a9, .ref ab])), (a0, .inl (cI, 120, .inl g_3))] := hD
    have hK : va_K D vwCl [(cI, .int)] s := hK
    refine lv_if_ne (tgt := 43) hx hb dX9_stretch_37 (by decide) (fun c_9 => ?_) (fun c_9 => ?_)
    · refine lv_aload_n hx hb dX9_stretch_43 rfl (lv_at hl 1 rfl) ?_
      refine va_get (D := D) (ci := 8) (v := .ref a0) (C := RX9) (T := TX9) (N := 17) hx hb hts him_stretch_X9 hown hK hP 0 rfl rfl 0 (by decide) (hts (.fieldLink RX9 9 "OneHandsetModel" "tape" "[I") (List.mem_of_getElem? (i := 3) rfl)) (fun _ h9 => h9) rfl dX9_stretch_44 ?_
      refine lv_iload_n hx hb dX9_stretch_47 rfl (lv_at hl 0 rfl) ?_
      refine va_iald hx hb hK hP 1 0 rfl rfl (by have : ((-60) : Int32).toInt = -60 := (by decide); have : (60 : Int32).toInt = 60 := (by decide); have := ti_wi1 c_2; have := ti_nle c_7; have := ti_wi1 c_9; exact vp_in_iff.mpr (by omega)) dX9_stretch_48 ?_
      refine lv_aload_n hx hb dX9_stretch_49 rfl (lv_at hl 1 rfl) ?_
      refine va_get (D := D) (ci := 8) (v := .ref a0) (C := RX9) (T := TX9) (N := 17) hx hb hts him_stretch_X9 hown hK hP 0 rfl rfl 0 (by decide) (hts (.fieldLink RX9 9 "OneHandsetModel" "tape" "[I") (List.mem_of_getElem? (i := 3) rfl)) (fun _ h9 => h9) rfl dX9_stretch_50 ?_
      refine lv_iload_n hx hb dX9_stretch_53 rfl (lv_at hl 0 rfl) ?_
      refine va_iald hx hb hK hP 1 0 rfl rfl (by have : ((-60) : Int32).toInt = -60 := (by decide); have : (60 : Int32).toInt = 60 := (by decide); have := ti_wi1 c_2; have := ti_nle c_7; have := ti_wi1 c_9; exact vp_in_iff.mpr (by omega)) dX9_stretch_54 ?_
      refine lv_iload_n hx hb dX9_stretch_55 rfl (lv_at hl 2 rfl) ?_
      refine lv_imul hx hb dX9_stretch_56 ?_
      refine lv_bipush (v := 100) hx hb dX9_stretch_57 (by decide) ?_
      refine lv_idiv hx hb dX9_stretch_59 (by decide) ?_
      refine lv_iadd hx hb dX9_stretch_60 ?_
      refine lv_istore_n (lv' := [(3, .int ((g_3 (Int32.toNatClampNeg i_4)) + (((g_3 (Int32.toNatClampNeg i_4)) * v) / 100))), (2, .int i_4), (0, .ref h0), (1, .int v)]) hx hb dX9_stretch_61 rfl hl (by decide) rfl (fun ls hl => ?_)
      refine lv_aload_n hx hb dX9_stretch_62 rfl (lv_at hl 2 rfl) ?_
      refine va_get (D := D) (ci := 8) (v := .ref a0) (C := RX9) (T := TX9) (N := 17) hx hb hts him_stretch_X9 hown hK hP 0 rfl rfl 0 (by decide) (hts (.fieldLink RX9 9 "OneHandsetModel" "tape" "[I") (List.mem_of_getElem? (i := 3) rfl)) (fun _ h9 => h9) rfl dX9_stretch_63 ?_
      refine lv_iload_n hx hb dX9_stretch_66 rfl (lv_at hl 1 rfl) ?_
      refine jn_S 90 (fun st9 H locs ls => ∃ (q_10 : Int32), st9 = [.int q_10, .int i_4, .ref a0] ∧ (va_P D vwCl [(h0, .inr (8, [.ref a0, .int tk, .ref a1, .int mm, .ref a2, .ref a3, .ref a4, .ref a5, .ref a6, .ref a7, .int wm, .int fa, .int 0, .int se, .ref a8, .ref a9, .ref ab])), (a0, .inl (cI, 120, .inl g_3))] H ∧ va_D A [(h0, .inr (8, [.ref a0, .int tk, .ref a1, .int mm, .ref a2, .ref a3, .ref a4, .ref a5, .ref a6, .ref a7, .int wm, .int fa, .int 0, .int se, .ref a8, .ref a9, .ref ab])), (a0, .inl (cI, 120, .inl g_3))]) ∧ va_S A s.heap H locs ∧ lv_has ls 4 [(3, .int ((g_3 (Int32.toNatClampNeg i_4)) + (((g_3 (Int32.toNatClampNeg i_4)) * v) / 100))), (2, .int i_4), (0, .ref h0), (1, .int v)]) ?_ ?_
      · intro st9 H locs ls hI
        obtain ⟨q_10, rfl, ⟨hP, hD⟩, hS, hl⟩ := hI
        refine va_iast hx hb hK hP hD hS 1 0 rfl rfl (by have : ((-60) : Int32).toInt = -60 := (by decide); have : (60 : Int32).toInt = 60 := (by decide); have := ti_wi1 c_2; have := ti_nle c_7; have := ti_wi1 c_9; exact vp_in_iff.mpr (by omega)) dX9_stretch_90 (fun H locs hP hD hS => ?_)
        obtain ⟨g_12, hP, hD⟩ : ∃ g9 : Nat → Int32, va_P D vwCl [(h0, .inr (8, [.ref a0, .int tk, .ref a1, .int mm, .ref a2, .ref a3, .ref a4, .ref a5, .ref a6, .ref a7, .int wm, .int fa, .int 0, .int se, .ref a8, .ref a9, .ref ab])), (a0, .inl (cI, 120, .inl g9))] H ∧ va_D A [(h0, .inr (8, [.ref a0, .int tk, .ref a1, .int mm, .ref a2, .ref a3, .ref a4, .ref a5, .ref a6, .ref a7, .int wm, .int fa, .int 0, .int se, .ref a8, .ref a9, .ref ab])), (a0, .inl (cI, 120, .inl g9))] := ⟨_, hP, hD⟩
        refine lv_iinc (v := i_4 + 1) (lv' := [(2, .int (i_4 + 1)), (3, .int ((g_3 (Int32.toNatClampNeg i_4)) + (((g_3 (Int32.toNatClampNeg i_4)) * v) / 100))), (0, .ref h0), (1, .int v)]) hx hb dX9_stretch_91 hl (k := 1) rfl rfl (by decide) rfl (fun ls hl => ?_)
        refine lv_goto (tgt := 20) hx hb dX9_stretch_94 (by decide) ?_
        exact ih_5 _ _ _ _ (by have : ((-60) : Int32).toInt = -60 := (by decide); have : (60 : Int32).toInt = 60 := (by decide); have := ti_wi1 c_2; have := ti_nle c_7; have := ti_wi1 c_9; have u1 := ti_up (i := i_4) (n := tk) (by omega); omega) ⟨g_12, i_4 + 1, rfl, ⟨hP, hD⟩, hS, lv_sub hl [0, 2, 3] rfl, (by have : ((-60) : Int32).toInt = -60 := (by decide); have : (60 : Int32).toInt = 60 := (by decide); have := ti_wi1 c_2; have := ti_nle c_7; have := ti_wi1 c_9; have u1 := ti_up (i := i_4) (n := tk) (by omega); omega)⟩
      · intro hJ_13
        refine lv_iload_n hx hb dX9_stretch_67 rfl (lv_at hl 0 rfl) ?_
        refine lv_iconst (v := 1) hx hb dX9_stretch_68 (by decide) ?_
        refine lv_icmp_ge (tgt := 76) hx hb dX9_stretch_69 (by decide) (fun c_14 => ?_) (fun c_14 => ?_)
        · refine lv_iload_n hx hb dX9_stretch_76 rfl (lv_at hl 0 rfl) ?_
          refine lv_sipush (v := 20000) hx hb dX9_stretch_77 (by decide) ?_
          refine lv_icmp_le (tgt := 89) hx hb dX9_stretch_80 (by decide) (fun c_15 => ?_) (fun c_15 => ?_)
          · refine lv_iload_n hx hb dX9_stretch_89 rfl (lv_at hl 0 rfl) ?_
            exact hJ_13 _ _ _ _ ⟨(g_3 (Int32.toNatClampNeg i_4)) + (((g_3 (Int32.toNatClampNeg i_4)) * v) / 100), rfl, ⟨hP, hD⟩, hS, lv_sub hl [0, 1, 2, 3] rfl⟩
          refine lv_sipush (v := 20000) hx hb dX9_stretch_83 (by decide) ?_
          refine lv_goto (tgt := 90) hx hb dX9_stretch_86 (by decide) ?_
          exact hJ_13 _ _ _ _ ⟨20000, rfl, ⟨hP, hD⟩, hS, lv_sub hl [0, 1, 2, 3] rfl⟩
        refine lv_iconst (v := 1) hx hb dX9_stretch_72 (by decide) ?_
        refine lv_goto (tgt := 90) hx hb dX9_stretch_73 (by decide) ?_
        exact hJ_13 _ _ _ _ ⟨1, rfl, ⟨hP, hD⟩, hS, lv_sub hl [0, 1, 2, 3] rfl⟩
    refine lv_goto (tgt := 91) hx hb dX9_stretch_40 (by decide) ?_
    refine lv_iinc (v := i_4 + 1) (lv' := [(2, .int (i_4 + 1)), (0, .ref h0), (1, .int v)]) hx hb dX9_stretch_91 hl (k := 0) rfl rfl (by decide) rfl (fun ls hl => ?_)
    refine lv_goto (tgt := 20) hx hb dX9_stretch_94 (by decide) ?_
    exact ih_5 _ _ _ _ (by have : ((-60) : Int32).toInt = -60 := (by decide); have : (60 : Int32).toInt = 60 := (by decide); have := ti_wi1 c_2; have := ti_nle c_7; have := ti_wi0 c_9; have u1 := ti_up (i := i_4) (n := tk) (by omega); omega) ⟨g_3, i_4 + 1, rfl, ⟨hP, hD⟩, hS, lv_sub hl [0, 1, 2] rfl, (by have : ((-60) : Int32).toInt = -60 := (by decide); have : (60 : Int32).toInt = 60 := (by decide); have := ti_wi1 c_2; have := ti_nle c_7; have := ti_wi0 c_9; have u1 := ti_up (i := i_4) (n := tk) (by omega); omega)⟩
  refine lv_iconst (v := 0) hx hb dX9_stretch_16 (by decide) ?_
  exact ret_i hx hb hr hlocks rfl (u := (0, g0)) ((if_pos c_2).symm) (hP.sub [0, 1] rfl) (hK.sub [] rfl) (hD.sub [0, 1] (by decide) rfl) hS (Nat.le_of_ble_eq_true rfl) (Nat.le_of_ble_eq_true rfl) dX9_stretch_17
theorem him_end_X9 : ∀ w ∈ wsX90, w ∈ wsX9_end := mem_pl [3, 4, 5, 6, 7, 8, 9, 10, 11, 12, 13, 14, 15, 16, 17, 18, 19] rfl
set_option maxHeartbeats 4000000 in
set_option maxRecDepth 100000 in
theorem m_end (l : Launch) (D : va_G) (sz : Nat) (cI : ClassId) (h0 : Nat) (a0 : Nat) (a1 : Nat) (a2 : Nat) (a3 : Nat) (a4 : Nat) (a5 : Nat) (a6 : Nat) (a7 : Nat) (a8 : Nat) (a9 : Nat) (ab : Nat) (tk : Int32) (mm : Int32) (wm : Int32) (fa : Int32) (th : Int32) (se : Int32) (v : Int32) (hk : bi tk 0 120) : Ci l yX9_end wsX9_end ({ frames := 0, cells := 0, slots := 0, locals := 0 } : Room) D [.ref h0, .int v] [(h0, .inr (8, [.ref a0, .int tk, .ref a1, .int mm, .ref a2, .ref a3, .ref a4, .ref a5, .ref a6, .ref a7, .int wm, .int fa, .int th, .int se, .ref a8, .ref a9, .ref ab]))] [(cI, .int)] sz (fun (r : Int32) => fun (u9 : Int32 × Int32) => match u9 with | (tk2, th2) => bi tk2 0 120) (fun (u9 : Int32 × Int32) => match u9 with | (tk2, th2) => [(h0, .inr (8, [.ref a0, .int tk2, .ref a1, .int mm, .ref a2, .ref a3, .ref a4, .ref a5, .ref a6, .ref a7, .int wm, .int fa, .int th2, .int se, .ref a8, .ref a9, .ref ab]))]) (fun (u9 : Int32 × Int32) => match u9 with | (tk2, th2) => []) := by
  refine ct_i (cc := cX9_end) (maxL := 2) (ret := (some .boolean)) (by decide) rfl (Nat.le_of_ble_eq_true rfl) ?_
  intro p e s m below meth c A ls H hx hb hr hts hown hml hlocks hin hA hS hP hK hD hNW hl hAe hsz
  have hl : lv_has ls 2 [(0, .ref h0), (1, .int v)] := hl
  refine lv_aload_n hx hb dX9_end_0 rfl (lv_at hl 0 rfl) ?_
  refine lv_iconst (v := 0) hx hb dX9_end_1 (by decide) ?_
  refine va_put (D := D) (ci := 8) (v := .int 0) (ty := .int) (C := RX9) (T := TX9) (N := 17) hx hb hts him_end_X9 tyX9 tyX9_ok nmX9 hown hK hP hD hS 0 rfl rfl 12 (by decide) (hts (.fieldLink RX9 43 "OneHandsetModel" "thrown" "I") (List.mem_of_getElem? (i := 1) rfl)) (fun _ h9 => h9) rfl (by decide +kernel) rfl rfl (Nat.le_of_ble_eq_true rfl) dX9_end_2 (fun H locs hP hD hS => ?_)
  have hP : va_P D vwCl [(h0, .inr (8, [.ref a0, .int tk, .ref a1, .int mm, .ref a2, .ref a3, .ref a4, .ref a5, .ref a6, .ref a7, .int wm, .int fa, .int 0, .int se, .ref a8, .ref a9, .ref ab]))] H := hP
  have hD : va_D A [(h0, .inr (8, [.ref a0, .int tk, .ref a1, .int mm, .ref a2, .ref a3, .ref a4, .ref a5, .ref a6, .ref a7, .int wm, .int fa, .int 0, .int se, .ref a8, .ref a9, .ref ab]))] := hD
  refine lv_iload_n hx hb dX9_end_5 rfl (lv_at hl 1 rfl) ?_
  refine lv_if_lt (tgt := 17) hx hb dX9_end_6 (by decide) (fun c_1 => ?_) (fun c_1 => ?_)
  · refine lv_iconst (v := 0) hx hb dX9_end_17 (by decide) ?_
    exact ret_i hx hb hr hlocks rfl (u := (tk, 0)) hk (hP.sub [0] rfl) (hK.sub [] rfl) (hD.sub [0] (by decide) rfl) hS (Nat.le_of_ble_eq_true rfl) (Nat.le_of_ble_eq_true rfl) dX9_end_18
  refine lv_iload_n hx hb dX9_end_9 rfl (lv_at hl 1 rfl) ?_
  refine lv_aload_n hx hb dX9_end_10 rfl (lv_at hl 0 rfl) ?_
  refine va_get (D := D) (ci := 8) (v := .int tk) (C := RX9) (T := TX9) (N := 17) hx hb hts him_end_X9 hown hK hP 0 rfl rfl 1 (by decide) (hts (.fieldLink RX9 62 "OneHandsetModel" "taped" "I") (List.mem_of_getElem? (i := 2) rfl)) (fun _ h9 => h9) rfl dX9_end_11 ?_
  refine lv_icmp_le (tgt := 19) hx hb dX9_end_14 (by decide) (fun c_2 => ?_) (fun c_2 => ?_)
  · refine lv_aload_n hx hb dX9_end_19 rfl (lv_at hl 0 rfl) ?_
    refine lv_iload_n hx hb dX9_end_20 rfl (lv_at hl 1 rfl) ?_
    refine va_put (D := D) (ci := 8) (v := .int v) (ty := .int) (C := RX9) (T := TX9) (N := 17) hx hb hts him_end_X9 tyX9 tyX9_ok nmX9 hown hK hP hD hS 0 rfl rfl 1 (by decide) (hts (.fieldLink RX9 62 "OneHandsetModel" "taped" "I") (List.mem_of_getElem? (i := 2) rfl)) (fun _ h9 => h9) rfl (by decide +kernel) rfl rfl (Nat.le_of_ble_eq_true rfl) dX9_end_21 (fun H locs hP hD hS => ?_)
    have hP : va_P D vwCl [(h0, .inr (8, [.ref a0, .int v, .ref a1, .int mm, .ref a2, .ref a3, .ref a4, .ref a5, .ref a6, .ref a7, .int wm, .int fa, .int 0, .int se, .ref a8, .ref a9, .ref ab]))] H := hP
    have hD : va_D A [(h0, .inr (8, [.ref a0, .int v, .ref a1, .int mm, .ref a2, .ref a3, .ref a4, .ref a5, .ref a6, .ref a7, .int wm, .int fa, .int 0, .int se, .ref a8, .ref a9, .ref ab]))] := hD
    refine lv_iconst (v := 1) hx hb dX9_end_24 (by decide) ?_
    exact ret_i hx hb hr hlocks rfl (u := (v, 0)) (by have : (0 : Int32).toInt = 0 := (by decide); have := ti_nlt c_1; have := ti_le c_2; omega) (hP.sub [0] rfl) (hK.sub [] rfl) (hD.sub [0] (by decide) rfl) hS (Nat.le_of_ble_eq_true rfl) (Nat.le_of_ble_eq_true rfl) dX9_end_25
  refine lv_iconst (v := 0) hx hb dX9_end_17 (by decide) ?_
  exact ret_i hx hb hr hlocks rfl (u := (tk, 0)) hk (hP.sub [0] rfl) (hK.sub [] rfl) (hD.sub [0] (by decide) rfl) hS (Nat.le_of_ble_eq_true rfl) (Nat.le_of_ble_eq_true rfl) dX9_end_18
theorem him_count_X9 : ∀ w ∈ wsX90, w ∈ wsX9_count := mem_pl [5, 6, 7, 8, 9, 10, 11, 12, 13, 14, 15, 16, 17, 18, 19, 20, 21] rfl
set_option maxHeartbeats 4000000 in
set_option maxRecDepth 100000 in
theorem m_count (l : Launch) (D : va_G) (sz : Nat) (cI : ClassId) (h0 : Nat) (a0 : Nat) (a1 : Nat) (a2 : Nat) (a3 : Nat) (a4 : Nat) (a5 : Nat) (a6 : Nat) (a7 : Nat) (a8 : Nat) (a9 : Nat) (ab : Nat) (tk : Int32) (mm : Int32) (wm : Int32) (fa : Int32) (th : Int32) (se : Int32) (v : Int32)  : Ci l yX9_count wsX9_count ({ frames := 0, cells := 0, slots := 0, locals := 0 } : Room) D [.ref h0, .int v] [(h0, .inr (8, [.ref a0, .int tk, .ref a1, .int mm, .ref a2, .ref a3, .ref a4, .ref a5, .ref a6, .ref a7, .int wm, .int fa, .int th, .int se, .ref a8, .ref a9, .ref ab]))] [(cI, .int)] sz (fun (r : Int32) => fun (th2 : Int32) => True) (fun (th2 : Int32) => [(h0, .inr (8, [.ref a0, .int tk, .ref a1, .int mm, .ref a2, .ref a3, .ref a4, .ref a5, .ref a6, .ref a7, .int wm, .int fa, .int th2, .int se, .ref a8, .ref a9, .ref ab]))]) (fun (th2 : Int32) => []) := by
  refine ct_i (cc := cX9_count) (maxL := 2) (ret := (some .int)) (by decide) rfl (Nat.le_of_ble_eq_true rfl) ?_
  intro p e s m below meth c A ls H hx hb hr hts hown hml hlocks hin hA hS hP hK hD hNW hl hAe hsz
  have hl : lv_has ls 2 [(0, .ref h0), (1, .int v)] := hl
  refine lv_aload_n hx hb dX9_count_0 rfl (lv_at hl 0 rfl) ?_
  refine lv_iconst (v := 0) hx hb dX9_count_1 (by decide) ?_
  refine va_put (D := D) (ci := 8) (v := .int 0) (ty := .int) (C := RX9) (T := TX9) (N := 17) hx hb hts him_count_X9 tyX9 tyX9_ok nmX9 hown hK hP hD hS 0 rfl rfl 12 (by decide) (hts (.fieldLink RX9 43 "OneHandsetModel" "thrown" "I") (List.mem_of_getElem? (i := 1) rfl)) (fun _ h9 => h9) rfl (by decide +kernel) rfl rfl (Nat.le_of_ble_eq_true rfl) dX9_count_2 (fun H locs hP hD hS => ?_)
  have hP : va_P D vwCl [(h0, .inr (8, [.ref a0, .int tk, .ref a1, .int mm, .ref a2, .ref a3, .ref a4, .ref a5, .ref a6, .ref a7, .int wm, .int fa, .int 0, .int se, .ref a8, .ref a9, .ref ab]))] H := hP
  have hD : va_D A [(h0, .inr (8, [.ref a0, .int tk, .ref a1, .int mm, .ref a2, .ref a3, .ref a4, .ref a5, .ref a6, .ref a7, .int wm, .int fa, .int 0, .int se, .ref a8, .ref a9, .ref ab]))] := hD
  refine lv_iload_n hx hb dX9_count_5 rfl (lv_at hl 1 rfl) ?_
  refine lv_if_ne (tgt := 16) hx hb dX9_count_6 (by decide) (fun c_1 => ?_) (fun c_1 => ?_)
  · refine lv_iload_n hx hb dX9_count_16 rfl (lv_at hl 1 rfl) ?_
    refine lv_iconst (v := 1) hx hb dX9_count_17 (by decide) ?_
    refine lv_icmp_ne (tgt := 28) hx hb dX9_count_18 (by decide) (fun c_2 => ?_) (fun c_2 => ?_)
    · refine lv_iload_n hx hb dX9_count_28 rfl (lv_at hl 1 rfl) ?_
      refine lv_iconst (v := 2) hx hb dX9_count_29 (by decide) ?_
      refine lv_icmp_ne (tgt := 40) hx hb dX9_count_30 (by decide) (fun c_3 => ?_) (fun c_3 => ?_)
      · refine lv_iconst (v := (-1)) hx hb dX9_count_40 (by decide) ?_
        exact ret_i hx hb hr hlocks rfl (u := 0) trivial (hP.sub [0] rfl) (hK.sub [] rfl) (hD.sub [0] (by decide) rfl) hS (Nat.le_of_ble_eq_true rfl) (Nat.le_of_ble_eq_true rfl) dX9_count_41
      refine lv_aload_n hx hb dX9_count_33 rfl (lv_at hl 0 rfl) ?_
      refine va_get (D := D) (ci := 8) (v := .int wm) (C := RX9) (T := TX9) (N := 17) hx hb hts him_count_X9 hown hK hP 0 rfl rfl 10 (by decide) (hts (.fieldLink RX9 168 "OneHandsetModel" "wayMany" "I") (List.mem_of_getElem? (i := 4) rfl)) (fun _ h9 => h9) rfl dX9_count_34 ?_
      refine lv_goto (tgt := 41) hx hb dX9_count_37 (by decide) ?_
      exact ret_i hx hb hr hlocks rfl (u := 0) trivial (hP.sub [0] rfl) (hK.sub [] rfl) (hD.sub [0] (by decide) rfl) hS (Nat.le_of_ble_eq_true rfl) (Nat.le_of_ble_eq_true rfl) dX9_count_41
    refine lv_aload_n hx hb dX9_count_21 rfl (lv_at hl 0 rfl) ?_
    refine va_get (D := D) (ci := 8) (v := .int tk) (C := RX9) (T := TX9) (N := 17) hx hb hts him_count_X9 hown hK hP 0 rfl rfl 1 (by decide) (hts (.fieldLink RX9 62 "OneHandsetModel" "taped" "I") (List.mem_of_getElem? (i := 3) rfl)) (fun _ h9 => h9) rfl dX9_count_22 ?_
    refine lv_goto (tgt := 41) hx hb dX9_count_25 (by decide) ?_
    exact ret_i hx hb hr hlocks rfl (u := 0) trivial (hP.sub [0] rfl) (hK.sub [] rfl) (hD.sub [0] (by decide) rfl) hS (Nat.le_of_ble_eq_true rfl) (Nat.le_of_ble_eq_true rfl) dX9_count_41
  refine lv_aload_n hx hb dX9_count_9 rfl (lv_at hl 0 rfl) ?_
  refine va_get (D := D) (ci := 8) (v := .int mm) (C := RX9) (T := TX9) (N := 17) hx hb hts him_count_X9 hown hK hP 0 rfl rfl 3 (by decide) (hts (.fieldLink RX9 47 "OneHandsetModel" "makeMany" "I") (List.mem_of_getElem? (i := 2) rfl)) (fun _ h9 => h9) rfl dX9_count_10 ?_
  refine lv_goto (tgt := 41) hx hb dX9_count_13 (by decide) ?_
  exact ret_i hx hb hr hlocks rfl (u := 0) trivial (hP.sub [0] rfl) (hK.sub [] rfl) (hD.sub [0] (by decide) rfl) hS (Nat.le_of_ble_eq_true rfl) (Nat.le_of_ble_eq_true rfl) dX9_count_41
theorem him_feed_X9 : ∀ w ∈ wsX90, w ∈ wsX9_feed := mem_pl [4, 5, 6, 7, 8, 9, 10, 11, 12, 13, 14, 15, 16, 17, 18, 19, 20] rfl
set_option maxHeartbeats 4000000 in
set_option maxRecDepth 100000 in
theorem m_feed (l : Launch) (D : va_G) (sz : Nat) (cI : ClassId) (h0 : Nat) (a0 : Nat) (a1 : Nat) (a2 : Nat) (a3 : Nat) (a4 : Nat) (a5 : Nat) (a6 : Nat) (a7 : Nat) (a8 : Nat) (a9 : Nat) (ab : Nat) (tk : Int32) (mm : Int32) (wm : Int32) (fa : Int32) (th : Int32) (se : Int32) (g0 : Nat → Int32) (a : Int32) (b9 : Int32) (c9 : Int32) (d9 : Int32) (e9 : Int32) (hk : bi tk 0 120) : Ci l yX9_feed wsX9_feed ({ frames := 0, cells := 0, slots := 0, locals := 0 } : Room) D [.ref h0, .int a, .int b9, .int c9, .int d9, .int e9] [(h0, .inr (8, [.ref a0, .int tk, .ref a1, .int mm, .ref a2, .ref a3, .ref a4, .ref a5, .ref a6, .ref a7, .int wm, .int fa, .int th, .int se, .ref a8, .ref a9, .ref ab])), (a0, .inl (cI, 120, .inl g0))] [(cI, .int)] sz (fun (r : Int32) => fun (u9 : Int32 × Int32 × (Nat → Int32)) => match u9 with | (tk2, th2, g02) => bi tk2 0 120) (fun (u9 : Int32 × Int32 × (Nat → Int32)) => match u9 with | (tk2, th2, g02) => [(h0, .inr (8, [.ref a0, .int tk2, .ref a1, .int mm, .ref a2, .ref a3, .ref a4, .ref a5, .ref a6, .ref a7, .int wm, .int fa, .int th2, .int se, .ref a8, .ref a9, .ref ab])), (a0, .inl (cI, 120, .inl g02))]) (fun (u9 : Int32 × Int32 × (Nat → Int32)) => match u9 with | (tk2, th2, g02) => []) := by
  refine ct_i (cc := cX9_feed) (maxL := 6) (ret := (some .int)) (by decide) rfl (Nat.le_of_ble_eq_true rfl) ?_
  intro p e s m below meth c A ls H hx hb hr hts hown hml hlocks hin hA hS hP hK hD hNW hl hAe hsz
  have hl : lv_has ls 6 [(0, .ref h0), (1, .int a), (2, .int b9), (3, .int c9), (4, .int d9), (5, .int e9)] := hl
  refine lv_aload_n hx hb dX9_feed_0 rfl (lv_at hl 0 rfl) ?_
  refine lv_iconst (v := 0) hx hb dX9_feed_1 (by decide) ?_
  refine va_put (D := D) (ci := 8) (v := .int 0) (ty := .int) (C := RX9) (T := TX9) (N := 17) hx hb hts him_feed_X9 tyX9 tyX9_ok nmX9 hown hK hP hD hS 0 rfl rfl 12 (by decide) (hts (.fieldLink RX9 43 "OneHandsetModel" "thrown" "I") (List.mem_of_getElem? (i := 1) rfl)) (fun _ h9 => h9) rfl (by decide +kernel) rfl rfl (Nat.le_of_ble_eq_true rfl) dX9_feed_2 (fun H locs hP hD hS => ?_)
  have hP : va_P D vwCl [(h0, .inr (8, [.ref a0, .int tk, .ref a1, .int mm, .ref a2, .ref a3, .ref a4, .ref a5, .ref a6, .ref a7, .int wm, .int fa, .int 0, .int se, .ref a8, .ref a9, .ref ab])), (a0, .inl (cI, 120, .inl g0))] H := hP
  have hD : va_D A [(h0, .inr (8, [.ref a0, .int tk, .ref a1, .int mm, .ref a2, .ref a3, .ref a4, .ref a5, .ref a6, .ref a7, .int wm, .int fa, .int 0, .int se, .ref a8, .ref a9, .ref ab])), (a0, .inl (cI, 120, .inl g0))] := hD
  refine lv_aload_n hx hb dX9_feed_5 rfl (lv_at hl 0 rfl) ?_
  refine va_get (D := D) (ci := 8) (v := .int tk) (C := RX9) (T := TX9) (N := 17) hx hb hts him_feed_X9 hown hK hP 0 rfl rfl 1 (by decide) (hts (.fieldLink RX9 62 "OneHandsetModel" "taped" "I") (List.mem_of_getElem? (i := 2) rfl)) (fun _ h9 => h9) rfl dX9_feed_6 ?_
  refine lv_iconst (v := 5) hx hb dX9_feed_9 (by decide) ?_
  refine lv_iadd hx hb dX9_feed_10 ?_
  refine lv_bipush (v := 120) hx hb dX9_feed_11 (by decide) ?_
  refine lv_icmp_le (tgt := 18) hx hb dX9_feed_13 (by decide) (fun c_1 => ?_) (fun c_1 => ?_)
  · refine lv_aload_n hx hb dX9_feed_18 rfl (lv_at hl 0 rfl) ?_
    refine va_get (D := D) (ci := 8) (v := .ref a0) (C := RX9) (T := TX9) (N := 17) hx hb hts him_feed_X9 hown hK hP 0 rfl rfl 0 (by decide) (hts (.fieldLink RX9 9 "OneHandsetModel" "tape" "[I") (List.mem_of_getElem? (i := 3) rfl)) (fun _ h9 => h9) rfl dX9_feed_19 ?_
    refine lv_aload_n hx hb dX9_feed_22 rfl (lv_at hl 0 rfl) ?_
    refine va_get (D := D) (ci := 8) (v := .int tk) (C := RX9) (T := TX9) (N := 17) hx hb hts him_feed_X9 hown hK hP 0 rfl rfl 1 (by decide) (hts (.fieldLink RX9 62 "OneHandsetModel" "taped" "I") (List.mem_of_getElem? (i := 2) rfl)) (fun _ h9 => h9) rfl dX9_feed_23 ?_
    refine lv_iload_n hx hb dX9_feed_26 rfl (lv_at hl 1 rfl) ?_
    refine va_iast hx hb hK hP hD hS 1 0 rfl rfl (by have : (120 : Int32).toInt = 120 := (by decide); have := ti_le c_1; have k120 : (120 : Int32).toInt = 120 := (by decide); have k5 : (5 : Int32).toInt = 5 := (by decide); have u5 := ti_ad (x := tk) (y := 5) (by rw [k5]; omega); rw [k5] at u5; exact vp_in_iff.mpr (by omega)) dX9_feed_27 (fun H locs hP hD hS => ?_)
    obtain ⟨g_2, hP, hD⟩ : ∃ g9 : Nat → Int32, va_P D vwCl [(h0, .inr (8, [.ref a0, .int tk, .ref a1, .int mm, .ref a2, .ref a3, .ref a4, .ref a5, .ref a6, .ref a7, .int wm, .int fa, .int 0, .int se, .ref a8, .ref a9, .ref ab])), (a0, .inl (cI, 120, .inl g9))] H ∧ va_D A [(h0, .inr (8, [.ref a0, .int tk, .ref a1, .int mm, .ref a2, .ref a3, .ref a4, .ref a5, .ref a6, .ref a7, .int wm, .int fa, .int 0, .int se, .ref a8, .ref a9, .ref ab])), (a0, .inl (cI, 120, .inl g9))] := ⟨_, hP, hD⟩
    refine lv_aload_n hx hb dX9_feed_28 rfl (lv_at hl 0 rfl) ?_
    refine va_get (D := D) (ci := 8) (v := .ref a0) (C := RX9) (T := TX9) (N := 17) hx hb hts him_feed_X9 hown hK hP 0 rfl rfl 0 (by decide) (hts (.fieldLink RX9 9 "OneHandsetModel" "tape" "[I") (List.mem_of_getElem? (i := 3) rfl)) (fun _ h9 => h9) rfl dX9_feed_29 ?_
    refine lv_aload_n hx hb dX9_feed_32 rfl (lv_at hl 0 rfl) ?_
    refine va_get (D := D) (ci := 8) (v := .int tk) (C := RX9) (T := TX9) (N := 17) hx hb hts him_feed_X9 hown hK hP 0 rfl rfl 1 (by decide) (hts (.fieldLink RX9 62 "OneHandsetModel" "taped" "I") (List.mem_of_getElem? (i := 2) rfl)) (fun _ h9 => h9) rfl dX9_feed_33 ?_
    refine lv_iconst (v := 1) hx hb dX9_feed_36 (by decide) ?_
    refine lv_iadd hx hb dX9_feed_37 ?_
    refine lv_iload_n hx hb dX9_feed_38 rfl (lv_at hl 2 rfl) ?_
    refine va_iast hx hb hK hP hD hS 1 0 rfl rfl (by have : (120 : Int32).toInt = 120 := (by decide); have := ti_le c_1; have k120 : (120 : Int32).toInt = 120 := (by decide); have k5 : (5 : Int32).toInt = 5 := (by decide); have u5 := ti_ad (x := tk) (y := 5) (by rw [k5]; omega); rw [k5] at u5; have k1 : (1 : Int32).toInt = 1 := (by decide); have u6 := ti_ad (x := tk) (y := 1) (by rw [k1]; omega); rw [k1] at u6; exact vp_in_iff.mpr (by omega)) dX9_feed_39 (fun H locs hP hD hS => ?_)
    obtain ⟨g_3, hP, hD⟩ : ∃ g9 : Nat → Int32, va_P D vwCl [(h0, .inr (8, [.ref a0, .int tk, .ref a1, .int mm, .ref a2, .ref a3, .ref a4, .ref a5, .ref a6, .ref a7, .int wm, .int fa, .int 0, .int se, .ref a8, .ref a9, .ref ab])), (a0, .inl (cI, 120, .inl g9))] H ∧ va_D A [(h0, .inr (8, [.ref a0, .int tk, .ref a1, .int mm, .ref a2, .ref a3, .ref a4, .ref a5, .ref a6, .ref a7, .int wm, .int fa, .int 0, .int se, .ref a8, .ref a9, .ref ab])), (a0, .inl (cI, 120, .inl g9))] := ⟨_, hP, hD⟩
    refine lv_aload_n hx hb dX9_feed_40 rfl (lv_at hl 0 rfl) ?_
    refine va_get (D := D) (ci := 8) (v := .ref a0) (C := RX9) (T := TX9) (N := 17) hx hb hts him_feed_X9 hown hK hP 0 rfl rfl 0 (by decide) (hts (.fieldLink RX9 9 "OneHandsetModel" "tape" "[I") (List.mem_of_getElem? (i := 3) rfl)) (fun _ h9 => h9) rfl dX9_feed_41 ?_
    refine lv_aload_n hx hb dX9_feed_44 rfl (lv_at hl 0 rfl) ?_
    refine va_get (D := D) (ci := 8) (v := .int tk) (C := RX9) (T := TX9) (N := 17) hx hb hts him_feed_X9 hown hK hP 0 rfl rfl 1 (by decide) (hts (.fieldLink RX9 62 "OneHandsetModel" "taped" "I") (List.mem_of_getElem? (i := 2) rfl)) (fun _ h9 => h9) rfl dX9_feed_45 ?_
    refine lv_iconst (v := 2) hx hb dX9_feed_48 (by decide) ?_
    refine lv_iadd hx hb dX9_feed_49 ?_
    refine lv_iload_n hx hb dX9_feed_50 rfl (lv_at hl 3 rfl) ?_
    refine va_iast hx hb hK hP hD hS 1 0 rfl rfl (by have : (120 : Int32).toInt = 120 := (by decide); have := ti_le c_1; have k120 : (120 : Int32).toInt = 120 := (by decide); have k5 : (5 : Int32).toInt = 5 := (by decide); have u5 := ti_ad (x := tk) (y := 5) (by rw [k5]; omega); rw [k5] at u5; have k2 : (2 : Int32).toInt = 2 := (by decide); have u6 := ti_ad (x := tk) (y := 2) (by rw [k2]; omega); rw [k2] at u6; exact vp_in_iff.mpr (by omega)) dX9_feed_51 (fun H locs hP hD hS => ?_)
    obtain ⟨g_4, hP, hD⟩ : ∃ g9 : Nat → Int32, va_P D vwCl [(h0, .inr (8, [.ref a0, .int tk, .ref a1, .int mm, .ref a2, .ref a3, .ref a4, .ref a5, .ref a6, .ref a7, .int wm, .int fa, .int 0, .int se, .ref a8, .ref a9, .ref ab])), (a0, .inl (cI, 120, .inl g9))] H ∧ va_D A [(h0, .inr (8, [.ref a0, .int tk, .ref a1, .int mm, .ref a2, .ref a3, .ref a4, .ref a5, .ref a6, .ref a7, .int wm, .int fa, .int 0, .int se, .ref a8, .ref a9, .ref ab])), (a0, .inl (cI, 120, .inl g9))] := ⟨_, hP, hD⟩
    refine lv_aload_n hx hb dX9_feed_52 rfl (lv_at hl 0 rfl) ?_
    refine va_get (D := D) (ci := 8) (v := .ref a0) (C := RX9) (T := TX9) (N := 17) hx hb hts him_feed_X9 hown hK hP 0 rfl rfl 0 (by decide) (hts (.fieldLink RX9 9 "OneHandsetModel" "tape" "[I") (List.mem_of_getElem? (i := 3) rfl)) (fun _ h9 => h9) rfl dX9_feed_53 ?_
    refine lv_aload_n hx hb dX9_feed_56 rfl (lv_at hl 0 rfl) ?_
    refine va_get (D := D) (ci := 8) (v := .int tk) (C := RX9) (T := TX9) (N := 17) hx hb hts him_feed_X9 hown hK hP 0 rfl rfl 1 (by decide) (hts (.fieldLink RX9 62 "OneHandsetModel" "taped" "I") (List.mem_of_getElem? (i := 2) rfl)) (fun _ h9 => h9) rfl dX9_feed_57 ?_
    refine lv_iconst (v := 3) hx hb dX9_feed_60 (by decide) ?_
    refine lv_iadd hx hb dX9_feed_61 ?_
    refine lv_iload hx hb dX9_feed_62 (lv_at hl 4 rfl) ?_
    refine va_iast hx hb hK hP hD hS 1 0 rfl rfl (by have : (120 : Int32).toInt = 120 := (by decide); have := ti_le c_1; have k120 : (120 : Int32).toInt = 120 := (by decide); have k5 : (5 : Int32).toInt = 5 := (by decide); have u5 := ti_ad (x := tk) (y := 5) (by rw [k5]; omega); rw [k5] at u5; have k3 : (3 : Int32).toInt = 3 := (by decide); have u6 := ti_ad (x := tk) (y := 3) (by rw [k3]; omega); rw [k3] at u6; exact vp_in_iff.mpr (by omega)) dX9_feed_64 (fun H locs hP hD hS => ?_)
    obtain ⟨g_5, hP, hD⟩ : ∃ g9 : Nat → Int32, va_P D vwCl [(h0, .inr (8, [.ref a0, .int tk, .ref a1, .int mm, .ref a2, .ref a3, .ref a4, .ref a5, .ref a6, .ref a7, .int wm, .int fa, .int 0, .int se, .ref a8, .ref a9, .ref ab])), (a0, .inl (cI, 120, .inl g9))] H ∧ va_D A [(h0, .inr (8, [.ref a0, .int tk, .ref a1, .int mm, .ref a2, .ref a3, .ref a4, .ref a5, .ref a6, .ref a7, .int wm, .int fa, .int 0, .int se, .ref a8, .ref a9, .ref ab])), (a0, .inl (cI, 120, .inl g9))] := ⟨_, hP, hD⟩
    refine lv_aload_n hx hb dX9_feed_65 rfl (lv_at hl 0 rfl) ?_
    refine va_get (D := D) (ci := 8) (v := .ref a0) (C := RX9) (T := TX9) (N := 17) hx hb hts him_feed_X9 hown hK hP 0 rfl rfl 0 (by decide) (hts (.fieldLink RX9 9 "OneHandsetModel" "tape" "[I") (List.mem_of_getElem? (i := 3) rfl)) (fun _ h9 => h9) rfl dX9_feed_66 ?_
    refine lv_aload_n hx hb dX9_feed_69 rfl (lv_at hl 0 rfl) ?_
    refine va_get (D := D) (ci := 8) (v := .int tk) (C := RX9) (T := TX9) (N := 17) hx hb hts him_feed_X9 hown hK hP 0 rfl rfl 1 (by decide) (hts (.fieldLink RX9 62 "OneHandsetModel" "taped" "I") (List.mem_of_getElem? (i := 2) rfl)) (fun _ h9 => h9) rfl dX9_feed_70 ?_
    refine lv_iconst (v := 4) hx hb dX9_feed_73 (by decide) ?_
    refine lv_iadd hx hb dX9_feed_74 ?_
    refine lv_iload hx hb dX9_feed_75 (lv_at hl 5 rfl) ?_
    refine va_iast hx hb hK hP hD hS 1 0 rfl rfl (by have : (120 : Int32).toInt = 120 := (by decide); have := ti_le c_1; have k120 : (120 : Int32).toInt = 120 := (by decide); have k5 : (5 : Int32).toInt = 5 := (by decide); have u5 := ti_ad (x := tk) (y := 5) (by rw [k5]; omega); rw [k5] at u5; have k4 : (4 : Int32).toInt = 4 := (by decide); have u6 := ti_ad (x := tk) (y := 4) (by rw [k4]; omega); rw [k4] at u6; exact vp_in_iff.mpr (by omega)) dX9_feed_77 (fun H locs hP hD hS => ?_)
    obtain ⟨g_6, hP, hD⟩ : ∃ g9 : Nat → Int32, va_P D vwCl [(h0, .inr (8, [.ref a0, .int tk, .ref a1, .int mm, .ref a2, .ref a3, .ref a4, .ref a5, .ref a6, .ref a7, .int wm, .int fa, .int 0, .int se, .ref a8, .ref a9, .ref ab])), (a0, .inl (cI, 120, .inl g9))] H ∧ va_D A [(h0, .inr (8, [.ref a0, .int tk, .ref a1, .int mm, .ref a2, .ref a3, .ref a4, .ref a5, .ref a6, .ref a7, .int wm, .int fa, .int 0, .int se, .ref a8, .ref a9, .ref ab])), (a0, .inl (cI, 120, .inl g9))] := ⟨_, hP, hD⟩
    refine lv_aload_n hx hb dX9_feed_78 rfl (lv_at hl 0 rfl) ?_
    refine lv_dup hx hb dX9_feed_79 rfl ?_
    refine va_get (D := D) (ci := 8) (v := .int tk) (C := RX9) (T := TX9) (N := 17) hx hb hts him_feed_X9 hown hK hP 0 rfl rfl 1 (by decide) (hts (.fieldLink RX9 62 "OneHandsetModel" "taped" "I") (List.mem_of_getElem? (i := 2) rfl)) (fun _ h9 => h9) rfl dX9_feed_80 ?_
    refine lv_iconst (v := 5) hx hb dX9_feed_83 (by decide) ?_
    refine lv_iadd hx hb dX9_feed_84 ?_
    refine va_put (D := D) (ci := 8) (v := .int (tk + 5)) (ty := .int) (C := RX9) (T := TX9) (N := 17) hx hb hts him_feed_X9 tyX9 tyX9_ok nmX9 hown hK hP hD hS 0 rfl rfl 1 (by decide) (hts (.fieldLink RX9 62 "OneHandsetModel" "taped" "I") (List.mem_of_getElem? (i := 2) rfl)) (fun _ h9 => h9) rfl (by decide +kernel) rfl rfl (Nat.le_of_ble_eq_true rfl) dX9_feed_85 (fun H locs hP hD hS => ?_)
    have hP : va_P D vwCl [(h0, .inr (8, [.ref a0, .int (tk + 5), .ref a1, .int mm, .ref a2, .ref a3, .ref a4, .ref a5, .ref a6, .ref a7, .int wm, .int fa, .int 0, .int se, .ref a8, .ref a9, .ref ab])), (a0, .inl (cI, 120, .inl g_6))] H := hP
    have hD : va_D A [(h0, .inr (8, [.ref a0, .int (tk + 5), .ref a1, .int mm, .ref a2, .ref a3, .ref a4, .ref a5, .ref a6, .ref a7, .int wm, .int fa, .int 0, .int se, .ref a8, .ref a9, .ref ab])), (a0, .inl (cI, 120, .inl g_6))] := hD
    refine lv_aload_n hx hb dX9_feed_88 rfl (lv_at hl 0 rfl) ?_
    refine va_get (D := D) (ci := 8) (v := .int (tk + 5)) (C := RX9) (T := TX9) (N := 17) hx hb hts him_feed_X9 hown hK hP 0 rfl rfl 1 (by decide) (hts (.fieldLink RX9 62 "OneHandsetModel" "taped" "I") (List.mem_of_getElem? (i := 2) rfl)) (fun _ h9 => h9) rfl dX9_feed_89 ?_
    exact ret_i hx hb hr hlocks rfl (u := (tk + 5, 0, g_6)) (by have : (120 : Int32).toInt = 120 := (by decide); have := ti_le c_1; have k120 : (120 : Int32).toInt = 120 := (by decide); have k5 : (5 : Int32).toInt = 5 := (by decide); have u5 := ti_ad (x := tk) (y := 5) (by rw [k5]; omega); rw [k5] at u5; omega) (hP.sub [0, 1] rfl) (hK.sub [] rfl) (hD.sub [0, 1] (by decide) rfl) hS (Nat.le_of_ble_eq_true rfl) (Nat.le_of_ble_eq_true rfl) dX9_feed_92
  refine lv_iconst (v := (-1)) hx hb dX9_feed_16 (by decide) ?_
  exact ret_i hx hb hr hlocks rfl (u := (tk, 0, g0)) hk (hP.sub [0, 1] rfl) (hK.sub [] rfl) (hD.sub [0, 1] (by decide) rfl) hS (Nat.le_of_ble_eq_true rfl) (Nat.le_of_ble_eq_true rfl) dX9_feed_17
set_option maxHeartbeats 4000000 in
set_option maxRecDepth 100000 in
theorem m_isKey (l : Launch) (D : va_G) (sz : Nat) (cI : ClassId) (h0 : Nat) (a0 : Nat) (a1 : Nat) (a2 : Nat) (a3 : Nat) (a4 : Nat) (a5 : Nat) (a6 : Nat) (a7 : Nat) (a8 : Nat) (a9 : Nat) (ab : Nat) (tk : Int32) (mm : Int32) (wm : Int32) (fa : Int32) (th : Int32) (se : Int32) (v : Int32) (w : Int32) (hmm : bi mm 0 8) : Ci l yX9_isKey wsX9_isKey ({ frames := 2, cells := 0, slots := 0, locals := 43 } : Room) D [.ref h0, .int v, .int w] [(h0, .inr (8, [.ref a0, .int tk, .ref a1, .int mm, .ref a2, .ref a3, .ref a4, .ref a5, .ref a6, .ref a7, .int wm, .int fa, .int th, .int se, .ref a8, .ref a9, .ref ab]))] [(cI, .int)] sz (fun (r : Int32) => fun (_ : Unit) => r = 0 ∨ (0 ≤ v.toInt ∧ v.toInt < mm.toInt ∧ bi w 0 15)) (fun (_ : Unit) => [(h0, .inr (8, [.ref a0, .int tk, .ref a1, .int mm, .ref a2, .ref a3, .ref a4, .ref a5, .ref a6, .ref a7, .int wm, .int fa, .int th, .int se, .ref a8, .ref a9, .ref ab]))]) (fun (_ : Unit) => []) := by
  refine ct_i (cc := cX9_isKey) (maxL := 3) (ret := (some .boolean)) (by decide) rfl (Nat.le_of_ble_eq_true rfl) ?_
  intro p e s m below meth c A ls H hx hb hr hts hown hml hlocks hin hA hS hP hK hD hNW hl hAe hsz
  have hl : lv_has ls 3 [(0, .ref h0), (1, .int v), (2, .int w)] := hl
  refine lv_aload_n hx hb dX9_isKey_0 rfl (lv_at hl 0 rfl) ?_
  refine lv_iload_n hx hb dX9_isKey_1 rfl (lv_at hl 1 rfl) ?_
  refine go_i (wr := []) (tysr := [(cI, .int)]) hP hD hS hA hK [0] [] [0] rfl rfl (by decide) (by decide) rfl (va_runV (As := [.int v]) (rest := []) ⟨hx, hb, hml, hown, hts⟩ (m_isMake l D H.size cI h0 a0 a1 a2 a3 a4 a5 a6 a7 a8 a9 ab tk mm wm fa th se v ) (cwV 1 hts gX9_isKey_X9_isMake rfl rfl rfl (by decide +kernel) ⟨Nat.le_of_ble_eq_true rfl, Nat.le_of_ble_eq_true rfl⟩) (st_preV (ci := 8) (q0 := 0) hP hD hK hNW [0] [0] rfl rfl (by decide) rfl rfl rfl rfl) rfl rfl hl.1 rfl (lv_room (Nat.le_of_ble_eq_true rfl)) dX9_isKey_2 ⟨(Nat.le_of_ble_eq_true rfl), (Nat.le_of_ble_eq_true rfl)⟩) (fun r_1 u H locs hw hP hD hK hS => ?_)
  have hw : r_1 = wi v 0 (mm - 1) := hw
  subst hw
  have hP : va_P D vwCl [(h0, .inr (8, [.ref a0, .int tk, .ref a1, .int mm, .ref a2, .ref a3, .ref a4, .ref a5, .ref a6, .ref a7, .int wm, .int fa, .int th, .int se, .ref a8, .ref a9, .ref ab]))] H := hP
  have hD : va_D A [(h0, .inr (8, [.ref a0, .int tk, .ref a1, .int mm, .ref a2, .ref a3, .ref a4, .ref a5, .ref a6, .ref a7, .int wm, .int fa, .int th, .int se, .ref a8, .ref a9, .ref ab]))] := hD
  have hK : va_K D vwCl [(cI, .int)] s := hK
  refine lv_if_eq (tgt := 22) hx hb dX9_isKey_5 (by decide) (fun c_2 => ?_) (fun c_2 => ?_)
  · refine lv_iconst (v := 0) hx hb dX9_isKey_22 (by decide) ?_
    exact ret_i hx hb hr hlocks rfl (u := ()) (Or.inl rfl) (hP.sub [0] rfl) (hK.sub [] rfl) (hD.sub [0] (by decide) rfl) hS (Nat.le_of_ble_eq_true rfl) (Nat.le_of_ble_eq_true rfl) dX9_isKey_23
  refine lv_iload_n hx hb dX9_isKey_8 rfl (lv_at hl 2 rfl) ?_
  refine lv_iconst (v := 0) hx hb dX9_isKey_9 (by decide) ?_
  refine lv_bipush (v := 15) hx hb dX9_isKey_10 (by decide) ?_
  refine go_i (wr := [(h0, .inr (8, [.ref a0, .int tk, .ref a1, .int mm, .ref a2, .ref a3, .ref a4, .ref a5, .ref a6, .ref a7, .int wm, .int fa, .int th, .int se, .ref a8, .ref a9, .ref ab]))]) (tysr := [(cI, .int)]) hP hD hS hA hK [] [0] [0] rfl rfl (by decide) (by decide) rfl (va_runS (As := [.int w, .int 0, .int 15]) (rest := []) ⟨hx, hb, hml, hown, hts⟩ (m_in l D H.size w 0 15 ) (va_cwS 3 hts gX9_isKey_X9_in rfl rfl rfl (by decide +kernel) ⟨Nat.le_of_ble_eq_true rfl, Nat.le_of_ble_eq_true rfl⟩) (st_preS hP hD hK hNW [] [] rfl rfl (by decide) rfl) rfl rfl hl.1 rfl (lv_room (Nat.le_of_ble_eq_true rfl)) dX9_isKey_12 ⟨(Nat.le_of_ble_eq_true rfl), (Nat.le_of_ble_eq_true rfl)⟩) (fun r_3 u H locs hw hP hD hK hS => ?_)
  have hw : r_3 = wi w 0 15 := hw
  subst hw
  have hP : va_P D vwCl [(h0, .inr (8, [.ref a0, .int tk, .ref a1, .int mm, .ref a2, .ref a3, .ref a4, .ref a5, .ref a6, .ref a7, .int wm, .int fa, .int th, .int se, .ref a8, .ref a9, .ref ab]))] H := hP
  have hD : va_D A [(h0, .inr (8, [.ref a0, .int tk, .ref a1, .int mm, .ref a2, .ref a3, .ref a4, .ref a5, .ref a6, .ref a7, .int wm, .int fa, .int th, .int se, .ref a8, .ref a9, .ref ab]))] := hD
  have hK : va_K D vwCl [(cI, .int)] s := hK
  refine lv_if_eq (tgt := 22) hx hb dX9_isKey_15 (by decide) (fun c_4 => ?_) (fun c_4 => ?_)
  · refine lv_iconst (v := 0) hx hb dX9_isKey_22 (by decide) ?_
    exact ret_i hx hb hr hlocks rfl (u := ()) (Or.inl rfl) (hP.sub [0] rfl) (hK.sub [] rfl) (hD.sub [0] (by decide) rfl) hS (Nat.le_of_ble_eq_true rfl) (Nat.le_of_ble_eq_true rfl) dX9_isKey_23
  refine lv_iconst (v := 1) hx hb dX9_isKey_18 (by decide) ?_
  refine lv_goto (tgt := 23) hx hb dX9_isKey_19 (by decide) ?_
  exact ret_i hx hb hr hlocks rfl (u := ()) (Or.inr (by have : (0 : Int32).toInt = 0 := (by decide); have : (15 : Int32).toInt = 15 := (by decide); have := ti_wi1 c_2; have := ti_wi1 c_4; have u1 := ti_m1 (i := mm) (by omega); omega)) (hP.sub [0] rfl) (hK.sub [] rfl) (hD.sub [0] (by decide) rfl) hS (Nat.le_of_ble_eq_true rfl) (Nat.le_of_ble_eq_true rfl) dX9_isKey_23
set_option maxHeartbeats 4000000 in
set_option maxRecDepth 100000 in
theorem m_flipOf (l : Launch) (D : va_G) (sz : Nat) (cI : ClassId) (h0 : Nat) (a0 : Nat) (a1 : Nat) (a2 : Nat) (a3 : Nat) (a4 : Nat) (a5 : Nat) (a6 : Nat) (a7 : Nat) (a8 : Nat) (a9 : Nat) (ab : Nat) (tk : Int32) (mm : Int32) (wm : Int32) (fa : Int32) (th : Int32) (se : Int32) (g1 : Nat → Int32) (v : Int32) (hv : bi v 0 7) : Ci l yX9_flipOf wsX9_flipOf ({ frames := 1, cells := 0, slots := 0, locals := 22 } : Room) D [.ref h0, .int v] [(h0, .inr (8, [.ref a0, .int tk, .ref a1, .int mm, .ref a2, .ref a3, .ref a4, .ref a5, .ref a6, .ref a7, .int wm, .int fa, .int th, .int se, .ref a8, .ref a9, .ref ab])), (a1, .inl (cI, 80, .inl g1))] [(cI, .int)] sz (fun (r : Int32) => fun (_ : Unit) => True) (fun (_ : Unit) => [(h0, .inr (8, [.ref a0, .int tk, .ref a1, .int mm, .ref a2, .ref a3, .ref a4, .ref a5, .ref a6, .ref a7, .int wm, .int fa, .int th, .int se, .ref a8, .ref a9, .ref ab])), (a1, .inl (cI, 80, .inl g1))]) (fun (_ : Unit) => []) := by
  refine ct_i (cc := cX9_flipOf) (maxL := 2) (ret := (some .int)) (by decide) rfl (Nat.le_of_ble_eq_true rfl) ?_
  intro p e s m below meth c A ls H hx hb hr hts hown hml hlocks hin hA hS hP hK hD hNW hl hAe hsz
  have hl : lv_has ls 2 [(0, .ref h0), (1, .int v)] := hl
  refine lv_aload_n hx hb dX9_flipOf_0 rfl (lv_at hl 0 rfl) ?_
  refine lv_iload_n hx hb dX9_flipOf_1 rfl (lv_at hl 1 rfl) ?_
  refine lv_bipush (v := 8) hx hb dX9_flipOf_2 (by decide) ?_
  refine go_i (wr := []) (tysr := [(cI, .int)]) hP hD hS hA hK [0, 1] [] [0] rfl rfl (by decide) (by decide) rfl (va_runV (As := [.int v, .int 8]) (rest := []) ⟨hx, hb, hml, hown, hts⟩ (m_get l D H.size cI h0 a0 a1 a2 a3 a4 a5 a6 a7 a8 a9 ab tk mm wm fa th se g1 v 8 (by first | assumption | decide | omega) (by first | assumption | decide | omega)) (cwV 2 hts gX9_flipOf_X9_get rfl rfl rfl (by decide +kernel) ⟨Nat.le_of_ble_eq_true rfl, Nat.le_of_ble_eq_true rfl⟩) (st_preV (ci := 8) (q0 := 0) hP hD hK hNW [0, 1] [0] rfl rfl (by decide) rfl rfl rfl rfl) rfl rfl hl.1 rfl (lv_room (Nat.le_of_ble_eq_true rfl)) dX9_flipOf_4 ⟨(Nat.le_of_ble_eq_true rfl), (Nat.le_of_ble_eq_true rfl)⟩) (fun r_1 u H locs hw hP hD hK hS => ?_)
  have hw : r_1 = g1 (Int32.toNatClampNeg (10 * v + 8)) := hw
  subst hw
  have hP : va_P D vwCl [(h0, .inr (8, [.ref a0, .int tk, .ref a1, .int mm, .ref a2, .ref a3, .ref a4, .ref a5, .ref a6, .ref a7, .int wm, .int fa, .int th, .int se, .ref a8, .ref a9, .ref ab])), (a1, .inl (cI, 80, .inl g1))] H := hP
  have hD : va_D A [(h0, .inr (8, [.ref a0, .int tk, .ref a1, .int mm, .ref a2, .ref a3, .ref a4, .ref a5, .ref a6, .ref a7, .int wm, .int fa, .int th, .int se, .ref a8, .ref a9, .ref ab])), (a1, .inl (cI, 80, .inl g1))] := hD
  have hK : va_K D vwCl [(cI, .int)] s := hK
  refine lv_iconst (v := (-1)) hx hb dX9_flipOf_7 (by decide) ?_
  refine lv_icmp_ne (tgt := 15) hx hb dX9_flipOf_8 (by decide) (fun c_2 => ?_) (fun c_2 => ?_)
  · refine lv_iconst (v := 1) hx hb dX9_flipOf_15 (by decide) ?_
    refine lv_aload_n hx hb dX9_flipOf_16 rfl (lv_at hl 0 rfl) ?_
    refine lv_iload_n hx hb dX9_flipOf_17 rfl (lv_at hl 1 rfl) ?_
    refine lv_bipush (v := 8) hx hb dX9_flipOf_18 (by decide) ?_
    refine go_i (wr := []) (tysr := [(cI, .int)]) hP hD hS hA hK [0, 1] [] [0] rfl rfl (by decide) (by decide) rfl (va_runV (As := [.int v, .int 8]) (rest := [.int 1]) ⟨hx, hb, hml, hown, hts⟩ (m_get l D H.size cI h0 a0 a1 a2 a3 a4 a5 a6 a7 a8 a9 ab tk mm wm fa th se g1 v 8 (by first | assumption | decide | omega) (by first | assumption | decide | omega)) (cwV 2 hts gX9_flipOf_X9_get rfl rfl rfl (by decide +kernel) ⟨Nat.le_of_ble_eq_true rfl, Nat.le_of_ble_eq_true rfl⟩) (st_preV (ci := 8) (q0 := 0) hP hD hK hNW [0, 1] [0] rfl rfl (by decide) rfl rfl rfl rfl) rfl rfl hl.1 rfl (lv_room (Nat.le_of_ble_eq_true rfl)) dX9_flipOf_20 ⟨(Nat.le_of_ble_eq_true rfl), (Nat.le_of_ble_eq_true rfl)⟩) (fun r_3 u H locs hw hP hD hK hS => ?_)
    have hw : r_3 = g1 (Int32.toNatClampNeg (10 * v + 8)) := hw
    subst hw
    have hP : va_P D vwCl [(h0, .inr (8, [.ref a0, .int tk, .ref a1, .int mm, .ref a2, .ref a3, .ref a4, .ref a5, .ref a6, .ref a7, .int wm, .int fa, .int th, .int se, .ref a8, .ref a9, .ref ab])), (a1, .inl (cI, 80, .inl g1))] H := hP
    have hD : va_D A [(h0, .inr (8, [.ref a0, .int tk, .ref a1, .int mm, .ref a2, .ref a3, .ref a4, .ref a5, .ref a6, .ref a7, .int wm, .int fa, .int th, .int se, .ref a8, .ref a9, .ref ab])), (a1, .inl (cI, 80, .inl g1))] := hD
    have hK : va_K D vwCl [(cI, .int)] s := hK
    refine lv_ishl hx hb dX9_flipOf_23 ?_
    refine lv_topi (fun y_4 _ => ?_)
    exact ret_i hx hb hr hlocks rfl (u := ()) trivial (hP.sub [0, 1] rfl) (hK.sub [] rfl) (hD.sub [0, 1] (by decide) rfl) hS (Nat.le_of_ble_eq_true rfl) (Nat.le_of_ble_eq_true rfl) dX9_flipOf_24
  refine lv_iconst (v := 0) hx hb dX9_flipOf_11 (by decide) ?_
  refine lv_goto (tgt := 24) hx hb dX9_flipOf_12 (by decide) ?_
  exact ret_i hx hb hr hlocks rfl (u := ()) trivial (hP.sub [0, 1] rfl) (hK.sub [] rfl) (hD.sub [0, 1] (by decide) rfl) hS (Nat.le_of_ble_eq_true rfl) (Nat.le_of_ble_eq_true rfl) dX9_flipOf_24
theorem him_learn_X9 : ∀ w ∈ wsX90, w ∈ wsX9_learn := mem_pl [59, 60, 61, 62, 63, 64, 65, 66, 67, 68, 69, 70, 71, 72, 73, 74, 75] rfl
set_option maxHeartbeats 4000000 in
set_option maxRecDepth 100000 in
theorem m_learn (l : Launch) (D : va_G) (sz : Nat) (cI : ClassId) (h0 : Nat) (a0 : Nat) (a1 : Nat) (a2 : Nat) (a3 : Nat) (a4 : Nat) (a5 : Nat) (a6 : Nat) (a7 : Nat) (a8 : Nat) (a9 : Nat) (ab : Nat) (tk : Int32) (mm : Int32) (wm : Int32) (fa : Int32) (th : Int32) (se : Int32) (g0 : Nat → Int32) (g1 : Nat → Int32) (g2 : Nat → Int32) (v : Int32) (w : Int32) (hk : bi tk 0 120) (hmm : bi mm 0 8) : Ci l yX9_learn wsX9_learn ({ frames := 6, cells := 0, slots := 0, locals := 142 } : Room) D [.ref h0, .int v, .int w] [(h0, .inr (8, [.ref a0, .int tk, .ref a1, .int mm, .ref a2, .ref a3, .ref a4, .ref a5, .ref a6, .ref a7, .int wm, .int fa, .int th, .int se, .ref a8, .ref a9, .ref ab])), (a0, .inl (cI, 120, .inl g0)), (a1, .inl (cI, 80, .inl g1)), (a2, .inl (cI, 128, .inl g2))] [(cI, .int)] sz (fun (r : Int32) => fun (u9 : Int32 × Int32 × (Nat → Int32)) => match u9 with | (fa2, th2, g22) => True) (fun (u9 : Int32 × Int32 × (Nat → Int32)) => match u9 with | (fa2, th2, g22) => [(h0, .inr (8, [.ref a0, .int tk, .ref a1, .int mm, .ref a2, .ref a3, .ref a4, .ref a5, .ref a6, .ref a7, .int wm, .int fa2, .int th2, .int se, .ref a8, .ref a9, .ref ab])), (a0, .inl (cI, 120, .inl g0)), (a1, .inl (cI, 80, .inl g1)), (a2, .inl (cI, 128, .inl g22))]) (fun (u9 : Int32 × Int32 × (Nat → Int32)) => match u9 with | (fa2, th2, g22) => []) := by
  refine ct_i (cc := cX9_learn) (maxL := 5) (ret := (some .int)) (by decide) rfl (Nat.le_of_ble_eq_true rfl) ?_
  intro p e s m below meth c A ls H hx hb hr hts hown hml hlocks hin hA hS hP hK hD hNW hl hAe hsz
  have hl : lv_has ls 5 [(0, .ref h0), (1, .int v), (2, .int w)] := hl
  refine lv_aload_n hx hb dX9_learn_0 rfl (lv_at hl 0 rfl) ?_
  refine lv_iconst (v := 0) hx hb dX9_learn_1 (by decide) ?_
  refine va_put (D := D) (ci := 8) (v := .int 0) (ty := .int) (C := RX9) (T := TX9) (N := 17) hx hb hts him_learn_X9 tyX9 tyX9_ok nmX9 hown hK hP hD hS 0 rfl rfl 12 (by decide) (hts (.fieldLink RX9 43 "OneHandsetModel" "thrown" "I") (List.mem_of_getElem? (i := 1) rfl)) (fun _ h9 => h9) rfl (by decide +kernel) rfl rfl (Nat.le_of_ble_eq_true rfl) dX9_learn_2 (fun H locs hP hD hS => ?_)
  have hP : va_P D vwCl [(h0, .inr (8, [.ref a0, .int tk, .ref a1, .int mm, .ref a2, .ref a3, .ref a4, .ref a5, .ref a6, .ref a7, .int wm, .int fa, .int 0, .int se, .ref a8, .ref a9, .ref ab])), (a0, .inl (cI, 120, .inl g0)), (a1, .inl (cI, 80, .inl g1)), (a2, .inl (cI, 128, .inl g2))] H := hP
  have hD : va_D A [(h0, .inr (8, [.ref a0, .int tk, .ref a1, .int mm, .ref a2, .ref a3, .ref a4, .ref a5, .ref a6, .ref a7, .int wm, .int fa, .int 0, .int se, .ref a8, .ref a9, .ref ab])), (a0, .inl (cI, 120, .inl g0)), (a1, .inl (cI, 80, .inl g1)), (a2, .inl (cI, 128, .inl g2))] := hD
  refine lv_aload_n hx hb dX9_learn_5 rfl (lv_at hl 0 rfl) ?_
  refine lv_iload_n hx hb dX9_learn_6 rfl (lv_at hl 1 rfl) ?_
  refine lv_iload_n hx hb dX9_learn_7 rfl (lv_at hl 2 rfl) ?_
  refine go_i (wr := [(a0, .inl (cI, 120, .inl g0)), (a1, .inl (cI, 80, .inl g1)), (a2, .inl (cI, 128, .inl g2))]) (tysr := [(cI, .int)]) hP hD hS hA hK [0] [1, 2, 3] [0] rfl rfl (by decide) (by decide) rfl (va_runV (As := [.int v, .int w]) (rest := []) ⟨hx, hb, hml, hown, hts⟩ (m_isKey l D H.size cI h0 a0 a1 a2 a3 a4 a5 a6 a7 a8 a9 ab tk mm wm fa 0 se v w (by first | assumption | decide | omega)) (cwV 2 hts gX9_learn_X9_isKey rfl rfl rfl (by decide +kernel) ⟨Nat.le_of_ble_eq_true rfl, Nat.le_of_ble_eq_true rfl⟩) (st_preV (ci := 8) (q0 := 0) hP hD hK hNW [0] [0] rfl rfl (by decide) rfl rfl rfl rfl) rfl rfl hl.1 rfl (lv_room (Nat.le_of_ble_eq_true rfl)) dX9_learn_8 ⟨(Nat.le_of_ble_eq_true rfl), (Nat.le_of_ble_eq_true rfl)⟩) (fun r_1 u H locs hw hP hD hK hS => ?_)
  have hw : r_1 = 0 ∨ (0 ≤ v.toInt ∧ v.toInt < mm.toInt ∧ bi w 0 15) := hw
  have hw_2 := hw
  have hP : va_P D vwCl [(a0, .inl (cI, 120, .inl g0)), (a1, .inl (cI, 80, .inl g1)), (a2, .inl (cI, 128, .inl g2)), (h0, .inr (8, [.ref a0, .int tk, .ref a1, .int mm, .ref a2, .ref a3, .ref a4, .ref a5, .ref a6, .ref a7, .int wm, .int fa, .int 0, .int se, .ref a8, .ref a9, .ref ab]))] H := hP
  have hD : va_D A [(a0, .inl (cI, 120, .inl g0)), (a1, .inl (cI, 80, .inl g1)), (a2, .inl (cI, 128, .inl g2)), (h0, .inr (8, [.ref a0, .int tk, .ref a1, .int mm, .ref a2, .ref a3, .ref a4, .ref a5, .ref a6, .ref a7, .int wm, .int fa, .int 0, .int se, .ref a8, .ref a9, .ref ab]))] := hD
  have hK : va_K D vwCl [(cI, .int)] s := hK
  refine lv_if_ne (tgt := 16) hx hb dX9_learn_11 (by decide) (fun c_3 => ?_) (fun c_3 => ?_)
  · have hkx_4 : 0 ≤ v.toInt ∧ v.toInt < mm.toInt ∧ bi w 0 15 := (hw_2).resolve_left c_3
    have hv7_5 : bi v 0 7 := (by omega)
    have hw15_6 : bi w 0 15 := (by omega)
    refine lv_aload_n hx hb dX9_learn_16 rfl (lv_at hl 0 rfl) ?_
    refine lv_iload_n hx hb dX9_learn_17 rfl (lv_at hl 1 rfl) ?_
    refine go_i (wr := [(a2, .inl (cI, 128, .inl g2))]) (tysr := [(cI, .int)]) hP hD hS hA hK [3, 0, 1] [2] [0] rfl rfl (by decide) (by decide) rfl (va_runV (As := [.int v]) (rest := []) ⟨hx, hb, hml, hown, hts⟩ (m_readBy l D H.size cI h0 a0 a1 a2 a3 a4 a5 a6 a7 a8 a9 ab tk mm wm fa 0 se g0 g1 v (by first | assumption | decide | omega) (by first | assumption | decide | omega)) (cwV 1 hts gX9_learn_X9_readBy rfl rfl rfl (by decide +kernel) ⟨Nat.le_of_ble_eq_true rfl, Nat.le_of_ble_eq_true rfl⟩) (st_preV (ci := 8) (q0 := 3) hP hD hK hNW [3, 0, 1] [0] rfl rfl (by decide) rfl rfl rfl rfl) rfl rfl hl.1 rfl (lv_room (Nat.le_of_ble_eq_true rfl)) dX9_learn_18 ⟨(Nat.le_of_ble_eq_true rfl), (Nat.le_of_ble_eq_true rfl)⟩) (fun r_7 u H locs hw hP hD hK hS => ?_)
    obtain ⟨fa_8, rfl⟩ : ∃ z, z = u := ⟨_, rfl⟩
    have hP : va_P D vwCl [(a2, .inl (cI, 128, .inl g2)), (h0, .inr (8, [.ref a0, .int tk, .ref a1, .int mm, .ref a2, .ref a3, .ref a4, .ref a5, .ref a6, .ref a7, .int wm, .int fa_8, .int 0, .int se, .ref a8, .ref a9, .ref ab])), (a0, .inl (cI, 120, .inl g0)), (a1, .inl (cI, 80, .inl g1))] H := hP
    have hD : va_D A [(a2, .inl (cI, 128, .inl g2)), (h0, .inr (8, [.ref a0, .int tk, .ref a1, .int mm, .ref a2, .ref a3, .ref a4, .ref a5, .ref a6, .ref a7, .int wm, .int fa_8, .int 0, .int se, .ref a8, .ref a9, .ref ab])), (a0, .inl (cI, 120, .inl g0)), (a1, .inl (cI, 80, .inl g1))] := hD
    have hK : va_K D vwCl [(cI, .int)] s := hK
    refine lv_istore_n (lv' := [(3, .int r_7), (0, .ref h0), (1, .int v), (2, .int w)]) hx hb dX9_learn_21 rfl hl (by decide) rfl (fun ls hl => ?_)
    refine lv_iload_n hx hb dX9_learn_22 rfl (lv_at hl 0 rfl) ?_
    refine lv_iconst (v := (-1)) hx hb dX9_learn_23 (by decide) ?_
    refine lv_icmp_ne (tgt := 29) hx hb dX9_learn_24 (by decide) (fun c_9 => ?_) (fun c_9 => ?_)
    · refine lv_iload_n hx hb dX9_learn_29 rfl (lv_at hl 0 rfl) ?_
      refine lv_aload_n hx hb dX9_learn_30 rfl (lv_at hl 1 rfl) ?_
      refine lv_iload_n hx hb dX9_learn_31 rfl (lv_at hl 2 rfl) ?_
      refine go_i (wr := [(a2, .inl (cI, 128, .inl g2)), (a0, .inl (cI, 120, .inl g0))]) (tysr := [(cI, .int)]) hP hD hS hA hK [1, 3] [0, 2] [0] rfl rfl (by decide) (by decide) rfl (va_runV (As := [.int v]) (rest := [.int r_7]) ⟨hx, hb, hml, hown, hts⟩ (m_flipOf l D H.size cI h0 a0 a1 a2 a3 a4 a5 a6 a7 a8 a9 ab tk mm wm fa_8 0 se g1 v (by first | assumption | decide | omega)) (cwV 1 hts gX9_learn_X9_flipOf rfl rfl rfl (by decide +kernel) ⟨Nat.le_of_ble_eq_true rfl, Nat.le_of_ble_eq_true rfl⟩) (st_preV (ci := 8) (q0 := 1) hP hD hK hNW [1, 3] [0] rfl rfl (by decide) rfl rfl rfl rfl) rfl rfl hl.1 rfl (lv_room (Nat.le_of_ble_eq_true rfl)) dX9_learn_32 ⟨(Nat.le_of_ble_eq_true rfl), (Nat.le_of_ble_eq_true rfl)⟩) (fun r_10 u H locs hw hP hD hK hS => ?_)
      have hP : va_P D vwCl [(a2, .inl (cI, 128, .inl g2)), (a0, .inl (cI, 120, .inl g0)), (h0, .inr (8, [.ref a0, .int tk, .ref a1, .int mm, .ref a2, .ref a3, .ref a4, .ref a5, .ref a6, .ref a7, .int wm, .int fa_8, .int 0, .int se, .ref a8, .ref a9, .ref ab])), (a1, .inl (cI, 80, .inl g1))] H := hP
      have hD : va_D A [(a2, .inl (cI, 128, .inl g2)), (a0, .inl (cI, 120, .inl g0)), (h0, .inr (8, [.ref a0, .int tk, .ref a1, .int mm, .ref a2, .ref a3, .ref a4, .ref a5, .ref a6, .ref a7, .int wm, .int fa_8, .int 0, .int se, .ref a8, .ref a9, .ref ab])), (a1, .inl (cI, 80, .inl g1))] := hD
      have hK : va_K D vwCl [(cI, .int)] s := hK
      refine lv_iconst (v := (-1)) hx hb dX9_learn_35 (by decide) ?_
      refine lv_ixor hx hb dX9_learn_36 ?_
      refine lv_iand hx hb dX9_learn_37 ?_
      refine lv_istore_n (lv' := [(3, .int (r_7 &&& (r_10 ^^^ (-1)))), (0, .ref h0), (1, .int v), (2, .int w)]) hx hb dX9_learn_38 rfl hl (by decide) rfl (fun ls hl => ?_)
      refine lv_aload_n hx hb dX9_learn_39 rfl (lv_at hl 1 rfl) ?_
      refine va_get (D := D) (ci := 8) (v := .ref a2) (C := RX9) (T := TX9) (N := 17) hx hb hts him_learn_X9 hown hK hP 2 rfl rfl 4 (by decide) (hts (.fieldLink RX9 16 "OneHandsetModel" "keys" "[I") (List.mem_of_getElem? (i := 2) rfl)) (fun _ h9 => h9) rfl dX9_learn_40 ?_
      refine lv_bipush (v := 16) hx hb dX9_learn_43 (by decide) ?_
      refine lv_iload_n hx hb dX9_learn_45 rfl (lv_at hl 2 rfl) ?_
      refine lv_imul hx hb dX9_learn_46 ?_
      refine lv_iload_n hx hb dX9_learn_47 rfl (lv_at hl 3 rfl) ?_
      refine lv_iadd hx hb dX9_learn_48 ?_
      refine va_iald hx hb hK hP 0 0 rfl rfl (by have : ((-1) : Int32).toInt = -1 := (by decide); have : (0 : Int32).toInt = 0 := (by decide); have := ti_ne c_3; have := ti_ne c_9; have u3 := ix16 (m := v) (w := w) hv7_5 hw15_6; exact vp_in_iff.mpr (by omega)) dX9_learn_49 ?_
      refine lv_istore (lv' := [(4, .int (g2 (Int32.toNatClampNeg ((16 * v) + w)))), (3, .int (r_7 &&& (r_10 ^^^ (-1)))), (0, .ref h0), (1, .int v), (2, .int w)]) hx hb dX9_learn_50 hl (by decide) rfl (fun ls hl => ?_)
      refine lv_iload hx hb dX9_learn_52 (lv_at hl 0 rfl) ?_
      refine lv_iconst (v := (-1)) hx hb dX9_learn_54 (by decide) ?_
      refine lv_icmp_eq (tgt := 66) hx hb dX9_learn_55 (by decide) (fun c_11 => ?_) (fun c_11 => ?_)
      · refine lv_aload_n hx hb dX9_learn_66 rfl (lv_at hl 2 rfl) ?_
        refine va_get (D := D) (ci := 8) (v := .ref a2) (C := RX9) (T := TX9) (N := 17) hx hb hts him_learn_X9 hown hK hP 2 rfl rfl 4 (by decide) (hts (.fieldLink RX9 16 "OneHandsetModel" "keys" "[I") (List.mem_of_getElem? (i := 2) rfl)) (fun _ h9 => h9) rfl dX9_learn_67 ?_
        refine lv_bipush (v := 16) hx hb dX9_learn_70 (by decide) ?_
        refine lv_iload_n hx hb dX9_learn_72 rfl (lv_at hl 3 rfl) ?_
        refine lv_imul hx hb dX9_learn_73 ?_
        refine lv_iload_n hx hb dX9_learn_74 rfl (lv_at hl 4 rfl) ?_
        refine lv_iadd hx hb dX9_learn_75 ?_
        refine lv_iload_n hx hb dX9_learn_76 rfl (lv_at hl 1 rfl) ?_
        refine va_iast hx hb hK hP hD hS 0 0 rfl rfl (by have : ((-1) : Int32).toInt = -1 := (by decide); have : (0 : Int32).toInt = 0 := (by decide); have := ti_ne c_3; have := ti_ne c_9; have := ti_eq c_11; have u3 := ix16 (m := v) (w := w) hv7_5 hw15_6; exact vp_in_iff.mpr (by omega)) dX9_learn_77 (fun H locs hP hD hS => ?_)
        have hP : va_P D vwCl [(a2, .inl (cI, 128, .inl (upd g2 (Int32.toNatClampNeg ((16 * v) + w)) (r_7 &&& (r_10 ^^^ (-1)))))), (a0, .inl (cI, 120, .inl g0)), (h0, .inr (8, [.ref a0, .int tk, .ref a1, .int mm, .ref a2, .ref a3, .ref a4, .ref a5, .ref a6, .ref a7, .int wm, .int fa_8, .int 0, .int se, .ref a8, .ref a9, .ref ab])), (a1, .inl (cI, 80, .inl g1))] H := hP
        have hD : va_D A [(a2, .inl (cI, 128, .inl (upd g2 (Int32.toNatClampNeg ((16 * v) + w)) (r_7 &&& (r_10 ^^^ (-1)))))), (a0, .inl (cI, 120, .inl g0)), (h0, .inr (8, [.ref a0, .int tk, .ref a1, .int mm, .ref a2, .ref a3, .ref a4, .ref a5, .ref a6, .ref a7, .int wm, .int fa_8, .int 0, .int se, .ref a8, .ref a9, .ref ab])), (a1, .inl (cI, 80, .inl g1))] := hD
        refine lv_iload_n hx hb dX9_learn_78 rfl (lv_at hl 1 rfl) ?_
        exact ret_i hx hb hr hlocks rfl (u := (fa_8, 0, upd g2 (Int32.toNatClampNeg ((16 * v) + w)) (r_7 &&& (r_10 ^^^ (-1))))) trivial (hP.sub [2, 1, 3, 0] rfl) (hK.sub [] rfl) (hD.sub [2, 1, 3, 0] (by decide) rfl) hS (Nat.le_of_ble_eq_true rfl) (Nat.le_of_ble_eq_true rfl) dX9_learn_79
      refine lv_iload hx hb dX9_learn_58 (lv_at hl 0 rfl) ?_
      refine lv_iload_n hx hb dX9_learn_60 rfl (lv_at hl 1 rfl) ?_
      refine lv_icmp_eq (tgt := 66) hx hb dX9_learn_61 (by decide) (fun c_12 => ?_) (fun c_12 => ?_)
      · refine lv_aload_n hx hb dX9_learn_66 rfl (lv_at hl 2 rfl) ?_
        refine va_get (D := D) (ci := 8) (v := .ref a2) (C := RX9) (T := TX9) (N := 17) hx hb hts him_learn_X9 hown hK hP 2 rfl rfl 4 (by decide) (hts (.fieldLink RX9 16 "OneHandsetModel" "keys" "[I") (List.mem_of_getElem? (i := 2) rfl)) (fun _ h9 => h9) rfl dX9_learn_67 ?_
        refine lv_bipush (v := 16) hx hb dX9_learn_70 (by decide) ?_
        refine lv_iload_n hx hb dX9_learn_72 rfl (lv_at hl 3 rfl) ?_
        refine lv_imul hx hb dX9_learn_73 ?_
        refine lv_iload_n hx hb dX9_learn_74 rfl (lv_at hl 4 rfl) ?_
        refine lv_iadd hx hb dX9_learn_75 ?_
        refine lv_iload_n hx hb dX9_learn_76 rfl (lv_at hl 1 rfl) ?_
        refine va_iast hx hb hK hP hD hS 0 0 rfl rfl (by have : ((-1) : Int32).toInt = -1 := (by decide); have : (0 : Int32).toInt = 0 := (by decide); have := ti_ne c_3; have := ti_ne c_9; have := ti_ne c_11; have := ti_eq c_12; have u3 := ix16 (m := v) (w := w) hv7_5 hw15_6; exact vp_in_iff.mpr (by omega)) dX9_learn_77 (fun H locs hP hD hS => ?_)
        have hP : va_P D vwCl [(a2, .inl (cI, 128, .inl (upd g2 (Int32.toNatClampNeg ((16 * v) + w)) (r_7 &&& (r_10 ^^^ (-1)))))), (a0, .inl (cI, 120, .inl g0)), (h0, .inr (8, [.ref a0, .int tk, .ref a1, .int mm, .ref a2, .ref a3, .ref a4, .ref a5, .ref a6, .ref a7, .int wm, .int fa_8, .int 0, .int se, .ref a8, .ref a9, .ref ab])), (a1, .inl (cI, 80, .inl g1))] H := hP
        have hD : va_D A [(a2, .inl (cI, 128, .inl (upd g2 (Int32.toNatClampNeg ((16 * v) + w)) (r_7 &&& (r_10 ^^^ (-1)))))), (a0, .inl (cI, 120, .inl g0)), (h0, .inr (8, [.ref a0, .int tk, .ref a1, .int mm, .ref a2, .ref a3, .ref a4, .ref a5, .ref a6, .ref a7, .int wm, .int fa_8, .int 0, .int se, .ref a8, .ref a9, .ref ab])), (a1, .inl (cI, 80, .inl g1))] := hD
        refine lv_iload_n hx hb dX9_learn_78 rfl (lv_at hl 1 rfl) ?_
        exact ret_i hx hb hr hlocks rfl (u := (fa_8, 0, upd g2 (Int32.toNatClampNeg ((16 * v) + w)) (r_7 &&& (r_10 ^^^ (-1))))) trivial (hP.sub [2, 1, 3, 0] rfl) (hK.sub [] rfl) (hD.sub [2, 1, 3, 0] (by decide) rfl) hS (Nat.le_of_ble_eq_true rfl) (Nat.le_of_ble_eq_true rfl) dX9_learn_79
      refine lv_iconst (v := (-1)) hx hb dX9_learn_64 (by decide) ?_
      exact ret_i hx hb hr hlocks rfl (u := (fa_8, 0, g2)) trivial (hP.sub [2, 1, 3, 0] rfl) (hK.sub [] rfl) (hD.sub [2, 1, 3, 0] (by decide) rfl) hS (Nat.le_of_ble_eq_true rfl) (Nat.le_of_ble_eq_true rfl) dX9_learn_65
    refine lv_iconst (v := (-1)) hx hb dX9_learn_27 (by decide) ?_
    exact ret_i hx hb hr hlocks rfl (u := (fa_8, 0, g2)) trivial (hP.sub [1, 2, 3, 0] rfl) (hK.sub [] rfl) (hD.sub [1, 2, 3, 0] (by decide) rfl) hS (Nat.le_of_ble_eq_true rfl) (Nat.le_of_ble_eq_true rfl) dX9_learn_28
  refine lv_iconst (v := (-1)) hx hb dX9_learn_14 (by decide) ?_
  exact ret_i hx hb hr hlocks rfl (u := (fa, 0, g2)) trivial (hP.sub [3, 0, 1, 2] rfl) (hK.sub [] rfl) (hD.sub [3, 0, 1, 2] (by decide) rfl) hS (Nat.le_of_ble_eq_true rfl) (Nat.le_of_ble_eq_true rfl) dX9_learn_15
theorem him_forget_X9 : ∀ w ∈ wsX90, w ∈ wsX9_forget := mem_pl [16, 17, 18, 19, 20, 21, 22, 23, 24, 25, 26, 27, 28, 29, 30, 31, 32] rfl
set_option maxHeartbeats 4000000 in
set_option maxRecDepth 100000 in
theorem m_forget (l : Launch) (D : va_G) (sz : Nat) (cI : ClassId) (h0 : Nat) (a0 : Nat) (a1 : Nat) (a2 : Nat) (a3 : Nat) (a4 : Nat) (a5 : Nat) (a6 : Nat) (a7 : Nat) (a8 : Nat) (a9 : Nat) (ab : Nat) (tk : Int32) (mm : Int32) (wm : Int32) (fa : Int32) (th : Int32) (se : Int32) (g2 : Nat → Int32) (v : Int32) (w : Int32) (hmm : bi mm 0 8) : Ci l yX9_forget wsX9_forget ({ frames := 3, cells := 0, slots := 0, locals := 65 } : Room) D [.ref h0, .int v, .int w] [(h0, .inr (8, [.ref a0, .int tk, .ref a1, .int mm, .ref a2, .ref a3, .ref a4, .ref a5, .ref a6, .ref a7, .int wm, .int fa, .int th, .int se, .ref a8, .ref a9, .ref ab])), (a2, .inl (cI, 128, .inl g2))] [(cI, .int)] sz (fun (r : Int32) => fun (u9 : Int32 × (Nat → Int32)) => match u9 with | (th2, g22) => True) (fun (u9 : Int32 × (Nat → Int32)) => match u9 with | (th2, g22) => [(h0, .inr (8, [.ref a0, .int tk, .ref a1, .int mm, .ref a2, .ref a3, .ref a4, .ref a5, .ref a6, .ref a7, .int wm, .int fa, .int th2, .int se, .ref a8, .ref a9, .ref ab])), (a2, .inl (cI, 128, .inl g22))]) (fun (u9 : Int32 × (Nat → Int32)) => match u9 with | (th2, g22) => []) := by
  refine ct_i (cc := cX9_forget) (maxL := 3) (ret := (some .boolean)) (by decide) rfl (Nat.le_of_ble_eq_true rfl) ?_
  intro p e s m below meth c A ls H hx hb hr hts hown hml hlocks hin hA hS hP hK hD hNW hl hAe hsz
  have hl : lv_has ls 3 [(0, .ref h0), (1, .int v), (2, .int w)] := hl
  refine lv_aload_n hx hb dX9_forget_0 rfl (lv_at hl 0 rfl) ?_
  refine lv_iconst (v := 0) hx hb dX9_forget_1 (by decide) ?_
  refine va_put (D := D) (ci := 8) (v := .int 0) (ty := .int) (C := RX9) (T := TX9) (N := 17) hx hb hts him_forget_X9 tyX9 tyX9_ok nmX9 hown hK hP hD hS 0 rfl rfl 12 (by decide) (hts (.fieldLink RX9 43 "OneHandsetModel" "thrown" "I") (List.mem_of_getElem? (i := 1) rfl)) (fun _ h9 => h9) rfl (by decide +kernel) rfl rfl (Nat.le_of_ble_eq_true rfl) dX9_forget_2 (fun H locs hP hD hS => ?_)
  have hP : va_P D vwCl [(h0, .inr (8, [.ref a0, .int tk, .ref a1, .int mm, .ref a2, .ref a3, .ref a4, .ref a5, .ref a6, .ref a7, .int wm, .int fa, .int 0, .int se, .ref a8, .ref a9, .ref ab])), (a2, .inl (cI, 128, .inl g2))] H := hP
  have hD : va_D A [(h0, .inr (8, [.ref a0, .int tk, .ref a1, .int mm, .ref a2, .ref a3, .ref a4, .ref a5, .ref a6, .ref a7, .int wm, .int fa, .int 0, .int se, .ref a8, .ref a9, .ref ab])), (a2, .inl (cI, 128, .inl g2))] := hD
  refine lv_aload_n hx hb dX9_forget_5 rfl (lv_at hl 0 rfl) ?_
  refine lv_iload_n hx hb dX9_forget_6 rfl (lv_at hl 1 rfl) ?_
  refine lv_iload_n hx hb dX9_forget_7 rfl (lv_at hl 2 rfl) ?_
  refine go_i (wr := [(a2, .inl (cI, 128, .inl g2))]) (tysr := [(cI, .int)]) hP hD hS hA hK [0] [1] [0] rfl rfl (by decide) (by decide) rfl (va_runV (As := [.int v, .int w]) (rest := []) ⟨hx, hb, hml, hown, hts⟩ (m_isKey l D H.size cI h0 a0 a1 a2 a3 a4 a5 a6 a7 a8 a9 ab tk mm wm fa 0 se v w (by first | assumption | decide | omega)) (cwV 2 hts gX9_forget_X9_isKey rfl rfl rfl (by decide +kernel) ⟨Nat.le_of_ble_eq_true rfl, Nat.le_of_ble_eq_true rfl⟩) (st_preV (ci := 8) (q0 := 0) hP hD hK hNW [0] [0] rfl rfl (by decide) rfl rfl rfl rfl) rfl rfl hl.1 rfl (lv_room (Nat.le_of_ble_eq_true rfl)) dX9_forget_8 ⟨(Nat.le_of_ble_eq_true rfl), (Nat.le_of_ble_eq_true rfl)⟩) (fun r_1 u H locs hw hP hD hK hS => ?_)
  have hw : r_1 = 0 ∨ (0 ≤ v.toInt ∧ v.toInt < mm.toInt ∧ bi w 0 15) := hw
  have hw_2 := hw
  have hP : va_P D vwCl [(a2, .inl (cI, 128, .inl g2)), (h0, .inr (8, [.ref a0, .int tk, .ref a1, .int mm, .ref a2, .ref a3, .ref a4, .ref a5, .ref a6, .ref a7, .int wm, .int fa, .int 0, .int se, .ref a8, .ref a9, .ref ab]))] H := hP
  have hD : va_D A [(a2, .inl (cI, 128, .inl g2)), (h0, .inr (8, [.ref a0, .int tk, .ref a1, .int mm, .ref a2, .ref a3, .ref a4, .ref a5, .ref a6, .ref a7, .int wm, .int fa, .int 0, .int se, .ref a8, .ref a9, .ref ab]))] := hD
  have hK : va_K D vwCl [(cI, .int)] s := hK
  refine lv_if_eq (tgt := 29) hx hb dX9_forget_11 (by decide) (fun c_3 => ?_) (fun c_3 => ?_)
  · refine lv_iconst (v := 0) hx hb dX9_forget_29 (by decide) ?_
    exact ret_i hx hb hr hlocks rfl (u := (0, g2)) trivial (hP.sub [1, 0] rfl) (hK.sub [] rfl) (hD.sub [1, 0] (by decide) rfl) hS (Nat.le_of_ble_eq_true rfl) (Nat.le_of_ble_eq_true rfl) dX9_forget_30
  have hkx_4 : 0 ≤ v.toInt ∧ v.toInt < mm.toInt ∧ bi w 0 15 := (hw_2).resolve_left c_3
  have hv7_5 : bi v 0 7 := (by omega)
  have hw15_6 : bi w 0 15 := (by omega)
  refine lv_aload_n hx hb dX9_forget_14 rfl (lv_at hl 0 rfl) ?_
  refine va_get (D := D) (ci := 8) (v := .ref a2) (C := RX9) (T := TX9) (N := 17) hx hb hts him_forget_X9 hown hK hP 1 rfl rfl 4 (by decide) (hts (.fieldLink RX9 16 "OneHandsetModel" "keys" "[I") (List.mem_of_getElem? (i := 2) rfl)) (fun _ h9 => h9) rfl dX9_forget_15 ?_
  refine lv_bipush (v := 16) hx hb dX9_forget_18 (by decide) ?_
  refine lv_iload_n hx hb dX9_forget_20 rfl (lv_at hl 1 rfl) ?_
  refine lv_imul hx hb dX9_forget_21 ?_
  refine lv_iload_n hx hb dX9_forget_22 rfl (lv_at hl 2 rfl) ?_
  refine lv_iadd hx hb dX9_forget_23 ?_
  refine va_iald hx hb hK hP 0 0 rfl rfl (by have : (0 : Int32).toInt = 0 := (by decide); have := ti_ne c_3; have u3 := ix16 (m := v) (w := w) hv7_5 hw15_6; exact vp_in_iff.mpr (by omega)) dX9_forget_24 ?_
  refine lv_iconst (v := (-1)) hx hb dX9_forget_25 (by decide) ?_
  refine lv_icmp_ne (tgt := 31) hx hb dX9_forget_26 (by decide) (fun c_7 => ?_) (fun c_7 => ?_)
  · refine lv_aload_n hx hb dX9_forget_31 rfl (lv_at hl 0 rfl) ?_
    refine va_get (D := D) (ci := 8) (v := .ref a2) (C := RX9) (T := TX9) (N := 17) hx hb hts him_forget_X9 hown hK hP 1 rfl rfl 4 (by decide) (hts (.fieldLink RX9 16 "OneHandsetModel" "keys" "[I") (List.mem_of_getElem? (i := 2) rfl)) (fun _ h9 => h9) rfl dX9_forget_32 ?_
    refine lv_bipush (v := 16) hx hb dX9_forget_35 (by decide) ?_
    refine lv_iload_n hx hb dX9_forget_37 rfl (lv_at hl 1 rfl) ?_
    refine lv_imul hx hb dX9_forget_38 ?_
    refine lv_iload_n hx hb dX9_forget_39 rfl (lv_at hl 2 rfl) ?_
    refine lv_iadd hx hb dX9_forget_40 ?_
    refine lv_iconst (v := (-1)) hx hb dX9_forget_41 (by decide) ?_
    refine va_iast hx hb hK hP hD hS 0 0 rfl rfl (by have : ((-1) : Int32).toInt = -1 := (by decide); have : (0 : Int32).toInt = 0 := (by decide); have := ti_ne c_3; have := ti_ne c_7; have u3 := ix16 (m := v) (w := w) hv7_5 hw15_6; exact vp_in_iff.mpr (by omega)) dX9_forget_42 (fun H locs hP hD hS => ?_)
    have hP : va_P D vwCl [(a2, .inl (cI, 128, .inl (upd g2 (Int32.toNatClampNeg ((16 * v) + w)) (-1)))), (h0, .inr (8, [.ref a0, .int tk, .ref a1, .int mm, .ref a2, .ref a3, .ref a4, .ref a5, .ref a6, .ref a7, .int wm, .int fa, .int 0, .int se, .ref a8, .ref a9, .ref ab]))] H := hP
    have hD : va_D A [(a2, .inl (cI, 128, .inl (upd g2 (Int32.toNatClampNeg ((16 * v) + w)) (-1)))), (h0, .inr (8, [.ref a0, .int tk, .ref a1, .int mm, .ref a2, .ref a3, .ref a4, .ref a5, .ref a6, .ref a7, .int wm, .int fa, .int 0, .int se, .ref a8, .ref a9, .ref ab]))] := hD
    refine lv_iconst (v := 1) hx hb dX9_forget_43 (by decide) ?_
    exact ret_i hx hb hr hlocks rfl (u := (0, upd g2 (Int32.toNatClampNeg ((16 * v) + w)) (-1))) trivial (hP.sub [1, 0] rfl) (hK.sub [] rfl) (hD.sub [1, 0] (by decide) rfl) hS (Nat.le_of_ble_eq_true rfl) (Nat.le_of_ble_eq_true rfl) dX9_forget_44
  refine lv_iconst (v := 0) hx hb dX9_forget_29 (by decide) ?_
  exact ret_i hx hb hr hlocks rfl (u := (0, g2)) trivial (hP.sub [1, 0] rfl) (hK.sub [] rfl) (hD.sub [1, 0] (by decide) rfl) hS (Nat.le_of_ble_eq_true rfl) (Nat.le_of_ble_eq_true rfl) dX9_forget_30
theorem him_key_X9 : ∀ w ∈ wsX90, w ∈ wsX9_key := mem_pl [16, 17, 18, 19, 20, 21, 22, 23, 24, 25, 26, 27, 28, 29, 30, 31, 32] rfl
set_option maxHeartbeats 4000000 in
set_option maxRecDepth 100000 in
theorem m_key (l : Launch) (D : va_G) (sz : Nat) (cI : ClassId) (h0 : Nat) (a0 : Nat) (a1 : Nat) (a2 : Nat) (a3 : Nat) (a4 : Nat) (a5 : Nat) (a6 : Nat) (a7 : Nat) (a8 : Nat) (a9 : Nat) (ab : Nat) (tk : Int32) (mm : Int32) (wm : Int32) (fa : Int32) (th : Int32) (se : Int32) (g2 : Nat → Int32) (v : Int32) (w : Int32) (hmm : bi mm 0 8) : Ci l yX9_key wsX9_key ({ frames := 3, cells := 0, slots := 0, locals := 65 } : Room) D [.ref h0, .int v, .int w] [(h0, .inr (8, [.ref a0, .int tk, .ref a1, .int mm, .ref a2, .ref a3, .ref a4, .ref a5, .ref a6, .ref a7, .int wm, .int fa, .int th, .int se, .ref a8, .ref a9, .ref ab])), (a2, .inl (cI, 128, .inl g2))] [(cI, .int)] sz (fun (r : Int32) => fun (th2 : Int32) => True) (fun (th2 : Int32) => [(h0, .inr (8, [.ref a0, .int tk, .ref a1, .int mm, .ref a2, .ref a3, .ref a4, .ref a5, .ref a6, .ref a7, .int wm, .int fa, .int th2, .int se, .ref a8, .ref a9, .ref ab])), (a2, .inl (cI, 128, .inl g2))]) (fun (th2 : Int32) => []) := by
  refine ct_i (cc := cX9_key) (maxL := 3) (ret := (some .int)) (by decide) rfl (Nat.le_of_ble_eq_true rfl) ?_
  intro p e s m below meth c A ls H hx hb hr hts hown hml hlocks hin hA hS hP hK hD hNW hl hAe hsz
  have hl : lv_has ls 3 [(0, .ref h0), (1, .int v), (2, .int w)] := hl
  refine lv_aload_n hx hb dX9_key_0 rfl (lv_at hl 0 rfl) ?_
  refine lv_iconst (v := 0) hx hb dX9_key_1 (by decide) ?_
  refine va_put (D := D) (ci := 8) (v := .int 0) (ty := .int) (C := RX9) (T := TX9) (N := 17) hx hb hts him_key_X9 tyX9 tyX9_ok nmX9 hown hK hP hD hS 0 rfl rfl 12 (by decide) (hts (.fieldLink RX9 43 "OneHandsetModel" "thrown" "I") (List.mem_of_getElem? (i := 1) rfl)) (fun _ h9 => h9) rfl (by decide +kernel) rfl rfl (Nat.le_of_ble_eq_true rfl) dX9_key_2 (fun H locs hP hD hS => ?_)
  have hP : va_P D vwCl [(h0, .inr (8, [.ref a0, .int tk, .ref a1, .int mm, .ref a2, .ref a3, .ref a4, .ref a5, .ref a6, .ref a7, .int wm, .int fa, .int 0, .int se, .ref a8, .ref a9, .ref ab])), (a2, .inl (cI, 128, .inl g2))] H := hP
  have hD : va_D A [(h0, .inr (8, [.ref a0, .int tk, .ref a1, .int mm, .ref a2, .ref a3, .ref a4, .ref a5, .ref a6, .ref a7, .int wm, .int fa, .int 0, .int se, .ref a8, .ref a9, .ref ab])), (a2, .inl (cI, 128, .inl g2))] := hD
  refine lv_aload_n hx hb dX9_key_5 rfl (lv_at hl 0 rfl) ?_
  refine lv_iload_n hx hb dX9_key_6 rfl (lv_at hl 1 rfl) ?_
  refine lv_iload_n hx hb dX9_key_7 rfl (lv_at hl 2 rfl) ?_
  refine go_i (wr := [(a2, .inl (cI, 128, .inl g2))]) (tysr := [(cI, .int)]) hP hD hS hA hK [0] [1] [0] rfl rfl (by decide) (by decide) rfl (va_runV (As := [.int v, .int w]) (rest := []) ⟨hx, hb, hml, hown, hts⟩ (m_isKey l D H.size cI h0 a0 a1 a2 a3 a4 a5 a6 a7 a8 a9 ab tk mm wm fa 0 se v w (by first | assumption | decide | omega)) (cwV 2 hts gX9_key_X9_isKey rfl rfl rfl (by decide +kernel) ⟨Nat.le_of_ble_eq_true rfl, Nat.le_of_ble_eq_true rfl⟩) (st_preV (ci := 8) (q0 := 0) hP hD hK hNW [0] [0] rfl rfl (by decide) rfl rfl rfl rfl) rfl rfl hl.1 rfl (lv_room (Nat.le_of_ble_eq_true rfl)) dX9_key_8 ⟨(Nat.le_of_ble_eq_true rfl), (Nat.le_of_ble_eq_true rfl)⟩) (fun r_1 u H locs hw hP hD hK hS => ?_)
  have hw : r_1 = 0 ∨ (0 ≤ v.toInt ∧ v.toInt < mm.toInt ∧ bi w 0 15) := hw
  have hw_2 := hw
  have hP : va_P D vwCl [(a2, .inl (cI, 128, .inl g2)), (h0, .inr (8, [.ref a0, .int tk, .ref a1, .int mm, .ref a2, .ref a3, .ref a4, .ref a5, .ref a6, .ref a7, .int wm, .int fa, .int 0, .int se, .ref a8, .ref a9, .ref ab]))] H := hP
  have hD : va_D A [(a2, .inl (cI, 128, .inl g2)), (h0, .inr (8, [.ref a0, .int tk, .ref a1, .int mm, .ref a2, .ref a3, .ref a4, .ref a5, .ref a6, .ref a7, .int wm, .int fa, .int 0, .int se, .ref a8, .ref a9, .ref ab]))] := hD
  have hK : va_K D vwCl [(cI, .int)] s := hK
  refine lv_if_eq (tgt := 28) hx hb dX9_key_11 (by decide) (fun c_3 => ?_) (fun c_3 => ?_)
  · refine lv_iconst (v := (-1)) hx hb dX9_key_28 (by decide) ?_
    exact ret_i hx hb hr hlocks rfl (u := 0) trivial (hP.sub [1, 0] rfl) (hK.sub [] rfl) (hD.sub [1, 0] (by decide) rfl) hS (Nat.le_of_ble_eq_true rfl) (Nat.le_of_ble_eq_true rfl) dX9_key_29
  have hkx_4 : 0 ≤ v.toInt ∧ v.toInt < mm.toInt ∧ bi w 0 15 := (hw_2).resolve_left c_3
  have hv7_5 : bi v 0 7 := (by omega)
  have hw15_6 : bi w 0 15 := (by omega)
  refine lv_aload_n hx hb dX9_key_14 rfl (lv_at hl 0 rfl) ?_
  refine va_get (D := D) (ci := 8) (v := .ref a2) (C := RX9) (T := TX9) (N := 17) hx hb hts him_key_X9 hown hK hP 1 rfl rfl 4 (by decide) (hts (.fieldLink RX9 16 "OneHandsetModel" "keys" "[I") (List.mem_of_getElem? (i := 2) rfl)) (fun _ h9 => h9) rfl dX9_key_15 ?_
  refine lv_bipush (v := 16) hx hb dX9_key_18 (by decide) ?_
  refine lv_iload_n hx hb dX9_key_20 rfl (lv_at hl 1 rfl) ?_
  refine lv_imul hx hb dX9_key_21 ?_
  refine lv_iload_n hx hb dX9_key_22 rfl (lv_at hl 2 rfl) ?_
  refine lv_iadd hx hb dX9_key_23 ?_
  refine va_iald hx hb hK hP 0 0 rfl rfl (by have : (0 : Int32).toInt = 0 := (by decide); have := ti_ne c_3; have u3 := ix16 (m := v) (w := w) hv7_5 hw15_6; exact vp_in_iff.mpr (by omega)) dX9_key_24 ?_
  refine lv_goto (tgt := 29) hx hb dX9_key_25 (by decide) ?_
  exact ret_i hx hb hr hlocks rfl (u := 0) trivial (hP.sub [1, 0] rfl) (hK.sub [] rfl) (hD.sub [1, 0] (by decide) rfl) hS (Nat.le_of_ble_eq_true rfl) (Nat.le_of_ble_eq_true rfl) dX9_key_29
theorem him_press_X9 : ∀ w ∈ wsX90, w ∈ wsX9_press := mem_pl [42, 43, 44, 45, 46, 47, 48, 49, 50, 51, 52, 53, 54, 55, 56, 57, 58] rfl
set_option maxHeartbeats 4000000 in
set_option maxRecDepth 100000 in
theorem m_press (l : Launch) (D : va_G) (sz : Nat) (cI : ClassId) (h0 : Nat) (a0 : Nat) (a1 : Nat) (a2 : Nat) (a3 : Nat) (a4 : Nat) (a5 : Nat) (a6 : Nat) (a7 : Nat) (a8 : Nat) (a9 : Nat) (ab : Nat) (tk : Int32) (mm : Int32) (wm : Int32) (fa : Int32) (th : Int32) (se : Int32) (g0 : Nat → Int32) (g1 : Nat → Int32) (g2 : Nat → Int32) (v : Int32) (w : Int32) (hk : bi tk 0 120) (hmm : bi mm 0 8) (hmg : MKG g1 mm) : Ci l yX9_press wsX9_press ({ frames := 3, cells := 0, slots := 0, locals := 75 } : Room) D [.ref h0, .int v, .int w] [(h0, .inr (8, [.ref a0, .int tk, .ref a1, .int mm, .ref a2, .ref a3, .ref a4, .ref a5, .ref a6, .ref a7, .int wm, .int fa, .int th, .int se, .ref a8, .ref a9, .ref ab])), (a0, .inl (cI, 120, .inl g0)), (a1, .inl (cI, 80, .inl g1)), (a2, .inl (cI, 128, .inl g2))] [(cI, .int)] sz (fun (r : Int32) => fun (u9 : Int32 × Int32 × (Nat → Int32) × (Nat → Int32)) => match u9 with | (tk2, th2, g02, g12) => bi tk2 0 120 ∧ MKG g12 mm) (fun (u9 : Int32 × Int32 × (Nat → Int32) × (Nat → Int32)) => match u9 with | (tk2, th2, g02, g12) => [(h0, .inr (8, [.ref a0, .int tk2, .ref a1, .int mm, .ref a2, .ref a3, .ref a4, .ref a5, .ref a6, .ref a7, .int wm, .int fa, .int th2, .int se, .ref a8, .ref a9, .ref ab])), (a0, .inl (cI, 120, .inl g02)), (a1, .inl (cI, 80, .inl g12)), (a2, .inl (cI, 128, .inl g2))]) (fun (u9 : Int32 × Int32 × (Nat → Int32) × (Nat → Int32)) => match u9 with | (tk2, th2, g02, g12) => []) := by
  refine ct_i (cc := cX9_press) (maxL := 3) (ret := (some .int)) (by decide) rfl (Nat.le_of_ble_eq_true rfl) ?_
  intro p e s m below meth c A ls H hx hb hr hts hown hml hlocks hin hA hS hP hK hD hNW hl hAe hsz
  have hl : lv_has ls 3 [(0, .ref h0), (1, .int v), (2, .int w)] := hl
  refine lv_aload_n hx hb dX9_press_0 rfl (lv_at hl 0 rfl) ?_
  refine lv_iconst (v := 0) hx hb dX9_press_1 (by decide) ?_
  refine va_put (D := D) (ci := 8) (v := .int 0) (ty := .int) (C := RX9) (T := TX9) (N := 17) hx hb hts him_press_X9 tyX9 tyX9_ok nmX9 hown hK hP hD hS 0 rfl rfl 12 (by decide) (hts (.fieldLink RX9 43 "OneHandsetModel" "thrown" "I") (List.mem_of_getElem? (i := 1) rfl)) (fun _ h9 => h9) rfl (by decide +kernel) rfl rfl (Nat.le_of_ble_eq_true rfl) dX9_press_2 (fun H locs hP hD hS => ?_)
  have hP : va_P D vwCl [(h0, .inr (8, [.ref a0, .int tk, .ref a1, .int mm, .ref a2, .ref a3, .ref a4, .ref a5, .ref a6, .ref a7, .int wm, .int fa, .int 0, .int se, .ref a8, .ref a9, .ref ab])), (a0, .inl (cI, 120, .inl g0)), (a1, .inl (cI, 80, .inl g1)), (a2, .inl (cI, 128, .inl g2))] H := hP
  have hD : va_D A [(h0, .inr (8, [.ref a0, .int tk, .ref a1, .int mm, .ref a2, .ref a3, .ref a4, .ref a5, .ref a6, .ref a7, .int wm, .int fa, .int 0, .int se, .ref a8, .ref a9, .ref ab])), (a0, .inl (cI, 120, .inl g0)), (a1, .inl (cI, 80, .inl g1)), (a2, .inl (cI, 128, .inl g2))] := hD
  refine lv_aload_n hx hb dX9_press_5 rfl (lv_at hl 0 rfl) ?_
  refine lv_iload_n hx hb dX9_press_6 rfl (lv_at hl 1 rfl) ?_
  refine lv_iload_n hx hb dX9_press_7 rfl (lv_at hl 2 rfl) ?_
  refine go_i (wr := [(a0, .inl (cI, 120, .inl g0)), (a1, .inl (cI, 80, .inl g1)), (a2, .inl (cI, 128, .inl g2))]) (tysr := [(cI, .int)]) hP hD hS hA hK [0] [1, 2, 3] [0] rfl rfl (by decide) (by decide) rfl (va_runV (As := [.int v, .int w]) (rest := []) ⟨hx, hb, hml, hown, hts⟩ (m_isKey l D H.size cI h0 a0 a1 a2 a3 a4 a5 a6 a7 a8 a9 ab tk mm wm fa 0 se v w (by first | assumption | decide | omega)) (cwV 2 hts gX9_press_X9_isKey rfl rfl rfl (by decide +kernel) ⟨Nat.le_of_ble_eq_true rfl, Nat.le_of_ble_eq_true rfl⟩) (st_preV (ci := 8) (q0 := 0) hP hD hK hNW [0] [0] rfl rfl (by decide) rfl rfl rfl rfl) rfl rfl hl.1 rfl (lv_room (Nat.le_of_ble_eq_true rfl)) dX9_press_8 ⟨(Nat.le_of_ble_eq_true rfl), (Nat.le_of_ble_eq_true rfl)⟩) (fun r_1 u H locs hw hP hD hK hS => ?_)
  have hw : r_1 = 0 ∨ (0 ≤ v.toInt ∧ v.toInt < mm.toInt ∧ bi w 0 15) := hw
  have hw_2 := hw
  have hP : va_P D vwCl [(a0, .inl (cI, 120, .inl g0)), (a1, .inl (cI, 80, .inl g1)), (a2, .inl (cI, 128, .inl g2)), (h0, .inr (8, [.ref a0, .int tk, .ref a1, .int mm, .ref a2, .ref a3, .ref a4, .ref a5, .ref a6, .ref a7, .int wm, .int fa, .int 0, .int se, .ref a8, .ref a9, .ref ab]))] H := hP
  have hD : va_D A [(a0, .inl (cI, 120, .inl g0)), (a1, .inl (cI, 80, .inl g1)), (a2, .inl (cI, 128, .inl g2)), (h0, .inr (8, [.ref a0, .int tk, .ref a1, .int mm, .ref a2, .ref a3, .ref a4, .ref a5, .ref a6, .ref a7, .int wm, .int fa, .int 0, .int se, .ref a8, .ref a9, .ref ab]))] := hD
  have hK : va_K D vwCl [(cI, .int)] s := hK
  refine lv_if_eq (tgt := 29) hx hb dX9_press_11 (by decide) (fun c_3 => ?_) (fun c_3 => ?_)
  · refine lv_iconst (v := (-1)) hx hb dX9_press_29 (by decide) ?_
    exact ret_i hx hb hr hlocks rfl (u := (tk, 0, g0, g1)) (⟨hk, hmg⟩) (hP.sub [3, 0, 1, 2] rfl) (hK.sub [] rfl) (hD.sub [3, 0, 1, 2] (by decide) rfl) hS (Nat.le_of_ble_eq_true rfl) (Nat.le_of_ble_eq_true rfl) dX9_press_30
  have hkx_4 : 0 ≤ v.toInt ∧ v.toInt < mm.toInt ∧ bi w 0 15 := (hw_2).resolve_left c_3
  have hv7_5 : bi v 0 7 := (by omega)
  have hw15_6 : bi w 0 15 := (by omega)
  refine lv_aload_n hx hb dX9_press_14 rfl (lv_at hl 0 rfl) ?_
  refine va_get (D := D) (ci := 8) (v := .ref a2) (C := RX9) (T := TX9) (N := 17) hx hb hts him_press_X9 hown hK hP 3 rfl rfl 4 (by decide) (hts (.fieldLink RX9 16 "OneHandsetModel" "keys" "[I") (List.mem_of_getElem? (i := 2) rfl)) (fun _ h9 => h9) rfl dX9_press_15 ?_
  refine lv_bipush (v := 16) hx hb dX9_press_18 (by decide) ?_
  refine lv_iload_n hx hb dX9_press_20 rfl (lv_at hl 1 rfl) ?_
  refine lv_imul hx hb dX9_press_21 ?_
  refine lv_iload_n hx hb dX9_press_22 rfl (lv_at hl 2 rfl) ?_
  refine lv_iadd hx hb dX9_press_23 ?_
  refine va_iald hx hb hK hP 2 0 rfl rfl (by have : (0 : Int32).toInt = 0 := (by decide); have := ti_ne c_3; have u3 := ix16 (m := v) (w := w) hv7_5 hw15_6; exact vp_in_iff.mpr (by omega)) dX9_press_24 ?_
  refine lv_iconst (v := (-1)) hx hb dX9_press_25 (by decide) ?_
  refine lv_icmp_ne (tgt := 31) hx hb dX9_press_26 (by decide) (fun c_7 => ?_) (fun c_7 => ?_)
  · refine lv_aload_n hx hb dX9_press_31 rfl (lv_at hl 0 rfl) ?_
    refine lv_iload_n hx hb dX9_press_32 rfl (lv_at hl 1 rfl) ?_
    refine lv_aload_n hx hb dX9_press_33 rfl (lv_at hl 0 rfl) ?_
    refine va_get (D := D) (ci := 8) (v := .ref a2) (C := RX9) (T := TX9) (N := 17) hx hb hts him_press_X9 hown hK hP 3 rfl rfl 4 (by decide) (hts (.fieldLink RX9 16 "OneHandsetModel" "keys" "[I") (List.mem_of_getElem? (i := 2) rfl)) (fun _ h9 => h9) rfl dX9_press_34 ?_
    refine lv_bipush (v := 16) hx hb dX9_press_37 (by decide) ?_
    refine lv_iload_n hx hb dX9_press_39 rfl (lv_at hl 1 rfl) ?_
    refine lv_imul hx hb dX9_press_40 ?_
    refine lv_iload_n hx hb dX9_press_41 rfl (lv_at hl 2 rfl) ?_
    refine lv_iadd hx hb dX9_press_42 ?_
    refine va_iald hx hb hK hP 2 0 rfl rfl (by have : ((-1) : Int32).toInt = -1 := (by decide); have : (0 : Int32).toInt = 0 := (by decide); have := ti_ne c_3; have := ti_ne c_7; have u3 := ix16 (m := v) (w := w) hv7_5 hw15_6; exact vp_in_iff.mpr (by omega)) dX9_press_43 ?_
    refine jn_S 64 (fun st9 H locs ls => ∃ (q_8 : Int32), st9 = [.int q_8, .int (g2 (Int32.toNatClampNeg ((16 * v) + w))), .int v, .ref h0] ∧ (va_P D vwCl [(a0, .inl (cI, 120, .inl g0)), (a1, .inl (cI, 80, .inl g1)), (a2, .inl (cI, 128, .inl g2)), (h0, .inr (8, [.ref a0, .int tk, .ref a1, .int mm, .ref a2, .ref a3, .ref a4, .ref a5, .ref a6, .ref a7, .int wm, .int fa, .int 0, .int se, .ref a8, .ref a9, .ref ab]))] H ∧ va_D A [(a0, .inl (cI, 120, .inl g0)), (a1, .inl (cI, 80, .inl g1)), (a2, .inl (cI, 128, .inl g2)), (h0, .inr (8, [.ref a0, .int tk, .ref a1, .int mm, .ref a2, .ref a3, .ref a4, .ref a5, .ref a6, .ref a7, .int wm, .int fa, .int 0, .int se, .ref a8, .ref a9, .ref ab]))]) ∧ va_S A s.heap H locs ∧ lv_has ls 3 [(0, .ref h0), (1, .int v), (2, .int w)]) ?_ ?_
    · intro st9 H locs ls hI
      obtain ⟨q_8, rfl, ⟨hP, hD⟩, hS, hl⟩ := hI
      refine lv_ior hx hb dX9_press_64 ?_
      refine go_v (wr := [(a2, .inl (cI, 128, .inl g2))]) (tysr := [(cI, .int)]) hP hD hS hA hK [3, 0, 1] [2] [0] rfl rfl (by decide) (by decide) rfl (va_runV (As := [.int v, .int ((g2 (Int32.toNatClampNeg ((16 * v) + w))) ||| q_8)]) (rest := []) ⟨hx, hb, hml, hown, hts⟩ (m_flash l D H.size cI h0 a0 a1 a2 a3 a4 a5 a6 a7 a8 a9 ab tk mm wm fa 0 se g0 g1 v ((g2 (Int32.toNatClampNeg ((16 * v) + w))) ||| q_8) (by first | assumption | decide | omega) (by first | assumption | decide | omega) (by first | assumption | decide | omega)) (cwV 2 hts gX9_press_X9_flash rfl rfl rfl (by decide +kernel) ⟨Nat.le_of_ble_eq_true rfl, Nat.le_of_ble_eq_true rfl⟩) (st_preV (ci := 8) (q0 := 3) hP hD hK hNW [3, 0, 1] [0] rfl rfl (by decide) rfl rfl rfl rfl) rfl rfl hl.1 rfl (lv_room (Nat.le_of_ble_eq_true rfl)) dX9_press_65 ⟨(Nat.le_of_ble_eq_true rfl), (Nat.le_of_ble_eq_true rfl)⟩) (fun u H locs hw hP hD hK hS => ?_)
      obtain ⟨tk_11, g_12⟩ := u
      have hw : bi tk_11 0 120 := hw
      have hw_13 := hw
      have hP : va_P D vwCl [(a2, .inl (cI, 128, .inl g2)), (h0, .inr (8, [.ref a0, .int tk_11, .ref a1, .int mm, .ref a2, .ref a3, .ref a4, .ref a5, .ref a6, .ref a7, .int wm, .int fa, .int 0, .int se, .ref a8, .ref a9, .ref ab])), (a0, .inl (cI, 120, .inl g_12)), (a1, .inl (cI, 80, .inl g1))] H := hP
      have hD : va_D A [(a2, .inl (cI, 128, .inl g2)), (h0, .inr (8, [.ref a0, .int tk_11, .ref a1, .int mm, .ref a2, .ref a3, .ref a4, .ref a5, .ref a6, .ref a7, .int wm, .int fa, .int 0, .int se, .ref a8, .ref a9, .ref ab])), (a0, .inl (cI, 120, .inl g_12)), (a1, .inl (cI, 80, .inl g1))] := hD
      have hK : va_K D vwCl [(cI, .int)] s := hK
      refine lv_aload_n hx hb dX9_press_68 rfl (lv_at hl 0 rfl) ?_
      refine lv_iload_n hx hb dX9_press_69 rfl (lv_at hl 1 rfl) ?_
      refine lv_bipush (v := 8) hx hb dX9_press_70 (by decide) ?_
      refine go_i (wr := [(a2, .inl (cI, 128, .inl g2)), (a0, .inl (cI, 120, .inl g_12))]) (tysr := [(cI, .int)]) hP hD hS hA hK [1, 3] [0, 2] [0] rfl rfl (by decide) (by decide) rfl (va_runV (As := [.int v, .int 8]) (rest := []) ⟨hx, hb, hml, hown, hts⟩ (m_get l D H.size cI h0 a0 a1 a2 a3 a4 a5 a6 a7 a8 a9 ab tk_11 mm wm fa 0 se g1 v 8 (by first | assumption | decide | omega) (by first | assumption | decide | omega)) (cwV 2 hts gX9_press_X9_get rfl rfl rfl (by decide +kernel) ⟨Nat.le_of_ble_eq_true rfl, Nat.le_of_ble_eq_true rfl⟩) (st_preV (ci := 8) (q0 := 1) hP hD hK hNW [1, 3] [0] rfl rfl (by decide) rfl rfl rfl rfl) rfl rfl hl.1 rfl (lv_room (Nat.le_of_ble_eq_true rfl)) dX9_press_72 ⟨(Nat.le_of_ble_eq_true rfl), (Nat.le_of_ble_eq_true rfl)⟩) (fun r_14 u H locs hw hP hD hK hS => ?_)
      have hw : r_14 = g1 (Int32.toNatClampNeg (10 * v + 8)) := hw
      subst hw
      have hP : va_P D vwCl [(a2, .inl (cI, 128, .inl g2)), (a0, .inl (cI, 120, .inl g_12)), (h0, .inr (8, [.ref a0, .int tk_11, .ref a1, .int mm, .ref a2, .ref a3, .ref a4, .ref a5, .ref a6, .ref a7, .int wm, .int fa, .int 0, .int se, .ref a8, .ref a9, .ref ab])), (a1, .inl (cI, 80, .inl g1))] H := hP
      have hD : va_D A [(a2, .inl (cI, 128, .inl g2)), (a0, .inl (cI, 120, .inl g_12)), (h0, .inr (8, [.ref a0, .int tk_11, .ref a1, .int mm, .ref a2, .ref a3, .ref a4, .ref a5, .ref a6, .ref a7, .int wm, .int fa, .int 0, .int se, .ref a8, .ref a9, .ref ab])), (a1, .inl (cI, 80, .inl g1))] := hD
      have hK : va_K D vwCl [(cI, .int)] s := hK
      refine lv_iconst (v := (-1)) hx hb dX9_press_75 (by decide) ?_
      refine lv_icmp_eq (tgt := 100) hx hb dX9_press_76 (by decide) (fun c_15 => ?_) (fun c_15 => ?_)
      · refine lv_aload_n hx hb dX9_press_100 rfl (lv_at hl 0 rfl) ?_
        refine va_get (D := D) (ci := 8) (v := .int tk_11) (C := RX9) (T := TX9) (N := 17) hx hb hts him_press_X9 hown hK hP 2 rfl rfl 1 (by decide) (hts (.fieldLink RX9 62 "OneHandsetModel" "taped" "I") (List.mem_of_getElem? (i := 4) rfl)) (fun _ h9 => h9) rfl dX9_press_101 ?_
        exact ret_i hx hb hr hlocks rfl (u := (tk_11, 0, g_12, g1)) (⟨hw_13, hmg⟩) (hP.sub [2, 1, 3, 0] rfl) (hK.sub [] rfl) (hD.sub [2, 1, 3, 0] (by decide) rfl) hS (Nat.le_of_ble_eq_true rfl) (Nat.le_of_ble_eq_true rfl) dX9_press_104
      refine lv_aload_n hx hb dX9_press_79 rfl (lv_at hl 0 rfl) ?_
      refine va_get (D := D) (ci := 8) (v := .ref a1) (C := RX9) (T := TX9) (N := 17) hx hb hts him_press_X9 hown hK hP 2 rfl rfl 2 (by decide) (hts (.fieldLink RX9 13 "OneHandsetModel" "makes" "[I") (List.mem_of_getElem? (i := 3) rfl)) (fun _ h9 => h9) rfl dX9_press_80 ?_
      refine lv_bipush (v := 10) hx hb dX9_press_83 (by decide) ?_
      refine lv_iload_n hx hb dX9_press_85 rfl (lv_at hl 1 rfl) ?_
      refine lv_imul hx hb dX9_press_86 ?_
      refine lv_bipush (v := 9) hx hb dX9_press_87 (by decide) ?_
      refine lv_iadd hx hb dX9_press_89 ?_
      refine lv_iconst (v := 1) hx hb dX9_press_90 (by decide) ?_
      refine lv_aload_n hx hb dX9_press_91 rfl (lv_at hl 0 rfl) ?_
      refine lv_iload_n hx hb dX9_press_92 rfl (lv_at hl 1 rfl) ?_
      refine lv_bipush (v := 9) hx hb dX9_press_93 (by decide) ?_
      refine go_i (wr := [(a2, .inl (cI, 128, .inl g2)), (a0, .inl (cI, 120, .inl g_12))]) (tysr := [(cI, .int)]) hP hD hS hA hK [2, 3] [0, 1] [0] rfl rfl (by decide) (by decide) rfl (va_runV (As := [.int v, .int 9]) (rest := [.int 1, .int ((10 * v) + 9), .ref a1]) ⟨hx, hb, hml, hown, hts⟩ (m_get l D H.size cI h0 a0 a1 a2 a3 a4 a5 a6 a7 a8 a9 ab tk_11 mm wm fa 0 se g1 v 9 (by first | assumption | decide | omega) (by first | assumption | decide | omega)) (cwV 2 hts gX9_press_X9_get rfl rfl rfl (by decide +kernel) ⟨Nat.le_of_ble_eq_true rfl, Nat.le_of_ble_eq_true rfl⟩) (st_preV (ci := 8) (q0 := 2) hP hD hK hNW [2, 3] [0] rfl rfl (by decide) rfl rfl rfl rfl) rfl rfl hl.1 rfl (lv_room (Nat.le_of_ble_eq_true rfl)) dX9_press_95 ⟨(Nat.le_of_ble_eq_true rfl), (Nat.le_of_ble_eq_true rfl)⟩) (fun r_16 u H locs hw hP hD hK hS => ?_)
      have hw : r_16 = g1 (Int32.toNatClampNeg (10 * v + 9)) := hw
      subst hw
      have hP : va_P D vwCl [(a2, .inl (cI, 128, .inl g2)), (a0, .inl (cI, 120, .inl g_12)), (h0, .inr (8, [.ref a0, .int tk_11, .ref a1, .int mm, .ref a2, .ref a3, .ref a4, .ref a5, .ref a6, .ref a7, .int wm, .int fa, .int 0, .int se, .ref a8, .ref a9, .ref ab])), (a1, .inl (cI, 80, .inl g1))] H := hP
      have hD : va_D A [(a2, .inl (cI, 128, .inl g2)), (a0, .inl (cI, 120, .inl g_12)), (h0, .inr (8, [.ref a0, .int tk_11, .ref a1, .int mm, .ref a2, .ref a3, .ref a4, .ref a5, .ref a6, .ref a7, .int wm, .int fa, .int 0, .int se, .ref a8, .ref a9, .ref ab])), (a1, .inl (cI, 80, .inl g1))] := hD
      have hK : va_K D vwCl [(cI, .int)] s := hK
      refine lv_isub hx hb dX9_press_98 ?_
      refine va_iast hx hb hK hP hD hS 3 0 rfl rfl (by have : ((-1) : Int32).toInt = -1 := (by decide); have : (0 : Int32).toInt = 0 := (by decide); have := ti_ne c_3; have := ti_ne c_7; have := ti_ne c_15; have k9 : (9 : Int32).toInt = 9 := (by decide); have u3 := ix10 (m := v) (w := 9) (by omega) (by decide); exact vp_in_iff.mpr (by omega)) dX9_press_99 (fun H locs hP hD hS => ?_)
      have hP : va_P D vwCl [(a2, .inl (cI, 128, .inl g2)), (a0, .inl (cI, 120, .inl g_12)), (h0, .inr (8, [.ref a0, .int tk_11, .ref a1, .int mm, .ref a2, .ref a3, .ref a4, .ref a5, .ref a6, .ref a7, .int wm, .int fa, .int 0, .int se, .ref a8, .ref a9, .ref ab])), (a1, .inl (cI, 80, .inl (upd g1 (Int32.toNatClampNeg ((10 * v) + 9)) (1 - (g1 (Int32.toNatClampNeg (10 * v + 9)))))))] H := hP
      have hD : va_D A [(a2, .inl (cI, 128, .inl g2)), (a0, .inl (cI, 120, .inl g_12)), (h0, .inr (8, [.ref a0, .int tk_11, .ref a1, .int mm, .ref a2, .ref a3, .ref a4, .ref a5, .ref a6, .ref a7, .int wm, .int fa, .int 0, .int se, .ref a8, .ref a9, .ref ab])), (a1, .inl (cI, 80, .inl (upd g1 (Int32.toNatClampNeg ((10 * v) + 9)) (1 - (g1 (Int32.toNatClampNeg (10 * v + 9)))))))] := hD
      refine lv_aload_n hx hb dX9_press_100 rfl (lv_at hl 0 rfl) ?_
      refine va_get (D := D) (ci := 8) (v := .int tk_11) (C := RX9) (T := TX9) (N := 17) hx hb hts him_press_X9 hown hK hP 2 rfl rfl 1 (by decide) (hts (.fieldLink RX9 62 "OneHandsetModel" "taped" "I") (List.mem_of_getElem? (i := 4) rfl)) (fun _ h9 => h9) rfl dX9_press_101 ?_
      exact ret_i hx hb hr hlocks rfl (u := (tk_11, 0, g_12, upd g1 (Int32.toNatClampNeg ((10 * v) + 9)) (1 - (g1 (Int32.toNatClampNeg (10 * v + 9)))))) (⟨hw_13, hmg.putI (by have : ((-1) : Int32).toInt = -1 := (by decide); have : (0 : Int32).toInt = 0 := (by decide); have := ti_ne c_3; have := ti_ne c_7; have := ti_ne c_15; have k9 : (9 : Int32).toInt = 9 := (by decide); have u3 := ix10 (m := v) (w := 9) (by omega) (by decide); omega) (by have : ((-1) : Int32).toInt = -1 := (by decide); have : (0 : Int32).toInt = 0 := (by decide); have := ti_ne c_3; have := ti_ne c_7; have := ti_ne c_15; have k9 : (9 : Int32).toInt = 9 := (by decide); have u3 := ix10 (m := v) (w := 9) (by omega) (by decide); omega)⟩) (hP.sub [2, 1, 3, 0] rfl) (hK.sub [] rfl) (hD.sub [2, 1, 3, 0] (by decide) rfl) hS (Nat.le_of_ble_eq_true rfl) (Nat.le_of_ble_eq_true rfl) dX9_press_104
    · intro hJ_17
      refine lv_aload_n hx hb dX9_press_44 rfl (lv_at hl 0 rfl) ?_
      refine lv_iload_n hx hb dX9_press_45 rfl (lv_at hl 1 rfl) ?_
      refine lv_bipush (v := 9) hx hb dX9_press_46 (by decide) ?_
      refine go_i (wr := [(a0, .inl (cI, 120, .inl g0)), (a2, .inl (cI, 128, .inl g2))]) (tysr := [(cI, .int)]) hP hD hS hA hK [3, 1] [0, 2] [0] rfl rfl (by decide) (by decide) rfl (va_runV (As := [.int v, .int 9]) (rest := [.int (g2 (Int32.toNatClampNeg ((16 * v) + w))), .int v, .ref h0]) ⟨hx, hb, hml, hown, hts⟩ (m_get l D H.size cI h0 a0 a1 a2 a3 a4 a5 a6 a7 a8 a9 ab tk mm wm fa 0 se g1 v 9 (by first | assumption | decide | omega) (by first | assumption | decide | omega)) (cwV 2 hts gX9_press_X9_get rfl rfl rfl (by decide +kernel) ⟨Nat.le_of_ble_eq_true rfl, Nat.le_of_ble_eq_true rfl⟩) (st_preV (ci := 8) (q0 := 3) hP hD hK hNW [3, 1] [0] rfl rfl (by decide) rfl rfl rfl rfl) rfl rfl hl.1 rfl (lv_room (Nat.le_of_ble_eq_true rfl)) dX9_press_48 ⟨(Nat.le_of_ble_eq_true rfl), (Nat.le_of_ble_eq_true rfl)⟩) (fun r_18 u H locs hw hP hD hK hS => ?_)
      have hw : r_18 = g1 (Int32.toNatClampNeg (10 * v + 9)) := hw
      subst hw
      have hP : va_P D vwCl [(a0, .inl (cI, 120, .inl g0)), (a2, .inl (cI, 128, .inl g2)), (h0, .inr (8, [.ref a0, .int tk, .ref a1, .int mm, .ref a2, .ref a3, .ref a4, .ref a5, .ref a6, .ref a7, .int wm, .int fa, .int 0, .int se, .ref a8, .ref a9, .ref ab])), (a1, .inl (cI, 80, .inl g1))] H := hP
      have hD : va_D A [(a0, .inl (cI, 120, .inl g0)), (a2, .inl (cI, 128, .inl g2)), (h0, .inr (8, [.ref a0, .int tk, .ref a1, .int mm, .ref a2, .ref a3, .ref a4, .ref a5, .ref a6, .ref a7, .int wm, .int fa, .int 0, .int se, .ref a8, .ref a9, .ref ab])), (a1, .inl (cI, 80, .inl g1))] := hD
      have hK : va_K D vwCl [(cI, .int)] s := hK
      refine lv_iconst (v := 1) hx hb dX9_press_51 (by decide) ?_
      refine lv_icmp_ne (tgt := 63) hx hb dX9_press_52 (by decide) (fun c_19 => ?_) (fun c_19 => ?_)
      · refine lv_iconst (v := 0) hx hb dX9_press_63 (by decide) ?_
        exact hJ_17 _ _ _ _ ⟨0, rfl, ⟨hP.sub [0, 3, 1, 2] rfl, hD.sub [0, 3, 1, 2] (by decide) rfl⟩, hS, lv_sub hl [0, 1, 2] rfl⟩
      refine lv_aload_n hx hb dX9_press_55 rfl (lv_at hl 0 rfl) ?_
      refine lv_iload_n hx hb dX9_press_56 rfl (lv_at hl 1 rfl) ?_
      refine go_i (wr := [(a0, .inl (cI, 120, .inl g0)), (a2, .inl (cI, 128, .inl g2))]) (tysr := [(cI, .int)]) hP hD hS hA hK [2, 3] [0, 1] [0] rfl rfl (by decide) (by decide) rfl (va_runV (As := [.int v]) (rest := [.int (g2 (Int32.toNatClampNeg ((16 * v) + w))), .int v, .ref h0]) ⟨hx, hb, hml, hown, hts⟩ (m_flipOf l D H.size cI h0 a0 a1 a2 a3 a4 a5 a6 a7 a8 a9 ab tk mm wm fa 0 se g1 v (by first | assumption | decide | omega)) (cwV 1 hts gX9_press_X9_flipOf rfl rfl rfl (by decide +kernel) ⟨Nat.le_of_ble_eq_true rfl, Nat.le_of_ble_eq_true rfl⟩) (st_preV (ci := 8) (q0 := 2) hP hD hK hNW [2, 3] [0] rfl rfl (by decide) rfl rfl rfl rfl) rfl rfl hl.1 rfl (lv_room (Nat.le_of_ble_eq_true rfl)) dX9_press_57 ⟨(Nat.le_of_ble_eq_true rfl), (Nat.le_of_ble_eq_true rfl)⟩) (fun r_20 u H locs hw hP hD hK hS => ?_)
      have hP : va_P D vwCl [(a0, .inl (cI, 120, .inl g0)), (a2, .inl (cI, 128, .inl g2)), (h0, .inr (8, [.ref a0, .int tk, .ref a1, .int mm, .ref a2, .ref a3, .ref a4, .ref a5, .ref a6, .ref a7, .int wm, .int fa, .int 0, .int se, .ref a8, .ref a9, .ref ab])), (a1, .inl (cI, 80, .inl g1))] H := hP
      have hD : va_D A [(a0, .inl (cI, 120, .inl g0)), (a2, .inl (cI, 128, .inl g2)), (h0, .inr (8, [.ref a0, .int tk, .ref a1, .int mm, .ref a2, .ref a3, .ref a4, .ref a5, .ref a6, .ref a7, .int wm, .int fa, .int 0, .int se, .ref a8, .ref a9, .ref ab])), (a1, .inl (cI, 80, .inl g1))] := hD
      have hK : va_K D vwCl [(cI, .int)] s := hK
      refine lv_goto (tgt := 64) hx hb dX9_press_60 (by decide) ?_
      exact hJ_17 _ _ _ _ ⟨r_20, rfl, ⟨hP.sub [0, 3, 1, 2] rfl, hD.sub [0, 3, 1, 2] (by decide) rfl⟩, hS, lv_sub hl [0, 1, 2] rfl⟩
  refine lv_iconst (v := (-1)) hx hb dX9_press_29 (by decide) ?_
  exact ret_i hx hb hr hlocks rfl (u := (tk, 0, g0, g1)) (⟨hk, hmg⟩) (hP.sub [3, 0, 1, 2] rfl) (hK.sub [] rfl) (hD.sub [3, 0, 1, 2] (by decide) rfl) hS (Nat.le_of_ble_eq_true rfl) (Nat.le_of_ble_eq_true rfl) dX9_press_30
theorem him_learnt_X9 : ∀ w ∈ wsX90, w ∈ wsX9_learnt := mem_pl [2, 3, 4, 5, 6, 7, 8, 9, 10, 11, 12, 13, 14, 15, 16, 17, 18] rfl
set_option maxHeartbeats 4000000 in
set_option maxRecDepth 100000 in
theorem m_learnt (l : Launch) (D : va_G) (sz : Nat) (cI : ClassId) (h0 : Nat) (a0 : Nat) (a1 : Nat) (a2 : Nat) (a3 : Nat) (a4 : Nat) (a5 : Nat) (a6 : Nat) (a7 : Nat) (a8 : Nat) (a9 : Nat) (ab : Nat) (tk : Int32) (mm : Int32) (wm : Int32) (fa : Int32) (th : Int32) (se : Int32) (g2 : Nat → Int32) (v : Int32) (hv : bi v 0 7) : Ci l yX9_learnt wsX9_learnt ({ frames := 0, cells := 0, slots := 0, locals := 0 } : Room) D [.ref h0, .int v] [(h0, .inr (8, [.ref a0, .int tk, .ref a1, .int mm, .ref a2, .ref a3, .ref a4, .ref a5, .ref a6, .ref a7, .int wm, .int fa, .int th, .int se, .ref a8, .ref a9, .ref ab])), (a2, .inl (cI, 128, .inl g2))] [(cI, .int)] sz (fun (r : Int32) => fun (_ : Unit) => True) (fun (_ : Unit) => [(h0, .inr (8, [.ref a0, .int tk, .ref a1, .int mm, .ref a2, .ref a3, .ref a4, .ref a5, .ref a6, .ref a7, .int wm, .int fa, .int th, .int se, .ref a8, .ref a9, .ref ab])), (a2, .inl (cI, 128, .inl g2))]) (fun (_ : Unit) => []) := by
  refine ct_i (cc := cX9_learnt) (maxL := 4) (ret := (some .int)) (by decide) rfl (Nat.le_of_ble_eq_true rfl) ?_
  intro p e s m below meth c A ls H hx hb hr hts hown hml hlocks hin hA hS hP hK hD hNW hl hAe hsz
  have hl : lv_has ls 4 [(0, .ref h0), (1, .int v)] := hl
  refine lv_iconst (v := 0) hx hb dX9_learnt_0 (by decide) ?_
  refine lv_istore_n (lv' := [(2, .int 0), (0, .ref h0), (1, .int v)]) hx hb dX9_learnt_1 rfl hl (by decide) rfl (fun ls hl => ?_)
  refine lv_iconst (v := 0) hx hb dX9_learnt_2 (by decide) ?_
  refine lv_istore_n (lv' := [(3, .int 0), (2, .int 0), (0, .ref h0), (1, .int v)]) hx hb dX9_learnt_3 rfl hl (by decide) rfl (fun ls hl => ?_)
  refine lp_N (fun n9 H locs ls => ∃ (i2_1 : Int32), ∃ (i_2 : Int32), n9 = (16 - i_2.toInt).toNat ∧ (va_P D vwCl [(h0, .inr (8, [.ref a0, .int tk, .ref a1, .int mm, .ref a2, .ref a3, .ref a4, .ref a5, .ref a6, .ref a7, .int wm, .int fa, .int th, .int se, .ref a8, .ref a9, .ref ab])), (a2, .inl (cI, 128, .inl g2))] H ∧ va_D A [(h0, .inr (8, [.ref a0, .int tk, .ref a1, .int mm, .ref a2, .ref a3, .ref a4, .ref a5, .ref a6, .ref a7, .int wm, .int fa, .int th, .int se, .ref a8, .ref a9, .ref ab])), (a2, .inl (cI, 128, .inl g2))]) ∧ va_S A s.heap H locs ∧ lv_has ls 4 [(3, .int i_2), (2, .int i2_1), (0, .ref h0), (1, .int v)] ∧ (0 ≤ i_2.toInt)) ?_ ⟨0, 0, rfl, ⟨hP, hD⟩, hS, hl, (by decide)⟩
  intro n9 ih_3 H locs ls hI
  obtain ⟨i2_1, i_2, rfl, ⟨hP, hD⟩, hS, hl, hv_4⟩ := hI
  refine lv_iload_n hx hb dX9_learnt_4 rfl (lv_at hl 0 rfl) ?_
  refine lv_bipush (v := 16) hx hb dX9_learnt_5 (by decide) ?_
  refine lv_icmp_ge (tgt := 34) hx hb dX9_learnt_7 (by decide) (fun c_5 => ?_) (fun c_5 => ?_)
  · refine lv_iload_n hx hb dX9_learnt_34 rfl (lv_at hl 1 rfl) ?_
    exact ret_i hx hb hr hlocks rfl (u := ()) trivial (hP.sub [0, 1] rfl) (hK.sub [] rfl) (hD.sub [0, 1] (by decide) rfl) hS (Nat.le_of_ble_eq_true rfl) (Nat.le_of_ble_eq_true rfl) dX9_learnt_35
  refine jn_S 28 (fun st9 H locs ls => ∃ (i2_6 : Int32), st9 = [] ∧ (va_P D vwCl [(h0, .inr (8, [.ref a0, .int tk, .ref a1, .int mm, .ref a2, .ref a3, .ref a4, .ref a5, .ref a6, .ref a7, .int wm, .int fa, .int th, .int se, .ref a8, .ref a9, .ref ab])), (a2, .inl (cI, 128, .inl g2))] H ∧ va_D A [(h0, .inr (8, [.ref a0, .int tk, .ref a1, .int mm, .ref a2, .ref a3, .ref a4, .ref a5, .ref a6, .ref a7, .int wm, .int fa, .int th, .int se, .ref a8, .ref a9, .ref ab])), (a2, .inl (cI, 128, .inl g2))]) ∧ va_S A s.heap H locs ∧ lv_has ls 4 [(3, .int i_2), (2, .int i2_6), (0, .ref h0), (1, .int v)]) ?_ ?_
  · intro st9 H locs ls hI
    obtain ⟨i2_6, rfl, ⟨hP, hD⟩, hS, hl⟩ := hI
    refine lv_iinc (v := i_2 + 1) (lv' := [(3, .int (i_2 + 1)), (2, .int i2_6), (0, .ref h0), (1, .int v)]) hx hb dX9_learnt_28 hl (k := 0) rfl rfl (by decide) rfl (fun ls hl => ?_)
    refine lv_goto (tgt := 4) hx hb dX9_learnt_31 (by decide) ?_
    exact ih_3 _ _ _ _ (by have : (16 : Int32).toInt = 16 := (by decide); have := ti_nle c_5; have kn : (16 : Int32).toInt = 16 := (by decide); have u1 := ti_up (i := i_2) (n := 16) (by omega); omega) ⟨i2_6, i_2 + 1, rfl, ⟨hP, hD⟩, hS, lv_sub hl [0, 1, 2, 3] rfl, (by have : (16 : Int32).toInt = 16 := (by decide); have := ti_nle c_5; have kn : (16 : Int32).toInt = 16 := (by decide); have u1 := ti_up (i := i_2) (n := 16) (by omega); omega)⟩
  · intro hJ_8
    refine lv_aload_n hx hb dX9_learnt_10 rfl (lv_at hl 2 rfl) ?_
    refine va_get (D := D) (ci := 8) (v := .ref a2) (C := RX9) (T := TX9) (N := 17) hx hb hts him_learnt_X9 hown hK hP 0 rfl rfl 4 (by decide) (hts (.fieldLink RX9 16 "OneHandsetModel" "keys" "[I") (List.mem_of_getElem? (i := 1) rfl)) (fun _ h9 => h9) rfl dX9_learnt_11 ?_
    refine lv_bipush (v := 16) hx hb dX9_learnt_14 (by decide) ?_
    refine lv_iload_n hx hb dX9_learnt_16 rfl (lv_at hl 3 rfl) ?_
    refine lv_imul hx hb dX9_learnt_17 ?_
    refine lv_iload_n hx hb dX9_learnt_18 rfl (lv_at hl 0 rfl) ?_
    refine lv_iadd hx hb dX9_learnt_19 ?_
    refine va_iald hx hb hK hP 1 0 rfl rfl (by have : (16 : Int32).toInt = 16 := (by decide); have := ti_nle c_5; have u3 := ix16 (m := v) (w := i_2) hv (by have : (16 : Int32).toInt = 16 := (by decide); have := ti_nle c_5; omega); exact vp_in_iff.mpr (by omega)) dX9_learnt_20 ?_
    refine lv_iconst (v := (-1)) hx hb dX9_learnt_21 (by decide) ?_
    refine lv_icmp_eq (tgt := 28) hx hb dX9_learnt_22 (by decide) (fun c_9 => ?_) (fun c_9 => ?_)
    · exact hJ_8 _ _ _ _ ⟨i2_1, rfl, ⟨hP, hD⟩, hS, lv_sub hl [0, 1, 2, 3] rfl⟩
    refine lv_iinc (v := i2_1 + 1) (lv' := [(2, .int (i2_1 + 1)), (3, .int i_2), (0, .ref h0), (1, .int v)]) hx hb dX9_learnt_25 hl (k := 1) rfl rfl (by decide) rfl (fun ls hl => ?_)
    exact hJ_8 _ _ _ _ ⟨i2_1 + 1, rfl, ⟨hP, hD⟩, hS, lv_sub hl [1, 0, 2, 3] rfl⟩
theorem him_some_X9 : ∀ w ∈ wsX90, w ∈ wsX9_some := mem_pl [2, 3, 4, 5, 6, 7, 8, 9, 10, 11, 12, 13, 14, 15, 16, 17, 18] rfl
set_option maxHeartbeats 4000000 in
set_option maxRecDepth 100000 in
theorem m_some (l : Launch) (D : va_G) (sz : Nat) (cI : ClassId) (h0 : Nat) (a0 : Nat) (a1 : Nat) (a2 : Nat) (a3 : Nat) (a4 : Nat) (a5 : Nat) (a6 : Nat) (a7 : Nat) (a8 : Nat) (a9 : Nat) (ab : Nat) (tk : Int32) (mm : Int32) (wm : Int32) (fa : Int32) (th : Int32) (se : Int32) (g2 : Nat → Int32) (v : Int32) (hv : bi v 0 7) : Ci l yX9_some wsX9_some ({ frames := 0, cells := 0, slots := 0, locals := 0 } : Room) D [.ref h0, .int v] [(h0, .inr (8, [.ref a0, .int tk, .ref a1, .int mm, .ref a2, .ref a3, .ref a4, .ref a5, .ref a6, .ref a7, .int wm, .int fa, .int th, .int se, .ref a8, .ref a9, .ref ab])), (a2, .inl (cI, 128, .inl g2))] [(cI, .int)] sz (fun (r : Int32) => fun (_ : Unit) => True) (fun (_ : Unit) => [(h0, .inr (8, [.ref a0, .int tk, .ref a1, .int mm, .ref a2, .ref a3, .ref a4, .ref a5, .ref a6, .ref a7, .int wm, .int fa, .int th, .int se, .ref a8, .ref a9, .ref ab])), (a2, .inl (cI, 128, .inl g2))]) (fun (_ : Unit) => []) := by
  refine ct_i (cc := cX9_some) (maxL := 4) (ret := (some .int)) (by decide) rfl (Nat.le_of_ble_eq_true rfl) ?_
  intro p e s m below meth c A ls H hx hb hr hts hown hml hlocks hin hA hS hP hK hD hNW hl hAe hsz
  have hl : lv_has ls 4 [(0, .ref h0), (1, .int v)] := hl
  refine lv_iconst (v := (-1)) hx hb dX9_some_0 (by decide) ?_
  refine lv_istore_n (lv' := [(2, .int (-1)), (0, .ref h0), (1, .int v)]) hx hb dX9_some_1 rfl hl (by decide) rfl (fun ls hl => ?_)
  refine lv_iconst (v := 0) hx hb dX9_some_2 (by decide) ?_
  refine lv_istore_n (lv' := [(3, .int 0), (2, .int (-1)), (0, .ref h0), (1, .int v)]) hx hb dX9_some_3 rfl hl (by decide) rfl (fun ls hl => ?_)
  refine lp_N (fun n9 H locs ls => ∃ (i2_1 : Int32), ∃ (i_2 : Int32), n9 = (16 - i_2.toInt).toNat ∧ (va_P D vwCl [(h0, .inr (8, [.ref a0, .int tk, .ref a1, .int mm, .ref a2, .ref a3, .ref a4, .ref a5, .ref a6, .ref a7, .int wm, .int fa, .int th, .int se, .ref a8, .ref a9, .ref ab])), (a2, .inl (cI, 128, .inl g2))] H ∧ va_D A [(h0, .inr (8, [.ref a0, .int tk, .ref a1, .int mm, .ref a2, .ref a3, .ref a4, .ref a5, .ref a6, .ref a7, .int wm, .int fa, .int th, .int se, .ref a8, .ref a9, .ref ab])), (a2, .inl (cI, 128, .inl g2))]) ∧ va_S A s.heap H locs ∧ lv_has ls 4 [(3, .int i_2), (2, .int i2_1), (0, .ref h0), (1, .int v)] ∧ (0 ≤ i_2.toInt)) ?_ ⟨(-1), 0, rfl, ⟨hP, hD⟩, hS, hl, (by decide)⟩
  intro n9 ih_3 H locs ls hI
  obtain ⟨i2_1, i_2, rfl, ⟨hP, hD⟩, hS, hl, hv_4⟩ := hI
  refine lv_iload_n hx hb dX9_some_4 rfl (lv_at hl 0 rfl) ?_
  refine lv_bipush (v := 16) hx hb dX9_some_5 (by decide) ?_
  refine lv_icmp_ge (tgt := 43) hx hb dX9_some_7 (by decide) (fun c_5 => ?_) (fun c_5 => ?_)
  · refine lv_iload_n hx hb dX9_some_43 rfl (lv_at hl 1 rfl) ?_
    exact ret_i hx hb hr hlocks rfl (u := ()) trivial (hP.sub [0, 1] rfl) (hK.sub [] rfl) (hD.sub [0, 1] (by decide) rfl) hS (Nat.le_of_ble_eq_true rfl) (Nat.le_of_ble_eq_true rfl) dX9_some_44
  refine jn_S 37 (fun st9 H locs ls => ∃ (i2_6 : Int32), st9 = [] ∧ (va_P D vwCl [(h0, .inr (8, [.ref a0, .int tk, .ref a1, .int mm, .ref a2, .ref a3, .ref a4, .ref a5, .ref a6, .ref a7, .int wm, .int fa, .int th, .int se, .ref a8, .ref a9, .ref ab])), (a2, .inl (cI, 128, .inl g2))] H ∧ va_D A [(h0, .inr (8, [.ref a0, .int tk, .ref a1, .int mm, .ref a2, .ref a3, .ref a4, .ref a5, .ref a6, .ref a7, .int wm, .int fa, .int th, .int se, .ref a8, .ref a9, .ref ab])), (a2, .inl (cI, 128, .inl g2))]) ∧ va_S A s.heap H locs ∧ lv_has ls 4 [(3, .int i_2), (2, .int i2_6), (0, .ref h0), (1, .int v)]) ?_ ?_
  · intro st9 H locs ls hI
    obtain ⟨i2_6, rfl, ⟨hP, hD⟩, hS, hl⟩ := hI
    refine lv_iinc (v := i_2 + 1) (lv' := [(3, .int (i_2 + 1)), (2, .int i2_6), (0, .ref h0), (1, .int v)]) hx hb dX9_some_37 hl (k := 0) rfl rfl (by decide) rfl (fun ls hl => ?_)
    refine lv_goto (tgt := 4) hx hb dX9_some_40 (by decide) ?_
    exact ih_3 _ _ _ _ (by have : (16 : Int32).toInt = 16 := (by decide); have := ti_nle c_5; have kn : (16 : Int32).toInt = 16 := (by decide); have u1 := ti_up (i := i_2) (n := 16) (by omega); omega) ⟨i2_6, i_2 + 1, rfl, ⟨hP, hD⟩, hS, lv_sub hl [0, 1, 2, 3] rfl, (by have : (16 : Int32).toInt = 16 := (by decide); have := ti_nle c_5; have kn : (16 : Int32).toInt = 16 := (by decide); have u1 := ti_up (i := i_2) (n := 16) (by omega); omega)⟩
  · intro hJ_8
    refine lv_aload_n hx hb dX9_some_10 rfl (lv_at hl 2 rfl) ?_
    refine va_get (D := D) (ci := 8) (v := .ref a2) (C := RX9) (T := TX9) (N := 17) hx hb hts him_some_X9 hown hK hP 0 rfl rfl 4 (by decide) (hts (.fieldLink RX9 16 "OneHandsetModel" "keys" "[I") (List.mem_of_getElem? (i := 1) rfl)) (fun _ h9 => h9) rfl dX9_some_11 ?_
    refine lv_bipush (v := 16) hx hb dX9_some_14 (by decide) ?_
    refine lv_iload_n hx hb dX9_some_16 rfl (lv_at hl 3 rfl) ?_
    refine lv_imul hx hb dX9_some_17 ?_
    refine lv_iload_n hx hb dX9_some_18 rfl (lv_at hl 0 rfl) ?_
    refine lv_iadd hx hb dX9_some_19 ?_
    refine va_iald hx hb hK hP 1 0 rfl rfl (by have : (16 : Int32).toInt = 16 := (by decide); have := ti_nle c_5; have u3 := ix16 (m := v) (w := i_2) hv (by have : (16 : Int32).toInt = 16 := (by decide); have := ti_nle c_5; omega); exact vp_in_iff.mpr (by omega)) dX9_some_20 ?_
    refine lv_iconst (v := (-1)) hx hb dX9_some_21 (by decide) ?_
    refine lv_icmp_eq (tgt := 37) hx hb dX9_some_22 (by decide) (fun c_9 => ?_) (fun c_9 => ?_)
    · exact hJ_8 _ _ _ _ ⟨i2_1, rfl, ⟨hP, hD⟩, hS, lv_sub hl [0, 1, 2, 3] rfl⟩
    refine lv_aload_n hx hb dX9_some_25 rfl (lv_at hl 2 rfl) ?_
    refine va_get (D := D) (ci := 8) (v := .ref a2) (C := RX9) (T := TX9) (N := 17) hx hb hts him_some_X9 hown hK hP 0 rfl rfl 4 (by decide) (hts (.fieldLink RX9 16 "OneHandsetModel" "keys" "[I") (List.mem_of_getElem? (i := 1) rfl)) (fun _ h9 => h9) rfl dX9_some_26 ?_
    refine lv_bipush (v := 16) hx hb dX9_some_29 (by decide) ?_
    refine lv_iload_n hx hb dX9_some_31 rfl (lv_at hl 3 rfl) ?_
    refine lv_imul hx hb dX9_some_32 ?_
    refine lv_iload_n hx hb dX9_some_33 rfl (lv_at hl 0 rfl) ?_
    refine lv_iadd hx hb dX9_some_34 ?_
    refine va_iald hx hb hK hP 1 0 rfl rfl (by have : ((-1) : Int32).toInt = -1 := (by decide); have : (16 : Int32).toInt = 16 := (by decide); have := ti_nle c_5; have := ti_ne c_9; have u3 := ix16 (m := v) (w := i_2) hv (by have : ((-1) : Int32).toInt = -1 := (by decide); have : (16 : Int32).toInt = 16 := (by decide); have := ti_nle c_5; have := ti_ne c_9; omega); exact vp_in_iff.mpr (by omega)) dX9_some_35 ?_
    refine lv_istore_n (lv' := [(2, .int (g2 (Int32.toNatClampNeg ((16 * v) + i_2)))), (3, .int i_2), (0, .ref h0), (1, .int v)]) hx hb dX9_some_36 rfl hl (by decide) rfl (fun ls hl => ?_)
    exact hJ_8 _ _ _ _ ⟨g2 (Int32.toNatClampNeg ((16 * v) + i_2)), rfl, ⟨hP, hD⟩, hS, lv_sub hl [1, 0, 2, 3] rfl⟩
theorem him_fixed_X9 : ∀ w ∈ wsX90, w ∈ wsX9_fixed := mem_pl [20, 21, 22, 23, 24, 25, 26, 27, 28, 29, 30, 31, 32, 33, 34, 35, 36] rfl
set_option maxHeartbeats 4000000 in
set_option maxRecDepth 100000 in
theorem m_fixed (l : Launch) (D : va_G) (sz : Nat) (cI : ClassId) (h0 : Nat) (a0 : Nat) (a1 : Nat) (a2 : Nat) (a3 : Nat) (a4 : Nat) (a5 : Nat) (a6 : Nat) (a7 : Nat) (a8 : Nat) (a9 : Nat) (ab : Nat) (tk : Int32) (mm : Int32) (wm : Int32) (fa : Int32) (th : Int32) (se : Int32) (g1 : Nat → Int32) (g2 : Nat → Int32) (v : Int32) (hv : bi v 0 7) : Ci l yX9_fixed wsX9_fixed ({ frames := 2, cells := 0, slots := 0, locals := 43 } : Room) D [.ref h0, .int v] [(h0, .inr (8, [.ref a0, .int tk, .ref a1, .int mm, .ref a2, .ref a3, .ref a4, .ref a5, .ref a6, .ref a7, .int wm, .int fa, .int th, .int se, .ref a8, .ref a9, .ref ab])), (a1, .inl (cI, 80, .inl g1)), (a2, .inl (cI, 128, .inl g2))] [(cI, .int)] sz (fun (r : Int32) => fun (_ : Unit) => True) (fun (_ : Unit) => [(h0, .inr (8, [.ref a0, .int tk, .ref a1, .int mm, .ref a2, .ref a3, .ref a4, .ref a5, .ref a6, .ref a7, .int wm, .int fa, .int th, .int se, .ref a8, .ref a9, .ref ab])), (a1, .inl (cI, 80, .inl g1)), (a2, .inl (cI, 128, .inl g2))]) (fun (_ : Unit) => []) := by
  refine ct_i (cc := cX9_fixed) (maxL := 4) (ret := (some .int)) (by decide) rfl (Nat.le_of_ble_eq_true rfl) ?_
  intro p e s m below meth c A ls H hx hb hr hts hown hml hlocks hin hA hS hP hK hD hNW hl hAe hsz
  have hl : lv_has ls 4 [(0, .ref h0), (1, .int v)] := hl
  refine lv_aload_n hx hb dX9_fixed_0 rfl (lv_at hl 0 rfl) ?_
  refine lv_iload_n hx hb dX9_fixed_1 rfl (lv_at hl 1 rfl) ?_
  refine go_i (wr := [(a1, .inl (cI, 80, .inl g1))]) (tysr := [(cI, .int)]) hP hD hS hA hK [0, 2] [1] [0] rfl rfl (by decide) (by decide) rfl (va_runV (As := [.int v]) (rest := []) ⟨hx, hb, hml, hown, hts⟩ (m_learnt l D H.size cI h0 a0 a1 a2 a3 a4 a5 a6 a7 a8 a9 ab tk mm wm fa th se g2 v (by first | assumption | decide | omega)) (cwV 1 hts gX9_fixed_X9_learnt rfl rfl rfl (by decide +kernel) ⟨Nat.le_of_ble_eq_true rfl, Nat.le_of_ble_eq_true rfl⟩) (st_preV (ci := 8) (q0 := 0) hP hD hK hNW [0, 2] [0] rfl rfl (by decide) rfl rfl rfl rfl) rfl rfl hl.1 rfl (lv_room (Nat.le_of_ble_eq_true rfl)) dX9_fixed_2 ⟨(Nat.le_of_ble_eq_true rfl), (Nat.le_of_ble_eq_true rfl)⟩) (fun r_1 u H locs hw hP hD hK hS => ?_)
  have hP : va_P D vwCl [(a1, .inl (cI, 80, .inl g1)), (h0, .inr (8, [.ref a0, .int tk, .ref a1, .int mm, .ref a2, .ref a3, .ref a4, .ref a5, .ref a6, .ref a7, .int wm, .int fa, .int th, .int se, .ref a8, .ref a9, .ref ab])), (a2, .inl (cI, 128, .inl g2))] H := hP
  have hD : va_D A [(a1, .inl (cI, 80, .inl g1)), (h0, .inr (8, [.ref a0, .int tk, .ref a1, .int mm, .ref a2, .ref a3, .ref a4, .ref a5, .ref a6, .ref a7, .int wm, .int fa, .int th, .int se, .ref a8, .ref a9, .ref ab])), (a2, .inl (cI, 128, .inl g2))] := hD
  have hK : va_K D vwCl [(cI, .int)] s := hK
  refine jn_S 30 (fun st9 H locs ls => ∃ (q_2 : Int32), st9 = [.int q_2] ∧ (va_P D vwCl [(a1, .inl (cI, 80, .inl g1)), (h0, .inr (8, [.ref a0, .int tk, .ref a1, .int mm, .ref a2, .ref a3, .ref a4, .ref a5, .ref a6, .ref a7, .int wm, .int fa, .int th, .int se, .ref a8, .ref a9, .ref ab])), (a2, .inl (cI, 128, .inl g2))] H ∧ va_D A [(a1, .inl (cI, 80, .inl g1)), (h0, .inr (8, [.ref a0, .int tk, .ref a1, .int mm, .ref a2, .ref a3, .ref a4, .ref a5, .ref a6, .ref a7, .int wm, .int fa, .int th, .int se, .ref a8, .ref a9, .ref ab])), (a2, .inl (cI, 128, .inl g2))]) ∧ va_S A s.heap H locs ∧ lv_has ls 4 [(0, .ref h0), (1, .int v)]) ?_ ?_
  · intro st9 H locs ls hI
    obtain ⟨q_2, rfl, ⟨hP, hD⟩, hS, hl⟩ := hI
    refine lv_istore_n (lv' := [(2, .int q_2), (0, .ref h0), (1, .int v)]) hx hb dX9_fixed_30 rfl hl (by decide) rfl (fun ls hl => ?_)
    refine lv_iconst (v := 0) hx hb dX9_fixed_31 (by decide) ?_
    refine lv_istore_n (lv' := [(3, .int 0), (2, .int q_2), (0, .ref h0), (1, .int v)]) hx hb dX9_fixed_32 rfl hl (by decide) rfl (fun ls hl => ?_)
    refine lp_N (fun n9 H locs ls => ∃ (i2_4 : Int32), ∃ (i_5 : Int32), n9 = (16 - i_5.toInt).toNat ∧ (va_P D vwCl [(a1, .inl (cI, 80, .inl g1)), (h0, .inr (8, [.ref a0, .int tk, .ref a1, .int mm, .ref a2, .ref a3, .ref a4, .ref a5, .ref a6, .ref a7, .int wm, .int fa, .int th, .int se, .ref a8, .ref a9, .ref ab])), (a2, .inl (cI, 128, .inl g2))] H ∧ va_D A [(a1, .inl (cI, 80, .inl g1)), (h0, .inr (8, [.ref a0, .int tk, .ref a1, .int mm, .ref a2, .ref a3, .ref a4, .ref a5, .ref a6, .ref a7, .int wm, .int fa, .int th, .int se, .ref a8, .ref a9, .ref ab])), (a2, .inl (cI, 128, .inl g2))]) ∧ va_S A s.heap H locs ∧ lv_has ls 4 [(3, .int i_5), (2, .int i2_4), (0, .ref h0), (1, .int v)] ∧ (0 ≤ i_5.toInt)) ?_ ⟨q_2, 0, rfl, ⟨hP, hD⟩, hS, hl, (by decide)⟩
    intro n9 ih_6 H locs ls hI
    obtain ⟨i2_4, i_5, rfl, ⟨hP, hD⟩, hS, hl, hv_7⟩ := hI
    refine lv_iload_n hx hb dX9_fixed_33 rfl (lv_at hl 0 rfl) ?_
    refine lv_bipush (v := 16) hx hb dX9_fixed_34 (by decide) ?_
    refine lv_icmp_ge (tgt := 82) hx hb dX9_fixed_36 (by decide) (fun c_8 => ?_) (fun c_8 => ?_)
    · refine lv_iload_n hx hb dX9_fixed_82 rfl (lv_at hl 1 rfl) ?_
      exact ret_i hx hb hr hlocks rfl (u := ()) trivial (hP.sub [1, 0, 2] rfl) (hK.sub [] rfl) (hD.sub [1, 0, 2] (by decide) rfl) hS (Nat.le_of_ble_eq_true rfl) (Nat.le_of_ble_eq_true rfl) dX9_fixed_83
    refine jn_S 76 (fun st9 H locs ls => ∃ (i2_9 : Int32), st9 = [] ∧ (va_P D vwCl [(a1, .inl (cI, 80, .inl g1)), (h0, .inr (8, [.ref a0, .int tk, .ref a1, .int mm, .ref a2, .ref a3, .ref a4, .ref a5, .ref a6, .ref a7, .int wm, .int fa, .int th, .int se, .ref a8, .ref a9, .ref ab])), (a2, .inl (cI, 128, .inl g2))] H ∧ va_D A [(a1, .inl (cI, 80, .inl g1)), (h0, .inr (8, [.ref a0, .int tk, .ref a1, .int mm, .ref a2, .ref a3, .ref a4, .ref a5, .ref a6, .ref a7, .int wm, .int fa, .int th, .int se, .ref a8, .ref a9, .ref ab])), (a2, .inl (cI, 128, .inl g2))]) ∧ va_S A s.heap H locs ∧ lv_has ls 4 [(3, .int i_5), (2, .int i2_9), (0, .ref h0), (1, .int v)]) ?_ ?_
    · intro st9 H locs ls hI
      obtain ⟨i2_9, rfl, ⟨hP, hD⟩, hS, hl⟩ := hI
      refine lv_iinc (v := i_5 + 1) (lv' := [(3, .int (i_5 + 1)), (2, .int i2_9), (0, .ref h0), (1, .int v)]) hx hb dX9_fixed_76 hl (k := 0) rfl rfl (by decide) rfl (fun ls hl => ?_)
      refine lv_goto (tgt := 33) hx hb dX9_fixed_79 (by decide) ?_
      exact ih_6 _ _ _ _ (by have : (16 : Int32).toInt = 16 := (by decide); have := ti_nle c_8; have kn : (16 : Int32).toInt = 16 := (by decide); have u1 := ti_up (i := i_5) (n := 16) (by omega); omega) ⟨i2_9, i_5 + 1, rfl, ⟨hP, hD⟩, hS, lv_sub hl [0, 1, 2, 3] rfl, (by have : (16 : Int32).toInt = 16 := (by decide); have := ti_nle c_8; have kn : (16 : Int32).toInt = 16 := (by decide); have u1 := ti_up (i := i_5) (n := 16) (by omega); omega)⟩
    · intro hJ_11
      refine lv_aload_n hx hb dX9_fixed_39 rfl (lv_at hl 2 rfl) ?_
      refine va_get (D := D) (ci := 8) (v := .ref a2) (C := RX9) (T := TX9) (N := 17) hx hb hts him_fixed_X9 hown hK hP 1 rfl rfl 4 (by decide) (hts (.fieldLink RX9 16 "OneHandsetModel" "keys" "[I") (List.mem_of_getElem? (i := 1) rfl)) (fun _ h9 => h9) rfl dX9_fixed_40 ?_
      refine lv_bipush (v := 16) hx hb dX9_fixed_43 (by decide) ?_
      refine lv_iload_n hx hb dX9_fixed_45 rfl (lv_at hl 3 rfl) ?_
      refine lv_imul hx hb dX9_fixed_46 ?_
      refine lv_iload_n hx hb dX9_fixed_47 rfl (lv_at hl 0 rfl) ?_
      refine lv_iadd hx hb dX9_fixed_48 ?_
      refine va_iald hx hb hK hP 2 0 rfl rfl (by have : (16 : Int32).toInt = 16 := (by decide); have := ti_nle c_8; have u3 := ix16 (m := v) (w := i_5) hv (by have : (16 : Int32).toInt = 16 := (by decide); have := ti_nle c_8; omega); exact vp_in_iff.mpr (by omega)) dX9_fixed_49 ?_
      refine lv_iconst (v := (-1)) hx hb dX9_fixed_50 (by decide) ?_
      refine lv_icmp_eq (tgt := 76) hx hb dX9_fixed_51 (by decide) (fun c_12 => ?_) (fun c_12 => ?_)
      · exact hJ_11 _ _ _ _ ⟨i2_4, rfl, ⟨hP, hD⟩, hS, lv_sub hl [0, 1, 2, 3] rfl⟩
      refine lv_iload_n hx hb dX9_fixed_54 rfl (lv_at hl 1 rfl) ?_
      refine lv_aload_n hx hb dX9_fixed_55 rfl (lv_at hl 2 rfl) ?_
      refine va_get (D := D) (ci := 8) (v := .ref a2) (C := RX9) (T := TX9) (N := 17) hx hb hts him_fixed_X9 hown hK hP 1 rfl rfl 4 (by decide) (hts (.fieldLink RX9 16 "OneHandsetModel" "keys" "[I") (List.mem_of_getElem? (i := 1) rfl)) (fun _ h9 => h9) rfl dX9_fixed_56 ?_
      refine lv_bipush (v := 16) hx hb dX9_fixed_59 (by decide) ?_
      refine lv_iload_n hx hb dX9_fixed_61 rfl (lv_at hl 3 rfl) ?_
      refine lv_imul hx hb dX9_fixed_62 ?_
      refine lv_iload_n hx hb dX9_fixed_63 rfl (lv_at hl 0 rfl) ?_
      refine lv_iadd hx hb dX9_fixed_64 ?_
      refine va_iald hx hb hK hP 2 0 rfl rfl (by have : ((-1) : Int32).toInt = -1 := (by decide); have : (16 : Int32).toInt = 16 := (by decide); have := ti_nle c_8; have := ti_ne c_12; have u3 := ix16 (m := v) (w := i_5) hv (by have : ((-1) : Int32).toInt = -1 := (by decide); have : (16 : Int32).toInt = 16 := (by decide); have := ti_nle c_8; have := ti_ne c_12; omega); exact vp_in_iff.mpr (by omega)) dX9_fixed_65 ?_
      refine lv_aload_n hx hb dX9_fixed_66 rfl (lv_at hl 2 rfl) ?_
      refine lv_iload_n hx hb dX9_fixed_67 rfl (lv_at hl 3 rfl) ?_
      refine go_i (wr := [(a1, .inl (cI, 80, .inl g1))]) (tysr := [(cI, .int)]) hP hD hS hA hK [1, 2] [0] [0] rfl rfl (by decide) (by decide) rfl (va_runV (As := [.int v]) (rest := [.int (g2 (Int32.toNatClampNeg ((16 * v) + i_5))), .int i2_4]) ⟨hx, hb, hml, hown, hts⟩ (m_some l D H.size cI h0 a0 a1 a2 a3 a4 a5 a6 a7 a8 a9 ab tk mm wm fa th se g2 v (by first | assumption | decide | omega)) (cwV 1 hts gX9_fixed_X9_some rfl rfl rfl (by decide +kernel) ⟨Nat.le_of_ble_eq_true rfl, Nat.le_of_ble_eq_true rfl⟩) (st_preV (ci := 8) (q0 := 1) hP hD hK hNW [1, 2] [0] rfl rfl (by decide) rfl rfl rfl rfl) rfl rfl hl.1 rfl (lv_room (Nat.le_of_ble_eq_true rfl)) dX9_fixed_68 ⟨(Nat.le_of_ble_eq_true rfl), (Nat.le_of_ble_eq_true rfl)⟩) (fun r_13 u H locs hw hP hD hK hS => ?_)
      have hP : va_P D vwCl [(a1, .inl (cI, 80, .inl g1)), (h0, .inr (8, [.ref a0, .int tk, .ref a1, .int mm, .ref a2, .ref a3, .ref a4, .ref a5, .ref a6, .ref a7, .int wm, .int fa, .int th, .int se, .ref a8, .ref a9, .ref ab])), (a2, .inl (cI, 128, .inl g2))] H := hP
      have hD : va_D A [(a1, .inl (cI, 80, .inl g1)), (h0, .inr (8, [.ref a0, .int tk, .ref a1, .int mm, .ref a2, .ref a3, .ref a4, .ref a5, .ref a6, .ref a7, .int wm, .int fa, .int th, .int se, .ref a8, .ref a9, .ref ab])), (a2, .inl (cI, 128, .inl g2))] := hD
      have hK : va_K D vwCl [(cI, .int)] s := hK
      refine lv_ixor hx hb dX9_fixed_71 ?_
      refine lv_iconst (v := (-1)) hx hb dX9_fixed_72 (by decide) ?_
      refine lv_ixor hx hb dX9_fixed_73 ?_
      refine lv_iand hx hb dX9_fixed_74 ?_
      refine lv_istore_n (lv' := [(2, .int (i2_4 &&& (((g2 (Int32.toNatClampNeg ((16 * v) + i_5))) ^^^ r_13) ^^^ (-1)))), (3, .int i_5), (0, .ref h0), (1, .int v)]) hx hb dX9_fixed_75 rfl hl (by decide) rfl (fun ls hl => ?_)
      exact hJ_11 _ _ _ _ ⟨i2_4 &&& (((g2 (Int32.toNatClampNeg ((16 * v) + i_5))) ^^^ r_13) ^^^ (-1)), rfl, ⟨hP, hD⟩, hS, lv_sub hl [1, 0, 2, 3] rfl⟩
  · intro hJ_14
    refine lv_if_ne (tgt := 12) hx hb dX9_fixed_5 (by decide) (fun c_15 => ?_) (fun c_15 => ?_)
    · refine lv_iconst (v := 1) hx hb dX9_fixed_12 (by decide) ?_
      refine lv_aload_n hx hb dX9_fixed_13 rfl (lv_at hl 0 rfl) ?_
      refine lv_iload_n hx hb dX9_fixed_14 rfl (lv_at hl 1 rfl) ?_
      refine lv_iconst (v := 1) hx hb dX9_fixed_15 (by decide) ?_
      refine go_i (wr := [(a2, .inl (cI, 128, .inl g2))]) (tysr := [(cI, .int)]) hP hD hS hA hK [1, 0] [2] [0] rfl rfl (by decide) (by decide) rfl (va_runV (As := [.int v, .int 1]) (rest := [.int 1]) ⟨hx, hb, hml, hown, hts⟩ (m_get l D H.size cI h0 a0 a1 a2 a3 a4 a5 a6 a7 a8 a9 ab tk mm wm fa th se g1 v 1 (by first | assumption | decide | omega) (by first | assumption | decide | omega)) (cwV 2 hts gX9_fixed_X9_get rfl rfl rfl (by decide +kernel) ⟨Nat.le_of_ble_eq_true rfl, Nat.le_of_ble_eq_true rfl⟩) (st_preV (ci := 8) (q0 := 1) hP hD hK hNW [1, 0] [0] rfl rfl (by decide) rfl rfl rfl rfl) rfl rfl hl.1 rfl (lv_room (Nat.le_of_ble_eq_true rfl)) dX9_fixed_16 ⟨(Nat.le_of_ble_eq_true rfl), (Nat.le_of_ble_eq_true rfl)⟩) (fun r_16 u H locs hw hP hD hK hS => ?_)
      have hw : r_16 = g1 (Int32.toNatClampNeg (10 * v + 1)) := hw
      subst hw
      have hP : va_P D vwCl [(a2, .inl (cI, 128, .inl g2)), (h0, .inr (8, [.ref a0, .int tk, .ref a1, .int mm, .ref a2, .ref a3, .ref a4, .ref a5, .ref a6, .ref a7, .int wm, .int fa, .int th, .int se, .ref a8, .ref a9, .ref ab])), (a1, .inl (cI, 80, .inl g1))] H := hP
      have hD : va_D A [(a2, .inl (cI, 128, .inl g2)), (h0, .inr (8, [.ref a0, .int tk, .ref a1, .int mm, .ref a2, .ref a3, .ref a4, .ref a5, .ref a6, .ref a7, .int wm, .int fa, .int th, .int se, .ref a8, .ref a9, .ref ab])), (a1, .inl (cI, 80, .inl g1))] := hD
      have hK : va_K D vwCl [(cI, .int)] s := hK
      refine lv_ishl hx hb dX9_fixed_19 ?_
      refine lv_iconst (v := 1) hx hb dX9_fixed_20 (by decide) ?_
      refine lv_isub hx hb dX9_fixed_21 ?_
      refine lv_aload_n hx hb dX9_fixed_22 rfl (lv_at hl 0 rfl) ?_
      refine lv_iload_n hx hb dX9_fixed_23 rfl (lv_at hl 1 rfl) ?_
      refine go_i (wr := [(a2, .inl (cI, 128, .inl g2))]) (tysr := [(cI, .int)]) hP hD hS hA hK [1, 2] [0] [0] rfl rfl (by decide) (by decide) rfl (va_runV (As := [.int v]) (rest := [.int ((1 <<< ((g1 (Int32.toNatClampNeg (10 * v + 1))) &&& 31)) - 1)]) ⟨hx, hb, hml, hown, hts⟩ (m_flipOf l D H.size cI h0 a0 a1 a2 a3 a4 a5 a6 a7 a8 a9 ab tk mm wm fa th se g1 v (by first | assumption | decide | omega)) (cwV 1 hts gX9_fixed_X9_flipOf rfl rfl rfl (by decide +kernel) ⟨Nat.le_of_ble_eq_true rfl, Nat.le_of_ble_eq_true rfl⟩) (st_preV (ci := 8) (q0 := 1) hP hD hK hNW [1, 2] [0] rfl rfl (by decide) rfl rfl rfl rfl) rfl rfl hl.1 rfl (lv_room (Nat.le_of_ble_eq_true rfl)) dX9_fixed_24 ⟨(Nat.le_of_ble_eq_true rfl), (Nat.le_of_ble_eq_true rfl)⟩) (fun r_17 u H locs hw hP hD hK hS => ?_)
      have hP : va_P D vwCl [(a2, .inl (cI, 128, .inl g2)), (h0, .inr (8, [.ref a0, .int tk, .ref a1, .int mm, .ref a2, .ref a3, .ref a4, .ref a5, .ref a6, .ref a7, .int wm, .int fa, .int th, .int se, .ref a8, .ref a9, .ref ab])), (a1, .inl (cI, 80, .inl g1))] H := hP
      have hD : va_D A [(a2, .inl (cI, 128, .inl g2)), (h0, .inr (8, [.ref a0, .int tk, .ref a1, .int mm, .ref a2, .ref a3, .ref a4, .ref a5, .ref a6, .ref a7, .int wm, .int fa, .int th, .int se, .ref a8, .ref a9, .ref ab])), (a1, .inl (cI, 80, .inl g1))] := hD
      have hK : va_K D vwCl [(cI, .int)] s := hK
      refine lv_iconst (v := (-1)) hx hb dX9_fixed_27 (by decide) ?_
      refine lv_ixor hx hb dX9_fixed_28 ?_
      refine lv_iand hx hb dX9_fixed_29 ?_
      exact hJ_14 _ _ _ _ ⟨((1 <<< ((g1 (Int32.toNatClampNeg (10 * v + 1))) &&& 31)) - 1) &&& (r_17 ^^^ (-1)), rfl, ⟨hP.sub [2, 1, 0] rfl, hD.sub [2, 1, 0] (by decide) rfl⟩, hS, lv_sub hl [0, 1] rfl⟩
    refine lv_iconst (v := 0) hx hb dX9_fixed_8 (by decide) ?_
    refine lv_goto (tgt := 30) hx hb dX9_fixed_9 (by decide) ?_
    exact hJ_14 _ _ _ _ ⟨0, rfl, ⟨hP, hD⟩, hS, lv_sub hl [0, 1] rfl⟩
set_option maxHeartbeats 4000000 in
set_option maxRecDepth 100000 in
theorem m_sumOf (l : Launch) (D : va_G) (sz : Nat) (v : Int32) (w : Int32)  : Ci l yX9_sumOf wsX9_sumOf ({ frames := 0, cells := 0, slots := 0, locals := 0 } : Room) D [.int v, .int w] [] [] sz (fun (r : Int32) => fun (_ : Unit) => True) (fun (_ : Unit) => []) (fun (_ : Unit) => []) := by
  refine ct_i (cc := cX9_sumOf) (maxL := 4) (ret := (some .int)) (by decide) rfl (Nat.le_of_ble_eq_true rfl) ?_
  intro p e s m below meth c A ls H hx hb hr hts hown hml hlocks hin hA hS hP hK hD hNW hl hAe hsz
  have hl : lv_has ls 4 [(0, .int v), (1, .int w)] := hl
  refine lv_iconst (v := 0) hx hb dX9_sumOf_0 (by decide) ?_
  refine lv_istore_n (lv' := [(2, .int 0), (0, .int v), (1, .int w)]) hx hb dX9_sumOf_1 rfl hl (by decide) rfl (fun ls hl => ?_)
  refine lv_iload_n hx hb dX9_sumOf_2 rfl (lv_at hl 1 rfl) ?_
  refine lv_iconst (v := 4) hx hb dX9_sumOf_3 (by decide) ?_
  refine lv_ishr hx hb dX9_sumOf_4 ?_
  refine lv_istore_n (lv' := [(3, .int (v >>> (4 &&& 31))), (2, .int 0), (0, .int v), (1, .int w)]) hx hb dX9_sumOf_5 rfl hl (by decide) rfl (fun ls hl => ?_)
  refine lp_N (fun n9 H locs ls => ∃ (i2_1 : Int32), ∃ (i_2 : Int32), n9 = (i_2.toInt).toNat ∧ (va_P D vwCl [] H ∧ va_D A []) ∧ va_S A s.heap H locs ∧ lv_has ls 4 [(3, .int i_2), (2, .int i2_1), (0, .int v), (1, .int w)]) ?_ ⟨0, v >>> (4 &&& 31), rfl, ⟨hP, hD⟩, hS, hl⟩
  intro n9 ih_3 H locs ls hI
  obtain ⟨i2_1, i_2, rfl, ⟨hP, hD⟩, hS, hl⟩ := hI
  refine lv_iload_n hx hb dX9_sumOf_6 rfl (lv_at hl 0 rfl) ?_
  refine lv_if_le (tgt := 41) hx hb dX9_sumOf_7 (by decide) (fun c_5 => ?_) (fun c_5 => ?_)
  · refine lv_iload_n hx hb dX9_sumOf_41 rfl (lv_at hl 1 rfl) ?_
    exact ret_i hx hb hr hlocks rfl (u := ()) trivial (hP.sub [] rfl) (hK.sub [] rfl) (hD.sub [] (by decide) rfl) hS (Nat.le_of_ble_eq_true rfl) (Nat.le_of_ble_eq_true rfl) dX9_sumOf_42
  refine jn_S 33 (fun st9 H locs ls => ∃ (q_6 : Int32), st9 = [.int q_6] ∧ (va_P D vwCl [] H ∧ va_D A []) ∧ va_S A s.heap H locs ∧ lv_has ls 4 [(3, .int i_2), (2, .int i2_1), (0, .int v), (1, .int w)]) ?_ ?_
  · intro st9 H locs ls hI
    obtain ⟨q_6, rfl, ⟨hP, hD⟩, hS, hl⟩ := hI
    refine lv_istore_n (lv' := [(2, .int q_6), (3, .int i_2), (0, .int v), (1, .int w)]) hx hb dX9_sumOf_33 rfl hl (by decide) rfl (fun ls hl => ?_)
    refine lv_iload_n hx hb dX9_sumOf_34 rfl (lv_at hl 1 rfl) ?_
    refine lv_iconst (v := 4) hx hb dX9_sumOf_35 (by decide) ?_
    refine lv_ishr hx hb dX9_sumOf_36 ?_
    refine lv_istore_n (lv' := [(3, .int (i_2 >>> (4 &&& 31))), (2, .int q_6), (0, .int v), (1, .int w)]) hx hb dX9_sumOf_37 rfl hl (by decide) rfl (fun ls hl => ?_)
    refine lv_goto (tgt := 6) hx hb dX9_sumOf_38 (by decide) ?_
    exact ih_3 _ _ _ _ (by have : (0 : Int32).toInt = 0 := (by decide); have := ti_nle c_5; have u4 := shr4 (x := i_2) (by omega); omega) ⟨q_6, i_2 >>> (4 &&& 31), rfl, ⟨hP, hD⟩, hS, lv_sub hl [0, 1, 2, 3] rfl⟩
  · intro hJ_8
    refine lv_iload_n hx hb dX9_sumOf_10 rfl (lv_at hl 3 rfl) ?_
    refine lv_iconst (v := 1) hx hb dX9_sumOf_11 (by decide) ?_
    refine lv_icmp_ne (tgt := 27) hx hb dX9_sumOf_12 (by decide) (fun c_9 => ?_) (fun c_9 => ?_)
    · refine lv_iload_n hx hb dX9_sumOf_27 rfl (lv_at hl 1 rfl) ?_
      refine lv_iload_n hx hb dX9_sumOf_28 rfl (lv_at hl 0 rfl) ?_
      refine lv_bipush (v := 15) hx hb dX9_sumOf_29 (by decide) ?_
      refine lv_iand hx hb dX9_sumOf_31 ?_
      refine lv_ixor hx hb dX9_sumOf_32 ?_
      exact hJ_8 _ _ _ _ ⟨i2_1 ^^^ (i_2 &&& 15), rfl, ⟨hP, hD⟩, hS, lv_sub hl [0, 1, 2, 3] rfl⟩
    refine lv_iload_n hx hb dX9_sumOf_15 rfl (lv_at hl 1 rfl) ?_
    refine lv_iload_n hx hb dX9_sumOf_16 rfl (lv_at hl 0 rfl) ?_
    refine lv_bipush (v := 15) hx hb dX9_sumOf_17 (by decide) ?_
    refine lv_iand hx hb dX9_sumOf_19 ?_
    refine lv_iadd hx hb dX9_sumOf_20 ?_
    refine lv_bipush (v := 15) hx hb dX9_sumOf_21 (by decide) ?_
    refine lv_iand hx hb dX9_sumOf_23 ?_
    refine lv_goto (tgt := 33) hx hb dX9_sumOf_24 (by decide) ?_
    exact hJ_8 _ _ _ _ ⟨(i2_1 + (i_2 &&& 15)) &&& 15, rfl, ⟨hP, hD⟩, hS, lv_sub hl [0, 1, 2, 3] rfl⟩
set_option maxHeartbeats 4000000 in
set_option maxRecDepth 100000 in
theorem m_numberOf (l : Launch) (D : va_G) (sz : Nat) (cI : ClassId) (h0 : Nat) (a0 : Nat) (a1 : Nat) (a2 : Nat) (a3 : Nat) (a4 : Nat) (a5 : Nat) (a6 : Nat) (a7 : Nat) (a8 : Nat) (a9 : Nat) (ab : Nat) (tk : Int32) (mm : Int32) (wm : Int32) (fa : Int32) (th : Int32) (se : Int32) (g1 : Nat → Int32) (v : Int32) (w : Int32) (x : Int32) (hv : bi v 0 7) : Ci l yX9_numberOf wsX9_numberOf ({ frames := 1, cells := 0, slots := 0, locals := 23 } : Room) D [.ref h0, .int v, .int w, .int x] [(h0, .inr (8, [.ref a0, .int tk, .ref a1, .int mm, .ref a2, .ref a3, .ref a4, .ref a5, .ref a6, .ref a7, .int wm, .int fa, .int th, .int se, .ref a8, .ref a9, .ref ab])), (a1, .inl (cI, 80, .inl g1))] [(cI, .int)] sz (fun (r : Int32) => fun (_ : Unit) => True) (fun (_ : Unit) => [(h0, .inr (8, [.ref a0, .int tk, .ref a1, .int mm, .ref a2, .ref a3, .ref a4, .ref a5, .ref a6, .ref a7, .int wm, .int fa, .int th, .int se, .ref a8, .ref a9, .ref ab])), (a1, .inl (cI, 80, .inl g1))]) (fun (_ : Unit) => []) := by
  refine ct_i (cc := cX9_numberOf) (maxL := 6) (ret := (some .int)) (by decide) rfl (Nat.le_of_ble_eq_true rfl) ?_
  intro p e s m below meth c A ls H hx hb hr hts hown hml hlocks hin hA hS hP hK hD hNW hl hAe hsz
  have hl : lv_has ls 6 [(0, .ref h0), (1, .int v), (2, .int w), (3, .int x)] := hl
  refine lv_aload_n hx hb dX9_numberOf_0 rfl (lv_at hl 0 rfl) ?_
  refine lv_iload_n hx hb dX9_numberOf_1 rfl (lv_at hl 1 rfl) ?_
  refine lv_iconst (v := 1) hx hb dX9_numberOf_2 (by decide) ?_
  refine go_i (wr := []) (tysr := [(cI, .int)]) hP hD hS hA hK [0, 1] [] [0] rfl rfl (by decide) (by decide) rfl (va_runV (As := [.int v, .int 1]) (rest := []) ⟨hx, hb, hml, hown, hts⟩ (m_get l D H.size cI h0 a0 a1 a2 a3 a4 a5 a6 a7 a8 a9 ab tk mm wm fa th se g1 v 1 (by first | assumption | decide | omega) (by first | assumption | decide | omega)) (cwV 2 hts gX9_numberOf_X9_get rfl rfl rfl (by decide +kernel) ⟨Nat.le_of_ble_eq_true rfl, Nat.le_of_ble_eq_true rfl⟩) (st_preV (ci := 8) (q0 := 0) hP hD hK hNW [0, 1] [0] rfl rfl (by decide) rfl rfl rfl rfl) rfl rfl hl.1 rfl (lv_room (Nat.le_of_ble_eq_true rfl)) dX9_numberOf_3 ⟨(Nat.le_of_ble_eq_true rfl), (Nat.le_of_ble_eq_true rfl)⟩) (fun r_1 u H locs hw hP hD hK hS => ?_)
  have hw : r_1 = g1 (Int32.toNatClampNeg (10 * v + 1)) := hw
  subst hw
  have hP : va_P D vwCl [(h0, .inr (8, [.ref a0, .int tk, .ref a1, .int mm, .ref a2, .ref a3, .ref a4, .ref a5, .ref a6, .ref a7, .int wm, .int fa, .int th, .int se, .ref a8, .ref a9, .ref ab])), (a1, .inl (cI, 80, .inl g1))] H := hP
  have hD : va_D A [(h0, .inr (8, [.ref a0, .int tk, .ref a1, .int mm, .ref a2, .ref a3, .ref a4, .ref a5, .ref a6, .ref a7, .int wm, .int fa, .int th, .int se, .ref a8, .ref a9, .ref ab])), (a1, .inl (cI, 80, .inl g1))] := hD
  have hK : va_K D vwCl [(cI, .int)] s := hK
  refine lv_istore (lv' := [(4, .int (g1 (Int32.toNatClampNeg (10 * v + 1)))), (0, .ref h0), (1, .int v), (2, .int w), (3, .int x)]) hx hb dX9_numberOf_6 hl (by decide) rfl (fun ls hl => ?_)
  refine lv_iload hx hb dX9_numberOf_8 (lv_at hl 0 rfl) ?_
  refine lv_iconst (v := 5) hx hb dX9_numberOf_10 (by decide) ?_
  refine lv_icmp_ge (tgt := 16) hx hb dX9_numberOf_11 (by decide) (fun c_2 => ?_) (fun c_2 => ?_)
  · refine lv_iload_n hx hb dX9_numberOf_16 rfl (lv_at hl 4 rfl) ?_
    refine lv_iconst (v := 1) hx hb dX9_numberOf_17 (by decide) ?_
    refine lv_icmp_ne (tgt := 35) hx hb dX9_numberOf_18 (by decide) (fun c_3 => ?_) (fun c_3 => ?_)
    · refine lv_iload_n hx hb dX9_numberOf_35 rfl (lv_at hl 4 rfl) ?_
      refine lv_iconst (v := 2) hx hb dX9_numberOf_36 (by decide) ?_
      refine lv_icmp_ne (tgt := 51) hx hb dX9_numberOf_37 (by decide) (fun c_4 => ?_) (fun c_4 => ?_)
      · refine lv_iload hx hb dX9_numberOf_51 (lv_at hl 0 rfl) ?_
        refine lv_iconst (v := 2) hx hb dX9_numberOf_53 (by decide) ?_
        refine lv_irem hx hb dX9_numberOf_54 (by decide) ?_
        refine lv_topi (fun y_5 _ => ?_)
        refine lv_iconst (v := 1) hx hb dX9_numberOf_55 (by decide) ?_
        refine lv_icmp_eq (tgt := 70) hx hb dX9_numberOf_56 (by decide) (fun c_6 => ?_) (fun c_6 => ?_)
        · refine lv_iconst (v := (-1)) hx hb dX9_numberOf_70 (by decide) ?_
          exact ret_i hx hb hr hlocks rfl (u := ()) trivial (hP.sub [0, 1] rfl) (hK.sub [] rfl) (hD.sub [0, 1] (by decide) rfl) hS (Nat.le_of_ble_eq_true rfl) (Nat.le_of_ble_eq_true rfl) dX9_numberOf_71
        refine lv_aload_n hx hb dX9_numberOf_59 rfl (lv_at hl 1 rfl) ?_
        refine lv_iload_n hx hb dX9_numberOf_60 rfl (lv_at hl 2 rfl) ?_
        refine lv_bipush (v := 8) hx hb dX9_numberOf_61 (by decide) ?_
        refine go_i (wr := []) (tysr := [(cI, .int)]) hP hD hS hA hK [0, 1] [] [0] rfl rfl (by decide) (by decide) rfl (va_runV (As := [.int v, .int 8]) (rest := []) ⟨hx, hb, hml, hown, hts⟩ (m_get l D H.size cI h0 a0 a1 a2 a3 a4 a5 a6 a7 a8 a9 ab tk mm wm fa th se g1 v 8 (by first | assumption | decide | omega) (by first | assumption | decide | omega)) (cwV 2 hts gX9_numberOf_X9_get rfl rfl rfl (by decide +kernel) ⟨Nat.le_of_ble_eq_true rfl, Nat.le_of_ble_eq_true rfl⟩) (st_preV (ci := 8) (q0 := 0) hP hD hK hNW [0, 1] [0] rfl rfl (by decide) rfl rfl rfl rfl) rfl rfl hl.1 rfl (lv_room (Nat.le_of_ble_eq_true rfl)) dX9_numberOf_63 ⟨(Nat.le_of_ble_eq_true rfl), (Nat.le_of_ble_eq_true rfl)⟩) (fun r_7 u H locs hw hP hD hK hS => ?_)
        have hw : r_7 = g1 (Int32.toNatClampNeg (10 * v + 8)) := hw
        subst hw
        have hP : va_P D vwCl [(h0, .inr (8, [.ref a0, .int tk, .ref a1, .int mm, .ref a2, .ref a3, .ref a4, .ref a5, .ref a6, .ref a7, .int wm, .int fa, .int th, .int se, .ref a8, .ref a9, .ref ab])), (a1, .inl (cI, 80, .inl g1))] H := hP
        have hD : va_D A [(h0, .inr (8, [.ref a0, .int tk, .ref a1, .int mm, .ref a2, .ref a3, .ref a4, .ref a5, .ref a6, .ref a7, .int wm, .int fa, .int th, .int se, .ref a8, .ref a9, .ref ab])), (a1, .inl (cI, 80, .inl g1))] := hD
        have hK : va_K D vwCl [(cI, .int)] s := hK
        refine lv_iconst (v := (-1)) hx hb dX9_numberOf_66 (by decide) ?_
        refine lv_icmp_eq (tgt := 72) hx hb dX9_numberOf_67 (by decide) (fun c_8 => ?_) (fun c_8 => ?_)
        · refine lv_iconst (v := 1) hx hb dX9_numberOf_72 (by decide) ?_
          refine lv_iload hx hb dX9_numberOf_73 (lv_at hl 0 rfl) ?_
          refine lv_iconst (v := 2) hx hb dX9_numberOf_75 (by decide) ?_
          refine lv_idiv hx hb dX9_numberOf_76 (by decide) ?_
          refine lv_topi (fun y_9 _ => ?_)
          refine lv_ishl hx hb dX9_numberOf_77 ?_
          refine lv_topi (fun y_10 _ => ?_)
          refine lv_iconst (v := 1) hx hb dX9_numberOf_78 (by decide) ?_
          refine lv_isub hx hb dX9_numberOf_79 ?_
          refine lv_topi (fun y_11 _ => ?_)
          refine lv_istore (lv' := [(5, .int y_11), (4, .int (g1 (Int32.toNatClampNeg (10 * v + 1)))), (0, .ref h0), (1, .int v), (2, .int w), (3, .int x)]) hx hb dX9_numberOf_80 hl (by decide) rfl (fun ls hl => ?_)
          refine lv_iload_n hx hb dX9_numberOf_82 rfl (lv_at hl 4 rfl) ?_
          refine lv_iload hx hb dX9_numberOf_83 (lv_at hl 1 rfl) ?_
          refine lv_iconst (v := 2) hx hb dX9_numberOf_85 (by decide) ?_
          refine lv_idiv hx hb dX9_numberOf_86 (by decide) ?_
          refine lv_topi (fun y_12 _ => ?_)
          refine lv_ishr hx hb dX9_numberOf_87 ?_
          refine lv_topi (fun y_13 _ => ?_)
          refine lv_iload_n hx hb dX9_numberOf_88 rfl (lv_at hl 4 rfl) ?_
          refine lv_iload hx hb dX9_numberOf_89 (lv_at hl 0 rfl) ?_
          refine lv_iand hx hb dX9_numberOf_91 ?_
          refine lv_topi (fun y_14 _ => ?_)
          refine lv_ixor hx hb dX9_numberOf_92 ?_
          refine lv_topi (fun y_15 _ => ?_)
          refine lv_iload hx hb dX9_numberOf_93 (lv_at hl 0 rfl) ?_
          refine lv_icmp_ne (tgt := 102) hx hb dX9_numberOf_95 (by decide) (fun c_16 => ?_) (fun c_16 => ?_)
          · refine lv_iconst (v := (-1)) hx hb dX9_numberOf_102 (by decide) ?_
            exact ret_i hx hb hr hlocks rfl (u := ()) trivial (hP.sub [0, 1] rfl) (hK.sub [] rfl) (hD.sub [0, 1] (by decide) rfl) hS (Nat.le_of_ble_eq_true rfl) (Nat.le_of_ble_eq_true rfl) dX9_numberOf_103
          refine lv_iconst (v := 0) hx hb dX9_numberOf_98 (by decide) ?_
          refine lv_goto (tgt := 103) hx hb dX9_numberOf_99 (by decide) ?_
          exact ret_i hx hb hr hlocks rfl (u := ()) trivial (hP.sub [0, 1] rfl) (hK.sub [] rfl) (hD.sub [0, 1] (by decide) rfl) hS (Nat.le_of_ble_eq_true rfl) (Nat.le_of_ble_eq_true rfl) dX9_numberOf_103
        refine lv_iconst (v := (-1)) hx hb dX9_numberOf_70 (by decide) ?_
        exact ret_i hx hb hr hlocks rfl (u := ()) trivial (hP.sub [0, 1] rfl) (hK.sub [] rfl) (hD.sub [0, 1] (by decide) rfl) hS (Nat.le_of_ble_eq_true rfl) (Nat.le_of_ble_eq_true rfl) dX9_numberOf_71
      refine lv_iload_n hx hb dX9_numberOf_40 rfl (lv_at hl 3 rfl) ?_
      refine lv_bipush (v := 15) hx hb dX9_numberOf_41 (by decide) ?_
      refine lv_iand hx hb dX9_numberOf_43 ?_
      refine lv_topi (fun y_17 _ => ?_)
      refine lv_iload_n hx hb dX9_numberOf_44 rfl (lv_at hl 3 rfl) ?_
      refine lv_iconst (v := 2) hx hb dX9_numberOf_45 (by decide) ?_
      refine go_i (wr := [(h0, .inr (8, [.ref a0, .int tk, .ref a1, .int mm, .ref a2, .ref a3, .ref a4, .ref a5, .ref a6, .ref a7, .int wm, .int fa, .int th, .int se, .ref a8, .ref a9, .ref ab])), (a1, .inl (cI, 80, .inl g1))]) (tysr := [(cI, .int)]) hP hD hS hA hK [] [0, 1] [0] rfl rfl (by decide) (by decide) rfl (va_runS (As := [.int w, .int 2]) (rest := [.int y_17]) ⟨hx, hb, hml, hown, hts⟩ (m_sumOf l D H.size w 2 ) (va_cwS 2 hts gX9_numberOf_X9_sumOf rfl rfl rfl (by decide +kernel) ⟨Nat.le_of_ble_eq_true rfl, Nat.le_of_ble_eq_true rfl⟩) (st_preS hP hD hK hNW [] [] rfl rfl (by decide) rfl) rfl rfl hl.1 rfl (lv_room (Nat.le_of_ble_eq_true rfl)) dX9_numberOf_46 ⟨(Nat.le_of_ble_eq_true rfl), (Nat.le_of_ble_eq_true rfl)⟩) (fun r_18 u H locs hw hP hD hK hS => ?_)
      have hP : va_P D vwCl [(h0, .inr (8, [.ref a0, .int tk, .ref a1, .int mm, .ref a2, .ref a3, .ref a4, .ref a5, .ref a6, .ref a7, .int wm, .int fa, .int th, .int se, .ref a8, .ref a9, .ref ab])), (a1, .inl (cI, 80, .inl g1))] H := hP
      have hD : va_D A [(h0, .inr (8, [.ref a0, .int tk, .ref a1, .int mm, .ref a2, .ref a3, .ref a4, .ref a5, .ref a6, .ref a7, .int wm, .int fa, .int th, .int se, .ref a8, .ref a9, .ref ab])), (a1, .inl (cI, 80, .inl g1))] := hD
      have hK : va_K D vwCl [(cI, .int)] s := hK
      refine lv_ixor hx hb dX9_numberOf_49 ?_
      refine lv_topi (fun y_19 _ => ?_)
      exact ret_i hx hb hr hlocks rfl (u := ()) trivial (hP.sub [0, 1] rfl) (hK.sub [] rfl) (hD.sub [0, 1] (by decide) rfl) hS (Nat.le_of_ble_eq_true rfl) (Nat.le_of_ble_eq_true rfl) dX9_numberOf_50
    refine lv_iload_n hx hb dX9_numberOf_21 rfl (lv_at hl 3 rfl) ?_
    refine lv_bipush (v := 15) hx hb dX9_numberOf_22 (by decide) ?_
    refine lv_iand hx hb dX9_numberOf_24 ?_
    refine lv_topi (fun y_20 _ => ?_)
    refine lv_iload_n hx hb dX9_numberOf_25 rfl (lv_at hl 3 rfl) ?_
    refine lv_iconst (v := 1) hx hb dX9_numberOf_26 (by decide) ?_
    refine go_i (wr := [(h0, .inr (8, [.ref a0, .int tk, .ref a1, .int mm, .ref a2, .ref a3, .ref a4, .ref a5, .ref a6, .ref a7, .int wm, .int fa, .int th, .int se, .ref a8, .ref a9, .ref ab])), (a1, .inl (cI, 80, .inl g1))]) (tysr := [(cI, .int)]) hP hD hS hA hK [] [0, 1] [0] rfl rfl (by decide) (by decide) rfl (va_runS (As := [.int w, .int 1]) (rest := [.int y_20]) ⟨hx, hb, hml, hown, hts⟩ (m_sumOf l D H.size w 1 ) (va_cwS 2 hts gX9_numberOf_X9_sumOf rfl rfl rfl (by decide +kernel) ⟨Nat.le_of_ble_eq_true rfl, Nat.le_of_ble_eq_true rfl⟩) (st_preS hP hD hK hNW [] [] rfl rfl (by decide) rfl) rfl rfl hl.1 rfl (lv_room (Nat.le_of_ble_eq_true rfl)) dX9_numberOf_27 ⟨(Nat.le_of_ble_eq_true rfl), (Nat.le_of_ble_eq_true rfl)⟩) (fun r_21 u H locs hw hP hD hK hS => ?_)
    have hP : va_P D vwCl [(h0, .inr (8, [.ref a0, .int tk, .ref a1, .int mm, .ref a2, .ref a3, .ref a4, .ref a5, .ref a6, .ref a7, .int wm, .int fa, .int th, .int se, .ref a8, .ref a9, .ref ab])), (a1, .inl (cI, 80, .inl g1))] H := hP
    have hD : va_D A [(h0, .inr (8, [.ref a0, .int tk, .ref a1, .int mm, .ref a2, .ref a3, .ref a4, .ref a5, .ref a6, .ref a7, .int wm, .int fa, .int th, .int se, .ref a8, .ref a9, .ref ab])), (a1, .inl (cI, 80, .inl g1))] := hD
    have hK : va_K D vwCl [(cI, .int)] s := hK
    refine lv_isub hx hb dX9_numberOf_30 ?_
    refine lv_topi (fun y_22 _ => ?_)
    refine lv_bipush (v := 15) hx hb dX9_numberOf_31 (by decide) ?_
    refine lv_iand hx hb dX9_numberOf_33 ?_
    refine lv_topi (fun y_23 _ => ?_)
    exact ret_i hx hb hr hlocks rfl (u := ()) trivial (hP.sub [0, 1] rfl) (hK.sub [] rfl) (hD.sub [0, 1] (by decide) rfl) hS (Nat.le_of_ble_eq_true rfl) (Nat.le_of_ble_eq_true rfl) dX9_numberOf_34
  refine lv_iconst (v := (-1)) hx hb dX9_numberOf_14 (by decide) ?_
  exact ret_i hx hb hr hlocks rfl (u := ()) trivial (hP.sub [0, 1] rfl) (hK.sub [] rfl) (hD.sub [0, 1] (by decide) rfl) hS (Nat.le_of_ble_eq_true rfl) (Nat.le_of_ble_eq_true rfl) dX9_numberOf_15
theorem him_checkOf_X9 : ∀ w ∈ wsX90, w ∈ wsX9_checkOf := mem_pl [23, 24, 25, 26, 27, 28, 29, 30, 31, 32, 33, 34, 35, 36, 37, 38, 39] rfl
set_option maxHeartbeats 4000000 in
set_option maxRecDepth 100000 in
theorem m_checkOf (l : Launch) (D : va_G) (sz : Nat) (cI : ClassId) (h0 : Nat) (a0 : Nat) (a1 : Nat) (a2 : Nat) (a3 : Nat) (a4 : Nat) (a5 : Nat) (a6 : Nat) (a7 : Nat) (a8 : Nat) (a9 : Nat) (ab : Nat) (tk : Int32) (mm : Int32) (wm : Int32) (fa : Int32) (th : Int32) (se : Int32) (g1 : Nat → Int32) (g2 : Nat → Int32) (v : Int32) (w : Int32) (hv : bi v 0 7) : Ci l yX9_checkOf wsX9_checkOf ({ frames := 2, cells := 0, slots := 0, locals := 48 } : Room) D [.ref h0, .int v, .int w] [(h0, .inr (8, [.ref a0, .int tk, .ref a1, .int mm, .ref a2, .ref a3, .ref a4, .ref a5, .ref a6, .ref a7, .int wm, .int fa, .int th, .int se, .ref a8, .ref a9, .ref ab])), (a1, .inl (cI, 80, .inl g1)), (a2, .inl (cI, 128, .inl g2))] [(cI, .int)] sz (fun (r : Int32) => fun (_ : Unit) => True) (fun (_ : Unit) => [(h0, .inr (8, [.ref a0, .int tk, .ref a1, .int mm, .ref a2, .ref a3, .ref a4, .ref a5, .ref a6, .ref a7, .int wm, .int fa, .int th, .int se, .ref a8, .ref a9, .ref ab])), (a1, .inl (cI, 80, .inl g1)), (a2, .inl (cI, 128, .inl g2))]) (fun (_ : Unit) => []) := by
  refine ct_i (cc := cX9_checkOf) (maxL := 5) (ret := (some .int)) (by decide) rfl (Nat.le_of_ble_eq_true rfl) ?_
  intro p e s m below meth c A ls H hx hb hr hts hown hml hlocks hin hA hS hP hK hD hNW hl hAe hsz
  have hl : lv_has ls 5 [(0, .ref h0), (1, .int v), (2, .int w)] := hl
  refine lv_aload_n hx hb dX9_checkOf_0 rfl (lv_at hl 0 rfl) ?_
  refine lv_iload_n hx hb dX9_checkOf_1 rfl (lv_at hl 1 rfl) ?_
  refine go_i (wr := [(a1, .inl (cI, 80, .inl g1))]) (tysr := [(cI, .int)]) hP hD hS hA hK [0, 2] [1] [0] rfl rfl (by decide) (by decide) rfl (va_runV (As := [.int v]) (rest := []) ⟨hx, hb, hml, hown, hts⟩ (m_learnt l D H.size cI h0 a0 a1 a2 a3 a4 a5 a6 a7 a8 a9 ab tk mm wm fa th se g2 v (by first | assumption | decide | omega)) (cwV 1 hts gX9_checkOf_X9_learnt rfl rfl rfl (by decide +kernel) ⟨Nat.le_of_ble_eq_true rfl, Nat.le_of_ble_eq_true rfl⟩) (st_preV (ci := 8) (q0 := 0) hP hD hK hNW [0, 2] [0] rfl rfl (by decide) rfl rfl rfl rfl) rfl rfl hl.1 rfl (lv_room (Nat.le_of_ble_eq_true rfl)) dX9_checkOf_2 ⟨(Nat.le_of_ble_eq_true rfl), (Nat.le_of_ble_eq_true rfl)⟩) (fun r_1 u H locs hw hP hD hK hS => ?_)
  have hP : va_P D vwCl [(a1, .inl (cI, 80, .inl g1)), (h0, .inr (8, [.ref a0, .int tk, .ref a1, .int mm, .ref a2, .ref a3, .ref a4, .ref a5, .ref a6, .ref a7, .int wm, .int fa, .int th, .int se, .ref a8, .ref a9, .ref ab])), (a2, .inl (cI, 128, .inl g2))] H := hP
  have hD : va_D A [(a1, .inl (cI, 80, .inl g1)), (h0, .inr (8, [.ref a0, .int tk, .ref a1, .int mm, .ref a2, .ref a3, .ref a4, .ref a5, .ref a6, .ref a7, .int wm, .int fa, .int th, .int se, .ref a8, .ref a9, .ref ab])), (a2, .inl (cI, 128, .inl g2))] := hD
  have hK : va_K D vwCl [(cI, .int)] s := hK
  refine lv_iconst (v := 2) hx hb dX9_checkOf_5 (by decide) ?_
  refine lv_icmp_ge (tgt := 11) hx hb dX9_checkOf_6 (by decide) (fun c_2 => ?_) (fun c_2 => ?_)
  · refine lv_aload_n hx hb dX9_checkOf_11 rfl (lv_at hl 0 rfl) ?_
    refine lv_iload_n hx hb dX9_checkOf_12 rfl (lv_at hl 1 rfl) ?_
    refine lv_aload_n hx hb dX9_checkOf_13 rfl (lv_at hl 0 rfl) ?_
    refine lv_iload_n hx hb dX9_checkOf_14 rfl (lv_at hl 1 rfl) ?_
    refine go_i (wr := [(a1, .inl (cI, 80, .inl g1))]) (tysr := [(cI, .int)]) hP hD hS hA hK [1, 2] [0] [0] rfl rfl (by decide) (by decide) rfl (va_runV (As := [.int v]) (rest := [.int v, .ref h0]) ⟨hx, hb, hml, hown, hts⟩ (m_some l D H.size cI h0 a0 a1 a2 a3 a4 a5 a6 a7 a8 a9 ab tk mm wm fa th se g2 v (by first | assumption | decide | omega)) (cwV 1 hts gX9_checkOf_X9_some rfl rfl rfl (by decide +kernel) ⟨Nat.le_of_ble_eq_true rfl, Nat.le_of_ble_eq_true rfl⟩) (st_preV (ci := 8) (q0 := 1) hP hD hK hNW [1, 2] [0] rfl rfl (by decide) rfl rfl rfl rfl) rfl rfl hl.1 rfl (lv_room (Nat.le_of_ble_eq_true rfl)) dX9_checkOf_15 ⟨(Nat.le_of_ble_eq_true rfl), (Nat.le_of_ble_eq_true rfl)⟩) (fun r_3 u H locs hw hP hD hK hS => ?_)
    have hP : va_P D vwCl [(a1, .inl (cI, 80, .inl g1)), (h0, .inr (8, [.ref a0, .int tk, .ref a1, .int mm, .ref a2, .ref a3, .ref a4, .ref a5, .ref a6, .ref a7, .int wm, .int fa, .int th, .int se, .ref a8, .ref a9, .ref ab])), (a2, .inl (cI, 128, .inl g2))] H := hP
    have hD : va_D A [(a1, .inl (cI, 80, .inl g1)), (h0, .inr (8, [.ref a0, .int tk, .ref a1, .int mm, .ref a2, .ref a3, .ref a4, .ref a5, .ref a6, .ref a7, .int wm, .int fa, .int th, .int se, .ref a8, .ref a9, .ref ab])), (a2, .inl (cI, 128, .inl g2))] := hD
    have hK : va_K D vwCl [(cI, .int)] s := hK
    refine lv_iload_n hx hb dX9_checkOf_18 rfl (lv_at hl 2 rfl) ?_
    refine go_i (wr := [(a2, .inl (cI, 128, .inl g2))]) (tysr := [(cI, .int)]) hP hD hS hA hK [1, 0] [2] [0] rfl rfl (by decide) (by decide) rfl (va_runV (As := [.int v, .int r_3, .int w]) (rest := []) ⟨hx, hb, hml, hown, hts⟩ (m_numberOf l D H.size cI h0 a0 a1 a2 a3 a4 a5 a6 a7 a8 a9 ab tk mm wm fa th se g1 v r_3 w (by first | assumption | decide | omega)) (cwV 3 hts gX9_checkOf_X9_numberOf rfl rfl rfl (by decide +kernel) ⟨Nat.le_of_ble_eq_true rfl, Nat.le_of_ble_eq_true rfl⟩) (st_preV (ci := 8) (q0 := 1) hP hD hK hNW [1, 0] [0] rfl rfl (by decide) rfl rfl rfl rfl) rfl rfl hl.1 rfl (lv_room (Nat.le_of_ble_eq_true rfl)) dX9_checkOf_19 ⟨(Nat.le_of_ble_eq_true rfl), (Nat.le_of_ble_eq_true rfl)⟩) (fun r_4 u H locs hw hP hD hK hS => ?_)
    have hP : va_P D vwCl [(a2, .inl (cI, 128, .inl g2)), (h0, .inr (8, [.ref a0, .int tk, .ref a1, .int mm, .ref a2, .ref a3, .ref a4, .ref a5, .ref a6, .ref a7, .int wm, .int fa, .int th, .int se, .ref a8, .ref a9, .ref ab])), (a1, .inl (cI, 80, .inl g1))] H := hP
    have hD : va_D A [(a2, .inl (cI, 128, .inl g2)), (h0, .inr (8, [.ref a0, .int tk, .ref a1, .int mm, .ref a2, .ref a3, .ref a4, .ref a5, .ref a6, .ref a7, .int wm, .int fa, .int th, .int se, .ref a8, .ref a9, .ref ab])), (a1, .inl (cI, 80, .inl g1))] := hD
    have hK : va_K D vwCl [(cI, .int)] s := hK
    refine lv_istore_n (lv' := [(3, .int r_4), (0, .ref h0), (1, .int v), (2, .int w)]) hx hb dX9_checkOf_22 rfl hl (by decide) rfl (fun ls hl => ?_)
    refine lv_iconst (v := 0) hx hb dX9_checkOf_23 (by decide) ?_
    refine lv_istore (lv' := [(4, .int 0), (3, .int r_4), (0, .ref h0), (1, .int v), (2, .int w)]) hx hb dX9_checkOf_24 hl (by decide) rfl (fun ls hl => ?_)
    refine lp_N (fun n9 H locs ls => ∃ (i_5 : Int32), n9 = (16 - i_5.toInt).toNat ∧ (va_P D vwCl [(a2, .inl (cI, 128, .inl g2)), (h0, .inr (8, [.ref a0, .int tk, .ref a1, .int mm, .ref a2, .ref a3, .ref a4, .ref a5, .ref a6, .ref a7, .int wm, .int fa, .int th, .int se, .ref a8, .ref a9, .ref ab])), (a1, .inl (cI, 80, .inl g1))] H ∧ va_D A [(a2, .inl (cI, 128, .inl g2)), (h0, .inr (8, [.ref a0, .int tk, .ref a1, .int mm, .ref a2, .ref a3, .ref a4, .ref a5, .ref a6, .ref a7, .int wm, .int fa, .int th, .int se, .ref a8, .ref a9, .ref ab])), (a1, .inl (cI, 80, .inl g1))]) ∧ va_S A s.heap H locs ∧ lv_has ls 5 [(4, .int i_5), (3, .int r_4), (0, .ref h0), (1, .int v), (2, .int w)] ∧ (0 ≤ i_5.toInt)) ?_ ⟨0, rfl, ⟨hP, hD⟩, hS, hl, (by decide)⟩
    intro n9 ih_6 H locs ls hI
    obtain ⟨i_5, rfl, ⟨hP, hD⟩, hS, hl, hv_7⟩ := hI
    refine lv_iload hx hb dX9_checkOf_26 (lv_at hl 0 rfl) ?_
    refine lv_bipush (v := 16) hx hb dX9_checkOf_28 (by decide) ?_
    refine lv_icmp_ge (tgt := 79) hx hb dX9_checkOf_30 (by decide) (fun c_8 => ?_) (fun c_8 => ?_)
    · refine lv_iload_n hx hb dX9_checkOf_79 rfl (lv_at hl 1 rfl) ?_
      exact ret_i hx hb hr hlocks rfl (u := ()) trivial (hP.sub [1, 2, 0] rfl) (hK.sub [] rfl) (hD.sub [1, 2, 0] (by decide) rfl) hS (Nat.le_of_ble_eq_true rfl) (Nat.le_of_ble_eq_true rfl) dX9_checkOf_80
    refine jn_S 73 (fun st9 H locs ls => st9 = [] ∧ (va_P D vwCl [(a2, .inl (cI, 128, .inl g2)), (h0, .inr (8, [.ref a0, .int tk, .ref a1, .int mm, .ref a2, .ref a3, .ref a4, .ref a5, .ref a6, .ref a7, .int wm, .int fa, .int th, .int se, .ref a8, .ref a9, .ref ab])), (a1, .inl (cI, 80, .inl g1))] H ∧ va_D A [(a2, .inl (cI, 128, .inl g2)), (h0, .inr (8, [.ref a0, .int tk, .ref a1, .int mm, .ref a2, .ref a3, .ref a4, .ref a5, .ref a6, .ref a7, .int wm, .int fa, .int th, .int se, .ref a8, .ref a9, .ref ab])), (a1, .inl (cI, 80, .inl g1))]) ∧ va_S A s.heap H locs ∧ lv_has ls 5 [(4, .int i_5), (3, .int r_4), (0, .ref h0), (1, .int v), (2, .int w)]) ?_ ?_
    · intro st9 H locs ls hI
      obtain ⟨rfl, ⟨hP, hD⟩, hS, hl⟩ := hI
      refine lv_iinc (v := i_5 + 1) (lv' := [(4, .int (i_5 + 1)), (3, .int r_4), (0, .ref h0), (1, .int v), (2, .int w)]) hx hb dX9_checkOf_73 hl (k := 0) rfl rfl (by decide) rfl (fun ls hl => ?_)
      refine lv_goto (tgt := 26) hx hb dX9_checkOf_76 (by decide) ?_
      exact ih_6 _ _ _ _ (by have : (2 : Int32).toInt = 2 := (by decide); have : (16 : Int32).toInt = 16 := (by decide); have := ti_le c_2; have := ti_nle c_8; have kn : (16 : Int32).toInt = 16 := (by decide); have u1 := ti_up (i := i_5) (n := 16) (by omega); omega) ⟨i_5 + 1, rfl, ⟨hP, hD⟩, hS, lv_sub hl [0, 1, 2, 3, 4] rfl, (by have : (2 : Int32).toInt = 2 := (by decide); have : (16 : Int32).toInt = 16 := (by decide); have := ti_le c_2; have := ti_nle c_8; have kn : (16 : Int32).toInt = 16 := (by decide); have u1 := ti_up (i := i_5) (n := 16) (by omega); omega)⟩
    · intro hJ_10
      refine lv_aload_n hx hb dX9_checkOf_33 rfl (lv_at hl 2 rfl) ?_
      refine va_get (D := D) (ci := 8) (v := .ref a2) (C := RX9) (T := TX9) (N := 17) hx hb hts him_checkOf_X9 hown hK hP 1 rfl rfl 4 (by decide) (hts (.fieldLink RX9 16 "OneHandsetModel" "keys" "[I") (List.mem_of_getElem? (i := 1) rfl)) (fun _ h9 => h9) rfl dX9_checkOf_34 ?_
      refine lv_bipush (v := 16) hx hb dX9_checkOf_37 (by decide) ?_
      refine lv_iload_n hx hb dX9_checkOf_39 rfl (lv_at hl 3 rfl) ?_
      refine lv_imul hx hb dX9_checkOf_40 ?_
      refine lv_iload hx hb dX9_checkOf_41 (lv_at hl 0 rfl) ?_
      refine lv_iadd hx hb dX9_checkOf_43 ?_
      refine va_iald hx hb hK hP 0 0 rfl rfl (by have : (2 : Int32).toInt = 2 := (by decide); have : (16 : Int32).toInt = 16 := (by decide); have := ti_le c_2; have := ti_nle c_8; have u3 := ix16 (m := v) (w := i_5) hv (by have : (2 : Int32).toInt = 2 := (by decide); have : (16 : Int32).toInt = 16 := (by decide); have := ti_le c_2; have := ti_nle c_8; omega); exact vp_in_iff.mpr (by omega)) dX9_checkOf_44 ?_
      refine lv_iconst (v := (-1)) hx hb dX9_checkOf_45 (by decide) ?_
      refine lv_icmp_eq (tgt := 73) hx hb dX9_checkOf_46 (by decide) (fun c_11 => ?_) (fun c_11 => ?_)
      · exact hJ_10 _ _ _ _ ⟨rfl, ⟨hP, hD⟩, hS, lv_sub hl [0, 1, 2, 3, 4] rfl⟩
      refine lv_aload_n hx hb dX9_checkOf_49 rfl (lv_at hl 2 rfl) ?_
      refine lv_iload_n hx hb dX9_checkOf_50 rfl (lv_at hl 3 rfl) ?_
      refine lv_aload_n hx hb dX9_checkOf_51 rfl (lv_at hl 2 rfl) ?_
      refine va_get (D := D) (ci := 8) (v := .ref a2) (C := RX9) (T := TX9) (N := 17) hx hb hts him_checkOf_X9 hown hK hP 1 rfl rfl 4 (by decide) (hts (.fieldLink RX9 16 "OneHandsetModel" "keys" "[I") (List.mem_of_getElem? (i := 1) rfl)) (fun _ h9 => h9) rfl dX9_checkOf_52 ?_
      refine lv_bipush (v := 16) hx hb dX9_checkOf_55 (by decide) ?_
      refine lv_iload_n hx hb dX9_checkOf_57 rfl (lv_at hl 3 rfl) ?_
      refine lv_imul hx hb dX9_checkOf_58 ?_
      refine lv_iload hx hb dX9_checkOf_59 (lv_at hl 0 rfl) ?_
      refine lv_iadd hx hb dX9_checkOf_61 ?_
      refine va_iald hx hb hK hP 0 0 rfl rfl (by have : ((-1) : Int32).toInt = -1 := (by decide); have : (2 : Int32).toInt = 2 := (by decide); have : (16 : Int32).toInt = 16 := (by decide); have := ti_le c_2; have := ti_nle c_8; have := ti_ne c_11; have u3 := ix16 (m := v) (w := i_5) hv (by have : ((-1) : Int32).toInt = -1 := (by decide); have : (2 : Int32).toInt = 2 := (by decide); have : (16 : Int32).toInt = 16 := (by decide); have := ti_le c_2; have := ti_nle c_8; have := ti_ne c_11; omega); exact vp_in_iff.mpr (by omega)) dX9_checkOf_62 ?_
      refine lv_iload_n hx hb dX9_checkOf_63 rfl (lv_at hl 4 rfl) ?_
      refine go_i (wr := [(a2, .inl (cI, 128, .inl g2))]) (tysr := [(cI, .int)]) hP hD hS hA hK [1, 2] [0] [0] rfl rfl (by decide) (by decide) rfl (va_runV (As := [.int v, .int (g2 (Int32.toNatClampNeg ((16 * v) + i_5))), .int w]) (rest := []) ⟨hx, hb, hml, hown, hts⟩ (m_numberOf l D H.size cI h0 a0 a1 a2 a3 a4 a5 a6 a7 a8 a9 ab tk mm wm fa th se g1 v (g2 (Int32.toNatClampNeg ((16 * v) + i_5))) w (by first | assumption | decide | omega)) (cwV 3 hts gX9_checkOf_X9_numberOf rfl rfl rfl (by decide +kernel) ⟨Nat.le_of_ble_eq_true rfl, Nat.le_of_ble_eq_true rfl⟩) (st_preV (ci := 8) (q0 := 1) hP hD hK hNW [1, 2] [0] rfl rfl (by decide) rfl rfl rfl rfl) rfl rfl hl.1 rfl (lv_room (Nat.le_of_ble_eq_true rfl)) dX9_checkOf_64 ⟨(Nat.le_of_ble_eq_true rfl), (Nat.le_of_ble_eq_true rfl)⟩) (fun r_12 u H locs hw hP hD hK hS => ?_)
      have hP : va_P D vwCl [(a2, .inl (cI, 128, .inl g2)), (h0, .inr (8, [.ref a0, .int tk, .ref a1, .int mm, .ref a2, .ref a3, .ref a4, .ref a5, .ref a6, .ref a7, .int wm, .int fa, .int th, .int se, .ref a8, .ref a9, .ref ab])), (a1, .inl (cI, 80, .inl g1))] H := hP
      have hD : va_D A [(a2, .inl (cI, 128, .inl g2)), (h0, .inr (8, [.ref a0, .int tk, .ref a1, .int mm, .ref a2, .ref a3, .ref a4, .ref a5, .ref a6, .ref a7, .int wm, .int fa, .int th, .int se, .ref a8, .ref a9, .ref ab])), (a1, .inl (cI, 80, .inl g1))] := hD
      have hK : va_K D vwCl [(cI, .int)] s := hK
      refine lv_iload_n hx hb dX9_checkOf_67 rfl (lv_at hl 1 rfl) ?_
      refine lv_icmp_eq (tgt := 73) hx hb dX9_checkOf_68 (by decide) (fun c_13 => ?_) (fun c_13 => ?_)
      · exact hJ_10 _ _ _ _ ⟨rfl, ⟨hP, hD⟩, hS, lv_sub hl [0, 1, 2, 3, 4] rfl⟩
      refine lv_iconst (v := (-1)) hx hb dX9_checkOf_71 (by decide) ?_
      exact ret_i hx hb hr hlocks rfl (u := ()) trivial (hP.sub [1, 2, 0] rfl) (hK.sub [] rfl) (hD.sub [1, 2, 0] (by decide) rfl) hS (Nat.le_of_ble_eq_true rfl) (Nat.le_of_ble_eq_true rfl) dX9_checkOf_72
  refine lv_iconst (v := (-1)) hx hb dX9_checkOf_9 (by decide) ?_
  exact ret_i hx hb hr hlocks rfl (u := ()) trivial (hP.sub [1, 0, 2] rfl) (hK.sub [] rfl) (hD.sub [1, 0, 2] (by decide) rfl) hS (Nat.le_of_ble_eq_true rfl) (Nat.le_of_ble_eq_true rfl) dX9_checkOf_10
set_option maxHeartbeats 4000000 in
set_option maxRecDepth 100000 in
theorem m_isForeseen (l : Launch) (D : va_G) (sz : Nat) (cI : ClassId) (h0 : Nat) (a0 : Nat) (a1 : Nat) (a2 : Nat) (a3 : Nat) (a4 : Nat) (a5 : Nat) (a6 : Nat) (a7 : Nat) (a8 : Nat) (a9 : Nat) (ab : Nat) (tk : Int32) (mm : Int32) (wm : Int32) (fa : Int32) (th : Int32) (se : Int32) (g1 : Nat → Int32) (g2 : Nat → Int32) (v : Int32) (w : Int32) (hv : bi v 0 7) : Ci l yX9_isForeseen wsX9_isForeseen ({ frames := 3, cells := 0, slots := 0, locals := 72 } : Room) D [.ref h0, .int v, .int w] [(h0, .inr (8, [.ref a0, .int tk, .ref a1, .int mm, .ref a2, .ref a3, .ref a4, .ref a5, .ref a6, .ref a7, .int wm, .int fa, .int th, .int se, .ref a8, .ref a9, .ref ab])), (a1, .inl (cI, 80, .inl g1)), (a2, .inl (cI, 128, .inl g2))] [(cI, .int)] sz (fun (r : Int32) => fun (_ : Unit) => True) (fun (_ : Unit) => [(h0, .inr (8, [.ref a0, .int tk, .ref a1, .int mm, .ref a2, .ref a3, .ref a4, .ref a5, .ref a6, .ref a7, .int wm, .int fa, .int th, .int se, .ref a8, .ref a9, .ref ab])), (a1, .inl (cI, 80, .inl g1)), (a2, .inl (cI, 128, .inl g2))]) (fun (_ : Unit) => []) := by
  refine ct_i (cc := cX9_isForeseen) (maxL := 4) (ret := (some .boolean)) (by decide) rfl (Nat.le_of_ble_eq_true rfl) ?_
  intro p e s m below meth c A ls H hx hb hr hts hown hml hlocks hin hA hS hP hK hD hNW hl hAe hsz
  have hl : lv_has ls 4 [(0, .ref h0), (1, .int v), (2, .int w)] := hl
  refine lv_iconst (v := 1) hx hb dX9_isForeseen_0 (by decide) ?_
  refine lv_istore_n (lv' := [(3, .int 1), (0, .ref h0), (1, .int v), (2, .int w)]) hx hb dX9_isForeseen_1 rfl hl (by decide) rfl (fun ls hl => ?_)
  refine lp_N (fun n9 H locs ls => ∃ (i_1 : Int32), n9 = (4 - i_1.toInt).toNat ∧ (va_P D vwCl [(h0, .inr (8, [.ref a0, .int tk, .ref a1, .int mm, .ref a2, .ref a3, .ref a4, .ref a5, .ref a6, .ref a7, .int wm, .int fa, .int th, .int se, .ref a8, .ref a9, .ref ab])), (a1, .inl (cI, 80, .inl g1)), (a2, .inl (cI, 128, .inl g2))] H ∧ va_D A [(h0, .inr (8, [.ref a0, .int tk, .ref a1, .int mm, .ref a2, .ref a3, .ref a4, .ref a5, .ref a6, .ref a7, .int wm, .int fa, .int th, .int se, .ref a8, .ref a9, .ref ab])), (a1, .inl (cI, 80, .inl g1)), (a2, .inl (cI, 128, .inl g2))]) ∧ va_S A s.heap H locs ∧ lv_has ls 4 [(3, .int i_1), (0, .ref h0), (1, .int v), (2, .int w)] ∧ (1 ≤ i_1.toInt)) ?_ ⟨1, rfl, ⟨hP, hD⟩, hS, hl, (by decide)⟩
  intro n9 ih_2 H locs ls hI
  obtain ⟨i_1, rfl, ⟨hP, hD⟩, hS, hl, hv_3⟩ := hI
  refine lv_iload_n hx hb dX9_isForeseen_2 rfl (lv_at hl 0 rfl) ?_
  refine lv_iconst (v := 4) hx hb dX9_isForeseen_3 (by decide) ?_
  refine lv_icmp_ge (tgt := 41) hx hb dX9_isForeseen_4 (by decide) (fun c_4 => ?_) (fun c_4 => ?_)
  · refine lv_iconst (v := 1) hx hb dX9_isForeseen_41 (by decide) ?_
    exact ret_i hx hb hr hlocks rfl (u := ()) trivial (hP.sub [0, 1, 2] rfl) (hK.sub [] rfl) (hD.sub [0, 1, 2] (by decide) rfl) hS (Nat.le_of_ble_eq_true rfl) (Nat.le_of_ble_eq_true rfl) dX9_isForeseen_42
  refine jn_S 35 (fun st9 H locs ls => st9 = [] ∧ (va_P D vwCl [(h0, .inr (8, [.ref a0, .int tk, .ref a1, .int mm, .ref a2, .ref a3, .ref a4, .ref a5, .ref a6, .ref a7, .int wm, .int fa, .int th, .int se, .ref a8, .ref a9, .ref ab])), (a1, .inl (cI, 80, .inl g1)), (a2, .inl (cI, 128, .inl g2))] H ∧ va_D A [(h0, .inr (8, [.ref a0, .int tk, .ref a1, .int mm, .ref a2, .ref a3, .ref a4, .ref a5, .ref a6, .ref a7, .int wm, .int fa, .int th, .int se, .ref a8, .ref a9, .ref ab])), (a1, .inl (cI, 80, .inl g1)), (a2, .inl (cI, 128, .inl g2))]) ∧ va_S A s.heap H locs ∧ lv_has ls 4 [(3, .int i_1), (0, .ref h0), (1, .int v), (2, .int w)]) ?_ ?_
  · intro st9 H locs ls hI
    obtain ⟨rfl, ⟨hP, hD⟩, hS, hl⟩ := hI
    refine lv_iinc (v := i_1 + 1) (lv' := [(3, .int (i_1 + 1)), (0, .ref h0), (1, .int v), (2, .int w)]) hx hb dX9_isForeseen_35 hl (k := 0) rfl rfl (by decide) rfl (fun ls hl => ?_)
    refine lv_goto (tgt := 2) hx hb dX9_isForeseen_38 (by decide) ?_
    exact ih_2 _ _ _ _ (by have : (4 : Int32).toInt = 4 := (by decide); have := ti_nle c_4; have kn : (4 : Int32).toInt = 4 := (by decide); have u1 := ti_up (i := i_1) (n := 4) (by omega); omega) ⟨i_1 + 1, rfl, ⟨hP, hD⟩, hS, lv_sub hl [0, 1, 2, 3] rfl, (by have : (4 : Int32).toInt = 4 := (by decide); have := ti_nle c_4; have kn : (4 : Int32).toInt = 4 := (by decide); have u1 := ti_up (i := i_1) (n := 4) (by omega); omega)⟩
  · intro hJ_6
    refine lv_aload_n hx hb dX9_isForeseen_7 rfl (lv_at hl 1 rfl) ?_
    refine lv_iload_n hx hb dX9_isForeseen_8 rfl (lv_at hl 2 rfl) ?_
    refine lv_iload_n hx hb dX9_isForeseen_9 rfl (lv_at hl 0 rfl) ?_
    refine go_i (wr := []) (tysr := [(cI, .int)]) hP hD hS hA hK [0, 1, 2] [] [0] rfl rfl (by decide) (by decide) rfl (va_runV (As := [.int v, .int i_1]) (rest := []) ⟨hx, hb, hml, hown, hts⟩ (m_checkOf l D H.size cI h0 a0 a1 a2 a3 a4 a5 a6 a7 a8 a9 ab tk mm wm fa th se g1 g2 v i_1 (by first | assumption | decide | omega)) (cwV 2 hts gX9_isForeseen_X9_checkOf rfl rfl rfl (by decide +kernel) ⟨Nat.le_of_ble_eq_true rfl, Nat.le_of_ble_eq_true rfl⟩) (st_preV (ci := 8) (q0 := 0) hP hD hK hNW [0, 1, 2] [0] rfl rfl (by decide) rfl rfl rfl rfl) rfl rfl hl.1 rfl (lv_room (Nat.le_of_ble_eq_true rfl)) dX9_isForeseen_10 ⟨(Nat.le_of_ble_eq_true rfl), (Nat.le_of_ble_eq_true rfl)⟩) (fun r_7 u H locs hw hP hD hK hS => ?_)
    have hP : va_P D vwCl [(h0, .inr (8, [.ref a0, .int tk, .ref a1, .int mm, .ref a2, .ref a3, .ref a4, .ref a5, .ref a6, .ref a7, .int wm, .int fa, .int th, .int se, .ref a8, .ref a9, .ref ab])), (a1, .inl (cI, 80, .inl g1)), (a2, .inl (cI, 128, .inl g2))] H := hP
    have hD : va_D A [(h0, .inr (8, [.ref a0, .int tk, .ref a1, .int mm, .ref a2, .ref a3, .ref a4, .ref a5, .ref a6, .ref a7, .int wm, .int fa, .int th, .int se, .ref a8, .ref a9, .ref ab])), (a1, .inl (cI, 80, .inl g1)), (a2, .inl (cI, 128, .inl g2))] := hD
    have hK : va_K D vwCl [(cI, .int)] s := hK
    refine lv_iconst (v := (-1)) hx hb dX9_isForeseen_13 (by decide) ?_
    refine lv_icmp_eq (tgt := 35) hx hb dX9_isForeseen_14 (by decide) (fun c_8 => ?_) (fun c_8 => ?_)
    · exact hJ_6 _ _ _ _ ⟨rfl, ⟨hP, hD⟩, hS, lv_sub hl [0, 1, 2, 3] rfl⟩
    refine lv_aload_n hx hb dX9_isForeseen_17 rfl (lv_at hl 1 rfl) ?_
    refine lv_iload_n hx hb dX9_isForeseen_18 rfl (lv_at hl 2 rfl) ?_
    refine lv_iload_n hx hb dX9_isForeseen_19 rfl (lv_at hl 3 rfl) ?_
    refine lv_iload_n hx hb dX9_isForeseen_20 rfl (lv_at hl 0 rfl) ?_
    refine go_i (wr := [(a2, .inl (cI, 128, .inl g2))]) (tysr := [(cI, .int)]) hP hD hS hA hK [0, 1] [2] [0] rfl rfl (by decide) (by decide) rfl (va_runV (As := [.int v, .int w, .int i_1]) (rest := []) ⟨hx, hb, hml, hown, hts⟩ (m_numberOf l D H.size cI h0 a0 a1 a2 a3 a4 a5 a6 a7 a8 a9 ab tk mm wm fa th se g1 v w i_1 (by first | assumption | decide | omega)) (cwV 3 hts gX9_isForeseen_X9_numberOf rfl rfl rfl (by decide +kernel) ⟨Nat.le_of_ble_eq_true rfl, Nat.le_of_ble_eq_true rfl⟩) (st_preV (ci := 8) (q0 := 0) hP hD hK hNW [0, 1] [0] rfl rfl (by decide) rfl rfl rfl rfl) rfl rfl hl.1 rfl (lv_room (Nat.le_of_ble_eq_true rfl)) dX9_isForeseen_21 ⟨(Nat.le_of_ble_eq_true rfl), (Nat.le_of_ble_eq_true rfl)⟩) (fun r_9 u H locs hw hP hD hK hS => ?_)
    have hP : va_P D vwCl [(a2, .inl (cI, 128, .inl g2)), (h0, .inr (8, [.ref a0, .int tk, .ref a1, .int mm, .ref a2, .ref a3, .ref a4, .ref a5, .ref a6, .ref a7, .int wm, .int fa, .int th, .int se, .ref a8, .ref a9, .ref ab])), (a1, .inl (cI, 80, .inl g1))] H := hP
    have hD : va_D A [(a2, .inl (cI, 128, .inl g2)), (h0, .inr (8, [.ref a0, .int tk, .ref a1, .int mm, .ref a2, .ref a3, .ref a4, .ref a5, .ref a6, .ref a7, .int wm, .int fa, .int th, .int se, .ref a8, .ref a9, .ref ab])), (a1, .inl (cI, 80, .inl g1))] := hD
    have hK : va_K D vwCl [(cI, .int)] s := hK
    refine lv_aload_n hx hb dX9_isForeseen_24 rfl (lv_at hl 1 rfl) ?_
    refine lv_iload_n hx hb dX9_isForeseen_25 rfl (lv_at hl 2 rfl) ?_
    refine lv_iload_n hx hb dX9_isForeseen_26 rfl (lv_at hl 0 rfl) ?_
    refine go_i (wr := []) (tysr := [(cI, .int)]) hP hD hS hA hK [1, 2, 0] [] [0] rfl rfl (by decide) (by decide) rfl (va_runV (As := [.int v, .int i_1]) (rest := [.int r_9]) ⟨hx, hb, hml, hown, hts⟩ (m_checkOf l D H.size cI h0 a0 a1 a2 a3 a4 a5 a6 a7 a8 a9 ab tk mm wm fa th se g1 g2 v i_1 (by first | assumption | decide | omega)) (cwV 2 hts gX9_isForeseen_X9_checkOf rfl rfl rfl (by decide +kernel) ⟨Nat.le_of_ble_eq_true rfl, Nat.le_of_ble_eq_true rfl⟩) (st_preV (ci := 8) (q0 := 1) hP hD hK hNW [1, 2, 0] [0] rfl rfl (by decide) rfl rfl rfl rfl) rfl rfl hl.1 rfl (lv_room (Nat.le_of_ble_eq_true rfl)) dX9_isForeseen_27 ⟨(Nat.le_of_ble_eq_true rfl), (Nat.le_of_ble_eq_true rfl)⟩) (fun r_10 u H locs hw hP hD hK hS => ?_)
    have hP : va_P D vwCl [(h0, .inr (8, [.ref a0, .int tk, .ref a1, .int mm, .ref a2, .ref a3, .ref a4, .ref a5, .ref a6, .ref a7, .int wm, .int fa, .int th, .int se, .ref a8, .ref a9, .ref ab])), (a1, .inl (cI, 80, .inl g1)), (a2, .inl (cI, 128, .inl g2))] H := hP
    have hD : va_D A [(h0, .inr (8, [.ref a0, .int tk, .ref a1, .int mm, .ref a2, .ref a3, .ref a4, .ref a5, .ref a6, .ref a7, .int wm, .int fa, .int th, .int se, .ref a8, .ref a9, .ref ab])), (a1, .inl (cI, 80, .inl g1)), (a2, .inl (cI, 128, .inl g2))] := hD
    have hK : va_K D vwCl [(cI, .int)] s := hK
    refine lv_icmp_eq (tgt := 35) hx hb dX9_isForeseen_30 (by decide) (fun c_11 => ?_) (fun c_11 => ?_)
    · exact hJ_6 _ _ _ _ ⟨rfl, ⟨hP, hD⟩, hS, lv_sub hl [0, 1, 2, 3] rfl⟩
    refine lv_iconst (v := 0) hx hb dX9_isForeseen_33 (by decide) ?_
    exact ret_i hx hb hr hlocks rfl (u := ()) trivial (hP.sub [0, 1, 2] rfl) (hK.sub [] rfl) (hD.sub [0, 1, 2] (by decide) rfl) hS (Nat.le_of_ble_eq_true rfl) (Nat.le_of_ble_eq_true rfl) dX9_isForeseen_34
set_option maxHeartbeats 4000000 in
set_option maxRecDepth 100000 in
theorem m_canForesee (l : Launch) (D : va_G) (sz : Nat) (cI : ClassId) (h0 : Nat) (a0 : Nat) (a1 : Nat) (a2 : Nat) (a3 : Nat) (a4 : Nat) (a5 : Nat) (a6 : Nat) (a7 : Nat) (a8 : Nat) (a9 : Nat) (ab : Nat) (tk : Int32) (mm : Int32) (wm : Int32) (fa : Int32) (th : Int32) (se : Int32) (g1 : Nat → Int32) (g2 : Nat → Int32) (v : Int32) (hmm : bi mm 0 8) : Ci l yX9_canForesee wsX9_canForesee ({ frames := 3, cells := 0, slots := 0, locals := 66 } : Room) D [.ref h0, .int v] [(h0, .inr (8, [.ref a0, .int tk, .ref a1, .int mm, .ref a2, .ref a3, .ref a4, .ref a5, .ref a6, .ref a7, .int wm, .int fa, .int th, .int se, .ref a8, .ref a9, .ref ab])), (a1, .inl (cI, 80, .inl g1)), (a2, .inl (cI, 128, .inl g2))] [(cI, .int)] sz (fun (r : Int32) => fun (_ : Unit) => r = 0 ∨ (0 ≤ v.toInt ∧ v.toInt < mm.toInt)) (fun (_ : Unit) => [(h0, .inr (8, [.ref a0, .int tk, .ref a1, .int mm, .ref a2, .ref a3, .ref a4, .ref a5, .ref a6, .ref a7, .int wm, .int fa, .int th, .int se, .ref a8, .ref a9, .ref ab])), (a1, .inl (cI, 80, .inl g1)), (a2, .inl (cI, 128, .inl g2))]) (fun (_ : Unit) => []) := by
  refine ct_i (cc := cX9_canForesee) (maxL := 2) (ret := (some .boolean)) (by decide) rfl (Nat.le_of_ble_eq_true rfl) ?_
  intro p e s m below meth c A ls H hx hb hr hts hown hml hlocks hin hA hS hP hK hD hNW hl hAe hsz
  have hl : lv_has ls 2 [(0, .ref h0), (1, .int v)] := hl
  refine lv_aload_n hx hb dX9_canForesee_0 rfl (lv_at hl 0 rfl) ?_
  refine lv_iload_n hx hb dX9_canForesee_1 rfl (lv_at hl 1 rfl) ?_
  refine go_i (wr := [(a1, .inl (cI, 80, .inl g1)), (a2, .inl (cI, 128, .inl g2))]) (tysr := [(cI, .int)]) hP hD hS hA hK [0] [1, 2] [0] rfl rfl (by decide) (by decide) rfl (va_runV (As := [.int v]) (rest := []) ⟨hx, hb, hml, hown, hts⟩ (m_isMake l D H.size cI h0 a0 a1 a2 a3 a4 a5 a6 a7 a8 a9 ab tk mm wm fa th se v ) (cwV 1 hts gX9_canForesee_X9_isMake rfl rfl rfl (by decide +kernel) ⟨Nat.le_of_ble_eq_true rfl, Nat.le_of_ble_eq_true rfl⟩) (st_preV (ci := 8) (q0 := 0) hP hD hK hNW [0] [0] rfl rfl (by decide) rfl rfl rfl rfl) rfl rfl hl.1 rfl (lv_room (Nat.le_of_ble_eq_true rfl)) dX9_canForesee_2 ⟨(Nat.le_of_ble_eq_true rfl), (Nat.le_of_ble_eq_true rfl)⟩) (fun r_1 u H locs hw hP hD hK hS => ?_)
  have hw : r_1 = wi v 0 (mm - 1) := hw
  subst hw
  have hP : va_P D vwCl [(a1, .inl (cI, 80, .inl g1)), (a2, .inl (cI, 128, .inl g2)), (h0, .inr (8, [.ref a0, .int tk, .ref a1, .int mm, .ref a2, .ref a3, .ref a4, .ref a5, .ref a6, .ref a7, .int wm, .int fa, .int th, .int se, .ref a8, .ref a9, .ref ab]))] H := hP
  have hD : va_D A [(a1, .inl (cI, 80, .inl g1)), (a2, .inl (cI, 128, .inl g2)), (h0, .inr (8, [.ref a0, .int tk, .ref a1, .int mm, .ref a2, .ref a3, .ref a4, .ref a5, .ref a6, .ref a7, .int wm, .int fa, .int th, .int se, .ref a8, .ref a9, .ref ab]))] := hD
  have hK : va_K D vwCl [(cI, .int)] s := hK
  refine lv_if_eq (tgt := 54) hx hb dX9_canForesee_5 (by decide) (fun c_2 => ?_) (fun c_2 => ?_)
  · refine lv_iconst (v := 0) hx hb dX9_canForesee_54 (by decide) ?_
    exact ret_i hx hb hr hlocks rfl (u := ()) (Or.inl rfl) (hP.sub [2, 0, 1] rfl) (hK.sub [] rfl) (hD.sub [2, 0, 1] (by decide) rfl) hS (Nat.le_of_ble_eq_true rfl) (Nat.le_of_ble_eq_true rfl) dX9_canForesee_55
  have hv7_3 : bi v 0 7 := (by have : (0 : Int32).toInt = 0 := (by decide); have := ti_wi1 c_2; have u1 := ti_m1 (i := mm) (by omega); omega)
  have hvm_4 : v.toInt < mm.toInt := (by have : (0 : Int32).toInt = 0 := (by decide); have := ti_wi1 c_2; have u1 := ti_m1 (i := mm) (by omega); omega)
  refine lv_aload_n hx hb dX9_canForesee_8 rfl (lv_at hl 0 rfl) ?_
  refine lv_iload_n hx hb dX9_canForesee_9 rfl (lv_at hl 1 rfl) ?_
  refine go_i (wr := [(a1, .inl (cI, 80, .inl g1))]) (tysr := [(cI, .int)]) hP hD hS hA hK [2, 1] [0] [0] rfl rfl (by decide) (by decide) rfl (va_runV (As := [.int v]) (rest := []) ⟨hx, hb, hml, hown, hts⟩ (m_learnt l D H.size cI h0 a0 a1 a2 a3 a4 a5 a6 a7 a8 a9 ab tk mm wm fa th se g2 v (by first | assumption | decide | omega)) (cwV 1 hts gX9_canForesee_X9_learnt rfl rfl rfl (by decide +kernel) ⟨Nat.le_of_ble_eq_true rfl, Nat.le_of_ble_eq_true rfl⟩) (st_preV (ci := 8) (q0 := 2) hP hD hK hNW [2, 1] [0] rfl rfl (by decide) rfl rfl rfl rfl) rfl rfl hl.1 rfl (lv_room (Nat.le_of_ble_eq_true rfl)) dX9_canForesee_10 ⟨(Nat.le_of_ble_eq_true rfl), (Nat.le_of_ble_eq_true rfl)⟩) (fun r_5 u H locs hw hP hD hK hS => ?_)
  have hP : va_P D vwCl [(a1, .inl (cI, 80, .inl g1)), (h0, .inr (8, [.ref a0, .int tk, .ref a1, .int mm, .ref a2, .ref a3, .ref a4, .ref a5, .ref a6, .ref a7, .int wm, .int fa, .int th, .int se, .ref a8, .ref a9, .ref ab])), (a2, .inl (cI, 128, .inl g2))] H := hP
  have hD : va_D A [(a1, .inl (cI, 80, .inl g1)), (h0, .inr (8, [.ref a0, .int tk, .ref a1, .int mm, .ref a2, .ref a3, .ref a4, .ref a5, .ref a6, .ref a7, .int wm, .int fa, .int th, .int se, .ref a8, .ref a9, .ref ab])), (a2, .inl (cI, 128, .inl g2))] := hD
  have hK : va_K D vwCl [(cI, .int)] s := hK
  refine lv_if_le (tgt := 54) hx hb dX9_canForesee_13 (by decide) (fun c_6 => ?_) (fun c_6 => ?_)
  · refine lv_iconst (v := 0) hx hb dX9_canForesee_54 (by decide) ?_
    exact ret_i hx hb hr hlocks rfl (u := ()) (Or.inl rfl) (hP.sub [1, 0, 2] rfl) (hK.sub [] rfl) (hD.sub [1, 0, 2] (by decide) rfl) hS (Nat.le_of_ble_eq_true rfl) (Nat.le_of_ble_eq_true rfl) dX9_canForesee_55
  refine lv_iconst (v := 1) hx hb dX9_canForesee_16 (by decide) ?_
  refine lv_aload_n hx hb dX9_canForesee_17 rfl (lv_at hl 0 rfl) ?_
  refine lv_iload_n hx hb dX9_canForesee_18 rfl (lv_at hl 1 rfl) ?_
  refine lv_iconst (v := 1) hx hb dX9_canForesee_19 (by decide) ?_
  refine go_i (wr := [(a2, .inl (cI, 128, .inl g2))]) (tysr := [(cI, .int)]) hP hD hS hA hK [1, 0] [2] [0] rfl rfl (by decide) (by decide) rfl (va_runV (As := [.int v, .int 1]) (rest := [.int 1]) ⟨hx, hb, hml, hown, hts⟩ (m_get l D H.size cI h0 a0 a1 a2 a3 a4 a5 a6 a7 a8 a9 ab tk mm wm fa th se g1 v 1 (by first | assumption | decide | omega) (by first | assumption | decide | omega)) (cwV 2 hts gX9_canForesee_X9_get rfl rfl rfl (by decide +kernel) ⟨Nat.le_of_ble_eq_true rfl, Nat.le_of_ble_eq_true rfl⟩) (st_preV (ci := 8) (q0 := 1) hP hD hK hNW [1, 0] [0] rfl rfl (by decide) rfl rfl rfl rfl) rfl rfl hl.1 rfl (lv_room (Nat.le_of_ble_eq_true rfl)) dX9_canForesee_20 ⟨(Nat.le_of_ble_eq_true rfl), (Nat.le_of_ble_eq_true rfl)⟩) (fun r_7 u H locs hw hP hD hK hS => ?_)
  have hw : r_7 = g1 (Int32.toNatClampNeg (10 * v + 1)) := hw
  subst hw
  have hP : va_P D vwCl [(a2, .inl (cI, 128, .inl g2)), (h0, .inr (8, [.ref a0, .int tk, .ref a1, .int mm, .ref a2, .ref a3, .ref a4, .ref a5, .ref a6, .ref a7, .int wm, .int fa, .int th, .int se, .ref a8, .ref a9, .ref ab])), (a1, .inl (cI, 80, .inl g1))] H := hP
  have hD : va_D A [(a2, .inl (cI, 128, .inl g2)), (h0, .inr (8, [.ref a0, .int tk, .ref a1, .int mm, .ref a2, .ref a3, .ref a4, .ref a5, .ref a6, .ref a7, .int wm, .int fa, .int th, .int se, .ref a8, .ref a9, .ref ab])), (a1, .inl (cI, 80, .inl g1))] := hD
  have hK : va_K D vwCl [(cI, .int)] s := hK
  refine lv_ishl hx hb dX9_canForesee_23 ?_
  refine lv_topi (fun y_8 _ => ?_)
  refine lv_iconst (v := 1) hx hb dX9_canForesee_24 (by decide) ?_
  refine lv_isub hx hb dX9_canForesee_25 ?_
  refine lv_topi (fun y_9 _ => ?_)
  refine lv_aload_n hx hb dX9_canForesee_26 rfl (lv_at hl 0 rfl) ?_
  refine lv_iload_n hx hb dX9_canForesee_27 rfl (lv_at hl 1 rfl) ?_
  refine go_i (wr := [(a2, .inl (cI, 128, .inl g2))]) (tysr := [(cI, .int)]) hP hD hS hA hK [1, 2] [0] [0] rfl rfl (by decide) (by decide) rfl (va_runV (As := [.int v]) (rest := [.int y_9]) ⟨hx, hb, hml, hown, hts⟩ (m_flipOf l D H.size cI h0 a0 a1 a2 a3 a4 a5 a6 a7 a8 a9 ab tk mm wm fa th se g1 v (by first | assumption | decide | omega)) (cwV 1 hts gX9_canForesee_X9_flipOf rfl rfl rfl (by decide +kernel) ⟨Nat.le_of_ble_eq_true rfl, Nat.le_of_ble_eq_true rfl⟩) (st_preV (ci := 8) (q0 := 1) hP hD hK hNW [1, 2] [0] rfl rfl (by decide) rfl rfl rfl rfl) rfl rfl hl.1 rfl (lv_room (Nat.le_of_ble_eq_true rfl)) dX9_canForesee_28 ⟨(Nat.le_of_ble_eq_true rfl), (Nat.le_of_ble_eq_true rfl)⟩) (fun r_10 u H locs hw hP hD hK hS => ?_)
  have hP : va_P D vwCl [(a2, .inl (cI, 128, .inl g2)), (h0, .inr (8, [.ref a0, .int tk, .ref a1, .int mm, .ref a2, .ref a3, .ref a4, .ref a5, .ref a6, .ref a7, .int wm, .int fa, .int th, .int se, .ref a8, .ref a9, .ref ab])), (a1, .inl (cI, 80, .inl g1))] H := hP
  have hD : va_D A [(a2, .inl (cI, 128, .inl g2)), (h0, .inr (8, [.ref a0, .int tk, .ref a1, .int mm, .ref a2, .ref a3, .ref a4, .ref a5, .ref a6, .ref a7, .int wm, .int fa, .int th, .int se, .ref a8, .ref a9, .ref ab])), (a1, .inl (cI, 80, .inl g1))] := hD
  have hK : va_K D vwCl [(cI, .int)] s := hK
  refine lv_iconst (v := (-1)) hx hb dX9_canForesee_31 (by decide) ?_
  refine lv_ixor hx hb dX9_canForesee_32 ?_
  refine lv_topi (fun y_11 _ => ?_)
  refine lv_iand hx hb dX9_canForesee_33 ?_
  refine lv_topi (fun y_12 _ => ?_)
  refine lv_aload_n hx hb dX9_canForesee_34 rfl (lv_at hl 0 rfl) ?_
  refine lv_iload_n hx hb dX9_canForesee_35 rfl (lv_at hl 1 rfl) ?_
  refine go_i (wr := []) (tysr := [(cI, .int)]) hP hD hS hA hK [1, 2, 0] [] [0] rfl rfl (by decide) (by decide) rfl (va_runV (As := [.int v]) (rest := [.int y_12]) ⟨hx, hb, hml, hown, hts⟩ (m_fixed l D H.size cI h0 a0 a1 a2 a3 a4 a5 a6 a7 a8 a9 ab tk mm wm fa th se g1 g2 v (by first | assumption | decide | omega)) (cwV 1 hts gX9_canForesee_X9_fixed rfl rfl rfl (by decide +kernel) ⟨Nat.le_of_ble_eq_true rfl, Nat.le_of_ble_eq_true rfl⟩) (st_preV (ci := 8) (q0 := 1) hP hD hK hNW [1, 2, 0] [0] rfl rfl (by decide) rfl rfl rfl rfl) rfl rfl hl.1 rfl (lv_room (Nat.le_of_ble_eq_true rfl)) dX9_canForesee_36 ⟨(Nat.le_of_ble_eq_true rfl), (Nat.le_of_ble_eq_true rfl)⟩) (fun r_13 u H locs hw hP hD hK hS => ?_)
  have hP : va_P D vwCl [(h0, .inr (8, [.ref a0, .int tk, .ref a1, .int mm, .ref a2, .ref a3, .ref a4, .ref a5, .ref a6, .ref a7, .int wm, .int fa, .int th, .int se, .ref a8, .ref a9, .ref ab])), (a1, .inl (cI, 80, .inl g1)), (a2, .inl (cI, 128, .inl g2))] H := hP
  have hD : va_D A [(h0, .inr (8, [.ref a0, .int tk, .ref a1, .int mm, .ref a2, .ref a3, .ref a4, .ref a5, .ref a6, .ref a7, .int wm, .int fa, .int th, .int se, .ref a8, .ref a9, .ref ab])), (a1, .inl (cI, 80, .inl g1)), (a2, .inl (cI, 128, .inl g2))] := hD
  have hK : va_K D vwCl [(cI, .int)] s := hK
  refine lv_iconst (v := (-1)) hx hb dX9_canForesee_39 (by decide) ?_
  refine lv_ixor hx hb dX9_canForesee_40 ?_
  refine lv_topi (fun y_14 _ => ?_)
  refine lv_iand hx hb dX9_canForesee_41 ?_
  refine lv_topi (fun y_15 _ => ?_)
  refine go_i (wr := [(h0, .inr (8, [.ref a0, .int tk, .ref a1, .int mm, .ref a2, .ref a3, .ref a4, .ref a5, .ref a6, .ref a7, .int wm, .int fa, .int th, .int se, .ref a8, .ref a9, .ref ab])), (a1, .inl (cI, 80, .inl g1)), (a2, .inl (cI, 128, .inl g2))]) (tysr := [(cI, .int)]) hP hD hS hA hK [] [0, 1, 2] [0] rfl rfl (by decide) (by decide) rfl (va_runS (As := [.int y_15]) (rest := []) ⟨hx, hb, hml, hown, hts⟩ (g_bitCount l D H.size y_15 ) (va_cwS 1 hts gX9_canForesee_J6_bitCount_0f7a4 rfl rfl rfl (by decide +kernel) ⟨Nat.le_of_ble_eq_true rfl, Nat.le_of_ble_eq_true rfl⟩) (st_preS hP hD hK hNW [] [] rfl rfl (by decide) rfl) rfl rfl hl.1 rfl (lv_room (Nat.le_of_ble_eq_true rfl)) dX9_canForesee_42 ⟨(Nat.le_of_ble_eq_true rfl), (Nat.le_of_ble_eq_true rfl)⟩) (fun r_16 u H locs hw hP hD hK hS => ?_)
  have hP : va_P D vwCl [(h0, .inr (8, [.ref a0, .int tk, .ref a1, .int mm, .ref a2, .ref a3, .ref a4, .ref a5, .ref a6, .ref a7, .int wm, .int fa, .int th, .int se, .ref a8, .ref a9, .ref ab])), (a1, .inl (cI, 80, .inl g1)), (a2, .inl (cI, 128, .inl g2))] H := hP
  have hD : va_D A [(h0, .inr (8, [.ref a0, .int tk, .ref a1, .int mm, .ref a2, .ref a3, .ref a4, .ref a5, .ref a6, .ref a7, .int wm, .int fa, .int th, .int se, .ref a8, .ref a9, .ref ab])), (a1, .inl (cI, 80, .inl g1)), (a2, .inl (cI, 128, .inl g2))] := hD
  have hK : va_K D vwCl [(cI, .int)] s := hK
  refine lv_bipush (v := 14) hx hb dX9_canForesee_45 (by decide) ?_
  refine lv_icmp_gt (tgt := 54) hx hb dX9_canForesee_47 (by decide) (fun c_17 => ?_) (fun c_17 => ?_)
  · refine lv_iconst (v := 0) hx hb dX9_canForesee_54 (by decide) ?_
    exact ret_i hx hb hr hlocks rfl (u := ()) (Or.inl rfl) (hP.sub [0, 1, 2] rfl) (hK.sub [] rfl) (hD.sub [0, 1, 2] (by decide) rfl) hS (Nat.le_of_ble_eq_true rfl) (Nat.le_of_ble_eq_true rfl) dX9_canForesee_55
  refine lv_iconst (v := 1) hx hb dX9_canForesee_50 (by decide) ?_
  refine lv_goto (tgt := 55) hx hb dX9_canForesee_51 (by decide) ?_
  exact ret_i hx hb hr hlocks rfl (u := ()) (Or.inr (by have : (0 : Int32).toInt = 0 := (by decide); have : (14 : Int32).toInt = 14 := (by decide); have := ti_wi1 c_2; have := ti_nle c_6; have := ti_nlt c_17; have u1 := ti_m1 (i := mm) (by omega); omega)) (hP.sub [0, 1, 2] rfl) (hK.sub [] rfl) (hD.sub [0, 1, 2] (by decide) rfl) hS (Nat.le_of_ble_eq_true rfl) (Nat.le_of_ble_eq_true rfl) dX9_canForesee_55
theorem him_go_X9 : ∀ w ∈ wsX90, w ∈ wsX9_go := mem_pl [40, 41, 42, 43, 44, 45, 46, 47, 48, 49, 50, 51, 52, 53, 54, 55, 56] rfl
set_option maxHeartbeats 4000000 in
set_option maxRecDepth 100000 in
theorem m_go (l : Launch) (D : va_G) (sz : Nat) (cI : ClassId) (h0 : Nat) (a0 : Nat) (a1 : Nat) (a2 : Nat) (a3 : Nat) (a4 : Nat) (a5 : Nat) (a6 : Nat) (a7 : Nat) (a8 : Nat) (a9 : Nat) (ab : Nat) (tk : Int32) (mm : Int32) (wm : Int32) (fa : Int32) (th : Int32) (se : Int32) (g1 : Nat → Int32) (g2 : Nat → Int32) (v : Int32) (w : Int32) (hv : bi v 0 7) : Ci l yX9_go wsX9_go ({ frames := 4, cells := 0, slots := 0, locals := 95 } : Room) D [.ref h0, .int v, .int w] [(h0, .inr (8, [.ref a0, .int tk, .ref a1, .int mm, .ref a2, .ref a3, .ref a4, .ref a5, .ref a6, .ref a7, .int wm, .int fa, .int th, .int se, .ref a8, .ref a9, .ref ab])), (a1, .inl (cI, 80, .inl g1)), (a2, .inl (cI, 128, .inl g2))] [(cI, .int)] sz (fun (r : Int32) => fun (se2 : Int32) => True) (fun (se2 : Int32) => [(h0, .inr (8, [.ref a0, .int tk, .ref a1, .int mm, .ref a2, .ref a3, .ref a4, .ref a5, .ref a6, .ref a7, .int wm, .int fa, .int th, .int se2, .ref a8, .ref a9, .ref ab])), (a1, .inl (cI, 80, .inl g1)), (a2, .inl (cI, 128, .inl g2))]) (fun (se2 : Int32) => []) := by
  refine ct_i (cc := cX9_go) (maxL := 8) (ret := (some .int)) (by decide) rfl (Nat.le_of_ble_eq_true rfl) ?_
  intro p e s m below meth c A ls H hx hb hr hts hown hml hlocks hin hA hS hP hK hD hNW hl hAe hsz
  have hl : lv_has ls 8 [(0, .ref h0), (1, .int v), (2, .int w)] := hl
  refine jn_S 26 (fun st9 H locs ls => ∃ (q_1 : Int32), st9 = [.int q_1] ∧ (va_P D vwCl [(h0, .inr (8, [.ref a0, .int tk, .ref a1, .int mm, .ref a2, .ref a3, .ref a4, .ref a5, .ref a6, .ref a7, .int wm, .int fa, .int th, .int se, .ref a8, .ref a9, .ref ab])), (a1, .inl (cI, 80, .inl g1)), (a2, .inl (cI, 128, .inl g2))] H ∧ va_D A [(h0, .inr (8, [.ref a0, .int tk, .ref a1, .int mm, .ref a2, .ref a3, .ref a4, .ref a5, .ref a6, .ref a7, .int wm, .int fa, .int th, .int se, .ref a8, .ref a9, .ref ab])), (a1, .inl (cI, 80, .inl g1)), (a2, .inl (cI, 128, .inl g2))]) ∧ va_S A s.heap H locs ∧ lv_has ls 8 [(0, .ref h0), (1, .int v), (2, .int w)]) ?_ ?_
  · intro st9 H locs ls hI
    obtain ⟨q_1, rfl, ⟨hP, hD⟩, hS, hl⟩ := hI
    refine lv_istore_n (lv' := [(3, .int q_1), (0, .ref h0), (1, .int v), (2, .int w)]) hx hb dX9_go_26 rfl hl (by decide) rfl (fun ls hl => ?_)
    refine jn_S 38 (fun st9 H locs ls => ∃ (q_3 : Int32), st9 = [.int q_3] ∧ (va_P D vwCl [(h0, .inr (8, [.ref a0, .int tk, .ref a1, .int mm, .ref a2, .ref a3, .ref a4, .ref a5, .ref a6, .ref a7, .int wm, .int fa, .int th, .int se, .ref a8, .ref a9, .ref ab])), (a1, .inl (cI, 80, .inl g1)), (a2, .inl (cI, 128, .inl g2))] H ∧ va_D A [(h0, .inr (8, [.ref a0, .int tk, .ref a1, .int mm, .ref a2, .ref a3, .ref a4, .ref a5, .ref a6, .ref a7, .int wm, .int fa, .int th, .int se, .ref a8, .ref a9, .ref ab])), (a1, .inl (cI, 80, .inl g1)), (a2, .inl (cI, 128, .inl g2))]) ∧ va_S A s.heap H locs ∧ lv_has ls 8 [(3, .int q_1), (0, .ref h0), (1, .int v), (2, .int w)]) ?_ ?_
    · intro st9 H locs ls hI
      obtain ⟨q_3, rfl, ⟨hP, hD⟩, hS, hl⟩ := hI
      refine lv_istore (lv' := [(4, .int q_3), (3, .int q_1), (0, .ref h0), (1, .int v), (2, .int w)]) hx hb dX9_go_38 hl (by decide) rfl (fun ls hl => ?_)
      refine lv_iconst (v := 0) hx hb dX9_go_40 (by decide) ?_
      refine lv_istore (lv' := [(5, .int 0), (4, .int q_3), (3, .int q_1), (0, .ref h0), (1, .int v), (2, .int w)]) hx hb dX9_go_41 hl (by decide) rfl (fun ls hl => ?_)
      refine lv_iconst (v := 0) hx hb dX9_go_43 (by decide) ?_
      refine lv_istore (lv' := [(6, .int 0), (5, .int 0), (4, .int q_3), (3, .int q_1), (0, .ref h0), (1, .int v), (2, .int w)]) hx hb dX9_go_44 hl (by decide) rfl (fun ls hl => ?_)
      refine lv_aload_n hx hb dX9_go_46 rfl (lv_at hl 4 rfl) ?_
      refine lv_iconst (v := (-1)) hx hb dX9_go_47 (by decide) ?_
      refine va_put (D := D) (ci := 8) (v := .int (-1)) (ty := .int) (C := RX9) (T := TX9) (N := 17) hx hb hts him_go_X9 tyX9 tyX9_ok nmX9 hown hK hP hD hS 0 rfl rfl 13 (by decide) (hts (.fieldLink RX9 142 "OneHandsetModel" "seen" "I") (List.mem_of_getElem? (i := 1) rfl)) (fun _ h9 => h9) rfl (by decide +kernel) rfl rfl (Nat.le_of_ble_eq_true rfl) dX9_go_48 (fun H locs hP hD hS => ?_)
      have hP : va_P D vwCl [(h0, .inr (8, [.ref a0, .int tk, .ref a1, .int mm, .ref a2, .ref a3, .ref a4, .ref a5, .ref a6, .ref a7, .int wm, .int fa, .int th, .int (-1), .ref a8, .ref a9, .ref ab])), (a1, .inl (cI, 80, .inl g1)), (a2, .inl (cI, 128, .inl g2))] H := hP
      have hD : va_D A [(h0, .inr (8, [.ref a0, .int tk, .ref a1, .int mm, .ref a2, .ref a3, .ref a4, .ref a5, .ref a6, .ref a7, .int wm, .int fa, .int th, .int (-1), .ref a8, .ref a9, .ref ab])), (a1, .inl (cI, 80, .inl g1)), (a2, .inl (cI, 128, .inl g2))] := hD
      refine lv_iconst (v := 1) hx hb dX9_go_51 (by decide) ?_
      refine lv_istore (lv' := [(7, .int 1), (6, .int 0), (5, .int 0), (4, .int q_3), (3, .int q_1), (0, .ref h0), (1, .int v), (2, .int w)]) hx hb dX9_go_52 hl (by decide) rfl (fun ls hl => ?_)
      refine lp_N (fun n9 H locs ls => ∃ (z_5 : Int32), ∃ (i6_6 : Int32), ∃ (x_7 : Int32), ∃ (w9_8 : Int32), n9 = if w9_8 = 0 then 0 else (q_1 - x_7).toBitVec.toNat + 1 ∧ (va_P D vwCl [(h0, .inr (8, [.ref a0, .int tk, .ref a1, .int mm, .ref a2, .ref a3, .ref a4, .ref a5, .ref a6, .ref a7, .int wm, .int fa, .int th, .int z_5, .ref a8, .ref a9, .ref ab])), (a1, .inl (cI, 80, .inl g1)), (a2, .inl (cI, 128, .inl g2))] H ∧ va_D A [(h0, .inr (8, [.ref a0, .int tk, .ref a1, .int mm, .ref a2, .ref a3, .ref a4, .ref a5, .ref a6, .ref a7, .int wm, .int fa, .int th, .int z_5, .ref a8, .ref a9, .ref ab])), (a1, .inl (cI, 80, .inl g1)), (a2, .inl (cI, 128, .inl g2))]) ∧ va_S A s.heap H locs ∧ lv_has ls 8 [(7, .int w9_8), (6, .int i6_6), (5, .int x_7), (4, .int q_3), (3, .int q_1), (0, .ref h0), (1, .int v), (2, .int w)]) ?_ ⟨(-1), 0, 0, 1, rfl, ⟨hP, hD⟩, hS, hl⟩
      intro n9 ih_9 H locs ls hI
      obtain ⟨z_5, i6_6, x_7, w9_8, rfl, ⟨hP, hD⟩, hS, hl⟩ := hI
      refine lv_iload hx hb dX9_go_54 (lv_at hl 0 rfl) ?_
      refine lv_if_eq (tgt := 120) hx hb dX9_go_56 (by decide) (fun c_11 => ?_) (fun c_11 => ?_)
      · refine lv_iload hx hb dX9_go_120 (lv_at hl 1 rfl) ?_
        exact ret_i hx hb hr hlocks rfl (u := z_5) trivial (hP.sub [0, 1, 2] rfl) (hK.sub [] rfl) (hD.sub [0, 1, 2] (by decide) rfl) hS (Nat.le_of_ble_eq_true rfl) (Nat.le_of_ble_eq_true rfl) dX9_go_122
      refine jn_S 90 (fun st9 H locs ls => ∃ (z_12 : Int32), ∃ (i6_13 : Int32), st9 = [] ∧ (va_P D vwCl [(h0, .inr (8, [.ref a0, .int tk, .ref a1, .int mm, .ref a2, .ref a3, .ref a4, .ref a5, .ref a6, .ref a7, .int wm, .int fa, .int th, .int z_12, .ref a8, .ref a9, .ref ab])), (a1, .inl (cI, 80, .inl g1)), (a2, .inl (cI, 128, .inl g2))] H ∧ va_D A [(h0, .inr (8, [.ref a0, .int tk, .ref a1, .int mm, .ref a2, .ref a3, .ref a4, .ref a5, .ref a6, .ref a7, .int wm, .int fa, .int th, .int z_12, .ref a8, .ref a9, .ref ab])), (a1, .inl (cI, 80, .inl g1)), (a2, .inl (cI, 128, .inl g2))]) ∧ va_S A s.heap H locs ∧ lv_has ls 8 [(7, .int w9_8), (6, .int i6_13), (5, .int x_7), (4, .int q_3), (3, .int q_1), (0, .ref h0), (1, .int v), (2, .int w)]) ?_ ?_
      · intro st9 H locs ls hI
        obtain ⟨z_12, i6_13, rfl, ⟨hP, hD⟩, hS, hl⟩ := hI
        refine jn_S 107 (fun st9 H locs ls => ∃ (q_15 : Int32), st9 = [.int q_15] ∧ (va_P D vwCl [(h0, .inr (8, [.ref a0, .int tk, .ref a1, .int mm, .ref a2, .ref a3, .ref a4, .ref a5, .ref a6, .ref a7, .int wm, .int fa, .int th, .int z_12, .ref a8, .ref a9, .ref ab])), (a1, .inl (cI, 80, .inl g1)), (a2, .inl (cI, 128, .inl g2))] H ∧ va_D A [(h0, .inr (8, [.ref a0, .int tk, .ref a1, .int mm, .ref a2, .ref a3, .ref a4, .ref a5, .ref a6, .ref a7, .int wm, .int fa, .int th, .int z_12, .ref a8, .ref a9, .ref ab])), (a1, .inl (cI, 80, .inl g1)), (a2, .inl (cI, 128, .inl g2))]) ∧ va_S A s.heap H locs ∧ lv_has ls 8 [(7, .int w9_8), (6, .int i6_13), (5, .int x_7), (4, .int q_3), (3, .int q_1), (0, .ref h0), (1, .int v), (2, .int w)] ∧ (q_15 = 0 ∨ ¬ x_7 = q_1)) ?_ ?_
        · intro st9 H locs ls hI
          obtain ⟨q_15, rfl, ⟨hP, hD⟩, hS, hl, hv_16⟩ := hI
          refine lv_istore (lv' := [(7, .int q_15), (6, .int i6_13), (5, .int x_7), (4, .int q_3), (3, .int q_1), (0, .ref h0), (1, .int v), (2, .int w)]) hx hb dX9_go_107 hl (by decide) rfl (fun ls hl => ?_)
          refine lv_iload hx hb dX9_go_109 (lv_at hl 2 rfl) ?_
          refine lv_iload_n hx hb dX9_go_111 rfl (lv_at hl 4 rfl) ?_
          refine lv_isub hx hb dX9_go_112 ?_
          refine lv_iload_n hx hb dX9_go_113 rfl (lv_at hl 4 rfl) ?_
          refine lv_iand hx hb dX9_go_114 ?_
          refine lv_istore (lv' := [(5, .int ((x_7 - q_1) &&& q_1)), (7, .int q_15), (6, .int i6_13), (4, .int q_3), (3, .int q_1), (0, .ref h0), (1, .int v), (2, .int w)]) hx hb dX9_go_115 hl (by decide) rfl (fun ls hl => ?_)
          refine lv_goto (tgt := 54) hx hb dX9_go_117 (by decide) ?_
          exact ih_9 _ _ _ _ (go_dec c_11 hv_16) ⟨z_12, i6_13, (x_7 - q_1) &&& q_1, q_15, rfl, ⟨hP, hD⟩, hS, lv_sub hl [1, 2, 0, 3, 4, 5, 6, 7] rfl⟩
        · intro hJ_17
          refine lv_iload hx hb dX9_go_90 (lv_at hl 2 rfl) ?_
          refine lv_iload_n hx hb dX9_go_92 rfl (lv_at hl 4 rfl) ?_
          refine lv_icmp_eq (tgt := 106) hx hb dX9_go_93 (by decide) (fun c_18 => ?_) (fun c_18 => ?_)
          · refine lv_iconst (v := 0) hx hb dX9_go_106 (by decide) ?_
            exact hJ_17 _ _ _ _ ⟨0, rfl, ⟨hP, hD⟩, hS, lv_sub hl [0, 1, 2, 3, 4, 5, 6, 7] rfl, (Or.inl rfl)⟩
          refine lv_iload hx hb dX9_go_96 (lv_at hl 1 rfl) ?_
          refine lv_iload_n hx hb dX9_go_98 rfl (lv_at hl 7 rfl) ?_
          refine lv_icmp_gt (tgt := 106) hx hb dX9_go_99 (by decide) (fun c_19 => ?_) (fun c_19 => ?_)
          · refine lv_iconst (v := 0) hx hb dX9_go_106 (by decide) ?_
            exact hJ_17 _ _ _ _ ⟨0, rfl, ⟨hP, hD⟩, hS, lv_sub hl [0, 1, 2, 3, 4, 5, 6, 7] rfl, (Or.inl rfl)⟩
          refine lv_iconst (v := 1) hx hb dX9_go_102 (by decide) ?_
          refine lv_goto (tgt := 107) hx hb dX9_go_103 (by decide) ?_
          exact hJ_17 _ _ _ _ ⟨1, rfl, ⟨hP, hD⟩, hS, lv_sub hl [0, 1, 2, 3, 4, 5, 6, 7] rfl, (Or.inr c_18)⟩
      · intro hJ_20
        refine lv_aload_n hx hb dX9_go_59 rfl (lv_at hl 5 rfl) ?_
        refine lv_iload_n hx hb dX9_go_60 rfl (lv_at hl 6 rfl) ?_
        refine lv_iload hx hb dX9_go_61 (lv_at hl 3 rfl) ?_
        refine lv_iload hx hb dX9_go_63 (lv_at hl 2 rfl) ?_
        refine lv_ior hx hb dX9_go_65 ?_
        refine go_i (wr := []) (tysr := [(cI, .int)]) hP hD hS hA hK [0, 1, 2] [] [0] rfl rfl (by decide) (by decide) rfl (va_runV (As := [.int v, .int (q_3 ||| x_7)]) (rest := []) ⟨hx, hb, hml, hown, hts⟩ (m_isForeseen l D H.size cI h0 a0 a1 a2 a3 a4 a5 a6 a7 a8 a9 ab tk mm wm fa th z_5 g1 g2 v (q_3 ||| x_7) (by first | assumption | decide | omega)) (cwV 2 hts gX9_go_X9_isForeseen rfl rfl rfl (by decide +kernel) ⟨Nat.le_of_ble_eq_true rfl, Nat.le_of_ble_eq_true rfl⟩) (st_preV (ci := 8) (q0 := 0) hP hD hK hNW [0, 1, 2] [0] rfl rfl (by decide) rfl rfl rfl rfl) rfl rfl hl.1 rfl (lv_room (Nat.le_of_ble_eq_true rfl)) dX9_go_66 ⟨(Nat.le_of_ble_eq_true rfl), (Nat.le_of_ble_eq_true rfl)⟩) (fun r_21 u H locs hw hP hD hK hS => ?_)
        have hP : va_P D vwCl [(h0, .inr (8, [.ref a0, .int tk, .ref a1, .int mm, .ref a2, .ref a3, .ref a4, .ref a5, .ref a6, .ref a7, .int wm, .int fa, .int th, .int z_5, .ref a8, .ref a9, .ref ab])), (a1, .inl (cI, 80, .inl g1)), (a2, .inl (cI, 128, .inl g2))] H := hP
        have hD : va_D A [(h0, .inr (8, [.ref a0, .int tk, .ref a1, .int mm, .ref a2, .ref a3, .ref a4, .ref a5, .ref a6, .ref a7, .int wm, .int fa, .int th, .int z_5, .ref a8, .ref a9, .ref ab])), (a1, .inl (cI, 80, .inl g1)), (a2, .inl (cI, 128, .inl g2))] := hD
        have hK : va_K D vwCl [(cI, .int)] s := hK
        refine lv_if_eq (tgt := 90) hx hb dX9_go_69 (by decide) (fun c_22 => ?_) (fun c_22 => ?_)
        · exact hJ_20 _ _ _ _ ⟨z_5, i6_6, rfl, ⟨hP, hD⟩, hS, lv_sub hl [0, 1, 2, 3, 4, 5, 6, 7] rfl⟩
        refine lv_iload hx hb dX9_go_72 (lv_at hl 1 rfl) ?_
        refine lv_iload_n hx hb dX9_go_74 rfl (lv_at hl 7 rfl) ?_
        refine lv_icmp_ne (tgt := 87) hx hb dX9_go_75 (by decide) (fun c_23 => ?_) (fun c_23 => ?_)
        · refine lv_iinc (v := i6_6 + 1) (lv' := [(6, .int (i6_6 + 1)), (7, .int w9_8), (5, .int x_7), (4, .int q_3), (3, .int q_1), (0, .ref h0), (1, .int v), (2, .int w)]) hx hb dX9_go_87 hl (k := 1) rfl rfl (by decide) rfl (fun ls hl => ?_)
          exact hJ_20 _ _ _ _ ⟨z_5, i6_6 + 1, rfl, ⟨hP, hD⟩, hS, lv_sub hl [1, 0, 2, 3, 4, 5, 6, 7] rfl⟩
        refine lv_aload_n hx hb dX9_go_78 rfl (lv_at hl 5 rfl) ?_
        refine lv_iload hx hb dX9_go_79 (lv_at hl 3 rfl) ?_
        refine lv_iload hx hb dX9_go_81 (lv_at hl 2 rfl) ?_
        refine lv_ior hx hb dX9_go_83 ?_
        refine va_put (D := D) (ci := 8) (v := .int (q_3 ||| x_7)) (ty := .int) (C := RX9) (T := TX9) (N := 17) hx hb hts him_go_X9 tyX9 tyX9_ok nmX9 hown hK hP hD hS 0 rfl rfl 13 (by decide) (hts (.fieldLink RX9 142 "OneHandsetModel" "seen" "I") (List.mem_of_getElem? (i := 1) rfl)) (fun _ h9 => h9) rfl (by decide +kernel) rfl rfl (Nat.le_of_ble_eq_true rfl) dX9_go_84 (fun H locs hP hD hS => ?_)
        have hP : va_P D vwCl [(h0, .inr (8, [.ref a0, .int tk, .ref a1, .int mm, .ref a2, .ref a3, .ref a4, .ref a5, .ref a6, .ref a7, .int wm, .int fa, .int th, .int (q_3 ||| x_7), .ref a8, .ref a9, .ref ab])), (a1, .inl (cI, 80, .inl g1)), (a2, .inl (cI, 128, .inl g2))] H := hP
        have hD : va_D A [(h0, .inr (8, [.ref a0, .int tk, .ref a1, .int mm, .ref a2, .ref a3, .ref a4, .ref a5, .ref a6, .ref a7, .int wm, .int fa, .int th, .int (q_3 ||| x_7), .ref a8, .ref a9, .ref ab])), (a1, .inl (cI, 80, .inl g1)), (a2, .inl (cI, 128, .inl g2))] := hD
        refine lv_iinc (v := i6_6 + 1) (lv' := [(6, .int (i6_6 + 1)), (7, .int w9_8), (5, .int x_7), (4, .int q_3), (3, .int q_1), (0, .ref h0), (1, .int v), (2, .int w)]) hx hb dX9_go_87 hl (k := 1) rfl rfl (by decide) rfl (fun ls hl => ?_)
        exact hJ_20 _ _ _ _ ⟨q_3 ||| x_7, i6_6 + 1, rfl, ⟨hP, hD⟩, hS, lv_sub hl [1, 0, 2, 3, 4, 5, 6, 7] rfl⟩
    · intro hJ_24
      refine lv_aload_n hx hb dX9_go_27 rfl (lv_at hl 1 rfl) ?_
      refine lv_iload_n hx hb dX9_go_28 rfl (lv_at hl 2 rfl) ?_
      refine go_i (wr := [(a1, .inl (cI, 80, .inl g1))]) (tysr := [(cI, .int)]) hP hD hS hA hK [0, 2] [1] [0] rfl rfl (by decide) (by decide) rfl (va_runV (As := [.int v]) (rest := []) ⟨hx, hb, hml, hown, hts⟩ (m_some l D H.size cI h0 a0 a1 a2 a3 a4 a5 a6 a7 a8 a9 ab tk mm wm fa th se g2 v (by first | assumption | decide | omega)) (cwV 1 hts gX9_go_X9_some rfl rfl rfl (by decide +kernel) ⟨Nat.le_of_ble_eq_true rfl, Nat.le_of_ble_eq_true rfl⟩) (st_preV (ci := 8) (q0 := 0) hP hD hK hNW [0, 2] [0] rfl rfl (by decide) rfl rfl rfl rfl) rfl rfl hl.1 rfl (lv_room (Nat.le_of_ble_eq_true rfl)) dX9_go_29 ⟨(Nat.le_of_ble_eq_true rfl), (Nat.le_of_ble_eq_true rfl)⟩) (fun r_25 u H locs hw hP hD hK hS => ?_)
      have hP : va_P D vwCl [(a1, .inl (cI, 80, .inl g1)), (h0, .inr (8, [.ref a0, .int tk, .ref a1, .int mm, .ref a2, .ref a3, .ref a4, .ref a5, .ref a6, .ref a7, .int wm, .int fa, .int th, .int se, .ref a8, .ref a9, .ref ab])), (a2, .inl (cI, 128, .inl g2))] H := hP
      have hD : va_D A [(a1, .inl (cI, 80, .inl g1)), (h0, .inr (8, [.ref a0, .int tk, .ref a1, .int mm, .ref a2, .ref a3, .ref a4, .ref a5, .ref a6, .ref a7, .int wm, .int fa, .int th, .int se, .ref a8, .ref a9, .ref ab])), (a2, .inl (cI, 128, .inl g2))] := hD
      have hK : va_K D vwCl [(cI, .int)] s := hK
      refine lv_aload_n hx hb dX9_go_32 rfl (lv_at hl 1 rfl) ?_
      refine lv_iload_n hx hb dX9_go_33 rfl (lv_at hl 2 rfl) ?_
      refine go_i (wr := []) (tysr := [(cI, .int)]) hP hD hS hA hK [1, 0, 2] [] [0] rfl rfl (by decide) (by decide) rfl (va_runV (As := [.int v]) (rest := [.int r_25]) ⟨hx, hb, hml, hown, hts⟩ (m_fixed l D H.size cI h0 a0 a1 a2 a3 a4 a5 a6 a7 a8 a9 ab tk mm wm fa th se g1 g2 v (by first | assumption | decide | omega)) (cwV 1 hts gX9_go_X9_fixed rfl rfl rfl (by decide +kernel) ⟨Nat.le_of_ble_eq_true rfl, Nat.le_of_ble_eq_true rfl⟩) (st_preV (ci := 8) (q0 := 1) hP hD hK hNW [1, 0, 2] [0] rfl rfl (by decide) rfl rfl rfl rfl) rfl rfl hl.1 rfl (lv_room (Nat.le_of_ble_eq_true rfl)) dX9_go_34 ⟨(Nat.le_of_ble_eq_true rfl), (Nat.le_of_ble_eq_true rfl)⟩) (fun r_26 u H locs hw hP hD hK hS => ?_)
      have hP : va_P D vwCl [(h0, .inr (8, [.ref a0, .int tk, .ref a1, .int mm, .ref a2, .ref a3, .ref a4, .ref a5, .ref a6, .ref a7, .int wm, .int fa, .int th, .int se, .ref a8, .ref a9, .ref ab])), (a1, .inl (cI, 80, .inl g1)), (a2, .inl (cI, 128, .inl g2))] H := hP
      have hD : va_D A [(h0, .inr (8, [.ref a0, .int tk, .ref a1, .int mm, .ref a2, .ref a3, .ref a4, .ref a5, .ref a6, .ref a7, .int wm, .int fa, .int th, .int se, .ref a8, .ref a9, .ref ab])), (a1, .inl (cI, 80, .inl g1)), (a2, .inl (cI, 128, .inl g2))] := hD
      have hK : va_K D vwCl [(cI, .int)] s := hK
      refine lv_iand hx hb dX9_go_37 ?_
      exact hJ_24 _ _ _ _ ⟨r_25 &&& r_26, rfl, ⟨hP, hD⟩, hS, lv_sub hl [0, 1, 2, 3] rfl⟩
  · intro hJ_27
    refine lv_iconst (v := 1) hx hb dX9_go_0 (by decide) ?_
    refine lv_aload_n hx hb dX9_go_1 rfl (lv_at hl 0 rfl) ?_
    refine lv_iload_n hx hb dX9_go_2 rfl (lv_at hl 1 rfl) ?_
    refine lv_iconst (v := 1) hx hb dX9_go_3 (by decide) ?_
    refine go_i (wr := [(a2, .inl (cI, 128, .inl g2))]) (tysr := [(cI, .int)]) hP hD hS hA hK [0, 1] [2] [0] rfl rfl (by decide) (by decide) rfl (va_runV (As := [.int v, .int 1]) (rest := [.int 1]) ⟨hx, hb, hml, hown, hts⟩ (m_get l D H.size cI h0 a0 a1 a2 a3 a4 a5 a6 a7 a8 a9 ab tk mm wm fa th se g1 v 1 (by first | assumption | decide | omega) (by first | assumption | decide | omega)) (cwV 2 hts gX9_go_X9_get rfl rfl rfl (by decide +kernel) ⟨Nat.le_of_ble_eq_true rfl, Nat.le_of_ble_eq_true rfl⟩) (st_preV (ci := 8) (q0 := 0) hP hD hK hNW [0, 1] [0] rfl rfl (by decide) rfl rfl rfl rfl) rfl rfl hl.1 rfl (lv_room (Nat.le_of_ble_eq_true rfl)) dX9_go_4 ⟨(Nat.le_of_ble_eq_true rfl), (Nat.le_of_ble_eq_true rfl)⟩) (fun r_28 u H locs hw hP hD hK hS => ?_)
    have hw : r_28 = g1 (Int32.toNatClampNeg (10 * v + 1)) := hw
    subst hw
    have hP : va_P D vwCl [(a2, .inl (cI, 128, .inl g2)), (h0, .inr (8, [.ref a0, .int tk, .ref a1, .int mm, .ref a2, .ref a3, .ref a4, .ref a5, .ref a6, .ref a7, .int wm, .int fa, .int th, .int se, .ref a8, .ref a9, .ref ab])), (a1, .inl (cI, 80, .inl g1))] H := hP
    have hD : va_D A [(a2, .inl (cI, 128, .inl g2)), (h0, .inr (8, [.ref a0, .int tk, .ref a1, .int mm, .ref a2, .ref a3, .ref a4, .ref a5, .ref a6, .ref a7, .int wm, .int fa, .int th, .int se, .ref a8, .ref a9, .ref ab])), (a1, .inl (cI, 80, .inl g1))] := hD
    have hK : va_K D vwCl [(cI, .int)] s := hK
    refine lv_ishl hx hb dX9_go_7 ?_
    refine lv_iconst (v := 1) hx hb dX9_go_8 (by decide) ?_
    refine lv_isub hx hb dX9_go_9 ?_
    refine lv_aload_n hx hb dX9_go_10 rfl (lv_at hl 0 rfl) ?_
    refine lv_iload_n hx hb dX9_go_11 rfl (lv_at hl 1 rfl) ?_
    refine go_i (wr := [(a2, .inl (cI, 128, .inl g2))]) (tysr := [(cI, .int)]) hP hD hS hA hK [1, 2] [0] [0] rfl rfl (by decide) (by decide) rfl (va_runV (As := [.int v]) (rest := [.int ((1 <<< ((g1 (Int32.toNatClampNeg (10 * v + 1))) &&& 31)) - 1)]) ⟨hx, hb, hml, hown, hts⟩ (m_flipOf l D H.size cI h0 a0 a1 a2 a3 a4 a5 a6 a7 a8 a9 ab tk mm wm fa th se g1 v (by first | assumption | decide | omega)) (cwV 1 hts gX9_go_X9_flipOf rfl rfl rfl (by decide +kernel) ⟨Nat.le_of_ble_eq_true rfl, Nat.le_of_ble_eq_true rfl⟩) (st_preV (ci := 8) (q0 := 1) hP hD hK hNW [1, 2] [0] rfl rfl (by decide) rfl rfl rfl rfl) rfl rfl hl.1 rfl (lv_room (Nat.le_of_ble_eq_true rfl)) dX9_go_12 ⟨(Nat.le_of_ble_eq_true rfl), (Nat.le_of_ble_eq_true rfl)⟩) (fun r_29 u H locs hw hP hD hK hS => ?_)
    have hP : va_P D vwCl [(a2, .inl (cI, 128, .inl g2)), (h0, .inr (8, [.ref a0, .int tk, .ref a1, .int mm, .ref a2, .ref a3, .ref a4, .ref a5, .ref a6, .ref a7, .int wm, .int fa, .int th, .int se, .ref a8, .ref a9, .ref ab])), (a1, .inl (cI, 80, .inl g1))] H := hP
    have hD : va_D A [(a2, .inl (cI, 128, .inl g2)), (h0, .inr (8, [.ref a0, .int tk, .ref a1, .int mm, .ref a2, .ref a3, .ref a4, .ref a5, .ref a6, .ref a7, .int wm, .int fa, .int th, .int se, .ref a8, .ref a9, .ref ab])), (a1, .inl (cI, 80, .inl g1))] := hD
    have hK : va_K D vwCl [(cI, .int)] s := hK
    refine lv_iconst (v := (-1)) hx hb dX9_go_15 (by decide) ?_
    refine lv_ixor hx hb dX9_go_16 ?_
    refine lv_iand hx hb dX9_go_17 ?_
    refine lv_aload_n hx hb dX9_go_18 rfl (lv_at hl 0 rfl) ?_
    refine lv_iload_n hx hb dX9_go_19 rfl (lv_at hl 1 rfl) ?_
    refine go_i (wr := []) (tysr := [(cI, .int)]) hP hD hS hA hK [1, 2, 0] [] [0] rfl rfl (by decide) (by decide) rfl (va_runV (As := [.int v]) (rest := [.int (((1 <<< ((g1 (Int32.toNatClampNeg (10 * v + 1))) &&& 31)) - 1) &&& (r_29 ^^^ (-1)))]) ⟨hx, hb, hml, hown, hts⟩ (m_fixed l D H.size cI h0 a0 a1 a2 a3 a4 a5 a6 a7 a8 a9 ab tk mm wm fa th se g1 g2 v (by first | assumption | decide | omega)) (cwV 1 hts gX9_go_X9_fixed rfl rfl rfl (by decide +kernel) ⟨Nat.le_of_ble_eq_true rfl, Nat.le_of_ble_eq_true rfl⟩) (st_preV (ci := 8) (q0 := 1) hP hD hK hNW [1, 2, 0] [0] rfl rfl (by decide) rfl rfl rfl rfl) rfl rfl hl.1 rfl (lv_room (Nat.le_of_ble_eq_true rfl)) dX9_go_20 ⟨(Nat.le_of_ble_eq_true rfl), (Nat.le_of_ble_eq_true rfl)⟩) (fun r_30 u H locs hw hP hD hK hS => ?_)
    have hP : va_P D vwCl [(h0, .inr (8, [.ref a0, .int tk, .ref a1, .int mm, .ref a2, .ref a3, .ref a4, .ref a5, .ref a6, .ref a7, .int wm, .int fa, .int th, .int se, .ref a8, .ref a9, .ref ab])), (a1, .inl (cI, 80, .inl g1)), (a2, .inl (cI, 128, .inl g2))] H := hP
    have hD : va_D A [(h0, .inr (8, [.ref a0, .int tk, .ref a1, .int mm, .ref a2, .ref a3, .ref a4, .ref a5, .ref a6, .ref a7, .int wm, .int fa, .int th, .int se, .ref a8, .ref a9, .ref ab])), (a1, .inl (cI, 80, .inl g1)), (a2, .inl (cI, 128, .inl g2))] := hD
    have hK : va_K D vwCl [(cI, .int)] s := hK
    refine lv_iconst (v := (-1)) hx hb dX9_go_23 (by decide) ?_
    refine lv_ixor hx hb dX9_go_24 ?_
    refine lv_iand hx hb dX9_go_25 ?_
    exact hJ_27 _ _ _ _ ⟨(((1 <<< ((g1 (Int32.toNatClampNeg (10 * v + 1))) &&& 31)) - 1) &&& (r_29 ^^^ (-1))) &&& (r_30 ^^^ (-1)), rfl, ⟨hP, hD⟩, hS, lv_sub hl [0, 1, 2] rfl⟩
theorem him_many_X9 : ∀ w ∈ wsX90, w ∈ wsX9_many := mem_pl [65, 66, 67, 68, 69, 70, 71, 72, 73, 74, 75, 76, 77, 78, 79, 80, 81] rfl
set_option maxHeartbeats 4000000 in
set_option maxRecDepth 100000 in
theorem m_many (l : Launch) (D : va_G) (sz : Nat) (cI : ClassId) (h0 : Nat) (a0 : Nat) (a1 : Nat) (a2 : Nat) (a3 : Nat) (a4 : Nat) (a5 : Nat) (a6 : Nat) (a7 : Nat) (a8 : Nat) (a9 : Nat) (ab : Nat) (tk : Int32) (mm : Int32) (wm : Int32) (fa : Int32) (th : Int32) (se : Int32) (g1 : Nat → Int32) (g2 : Nat → Int32) (v : Int32) (hmm : bi mm 0 8) : Ci l yX9_many wsX9_many ({ frames := 5, cells := 0, slots := 0, locals := 122 } : Room) D [.ref h0, .int v] [(h0, .inr (8, [.ref a0, .int tk, .ref a1, .int mm, .ref a2, .ref a3, .ref a4, .ref a5, .ref a6, .ref a7, .int wm, .int fa, .int th, .int se, .ref a8, .ref a9, .ref ab])), (a1, .inl (cI, 80, .inl g1)), (a2, .inl (cI, 128, .inl g2))] [(cI, .int)] sz (fun (r : Int32) => fun (u9 : Int32 × Int32) => match u9 with | (th2, se2) => True) (fun (u9 : Int32 × Int32) => match u9 with | (th2, se2) => [(h0, .inr (8, [.ref a0, .int tk, .ref a1, .int mm, .ref a2, .ref a3, .ref a4, .ref a5, .ref a6, .ref a7, .int wm, .int fa, .int th2, .int se2, .ref a8, .ref a9, .ref ab])), (a1, .inl (cI, 80, .inl g1)), (a2, .inl (cI, 128, .inl g2))]) (fun (u9 : Int32 × Int32) => match u9 with | (th2, se2) => []) := by
  refine ct_i (cc := cX9_many) (maxL := 2) (ret := (some .int)) (by decide) rfl (Nat.le_of_ble_eq_true rfl) ?_
  intro p e s m below meth c A ls H hx hb hr hts hown hml hlocks hin hA hS hP hK hD hNW hl hAe hsz
  have hl : lv_has ls 2 [(0, .ref h0), (1, .int v)] := hl
  refine lv_aload_n hx hb dX9_many_0 rfl (lv_at hl 0 rfl) ?_
  refine lv_iconst (v := 0) hx hb dX9_many_1 (by decide) ?_
  refine va_put (D := D) (ci := 8) (v := .int 0) (ty := .int) (C := RX9) (T := TX9) (N := 17) hx hb hts him_many_X9 tyX9 tyX9_ok nmX9 hown hK hP hD hS 0 rfl rfl 12 (by decide) (hts (.fieldLink RX9 43 "OneHandsetModel" "thrown" "I") (List.mem_of_getElem? (i := 1) rfl)) (fun _ h9 => h9) rfl (by decide +kernel) rfl rfl (Nat.le_of_ble_eq_true rfl) dX9_many_2 (fun H locs hP hD hS => ?_)
  have hP : va_P D vwCl [(h0, .inr (8, [.ref a0, .int tk, .ref a1, .int mm, .ref a2, .ref a3, .ref a4, .ref a5, .ref a6, .ref a7, .int wm, .int fa, .int 0, .int se, .ref a8, .ref a9, .ref ab])), (a1, .inl (cI, 80, .inl g1)), (a2, .inl (cI, 128, .inl g2))] H := hP
  have hD : va_D A [(h0, .inr (8, [.ref a0, .int tk, .ref a1, .int mm, .ref a2, .ref a3, .ref a4, .ref a5, .ref a6, .ref a7, .int wm, .int fa, .int 0, .int se, .ref a8, .ref a9, .ref ab])), (a1, .inl (cI, 80, .inl g1)), (a2, .inl (cI, 128, .inl g2))] := hD
  refine lv_aload_n hx hb dX9_many_5 rfl (lv_at hl 0 rfl) ?_
  refine lv_iload_n hx hb dX9_many_6 rfl (lv_at hl 1 rfl) ?_
  refine go_i (wr := []) (tysr := [(cI, .int)]) hP hD hS hA hK [0, 1, 2] [] [0] rfl rfl (by decide) (by decide) rfl (va_runV (As := [.int v]) (rest := []) ⟨hx, hb, hml, hown, hts⟩ (m_canForesee l D H.size cI h0 a0 a1 a2 a3 a4 a5 a6 a7 a8 a9 ab tk mm wm fa 0 se g1 g2 v (by first | assumption | decide | omega)) (cwV 1 hts gX9_many_X9_canForesee rfl rfl rfl (by decide +kernel) ⟨Nat.le_of_ble_eq_true rfl, Nat.le_of_ble_eq_true rfl⟩) (st_preV (ci := 8) (q0 := 0) hP hD hK hNW [0, 1, 2] [0] rfl rfl (by decide) rfl rfl rfl rfl) rfl rfl hl.1 rfl (lv_room (Nat.le_of_ble_eq_true rfl)) dX9_many_7 ⟨(Nat.le_of_ble_eq_true rfl), (Nat.le_of_ble_eq_true rfl)⟩) (fun r_1 u H locs hw hP hD hK hS => ?_)
  have hw : r_1 = 0 ∨ (0 ≤ v.toInt ∧ v.toInt < mm.toInt) := hw
  have hw_2 := hw
  have hP : va_P D vwCl [(h0, .inr (8, [.ref a0, .int tk, .ref a1, .int mm, .ref a2, .ref a3, .ref a4, .ref a5, .ref a6, .ref a7, .int wm, .int fa, .int 0, .int se, .ref a8, .ref a9, .ref ab])), (a1, .inl (cI, 80, .inl g1)), (a2, .inl (cI, 128, .inl g2))] H := hP
  have hD : va_D A [(h0, .inr (8, [.ref a0, .int tk, .ref a1, .int mm, .ref a2, .ref a3, .ref a4, .ref a5, .ref a6, .ref a7, .int wm, .int fa, .int 0, .int se, .ref a8, .ref a9, .ref ab])), (a1, .inl (cI, 80, .inl g1)), (a2, .inl (cI, 128, .inl g2))] := hD
  have hK : va_K D vwCl [(cI, .int)] s := hK
  refine lv_if_eq (tgt := 23) hx hb dX9_many_10 (by decide) (fun c_3 => ?_) (fun c_3 => ?_)
  · refine lv_iconst (v := (-1)) hx hb dX9_many_23 (by decide) ?_
    exact ret_i hx hb hr hlocks rfl (u := (0, se)) trivial (hP.sub [0, 1, 2] rfl) (hK.sub [] rfl) (hD.sub [0, 1, 2] (by decide) rfl) hS (Nat.le_of_ble_eq_true rfl) (Nat.le_of_ble_eq_true rfl) dX9_many_24
  have hc0_4 : 0 ≤ v.toInt ∧ v.toInt < mm.toInt := (hw_2).resolve_left c_3
  refine lv_aload_n hx hb dX9_many_13 rfl (lv_at hl 0 rfl) ?_
  refine lv_iload_n hx hb dX9_many_14 rfl (lv_at hl 1 rfl) ?_
  refine lv_ldc hx hb hown (hts _ (List.mem_of_getElem? (i := 2) rfl)) dX9_many_15 ?_
  refine lv_topi (fun y_5 _ => ?_)
  refine go_i (wr := []) (tysr := [(cI, .int)]) hP hD hS hA hK [0, 1, 2] [] [0] rfl rfl (by decide) (by decide) rfl (va_runV (As := [.int v, .int y_5]) (rest := []) ⟨hx, hb, hml, hown, hts⟩ (m_go l D H.size cI h0 a0 a1 a2 a3 a4 a5 a6 a7 a8 a9 ab tk mm wm fa 0 se g1 g2 v y_5 (by first | assumption | decide | omega)) (cwV 2 hts gX9_many_X9_go rfl rfl rfl (by decide +kernel) ⟨Nat.le_of_ble_eq_true rfl, Nat.le_of_ble_eq_true rfl⟩) (st_preV (ci := 8) (q0 := 0) hP hD hK hNW [0, 1, 2] [0] rfl rfl (by decide) rfl rfl rfl rfl) rfl rfl hl.1 rfl (lv_room (Nat.le_of_ble_eq_true rfl)) dX9_many_17 ⟨(Nat.le_of_ble_eq_true rfl), (Nat.le_of_ble_eq_true rfl)⟩) (fun r_6 u H locs hw hP hD hK hS => ?_)
  obtain ⟨se_7, rfl⟩ : ∃ z, z = u := ⟨_, rfl⟩
  have hP : va_P D vwCl [(h0, .inr (8, [.ref a0, .int tk, .ref a1, .int mm, .ref a2, .ref a3, .ref a4, .ref a5, .ref a6, .ref a7, .int wm, .int fa, .int 0, .int se_7, .ref a8, .ref a9, .ref ab])), (a1, .inl (cI, 80, .inl g1)), (a2, .inl (cI, 128, .inl g2))] H := hP
  have hD : va_D A [(h0, .inr (8, [.ref a0, .int tk, .ref a1, .int mm, .ref a2, .ref a3, .ref a4, .ref a5, .ref a6, .ref a7, .int wm, .int fa, .int 0, .int se_7, .ref a8, .ref a9, .ref ab])), (a1, .inl (cI, 80, .inl g1)), (a2, .inl (cI, 128, .inl g2))] := hD
  have hK : va_K D vwCl [(cI, .int)] s := hK
  refine lv_goto (tgt := 24) hx hb dX9_many_20 (by decide) ?_
  exact ret_i hx hb hr hlocks rfl (u := (0, se_7)) trivial (hP.sub [0, 1, 2] rfl) (hK.sub [] rfl) (hD.sub [0, 1, 2] (by decide) rfl) hS (Nat.le_of_ble_eq_true rfl) (Nat.le_of_ble_eq_true rfl) dX9_many_24
theorem him_foreseen_X9 : ∀ w ∈ wsX90, w ∈ wsX9_foreseen := mem_pl [65, 66, 67, 68, 69, 70, 71, 72, 73, 74, 75, 76, 77, 78, 79, 80, 81] rfl
set_option maxHeartbeats 4000000 in
set_option maxRecDepth 100000 in
theorem m_foreseen (l : Launch) (D : va_G) (sz : Nat) (cI : ClassId) (h0 : Nat) (a0 : Nat) (a1 : Nat) (a2 : Nat) (a3 : Nat) (a4 : Nat) (a5 : Nat) (a6 : Nat) (a7 : Nat) (a8 : Nat) (a9 : Nat) (ab : Nat) (tk : Int32) (mm : Int32) (wm : Int32) (fa : Int32) (th : Int32) (se : Int32) (g1 : Nat → Int32) (g2 : Nat → Int32) (v : Int32) (w : Int32) (hmm : bi mm 0 8) : Ci l yX9_foreseen wsX9_foreseen ({ frames := 5, cells := 0, slots := 0, locals := 122 } : Room) D [.ref h0, .int v, .int w] [(h0, .inr (8, [.ref a0, .int tk, .ref a1, .int mm, .ref a2, .ref a3, .ref a4, .ref a5, .ref a6, .ref a7, .int wm, .int fa, .int th, .int se, .ref a8, .ref a9, .ref ab])), (a1, .inl (cI, 80, .inl g1)), (a2, .inl (cI, 128, .inl g2))] [(cI, .int)] sz (fun (r : Int32) => fun (u9 : Int32 × Int32) => match u9 with | (th2, se2) => True) (fun (u9 : Int32 × Int32) => match u9 with | (th2, se2) => [(h0, .inr (8, [.ref a0, .int tk, .ref a1, .int mm, .ref a2, .ref a3, .ref a4, .ref a5, .ref a6, .ref a7, .int wm, .int fa, .int th2, .int se2, .ref a8, .ref a9, .ref ab])), (a1, .inl (cI, 80, .inl g1)), (a2, .inl (cI, 128, .inl g2))]) (fun (u9 : Int32 × Int32) => match u9 with | (th2, se2) => []) := by
  refine ct_i (cc := cX9_foreseen) (maxL := 3) (ret := (some .int)) (by decide) rfl (Nat.le_of_ble_eq_true rfl) ?_
  intro p e s m below meth c A ls H hx hb hr hts hown hml hlocks hin hA hS hP hK hD hNW hl hAe hsz
  have hl : lv_has ls 3 [(0, .ref h0), (1, .int v), (2, .int w)] := hl
  refine lv_aload_n hx hb dX9_foreseen_0 rfl (lv_at hl 0 rfl) ?_
  refine lv_iconst (v := 0) hx hb dX9_foreseen_1 (by decide) ?_
  refine va_put (D := D) (ci := 8) (v := .int 0) (ty := .int) (C := RX9) (T := TX9) (N := 17) hx hb hts him_foreseen_X9 tyX9 tyX9_ok nmX9 hown hK hP hD hS 0 rfl rfl 12 (by decide) (hts (.fieldLink RX9 43 "OneHandsetModel" "thrown" "I") (List.mem_of_getElem? (i := 1) rfl)) (fun _ h9 => h9) rfl (by decide +kernel) rfl rfl (Nat.le_of_ble_eq_true rfl) dX9_foreseen_2 (fun H locs hP hD hS => ?_)
  have hP : va_P D vwCl [(h0, .inr (8, [.ref a0, .int tk, .ref a1, .int mm, .ref a2, .ref a3, .ref a4, .ref a5, .ref a6, .ref a7, .int wm, .int fa, .int 0, .int se, .ref a8, .ref a9, .ref ab])), (a1, .inl (cI, 80, .inl g1)), (a2, .inl (cI, 128, .inl g2))] H := hP
  have hD : va_D A [(h0, .inr (8, [.ref a0, .int tk, .ref a1, .int mm, .ref a2, .ref a3, .ref a4, .ref a5, .ref a6, .ref a7, .int wm, .int fa, .int 0, .int se, .ref a8, .ref a9, .ref ab])), (a1, .inl (cI, 80, .inl g1)), (a2, .inl (cI, 128, .inl g2))] := hD
  refine lv_aload_n hx hb dX9_foreseen_5 rfl (lv_at hl 0 rfl) ?_
  refine lv_iload_n hx hb dX9_foreseen_6 rfl (lv_at hl 1 rfl) ?_
  refine go_i (wr := []) (tysr := [(cI, .int)]) hP hD hS hA hK [0, 1, 2] [] [0] rfl rfl (by decide) (by decide) rfl (va_runV (As := [.int v]) (rest := []) ⟨hx, hb, hml, hown, hts⟩ (m_canForesee l D H.size cI h0 a0 a1 a2 a3 a4 a5 a6 a7 a8 a9 ab tk mm wm fa 0 se g1 g2 v (by first | assumption | decide | omega)) (cwV 1 hts gX9_foreseen_X9_canForesee rfl rfl rfl (by decide +kernel) ⟨Nat.le_of_ble_eq_true rfl, Nat.le_of_ble_eq_true rfl⟩) (st_preV (ci := 8) (q0 := 0) hP hD hK hNW [0, 1, 2] [0] rfl rfl (by decide) rfl rfl rfl rfl) rfl rfl hl.1 rfl (lv_room (Nat.le_of_ble_eq_true rfl)) dX9_foreseen_7 ⟨(Nat.le_of_ble_eq_true rfl), (Nat.le_of_ble_eq_true rfl)⟩) (fun r_1 u H locs hw hP hD hK hS => ?_)
  have hw : r_1 = 0 ∨ (0 ≤ v.toInt ∧ v.toInt < mm.toInt) := hw
  have hw_2 := hw
  have hP : va_P D vwCl [(h0, .inr (8, [.ref a0, .int tk, .ref a1, .int mm, .ref a2, .ref a3, .ref a4, .ref a5, .ref a6, .ref a7, .int wm, .int fa, .int 0, .int se, .ref a8, .ref a9, .ref ab])), (a1, .inl (cI, 80, .inl g1)), (a2, .inl (cI, 128, .inl g2))] H := hP
  have hD : va_D A [(h0, .inr (8, [.ref a0, .int tk, .ref a1, .int mm, .ref a2, .ref a3, .ref a4, .ref a5, .ref a6, .ref a7, .int wm, .int fa, .int 0, .int se, .ref a8, .ref a9, .ref ab])), (a1, .inl (cI, 80, .inl g1)), (a2, .inl (cI, 128, .inl g2))] := hD
  have hK : va_K D vwCl [(cI, .int)] s := hK
  refine lv_if_eq (tgt := 23) hx hb dX9_foreseen_10 (by decide) (fun c_3 => ?_) (fun c_3 => ?_)
  · refine lv_iconst (v := (-1)) hx hb dX9_foreseen_23 (by decide) ?_
    exact ret_i hx hb hr hlocks rfl (u := (0, se)) trivial (hP.sub [0, 1, 2] rfl) (hK.sub [] rfl) (hD.sub [0, 1, 2] (by decide) rfl) hS (Nat.le_of_ble_eq_true rfl) (Nat.le_of_ble_eq_true rfl) dX9_foreseen_24
  have hc0_4 : 0 ≤ v.toInt ∧ v.toInt < mm.toInt := (hw_2).resolve_left c_3
  refine lv_iload_n hx hb dX9_foreseen_13 rfl (lv_at hl 2 rfl) ?_
  refine lv_if_lt (tgt := 23) hx hb dX9_foreseen_14 (by decide) (fun c_5 => ?_) (fun c_5 => ?_)
  · refine lv_iconst (v := (-1)) hx hb dX9_foreseen_23 (by decide) ?_
    exact ret_i hx hb hr hlocks rfl (u := (0, se)) trivial (hP.sub [0, 1, 2] rfl) (hK.sub [] rfl) (hD.sub [0, 1, 2] (by decide) rfl) hS (Nat.le_of_ble_eq_true rfl) (Nat.le_of_ble_eq_true rfl) dX9_foreseen_24
  refine lv_iload_n hx hb dX9_foreseen_17 rfl (lv_at hl 2 rfl) ?_
  refine lv_ldc hx hb hown (hts _ (List.mem_of_getElem? (i := 2) rfl)) dX9_foreseen_18 ?_
  refine lv_topi (fun y_6 _ => ?_)
  refine lv_icmp_le (tgt := 25) hx hb dX9_foreseen_20 (by decide) (fun c_7 => ?_) (fun c_7 => ?_)
  · refine lv_aload_n hx hb dX9_foreseen_25 rfl (lv_at hl 0 rfl) ?_
    refine lv_iload_n hx hb dX9_foreseen_26 rfl (lv_at hl 1 rfl) ?_
    refine lv_iload_n hx hb dX9_foreseen_27 rfl (lv_at hl 2 rfl) ?_
    refine go_i (wr := []) (tysr := [(cI, .int)]) hP hD hS hA hK [0, 1, 2] [] [0] rfl rfl (by decide) (by decide) rfl (va_runV (As := [.int v, .int w]) (rest := []) ⟨hx, hb, hml, hown, hts⟩ (m_go l D H.size cI h0 a0 a1 a2 a3 a4 a5 a6 a7 a8 a9 ab tk mm wm fa 0 se g1 g2 v w (by first | assumption | decide | omega)) (cwV 2 hts gX9_foreseen_X9_go rfl rfl rfl (by decide +kernel) ⟨Nat.le_of_ble_eq_true rfl, Nat.le_of_ble_eq_true rfl⟩) (st_preV (ci := 8) (q0 := 0) hP hD hK hNW [0, 1, 2] [0] rfl rfl (by decide) rfl rfl rfl rfl) rfl rfl hl.1 rfl (lv_room (Nat.le_of_ble_eq_true rfl)) dX9_foreseen_28 ⟨(Nat.le_of_ble_eq_true rfl), (Nat.le_of_ble_eq_true rfl)⟩) (fun r_8 u H locs hw hP hD hK hS => ?_)
    obtain ⟨se_9, rfl⟩ : ∃ z, z = u := ⟨_, rfl⟩
    have hP : va_P D vwCl [(h0, .inr (8, [.ref a0, .int tk, .ref a1, .int mm, .ref a2, .ref a3, .ref a4, .ref a5, .ref a6, .ref a7, .int wm, .int fa, .int 0, .int se_9, .ref a8, .ref a9, .ref ab])), (a1, .inl (cI, 80, .inl g1)), (a2, .inl (cI, 128, .inl g2))] H := hP
    have hD : va_D A [(h0, .inr (8, [.ref a0, .int tk, .ref a1, .int mm, .ref a2, .ref a3, .ref a4, .ref a5, .ref a6, .ref a7, .int wm, .int fa, .int 0, .int se_9, .ref a8, .ref a9, .ref ab])), (a1, .inl (cI, 80, .inl g1)), (a2, .inl (cI, 128, .inl g2))] := hD
    have hK : va_K D vwCl [(cI, .int)] s := hK
    refine lv_pop hx hb dX9_foreseen_31 rfl ?_
    refine lv_aload_n hx hb dX9_foreseen_32 rfl (lv_at hl 0 rfl) ?_
    refine va_get (D := D) (ci := 8) (v := .int se_9) (C := RX9) (T := TX9) (N := 17) hx hb hts him_foreseen_X9 hown hK hP 0 rfl rfl 13 (by decide) (hts (.fieldLink RX9 142 "OneHandsetModel" "seen" "I") (List.mem_of_getElem? (i := 3) rfl)) (fun _ h9 => h9) rfl dX9_foreseen_33 ?_
    exact ret_i hx hb hr hlocks rfl (u := (0, se_9)) trivial (hP.sub [0, 1, 2] rfl) (hK.sub [] rfl) (hD.sub [0, 1, 2] (by decide) rfl) hS (Nat.le_of_ble_eq_true rfl) (Nat.le_of_ble_eq_true rfl) dX9_foreseen_36
  refine lv_iconst (v := (-1)) hx hb dX9_foreseen_23 (by decide) ?_
  exact ret_i hx hb hr hlocks rfl (u := (0, se)) trivial (hP.sub [0, 1, 2] rfl) (hK.sub [] rfl) (hD.sub [0, 1, 2] (by decide) rfl) hS (Nat.le_of_ble_eq_true rfl) (Nat.le_of_ble_eq_true rfl) dX9_foreseen_24
theorem him_both_X9 : ∀ w ∈ wsX90, w ∈ wsX9_both := mem_pl [59, 60, 61, 62, 63, 64, 65, 66, 67, 68, 69, 70, 71, 72, 73, 74, 75] rfl
set_option maxHeartbeats 4000000 in
set_option maxRecDepth 100000 in
theorem m_both (l : Launch) (D : va_G) (sz : Nat) (cI : ClassId) (h0 : Nat) (a0 : Nat) (a1 : Nat) (a2 : Nat) (a3 : Nat) (a4 : Nat) (a5 : Nat) (a6 : Nat) (a7 : Nat) (a8 : Nat) (a9 : Nat) (ab : Nat) (tk : Int32) (mm : Int32) (wm : Int32) (fa : Int32) (th : Int32) (se : Int32) (g1 : Nat → Int32) (g2 : Nat → Int32) (v : Int32) (w : Int32) (hmm : bi mm 0 8) : Ci l yX9_both wsX9_both ({ frames := 4, cells := 0, slots := 0, locals := 95 } : Room) D [.ref h0, .int v, .int w] [(h0, .inr (8, [.ref a0, .int tk, .ref a1, .int mm, .ref a2, .ref a3, .ref a4, .ref a5, .ref a6, .ref a7, .int wm, .int fa, .int th, .int se, .ref a8, .ref a9, .ref ab])), (a1, .inl (cI, 80, .inl g1)), (a2, .inl (cI, 128, .inl g2))] [(cI, .int)] sz (fun (r : Int32) => fun (th2 : Int32) => True) (fun (th2 : Int32) => [(h0, .inr (8, [.ref a0, .int tk, .ref a1, .int mm, .ref a2, .ref a3, .ref a4, .ref a5, .ref a6, .ref a7, .int wm, .int fa, .int th2, .int se, .ref a8, .ref a9, .ref ab])), (a1, .inl (cI, 80, .inl g1)), (a2, .inl (cI, 128, .inl g2))]) (fun (th2 : Int32) => []) := by
  refine ct_i (cc := cX9_both) (maxL := 9) (ret := (some .int)) (by decide) rfl (Nat.le_of_ble_eq_true rfl) ?_
  intro p e s m below meth c A ls H hx hb hr hts hown hml hlocks hin hA hS hP hK hD hNW hl hAe hsz
  have hl : lv_has ls 9 [(0, .ref h0), (1, .int v), (2, .int w)] := hl
  refine lv_aload_n hx hb dX9_both_0 rfl (lv_at hl 0 rfl) ?_
  refine lv_iconst (v := 0) hx hb dX9_both_1 (by decide) ?_
  refine va_put (D := D) (ci := 8) (v := .int 0) (ty := .int) (C := RX9) (T := TX9) (N := 17) hx hb hts him_both_X9 tyX9 tyX9_ok nmX9 hown hK hP hD hS 0 rfl rfl 12 (by decide) (hts (.fieldLink RX9 43 "OneHandsetModel" "thrown" "I") (List.mem_of_getElem? (i := 1) rfl)) (fun _ h9 => h9) rfl (by decide +kernel) rfl rfl (Nat.le_of_ble_eq_true rfl) dX9_both_2 (fun H locs hP hD hS => ?_)
  have hP : va_P D vwCl [(h0, .inr (8, [.ref a0, .int tk, .ref a1, .int mm, .ref a2, .ref a3, .ref a4, .ref a5, .ref a6, .ref a7, .int wm, .int fa, .int 0, .int se, .ref a8, .ref a9, .ref ab])), (a1, .inl (cI, 80, .inl g1)), (a2, .inl (cI, 128, .inl g2))] H := hP
  have hD : va_D A [(h0, .inr (8, [.ref a0, .int tk, .ref a1, .int mm, .ref a2, .ref a3, .ref a4, .ref a5, .ref a6, .ref a7, .int wm, .int fa, .int 0, .int se, .ref a8, .ref a9, .ref ab])), (a1, .inl (cI, 80, .inl g1)), (a2, .inl (cI, 128, .inl g2))] := hD
  refine lv_aload_n hx hb dX9_both_5 rfl (lv_at hl 0 rfl) ?_
  refine lv_iload_n hx hb dX9_both_6 rfl (lv_at hl 1 rfl) ?_
  refine go_i (wr := []) (tysr := [(cI, .int)]) hP hD hS hA hK [0, 1, 2] [] [0] rfl rfl (by decide) (by decide) rfl (va_runV (As := [.int v]) (rest := []) ⟨hx, hb, hml, hown, hts⟩ (m_canForesee l D H.size cI h0 a0 a1 a2 a3 a4 a5 a6 a7 a8 a9 ab tk mm wm fa 0 se g1 g2 v (by first | assumption | decide | omega)) (cwV 1 hts gX9_both_X9_canForesee rfl rfl rfl (by decide +kernel) ⟨Nat.le_of_ble_eq_true rfl, Nat.le_of_ble_eq_true rfl⟩) (st_preV (ci := 8) (q0 := 0) hP hD hK hNW [0, 1, 2] [0] rfl rfl (by decide) rfl rfl rfl rfl) rfl rfl hl.1 rfl (lv_room (Nat.le_of_ble_eq_true rfl)) dX9_both_7 ⟨(Nat.le_of_ble_eq_true rfl), (Nat.le_of_ble_eq_true rfl)⟩) (fun r_1 u H locs hw hP hD hK hS => ?_)
  have hw : r_1 = 0 ∨ (0 ≤ v.toInt ∧ v.toInt < mm.toInt) := hw
  have hw_2 := hw
  have hP : va_P D vwCl [(h0, .inr (8, [.ref a0, .int tk, .ref a1, .int mm, .ref a2, .ref a3, .ref a4, .ref a5, .ref a6, .ref a7, .int wm, .int fa, .int 0, .int se, .ref a8, .ref a9, .ref ab])), (a1, .inl (cI, 80, .inl g1)), (a2, .inl (cI, 128, .inl g2))] H := hP
  have hD : va_D A [(h0, .inr (8, [.ref a0, .int tk, .ref a1, .int mm, .ref a2, .ref a3, .ref a4, .ref a5, .ref a6, .ref a7, .int wm, .int fa, .int 0, .int se, .ref a8, .ref a9, .ref ab])), (a1, .inl (cI, 80, .inl g1)), (a2, .inl (cI, 128, .inl g2))] := hD
  have hK : va_K D vwCl [(cI, .int)] s := hK
  refine lv_if_eq (tgt := 36) hx hb dX9_both_10 (by decide) (fun c_3 => ?_) (fun c_3 => ?_)
  · refine lv_iconst (v := (-1)) hx hb dX9_both_36 (by decide) ?_
    exact ret_i hx hb hr hlocks rfl (u := 0) trivial (hP.sub [0, 1, 2] rfl) (hK.sub [] rfl) (hD.sub [0, 1, 2] (by decide) rfl) hS (Nat.le_of_ble_eq_true rfl) (Nat.le_of_ble_eq_true rfl) dX9_both_37
  have hc0_4 : 0 ≤ v.toInt ∧ v.toInt < mm.toInt := (hw_2).resolve_left c_3
  refine lv_aload_n hx hb dX9_both_13 rfl (lv_at hl 0 rfl) ?_
  refine lv_iload_n hx hb dX9_both_14 rfl (lv_at hl 2 rfl) ?_
  refine go_i (wr := []) (tysr := [(cI, .int)]) hP hD hS hA hK [0, 1, 2] [] [0] rfl rfl (by decide) (by decide) rfl (va_runV (As := [.int w]) (rest := []) ⟨hx, hb, hml, hown, hts⟩ (m_canForesee l D H.size cI h0 a0 a1 a2 a3 a4 a5 a6 a7 a8 a9 ab tk mm wm fa 0 se g1 g2 w (by first | assumption | decide | omega)) (cwV 1 hts gX9_both_X9_canForesee rfl rfl rfl (by decide +kernel) ⟨Nat.le_of_ble_eq_true rfl, Nat.le_of_ble_eq_true rfl⟩) (st_preV (ci := 8) (q0 := 0) hP hD hK hNW [0, 1, 2] [0] rfl rfl (by decide) rfl rfl rfl rfl) rfl rfl hl.1 rfl (lv_room (Nat.le_of_ble_eq_true rfl)) dX9_both_15 ⟨(Nat.le_of_ble_eq_true rfl), (Nat.le_of_ble_eq_true rfl)⟩) (fun r_5 u H locs hw hP hD hK hS => ?_)
  have hw : r_5 = 0 ∨ (0 ≤ w.toInt ∧ w.toInt < mm.toInt) := hw
  have hw_6 := hw
  have hP : va_P D vwCl [(h0, .inr (8, [.ref a0, .int tk, .ref a1, .int mm, .ref a2, .ref a3, .ref a4, .ref a5, .ref a6, .ref a7, .int wm, .int fa, .int 0, .int se, .ref a8, .ref a9, .ref ab])), (a1, .inl (cI, 80, .inl g1)), (a2, .inl (cI, 128, .inl g2))] H := hP
  have hD : va_D A [(h0, .inr (8, [.ref a0, .int tk, .ref a1, .int mm, .ref a2, .ref a3, .ref a4, .ref a5, .ref a6, .ref a7, .int wm, .int fa, .int 0, .int se, .ref a8, .ref a9, .ref ab])), (a1, .inl (cI, 80, .inl g1)), (a2, .inl (cI, 128, .inl g2))] := hD
  have hK : va_K D vwCl [(cI, .int)] s := hK
  refine lv_if_eq (tgt := 36) hx hb dX9_both_18 (by decide) (fun c_7 => ?_) (fun c_7 => ?_)
  · refine lv_iconst (v := (-1)) hx hb dX9_both_36 (by decide) ?_
    exact ret_i hx hb hr hlocks rfl (u := 0) trivial (hP.sub [0, 1, 2] rfl) (hK.sub [] rfl) (hD.sub [0, 1, 2] (by decide) rfl) hS (Nat.le_of_ble_eq_true rfl) (Nat.le_of_ble_eq_true rfl) dX9_both_37
  have hc1_8 : 0 ≤ w.toInt ∧ w.toInt < mm.toInt := (hw_6).resolve_left c_7
  refine lv_aload_n hx hb dX9_both_21 rfl (lv_at hl 0 rfl) ?_
  refine lv_iload_n hx hb dX9_both_22 rfl (lv_at hl 1 rfl) ?_
  refine lv_iconst (v := 1) hx hb dX9_both_23 (by decide) ?_
  refine go_i (wr := [(a2, .inl (cI, 128, .inl g2))]) (tysr := [(cI, .int)]) hP hD hS hA hK [0, 1] [2] [0] rfl rfl (by decide) (by decide) rfl (va_runV (As := [.int v, .int 1]) (rest := []) ⟨hx, hb, hml, hown, hts⟩ (m_get l D H.size cI h0 a0 a1 a2 a3 a4 a5 a6 a7 a8 a9 ab tk mm wm fa 0 se g1 v 1 (by first | assumption | decide | omega) (by first | assumption | decide | omega)) (cwV 2 hts gX9_both_X9_get rfl rfl rfl (by decide +kernel) ⟨Nat.le_of_ble_eq_true rfl, Nat.le_of_ble_eq_true rfl⟩) (st_preV (ci := 8) (q0 := 0) hP hD hK hNW [0, 1] [0] rfl rfl (by decide) rfl rfl rfl rfl) rfl rfl hl.1 rfl (lv_room (Nat.le_of_ble_eq_true rfl)) dX9_both_24 ⟨(Nat.le_of_ble_eq_true rfl), (Nat.le_of_ble_eq_true rfl)⟩) (fun r_9 u H locs hw hP hD hK hS => ?_)
  have hw : r_9 = g1 (Int32.toNatClampNeg (10 * v + 1)) := hw
  subst hw
  have hP : va_P D vwCl [(a2, .inl (cI, 128, .inl g2)), (h0, .inr (8, [.ref a0, .int tk, .ref a1, .int mm, .ref a2, .ref a3, .ref a4, .ref a5, .ref a6, .ref a7, .int wm, .int fa, .int 0, .int se, .ref a8, .ref a9, .ref ab])), (a1, .inl (cI, 80, .inl g1))] H := hP
  have hD : va_D A [(a2, .inl (cI, 128, .inl g2)), (h0, .inr (8, [.ref a0, .int tk, .ref a1, .int mm, .ref a2, .ref a3, .ref a4, .ref a5, .ref a6, .ref a7, .int wm, .int fa, .int 0, .int se, .ref a8, .ref a9, .ref ab])), (a1, .inl (cI, 80, .inl g1))] := hD
  have hK : va_K D vwCl [(cI, .int)] s := hK
  refine lv_aload_n hx hb dX9_both_27 rfl (lv_at hl 0 rfl) ?_
  refine lv_iload_n hx hb dX9_both_28 rfl (lv_at hl 2 rfl) ?_
  refine lv_iconst (v := 1) hx hb dX9_both_29 (by decide) ?_
  refine go_i (wr := [(a2, .inl (cI, 128, .inl g2))]) (tysr := [(cI, .int)]) hP hD hS hA hK [1, 2] [0] [0] rfl rfl (by decide) (by decide) rfl (va_runV (As := [.int w, .int 1]) (rest := [.int (g1 (Int32.toNatClampNeg (10 * v + 1)))]) ⟨hx, hb, hml, hown, hts⟩ (m_get l D H.size cI h0 a0 a1 a2 a3 a4 a5 a6 a7 a8 a9 ab tk mm wm fa 0 se g1 w 1 (by first | assumption | decide | omega) (by first | assumption | decide | omega)) (cwV 2 hts gX9_both_X9_get rfl rfl rfl (by decide +kernel) ⟨Nat.le_of_ble_eq_true rfl, Nat.le_of_ble_eq_true rfl⟩) (st_preV (ci := 8) (q0 := 1) hP hD hK hNW [1, 2] [0] rfl rfl (by decide) rfl rfl rfl rfl) rfl rfl hl.1 rfl (lv_room (Nat.le_of_ble_eq_true rfl)) dX9_both_30 ⟨(Nat.le_of_ble_eq_true rfl), (Nat.le_of_ble_eq_true rfl)⟩) (fun r_10 u H locs hw hP hD hK hS => ?_)
  have hw : r_10 = g1 (Int32.toNatClampNeg (10 * w + 1)) := hw
  subst hw
  have hP : va_P D vwCl [(a2, .inl (cI, 128, .inl g2)), (h0, .inr (8, [.ref a0, .int tk, .ref a1, .int mm, .ref a2, .ref a3, .ref a4, .ref a5, .ref a6, .ref a7, .int wm, .int fa, .int 0, .int se, .ref a8, .ref a9, .ref ab])), (a1, .inl (cI, 80, .inl g1))] H := hP
  have hD : va_D A [(a2, .inl (cI, 128, .inl g2)), (h0, .inr (8, [.ref a0, .int tk, .ref a1, .int mm, .ref a2, .ref a3, .ref a4, .ref a5, .ref a6, .ref a7, .int wm, .int fa, .int 0, .int se, .ref a8, .ref a9, .ref ab])), (a1, .inl (cI, 80, .inl g1))] := hD
  have hK : va_K D vwCl [(cI, .int)] s := hK
  refine lv_icmp_eq (tgt := 38) hx hb dX9_both_33 (by decide) (fun c_11 => ?_) (fun c_11 => ?_)
  · refine jn_S 64 (fun st9 H locs ls => ∃ (q_12 : Int32), st9 = [.int q_12] ∧ (va_P D vwCl [(a2, .inl (cI, 128, .inl g2)), (h0, .inr (8, [.ref a0, .int tk, .ref a1, .int mm, .ref a2, .ref a3, .ref a4, .ref a5, .ref a6, .ref a7, .int wm, .int fa, .int 0, .int se, .ref a8, .ref a9, .ref ab])), (a1, .inl (cI, 80, .inl g1))] H ∧ va_D A [(a2, .inl (cI, 128, .inl g2)), (h0, .inr (8, [.ref a0, .int tk, .ref a1, .int mm, .ref a2, .ref a3, .ref a4, .ref a5, .ref a6, .ref a7, .int wm, .int fa, .int 0, .int se, .ref a8, .ref a9, .ref ab])), (a1, .inl (cI, 80, .inl g1))]) ∧ va_S A s.heap H locs ∧ lv_has ls 9 [(0, .ref h0), (1, .int v), (2, .int w)]) ?_ ?_
    · intro st9 H locs ls hI
      obtain ⟨q_12, rfl, ⟨hP, hD⟩, hS, hl⟩ := hI
      refine lv_istore_n (lv' := [(3, .int q_12), (0, .ref h0), (1, .int v), (2, .int w)]) hx hb dX9_both_64 rfl hl (by decide) rfl (fun ls hl => ?_)
      refine jn_S 76 (fun st9 H locs ls => ∃ (q_14 : Int32), st9 = [.int q_14] ∧ (va_P D vwCl [(a2, .inl (cI, 128, .inl g2)), (h0, .inr (8, [.ref a0, .int tk, .ref a1, .int mm, .ref a2, .ref a3, .ref a4, .ref a5, .ref a6, .ref a7, .int wm, .int fa, .int 0, .int se, .ref a8, .ref a9, .ref ab])), (a1, .inl (cI, 80, .inl g1))] H ∧ va_D A [(a2, .inl (cI, 128, .inl g2)), (h0, .inr (8, [.ref a0, .int tk, .ref a1, .int mm, .ref a2, .ref a3, .ref a4, .ref a5, .ref a6, .ref a7, .int wm, .int fa, .int 0, .int se, .ref a8, .ref a9, .ref ab])), (a1, .inl (cI, 80, .inl g1))]) ∧ va_S A s.heap H locs ∧ lv_has ls 9 [(3, .int q_12), (0, .ref h0), (1, .int v), (2, .int w)]) ?_ ?_
      · intro st9 H locs ls hI
        obtain ⟨q_14, rfl, ⟨hP, hD⟩, hS, hl⟩ := hI
        refine lv_istore (lv' := [(4, .int q_14), (3, .int q_12), (0, .ref h0), (1, .int v), (2, .int w)]) hx hb dX9_both_76 hl (by decide) rfl (fun ls hl => ?_)
        refine lv_iconst (v := 0) hx hb dX9_both_78 (by decide) ?_
        refine lv_istore (lv' := [(5, .int 0), (4, .int q_14), (3, .int q_12), (0, .ref h0), (1, .int v), (2, .int w)]) hx hb dX9_both_79 hl (by decide) rfl (fun ls hl => ?_)
        refine lv_iconst (v := 1) hx hb dX9_both_81 (by decide) ?_
        refine lv_istore (lv' := [(6, .int 1), (5, .int 0), (4, .int q_14), (3, .int q_12), (0, .ref h0), (1, .int v), (2, .int w)]) hx hb dX9_both_82 hl (by decide) rfl (fun ls hl => ?_)
        refine lp_N (fun n9 H locs ls => ∃ (x_16 : Int32), ∃ (w9_17 : Int32), n9 = if w9_17 = 0 then 0 else (q_12 - x_16).toBitVec.toNat + 1 ∧ (va_P D vwCl [(a2, .inl (cI, 128, .inl g2)), (h0, .inr (8, [.ref a0, .int tk, .ref a1, .int mm, .ref a2, .ref a3, .ref a4, .ref a5, .ref a6, .ref a7, .int wm, .int fa, .int 0, .int se, .ref a8, .ref a9, .ref ab])), (a1, .inl (cI, 80, .inl g1))] H ∧ va_D A [(a2, .inl (cI, 128, .inl g2)), (h0, .inr (8, [.ref a0, .int tk, .ref a1, .int mm, .ref a2, .ref a3, .ref a4, .ref a5, .ref a6, .ref a7, .int wm, .int fa, .int 0, .int se, .ref a8, .ref a9, .ref ab])), (a1, .inl (cI, 80, .inl g1))]) ∧ va_S A s.heap H locs ∧ lv_has ls 9 [(6, .int w9_17), (5, .int x_16), (4, .int q_14), (3, .int q_12), (0, .ref h0), (1, .int v), (2, .int w)]) ?_ ⟨0, 1, rfl, ⟨hP, hD⟩, hS, hl⟩
        intro n9 ih_18 H locs ls hI
        obtain ⟨x_16, w9_17, rfl, ⟨hP, hD⟩, hS, hl⟩ := hI
        refine lv_iload hx hb dX9_both_84 (lv_at hl 0 rfl) ?_
        refine lv_if_eq (tgt := 183) hx hb dX9_both_86 (by decide) (fun c_20 => ?_) (fun c_20 => ?_)
        · refine lv_bipush (v := (-2)) hx hb dX9_both_183 (by decide) ?_
          exact ret_i hx hb hr hlocks rfl (u := 0) trivial (hP.sub [1, 2, 0] rfl) (hK.sub [] rfl) (hD.sub [1, 2, 0] (by decide) rfl) hS (Nat.le_of_ble_eq_true rfl) (Nat.le_of_ble_eq_true rfl) dX9_both_185
        refine lv_iload hx hb dX9_both_89 (lv_at hl 2 rfl) ?_
        refine lv_iload hx hb dX9_both_91 (lv_at hl 1 rfl) ?_
        refine lv_ior hx hb dX9_both_93 ?_
        refine lv_istore (lv' := [(7, .int (q_14 ||| x_16)), (6, .int w9_17), (5, .int x_16), (4, .int q_14), (3, .int q_12), (0, .ref h0), (1, .int v), (2, .int w)]) hx hb dX9_both_94 hl (by decide) rfl (fun ls hl => ?_)
        refine jn_S 129 (fun st9 H locs ls => ∃ (q_21 : Int32), st9 = [.int q_21] ∧ (va_P D vwCl [(a2, .inl (cI, 128, .inl g2)), (h0, .inr (8, [.ref a0, .int tk, .ref a1, .int mm, .ref a2, .ref a3, .ref a4, .ref a5, .ref a6, .ref a7, .int wm, .int fa, .int 0, .int se, .ref a8, .ref a9, .ref ab])), (a1, .inl (cI, 80, .inl g1))] H ∧ va_D A [(a2, .inl (cI, 128, .inl g2)), (h0, .inr (8, [.ref a0, .int tk, .ref a1, .int mm, .ref a2, .ref a3, .ref a4, .ref a5, .ref a6, .ref a7, .int wm, .int fa, .int 0, .int se, .ref a8, .ref a9, .ref ab])), (a1, .inl (cI, 80, .inl g1))]) ∧ va_S A s.heap H locs ∧ lv_has ls 9 [(7, .int (q_14 ||| x_16)), (6, .int w9_17), (5, .int x_16), (4, .int q_14), (3, .int q_12), (0, .ref h0), (1, .int v), (2, .int w)]) ?_ ?_
        · intro st9 H locs ls hI
          obtain ⟨q_21, rfl, ⟨hP, hD⟩, hS, hl⟩ := hI
          refine lv_istore (lv' := [(8, .int q_21), (7, .int (q_14 ||| x_16)), (6, .int w9_17), (5, .int x_16), (4, .int q_14), (3, .int q_12), (0, .ref h0), (1, .int v), (2, .int w)]) hx hb dX9_both_129 hl (by decide) rfl (fun ls hl => ?_)
          refine jn_S 159 (fun st9 H locs ls => st9 = [] ∧ (va_P D vwCl [(a2, .inl (cI, 128, .inl g2)), (h0, .inr (8, [.ref a0, .int tk, .ref a1, .int mm, .ref a2, .ref a3, .ref a4, .ref a5, .ref a6, .ref a7, .int wm, .int fa, .int 0, .int se, .ref a8, .ref a9, .ref ab])), (a1, .inl (cI, 80, .inl g1))] H ∧ va_D A [(a2, .inl (cI, 128, .inl g2)), (h0, .inr (8, [.ref a0, .int tk, .ref a1, .int mm, .ref a2, .ref a3, .ref a4, .ref a5, .ref a6, .ref a7, .int wm, .int fa, .int 0, .int se, .ref a8, .ref a9, .ref ab])), (a1, .inl (cI, 80, .inl g1))]) ∧ va_S A s.heap H locs ∧ lv_has ls 9 [(8, .int q_21), (7, .int (q_14 ||| x_16)), (6, .int w9_17), (5, .int x_16), (4, .int q_14), (3, .int q_12), (0, .ref h0), (1, .int v), (2, .int w)]) ?_ ?_
          · intro st9 H locs ls hI
            obtain ⟨rfl, ⟨hP, hD⟩, hS, hl⟩ := hI
            refine jn_S 170 (fun st9 H locs ls => ∃ (q_24 : Int32), st9 = [.int q_24] ∧ (va_P D vwCl [(a2, .inl (cI, 128, .inl g2)), (h0, .inr (8, [.ref a0, .int tk, .ref a1, .int mm, .ref a2, .ref a3, .ref a4, .ref a5, .ref a6, .ref a7, .int wm, .int fa, .int 0, .int se, .ref a8, .ref a9, .ref ab])), (a1, .inl (cI, 80, .inl g1))] H ∧ va_D A [(a2, .inl (cI, 128, .inl g2)), (h0, .inr (8, [.ref a0, .int tk, .ref a1, .int mm, .ref a2, .ref a3, .ref a4, .ref a5, .ref a6, .ref a7, .int wm, .int fa, .int 0, .int se, .ref a8, .ref a9, .ref ab])), (a1, .inl (cI, 80, .inl g1))]) ∧ va_S A s.heap H locs ∧ lv_has ls 9 [(8, .int q_21), (7, .int (q_14 ||| x_16)), (6, .int w9_17), (5, .int x_16), (4, .int q_14), (3, .int q_12), (0, .ref h0), (1, .int v), (2, .int w)] ∧ (q_24 = 0 ∨ ¬ x_16 = q_12)) ?_ ?_
            · intro st9 H locs ls hI
              obtain ⟨q_24, rfl, ⟨hP, hD⟩, hS, hl, hv_25⟩ := hI
              refine lv_istore (lv' := [(6, .int q_24), (8, .int q_21), (7, .int (q_14 ||| x_16)), (5, .int x_16), (4, .int q_14), (3, .int q_12), (0, .ref h0), (1, .int v), (2, .int w)]) hx hb dX9_both_170 hl (by decide) rfl (fun ls hl => ?_)
              refine lv_iload hx hb dX9_both_172 (lv_at hl 3 rfl) ?_
              refine lv_iload_n hx hb dX9_both_174 rfl (lv_at hl 5 rfl) ?_
              refine lv_isub hx hb dX9_both_175 ?_
              refine lv_iload_n hx hb dX9_both_176 rfl (lv_at hl 5 rfl) ?_
              refine lv_iand hx hb dX9_both_177 ?_
              refine lv_istore (lv' := [(5, .int ((x_16 - q_12) &&& q_12)), (6, .int q_24), (8, .int q_21), (7, .int (q_14 ||| x_16)), (4, .int q_14), (3, .int q_12), (0, .ref h0), (1, .int v), (2, .int w)]) hx hb dX9_both_178 hl (by decide) rfl (fun ls hl => ?_)
              refine lv_goto (tgt := 84) hx hb dX9_both_180 (by decide) ?_
              exact ih_18 _ _ _ _ (go_dec c_20 hv_25) ⟨(x_16 - q_12) &&& q_12, q_24, rfl, ⟨hP, hD⟩, hS, lv_sub hl [1, 0, 4, 5, 6, 7, 8] rfl⟩
            · intro hJ_26
              refine lv_iload hx hb dX9_both_159 (lv_at hl 3 rfl) ?_
              refine lv_iload_n hx hb dX9_both_161 rfl (lv_at hl 5 rfl) ?_
              refine lv_icmp_eq (tgt := 169) hx hb dX9_both_162 (by decide) (fun c_27 => ?_) (fun c_27 => ?_)
              · refine lv_iconst (v := 0) hx hb dX9_both_169 (by decide) ?_
                exact hJ_26 _ _ _ _ ⟨0, rfl, ⟨hP, hD⟩, hS, lv_sub hl [0, 1, 2, 3, 4, 5, 6, 7, 8] rfl, (Or.inl rfl)⟩
              refine lv_iconst (v := 1) hx hb dX9_both_165 (by decide) ?_
              refine lv_goto (tgt := 170) hx hb dX9_both_166 (by decide) ?_
              exact hJ_26 _ _ _ _ ⟨1, rfl, ⟨hP, hD⟩, hS, lv_sub hl [0, 1, 2, 3, 4, 5, 6, 7, 8] rfl, (Or.inr c_27)⟩
          · intro hJ_28
            refine lv_iload hx hb dX9_both_131 (lv_at hl 0 rfl) ?_
            refine lv_if_eq (tgt := 159) hx hb dX9_both_133 (by decide) (fun c_29 => ?_) (fun c_29 => ?_)
            · exact hJ_28 _ _ _ _ ⟨rfl, ⟨hP, hD⟩, hS, lv_sub hl [0, 1, 2, 3, 4, 5, 6, 7, 8] rfl⟩
            refine lv_aload_n hx hb dX9_both_136 rfl (lv_at hl 6 rfl) ?_
            refine lv_iload_n hx hb dX9_both_137 rfl (lv_at hl 7 rfl) ?_
            refine lv_iload hx hb dX9_both_138 (lv_at hl 1 rfl) ?_
            refine go_i (wr := []) (tysr := [(cI, .int)]) hP hD hS hA hK [1, 2, 0] [] [0] rfl rfl (by decide) (by decide) rfl (va_runV (As := [.int v, .int (q_14 ||| x_16)]) (rest := []) ⟨hx, hb, hml, hown, hts⟩ (m_isForeseen l D H.size cI h0 a0 a1 a2 a3 a4 a5 a6 a7 a8 a9 ab tk mm wm fa 0 se g1 g2 v (q_14 ||| x_16) (by first | assumption | decide | omega)) (cwV 2 hts gX9_both_X9_isForeseen rfl rfl rfl (by decide +kernel) ⟨Nat.le_of_ble_eq_true rfl, Nat.le_of_ble_eq_true rfl⟩) (st_preV (ci := 8) (q0 := 1) hP hD hK hNW [1, 2, 0] [0] rfl rfl (by decide) rfl rfl rfl rfl) rfl rfl hl.1 rfl (lv_room (Nat.le_of_ble_eq_true rfl)) dX9_both_140 ⟨(Nat.le_of_ble_eq_true rfl), (Nat.le_of_ble_eq_true rfl)⟩) (fun r_30 u H locs hw hP hD hK hS => ?_)
            have hP : va_P D vwCl [(h0, .inr (8, [.ref a0, .int tk, .ref a1, .int mm, .ref a2, .ref a3, .ref a4, .ref a5, .ref a6, .ref a7, .int wm, .int fa, .int 0, .int se, .ref a8, .ref a9, .ref ab])), (a1, .inl (cI, 80, .inl g1)), (a2, .inl (cI, 128, .inl g2))] H := hP
            have hD : va_D A [(h0, .inr (8, [.ref a0, .int tk, .ref a1, .int mm, .ref a2, .ref a3, .ref a4, .ref a5, .ref a6, .ref a7, .int wm, .int fa, .int 0, .int se, .ref a8, .ref a9, .ref ab])), (a1, .inl (cI, 80, .inl g1)), (a2, .inl (cI, 128, .inl g2))] := hD
            have hK : va_K D vwCl [(cI, .int)] s := hK
            refine lv_if_eq (tgt := 159) hx hb dX9_both_143 (by decide) (fun c_31 => ?_) (fun c_31 => ?_)
            · exact hJ_28 _ _ _ _ ⟨rfl, ⟨hP.sub [2, 0, 1] rfl, hD.sub [2, 0, 1] (by decide) rfl⟩, hS, lv_sub hl [0, 1, 2, 3, 4, 5, 6, 7, 8] rfl⟩
            refine lv_aload_n hx hb dX9_both_146 rfl (lv_at hl 6 rfl) ?_
            refine lv_iload_n hx hb dX9_both_147 rfl (lv_at hl 8 rfl) ?_
            refine lv_iload hx hb dX9_both_148 (lv_at hl 1 rfl) ?_
            refine go_i (wr := []) (tysr := [(cI, .int)]) hP hD hS hA hK [0, 1, 2] [] [0] rfl rfl (by decide) (by decide) rfl (va_runV (As := [.int w, .int (q_14 ||| x_16)]) (rest := []) ⟨hx, hb, hml, hown, hts⟩ (m_isForeseen l D H.size cI h0 a0 a1 a2 a3 a4 a5 a6 a7 a8 a9 ab tk mm wm fa 0 se g1 g2 w (q_14 ||| x_16) (by first | assumption | decide | omega)) (cwV 2 hts gX9_both_X9_isForeseen rfl rfl rfl (by decide +kernel) ⟨Nat.le_of_ble_eq_true rfl, Nat.le_of_ble_eq_true rfl⟩) (st_preV (ci := 8) (q0 := 0) hP hD hK hNW [0, 1, 2] [0] rfl rfl (by decide) rfl rfl rfl rfl) rfl rfl hl.1 rfl (lv_room (Nat.le_of_ble_eq_true rfl)) dX9_both_150 ⟨(Nat.le_of_ble_eq_true rfl), (Nat.le_of_ble_eq_true rfl)⟩) (fun r_32 u H locs hw hP hD hK hS => ?_)
            have hP : va_P D vwCl [(h0, .inr (8, [.ref a0, .int tk, .ref a1, .int mm, .ref a2, .ref a3, .ref a4, .ref a5, .ref a6, .ref a7, .int wm, .int fa, .int 0, .int se, .ref a8, .ref a9, .ref ab])), (a1, .inl (cI, 80, .inl g1)), (a2, .inl (cI, 128, .inl g2))] H := hP
            have hD : va_D A [(h0, .inr (8, [.ref a0, .int tk, .ref a1, .int mm, .ref a2, .ref a3, .ref a4, .ref a5, .ref a6, .ref a7, .int wm, .int fa, .int 0, .int se, .ref a8, .ref a9, .ref ab])), (a1, .inl (cI, 80, .inl g1)), (a2, .inl (cI, 128, .inl g2))] := hD
            have hK : va_K D vwCl [(cI, .int)] s := hK
            refine lv_if_eq (tgt := 159) hx hb dX9_both_153 (by decide) (fun c_33 => ?_) (fun c_33 => ?_)
            · exact hJ_28 _ _ _ _ ⟨rfl, ⟨hP.sub [2, 0, 1] rfl, hD.sub [2, 0, 1] (by decide) rfl⟩, hS, lv_sub hl [0, 1, 2, 3, 4, 5, 6, 7, 8] rfl⟩
            refine lv_iload hx hb dX9_both_156 (lv_at hl 1 rfl) ?_
            exact ret_i hx hb hr hlocks rfl (u := 0) trivial (hP.sub [0, 1, 2] rfl) (hK.sub [] rfl) (hD.sub [0, 1, 2] (by decide) rfl) hS (Nat.le_of_ble_eq_true rfl) (Nat.le_of_ble_eq_true rfl) dX9_both_158
        · intro hJ_34
          refine lv_iload hx hb dX9_both_96 (lv_at hl 0 rfl) ?_
          refine lv_aload_n hx hb dX9_both_98 rfl (lv_at hl 5 rfl) ?_
          refine lv_iload_n hx hb dX9_both_99 rfl (lv_at hl 7 rfl) ?_
          refine go_i (wr := [(a2, .inl (cI, 128, .inl g2))]) (tysr := [(cI, .int)]) hP hD hS hA hK [1, 2] [0] [0] rfl rfl (by decide) (by decide) rfl (va_runV (As := [.int w]) (rest := [.int (q_14 ||| x_16)]) ⟨hx, hb, hml, hown, hts⟩ (m_flipOf l D H.size cI h0 a0 a1 a2 a3 a4 a5 a6 a7 a8 a9 ab tk mm wm fa 0 se g1 w (by first | assumption | decide | omega)) (cwV 1 hts gX9_both_X9_flipOf rfl rfl rfl (by decide +kernel) ⟨Nat.le_of_ble_eq_true rfl, Nat.le_of_ble_eq_true rfl⟩) (st_preV (ci := 8) (q0 := 1) hP hD hK hNW [1, 2] [0] rfl rfl (by decide) rfl rfl rfl rfl) rfl rfl hl.1 rfl (lv_room (Nat.le_of_ble_eq_true rfl)) dX9_both_100 ⟨(Nat.le_of_ble_eq_true rfl), (Nat.le_of_ble_eq_true rfl)⟩) (fun r_35 u H locs hw hP hD hK hS => ?_)
          have hP : va_P D vwCl [(a2, .inl (cI, 128, .inl g2)), (h0, .inr (8, [.ref a0, .int tk, .ref a1, .int mm, .ref a2, .ref a3, .ref a4, .ref a5, .ref a6, .ref a7, .int wm, .int fa, .int 0, .int se, .ref a8, .ref a9, .ref ab])), (a1, .inl (cI, 80, .inl g1))] H := hP
          have hD : va_D A [(a2, .inl (cI, 128, .inl g2)), (h0, .inr (8, [.ref a0, .int tk, .ref a1, .int mm, .ref a2, .ref a3, .ref a4, .ref a5, .ref a6, .ref a7, .int wm, .int fa, .int 0, .int se, .ref a8, .ref a9, .ref ab])), (a1, .inl (cI, 80, .inl g1))] := hD
          have hK : va_K D vwCl [(cI, .int)] s := hK
          refine lv_iand hx hb dX9_both_103 ?_
          refine lv_if_ne (tgt := 128) hx hb dX9_both_104 (by decide) (fun c_36 => ?_) (fun c_36 => ?_)
          · refine lv_iconst (v := 0) hx hb dX9_both_128 (by decide) ?_
            exact hJ_34 _ _ _ _ ⟨0, rfl, ⟨hP, hD⟩, hS, lv_sub hl [0, 1, 2, 3, 4, 5, 6, 7] rfl⟩
          refine lv_iload hx hb dX9_both_107 (lv_at hl 0 rfl) ?_
          refine lv_aload_n hx hb dX9_both_109 rfl (lv_at hl 5 rfl) ?_
          refine lv_iload_n hx hb dX9_both_110 rfl (lv_at hl 7 rfl) ?_
          refine go_i (wr := [(a1, .inl (cI, 80, .inl g1))]) (tysr := [(cI, .int)]) hP hD hS hA hK [1, 0] [2] [0] rfl rfl (by decide) (by decide) rfl (va_runV (As := [.int w]) (rest := [.int (q_14 ||| x_16)]) ⟨hx, hb, hml, hown, hts⟩ (m_some l D H.size cI h0 a0 a1 a2 a3 a4 a5 a6 a7 a8 a9 ab tk mm wm fa 0 se g2 w (by first | assumption | decide | omega)) (cwV 1 hts gX9_both_X9_some rfl rfl rfl (by decide +kernel) ⟨Nat.le_of_ble_eq_true rfl, Nat.le_of_ble_eq_true rfl⟩) (st_preV (ci := 8) (q0 := 1) hP hD hK hNW [1, 0] [0] rfl rfl (by decide) rfl rfl rfl rfl) rfl rfl hl.1 rfl (lv_room (Nat.le_of_ble_eq_true rfl)) dX9_both_111 ⟨(Nat.le_of_ble_eq_true rfl), (Nat.le_of_ble_eq_true rfl)⟩) (fun r_37 u H locs hw hP hD hK hS => ?_)
          have hP : va_P D vwCl [(a1, .inl (cI, 80, .inl g1)), (h0, .inr (8, [.ref a0, .int tk, .ref a1, .int mm, .ref a2, .ref a3, .ref a4, .ref a5, .ref a6, .ref a7, .int wm, .int fa, .int 0, .int se, .ref a8, .ref a9, .ref ab])), (a2, .inl (cI, 128, .inl g2))] H := hP
          have hD : va_D A [(a1, .inl (cI, 80, .inl g1)), (h0, .inr (8, [.ref a0, .int tk, .ref a1, .int mm, .ref a2, .ref a3, .ref a4, .ref a5, .ref a6, .ref a7, .int wm, .int fa, .int 0, .int se, .ref a8, .ref a9, .ref ab])), (a2, .inl (cI, 128, .inl g2))] := hD
          have hK : va_K D vwCl [(cI, .int)] s := hK
          refine lv_ixor hx hb dX9_both_114 ?_
          refine lv_aload_n hx hb dX9_both_115 rfl (lv_at hl 5 rfl) ?_
          refine lv_iload_n hx hb dX9_both_116 rfl (lv_at hl 7 rfl) ?_
          refine go_i (wr := []) (tysr := [(cI, .int)]) hP hD hS hA hK [1, 0, 2] [] [0] rfl rfl (by decide) (by decide) rfl (va_runV (As := [.int w]) (rest := [.int ((q_14 ||| x_16) ^^^ r_37)]) ⟨hx, hb, hml, hown, hts⟩ (m_fixed l D H.size cI h0 a0 a1 a2 a3 a4 a5 a6 a7 a8 a9 ab tk mm wm fa 0 se g1 g2 w (by first | assumption | decide | omega)) (cwV 1 hts gX9_both_X9_fixed rfl rfl rfl (by decide +kernel) ⟨Nat.le_of_ble_eq_true rfl, Nat.le_of_ble_eq_true rfl⟩) (st_preV (ci := 8) (q0 := 1) hP hD hK hNW [1, 0, 2] [0] rfl rfl (by decide) rfl rfl rfl rfl) rfl rfl hl.1 rfl (lv_room (Nat.le_of_ble_eq_true rfl)) dX9_both_117 ⟨(Nat.le_of_ble_eq_true rfl), (Nat.le_of_ble_eq_true rfl)⟩) (fun r_38 u H locs hw hP hD hK hS => ?_)
          have hP : va_P D vwCl [(h0, .inr (8, [.ref a0, .int tk, .ref a1, .int mm, .ref a2, .ref a3, .ref a4, .ref a5, .ref a6, .ref a7, .int wm, .int fa, .int 0, .int se, .ref a8, .ref a9, .ref ab])), (a1, .inl (cI, 80, .inl g1)), (a2, .inl (cI, 128, .inl g2))] H := hP
          have hD : va_D A [(h0, .inr (8, [.ref a0, .int tk, .ref a1, .int mm, .ref a2, .ref a3, .ref a4, .ref a5, .ref a6, .ref a7, .int wm, .int fa, .int 0, .int se, .ref a8, .ref a9, .ref ab])), (a1, .inl (cI, 80, .inl g1)), (a2, .inl (cI, 128, .inl g2))] := hD
          have hK : va_K D vwCl [(cI, .int)] s := hK
          refine lv_iand hx hb dX9_both_120 ?_
          refine lv_if_ne (tgt := 128) hx hb dX9_both_121 (by decide) (fun c_39 => ?_) (fun c_39 => ?_)
          · refine lv_iconst (v := 0) hx hb dX9_both_128 (by decide) ?_
            exact hJ_34 _ _ _ _ ⟨0, rfl, ⟨hP.sub [2, 0, 1] rfl, hD.sub [2, 0, 1] (by decide) rfl⟩, hS, lv_sub hl [0, 1, 2, 3, 4, 5, 6, 7] rfl⟩
          refine lv_iconst (v := 1) hx hb dX9_both_124 (by decide) ?_
          refine lv_goto (tgt := 129) hx hb dX9_both_125 (by decide) ?_
          exact hJ_34 _ _ _ _ ⟨1, rfl, ⟨hP.sub [2, 0, 1] rfl, hD.sub [2, 0, 1] (by decide) rfl⟩, hS, lv_sub hl [0, 1, 2, 3, 4, 5, 6, 7] rfl⟩
      · intro hJ_40
        refine lv_aload_n hx hb dX9_both_65 rfl (lv_at hl 1 rfl) ?_
        refine lv_iload_n hx hb dX9_both_66 rfl (lv_at hl 2 rfl) ?_
        refine go_i (wr := [(a1, .inl (cI, 80, .inl g1))]) (tysr := [(cI, .int)]) hP hD hS hA hK [1, 0] [2] [0] rfl rfl (by decide) (by decide) rfl (va_runV (As := [.int v]) (rest := []) ⟨hx, hb, hml, hown, hts⟩ (m_some l D H.size cI h0 a0 a1 a2 a3 a4 a5 a6 a7 a8 a9 ab tk mm wm fa 0 se g2 v (by first | assumption | decide | omega)) (cwV 1 hts gX9_both_X9_some rfl rfl rfl (by decide +kernel) ⟨Nat.le_of_ble_eq_true rfl, Nat.le_of_ble_eq_true rfl⟩) (st_preV (ci := 8) (q0 := 1) hP hD hK hNW [1, 0] [0] rfl rfl (by decide) rfl rfl rfl rfl) rfl rfl hl.1 rfl (lv_room (Nat.le_of_ble_eq_true rfl)) dX9_both_67 ⟨(Nat.le_of_ble_eq_true rfl), (Nat.le_of_ble_eq_true rfl)⟩) (fun r_41 u H locs hw hP hD hK hS => ?_)
        have hP : va_P D vwCl [(a1, .inl (cI, 80, .inl g1)), (h0, .inr (8, [.ref a0, .int tk, .ref a1, .int mm, .ref a2, .ref a3, .ref a4, .ref a5, .ref a6, .ref a7, .int wm, .int fa, .int 0, .int se, .ref a8, .ref a9, .ref ab])), (a2, .inl (cI, 128, .inl g2))] H := hP
        have hD : va_D A [(a1, .inl (cI, 80, .inl g1)), (h0, .inr (8, [.ref a0, .int tk, .ref a1, .int mm, .ref a2, .ref a3, .ref a4, .ref a5, .ref a6, .ref a7, .int wm, .int fa, .int 0, .int se, .ref a8, .ref a9, .ref ab])), (a2, .inl (cI, 128, .inl g2))] := hD
        have hK : va_K D vwCl [(cI, .int)] s := hK
        refine lv_aload_n hx hb dX9_both_70 rfl (lv_at hl 1 rfl) ?_
        refine lv_iload_n hx hb dX9_both_71 rfl (lv_at hl 2 rfl) ?_
        refine go_i (wr := []) (tysr := [(cI, .int)]) hP hD hS hA hK [1, 0, 2] [] [0] rfl rfl (by decide) (by decide) rfl (va_runV (As := [.int v]) (rest := [.int r_41]) ⟨hx, hb, hml, hown, hts⟩ (m_fixed l D H.size cI h0 a0 a1 a2 a3 a4 a5 a6 a7 a8 a9 ab tk mm wm fa 0 se g1 g2 v (by first | assumption | decide | omega)) (cwV 1 hts gX9_both_X9_fixed rfl rfl rfl (by decide +kernel) ⟨Nat.le_of_ble_eq_true rfl, Nat.le_of_ble_eq_true rfl⟩) (st_preV (ci := 8) (q0 := 1) hP hD hK hNW [1, 0, 2] [0] rfl rfl (by decide) rfl rfl rfl rfl) rfl rfl hl.1 rfl (lv_room (Nat.le_of_ble_eq_true rfl)) dX9_both_72 ⟨(Nat.le_of_ble_eq_true rfl), (Nat.le_of_ble_eq_true rfl)⟩) (fun r_42 u H locs hw hP hD hK hS => ?_)
        have hP : va_P D vwCl [(h0, .inr (8, [.ref a0, .int tk, .ref a1, .int mm, .ref a2, .ref a3, .ref a4, .ref a5, .ref a6, .ref a7, .int wm, .int fa, .int 0, .int se, .ref a8, .ref a9, .ref ab])), (a1, .inl (cI, 80, .inl g1)), (a2, .inl (cI, 128, .inl g2))] H := hP
        have hD : va_D A [(h0, .inr (8, [.ref a0, .int tk, .ref a1, .int mm, .ref a2, .ref a3, .ref a4, .ref a5, .ref a6, .ref a7, .int wm, .int fa, .int 0, .int se, .ref a8, .ref a9, .ref ab])), (a1, .inl (cI, 80, .inl g1)), (a2, .inl (cI, 128, .inl g2))] := hD
        have hK : va_K D vwCl [(cI, .int)] s := hK
        refine lv_iand hx hb dX9_both_75 ?_
        exact hJ_40 _ _ _ _ ⟨r_41 &&& r_42, rfl, ⟨hP.sub [2, 0, 1] rfl, hD.sub [2, 0, 1] (by decide) rfl⟩, hS, lv_sub hl [0, 1, 2, 3] rfl⟩
    · intro hJ_43
      refine lv_iconst (v := 1) hx hb dX9_both_38 (by decide) ?_
      refine lv_aload_n hx hb dX9_both_39 rfl (lv_at hl 0 rfl) ?_
      refine lv_iload_n hx hb dX9_both_40 rfl (lv_at hl 1 rfl) ?_
      refine lv_iconst (v := 1) hx hb dX9_both_41 (by decide) ?_
      refine go_i (wr := [(a2, .inl (cI, 128, .inl g2))]) (tysr := [(cI, .int)]) hP hD hS hA hK [1, 2] [0] [0] rfl rfl (by decide) (by decide) rfl (va_runV (As := [.int v, .int 1]) (rest := [.int 1]) ⟨hx, hb, hml, hown, hts⟩ (m_get l D H.size cI h0 a0 a1 a2 a3 a4 a5 a6 a7 a8 a9 ab tk mm wm fa 0 se g1 v 1 (by first | assumption | decide | omega) (by first | assumption | decide | omega)) (cwV 2 hts gX9_both_X9_get rfl rfl rfl (by decide +kernel) ⟨Nat.le_of_ble_eq_true rfl, Nat.le_of_ble_eq_true rfl⟩) (st_preV (ci := 8) (q0 := 1) hP hD hK hNW [1, 2] [0] rfl rfl (by decide) rfl rfl rfl rfl) rfl rfl hl.1 rfl (lv_room (Nat.le_of_ble_eq_true rfl)) dX9_both_42 ⟨(Nat.le_of_ble_eq_true rfl), (Nat.le_of_ble_eq_true rfl)⟩) (fun r_44 u H locs hw hP hD hK hS => ?_)
      have hw : r_44 = g1 (Int32.toNatClampNeg (10 * v + 1)) := hw
      subst hw
      have hP : va_P D vwCl [(a2, .inl (cI, 128, .inl g2)), (h0, .inr (8, [.ref a0, .int tk, .ref a1, .int mm, .ref a2, .ref a3, .ref a4, .ref a5, .ref a6, .ref a7, .int wm, .int fa, .int 0, .int se, .ref a8, .ref a9, .ref ab])), (a1, .inl (cI, 80, .inl g1))] H := hP
      have hD : va_D A [(a2, .inl (cI, 128, .inl g2)), (h0, .inr (8, [.ref a0, .int tk, .ref a1, .int mm, .ref a2, .ref a3, .ref a4, .ref a5, .ref a6, .ref a7, .int wm, .int fa, .int 0, .int se, .ref a8, .ref a9, .ref ab])), (a1, .inl (cI, 80, .inl g1))] := hD
      have hK : va_K D vwCl [(cI, .int)] s := hK
      refine lv_ishl hx hb dX9_both_45 ?_
      refine lv_iconst (v := 1) hx hb dX9_both_46 (by decide) ?_
      refine lv_isub hx hb dX9_both_47 ?_
      refine lv_aload_n hx hb dX9_both_48 rfl (lv_at hl 0 rfl) ?_
      refine lv_iload_n hx hb dX9_both_49 rfl (lv_at hl 1 rfl) ?_
      refine go_i (wr := [(a2, .inl (cI, 128, .inl g2))]) (tysr := [(cI, .int)]) hP hD hS hA hK [1, 2] [0] [0] rfl rfl (by decide) (by decide) rfl (va_runV (As := [.int v]) (rest := [.int ((1 <<< ((g1 (Int32.toNatClampNeg (10 * v + 1))) &&& 31)) - 1)]) ⟨hx, hb, hml, hown, hts⟩ (m_flipOf l D H.size cI h0 a0 a1 a2 a3 a4 a5 a6 a7 a8 a9 ab tk mm wm fa 0 se g1 v (by first | assumption | decide | omega)) (cwV 1 hts gX9_both_X9_flipOf rfl rfl rfl (by decide +kernel) ⟨Nat.le_of_ble_eq_true rfl, Nat.le_of_ble_eq_true rfl⟩) (st_preV (ci := 8) (q0 := 1) hP hD hK hNW [1, 2] [0] rfl rfl (by decide) rfl rfl rfl rfl) rfl rfl hl.1 rfl (lv_room (Nat.le_of_ble_eq_true rfl)) dX9_both_50 ⟨(Nat.le_of_ble_eq_true rfl), (Nat.le_of_ble_eq_true rfl)⟩) (fun r_45 u H locs hw hP hD hK hS => ?_)
      have hP : va_P D vwCl [(a2, .inl (cI, 128, .inl g2)), (h0, .inr (8, [.ref a0, .int tk, .ref a1, .int mm, .ref a2, .ref a3, .ref a4, .ref a5, .ref a6, .ref a7, .int wm, .int fa, .int 0, .int se, .ref a8, .ref a9, .ref ab])), (a1, .inl (cI, 80, .inl g1))] H := hP
      have hD : va_D A [(a2, .inl (cI, 128, .inl g2)), (h0, .inr (8, [.ref a0, .int tk, .ref a1, .int mm, .ref a2, .ref a3, .ref a4, .ref a5, .ref a6, .ref a7, .int wm, .int fa, .int 0, .int se, .ref a8, .ref a9, .ref ab])), (a1, .inl (cI, 80, .inl g1))] := hD
      have hK : va_K D vwCl [(cI, .int)] s := hK
      refine lv_iconst (v := (-1)) hx hb dX9_both_53 (by decide) ?_
      refine lv_ixor hx hb dX9_both_54 ?_
      refine lv_iand hx hb dX9_both_55 ?_
      refine lv_aload_n hx hb dX9_both_56 rfl (lv_at hl 0 rfl) ?_
      refine lv_iload_n hx hb dX9_both_57 rfl (lv_at hl 1 rfl) ?_
      refine go_i (wr := []) (tysr := [(cI, .int)]) hP hD hS hA hK [1, 2, 0] [] [0] rfl rfl (by decide) (by decide) rfl (va_runV (As := [.int v]) (rest := [.int (((1 <<< ((g1 (Int32.toNatClampNeg (10 * v + 1))) &&& 31)) - 1) &&& (r_45 ^^^ (-1)))]) ⟨hx, hb, hml, hown, hts⟩ (m_fixed l D H.size cI h0 a0 a1 a2 a3 a4 a5 a6 a7 a8 a9 ab tk mm wm fa 0 se g1 g2 v (by first | assumption | decide | omega)) (cwV 1 hts gX9_both_X9_fixed rfl rfl rfl (by decide +kernel) ⟨Nat.le_of_ble_eq_true rfl, Nat.le_of_ble_eq_true rfl⟩) (st_preV (ci := 8) (q0 := 1) hP hD hK hNW [1, 2, 0] [0] rfl rfl (by decide) rfl rfl rfl rfl) rfl rfl hl.1 rfl (lv_room (Nat.le_of_ble_eq_true rfl)) dX9_both_58 ⟨(Nat.le_of_ble_eq_true rfl), (Nat.le_of_ble_eq_true rfl)⟩) (fun r_46 u H locs hw hP hD hK hS => ?_)
      have hP : va_P D vwCl [(h0, .inr (8, [.ref a0, .int tk, .ref a1, .int mm, .ref a2, .ref a3, .ref a4, .ref a5, .ref a6, .ref a7, .int wm, .int fa, .int 0, .int se, .ref a8, .ref a9, .ref ab])), (a1, .inl (cI, 80, .inl g1)), (a2, .inl (cI, 128, .inl g2))] H := hP
      have hD : va_D A [(h0, .inr (8, [.ref a0, .int tk, .ref a1, .int mm, .ref a2, .ref a3, .ref a4, .ref a5, .ref a6, .ref a7, .int wm, .int fa, .int 0, .int se, .ref a8, .ref a9, .ref ab])), (a1, .inl (cI, 80, .inl g1)), (a2, .inl (cI, 128, .inl g2))] := hD
      have hK : va_K D vwCl [(cI, .int)] s := hK
      refine lv_iconst (v := (-1)) hx hb dX9_both_61 (by decide) ?_
      refine lv_ixor hx hb dX9_both_62 ?_
      refine lv_iand hx hb dX9_both_63 ?_
      exact hJ_43 _ _ _ _ ⟨(((1 <<< ((g1 (Int32.toNatClampNeg (10 * v + 1))) &&& 31)) - 1) &&& (r_45 ^^^ (-1))) &&& (r_46 ^^^ (-1)), rfl, ⟨hP.sub [2, 0, 1] rfl, hD.sub [2, 0, 1] (by decide) rfl⟩, hS, lv_sub hl [0, 1, 2] rfl⟩
  refine lv_iconst (v := (-1)) hx hb dX9_both_36 (by decide) ?_
  exact ret_i hx hb hr hlocks rfl (u := 0) trivial (hP.sub [1, 2, 0] rfl) (hK.sub [] rfl) (hD.sub [1, 2, 0] (by decide) rfl) hS (Nat.le_of_ble_eq_true rfl) (Nat.le_of_ble_eq_true rfl) dX9_both_37
theorem him_of_X9 : ∀ w ∈ wsX90, w ∈ wsX9_of := mem_pl [33, 34, 35, 36, 37, 38, 39, 40, 41, 42, 43, 44, 45, 46, 47, 48, 49] rfl
set_option maxHeartbeats 4000000 in
set_option maxRecDepth 100000 in
theorem m_of (l : Launch) (D : va_G) (sz : Nat) (cI : ClassId) (h0 : Nat) (a0 : Nat) (a1 : Nat) (a2 : Nat) (a3 : Nat) (a4 : Nat) (a5 : Nat) (a6 : Nat) (a7 : Nat) (a8 : Nat) (a9 : Nat) (ab : Nat) (tk : Int32) (mm : Int32) (wm : Int32) (fa : Int32) (th : Int32) (se : Int32) (g1 : Nat → Int32) (g2 : Nat → Int32) (v : Int32) (w : Int32) (hmm : bi mm 0 8) : Ci l yX9_of wsX9_of ({ frames := 3, cells := 0, slots := 0, locals := 66 } : Room) D [.ref h0, .int v, .int w] [(h0, .inr (8, [.ref a0, .int tk, .ref a1, .int mm, .ref a2, .ref a3, .ref a4, .ref a5, .ref a6, .ref a7, .int wm, .int fa, .int th, .int se, .ref a8, .ref a9, .ref ab])), (a1, .inl (cI, 80, .inl g1)), (a2, .inl (cI, 128, .inl g2))] [(cI, .int)] sz (fun (r : Int32) => fun (th2 : Int32) => True) (fun (th2 : Int32) => [(h0, .inr (8, [.ref a0, .int tk, .ref a1, .int mm, .ref a2, .ref a3, .ref a4, .ref a5, .ref a6, .ref a7, .int wm, .int fa, .int th2, .int se, .ref a8, .ref a9, .ref ab])), (a1, .inl (cI, 80, .inl g1)), (a2, .inl (cI, 128, .inl g2))]) (fun (th2 : Int32) => []) := by
  refine ct_i (cc := cX9_of) (maxL := 3) (ret := (some .int)) (by decide) rfl (Nat.le_of_ble_eq_true rfl) ?_
  intro p e s m below meth c A ls H hx hb hr hts hown hml hlocks hin hA hS hP hK hD hNW hl hAe hsz
  have hl : lv_has ls 3 [(0, .ref h0), (1, .int v), (2, .int w)] := hl
  refine lv_aload_n hx hb dX9_of_0 rfl (lv_at hl 0 rfl) ?_
  refine lv_iconst (v := 0) hx hb dX9_of_1 (by decide) ?_
  refine va_put (D := D) (ci := 8) (v := .int 0) (ty := .int) (C := RX9) (T := TX9) (N := 17) hx hb hts him_of_X9 tyX9 tyX9_ok nmX9 hown hK hP hD hS 0 rfl rfl 12 (by decide) (hts (.fieldLink RX9 43 "OneHandsetModel" "thrown" "I") (List.mem_of_getElem? (i := 1) rfl)) (fun _ h9 => h9) rfl (by decide +kernel) rfl rfl (Nat.le_of_ble_eq_true rfl) dX9_of_2 (fun H locs hP hD hS => ?_)
  have hP : va_P D vwCl [(h0, .inr (8, [.ref a0, .int tk, .ref a1, .int mm, .ref a2, .ref a3, .ref a4, .ref a5, .ref a6, .ref a7, .int wm, .int fa, .int 0, .int se, .ref a8, .ref a9, .ref ab])), (a1, .inl (cI, 80, .inl g1)), (a2, .inl (cI, 128, .inl g2))] H := hP
  have hD : va_D A [(h0, .inr (8, [.ref a0, .int tk, .ref a1, .int mm, .ref a2, .ref a3, .ref a4, .ref a5, .ref a6, .ref a7, .int wm, .int fa, .int 0, .int se, .ref a8, .ref a9, .ref ab])), (a1, .inl (cI, 80, .inl g1)), (a2, .inl (cI, 128, .inl g2))] := hD
  refine lv_aload_n hx hb dX9_of_5 rfl (lv_at hl 0 rfl) ?_
  refine lv_iload_n hx hb dX9_of_6 rfl (lv_at hl 1 rfl) ?_
  refine go_i (wr := [(a1, .inl (cI, 80, .inl g1)), (a2, .inl (cI, 128, .inl g2))]) (tysr := [(cI, .int)]) hP hD hS hA hK [0] [1, 2] [0] rfl rfl (by decide) (by decide) rfl (va_runV (As := [.int v]) (rest := []) ⟨hx, hb, hml, hown, hts⟩ (m_isMake l D H.size cI h0 a0 a1 a2 a3 a4 a5 a6 a7 a8 a9 ab tk mm wm fa 0 se v ) (cwV 1 hts gX9_of_X9_isMake rfl rfl rfl (by decide +kernel) ⟨Nat.le_of_ble_eq_true rfl, Nat.le_of_ble_eq_true rfl⟩) (st_preV (ci := 8) (q0 := 0) hP hD hK hNW [0] [0] rfl rfl (by decide) rfl rfl rfl rfl) rfl rfl hl.1 rfl (lv_room (Nat.le_of_ble_eq_true rfl)) dX9_of_7 ⟨(Nat.le_of_ble_eq_true rfl), (Nat.le_of_ble_eq_true rfl)⟩) (fun r_1 u H locs hw hP hD hK hS => ?_)
  have hw : r_1 = wi v 0 (mm - 1) := hw
  subst hw
  have hP : va_P D vwCl [(a1, .inl (cI, 80, .inl g1)), (a2, .inl (cI, 128, .inl g2)), (h0, .inr (8, [.ref a0, .int tk, .ref a1, .int mm, .ref a2, .ref a3, .ref a4, .ref a5, .ref a6, .ref a7, .int wm, .int fa, .int 0, .int se, .ref a8, .ref a9, .ref ab]))] H := hP
  have hD : va_D A [(a1, .inl (cI, 80, .inl g1)), (a2, .inl (cI, 128, .inl g2)), (h0, .inr (8, [.ref a0, .int tk, .ref a1, .int mm, .ref a2, .ref a3, .ref a4, .ref a5, .ref a6, .ref a7, .int wm, .int fa, .int 0, .int se, .ref a8, .ref a9, .ref ab]))] := hD
  have hK : va_K D vwCl [(cI, .int)] s := hK
  refine lv_if_ne (tgt := 15) hx hb dX9_of_10 (by decide) (fun c_2 => ?_) (fun c_2 => ?_)
  · have hv7_3 : bi v 0 7 := (by have : (0 : Int32).toInt = 0 := (by decide); have := ti_wi1 c_2; have u1 := ti_m1 (i := mm) (by omega); omega)
    have hvm_4 : v.toInt < mm.toInt := (by have : (0 : Int32).toInt = 0 := (by decide); have := ti_wi1 c_2; have u1 := ti_m1 (i := mm) (by omega); omega)
    refine lv_iload_n hx hb dX9_of_15 rfl (lv_at hl 2 rfl) ?_
    rcases tsw (n := 7) (by decide) (by decide) w with h_5 | h_5
    · obtain ⟨k_9, hk_9, e_9⟩ := h_5
      rcases (show k_9 = 0 ∨ k_9 = 1 ∨ k_9 = 2 ∨ k_9 = 3 ∨ k_9 = 4 ∨ k_9 = 5 ∨ k_9 = 6 by omega) with rfl | rfl | rfl | rfl | rfl | rfl | rfl
      · have c_6 : w = (0 : Int32) := e_9
        refine W.eq (g2 := F0 m 16 ls [.int 0]) (by rw [c_6]) ?_
        refine lv_tableIn (off := 44) (tgt := 60) hx hb dX9_of_16 (by decide) (by decide) rfl (by decide) ?_
        refine lv_aload_n hx hb dX9_of_60 rfl (lv_at hl 0 rfl) ?_
        refine lv_iload_n hx hb dX9_of_61 rfl (lv_at hl 1 rfl) ?_
        refine lv_iconst (v := 0) hx hb dX9_of_62 (by decide) ?_
        refine go_i (wr := [(a2, .inl (cI, 128, .inl g2))]) (tysr := [(cI, .int)]) hP hD hS hA hK [2, 0] [1] [0] rfl rfl (by decide) (by decide) rfl (va_runV (As := [.int v, .int 0]) (rest := []) ⟨hx, hb, hml, hown, hts⟩ (m_get l D H.size cI h0 a0 a1 a2 a3 a4 a5 a6 a7 a8 a9 ab tk mm wm fa 0 se g1 v 0 (by first | assumption | decide | omega) (by first | assumption | decide | omega)) (cwV 2 hts gX9_of_X9_get rfl rfl rfl (by decide +kernel) ⟨Nat.le_of_ble_eq_true rfl, Nat.le_of_ble_eq_true rfl⟩) (st_preV (ci := 8) (q0 := 2) hP hD hK hNW [2, 0] [0] rfl rfl (by decide) rfl rfl rfl rfl) rfl rfl hl.1 rfl (lv_room (Nat.le_of_ble_eq_true rfl)) dX9_of_63 ⟨(Nat.le_of_ble_eq_true rfl), (Nat.le_of_ble_eq_true rfl)⟩) (fun r_7 u H locs hw hP hD hK hS => ?_)
        have hw : r_7 = g1 (Int32.toNatClampNeg (10 * v + 0)) := hw
        subst hw
        have hP : va_P D vwCl [(a2, .inl (cI, 128, .inl g2)), (h0, .inr (8, [.ref a0, .int tk, .ref a1, .int mm, .ref a2, .ref a3, .ref a4, .ref a5, .ref a6, .ref a7, .int wm, .int fa, .int 0, .int se, .ref a8, .ref a9, .ref ab])), (a1, .inl (cI, 80, .inl g1))] H := hP
        have hD : va_D A [(a2, .inl (cI, 128, .inl g2)), (h0, .inr (8, [.ref a0, .int tk, .ref a1, .int mm, .ref a2, .ref a3, .ref a4, .ref a5, .ref a6, .ref a7, .int wm, .int fa, .int 0, .int se, .ref a8, .ref a9, .ref ab])), (a1, .inl (cI, 80, .inl g1))] := hD
        have hK : va_K D vwCl [(cI, .int)] s := hK
        exact ret_i hx hb hr hlocks rfl (u := 0) trivial (hP.sub [1, 2, 0] rfl) (hK.sub [] rfl) (hD.sub [1, 2, 0] (by decide) rfl) hS (Nat.le_of_ble_eq_true rfl) (Nat.le_of_ble_eq_true rfl) dX9_of_66
      · have c_8 : w = (1 : Int32) := e_9
        refine W.eq (g2 := F0 m 16 ls [.int 1]) (by rw [c_8]) ?_
        refine lv_tableIn (off := 51) (tgt := 67) hx hb dX9_of_16 (by decide) (by decide) rfl (by decide) ?_
        refine lv_aload_n hx hb dX9_of_67 rfl (lv_at hl 0 rfl) ?_
        refine lv_iload_n hx hb dX9_of_68 rfl (lv_at hl 1 rfl) ?_
        refine lv_iconst (v := 1) hx hb dX9_of_69 (by decide) ?_
        refine go_i (wr := [(a2, .inl (cI, 128, .inl g2))]) (tysr := [(cI, .int)]) hP hD hS hA hK [2, 0] [1] [0] rfl rfl (by decide) (by decide) rfl (va_runV (As := [.int v, .int 1]) (rest := []) ⟨hx, hb, hml, hown, hts⟩ (m_get l D H.size cI h0 a0 a1 a2 a3 a4 a5 a6 a7 a8 a9 ab tk mm wm fa 0 se g1 v 1 (by first | assumption | decide | omega) (by first | assumption | decide | omega)) (cwV 2 hts gX9_of_X9_get rfl rfl rfl (by decide +kernel) ⟨Nat.le_of_ble_eq_true rfl, Nat.le_of_ble_eq_true rfl⟩) (st_preV (ci := 8) (q0 := 2) hP hD hK hNW [2, 0] [0] rfl rfl (by decide) rfl rfl rfl rfl) rfl rfl hl.1 rfl (lv_room (Nat.le_of_ble_eq_true rfl)) dX9_of_70 ⟨(Nat.le_of_ble_eq_true rfl), (Nat.le_of_ble_eq_true rfl)⟩) (fun r_9 u H locs hw hP hD hK hS => ?_)
        have hw : r_9 = g1 (Int32.toNatClampNeg (10 * v + 1)) := hw
        subst hw
        have hP : va_P D vwCl [(a2, .inl (cI, 128, .inl g2)), (h0, .inr (8, [.ref a0, .int tk, .ref a1, .int mm, .ref a2, .ref a3, .ref a4, .ref a5, .ref a6, .ref a7, .int wm, .int fa, .int 0, .int se, .ref a8, .ref a9, .ref ab])), (a1, .inl (cI, 80, .inl g1))] H := hP
        have hD : va_D A [(a2, .inl (cI, 128, .inl g2)), (h0, .inr (8, [.ref a0, .int tk, .ref a1, .int mm, .ref a2, .ref a3, .ref a4, .ref a5, .ref a6, .ref a7, .int wm, .int fa, .int 0, .int se, .ref a8, .ref a9, .ref ab])), (a1, .inl (cI, 80, .inl g1))] := hD
        have hK : va_K D vwCl [(cI, .int)] s := hK
        exact ret_i hx hb hr hlocks rfl (u := 0) trivial (hP.sub [1, 2, 0] rfl) (hK.sub [] rfl) (hD.sub [1, 2, 0] (by decide) rfl) hS (Nat.le_of_ble_eq_true rfl) (Nat.le_of_ble_eq_true rfl) dX9_of_73
      · have c_10 : w = (2 : Int32) := e_9
        refine W.eq (g2 := F0 m 16 ls [.int 2]) (by rw [c_10]) ?_
        refine lv_tableIn (off := 58) (tgt := 74) hx hb dX9_of_16 (by decide) (by decide) rfl (by decide) ?_
        refine lv_aload_n hx hb dX9_of_74 rfl (lv_at hl 0 rfl) ?_
        refine lv_iload_n hx hb dX9_of_75 rfl (lv_at hl 1 rfl) ?_
        refine lv_bipush (v := 7) hx hb dX9_of_76 (by decide) ?_
        refine go_i (wr := [(a2, .inl (cI, 128, .inl g2))]) (tysr := [(cI, .int)]) hP hD hS hA hK [2, 0] [1] [0] rfl rfl (by decide) (by decide) rfl (va_runV (As := [.int v, .int 7]) (rest := []) ⟨hx, hb, hml, hown, hts⟩ (m_get l D H.size cI h0 a0 a1 a2 a3 a4 a5 a6 a7 a8 a9 ab tk mm wm fa 0 se g1 v 7 (by first | assumption | decide | omega) (by first | assumption | decide | omega)) (cwV 2 hts gX9_of_X9_get rfl rfl rfl (by decide +kernel) ⟨Nat.le_of_ble_eq_true rfl, Nat.le_of_ble_eq_true rfl⟩) (st_preV (ci := 8) (q0 := 2) hP hD hK hNW [2, 0] [0] rfl rfl (by decide) rfl rfl rfl rfl) rfl rfl hl.1 rfl (lv_room (Nat.le_of_ble_eq_true rfl)) dX9_of_78 ⟨(Nat.le_of_ble_eq_true rfl), (Nat.le_of_ble_eq_true rfl)⟩) (fun r_11 u H locs hw hP hD hK hS => ?_)
        have hw : r_11 = g1 (Int32.toNatClampNeg (10 * v + 7)) := hw
        subst hw
        have hP : va_P D vwCl [(a2, .inl (cI, 128, .inl g2)), (h0, .inr (8, [.ref a0, .int tk, .ref a1, .int mm, .ref a2, .ref a3, .ref a4, .ref a5, .ref a6, .ref a7, .int wm, .int fa, .int 0, .int se, .ref a8, .ref a9, .ref ab])), (a1, .inl (cI, 80, .inl g1))] H := hP
        have hD : va_D A [(a2, .inl (cI, 128, .inl g2)), (h0, .inr (8, [.ref a0, .int tk, .ref a1, .int mm, .ref a2, .ref a3, .ref a4, .ref a5, .ref a6, .ref a7, .int wm, .int fa, .int 0, .int se, .ref a8, .ref a9, .ref ab])), (a1, .inl (cI, 80, .inl g1))] := hD
        have hK : va_K D vwCl [(cI, .int)] s := hK
        exact ret_i hx hb hr hlocks rfl (u := 0) trivial (hP.sub [1, 2, 0] rfl) (hK.sub [] rfl) (hD.sub [1, 2, 0] (by decide) rfl) hS (Nat.le_of_ble_eq_true rfl) (Nat.le_of_ble_eq_true rfl) dX9_of_81
      · have c_12 : w = (3 : Int32) := e_9
        refine W.eq (g2 := F0 m 16 ls [.int 3]) (by rw [c_12]) ?_
        refine lv_tableIn (off := 66) (tgt := 82) hx hb dX9_of_16 (by decide) (by decide) rfl (by decide) ?_
        refine lv_aload_n hx hb dX9_of_82 rfl (lv_at hl 0 rfl) ?_
        refine lv_iload_n hx hb dX9_of_83 rfl (lv_at hl 1 rfl) ?_
        refine lv_bipush (v := 8) hx hb dX9_of_84 (by decide) ?_
        refine go_i (wr := [(a2, .inl (cI, 128, .inl g2))]) (tysr := [(cI, .int)]) hP hD hS hA hK [2, 0] [1] [0] rfl rfl (by decide) (by decide) rfl (va_runV (As := [.int v, .int 8]) (rest := []) ⟨hx, hb, hml, hown, hts⟩ (m_get l D H.size cI h0 a0 a1 a2 a3 a4 a5 a6 a7 a8 a9 ab tk mm wm fa 0 se g1 v 8 (by first | assumption | decide | omega) (by first | assumption | decide | omega)) (cwV 2 hts gX9_of_X9_get rfl rfl rfl (by decide +kernel) ⟨Nat.le_of_ble_eq_true rfl, Nat.le_of_ble_eq_true rfl⟩) (st_preV (ci := 8) (q0 := 2) hP hD hK hNW [2, 0] [0] rfl rfl (by decide) rfl rfl rfl rfl) rfl rfl hl.1 rfl (lv_room (Nat.le_of_ble_eq_true rfl)) dX9_of_86 ⟨(Nat.le_of_ble_eq_true rfl), (Nat.le_of_ble_eq_true rfl)⟩) (fun r_13 u H locs hw hP hD hK hS => ?_)
        have hw : r_13 = g1 (Int32.toNatClampNeg (10 * v + 8)) := hw
        subst hw
        have hP : va_P D vwCl [(a2, .inl (cI, 128, .inl g2)), (h0, .inr (8, [.ref a0, .int tk, .ref a1, .int mm, .ref a2, .ref a3, .ref a4, .ref a5, .ref a6, .ref a7, .int wm, .int fa, .int 0, .int se, .ref a8, .ref a9, .ref ab])), (a1, .inl (cI, 80, .inl g1))] H := hP
        have hD : va_D A [(a2, .inl (cI, 128, .inl g2)), (h0, .inr (8, [.ref a0, .int tk, .ref a1, .int mm, .ref a2, .ref a3, .ref a4, .ref a5, .ref a6, .ref a7, .int wm, .int fa, .int 0, .int se, .ref a8, .ref a9, .ref ab])), (a1, .inl (cI, 80, .inl g1))] := hD
        have hK : va_K D vwCl [(cI, .int)] s := hK
        exact ret_i hx hb hr hlocks rfl (u := 0) trivial (hP.sub [1, 2, 0] rfl) (hK.sub [] rfl) (hD.sub [1, 2, 0] (by decide) rfl) hS (Nat.le_of_ble_eq_true rfl) (Nat.le_of_ble_eq_true rfl) dX9_of_89
      · have c_14 : w = (4 : Int32) := e_9
        refine W.eq (g2 := F0 m 16 ls [.int 4]) (by rw [c_14]) ?_
        refine lv_tableIn (off := 74) (tgt := 90) hx hb dX9_of_16 (by decide) (by decide) rfl (by decide) ?_
        refine lv_aload_n hx hb dX9_of_90 rfl (lv_at hl 0 rfl) ?_
        refine lv_iload_n hx hb dX9_of_91 rfl (lv_at hl 1 rfl) ?_
        refine go_i (wr := [(a1, .inl (cI, 80, .inl g1))]) (tysr := [(cI, .int)]) hP hD hS hA hK [2, 1] [0] [0] rfl rfl (by decide) (by decide) rfl (va_runV (As := [.int v]) (rest := []) ⟨hx, hb, hml, hown, hts⟩ (m_learnt l D H.size cI h0 a0 a1 a2 a3 a4 a5 a6 a7 a8 a9 ab tk mm wm fa 0 se g2 v (by first | assumption | decide | omega)) (cwV 1 hts gX9_of_X9_learnt rfl rfl rfl (by decide +kernel) ⟨Nat.le_of_ble_eq_true rfl, Nat.le_of_ble_eq_true rfl⟩) (st_preV (ci := 8) (q0 := 2) hP hD hK hNW [2, 1] [0] rfl rfl (by decide) rfl rfl rfl rfl) rfl rfl hl.1 rfl (lv_room (Nat.le_of_ble_eq_true rfl)) dX9_of_92 ⟨(Nat.le_of_ble_eq_true rfl), (Nat.le_of_ble_eq_true rfl)⟩) (fun r_15 u H locs hw hP hD hK hS => ?_)
        have hP : va_P D vwCl [(a1, .inl (cI, 80, .inl g1)), (h0, .inr (8, [.ref a0, .int tk, .ref a1, .int mm, .ref a2, .ref a3, .ref a4, .ref a5, .ref a6, .ref a7, .int wm, .int fa, .int 0, .int se, .ref a8, .ref a9, .ref ab])), (a2, .inl (cI, 128, .inl g2))] H := hP
        have hD : va_D A [(a1, .inl (cI, 80, .inl g1)), (h0, .inr (8, [.ref a0, .int tk, .ref a1, .int mm, .ref a2, .ref a3, .ref a4, .ref a5, .ref a6, .ref a7, .int wm, .int fa, .int 0, .int se, .ref a8, .ref a9, .ref ab])), (a2, .inl (cI, 128, .inl g2))] := hD
        have hK : va_K D vwCl [(cI, .int)] s := hK
        exact ret_i hx hb hr hlocks rfl (u := 0) trivial (hP.sub [1, 0, 2] rfl) (hK.sub [] rfl) (hD.sub [1, 0, 2] (by decide) rfl) hS (Nat.le_of_ble_eq_true rfl) (Nat.le_of_ble_eq_true rfl) dX9_of_95
      · have c_16 : w = (5 : Int32) := e_9
        refine W.eq (g2 := F0 m 16 ls [.int 5]) (by rw [c_16]) ?_
        refine lv_tableIn (off := 80) (tgt := 96) hx hb dX9_of_16 (by decide) (by decide) rfl (by decide) ?_
        refine lv_aload_n hx hb dX9_of_96 rfl (lv_at hl 0 rfl) ?_
        refine lv_iload_n hx hb dX9_of_97 rfl (lv_at hl 1 rfl) ?_
        refine go_i (wr := []) (tysr := [(cI, .int)]) hP hD hS hA hK [2, 0, 1] [] [0] rfl rfl (by decide) (by decide) rfl (va_runV (As := [.int v]) (rest := []) ⟨hx, hb, hml, hown, hts⟩ (m_fixed l D H.size cI h0 a0 a1 a2 a3 a4 a5 a6 a7 a8 a9 ab tk mm wm fa 0 se g1 g2 v (by first | assumption | decide | omega)) (cwV 1 hts gX9_of_X9_fixed rfl rfl rfl (by decide +kernel) ⟨Nat.le_of_ble_eq_true rfl, Nat.le_of_ble_eq_true rfl⟩) (st_preV (ci := 8) (q0 := 2) hP hD hK hNW [2, 0, 1] [0] rfl rfl (by decide) rfl rfl rfl rfl) rfl rfl hl.1 rfl (lv_room (Nat.le_of_ble_eq_true rfl)) dX9_of_98 ⟨(Nat.le_of_ble_eq_true rfl), (Nat.le_of_ble_eq_true rfl)⟩) (fun r_17 u H locs hw hP hD hK hS => ?_)
        have hP : va_P D vwCl [(h0, .inr (8, [.ref a0, .int tk, .ref a1, .int mm, .ref a2, .ref a3, .ref a4, .ref a5, .ref a6, .ref a7, .int wm, .int fa, .int 0, .int se, .ref a8, .ref a9, .ref ab])), (a1, .inl (cI, 80, .inl g1)), (a2, .inl (cI, 128, .inl g2))] H := hP
        have hD : va_D A [(h0, .inr (8, [.ref a0, .int tk, .ref a1, .int mm, .ref a2, .ref a3, .ref a4, .ref a5, .ref a6, .ref a7, .int wm, .int fa, .int 0, .int se, .ref a8, .ref a9, .ref ab])), (a1, .inl (cI, 80, .inl g1)), (a2, .inl (cI, 128, .inl g2))] := hD
        have hK : va_K D vwCl [(cI, .int)] s := hK
        exact ret_i hx hb hr hlocks rfl (u := 0) trivial (hP.sub [0, 1, 2] rfl) (hK.sub [] rfl) (hD.sub [0, 1, 2] (by decide) rfl) hS (Nat.le_of_ble_eq_true rfl) (Nat.le_of_ble_eq_true rfl) dX9_of_101
      · have c_18 : w = (6 : Int32) := e_9
        refine W.eq (g2 := F0 m 16 ls [.int 6]) (by rw [c_18]) ?_
        refine lv_tableIn (off := 86) (tgt := 102) hx hb dX9_of_16 (by decide) (by decide) rfl (by decide) ?_
        refine lv_aload_n hx hb dX9_of_102 rfl (lv_at hl 0 rfl) ?_
        refine lv_iload_n hx hb dX9_of_103 rfl (lv_at hl 1 rfl) ?_
        refine lv_bipush (v := 9) hx hb dX9_of_104 (by decide) ?_
        refine go_i (wr := [(a2, .inl (cI, 128, .inl g2))]) (tysr := [(cI, .int)]) hP hD hS hA hK [2, 0] [1] [0] rfl rfl (by decide) (by decide) rfl (va_runV (As := [.int v, .int 9]) (rest := []) ⟨hx, hb, hml, hown, hts⟩ (m_get l D H.size cI h0 a0 a1 a2 a3 a4 a5 a6 a7 a8 a9 ab tk mm wm fa 0 se g1 v 9 (by first | assumption | decide | omega) (by first | assumption | decide | omega)) (cwV 2 hts gX9_of_X9_get rfl rfl rfl (by decide +kernel) ⟨Nat.le_of_ble_eq_true rfl, Nat.le_of_ble_eq_true rfl⟩) (st_preV (ci := 8) (q0 := 2) hP hD hK hNW [2, 0] [0] rfl rfl (by decide) rfl rfl rfl rfl) rfl rfl hl.1 rfl (lv_room (Nat.le_of_ble_eq_true rfl)) dX9_of_106 ⟨(Nat.le_of_ble_eq_true rfl), (Nat.le_of_ble_eq_true rfl)⟩) (fun r_19 u H locs hw hP hD hK hS => ?_)
        have hw : r_19 = g1 (Int32.toNatClampNeg (10 * v + 9)) := hw
        subst hw
        have hP : va_P D vwCl [(a2, .inl (cI, 128, .inl g2)), (h0, .inr (8, [.ref a0, .int tk, .ref a1, .int mm, .ref a2, .ref a3, .ref a4, .ref a5, .ref a6, .ref a7, .int wm, .int fa, .int 0, .int se, .ref a8, .ref a9, .ref ab])), (a1, .inl (cI, 80, .inl g1))] H := hP
        have hD : va_D A [(a2, .inl (cI, 128, .inl g2)), (h0, .inr (8, [.ref a0, .int tk, .ref a1, .int mm, .ref a2, .ref a3, .ref a4, .ref a5, .ref a6, .ref a7, .int wm, .int fa, .int 0, .int se, .ref a8, .ref a9, .ref ab])), (a1, .inl (cI, 80, .inl g1))] := hD
        have hK : va_K D vwCl [(cI, .int)] s := hK
        exact ret_i hx hb hr hlocks rfl (u := 0) trivial (hP.sub [1, 2, 0] rfl) (hK.sub [] rfl) (hD.sub [1, 2, 0] (by decide) rfl) hS (Nat.le_of_ble_eq_true rfl) (Nat.le_of_ble_eq_true rfl) dX9_of_109
    refine lv_tableOut (tgt := 110) hx hb dX9_of_16 h_5 (by decide) ?_
    have c_21 : ¬ w = (0 : Int32) := tsw_ne (n := 7) (k := 0) (by decide) (by decide) h_5
    have c_22 : ¬ w = (1 : Int32) := tsw_ne (n := 7) (k := 1) (by decide) (by decide) h_5
    have c_23 : ¬ w = (2 : Int32) := tsw_ne (n := 7) (k := 2) (by decide) (by decide) h_5
    have c_24 : ¬ w = (3 : Int32) := tsw_ne (n := 7) (k := 3) (by decide) (by decide) h_5
    have c_25 : ¬ w = (4 : Int32) := tsw_ne (n := 7) (k := 4) (by decide) (by decide) h_5
    have c_26 : ¬ w = (5 : Int32) := tsw_ne (n := 7) (k := 5) (by decide) (by decide) h_5
    have c_27 : ¬ w = (6 : Int32) := tsw_ne (n := 7) (k := 6) (by decide) (by decide) h_5
    refine lv_iconst (v := (-1)) hx hb dX9_of_110 (by decide) ?_
    exact ret_i hx hb hr hlocks rfl (u := 0) trivial (hP.sub [2, 0, 1] rfl) (hK.sub [] rfl) (hD.sub [2, 0, 1] (by decide) rfl) hS (Nat.le_of_ble_eq_true rfl) (Nat.le_of_ble_eq_true rfl) dX9_of_111
  refine lv_iconst (v := (-1)) hx hb dX9_of_13 (by decide) ?_
  exact ret_i hx hb hr hlocks rfl (u := 0) trivial (hP.sub [2, 0, 1] rfl) (hK.sub [] rfl) (hD.sub [2, 0, 1] (by decide) rfl) hS (Nat.le_of_ble_eq_true rfl) (Nat.le_of_ble_eq_true rfl) dX9_of_14
theorem him_check_X9 : ∀ w ∈ wsX90, w ∈ wsX9_check := mem_pl [36, 37, 38, 39, 40, 41, 42, 43, 44, 45, 46, 47, 48, 49, 50, 51, 52] rfl
set_option maxHeartbeats 4000000 in
set_option maxRecDepth 100000 in
theorem m_check (l : Launch) (D : va_G) (sz : Nat) (cI : ClassId) (h0 : Nat) (a0 : Nat) (a1 : Nat) (a2 : Nat) (a3 : Nat) (a4 : Nat) (a5 : Nat) (a6 : Nat) (a7 : Nat) (a8 : Nat) (a9 : Nat) (ab : Nat) (tk : Int32) (mm : Int32) (wm : Int32) (fa : Int32) (th : Int32) (se : Int32) (g1 : Nat → Int32) (g2 : Nat → Int32) (v : Int32) (w : Int32) (hmm : bi mm 0 8) : Ci l yX9_check wsX9_check ({ frames := 3, cells := 0, slots := 0, locals := 72 } : Room) D [.ref h0, .int v, .int w] [(h0, .inr (8, [.ref a0, .int tk, .ref a1, .int mm, .ref a2, .ref a3, .ref a4, .ref a5, .ref a6, .ref a7, .int wm, .int fa, .int th, .int se, .ref a8, .ref a9, .ref ab])), (a1, .inl (cI, 80, .inl g1)), (a2, .inl (cI, 128, .inl g2))] [(cI, .int)] sz (fun (r : Int32) => fun (th2 : Int32) => True) (fun (th2 : Int32) => [(h0, .inr (8, [.ref a0, .int tk, .ref a1, .int mm, .ref a2, .ref a3, .ref a4, .ref a5, .ref a6, .ref a7, .int wm, .int fa, .int th2, .int se, .ref a8, .ref a9, .ref ab])), (a1, .inl (cI, 80, .inl g1)), (a2, .inl (cI, 128, .inl g2))]) (fun (th2 : Int32) => []) := by
  refine ct_i (cc := cX9_check) (maxL := 3) (ret := (some .int)) (by decide) rfl (Nat.le_of_ble_eq_true rfl) ?_
  intro p e s m below meth c A ls H hx hb hr hts hown hml hlocks hin hA hS hP hK hD hNW hl hAe hsz
  have hl : lv_has ls 3 [(0, .ref h0), (1, .int v), (2, .int w)] := hl
  refine lv_aload_n hx hb dX9_check_0 rfl (lv_at hl 0 rfl) ?_
  refine lv_iconst (v := 0) hx hb dX9_check_1 (by decide) ?_
  refine va_put (D := D) (ci := 8) (v := .int 0) (ty := .int) (C := RX9) (T := TX9) (N := 17) hx hb hts him_check_X9 tyX9 tyX9_ok nmX9 hown hK hP hD hS 0 rfl rfl 12 (by decide) (hts (.fieldLink RX9 43 "OneHandsetModel" "thrown" "I") (List.mem_of_getElem? (i := 1) rfl)) (fun _ h9 => h9) rfl (by decide +kernel) rfl rfl (Nat.le_of_ble_eq_true rfl) dX9_check_2 (fun H locs hP hD hS => ?_)
  have hP : va_P D vwCl [(h0, .inr (8, [.ref a0, .int tk, .ref a1, .int mm, .ref a2, .ref a3, .ref a4, .ref a5, .ref a6, .ref a7, .int wm, .int fa, .int 0, .int se, .ref a8, .ref a9, .ref ab])), (a1, .inl (cI, 80, .inl g1)), (a2, .inl (cI, 128, .inl g2))] H := hP
  have hD : va_D A [(h0, .inr (8, [.ref a0, .int tk, .ref a1, .int mm, .ref a2, .ref a3, .ref a4, .ref a5, .ref a6, .ref a7, .int wm, .int fa, .int 0, .int se, .ref a8, .ref a9, .ref ab])), (a1, .inl (cI, 80, .inl g1)), (a2, .inl (cI, 128, .inl g2))] := hD
  refine lv_aload_n hx hb dX9_check_5 rfl (lv_at hl 0 rfl) ?_
  refine lv_iload_n hx hb dX9_check_6 rfl (lv_at hl 1 rfl) ?_
  refine go_i (wr := [(a1, .inl (cI, 80, .inl g1)), (a2, .inl (cI, 128, .inl g2))]) (tysr := [(cI, .int)]) hP hD hS hA hK [0] [1, 2] [0] rfl rfl (by decide) (by decide) rfl (va_runV (As := [.int v]) (rest := []) ⟨hx, hb, hml, hown, hts⟩ (m_isMake l D H.size cI h0 a0 a1 a2 a3 a4 a5 a6 a7 a8 a9 ab tk mm wm fa 0 se v ) (cwV 1 hts gX9_check_X9_isMake rfl rfl rfl (by decide +kernel) ⟨Nat.le_of_ble_eq_true rfl, Nat.le_of_ble_eq_true rfl⟩) (st_preV (ci := 8) (q0 := 0) hP hD hK hNW [0] [0] rfl rfl (by decide) rfl rfl rfl rfl) rfl rfl hl.1 rfl (lv_room (Nat.le_of_ble_eq_true rfl)) dX9_check_7 ⟨(Nat.le_of_ble_eq_true rfl), (Nat.le_of_ble_eq_true rfl)⟩) (fun r_1 u H locs hw hP hD hK hS => ?_)
  have hw : r_1 = wi v 0 (mm - 1) := hw
  subst hw
  have hP : va_P D vwCl [(a1, .inl (cI, 80, .inl g1)), (a2, .inl (cI, 128, .inl g2)), (h0, .inr (8, [.ref a0, .int tk, .ref a1, .int mm, .ref a2, .ref a3, .ref a4, .ref a5, .ref a6, .ref a7, .int wm, .int fa, .int 0, .int se, .ref a8, .ref a9, .ref ab]))] H := hP
  have hD : va_D A [(a1, .inl (cI, 80, .inl g1)), (a2, .inl (cI, 128, .inl g2)), (h0, .inr (8, [.ref a0, .int tk, .ref a1, .int mm, .ref a2, .ref a3, .ref a4, .ref a5, .ref a6, .ref a7, .int wm, .int fa, .int 0, .int se, .ref a8, .ref a9, .ref ab]))] := hD
  have hK : va_K D vwCl [(cI, .int)] s := hK
  refine lv_if_eq (tgt := 31) hx hb dX9_check_10 (by decide) (fun c_2 => ?_) (fun c_2 => ?_)
  · refine lv_iconst (v := (-1)) hx hb dX9_check_31 (by decide) ?_
    exact ret_i hx hb hr hlocks rfl (u := 0) trivial (hP.sub [2, 0, 1] rfl) (hK.sub [] rfl) (hD.sub [2, 0, 1] (by decide) rfl) hS (Nat.le_of_ble_eq_true rfl) (Nat.le_of_ble_eq_true rfl) dX9_check_32
  have hv7_3 : bi v 0 7 := (by have : (0 : Int32).toInt = 0 := (by decide); have := ti_wi1 c_2; have u1 := ti_m1 (i := mm) (by omega); omega)
  have hvm_4 : v.toInt < mm.toInt := (by have : (0 : Int32).toInt = 0 := (by decide); have := ti_wi1 c_2; have u1 := ti_m1 (i := mm) (by omega); omega)
  refine lv_iload_n hx hb dX9_check_13 rfl (lv_at hl 2 rfl) ?_
  refine lv_iconst (v := 1) hx hb dX9_check_14 (by decide) ?_
  refine lv_iconst (v := 3) hx hb dX9_check_15 (by decide) ?_
  refine go_i (wr := [(a1, .inl (cI, 80, .inl g1)), (a2, .inl (cI, 128, .inl g2)), (h0, .inr (8, [.ref a0, .int tk, .ref a1, .int mm, .ref a2, .ref a3, .ref a4, .ref a5, .ref a6, .ref a7, .int wm, .int fa, .int 0, .int se, .ref a8, .ref a9, .ref ab]))]) (tysr := [(cI, .int)]) hP hD hS hA hK [] [0, 1, 2] [0] rfl rfl (by decide) (by decide) rfl (va_runS (As := [.int w, .int 1, .int 3]) (rest := []) ⟨hx, hb, hml, hown, hts⟩ (m_in l D H.size w 1 3 ) (va_cwS 3 hts gX9_check_X9_in rfl rfl rfl (by decide +kernel) ⟨Nat.le_of_ble_eq_true rfl, Nat.le_of_ble_eq_true rfl⟩) (st_preS hP hD hK hNW [] [] rfl rfl (by decide) rfl) rfl rfl hl.1 rfl (lv_room (Nat.le_of_ble_eq_true rfl)) dX9_check_16 ⟨(Nat.le_of_ble_eq_true rfl), (Nat.le_of_ble_eq_true rfl)⟩) (fun r_5 u H locs hw hP hD hK hS => ?_)
  have hw : r_5 = wi w 1 3 := hw
  subst hw
  have hP : va_P D vwCl [(a1, .inl (cI, 80, .inl g1)), (a2, .inl (cI, 128, .inl g2)), (h0, .inr (8, [.ref a0, .int tk, .ref a1, .int mm, .ref a2, .ref a3, .ref a4, .ref a5, .ref a6, .ref a7, .int wm, .int fa, .int 0, .int se, .ref a8, .ref a9, .ref ab]))] H := hP
  have hD : va_D A [(a1, .inl (cI, 80, .inl g1)), (a2, .inl (cI, 128, .inl g2)), (h0, .inr (8, [.ref a0, .int tk, .ref a1, .int mm, .ref a2, .ref a3, .ref a4, .ref a5, .ref a6, .ref a7, .int wm, .int fa, .int 0, .int se, .ref a8, .ref a9, .ref ab]))] := hD
  have hK : va_K D vwCl [(cI, .int)] s := hK
  refine lv_if_eq (tgt := 31) hx hb dX9_check_19 (by decide) (fun c_6 => ?_) (fun c_6 => ?_)
  · refine lv_iconst (v := (-1)) hx hb dX9_check_31 (by decide) ?_
    exact ret_i hx hb hr hlocks rfl (u := 0) trivial (hP.sub [2, 0, 1] rfl) (hK.sub [] rfl) (hD.sub [2, 0, 1] (by decide) rfl) hS (Nat.le_of_ble_eq_true rfl) (Nat.le_of_ble_eq_true rfl) dX9_check_32
  refine lv_aload_n hx hb dX9_check_22 rfl (lv_at hl 0 rfl) ?_
  refine lv_iload_n hx hb dX9_check_23 rfl (lv_at hl 1 rfl) ?_
  refine lv_iload_n hx hb dX9_check_24 rfl (lv_at hl 2 rfl) ?_
  refine go_i (wr := []) (tysr := [(cI, .int)]) hP hD hS hA hK [2, 0, 1] [] [0] rfl rfl (by decide) (by decide) rfl (va_runV (As := [.int v, .int w]) (rest := []) ⟨hx, hb, hml, hown, hts⟩ (m_checkOf l D H.size cI h0 a0 a1 a2 a3 a4 a5 a6 a7 a8 a9 ab tk mm wm fa 0 se g1 g2 v w (by first | assumption | decide | omega)) (cwV 2 hts gX9_check_X9_checkOf rfl rfl rfl (by decide +kernel) ⟨Nat.le_of_ble_eq_true rfl, Nat.le_of_ble_eq_true rfl⟩) (st_preV (ci := 8) (q0 := 2) hP hD hK hNW [2, 0, 1] [0] rfl rfl (by decide) rfl rfl rfl rfl) rfl rfl hl.1 rfl (lv_room (Nat.le_of_ble_eq_true rfl)) dX9_check_25 ⟨(Nat.le_of_ble_eq_true rfl), (Nat.le_of_ble_eq_true rfl)⟩) (fun r_7 u H locs hw hP hD hK hS => ?_)
  have hP : va_P D vwCl [(h0, .inr (8, [.ref a0, .int tk, .ref a1, .int mm, .ref a2, .ref a3, .ref a4, .ref a5, .ref a6, .ref a7, .int wm, .int fa, .int 0, .int se, .ref a8, .ref a9, .ref ab])), (a1, .inl (cI, 80, .inl g1)), (a2, .inl (cI, 128, .inl g2))] H := hP
  have hD : va_D A [(h0, .inr (8, [.ref a0, .int tk, .ref a1, .int mm, .ref a2, .ref a3, .ref a4, .ref a5, .ref a6, .ref a7, .int wm, .int fa, .int 0, .int se, .ref a8, .ref a9, .ref ab])), (a1, .inl (cI, 80, .inl g1)), (a2, .inl (cI, 128, .inl g2))] := hD
  have hK : va_K D vwCl [(cI, .int)] s := hK
  refine lv_goto (tgt := 32) hx hb dX9_check_28 (by decide) ?_
  exact ret_i hx hb hr hlocks rfl (u := 0) trivial (hP.sub [0, 1, 2] rfl) (hK.sub [] rfl) (hD.sub [0, 1, 2] (by decide) rfl) hS (Nat.le_of_ble_eq_true rfl) (Nat.le_of_ble_eq_true rfl) dX9_check_32
