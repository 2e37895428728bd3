set_option maxHeartbeats 4000000 in
set_option maxRecDepth 100000 in
theorem m_in (l : Launch) (D : va_G) (sz : Nat) (v : Int32) (lo : Int32) (hi : Int32)  : Ci l yX9_in wsX9_in ({ frames := 0, cells := 0, slots := 0, locals := 0 } : Room) D [.int v, .int lo, .int hi] [] [] sz (fun (r : Int32) => fun (_ : Unit) => r = wi v lo hi) (fun (_ : Unit) => []) (fun (_ : Unit) => []) := by
  refine ct_i (cc := cX9_in) (maxL := 3) (ret := (some .boolean)) (by decide) rfl (Nat.le_of_ble_eq_true rfl) ?_
  intro p e s m below meth c A ls H hx hb hr hts hown hml hlocks hin hA hS hP hK hD hNW hl hAe hsz
  have hl : lv_has ls 3 [(0, .int v), (1, .int lo), (2, .int hi)] := hl
  refine lv_iload_n hx hb dX9_in_0 rfl (lv_at hl 0 rfl) ?_
  refine lv_iload_n hx hb dX9_in_1 rfl (lv_at hl 1 rfl) ?_
  refine lv_icmp_lt (tgt := 14) hx hb dX9_in_2 (by decide) (fun c_1 => ?_) (fun c_1 => ?_)
  · refine lv_iconst (v := 0) hx hb dX9_in_14 (by decide) ?_
    exact ret_i hx hb hr hlocks rfl (u := ()) (by simp [wi, c_1]) (hP.sub [] rfl) (hK.sub [] rfl) (hD.sub [] (by decide) rfl) hS (Nat.le_of_ble_eq_true rfl) (Nat.le_of_ble_eq_true rfl) dX9_in_15
  refine lv_iload_n hx hb dX9_in_5 rfl (lv_at hl 0 rfl) ?_
  refine lv_iload_n hx hb dX9_in_6 rfl (lv_at hl 2 rfl) ?_
  refine lv_icmp_gt (tgt := 14) hx hb dX9_in_7 (by decide) (fun c_2 => ?_) (fun c_2 => ?_)
  · refine lv_iconst (v := 0) hx hb dX9_in_14 (by decide) ?_
    exact ret_i hx hb hr hlocks rfl (u := ()) (by simp [wi, c_1, c_2]) (hP.sub [] rfl) (hK.sub [] rfl) (hD.sub [] (by decide) rfl) hS (Nat.le_of_ble_eq_true rfl) (Nat.le_of_ble_eq_true rfl) dX9_in_15
  refine lv_iconst (v := 1) hx hb dX9_in_10 (by decide) ?_
  refine lv_goto (tgt := 15) hx hb dX9_in_11 (by decide) ?_
  exact ret_i hx hb hr hlocks rfl (u := ()) (by simp [wi, c_1, c_2]) (hP.sub [] rfl) (hK.sub [] rfl) (hD.sub [] (by decide) rfl) hS (Nat.le_of_ble_eq_true rfl) (Nat.le_of_ble_eq_true rfl) dX9_in_15
theorem him_isMake_X9 : ∀ w ∈ wsX90, w ∈ wsX9_isMake := mem_pl [6, 7, 8, 9, 10, 11, 12, 13, 14, 15, 16, 17, 18, 19, 20, 21, 22] rfl
set_option maxHeartbeats 4000000 in
set_option maxRecDepth 100000 in
theorem m_isMake (l : Launch) (D : va_G) (sz : Nat) (cI : ClassId) (h0 : Nat) (a0 : Nat) (a1 : Nat) (a2 : Nat) (a3 : Nat) (a4 : Nat) (a5 : Nat) (a6 : Nat) (a7 : Nat) (a8 : Nat) (a9 : Nat) (ab : Nat) (tk : Int32) (mm : Int32) (wm : Int32) (fa : Int32) (th : Int32) (se : Int32) (v : Int32)  : Ci l yX9_isMake wsX9_isMake ({ frames := 1, cells := 0, slots := 0, locals := 22 } : Room) D [.ref h0, .int v] [(h0, .inr (8, [.ref a0, .int tk, .ref a1, .int mm, .ref a2, .ref a3, .ref a4, .ref a5, .ref a6, .ref a7, .int wm, .int fa, .int th, .int se, .ref a8, .ref a9, .ref ab]))] [(cI, .int)] sz (fun (r : Int32) => fun (_ : Unit) => r = wi v 0 (mm - 1)) (fun (_ : Unit) => [(h0, .inr (8, [.ref a0, .int tk, .ref a1, .int mm, .ref a2, .ref a3, .ref a4, .ref a5, .ref a6, .ref a7, .int wm, .int fa, .int th, .int se, .ref a8, .ref a9, .ref ab]))]) (fun (_ : Unit) => []) := by
  refine ct_i (cc := cX9_isMake) (maxL := 2) (ret := (some .boolean)) (by decide) rfl (Nat.le_of_ble_eq_true rfl) ?_
  intro p e s m below meth c A ls H hx hb hr hts hown hml hlocks hin hA hS hP hK hD hNW hl hAe hsz
  have hl : lv_has ls 2 [(0, .ref h0), (1, .int v)] := hl
  refine lv_iload_n hx hb dX9_isMake_0 rfl (lv_at hl 1 rfl) ?_
  refine lv_iconst (v := 0) hx hb dX9_isMake_1 (by decide) ?_
  refine lv_aload_n hx hb dX9_isMake_2 rfl (lv_at hl 0 rfl) ?_
  refine va_get (D := D) (ci := 8) (v := .int mm) (C := RX9) (T := TX9) (N := 17) hx hb hts him_isMake_X9 hown hK hP 0 rfl rfl 3 (by decide) (hts (.fieldLink RX9 47 "OneHandsetModel" "makeMany" "I") (List.mem_of_getElem? (i := 1) rfl)) (fun _ h9 => h9) rfl dX9_isMake_3 ?_
  refine lv_iconst (v := 1) hx hb dX9_isMake_6 (by decide) ?_
  refine lv_isub hx hb dX9_isMake_7 ?_
  refine go_i (wr := [(h0, .inr (8, [.ref a0, .int tk, .ref a1, .int mm, .ref a2, .ref a3, .ref a4, .ref a5, .ref a6, .ref a7, .int wm, .int fa, .int th, .int se, .ref a8, .ref a9, .ref ab]))]) (tysr := [(cI, .int)]) hP hD hS hA hK [] [0] [0] rfl rfl (by decide) (by decide) rfl (va_runS (As := [.int v, .int 0, .int (mm - 1)]) (rest := []) ⟨hx, hb, hml, hown, hts⟩ (m_in l D H.size v 0 (mm - 1) ) (va_cwS 3 hts gX9_isMake_X9_in rfl rfl rfl (by decide +kernel) ⟨Nat.le_of_ble_eq_true rfl, Nat.le_of_ble_eq_true rfl⟩) (st_preS hP hD hK hNW [] [] rfl rfl (by decide) rfl) rfl rfl hl.1 rfl (lv_room (Nat.le_of_ble_eq_true rfl)) dX9_isMake_8 ⟨(Nat.le_of_ble_eq_true rfl), (Nat.le_of_ble_eq_true rfl)⟩) (fun r_1 u H locs hw hP hD hK hS => ?_)
  have hw : r_1 = wi v 0 (mm - 1) := hw
  subst hw
  have hP : va_P D vwCl [(h0, .inr (8, [.ref a0, .int tk, .ref a1, .int mm, .ref a2, .ref a3, .ref a4, .ref a5, .ref a6, .ref a7, .int wm, .int fa, .int th, .int se, .ref a8, .ref a9, .ref ab]))] H := hP
  have hD : va_D A [(h0, .inr (8, [.ref a0, .int tk, .ref a1, .int mm, .ref a2, .ref a3, .ref a4, .ref a5, .ref a6, .ref a7, .int wm, .int fa, .int th, .int se, .ref a8, .ref a9, .ref ab]))] := hD
  have hK : va_K D vwCl [(cI, .int)] s := hK
  exact ret_i hx hb hr hlocks (wi_nar _ _ _) (u := ()) rfl (hP.sub [0] rfl) (hK.sub [] rfl) (hD.sub [0] (by decide) rfl) hS (Nat.le_of_ble_eq_true rfl) (Nat.le_of_ble_eq_true rfl) dX9_isMake_11
theorem him_get_X9 : ∀ w ∈ wsX90, w ∈ wsX9_get := mem_pl [2, 3, 4, 5, 6, 7, 8, 9, 10, 11, 12, 13, 14, 15, 16, 17, 18] rfl
set_option maxHeartbeats 4000000 in
set_option maxRecDepth 100000 in
theorem m_get (l : Launch) (D : va_G) (sz : Nat) (cI : ClassId) (h0 : Nat) (a0 : Nat) (a1 : Nat) (a2 : Nat) (a3 : Nat) (a4 : Nat) (a5 : Nat) (a6 : Nat) (a7 : Nat) (a8 : Nat) (a9 : Nat) (ab : Nat) (tk : Int32) (mm : Int32) (wm : Int32) (fa : Int32) (th : Int32) (se : Int32) (g1 : Nat → Int32) (v : Int32) (w : Int32) (hv : bi v 0 7) (hw9 : bi w 0 9) : Ci l yX9_get wsX9_get ({ frames := 0, cells := 0, slots := 0, locals := 0 } : Room) D [.ref h0, .int v, .int w] [(h0, .inr (8, [.ref a0, .int tk, .ref a1, .int mm, .ref a2, .ref a3, .ref a4, .ref a5, .ref a6, .ref a7, .int wm, .int fa, .int th, .int se, .ref a8, .ref a9, .ref ab])), (a1, .inl (cI, 80, .inl g1))] [(cI, .int)] sz (fun (r : Int32) => fun (_ : Unit) => r = g1 (Int32.toNatClampNeg (10 * v + w))) (fun (_ : Unit) => [(h0, .inr (8, [.ref a0, .int tk, .ref a1, .int mm, .ref a2, .ref a3, .ref a4, .ref a5, .ref a6, .ref a7, .int wm, .int fa, .int th, .int se, .ref a8, .ref a9, .ref ab])), (a1, .inl (cI, 80, .inl g1))]) (fun (_ : Unit) => []) := by
  refine ct_i (cc := cX9_get) (maxL := 3) (ret := (some .int)) (by decide) rfl (Nat.le_of_ble_eq_true rfl) ?_
  intro p e s m below meth c A ls H hx hb hr hts hown hml hlocks hin hA hS hP hK hD hNW hl hAe hsz
  have hl : lv_has ls 3 [(0, .ref h0), (1, .int v), (2, .int w)] := hl
  refine lv_aload_n hx hb dX9_get_0 rfl (lv_at hl 0 rfl) ?_
  refine va_get (D := D) (ci := 8) (v := .ref a1) (C := RX9) (T := TX9) (N := 17) hx hb hts him_get_X9 hown hK hP 0 rfl rfl 2 (by decide) (hts (.fieldLink RX9 13 "OneHandsetModel" "makes" "[I") (List.mem_of_getElem? (i := 1) rfl)) (fun _ h9 => h9) rfl dX9_get_1 ?_
  refine lv_bipush (v := 10) hx hb dX9_get_4 (by decide) ?_
  refine lv_iload_n hx hb dX9_get_6 rfl (lv_at hl 1 rfl) ?_
  refine lv_imul hx hb dX9_get_7 ?_
  refine lv_iload_n hx hb dX9_get_8 rfl (lv_at hl 2 rfl) ?_
  refine lv_iadd hx hb dX9_get_9 ?_
  refine va_iald hx hb hK hP 1 0 rfl rfl (by clear hml hsz hr hlocks; have u3 := ix10 hv hw9; exact vp_in_iff.mpr (by omega)) dX9_get_10 ?_
  exact ret_i hx hb hr hlocks rfl (u := ()) rfl (hP.sub [0, 1] rfl) (hK.sub [] rfl) (hD.sub [0, 1] (by decide) rfl) hS (Nat.le_of_ble_eq_true rfl) (Nat.le_of_ble_eq_true rfl) dX9_get_11
set_option maxHeartbeats 4000000 in
set_option maxRecDepth 100000 in
theorem m_isTime (l : Launch) (D : va_G) (sz : Nat) (v : Int32)  : Ci l yX9_isTime wsX9_isTime ({ frames := 1, cells := 0, slots := 0, locals := 22 } : Room) D [.int v] [] [] sz (fun (r : Int32) => fun (_ : Unit) => r = wi v 1 20000) (fun (_ : Unit) => []) (fun (_ : Unit) => []) := by
  refine ct_i (cc := cX9_isTime) (maxL := 1) (ret := (some .boolean)) (by decide) rfl (Nat.le_of_ble_eq_true rfl) ?_
  intro p e s m below meth c A ls H hx hb hr hts hown hml hlocks hin hA hS hP hK hD hNW hl hAe hsz
  have hl : lv_has ls 1 [(0, .int v)] := hl
  refine lv_iload_n hx hb dX9_isTime_0 rfl (lv_at hl 0 rfl) ?_
  refine lv_iconst (v := 1) hx hb dX9_isTime_1 (by decide) ?_
  refine lv_sipush (v := 20000) hx hb dX9_isTime_2 (by decide) ?_
  refine go_i (wr := []) (tysr := []) hP hD hS hA hK [] [] [] rfl rfl (by decide) (by decide) rfl (va_runS (As := [.int v, .int 1, .int 20000]) (rest := []) ⟨hx, hb, hml, hown, hts⟩ (m_in l D H.size v 1 20000 ) (va_cwS 3 hts gX9_isTime_X9_in rfl rfl rfl (by decide +kernel) ⟨Nat.le_of_ble_eq_true rfl, Nat.le_of_ble_eq_true rfl⟩) (st_preS hP hD hK hNW [] [] rfl rfl (by decide) rfl) rfl rfl hl.1 rfl (lv_room (Nat.le_of_ble_eq_true rfl)) dX9_isTime_5 ⟨(Nat.le_of_ble_eq_true rfl), (Nat.le_of_ble_eq_true rfl)⟩) (fun r_1 u H locs hw hP hD hK hS => ?_)
  have hw : r_1 = wi v 1 20000 := hw
  subst hw
  have hP : va_P D vwCl [] H := hP
  have hD : va_D A [] := hD
  have hK : va_K D vwCl [] s := hK
  exact ret_i hx hb hr hlocks (wi_nar _ _ _) (u := ()) rfl (hP.sub [] rfl) (hK.sub [] rfl) (hD.sub [] (by decide) rfl) hS (Nat.le_of_ble_eq_true rfl) (Nat.le_of_ble_eq_true rfl) dX9_isTime_8
set_option maxHeartbeats 4000000 in
set_option maxRecDepth 100000 in
theorem m_isBox (l : Launch) (D : va_G) (sz : Nat) (v : Int32)  : Ci l yX9_isBox wsX9_isBox ({ frames := 1, cells := 0, slots := 0, locals := 22 } : Room) D [.int v] [] [] sz (fun (r : Int32) => fun (_ : Unit) => r = wi v 0 3) (fun (_ : Unit) => []) (fun (_ : Unit) => []) := by
  refine ct_i (cc := cX9_isBox) (maxL := 1) (ret := (some .boolean)) (by decide) rfl (Nat.le_of_ble_eq_true rfl) ?_
  intro p e s m below meth c A ls H hx hb hr hts hown hml hlocks hin hA hS hP hK hD hNW hl hAe hsz
  have hl : lv_has ls 1 [(0, .int v)] := hl
  refine lv_iload_n hx hb dX9_isBox_0 rfl (lv_at hl 0 rfl) ?_
  refine lv_iconst (v := 0) hx hb dX9_isBox_1 (by decide) ?_
  refine lv_iconst (v := 3) hx hb dX9_isBox_2 (by decide) ?_
  refine go_i (wr := []) (tysr := []) hP hD hS hA hK [] [] [] rfl rfl (by decide) (by decide) rfl (va_runS (As := [.int v, .int 0, .int 3]) (rest := []) ⟨hx, hb, hml, hown, hts⟩ (m_in l D H.size v 0 3 ) (va_cwS 3 hts gX9_isBox_X9_in rfl rfl rfl (by decide +kernel) ⟨Nat.le_of_ble_eq_true rfl, Nat.le_of_ble_eq_true rfl⟩) (st_preS hP hD hK hNW [] [] rfl rfl (by decide) rfl) rfl rfl hl.1 rfl (lv_room (Nat.le_of_ble_eq_true rfl)) dX9_isBox_3 ⟨(Nat.le_of_ble_eq_true rfl), (Nat.le_of_ble_eq_true rfl)⟩) (fun r_1 u H locs hw hP hD hK hS => ?_)
  have hw : r_1 = wi v 0 3 := hw
  subst hw
  have hP : va_P D vwCl [] H := hP
  have hD : va_D A [] := hD
  have hK : va_K D vwCl [] s := hK
  exact ret_i hx hb hr hlocks (wi_nar _ _ _) (u := ()) rfl (hP.sub [] rfl) (hK.sub [] rfl) (hD.sub [] (by decide) rfl) hS (Nat.le_of_ble_eq_true rfl) (Nat.le_of_ble_eq_true rfl) dX9_isBox_6
set_option maxHeartbeats 4000000 in
set_option maxRecDepth 100000 in
theorem m_fits (l : Launch) (D : va_G) (sz : Nat) (cI : ClassId) (h0 : Nat) (a0 : Nat) (a1 : Nat) (a2 : Nat) (a3 : Nat) (a4 : Nat) (a5 : Nat) (a6 : Nat) (a7 : Nat) (a8 : Nat) (a9 : Nat) (ab : Nat) (tk : Int32) (mm : Int32) (wm : Int32) (fa : Int32) (th : Int32) (se : Int32) (g1 : Nat → Int32) (v : Int32) (t : Int32) (w : Int32) (hv : bi v 0 7) : Ci l yX9_fits wsX9_fits ({ frames := 2, cells := 0, slots := 0, locals := 42 } : Room) D [.ref h0, .int v, .int t, .int w] [(h0, .inr (8, [.ref a0, .int tk, .ref a1, .int mm, .ref a2, .ref a3, .ref a4, .ref a5, .ref a6, .ref a7, .int wm, .int fa, .int th, .int se, .ref a8, .ref a9, .ref ab])), (a1, .inl (cI, 80, .inl g1))] [(cI, .int)] sz (fun (r : Int32) => fun (_ : Unit) => True) (fun (_ : Unit) => [(h0, .inr (8, [.ref a0, .int tk, .ref a1, .int mm, .ref a2, .ref a3, .ref a4, .ref a5, .ref a6, .ref a7, .int wm, .int fa, .int th, .int se, .ref a8, .ref a9, .ref ab])), (a1, .inl (cI, 80, .inl g1))]) (fun (_ : Unit) => []) := by
  refine ct_i (cc := cX9_fits) (maxL := 4) (ret := (some .boolean)) (by decide) rfl (Nat.le_of_ble_eq_true rfl) ?_
  intro p e s m below meth c A ls H hx hb hr hts hown hml hlocks hin hA hS hP hK hD hNW hl hAe hsz
  have hl : lv_has ls 4 [(0, .ref h0), (1, .int v), (2, .int t), (3, .int w)] := hl
  refine lv_iload_n hx hb dX9_fits_0 rfl (lv_at hl 2 rfl) ?_
  refine go_i (wr := [(h0, .inr (8, [.ref a0, .int tk, .ref a1, .int mm, .ref a2, .ref a3, .ref a4, .ref a5, .ref a6, .ref a7, .int wm, .int fa, .int th, .int se, .ref a8, .ref a9, .ref ab])), (a1, .inl (cI, 80, .inl g1))]) (tysr := [(cI, .int)]) hP hD hS hA hK [] [0, 1] [0] rfl rfl (by decide) (by decide) rfl (va_runS (As := [.int t]) (rest := []) ⟨hx, hb, hml, hown, hts⟩ (m_isTime l D H.size t ) (va_cwS 1 hts gX9_fits_X9_isTime rfl rfl rfl (by decide +kernel) ⟨Nat.le_of_ble_eq_true rfl, Nat.le_of_ble_eq_true rfl⟩) (st_preS hP hD hK hNW [] [] rfl rfl (by decide) rfl) rfl rfl hl.1 rfl (lv_room (Nat.le_of_ble_eq_true rfl)) dX9_fits_1 ⟨(Nat.le_of_ble_eq_true rfl), (Nat.le_of_ble_eq_true rfl)⟩) (fun r_1 u H locs hw hP hD hK hS => ?_)
  have hw : r_1 = wi t 1 20000 := hw
  subst hw
  have hP : va_P D vwCl [(h0, .inr (8, [.ref a0, .int tk, .ref a1, .int mm, .ref a2, .ref a3, .ref a4, .ref a5, .ref a6, .ref a7, .int wm, .int fa, .int th, .int se, .ref a8, .ref a9, .ref ab])), (a1, .inl (cI, 80, .inl g1))] H := hP
  have hD : va_D A [(h0, .inr (8, [.ref a0, .int tk, .ref a1, .int mm, .ref a2, .ref a3, .ref a4, .ref a5, .ref a6, .ref a7, .int wm, .int fa, .int th, .int se, .ref a8, .ref a9, .ref ab])), (a1, .inl (cI, 80, .inl g1))] := hD
  have hK : va_K D vwCl [(cI, .int)] s := hK
  refine lv_if_eq (tgt := 32) hx hb dX9_fits_4 (by decide) (fun c_2 => ?_) (fun c_2 => ?_)
  · refine lv_iconst (v := 0) hx hb dX9_fits_32 (by decide) ?_
    exact ret_i hx hb hr hlocks rfl (u := ()) trivial (hP.sub [0, 1] rfl) (hK.sub [] rfl) (hD.sub [0, 1] (by decide) rfl) hS (Nat.le_of_ble_eq_true rfl) (Nat.le_of_ble_eq_true rfl) dX9_fits_33
  refine lv_iload_n hx hb dX9_fits_7 rfl (lv_at hl 2 rfl) ?_
  refine lv_iload_n hx hb dX9_fits_8 rfl (lv_at hl 3 rfl) ?_
  refine lv_isub hx hb dX9_fits_9 ?_
  refine lv_topi (fun y_3 _ => ?_)
  refine va_mabs hx hb (hml.trans hl.1.symm) hown (hts (.methodLink RX9 83 Lib.Math.abs.name) (List.mem_of_getElem? (i := 1) rfl)) (hts (.static Lib.Math.abs.name) (List.mem_of_getElem? (i := 2) rfl)) (hts (.initialized "java/lang/Math") (List.mem_of_getElem? (i := 3) rfl)) (hts (.code Lib.Math.abs.name Lib.Math.abs.code 1 (some .int)) (List.mem_of_getElem? (i := 4) rfl)) (Nat.le_of_ble_eq_true rfl) (Nat.le_of_ble_eq_true rfl) (Nat.le_of_ble_eq_true rfl) (Nat.le_of_ble_eq_true rfl) dX9_fits_10 ?_
  refine lv_bipush (v := 100) hx hb dX9_fits_13 (by decide) ?_
  refine lv_imul hx hb dX9_fits_15 ?_
  refine lv_topi (fun y_4 _ => ?_)
  refine lv_aload_n hx hb dX9_fits_16 rfl (lv_at hl 0 rfl) ?_
  refine lv_iload_n hx hb dX9_fits_17 rfl (lv_at hl 1 rfl) ?_
  refine lv_bipush (v := 7) hx hb dX9_fits_18 (by decide) ?_
  refine go_i (wr := []) (tysr := [(cI, .int)]) hP hD hS hA hK [0, 1] [] [0] rfl rfl (by decide) (by decide) rfl (va_runV (As := [.int v, .int 7]) (rest := [.int y_4]) ⟨hx, hb, hml, hown, hts⟩ (m_get l D H.size cI h0 a0 a1 a2 a3 a4 a5 a6 a7 a8 a9 ab tk mm wm fa th se g1 v 7 (by first | assumption | (clear hml hsz hr hlocks; omega) | decide) (by first | assumption | (clear hml hsz hr hlocks; omega) | decide)) (cwV 2 hts gX9_fits_X9_get rfl rfl rfl (by decide +kernel) ⟨Nat.le_of_ble_eq_true rfl, Nat.le_of_ble_eq_true rfl⟩) (st_preV (ci := 8) (q0 := 0) hP hD hK hNW [0, 1] [0] rfl rfl (by decide) rfl rfl rfl rfl) rfl rfl hl.1 rfl (lv_room (Nat.le_of_ble_eq_true rfl)) dX9_fits_20 ⟨(Nat.le_of_ble_eq_true rfl), (Nat.le_of_ble_eq_true rfl)⟩) (fun r_5 u H locs hw hP hD hK hS => ?_)
  have hw : r_5 = g1 (Int32.toNatClampNeg (10 * v + 7)) := hw
  subst hw
  have hP : va_P D vwCl [(h0, .inr (8, [.ref a0, .int tk, .ref a1, .int mm, .ref a2, .ref a3, .ref a4, .ref a5, .ref a6, .ref a7, .int wm, .int fa, .int th, .int se, .ref a8, .ref a9, .ref ab])), (a1, .inl (cI, 80, .inl g1))] H := hP
  have hD : va_D A [(h0, .inr (8, [.ref a0, .int tk, .ref a1, .int mm, .ref a2, .ref a3, .ref a4, .ref a5, .ref a6, .ref a7, .int wm, .int fa, .int th, .int se, .ref a8, .ref a9, .ref ab])), (a1, .inl (cI, 80, .inl g1))] := hD
  have hK : va_K D vwCl [(cI, .int)] s := hK
  refine lv_iload_n hx hb dX9_fits_23 rfl (lv_at hl 3 rfl) ?_
  refine lv_imul hx hb dX9_fits_24 ?_
  refine lv_topi (fun y_6 _ => ?_)
  refine lv_icmp_gt (tgt := 32) hx hb dX9_fits_25 (by decide) (fun c_7 => ?_) (fun c_7 => ?_)
  · refine lv_iconst (v := 0) hx hb dX9_fits_32 (by decide) ?_
    exact ret_i hx hb hr hlocks rfl (u := ()) trivial (hP.sub [0, 1] rfl) (hK.sub [] rfl) (hD.sub [0, 1] (by decide) rfl) hS (Nat.le_of_ble_eq_true rfl) (Nat.le_of_ble_eq_true rfl) dX9_fits_33
  refine lv_iconst (v := 1) hx hb dX9_fits_28 (by decide) ?_
  refine lv_goto (tgt := 33) hx hb dX9_fits_29 (by decide) ?_
  exact ret_i hx hb hr hlocks rfl (u := ()) trivial (hP.sub [0, 1] rfl) (hK.sub [] rfl) (hD.sub [0, 1] (by decide) rfl) hS (Nat.le_of_ble_eq_true rfl) (Nat.le_of_ble_eq_true rfl) dX9_fits_33
set_option maxHeartbeats 4000000 in
set_option maxRecDepth 100000 in
theorem m_which (l : Launch) (D : va_G) (sz : Nat) (cI : ClassId) (h0 : Nat) (a0 : Nat) (a1 : Nat) (a2 : Nat) (a3 : Nat) (a4 : Nat) (a5 : Nat) (a6 : Nat) (a7 : Nat) (a8 : Nat) (a9 : Nat) (ab : Nat) (tk : Int32) (mm : Int32) (wm : Int32) (fa : Int32) (th : Int32) (se : Int32) (g1 : Nat → Int32) (v : Int32) (t : Int32) (w : Int32) (x : Int32) (hv : bi v 0 7) : Ci l yX9_which wsX9_which ({ frames := 3, cells := 0, slots := 0, locals := 65 } : Room) D [.ref h0, .int v, .int t, .int w, .int x] [(h0, .inr (8, [.ref a0, .int tk, .ref a1, .int mm, .ref a2, .ref a3, .ref a4, .ref a5, .ref a6, .ref a7, .int wm, .int fa, .int th, .int se, .ref a8, .ref a9, .ref ab])), (a1, .inl (cI, 80, .inl g1))] [(cI, .int)] sz (fun (r : Int32) => fun (_ : Unit) => r = 0 ∨ r = 1 ∨ r = -1) (fun (_ : Unit) => [(h0, .inr (8, [.ref a0, .int tk, .ref a1, .int mm, .ref a2, .ref a3, .ref a4, .ref a5, .ref a6, .ref a7, .int wm, .int fa, .int th, .int se, .ref a8, .ref a9, .ref ab])), (a1, .inl (cI, 80, .inl g1))]) (fun (_ : Unit) => []) := by
  refine ct_i (cc := cX9_which) (maxL := 7) (ret := (some .int)) (by decide) rfl (Nat.le_of_ble_eq_true rfl) ?_
  intro p e s m below meth c A ls H hx hb hr hts hown hml hlocks hin hA hS hP hK hD hNW hl hAe hsz
  have hl : lv_has ls 7 [(0, .ref h0), (1, .int v), (2, .int t), (3, .int w), (4, .int x)] := hl
  refine lv_aload_n hx hb dX9_which_0 rfl (lv_at hl 0 rfl) ?_
  refine lv_iload_n hx hb dX9_which_1 rfl (lv_at hl 1 rfl) ?_
  refine lv_iload_n hx hb dX9_which_2 rfl (lv_at hl 2 rfl) ?_
  refine lv_iload_n hx hb dX9_which_3 rfl (lv_at hl 3 rfl) ?_
  refine go_i (wr := []) (tysr := [(cI, .int)]) hP hD hS hA hK [0, 1] [] [0] rfl rfl (by decide) (by decide) rfl (va_runV (As := [.int v, .int t, .int w]) (rest := []) ⟨hx, hb, hml, hown, hts⟩ (m_fits l D H.size cI h0 a0 a1 a2 a3 a4 a5 a6 a7 a8 a9 ab tk mm wm fa th se g1 v t w (by first | assumption | (clear hml hsz hr hlocks; omega) | decide)) (cwV 3 hts gX9_which_X9_fits rfl rfl rfl (by decide +kernel) ⟨Nat.le_of_ble_eq_true rfl, Nat.le_of_ble_eq_true rfl⟩) (st_preV (ci := 8) (q0 := 0) hP hD hK hNW [0, 1] [0] rfl rfl (by decide) rfl rfl rfl rfl) rfl rfl hl.1 rfl (lv_room (Nat.le_of_ble_eq_true rfl)) dX9_which_4 ⟨(Nat.le_of_ble_eq_true rfl), (Nat.le_of_ble_eq_true rfl)⟩) (fun r_1 u H locs hw hP hD hK hS => ?_)
  have hP : va_P D vwCl [(h0, .inr (8, [.ref a0, .int tk, .ref a1, .int mm, .ref a2, .ref a3, .ref a4, .ref a5, .ref a6, .ref a7, .int wm, .int fa, .int th, .int se, .ref a8, .ref a9, .ref ab])), (a1, .inl (cI, 80, .inl g1))] H := hP
  have hD : va_D A [(h0, .inr (8, [.ref a0, .int tk, .ref a1, .int mm, .ref a2, .ref a3, .ref a4, .ref a5, .ref a6, .ref a7, .int wm, .int fa, .int th, .int se, .ref a8, .ref a9, .ref ab])), (a1, .inl (cI, 80, .inl g1))] := hD
  have hK : va_K D vwCl [(cI, .int)] s := hK
  refine lv_istore (lv' := [(5, .int r_1), (0, .ref h0), (1, .int v), (2, .int t), (3, .int w), (4, .int x)]) hx hb dX9_which_7 hl (by decide) rfl (fun ls hl => ?_)
  refine lv_aload_n hx hb dX9_which_9 rfl (lv_at hl 1 rfl) ?_
  refine lv_iload_n hx hb dX9_which_10 rfl (lv_at hl 2 rfl) ?_
  refine lv_iload_n hx hb dX9_which_11 rfl (lv_at hl 3 rfl) ?_
  refine lv_iload hx hb dX9_which_12 (lv_at hl 5 rfl) ?_
  refine go_i (wr := []) (tysr := [(cI, .int)]) hP hD hS hA hK [0, 1] [] [0] rfl rfl (by decide) (by decide) rfl (va_runV (As := [.int v, .int t, .int x]) (rest := []) ⟨hx, hb, hml, hown, hts⟩ (m_fits l D H.size cI h0 a0 a1 a2 a3 a4 a5 a6 a7 a8 a9 ab tk mm wm fa th se g1 v t x (by first | assumption | (clear hml hsz hr hlocks; omega) | decide)) (cwV 3 hts gX9_which_X9_fits rfl rfl rfl (by decide +kernel) ⟨Nat.le_of_ble_eq_true rfl, Nat.le_of_ble_eq_true rfl⟩) (st_preV (ci := 8) (q0 := 0) hP hD hK hNW [0, 1] [0] rfl rfl (by decide) rfl rfl rfl rfl) rfl rfl hl.1 rfl (lv_room (Nat.le_of_ble_eq_true rfl)) dX9_which_14 ⟨(Nat.le_of_ble_eq_true rfl), (Nat.le_of_ble_eq_true rfl)⟩) (fun r_2 u H locs hw hP hD hK hS => ?_)
  have hP : va_P D vwCl [(h0, .inr (8, [.ref a0, .int tk, .ref a1, .int mm, .ref a2, .ref a3, .ref a4, .ref a5, .ref a6, .ref a7, .int wm, .int fa, .int th, .int se, .ref a8, .ref a9, .ref ab])), (a1, .inl (cI, 80, .inl g1))] H := hP
  have hD : va_D A [(h0, .inr (8, [.ref a0, .int tk, .ref a1, .int mm, .ref a2, .ref a3, .ref a4, .ref a5, .ref a6, .ref a7, .int wm, .int fa, .int th, .int se, .ref a8, .ref a9, .ref ab])), (a1, .inl (cI, 80, .inl g1))] := hD
  have hK : va_K D vwCl [(cI, .int)] s := hK
  refine lv_istore (lv' := [(6, .int r_2), (5, .int r_1), (0, .ref h0), (1, .int v), (2, .int t), (3, .int w), (4, .int x)]) hx hb dX9_which_17 hl (by decide) rfl (fun ls hl => ?_)
  refine lv_iload hx hb dX9_which_19 (lv_at hl 1 rfl) ?_
  refine lv_if_eq (tgt := 51) hx hb dX9_which_21 (by decide) (fun c_3 => ?_) (fun c_3 => ?_)
  · refine lv_iload hx hb dX9_which_51 (lv_at hl 1 rfl) ?_
    refine lv_if_eq (tgt := 60) hx hb dX9_which_53 (by decide) (fun c_4 => ?_) (fun c_4 => ?_)
    · refine lv_iload hx hb dX9_which_60 (lv_at hl 0 rfl) ?_
      refine lv_if_eq (tgt := 69) hx hb dX9_which_62 (by decide) (fun c_5 => ?_) (fun c_5 => ?_)
      · refine lv_iconst (v := (-1)) hx hb dX9_which_69 (by decide) ?_
        exact ret_i hx hb hr hlocks rfl (u := ()) (Or.inr (Or.inr rfl)) (hP.sub [0, 1] rfl) (hK.sub [] rfl) (hD.sub [0, 1] (by decide) rfl) hS (Nat.le_of_ble_eq_true rfl) (Nat.le_of_ble_eq_true rfl) dX9_which_70
      refine lv_iconst (v := 1) hx hb dX9_which_65 (by decide) ?_
      refine lv_goto (tgt := 70) hx hb dX9_which_66 (by decide) ?_
      exact ret_i hx hb hr hlocks rfl (u := ()) (Or.inr (Or.inl rfl)) (hP.sub [0, 1] rfl) (hK.sub [] rfl) (hD.sub [0, 1] (by decide) rfl) hS (Nat.le_of_ble_eq_true rfl) (Nat.le_of_ble_eq_true rfl) dX9_which_70
    refine lv_iconst (v := 0) hx hb dX9_which_56 (by decide) ?_
    refine lv_goto (tgt := 70) hx hb dX9_which_57 (by decide) ?_
    exact ret_i hx hb hr hlocks rfl (u := ()) (Or.inl rfl) (hP.sub [0, 1] rfl) (hK.sub [] rfl) (hD.sub [0, 1] (by decide) rfl) hS (Nat.le_of_ble_eq_true rfl) (Nat.le_of_ble_eq_true rfl) dX9_which_70
  refine lv_iload hx hb dX9_which_24 (lv_at hl 0 rfl) ?_
  refine lv_if_eq (tgt := 51) hx hb dX9_which_26 (by decide) (fun c_6 => ?_) (fun c_6 => ?_)
  · refine lv_iload hx hb dX9_which_51 (lv_at hl 1 rfl) ?_
    refine lv_if_eq (tgt := 60) hx hb dX9_which_53 (by decide) (fun c_7 => ?_) (fun c_7 => ?_)
    · refine lv_iload hx hb dX9_which_60 (lv_at hl 0 rfl) ?_
      refine lv_if_eq (tgt := 69) hx hb dX9_which_62 (by decide) (fun c_8 => ?_) (fun c_8 => ?_)
      · refine lv_iconst (v := (-1)) hx hb dX9_which_69 (by decide) ?_
        exact ret_i hx hb hr hlocks rfl (u := ()) (Or.inr (Or.inr rfl)) (hP.sub [0, 1] rfl) (hK.sub [] rfl) (hD.sub [0, 1] (by decide) rfl) hS (Nat.le_of_ble_eq_true rfl) (Nat.le_of_ble_eq_true rfl) dX9_which_70
      refine lv_iconst (v := 1) hx hb dX9_which_65 (by decide) ?_
      refine lv_goto (tgt := 70) hx hb dX9_which_66 (by decide) ?_
      exact ret_i hx hb hr hlocks rfl (u := ()) (Or.inr (Or.inl rfl)) (hP.sub [0, 1] rfl) (hK.sub [] rfl) (hD.sub [0, 1] (by decide) rfl) hS (Nat.le_of_ble_eq_true rfl) (Nat.le_of_ble_eq_true rfl) dX9_which_70
    refine lv_iconst (v := 0) hx hb dX9_which_56 (by decide) ?_
    refine lv_goto (tgt := 70) hx hb dX9_which_57 (by decide) ?_
    exact ret_i hx hb hr hlocks rfl (u := ()) (Or.inl rfl) (hP.sub [0, 1] rfl) (hK.sub [] rfl) (hD.sub [0, 1] (by decide) rfl) hS (Nat.le_of_ble_eq_true rfl) (Nat.le_of_ble_eq_true rfl) dX9_which_70
  refine lv_iload_n hx hb dX9_which_29 rfl (lv_at hl 4 rfl) ?_
  refine lv_iload hx hb dX9_which_30 (lv_at hl 6 rfl) ?_
  refine lv_isub hx hb dX9_which_32 ?_
  refine lv_topi (fun y_9 _ => ?_)
  refine va_mabs hx hb (hml.trans hl.1.symm) hown (hts (.methodLink RX9 83 Lib.Math.abs.name) (List.mem_of_getElem? (i := 1) rfl)) (hts (.static Lib.Math.abs.name) (List.mem_of_getElem? (i := 2) rfl)) (hts (.initialized "java/lang/Math") (List.mem_of_getElem? (i := 3) rfl)) (hts (.code Lib.Math.abs.name Lib.Math.abs.code 1 (some .int)) (List.mem_of_getElem? (i := 4) rfl)) (Nat.le_of_ble_eq_true rfl) (Nat.le_of_ble_eq_true rfl) (Nat.le_of_ble_eq_true rfl) (Nat.le_of_ble_eq_true rfl) dX9_which_33 ?_
  refine lv_iload_n hx hb dX9_which_36 rfl (lv_at hl 4 rfl) ?_
  refine lv_iload_n hx hb dX9_which_37 rfl (lv_at hl 5 rfl) ?_
  refine lv_isub hx hb dX9_which_38 ?_
  refine lv_topi (fun y_10 _ => ?_)
  refine va_mabs hx hb (hml.trans hl.1.symm) hown (hts (.methodLink RX9 83 Lib.Math.abs.name) (List.mem_of_getElem? (i := 1) rfl)) (hts (.static Lib.Math.abs.name) (List.mem_of_getElem? (i := 2) rfl)) (hts (.initialized "java/lang/Math") (List.mem_of_getElem? (i := 3) rfl)) (hts (.code Lib.Math.abs.name Lib.Math.abs.code 1 (some .int)) (List.mem_of_getElem? (i := 4) rfl)) (Nat.le_of_ble_eq_true rfl) (Nat.le_of_ble_eq_true rfl) (Nat.le_of_ble_eq_true rfl) (Nat.le_of_ble_eq_true rfl) dX9_which_39 ?_
  refine lv_icmp_ge (tgt := 49) hx hb dX9_which_42 (by decide) (fun c_11 => ?_) (fun c_11 => ?_)
  · refine lv_iconst (v := 0) hx hb dX9_which_49 (by decide) ?_
    exact ret_i hx hb hr hlocks rfl (u := ()) (Or.inl rfl) (hP.sub [0, 1] rfl) (hK.sub [] rfl) (hD.sub [0, 1] (by decide) rfl) hS (Nat.le_of_ble_eq_true rfl) (Nat.le_of_ble_eq_true rfl) dX9_which_50
  refine lv_iconst (v := 1) hx hb dX9_which_45 (by decide) ?_
  refine lv_goto (tgt := 50) hx hb dX9_which_46 (by decide) ?_
  exact ret_i hx hb hr hlocks rfl (u := ()) (Or.inr (Or.inl rfl)) (hP.sub [0, 1] rfl) (hK.sub [] rfl) (hD.sub [0, 1] (by decide) rfl) hS (Nat.le_of_ble_eq_true rfl) (Nat.le_of_ble_eq_true rfl) dX9_which_50
theorem him_fault_X9 : ∀ w ∈ wsX90, w ∈ wsX9_fault := mem_pl [2, 3, 4, 5, 6, 7, 8, 9, 10, 11, 12, 13, 14, 15, 16, 17, 18] rfl
set_option maxHeartbeats 4000000 in
set_option maxRecDepth 100000 in
theorem m_fault (l : Launch) (D : va_G) (sz : Nat) (cI : ClassId) (h0 : Nat) (a0 : Nat) (a1 : Nat) (a2 : Nat) (a3 : Nat) (a4 : Nat) (a5 : Nat) (a6 : Nat) (a7 : Nat) (a8 : Nat) (a9 : Nat) (ab : Nat) (tk : Int32) (mm : Int32) (wm : Int32) (fa : Int32) (th : Int32) (se : Int32) (v : Int32)  : Ci l yX9_fault wsX9_fault ({ frames := 0, cells := 0, slots := 0, locals := 0 } : Room) D [.ref h0, .int v] [(h0, .inr (8, [.ref a0, .int tk, .ref a1, .int mm, .ref a2, .ref a3, .ref a4, .ref a5, .ref a6, .ref a7, .int wm, .int fa, .int th, .int se, .ref a8, .ref a9, .ref ab]))] [(cI, .int)] sz (fun (r : Int32) => fun (_ : Unit) => r = -1) (fun (_ : Unit) => [(h0, .inr (8, [.ref a0, .int tk, .ref a1, .int mm, .ref a2, .ref a3, .ref a4, .ref a5, .ref a6, .ref a7, .int wm, .int v, .int th, .int se, .ref a8, .ref a9, .ref ab]))]) (fun (_ : Unit) => []) := by
  refine ct_i (cc := cX9_fault) (maxL := 2) (ret := (some .int)) (by decide) rfl (Nat.le_of_ble_eq_true rfl) ?_
  intro p e s m below meth c A ls H hx hb hr hts hown hml hlocks hin hA hS hP hK hD hNW hl hAe hsz
  have hl : lv_has ls 2 [(0, .ref h0), (1, .int v)] := hl
  refine lv_aload_n hx hb dX9_fault_0 rfl (lv_at hl 0 rfl) ?_
  refine lv_iload_n hx hb dX9_fault_1 rfl (lv_at hl 1 rfl) ?_
  refine va_put (D := D) (ci := 8) (v := .int v) (ty := .int) (C := RX9) (T := TX9) (N := 17) hx hb hts him_fault_X9 tyX9 tyX9_ok nmX9 hown hK hP hD hS 0 rfl rfl 11 (by decide) (hts (.fieldLink RX9 92 "OneHandsetModel" "faultAt" "I") (List.mem_of_getElem? (i := 1) rfl)) (fun _ h9 => h9) rfl (by decide +kernel) rfl rfl (Nat.le_of_ble_eq_true rfl) dX9_fault_2 (fun H locs hP hD hS => ?_)
  have hP : va_P D vwCl [(h0, .inr (8, [.ref a0, .int tk, .ref a1, .int mm, .ref a2, .ref a3, .ref a4, .ref a5, .ref a6, .ref a7, .int wm, .int v, .int th, .int se, .ref a8, .ref a9, .ref ab]))] H := hP
  have hD : va_D A [(h0, .inr (8, [.ref a0, .int tk, .ref a1, .int mm, .ref a2, .ref a3, .ref a4, .ref a5, .ref a6, .ref a7, .int wm, .int v, .int th, .int se, .ref a8, .ref a9, .ref ab]))] := hD
  refine lv_iconst (v := (-1)) hx hb dX9_fault_5 (by decide) ?_
  exact ret_i hx hb hr hlocks rfl (u := ()) rfl (hP.sub [0] rfl) (hK.sub [] rfl) (hD.sub [0] (by decide) rfl) hS (Nat.le_of_ble_eq_true rfl) (Nat.le_of_ble_eq_true rfl) dX9_fault_6
theorem him_readBits_X9 : ∀ w ∈ wsX90, w ∈ wsX9_readBits := mem_pl [32, 33, 34, 35, 36, 37, 38, 39, 40, 41, 42, 43, 44, 45, 46, 47, 48] rfl
set_option maxHeartbeats 4000000 in
set_option maxRecDepth 100000 in
theorem m_readBits (l : Launch) (D : va_G) (sz : Nat) (cI : ClassId) (h0 : Nat) (a0 : Nat) (a1 : Nat) (a2 : Nat) (a3 : Nat) (a4 : Nat) (a5 : Nat) (a6 : Nat) (a7 : Nat) (a8 : Nat) (a9 : Nat) (ab : Nat) (tk : Int32) (mm : Int32) (wm : Int32) (fa : Int32) (th : Int32) (se : Int32) (g0 : Nat → Int32) (g1 : Nat → Int32) (v : Int32) (hk : bi tk 0 120) (hv : bi v 0 7) : Ci l yX9_readBits wsX9_readBits ({ frames := 4, cells := 0, slots := 0, locals := 91 } : Room) D [.ref h0, .int v] [(h0, .inr (8, [.ref a0, .int tk, .ref a1, .int mm, .ref a2, .ref a3, .ref a4, .ref a5, .ref a6, .ref a7, .int wm, .int fa, .int th, .int se, .ref a8, .ref a9, .ref ab])), (a0, .inl (cI, 120, .inl g0)), (a1, .inl (cI, 80, .inl g1))] [(cI, .int)] sz (fun (r : Int32) => fun (fa2 : Int32) => True) (fun (fa2 : Int32) => [(h0, .inr (8, [.ref a0, .int tk, .ref a1, .int mm, .ref a2, .ref a3, .ref a4, .ref a5, .ref a6, .ref a7, .int wm, .int fa2, .int th, .int se, .ref a8, .ref a9, .ref ab])), (a0, .inl (cI, 120, .inl g0)), (a1, .inl (cI, 80, .inl g1))]) (fun (fa2 : Int32) => []) := by
  refine ct_i (cc := cX9_readBits) (maxL := 9) (ret := (some .int)) (by decide) rfl (Nat.le_of_ble_eq_true rfl) ?_
  intro p e s m below meth c A ls H hx hb hr hts hown hml hlocks hin hA hS hP hK hD hNW hl hAe hsz
  have hl : lv_has ls 9 [(0, .ref h0), (1, .int v)] := hl
  refine lv_aload_n hx hb dX9_readBits_0 rfl (lv_at hl 0 rfl) ?_
  refine lv_iload_n hx hb dX9_readBits_1 rfl (lv_at hl 1 rfl) ?_
  refine lv_iconst (v := 1) hx hb dX9_readBits_2 (by decide) ?_
  refine go_i (wr := [(a0, .inl (cI, 120, .inl g0))]) (tysr := [(cI, .int)]) hP hD hS hA hK [0, 2] [1] [0] rfl rfl (by decide) (by decide) rfl (va_runV (As := [.int v, .int 1]) (rest := []) ⟨hx, hb, hml, hown, hts⟩ (m_get l D H.size cI h0 a0 a1 a2 a3 a4 a5 a6 a7 a8 a9 ab tk mm wm fa th se g1 v 1 (by first | assumption | (clear hml hsz hr hlocks; omega) | decide) (by first | assumption | (clear hml hsz hr hlocks; omega) | decide)) (cwV 2 hts gX9_readBits_X9_get rfl rfl rfl (by decide +kernel) ⟨Nat.le_of_ble_eq_true rfl, Nat.le_of_ble_eq_true rfl⟩) (st_preV (ci := 8) (q0 := 0) hP hD hK hNW [0, 2] [0] rfl rfl (by decide) rfl rfl rfl rfl) rfl rfl hl.1 rfl (lv_room (Nat.le_of_ble_eq_true rfl)) dX9_readBits_3 ⟨(Nat.le_of_ble_eq_true rfl), (Nat.le_of_ble_eq_true rfl)⟩) (fun r_1 u H locs hw hP hD hK hS => ?_)
  have hw : r_1 = g1 (Int32.toNatClampNeg (10 * v + 1)) := hw
  subst hw
  have hP : va_P D vwCl [(a0, .inl (cI, 120, .inl g0)), (h0, .inr (8, [.ref a0, .int tk, .ref a1, .int mm, .ref a2, .ref a3, .ref a4, .ref a5, .ref a6, .ref a7, .int wm, .int fa, .int th, .int se, .ref a8, .ref a9, .ref ab])), (a1, .inl (cI, 80, .inl g1))] H := hP
  have hD : va_D A [(a0, .inl (cI, 120, .inl g0)), (h0, .inr (8, [.ref a0, .int tk, .ref a1, .int mm, .ref a2, .ref a3, .ref a4, .ref a5, .ref a6, .ref a7, .int wm, .int fa, .int th, .int se, .ref a8, .ref a9, .ref ab])), (a1, .inl (cI, 80, .inl g1))] := hD
  have hK : va_K D vwCl [(cI, .int)] s := hK
  refine lv_istore_n (lv' := [(2, .int (g1 (Int32.toNatClampNeg (10 * v + 1)))), (0, .ref h0), (1, .int v)]) hx hb dX9_readBits_6 rfl hl (by decide) rfl (fun ls hl => ?_)
  refine jn_S 21 (fun st9 H locs ls => ∃ (q_2 : Int32), st9 = [.int q_2] ∧ (va_P D vwCl [(a0, .inl (cI, 120, .inl g0)), (h0, .inr (8, [.ref a0, .int tk, .ref a1, .int mm, .ref a2, .ref a3, .ref a4, .ref a5, .ref a6, .ref a7, .int wm, .int fa, .int th, .int se, .ref a8, .ref a9, .ref ab])), (a1, .inl (cI, 80, .inl g1))] H ∧ va_D A [(a0, .inl (cI, 120, .inl g0)), (h0, .inr (8, [.ref a0, .int tk, .ref a1, .int mm, .ref a2, .ref a3, .ref a4, .ref a5, .ref a6, .ref a7, .int wm, .int fa, .int th, .int se, .ref a8, .ref a9, .ref ab])), (a1, .inl (cI, 80, .inl g1))]) ∧ va_S A s.heap H locs ∧ lv_has ls 9 [(2, .int (g1 (Int32.toNatClampNeg (10 * v + 1)))), (0, .ref h0), (1, .int v)]) ?_ ?_
  · intro st9 H locs ls hI
    obtain ⟨q_2, rfl, ⟨hP, hD⟩, hS, hl⟩ := hI
    refine lv_istore_n (lv' := [(3, .int q_2), (2, .int (g1 (Int32.toNatClampNeg (10 * v + 1)))), (0, .ref h0), (1, .int v)]) hx hb dX9_readBits_21 rfl hl (by decide) rfl (fun ls hl => ?_)
    refine jn_S 39 (fun st9 H locs ls => ∃ (q_4 : Int32), st9 = [.int q_4] ∧ (va_P D vwCl [(a0, .inl (cI, 120, .inl g0)), (h0, .inr (8, [.ref a0, .int tk, .ref a1, .int mm, .ref a2, .ref a3, .ref a4, .ref a5, .ref a6, .ref a7, .int wm, .int fa, .int th, .int se, .ref a8, .ref a9, .ref ab])), (a1, .inl (cI, 80, .inl g1))] H ∧ va_D A [(a0, .inl (cI, 120, .inl g0)), (h0, .inr (8, [.ref a0, .int tk, .ref a1, .int mm, .ref a2, .ref a3, .ref a4, .ref a5, .ref a6, .ref a7, .int wm, .int fa, .int th, .int se, .ref a8, .ref a9, .ref ab])), (a1, .inl (cI, 80, .inl g1))]) ∧ va_S A s.heap H locs ∧ lv_has ls 9 [(3, .int q_2), (2, .int (g1 (Int32.toNatClampNeg (10 * v + 1)))), (0, .ref h0), (1, .int v)]) ?_ ?_
    · intro st9 H locs ls hI
      obtain ⟨q_4, rfl, ⟨hP, hD⟩, hS, hl⟩ := hI
      refine lv_istore (lv' := [(4, .int q_4), (3, .int q_2), (2, .int (g1 (Int32.toNatClampNeg (10 * v + 1)))), (0, .ref h0), (1, .int v)]) hx hb dX9_readBits_39 hl (by decide) rfl (fun ls hl => ?_)
      refine lv_iconst (v := 0) hx hb dX9_readBits_41 (by decide) ?_
      refine lv_istore (lv' := [(5, .int 0), (4, .int q_4), (3, .int q_2), (2, .int (g1 (Int32.toNatClampNeg (10 * v + 1)))), (0, .ref h0), (1, .int v)]) hx hb dX9_readBits_42 hl (by decide) rfl (fun ls hl => ?_)
      refine lv_iconst (v := 0) hx hb dX9_readBits_44 (by decide) ?_
      refine lv_istore (lv' := [(6, .int 0), (5, .int 0), (4, .int q_4), (3, .int q_2), (2, .int (g1 (Int32.toNatClampNeg (10 * v + 1)))), (0, .ref h0), (1, .int v)]) hx hb dX9_readBits_45 hl (by decide) rfl (fun ls hl => ?_)
      refine lp_N (fun n9 H locs ls => ∃ (i5_6 : Int32), ∃ (i_7 : Int32), n9 = (tk.toInt - i_7.toInt).toNat ∧ (va_P D vwCl [(a0, .inl (cI, 120, .inl g0)), (h0, .inr (8, [.ref a0, .int tk, .ref a1, .int mm, .ref a2, .ref a3, .ref a4, .ref a5, .ref a6, .ref a7, .int wm, .int fa, .int th, .int se, .ref a8, .ref a9, .ref ab])), (a1, .inl (cI, 80, .inl g1))] H ∧ va_D A [(a0, .inl (cI, 120, .inl g0)), (h0, .inr (8, [.ref a0, .int tk, .ref a1, .int mm, .ref a2, .ref a3, .ref a4, .ref a5, .ref a6, .ref a7, .int wm, .int fa, .int th, .int se, .ref a8, .ref a9, .ref ab])), (a1, .inl (cI, 80, .inl g1))]) ∧ va_S A s.heap H locs ∧ lv_has ls 9 [(6, .int i_7), (5, .int i5_6), (4, .int q_4), (3, .int q_2), (2, .int (g1 (Int32.toNatClampNeg (10 * v + 1)))), (0, .ref h0), (1, .int v)] ∧ (0 ≤ i_7.toInt)) ?_ ⟨0, 0, rfl, ⟨hP, hD⟩, hS, hl, (by decide)⟩
      intro n9 ih_8 H locs ls hI
      obtain ⟨i5_6, i_7, rfl, ⟨hP, hD⟩, hS, hl, hv_9⟩ := hI
      refine lv_iload hx hb dX9_readBits_47 (lv_at hl 0 rfl) ?_
      refine lv_aload_n hx hb dX9_readBits_49 rfl (lv_at hl 5 rfl) ?_
      refine va_get (D := D) (ci := 8) (v := .int tk) (C := RX9) (T := TX9) (N := 17) hx hb hts him_readBits_X9 hown hK hP 1 rfl rfl 1 (by decide) (hts (.fieldLink RX9 62 "OneHandsetModel" "taped" "I") (List.mem_of_getElem? (i := 1) rfl)) (fun _ h9 => h9) rfl dX9_readBits_50 ?_
      refine lv_icmp_ge (tgt := 203) hx hb dX9_readBits_53 (by decide) (fun c_10 => ?_) (fun c_10 => ?_)
      · refine lv_aload_n hx hb dX9_readBits_203 rfl (lv_at hl 5 rfl) ?_
        refine va_get (D := D) (ci := 8) (v := .int tk) (C := RX9) (T := TX9) (N := 17) hx hb hts him_readBits_X9 hown hK hP 1 rfl rfl 1 (by decide) (hts (.fieldLink RX9 62 "OneHandsetModel" "taped" "I") (List.mem_of_getElem? (i := 1) rfl)) (fun _ h9 => h9) rfl dX9_readBits_204 ?_
        refine lv_iload hx hb dX9_readBits_207 (lv_at hl 2 rfl) ?_
        refine lv_icmp_ge (tgt := 223) hx hb dX9_readBits_209 (by decide) (fun c_11 => ?_) (fun c_11 => ?_)
        · refine lv_iload hx hb dX9_readBits_223 (lv_at hl 1 rfl) ?_
          exact ret_i hx hb hr hlocks rfl (u := fa) trivial (hP.sub [1, 0, 2] rfl) (hK.sub [] rfl) (hD.sub [1, 0, 2] (by decide) rfl) hS (Nat.le_of_ble_eq_true rfl) (Nat.le_of_ble_eq_true rfl) dX9_readBits_225
        refine lv_aload_n hx hb dX9_readBits_212 rfl (lv_at hl 5 rfl) ?_
        refine lv_aload_n hx hb dX9_readBits_213 rfl (lv_at hl 5 rfl) ?_
        refine va_get (D := D) (ci := 8) (v := .int tk) (C := RX9) (T := TX9) (N := 17) hx hb hts him_readBits_X9 hown hK hP 1 rfl rfl 1 (by decide) (hts (.fieldLink RX9 62 "OneHandsetModel" "taped" "I") (List.mem_of_getElem? (i := 1) rfl)) (fun _ h9 => h9) rfl dX9_readBits_214 ?_
        refine go_i (wr := [(a0, .inl (cI, 120, .inl g0)), (a1, .inl (cI, 80, .inl g1))]) (tysr := [(cI, .int)]) hP hD hS hA hK [1] [0, 2] [0] rfl rfl (by decide) (by decide) rfl (va_runV (As := [.int tk]) (rest := []) ⟨hx, hb, hml, hown, hts⟩ (m_fault l D H.size cI h0 a0 a1 a2 a3 a4 a5 a6 a7 a8 a9 ab tk mm wm fa th se tk ) (cwV 1 hts gX9_readBits_X9_fault rfl rfl rfl (by decide +kernel) ⟨Nat.le_of_ble_eq_true rfl, Nat.le_of_ble_eq_true rfl⟩) (st_preV (ci := 8) (q0 := 1) hP hD hK hNW [1] [0] rfl rfl (by decide) rfl rfl rfl rfl) rfl rfl hl.1 rfl (lv_room (Nat.le_of_ble_eq_true rfl)) dX9_readBits_217 ⟨(Nat.le_of_ble_eq_true rfl), (Nat.le_of_ble_eq_true rfl)⟩) (fun r_12 u H locs hw hP hD hK hS => ?_)
        have hw : r_12 = -1 := hw
        subst hw
        have hP : va_P D vwCl [(a0, .inl (cI, 120, .inl g0)), (a1, .inl (cI, 80, .inl g1)), (h0, .inr (8, [.ref a0, .int tk, .ref a1, .int mm, .ref a2, .ref a3, .ref a4, .ref a5, .ref a6, .ref a7, .int wm, .int tk, .int th, .int se, .ref a8, .ref a9, .ref ab]))] H := hP
        have hD : va_D A [(a0, .inl (cI, 120, .inl g0)), (a1, .inl (cI, 80, .inl g1)), (h0, .inr (8, [.ref a0, .int tk, .ref a1, .int mm, .ref a2, .ref a3, .ref a4, .ref a5, .ref a6, .ref a7, .int wm, .int tk, .int th, .int se, .ref a8, .ref a9, .ref ab]))] := hD
        have hK : va_K D vwCl [(cI, .int)] s := hK
        refine lv_goto (tgt := 225) hx hb dX9_readBits_220 (by decide) ?_
        exact ret_i hx hb hr hlocks rfl (u := tk) trivial (hP.sub [2, 0, 1] rfl) (hK.sub [] rfl) (hD.sub [2, 0, 1] (by decide) rfl) hS (Nat.le_of_ble_eq_true rfl) (Nat.le_of_ble_eq_true rfl) dX9_readBits_225
      refine lv_iload hx hb dX9_readBits_56 (lv_at hl 0 rfl) ?_
      refine lv_iload hx hb dX9_readBits_58 (lv_at hl 2 rfl) ?_
      refine lv_icmp_lt (tgt := 70) hx hb dX9_readBits_60 (by decide) (fun c_13 => ?_) (fun c_13 => ?_)
      · refine lv_aload_n hx hb dX9_readBits_70 rfl (lv_at hl 5 rfl) ?_
        refine va_get (D := D) (ci := 8) (v := .ref a0) (C := RX9) (T := TX9) (N := 17) hx hb hts him_readBits_X9 hown hK hP 1 rfl rfl 0 (by decide) (hts (.fieldLink RX9 9 "OneHandsetModel" "tape" "[I") (List.mem_of_getElem? (i := 2) rfl)) (fun _ h9 => h9) rfl dX9_readBits_71 ?_
        refine lv_iload hx hb dX9_readBits_74 (lv_at hl 0 rfl) ?_
        refine va_iald hx hb hK hP 0 0 rfl rfl (by clear hml hsz hr hlocks; have := ti_nle c_10; have := ti_lt c_13; exact vp_in_iff.mpr (by omega)) dX9_readBits_76 ?_
        refine lv_istore (lv' := [(7, .int (g0 (Int32.toNatClampNeg i_7))), (6, .int i_7), (5, .int i5_6), (4, .int q_4), (3, .int q_2), (2, .int (g1 (Int32.toNatClampNeg (10 * v + 1)))), (0, .ref h0), (1, .int v)]) hx hb dX9_readBits_77 hl (by decide) rfl (fun ls hl => ?_)
        refine jn_S 197 (fun st9 H locs ls => ∃ (i5_14 : Int32), st9 = [] ∧ (va_P D vwCl [(a0, .inl (cI, 120, .inl g0)), (h0, .inr (8, [.ref a0, .int tk, .ref a1, .int mm, .ref a2, .ref a3, .ref a4, .ref a5, .ref a6, .ref a7, .int wm, .int fa, .int th, .int se, .ref a8, .ref a9, .ref ab])), (a1, .inl (cI, 80, .inl g1))] H ∧ va_D A [(a0, .inl (cI, 120, .inl g0)), (h0, .inr (8, [.ref a0, .int tk, .ref a1, .int mm, .ref a2, .ref a3, .ref a4, .ref a5, .ref a6, .ref a7, .int wm, .int fa, .int th, .int se, .ref a8, .ref a9, .ref ab])), (a1, .inl (cI, 80, .inl g1))]) ∧ va_S A s.heap H locs ∧ lv_has ls 9 [(7, .int (g0 (Int32.toNatClampNeg i_7))), (6, .int i_7), (5, .int i5_14), (4, .int q_4), (3, .int q_2), (2, .int (g1 (Int32.toNatClampNeg (10 * v + 1)))), (0, .ref h0), (1, .int v)]) ?_ ?_
        · intro st9 H locs ls hI
          obtain ⟨i5_14, rfl, ⟨hP, hD⟩, hS, hl⟩ := hI
          refine lv_iinc (v := i_7 + 1) (lv' := [(6, .int (i_7 + 1)), (7, .int (g0 (Int32.toNatClampNeg i_7))), (5, .int i5_14), (4, .int q_4), (3, .int q_2), (2, .int (g1 (Int32.toNatClampNeg (10 * v + 1)))), (0, .ref h0), (1, .int v)]) hx hb dX9_readBits_197 hl (k := 1) rfl (ii_p1 _) (by decide) rfl (fun ls hl => ?_)
          refine lv_goto (tgt := 47) hx hb dX9_readBits_200 (by decide) ?_
          exact ih_8 _ _ _ _ (by clear hml hsz hr hlocks; have := ti_nle c_10; have := ti_lt c_13; have u1 := ti_up (i := i_7) (n := tk) (by omega); omega) ⟨i5_14, i_7 + 1, rfl, ⟨hP, hD⟩, hS, lv_sub hl [0, 2, 3, 4, 5, 6, 7] rfl, (by clear hml hsz hr hlocks; have := ti_nle c_10; have := ti_lt c_13; have u1 := ti_up (i := i_7) (n := tk) (by omega); omega)⟩
        · intro hJ_16
          refine lv_iload hx hb dX9_readBits_79 (lv_at hl 1 rfl) ?_
          refine lv_iconst (v := 2) hx hb dX9_readBits_81 (by decide) ?_
          refine lv_icmp_ge (tgt := 111) hx hb dX9_readBits_82 (by decide) (fun c_17 => ?_) (fun c_17 => ?_)
          · refine lv_iload hx hb dX9_readBits_111 (lv_at hl 1 rfl) ?_
            refine lv_iconst (v := 2) hx hb dX9_readBits_113 (by decide) ?_
            refine lv_irem hx hb dX9_readBits_114 (by decide) ?_
            refine jn_S 124 (fun st9 H locs ls => ∃ (q_18 : Int32), st9 = [.int q_18, .int (i_7 - i_7 / 2 * 2)] ∧ (va_P D vwCl [(a0, .inl (cI, 120, .inl g0)), (h0, .inr (8, [.ref a0, .int tk, .ref a1, .int mm, .ref a2, .ref a3, .ref a4, .ref a5, .ref a6, .ref a7, .int wm, .int fa, .int th, .int se, .ref a8, .ref a9, .ref ab])), (a1, .inl (cI, 80, .inl g1))] H ∧ va_D A [(a0, .inl (cI, 120, .inl g0)), (h0, .inr (8, [.ref a0, .int tk, .ref a1, .int mm, .ref a2, .ref a3, .ref a4, .ref a5, .ref a6, .ref a7, .int wm, .int fa, .int th, .int se, .ref a8, .ref a9, .ref ab])), (a1, .inl (cI, 80, .inl g1))]) ∧ va_S A s.heap H locs ∧ lv_has ls 9 [(7, .int (g0 (Int32.toNatClampNeg i_7))), (6, .int i_7), (5, .int i5_6), (4, .int q_4), (3, .int q_2), (2, .int (g1 (Int32.toNatClampNeg (10 * v + 1)))), (0, .ref h0), (1, .int v)]) ?_ ?_
            · intro st9 H locs ls hI
              obtain ⟨q_18, rfl, ⟨hP, hD⟩, hS, hl⟩ := hI
              refine lv_icmp_ne (tgt := 174) hx hb dX9_readBits_124 (by decide) (fun c_20 => ?_) (fun c_20 => ?_)
              · refine lv_aload_n hx hb dX9_readBits_174 rfl (lv_at hl 6 rfl) ?_
                refine lv_iload_n hx hb dX9_readBits_175 rfl (lv_at hl 7 rfl) ?_
                refine lv_iload hx hb dX9_readBits_176 (lv_at hl 0 rfl) ?_
                refine lv_aload_n hx hb dX9_readBits_178 rfl (lv_at hl 6 rfl) ?_
                refine lv_iload_n hx hb dX9_readBits_179 rfl (lv_at hl 7 rfl) ?_
                refine lv_iconst (v := 4) hx hb dX9_readBits_180 (by decide) ?_
                refine go_i (wr := [(a0, .inl (cI, 120, .inl g0))]) (tysr := [(cI, .int)]) hP hD hS hA hK [1, 2] [0] [0] rfl rfl (by decide) (by decide) rfl (va_runV (As := [.int v, .int 4]) (rest := [.int (g0 (Int32.toNatClampNeg i_7)), .int v, .ref h0]) ⟨hx, hb, hml, hown, hts⟩ (m_get l D H.size cI h0 a0 a1 a2 a3 a4 a5 a6 a7 a8 a9 ab tk mm wm fa th se g1 v 4 (by first | assumption | (clear hml hsz hr hlocks; omega) | decide) (by first | assumption | (clear hml hsz hr hlocks; omega) | decide)) (cwV 2 hts gX9_readBits_X9_get rfl rfl rfl (by decide +kernel) ⟨Nat.le_of_ble_eq_true rfl, Nat.le_of_ble_eq_true rfl⟩) (st_preV (ci := 8) (q0 := 1) hP hD hK hNW [1, 2] [0] rfl rfl (by decide) rfl rfl rfl rfl) rfl rfl hl.1 rfl (lv_room (Nat.le_of_ble_eq_true rfl)) dX9_readBits_181 ⟨(Nat.le_of_ble_eq_true rfl), (Nat.le_of_ble_eq_true rfl)⟩) (fun r_21 u H locs hw hP hD hK hS => ?_)
                have hw : r_21 = g1 (Int32.toNatClampNeg (10 * v + 4)) := hw
                subst hw
                have hP : va_P D vwCl [(a0, .inl (cI, 120, .inl g0)), (h0, .inr (8, [.ref a0, .int tk, .ref a1, .int mm, .ref a2, .ref a3, .ref a4, .ref a5, .ref a6, .ref a7, .int wm, .int fa, .int th, .int se, .ref a8, .ref a9, .ref ab])), (a1, .inl (cI, 80, .inl g1))] H := hP
                have hD : va_D A [(a0, .inl (cI, 120, .inl g0)), (h0, .inr (8, [.ref a0, .int tk, .ref a1, .int mm, .ref a2, .ref a3, .ref a4, .ref a5, .ref a6, .ref a7, .int wm, .int fa, .int th, .int se, .ref a8, .ref a9, .ref ab])), (a1, .inl (cI, 80, .inl g1))] := hD
                have hK : va_K D vwCl [(cI, .int)] s := hK
                refine go_i (wr := [(a0, .inl (cI, 120, .inl g0))]) (tysr := [(cI, .int)]) hP hD hS hA hK [1, 2] [0] [0] rfl rfl (by decide) (by decide) rfl (va_runV (As := [.int v, .int (g0 (Int32.toNatClampNeg i_7)), .int (g1 (Int32.toNatClampNeg (10 * v + 4)))]) (rest := []) ⟨hx, hb, hml, hown, hts⟩ (m_fits l D H.size cI h0 a0 a1 a2 a3 a4 a5 a6 a7 a8 a9 ab tk mm wm fa th se g1 v (g0 (Int32.toNatClampNeg i_7)) (g1 (Int32.toNatClampNeg (10 * v + 4))) (by first | assumption | (clear hml hsz hr hlocks; omega) | decide)) (cwV 3 hts gX9_readBits_X9_fits rfl rfl rfl (by decide +kernel) ⟨Nat.le_of_ble_eq_true rfl, Nat.le_of_ble_eq_true rfl⟩) (st_preV (ci := 8) (q0 := 1) hP hD hK hNW [1, 2] [0] rfl rfl (by decide) rfl rfl rfl rfl) rfl rfl hl.1 rfl (lv_room (Nat.le_of_ble_eq_true rfl)) dX9_readBits_184 ⟨(Nat.le_of_ble_eq_true rfl), (Nat.le_of_ble_eq_true rfl)⟩) (fun r_22 u H locs hw hP hD hK hS => ?_)
                have hP : va_P D vwCl [(a0, .inl (cI, 120, .inl g0)), (h0, .inr (8, [.ref a0, .int tk, .ref a1, .int mm, .ref a2, .ref a3, .ref a4, .ref a5, .ref a6, .ref a7, .int wm, .int fa, .int th, .int se, .ref a8, .ref a9, .ref ab])), (a1, .inl (cI, 80, .inl g1))] H := hP
                have hD : va_D A [(a0, .inl (cI, 120, .inl g0)), (h0, .inr (8, [.ref a0, .int tk, .ref a1, .int mm, .ref a2, .ref a3, .ref a4, .ref a5, .ref a6, .ref a7, .int wm, .int fa, .int th, .int se, .ref a8, .ref a9, .ref ab])), (a1, .inl (cI, 80, .inl g1))] := hD
                have hK : va_K D vwCl [(cI, .int)] s := hK
                refine lv_if_ne (tgt := 197) hx hb dX9_readBits_187 (by decide) (fun c_23 => ?_) (fun c_23 => ?_)
                · exact hJ_16 _ _ _ _ ⟨i5_6, rfl, ⟨hP, hD⟩, hS, lv_sub hl [0, 1, 2, 3, 4, 5, 6, 7] rfl⟩
                refine lv_aload_n hx hb dX9_readBits_190 rfl (lv_at hl 6 rfl) ?_
                refine lv_iload hx hb dX9_readBits_191 (lv_at hl 1 rfl) ?_
                refine go_i (wr := [(a0, .inl (cI, 120, .inl g0)), (a1, .inl (cI, 80, .inl g1))]) (tysr := [(cI, .int)]) hP hD hS hA hK [1] [0, 2] [0] rfl rfl (by decide) (by decide) rfl (va_runV (As := [.int i_7]) (rest := []) ⟨hx, hb, hml, hown, hts⟩ (m_fault l D H.size cI h0 a0 a1 a2 a3 a4 a5 a6 a7 a8 a9 ab tk mm wm fa th se i_7 ) (cwV 1 hts gX9_readBits_X9_fault rfl rfl rfl (by decide +kernel) ⟨Nat.le_of_ble_eq_true rfl, Nat.le_of_ble_eq_true rfl⟩) (st_preV (ci := 8) (q0 := 1) hP hD hK hNW [1] [0] rfl rfl (by decide) rfl rfl rfl rfl) rfl rfl hl.1 rfl (lv_room (Nat.le_of_ble_eq_true rfl)) dX9_readBits_193 ⟨(Nat.le_of_ble_eq_true rfl), (Nat.le_of_ble_eq_true rfl)⟩) (fun r_24 u H locs hw hP hD hK hS => ?_)
                have hw : r_24 = -1 := hw
                subst hw
                have hP : va_P D vwCl [(a0, .inl (cI, 120, .inl g0)), (a1, .inl (cI, 80, .inl g1)), (h0, .inr (8, [.ref a0, .int tk, .ref a1, .int mm, .ref a2, .ref a3, .ref a4, .ref a5, .ref a6, .ref a7, .int wm, .int i_7, .int th, .int se, .ref a8, .ref a9, .ref ab]))] H := hP
                have hD : va_D A [(a0, .inl (cI, 120, .inl g0)), (a1, .inl (cI, 80, .inl g1)), (h0, .inr (8, [.ref a0, .int tk, .ref a1, .int mm, .ref a2, .ref a3, .ref a4, .ref a5, .ref a6, .ref a7, .int wm, .int i_7, .int th, .int se, .ref a8, .ref a9, .ref ab]))] := hD
                have hK : va_K D vwCl [(cI, .int)] s := hK
                exact ret_i hx hb hr hlocks rfl (u := i_7) trivial (hP.sub [2, 0, 1] rfl) (hK.sub [] rfl) (hD.sub [2, 0, 1] (by decide) rfl) hS (Nat.le_of_ble_eq_true rfl) (Nat.le_of_ble_eq_true rfl) dX9_readBits_196
              refine lv_aload_n hx hb dX9_readBits_127 rfl (lv_at hl 6 rfl) ?_
              refine lv_iload_n hx hb dX9_readBits_128 rfl (lv_at hl 7 rfl) ?_
              refine lv_iload hx hb dX9_readBits_129 (lv_at hl 0 rfl) ?_
              refine lv_aload_n hx hb dX9_readBits_131 rfl (lv_at hl 6 rfl) ?_
              refine lv_iload_n hx hb dX9_readBits_132 rfl (lv_at hl 7 rfl) ?_
              refine lv_iconst (v := 5) hx hb dX9_readBits_133 (by decide) ?_
              refine go_i (wr := [(a0, .inl (cI, 120, .inl g0))]) (tysr := [(cI, .int)]) hP hD hS hA hK [1, 2] [0] [0] rfl rfl (by decide) (by decide) rfl (va_runV (As := [.int v, .int 5]) (rest := [.int (g0 (Int32.toNatClampNeg i_7)), .int v, .ref h0]) ⟨hx, hb, hml, hown, hts⟩ (m_get l D H.size cI h0 a0 a1 a2 a3 a4 a5 a6 a7 a8 a9 ab tk mm wm fa th se g1 v 5 (by first | assumption | (clear hml hsz hr hlocks; omega) | decide) (by first | assumption | (clear hml hsz hr hlocks; omega) | decide)) (cwV 2 hts gX9_readBits_X9_get rfl rfl rfl (by decide +kernel) ⟨Nat.le_of_ble_eq_true rfl, Nat.le_of_ble_eq_true rfl⟩) (st_preV (ci := 8) (q0 := 1) hP hD hK hNW [1, 2] [0] rfl rfl (by decide) rfl rfl rfl rfl) rfl rfl hl.1 rfl (lv_room (Nat.le_of_ble_eq_true rfl)) dX9_readBits_134 ⟨(Nat.le_of_ble_eq_true rfl), (Nat.le_of_ble_eq_true rfl)⟩) (fun r_25 u H locs hw hP hD hK hS => ?_)
              have hw : r_25 = g1 (Int32.toNatClampNeg (10 * v + 5)) := hw
              subst hw
              have hP : va_P D vwCl [(a0, .inl (cI, 120, .inl g0)), (h0, .inr (8, [.ref a0, .int tk, .ref a1, .int mm, .ref a2, .ref a3, .ref a4, .ref a5, .ref a6, .ref a7, .int wm, .int fa, .int th, .int se, .ref a8, .ref a9, .ref ab])), (a1, .inl (cI, 80, .inl g1))] H := hP
              have hD : va_D A [(a0, .inl (cI, 120, .inl g0)), (h0, .inr (8, [.ref a0, .int tk, .ref a1, .int mm, .ref a2, .ref a3, .ref a4, .ref a5, .ref a6, .ref a7, .int wm, .int fa, .int th, .int se, .ref a8, .ref a9, .ref ab])), (a1, .inl (cI, 80, .inl g1))] := hD
              have hK : va_K D vwCl [(cI, .int)] s := hK
              refine lv_aload_n hx hb dX9_readBits_137 rfl (lv_at hl 6 rfl) ?_
              refine lv_iload_n hx hb dX9_readBits_138 rfl (lv_at hl 7 rfl) ?_
              refine lv_bipush (v := 6) hx hb dX9_readBits_139 (by decide) ?_
              refine go_i (wr := [(a0, .inl (cI, 120, .inl g0))]) (tysr := [(cI, .int)]) hP hD hS hA hK [1, 2] [0] [0] rfl rfl (by decide) (by decide) rfl (va_runV (As := [.int v, .int 6]) (rest := [.int (g1 (Int32.toNatClampNeg (10 * v + 5))), .int (g0 (Int32.toNatClampNeg i_7)), .int v, .ref h0]) ⟨hx, hb, hml, hown, hts⟩ (m_get l D H.size cI h0 a0 a1 a2 a3 a4 a5 a6 a7 a8 a9 ab tk mm wm fa th se g1 v 6 (by first | assumption | (clear hml hsz hr hlocks; omega) | decide) (by first | assumption | (clear hml hsz hr hlocks; omega) | decide)) (cwV 2 hts gX9_readBits_X9_get rfl rfl rfl (by decide +kernel) ⟨Nat.le_of_ble_eq_true rfl, Nat.le_of_ble_eq_true rfl⟩) (st_preV (ci := 8) (q0 := 1) hP hD hK hNW [1, 2] [0] rfl rfl (by decide) rfl rfl rfl rfl) rfl rfl hl.1 rfl (lv_room (Nat.le_of_ble_eq_true rfl)) dX9_readBits_141 ⟨(Nat.le_of_ble_eq_true rfl), (Nat.le_of_ble_eq_true rfl)⟩) (fun r_26 u H locs hw hP hD hK hS => ?_)
              have hw : r_26 = g1 (Int32.toNatClampNeg (10 * v + 6)) := hw
              subst hw
              have hP : va_P D vwCl [(a0, .inl (cI, 120, .inl g0)), (h0, .inr (8, [.ref a0, .int tk, .ref a1, .int mm, .ref a2, .ref a3, .ref a4, .ref a5, .ref a6, .ref a7, .int wm, .int fa, .int th, .int se, .ref a8, .ref a9, .ref ab])), (a1, .inl (cI, 80, .inl g1))] H := hP
              have hD : va_D A [(a0, .inl (cI, 120, .inl g0)), (h0, .inr (8, [.ref a0, .int tk, .ref a1, .int mm, .ref a2, .ref a3, .ref a4, .ref a5, .ref a6, .ref a7, .int wm, .int fa, .int th, .int se, .ref a8, .ref a9, .ref ab])), (a1, .inl (cI, 80, .inl g1))] := hD
              have hK : va_K D vwCl [(cI, .int)] s := hK
              refine go_i (wr := [(a0, .inl (cI, 120, .inl g0))]) (tysr := [(cI, .int)]) hP hD hS hA hK [1, 2] [0] [0] rfl rfl (by decide) (by decide) rfl (va_runV (As := [.int v, .int (g0 (Int32.toNatClampNeg i_7)), .int (g1 (Int32.toNatClampNeg (10 * v + 5))), .int (g1 (Int32.toNatClampNeg (10 * v + 6)))]) (rest := []) ⟨hx, hb, hml, hown, hts⟩ (m_which l D H.size cI h0 a0 a1 a2 a3 a4 a5 a6 a7 a8 a9 ab tk mm wm fa th se g1 v (g0 (Int32.toNatClampNeg i_7)) (g1 (Int32.toNatClampNeg (10 * v + 5))) (g1 (Int32.toNatClampNeg (10 * v + 6))) (by first | assumption | (clear hml hsz hr hlocks; omega) | decide)) (cwV 4 hts gX9_readBits_X9_which rfl rfl rfl (by decide +kernel) ⟨Nat.le_of_ble_eq_true rfl, Nat.le_of_ble_eq_true rfl⟩) (st_preV (ci := 8) (q0 := 1) hP hD hK hNW [1, 2] [0] rfl rfl (by decide) rfl rfl rfl rfl) rfl rfl hl.1 rfl (lv_room (Nat.le_of_ble_eq_true rfl)) dX9_readBits_144 ⟨(Nat.le_of_ble_eq_true rfl), (Nat.le_of_ble_eq_true rfl)⟩) (fun r_27 u H locs hw hP hD hK hS => ?_)
              have hw : r_27 = 0 ∨ r_27 = 1 ∨ r_27 = -1 := hw
              have hw_28 := hw
              have hP : va_P D vwCl [(a0, .inl (cI, 120, .inl g0)), (h0, .inr (8, [.ref a0, .int tk, .ref a1, .int mm, .ref a2, .ref a3, .ref a4, .ref a5, .ref a6, .ref a7, .int wm, .int fa, .int th, .int se, .ref a8, .ref a9, .ref ab])), (a1, .inl (cI, 80, .inl g1))] H := hP
              have hD : va_D A [(a0, .inl (cI, 120, .inl g0)), (h0, .inr (8, [.ref a0, .int tk, .ref a1, .int mm, .ref a2, .ref a3, .ref a4, .ref a5, .ref a6, .ref a7, .int wm, .int fa, .int th, .int se, .ref a8, .ref a9, .ref ab])), (a1, .inl (cI, 80, .inl g1))] := hD
              have hK : va_K D vwCl [(cI, .int)] s := hK
              refine lv_istore (lv' := [(8, .int r_27), (7, .int (g0 (Int32.toNatClampNeg i_7))), (6, .int i_7), (5, .int i5_6), (4, .int q_4), (3, .int q_2), (2, .int (g1 (Int32.toNatClampNeg (10 * v + 1)))), (0, .ref h0), (1, .int v)]) hx hb dX9_readBits_147 hl (by decide) rfl (fun ls hl => ?_)
              refine lv_iload hx hb dX9_readBits_149 (lv_at hl 0 rfl) ?_
              refine lv_iconst (v := (-1)) hx hb dX9_readBits_151 (by decide) ?_
              refine lv_icmp_ne (tgt := 162) hx hb dX9_readBits_152 (by decide) (fun c_29 => ?_) (fun c_29 => ?_)
              · refine lv_iconst (v := 2) hx hb dX9_readBits_162 (by decide) ?_
                refine lv_iload hx hb dX9_readBits_163 (lv_at hl 3 rfl) ?_
                refine lv_imul hx hb dX9_readBits_165 ?_
                refine lv_iload hx hb dX9_readBits_166 (lv_at hl 0 rfl) ?_
                refine lv_iadd hx hb dX9_readBits_168 ?_
                refine lv_istore (lv' := [(5, .int ((2 * i5_6) + r_27)), (8, .int r_27), (7, .int (g0 (Int32.toNatClampNeg i_7))), (6, .int i_7), (4, .int q_4), (3, .int q_2), (2, .int (g1 (Int32.toNatClampNeg (10 * v + 1)))), (0, .ref h0), (1, .int v)]) hx hb dX9_readBits_169 hl (by decide) rfl (fun ls hl => ?_)
                refine lv_goto (tgt := 197) hx hb dX9_readBits_171 (by decide) ?_
                exact hJ_16 _ _ _ _ ⟨(2 * i5_6) + r_27, rfl, ⟨hP, hD⟩, hS, lv_sub hl [2, 3, 0, 4, 5, 6, 7, 8] rfl⟩
              refine lv_aload_n hx hb dX9_readBits_155 rfl (lv_at hl 7 rfl) ?_
              refine lv_iload hx hb dX9_readBits_156 (lv_at hl 2 rfl) ?_
              refine go_i (wr := [(a0, .inl (cI, 120, .inl g0)), (a1, .inl (cI, 80, .inl g1))]) (tysr := [(cI, .int)]) hP hD hS hA hK [1] [0, 2] [0] rfl rfl (by decide) (by decide) rfl (va_runV (As := [.int i_7]) (rest := []) ⟨hx, hb, hml, hown, hts⟩ (m_fault l D H.size cI h0 a0 a1 a2 a3 a4 a5 a6 a7 a8 a9 ab tk mm wm fa th se i_7 ) (cwV 1 hts gX9_readBits_X9_fault rfl rfl rfl (by decide +kernel) ⟨Nat.le_of_ble_eq_true rfl, Nat.le_of_ble_eq_true rfl⟩) (st_preV (ci := 8) (q0 := 1) hP hD hK hNW [1] [0] rfl rfl (by decide) rfl rfl rfl rfl) rfl rfl hl.1 rfl (lv_room (Nat.le_of_ble_eq_true rfl)) dX9_readBits_158 ⟨(Nat.le_of_ble_eq_true rfl), (Nat.le_of_ble_eq_true rfl)⟩) (fun r_30 u H locs hw hP hD hK hS => ?_)
              have hw : r_30 = -1 := hw
              subst hw
              have hP : va_P D vwCl [(a0, .inl (cI, 120, .inl g0)), (a1, .inl (cI, 80, .inl g1)), (h0, .inr (8, [.ref a0, .int tk, .ref a1, .int mm, .ref a2, .ref a3, .ref a4, .ref a5, .ref a6, .ref a7, .int wm, .int i_7, .int th, .int se, .ref a8, .ref a9, .ref ab]))] H := hP
              have hD : va_D A [(a0, .inl (cI, 120, .inl g0)), (a1, .inl (cI, 80, .inl g1)), (h0, .inr (8, [.ref a0, .int tk, .ref a1, .int mm, .ref a2, .ref a3, .ref a4, .ref a5, .ref a6, .ref a7, .int wm, .int i_7, .int th, .int se, .ref a8, .ref a9, .ref ab]))] := hD
              have hK : va_K D vwCl [(cI, .int)] s := hK
              exact ret_i hx hb hr hlocks rfl (u := i_7) trivial (hP.sub [2, 0, 1] rfl) (hK.sub [] rfl) (hD.sub [2, 0, 1] (by decide) rfl) hS (Nat.le_of_ble_eq_true rfl) (Nat.le_of_ble_eq_true rfl) dX9_readBits_161
            · intro hJ_31
              refine lv_iload_n hx hb dX9_readBits_115 rfl (lv_at hl 4 rfl) ?_
              refine lv_if_eq (tgt := 123) hx hb dX9_readBits_116 (by decide) (fun c_32 => ?_) (fun c_32 => ?_)
              · refine lv_iconst (v := 0) hx hb dX9_readBits_123 (by decide) ?_
                exact hJ_31 _ _ _ _ ⟨0, rfl, ⟨hP, hD⟩, hS, lv_sub hl [0, 1, 2, 3, 4, 5, 6, 7] rfl⟩
              refine lv_iconst (v := 1) hx hb dX9_readBits_119 (by decide) ?_
              refine lv_goto (tgt := 124) hx hb dX9_readBits_120 (by decide) ?_
              exact hJ_31 _ _ _ _ ⟨1, rfl, ⟨hP, hD⟩, hS, lv_sub hl [0, 1, 2, 3, 4, 5, 6, 7] rfl⟩
          refine lv_aload_n hx hb dX9_readBits_85 rfl (lv_at hl 6 rfl) ?_
          refine lv_iload_n hx hb dX9_readBits_86 rfl (lv_at hl 7 rfl) ?_
          refine lv_iload hx hb dX9_readBits_87 (lv_at hl 0 rfl) ?_
          refine lv_aload_n hx hb dX9_readBits_89 rfl (lv_at hl 6 rfl) ?_
          refine lv_iload_n hx hb dX9_readBits_90 rfl (lv_at hl 7 rfl) ?_
          refine lv_iconst (v := 2) hx hb dX9_readBits_91 (by decide) ?_
          refine lv_iload hx hb dX9_readBits_92 (lv_at hl 1 rfl) ?_
          refine lv_iadd hx hb dX9_readBits_94 ?_
          refine go_i (wr := [(a0, .inl (cI, 120, .inl g0))]) (tysr := [(cI, .int)]) hP hD hS hA hK [1, 2] [0] [0] rfl rfl (by decide) (by decide) rfl (va_runV (As := [.int v, .int (2 + i_7)]) (rest := [.int (g0 (Int32.toNatClampNeg i_7)), .int v, .ref h0]) ⟨hx, hb, hml, hown, hts⟩ (m_get l D H.size cI h0 a0 a1 a2 a3 a4 a5 a6 a7 a8 a9 ab tk mm wm fa th se g1 v (2 + i_7) (by first | assumption | (clear hml hsz hr hlocks; omega)) (by clear hml hsz hr hlocks; have : (2 : Int32).toInt = 2 := (by decide); have := ti_nle c_10; have := ti_lt c_13; have := ti_nle c_17; have h2 : (2 : Int32).toInt = 2 := (by decide); have u3 := ti_ad (x := 2) (y := i_7) (by rw [h2]; omega); rw [h2] at u3; omega)) (cwV 2 hts gX9_readBits_X9_get rfl rfl rfl (by decide +kernel) ⟨Nat.le_of_ble_eq_true rfl, Nat.le_of_ble_eq_true rfl⟩) (st_preV (ci := 8) (q0 := 1) hP hD hK hNW [1, 2] [0] rfl rfl (by decide) rfl rfl rfl rfl) rfl rfl hl.1 rfl (lv_room (Nat.le_of_ble_eq_true rfl)) dX9_readBits_95 ⟨(Nat.le_of_ble_eq_true rfl), (Nat.le_of_ble_eq_true rfl)⟩) (fun r_33 u H locs hw hP hD hK hS => ?_)
          have hw : r_33 = g1 (Int32.toNatClampNeg (10 * v + (2 + i_7))) := hw
          subst hw
          have hP : va_P D vwCl [(a0, .inl (cI, 120, .inl g0)), (h0, .inr (8, [.ref a0, .int tk, .ref a1, .int mm, .ref a2, .ref a3, .ref a4, .ref a5, .ref a6, .ref a7, .int wm, .int fa, .int th, .int se, .ref a8, .ref a9, .ref ab])), (a1, .inl (cI, 80, .inl g1))] H := hP
          have hD : va_D A [(a0, .inl (cI, 120, .inl g0)), (h0, .inr (8, [.ref a0, .int tk, .ref a1, .int mm, .ref a2, .ref a3, .ref a4, .ref a5, .ref a6, .ref a7, .int wm, .int fa, .int th, .int se, .ref a8, .ref a9, .ref ab])), (a1, .inl (cI, 80, .inl g1))] := hD
          have hK : va_K D vwCl [(cI, .int)] s := hK
          refine go_i (wr := [(a0, .inl (cI, 120, .inl g0))]) (tysr := [(cI, .int)]) hP hD hS hA hK [1, 2] [0] [0] rfl rfl (by decide) (by decide) rfl (va_runV (As := [.int v, .int (g0 (Int32.toNatClampNeg i_7)), .int (g1 (Int32.toNatClampNeg (10 * v + (2 + i_7))))]) (rest := []) ⟨hx, hb, hml, hown, hts⟩ (m_fits l D H.size cI h0 a0 a1 a2 a3 a4 a5 a6 a7 a8 a9 ab tk mm wm fa th se g1 v (g0 (Int32.toNatClampNeg i_7)) (g1 (Int32.toNatClampNeg (10 * v + (2 + i_7)))) (by first | assumption | (clear hml hsz hr hlocks; omega) | decide)) (cwV 3 hts gX9_readBits_X9_fits rfl rfl rfl (by decide +kernel) ⟨Nat.le_of_ble_eq_true rfl, Nat.le_of_ble_eq_true rfl⟩) (st_preV (ci := 8) (q0 := 1) hP hD hK hNW [1, 2] [0] rfl rfl (by decide) rfl rfl rfl rfl) rfl rfl hl.1 rfl (lv_room (Nat.le_of_ble_eq_true rfl)) dX9_readBits_98 ⟨(Nat.le_of_ble_eq_true rfl), (Nat.le_of_ble_eq_true rfl)⟩) (fun r_34 u H locs hw hP hD hK hS => ?_)
          have hP : va_P D vwCl [(a0, .inl (cI, 120, .inl g0)), (h0, .inr (8, [.ref a0, .int tk, .ref a1, .int mm, .ref a2, .ref a3, .ref a4, .ref a5, .ref a6, .ref a7, .int wm, .int fa, .int th, .int se, .ref a8, .ref a9, .ref ab])), (a1, .inl (cI, 80, .inl g1))] H := hP
          have hD : va_D A [(a0, .inl (cI, 120, .inl g0)), (h0, .inr (8, [.ref a0, .int tk, .ref a1, .int mm, .ref a2, .ref a3, .ref a4, .ref a5, .ref a6, .ref a7, .int wm, .int fa, .int th, .int se, .ref a8, .ref a9, .ref ab])), (a1, .inl (cI, 80, .inl g1))] := hD
          have hK : va_K D vwCl [(cI, .int)] s := hK
          refine lv_if_ne (tgt := 197) hx hb dX9_readBits_101 (by decide) (fun c_35 => ?_) (fun c_35 => ?_)
          · exact hJ_16 _ _ _ _ ⟨i5_6, rfl, ⟨hP, hD⟩, hS, lv_sub hl [0, 1, 2, 3, 4, 5, 6, 7] rfl⟩
          refine lv_aload_n hx hb dX9_readBits_104 rfl (lv_at hl 6 rfl) ?_
          refine lv_iload hx hb dX9_readBits_105 (lv_at hl 1 rfl) ?_
          refine go_i (wr := [(a0, .inl (cI, 120, .inl g0)), (a1, .inl (cI, 80, .inl g1))]) (tysr := [(cI, .int)]) hP hD hS hA hK [1] [0, 2] [0] rfl rfl (by decide) (by decide) rfl (va_runV (As := [.int i_7]) (rest := []) ⟨hx, hb, hml, hown, hts⟩ (m_fault l D H.size cI h0 a0 a1 a2 a3 a4 a5 a6 a7 a8 a9 ab tk mm wm fa th se i_7 ) (cwV 1 hts gX9_readBits_X9_fault rfl rfl rfl (by decide +kernel) ⟨Nat.le_of_ble_eq_true rfl, Nat.le_of_ble_eq_true rfl⟩) (st_preV (ci := 8) (q0 := 1) hP hD hK hNW [1] [0] rfl rfl (by decide) rfl rfl rfl rfl) rfl rfl hl.1 rfl (lv_room (Nat.le_of_ble_eq_true rfl)) dX9_readBits_107 ⟨(Nat.le_of_ble_eq_true rfl), (Nat.le_of_ble_eq_true rfl)⟩) (fun r_36 u H locs hw hP hD hK hS => ?_)
          have hw : r_36 = -1 := hw
          subst hw
          have hP : va_P D vwCl [(a0, .inl (cI, 120, .inl g0)), (a1, .inl (cI, 80, .inl g1)), (h0, .inr (8, [.ref a0, .int tk, .ref a1, .int mm, .ref a2, .ref a3, .ref a4, .ref a5, .ref a6, .ref a7, .int wm, .int i_7, .int th, .int se, .ref a8, .ref a9, .ref ab]))] H := hP
          have hD : va_D A [(a0, .inl (cI, 120, .inl g0)), (a1, .inl (cI, 80, .inl g1)), (h0, .inr (8, [.ref a0, .int tk, .ref a1, .int mm, .ref a2, .ref a3, .ref a4, .ref a5, .ref a6, .ref a7, .int wm, .int i_7, .int th, .int se, .ref a8, .ref a9, .ref ab]))] := hD
          have hK : va_K D vwCl [(cI, .int)] s := hK
          exact ret_i hx hb hr hlocks rfl (u := i_7) trivial (hP.sub [2, 0, 1] rfl) (hK.sub [] rfl) (hD.sub [2, 0, 1] (by decide) rfl) hS (Nat.le_of_ble_eq_true rfl) (Nat.le_of_ble_eq_true rfl) dX9_readBits_110
      refine lv_aload_n hx hb dX9_readBits_63 rfl (lv_at hl 5 rfl) ?_
      refine lv_iload hx hb dX9_readBits_64 (lv_at hl 0 rfl) ?_
      refine go_i (wr := [(a0, .inl (cI, 120, .inl g0)), (a1, .inl (cI, 80, .inl g1))]) (tysr := [(cI, .int)]) hP hD hS hA hK [1] [0, 2] [0] rfl rfl (by decide) (by decide) rfl (va_runV (As := [.int i_7]) (rest := []) ⟨hx, hb, hml, hown, hts⟩ (m_fault l D H.size cI h0 a0 a1 a2 a3 a4 a5 a6 a7 a8 a9 ab tk mm wm fa th se i_7 ) (cwV 1 hts gX9_readBits_X9_fault rfl rfl rfl (by decide +kernel) ⟨Nat.le_of_ble_eq_true rfl, Nat.le_of_ble_eq_true rfl⟩) (st_preV (ci := 8) (q0 := 1) hP hD hK hNW [1] [0] rfl rfl (by decide) rfl rfl rfl rfl) rfl rfl hl.1 rfl (lv_room (Nat.le_of_ble_eq_true rfl)) dX9_readBits_66 ⟨(Nat.le_of_ble_eq_true rfl), (Nat.le_of_ble_eq_true rfl)⟩) (fun r_37 u H locs hw hP hD hK hS => ?_)
      have hw : r_37 = -1 := hw
      subst hw
      have hP : va_P D vwCl [(a0, .inl (cI, 120, .inl g0)), (a1, .inl (cI, 80, .inl g1)), (h0, .inr (8, [.ref a0, .int tk, .ref a1, .int mm, .ref a2, .ref a3, .ref a4, .ref a5, .ref a6, .ref a7, .int wm, .int i_7, .int th, .int se, .ref a8, .ref a9, .ref ab]))] H := hP
      have hD : va_D A [(a0, .inl (cI, 120, .inl g0)), (a1, .inl (cI, 80, .inl g1)), (h0, .inr (8, [.ref a0, .int tk, .ref a1, .int mm, .ref a2, .ref a3, .ref a4, .ref a5, .ref a6, .ref a7, .int wm, .int i_7, .int th, .int se, .ref a8, .ref a9, .ref ab]))] := hD
      have hK : va_K D vwCl [(cI, .int)] s := hK
      exact ret_i hx hb hr hlocks rfl (u := i_7) trivial (hP.sub [2, 0, 1] rfl) (hK.sub [] rfl) (hD.sub [2, 0, 1] (by decide) rfl) hS (Nat.le_of_ble_eq_true rfl) (Nat.le_of_ble_eq_true rfl) dX9_readBits_69
    · intro hJ_38
      refine lv_iload_n hx hb dX9_readBits_22 rfl (lv_at hl 0 rfl) ?_
      refine lv_if_eq (tgt := 34) hx hb dX9_readBits_23 (by decide) (fun c_39 => ?_) (fun c_39 => ?_)
      · refine lv_iconst (v := 2) hx hb dX9_readBits_34 (by decide) ?_
        refine lv_iload_n hx hb dX9_readBits_35 rfl (lv_at hl 1 rfl) ?_
        refine lv_imul hx hb dX9_readBits_36 ?_
        refine lv_iconst (v := 1) hx hb dX9_readBits_37 (by decide) ?_
        refine lv_iadd hx hb dX9_readBits_38 ?_
        exact hJ_38 _ _ _ _ ⟨(2 * (g1 (Int32.toNatClampNeg (10 * v + 1)))) + 1, rfl, ⟨hP, hD⟩, hS, lv_sub hl [0, 1, 2, 3] rfl⟩
      refine lv_iconst (v := 2) hx hb dX9_readBits_26 (by decide) ?_
      refine lv_iload_n hx hb dX9_readBits_27 rfl (lv_at hl 1 rfl) ?_
      refine lv_imul hx hb dX9_readBits_28 ?_
      refine lv_iconst (v := 3) hx hb dX9_readBits_29 (by decide) ?_
      refine lv_iadd hx hb dX9_readBits_30 ?_
      refine lv_goto (tgt := 39) hx hb dX9_readBits_31 (by decide) ?_
      exact hJ_38 _ _ _ _ ⟨(2 * (g1 (Int32.toNatClampNeg (10 * v + 1)))) + 3, rfl, ⟨hP, hD⟩, hS, lv_sub hl [0, 1, 2, 3] rfl⟩
  · intro hJ_40
    refine lv_aload_n hx hb dX9_readBits_7 rfl (lv_at hl 1 rfl) ?_
    refine lv_iload_n hx hb dX9_readBits_8 rfl (lv_at hl 2 rfl) ?_
    refine lv_iconst (v := 0) hx hb dX9_readBits_9 (by decide) ?_
    refine go_i (wr := [(a0, .inl (cI, 120, .inl g0))]) (tysr := [(cI, .int)]) hP hD hS hA hK [1, 2] [0] [0] rfl rfl (by decide) (by decide) rfl (va_runV (As := [.int v, .int 0]) (rest := []) ⟨hx, hb, hml, hown, hts⟩ (m_get l D H.size cI h0 a0 a1 a2 a3 a4 a5 a6 a7 a8 a9 ab tk mm wm fa th se g1 v 0 (by first | assumption | (clear hml hsz hr hlocks; omega) | decide) (by first | assumption | (clear hml hsz hr hlocks; omega) | decide)) (cwV 2 hts gX9_readBits_X9_get rfl rfl rfl (by decide +kernel) ⟨Nat.le_of_ble_eq_true rfl, Nat.le_of_ble_eq_true rfl⟩) (st_preV (ci := 8) (q0 := 1) hP hD hK hNW [1, 2] [0] rfl rfl (by decide) rfl rfl rfl rfl) rfl rfl hl.1 rfl (lv_room (Nat.le_of_ble_eq_true rfl)) dX9_readBits_10 ⟨(Nat.le_of_ble_eq_true rfl), (Nat.le_of_ble_eq_true rfl)⟩) (fun r_41 u H locs hw hP hD hK hS => ?_)
    have hw : r_41 = g1 (Int32.toNatClampNeg (10 * v + 0)) := hw
    subst hw
    have hP : va_P D vwCl [(a0, .inl (cI, 120, .inl g0)), (h0, .inr (8, [.ref a0, .int tk, .ref a1, .int mm, .ref a2, .ref a3, .ref a4, .ref a5, .ref a6, .ref a7, .int wm, .int fa, .int th, .int se, .ref a8, .ref a9, .ref ab])), (a1, .inl (cI, 80, .inl g1))] H := hP
    have hD : va_D A [(a0, .inl (cI, 120, .inl g0)), (h0, .inr (8, [.ref a0, .int tk, .ref a1, .int mm, .ref a2, .ref a3, .ref a4, .ref a5, .ref a6, .ref a7, .int wm, .int fa, .int th, .int se, .ref a8, .ref a9, .ref ab])), (a1, .inl (cI, 80, .inl g1))] := hD
    have hK : va_K D vwCl [(cI, .int)] s := hK
    refine lv_if_ne (tgt := 20) hx hb dX9_readBits_13 (by decide) (fun c_42 => ?_) (fun c_42 => ?_)
    · refine lv_iconst (v := 0) hx hb dX9_readBits_20 (by decide) ?_
      exact hJ_40 _ _ _ _ ⟨0, rfl, ⟨hP, hD⟩, hS, lv_sub hl [0, 1, 2] rfl⟩
    refine lv_iconst (v := 1) hx hb dX9_readBits_16 (by decide) ?_
    refine lv_goto (tgt := 21) hx hb dX9_readBits_17 (by decide) ?_
    exact hJ_40 _ _ _ _ ⟨1, rfl, ⟨hP, hD⟩, hS, lv_sub hl [0, 1, 2] rfl⟩
theorem him_readHalves_X9 : ∀ w ∈ wsX90, w ∈ wsX9_readHalves := mem_pl [32, 33, 34, 35, 36, 37, 38, 39, 40, 41, 42, 43, 44, 45, 46, 47, 48] rfl
set_option maxHeartbeats 4000000 in
set_option maxRecDepth 100000 in
theorem m_readHalves (l : Launch) (D : va_G) (sz : Nat) (cI : ClassId) (h0 : Nat) (a0 : Nat) (a1 : Nat) (a2 : Nat) (a3 : Nat) (a4 : Nat) (a5 : Nat) (a6 : Nat) (a7 : Nat) (a8 : Nat) (a9 : Nat) (ab : Nat) (tk : Int32) (mm : Int32) (wm : Int32) (fa : Int32) (th : Int32) (se : Int32) (g0 : Nat → Int32) (g1 : Nat → Int32) (v : Int32) (hk : bi tk 0 120) (hv : bi v 0 7) : Ci l yX9_readHalves wsX9_readHalves ({ frames := 4, cells := 0, slots := 0, locals := 91 } : Room) D [.ref h0, .int v] [(h0, .inr (8, [.ref a0, .int tk, .ref a1, .int mm, .ref a2, .ref a3, .ref a4, .ref a5, .ref a6, .ref a7, .int wm, .int fa, .int th, .int se, .ref a8, .ref a9, .ref ab])), (a0, .inl (cI, 120, .inl g0)), (a1, .inl (cI, 80, .inl g1))] [(cI, .int)] sz (fun (r : Int32) => fun (fa2 : Int32) => True) (fun (fa2 : Int32) => [(h0, .inr (8, [.ref a0, .int tk, .ref a1, .int mm, .ref a2, .ref a3, .ref a4, .ref a5, .ref a6, .ref a7, .int wm, .int fa2, .int th, .int se, .ref a8, .ref a9, .ref ab])), (a0, .inl (cI, 120, .inl g0)), (a1, .inl (cI, 80, .inl g1))]) (fun (fa2 : Int32) => []) := by
  refine ct_i (cc := cX9_readHalves) (maxL := 11) (ret := (some .int)) (by decide) rfl (Nat.le_of_ble_eq_true rfl) ?_
  intro p e s m below meth c A ls H hx hb hr hts hown hml hlocks hin hA hS hP hK hD hNW hl hAe hsz
  have hl : lv_has ls 11 [(0, .ref h0), (1, .int v)] := hl
  refine lv_aload_n hx hb dX9_readHalves_0 rfl (lv_at hl 0 rfl) ?_
  refine lv_iload_n hx hb dX9_readHalves_1 rfl (lv_at hl 1 rfl) ?_
  refine lv_iconst (v := 1) hx hb dX9_readHalves_2 (by decide) ?_
  refine go_i (wr := [(a0, .inl (cI, 120, .inl g0))]) (tysr := [(cI, .int)]) hP hD hS hA hK [0, 2] [1] [0] rfl rfl (by decide) (by decide) rfl (va_runV (As := [.int v, .int 1]) (rest := []) ⟨hx, hb, hml, hown, hts⟩ (m_get l D H.size cI h0 a0 a1 a2 a3 a4 a5 a6 a7 a8 a9 ab tk mm wm fa th se g1 v 1 (by first | assumption | (clear hml hsz hr hlocks; omega) | decide) (by first | assumption | (clear hml hsz hr hlocks; omega) | decide)) (cwV 2 hts gX9_readHalves_X9_get rfl rfl rfl (by decide +kernel) ⟨Nat.le_of_ble_eq_true rfl, Nat.le_of_ble_eq_true rfl⟩) (st_preV (ci := 8) (q0 := 0) hP hD hK hNW [0, 2] [0] rfl rfl (by decide) rfl rfl rfl rfl) rfl rfl hl.1 rfl (lv_room (Nat.le_of_ble_eq_true rfl)) dX9_readHalves_3 ⟨(Nat.le_of_ble_eq_true rfl), (Nat.le_of_ble_eq_true rfl)⟩) (fun r_1 u H locs hw hP hD hK hS => ?_)
  have hw : r_1 = g1 (Int32.toNatClampNeg (10 * v + 1)) := hw
  subst hw
  have hP : va_P D vwCl [(a0, .inl (cI, 120, .inl g0)), (h0, .inr (8, [.ref a0, .int tk, .ref a1, .int mm, .ref a2, .ref a3, .ref a4, .ref a5, .ref a6, .ref a7, .int wm, .int fa, .int th, .int se, .ref a8, .ref a9, .ref ab])), (a1, .inl (cI, 80, .inl g1))] H := hP
  have hD : va_D A [(a0, .inl (cI, 120, .inl g0)), (h0, .inr (8, [.ref a0, .int tk, .ref a1, .int mm, .ref a2, .ref a3, .ref a4, .ref a5, .ref a6, .ref a7, .int wm, .int fa, .int th, .int se, .ref a8, .ref a9, .ref ab])), (a1, .inl (cI, 80, .inl g1))] := hD
  have hK : va_K D vwCl [(cI, .int)] s := hK
  refine lv_istore_n (lv' := [(2, .int (g1 (Int32.toNatClampNeg (10 * v + 1)))), (0, .ref h0), (1, .int v)]) hx hb dX9_readHalves_6 rfl hl (by decide) rfl (fun ls hl => ?_)
  refine lv_aload_n hx hb dX9_readHalves_7 rfl (lv_at hl 1 rfl) ?_
  refine lv_iload_n hx hb dX9_readHalves_8 rfl (lv_at hl 2 rfl) ?_
  refine lv_iconst (v := 4) hx hb dX9_readHalves_9 (by decide) ?_
  refine go_i (wr := [(a0, .inl (cI, 120, .inl g0))]) (tysr := [(cI, .int)]) hP hD hS hA hK [1, 2] [0] [0] rfl rfl (by decide) (by decide) rfl (va_runV (As := [.int v, .int 4]) (rest := []) ⟨hx, hb, hml, hown, hts⟩ (m_get l D H.size cI h0 a0 a1 a2 a3 a4 a5 a6 a7 a8 a9 ab tk mm wm fa th se g1 v 4 (by first | assumption | (clear hml hsz hr hlocks; omega) | decide) (by first | assumption | (clear hml hsz hr hlocks; omega) | decide)) (cwV 2 hts gX9_readHalves_X9_get rfl rfl rfl (by decide +kernel) ⟨Nat.le_of_ble_eq_true rfl, Nat.le_of_ble_eq_true rfl⟩) (st_preV (ci := 8) (q0 := 1) hP hD hK hNW [1, 2] [0] rfl rfl (by decide) rfl rfl rfl rfl) rfl rfl hl.1 rfl (lv_room (Nat.le_of_ble_eq_true rfl)) dX9_readHalves_10 ⟨(Nat.le_of_ble_eq_true rfl), (Nat.le_of_ble_eq_true rfl)⟩) (fun r_2 u H locs hw hP hD hK hS => ?_)
  have hw : r_2 = g1 (Int32.toNatClampNeg (10 * v + 4)) := hw
  subst hw
  have hP : va_P D vwCl [(a0, .inl (cI, 120, .inl g0)), (h0, .inr (8, [.ref a0, .int tk, .ref a1, .int mm, .ref a2, .ref a3, .ref a4, .ref a5, .ref a6, .ref a7, .int wm, .int fa, .int th, .int se, .ref a8, .ref a9, .ref ab])), (a1, .inl (cI, 80, .inl g1))] H := hP
  have hD : va_D A [(a0, .inl (cI, 120, .inl g0)), (h0, .inr (8, [.ref a0, .int tk, .ref a1, .int mm, .ref a2, .ref a3, .ref a4, .ref a5, .ref a6, .ref a7, .int wm, .int fa, .int th, .int se, .ref a8, .ref a9, .ref ab])), (a1, .inl (cI, 80, .inl g1))] := hD
  have hK : va_K D vwCl [(cI, .int)] s := hK
  refine lv_istore_n (lv' := [(3, .int (g1 (Int32.toNatClampNeg (10 * v + 4)))), (2, .int (g1 (Int32.toNatClampNeg (10 * v + 1)))), (0, .ref h0), (1, .int v)]) hx hb dX9_readHalves_13 rfl hl (by decide) rfl (fun ls hl => ?_)
  refine lv_iconst (v := 0) hx hb dX9_readHalves_14 (by decide) ?_
  refine lv_istore (lv' := [(4, .int 0), (3, .int (g1 (Int32.toNatClampNeg (10 * v + 4)))), (2, .int (g1 (Int32.toNatClampNeg (10 * v + 1)))), (0, .ref h0), (1, .int v)]) hx hb dX9_readHalves_15 hl (by decide) rfl (fun ls hl => ?_)
  refine lv_iconst (v := 0) hx hb dX9_readHalves_17 (by decide) ?_
  refine lv_istore (lv' := [(5, .int 0), (4, .int 0), (3, .int (g1 (Int32.toNatClampNeg (10 * v + 4)))), (2, .int (g1 (Int32.toNatClampNeg (10 * v + 1)))), (0, .ref h0), (1, .int v)]) hx hb dX9_readHalves_18 hl (by decide) rfl (fun ls hl => ?_)
  refine lv_iconst (v := 1) hx hb dX9_readHalves_20 (by decide) ?_
  refine lv_istore (lv' := [(6, .int 1), (5, .int 0), (4, .int 0), (3, .int (g1 (Int32.toNatClampNeg (10 * v + 4)))), (2, .int (g1 (Int32.toNatClampNeg (10 * v + 1)))), (0, .ref h0), (1, .int v)]) hx hb dX9_readHalves_21 hl (by decide) rfl (fun ls hl => ?_)
  refine lv_iconst (v := 0) hx hb dX9_readHalves_23 (by decide) ?_
  refine lv_istore (lv' := [(7, .int 0), (6, .int 1), (5, .int 0), (4, .int 0), (3, .int (g1 (Int32.toNatClampNeg (10 * v + 4)))), (2, .int (g1 (Int32.toNatClampNeg (10 * v + 1)))), (0, .ref h0), (1, .int v)]) hx hb dX9_readHalves_24 hl (by decide) rfl (fun ls hl => ?_)
  refine lp_N (fun n9 H locs ls => ∃ (i4_3 : Int32), ∃ (i5_4 : Int32), ∃ (i6_5 : Int32), ∃ (i_6 : Int32), n9 = (tk.toInt - i_6.toInt).toNat ∧ (va_P D vwCl [(a0, .inl (cI, 120, .inl g0)), (h0, .inr (8, [.ref a0, .int tk, .ref a1, .int mm, .ref a2, .ref a3, .ref a4, .ref a5, .ref a6, .ref a7, .int wm, .int fa, .int th, .int se, .ref a8, .ref a9, .ref ab])), (a1, .inl (cI, 80, .inl g1))] H ∧ va_D A [(a0, .inl (cI, 120, .inl g0)), (h0, .inr (8, [.ref a0, .int tk, .ref a1, .int mm, .ref a2, .ref a3, .ref a4, .ref a5, .ref a6, .ref a7, .int wm, .int fa, .int th, .int se, .ref a8, .ref a9, .ref ab])), (a1, .inl (cI, 80, .inl g1))]) ∧ va_S A s.heap H locs ∧ lv_has ls 11 [(7, .int i_6), (6, .int i6_5), (5, .int i5_4), (4, .int i4_3), (3, .int (g1 (Int32.toNatClampNeg (10 * v + 4)))), (2, .int (g1 (Int32.toNatClampNeg (10 * v + 1)))), (0, .ref h0), (1, .int v)] ∧ (0 ≤ i_6.toInt)) ?_ ⟨0, 0, 1, 0, rfl, ⟨hP, hD⟩, hS, hl, (by decide)⟩
  intro n9 ih_7 H locs ls hI
  obtain ⟨i4_3, i5_4, i6_5, i_6, rfl, ⟨hP, hD⟩, hS, hl, hv_8⟩ := hI
  refine lv_iload hx hb dX9_readHalves_26 (lv_at hl 0 rfl) ?_
  refine lv_aload_n hx hb dX9_readHalves_28 rfl (lv_at hl 6 rfl) ?_
  refine va_get (D := D) (ci := 8) (v := .int tk) (C := RX9) (T := TX9) (N := 17) hx hb hts him_readHalves_X9 hown hK hP 1 rfl rfl 1 (by decide) (hts (.fieldLink RX9 62 "OneHandsetModel" "taped" "I") (List.mem_of_getElem? (i := 1) rfl)) (fun _ h9 => h9) rfl dX9_readHalves_29 ?_
  refine lv_icmp_ge (tgt := 177) hx hb dX9_readHalves_32 (by decide) (fun c_9 => ?_) (fun c_9 => ?_)
  · refine jn_S 205 (fun st9 H locs ls => ∃ (q_10 : Int32), st9 = [.int q_10] ∧ (va_P D vwCl [(a0, .inl (cI, 120, .inl g0)), (h0, .inr (8, [.ref a0, .int tk, .ref a1, .int mm, .ref a2, .ref a3, .ref a4, .ref a5, .ref a6, .ref a7, .int wm, .int fa, .int th, .int se, .ref a8, .ref a9, .ref ab])), (a1, .inl (cI, 80, .inl g1))] H ∧ va_D A [(a0, .inl (cI, 120, .inl g0)), (h0, .inr (8, [.ref a0, .int tk, .ref a1, .int mm, .ref a2, .ref a3, .ref a4, .ref a5, .ref a6, .ref a7, .int wm, .int fa, .int th, .int se, .ref a8, .ref a9, .ref ab])), (a1, .inl (cI, 80, .inl g1))]) ∧ va_S A s.heap H locs ∧ lv_has ls 11 [(7, .int i_6), (6, .int i6_5), (5, .int i5_4), (4, .int i4_3), (3, .int (g1 (Int32.toNatClampNeg (10 * v + 4)))), (2, .int (g1 (Int32.toNatClampNeg (10 * v + 1)))), (0, .ref h0), (1, .int v)]) ?_ ?_
    · intro st9 H locs ls hI
      obtain ⟨q_10, rfl, ⟨hP, hD⟩, hS, hl⟩ := hI
      refine lv_istore (lv' := [(7, .int q_10), (6, .int i6_5), (5, .int i5_4), (4, .int i4_3), (3, .int (g1 (Int32.toNatClampNeg (10 * v + 4)))), (2, .int (g1 (Int32.toNatClampNeg (10 * v + 1)))), (0, .ref h0), (1, .int v)]) hx hb dX9_readHalves_205 hl (by decide) rfl (fun ls hl => ?_)
      refine lv_iload hx hb dX9_readHalves_207 (lv_at hl 0 rfl) ?_
      refine lv_if_eq (tgt := 217) hx hb dX9_readHalves_209 (by decide) (fun c_12 => ?_) (fun c_12 => ?_)
      · refine lv_aload_n hx hb dX9_readHalves_217 rfl (lv_at hl 6 rfl) ?_
        refine lv_aload_n hx hb dX9_readHalves_218 rfl (lv_at hl 6 rfl) ?_
        refine va_get (D := D) (ci := 8) (v := .int tk) (C := RX9) (T := TX9) (N := 17) hx hb hts him_readHalves_X9 hown hK hP 1 rfl rfl 1 (by decide) (hts (.fieldLink RX9 62 "OneHandsetModel" "taped" "I") (List.mem_of_getElem? (i := 1) rfl)) (fun _ h9 => h9) rfl dX9_readHalves_219 ?_
        refine go_i (wr := [(a0, .inl (cI, 120, .inl g0)), (a1, .inl (cI, 80, .inl g1))]) (tysr := [(cI, .int)]) hP hD hS hA hK [1] [0, 2] [0] rfl rfl (by decide) (by decide) rfl (va_runV (As := [.int tk]) (rest := []) ⟨hx, hb, hml, hown, hts⟩ (m_fault l D H.size cI h0 a0 a1 a2 a3 a4 a5 a6 a7 a8 a9 ab tk mm wm fa th se tk ) (cwV 1 hts gX9_readHalves_X9_fault rfl rfl rfl (by decide +kernel) ⟨Nat.le_of_ble_eq_true rfl, Nat.le_of_ble_eq_true rfl⟩) (st_preV (ci := 8) (q0 := 1) hP hD hK hNW [1] [0] rfl rfl (by decide) rfl rfl rfl rfl) rfl rfl hl.1 rfl (lv_room (Nat.le_of_ble_eq_true rfl)) dX9_readHalves_222 ⟨(Nat.le_of_ble_eq_true rfl), (Nat.le_of_ble_eq_true rfl)⟩) (fun r_13 u H locs hw hP hD hK hS => ?_)
        have hw : r_13 = -1 := hw
        subst hw
        have hP : va_P D vwCl [(a0, .inl (cI, 120, .inl g0)), (a1, .inl (cI, 80, .inl g1)), (h0, .inr (8, [.ref a0, .int tk, .ref a1, .int mm, .ref a2, .ref a3, .ref a4, .ref a5, .ref a6, .ref a7, .int wm, .int tk, .int th, .int se, .ref a8, .ref a9, .ref ab]))] H := hP
        have hD : va_D A [(a0, .inl (cI, 120, .inl g0)), (a1, .inl (cI, 80, .inl g1)), (h0, .inr (8, [.ref a0, .int tk, .ref a1, .int mm, .ref a2, .ref a3, .ref a4, .ref a5, .ref a6, .ref a7, .int wm, .int tk, .int th, .int se, .ref a8, .ref a9, .ref ab]))] := hD
        have hK : va_K D vwCl [(cI, .int)] s := hK
        exact ret_i hx hb hr hlocks rfl (u := tk) trivial (hP.sub [2, 0, 1] rfl) (hK.sub [] rfl) (hD.sub [2, 0, 1] (by decide) rfl) hS (Nat.le_of_ble_eq_true rfl) (Nat.le_of_ble_eq_true rfl) dX9_readHalves_225
      refine lv_iload hx hb dX9_readHalves_212 (lv_at hl 2 rfl) ?_
      refine lv_goto (tgt := 225) hx hb dX9_readHalves_214 (by decide) ?_
      exact ret_i hx hb hr hlocks rfl (u := fa) trivial (hP.sub [1, 0, 2] rfl) (hK.sub [] rfl) (hD.sub [1, 0, 2] (by decide) rfl) hS (Nat.le_of_ble_eq_true rfl) (Nat.le_of_ble_eq_true rfl) dX9_readHalves_225
    · intro hJ_14
      refine lv_iload hx hb dX9_readHalves_177 (lv_at hl 3 rfl) ?_
      refine lv_iconst (v := 2) hx hb dX9_readHalves_179 (by decide) ?_
      refine lv_iload_n hx hb dX9_readHalves_180 rfl (lv_at hl 5 rfl) ?_
      refine lv_imul hx hb dX9_readHalves_181 ?_
      refine lv_iconst (v := 1) hx hb dX9_readHalves_182 (by decide) ?_
      refine lv_iadd hx hb dX9_readHalves_183 ?_
      refine lv_icmp_eq (tgt := 200) hx hb dX9_readHalves_184 (by decide) (fun c_15 => ?_) (fun c_15 => ?_)
      · refine lv_iconst (v := 1) hx hb dX9_readHalves_200 (by decide) ?_
        refine lv_goto (tgt := 205) hx hb dX9_readHalves_201 (by decide) ?_
        exact hJ_14 _ _ _ _ ⟨1, rfl, ⟨hP, hD⟩, hS, lv_sub hl [0, 1, 2, 3, 4, 5, 6, 7] rfl⟩
      refine lv_iload hx hb dX9_readHalves_187 (lv_at hl 3 rfl) ?_
      refine lv_iconst (v := 2) hx hb dX9_readHalves_189 (by decide) ?_
      refine lv_iload_n hx hb dX9_readHalves_190 rfl (lv_at hl 5 rfl) ?_
      refine lv_imul hx hb dX9_readHalves_191 ?_
      refine lv_icmp_ne (tgt := 204) hx hb dX9_readHalves_192 (by decide) (fun c_16 => ?_) (fun c_16 => ?_)
      · refine lv_iconst (v := 0) hx hb dX9_readHalves_204 (by decide) ?_
        exact hJ_14 _ _ _ _ ⟨0, rfl, ⟨hP, hD⟩, hS, lv_sub hl [0, 1, 2, 3, 4, 5, 6, 7] rfl⟩
      refine lv_iload hx hb dX9_readHalves_195 (lv_at hl 1 rfl) ?_
      refine lv_if_eq (tgt := 204) hx hb dX9_readHalves_197 (by decide) (fun c_17 => ?_) (fun c_17 => ?_)
      · refine lv_iconst (v := 0) hx hb dX9_readHalves_204 (by decide) ?_
        exact hJ_14 _ _ _ _ ⟨0, rfl, ⟨hP, hD⟩, hS, lv_sub hl [0, 1, 2, 3, 4, 5, 6, 7] rfl⟩
      refine lv_iconst (v := 1) hx hb dX9_readHalves_200 (by decide) ?_
      refine lv_goto (tgt := 205) hx hb dX9_readHalves_201 (by decide) ?_
      exact hJ_14 _ _ _ _ ⟨1, rfl, ⟨hP, hD⟩, hS, lv_sub hl [0, 1, 2, 3, 4, 5, 6, 7] rfl⟩
  refine lv_iconst (v := 1) hx hb dX9_readHalves_35 (by decide) ?_
  refine lv_aload_n hx hb dX9_readHalves_36 rfl (lv_at hl 6 rfl) ?_
  refine lv_iload_n hx hb dX9_readHalves_37 rfl (lv_at hl 7 rfl) ?_
  refine lv_aload_n hx hb dX9_readHalves_38 rfl (lv_at hl 6 rfl) ?_
  refine va_get (D := D) (ci := 8) (v := .ref a0) (C := RX9) (T := TX9) (N := 17) hx hb hts him_readHalves_X9 hown hK hP 1 rfl rfl 0 (by decide) (hts (.fieldLink RX9 9 "OneHandsetModel" "tape" "[I") (List.mem_of_getElem? (i := 2) rfl)) (fun _ h9 => h9) rfl dX9_readHalves_39 ?_
  refine lv_iload hx hb dX9_readHalves_42 (lv_at hl 0 rfl) ?_
  refine va_iald hx hb hK hP 0 0 rfl rfl (by clear hml hsz hr hlocks; have := ti_nle c_9; exact vp_in_iff.mpr (by omega)) dX9_readHalves_44 ?_
  refine lv_iload_n hx hb dX9_readHalves_45 rfl (lv_at hl 4 rfl) ?_
  refine lv_iconst (v := 2) hx hb dX9_readHalves_46 (by decide) ?_
  refine lv_iload_n hx hb dX9_readHalves_47 rfl (lv_at hl 4 rfl) ?_
  refine lv_imul hx hb dX9_readHalves_48 ?_
  refine go_i (wr := [(a0, .inl (cI, 120, .inl g0))]) (tysr := [(cI, .int)]) hP hD hS hA hK [1, 2] [0] [0] rfl rfl (by decide) (by decide) rfl (va_runV (As := [.int v, .int (g0 (Int32.toNatClampNeg i_6)), .int (g1 (Int32.toNatClampNeg (10 * v + 4))), .int (2 * (g1 (Int32.toNatClampNeg (10 * v + 4))))]) (rest := [.int 1]) ⟨hx, hb, hml, hown, hts⟩ (m_which l D H.size cI h0 a0 a1 a2 a3 a4 a5 a6 a7 a8 a9 ab tk mm wm fa th se g1 v (g0 (Int32.toNatClampNeg i_6)) (g1 (Int32.toNatClampNeg (10 * v + 4))) (2 * (g1 (Int32.toNatClampNeg (10 * v + 4)))) (by first | assumption | (clear hml hsz hr hlocks; omega) | decide)) (cwV 4 hts gX9_readHalves_X9_which rfl rfl rfl (by decide +kernel) ⟨Nat.le_of_ble_eq_true rfl, Nat.le_of_ble_eq_true rfl⟩) (st_preV (ci := 8) (q0 := 1) hP hD hK hNW [1, 2] [0] rfl rfl (by decide) rfl rfl rfl rfl) rfl rfl hl.1 rfl (lv_room (Nat.le_of_ble_eq_true rfl)) dX9_readHalves_49 ⟨(Nat.le_of_ble_eq_true rfl), (Nat.le_of_ble_eq_true rfl)⟩) (fun r_18 u H locs hw hP hD hK hS => ?_)
  have hw : r_18 = 0 ∨ r_18 = 1 ∨ r_18 = -1 := hw
  have hw_19 := hw
  have hP : va_P D vwCl [(a0, .inl (cI, 120, .inl g0)), (h0, .inr (8, [.ref a0, .int tk, .ref a1, .int mm, .ref a2, .ref a3, .ref a4, .ref a5, .ref a6, .ref a7, .int wm, .int fa, .int th, .int se, .ref a8, .ref a9, .ref ab])), (a1, .inl (cI, 80, .inl g1))] H := hP
  have hD : va_D A [(a0, .inl (cI, 120, .inl g0)), (h0, .inr (8, [.ref a0, .int tk, .ref a1, .int mm, .ref a2, .ref a3, .ref a4, .ref a5, .ref a6, .ref a7, .int wm, .int fa, .int th, .int se, .ref a8, .ref a9, .ref ab])), (a1, .inl (cI, 80, .inl g1))] := hD
  have hK : va_K D vwCl [(cI, .int)] s := hK
  refine lv_iadd hx hb dX9_readHalves_52 ?_
  refine lv_istore (lv' := [(8, .int (1 + r_18)), (7, .int i_6), (6, .int i6_5), (5, .int i5_4), (4, .int i4_3), (3, .int (g1 (Int32.toNatClampNeg (10 * v + 4)))), (2, .int (g1 (Int32.toNatClampNeg (10 * v + 1)))), (0, .ref h0), (1, .int v)]) hx hb dX9_readHalves_53 hl (by decide) rfl (fun ls hl => ?_)
  refine lv_iload hx hb dX9_readHalves_55 (lv_at hl 0 rfl) ?_
  refine lv_if_ne (tgt := 67) hx hb dX9_readHalves_57 (by decide) (fun c_20 => ?_) (fun c_20 => ?_)
  · refine jn_S 79 (fun st9 H locs ls => ∃ (q_21 : Int32), st9 = [.int q_21] ∧ (va_P D vwCl [(a0, .inl (cI, 120, .inl g0)), (h0, .inr (8, [.ref a0, .int tk, .ref a1, .int mm, .ref a2, .ref a3, .ref a4, .ref a5, .ref a6, .ref a7, .int wm, .int fa, .int th, .int se, .ref a8, .ref a9, .ref ab])), (a1, .inl (cI, 80, .inl g1))] H ∧ va_D A [(a0, .inl (cI, 120, .inl g0)), (h0, .inr (8, [.ref a0, .int tk, .ref a1, .int mm, .ref a2, .ref a3, .ref a4, .ref a5, .ref a6, .ref a7, .int wm, .int fa, .int th, .int se, .ref a8, .ref a9, .ref ab])), (a1, .inl (cI, 80, .inl g1))]) ∧ va_S A s.heap H locs ∧ lv_has ls 11 [(8, .int (1 + r_18)), (7, .int i_6), (6, .int i6_5), (5, .int i5_4), (4, .int i4_3), (3, .int (g1 (Int32.toNatClampNeg (10 * v + 4)))), (2, .int (g1 (Int32.toNatClampNeg (10 * v + 1)))), (0, .ref h0), (1, .int v)]) ?_ ?_
    · intro st9 H locs ls hI
      obtain ⟨q_21, rfl, ⟨hP, hD⟩, hS, hl⟩ := hI
      refine lv_istore (lv' := [(9, .int q_21), (8, .int (1 + r_18)), (7, .int i_6), (6, .int i6_5), (5, .int i5_4), (4, .int i4_3), (3, .int (g1 (Int32.toNatClampNeg (10 * v + 4)))), (2, .int (g1 (Int32.toNatClampNeg (10 * v + 1)))), (0, .ref h0), (1, .int v)]) hx hb dX9_readHalves_79 hl (by decide) rfl (fun ls hl => ?_)
      refine lv_iconst (v := 0) hx hb dX9_readHalves_81 (by decide) ?_
      refine lv_istore (lv' := [(10, .int 0), (9, .int q_21), (8, .int (1 + r_18)), (7, .int i_6), (6, .int i6_5), (5, .int i5_4), (4, .int i4_3), (3, .int (g1 (Int32.toNatClampNeg (10 * v + 4)))), (2, .int (g1 (Int32.toNatClampNeg (10 * v + 1)))), (0, .ref h0), (1, .int v)]) hx hb dX9_readHalves_82 hl (by decide) rfl (fun ls hl => ?_)
      refine lp_N (fun n9 H locs ls => ∃ (i4_23 : Int32), ∃ (i5_24 : Int32), ∃ (i6_25 : Int32), ∃ (i_26 : Int32), n9 = (((1 + r_18)).toInt - i_26.toInt).toNat ∧ (va_P D vwCl [(a0, .inl (cI, 120, .inl g0)), (h0, .inr (8, [.ref a0, .int tk, .ref a1, .int mm, .ref a2, .ref a3, .ref a4, .ref a5, .ref a6, .ref a7, .int wm, .int fa, .int th, .int se, .ref a8, .ref a9, .ref ab])), (a1, .inl (cI, 80, .inl g1))] H ∧ va_D A [(a0, .inl (cI, 120, .inl g0)), (h0, .inr (8, [.ref a0, .int tk, .ref a1, .int mm, .ref a2, .ref a3, .ref a4, .ref a5, .ref a6, .ref a7, .int wm, .int fa, .int th, .int se, .ref a8, .ref a9, .ref ab])), (a1, .inl (cI, 80, .inl g1))]) ∧ va_S A s.heap H locs ∧ lv_has ls 11 [(10, .int i_26), (9, .int q_21), (8, .int (1 + r_18)), (7, .int i_6), (6, .int i6_25), (5, .int i5_24), (4, .int i4_23), (3, .int (g1 (Int32.toNatClampNeg (10 * v + 4)))), (2, .int (g1 (Int32.toNatClampNeg (10 * v + 1)))), (0, .ref h0), (1, .int v)] ∧ (0 ≤ i_26.toInt)) ?_ ⟨i4_3, i5_4, i6_5, 0, rfl, ⟨hP, hD⟩, hS, hl, (by decide)⟩
      intro n9 ih_27 H locs ls hI
      obtain ⟨i4_23, i5_24, i6_25, i_26, rfl, ⟨hP, hD⟩, hS, hl, hv_28⟩ := hI
      refine lv_iload hx hb dX9_readHalves_84 (lv_at hl 0 rfl) ?_
      refine lv_iload hx hb dX9_readHalves_86 (lv_at hl 2 rfl) ?_
      refine lv_icmp_ge (tgt := 171) hx hb dX9_readHalves_88 (by decide) (fun c_29 => ?_) (fun c_29 => ?_)
      · refine lv_iinc (v := i_6 + 1) (lv' := [(7, .int (i_6 + 1)), (10, .int i_26), (9, .int q_21), (8, .int (1 + r_18)), (6, .int i6_25), (5, .int i5_24), (4, .int i4_23), (3, .int (g1 (Int32.toNatClampNeg (10 * v + 4)))), (2, .int (g1 (Int32.toNatClampNeg (10 * v + 1)))), (0, .ref h0), (1, .int v)]) hx hb dX9_readHalves_171 hl (k := 3) rfl (ii_p1 _) (by decide) rfl (fun ls hl => ?_)
        refine lv_goto (tgt := 26) hx hb dX9_readHalves_174 (by decide) ?_
        exact ih_7 _ _ _ _ (by clear hml hsz hr hlocks; have : (0 : Int32).toInt = 0 := (by decide); have := ti_nle c_9; have := ti_ne c_20; have := ti_le c_29; have u1 := ti_up (i := i_6) (n := tk) (by omega); omega) ⟨i4_23, i5_24, i6_25, i_6 + 1, rfl, ⟨hP, hD⟩, hS, lv_sub hl [0, 4, 5, 6, 7, 8, 9, 10] rfl, (by clear hml hsz hr hlocks; have : (0 : Int32).toInt = 0 := (by decide); have := ti_nle c_9; have := ti_ne c_20; have := ti_le c_29; have u1 := ti_up (i := i_6) (n := tk) (by omega); omega)⟩
      refine lv_iload hx hb dX9_readHalves_91 (lv_at hl 6 rfl) ?_
      refine lv_iconst (v := 2) hx hb dX9_readHalves_93 (by decide) ?_
      refine lv_iload_n hx hb dX9_readHalves_94 rfl (lv_at hl 8 rfl) ?_
      refine lv_imul hx hb dX9_readHalves_95 ?_
      refine lv_icmp_le (tgt := 106) hx hb dX9_readHalves_96 (by decide) (fun c_30 => ?_) (fun c_30 => ?_)
      · refine jn_S 162 (fun st9 H locs ls => ∃ (i5_31 : Int32), ∃ (i6_32 : Int32), st9 = [] ∧ (va_P D vwCl [(a0, .inl (cI, 120, .inl g0)), (h0, .inr (8, [.ref a0, .int tk, .ref a1, .int mm, .ref a2, .ref a3, .ref a4, .ref a5, .ref a6, .ref a7, .int wm, .int fa, .int th, .int se, .ref a8, .ref a9, .ref ab])), (a1, .inl (cI, 80, .inl g1))] H ∧ va_D A [(a0, .inl (cI, 120, .inl g0)), (h0, .inr (8, [.ref a0, .int tk, .ref a1, .int mm, .ref a2, .ref a3, .ref a4, .ref a5, .ref a6, .ref a7, .int wm, .int fa, .int th, .int se, .ref a8, .ref a9, .ref ab])), (a1, .inl (cI, 80, .inl g1))]) ∧ va_S A s.heap H locs ∧ lv_has ls 11 [(10, .int i_26), (9, .int q_21), (8, .int (1 + r_18)), (7, .int i_6), (6, .int i6_32), (5, .int i5_31), (4, .int i4_23), (3, .int (g1 (Int32.toNatClampNeg (10 * v + 4)))), (2, .int (g1 (Int32.toNatClampNeg (10 * v + 1)))), (0, .ref h0), (1, .int v)]) ?_ ?_
        · intro st9 H locs ls hI
          obtain ⟨i5_31, i6_32, rfl, ⟨hP, hD⟩, hS, hl⟩ := hI
          refine lv_iinc (v := i4_23 + 1) (lv' := [(4, .int (i4_23 + 1)), (10, .int i_26), (9, .int q_21), (8, .int (1 + r_18)), (7, .int i_6), (6, .int i6_32), (5, .int i5_31), (3, .int (g1 (Int32.toNatClampNeg (10 * v + 4)))), (2, .int (g1 (Int32.toNatClampNeg (10 * v + 1)))), (0, .ref h0), (1, .int v)]) hx hb dX9_readHalves_162 hl (k := 6) rfl (ii_p1 _) (by decide) rfl (fun ls hl => ?_)
          refine lv_iinc (v := i_26 + 1) (lv' := [(10, .int (i_26 + 1)), (4, .int (i4_23 + 1)), (9, .int q_21), (8, .int (1 + r_18)), (7, .int i_6), (6, .int i6_32), (5, .int i5_31), (3, .int (g1 (Int32.toNatClampNeg (10 * v + 4)))), (2, .int (g1 (Int32.toNatClampNeg (10 * v + 1)))), (0, .ref h0), (1, .int v)]) hx hb dX9_readHalves_165 hl (k := 1) rfl (ii_p1 _) (by decide) rfl (fun ls hl => ?_)
          refine lv_goto (tgt := 84) hx hb dX9_readHalves_168 (by decide) ?_
          exact ih_27 _ _ _ _ (by clear hml hsz hr hlocks; have : (0 : Int32).toInt = 0 := (by decide); have := ti_nle c_9; have := ti_ne c_20; have := ti_nle c_29; have := ti_le c_30; have u1 := ti_up (i := i_26) (n := (1 + r_18)) (by omega); omega) ⟨i4_23 + 1, i5_31, i6_32, i_26 + 1, rfl, ⟨hP, hD⟩, hS, lv_sub hl [0, 2, 3, 4, 5, 6, 1, 7, 8, 9, 10] rfl, (by clear hml hsz hr hlocks; have : (0 : Int32).toInt = 0 := (by decide); have := ti_nle c_9; have := ti_ne c_20; have := ti_nle c_29; have := ti_le c_30; have u1 := ti_up (i := i_26) (n := (1 + r_18)) (by omega); omega)⟩
        · intro hJ_34
          refine lv_iload hx hb dX9_readHalves_106 (lv_at hl 6 rfl) ?_
          refine lv_if_le (tgt := 143) hx hb dX9_readHalves_108 (by decide) (fun c_35 => ?_) (fun c_35 => ?_)
          · refine lv_iload hx hb dX9_readHalves_143 (lv_at hl 6 rfl) ?_
            refine lv_if_le (tgt := 162) hx hb dX9_readHalves_145 (by decide) (fun c_36 => ?_) (fun c_36 => ?_)
            · exact hJ_34 _ _ _ _ ⟨i5_24, i6_25, rfl, ⟨hP, hD⟩, hS, lv_sub hl [0, 1, 2, 3, 4, 5, 6, 7, 8, 9, 10] rfl⟩
            refine lv_iload hx hb dX9_readHalves_148 (lv_at hl 4 rfl) ?_
            refine lv_iload hx hb dX9_readHalves_150 (lv_at hl 1 rfl) ?_
            refine lv_icmp_ne (tgt := 162) hx hb dX9_readHalves_152 (by decide) (fun c_37 => ?_) (fun c_37 => ?_)
            · exact hJ_34 _ _ _ _ ⟨i5_24, i6_25, rfl, ⟨hP, hD⟩, hS, lv_sub hl [0, 1, 2, 3, 4, 5, 6, 7, 8, 9, 10] rfl⟩
            refine lv_aload_n hx hb dX9_readHalves_155 rfl (lv_at hl 9 rfl) ?_
            refine lv_iload hx hb dX9_readHalves_156 (lv_at hl 3 rfl) ?_
            refine go_i (wr := [(a0, .inl (cI, 120, .inl g0)), (a1, .inl (cI, 80, .inl g1))]) (tysr := [(cI, .int)]) hP hD hS hA hK [1] [0, 2] [0] rfl rfl (by decide) (by decide) rfl (va_runV (As := [.int i_6]) (rest := []) ⟨hx, hb, hml, hown, hts⟩ (m_fault l D H.size cI h0 a0 a1 a2 a3 a4 a5 a6 a7 a8 a9 ab tk mm wm fa th se i_6 ) (cwV 1 hts gX9_readHalves_X9_fault rfl rfl rfl (by decide +kernel) ⟨Nat.le_of_ble_eq_true rfl, Nat.le_of_ble_eq_true rfl⟩) (st_preV (ci := 8) (q0 := 1) hP hD hK hNW [1] [0] rfl rfl (by decide) rfl rfl rfl rfl) rfl rfl hl.1 rfl (lv_room (Nat.le_of_ble_eq_true rfl)) dX9_readHalves_158 ⟨(Nat.le_of_ble_eq_true rfl), (Nat.le_of_ble_eq_true rfl)⟩) (fun r_38 u H locs hw hP hD hK hS => ?_)
            have hw : r_38 = -1 := hw
            subst hw
            have hP : va_P D vwCl [(a0, .inl (cI, 120, .inl g0)), (a1, .inl (cI, 80, .inl g1)), (h0, .inr (8, [.ref a0, .int tk, .ref a1, .int mm, .ref a2, .ref a3, .ref a4, .ref a5, .ref a6, .ref a7, .int wm, .int i_6, .int th, .int se, .ref a8, .ref a9, .ref ab]))] H := hP
            have hD : va_D A [(a0, .inl (cI, 120, .inl g0)), (a1, .inl (cI, 80, .inl g1)), (h0, .inr (8, [.ref a0, .int tk, .ref a1, .int mm, .ref a2, .ref a3, .ref a4, .ref a5, .ref a6, .ref a7, .int wm, .int i_6, .int th, .int se, .ref a8, .ref a9, .ref ab]))] := hD
            have hK : va_K D vwCl [(cI, .int)] s := hK
            exact ret_i hx hb hr hlocks rfl (u := i_6) trivial (hP.sub [2, 0, 1] rfl) (hK.sub [] rfl) (hD.sub [2, 0, 1] (by decide) rfl) hS (Nat.le_of_ble_eq_true rfl) (Nat.le_of_ble_eq_true rfl) dX9_readHalves_161
          refine lv_iload hx hb dX9_readHalves_111 (lv_at hl 6 rfl) ?_
          refine lv_iconst (v := 2) hx hb dX9_readHalves_113 (by decide) ?_
          refine lv_irem hx hb dX9_readHalves_114 (by decide) ?_
          refine lv_iconst (v := 1) hx hb dX9_readHalves_115 (by decide) ?_
          refine lv_icmp_ne (tgt := 143) hx hb dX9_readHalves_116 (by decide) (fun c_39 => ?_) (fun c_39 => ?_)
          · refine lv_iload hx hb dX9_readHalves_143 (lv_at hl 6 rfl) ?_
            refine lv_if_le (tgt := 162) hx hb dX9_readHalves_145 (by decide) (fun c_40 => ?_) (fun c_40 => ?_)
            · exact hJ_34 _ _ _ _ ⟨i5_24, i6_25, rfl, ⟨hP, hD⟩, hS, lv_sub hl [0, 1, 2, 3, 4, 5, 6, 7, 8, 9, 10] rfl⟩
            refine lv_iload hx hb dX9_readHalves_148 (lv_at hl 4 rfl) ?_
            refine lv_iload hx hb dX9_readHalves_150 (lv_at hl 1 rfl) ?_
            refine lv_icmp_ne (tgt := 162) hx hb dX9_readHalves_152 (by decide) (fun c_41 => ?_) (fun c_41 => ?_)
            · exact hJ_34 _ _ _ _ ⟨i5_24, i6_25, rfl, ⟨hP, hD⟩, hS, lv_sub hl [0, 1, 2, 3, 4, 5, 6, 7, 8, 9, 10] rfl⟩
            refine lv_aload_n hx hb dX9_readHalves_155 rfl (lv_at hl 9 rfl) ?_
            refine lv_iload hx hb dX9_readHalves_156 (lv_at hl 3 rfl) ?_
            refine go_i (wr := [(a0, .inl (cI, 120, .inl g0)), (a1, .inl (cI, 80, .inl g1))]) (tysr := [(cI, .int)]) hP hD hS hA hK [1] [0, 2] [0] rfl rfl (by decide) (by decide) rfl (va_runV (As := [.int i_6]) (rest := []) ⟨hx, hb, hml, hown, hts⟩ (m_fault l D H.size cI h0 a0 a1 a2 a3 a4 a5 a6 a7 a8 a9 ab tk mm wm fa th se i_6 ) (cwV 1 hts gX9_readHalves_X9_fault rfl rfl rfl (by decide +kernel) ⟨Nat.le_of_ble_eq_true rfl, Nat.le_of_ble_eq_true rfl⟩) (st_preV (ci := 8) (q0 := 1) hP hD hK hNW [1] [0] rfl rfl (by decide) rfl rfl rfl rfl) rfl rfl hl.1 rfl (lv_room (Nat.le_of_ble_eq_true rfl)) dX9_readHalves_158 ⟨(Nat.le_of_ble_eq_true rfl), (Nat.le_of_ble_eq_true rfl)⟩) (fun r_42 u H locs hw hP hD hK hS => ?_)
            have hw : r_42 = -1 := hw
            subst hw
            have hP : va_P D vwCl [(a0, .inl (cI, 120, .inl g0)), (a1, .inl (cI, 80, .inl g1)), (h0, .inr (8, [.ref a0, .int tk, .ref a1, .int mm, .ref a2, .ref a3, .ref a4, .ref a5, .ref a6, .ref a7, .int wm, .int i_6, .int th, .int se, .ref a8, .ref a9, .ref ab]))] H := hP
            have hD : va_D A [(a0, .inl (cI, 120, .inl g0)), (a1, .inl (cI, 80, .inl g1)), (h0, .inr (8, [.ref a0, .int tk, .ref a1, .int mm, .ref a2, .ref a3, .ref a4, .ref a5, .ref a6, .ref a7, .int wm, .int i_6, .int th, .int se, .ref a8, .ref a9, .ref ab]))] := hD
            have hK : va_K D vwCl [(cI, .int)] s := hK
            exact ret_i hx hb hr hlocks rfl (u := i_6) trivial (hP.sub [2, 0, 1] rfl) (hK.sub [] rfl) (hD.sub [2, 0, 1] (by decide) rfl) hS (Nat.le_of_ble_eq_true rfl) (Nat.le_of_ble_eq_true rfl) dX9_readHalves_161
          refine lv_iload hx hb dX9_readHalves_119 (lv_at hl 1 rfl) ?_
          refine lv_istore (lv' := [(6, .int q_21), (10, .int i_26), (9, .int q_21), (8, .int (1 + r_18)), (7, .int i_6), (5, .int i5_24), (4, .int i4_23), (3, .int (g1 (Int32.toNatClampNeg (10 * v + 4)))), (2, .int (g1 (Int32.toNatClampNeg (10 * v + 1)))), (0, .ref h0), (1, .int v)]) hx hb dX9_readHalves_121 hl (by decide) rfl (fun ls hl => ?_)
          refine lv_iconst (v := 2) hx hb dX9_readHalves_123 (by decide) ?_
          refine lv_iload hx hb dX9_readHalves_124 (lv_at hl 5 rfl) ?_
          refine lv_imul hx hb dX9_readHalves_126 ?_
          refine jn_S 137 (fun st9 H locs ls => ∃ (q_43 : Int32), st9 = [.int q_43, .int (2 * i5_24)] ∧ (va_P D vwCl [(a0, .inl (cI, 120, .inl g0)), (h0, .inr (8, [.ref a0, .int tk, .ref a1, .int mm, .ref a2, .ref a3, .ref a4, .ref a5, .ref a6, .ref a7, .int wm, .int fa, .int th, .int se, .ref a8, .ref a9, .ref ab])), (a1, .inl (cI, 80, .inl g1))] H ∧ va_D A [(a0, .inl (cI, 120, .inl g0)), (h0, .inr (8, [.ref a0, .int tk, .ref a1, .int mm, .ref a2, .ref a3, .ref a4, .ref a5, .ref a6, .ref a7, .int wm, .int fa, .int th, .int se, .ref a8, .ref a9, .ref ab])), (a1, .inl (cI, 80, .inl g1))]) ∧ va_S A s.heap H locs ∧ lv_has ls 11 [(6, .int q_21), (10, .int i_26), (9, .int q_21), (8, .int (1 + r_18)), (7, .int i_6), (5, .int i5_24), (4, .int i4_23), (3, .int (g1 (Int32.toNatClampNeg (10 * v + 4)))), (2, .int (g1 (Int32.toNatClampNeg (10 * v + 1)))), (0, .ref h0), (1, .int v)]) ?_ ?_
          · intro st9 H locs ls hI
            obtain ⟨q_43, rfl, ⟨hP, hD⟩, hS, hl⟩ := hI
            refine lv_iadd hx hb dX9_readHalves_137 ?_
            refine lv_istore (lv' := [(5, .int ((2 * i5_24) + q_43)), (6, .int q_21), (10, .int i_26), (9, .int q_21), (8, .int (1 + r_18)), (7, .int i_6), (4, .int i4_23), (3, .int (g1 (Int32.toNatClampNeg (10 * v + 4)))), (2, .int (g1 (Int32.toNatClampNeg (10 * v + 1)))), (0, .ref h0), (1, .int v)]) hx hb dX9_readHalves_138 hl (by decide) rfl (fun ls hl => ?_)
            refine lv_goto (tgt := 162) hx hb dX9_readHalves_140 (by decide) ?_
            exact hJ_34 _ _ _ _ ⟨(2 * i5_24) + q_43, q_21, rfl, ⟨hP, hD⟩, hS, lv_sub hl [2, 3, 4, 5, 1, 0, 6, 7, 8, 9, 10] rfl⟩
          · intro hJ_45
            refine lv_iload hx hb dX9_readHalves_127 (lv_at hl 2 rfl) ?_
            refine lv_if_eq (tgt := 136) hx hb dX9_readHalves_129 (by decide) (fun c_46 => ?_) (fun c_46 => ?_)
            · refine lv_iconst (v := 1) hx hb dX9_readHalves_136 (by decide) ?_
              exact hJ_45 _ _ _ _ ⟨1, rfl, ⟨hP, hD⟩, hS, lv_sub hl [0, 1, 2, 3, 4, 5, 6, 7, 8, 9, 10] rfl⟩
            refine lv_iconst (v := 0) hx hb dX9_readHalves_132 (by decide) ?_
            refine lv_goto (tgt := 137) hx hb dX9_readHalves_133 (by decide) ?_
            exact hJ_45 _ _ _ _ ⟨0, rfl, ⟨hP, hD⟩, hS, lv_sub hl [0, 1, 2, 3, 4, 5, 6, 7, 8, 9, 10] rfl⟩
      refine lv_aload_n hx hb dX9_readHalves_99 rfl (lv_at hl 9 rfl) ?_
      refine lv_iload hx hb dX9_readHalves_100 (lv_at hl 3 rfl) ?_
      refine go_i (wr := [(a0, .inl (cI, 120, .inl g0)), (a1, .inl (cI, 80, .inl g1))]) (tysr := [(cI, .int)]) hP hD hS hA hK [1] [0, 2] [0] rfl rfl (by decide) (by decide) rfl (va_runV (As := [.int i_6]) (rest := []) ⟨hx, hb, hml, hown, hts⟩ (m_fault l D H.size cI h0 a0 a1 a2 a3 a4 a5 a6 a7 a8 a9 ab tk mm wm fa th se i_6 ) (cwV 1 hts gX9_readHalves_X9_fault rfl rfl rfl (by decide +kernel) ⟨Nat.le_of_ble_eq_true rfl, Nat.le_of_ble_eq_true rfl⟩) (st_preV (ci := 8) (q0 := 1) hP hD hK hNW [1] [0] rfl rfl (by decide) rfl rfl rfl rfl) rfl rfl hl.1 rfl (lv_room (Nat.le_of_ble_eq_true rfl)) dX9_readHalves_102 ⟨(Nat.le_of_ble_eq_true rfl), (Nat.le_of_ble_eq_true rfl)⟩) (fun r_47 u H locs hw hP hD hK hS => ?_)
      have hw : r_47 = -1 := hw
      subst hw
      have hP : va_P D vwCl [(a0, .inl (cI, 120, .inl g0)), (a1, .inl (cI, 80, .inl g1)), (h0, .inr (8, [.ref a0, .int tk, .ref a1, .int mm, .ref a2, .ref a3, .ref a4, .ref a5, .ref a6, .ref a7, .int wm, .int i_6, .int th, .int se, .ref a8, .ref a9, .ref ab]))] H := hP
      have hD : va_D A [(a0, .inl (cI, 120, .inl g0)), (a1, .inl (cI, 80, .inl g1)), (h0, .inr (8, [.ref a0, .int tk, .ref a1, .int mm, .ref a2, .ref a3, .ref a4, .ref a5, .ref a6, .ref a7, .int wm, .int i_6, .int th, .int se, .ref a8, .ref a9, .ref ab]))] := hD
      have hK : va_K D vwCl [(cI, .int)] s := hK
      exact ret_i hx hb hr hlocks rfl (u := i_6) trivial (hP.sub [2, 0, 1] rfl) (hK.sub [] rfl) (hD.sub [2, 0, 1] (by decide) rfl) hS (Nat.le_of_ble_eq_true rfl) (Nat.le_of_ble_eq_true rfl) dX9_readHalves_105
    · intro hJ_48
      refine lv_iload hx hb dX9_readHalves_67 (lv_at hl 1 rfl) ?_
      refine lv_iconst (v := 2) hx hb dX9_readHalves_69 (by decide) ?_
      refine lv_irem hx hb dX9_readHalves_70 (by decide) ?_
      refine lv_if_ne (tgt := 78) hx hb dX9_readHalves_71 (by decide) (fun c_49 => ?_) (fun c_49 => ?_)
      · refine lv_iconst (v := 0) hx hb dX9_readHalves_78 (by decide) ?_
        exact hJ_48 _ _ _ _ ⟨0, rfl, ⟨hP, hD⟩, hS, lv_sub hl [0, 1, 2, 3, 4, 5, 6, 7, 8] rfl⟩
      refine lv_iconst (v := 1) hx hb dX9_readHalves_74 (by decide) ?_
      refine lv_goto (tgt := 79) hx hb dX9_readHalves_75 (by decide) ?_
      exact hJ_48 _ _ _ _ ⟨1, rfl, ⟨hP, hD⟩, hS, lv_sub hl [0, 1, 2, 3, 4, 5, 6, 7, 8] rfl⟩
  refine lv_aload_n hx hb dX9_readHalves_60 rfl (lv_at hl 7 rfl) ?_
  refine lv_iload hx hb dX9_readHalves_61 (lv_at hl 1 rfl) ?_
  refine go_i (wr := [(a0, .inl (cI, 120, .inl g0)), (a1, .inl (cI, 80, .inl g1))]) (tysr := [(cI, .int)]) hP hD hS hA hK [1] [0, 2] [0] rfl rfl (by decide) (by decide) rfl (va_runV (As := [.int i_6]) (rest := []) ⟨hx, hb, hml, hown, hts⟩ (m_fault l D H.size cI h0 a0 a1 a2 a3 a4 a5 a6 a7 a8 a9 ab tk mm wm fa th se i_6 ) (cwV 1 hts gX9_readHalves_X9_fault rfl rfl rfl (by decide +kernel) ⟨Nat.le_of_ble_eq_true rfl, Nat.le_of_ble_eq_true rfl⟩) (st_preV (ci := 8) (q0 := 1) hP hD hK hNW [1] [0] rfl rfl (by decide) rfl rfl rfl rfl) rfl rfl hl.1 rfl (lv_room (Nat.le_of_ble_eq_true rfl)) dX9_readHalves_63 ⟨(Nat.le_of_ble_eq_true rfl), (Nat.le_of_ble_eq_true rfl)⟩) (fun r_50 u H locs hw hP hD hK hS => ?_)
  have hw : r_50 = -1 := hw
  subst hw
  have hP : va_P D vwCl [(a0, .inl (cI, 120, .inl g0)), (a1, .inl (cI, 80, .inl g1)), (h0, .inr (8, [.ref a0, .int tk, .ref a1, .int mm, .ref a2, .ref a3, .ref a4, .ref a5, .ref a6, .ref a7, .int wm, .int i_6, .int th, .int se, .ref a8, .ref a9, .ref ab]))] H := hP
  have hD : va_D A [(a0, .inl (cI, 120, .inl g0)), (a1, .inl (cI, 80, .inl g1)), (h0, .inr (8, [.ref a0, .int tk, .ref a1, .int mm, .ref a2, .ref a3, .ref a4, .ref a5, .ref a6, .ref a7, .int wm, .int i_6, .int th, .int se, .ref a8, .ref a9, .ref ab]))] := hD
  have hK : va_K D vwCl [(cI, .int)] s := hK
  exact ret_i hx hb hr hlocks rfl (u := i_6) trivial (hP.sub [2, 0, 1] rfl) (hK.sub [] rfl) (hD.sub [2, 0, 1] (by decide) rfl) hS (Nat.le_of_ble_eq_true rfl) (Nat.le_of_ble_eq_true rfl) dX9_readHalves_66
set_option maxHeartbeats 4000000 in
set_option maxRecDepth 100000 in
theorem m_readBy (l : Launch) (D : va_G) (sz : Nat) (cI : ClassId) (h0 : Nat) (a0 : Nat) (a1 : Nat) (a2 : Nat) (a3 : Nat) (a4 : Nat) (a5 : Nat) (a6 : Nat) (a7 : Nat) (a8 : Nat) (a9 : Nat) (ab : Nat) (tk : Int32) (mm : Int32) (wm : Int32) (fa : Int32) (th : Int32) (se : Int32) (g0 : Nat → Int32) (g1 : Nat → Int32) (v : Int32) (hk : bi tk 0 120) (hv : bi v 0 7) : Ci l yX9_readBy wsX9_readBy ({ frames := 5, cells := 0, slots := 0, locals := 121 } : Room) D [.ref h0, .int v] [(h0, .inr (8, [.ref a0, .int tk, .ref a1, .int mm, .ref a2, .ref a3, .ref a4, .ref a5, .ref a6, .ref a7, .int wm, .int fa, .int th, .int se, .ref a8, .ref a9, .ref ab])), (a0, .inl (cI, 120, .inl g0)), (a1, .inl (cI, 80, .inl g1))] [(cI, .int)] sz (fun (r : Int32) => fun (fa2 : Int32) => True) (fun (fa2 : Int32) => [(h0, .inr (8, [.ref a0, .int tk, .ref a1, .int mm, .ref a2, .ref a3, .ref a4, .ref a5, .ref a6, .ref a7, .int wm, .int fa2, .int th, .int se, .ref a8, .ref a9, .ref ab])), (a0, .inl (cI, 120, .inl g0)), (a1, .inl (cI, 80, .inl g1))]) (fun (fa2 : Int32) => []) := by
  refine ct_i (cc := cX9_readBy) (maxL := 2) (ret := (some .int)) (by decide) rfl (Nat.le_of_ble_eq_true rfl) ?_
  intro p e s m below meth c A ls H hx hb hr hts hown hml hlocks hin hA hS hP hK hD hNW hl hAe hsz
  have hl : lv_has ls 2 [(0, .ref h0), (1, .int v)] := hl
  refine lv_aload_n hx hb dX9_readBy_0 rfl (lv_at hl 0 rfl) ?_
  refine lv_iload_n hx hb dX9_readBy_1 rfl (lv_at hl 1 rfl) ?_
  refine lv_iconst (v := 0) hx hb dX9_readBy_2 (by decide) ?_
  refine go_i (wr := [(a0, .inl (cI, 120, .inl g0))]) (tysr := [(cI, .int)]) hP hD hS hA hK [0, 2] [1] [0] rfl rfl (by decide) (by decide) rfl (va_runV (As := [.int v, .int 0]) (rest := []) ⟨hx, hb, hml, hown, hts⟩ (m_get l D H.size cI h0 a0 a1 a2 a3 a4 a5 a6 a7 a8 a9 ab tk mm wm fa th se g1 v 0 (by first | assumption | (clear hml hsz hr hlocks; omega) | decide) (by first | assumption | (clear hml hsz hr hlocks; omega) | decide)) (cwV 2 hts gX9_readBy_X9_get rfl rfl rfl (by decide +kernel) ⟨Nat.le_of_ble_eq_true rfl, Nat.le_of_ble_eq_true rfl⟩) (st_preV (ci := 8) (q0 := 0) hP hD hK hNW [0, 2] [0] rfl rfl (by decide) rfl rfl rfl rfl) rfl rfl hl.1 rfl (lv_room (Nat.le_of_ble_eq_true rfl)) dX9_readBy_3 ⟨(Nat.le_of_ble_eq_true rfl), (Nat.le_of_ble_eq_true rfl)⟩) (fun r_1 u H locs hw hP hD hK hS => ?_)
  have hw : r_1 = g1 (Int32.toNatClampNeg (10 * v + 0)) := hw
  subst hw
  have hP : va_P D vwCl [(a0, .inl (cI, 120, .inl g0)), (h0, .inr (8, [.ref a0, .int tk, .ref a1, .int mm, .ref a2, .ref a3, .ref a4, .ref a5, .ref a6, .ref a7, .int wm, .int fa, .int th, .int se, .ref a8, .ref a9, .ref ab])), (a1, .inl (cI, 80, .inl g1))] H := hP
  have hD : va_D A [(a0, .inl (cI, 120, .inl g0)), (h0, .inr (8, [.ref a0, .int tk, .ref a1, .int mm, .ref a2, .ref a3, .ref a4, .ref a5, .ref a6, .ref a7, .int wm, .int fa, .int th, .int se, .ref a8, .ref a9, .ref ab])), (a1, .inl (cI, 80, .inl g1))] := hD
  have hK : va_K D vwCl [(cI, .int)] s := hK
  refine lv_iconst (v := 2) hx hb dX9_readBy_6 (by decide) ?_
  refine lv_icmp_ne (tgt := 18) hx hb dX9_readBy_7 (by decide) (fun c_2 => ?_) (fun c_2 => ?_)
  · refine lv_aload_n hx hb dX9_readBy_18 rfl (lv_at hl 0 rfl) ?_
    refine lv_iload_n hx hb dX9_readBy_19 rfl (lv_at hl 1 rfl) ?_
    refine go_i (wr := []) (tysr := [(cI, .int)]) hP hD hS hA hK [1, 0, 2] [] [0] rfl rfl (by decide) (by decide) rfl (va_runV (As := [.int v]) (rest := []) ⟨hx, hb, hml, hown, hts⟩ (m_readBits l D H.size cI h0 a0 a1 a2 a3 a4 a5 a6 a7 a8 a9 ab tk mm wm fa th se g0 g1 v (by first | assumption | (clear hml hsz hr hlocks; omega) | decide) (by first | assumption | (clear hml hsz hr hlocks; omega) | decide)) (cwV 1 hts gX9_readBy_X9_readBits rfl rfl rfl (by decide +kernel) ⟨Nat.le_of_ble_eq_true rfl, Nat.le_of_ble_eq_true rfl⟩) (st_preV (ci := 8) (q0 := 1) hP hD hK hNW [1, 0, 2] [0] rfl rfl (by decide) rfl rfl rfl rfl) rfl rfl hl.1 rfl (lv_room (Nat.le_of_ble_eq_true rfl)) dX9_readBy_20 ⟨(Nat.le_of_ble_eq_true rfl), (Nat.le_of_ble_eq_true rfl)⟩) (fun r_3 u H locs hw hP hD hK hS => ?_)
    obtain ⟨fa_4, rfl⟩ : ∃ z, z = u := ⟨_, rfl⟩
    have hP : va_P D vwCl [(h0, .inr (8, [.ref a0, .int tk, .ref a1, .int mm, .ref a2, .ref a3, .ref a4, .ref a5, .ref a6, .ref a7, .int wm, .int fa_4, .int th, .int se, .ref a8, .ref a9, .ref ab])), (a0, .inl (cI, 120, .inl g0)), (a1, .inl (cI, 80, .inl g1))] H := hP
    have hD : va_D A [(h0, .inr (8, [.ref a0, .int tk, .ref a1, .int mm, .ref a2, .ref a3, .ref a4, .ref a5, .ref a6, .ref a7, .int wm, .int fa_4, .int th, .int se, .ref a8, .ref a9, .ref ab])), (a0, .inl (cI, 120, .inl g0)), (a1, .inl (cI, 80, .inl g1))] := hD
    have hK : va_K D vwCl [(cI, .int)] s := hK
    exact ret_i hx hb hr hlocks rfl (u := fa_4) trivial (hP.sub [0, 1, 2] rfl) (hK.sub [] rfl) (hD.sub [0, 1, 2] (by decide) rfl) hS (Nat.le_of_ble_eq_true rfl) (Nat.le_of_ble_eq_true rfl) dX9_readBy_23
  refine lv_aload_n hx hb dX9_readBy_10 rfl (lv_at hl 0 rfl) ?_
  refine lv_iload_n hx hb dX9_readBy_11 rfl (lv_at hl 1 rfl) ?_
  refine go_i (wr := []) (tysr := [(cI, .int)]) hP hD hS hA hK [1, 0, 2] [] [0] rfl rfl (by decide) (by decide) rfl (va_runV (As := [.int v]) (rest := []) ⟨hx, hb, hml, hown, hts⟩ (m_readHalves l D H.size cI h0 a0 a1 a2 a3 a4 a5 a6 a7 a8 a9 ab tk mm wm fa th se g0 g1 v (by first | assumption | (clear hml hsz hr hlocks; omega) | decide) (by first | assumption | (clear hml hsz hr hlocks; omega) | decide)) (cwV 1 hts gX9_readBy_X9_readHalves rfl rfl rfl (by decide +kernel) ⟨Nat.le_of_ble_eq_true rfl, Nat.le_of_ble_eq_true rfl⟩) (st_preV (ci := 8) (q0 := 1) hP hD hK hNW [1, 0, 2] [0] rfl rfl (by decide) rfl rfl rfl rfl) rfl rfl hl.1 rfl (lv_room (Nat.le_of_ble_eq_true rfl)) dX9_readBy_12 ⟨(Nat.le_of_ble_eq_true rfl), (Nat.le_of_ble_eq_true rfl)⟩) (fun r_5 u H locs hw hP hD hK hS => ?_)
  obtain ⟨fa_6, rfl⟩ : ∃ z, z = u := ⟨_, rfl⟩
  have hP : va_P D vwCl [(h0, .inr (8, [.ref a0, .int tk, .ref a1, .int mm, .ref a2, .ref a3, .ref a4, .ref a5, .ref a6, .ref a7, .int wm, .int fa_6, .int th, .int se, .ref a8, .ref a9, .ref ab])), (a0, .inl (cI, 120, .inl g0)), (a1, .inl (cI, 80, .inl g1))] H := hP
  have hD : va_D A [(h0, .inr (8, [.ref a0, .int tk, .ref a1, .int mm, .ref a2, .ref a3, .ref a4, .ref a5, .ref a6, .ref a7, .int wm, .int fa_6, .int th, .int se, .ref a8, .ref a9, .ref ab])), (a0, .inl (cI, 120, .inl g0)), (a1, .inl (cI, 80, .inl g1))] := hD
  have hK : va_K D vwCl [(cI, .int)] s := hK
  refine lv_goto (tgt := 23) hx hb dX9_readBy_15 (by decide) ?_
  exact ret_i hx hb hr hlocks rfl (u := fa_6) trivial (hP.sub [0, 1, 2] rfl) (hK.sub [] rfl) (hD.sub [0, 1, 2] (by decide) rfl) hS (Nat.le_of_ble_eq_true rfl) (Nat.le_of_ble_eq_true rfl) dX9_readBy_23
theorem him_read_X9 : ∀ w ∈ wsX90, w ∈ wsX9_read := mem_pl [50, 51, 52, 53, 54, 55, 56, 57, 58, 59, 60, 61, 62, 63, 64, 65, 66] rfl
set_option maxHeartbeats 4000000 in
set_option maxRecDepth 100000 in
theorem m_read (l : Launch) (D : va_G) (sz : Nat) (cI : ClassId) (h0 : Nat) (a0 : Nat) (a1 : Nat) (a2 : Nat) (a3 : Nat) (a4 : Nat) (a5 : Nat) (a6 : Nat) (a7 : Nat) (a8 : Nat) (a9 : Nat) (ab : Nat) (tk : Int32) (mm : Int32) (wm : Int32) (fa : Int32) (th : Int32) (se : Int32) (g0 : Nat → Int32) (g1 : Nat → Int32) (v : Int32) (hk : bi tk 0 120) (hmm : bi mm 0 8) : Ci l yX9_read wsX9_read ({ frames := 6, cells := 0, slots := 0, locals := 142 } : Room) D [.ref h0, .int v] [(h0, .inr (8, [.ref a0, .int tk, .ref a1, .int mm, .ref a2, .ref a3, .ref a4, .ref a5, .ref a6, .ref a7, .int wm, .int fa, .int th, .int se, .ref a8, .ref a9, .ref ab])), (a0, .inl (cI, 120, .inl g0)), (a1, .inl (cI, 80, .inl g1))] [(cI, .int)] sz (fun (r : Int32) => fun (u9 : Int32 × Int32) => match u9 with | (fa2, th2) => True) (fun (u9 : Int32 × Int32) => match u9 with | (fa2, th2) => [(h0, .inr (8, [.ref a0, .int tk, .ref a1, .int mm, .ref a2, .ref a3, .ref a4, .ref a5, .ref a6, .ref a7, .int wm, .int fa2, .int th2, .int se, .ref a8, .ref a9, .ref ab])), (a0, .inl (cI, 120, .inl g0)), (a1, .inl (cI, 80, .inl g1))]) (fun (u9 : Int32 × Int32) => match u9 with | (fa2, th2) => []) := by
  refine ct_i (cc := cX9_read) (maxL := 3) (ret := (some .int)) (by decide) rfl (Nat.le_of_ble_eq_true rfl) ?_
  intro p e s m below meth c A ls H hx hb hr hts hown hml hlocks hin hA hS hP hK hD hNW hl hAe hsz
  have hl : lv_has ls 3 [(0, .ref h0), (1, .int v)] := hl
  refine lv_aload_n hx hb dX9_read_0 rfl (lv_at hl 0 rfl) ?_
  refine lv_iconst (v := 0) hx hb dX9_read_1 (by decide) ?_
  refine va_put (D := D) (ci := 8) (v := .int 0) (ty := .int) (C := RX9) (T := TX9) (N := 17) hx hb hts him_read_X9 tyX9 tyX9_ok nmX9 hown hK hP hD hS 0 rfl rfl 12 (by decide) (hts (.fieldLink RX9 43 "OneHandsetModel" "thrown" "I") (List.mem_of_getElem? (i := 1) rfl)) (fun _ h9 => h9) rfl (by decide +kernel) rfl rfl (Nat.le_of_ble_eq_true rfl) dX9_read_2 (fun H locs hP hD hS => ?_)
  have hP : va_P D vwCl [(h0, .inr (8, [.ref a0, .int tk, .ref a1, .int mm, .ref a2, .ref a3, .ref a4, .ref a5, .ref a6, .ref a7, .int wm, .int fa, .int 0, .int se, .ref a8, .ref a9, .ref ab])), (a0, .inl (cI, 120, .inl g0)), (a1, .inl (cI, 80, .inl g1))] H := hP
  have hD : va_D A [(h0, .inr (8, [.ref a0, .int tk, .ref a1, .int mm, .ref a2, .ref a3, .ref a4, .ref a5, .ref a6, .ref a7, .int wm, .int fa, .int 0, .int se, .ref a8, .ref a9, .ref ab])), (a0, .inl (cI, 120, .inl g0)), (a1, .inl (cI, 80, .inl g1))] := hD
  refine lv_aload_n hx hb dX9_read_5 rfl (lv_at hl 0 rfl) ?_
  refine lv_iload_n hx hb dX9_read_6 rfl (lv_at hl 1 rfl) ?_
  refine go_i (wr := [(a0, .inl (cI, 120, .inl g0)), (a1, .inl (cI, 80, .inl g1))]) (tysr := [(cI, .int)]) hP hD hS hA hK [0] [1, 2] [0] rfl rfl (by decide) (by decide) rfl (va_runV (As := [.int v]) (rest := []) ⟨hx, hb, hml, hown, hts⟩ (m_isMake l D H.size cI h0 a0 a1 a2 a3 a4 a5 a6 a7 a8 a9 ab tk mm wm fa 0 se v ) (cwV 1 hts gX9_read_X9_isMake rfl rfl rfl (by decide +kernel) ⟨Nat.le_of_ble_eq_true rfl, Nat.le_of_ble_eq_true rfl⟩) (st_preV (ci := 8) (q0 := 0) hP hD hK hNW [0] [0] rfl rfl (by decide) rfl rfl rfl rfl) rfl rfl hl.1 rfl (lv_room (Nat.le_of_ble_eq_true rfl)) dX9_read_7 ⟨(Nat.le_of_ble_eq_true rfl), (Nat.le_of_ble_eq_true rfl)⟩) (fun r_1 u H locs hw hP hD hK hS => ?_)
  have hw : r_1 = wi v 0 (mm - 1) := hw
  subst hw
  have hP : va_P D vwCl [(a0, .inl (cI, 120, .inl g0)), (a1, .inl (cI, 80, .inl g1)), (h0, .inr (8, [.ref a0, .int tk, .ref a1, .int mm, .ref a2, .ref a3, .ref a4, .ref a5, .ref a6, .ref a7, .int wm, .int fa, .int 0, .int se, .ref a8, .ref a9, .ref ab]))] H := hP
  have hD : va_D A [(a0, .inl (cI, 120, .inl g0)), (a1, .inl (cI, 80, .inl g1)), (h0, .inr (8, [.ref a0, .int tk, .ref a1, .int mm, .ref a2, .ref a3, .ref a4, .ref a5, .ref a6, .ref a7, .int wm, .int fa, .int 0, .int se, .ref a8, .ref a9, .ref ab]))] := hD
  have hK : va_K D vwCl [(cI, .int)] s := hK
  refine lv_if_ne (tgt := 15) hx hb dX9_read_10 (by decide) (fun c_2 => ?_) (fun c_2 => ?_)
  · have hv7_3 : bi v 0 7 := (by clear hml hsz hr hlocks; have : (0 : Int32).toInt = 0 := (by decide); have := ti_wi1 c_2; have u1 := ti_m1 (i := mm) (by omega); omega)
    have hvm_4 : v.toInt < mm.toInt := (by clear hml hsz hr hlocks; have : (0 : Int32).toInt = 0 := (by decide); have := ti_wi1 c_2; have u1 := ti_m1 (i := mm) (by omega); omega)
    refine lv_aload_n hx hb dX9_read_15 rfl (lv_at hl 0 rfl) ?_
    refine lv_iload_n hx hb dX9_read_16 rfl (lv_at hl 1 rfl) ?_
    refine go_i (wr := []) (tysr := [(cI, .int)]) hP hD hS hA hK [2, 0, 1] [] [0] rfl rfl (by decide) (by decide) rfl (va_runV (As := [.int v]) (rest := []) ⟨hx, hb, hml, hown, hts⟩ (m_readBy l D H.size cI h0 a0 a1 a2 a3 a4 a5 a6 a7 a8 a9 ab tk mm wm fa 0 se g0 g1 v (by first | assumption | (clear hml hsz hr hlocks; omega) | decide) (by first | assumption | (clear hml hsz hr hlocks; omega) | decide)) (cwV 1 hts gX9_read_X9_readBy rfl rfl rfl (by decide +kernel) ⟨Nat.le_of_ble_eq_true rfl, Nat.le_of_ble_eq_true rfl⟩) (st_preV (ci := 8) (q0 := 2) hP hD hK hNW [2, 0, 1] [0] rfl rfl (by decide) rfl rfl rfl rfl) rfl rfl hl.1 rfl (lv_room (Nat.le_of_ble_eq_true rfl)) dX9_read_17 ⟨(Nat.le_of_ble_eq_true rfl), (Nat.le_of_ble_eq_true rfl)⟩) (fun r_5 u H locs hw hP hD hK hS => ?_)
    obtain ⟨fa_6, rfl⟩ : ∃ z, z = u := ⟨_, rfl⟩
    have hP : va_P D vwCl [(h0, .inr (8, [.ref a0, .int tk, .ref a1, .int mm, .ref a2, .ref a3, .ref a4, .ref a5, .ref a6, .ref a7, .int wm, .int fa_6, .int 0, .int se, .ref a8, .ref a9, .ref ab])), (a0, .inl (cI, 120, .inl g0)), (a1, .inl (cI, 80, .inl g1))] H := hP
    have hD : va_D A [(h0, .inr (8, [.ref a0, .int tk, .ref a1, .int mm, .ref a2, .ref a3, .ref a4, .ref a5, .ref a6, .ref a7, .int wm, .int fa_6, .int 0, .int se, .ref a8, .ref a9, .ref ab])), (a0, .inl (cI, 120, .inl g0)), (a1, .inl (cI, 80, .inl g1))] := hD
    have hK : va_K D vwCl [(cI, .int)] s := hK
    refine lv_istore_n (lv' := [(2, .int r_5), (0, .ref h0), (1, .int v)]) hx hb dX9_read_20 rfl hl (by decide) rfl (fun ls hl => ?_)
    refine lv_iload_n hx hb dX9_read_21 rfl (lv_at hl 0 rfl) ?_
    refine lv_iconst (v := (-1)) hx hb dX9_read_22 (by decide) ?_
    refine lv_icmp_ne (tgt := 36) hx hb dX9_read_23 (by decide) (fun c_7 => ?_) (fun c_7 => ?_)
    · refine lv_iload_n hx hb dX9_read_36 rfl (lv_at hl 0 rfl) ?_
      exact ret_i hx hb hr hlocks rfl (u := (fa_6, 0)) trivial (hP.sub [0, 1, 2] rfl) (hK.sub [] rfl) (hD.sub [0, 1, 2] (by decide) rfl) hS (Nat.le_of_ble_eq_true rfl) (Nat.le_of_ble_eq_true rfl) dX9_read_37
    refine lv_bipush (v := (-2)) hx hb dX9_read_26 (by decide) ?_
    refine lv_aload_n hx hb dX9_read_28 rfl (lv_at hl 1 rfl) ?_
    refine va_get (D := D) (ci := 8) (v := .int fa_6) (C := RX9) (T := TX9) (N := 17) hx hb hts him_read_X9 hown hK hP 0 rfl rfl 11 (by decide) (hts (.fieldLink RX9 92 "OneHandsetModel" "faultAt" "I") (List.mem_of_getElem? (i := 2) rfl)) (fun _ h9 => h9) rfl dX9_read_29 ?_
    refine lv_isub hx hb dX9_read_32 ?_
    refine lv_goto (tgt := 37) hx hb dX9_read_33 (by decide) ?_
    exact ret_i hx hb hr hlocks rfl (u := (fa_6, 0)) trivial (hP.sub [0, 1, 2] rfl) (hK.sub [] rfl) (hD.sub [0, 1, 2] (by decide) rfl) hS (Nat.le_of_ble_eq_true rfl) (Nat.le_of_ble_eq_true rfl) dX9_read_37
  refine lv_iconst (v := (-1)) hx hb dX9_read_13 (by decide) ?_
  exact ret_i hx hb hr hlocks rfl (u := (fa, 0)) trivial (hP.sub [2, 0, 1] rfl) (hK.sub [] rfl) (hD.sub [2, 0, 1] (by decide) rfl) hS (Nat.le_of_ble_eq_true rfl) (Nat.le_of_ble_eq_true rfl) dX9_read_14
theorem him_which__X9 : ∀ w ∈ wsX90, w ∈ wsX9_which_ := mem_pl [46, 47, 48, 49, 50, 51, 52, 53, 54, 55, 56, 57, 58, 59, 60, 61, 62] rfl
set_option maxHeartbeats 4000000 in
set_option maxRecDepth 100000 in
theorem m_which_ (l : Launch) (D : va_G) (sz : Nat) (cI : ClassId) (h0 : Nat) (a0 : Nat) (a1 : Nat) (a2 : Nat) (a3 : Nat) (a4 : Nat) (a5 : Nat) (a6 : Nat) (a7 : Nat) (a8 : Nat) (a9 : Nat) (ab : Nat) (tk : Int32) (mm : Int32) (wm : Int32) (fa : Int32) (th : Int32) (se : Int32) (g0 : Nat → Int32) (g1 : Nat → Int32) (hk : bi tk 0 120) (hmm : bi mm 0 8) : Ci l yX9_which_ wsX9_which_ ({ frames := 6, cells := 0, slots := 0, locals := 142 } : Room) D [.ref h0] [(h0, .inr (8, [.ref a0, .int tk, .ref a1, .int mm, .ref a2, .ref a3, .ref a4, .ref a5, .ref a6, .ref a7, .int wm, .int fa, .int th, .int se, .ref a8, .ref a9, .ref ab])), (a0, .inl (cI, 120, .inl g0)), (a1, .inl (cI, 80, .inl g1))] [(cI, .int)] sz (fun (r : Int32) => fun (u9 : Int32 × Int32) => match u9 with | (fa2, th2) => True) (fun (u9 : Int32 × Int32) => match u9 with | (fa2, th2) => [(h0, .inr (8, [.ref a0, .int tk, .ref a1, .int mm, .ref a2, .ref a3, .ref a4, .ref a5, .ref a6, .ref a7, .int wm, .int fa2, .int th2, .int se, .ref a8, .ref a9, .ref ab])), (a0, .inl (cI, 120, .inl g0)), (a1, .inl (cI, 80, .inl g1))]) (fun (u9 : Int32 × Int32) => match u9 with | (fa2, th2) => []) := by
  refine ct_i (cc := cX9_which_) (maxL := 3) (ret := (some .int)) (by decide) rfl (Nat.le_of_ble_eq_true rfl) ?_
  intro p e s m below meth c A ls H hx hb hr hts hown hml hlocks hin hA hS hP hK hD hNW hl hAe hsz
  have hl : lv_has ls 3 [(0, .ref h0)] := hl
  refine lv_aload_n hx hb dX9_which__0 rfl (lv_at hl 0 rfl) ?_
  refine lv_iconst (v := 0) hx hb dX9_which__1 (by decide) ?_
  refine va_put (D := D) (ci := 8) (v := .int 0) (ty := .int) (C := RX9) (T := TX9) (N := 17) hx hb hts him_which__X9 tyX9 tyX9_ok nmX9 hown hK hP hD hS 0 rfl rfl 12 (by decide) (hts (.fieldLink RX9 43 "OneHandsetModel" "thrown" "I") (List.mem_of_getElem? (i := 1) rfl)) (fun _ h9 => h9) rfl (by decide +kernel) rfl rfl (Nat.le_of_ble_eq_true rfl) dX9_which__2 (fun H locs hP hD hS => ?_)
  have hP : va_P D vwCl [(h0, .inr (8, [.ref a0, .int tk, .ref a1, .int mm, .ref a2, .ref a3, .ref a4, .ref a5, .ref a6, .ref a7, .int wm, .int fa, .int 0, .int se, .ref a8, .ref a9, .ref ab])), (a0, .inl (cI, 120, .inl g0)), (a1, .inl (cI, 80, .inl g1))] H := hP
  have hD : va_D A [(h0, .inr (8, [.ref a0, .int tk, .ref a1, .int mm, .ref a2, .ref a3, .ref a4, .ref a5, .ref a6, .ref a7, .int wm, .int fa, .int 0, .int se, .ref a8, .ref a9, .ref ab])), (a0, .inl (cI, 120, .inl g0)), (a1, .inl (cI, 80, .inl g1))] := hD
  refine lv_iconst (v := 0) hx hb dX9_which__5 (by decide) ?_
  refine lv_istore_n (lv' := [(1, .int 0), (0, .ref h0)]) hx hb dX9_which__6 rfl hl (by decide) rfl (fun ls hl => ?_)
  refine lv_iconst (v := 0) hx hb dX9_which__7 (by decide) ?_
  refine lv_istore_n (lv' := [(2, .int 0), (1, .int 0), (0, .ref h0)]) hx hb dX9_which__8 rfl hl (by decide) rfl (fun ls hl => ?_)
  refine lp_N (fun n9 H locs ls => ∃ (z_1 : Int32), ∃ (i1_2 : Int32), ∃ (i_3 : Int32), n9 = (mm.toInt - i_3.toInt).toNat ∧ (va_P D vwCl [(h0, .inr (8, [.ref a0, .int tk, .ref a1, .int mm, .ref a2, .ref a3, .ref a4, .ref a5, .ref a6, .ref a7, .int wm, .int z_1, .int 0, .int se, .ref a8, .ref a9, .ref ab])), (a0, .inl (cI, 120, .inl g0)), (a1, .inl (cI, 80, .inl g1))] H ∧ va_D A [(h0, .inr (8, [.ref a0, .int tk, .ref a1, .int mm, .ref a2, .ref a3, .ref a4, .ref a5, .ref a6, .ref a7, .int wm, .int z_1, .int 0, .int se, .ref a8, .ref a9, .ref ab])), (a0, .inl (cI, 120, .inl g0)), (a1, .inl (cI, 80, .inl g1))]) ∧ va_S A s.heap H locs ∧ lv_has ls 3 [(2, .int i_3), (1, .int i1_2), (0, .ref h0)] ∧ (0 ≤ i_3.toInt)) ?_ ⟨fa, 0, 0, rfl, ⟨hP, hD⟩, hS, hl, (by decide)⟩
  intro n9 ih_4 H locs ls hI
  obtain ⟨z_1, i1_2, i_3, rfl, ⟨hP, hD⟩, hS, hl, hv_5⟩ := hI
  refine lv_iload_n hx hb dX9_which__9 rfl (lv_at hl 0 rfl) ?_
  refine lv_aload_n hx hb dX9_which__10 rfl (lv_at hl 2 rfl) ?_
  refine va_get (D := D) (ci := 8) (v := .int mm) (C := RX9) (T := TX9) (N := 17) hx hb hts him_which__X9 hown hK hP 0 rfl rfl 3 (by decide) (hts (.fieldLink RX9 47 "OneHandsetModel" "makeMany" "I") (List.mem_of_getElem? (i := 2) rfl)) (fun _ h9 => h9) rfl dX9_which__11 ?_
  refine lv_icmp_ge (tgt := 38) hx hb dX9_which__14 (by decide) (fun c_6 => ?_) (fun c_6 => ?_)
  · refine lv_iload_n hx hb dX9_which__38 rfl (lv_at hl 1 rfl) ?_
    exact ret_i hx hb hr hlocks rfl (u := (z_1, 0)) trivial (hP.sub [0, 1, 2] rfl) (hK.sub [] rfl) (hD.sub [0, 1, 2] (by decide) rfl) hS (Nat.le_of_ble_eq_true rfl) (Nat.le_of_ble_eq_true rfl) dX9_which__39
  refine lv_aload_n hx hb dX9_which__17 rfl (lv_at hl 2 rfl) ?_
  refine lv_iload_n hx hb dX9_which__18 rfl (lv_at hl 0 rfl) ?_
  refine go_i (wr := []) (tysr := [(cI, .int)]) hP hD hS hA hK [0, 1, 2] [] [0] rfl rfl (by decide) (by decide) rfl (va_runV (As := [.int i_3]) (rest := []) ⟨hx, hb, hml, hown, hts⟩ (m_readBy l D H.size cI h0 a0 a1 a2 a3 a4 a5 a6 a7 a8 a9 ab tk mm wm z_1 0 se g0 g1 i_3 hk (by clear hml hsz hr hlocks; have := ti_nle c_6; omega)) (cwV 1 hts gX9_which__X9_readBy rfl rfl rfl (by decide +kernel) ⟨Nat.le_of_ble_eq_true rfl, Nat.le_of_ble_eq_true rfl⟩) (st_preV (ci := 8) (q0 := 0) hP hD hK hNW [0, 1, 2] [0] rfl rfl (by decide) rfl rfl rfl rfl) rfl rfl hl.1 rfl (lv_room (Nat.le_of_ble_eq_true rfl)) dX9_which__19 ⟨(Nat.le_of_ble_eq_true rfl), (Nat.le_of_ble_eq_true rfl)⟩) (fun r_7 u H locs hw hP hD hK hS => ?_)
  obtain ⟨fa_8, rfl⟩ : ∃ z, z = u := ⟨_, rfl⟩
  have hP : va_P D vwCl [(h0, .inr (8, [.ref a0, .int tk, .ref a1, .int mm, .ref a2, .ref a3, .ref a4, .ref a5, .ref a6, .ref a7, .int wm, .int fa_8, .int 0, .int se, .ref a8, .ref a9, .ref ab])), (a0, .inl (cI, 120, .inl g0)), (a1, .inl (cI, 80, .inl g1))] H := hP
  have hD : va_D A [(h0, .inr (8, [.ref a0, .int tk, .ref a1, .int mm, .ref a2, .ref a3, .ref a4, .ref a5, .ref a6, .ref a7, .int wm, .int fa_8, .int 0, .int se, .ref a8, .ref a9, .ref ab])), (a0, .inl (cI, 120, .inl g0)), (a1, .inl (cI, 80, .inl g1))] := hD
  have hK : va_K D vwCl [(cI, .int)] s := hK
  refine jn_S 32 (fun st9 H locs ls => ∃ (i1_9 : Int32), st9 = [] ∧ (va_P D vwCl [(h0, .inr (8, [.ref a0, .int tk, .ref a1, .int mm, .ref a2, .ref a3, .ref a4, .ref a5, .ref a6, .ref a7, .int wm, .int fa_8, .int 0, .int se, .ref a8, .ref a9, .ref ab])), (a0, .inl (cI, 120, .inl g0)), (a1, .inl (cI, 80, .inl g1))] H ∧ va_D A [(h0, .inr (8, [.ref a0, .int tk, .ref a1, .int mm, .ref a2, .ref a3, .ref a4, .ref a5, .ref a6, .ref a7, .int wm, .int fa_8, .int 0, .int se, .ref a8, .ref a9, .ref ab])), (a0, .inl (cI, 120, .inl g0)), (a1, .inl (cI, 80, .inl g1))]) ∧ va_S A s.heap H locs ∧ lv_has ls 3 [(2, .int i_3), (1, .int i1_9), (0, .ref h0)]) ?_ ?_
  · intro st9 H locs ls hI
    obtain ⟨i1_9, rfl, ⟨hP, hD⟩, hS, hl⟩ := hI
    refine lv_iinc (v := i_3 + 1) (lv' := [(2, .int (i_3 + 1)), (1, .int i1_9), (0, .ref h0)]) hx hb dX9_which__32 hl (k := 0) rfl (ii_p1 _) (by decide) rfl (fun ls hl => ?_)
    refine lv_goto (tgt := 9) hx hb dX9_which__35 (by decide) ?_
    exact ih_4 _ _ _ _ (by clear hml hsz hr hlocks; have := ti_nle c_6; have u1 := ti_up (i := i_3) (n := mm) (by omega); omega) ⟨fa_8, i1_9, i_3 + 1, rfl, ⟨hP, hD⟩, hS, lv_sub hl [0, 1, 2] rfl, (by clear hml hsz hr hlocks; have := ti_nle c_6; have u1 := ti_up (i := i_3) (n := mm) (by omega); omega)⟩
  · intro hJ_11
    refine lv_iconst (v := (-1)) hx hb dX9_which__22 (by decide) ?_
    refine lv_icmp_eq (tgt := 32) hx hb dX9_which__23 (by decide) (fun c_12 => ?_) (fun c_12 => ?_)
    · exact hJ_11 _ _ _ _ ⟨i1_2, rfl, ⟨hP, hD⟩, hS, lv_sub hl [0, 1, 2] rfl⟩
    refine lv_iload_n hx hb dX9_which__26 rfl (lv_at hl 1 rfl) ?_
    refine lv_iconst (v := 1) hx hb dX9_which__27 (by decide) ?_
    refine lv_iload_n hx hb dX9_which__28 rfl (lv_at hl 0 rfl) ?_
    refine lv_ishl hx hb dX9_which__29 ?_
    refine lv_ior hx hb dX9_which__30 ?_
    refine lv_istore_n (lv' := [(1, .int (i1_2 ||| (1 <<< (i_3 &&& 31)))), (2, .int i_3), (0, .ref h0)]) hx hb dX9_which__31 rfl hl (by decide) rfl (fun ls hl => ?_)
    exact hJ_11 _ _ _ _ ⟨i1_2 ||| (1 <<< (i_3 &&& 31)), rfl, ⟨hP, hD⟩, hS, lv_sub hl [1, 0, 2] rfl⟩
