theorem hiX9_make_X9 : ∀ w ∈ wsX90, w ∈ wsX9_make := mem_pl [10, 11, 12, 13, 14, 15, 16, 17, 18, 19, 20, 21, 22, 23, 24, 25, 26] rfl
set_option maxHeartbeats 4000000 in
set_option maxRecDepth 100000 in
theorem c_X9_make (l : Launch) (D : va_G) (sz : Nat) (h0 : Nat) (a0 : Nat) (a2 : Nat) (a4 : Nat) (a5 : Nat) (a6 : Nat) (a7 : Nat) (a8 : Nat) (a9 : Nat) (a14 : Nat) (a15 : Nat) (a16 : Nat) (th : Int32) (k2 : ClassId) (k4 : ClassId) (f2 : Nat → Int32) (f4 : Nat → Int32) (k : Int32) (n : Int32) (a : Int32) (b : Int32) (pp : Int32) (z : Int32) (o : Int32)  : Ci l yX9_make wsX9_make ({ frames := 1, cells := 1, slots := 10, locals := 22 } : Room) D [.ref h0, .int k, .int n, .int a, .int b, .int pp, .int z, .int o] [(h0, .inr (8, [.ref a0, .int 0, .ref a2, .int 0, .ref a4, .ref a5, .ref a6, .ref a7, .ref a8, .ref a9, .int 0, .int 0, .int th, .int 0, .ref a14, .ref a15, .ref a16])), (a2, .inl (k2, 80, .inl f2)), (a4, .inl (k4, 128, .inl f4))] [(k2, .int), (k4, .int)] sz (fun (r : Int32) => fun (_ : Unit) => r = mkS k n a b pp z o) (fun (_ : Unit) => []) (fun (_ : Unit) => []) := by
  refine ct_i (cc := cX9_make) (maxL := 10) (ret := (some .int)) (by decide) rfl (Nat.le_of_ble_eq_true rfl) ?_
  intro p e s m below meth c A ls H hx hb hr hts hown hml hlocks hin hA hS hP hK hD hNW hl hAe hsz
  have hl : lv_has ls 10 [(0, .ref h0), (1, .int k), (2, .int n), (3, .int a), (4, .int b), (5, .int pp), (6, .int z), (7, .int o)] := hl
  refine lv_aload_n hx hb dX9_make_0 rfl (lv_at hl 0 rfl) ?_
  refine lv_iconst (v := 0) hx hb dX9_make_1 (by decide) ?_
  refine va_put (D := D) (ci := 8) (v := .int 0) (ty := .int) (C := RX9) (T := TX9) (N := 17) hx hb hts hiX9_make_X9 tyX9 tyX9_ok nmX9 hown hK hP hD hS 0 rfl rfl 12 (by decide) (hts (.fieldLink RX9 43 "OneHandsetModel" "thrown" "I") (List.mem_of_getElem? (i := 1) rfl)) (fun _ h9 => h9) rfl (by decide +kernel) rfl rfl (Nat.le_of_ble_eq_true rfl) dX9_make_2 (fun H locs hP hD hS => ?_)
  have hP : va_P D vwCl [(h0, .inr (8, [.ref a0, .int 0, .ref a2, .int 0, .ref a4, .ref a5, .ref a6, .ref a7, .ref a8, .ref a9, .int 0, .int 0, .int 0, .int 0, .ref a14, .ref a15, .ref a16])), (a2, .inl (k2, 80, .inl f2)), (a4, .inl (k4, 128, .inl f4))] H := hP
  have hD : va_D A [(h0, .inr (8, [.ref a0, .int 0, .ref a2, .int 0, .ref a4, .ref a5, .ref a6, .ref a7, .ref a8, .ref a9, .int 0, .int 0, .int 0, .int 0, .ref a14, .ref a15, .ref a16])), (a2, .inl (k2, 80, .inl f2)), (a4, .inl (k4, 128, .inl f4))] := hD
  refine lv_iload_n hx hb dX9_make_5 rfl (lv_at hl 1 rfl) ?_
  refine lv_iconst (v := 0) hx hb dX9_make_6 (by decide) ?_
  refine lv_iconst (v := 2) hx hb dX9_make_7 (by decide) ?_
  refine go_i (wr := [(h0, .inr (8, [.ref a0, .int 0, .ref a2, .int 0, .ref a4, .ref a5, .ref a6, .ref a7, .ref a8, .ref a9, .int 0, .int 0, .int 0, .int 0, .ref a14, .ref a15, .ref a16])), (a2, .inl (k2, 80, .inl f2)), (a4, .inl (k4, 128, .inl f4))]) (tysr := [(k2, .int), (k4, .int)]) hP hD hS hA hK [] [0, 1, 2] [0, 1] rfl rfl (by decide) (by decide) rfl (va_runS (As := [.int k, .int 0, .int 2]) (rest := []) ⟨hx, hb, hml, hown, hts⟩ (c_X9_in l D H.size k 0 2 ) (va_cwS 3 hts gX9_make_X9_in rfl rfl rfl (by decide +kernel) ⟨Nat.le_of_ble_eq_true rfl, Nat.le_of_ble_eq_true rfl⟩) (st_preS hP hD hK hNW [] [] rfl rfl (by decide) rfl) rfl rfl hl.1 rfl (lv_room (Nat.le_of_ble_eq_true rfl)) dX9_make_8 ⟨(Nat.le_of_ble_eq_true rfl), (Nat.le_of_ble_eq_true rfl)⟩) (fun r_1 u H locs hw hP hD hK hS => ?_)
  have hw : r_1 = wi k 0 2 := hw
  subst hw
  have hP : va_P D vwCl [(h0, .inr (8, [.ref a0, .int 0, .ref a2, .int 0, .ref a4, .ref a5, .ref a6, .ref a7, .ref a8, .ref a9, .int 0, .int 0, .int 0, .int 0, .ref a14, .ref a15, .ref a16])), (a2, .inl (k2, 80, .inl f2)), (a4, .inl (k4, 128, .inl f4))] H := hP
  have hD : va_D A [(h0, .inr (8, [.ref a0, .int 0, .ref a2, .int 0, .ref a4, .ref a5, .ref a6, .ref a7, .ref a8, .ref a9, .int 0, .int 0, .int 0, .int 0, .ref a14, .ref a15, .ref a16])), (a2, .inl (k2, 80, .inl f2)), (a4, .inl (k4, 128, .inl f4))] := hD
  have hK : va_K D vwCl [(k2, .int), (k4, .int)] s := hK
  refine lv_if_eq (tgt := 99) hx hb dX9_make_11 (by decide) (fun c_2 => ?_) (fun c_2 => ?_)
  · refine lv_iconst (v := (-1)) hx hb dX9_make_99 (by decide) ?_
    exact ret_i hx hb hr hlocks rfl (u := ()) (by simp [mkS, c_2]) (hP.sub [] rfl) (hK.sub [] rfl) (hD.sub [] (by decide) rfl) hS (Nat.le_of_ble_eq_true rfl) (Nat.le_of_ble_eq_true rfl) dX9_make_100
  refine lv_iload_n hx hb dX9_make_14 rfl (lv_at hl 2 rfl) ?_
  refine lv_iconst (v := 1) hx hb dX9_make_15 (by decide) ?_
  refine lv_bipush (v := 24) hx hb dX9_make_16 (by decide) ?_
  refine go_i (wr := [(h0, .inr (8, [.ref a0, .int 0, .ref a2, .int 0, .ref a4, .ref a5, .ref a6, .ref a7, .ref a8, .ref a9, .int 0, .int 0, .int 0, .int 0, .ref a14, .ref a15, .ref a16])), (a2, .inl (k2, 80, .inl f2)), (a4, .inl (k4, 128, .inl f4))]) (tysr := [(k2, .int), (k4, .int)]) hP hD hS hA hK [] [0, 1, 2] [0, 1] rfl rfl (by decide) (by decide) rfl (va_runS (As := [.int n, .int 1, .int 24]) (rest := []) ⟨hx, hb, hml, hown, hts⟩ (c_X9_in l D H.size n 1 24 ) (va_cwS 3 hts gX9_make_X9_in rfl rfl rfl (by decide +kernel) ⟨Nat.le_of_ble_eq_true rfl, Nat.le_of_ble_eq_true rfl⟩) (st_preS hP hD hK hNW [] [] rfl rfl (by decide) rfl) rfl rfl hl.1 rfl (lv_room (Nat.le_of_ble_eq_true rfl)) dX9_make_18 ⟨(Nat.le_of_ble_eq_true rfl), (Nat.le_of_ble_eq_true rfl)⟩) (fun r_3 u H locs hw hP hD hK hS => ?_)
  have hw : r_3 = wi n 1 24 := hw
  subst hw
  have hP : va_P D vwCl [(h0, .inr (8, [.ref a0, .int 0, .ref a2, .int 0, .ref a4, .ref a5, .ref a6, .ref a7, .ref a8, .ref a9, .int 0, .int 0, .int 0, .int 0, .ref a14, .ref a15, .ref a16])), (a2, .inl (k2, 80, .inl f2)), (a4, .inl (k4, 128, .inl f4))] H := hP
  have hD : va_D A [(h0, .inr (8, [.ref a0, .int 0, .ref a2, .int 0, .ref a4, .ref a5, .ref a6, .ref a7, .ref a8, .ref a9, .int 0, .int 0, .int 0, .int 0, .ref a14, .ref a15, .ref a16])), (a2, .inl (k2, 80, .inl f2)), (a4, .inl (k4, 128, .inl f4))] := hD
  have hK : va_K D vwCl [(k2, .int), (k4, .int)] s := hK
  refine lv_if_eq (tgt := 99) hx hb dX9_make_21 (by decide) (fun c_4 => ?_) (fun c_4 => ?_)
  · refine lv_iconst (v := (-1)) hx hb dX9_make_99 (by decide) ?_
    exact ret_i hx hb hr hlocks rfl (u := ()) (by simp [mkS, c_2, c_4]) (hP.sub [] rfl) (hK.sub [] rfl) (hD.sub [] (by decide) rfl) hS (Nat.le_of_ble_eq_true rfl) (Nat.le_of_ble_eq_true rfl) dX9_make_100
  refine lv_iload_n hx hb dX9_make_24 rfl (lv_at hl 3 rfl) ?_
  refine lv_iconst (v := 1) hx hb dX9_make_25 (by decide) ?_
  refine lv_sipush (v := 9999) hx hb dX9_make_26 (by decide) ?_
  refine go_i (wr := [(h0, .inr (8, [.ref a0, .int 0, .ref a2, .int 0, .ref a4, .ref a5, .ref a6, .ref a7, .ref a8, .ref a9, .int 0, .int 0, .int 0, .int 0, .ref a14, .ref a15, .ref a16])), (a2, .inl (k2, 80, .inl f2)), (a4, .inl (k4, 128, .inl f4))]) (tysr := [(k2, .int), (k4, .int)]) hP hD hS hA hK [] [0, 1, 2] [0, 1] rfl rfl (by decide) (by decide) rfl (va_runS (As := [.int a, .int 1, .int 9999]) (rest := []) ⟨hx, hb, hml, hown, hts⟩ (c_X9_in l D H.size a 1 9999 ) (va_cwS 3 hts gX9_make_X9_in rfl rfl rfl (by decide +kernel) ⟨Nat.le_of_ble_eq_true rfl, Nat.le_of_ble_eq_true rfl⟩) (st_preS hP hD hK hNW [] [] rfl rfl (by decide) rfl) rfl rfl hl.1 rfl (lv_room (Nat.le_of_ble_eq_true rfl)) dX9_make_29 ⟨(Nat.le_of_ble_eq_true rfl), (Nat.le_of_ble_eq_true rfl)⟩) (fun r_5 u H locs hw hP hD hK hS => ?_)
  have hw : r_5 = wi a 1 9999 := hw
  subst hw
  have hP : va_P D vwCl [(h0, .inr (8, [.ref a0, .int 0, .ref a2, .int 0, .ref a4, .ref a5, .ref a6, .ref a7, .ref a8, .ref a9, .int 0, .int 0, .int 0, .int 0, .ref a14, .ref a15, .ref a16])), (a2, .inl (k2, 80, .inl f2)), (a4, .inl (k4, 128, .inl f4))] H := hP
  have hD : va_D A [(h0, .inr (8, [.ref a0, .int 0, .ref a2, .int 0, .ref a4, .ref a5, .ref a6, .ref a7, .ref a8, .ref a9, .int 0, .int 0, .int 0, .int 0, .ref a14, .ref a15, .ref a16])), (a2, .inl (k2, 80, .inl f2)), (a4, .inl (k4, 128, .inl f4))] := hD
  have hK : va_K D vwCl [(k2, .int), (k4, .int)] s := hK
  refine lv_if_eq (tgt := 99) hx hb dX9_make_32 (by decide) (fun c_6 => ?_) (fun c_6 => ?_)
  · refine lv_iconst (v := (-1)) hx hb dX9_make_99 (by decide) ?_
    exact ret_i hx hb hr hlocks rfl (u := ()) (by simp [mkS, c_2, c_4, c_6]) (hP.sub [] rfl) (hK.sub [] rfl) (hD.sub [] (by decide) rfl) hS (Nat.le_of_ble_eq_true rfl) (Nat.le_of_ble_eq_true rfl) dX9_make_100
  refine lv_iload hx hb dX9_make_35 (lv_at hl 4 rfl) ?_
  refine lv_iconst (v := 1) hx hb dX9_make_37 (by decide) ?_
  refine lv_sipush (v := 9999) hx hb dX9_make_38 (by decide) ?_
  refine go_i (wr := [(h0, .inr (8, [.ref a0, .int 0, .ref a2, .int 0, .ref a4, .ref a5, .ref a6, .ref a7, .ref a8, .ref a9, .int 0, .int 0, .int 0, .int 0, .ref a14, .ref a15, .ref a16])), (a2, .inl (k2, 80, .inl f2)), (a4, .inl (k4, 128, .inl f4))]) (tysr := [(k2, .int), (k4, .int)]) hP hD hS hA hK [] [0, 1, 2] [0, 1] rfl rfl (by decide) (by decide) rfl (va_runS (As := [.int b, .int 1, .int 9999]) (rest := []) ⟨hx, hb, hml, hown, hts⟩ (c_X9_in l D H.size b 1 9999 ) (va_cwS 3 hts gX9_make_X9_in rfl rfl rfl (by decide +kernel) ⟨Nat.le_of_ble_eq_true rfl, Nat.le_of_ble_eq_true rfl⟩) (st_preS hP hD hK hNW [] [] rfl rfl (by decide) rfl) rfl rfl hl.1 rfl (lv_room (Nat.le_of_ble_eq_true rfl)) dX9_make_41 ⟨(Nat.le_of_ble_eq_true rfl), (Nat.le_of_ble_eq_true rfl)⟩) (fun r_7 u H locs hw hP hD hK hS => ?_)
  have hw : r_7 = wi b 1 9999 := hw
  subst hw
  have hP : va_P D vwCl [(h0, .inr (8, [.ref a0, .int 0, .ref a2, .int 0, .ref a4, .ref a5, .ref a6, .ref a7, .ref a8, .ref a9, .int 0, .int 0, .int 0, .int 0, .ref a14, .ref a15, .ref a16])), (a2, .inl (k2, 80, .inl f2)), (a4, .inl (k4, 128, .inl f4))] H := hP
  have hD : va_D A [(h0, .inr (8, [.ref a0, .int 0, .ref a2, .int 0, .ref a4, .ref a5, .ref a6, .ref a7, .ref a8, .ref a9, .int 0, .int 0, .int 0, .int 0, .ref a14, .ref a15, .ref a16])), (a2, .inl (k2, 80, .inl f2)), (a4, .inl (k4, 128, .inl f4))] := hD
  have hK : va_K D vwCl [(k2, .int), (k4, .int)] s := hK
  refine lv_if_eq (tgt := 99) hx hb dX9_make_44 (by decide) (fun c_8 => ?_) (fun c_8 => ?_)
  · refine lv_iconst (v := (-1)) hx hb dX9_make_99 (by decide) ?_
    exact ret_i hx hb hr hlocks rfl (u := ()) (by simp [mkS, c_2, c_4, c_6, c_8]) (hP.sub [] rfl) (hK.sub [] rfl) (hD.sub [] (by decide) rfl) hS (Nat.le_of_ble_eq_true rfl) (Nat.le_of_ble_eq_true rfl) dX9_make_100
  refine lv_iload hx hb dX9_make_47 (lv_at hl 5 rfl) ?_
  refine lv_iconst (v := 1) hx hb dX9_make_49 (by decide) ?_
  refine lv_sipush (v := 9999) hx hb dX9_make_50 (by decide) ?_
  refine go_i (wr := [(h0, .inr (8, [.ref a0, .int 0, .ref a2, .int 0, .ref a4, .ref a5, .ref a6, .ref a7, .ref a8, .ref a9, .int 0, .int 0, .int 0, .int 0, .ref a14, .ref a15, .ref a16])), (a2, .inl (k2, 80, .inl f2)), (a4, .inl (k4, 128, .inl f4))]) (tysr := [(k2, .int), (k4, .int)]) hP hD hS hA hK [] [0, 1, 2] [0, 1] rfl rfl (by decide) (by decide) rfl (va_runS (As := [.int pp, .int 1, .int 9999]) (rest := []) ⟨hx, hb, hml, hown, hts⟩ (c_X9_in l D H.size pp 1 9999 ) (va_cwS 3 hts gX9_make_X9_in rfl rfl rfl (by decide +kernel) ⟨Nat.le_of_ble_eq_true rfl, Nat.le_of_ble_eq_true rfl⟩) (st_preS hP hD hK hNW [] [] rfl rfl (by decide) rfl) rfl rfl hl.1 rfl (lv_room (Nat.le_of_ble_eq_true rfl)) dX9_make_53 ⟨(Nat.le_of_ble_eq_true rfl), (Nat.le_of_ble_eq_true rfl)⟩) (fun r_9 u H locs hw hP hD hK hS => ?_)
  have hw : r_9 = wi pp 1 9999 := hw
  subst hw
  have hP : va_P D vwCl [(h0, .inr (8, [.ref a0, .int 0, .ref a2, .int 0, .ref a4, .ref a5, .ref a6, .ref a7, .ref a8, .ref a9, .int 0, .int 0, .int 0, .int 0, .ref a14, .ref a15, .ref a16])), (a2, .inl (k2, 80, .inl f2)), (a4, .inl (k4, 128, .inl f4))] H := hP
  have hD : va_D A [(h0, .inr (8, [.ref a0, .int 0, .ref a2, .int 0, .ref a4, .ref a5, .ref a6, .ref a7, .ref a8, .ref a9, .int 0, .int 0, .int 0, .int 0, .ref a14, .ref a15, .ref a16])), (a2, .inl (k2, 80, .inl f2)), (a4, .inl (k4, 128, .inl f4))] := hD
  have hK : va_K D vwCl [(k2, .int), (k4, .int)] s := hK
  refine lv_if_eq (tgt := 99) hx hb dX9_make_56 (by decide) (fun c_10 => ?_) (fun c_10 => ?_)
  · refine lv_iconst (v := (-1)) hx hb dX9_make_99 (by decide) ?_
    exact ret_i hx hb hr hlocks rfl (u := ()) (by simp [mkS, c_2, c_4, c_6, c_8, c_10]) (hP.sub [] rfl) (hK.sub [] rfl) (hD.sub [] (by decide) rfl) hS (Nat.le_of_ble_eq_true rfl) (Nat.le_of_ble_eq_true rfl) dX9_make_100
  refine lv_iload hx hb dX9_make_59 (lv_at hl 6 rfl) ?_
  refine lv_iconst (v := 1) hx hb dX9_make_61 (by decide) ?_
  refine lv_sipush (v := 9999) hx hb dX9_make_62 (by decide) ?_
  refine go_i (wr := [(h0, .inr (8, [.ref a0, .int 0, .ref a2, .int 0, .ref a4, .ref a5, .ref a6, .ref a7, .ref a8, .ref a9, .int 0, .int 0, .int 0, .int 0, .ref a14, .ref a15, .ref a16])), (a2, .inl (k2, 80, .inl f2)), (a4, .inl (k4, 128, .inl f4))]) (tysr := [(k2, .int), (k4, .int)]) hP hD hS hA hK [] [0, 1, 2] [0, 1] rfl rfl (by decide) (by decide) rfl (va_runS (As := [.int z, .int 1, .int 9999]) (rest := []) ⟨hx, hb, hml, hown, hts⟩ (c_X9_in l D H.size z 1 9999 ) (va_cwS 3 hts gX9_make_X9_in rfl rfl rfl (by decide +kernel) ⟨Nat.le_of_ble_eq_true rfl, Nat.le_of_ble_eq_true rfl⟩) (st_preS hP hD hK hNW [] [] rfl rfl (by decide) rfl) rfl rfl hl.1 rfl (lv_room (Nat.le_of_ble_eq_true rfl)) dX9_make_65 ⟨(Nat.le_of_ble_eq_true rfl), (Nat.le_of_ble_eq_true rfl)⟩) (fun r_11 u H locs hw hP hD hK hS => ?_)
  have hw : r_11 = wi z 1 9999 := hw
  subst hw
  have hP : va_P D vwCl [(h0, .inr (8, [.ref a0, .int 0, .ref a2, .int 0, .ref a4, .ref a5, .ref a6, .ref a7, .ref a8, .ref a9, .int 0, .int 0, .int 0, .int 0, .ref a14, .ref a15, .ref a16])), (a2, .inl (k2, 80, .inl f2)), (a4, .inl (k4, 128, .inl f4))] H := hP
  have hD : va_D A [(h0, .inr (8, [.ref a0, .int 0, .ref a2, .int 0, .ref a4, .ref a5, .ref a6, .ref a7, .ref a8, .ref a9, .int 0, .int 0, .int 0, .int 0, .ref a14, .ref a15, .ref a16])), (a2, .inl (k2, 80, .inl f2)), (a4, .inl (k4, 128, .inl f4))] := hD
  have hK : va_K D vwCl [(k2, .int), (k4, .int)] s := hK
  refine lv_if_eq (tgt := 99) hx hb dX9_make_68 (by decide) (fun c_12 => ?_) (fun c_12 => ?_)
  · refine lv_iconst (v := (-1)) hx hb dX9_make_99 (by decide) ?_
    exact ret_i hx hb hr hlocks rfl (u := ()) (by simp [mkS, c_2, c_4, c_6, c_8, c_10, c_12]) (hP.sub [] rfl) (hK.sub [] rfl) (hD.sub [] (by decide) rfl) hS (Nat.le_of_ble_eq_true rfl) (Nat.le_of_ble_eq_true rfl) dX9_make_100
  refine lv_iload hx hb dX9_make_71 (lv_at hl 7 rfl) ?_
  refine lv_iconst (v := 1) hx hb dX9_make_73 (by decide) ?_
  refine lv_sipush (v := 9999) hx hb dX9_make_74 (by decide) ?_
  refine go_i (wr := [(h0, .inr (8, [.ref a0, .int 0, .ref a2, .int 0, .ref a4, .ref a5, .ref a6, .ref a7, .ref a8, .ref a9, .int 0, .int 0, .int 0, .int 0, .ref a14, .ref a15, .ref a16])), (a2, .inl (k2, 80, .inl f2)), (a4, .inl (k4, 128, .inl f4))]) (tysr := [(k2, .int), (k4, .int)]) hP hD hS hA hK [] [0, 1, 2] [0, 1] rfl rfl (by decide) (by decide) rfl (va_runS (As := [.int o, .int 1, .int 9999]) (rest := []) ⟨hx, hb, hml, hown, hts⟩ (c_X9_in l D H.size o 1 9999 ) (va_cwS 3 hts gX9_make_X9_in rfl rfl rfl (by decide +kernel) ⟨Nat.le_of_ble_eq_true rfl, Nat.le_of_ble_eq_true rfl⟩) (st_preS hP hD hK hNW [] [] rfl rfl (by decide) rfl) rfl rfl hl.1 rfl (lv_room (Nat.le_of_ble_eq_true rfl)) dX9_make_77 ⟨(Nat.le_of_ble_eq_true rfl), (Nat.le_of_ble_eq_true rfl)⟩) (fun r_13 u H locs hw hP hD hK hS => ?_)
  have hw : r_13 = wi o 1 9999 := hw
  subst hw
  have hP : va_P D vwCl [(h0, .inr (8, [.ref a0, .int 0, .ref a2, .int 0, .ref a4, .ref a5, .ref a6, .ref a7, .ref a8, .ref a9, .int 0, .int 0, .int 0, .int 0, .ref a14, .ref a15, .ref a16])), (a2, .inl (k2, 80, .inl f2)), (a4, .inl (k4, 128, .inl f4))] H := hP
  have hD : va_D A [(h0, .inr (8, [.ref a0, .int 0, .ref a2, .int 0, .ref a4, .ref a5, .ref a6, .ref a7, .ref a8, .ref a9, .int 0, .int 0, .int 0, .int 0, .ref a14, .ref a15, .ref a16])), (a2, .inl (k2, 80, .inl f2)), (a4, .inl (k4, 128, .inl f4))] := hD
  have hK : va_K D vwCl [(k2, .int), (k4, .int)] s := hK
  refine lv_if_eq (tgt := 99) hx hb dX9_make_80 (by decide) (fun c_14 => ?_) (fun c_14 => ?_)
  · refine lv_iconst (v := (-1)) hx hb dX9_make_99 (by decide) ?_
    exact ret_i hx hb hr hlocks rfl (u := ()) (by simp [mkS, c_2, c_4, c_6, c_8, c_10, c_12, c_14]) (hP.sub [] rfl) (hK.sub [] rfl) (hD.sub [] (by decide) rfl) hS (Nat.le_of_ble_eq_true rfl) (Nat.le_of_ble_eq_true rfl) dX9_make_100
  refine lv_iload hx hb dX9_make_83 (lv_at hl 6 rfl) ?_
  refine lv_iload hx hb dX9_make_85 (lv_at hl 7 rfl) ?_
  refine lv_icmp_eq (tgt := 99) hx hb dX9_make_87 (by decide) (fun c_15 => ?_) (fun c_15 => ?_)
  · refine lv_iconst (v := (-1)) hx hb dX9_make_99 (by decide) ?_
    exact ret_i hx hb hr hlocks rfl (u := ()) (by simp [mkS, c_2, c_4, c_6, c_8, c_10, c_12, c_14, c_15]) (hP.sub [] rfl) (hK.sub [] rfl) (hD.sub [] (by decide) rfl) hS (Nat.le_of_ble_eq_true rfl) (Nat.le_of_ble_eq_true rfl) dX9_make_100
  refine lv_aload_n hx hb dX9_make_90 rfl (lv_at hl 0 rfl) ?_
  refine va_get (D := D) (ci := 8) (v := .int 0) (C := RX9) (T := TX9) (N := 17) hx hb hts hiX9_make_X9 hown hK hP 0 rfl rfl 3 (by decide) (hts (.fieldLink RX9 47 "OneHandsetModel" "makeMany" "I") (List.mem_of_getElem? (i := 2) rfl)) (fun _ h9 => h9) rfl dX9_make_91 ?_
  refine lv_bipush (v := 8) hx hb dX9_make_94 (by decide) ?_
  refine lv_icmp_ne (tgt := 101) hx hb dX9_make_96 (by decide) (fun _ => ?_) (fun c_16 => absurd c_16 (by decide))
  refine lv_bipush (v := 10) hx hb dX9_make_101 (by decide) ?_
  refine va_newa (atype := .int) (ty := .int) (a0 := (10, .inl (fun _ => 0))) (N' := 10) hx hb (hts (.arrayClass .int) (List.mem_of_getElem? (i := 3) rfl)) rfl hK hP hD hS hA (na_i 10) (by decide) (by decide) (by decide) (Nat.le_of_ble_eq_true rfl) (Nat.le_of_ble_eq_true rfl) dX9_make_103 (fun q_17 cA_18 H hK hP hD hS => ?_)
  have hP : va_P D vwCl [(h0, .inr (8, [.ref a0, .int 0, .ref a2, .int 0, .ref a4, .ref a5, .ref a6, .ref a7, .ref a8, .ref a9, .int 0, .int 0, .int 0, .int 0, .ref a14, .ref a15, .ref a16])), (a2, .inl (k2, 80, .inl f2)), (a4, .inl (k4, 128, .inl f4)), (q_17, .inl (cA_18, 10, .inl (fun _ => 0)))] H := hP
  have hD : va_D A [(h0, .inr (8, [.ref a0, .int 0, .ref a2, .int 0, .ref a4, .ref a5, .ref a6, .ref a7, .ref a8, .ref a9, .int 0, .int 0, .int 0, .int 0, .ref a14, .ref a15, .ref a16])), (a2, .inl (k2, 80, .inl f2)), (a4, .inl (k4, 128, .inl f4)), (q_17, .inl (cA_18, 10, .inl (fun _ => 0)))] := hD
  have hK : va_K D vwCl [(k2, .int), (k4, .int), (cA_18, .int)] s := hK
  refine lv_dup hx hb dX9_make_105 rfl ?_
  refine lv_iconst (v := 0) hx hb dX9_make_106 (by decide) ?_
  refine lv_iload_n hx hb dX9_make_107 rfl (lv_at hl 1 rfl) ?_
  refine va_iast hx hb hK hP hD hS 3 2 rfl rfl (vin (by decide)) dX9_make_108 (fun H locs hP hD hS => ?_)
  obtain ⟨g_19, hP, hD⟩ : ∃ g9 : Nat → Int32, va_P D vwCl [(h0, .inr (8, [.ref a0, .int 0, .ref a2, .int 0, .ref a4, .ref a5, .ref a6, .ref a7, .ref a8, .ref a9, .int 0, .int 0, .int 0, .int 0, .ref a14, .ref a15, .ref a16])), (a2, .inl (k2, 80, .inl f2)), (a4, .inl (k4, 128, .inl f4)), (q_17, .inl (cA_18, 10, .inl g9))] H ∧ va_D A [(h0, .inr (8, [.ref a0, .int 0, .ref a2, .int 0, .ref a4, .ref a5, .ref a6, .ref a7, .ref a8, .ref a9, .int 0, .int 0, .int 0, .int 0, .ref a14, .ref a15, .ref a16])), (a2, .inl (k2, 80, .inl f2)), (a4, .inl (k4, 128, .inl f4)), (q_17, .inl (cA_18, 10, .inl g9))] := ⟨_, hP, hD⟩
  refine lv_dup hx hb dX9_make_109 rfl ?_
  refine lv_iconst (v := 1) hx hb dX9_make_110 (by decide) ?_
  refine lv_iload_n hx hb dX9_make_111 rfl (lv_at hl 2 rfl) ?_
  refine va_iast hx hb hK hP hD hS 3 2 rfl rfl (vin (by decide)) dX9_make_112 (fun H locs hP hD hS => ?_)
  obtain ⟨g_20, hP, hD⟩ : ∃ g9 : Nat → Int32, va_P D vwCl [(h0, .inr (8, [.ref a0, .int 0, .ref a2, .int 0, .ref a4, .ref a5, .ref a6, .ref a7, .ref a8, .ref a9, .int 0, .int 0, .int 0, .int 0, .ref a14, .ref a15, .ref a16])), (a2, .inl (k2, 80, .inl f2)), (a4, .inl (k4, 128, .inl f4)), (q_17, .inl (cA_18, 10, .inl g9))] H ∧ va_D A [(h0, .inr (8, [.ref a0, .int 0, .ref a2, .int 0, .ref a4, .ref a5, .ref a6, .ref a7, .ref a8, .ref a9, .int 0, .int 0, .int 0, .int 0, .ref a14, .ref a15, .ref a16])), (a2, .inl (k2, 80, .inl f2)), (a4, .inl (k4, 128, .inl f4)), (q_17, .inl (cA_18, 10, .inl g9))] := ⟨_, hP, hD⟩
  refine lv_dup hx hb dX9_make_113 rfl ?_
  refine lv_iconst (v := 2) hx hb dX9_make_114 (by decide) ?_
  refine lv_iload_n hx hb dX9_make_115 rfl (lv_at hl 3 rfl) ?_
  refine va_iast hx hb hK hP hD hS 3 2 rfl rfl (vin (by decide)) dX9_make_116 (fun H locs hP hD hS => ?_)
  obtain ⟨g_21, hP, hD⟩ : ∃ g9 : Nat → Int32, va_P D vwCl [(h0, .inr (8, [.ref a0, .int 0, .ref a2, .int 0, .ref a4, .ref a5, .ref a6, .ref a7, .ref a8, .ref a9, .int 0, .int 0, .int 0, .int 0, .ref a14, .ref a15, .ref a16])), (a2, .inl (k2, 80, .inl f2)), (a4, .inl (k4, 128, .inl f4)), (q_17, .inl (cA_18, 10, .inl g9))] H ∧ va_D A [(h0, .inr (8, [.ref a0, .int 0, .ref a2, .int 0, .ref a4, .ref a5, .ref a6, .ref a7, .ref a8, .ref a9, .int 0, .int 0, .int 0, .int 0, .ref a14, .ref a15, .ref a16])), (a2, .inl (k2, 80, .inl f2)), (a4, .inl (k4, 128, .inl f4)), (q_17, .inl (cA_18, 10, .inl g9))] := ⟨_, hP, hD⟩
  refine lv_dup hx hb dX9_make_117 rfl ?_
  refine lv_iconst (v := 3) hx hb dX9_make_118 (by decide) ?_
  refine lv_iload hx hb dX9_make_119 (lv_at hl 4 rfl) ?_
  refine va_iast hx hb hK hP hD hS 3 2 rfl rfl (vin (by decide)) dX9_make_121 (fun H locs hP hD hS => ?_)
  obtain ⟨g_22, hP, hD⟩ : ∃ g9 : Nat → Int32, va_P D vwCl [(h0, .inr (8, [.ref a0, .int 0, .ref a2, .int 0, .ref a4, .ref a5, .ref a6, .ref a7, .ref a8, .ref a9, .int 0, .int 0, .int 0, .int 0, .ref a14, .ref a15, .ref a16])), (a2, .inl (k2, 80, .inl f2)), (a4, .inl (k4, 128, .inl f4)), (q_17, .inl (cA_18, 10, .inl g9))] H ∧ va_D A [(h0, .inr (8, [.ref a0, .int 0, .ref a2, .int 0, .ref a4, .ref a5, .ref a6, .ref a7, .ref a8, .ref a9, .int 0, .int 0, .int 0, .int 0, .ref a14, .ref a15, .ref a16])), (a2, .inl (k2, 80, .inl f2)), (a4, .inl (k4, 128, .inl f4)), (q_17, .inl (cA_18, 10, .inl g9))] := ⟨_, hP, hD⟩
  refine lv_dup hx hb dX9_make_122 rfl ?_
  refine lv_iconst (v := 4) hx hb dX9_make_123 (by decide) ?_
  refine lv_iload hx hb dX9_make_124 (lv_at hl 5 rfl) ?_
  refine va_iast hx hb hK hP hD hS 3 2 rfl rfl (vin (by decide)) dX9_make_126 (fun H locs hP hD hS => ?_)
  obtain ⟨g_23, hP, hD⟩ : ∃ g9 : Nat → Int32, va_P D vwCl [(h0, .inr (8, [.ref a0, .int 0, .ref a2, .int 0, .ref a4, .ref a5, .ref a6, .ref a7, .ref a8, .ref a9, .int 0, .int 0, .int 0, .int 0, .ref a14, .ref a15, .ref a16])), (a2, .inl (k2, 80, .inl f2)), (a4, .inl (k4, 128, .inl f4)), (q_17, .inl (cA_18, 10, .inl g9))] H ∧ va_D A [(h0, .inr (8, [.ref a0, .int 0, .ref a2, .int 0, .ref a4, .ref a5, .ref a6, .ref a7, .ref a8, .ref a9, .int 0, .int 0, .int 0, .int 0, .ref a14, .ref a15, .ref a16])), (a2, .inl (k2, 80, .inl f2)), (a4, .inl (k4, 128, .inl f4)), (q_17, .inl (cA_18, 10, .inl g9))] := ⟨_, hP, hD⟩
  refine lv_dup hx hb dX9_make_127 rfl ?_
  refine lv_iconst (v := 5) hx hb dX9_make_128 (by decide) ?_
  refine lv_iload hx hb dX9_make_129 (lv_at hl 6 rfl) ?_
  refine va_iast hx hb hK hP hD hS 3 2 rfl rfl (vin (by decide)) dX9_make_131 (fun H locs hP hD hS => ?_)
  obtain ⟨g_24, hP, hD⟩ : ∃ g9 : Nat → Int32, va_P D vwCl [(h0, .inr (8, [.ref a0, .int 0, .ref a2, .int 0, .ref a4, .ref a5, .ref a6, .ref a7, .ref a8, .ref a9, .int 0, .int 0, .int 0, .int 0, .ref a14, .ref a15, .ref a16])), (a2, .inl (k2, 80, .inl f2)), (a4, .inl (k4, 128, .inl f4)), (q_17, .inl (cA_18, 10, .inl g9))] H ∧ va_D A [(h0, .inr (8, [.ref a0, .int 0, .ref a2, .int 0, .ref a4, .ref a5, .ref a6, .ref a7, .ref a8, .ref a9, .int 0, .int 0, .int 0, .int 0, .ref a14, .ref a15, .ref a16])), (a2, .inl (k2, 80, .inl f2)), (a4, .inl (k4, 128, .inl f4)), (q_17, .inl (cA_18, 10, .inl g9))] := ⟨_, hP, hD⟩
  refine lv_dup hx hb dX9_make_132 rfl ?_
  refine lv_bipush (v := 6) hx hb dX9_make_133 (by decide) ?_
  refine lv_iload hx hb dX9_make_135 (lv_at hl 7 rfl) ?_
  refine va_iast hx hb hK hP hD hS 3 2 rfl rfl (vin (by decide)) dX9_make_137 (fun H locs hP hD hS => ?_)
  obtain ⟨g_25, hP, hD⟩ : ∃ g9 : Nat → Int32, va_P D vwCl [(h0, .inr (8, [.ref a0, .int 0, .ref a2, .int 0, .ref a4, .ref a5, .ref a6, .ref a7, .ref a8, .ref a9, .int 0, .int 0, .int 0, .int 0, .ref a14, .ref a15, .ref a16])), (a2, .inl (k2, 80, .inl f2)), (a4, .inl (k4, 128, .inl f4)), (q_17, .inl (cA_18, 10, .inl g9))] H ∧ va_D A [(h0, .inr (8, [.ref a0, .int 0, .ref a2, .int 0, .ref a4, .ref a5, .ref a6, .ref a7, .ref a8, .ref a9, .int 0, .int 0, .int 0, .int 0, .ref a14, .ref a15, .ref a16])), (a2, .inl (k2, 80, .inl f2)), (a4, .inl (k4, 128, .inl f4)), (q_17, .inl (cA_18, 10, .inl g9))] := ⟨_, hP, hD⟩
  refine lv_dup hx hb dX9_make_138 rfl ?_
  refine lv_bipush (v := 7) hx hb dX9_make_139 (by decide) ?_
  refine lv_bipush (v := 20) hx hb dX9_make_141 (by decide) ?_
  refine va_iast hx hb hK hP hD hS 3 2 rfl rfl (vin (by decide)) dX9_make_143 (fun H locs hP hD hS => ?_)
  obtain ⟨g_26, hP, hD⟩ : ∃ g9 : Nat → Int32, va_P D vwCl [(h0, .inr (8, [.ref a0, .int 0, .ref a2, .int 0, .ref a4, .ref a5, .ref a6, .ref a7, .ref a8, .ref a9, .int 0, .int 0, .int 0, .int 0, .ref a14, .ref a15, .ref a16])), (a2, .inl (k2, 80, .inl f2)), (a4, .inl (k4, 128, .inl f4)), (q_17, .inl (cA_18, 10, .inl g9))] H ∧ va_D A [(h0, .inr (8, [.ref a0, .int 0, .ref a2, .int 0, .ref a4, .ref a5, .ref a6, .ref a7, .ref a8, .ref a9, .int 0, .int 0, .int 0, .int 0, .ref a14, .ref a15, .ref a16])), (a2, .inl (k2, 80, .inl f2)), (a4, .inl (k4, 128, .inl f4)), (q_17, .inl (cA_18, 10, .inl g9))] := ⟨_, hP, hD⟩
  refine lv_dup hx hb dX9_make_144 rfl ?_
  refine lv_bipush (v := 8) hx hb dX9_make_145 (by decide) ?_
  refine lv_iconst (v := (-1)) hx hb dX9_make_147 (by decide) ?_
  refine va_iast hx hb hK hP hD hS 3 2 rfl rfl (vin (by decide)) dX9_make_148 (fun H locs hP hD hS => ?_)
  obtain ⟨g_27, hP, hD⟩ : ∃ g9 : Nat → Int32, va_P D vwCl [(h0, .inr (8, [.ref a0, .int 0, .ref a2, .int 0, .ref a4, .ref a5, .ref a6, .ref a7, .ref a8, .ref a9, .int 0, .int 0, .int 0, .int 0, .ref a14, .ref a15, .ref a16])), (a2, .inl (k2, 80, .inl f2)), (a4, .inl (k4, 128, .inl f4)), (q_17, .inl (cA_18, 10, .inl g9))] H ∧ va_D A [(h0, .inr (8, [.ref a0, .int 0, .ref a2, .int 0, .ref a4, .ref a5, .ref a6, .ref a7, .ref a8, .ref a9, .int 0, .int 0, .int 0, .int 0, .ref a14, .ref a15, .ref a16])), (a2, .inl (k2, 80, .inl f2)), (a4, .inl (k4, 128, .inl f4)), (q_17, .inl (cA_18, 10, .inl g9))] := ⟨_, hP, hD⟩
  refine lv_dup hx hb dX9_make_149 rfl ?_
  refine lv_bipush (v := 9) hx hb dX9_make_150 (by decide) ?_
  refine lv_iconst (v := 0) hx hb dX9_make_152 (by decide) ?_
  refine va_iast hx hb hK hP hD hS 3 2 rfl rfl (vin (by decide)) dX9_make_153 (fun H locs hP hD hS => ?_)
  obtain ⟨g_28, hP, hD⟩ : ∃ g9 : Nat → Int32, va_P D vwCl [(h0, .inr (8, [.ref a0, .int 0, .ref a2, .int 0, .ref a4, .ref a5, .ref a6, .ref a7, .ref a8, .ref a9, .int 0, .int 0, .int 0, .int 0, .ref a14, .ref a15, .ref a16])), (a2, .inl (k2, 80, .inl f2)), (a4, .inl (k4, 128, .inl f4)), (q_17, .inl (cA_18, 10, .inl g9))] H ∧ va_D A [(h0, .inr (8, [.ref a0, .int 0, .ref a2, .int 0, .ref a4, .ref a5, .ref a6, .ref a7, .ref a8, .ref a9, .int 0, .int 0, .int 0, .int 0, .ref a14, .ref a15, .ref a16])), (a2, .inl (k2, 80, .inl f2)), (a4, .inl (k4, 128, .inl f4)), (q_17, .inl (cA_18, 10, .inl g9))] := ⟨_, hP, hD⟩
  refine lv_astore (lv' := [(8, .ref q_17), (0, .ref h0), (1, .int k), (2, .int n), (3, .int a), (4, .int b), (5, .int pp), (6, .int z), (7, .int o)]) hx hb dX9_make_154 hl (by decide) rfl (fun ls hl => ?_)
  refine lv_iconst (v := 0) hx hb dX9_make_156 (by decide) ?_
  refine lv_istore (lv' := [(9, .int 0), (8, .ref q_17), (0, .ref h0), (1, .int k), (2, .int n), (3, .int a), (4, .int b), (5, .int pp), (6, .int z), (7, .int o)]) hx hb dX9_make_157 hl (by decide) rfl (fun ls hl => ?_)
  refine lv_iload hx hb dX9_make_159 (lv_at hl 0 rfl) ?_
  refine lv_bipush (v := 10) hx hb dX9_make_161 (by decide) ?_
  refine lv_icmp_ge (tgt := 192) hx hb dX9_make_163 (by decide) (fun c_29 => absurd c_29 (by decide)) (fun _ => ?_)
  refine lv_aload_n hx hb dX9_make_166 rfl (lv_at hl 2 rfl) ?_
  refine va_get (D := D) (ci := 8) (v := .ref a2) (C := RX9) (T := TX9) (N := 17) hx hb hts hiX9_make_X9 hown hK hP 0 rfl rfl 2 (by decide) (hts (.fieldLink RX9 13 "OneHandsetModel" "makes" "[I") (List.mem_of_getElem? (i := 4) rfl)) (fun _ h9 => h9) rfl dX9_make_167 ?_
  refine lv_bipush (v := 10) hx hb dX9_make_170 (by decide) ?_
  refine lv_aload_n hx hb dX9_make_172 rfl (lv_at hl 2 rfl) ?_
  refine va_get (D := D) (ci := 8) (v := .int 0) (C := RX9) (T := TX9) (N := 17) hx hb hts hiX9_make_X9 hown hK hP 0 rfl rfl 3 (by decide) (hts (.fieldLink RX9 47 "OneHandsetModel" "makeMany" "I") (List.mem_of_getElem? (i := 2) rfl)) (fun _ h9 => h9) rfl dX9_make_173 ?_
  refine lv_imul hx hb dX9_make_176 ?_
  refine lv_topi (fun v_30 ev_30 => ?_)
  obtain rfl : v_30 = (0 : Int32) := ev_30.trans (by decide)
  refine lv_iload hx hb dX9_make_177 (lv_at hl 0 rfl) ?_
  refine lv_iadd hx hb dX9_make_179 ?_
  refine lv_topi (fun v_31 ev_31 => ?_)
  obtain rfl : v_31 = (0 : Int32) := ev_31.trans (by decide)
  refine lv_aload hx hb dX9_make_180 (lv_at hl 1 rfl) ?_
  refine lv_iload hx hb dX9_make_182 (lv_at hl 0 rfl) ?_
  refine va_iald hx hb hK hP 3 2 rfl rfl (vin (by decide)) dX9_make_184 ?_
  refine va_iast hx hb hK hP hD hS 1 0 rfl rfl (vin (by decide)) dX9_make_185 (fun H locs hP hD hS => ?_)
  obtain ⟨g_32, hP, hD⟩ : ∃ g9 : Nat → Int32, va_P D vwCl [(h0, .inr (8, [.ref a0, .int 0, .ref a2, .int 0, .ref a4, .ref a5, .ref a6, .ref a7, .ref a8, .ref a9, .int 0, .int 0, .int 0, .int 0, .ref a14, .ref a15, .ref a16])), (a2, .inl (k2, 80, .inl g9)), (a4, .inl (k4, 128, .inl f4)), (q_17, .inl (cA_18, 10, .inl g_28))] H ∧ va_D A [(h0, .inr (8, [.ref a0, .int 0, .ref a2, .int 0, .ref a4, .ref a5, .ref a6, .ref a7, .ref a8, .ref a9, .int 0, .int 0, .int 0, .int 0, .ref a14, .ref a15, .ref a16])), (a2, .inl (k2, 80, .inl g9)), (a4, .inl (k4, 128, .inl f4)), (q_17, .inl (cA_18, 10, .inl g_28))] := ⟨_, hP, hD⟩
  refine lv_iinc (v := 1) (lv' := [(9, .int 1), (8, .ref q_17), (0, .ref h0), (1, .int k), (2, .int n), (3, .int a), (4, .int b), (5, .int pp), (6, .int z), (7, .int o)]) hx hb dX9_make_186 hl (k := 0) rfl (by decide) (by decide) rfl (fun ls hl => ?_)
  refine lv_goto (tgt := 159) hx hb dX9_make_189 (by decide) ?_
  refine lv_iload hx hb dX9_make_159 (lv_at hl 0 rfl) ?_
  refine lv_bipush (v := 10) hx hb dX9_make_161 (by decide) ?_
  refine lv_icmp_ge (tgt := 192) hx hb dX9_make_163 (by decide) (fun c_33 => absurd c_33 (by decide)) (fun _ => ?_)
  refine lv_aload_n hx hb dX9_make_166 rfl (lv_at hl 2 rfl) ?_
  refine va_get (D := D) (ci := 8) (v := .ref a2) (C := RX9) (T := TX9) (N := 17) hx hb hts hiX9_make_X9 hown hK hP 0 rfl rfl 2 (by decide) (hts (.fieldLink RX9 13 "OneHandsetModel" "makes" "[I") (List.mem_of_getElem? (i := 4) rfl)) (fun _ h9 => h9) rfl dX9_make_167 ?_
  refine lv_bipush (v := 10) hx hb dX9_make_170 (by decide) ?_
  refine lv_aload_n hx hb dX9_make_172 rfl (lv_at hl 2 rfl) ?_
  refine va_get (D := D) (ci := 8) (v := .int 0) (C := RX9) (T := TX9) (N := 17) hx hb hts hiX9_make_X9 hown hK hP 0 rfl rfl 3 (by decide) (hts (.fieldLink RX9 47 "OneHandsetModel" "makeMany" "I") (List.mem_of_getElem? (i := 2) rfl)) (fun _ h9 => h9) rfl dX9_make_173 ?_
  refine lv_imul hx hb dX9_make_176 ?_
  refine lv_topi (fun v_34 ev_34 => ?_)
  obtain rfl : v_34 = (0 : Int32) := ev_34.trans (by decide)
  refine lv_iload hx hb dX9_make_177 (lv_at hl 0 rfl) ?_
  refine lv_iadd hx hb dX9_make_179 ?_
  refine lv_topi (fun v_35 ev_35 => ?_)
  obtain rfl : v_35 = (1 : Int32) := ev_35.trans (by decide)
  refine lv_aload hx hb dX9_make_180 (lv_at hl 1 rfl) ?_
  refine lv_iload hx hb dX9_make_182 (lv_at hl 0 rfl) ?_
  refine va_iald hx hb hK hP 3 2 rfl rfl (vin (by decide)) dX9_make_184 ?_
  refine va_iast hx hb hK hP hD hS 1 0 rfl rfl (vin (by decide)) dX9_make_185 (fun H locs hP hD hS => ?_)
  obtain ⟨g_36, hP, hD⟩ : ∃ g9 : Nat → Int32, va_P D vwCl [(h0, .inr (8, [.ref a0, .int 0, .ref a2, .int 0, .ref a4, .ref a5, .ref a6, .ref a7, .ref a8, .ref a9, .int 0, .int 0, .int 0, .int 0, .ref a14, .ref a15, .ref a16])), (a2, .inl (k2, 80, .inl g9)), (a4, .inl (k4, 128, .inl f4)), (q_17, .inl (cA_18, 10, .inl g_28))] H ∧ va_D A [(h0, .inr (8, [.ref a0, .int 0, .ref a2, .int 0, .ref a4, .ref a5, .ref a6, .ref a7, .ref a8, .ref a9, .int 0, .int 0, .int 0, .int 0, .ref a14, .ref a15, .ref a16])), (a2, .inl (k2, 80, .inl g9)), (a4, .inl (k4, 128, .inl f4)), (q_17, .inl (cA_18, 10, .inl g_28))] := ⟨_, hP, hD⟩
  refine lv_iinc (v := 2) (lv' := [(9, .int 2), (8, .ref q_17), (0, .ref h0), (1, .int k), (2, .int n), (3, .int a), (4, .int b), (5, .int pp), (6, .int z), (7, .int o)]) hx hb dX9_make_186 hl (k := 0) rfl (by decide) (by decide) rfl (fun ls hl => ?_)
  refine lv_goto (tgt := 159) hx hb dX9_make_189 (by decide) ?_
  refine lv_iload hx hb dX9_make_159 (lv_at hl 0 rfl) ?_
  refine lv_bipush (v := 10) hx hb dX9_make_161 (by decide) ?_
  refine lv_icmp_ge (tgt := 192) hx hb dX9_make_163 (by decide) (fun c_37 => absurd c_37 (by decide)) (fun _ => ?_)
  refine lv_aload_n hx hb dX9_make_166 rfl (lv_at hl 2 rfl) ?_
  refine va_get (D := D) (ci := 8) (v := .ref a2) (C := RX9) (T := TX9) (N := 17) hx hb hts hiX9_make_X9 hown hK hP 0 rfl rfl 2 (by decide) (hts (.fieldLink RX9 13 "OneHandsetModel" "makes" "[I") (List.mem_of_getElem? (i := 4) rfl)) (fun _ h9 => h9) rfl dX9_make_167 ?_
  refine lv_bipush (v := 10) hx hb dX9_make_170 (by decide) ?_
  refine lv_aload_n hx hb dX9_make_172 rfl (lv_at hl 2 rfl) ?_
  refine va_get (D := D) (ci := 8) (v := .int 0) (C := RX9) (T := TX9) (N := 17) hx hb hts hiX9_make_X9 hown hK hP 0 rfl rfl 3 (by decide) (hts (.fieldLink RX9 47 "OneHandsetModel" "makeMany" "I") (List.mem_of_getElem? (i := 2) rfl)) (fun _ h9 => h9) rfl dX9_make_173 ?_
  refine lv_imul hx hb dX9_make_176 ?_
  refine lv_topi (fun v_38 ev_38 => ?_)
  obtain rfl : v_38 = (0 : Int32) := ev_38.trans (by decide)
  refine lv_iload hx hb dX9_make_177 (lv_at hl 0 rfl) ?_
  refine lv_iadd hx hb dX9_make_179 ?_
  refine lv_topi (fun v_39 ev_39 => ?_)
  obtain rfl : v_39 = (2 : Int32) := ev_39.trans (by decide)
  refine lv_aload hx hb dX9_make_180 (lv_at hl 1 rfl) ?_
  refine lv_iload hx hb dX9_make_182 (lv_at hl 0 rfl) ?_
  refine va_iald hx hb hK hP 3 2 rfl rfl (vin (by decide)) dX9_make_184 ?_
  refine va_iast hx hb hK hP hD hS 1 0 rfl rfl (vin (by decide)) dX9_make_185 (fun H locs hP hD hS => ?_)
  obtain ⟨g_40, hP, hD⟩ : ∃ g9 : Nat → Int32, va_P D vwCl [(h0, .inr (8, [.ref a0, .int 0, .ref a2, .int 0, .ref a4, .ref a5, .ref a6, .ref a7, .ref a8, .ref a9, .int 0, .int 0, .int 0, .int 0, .ref a14, .ref a15, .ref a16])), (a2, .inl (k2, 80, .inl g9)), (a4, .inl (k4, 128, .inl f4)), (q_17, .inl (cA_18, 10, .inl g_28))] H ∧ va_D A [(h0, .inr (8, [.ref a0, .int 0, .ref a2, .int 0, .ref a4, .ref a5, .ref a6, .ref a7, .ref a8, .ref a9, .int 0, .int 0, .int 0, .int 0, .ref a14, .ref a15, .ref a16])), (a2, .inl (k2, 80, .inl g9)), (a4, .inl (k4, 128, .inl f4)), (q_17, .inl (cA_18, 10, .inl g_28))] := ⟨_, hP, hD⟩
  refine lv_iinc (v := 3) (lv' := [(9, .int 3), (8, .ref q_17), (0, .ref h0), (1, .int k), (2, .int n), (3, .int a), (4, .int b), (5, .int pp), (6, .int z), (7, .int o)]) hx hb dX9_make_186 hl (k := 0) rfl (by decide) (by decide) rfl (fun ls hl => ?_)
  refine lv_goto (tgt := 159) hx hb dX9_make_189 (by decide) ?_
  refine lv_iload hx hb dX9_make_159 (lv_at hl 0 rfl) ?_
  refine lv_bipush (v := 10) hx hb dX9_make_161 (by decide) ?_
  refine lv_icmp_ge (tgt := 192) hx hb dX9_make_163 (by decide) (fun c_41 => absurd c_41 (by decide)) (fun _ => ?_)
  refine lv_aload_n hx hb dX9_make_166 rfl (lv_at hl 2 rfl) ?_
  refine va_get (D := D) (ci := 8) (v := .ref a2) (C := RX9) (T := TX9) (N := 17) hx hb hts hiX9_make_X9 hown hK hP 0 rfl rfl 2 (by decide) (hts (.fieldLink RX9 13 "OneHandsetModel" "makes" "[I") (List.mem_of_getElem? (i := 4) rfl)) (fun _ h9 => h9) rfl dX9_make_167 ?_
  refine lv_bipush (v := 10) hx hb dX9_make_170 (by decide) ?_
  refine lv_aload_n hx hb dX9_make_172 rfl (lv_at hl 2 rfl) ?_
  refine va_get (D := D) (ci := 8) (v := .int 0) (C := RX9) (T := TX9) (N := 17) hx hb hts hiX9_make_X9 hown hK hP 0 rfl rfl 3 (by decide) (hts (.fieldLink RX9 47 "OneHandsetModel" "makeMany" "I") (List.mem_of_getElem? (i := 2) rfl)) (fun _ h9 => h9) rfl dX9_make_173 ?_
  refine lv_imul hx hb dX9_make_176 ?_
  refine lv_topi (fun v_42 ev_42 => ?_)
  obtain rfl : v_42 = (0 : Int32) := ev_42.trans (by decide)
  refine lv_iload hx hb dX9_make_177 (lv_at hl 0 rfl) ?_
  refine lv_iadd hx hb dX9_make_179 ?_
  refine lv_topi (fun v_43 ev_43 => ?_)
  obtain rfl : v_43 = (3 : Int32) := ev_43.trans (by decide)
  refine lv_aload hx hb dX9_make_180 (lv_at hl 1 rfl) ?_
  refine lv_iload hx hb dX9_make_182 (lv_at hl 0 rfl) ?_
  refine va_iald hx hb hK hP 3 2 rfl rfl (vin (by decide)) dX9_make_184 ?_
  refine va_iast hx hb hK hP hD hS 1 0 rfl rfl (vin (by decide)) dX9_make_185 (fun H locs hP hD hS => ?_)
  obtain ⟨g_44, hP, hD⟩ : ∃ g9 : Nat → Int32, va_P D vwCl [(h0, .inr (8, [.ref a0, .int 0, .ref a2, .int 0, .ref a4, .ref a5, .ref a6, .ref a7, .ref a8, .ref a9, .int 0, .int 0, .int 0, .int 0, .ref a14, .ref a15, .ref a16])), (a2, .inl (k2, 80, .inl g9)), (a4, .inl (k4, 128, .inl f4)), (q_17, .inl (cA_18, 10, .inl g_28))] H ∧ va_D A [(h0, .inr (8, [.ref a0, .int 0, .ref a2, .int 0, .ref a4, .ref a5, .ref a6, .ref a7, .ref a8, .ref a9, .int 0, .int 0, .int 0, .int 0, .ref a14, .ref a15, .ref a16])), (a2, .inl (k2, 80, .inl g9)), (a4, .inl (k4, 128, .inl f4)), (q_17, .inl (cA_18, 10, .inl g_28))] := ⟨_, hP, hD⟩
  refine lv_iinc (v := 4) (lv' := [(9, .int 4), (8, .ref q_17), (0, .ref h0), (1, .int k), (2, .int n), (3, .int a), (4, .int b), (5, .int pp), (6, .int z), (7, .int o)]) hx hb dX9_make_186 hl (k := 0) rfl (by decide) (by decide) rfl (fun ls hl => ?_)
  refine lv_goto (tgt := 159) hx hb dX9_make_189 (by decide) ?_
  refine lv_iload hx hb dX9_make_159 (lv_at hl 0 rfl) ?_
  refine lv_bipush (v := 10) hx hb dX9_make_161 (by decide) ?_
  refine lv_icmp_ge (tgt := 192) hx hb dX9_make_163 (by decide) (fun c_45 => absurd c_45 (by decide)) (fun _ => ?_)
  refine lv_aload_n hx hb dX9_make_166 rfl (lv_at hl 2 rfl) ?_
  refine va_get (D := D) (ci := 8) (v := .ref a2) (C := RX9) (T := TX9) (N := 17) hx hb hts hiX9_make_X9 hown hK hP 0 rfl rfl 2 (by decide) (hts (.fieldLink RX9 13 "OneHandsetModel" "makes" "[I") (List.mem_of_getElem? (i := 4) rfl)) (fun _ h9 => h9) rfl dX9_make_167 ?_
  refine lv_bipush (v := 10) hx hb dX9_make_170 (by decide) ?_
  refine lv_aload_n hx hb dX9_make_172 rfl (lv_at hl 2 rfl) ?_
  refine va_get (D := D) (ci := 8) (v := .int 0) (C := RX9) (T := TX9) (N := 17) hx hb hts hiX9_make_X9 hown hK hP 0 rfl rfl 3 (by decide) (hts (.fieldLink RX9 47 "OneHandsetModel" "makeMany" "I") (List.mem_of_getElem? (i := 2) rfl)) (fun _ h9 => h9) rfl dX9_make_173 ?_
  refine lv_imul hx hb dX9_make_176 ?_
  refine lv_topi (fun v_46 ev_46 => ?_)
  obtain rfl : v_46 = (0 : Int32) := ev_46.trans (by decide)
  refine lv_iload hx hb dX9_make_177 (lv_at hl 0 rfl) ?_
  refine lv_iadd hx hb dX9_make_179 ?_
  refine lv_topi (fun v_47 ev_47 => ?_)
  obtain rfl : v_47 = (4 : Int32) := ev_47.trans (by decide)
  refine lv_aload hx hb dX9_make_180 (lv_at hl 1 rfl) ?_
  refine lv_iload hx hb dX9_make_182 (lv_at hl 0 rfl) ?_
  refine va_iald hx hb hK hP 3 2 rfl rfl (vin (by decide)) dX9_make_184 ?_
  refine va_iast hx hb hK hP hD hS 1 0 rfl rfl (vin (by decide)) dX9_make_185 (fun H locs hP hD hS => ?_)
  obtain ⟨g_48, hP, hD⟩ : ∃ g9 : Nat → Int32, va_P D vwCl [(h0, .inr (8, [.ref a0, .int 0, .ref a2, .int 0, .ref a4, .ref a5, .ref a6, .ref a7, .ref a8, .ref a9, .int 0, .int 0, .int 0, .int 0, .ref a14, .ref a15, .ref a16])), (a2, .inl (k2, 80, .inl g9)), (a4, .inl (k4, 128, .inl f4)), (q_17, .inl (cA_18, 10, .inl g_28))] H ∧ va_D A [(h0, .inr (8, [.ref a0, .int 0, .ref a2, .int 0, .ref a4, .ref a5, .ref a6, .ref a7, .ref a8, .ref a9, .int 0, .int 0, .int 0, .int 0, .ref a14, .ref a15, .ref a16])), (a2, .inl (k2, 80, .inl g9)), (a4, .inl (k4, 128, .inl f4)), (q_17, .inl (cA_18, 10, .inl g_28))] := ⟨_, hP, hD⟩
  refine lv_iinc (v := 5) (lv' := [(9, .int 5), (8, .ref q_17), (0, .ref h0), (1, .int k), (2, .int n), (3, .int a), (4, .int b), (5, .int pp), (6, .int z), (7, .int o)]) hx hb dX9_make_186 hl (k := 0) rfl (by decide) (by decide) rfl (fun ls hl => ?_)
  refine lv_goto (tgt := 159) hx hb dX9_make_189 (by decide) ?_
  refine lv_iload hx hb dX9_make_159 (lv_at hl 0 rfl) ?_
  refine lv_bipush (v := 10) hx hb dX9_make_161 (by decide) ?_
  refine lv_icmp_ge (tgt := 192) hx hb dX9_make_163 (by decide) (fun c_49 => absurd c_49 (by decide)) (fun _ => ?_)
  refine lv_aload_n hx hb dX9_make_166 rfl (lv_at hl 2 rfl) ?_
  refine va_get (D := D) (ci := 8) (v := .ref a2) (C := RX9) (T := TX9) (N := 17) hx hb hts hiX9_make_X9 hown hK hP 0 rfl rfl 2 (by decide) (hts (.fieldLink RX9 13 "OneHandsetModel" "makes" "[I") (List.mem_of_getElem? (i := 4) rfl)) (fun _ h9 => h9) rfl dX9_make_167 ?_
  refine lv_bipush (v := 10) hx hb dX9_make_170 (by decide) ?_
  refine lv_aload_n hx hb dX9_make_172 rfl (lv_at hl 2 rfl) ?_
  refine va_get (D := D) (ci := 8) (v := .int 0) (C := RX9) (T := TX9) (N := 17) hx hb hts hiX9_make_X9 hown hK hP 0 rfl rfl 3 (by decide) (hts (.fieldLink RX9 47 "OneHandsetModel" "makeMany" "I") (List.mem_of_getElem? (i := 2) rfl)) (fun _ h9 => h9) rfl dX9_make_173 ?_
  refine lv_imul hx hb dX9_make_176 ?_
  refine lv_topi (fun v_50 ev_50 => ?_)
  obtain rfl : v_50 = (0 : Int32) := ev_50.trans (by decide)
  refine lv_iload hx hb dX9_make_177 (lv_at hl 0 rfl) ?_
  refine lv_iadd hx hb dX9_make_179 ?_
  refine lv_topi (fun v_51 ev_51 => ?_)
  obtain rfl : v_51 = (5 : Int32) := ev_51.trans (by decide)
  refine lv_aload hx hb dX9_make_180 (lv_at hl 1 rfl) ?_
  refine lv_iload hx hb dX9_make_182 (lv_at hl 0 rfl) ?_
  refine va_iald hx hb hK hP 3 2 rfl rfl (vin (by decide)) dX9_make_184 ?_
  refine va_iast hx hb hK hP hD hS 1 0 rfl rfl (vin (by decide)) dX9_make_185 (fun H locs hP hD hS => ?_)
  obtain ⟨g_52, hP, hD⟩ : ∃ g9 : Nat → Int32, va_P D vwCl [(h0, .inr (8, [.ref a0, .int 0, .ref a2, .int 0, .ref a4, .ref a5, .ref a6, .ref a7, .ref a8, .ref a9, .int 0, .int 0, .int 0, .int 0, .ref a14, .ref a15, .ref a16])), (a2, .inl (k2, 80, .inl g9)), (a4, .inl (k4, 128, .inl f4)), (q_17, .inl (cA_18, 10, .inl g_28))] H ∧ va_D A [(h0, .inr (8, [.ref a0, .int 0, .ref a2, .int 0, .ref a4, .ref a5, .ref a6, .ref a7, .ref a8, .ref a9, .int 0, .int 0, .int 0, .int 0, .ref a14, .ref a15, .ref a16])), (a2, .inl (k2, 80, .inl g9)), (a4, .inl (k4, 128, .inl f4)), (q_17, .inl (cA_18, 10, .inl g_28))] := ⟨_, hP, hD⟩
  refine lv_iinc (v := 6) (lv' := [(9, .int 6), (8, .ref q_17), (0, .ref h0), (1, .int k), (2, .int n), (3, .int a), (4, .int b), (5, .int pp), (6, .int z), (7, .int o)]) hx hb dX9_make_186 hl (k := 0) rfl (by decide) (by decide) rfl (fun ls hl => ?_)
  refine lv_goto (tgt := 159) hx hb dX9_make_189 (by decide) ?_
  refine lv_iload hx hb dX9_make_159 (lv_at hl 0 rfl) ?_
  refine lv_bipush (v := 10) hx hb dX9_make_161 (by decide) ?_
  refine lv_icmp_ge (tgt := 192) hx hb dX9_make_163 (by decide) (fun c_53 => absurd c_53 (by decide)) (fun _ => ?_)
  refine lv_aload_n hx hb dX9_make_166 rfl (lv_at hl 2 rfl) ?_
  refine va_get (D := D) (ci := 8) (v := .ref a2) (C := RX9) (T := TX9) (N := 17) hx hb hts hiX9_make_X9 hown hK hP 0 rfl rfl 2 (by decide) (hts (.fieldLink RX9 13 "OneHandsetModel" "makes" "[I") (List.mem_of_getElem? (i := 4) rfl)) (fun _ h9 => h9) rfl dX9_make_167 ?_
  refine lv_bipush (v := 10) hx hb dX9_make_170 (by decide) ?_
  refine lv_aload_n hx hb dX9_make_172 rfl (lv_at hl 2 rfl) ?_
  refine va_get (D := D) (ci := 8) (v := .int 0) (C := RX9) (T := TX9) (N := 17) hx hb hts hiX9_make_X9 hown hK hP 0 rfl rfl 3 (by decide) (hts (.fieldLink RX9 47 "OneHandsetModel" "makeMany" "I") (List.mem_of_getElem? (i := 2) rfl)) (fun _ h9 => h9) rfl dX9_make_173 ?_
  refine lv_imul hx hb dX9_make_176 ?_
  refine lv_topi (fun v_54 ev_54 => ?_)
  obtain rfl : v_54 = (0 : Int32) := ev_54.trans (by decide)
  refine lv_iload hx hb dX9_make_177 (lv_at hl 0 rfl) ?_
  refine lv_iadd hx hb dX9_make_179 ?_
  refine lv_topi (fun v_55 ev_55 => ?_)
  obtain rfl : v_55 = (6 : Int32) := ev_55.trans (by decide)
  refine lv_aload hx hb dX9_make_180 (lv_at hl 1 rfl) ?_
  refine lv_iload hx hb dX9_make_182 (lv_at hl 0 rfl) ?_
  refine va_iald hx hb hK hP 3 2 rfl rfl (vin (by decide)) dX9_make_184 ?_
  refine va_iast hx hb hK hP hD hS 1 0 rfl rfl (vin (by decide)) dX9_make_185 (fun H locs hP hD hS => ?_)
  obtain ⟨g_56, hP, hD⟩ : ∃ g9 : Nat → Int32, va_P D vwCl [(h0, .inr (8, [.ref a0, .int 0, .ref a2, .int 0, .ref a4, .ref a5, .ref a6, .ref a7, .ref a8, .ref a9, .int 0, .int 0, .int 0, .int 0, .ref a14, .ref a15, .ref a16])), (a2, .inl (k2, 80, .inl g9)), (a4, .inl (k4, 128, .inl f4)), (q_17, .inl (cA_18, 10, .inl g_28))] H ∧ va_D A [(h0, .inr (8, [.ref a0, .int 0, .ref a2, .int 0, .ref a4, .ref a5, .ref a6, .ref a7, .ref a8, .ref a9, .int 0, .int 0, .int 0, .int 0, .ref a14, .ref a15, .ref a16])), (a2, .inl (k2, 80, .inl g9)), (a4, .inl (k4, 128, .inl f4)), (q_17, .inl (cA_18, 10, .inl g_28))] := ⟨_, hP, hD⟩
  refine lv_iinc (v := 7) (lv' := [(9, .int 7), (8, .ref q_17), (0, .ref h0), (1, .int k), (2, .int n), (3, .int a), (4, .int b), (5, .int pp), (6, .int z), (7, .int o)]) hx hb dX9_make_186 hl (k := 0) rfl (by decide) (by decide) rfl (fun ls hl => ?_)
  refine lv_goto (tgt := 159) hx hb dX9_make_189 (by decide) ?_
  refine lv_iload hx hb dX9_make_159 (lv_at hl 0 rfl) ?_
  refine lv_bipush (v := 10) hx hb dX9_make_161 (by decide) ?_
  refine lv_icmp_ge (tgt := 192) hx hb dX9_make_163 (by decide) (fun c_57 => absurd c_57 (by decide)) (fun _ => ?_)
  refine lv_aload_n hx hb dX9_make_166 rfl (lv_at hl 2 rfl) ?_
  refine va_get (D := D) (ci := 8) (v := .ref a2) (C := RX9) (T := TX9) (N := 17) hx hb hts hiX9_make_X9 hown hK hP 0 rfl rfl 2 (by decide) (hts (.fieldLink RX9 13 "OneHandsetModel" "makes" "[I") (List.mem_of_getElem? (i := 4) rfl)) (fun _ h9 => h9) rfl dX9_make_167 ?_
  refine lv_bipush (v := 10) hx hb dX9_make_170 (by decide) ?_
  refine lv_aload_n hx hb dX9_make_172 rfl (lv_at hl 2 rfl) ?_
  refine va_get (D := D) (ci := 8) (v := .int 0) (C := RX9) (T := TX9) (N := 17) hx hb hts hiX9_make_X9 hown hK hP 0 rfl rfl 3 (by decide) (hts (.fieldLink RX9 47 "OneHandsetModel" "makeMany" "I") (List.mem_of_getElem? (i := 2) rfl)) (fun _ h9 => h9) rfl dX9_make_173 ?_
  refine lv_imul hx hb dX9_make_176 ?_
  refine lv_topi (fun v_58 ev_58 => ?_)
  obtain rfl : v_58 = (0 : Int32) := ev_58.trans (by decide)
  refine lv_iload hx hb dX9_make_177 (lv_at hl 0 rfl) ?_
  refine lv_iadd hx hb dX9_make_179 ?_
  refine lv_topi (fun v_59 ev_59 => ?_)
  obtain rfl : v_59 = (7 : Int32) := ev_59.trans (by decide)
  refine lv_aload hx hb dX9_make_180 (lv_at hl 1 rfl) ?_
  refine lv_iload hx hb dX9_make_182 (lv_at hl 0 rfl) ?_
  refine va_iald hx hb hK hP 3 2 rfl rfl (vin (by decide)) dX9_make_184 ?_
  refine va_iast hx hb hK hP hD hS 1 0 rfl rfl (vin (by decide)) dX9_make_185 (fun H locs hP hD hS => ?_)
  obtain ⟨g_60, hP, hD⟩ : ∃ g9 : Nat → Int32, va_P D vwCl [(h0, .inr (8, [.ref a0, .int 0, .ref a2, .int 0, .ref a4, .ref a5, .ref a6, .ref a7, .ref a8, .ref a9, .int 0, .int 0, .int 0, .int 0, .ref a14, .ref a15, .ref a16])), (a2, .inl (k2, 80, .inl g9)), (a4, .inl (k4, 128, .inl f4)), (q_17, .inl (cA_18, 10, .inl g_28))] H ∧ va_D A [(h0, .inr (8, [.ref a0, .int 0, .ref a2, .int 0, .ref a4, .ref a5, .ref a6, .ref a7, .ref a8, .ref a9, .int 0, .int 0, .int 0, .int 0, .ref a14, .ref a15, .ref a16])), (a2, .inl (k2, 80, .inl g9)), (a4, .inl (k4, 128, .inl f4)), (q_17, .inl (cA_18, 10, .inl g_28))] := ⟨_, hP, hD⟩
  refine lv_iinc (v := 8) (lv' := [(9, .int 8), (8, .ref q_17), (0, .ref h0), (1, .int k), (2, .int n), (3, .int a), (4, .int b), (5, .int pp), (6, .int z), (7, .int o)]) hx hb dX9_make_186 hl (k := 0) rfl (by decide) (by decide) rfl (fun ls hl => ?_)
  refine lv_goto (tgt := 159) hx hb dX9_make_189 (by decide) ?_
  refine lv_iload hx hb dX9_make_159 (lv_at hl 0 rfl) ?_
  refine lv_bipush (v := 10) hx hb dX9_make_161 (by decide) ?_
  refine lv_icmp_ge (tgt := 192) hx hb dX9_make_163 (by decide) (fun c_61 => absurd c_61 (by decide)) (fun _ => ?_)
  refine lv_aload_n hx hb dX9_make_166 rfl (lv_at hl 2 rfl) ?_
  refine va_get (D := D) (ci := 8) (v := .ref a2) (C := RX9) (T := TX9) (N := 17) hx hb hts hiX9_make_X9 hown hK hP 0 rfl rfl 2 (by decide) (hts (.fieldLink RX9 13 "OneHandsetModel" "makes" "[I") (List.mem_of_getElem? (i := 4) rfl)) (fun _ h9 => h9) rfl dX9_make_167 ?_
  refine lv_bipush (v := 10) hx hb dX9_make_170 (by decide) ?_
  refine lv_aload_n hx hb dX9_make_172 rfl (lv_at hl 2 rfl) ?_
  refine va_get (D := D) (ci := 8) (v := .int 0) (C := RX9) (T := TX9) (N := 17) hx hb hts hiX9_make_X9 hown hK hP 0 rfl rfl 3 (by decide) (hts (.fieldLink RX9 47 "OneHandsetModel" "makeMany" "I") (List.mem_of_getElem? (i := 2) rfl)) (fun _ h9 => h9) rfl dX9_make_173 ?_
  refine lv_imul hx hb dX9_make_176 ?_
  refine lv_topi (fun v_62 ev_62 => ?_)
  obtain rfl : v_62 = (0 : Int32) := ev_62.trans (by decide)
  refine lv_iload hx hb dX9_make_177 (lv_at hl 0 rfl) ?_
  refine lv_iadd hx hb dX9_make_179 ?_
  refine lv_topi (fun v_63 ev_63 => ?_)
  obtain rfl : v_63 = (8 : Int32) := ev_63.trans (by decide)
  refine lv_aload hx hb dX9_make_180 (lv_at hl 1 rfl) ?_
  refine lv_iload hx hb dX9_make_182 (lv_at hl 0 rfl) ?_
  refine va_iald hx hb hK hP 3 2 rfl rfl (vin (by decide)) dX9_make_184 ?_
  refine va_iast hx hb hK hP hD hS 1 0 rfl rfl (vin (by decide)) dX9_make_185 (fun H locs hP hD hS => ?_)
  obtain ⟨g_64, hP, hD⟩ : ∃ g9 : Nat → Int32, va_P D vwCl [(h0, .inr (8, [.ref a0, .int 0, .ref a2, .int 0, .ref a4, .ref a5, .ref a6, .ref a7, .ref a8, .ref a9, .int 0, .int 0, .int 0, .int 0, .ref a14, .ref a15, .ref a16])), (a2, .inl (k2, 80, .inl g9)), (a4, .inl (k4, 128, .inl f4)), (q_17, .inl (cA_18, 10, .inl g_28))] H ∧ va_D A [(h0, .inr (8, [.ref a0, .int 0, .ref a2, .int 0, .ref a4, .ref a5, .ref a6, .ref a7, .ref a8, .ref a9, .int 0, .int 0, .int 0, .int 0, .ref a14, .ref a15, .ref a16])), (a2, .inl (k2, 80, .inl g9)), (a4, .inl (k4, 128, .inl f4)), (q_17, .inl (cA_18, 10, .inl g_28))] := ⟨_, hP, hD⟩
  refine lv_iinc (v := 9) (lv' := [(9, .int 9), (8, .ref q_17), (0, .ref h0), (1, .int k), (2, .int n), (3, .int a), (4, .int b), (5, .int pp), (6, .int z), (7, .int o)]) hx hb dX9_make_186 hl (k := 0) rfl (by decide) (by decide) rfl (fun ls hl => ?_)
  refine lv_goto (tgt := 159) hx hb dX9_make_189 (by decide) ?_
  refine lv_iload hx hb dX9_make_159 (lv_at hl 0 rfl) ?_
  refine lv_bipush (v := 10) hx hb dX9_make_161 (by decide) ?_
  refine lv_icmp_ge (tgt := 192) hx hb dX9_make_163 (by decide) (fun c_65 => absurd c_65 (by decide)) (fun _ => ?_)
  refine lv_aload_n hx hb dX9_make_166 rfl (lv_at hl 2 rfl) ?_
  refine va_get (D := D) (ci := 8) (v := .ref a2) (C := RX9) (T := TX9) (N := 17) hx hb hts hiX9_make_X9 hown hK hP 0 rfl rfl 2 (by decide) (hts (.fieldLink RX9 13 "OneHandsetModel" "makes" "[I") (List.mem_of_getElem? (i := 4) rfl)) (fun _ h9 => h9) rfl dX9_make_167 ?_
  refine lv_bipush (v := 10) hx hb dX9_make_170 (by decide) ?_
  refine lv_aload_n hx hb dX9_make_172 rfl (lv_at hl 2 rfl) ?_
  refine va_get (D := D) (ci := 8) (v := .int 0) (C := RX9) (T := TX9) (N := 17) hx hb hts hiX9_make_X9 hown hK hP 0 rfl rfl 3 (by decide) (hts (.fieldLink RX9 47 "OneHandsetModel" "makeMany" "I") (List.mem_of_getElem? (i := 2) rfl)) (fun _ h9 => h9) rfl dX9_make_173 ?_
  refine lv_imul hx hb dX9_make_176 ?_
  refine lv_topi (fun v_66 ev_66 => ?_)
  obtain rfl : v_66 = (0 : Int32) := ev_66.trans (by decide)
  refine lv_iload hx hb dX9_make_177 (lv_at hl 0 rfl) ?_
  refine lv_iadd hx hb dX9_make_179 ?_
  refine lv_topi (fun v_67 ev_67 => ?_)
  obtain rfl : v_67 = (9 : Int32) := ev_67.trans (by decide)
  refine lv_aload hx hb dX9_make_180 (lv_at hl 1 rfl) ?_
  refine lv_iload hx hb dX9_make_182 (lv_at hl 0 rfl) ?_
  refine va_iald hx hb hK hP 3 2 rfl rfl (vin (by decide)) dX9_make_184 ?_
  refine va_iast hx hb hK hP hD hS 1 0 rfl rfl (vin (by decide)) dX9_make_185 (fun H locs hP hD hS => ?_)
  obtain ⟨g_68, hP, hD⟩ : ∃ g9 : Nat → Int32, va_P D vwCl [(h0, .inr (8, [.ref a0, .int 0, .ref a2, .int 0, .ref a4, .ref a5, .ref a6, .ref a7, .ref a8, .ref a9, .int 0, .int 0, .int 0, .int 0, .ref a14, .ref a15, .ref a16])), (a2, .inl (k2, 80, .inl g9)), (a4, .inl (k4, 128, .inl f4)), (q_17, .inl (cA_18, 10, .inl g_28))] H ∧ va_D A [(h0, .inr (8, [.ref a0, .int 0, .ref a2, .int 0, .ref a4, .ref a5, .ref a6, .ref a7, .ref a8, .ref a9, .int 0, .int 0, .int 0, .int 0, .ref a14, .ref a15, .ref a16])), (a2, .inl (k2, 80, .inl g9)), (a4, .inl (k4, 128, .inl f4)), (q_17, .inl (cA_18, 10, .inl g_28))] := ⟨_, hP, hD⟩
  refine lv_iinc (v := 10) (lv' := [(9, .int 10), (8, .ref q_17), (0, .ref h0), (1, .int k), (2, .int n), (3, .int a), (4, .int b), (5, .int pp), (6, .int z), (7, .int o)]) hx hb dX9_make_186 hl (k := 0) rfl (by decide) (by decide) rfl (fun ls hl => ?_)
  refine lv_goto (tgt := 159) hx hb dX9_make_189 (by decide) ?_
  refine lv_iload hx hb dX9_make_159 (lv_at hl 0 rfl) ?_
  refine lv_bipush (v := 10) hx hb dX9_make_161 (by decide) ?_
  refine lv_icmp_ge (tgt := 192) hx hb dX9_make_163 (by decide) (fun _ => ?_) (fun c_69 => absurd (by decide) c_69)
  refine lv_iconst (v := 0) hx hb dX9_make_192 (by decide) ?_
  refine lv_istore (lv' := [(9, .int 0), (8, .ref q_17), (0, .ref h0), (1, .int k), (2, .int n), (3, .int a), (4, .int b), (5, .int pp), (6, .int z), (7, .int o)]) hx hb dX9_make_193 hl (by decide) rfl (fun ls hl => ?_)
  refine lv_iload hx hb dX9_make_195 (lv_at hl 0 rfl) ?_
  refine lv_bipush (v := 16) hx hb dX9_make_197 (by decide) ?_
  refine lv_icmp_ge (tgt := 224) hx hb dX9_make_199 (by decide) (fun c_70 => absurd c_70 (by decide)) (fun _ => ?_)
  refine lv_aload_n hx hb dX9_make_202 rfl (lv_at hl 2 rfl) ?_
  refine va_get (D := D) (ci := 8) (v := .ref a4) (C := RX9) (T := TX9) (N := 17) hx hb hts hiX9_make_X9 hown hK hP 0 rfl rfl 4 (by decide) (hts (.fieldLink RX9 16 "OneHandsetModel" "keys" "[I") (List.mem_of_getElem? (i := 5) rfl)) (fun _ h9 => h9) rfl dX9_make_203 ?_
  refine lv_bipush (v := 16) hx hb dX9_make_206 (by decide) ?_
  refine lv_aload_n hx hb dX9_make_208 rfl (lv_at hl 2 rfl) ?_
  refine va_get (D := D) (ci := 8) (v := .int 0) (C := RX9) (T := TX9) (N := 17) hx hb hts hiX9_make_X9 hown hK hP 0 rfl rfl 3 (by decide) (hts (.fieldLink RX9 47 "OneHandsetModel" "makeMany" "I") (List.mem_of_getElem? (i := 2) rfl)) (fun _ h9 => h9) rfl dX9_make_209 ?_
  refine lv_imul hx hb dX9_make_212 ?_
  refine lv_topi (fun v_71 ev_71 => ?_)
  obtain rfl : v_71 = (0 : Int32) := ev_71.trans (by decide)
  refine lv_iload hx hb dX9_make_213 (lv_at hl 0 rfl) ?_
  refine lv_iadd hx hb dX9_make_215 ?_
  refine lv_topi (fun v_72 ev_72 => ?_)
  obtain rfl : v_72 = (0 : Int32) := ev_72.trans (by decide)
  refine lv_iconst (v := (-1)) hx hb dX9_make_216 (by decide) ?_
  refine va_iast hx hb hK hP hD hS 2 1 rfl rfl (vin (by decide)) dX9_make_217 (fun H locs hP hD hS => ?_)
  obtain ⟨g_73, hP, hD⟩ : ∃ g9 : Nat → Int32, va_P D vwCl [(h0, .inr (8, [.ref a0, .int 0, .ref a2, .int 0, .ref a4, .ref a5, .ref a6, .ref a7, .ref a8, .ref a9, .int 0, .int 0, .int 0, .int 0, .ref a14, .ref a15, .ref a16])), (a2, .inl (k2, 80, .inl g_68)), (a4, .inl (k4, 128, .inl g9)), (q_17, .inl (cA_18, 10, .inl g_28))] H ∧ va_D A [(h0, .inr (8, [.ref a0, .int 0, .ref a2, .int 0, .ref a4, .ref a5, .ref a6, .ref a7, .ref a8, .ref a9, .int 0, .int 0, .int 0, .int 0, .ref a14, .ref a15, .ref a16])), (a2, .inl (k2, 80, .inl g_68)), (a4, .inl (k4, 128, .inl g9)), (q_17, .inl (cA_18, 10, .inl g_28))] := ⟨_, hP, hD⟩
  refine lv_iinc (v := 1) (lv' := [(9, .int 1), (8, .ref q_17), (0, .ref h0), (1, .int k), (2, .int n), (3, .int a), (4, .int b), (5, .int pp), (6, .int z), (7, .int o)]) hx hb dX9_make_218 hl (k := 0) rfl (by decide) (by decide) rfl (fun ls hl => ?_)
  refine lv_goto (tgt := 195) hx hb dX9_make_221 (by decide) ?_
  refine lv_iload hx hb dX9_make_195 (lv_at hl 0 rfl) ?_
  refine lv_bipush (v := 16) hx hb dX9_make_197 (by decide) ?_
  refine lv_icmp_ge (tgt := 224) hx hb dX9_make_199 (by decide) (fun c_74 => absurd c_74 (by decide)) (fun _ => ?_)
  refine lv_aload_n hx hb dX9_make_202 rfl (lv_at hl 2 rfl) ?_
  refine va_get (D := D) (ci := 8) (v := .ref a4) (C := RX9) (T := TX9) (N := 17) hx hb hts hiX9_make_X9 hown hK hP 0 rfl rfl 4 (by decide) (hts (.fieldLink RX9 16 "OneHandsetModel" "keys" "[I") (List.mem_of_getElem? (i := 5) rfl)) (fun _ h9 => h9) rfl dX9_make_203 ?_
  refine lv_bipush (v := 16) hx hb dX9_make_206 (by decide) ?_
  refine lv_aload_n hx hb dX9_make_208 rfl (lv_at hl 2 rfl) ?_
  refine va_get (D := D) (ci := 8) (v := .int 0) (C := RX9) (T := TX9) (N := 17) hx hb hts hiX9_make_X9 hown hK hP 0 rfl rfl 3 (by decide) (hts (.fieldLink RX9 47 "OneHandsetModel" "makeMany" "I") (List.mem_of_getElem? (i := 2) rfl)) (fun _ h9 => h9) rfl dX9_make_209 ?_
  refine lv_imul hx hb dX9_make_212 ?_
  refine lv_topi (fun v_75 ev_75 => ?_)
  obtain rfl : v_75 = (0 : Int32) := ev_75.trans (by decide)
  refine lv_iload hx hb dX9_make_213 (lv_at hl 0 rfl) ?_
  refine lv_iadd hx hb dX9_make_215 ?_
  refine lv_topi (fun v_76 ev_76 => ?_)
  obtain rfl : v_76 = (1 : Int32) := ev_76.trans (by decide)
  refine lv_iconst (v := (-1)) hx hb dX9_make_216 (by decide) ?_
  refine va_iast hx hb hK hP hD hS 2 1 rfl rfl (vin (by decide)) dX9_make_217 (fun H locs hP hD hS => ?_)
  obtain ⟨g_77, hP, hD⟩ : ∃ g9 : Nat → Int32, va_P D vwCl [(h0, .inr (8, [.ref a0, .int 0, .ref a2, .int 0, .ref a4, .ref a5, .ref a6, .ref a7, .ref a8, .ref a9, .int 0, .int 0, .int 0, .int 0, .ref a14, .ref a15, .ref a16])), (a2, .inl (k2, 80, .inl g_68)), (a4, .inl (k4, 128, .inl g9)), (q_17, .inl (cA_18, 10, .inl g_28))] H ∧ va_D A [(h0, .inr (8, [.ref a0, .int 0, .ref a2, .int 0, .ref a4, .ref a5, .ref a6, .ref a7, .ref a8, .ref a9, .int 0, .int 0, .int 0, .int 0, .ref a14, .ref a15, .ref a16])), (a2, .inl (k2, 80, .inl g_68)), (a4, .inl (k4, 128, .inl g9)), (q_17, .inl (cA_18, 10, .inl g_28))] := ⟨_, hP, hD⟩
  refine lv_iinc (v := 2) (lv' := [(9, .int 2), (8, .ref q_17), (0, .ref h0), (1, .int k), (2, .int n), (3, .int a), (4, .int b), (5, .int pp), (6, .int z), (7, .int o)]) hx hb dX9_make_218 hl (k := 0) rfl (by decide) (by decide) rfl (fun ls hl => ?_)
  refine lv_goto (tgt := 195) hx hb dX9_make_221 (by decide) ?_
  refine lv_iload hx hb dX9_make_195 (lv_at hl 0 rfl) ?_
  refine lv_bipush (v := 16) hx hb dX9_make_197 (by decide) ?_
  refine lv_icmp_ge (tgt := 224) hx hb dX9_make_199 (by decide) (fun c_78 => absurd c_78 (by decide)) (fun _ => ?_)
  refine lv_aload_n hx hb dX9_make_202 rfl (lv_at hl 2 rfl) ?_
  refine va_get (D := D) (ci := 8) (v := .ref a4) (C := RX9) (T := TX9) (N := 17) hx hb hts hiX9_make_X9 hown hK hP 0 rfl rfl 4 (by decide) (hts (.fieldLink RX9 16 "OneHandsetModel" "keys" "[I") (List.mem_of_getElem? (i := 5) rfl)) (fun _ h9 => h9) rfl dX9_make_203 ?_
  refine lv_bipush (v := 16) hx hb dX9_make_206 (by decide) ?_
  refine lv_aload_n hx hb dX9_make_208 rfl (lv_at hl 2 rfl) ?_
  refine va_get (D := D) (ci := 8) (v := .int 0) (C := RX9) (T := TX9) (N := 17) hx hb hts hiX9_make_X9 hown hK hP 0 rfl rfl 3 (by decide) (hts (.fieldLink RX9 47 "OneHandsetModel" "makeMany" "I") (List.mem_of_getElem? (i := 2) rfl)) (fun _ h9 => h9) rfl dX9_make_209 ?_
  refine lv_imul hx hb dX9_make_212 ?_
  refine lv_topi (fun v_79 ev_79 => ?_)
  obtain rfl : v_79 = (0 : Int32) := ev_79.trans (by decide)
  refine lv_iload hx hb dX9_make_213 (lv_at hl 0 rfl) ?_
  refine lv_iadd hx hb dX9_make_215 ?_
  refine lv_topi (fun v_80 ev_80 => ?_)
  obtain rfl : v_80 = (2 : Int32) := ev_80.trans (by decide)
  refine lv_iconst (v := (-1)) hx hb dX9_make_216 (by decide) ?_
  refine va_iast hx hb hK hP hD hS 2 1 rfl rfl (vin (by decide)) dX9_make_217 (fun H locs hP hD hS => ?_)
  obtain ⟨g_81, hP, hD⟩ : ∃ g9 : Nat → Int32, va_P D vwCl [(h0, .inr (8, [.ref a0, .int 0, .ref a2, .int 0, .ref a4, .ref a5, .ref a6, .ref a7, .ref a8, .ref a9, .int 0, .int 0, .int 0, .int 0, .ref a14, .ref a15, .ref a16])), (a2, .inl (k2, 80, .inl g_68)), (a4, .inl (k4, 128, .inl g9)), (q_17, .inl (cA_18, 10, .inl g_28))] H ∧ va_D A [(h0, .inr (8, [.ref a0, .int 0, .ref a2, .int 0, .ref a4, .ref a5, .ref a6, .ref a7, .ref a8, .ref a9, .int 0, .int 0, .int 0, .int 0, .ref a14, .ref a15, .ref a16])), (a2, .inl (k2, 80, .inl g_68)), (a4, .inl (k4, 128, .inl g9)), (q_17, .inl (cA_18, 10, .inl g_28))] := ⟨_, hP, hD⟩
  refine lv_iinc (v := 3) (lv' := [(9, .int 3), (8, .ref q_17), (0, .ref h0), (1, .int k), (2, .int n), (3, .int a), (4, .int b), (5, .int pp), (6, .int z), (7, .int o)]) hx hb dX9_make_218 hl (k := 0) rfl (by decide) (by decide) rfl (fun ls hl => ?_)
  refine lv_goto (tgt := 195) hx hb dX9_make_221 (by decide) ?_
  refine lv_iload hx hb dX9_make_195 (lv_at hl 0 rfl) ?_
  refine lv_bipush (v := 16) hx hb dX9_make_197 (by decide) ?_
  refine lv_icmp_ge (tgt := 224) hx hb dX9_make_199 (by decide) (fun c_82 => absurd c_82 (by decide)) (fun _ => ?_)
  refine lv_aload_n hx hb dX9_make_202 rfl (lv_at hl 2 rfl) ?_
  refine va_get (D := D) (ci := 8) (v := .ref a4) (C := RX9) (T := TX9) (N := 17) hx hb hts hiX9_make_X9 hown hK hP 0 rfl rfl 4 (by decide) (hts (.fieldLink RX9 16 "OneHandsetModel" "keys" "[I") (List.mem_of_getElem? (i := 5) rfl)) (fun _ h9 => h9) rfl dX9_make_203 ?_
  refine lv_bipush (v := 16) hx hb dX9_make_206 (by decide) ?_
  refine lv_aload_n hx hb dX9_make_208 rfl (lv_at hl 2 rfl) ?_
  refine va_get (D := D) (ci := 8) (v := .int 0) (C := RX9) (T := TX9) (N := 17) hx hb hts hiX9_make_X9 hown hK hP 0 rfl rfl 3 (by decide) (hts (.fieldLink RX9 47 "OneHandsetModel" "makeMany" "I") (List.mem_of_getElem? (i := 2) rfl)) (fun _ h9 => h9) rfl dX9_make_209 ?_
  refine lv_imul hx hb dX9_make_212 ?_
  refine lv_topi (fun v_83 ev_83 => ?_)
  obtain rfl : v_83 = (0 : Int32) := ev_83.trans (by decide)
  refine lv_iload hx hb dX9_make_213 (lv_at hl 0 rfl) ?_
  refine lv_iadd hx hb dX9_make_215 ?_
  refine lv_topi (fun v_84 ev_84 => ?_)
  obtain rfl : v_84 = (3 : Int32) := ev_84.trans (by decide)
  refine lv_iconst (v := (-1)) hx hb dX9_make_216 (by decide) ?_
  refine va_iast hx hb hK hP hD hS 2 1 rfl rfl (vin (by decide)) dX9_make_217 (fun H locs hP hD hS => ?_)
  obtain ⟨g_85, hP, hD⟩ : ∃ g9 : Nat → Int32, va_P D vwCl [(h0, .inr (8, [.ref a0, .int 0, .ref a2, .int 0, .ref a4, .ref a5, .ref a6, .ref a7, .ref a8, .ref a9, .int 0, .int 0, .int 0, .int 0, .ref a14, .ref a15, .ref a16])), (a2, .inl (k2, 80, .inl g_68)), (a4, .inl (k4, 128, .inl g9)), (q_17, .inl (cA_18, 10, .inl g_28))] H ∧ va_D A [(h0, .inr (8, [.ref a0, .int 0, .ref a2, .int 0, .ref a4, .ref a5, .ref a6, .ref a7, .ref a8, .ref a9, .int 0, .int 0, .int 0, .int 0, .ref a14, .ref a15, .ref a16])), (a2, .inl (k2, 80, .inl g_68)), (a4, .inl (k4, 128, .inl g9)), (q_17, .inl (cA_18, 10, .inl g_28))] := ⟨_, hP, hD⟩
  refine lv_iinc (v := 4) (lv' := [(9, .int 4), (8, .ref q_17), (0, .ref h0), (1, .int k), (2, .int n), (3, .int a), (4, .int b), (5, .int pp), (6, .int z), (7, .int o)]) hx hb dX9_make_218 hl (k := 0) rfl (by decide) (by decide) rfl (fun ls hl => ?_)
  refine lv_goto (tgt := 195) hx hb dX9_make_221 (by decide) ?_
  refine lv_iload hx hb dX9_make_195 (lv_at hl 0 rfl) ?_
  refine lv_bipush (v := 16) hx hb dX9_make_197 (by decide) ?_
  refine lv_icmp_ge (tgt := 224) hx hb dX9_make_199 (by decide) (fun c_86 => absurd c_86 (by decide)) (fun _ => ?_)
  refine lv_aload_n hx hb dX9_make_202 rfl (lv_at hl 2 rfl) ?_
  refine va_get (D := D) (ci := 8) (v := .ref a4) (C := RX9) (T := TX9) (N := 17) hx hb hts hiX9_make_X9 hown hK hP 0 rfl rfl 4 (by decide) (hts (.fieldLink RX9 16 "OneHandsetModel" "keys" "[I") (List.mem_of_getElem? (i := 5) rfl)) (fun _ h9 => h9) rfl dX9_make_203 ?_
  refine lv_bipush (v := 16) hx hb dX9_make_206 (by decide) ?_
  refine lv_aload_n hx hb dX9_make_208 rfl (lv_at hl 2 rfl) ?_
  refine va_get (D := D) (ci := 8) (v := .int 0) (C := RX9) (T := TX9) (N := 17) hx hb hts hiX9_make_X9 hown hK hP 0 rfl rfl 3 (by decide) (hts (.fieldLink RX9 47 "OneHandsetModel" "makeMany" "I") (List.mem_of_getElem? (i := 2) rfl)) (fun _ h9 => h9) rfl dX9_make_209 ?_
  refine lv_imul hx hb dX9_make_212 ?_
  refine lv_topi (fun v_87 ev_87 => ?_)
  obtain rfl : v_87 = (0 : Int32) := ev_87.trans (by decide)
  refine lv_iload hx hb dX9_make_213 (lv_at hl 0 rfl) ?_
  refine lv_iadd hx hb dX9_make_215 ?_
  refine lv_topi (fun v_88 ev_88 => ?_)
  obtain rfl : v_88 = (4 : Int32) := ev_88.trans (by decide)
  refine lv_iconst (v := (-1)) hx hb dX9_make_216 (by decide) ?_
  refine va_iast hx hb hK hP hD hS 2 1 rfl rfl (vin (by decide)) dX9_make_217 (fun H locs hP hD hS => ?_)
  obtain ⟨g_89, hP, hD⟩ : ∃ g9 : Nat → Int32, va_P D vwCl [(h0, .inr (8, [.ref a0, .int 0, .ref a2, .int 0, .ref a4, .ref a5, .ref a6, .ref a7, .ref a8, .ref a9, .int 0, .int 0, .int 0, .int 0, .ref a14, .ref a15, .ref a16])), (a2, .inl (k2, 80, .inl g_68)), (a4, .inl (k4, 128, .inl g9)), (q_17, .inl (cA_18, 10, .inl g_28))] H ∧ va_D A [(h0, .inr (8, [.ref a0, .int 0, .ref a2, .int 0, .ref a4, .ref a5, .ref a6, .ref a7, .ref a8, .ref a9, .int 0, .int 0, .int 0, .int 0, .ref a14, .ref a15, .ref a16])), (a2, .inl (k2, 80, .inl g_68)), (a4, .inl (k4, 128, .inl g9)), (q_17, .inl (cA_18, 10, .inl g_28))] := ⟨_, hP, hD⟩
  refine lv_iinc (v := 5) (lv' := [(9, .int 5), (8, .ref q_17), (0, .ref h0), (1, .int k), (2, .int n), (3, .int a), (4, .int b), (5, .int pp), (6, .int z), (7, .int o)]) hx hb dX9_make_218 hl (k := 0) rfl (by decide) (by decide) rfl (fun ls hl => ?_)
  refine lv_goto (tgt := 195) hx hb dX9_make_221 (by decide) ?_
  refine lv_iload hx hb dX9_make_195 (lv_at hl 0 rfl) ?_
  refine lv_bipush (v := 16) hx hb dX9_make_197 (by decide) ?_
  refine lv_icmp_ge (tgt := 224) hx hb dX9_make_199 (by decide) (fun c_90 => absurd c_90 (by decide)) (fun _ => ?_)
  refine lv_aload_n hx hb dX9_make_202 rfl (lv_at hl 2 rfl) ?_
  refine va_get (D := D) (ci := 8) (v := .ref a4) (C := RX9) (T := TX9) (N := 17) hx hb hts hiX9_make_X9 hown hK hP 0 rfl rfl 4 (by decide) (hts (.fieldLink RX9 16 "OneHandsetModel" "keys" "[I") (List.mem_of_getElem? (i := 5) rfl)) (fun _ h9 => h9) rfl dX9_make_203 ?_
  refine lv_bipush (v := 16) hx hb dX9_make_206 (by decide) ?_
  refine lv_aload_n hx hb dX9_make_208 rfl (lv_at hl 2 rfl) ?_
  refine va_get (D := D) (ci := 8) (v := .int 0) (C := RX9) (T := TX9) (N := 17) hx hb hts hiX9_make_X9 hown hK hP 0 rfl rfl 3 (by decide) (hts (.fieldLink RX9 47 "OneHandsetModel" "makeMany" "I") (List.mem_of_getElem? (i := 2) rfl)) (fun _ h9 => h9) rfl dX9_make_209 ?_
  refine lv_imul hx hb dX9_make_212 ?_
  refine lv_topi (fun v_91 ev_91 => ?_)
  obtain rfl : v_91 = (0 : Int32) := ev_91.trans (by decide)
  refine lv_iload hx hb dX9_make_213 (lv_at hl 0 rfl) ?_
  refine lv_iadd hx hb dX9_make_215 ?_
  refine lv_topi (fun v_92 ev_92 => ?_)
  obtain rfl : v_92 = (5 : Int32) := ev_92.trans (by decide)
  refine lv_iconst (v := (-1)) hx hb dX9_make_216 (by decide) ?_
  refine va_iast hx hb hK hP hD hS 2 1 rfl rfl (vin (by decide)) dX9_make_217 (fun H locs hP hD hS => ?_)
  obtain ⟨g_93, hP, hD⟩ : ∃ g9 : Nat → Int32, va_P D vwCl [(h0, .inr (8, [.ref a0, .int 0, .ref a2, .int 0, .ref a4, .ref a5, .ref a6, .ref a7, .ref a8, .ref a9, .int 0, .int 0, .int 0, .int 0, .ref a14, .ref a15, .ref a16])), (a2, .inl (k2, 80, .inl g_68)), (a4, .inl (k4, 128, .inl g9)), (q_17, .inl (cA_18, 10, .inl g_28))] H ∧ va_D A [(h0, .inr (8, [.ref a0, .int 0, .ref a2, .int 0, .ref a4, .ref a5, .ref a6, .ref a7, .ref a8, .ref a9, .int 0, .int 0, .int 0, .int 0, .ref a14, .ref a15, .ref a16])), (a2, .inl (k2, 80, .inl g_68)), (a4, .inl (k4, 128, .inl g9)), (q_17, .inl (cA_18, 10, .inl g_28))] := ⟨_, hP, hD⟩
  refine lv_iinc (v := 6) (lv' := [(9, .int 6), (8, .ref q_17), (0, .ref h0), (1, .int k), (2, .int n), (3, .int a), (4, .int b), (5, .int pp), (6, .int z), (7, .int o)]) hx hb dX9_make_218 hl (k := 0) rfl (by decide) (by decide) rfl (fun ls hl => ?_)
  refine lv_goto (tgt := 195) hx hb dX9_make_221 (by decide) ?_
  refine lv_iload hx hb dX9_make_195 (lv_at hl 0 rfl) ?_
  refine lv_bipush (v := 16) hx hb dX9_make_197 (by decide) ?_
  refine lv_icmp_ge (tgt := 224) hx hb dX9_make_199 (by decide) (fun c_94 => absurd c_94 (by decide)) (fun _ => ?_)
  refine lv_aload_n hx hb dX9_make_202 rfl (lv_at hl 2 rfl) ?_
  refine va_get (D := D) (ci := 8) (v := .ref a4) (C := RX9) (T := TX9) (N := 17) hx hb hts hiX9_make_X9 hown hK hP 0 rfl rfl 4 (by decide) (hts (.fieldLink RX9 16 "OneHandsetModel" "keys" "[I") (List.mem_of_getElem? (i := 5) rfl)) (fun _ h9 => h9) rfl dX9_make_203 ?_
  refine lv_bipush (v := 16) hx hb dX9_make_206 (by decide) ?_
  refine lv_aload_n hx hb dX9_make_208 rfl (lv_at hl 2 rfl) ?_
  refine va_get (D := D) (ci := 8) (v := .int 0) (C := RX9) (T := TX9) (N := 17) hx hb hts hiX9_make_X9 hown hK hP 0 rfl rfl 3 (by decide) (hts (.fieldLink RX9 47 "OneHandsetModel" "makeMany" "I") (List.mem_of_getElem? (i := 2) rfl)) (fun _ h9 => h9) rfl dX9_make_209 ?_
  refine lv_imul hx hb dX9_make_212 ?_
  refine lv_topi (fun v_95 ev_95 => ?_)
  obtain rfl : v_95 = (0 : Int32) := ev_95.trans (by decide)
  refine lv_iload hx hb dX9_make_213 (lv_at hl 0 rfl) ?_
  refine lv_iadd hx hb dX9_make_215 ?_
  refine lv_topi (fun v_96 ev_96 => ?_)
  obtain rfl : v_96 = (6 : Int32) := ev_96.trans (by decide)
  refine lv_iconst (v := (-1)) hx hb dX9_make_216 (by decide) ?_
  refine va_iast hx hb hK hP hD hS 2 1 rfl rfl (vin (by decide)) dX9_make_217 (fun H locs hP hD hS => ?_)
  obtain ⟨g_97, hP, hD⟩ : ∃ g9 : Nat → Int32, va_P D vwCl [(h0, .inr (8, [.ref a0, .int 0, .ref a2, .int 0, .ref a4, .ref a5, .ref a6, .ref a7, .ref a8, .ref a9, .int 0, .int 0, .int 0, .int 0, .ref a14, .ref a15, .ref a16])), (a2, .inl (k2, 80, .inl g_68)), (a4, .inl (k4, 128, .inl g9)), (q_17, .inl (cA_18, 10, .inl g_28))] H ∧ va_D A [(h0, .inr (8, [.ref a0, .int 0, .ref a2, .int 0, .ref a4, .ref a5, .ref a6, .ref a7, .ref a8, .ref a9, .int 0, .int 0, .int 0, .int 0, .ref a14, .ref a15, .ref a16])), (a2, .inl (k2, 80, .inl g_68)), (a4, .inl (k4, 128, .inl g9)), (q_17, .inl (cA_18, 10, .inl g_28))] := ⟨_, hP, hD⟩
  refine lv_iinc (v := 7) (lv' := [(9, .int 7), (8, .ref q_17), (0, .ref h0), (1, .int k), (2, .int n), (3, .int a), (4, .int b), (5, .int pp), (6, .int z), (7, .int o)]) hx hb dX9_make_218 hl (k := 0) rfl (by decide) (by decide) rfl (fun ls hl => ?_)
  refine lv_goto (tgt := 195) hx hb dX9_make_221 (by decide) ?_
  refine lv_iload hx hb dX9_make_195 (lv_at hl 0 rfl) ?_
  refine lv_bipush (v := 16) hx hb dX9_make_197 (by decide) ?_
  refine lv_icmp_ge (tgt := 224) hx hb dX9_make_199 (by decide) (fun c_98 => absurd c_98 (by decide)) (fun _ => ?_)
  refine lv_aload_n hx hb dX9_make_202 rfl (lv_at hl 2 rfl) ?_
  refine va_get (D := D) (ci := 8) (v := .ref a4) (C := RX9) (T := TX9) (N := 17) hx hb hts hiX9_make_X9 hown hK hP 0 rfl rfl 4 (by decide) (hts (.fieldLink RX9 16 "OneHandsetModel" "keys" "[I") (List.mem_of_getElem? (i := 5) rfl)) (fun _ h9 => h9) rfl dX9_make_203 ?_
  refine lv_bipush (v := 16) hx hb dX9_make_206 (by decide) ?_
  refine lv_aload_n hx hb dX9_make_208 rfl (lv_at hl 2 rfl) ?_
  refine va_get (D := D) (ci := 8) (v := .int 0) (C := RX9) (T := TX9) (N := 17) hx hb hts hiX9_make_X9 hown hK hP 0 rfl rfl 3 (by decide) (hts (.fieldLink RX9 47 "OneHandsetModel" "makeMany" "I") (List.mem_of_getElem? (i := 2) rfl)) (fun _ h9 => h9) rfl dX9_make_209 ?_
  refine lv_imul hx hb dX9_make_212 ?_
  refine lv_topi (fun v_99 ev_99 => ?_)
  obtain rfl : v_99 = (0 : Int32) := ev_99.trans (by decide)
  refine lv_iload hx hb dX9_make_213 (lv_at hl 0 rfl) ?_
  refine lv_iadd hx hb dX9_make_215 ?_
  refine lv_topi (fun v_100 ev_100 => ?_)
  obtain rfl : v_100 = (7 : Int32) := ev_100.trans (by decide)
  refine lv_iconst (v := (-1)) hx hb dX9_make_216 (by decide) ?_
  refine va_iast hx hb hK hP hD hS 2 1 rfl rfl (vin (by decide)) dX9_make_217 (fun H locs hP hD hS => ?_)
  obtain ⟨g_101, hP, hD⟩ : ∃ g9 : Nat → Int32, va_P D vwCl [(h0, .inr (8, [.ref a0, .int 0, .ref a2, .int 0, .ref a4, .ref a5, .ref a6, .ref a7, .ref a8, .ref a9, .int 0, .int 0, .int 0, .int 0, .ref a14, .ref a15, .ref a16])), (a2, .inl (k2, 80, .inl g_68)), (a4, .inl (k4, 128, .inl g9)), (q_17, .inl (cA_18, 10, .inl g_28))] H ∧ va_D A [(h0, .inr (8, [.ref a0, .int 0, .ref a2, .int 0, .ref a4, .ref a5, .ref a6, .ref a7, .ref a8, .ref a9, .int 0, .int 0, .int 0, .int 0, .ref a14, .ref a15, .ref a16])), (a2, .inl (k2, 80, .inl g_68)), (a4, .inl (k4, 128, .inl g9)), (q_17, .inl (cA_18, 10, .inl g_28))] := ⟨_, hP, hD⟩
  refine lv_iinc (v := 8) (lv' := [(9, .int 8), (8, .ref q_17), (0, .ref h0), (1, .int k), (2, .int n), (3, .int a), (4, .int b), (5, .int pp), (6, .int z), (7, .int o)]) hx hb dX9_make_218 hl (k := 0) rfl (by decide) (by decide) rfl (fun ls hl => ?_)
  refine lv_goto (tgt := 195) hx hb dX9_make_221 (by decide) ?_
  refine lv_iload hx hb dX9_make_195 (lv_at hl 0 rfl) ?_
  refine lv_bipush (v := 16) hx hb dX9_make_197 (by decide) ?_
  refine lv_icmp_ge (tgt := 224) hx hb dX9_make_199 (by decide) (fun c_102 => absurd c_102 (by decide)) (fun _ => ?_)
  refine lv_aload_n hx hb dX9_make_202 rfl (lv_at hl 2 rfl) ?_
  refine va_get (D := D) (ci := 8) (v := .ref a4) (C := RX9) (T := TX9) (N := 17) hx hb hts hiX9_make_X9 hown hK hP 0 rfl rfl 4 (by decide) (hts (.fieldLink RX9 16 "OneHandsetModel" "keys" "[I") (List.mem_of_getElem? (i := 5) rfl)) (fun _ h9 => h9) rfl dX9_make_203 ?_
  refine lv_bipush (v := 16) hx hb dX9_make_206 (by decide) ?_
  refine lv_aload_n hx hb dX9_make_208 rfl (lv_at hl 2 rfl) ?_
  refine va_get (D := D) (ci := 8) (v := .int 0) (C := RX9) (T := TX9) (N := 17) hx hb hts hiX9_make_X9 hown hK hP 0 rfl rfl 3 (by decide) (hts (.fieldLink RX9 47 "OneHandsetModel" "makeMany" "I") (List.mem_of_getElem? (i := 2) rfl)) (fun _ h9 => h9) rfl dX9_make_209 ?_
  refine lv_imul hx hb dX9_make_212 ?_
  refine lv_topi (fun v_103 ev_103 => ?_)
  obtain rfl : v_103 = (0 : Int32) := ev_103.trans (by decide)
  refine lv_iload hx hb dX9_make_213 (lv_at hl 0 rfl) ?_
  refine lv_iadd hx hb dX9_make_215 ?_
  refine lv_topi (fun v_104 ev_104 => ?_)
  obtain rfl : v_104 = (8 : Int32) := ev_104.trans (by decide)
  refine lv_iconst (v := (-1)) hx hb dX9_make_216 (by decide) ?_
  refine va_iast hx hb hK hP hD hS 2 1 rfl rfl (vin (by decide)) dX9_make_217 (fun H locs hP hD hS => ?_)
  obtain ⟨g_105, hP, hD⟩ : ∃ g9 : Nat → Int32, va_P D vwCl [(h0, .inr (8, [.ref a0, .int 0, .ref a2, .int 0, .ref a4, .ref a5, .ref a6, .ref a7, .ref a8, .ref a9, .int 0, .int 0, .int 0, .int 0, .ref a14, .ref a15, .ref a16])), (a2, .inl (k2, 80, .inl g_68)), (a4, .inl (k4, 128, .inl g9)), (q_17, .inl (cA_18, 10, .inl g_28))] H ∧ va_D A [(h0, .inr (8, [.ref a0, .int 0, .ref a2, .int 0, .ref a4, .ref a5, .ref a6, .ref a7, .ref a8, .ref a9, .int 0, .int 0, .int 0, .int 0, .ref a14, .ref a15, .ref a16])), (a2, .inl (k2, 80, .inl g_68)), (a4, .inl (k4, 128, .inl g9)), (q_17, .inl (cA_18, 10, .inl g_28))] := ⟨_, hP, hD⟩
  refine lv_iinc (v := 9) (lv' := [(9, .int 9), (8, .ref q_17), (0, .ref h0), (1, .int k), (2, .int n), (3, .int a), (4, .int b), (5, .int pp), (6, .int z), (7, .int o)]) hx hb dX9_make_218 hl (k := 0) rfl (by decide) (by decide) rfl (fun ls hl => ?_)
  refine lv_goto (tgt := 195) hx hb dX9_make_221 (by decide) ?_
  refine lv_iload hx hb dX9_make_195 (lv_at hl 0 rfl) ?_
  refine lv_bipush (v := 16) hx hb dX9_make_197 (by decide) ?_
  refine lv_icmp_ge (tgt := 224) hx hb dX9_make_199 (by decide) (fun c_106 => absurd c_106 (by decide)) (fun _ => ?_)
  refine lv_aload_n hx hb dX9_make_202 rfl (lv_at hl 2 rfl) ?_
  refine va_get (D := D) (ci := 8) (v := .ref a4) (C := RX9) (T := TX9) (N := 17) hx hb hts hiX9_make_X9 hown hK hP 0 rfl rfl 4 (by decide) (hts (.fieldLink RX9 16 "OneHandsetModel" "keys" "[I") (List.mem_of_getElem? (i := 5) rfl)) (fun _ h9 => h9) rfl dX9_make_203 ?_
  refine lv_bipush (v := 16) hx hb dX9_make_206 (by decide) ?_
  refine lv_aload_n hx hb dX9_make_208 rfl (lv_at hl 2 rfl) ?_
  refine va_get (D := D) (ci := 8) (v := .int 0) (C := RX9) (T := TX9) (N := 17) hx hb hts hiX9_make_X9 hown hK hP 0 rfl rfl 3 (by decide) (hts (.fieldLink RX9 47 "OneHandsetModel" "makeMany" "I") (List.mem_of_getElem? (i := 2) rfl)) (fun _ h9 => h9) rfl dX9_make_209 ?_
  refine lv_imul hx hb dX9_make_212 ?_
  refine lv_topi (fun v_107 ev_107 => ?_)
  obtain rfl : v_107 = (0 : Int32) := ev_107.trans (by decide)
  refine lv_iload hx hb dX9_make_213 (lv_at hl 0 rfl) ?_
  refine lv_iadd hx hb dX9_make_215 ?_
  refine lv_topi (fun v_108 ev_108 => ?_)
  obtain rfl : v_108 = (9 : Int32) := ev_108.trans (by decide)
  refine lv_iconst (v := (-1)) hx hb dX9_make_216 (by decide) ?_
  refine va_iast hx hb hK hP hD hS 2 1 rfl rfl (vin (by decide)) dX9_make_217 (fun H locs hP hD hS => ?_)
  obtain ⟨g_109, hP, hD⟩ : ∃ g9 : Nat → Int32, va_P D vwCl [(h0, .inr (8, [.ref a0, .int 0, .ref a2, .int 0, .ref a4, .ref a5, .ref a6, .ref a7, .ref a8, .ref a9, .int 0, .int 0, .int 0, .int 0, .ref a14, .ref a15, .ref a16])), (a2, .inl (k2, 80, .inl g_68)), (a4, .inl (k4, 128, .inl g9)), (q_17, .inl (cA_18, 10, .inl g_28))] H ∧ va_D A [(h0, .inr (8, [.ref a0, .int 0, .ref a2, .int 0, .ref a4, .ref a5, .ref a6, .ref a7, .ref a8, .ref a9, .int 0, .int 0, .int 0, .int 0, .ref a14, .ref a15, .ref a16])), (a2, .inl (k2, 80, .inl g_68)), (a4, .inl (k4, 128, .inl g9)), (q_17, .inl (cA_18, 10, .inl g_28))] := ⟨_, hP, hD⟩
  refine lv_iinc (v := 10) (lv' := [(9, .int 10), (8, .ref q_17), (0, .ref h0), (1, .int k), (2, .int n), (3, .int a), (4, .int b), (5, .int pp), (6, .int z), (7, .int o)]) hx hb dX9_make_218 hl (k := 0) rfl (by decide) (by decide) rfl (fun ls hl => ?_)
  refine lv_goto (tgt := 195) hx hb dX9_make_221 (by decide) ?_
  refine lv_iload hx hb dX9_make_195 (lv_at hl 0 rfl) ?_
  refine lv_bipush (v := 16) hx hb dX9_make_197 (by decide) ?_
  refine lv_icmp_ge (tgt := 224) hx hb dX9_make_199 (by decide) (fun c_110 => absurd c_110 (by decide)) (fun _ => ?_)
  refine lv_aload_n hx hb dX9_make_202 rfl (lv_at hl 2 rfl) ?_
  refine va_get (D := D) (ci := 8) (v := .ref a4) (C := RX9) (T := TX9) (N := 17) hx hb hts hiX9_make_X9 hown hK hP 0 rfl rfl 4 (by decide) (hts (.fieldLink RX9 16 "OneHandsetModel" "keys" "[I") (List.mem_of_getElem? (i := 5) rfl)) (fun _ h9 => h9) rfl dX9_make_203 ?_
  refine lv_bipush (v := 16) hx hb dX9_make_206 (by decide) ?_
  refine lv_aload_n hx hb dX9_make_208 rfl (lv_at hl 2 rfl) ?_
  refine va_get (D := D) (ci := 8) (v := .int 0) (C := RX9) (T := TX9) (N := 17) hx hb hts hiX9_make_X9 hown hK hP 0 rfl rfl 3 (by decide) (hts (.fieldLink RX9 47 "OneHandsetModel" "makeMany" "I") (List.mem_of_getElem? (i := 2) rfl)) (fun _ h9 => h9) rfl dX9_make_209 ?_
  refine lv_imul hx hb dX9_make_212 ?_
  refine lv_topi (fun v_111 ev_111 => ?_)
  obtain rfl : v_111 = (0 : Int32) := ev_111.trans (by decide)
  refine lv_iload hx hb dX9_make_213 (lv_at hl 0 rfl) ?_
  refine lv_iadd hx hb dX9_make_215 ?_
  refine lv_topi (fun v_112 ev_112 => ?_)
  obtain rfl : v_112 = (10 : Int32) := ev_112.trans (by decide)
  refine lv_iconst (v := (-1)) hx hb dX9_make_216 (by decide) ?_
  refine va_iast hx hb hK hP hD hS 2 1 rfl rfl (vin (by decide)) dX9_make_217 (fun H locs hP hD hS => ?_)
  obtain ⟨g_113, hP, hD⟩ : ∃ g9 : Nat → Int32, va_P D vwCl [(h0, .inr (8, [.ref a0, .int 0, .ref a2, .int 0, .ref a4, .ref a5, .ref a6, .ref a7, .ref a8, .ref a9, .int 0, .int 0, .int 0, .int 0, .ref a14, .ref a15, .ref a16])), (a2, .inl (k2, 80, .inl g_68)), (a4, .inl (k4, 128, .inl g9)), (q_17, .inl (cA_18, 10, .inl g_28))] H ∧ va_D A [(h0, .inr (8, [.ref a0, .int 0, .ref a2, .int 0, .ref a4, .ref a5, .ref a6, .ref a7, .ref a8, .ref a9, .int 0, .int 0, .int 0, .int 0, .ref a14, .ref a15, .ref a16])), (a2, .inl (k2, 80, .inl g_68)), (a4, .inl (k4, 128, .inl g9)), (q_17, .inl (cA_18, 10, .inl g_28))] := ⟨_, hP, hD⟩
  refine lv_iinc (v := 11) (lv' := [(9, .int 11), (8, .ref q_17), (0, .ref h0), (1, .int k), (2, .int n), (3, .int a), (4, .int b), (5, .int pp), (6, .int z), (7, .int o)]) hx hb dX9_make_218 hl (k := 0) rfl (by decide) (by decide) rfl (fun ls hl => ?_)
  refine lv_goto (tgt := 195) hx hb dX9_make_221 (by decide) ?_
  refine lv_iload hx hb dX9_make_195 (lv_at hl 0 rfl) ?_
  refine lv_bipush (v := 16) hx hb dX9_make_197 (by decide) ?_
  refine lv_icmp_ge (tgt := 224) hx hb dX9_make_199 (by decide) (fun c_114 => absurd c_114 (by decide)) (fun _ => ?_)
  refine lv_aload_n hx hb dX9_make_202 rfl (lv_at hl 2 rfl) ?_
  refine va_get (D := D) (ci := 8) (v := .ref a4) (C := RX9) (T := TX9) (N := 17) hx hb hts hiX9_make_X9 hown hK hP 0 rfl rfl 4 (by decide) (hts (.fieldLink RX9 16 "OneHandsetModel" "keys" "[I") (List.mem_of_getElem? (i := 5) rfl)) (fun _ h9 => h9) rfl dX9_make_203 ?_
  refine lv_bipush (v := 16) hx hb dX9_make_206 (by decide) ?_
  refine lv_aload_n hx hb dX9_make_208 rfl (lv_at hl 2 rfl) ?_
  refine va_get (D := D) (ci := 8) (v := .int 0) (C := RX9) (T := TX9) (N := 17) hx hb hts hiX9_make_X9 hown hK hP 0 rfl rfl 3 (by decide) (hts (.fieldLink RX9 47 "OneHandsetModel" "makeMany" "I") (List.mem_of_getElem? (i := 2) rfl)) (fun _ h9 => h9) rfl dX9_make_209 ?_
  refine lv_imul hx hb dX9_make_212 ?_
  refine lv_topi (fun v_115 ev_115 => ?_)
  obtain rfl : v_115 = (0 : Int32) := ev_115.trans (by decide)
  refine lv_iload hx hb dX9_make_213 (lv_at hl 0 rfl) ?_
  refine lv_iadd hx hb dX9_make_215 ?_
  refine lv_topi (fun v_116 ev_116 => ?_)
  obtain rfl : v_116 = (11 : Int32) := ev_116.trans (by decide)
  refine lv_iconst (v := (-1)) hx hb dX9_make_216 (by decide) ?_
  refine va_iast hx hb hK hP hD hS 2 1 rfl rfl (vin (by decide)) dX9_make_217 (fun H locs hP hD hS => ?_)
  obtain ⟨g_117, hP, hD⟩ : ∃ g9 : Nat → Int32, va_P D vwCl [(h0, .inr (8, [.ref a0, .int 0, .ref a2, .int 0, .ref a4, .ref a5, .ref a6, .ref a7, .ref a8, .ref a9, .int 0, .int 0, .int 0, .int 0, .ref a14, .ref a15, .ref a16])), (a2, .inl (k2, 80, .inl g_68)), (a4, .inl (k4, 128, .inl g9)), (q_17, .inl (cA_18, 10, .inl g_28))] H ∧ va_D A [(h0, .inr (8, [.ref a0, .int 0, .ref a2, .int 0, .ref a4, .ref a5, .ref a6, .ref a7, .ref a8, .ref a9, .int 0, .int 0, .int 0, .int 0, .ref a14, .ref a15, .ref a16])), (a2, .inl (k2, 80, .inl g_68)), (a4, .inl (k4, 128, .inl g9)), (q_17, .inl (cA_18, 10, .inl g_28))] := ⟨_, hP, hD⟩
  refine lv_iinc (v := 12) (lv' := [(9, .int 12), (8, .ref q_17), (0, .ref h0), (1, .int k), (2, .int n), (3, .int a), (4, .int b), (5, .int pp), (6, .int z), (7, .int o)]) hx hb dX9_make_218 hl (k := 0) rfl (by decide) (by decide) rfl (fun ls hl => ?_)
  refine lv_goto (tgt := 195) hx hb dX9_make_221 (by decide) ?_
  refine lv_iload hx hb dX9_make_195 (lv_at hl 0 rfl) ?_
  refine lv_bipush (v := 16) hx hb dX9_make_197 (by decide) ?_
  refine lv_icmp_ge (tgt := 224) hx hb dX9_make_199 (by decide) (fun c_118 => absurd c_118 (by decide)) (fun _ => ?_)
  refine lv_aload_n hx hb dX9_make_202 rfl (lv_at hl 2 rfl) ?_
  refine va_get (D := D) (ci := 8) (v := .ref a4) (C := RX9) (T := TX9) (N := 17) hx hb hts hiX9_make_X9 hown hK hP 0 rfl rfl 4 (by decide) (hts (.fieldLink RX9 16 "OneHandsetModel" "keys" "[I") (List.mem_of_getElem? (i := 5) rfl)) (fun _ h9 => h9) rfl dX9_make_203 ?_
  refine lv_bipush (v := 16) hx hb dX9_make_206 (by decide) ?_
  refine lv_aload_n hx hb dX9_make_208 rfl (lv_at hl 2 rfl) ?_
  refine va_get (D := D) (ci := 8) (v := .int 0) (C := RX9) (T := TX9) (N := 17) hx hb hts hiX9_make_X9 hown hK hP 0 rfl rfl 3 (by decide) (hts (.fieldLink RX9 47 "OneHandsetModel" "makeMany" "I") (List.mem_of_getElem? (i := 2) rfl)) (fun _ h9 => h9) rfl dX9_make_209 ?_
  refine lv_imul hx hb dX9_make_212 ?_
  refine lv_topi (fun v_119 ev_119 => ?_)
  obtain rfl : v_119 = (0 : Int32) := ev_119.trans (by decide)
  refine lv_iload hx hb dX9_make_213 (lv_at hl 0 rfl) ?_
  refine lv_iadd hx hb dX9_make_215 ?_
  refine lv_topi (fun v_120 ev_120 => ?_)
  obtain rfl : v_120 = (12 : Int32) := ev_120.trans (by decide)
  refine lv_iconst (v := (-1)) hx hb dX9_make_216 (by decide) ?_
  refine va_iast hx hb hK hP hD hS 2 1 rfl rfl (vin (by decide)) dX9_make_217 (fun H locs hP hD hS => ?_)
  obtain ⟨g_121, hP, hD⟩ : ∃ g9 : Nat → Int32, va_P D vwCl [(h0, .inr (8, [.ref a0, .int 0, .ref a2, .int 0, .ref a4, .ref a5, .ref a6, .ref a7, .ref a8, .ref a9, .int 0, .int 0, .int 0, .int 0, .ref a14, .ref a15, .ref a16])), (a2, .inl (k2, 80, .inl g_68)), (a4, .inl (k4, 128, .inl g9)), (q_17, .inl (cA_18, 10, .inl g_28))] H ∧ va_D A [(h0, .inr (8, [.ref a0, .int 0, .ref a2, .int 0, .ref a4, .ref a5, .ref a6, .ref a7, .ref a8, .ref a9, .int 0, .int 0, .int 0, .int 0, .ref a14, .ref a15, .ref a16])), (a2, .inl (k2, 80, .inl g_68)), (a4, .inl (k4, 128, .inl g9)), (q_17, .inl (cA_18, 10, .inl g_28))] := ⟨_, hP, hD⟩
  refine lv_iinc (v := 13) (lv' := [(9, .int 13), (8, .ref q_17), (0, .ref h0), (1, .int k), (2, .int n), (3, .int a), (4, .int b), (5, .int pp), (6, .int z), (7, .int o)]) hx hb dX9_make_218 hl (k := 0) rfl (by decide) (by decide) rfl (fun ls hl => ?_)
  refine lv_goto (tgt := 195) hx hb dX9_make_221 (by decide) ?_
  refine lv_iload hx hb dX9_make_195 (lv_at hl 0 rfl) ?_
  refine lv_bipush (v := 16) hx hb dX9_make_197 (by decide) ?_
  refine lv_icmp_ge (tgt := 224) hx hb dX9_make_199 (by decide) (fun c_122 => absurd c_122 (by decide)) (fun _ => ?_)
  refine lv_aload_n hx hb dX9_make_202 rfl (lv_at hl 2 rfl) ?_
  refine va_get (D := D) (ci := 8) (v := .ref a4) (C := RX9) (T := TX9) (N := 17) hx hb hts hiX9_make_X9 hown hK hP 0 rfl rfl 4 (by decide) (hts (.fieldLink RX9 16 "OneHandsetModel" "keys" "[I") (List.mem_of_getElem? (i := 5) rfl)) (fun _ h9 => h9) rfl dX9_make_203 ?_
  refine lv_bipush (v := 16) hx hb dX9_make_206 (by decide) ?_
  refine lv_aload_n hx hb dX9_make_208 rfl (lv_at hl 2 rfl) ?_
  refine va_get (D := D) (ci := 8) (v := .int 0) (C := RX9) (T := TX9) (N := 17) hx hb hts hiX9_make_X9 hown hK hP 0 rfl rfl 3 (by decide) (hts (.fieldLink RX9 47 "OneHandsetModel" "makeMany" "I") (List.mem_of_getElem? (i := 2) rfl)) (fun _ h9 => h9) rfl dX9_make_209 ?_
  refine lv_imul hx hb dX9_make_212 ?_
  refine lv_topi (fun v_123 ev_123 => ?_)
  obtain rfl : v_123 = (0 : Int32) := ev_123.trans (by decide)
  refine lv_iload hx hb dX9_make_213 (lv_at hl 0 rfl) ?_
  refine lv_iadd hx hb dX9_make_215 ?_
  refine lv_topi (fun v_124 ev_124 => ?_)
  obtain rfl : v_124 = (13 : Int32) := ev_124.trans (by decide)
  refine lv_iconst (v := (-1)) hx hb dX9_make_216 (by decide) ?_
  refine va_iast hx hb hK hP hD hS 2 1 rfl rfl (vin (by decide)) dX9_make_217 (fun H locs hP hD hS => ?_)
  obtain ⟨g_125, hP, hD⟩ : ∃ g9 : Nat → Int32, va_P D vwCl [(h0, .inr (8, [.ref a0, .int 0, .ref a2, .int 0, .ref a4, .ref a5, .ref a6, .ref a7, .ref a8, .ref a9, .int 0, .int 0, .int 0, .int 0, .ref a14, .ref a15, .ref a16])), (a2, .inl (k2, 80, .inl g_68)), (a4, .inl (k4, 128, .inl g9)), (q_17, .inl (cA_18, 10, .inl g_28))] H ∧ va_D A [(h0, .inr (8, [.ref a0, .int 0, .ref a2, .int 0, .ref a4, .ref a5, .ref a6, .ref a7, .ref a8, .ref a9, .int 0, .int 0, .int 0, .int 0, .ref a14, .ref a15, .ref a16])), (a2, .inl (k2, 80, .inl g_68)), (a4, .inl (k4, 128, .inl g9)), (q_17, .inl (cA_18, 10, .inl g_28))] := ⟨_, hP, hD⟩
  refine lv_iinc (v := 14) (lv' := [(9, .int 14), (8, .ref q_17), (0, .ref h0), (1, .int k), (2, .int n), (3, .int a), (4, .int b), (5, .int pp), (6, .int z), (7, .int o)]) hx hb dX9_make_218 hl (k := 0) rfl (by decide) (by decide) rfl (fun ls hl => ?_)
  refine lv_goto (tgt := 195) hx hb dX9_make_221 (by decide) ?_
  refine lv_iload hx hb dX9_make_195 (lv_at hl 0 rfl) ?_
  refine lv_bipush (v := 16) hx hb dX9_make_197 (by decide) ?_
  refine lv_icmp_ge (tgt := 224) hx hb dX9_make_199 (by decide) (fun c_126 => absurd c_126 (by decide)) (fun _ => ?_)
  refine lv_aload_n hx hb dX9_make_202 rfl (lv_at hl 2 rfl) ?_
  refine va_get (D := D) (ci := 8) (v := .ref a4) (C := RX9) (T := TX9) (N := 17) hx hb hts hiX9_make_X9 hown hK hP 0 rfl rfl 4 (by decide) (hts (.fieldLink RX9 16 "OneHandsetModel" "keys" "[I") (List.mem_of_getElem? (i := 5) rfl)) (fun _ h9 => h9) rfl dX9_make_203 ?_
  refine lv_bipush (v := 16) hx hb dX9_make_206 (by decide) ?_
  refine lv_aload_n hx hb dX9_make_208 rfl (lv_at hl 2 rfl) ?_
  refine va_get (D := D) (ci := 8) (v := .int 0) (C := RX9) (T := TX9) (N := 17) hx hb hts hiX9_make_X9 hown hK hP 0 rfl rfl 3 (by decide) (hts (.fieldLink RX9 47 "OneHandsetModel" "makeMany" "I") (List.mem_of_getElem? (i := 2) rfl)) (fun _ h9 => h9) rfl dX9_make_209 ?_
  refine lv_imul hx hb dX9_make_212 ?_
  refine lv_topi (fun v_127 ev_127 => ?_)
  obtain rfl : v_127 = (0 : Int32) := ev_127.trans (by decide)
  refine lv_iload hx hb dX9_make_213 (lv_at hl 0 rfl) ?_
  refine lv_iadd hx hb dX9_make_215 ?_
  refine lv_topi (fun v_128 ev_128 => ?_)
  obtain rfl : v_128 = (14 : Int32) := ev_128.trans (by decide)
  refine lv_iconst (v := (-1)) hx hb dX9_make_216 (by decide) ?_
  refine va_iast hx hb hK hP hD hS 2 1 rfl rfl (vin (by decide)) dX9_make_217 (fun H locs hP hD hS => ?_)
  obtain ⟨g_129, hP, hD⟩ : ∃ g9 : Nat → Int32, va_P D vwCl [(h0, .inr (8, [.ref a0, .int 0, .ref a2, .int 0, .ref a4, .ref a5, .ref a6, .ref a7, .ref a8, .ref a9, .int 0, .int 0, .int 0, .int 0, .ref a14, .ref a15, .ref a16])), (a2, .inl (k2, 80, .inl g_68)), (a4, .inl (k4, 128, .inl g9)), (q_17, .inl (cA_18, 10, .inl g_28))] H ∧ va_D A [(h0, .inr (8, [.ref a0, .int 0, .ref a2, .int 0, .ref a4, .ref a5, .ref a6, .ref a7, .ref a8, .ref a9, .int 0, .int 0, .int 0, .int 0, .ref a14, .ref a15, .ref a16])), (a2, .inl (k2, 80, .inl g_68)), (a4, .inl (k4, 128, .inl g9)), (q_17, .inl (cA_18, 10, .inl g_28))] := ⟨_, hP, hD⟩
  refine lv_iinc (v := 15) (lv' := [(9, .int 15), (8, .ref q_17), (0, .ref h0), (1, .int k), (2, .int n), (3, .int a), (4, .int b), (5, .int pp), (6, .int z), (7, .int o)]) hx hb dX9_make_218 hl (k := 0) rfl (by decide) (by decide) rfl (fun ls hl => ?_)
  refine lv_goto (tgt := 195) hx hb dX9_make_221 (by decide) ?_
  refine lv_iload hx hb dX9_make_195 (lv_at hl 0 rfl) ?_
  refine lv_bipush (v := 16) hx hb dX9_make_197 (by decide) ?_
  refine lv_icmp_ge (tgt := 224) hx hb dX9_make_199 (by decide) (fun c_130 => absurd c_130 (by decide)) (fun _ => ?_)
  refine lv_aload_n hx hb dX9_make_202 rfl (lv_at hl 2 rfl) ?_
  refine va_get (D := D) (ci := 8) (v := .ref a4) (C := RX9) (T := TX9) (N := 17) hx hb hts hiX9_make_X9 hown hK hP 0 rfl rfl 4 (by decide) (hts (.fieldLink RX9 16 "OneHandsetModel" "keys" "[I") (List.mem_of_getElem? (i := 5) rfl)) (fun _ h9 => h9) rfl dX9_make_203 ?_
  refine lv_bipush (v := 16) hx hb dX9_make_206 (by decide) ?_
  refine lv_aload_n hx hb dX9_make_208 rfl (lv_at hl 2 rfl) ?_
  refine va_get (D := D) (ci := 8) (v := .int 0) (C := RX9) (T := TX9) (N := 17) hx hb hts hiX9_make_X9 hown hK hP 0 rfl rfl 3 (by decide) (hts (.fieldLink RX9 47 "OneHandsetModel" "makeMany" "I") (List.mem_of_getElem? (i := 2) rfl)) (fun _ h9 => h9) rfl dX9_make_209 ?_
  refine lv_imul hx hb dX9_make_212 ?_
  refine lv_topi (fun v_131 ev_131 => ?_)
  obtain rfl : v_131 = (0 : Int32) := ev_131.trans (by decide)
  refine lv_iload hx hb dX9_make_213 (lv_at hl 0 rfl) ?_
  refine lv_iadd hx hb dX9_make_215 ?_
  refine lv_topi (fun v_132 ev_132 => ?_)
  obtain rfl : v_132 = (15 : Int32) := ev_132.trans (by decide)
  refine lv_iconst (v := (-1)) hx hb dX9_make_216 (by decide) ?_
  refine va_iast hx hb hK hP hD hS 2 1 rfl rfl (vin (by decide)) dX9_make_217 (fun H locs hP hD hS => ?_)
  obtain ⟨g_133, hP, hD⟩ : ∃ g9 : Nat → Int32, va_P D vwCl [(h0, .inr (8, [.ref a0, .int 0, .ref a2, .int 0, .ref a4, .ref a5, .ref a6, .ref a7, .ref a8, .ref a9, .int 0, .int 0, .int 0, .int 0, .ref a14, .ref a15, .ref a16])), (a2, .inl (k2, 80, .inl g_68)), (a4, .inl (k4, 128, .inl g9)), (q_17, .inl (cA_18, 10, .inl g_28))] H ∧ va_D A [(h0, .inr (8, [.ref a0, .int 0, .ref a2, .int 0, .ref a4, .ref a5, .ref a6, .ref a7, .ref a8, .ref a9, .int 0, .int 0, .int 0, .int 0, .ref a14, .ref a15, .ref a16])), (a2, .inl (k2, 80, .inl g_68)), (a4, .inl (k4, 128, .inl g9)), (q_17, .inl (cA_18, 10, .inl g_28))] := ⟨_, hP, hD⟩
  refine lv_iinc (v := 16) (lv' := [(9, .int 16), (8, .ref q_17), (0, .ref h0), (1, .int k), (2, .int n), (3, .int a), (4, .int b), (5, .int pp), (6, .int z), (7, .int o)]) hx hb dX9_make_218 hl (k := 0) rfl (by decide) (by decide) rfl (fun ls hl => ?_)
  refine lv_goto (tgt := 195) hx hb dX9_make_221 (by decide) ?_
  refine lv_iload hx hb dX9_make_195 (lv_at hl 0 rfl) ?_
  refine lv_bipush (v := 16) hx hb dX9_make_197 (by decide) ?_
  refine lv_icmp_ge (tgt := 224) hx hb dX9_make_199 (by decide) (fun _ => ?_) (fun c_134 => absurd (by decide) c_134)
  refine lv_aload_n hx hb dX9_make_224 rfl (lv_at hl 2 rfl) ?_
  refine lv_dup hx hb dX9_make_225 rfl ?_
  refine va_get (D := D) (ci := 8) (v := .int 0) (C := RX9) (T := TX9) (N := 17) hx hb hts hiX9_make_X9 hown hK hP 0 rfl rfl 3 (by decide) (hts (.fieldLink RX9 47 "OneHandsetModel" "makeMany" "I") (List.mem_of_getElem? (i := 2) rfl)) (fun _ h9 => h9) rfl dX9_make_226 ?_
  refine lv_iconst (v := 1) hx hb dX9_make_229 (by decide) ?_
  refine lv_iadd hx hb dX9_make_230 ?_
  refine lv_topi (fun v_135 ev_135 => ?_)
  obtain rfl : v_135 = (1 : Int32) := ev_135.trans (by decide)
  refine va_put (D := D) (ci := 8) (v := .int 1) (ty := .int) (C := RX9) (T := TX9) (N := 17) hx hb hts hiX9_make_X9 tyX9 tyX9_ok nmX9 hown hK hP hD hS 0 rfl rfl 3 (by decide) (hts (.fieldLink RX9 47 "OneHandsetModel" "makeMany" "I") (List.mem_of_getElem? (i := 2) rfl)) (fun _ h9 => h9) rfl (by decide +kernel) rfl rfl (Nat.le_of_ble_eq_true rfl) dX9_make_231 (fun H locs hP hD hS => ?_)
  have hP : va_P D vwCl [(h0, .inr (8, [.ref a0, .int 0, .ref a2, .int 1, .ref a4, .ref a5, .ref a6, .ref a7, .ref a8, .ref a9, .int 0, .int 0, .int 0, .int 0, .ref a14, .ref a15, .ref a16])), (a2, .inl (k2, 80, .inl g_68)), (a4, .inl (k4, 128, .inl g_133)), (q_17, .inl (cA_18, 10, .inl g_28))] H := hP
  have hD : va_D A [(h0, .inr (8, [.ref a0, .int 0, .ref a2, .int 1, .ref a4, .ref a5, .ref a6, .ref a7, .ref a8, .ref a9, .int 0, .int 0, .int 0, .int 0, .ref a14, .ref a15, .ref a16])), (a2, .inl (k2, 80, .inl g_68)), (a4, .inl (k4, 128, .inl g_133)), (q_17, .inl (cA_18, 10, .inl g_28))] := hD
  refine lv_aload_n hx hb dX9_make_234 rfl (lv_at hl 2 rfl) ?_
  refine va_get (D := D) (ci := 8) (v := .int 1) (C := RX9) (T := TX9) (N := 17) hx hb hts hiX9_make_X9 hown hK hP 0 rfl rfl 3 (by decide) (hts (.fieldLink RX9 47 "OneHandsetModel" "makeMany" "I") (List.mem_of_getElem? (i := 2) rfl)) (fun _ h9 => h9) rfl dX9_make_235 ?_
  refine lv_iconst (v := 1) hx hb dX9_make_238 (by decide) ?_
  refine lv_isub hx hb dX9_make_239 ?_
  refine lv_topi (fun v_136 ev_136 => ?_)
  obtain rfl : v_136 = (0 : Int32) := ev_136.trans (by decide)
  exact ret_i hx hb hr hlocks rfl (u := ()) (by simp [mkS, c_2, c_4, c_6, c_8, c_10, c_12, c_14, c_15]) (hP.sub [] rfl) (hK.sub [] rfl) (hD.sub [] (by decide) rfl) hS (Nat.le_of_ble_eq_true rfl) (Nat.le_of_ble_eq_true rfl) dX9_make_240
