theorem hig_append_X7 : ∀ w ∈ wsX70, w ∈ wsX7_append := mem_pl [3, 4] rfl
set_option maxHeartbeats 4000000 in
set_option maxRecDepth 100000 in
theorem g_append (l : Launch) (D : va_G) (sz : Nat) (h0 : Nat) (ta : Nat) (cI : ClassId) (tk : Int32) (tf : Nat → Int32) (t : Int32) (hk : bi tk 0 120) : Cv l yX7_append wsX7_append ({ frames := 0, cells := 0, slots := 0, locals := 0 } : Room) D [.ref h0, .int t] [(h0, .inr (6, [.ref ta, .int tk])), (ta, .inl (cI, 120, .inl tf))] [(cI, .int)] sz (fun (u9 : Int32 × (Nat → Int32)) => match u9 with | (tk2, tf2) => bi tk2 0 120 ∧ (tk.toInt < 120 → tk2 = tk + 1)) (fun (u9 : Int32 × (Nat → Int32)) => match u9 with | (tk2, tf2) => [(h0, .inr (6, [.ref ta, .int tk2])), (ta, .inl (cI, 120, .inl tf2))]) (fun (u9 : Int32 × (Nat → Int32)) => match u9 with | (tk2, tf2) => []) := by
  refine ct_v (cc := cX7_append) (maxL := 2) (ret := none) (by decide) rfl (Nat.le_of_ble_eq_true rfl) ?_
  intro p e s m below meth c A ls H hx hb hr hts hown hml hlocks hin hA hS hP hK hD hNW hl hAe hsz
  have hl : lv_has ls 2 [(0, .ref h0), (1, .int t)] := hl
  refine lv_aload_n hx hb dX7_append_0 rfl (lv_at hl 0 rfl) ?_
  refine va_get (D := D) (ci := 6) (v := .int tk) (C := RX7) (T := TX7) (N := 2) hx hb hts hig_append_X7 hown hK hP 0 rfl rfl 1 (by decide) (hts (.fieldLink RX7 15 "OneHandset$Tape" "size" "I") (List.mem_of_getElem? (i := 1) rfl)) (fun _ h9 => h9) rfl dX7_append_1 ?_
  refine lv_bipush (v := 120) hx hb dX7_append_4 (by decide) ?_
  refine lv_icmp_ge (tgt := 29) hx hb dX7_append_6 (by decide) (fun c_1 => ?_) (fun c_1 => ?_)
  · exact ret_v hx hb hr hlocks (u := (tk, tf)) (⟨hk, fun q9 => absurd q9 (by have : (120 : Int32).toInt = 120 := (by decide); have := ti_le c_1; have k120 : (120 : Int32).toInt = 120 := (by decide); omega)⟩) (hP.sub [0, 1] rfl) (hK.sub [] rfl) (hD.sub [0, 1] (by decide) rfl) hS (Nat.le_of_ble_eq_true rfl) (Nat.le_of_ble_eq_true rfl) dX7_append_29
  refine lv_aload_n hx hb dX7_append_9 rfl (lv_at hl 0 rfl) ?_
  refine va_get (D := D) (ci := 6) (v := .ref ta) (C := RX7) (T := TX7) (N := 2) hx hb hts hig_append_X7 hown hK hP 0 rfl rfl 0 (by decide) (hts (.fieldLink RX7 9 "OneHandset$Tape" "times" "[I") (List.mem_of_getElem? (i := 2) rfl)) (fun _ h9 => h9) rfl dX7_append_10 ?_
  refine lv_aload_n hx hb dX7_append_13 rfl (lv_at hl 0 rfl) ?_
  refine va_get (D := D) (ci := 6) (v := .int tk) (C := RX7) (T := TX7) (N := 2) hx hb hts hig_append_X7 hown hK hP 0 rfl rfl 1 (by decide) (hts (.fieldLink RX7 15 "OneHandset$Tape" "size" "I") (List.mem_of_getElem? (i := 1) rfl)) (fun _ h9 => h9) rfl dX7_append_14 ?_
  refine lv_iload_n hx hb dX7_append_17 rfl (lv_at hl 1 rfl) ?_
  refine va_iast hx hb hK hP hD hS 1 0 rfl rfl (by have : (120 : Int32).toInt = 120 := (by decide); have := ti_nle c_1; exact vp_in_iff.mpr (by omega)) dX7_append_18 (fun H locs hP hD hS => ?_)
  have hP : va_P D vwCl [(h0, .inr (6, [.ref ta, .int tk])), (ta, .inl (cI, 120, .inl (upd tf (Int32.toNatClampNeg tk) t)))] H := hP
  have hD : va_D A [(h0, .inr (6, [.ref ta, .int tk])), (ta, .inl (cI, 120, .inl (upd tf (Int32.toNatClampNeg tk) t)))] := hD
  refine lv_aload_n hx hb dX7_append_19 rfl (lv_at hl 0 rfl) ?_
  refine lv_dup hx hb dX7_append_20 rfl ?_
  refine va_get (D := D) (ci := 6) (v := .int tk) (C := RX7) (T := TX7) (N := 2) hx hb hts hig_append_X7 hown hK hP 0 rfl rfl 1 (by decide) (hts (.fieldLink RX7 15 "OneHandset$Tape" "size" "I") (List.mem_of_getElem? (i := 1) rfl)) (fun _ h9 => h9) rfl dX7_append_21 ?_
  refine lv_iconst (v := 1) hx hb dX7_append_24 (by decide) ?_
  refine lv_iadd hx hb dX7_append_25 ?_
  refine va_put (D := D) (ci := 6) (v := .int (tk + 1)) (ty := .int) (C := RX7) (T := TX7) (N := 2) hx hb hts hig_append_X7 tyX7 tyX7_ok nmX7 hown hK hP hD hS 0 rfl rfl 1 (by decide) (hts (.fieldLink RX7 15 "OneHandset$Tape" "size" "I") (List.mem_of_getElem? (i := 1) rfl)) (fun _ h9 => h9) rfl (by decide +kernel) rfl rfl (Nat.le_of_ble_eq_true rfl) dX7_append_26 (fun H locs hP hD hS => ?_)
  have hP : va_P D vwCl [(h0, .inr (6, [.ref ta, .int (tk + 1)])), (ta, .inl (cI, 120, .inl (upd tf (Int32.toNatClampNeg tk) t)))] H := hP
  have hD : va_D A [(h0, .inr (6, [.ref ta, .int (tk + 1)])), (ta, .inl (cI, 120, .inl (upd tf (Int32.toNatClampNeg tk) t)))] := hD
  exact ret_v hx hb hr hlocks (u := (tk + 1, upd tf (Int32.toNatClampNeg tk) t)) (⟨(by have : (120 : Int32).toInt = 120 := (by decide); have := ti_nle c_1; have u1 := ti_up (i := tk) (n := 120) (by omega); omega), fun _ => rfl⟩) (hP.sub [0, 1] rfl) (hK.sub [] rfl) (hD.sub [0, 1] (by decide) rfl) hS (Nat.le_of_ble_eq_true rfl) (Nat.le_of_ble_eq_true rfl) dX7_append_29
theorem hig_lengthenLast_X7 : ∀ w ∈ wsX70, w ∈ wsX7_lengthenLast := mem_pl [3, 4] rfl
set_option maxHeartbeats 4000000 in
set_option maxRecDepth 100000 in
theorem g_lengthenLast (l : Launch) (D : va_G) (sz : Nat) (h0 : Nat) (ta : Nat) (cI : ClassId) (tk : Int32) (tf : Nat → Int32) (t : Int32) (hk : bi tk 0 120) : Cv l yX7_lengthenLast wsX7_lengthenLast ({ frames := 0, cells := 0, slots := 0, locals := 0 } : Room) D [.ref h0, .int t] [(h0, .inr (6, [.ref ta, .int tk])), (ta, .inl (cI, 120, .inl tf))] [(cI, .int)] sz (fun (tf2 : Nat → Int32) => True) (fun (tf2 : Nat → Int32) => [(h0, .inr (6, [.ref ta, .int tk])), (ta, .inl (cI, 120, .inl tf2))]) (fun (tf2 : Nat → Int32) => []) := by
  refine ct_v (cc := cX7_lengthenLast) (maxL := 2) (ret := none) (by decide) rfl (Nat.le_of_ble_eq_true rfl) ?_
  intro p e s m below meth c A ls H hx hb hr hts hown hml hlocks hin hA hS hP hK hD hNW hl hAe hsz
  have hl : lv_has ls 2 [(0, .ref h0), (1, .int t)] := hl
  refine lv_aload_n hx hb dX7_lengthenLast_0 rfl (lv_at hl 0 rfl) ?_
  refine va_get (D := D) (ci := 6) (v := .int tk) (C := RX7) (T := TX7) (N := 2) hx hb hts hig_lengthenLast_X7 hown hK hP 0 rfl rfl 1 (by decide) (hts (.fieldLink RX7 15 "OneHandset$Tape" "size" "I") (List.mem_of_getElem? (i := 1) rfl)) (fun _ h9 => h9) rfl dX7_lengthenLast_1 ?_
  refine lv_if_le (tgt := 22) hx hb dX7_lengthenLast_4 (by decide) (fun c_1 => ?_) (fun c_1 => ?_)
  · exact ret_v hx hb hr hlocks (u := tf) trivial (hP.sub [0, 1] rfl) (hK.sub [] rfl) (hD.sub [0, 1] (by decide) rfl) hS (Nat.le_of_ble_eq_true rfl) (Nat.le_of_ble_eq_true rfl) dX7_lengthenLast_22
  refine lv_aload_n hx hb dX7_lengthenLast_7 rfl (lv_at hl 0 rfl) ?_
  refine va_get (D := D) (ci := 6) (v := .ref ta) (C := RX7) (T := TX7) (N := 2) hx hb hts hig_lengthenLast_X7 hown hK hP 0 rfl rfl 0 (by decide) (hts (.fieldLink RX7 9 "OneHandset$Tape" "times" "[I") (List.mem_of_getElem? (i := 2) rfl)) (fun _ h9 => h9) rfl dX7_lengthenLast_8 ?_
  refine lv_aload_n hx hb dX7_lengthenLast_11 rfl (lv_at hl 0 rfl) ?_
  refine va_get (D := D) (ci := 6) (v := .int tk) (C := RX7) (T := TX7) (N := 2) hx hb hts hig_lengthenLast_X7 hown hK hP 0 rfl rfl 1 (by decide) (hts (.fieldLink RX7 15 "OneHandset$Tape" "size" "I") (List.mem_of_getElem? (i := 1) rfl)) (fun _ h9 => h9) rfl dX7_lengthenLast_12 ?_
  refine lv_iconst (v := 1) hx hb dX7_lengthenLast_15 (by decide) ?_
  refine lv_isub hx hb dX7_lengthenLast_16 ?_
  refine lv_dup2_11 hx hb dX7_lengthenLast_17 rfl rfl ?_
  refine va_iald hx hb hK hP 1 0 rfl rfl (by have : (0 : Int32).toInt = 0 := (by decide); have := ti_nle c_1; have u1 := ti_m1 (i := tk) (by omega); exact vp_in_iff.mpr (by omega)) dX7_lengthenLast_18 ?_
  refine lv_iload_n hx hb dX7_lengthenLast_19 rfl (lv_at hl 1 rfl) ?_
  refine lv_iadd hx hb dX7_lengthenLast_20 ?_
  refine va_iast hx hb hK hP hD hS 1 0 rfl rfl (by have : (0 : Int32).toInt = 0 := (by decide); have := ti_nle c_1; have u1 := ti_m1 (i := tk) (by omega); exact vp_in_iff.mpr (by omega)) dX7_lengthenLast_21 (fun H locs hP hD hS => ?_)
  have hP : va_P D vwCl [(h0, .inr (6, [.ref ta, .int tk])), (ta, .inl (cI, 120, .inl (upd tf (Int32.toNatClampNeg (tk - 1)) ((tf (Int32.toNatClampNeg (tk - 1))) + t))))] H := hP
  have hD : va_D A [(h0, .inr (6, [.ref ta, .int tk])), (ta, .inl (cI, 120, .inl (upd tf (Int32.toNatClampNeg (tk - 1)) ((tf (Int32.toNatClampNeg (tk - 1))) + t))))] := hD
  exact ret_v hx hb hr hlocks (u := upd tf (Int32.toNatClampNeg (tk - 1)) ((tf (Int32.toNatClampNeg (tk - 1))) + t)) trivial (hP.sub [0, 1] rfl) (hK.sub [] rfl) (hD.sub [0, 1] (by decide) rfl) hS (Nat.le_of_ble_eq_true rfl) (Nat.le_of_ble_eq_true rfl) dX7_lengthenLast_22
theorem hig_at_X7 : ∀ w ∈ wsX70, w ∈ wsX7_at := mem_pl [6, 7] rfl
set_option maxHeartbeats 4000000 in
set_option maxRecDepth 100000 in
theorem g_at (l : Launch) (D : va_G) (sz : Nat) (h0 : Nat) (ta : Nat) (cI : ClassId) (tk : Int32) (tf : Nat → Int32) (i : Int32) (hk : bi tk 0 120) : Ci l yX7_at wsX7_at ({ frames := 1, cells := 0, slots := 0, locals := 22 } : Room) D [.ref h0, .int i] [(h0, .inr (6, [.ref ta, .int tk])), (ta, .inl (cI, 120, .inl tf))] [(cI, .int)] sz (fun (r : Int32) => fun (_ : Unit) => True) (fun (_ : Unit) => [(h0, .inr (6, [.ref ta, .int tk])), (ta, .inl (cI, 120, .inl tf))]) (fun (_ : Unit) => []) := by
  refine ct_i (cc := cX7_at) (maxL := 2) (ret := (some .int)) (by decide) rfl (Nat.le_of_ble_eq_true rfl) ?_
  intro p e s m below meth c A ls H hx hb hr hts hown hml hlocks hin hA hS hP hK hD hNW hl hAe hsz
  have hl : lv_has ls 2 [(0, .ref h0), (1, .int i)] := hl
  refine lv_iload_n hx hb dX7_at_0 rfl (lv_at hl 1 rfl) ?_
  refine lv_iconst (v := 0) hx hb dX7_at_1 (by decide) ?_
  refine lv_aload_n hx hb dX7_at_2 rfl (lv_at hl 0 rfl) ?_
  refine va_get (D := D) (ci := 6) (v := .int tk) (C := RX7) (T := TX7) (N := 2) hx hb hts hig_at_X7 hown hK hP 0 rfl rfl 1 (by decide) (hts (.fieldLink RX7 15 "OneHandset$Tape" "size" "I") (List.mem_of_getElem? (i := 1) rfl)) (fun _ h9 => h9) rfl dX7_at_3 ?_
  refine lv_iconst (v := 1) hx hb dX7_at_6 (by decide) ?_
  refine lv_isub hx hb dX7_at_7 ?_
  refine go_i (wr := [(h0, .inr (6, [.ref ta, .int tk])), (ta, .inl (cI, 120, .inl tf))]) (tysr := [(cI, .int)]) hP hD hS hA hK [] [0, 1] [0] rfl rfl (by decide) (by decide) rfl (va_runSN (As := [.int i, .int 0, .int (tk - 1)]) (rest := []) ⟨hx, hb, hml, hown, hts⟩ (c_X8_within l D H.size i 0 (tk - 1) ) ⟨(va_cnB (own := RX7) (host := RX8) (index := 19) 3 hts gX7_at_X8_within_n19 rfl rfl rfl (hNW.2.1 (RX7, 19, yX8_within, RX8) (List.mem_of_getElem? (l := nw_M) (i := 7) rfl)) (hts (.initialized RX8) (List.mem_of_getElem? (i := 4) rfl)) (by decide +kernel) ⟨Nat.le_of_ble_eq_true rfl, Nat.le_of_ble_eq_true rfl⟩), (hts (.static yX8_within) (List.mem_of_getElem? (i := 3) rfl)), trivial⟩ (st_preS hP hD hK hNW [] [] rfl rfl (by decide) rfl) rfl rfl hl.1 rfl (lv_room (Nat.le_of_ble_eq_true rfl)) dX7_at_8 ⟨(Nat.le_of_ble_eq_true rfl), (Nat.le_of_ble_eq_true rfl)⟩) (fun r_1 u H locs hw hP hD hK hS => ?_)
  have hw : r_1 = wi i 0 (tk - 1) := hw
  subst hw
  have hP : va_P D vwCl [(h0, .inr (6, [.ref ta, .int tk])), (ta, .inl (cI, 120, .inl tf))] H := hP
  have hD : va_D A [(h0, .inr (6, [.ref ta, .int tk])), (ta, .inl (cI, 120, .inl tf))] := hD
  have hK : va_K D vwCl [(cI, .int)] s := hK
  refine lv_if_eq (tgt := 23) hx hb dX7_at_11 (by decide) (fun c_2 => ?_) (fun c_2 => ?_)
  · refine lv_iconst (v := 0) hx hb dX7_at_23 (by decide) ?_
    exact ret_i hx hb hr hlocks rfl (u := ()) trivial (hP.sub [0, 1] rfl) (hK.sub [] rfl) (hD.sub [0, 1] (by decide) rfl) hS (Nat.le_of_ble_eq_true rfl) (Nat.le_of_ble_eq_true rfl) dX7_at_24
  refine lv_aload_n hx hb dX7_at_14 rfl (lv_at hl 0 rfl) ?_
  refine va_get (D := D) (ci := 6) (v := .ref ta) (C := RX7) (T := TX7) (N := 2) hx hb hts hig_at_X7 hown hK hP 0 rfl rfl 0 (by decide) (hts (.fieldLink RX7 9 "OneHandset$Tape" "times" "[I") (List.mem_of_getElem? (i := 2) rfl)) (fun _ h9 => h9) rfl dX7_at_15 ?_
  refine lv_iload_n hx hb dX7_at_18 rfl (lv_at hl 1 rfl) ?_
  refine va_iald hx hb hK hP 1 0 rfl rfl (by have : (0 : Int32).toInt = 0 := (by decide); have := ti_wi1 c_2; have u1 := ti_m1 (i := tk) (by omega); exact vp_in_iff.mpr (by omega)) dX7_at_19 ?_
  refine lv_goto (tgt := 24) hx hb dX7_at_20 (by decide) ?_
  exact ret_i hx hb hr hlocks rfl (u := ()) trivial (hP.sub [0, 1] rfl) (hK.sub [] rfl) (hD.sub [0, 1] (by decide) rfl) hS (Nat.le_of_ble_eq_true rfl) (Nat.le_of_ble_eq_true rfl) dX7_at_24
theorem hig_stretchAll_X7 : ∀ w ∈ wsX70, w ∈ wsX7_stretchAll := mem_pl [16, 17] rfl
set_option maxHeartbeats 4000000 in
set_option maxRecDepth 100000 in
theorem g_stretchAll (l : Launch) (D : va_G) (sz : Nat) (h0 : Nat) (ta : Nat) (cI : ClassId) (tk : Int32) (tf : Nat → Int32) (w : Int32) (hk : bi tk 0 120) : Cv l yX7_stretchAll wsX7_stretchAll ({ frames := 2, cells := 0, slots := 0, locals := 42 } : Room) D [.ref h0, .int w] [(h0, .inr (6, [.ref ta, .int tk])), (ta, .inl (cI, 120, .inl tf))] [(cI, .int)] sz (fun (tf2 : Nat → Int32) => True) (fun (tf2 : Nat → Int32) => [(h0, .inr (6, [.ref ta, .int tk])), (ta, .inl (cI, 120, .inl tf2))]) (fun (tf2 : Nat → Int32) => []) := by
  refine ct_v (cc := cX7_stretchAll) (maxL := 4) (ret := none) (by decide) rfl (Nat.le_of_ble_eq_true rfl) ?_
  intro p e s m below meth c A ls H hx hb hr hts hown hml hlocks hin hA hS hP hK hD hNW hl hAe hsz
  have hl : lv_has ls 4 [(0, .ref h0), (1, .int w)] := hl
  refine lv_iconst (v := 0) hx hb dX7_stretchAll_0 (by decide) ?_
  refine lv_istore_n (lv' := [(2, .int 0), (0, .ref h0), (1, .int w)]) hx hb dX7_stretchAll_1 rfl hl (by decide) rfl (fun ls hl => ?_)
  refine lp_N (fun n9 H locs ls => ∃ (i_1 : Int32), ∃ (f_2 : Nat → Int32), n9 = (tk.toInt - i_1.toInt).toNat ∧ (va_P D vwCl [(h0, .inr (6, [.ref ta, .int tk])), (ta, .inl (cI, 120, .inl f_2))] H ∧ va_D A [(h0, .inr (6, [.ref ta, .int tk])), (ta, .inl (cI, 120, .inl f_2))]) ∧ va_S A s.heap H locs ∧ lv_has ls 4 [(2, .int i_1), (0, .ref h0), (1, .int w)] ∧ (0 ≤ i_1.toInt)) ?_ ⟨0, tf, rfl, ⟨hP, hD⟩, hS, hl, (by decide)⟩
  intro n9 ih_3 H locs ls hI
  obtain ⟨i_1, f_2, rfl, ⟨hP, hD⟩, hS, hl, hv_4⟩ := hI
  refine lv_iload_n hx hb dX7_stretchAll_2 rfl (lv_at hl 0 rfl) ?_
  refine lv_aload_n hx hb dX7_stretchAll_3 rfl (lv_at hl 1 rfl) ?_
  refine va_get (D := D) (ci := 6) (v := .int tk) (C := RX7) (T := TX7) (N := 2) hx hb hts hig_stretchAll_X7 hown hK hP 0 rfl rfl 1 (by decide) (hts (.fieldLink RX7 15 "OneHandset$Tape" "size" "I") (List.mem_of_getElem? (i := 1) rfl)) (fun _ h9 => h9) rfl dX7_stretchAll_4 ?_
  refine lv_icmp_ge (tgt := 60) hx hb dX7_stretchAll_7 (by decide) (fun c_5 => ?_) (fun c_5 => ?_)
  · exact ret_v hx hb hr hlocks (u := f_2) trivial (hP.sub [0, 1] rfl) (hK.sub [] rfl) (hD.sub [0, 1] (by decide) rfl) hS (Nat.le_of_ble_eq_true rfl) (Nat.le_of_ble_eq_true rfl) dX7_stretchAll_60
  refine lv_aload_n hx hb dX7_stretchAll_10 rfl (lv_at hl 1 rfl) ?_
  refine va_get (D := D) (ci := 6) (v := .ref ta) (C := RX7) (T := TX7) (N := 2) hx hb hts hig_stretchAll_X7 hown hK hP 0 rfl rfl 0 (by decide) (hts (.fieldLink RX7 9 "OneHandset$Tape" "times" "[I") (List.mem_of_getElem? (i := 2) rfl)) (fun _ h9 => h9) rfl dX7_stretchAll_11 ?_
  refine lv_iload_n hx hb dX7_stretchAll_14 rfl (lv_at hl 0 rfl) ?_
  refine va_iald hx hb hK hP 1 0 rfl rfl (by have := ti_nle c_5; exact vp_in_iff.mpr (by omega)) dX7_stretchAll_15 ?_
  refine go_i (wr := [(h0, .inr (6, [.ref ta, .int tk])), (ta, .inl (cI, 120, .inl f_2))]) (tysr := [(cI, .int)]) hP hD hS hA hK [] [0, 1] [0] rfl rfl (by decide) (by decide) rfl (va_runSN (As := [.int (f_2 (Int32.toNatClampNeg i_1))]) (rest := []) ⟨hx, hb, hml, hown, hts⟩ (g_isTime l D H.size (f_2 (Int32.toNatClampNeg i_1)) ) ⟨(va_cnB (own := RX7) (host := RX8) (index := 23) 1 hts gX7_stretchAll_X8_isTime_n23 rfl rfl rfl (hNW.2.1 (RX7, 23, yX8_isTime, RX8) (List.mem_of_getElem? (l := nw_M) (i := 13) rfl)) (hts (.initialized RX8) (List.mem_of_getElem? (i := 11) rfl)) (by decide +kernel) ⟨Nat.le_of_ble_eq_true rfl, Nat.le_of_ble_eq_true rfl⟩), (hts (.static yX8_isTime) (List.mem_of_getElem? (i := 10) rfl)), trivial⟩ (st_preS hP hD hK hNW [] [] rfl rfl (by decide) rfl) rfl rfl hl.1 rfl (lv_room (Nat.le_of_ble_eq_true rfl)) dX7_stretchAll_16 ⟨(Nat.le_of_ble_eq_true rfl), (Nat.le_of_ble_eq_true rfl)⟩) (fun r_6 u H locs hw hP hD hK hS => ?_)
  have hw : r_6 = wi (f_2 (Int32.toNatClampNeg i_1)) 1 20000 := hw
  subst hw
  have hP : va_P D vwCl [(h0, .inr (6, [.ref ta, .int tk])), (ta, .inl (cI, 120, .inl f_2))] H := hP
  have hD : va_D A [(h0, .inr (6, [.ref ta, .int tk])), (ta, .inl (cI, 120, .inl f_2))] := hD
  have hK : va_K D vwCl [(cI, .int)] s := hK
  refine lv_if_eq (tgt := 54) hx hb dX7_stretchAll_19 (by decide) (fun c_7 => ?_) (fun c_7 => ?_)
  · refine lv_iinc (v := i_1 + 1) (lv' := [(2, .int (i_1 + 1)), (0, .ref h0), (1, .int w)]) hx hb dX7_stretchAll_54 hl (k := 0) rfl rfl (by decide) rfl (fun ls hl => ?_)
    refine lv_goto (tgt := 2) hx hb dX7_stretchAll_57 (by decide) ?_
    exact ih_3 _ _ _ _ (by have := ti_nle c_5; have := ti_wi0 c_7; have u1 := ti_up (i := i_1) (n := tk) (by omega); omega) ⟨i_1 + 1, f_2, rfl, ⟨hP, hD⟩, hS, lv_sub hl [0, 1, 2] rfl, (by have := ti_nle c_5; have := ti_wi0 c_7; have u1 := ti_up (i := i_1) (n := tk) (by omega); omega)⟩
  refine lv_aload_n hx hb dX7_stretchAll_22 rfl (lv_at hl 1 rfl) ?_
  refine va_get (D := D) (ci := 6) (v := .ref ta) (C := RX7) (T := TX7) (N := 2) hx hb hts hig_stretchAll_X7 hown hK hP 0 rfl rfl 0 (by decide) (hts (.fieldLink RX7 9 "OneHandset$Tape" "times" "[I") (List.mem_of_getElem? (i := 2) rfl)) (fun _ h9 => h9) rfl dX7_stretchAll_23 ?_
  refine lv_iload_n hx hb dX7_stretchAll_26 rfl (lv_at hl 0 rfl) ?_
  refine va_iald hx hb hK hP 1 0 rfl rfl (by have := ti_nle c_5; have := ti_wi1 c_7; exact vp_in_iff.mpr (by omega)) dX7_stretchAll_27 ?_
  refine lv_bipush (v := 100) hx hb dX7_stretchAll_28 (by decide) ?_
  refine lv_iload_n hx hb dX7_stretchAll_30 rfl (lv_at hl 2 rfl) ?_
  refine lv_iadd hx hb dX7_stretchAll_31 ?_
  refine lv_imul hx hb dX7_stretchAll_32 ?_
  refine lv_bipush (v := 100) hx hb dX7_stretchAll_33 (by decide) ?_
  refine lv_idiv hx hb dX7_stretchAll_35 (by decide) ?_
  refine lv_istore_n (lv' := [(3, .int (((f_2 (Int32.toNatClampNeg i_1)) * (100 + w)) / 100)), (2, .int i_1), (0, .ref h0), (1, .int w)]) hx hb dX7_stretchAll_36 rfl hl (by decide) rfl (fun ls hl => ?_)
  refine lv_aload_n hx hb dX7_stretchAll_37 rfl (lv_at hl 2 rfl) ?_
  refine va_get (D := D) (ci := 6) (v := .ref ta) (C := RX7) (T := TX7) (N := 2) hx hb hts hig_stretchAll_X7 hown hK hP 0 rfl rfl 0 (by decide) (hts (.fieldLink RX7 9 "OneHandset$Tape" "times" "[I") (List.mem_of_getElem? (i := 2) rfl)) (fun _ h9 => h9) rfl dX7_stretchAll_38 ?_
  refine lv_iload_n hx hb dX7_stretchAll_41 rfl (lv_at hl 1 rfl) ?_
  refine lv_iconst (v := 1) hx hb dX7_stretchAll_42 (by decide) ?_
  refine lv_sipush (v := 20000) hx hb dX7_stretchAll_43 (by decide) ?_
  refine lv_iload_n hx hb dX7_stretchAll_46 rfl (lv_at hl 0 rfl) ?_
  refine va_mmin hx hb (hml.trans hl.1.symm) hown (hts (.methodLink RX7 27 Lib.Math.min.name) (List.mem_of_getElem? (i := 3) rfl)) (hts (.static Lib.Math.min.name) (List.mem_of_getElem? (i := 4) rfl)) (hts (.initialized "java/lang/Math") (List.mem_of_getElem? (i := 5) rfl)) (hts (.code Lib.Math.min.name Lib.Math.min.code 2 (some .int)) (List.mem_of_getElem? (i := 6) rfl)) (Nat.le_of_ble_eq_true rfl) (Nat.le_of_ble_eq_true rfl) (Nat.le_of_ble_eq_true rfl) (Nat.le_of_ble_eq_true rfl) dX7_stretchAll_47 ?_
  refine va_mmax hx hb (hml.trans hl.1.symm) hown (hts (.methodLink RX7 33 Lib.Math.max.name) (List.mem_of_getElem? (i := 7) rfl)) (hts (.static Lib.Math.max.name) (List.mem_of_getElem? (i := 8) rfl)) (hts (.initialized "java/lang/Math") (List.mem_of_getElem? (i := 5) rfl)) (hts (.code Lib.Math.max.name Lib.Math.max.code 2 (some .int)) (List.mem_of_getElem? (i := 9) rfl)) (Nat.le_of_ble_eq_true rfl) (Nat.le_of_ble_eq_true rfl) (Nat.le_of_ble_eq_true rfl) (Nat.le_of_ble_eq_true rfl) dX7_stretchAll_50 ?_
  refine va_iast hx hb hK hP hD hS 1 0 rfl rfl (by have := ti_nle c_5; have := ti_wi1 c_7; exact vp_in_iff.mpr (by omega)) dX7_stretchAll_53 (fun H locs hP hD hS => ?_)
  obtain ⟨g_8, hP, hD⟩ : ∃ g9 : Nat → Int32, va_P D vwCl [(h0, .inr (6, [.ref ta, .int tk])), (ta, .inl (cI, 120, .inl g9))] H ∧ va_D A [(h0, .inr (6, [.ref ta, .int tk])), (ta, .inl (cI, 120, .inl g9))] := ⟨_, hP, hD⟩
  refine lv_iinc (v := i_1 + 1) (lv' := [(2, .int (i_1 + 1)), (3, .int (((f_2 (Int32.toNatClampNeg i_1)) * (100 + w)) / 100)), (0, .ref h0), (1, .int w)]) hx hb dX7_stretchAll_54 hl (k := 1) rfl rfl (by decide) rfl (fun ls hl => ?_)
  refine lv_goto (tgt := 2) hx hb dX7_stretchAll_57 (by decide) ?_
  exact ih_3 _ _ _ _ (by have := ti_nle c_5; have := ti_wi1 c_7; have u1 := ti_up (i := i_1) (n := tk) (by omega); omega) ⟨i_1 + 1, g_8, rfl, ⟨hP, hD⟩, hS, lv_sub hl [0, 2, 3] rfl, (by have := ti_nle c_5; have := ti_wi1 c_7; have u1 := ti_up (i := i_1) (n := tk) (by omega); omega)⟩
