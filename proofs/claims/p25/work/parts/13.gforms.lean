theorem hig_tellsBit_X5 : ∀ w ∈ wsX50, w ∈ wsX5_tellsBit := mem_pl [2, 3, 4, 5, 6, 7, 8, 9] rfl
set_option maxHeartbeats 4000000 in
set_option maxRecDepth 100000 in
theorem g_tellsBit (l : Launch) (D : va_G) (sz : Nat) (h0 : Nat) (fw : Int32) (fb : Int32) (fa : Int32) (fc : Int32) (fp : Int32) (fz : Int32) (fo : Int32) (fl9 : Int32) (v : Int32)  : Ci l yX5_tellsBit wsX5_tellsBit ({ frames := 0, cells := 0, slots := 0, locals := 0 } : Room) D [.ref h0, .int v] [(h0, .inr (4, [.int fw, .int fb, .int fa, .int fc, .int fp, .int fz, .int fo, .int fl9]))] [] sz (fun (r : Int32) => fun (_ : Unit) => True) (fun (_ : Unit) => [(h0, .inr (4, [.int fw, .int fb, .int fa, .int fc, .int fp, .int fz, .int fo, .int fl9]))]) (fun (_ : Unit) => []) := by
  refine ct_i (cc := cX5_tellsBit) (maxL := 2) (ret := (some .boolean)) (by decide) rfl (Nat.le_of_ble_eq_true rfl) ?_
  intro p e s m below meth c A ls H hx hb hr hts hown hml hlocks hin hA hS hP hK hD hNW hl hAe hsz
  have hl : lv_has ls 2 [(0, .ref h0), (1, .int v)] := hl
  refine lv_iload_n hx hb dX5_tellsBit_0 rfl (lv_at hl 1 rfl) ?_
  refine lv_iconst (v := 2) hx hb dX5_tellsBit_1 (by decide) ?_
  refine lv_icmp_lt (tgt := 27) hx hb dX5_tellsBit_2 (by decide) (fun c_1 => ?_) (fun c_1 => ?_)
  · refine lv_iconst (v := 0) hx hb dX5_tellsBit_27 (by decide) ?_
    exact ret_i hx hb hr hlocks rfl (u := ()) trivial (hP.sub [0] rfl) (hK.sub [] rfl) (hD.sub [0] (by decide) rfl) hS (Nat.le_of_ble_eq_true rfl) (Nat.le_of_ble_eq_true rfl) dX5_tellsBit_28
  refine lv_iload_n hx hb dX5_tellsBit_5 rfl (lv_at hl 1 rfl) ?_
  refine lv_iconst (v := 2) hx hb dX5_tellsBit_6 (by decide) ?_
  refine lv_irem hx hb dX5_tellsBit_7 (by decide) ?_
  refine lv_topi (fun y_2 _ => ?_)
  refine lv_if_ne (tgt := 15) hx hb dX5_tellsBit_8 (by decide) (fun c_3 => ?_) (fun c_3 => ?_)
  · refine lv_iconst (v := 0) hx hb dX5_tellsBit_15 (by decide) ?_
    refine lv_aload_n hx hb dX5_tellsBit_16 rfl (lv_at hl 0 rfl) ?_
    refine va_get (D := D) (ci := 4) (v := .int fw) (C := RX5) (T := TX5) (N := 8) hx hb hts hig_tellsBit_X5 hown hK hP 0 rfl rfl 0 (by decide) (hts (.fieldLink RX5 9 "OneHandset$PairsForm" "onTellsBit" "Z") (List.mem_of_getElem? (i := 1) rfl)) (fun _ h9 => h9) rfl dX5_tellsBit_17 ?_
    refine lv_icmp_ne (tgt := 27) hx hb dX5_tellsBit_20 (by decide) (fun c_4 => ?_) (fun c_4 => ?_)
    · refine lv_iconst (v := 0) hx hb dX5_tellsBit_27 (by decide) ?_
      exact ret_i hx hb hr hlocks rfl (u := ()) trivial (hP.sub [0] rfl) (hK.sub [] rfl) (hD.sub [0] (by decide) rfl) hS (Nat.le_of_ble_eq_true rfl) (Nat.le_of_ble_eq_true rfl) dX5_tellsBit_28
    refine lv_iconst (v := 1) hx hb dX5_tellsBit_23 (by decide) ?_
    refine lv_goto (tgt := 28) hx hb dX5_tellsBit_24 (by decide) ?_
    exact ret_i hx hb hr hlocks rfl (u := ()) trivial (hP.sub [0] rfl) (hK.sub [] rfl) (hD.sub [0] (by decide) rfl) hS (Nat.le_of_ble_eq_true rfl) (Nat.le_of_ble_eq_true rfl) dX5_tellsBit_28
  refine lv_iconst (v := 1) hx hb dX5_tellsBit_11 (by decide) ?_
  refine lv_goto (tgt := 16) hx hb dX5_tellsBit_12 (by decide) ?_
  refine lv_aload_n hx hb dX5_tellsBit_16 rfl (lv_at hl 0 rfl) ?_
  refine va_get (D := D) (ci := 4) (v := .int fw) (C := RX5) (T := TX5) (N := 8) hx hb hts hig_tellsBit_X5 hown hK hP 0 rfl rfl 0 (by decide) (hts (.fieldLink RX5 9 "OneHandset$PairsForm" "onTellsBit" "Z") (List.mem_of_getElem? (i := 1) rfl)) (fun _ h9 => h9) rfl dX5_tellsBit_17 ?_
  refine lv_icmp_ne (tgt := 27) hx hb dX5_tellsBit_20 (by decide) (fun c_5 => ?_) (fun c_5 => ?_)
  · refine lv_iconst (v := 0) hx hb dX5_tellsBit_27 (by decide) ?_
    exact ret_i hx hb hr hlocks rfl (u := ()) trivial (hP.sub [0] rfl) (hK.sub [] rfl) (hD.sub [0] (by decide) rfl) hS (Nat.le_of_ble_eq_true rfl) (Nat.le_of_ble_eq_true rfl) dX5_tellsBit_28
  refine lv_iconst (v := 1) hx hb dX5_tellsBit_23 (by decide) ?_
  refine lv_goto (tgt := 28) hx hb dX5_tellsBit_24 (by decide) ?_
  exact ret_i hx hb hr hlocks rfl (u := ()) trivial (hP.sub [0] rfl) (hK.sub [] rfl) (hD.sub [0] (by decide) rfl) hS (Nat.le_of_ble_eq_true rfl) (Nat.le_of_ble_eq_true rfl) dX5_tellsBit_28
theorem hig_plainTime_X5 : ∀ w ∈ wsX50, w ∈ wsX5_plainTime := mem_pl [4, 5, 6, 7, 8, 9, 10, 11] rfl
set_option maxHeartbeats 4000000 in
set_option maxRecDepth 100000 in
theorem g_plainTime (l : Launch) (D : va_G) (sz : Nat) (h0 : Nat) (fw : Int32) (fb : Int32) (fa : Int32) (fc : Int32) (fp : Int32) (fz : Int32) (fo : Int32) (fl9 : Int32) (v : Int32)  : Ci l yX5_plainTime wsX5_plainTime ({ frames := 0, cells := 0, slots := 0, locals := 0 } : Room) D [.ref h0, .int v] [(h0, .inr (4, [.int fw, .int fb, .int fa, .int fc, .int fp, .int fz, .int fo, .int fl9]))] [] sz (fun (r : Int32) => fun (_ : Unit) => True) (fun (_ : Unit) => [(h0, .inr (4, [.int fw, .int fb, .int fa, .int fc, .int fp, .int fz, .int fo, .int fl9]))]) (fun (_ : Unit) => []) := by
  refine ct_i (cc := cX5_plainTime) (maxL := 2) (ret := (some .int)) (by decide) rfl (Nat.le_of_ble_eq_true rfl) ?_
  intro p e s m below meth c A ls H hx hb hr hts hown hml hlocks hin hA hS hP hK hD hNW hl hAe hsz
  have hl : lv_has ls 2 [(0, .ref h0), (1, .int v)] := hl
  refine lv_iload_n hx hb dX5_plainTime_0 rfl (lv_at hl 1 rfl) ?_
  refine lv_if_ne (tgt := 9) hx hb dX5_plainTime_1 (by decide) (fun c_1 => ?_) (fun c_1 => ?_)
  · refine lv_iload_n hx hb dX5_plainTime_9 rfl (lv_at hl 1 rfl) ?_
    refine lv_iconst (v := 1) hx hb dX5_plainTime_10 (by decide) ?_
    refine lv_icmp_ne (tgt := 21) hx hb dX5_plainTime_11 (by decide) (fun c_2 => ?_) (fun c_2 => ?_)
    · refine lv_aload_n hx hb dX5_plainTime_21 rfl (lv_at hl 0 rfl) ?_
      refine va_get (D := D) (ci := 4) (v := .int fp) (C := RX5) (T := TX5) (N := 8) hx hb hts hig_plainTime_X5 hown hK hP 0 rfl rfl 4 (by decide) (hts (.fieldLink RX5 25 "OneHandset$PairsForm" "p" "I") (List.mem_of_getElem? (i := 3) rfl)) (fun _ h9 => h9) rfl dX5_plainTime_22 ?_
      exact ret_i hx hb hr hlocks rfl (u := ()) trivial (hP.sub [0] rfl) (hK.sub [] rfl) (hD.sub [0] (by decide) rfl) hS (Nat.le_of_ble_eq_true rfl) (Nat.le_of_ble_eq_true rfl) dX5_plainTime_25
    refine lv_aload_n hx hb dX5_plainTime_14 rfl (lv_at hl 0 rfl) ?_
    refine va_get (D := D) (ci := 4) (v := .int fc) (C := RX5) (T := TX5) (N := 8) hx hb hts hig_plainTime_X5 hown hK hP 0 rfl rfl 3 (by decide) (hts (.fieldLink RX5 22 "OneHandset$PairsForm" "b" "I") (List.mem_of_getElem? (i := 2) rfl)) (fun _ h9 => h9) rfl dX5_plainTime_15 ?_
    refine lv_goto (tgt := 25) hx hb dX5_plainTime_18 (by decide) ?_
    exact ret_i hx hb hr hlocks rfl (u := ()) trivial (hP.sub [0] rfl) (hK.sub [] rfl) (hD.sub [0] (by decide) rfl) hS (Nat.le_of_ble_eq_true rfl) (Nat.le_of_ble_eq_true rfl) dX5_plainTime_25
  refine lv_aload_n hx hb dX5_plainTime_4 rfl (lv_at hl 0 rfl) ?_
  refine va_get (D := D) (ci := 4) (v := .int fa) (C := RX5) (T := TX5) (N := 8) hx hb hts hig_plainTime_X5 hown hK hP 0 rfl rfl 2 (by decide) (hts (.fieldLink RX5 19 "OneHandset$PairsForm" "a" "I") (List.mem_of_getElem? (i := 1) rfl)) (fun _ h9 => h9) rfl dX5_plainTime_5 ?_
  exact ret_i hx hb hr hlocks rfl (u := ()) trivial (hP.sub [0] rfl) (hK.sub [] rfl) (hD.sub [0] (by decide) rfl) hS (Nat.le_of_ble_eq_true rfl) (Nat.le_of_ble_eq_true rfl) dX5_plainTime_8
theorem hig_Pwrite_X5 : ∀ w ∈ wsX50, w ∈ wsX5_write := mem_pl [25, 26, 27, 28, 29, 30, 31, 32] rfl
set_option maxHeartbeats 4000000 in
set_option maxRecDepth 100000 in
theorem g_Pwrite (l : Launch) (D : va_G) (sz : Nat) (h0 : Nat) (fw : Int32) (fb : Int32) (fa : Int32) (fc : Int32) (fp : Int32) (fz : Int32) (fo : Int32) (fl9 : Int32) (tp : Nat) (ta : Nat) (cI : ClassId) (tk : Int32) (tf : Nat → Int32) (w : Int32) (hk0 : tk.toInt = 0) (hfl : bi fl9 0 51) : Cv l yX5_write wsX5_write ({ frames := 1, cells := 0, slots := 0, locals := 21 } : Room) D [.ref h0, .int w, .ref tp] [(h0, .inr (4, [.int fw, .int fb, .int fa, .int fc, .int fp, .int fz, .int fo, .int fl9])), (tp, .inr (6, [.ref ta, .int tk])), (ta, .inl (cI, 120, .inl tf))] [(cI, .int)] sz (fun (u9 : Int32 × (Nat → Int32)) => match u9 with | (tk2, tf2) => bi tk2 0 120 ∧ tk2 = fl9) (fun (u9 : Int32 × (Nat → Int32)) => match u9 with | (tk2, tf2) => [(h0, .inr (4, [.int fw, .int fb, .int fa, .int fc, .int fp, .int fz, .int fo, .int fl9])), (tp, .inr (6, [.ref ta, .int tk2])), (ta, .inl (cI, 120, .inl tf2))]) (fun (u9 : Int32 × (Nat → Int32)) => match u9 with | (tk2, tf2) => []) := by
  refine ct_v (cc := cX5_write) (maxL := 5) (ret := none) (by decide) rfl (Nat.le_of_ble_eq_true rfl) ?_
  intro p e s m below meth c A ls H hx hb hr hts hown hml hlocks hin hA hS hP hK hD hNW hl hAe hsz
  have hl : lv_has ls 5 [(0, .ref h0), (1, .int w), (2, .ref tp)] := hl
  refine lv_aload_n hx hb dX5_write_0 rfl (lv_at hl 0 rfl) ?_
  refine va_get (D := D) (ci := 4) (v := .int fb) (C := RX5) (T := TX5) (N := 8) hx hb hts hig_Pwrite_X5 hown hK hP 0 rfl rfl 1 (by decide) (hts (.fieldLink RX5 15 "OneHandset$PairsForm" "bits" "I") (List.mem_of_getElem? (i := 1) rfl)) (fun _ h9 => h9) rfl dX5_write_1 ?_
  refine lv_istore_n (lv' := [(3, .int fb), (0, .ref h0), (1, .int w), (2, .ref tp)]) hx hb dX5_write_4 rfl hl (by decide) rfl (fun ls hl => ?_)
  refine lv_iconst (v := 0) hx hb dX5_write_5 (by decide) ?_
  refine lv_istore (lv' := [(4, .int 0), (3, .int fb), (0, .ref h0), (1, .int w), (2, .ref tp)]) hx hb dX5_write_6 hl (by decide) rfl (fun ls hl => ?_)
  refine lp_N (fun n9 H locs ls => ∃ (i3_1 : Int32), ∃ (i_2 : Int32), ∃ (tk_3 : Int32), ∃ (tf_4 : Nat → Int32), n9 = (fl9.toInt - i_2.toInt).toNat ∧ (va_P D vwCl [(h0, .inr (4, [.int fw, .int fb, .int fa, .int fc, .int fp, .int fz, .int fo, .int fl9])), (tp, .inr (6, [.ref ta, .int tk_3])), (ta, .inl (cI, 120, .inl tf_4))] H ∧ va_D A [(h0, .inr (4, [.int fw, .int fb, .int fa, .int fc, .int fp, .int fz, .int fo, .int fl9])), (tp, .inr (6, [.ref ta, .int tk_3])), (ta, .inl (cI, 120, .inl tf_4))]) ∧ va_S A s.heap H locs ∧ lv_has ls 5 [(4, .int i_2), (3, .int i3_1), (0, .ref h0), (1, .int w), (2, .ref tp)] ∧ ((0 ≤ i_2.toInt ∧ i_2.toInt ≤ fl9.toInt) ∧ tk_3.toInt = i_2.toInt)) ?_ ⟨fb, 0, tk, tf, rfl, ⟨hP, hD⟩, hS, hl, ⟨⟨by decide, (by have k0 : (0 : Int32).toInt = 0 := (by decide); omega)⟩, (by have k0 : (0 : Int32).toInt = 0 := (by decide); omega)⟩⟩
  intro n9 ih_5 H locs ls hI
  obtain ⟨i3_1, i_2, tk_3, tf_4, rfl, ⟨hP, hD⟩, hS, hl, hv_6⟩ := hI
  refine lv_iload hx hb dX5_write_8 (lv_at hl 0 rfl) ?_
  refine lv_aload_n hx hb dX5_write_10 rfl (lv_at hl 2 rfl) ?_
  refine va_get (D := D) (ci := 4) (v := .int fl9) (C := RX5) (T := TX5) (N := 8) hx hb hts hig_Pwrite_X5 hown hK hP 0 rfl rfl 7 (by decide) (hts (.fieldLink RX5 34 "OneHandset$PairsForm" "length" "I") (List.mem_of_getElem? (i := 2) rfl)) (fun _ h9 => h9) rfl dX5_write_11 ?_
  refine lv_icmp_ge (tgt := 71) hx hb dX5_write_14 (by decide) (fun c_7 => ?_) (fun c_7 => ?_)
  · exact ret_v hx hb hr hlocks (u := (tk_3, tf_4)) (⟨(by have := ti_le c_7; omega), ti_inj (by have := ti_le c_7; omega)⟩) (hP.sub [0, 1, 2] rfl) (hK.sub [] rfl) (hD.sub [0, 1, 2] (by decide) rfl) hS (Nat.le_of_ble_eq_true rfl) (Nat.le_of_ble_eq_true rfl) dX5_write_71
  refine lv_aload_n hx hb dX5_write_17 rfl (lv_at hl 2 rfl) ?_
  refine lv_iload hx hb dX5_write_18 (lv_at hl 0 rfl) ?_
  refine go_i (wr := [(tp, .inr (6, [.ref ta, .int tk_3])), (ta, .inl (cI, 120, .inl tf_4))]) (tysr := [(cI, .int)]) hP hD hS hA hK [0] [1, 2] [0] rfl rfl (by decide) (by decide) rfl (va_runV (As := [.int i_2]) (rest := []) ⟨hx, hb, hml, hown, hts⟩ (g_tellsBit l D H.size h0 fw fb fa fc fp fz fo fl9 i_2 ) (cwV 1 hts gX5_write_X5_tellsBit rfl rfl rfl (by decide +kernel) ⟨Nat.le_of_ble_eq_true rfl, Nat.le_of_ble_eq_true rfl⟩) (st_preV (ci := 4) (q0 := 0) hP hD hK hNW [0] [] rfl rfl (by decide) rfl rfl rfl rfl) rfl rfl hl.1 rfl (lv_room (Nat.le_of_ble_eq_true rfl)) dX5_write_20 ⟨(Nat.le_of_ble_eq_true rfl), (Nat.le_of_ble_eq_true rfl)⟩) (fun r_8 u H locs hw hP hD hK hS => ?_)
  have hP : va_P D vwCl [(tp, .inr (6, [.ref ta, .int tk_3])), (ta, .inl (cI, 120, .inl tf_4)), (h0, .inr (4, [.int fw, .int fb, .int fa, .int fc, .int fp, .int fz, .int fo, .int fl9]))] H := hP
  have hD : va_D A [(tp, .inr (6, [.ref ta, .int tk_3])), (ta, .inl (cI, 120, .inl tf_4)), (h0, .inr (4, [.int fw, .int fb, .int fa, .int fc, .int fp, .int fz, .int fo, .int fl9]))] := hD
  have hK : va_K D vwCl [(cI, .int)] s := hK
  refine lv_if_eq (tgt := 55) hx hb dX5_write_23 (by decide) (fun c_9 => ?_) (fun c_9 => ?_)
  · refine lv_aload_n hx hb dX5_write_55 rfl (lv_at hl 4 rfl) ?_
    refine lv_aload_n hx hb dX5_write_56 rfl (lv_at hl 2 rfl) ?_
    refine lv_iload hx hb dX5_write_57 (lv_at hl 0 rfl) ?_
    refine go_i (wr := [(tp, .inr (6, [.ref ta, .int tk_3])), (ta, .inl (cI, 120, .inl tf_4))]) (tysr := [(cI, .int)]) hP hD hS hA hK [2] [0, 1] [0] rfl rfl (by decide) (by decide) rfl (va_runV (As := [.int i_2]) (rest := [.ref tp]) ⟨hx, hb, hml, hown, hts⟩ (g_plainTime l D H.size h0 fw fb fa fc fp fz fo fl9 i_2 ) (cwV 1 hts gX5_write_X5_plainTime rfl rfl rfl (by decide +kernel) ⟨Nat.le_of_ble_eq_true rfl, Nat.le_of_ble_eq_true rfl⟩) (st_preV (ci := 4) (q0 := 2) hP hD hK hNW [2] [] rfl rfl (by decide) rfl rfl rfl rfl) rfl rfl hl.1 rfl (lv_room (Nat.le_of_ble_eq_true rfl)) dX5_write_59 ⟨(Nat.le_of_ble_eq_true rfl), (Nat.le_of_ble_eq_true rfl)⟩) (fun r_10 u H locs hw hP hD hK hS => ?_)
    have hP : va_P D vwCl [(tp, .inr (6, [.ref ta, .int tk_3])), (ta, .inl (cI, 120, .inl tf_4)), (h0, .inr (4, [.int fw, .int fb, .int fa, .int fc, .int fp, .int fz, .int fo, .int fl9]))] H := hP
    have hD : va_D A [(tp, .inr (6, [.ref ta, .int tk_3])), (ta, .inl (cI, 120, .inl tf_4)), (h0, .inr (4, [.int fw, .int fb, .int fa, .int fc, .int fp, .int fz, .int fo, .int fl9]))] := hD
    have hK : va_K D vwCl [(cI, .int)] s := hK
    refine go_v (wr := [(h0, .inr (4, [.int fw, .int fb, .int fa, .int fc, .int fp, .int fz, .int fo, .int fl9]))]) (tysr := [(cI, .int)]) hP hD hS hA hK [0, 1] [2] [0] rfl rfl (by decide) (by decide) rfl (va_runV (As := [.int r_10]) (rest := []) ⟨hx, hb, hml, hown, hts⟩ (g_append l D H.size tp ta cI tk_3 tf_4 r_10 (by have : (0 : Int32).toInt = 0 := (by decide); have := ti_nle c_7; have := ti_eq c_9; omega)) (cwV 1 hts gX5_write_X7_append rfl rfl rfl (by decide +kernel) ⟨Nat.le_of_ble_eq_true rfl, Nat.le_of_ble_eq_true rfl⟩) (st_preV (ci := 6) (q0 := 0) hP hD hK hNW [0, 1] [0] rfl rfl (by decide) rfl rfl rfl rfl) rfl rfl hl.1 rfl (lv_room (Nat.le_of_ble_eq_true rfl)) dX5_write_62 ⟨(Nat.le_of_ble_eq_true rfl), (Nat.le_of_ble_eq_true rfl)⟩) (fun u H locs hw hP hD hK hS => ?_)
    obtain ⟨tk_12, tf_13⟩ := u
    have hw : bi tk_12 0 120 ∧ (tk_3.toInt < 120 → tk_12 = tk_3 + 1) := hw
    have hw_14 := hw
    have hP : va_P D vwCl [(h0, .inr (4, [.int fw, .int fb, .int fa, .int fc, .int fp, .int fz, .int fo, .int fl9])), (tp, .inr (6, [.ref ta, .int tk_12])), (ta, .inl (cI, 120, .inl tf_13))] H := hP
    have hD : va_D A [(h0, .inr (4, [.int fw, .int fb, .int fa, .int fc, .int fp, .int fz, .int fo, .int fl9])), (tp, .inr (6, [.ref ta, .int tk_12])), (ta, .inl (cI, 120, .inl tf_13))] := hD
    have hK : va_K D vwCl [(cI, .int)] s := hK
    refine lv_iinc (v := i_2 + 1) (lv' := [(4, .int (i_2 + 1)), (3, .int i3_1), (0, .ref h0), (1, .int w), (2, .ref tp)]) hx hb dX5_write_65 hl (k := 0) rfl rfl (by decide) rfl (fun ls hl => ?_)
    refine lv_goto (tgt := 8) hx hb dX5_write_68 (by decide) ?_
    exact ih_5 _ _ _ _ (by have : (0 : Int32).toInt = 0 := (by decide); have := ti_nle c_7; have := ti_eq c_9; have u1 := ti_up (i := i_2) (n := fl9) (by omega); omega) ⟨i3_1, i_2 + 1, tk_12, tf_13, rfl, ⟨hP, hD⟩, hS, lv_sub hl [0, 1, 2, 3, 4] rfl, ⟨⟨(by have : (0 : Int32).toInt = 0 := (by decide); have := ti_nle c_7; have := ti_eq c_9; have k400 : (400 : Int32).toInt = 400 := (by decide); have e9 := ti_eq ((hw_14).2 (by omega)); have u9 := ti_up (i := tk_3) (n := 400) (by omega); have u1 := ti_up (i := i_2) (n := fl9) (by omega); omega), (by have : (0 : Int32).toInt = 0 := (by decide); have := ti_nle c_7; have := ti_eq c_9; have k400 : (400 : Int32).toInt = 400 := (by decide); have e9 := ti_eq ((hw_14).2 (by omega)); have u9 := ti_up (i := tk_3) (n := 400) (by omega); have u1 := ti_up (i := i_2) (n := fl9) (by omega); omega)⟩, (by have : (0 : Int32).toInt = 0 := (by decide); have := ti_nle c_7; have := ti_eq c_9; have k400 : (400 : Int32).toInt = 400 := (by decide); have e9 := ti_eq ((hw_14).2 (by omega)); have u9 := ti_up (i := tk_3) (n := 400) (by omega); have u1 := ti_up (i := i_2) (n := fl9) (by omega); omega)⟩⟩
  refine lv_iinc (v := i3_1 + (-1)) (lv' := [(3, .int (i3_1 + (-1))), (4, .int i_2), (0, .ref h0), (1, .int w), (2, .ref tp)]) hx hb dX5_write_26 hl (k := 1) rfl rfl (by decide) rfl (fun ls hl => ?_)
  refine lv_aload_n hx hb dX5_write_29 rfl (lv_at hl 4 rfl) ?_
  refine lv_iload_n hx hb dX5_write_30 rfl (lv_at hl 3 rfl) ?_
  refine lv_iload_n hx hb dX5_write_31 rfl (lv_at hl 0 rfl) ?_
  refine lv_ishr hx hb dX5_write_32 ?_
  refine lv_topi (fun y_15 _ => ?_)
  refine lv_iconst (v := 1) hx hb dX5_write_33 (by decide) ?_
  refine lv_iand hx hb dX5_write_34 ?_
  refine lv_topi (fun y_16 _ => ?_)
  refine lv_if_ne (tgt := 45) hx hb dX5_write_35 (by decide) (fun c_17 => ?_) (fun c_17 => ?_)
  · refine lv_aload_n hx hb dX5_write_45 rfl (lv_at hl 2 rfl) ?_
    refine va_get (D := D) (ci := 4) (v := .int fo) (C := RX5) (T := TX5) (N := 8) hx hb hts hig_Pwrite_X5 hown hK hP 2 rfl rfl 6 (by decide) (hts (.fieldLink RX5 31 "OneHandset$PairsForm" "o" "I") (List.mem_of_getElem? (i := 4) rfl)) (fun _ h9 => h9) rfl dX5_write_46 ?_
    refine go_v (wr := [(h0, .inr (4, [.int fw, .int fb, .int fa, .int fc, .int fp, .int fz, .int fo, .int fl9]))]) (tysr := [(cI, .int)]) hP hD hS hA hK [0, 1] [2] [0] rfl rfl (by decide) (by decide) rfl (va_runV (As := [.int fo]) (rest := []) ⟨hx, hb, hml, hown, hts⟩ (g_append l D H.size tp ta cI tk_3 tf_4 fo (by have : (0 : Int32).toInt = 0 := (by decide); have := ti_nle c_7; have := ti_ne c_9; have := ti_ne c_17; omega)) (cwV 1 hts gX5_write_X7_append rfl rfl rfl (by decide +kernel) ⟨Nat.le_of_ble_eq_true rfl, Nat.le_of_ble_eq_true rfl⟩) (st_preV (ci := 6) (q0 := 0) hP hD hK hNW [0, 1] [0] rfl rfl (by decide) rfl rfl rfl rfl) rfl rfl hl.1 rfl (lv_room (Nat.le_of_ble_eq_true rfl)) dX5_write_49 ⟨(Nat.le_of_ble_eq_true rfl), (Nat.le_of_ble_eq_true rfl)⟩) (fun u H locs hw hP hD hK hS => ?_)
    obtain ⟨tk_19, tf_20⟩ := u
    have hw : bi tk_19 0 120 ∧ (tk_3.toInt < 120 → tk_19 = tk_3 + 1) := hw
    have hw_21 := hw
    have hP : va_P D vwCl [(h0, .inr (4, [.int fw, .int fb, .int fa, .int fc, .int fp, .int fz, .int fo, .int fl9])), (tp, .inr (6, [.ref ta, .int tk_19])), (ta, .inl (cI, 120, .inl tf_20))] H := hP
    have hD : va_D A [(h0, .inr (4, [.int fw, .int fb, .int fa, .int fc, .int fp, .int fz, .int fo, .int fl9])), (tp, .inr (6, [.ref ta, .int tk_19])), (ta, .inl (cI, 120, .inl tf_20))] := hD
    have hK : va_K D vwCl [(cI, .int)] s := hK
    refine lv_goto (tgt := 65) hx hb dX5_write_52 (by decide) ?_
    refine lv_iinc (v := i_2 + 1) (lv' := [(4, .int (i_2 + 1)), (3, .int (i3_1 + (-1))), (0, .ref h0), (1, .int w), (2, .ref tp)]) hx hb dX5_write_65 hl (k := 1) rfl rfl (by decide) rfl (fun ls hl => ?_)
    refine lv_goto (tgt := 8) hx hb dX5_write_68 (by decide) ?_
    exact ih_5 _ _ _ _ (by have : (0 : Int32).toInt = 0 := (by decide); have := ti_nle c_7; have := ti_ne c_9; have := ti_ne c_17; have u1 := ti_up (i := i_2) (n := fl9) (by omega); omega) ⟨i3_1 + (-1), i_2 + 1, tk_19, tf_20, rfl, ⟨hP, hD⟩, hS, lv_sub hl [0, 1, 2, 3, 4] rfl, ⟨⟨(by have : (0 : Int32).toInt = 0 := (by decide); have := ti_nle c_7; have := ti_ne c_9; have := ti_ne c_17; have k400 : (400 : Int32).toInt = 400 := (by decide); have e9 := ti_eq ((hw_21).2 (by omega)); have u9 := ti_up (i := tk_3) (n := 400) (by omega); have u1 := ti_up (i := i_2) (n := fl9) (by omega); omega), (by have : (0 : Int32).toInt = 0 := (by decide); have := ti_nle c_7; have := ti_ne c_9; have := ti_ne c_17; have k400 : (400 : Int32).toInt = 400 := (by decide); have e9 := ti_eq ((hw_21).2 (by omega)); have u9 := ti_up (i := tk_3) (n := 400) (by omega); have u1 := ti_up (i := i_2) (n := fl9) (by omega); omega)⟩, (by have : (0 : Int32).toInt = 0 := (by decide); have := ti_nle c_7; have := ti_ne c_9; have := ti_ne c_17; have k400 : (400 : Int32).toInt = 400 := (by decide); have e9 := ti_eq ((hw_21).2 (by omega)); have u9 := ti_up (i := tk_3) (n := 400) (by omega); have u1 := ti_up (i := i_2) (n := fl9) (by omega); omega)⟩⟩
  refine lv_aload_n hx hb dX5_write_38 rfl (lv_at hl 2 rfl) ?_
  refine va_get (D := D) (ci := 4) (v := .int fz) (C := RX5) (T := TX5) (N := 8) hx hb hts hig_Pwrite_X5 hown hK hP 2 rfl rfl 5 (by decide) (hts (.fieldLink RX5 28 "OneHandset$PairsForm" "z" "I") (List.mem_of_getElem? (i := 3) rfl)) (fun _ h9 => h9) rfl dX5_write_39 ?_
  refine lv_goto (tgt := 49) hx hb dX5_write_42 (by decide) ?_
  refine go_v (wr := [(h0, .inr (4, [.int fw, .int fb, .int fa, .int fc, .int fp, .int fz, .int fo, .int fl9]))]) (tysr := [(cI, .int)]) hP hD hS hA hK [0, 1] [2] [0] rfl rfl (by decide) (by decide) rfl (va_runV (As := [.int fz]) (rest := []) ⟨hx, hb, hml, hown, hts⟩ (g_append l D H.size tp ta cI tk_3 tf_4 fz (by have : (0 : Int32).toInt = 0 := (by decide); have := ti_nle c_7; have := ti_ne c_9; have := ti_eq c_17; omega)) (cwV 1 hts gX5_write_X7_append rfl rfl rfl (by decide +kernel) ⟨Nat.le_of_ble_eq_true rfl, Nat.le_of_ble_eq_true rfl⟩) (st_preV (ci := 6) (q0 := 0) hP hD hK hNW [0, 1] [0] rfl rfl (by decide) rfl rfl rfl rfl) rfl rfl hl.1 rfl (lv_room (Nat.le_of_ble_eq_true rfl)) dX5_write_49 ⟨(Nat.le_of_ble_eq_true rfl), (Nat.le_of_ble_eq_true rfl)⟩) (fun u H locs hw hP hD hK hS => ?_)
  obtain ⟨tk_23, tf_24⟩ := u
  have hw : bi tk_23 0 120 ∧ (tk_3.toInt < 120 → tk_23 = tk_3 + 1) := hw
  have hw_25 := hw
  have hP : va_P D vwCl [(h0, .inr (4, [.int fw, .int fb, .int fa, .int fc, .int fp, .int fz, .int fo, .int fl9])), (tp, .inr (6, [.ref ta, .int tk_23])), (ta, .inl (cI, 120, .inl tf_24))] H := hP
  have hD : va_D A [(h0, .inr (4, [.int fw, .int fb, .int fa, .int fc, .int fp, .int fz, .int fo, .int fl9])), (tp, .inr (6, [.ref ta, .int tk_23])), (ta, .inl (cI, 120, .inl tf_24))] := hD
  have hK : va_K D vwCl [(cI, .int)] s := hK
  refine lv_goto (tgt := 65) hx hb dX5_write_52 (by decide) ?_
  refine lv_iinc (v := i_2 + 1) (lv' := [(4, .int (i_2 + 1)), (3, .int (i3_1 + (-1))), (0, .ref h0), (1, .int w), (2, .ref tp)]) hx hb dX5_write_65 hl (k := 1) rfl rfl (by decide) rfl (fun ls hl => ?_)
  refine lv_goto (tgt := 8) hx hb dX5_write_68 (by decide) ?_
  exact ih_5 _ _ _ _ (by have : (0 : Int32).toInt = 0 := (by decide); have := ti_nle c_7; have := ti_ne c_9; have := ti_eq c_17; have u1 := ti_up (i := i_2) (n := fl9) (by omega); omega) ⟨i3_1 + (-1), i_2 + 1, tk_23, tf_24, rfl, ⟨hP, hD⟩, hS, lv_sub hl [0, 1, 2, 3, 4] rfl, ⟨⟨(by have : (0 : Int32).toInt = 0 := (by decide); have := ti_nle c_7; have := ti_ne c_9; have := ti_eq c_17; have k400 : (400 : Int32).toInt = 400 := (by decide); have e9 := ti_eq ((hw_25).2 (by omega)); have u9 := ti_up (i := tk_3) (n := 400) (by omega); have u1 := ti_up (i := i_2) (n := fl9) (by omega); omega), (by have : (0 : Int32).toInt = 0 := (by decide); have := ti_nle c_7; have := ti_ne c_9; have := ti_eq c_17; have k400 : (400 : Int32).toInt = 400 := (by decide); have e9 := ti_eq ((hw_25).2 (by omega)); have u9 := ti_up (i := tk_3) (n := 400) (by omega); have u1 := ti_up (i := i_2) (n := fl9) (by omega); omega)⟩, (by have : (0 : Int32).toInt = 0 := (by decide); have := ti_nle c_7; have := ti_ne c_9; have := ti_eq c_17; have k400 : (400 : Int32).toInt = 400 := (by decide); have e9 := ti_eq ((hw_25).2 (by omega)); have u9 := ti_up (i := tk_3) (n := 400) (by omega); have u1 := ti_up (i := i_2) (n := fl9) (by omega); omega)⟩⟩
theorem hig_Pdecode_X7 : ∀ w ∈ wsX70, w ∈ wsX5_decode := mem_pl [42, 43] rfl
theorem hig_Pdecode_X5 : ∀ w ∈ wsX50, w ∈ wsX5_decode := mem_pl [44, 45, 46, 47, 48, 49, 50, 51] rfl
set_option maxHeartbeats 4000000 in
set_option maxRecDepth 100000 in
theorem g_Pdecode (l : Launch) (D : va_G) (sz : Nat) (h0 : Nat) (fw : Int32) (fb : Int32) (fa : Int32) (fc : Int32) (fp : Int32) (fz : Int32) (fo : Int32) (fl9 : Int32) (tp : Nat) (ta : Nat) (cI : ClassId) (tk : Int32) (tf : Nat → Int32) (w : Int32) (hk : bi tk 0 120) : Ci l yX5_decode wsX5_decode ({ frames := 4, cells := 0, slots := 0, locals := 89 } : Room) D [.ref h0, .ref tp, .int w] [(h0, .inr (4, [.int fw, .int fb, .int fa, .int fc, .int fp, .int fz, .int fo, .int fl9])), (tp, .inr (6, [.ref ta, .int tk])), (ta, .inl (cI, 120, .inl tf))] [(cI, .int)] sz (fun (r : Int32) => fun (_ : Unit) => True) (fun (_ : Unit) => [(h0, .inr (4, [.int fw, .int fb, .int fa, .int fc, .int fp, .int fz, .int fo, .int fl9])), (tp, .inr (6, [.ref ta, .int tk])), (ta, .inl (cI, 120, .inl tf))]) (fun (_ : Unit) => []) := by
  refine ct_i (cc := cX5_decode) (maxL := 7) (ret := (some .int)) (by decide) rfl (Nat.le_of_ble_eq_true rfl) ?_
  intro p e s m below meth c A ls H hx hb hr hts hown hml hlocks hin hA hS hP hK hD hNW hl hAe hsz
  have hl : lv_has ls 7 [(0, .ref h0), (1, .ref tp), (2, .int w)] := hl
  refine lv_iconst (v := 0) hx hb dX5_decode_0 (by decide) ?_
  refine lv_istore_n (lv' := [(3, .int 0), (0, .ref h0), (1, .ref tp), (2, .int w)]) hx hb dX5_decode_1 rfl hl (by decide) rfl (fun ls hl => ?_)
  refine lv_iconst (v := 0) hx hb dX5_decode_2 (by decide) ?_
  refine lv_istore (lv' := [(4, .int 0), (3, .int 0), (0, .ref h0), (1, .ref tp), (2, .int w)]) hx hb dX5_decode_3 hl (by decide) rfl (fun ls hl => ?_)
  refine lp_N (fun n9 H locs ls => ∃ (i3_1 : Int32), ∃ (i_2 : Int32), n9 = (tk.toInt - i_2.toInt).toNat ∧ (va_P D vwCl [(h0, .inr (4, [.int fw, .int fb, .int fa, .int fc, .int fp, .int fz, .int fo, .int fl9])), (tp, .inr (6, [.ref ta, .int tk])), (ta, .inl (cI, 120, .inl tf))] H ∧ va_D A [(h0, .inr (4, [.int fw, .int fb, .int fa, .int fc, .int fp, .int fz, .int fo, .int fl9])), (tp, .inr (6, [.ref ta, .int tk])), (ta, .inl (cI, 120, .inl tf))]) ∧ va_S A s.heap H locs ∧ lv_has ls 7 [(4, .int i_2), (3, .int i3_1), (0, .ref h0), (1, .ref tp), (2, .int w)] ∧ (0 ≤ i_2.toInt)) ?_ ⟨0, 0, rfl, ⟨hP, hD⟩, hS, hl, (by decide)⟩
  intro n9 ih_3 H locs ls hI
  obtain ⟨i3_1, i_2, rfl, ⟨hP, hD⟩, hS, hl, hv_4⟩ := hI
  refine lv_iload hx hb dX5_decode_5 (lv_at hl 0 rfl) ?_
  refine lv_aload_n hx hb dX5_decode_7 rfl (lv_at hl 3 rfl) ?_
  refine va_getN (D := D) (ci := 6) (v := .int tk) (C := RX7) (T := TX7) (N := 2) hx hb hts hig_Pdecode_X7 hown hK hP 1 rfl rfl 1 (by decide) (va_Nw.use rfl (hNW.1 ("OneHandset$PairsForm", 51, "OneHandset$Tape", "size", "I", "OneHandset") (List.mem_of_getElem? (l := nw_F) (i := 3) rfl))) (fun _ h9 => h9) rfl dX5_decode_8 ?_
  refine lv_icmp_ge (tgt := 111) hx hb dX5_decode_11 (by decide) (fun c_5 => ?_) (fun c_5 => ?_)
  · refine lv_aload_n hx hb dX5_decode_111 rfl (lv_at hl 3 rfl) ?_
    refine va_getN (D := D) (ci := 6) (v := .int tk) (C := RX7) (T := TX7) (N := 2) hx hb hts hig_Pdecode_X7 hown hK hP 1 rfl rfl 1 (by decide) (va_Nw.use rfl (hNW.1 ("OneHandset$PairsForm", 51, "OneHandset$Tape", "size", "I", "OneHandset") (List.mem_of_getElem? (l := nw_F) (i := 3) rfl))) (fun _ h9 => h9) rfl dX5_decode_112 ?_
    refine lv_aload_n hx hb dX5_decode_115 rfl (lv_at hl 2 rfl) ?_
    refine va_get (D := D) (ci := 4) (v := .int fl9) (C := RX5) (T := TX5) (N := 8) hx hb hts hig_Pdecode_X5 hown hK hP 0 rfl rfl 7 (by decide) (hts (.fieldLink RX5 34 "OneHandset$PairsForm" "length" "I") (List.mem_of_getElem? (i := 1) rfl)) (fun _ h9 => h9) rfl dX5_decode_116 ?_
    refine lv_icmp_ge (tgt := 132) hx hb dX5_decode_119 (by decide) (fun c_6 => ?_) (fun c_6 => ?_)
    · refine lv_iload_n hx hb dX5_decode_132 rfl (lv_at hl 1 rfl) ?_
      exact ret_i hx hb hr hlocks rfl (u := ()) trivial (hP.sub [0, 1, 2] rfl) (hK.sub [] rfl) (hD.sub [0, 1, 2] (by decide) rfl) hS (Nat.le_of_ble_eq_true rfl) (Nat.le_of_ble_eq_true rfl) dX5_decode_133
    refine lv_aload_n hx hb dX5_decode_122 rfl (lv_at hl 3 rfl) ?_
    refine va_getN (D := D) (ci := 6) (v := .int tk) (C := RX7) (T := TX7) (N := 2) hx hb hts hig_Pdecode_X7 hown hK hP 1 rfl rfl 1 (by decide) (va_Nw.use rfl (hNW.1 ("OneHandset$PairsForm", 51, "OneHandset$Tape", "size", "I", "OneHandset") (List.mem_of_getElem? (l := nw_F) (i := 3) rfl))) (fun _ h9 => h9) rfl dX5_decode_123 ?_
    refine go_i (wr := [(h0, .inr (4, [.int fw, .int fb, .int fa, .int fc, .int fp, .int fz, .int fo, .int fl9])), (tp, .inr (6, [.ref ta, .int tk])), (ta, .inl (cI, 120, .inl tf))]) (tysr := [(cI, .int)]) hP hD hS hA hK [] [0, 1, 2] [0] rfl rfl (by decide) (by decide) rfl (va_runSN (As := [.int tk]) (rest := []) ⟨hx, hb, hml, hown, hts⟩ (g_fault l D H.size tk ) ⟨(va_cnB (own := RX5) (host := RX8) (index := 54) 1 hts gX5_decode_X8_fault_n54 rfl rfl rfl (hNW.2.1 (RX5, 54, yX8_fault, RX8) (List.mem_of_getElem? (l := nw_M) (i := 10) rfl)) (hts (.initialized RX8) (List.mem_of_getElem? (i := 5) rfl)) (by decide +kernel) ⟨Nat.le_of_ble_eq_true rfl, Nat.le_of_ble_eq_true rfl⟩), (hts (.static yX8_fault) (List.mem_of_getElem? (i := 4) rfl)), trivial⟩ (st_preS hP hD hK hNW [] [] rfl rfl (by decide) rfl) rfl rfl hl.1 rfl (lv_room (Nat.le_of_ble_eq_true rfl)) dX5_decode_126 ⟨(Nat.le_of_ble_eq_true rfl), (Nat.le_of_ble_eq_true rfl)⟩) (fun r_7 u H locs hw hP hD hK hS => ?_)
    have hP : va_P D vwCl [(h0, .inr (4, [.int fw, .int fb, .int fa, .int fc, .int fp, .int fz, .int fo, .int fl9])), (tp, .inr (6, [.ref ta, .int tk])), (ta, .inl (cI, 120, .inl tf))] H := hP
    have hD : va_D A [(h0, .inr (4, [.int fw, .int fb, .int fa, .int fc, .int fp, .int fz, .int fo, .int fl9])), (tp, .inr (6, [.ref ta, .int tk])), (ta, .inl (cI, 120, .inl tf))] := hD
    have hK : va_K D vwCl [(cI, .int)] s := hK
    refine lv_goto (tgt := 133) hx hb dX5_decode_129 (by decide) ?_
    exact ret_i hx hb hr hlocks rfl (u := ()) trivial (hP.sub [0, 1, 2] rfl) (hK.sub [] rfl) (hD.sub [0, 1, 2] (by decide) rfl) hS (Nat.le_of_ble_eq_true rfl) (Nat.le_of_ble_eq_true rfl) dX5_decode_133
  refine lv_iload hx hb dX5_decode_14 (lv_at hl 0 rfl) ?_
  refine lv_aload_n hx hb dX5_decode_16 rfl (lv_at hl 2 rfl) ?_
  refine va_get (D := D) (ci := 4) (v := .int fl9) (C := RX5) (T := TX5) (N := 8) hx hb hts hig_Pdecode_X5 hown hK hP 0 rfl rfl 7 (by decide) (hts (.fieldLink RX5 34 "OneHandset$PairsForm" "length" "I") (List.mem_of_getElem? (i := 1) rfl)) (fun _ h9 => h9) rfl dX5_decode_17 ?_
  refine lv_icmp_lt (tgt := 29) hx hb dX5_decode_20 (by decide) (fun c_8 => ?_) (fun c_8 => ?_)
  · refine lv_aload_n hx hb dX5_decode_29 rfl (lv_at hl 3 rfl) ?_
    refine lv_iload hx hb dX5_decode_30 (lv_at hl 0 rfl) ?_
    refine go_i (wr := [(h0, .inr (4, [.int fw, .int fb, .int fa, .int fc, .int fp, .int fz, .int fo, .int fl9]))]) (tysr := [(cI, .int)]) hP hD hS hA hK [1, 2] [0] [0] rfl rfl (by decide) (by decide) rfl (va_runV (As := [.int i_2]) (rest := []) ⟨hx, hb, hml, hown, hts⟩ (g_at l D H.size tp ta cI tk tf i_2 (by first | assumption | omega)) (cwV 1 hts gX5_decode_X7_at rfl rfl rfl (by decide +kernel) ⟨Nat.le_of_ble_eq_true rfl, Nat.le_of_ble_eq_true rfl⟩) (st_preV (ci := 6) (q0 := 1) hP hD hK hNW [1, 2] [0] rfl rfl (by decide) rfl rfl rfl rfl) rfl rfl hl.1 rfl (lv_room (Nat.le_of_ble_eq_true rfl)) dX5_decode_32 ⟨(Nat.le_of_ble_eq_true rfl), (Nat.le_of_ble_eq_true rfl)⟩) (fun r_9 u H locs hw hP hD hK hS => ?_)
    have hP : va_P D vwCl [(h0, .inr (4, [.int fw, .int fb, .int fa, .int fc, .int fp, .int fz, .int fo, .int fl9])), (tp, .inr (6, [.ref ta, .int tk])), (ta, .inl (cI, 120, .inl tf))] H := hP
    have hD : va_D A [(h0, .inr (4, [.int fw, .int fb, .int fa, .int fc, .int fp, .int fz, .int fo, .int fl9])), (tp, .inr (6, [.ref ta, .int tk])), (ta, .inl (cI, 120, .inl tf))] := hD
    have hK : va_K D vwCl [(cI, .int)] s := hK
    refine lv_istore (lv' := [(5, .int r_9), (4, .int i_2), (3, .int i3_1), (0, .ref h0), (1, .ref tp), (2, .int w)]) hx hb dX5_decode_35 hl (by decide) rfl (fun ls hl => ?_)
    refine lv_aload_n hx hb dX5_decode_37 rfl (lv_at hl 3 rfl) ?_
    refine lv_iload hx hb dX5_decode_38 (lv_at hl 1 rfl) ?_
    refine go_i (wr := [(tp, .inr (6, [.ref ta, .int tk])), (ta, .inl (cI, 120, .inl tf))]) (tysr := [(cI, .int)]) hP hD hS hA hK [0] [1, 2] [0] rfl rfl (by decide) (by decide) rfl (va_runV (As := [.int i_2]) (rest := []) ⟨hx, hb, hml, hown, hts⟩ (g_tellsBit l D H.size h0 fw fb fa fc fp fz fo fl9 i_2 ) (cwV 1 hts gX5_decode_X5_tellsBit rfl rfl rfl (by decide +kernel) ⟨Nat.le_of_ble_eq_true rfl, Nat.le_of_ble_eq_true rfl⟩) (st_preV (ci := 4) (q0 := 0) hP hD hK hNW [0] [] rfl rfl (by decide) rfl rfl rfl rfl) rfl rfl hl.1 rfl (lv_room (Nat.le_of_ble_eq_true rfl)) dX5_decode_40 ⟨(Nat.le_of_ble_eq_true rfl), (Nat.le_of_ble_eq_true rfl)⟩) (fun r_10 u H locs hw hP hD hK hS => ?_)
    have hP : va_P D vwCl [(tp, .inr (6, [.ref ta, .int tk])), (ta, .inl (cI, 120, .inl tf)), (h0, .inr (4, [.int fw, .int fb, .int fa, .int fc, .int fp, .int fz, .int fo, .int fl9]))] H := hP
    have hD : va_D A [(tp, .inr (6, [.ref ta, .int tk])), (ta, .inl (cI, 120, .inl tf)), (h0, .inr (4, [.int fw, .int fb, .int fa, .int fc, .int fp, .int fz, .int fo, .int fl9]))] := hD
    have hK : va_K D vwCl [(cI, .int)] s := hK
    refine lv_if_eq (tgt := 84) hx hb dX5_decode_43 (by decide) (fun c_11 => ?_) (fun c_11 => ?_)
    · refine lv_iload hx hb dX5_decode_84 (lv_at hl 0 rfl) ?_
      refine lv_aload_n hx hb dX5_decode_86 rfl (lv_at hl 3 rfl) ?_
      refine lv_iload hx hb dX5_decode_87 (lv_at hl 1 rfl) ?_
      refine go_i (wr := [(tp, .inr (6, [.ref ta, .int tk])), (ta, .inl (cI, 120, .inl tf))]) (tysr := [(cI, .int)]) hP hD hS hA hK [2] [0, 1] [0] rfl rfl (by decide) (by decide) rfl (va_runV (As := [.int i_2]) (rest := [.int r_9]) ⟨hx, hb, hml, hown, hts⟩ (g_plainTime l D H.size h0 fw fb fa fc fp fz fo fl9 i_2 ) (cwV 1 hts gX5_decode_X5_plainTime rfl rfl rfl (by decide +kernel) ⟨Nat.le_of_ble_eq_true rfl, Nat.le_of_ble_eq_true rfl⟩) (st_preV (ci := 4) (q0 := 2) hP hD hK hNW [2] [] rfl rfl (by decide) rfl rfl rfl rfl) rfl rfl hl.1 rfl (lv_room (Nat.le_of_ble_eq_true rfl)) dX5_decode_89 ⟨(Nat.le_of_ble_eq_true rfl), (Nat.le_of_ble_eq_true rfl)⟩) (fun r_12 u H locs hw hP hD hK hS => ?_)
      have hP : va_P D vwCl [(tp, .inr (6, [.ref ta, .int tk])), (ta, .inl (cI, 120, .inl tf)), (h0, .inr (4, [.int fw, .int fb, .int fa, .int fc, .int fp, .int fz, .int fo, .int fl9]))] H := hP
      have hD : va_D A [(tp, .inr (6, [.ref ta, .int tk])), (ta, .inl (cI, 120, .inl tf)), (h0, .inr (4, [.int fw, .int fb, .int fa, .int fc, .int fp, .int fz, .int fo, .int fl9]))] := hD
      have hK : va_K D vwCl [(cI, .int)] s := hK
      refine lv_iload_n hx hb dX5_decode_92 rfl (lv_at hl 5 rfl) ?_
      refine go_i (wr := [(tp, .inr (6, [.ref ta, .int tk])), (ta, .inl (cI, 120, .inl tf)), (h0, .inr (4, [.int fw, .int fb, .int fa, .int fc, .int fp, .int fz, .int fo, .int fl9]))]) (tysr := [(cI, .int)]) hP hD hS hA hK [] [0, 1, 2] [0] rfl rfl (by decide) (by decide) rfl (va_runSN (As := [.int r_9, .int r_12, .int w]) (rest := []) ⟨hx, hb, hml, hown, hts⟩ (g_fits l D H.size r_9 r_12 w ) ⟨(va_cnB (own := RX5) (host := RX8) (index := 64) 3 hts gX5_decode_X8_fits_n64 rfl rfl rfl (hNW.2.1 (RX5, 64, yX8_fits, RX8) (List.mem_of_getElem? (l := nw_M) (i := 12) rfl)) (hts (.initialized RX8) (List.mem_of_getElem? (i := 5) rfl)) (by decide +kernel) ⟨Nat.le_of_ble_eq_true rfl, Nat.le_of_ble_eq_true rfl⟩), (hts (.static yX8_fits) (List.mem_of_getElem? (i := 29) rfl)), trivial⟩ (st_preS hP hD hK hNW [] [] rfl rfl (by decide) rfl) rfl rfl hl.1 rfl (lv_room (Nat.le_of_ble_eq_true rfl)) dX5_decode_93 ⟨(Nat.le_of_ble_eq_true rfl), (Nat.le_of_ble_eq_true rfl)⟩) (fun r_13 u H locs hw hP hD hK hS => ?_)
      have hP : va_P D vwCl [(tp, .inr (6, [.ref ta, .int tk])), (ta, .inl (cI, 120, .inl tf)), (h0, .inr (4, [.int fw, .int fb, .int fa, .int fc, .int fp, .int fz, .int fo, .int fl9]))] H := hP
      have hD : va_D A [(tp, .inr (6, [.ref ta, .int tk])), (ta, .inl (cI, 120, .inl tf)), (h0, .inr (4, [.int fw, .int fb, .int fa, .int fc, .int fp, .int fz, .int fo, .int fl9]))] := hD
      have hK : va_K D vwCl [(cI, .int)] s := hK
      refine lv_if_ne (tgt := 105) hx hb dX5_decode_96 (by decide) (fun c_14 => ?_) (fun c_14 => ?_)
      · refine lv_iinc (v := i_2 + 1) (lv' := [(4, .int (i_2 + 1)), (5, .int r_9), (3, .int i3_1), (0, .ref h0), (1, .ref tp), (2, .int w)]) hx hb dX5_decode_105 hl (k := 1) rfl rfl (by decide) rfl (fun ls hl => ?_)
        refine lv_goto (tgt := 5) hx hb dX5_decode_108 (by decide) ?_
        exact ih_3 _ _ _ _ (by have : (0 : Int32).toInt = 0 := (by decide); have := ti_nle c_5; have := ti_lt c_8; have := ti_eq c_11; have := ti_ne c_14; have u1 := ti_up (i := i_2) (n := tk) (by omega); omega) ⟨i3_1, i_2 + 1, rfl, ⟨hP.sub [2, 0, 1] rfl, hD.sub [2, 0, 1] (by decide) rfl⟩, hS, lv_sub hl [0, 2, 3, 4, 5] rfl, (by have : (0 : Int32).toInt = 0 := (by decide); have := ti_nle c_5; have := ti_lt c_8; have := ti_eq c_11; have := ti_ne c_14; have u1 := ti_up (i := i_2) (n := tk) (by omega); omega)⟩
      refine lv_iload hx hb dX5_decode_99 (lv_at hl 1 rfl) ?_
      refine go_i (wr := [(tp, .inr (6, [.ref ta, .int tk])), (ta, .inl (cI, 120, .inl tf)), (h0, .inr (4, [.int fw, .int fb, .int fa, .int fc, .int fp, .int fz, .int fo, .int fl9]))]) (tysr := [(cI, .int)]) hP hD hS hA hK [] [0, 1, 2] [0] rfl rfl (by decide) (by decide) rfl (va_runSN (As := [.int i_2]) (rest := []) ⟨hx, hb, hml, hown, hts⟩ (g_fault l D H.size i_2 ) ⟨(va_cnB (own := RX5) (host := RX8) (index := 54) 1 hts gX5_decode_X8_fault_n54 rfl rfl rfl (hNW.2.1 (RX5, 54, yX8_fault, RX8) (List.mem_of_getElem? (l := nw_M) (i := 10) rfl)) (hts (.initialized RX8) (List.mem_of_getElem? (i := 5) rfl)) (by decide +kernel) ⟨Nat.le_of_ble_eq_true rfl, Nat.le_of_ble_eq_true rfl⟩), (hts (.static yX8_fault) (List.mem_of_getElem? (i := 4) rfl)), trivial⟩ (st_preS hP hD hK hNW [] [] rfl rfl (by decide) rfl) rfl rfl hl.1 rfl (lv_room (Nat.le_of_ble_eq_true rfl)) dX5_decode_101 ⟨(Nat.le_of_ble_eq_true rfl), (Nat.le_of_ble_eq_true rfl)⟩) (fun r_15 u H locs hw hP hD hK hS => ?_)
      have hP : va_P D vwCl [(tp, .inr (6, [.ref ta, .int tk])), (ta, .inl (cI, 120, .inl tf)), (h0, .inr (4, [.int fw, .int fb, .int fa, .int fc, .int fp, .int fz, .int fo, .int fl9]))] H := hP
      have hD : va_D A [(tp, .inr (6, [.ref ta, .int tk])), (ta, .inl (cI, 120, .inl tf)), (h0, .inr (4, [.int fw, .int fb, .int fa, .int fc, .int fp, .int fz, .int fo, .int fl9]))] := hD
      have hK : va_K D vwCl [(cI, .int)] s := hK
      exact ret_i hx hb hr hlocks rfl (u := ()) trivial (hP.sub [2, 0, 1] rfl) (hK.sub [] rfl) (hD.sub [2, 0, 1] (by decide) rfl) hS (Nat.le_of_ble_eq_true rfl) (Nat.le_of_ble_eq_true rfl) dX5_decode_104
    refine lv_iload hx hb dX5_decode_46 (lv_at hl 0 rfl) ?_
    refine lv_aload_n hx hb dX5_decode_48 rfl (lv_at hl 3 rfl) ?_
    refine va_get (D := D) (ci := 4) (v := .int fz) (C := RX5) (T := TX5) (N := 8) hx hb hts hig_Pdecode_X5 hown hK hP 2 rfl rfl 5 (by decide) (hts (.fieldLink RX5 28 "OneHandset$PairsForm" "z" "I") (List.mem_of_getElem? (i := 2) rfl)) (fun _ h9 => h9) rfl dX5_decode_49 ?_
    refine lv_aload_n hx hb dX5_decode_52 rfl (lv_at hl 3 rfl) ?_
    refine va_get (D := D) (ci := 4) (v := .int fo) (C := RX5) (T := TX5) (N := 8) hx hb hts hig_Pdecode_X5 hown hK hP 2 rfl rfl 6 (by decide) (hts (.fieldLink RX5 31 "OneHandset$PairsForm" "o" "I") (List.mem_of_getElem? (i := 3) rfl)) (fun _ h9 => h9) rfl dX5_decode_53 ?_
    refine lv_iload_n hx hb dX5_decode_56 rfl (lv_at hl 5 rfl) ?_
    refine go_i (wr := [(tp, .inr (6, [.ref ta, .int tk])), (ta, .inl (cI, 120, .inl tf)), (h0, .inr (4, [.int fw, .int fb, .int fa, .int fc, .int fp, .int fz, .int fo, .int fl9]))]) (tysr := [(cI, .int)]) hP hD hS hA hK [] [0, 1, 2] [0] rfl rfl (by decide) (by decide) rfl (va_runSN (As := [.int r_9, .int fz, .int fo, .int w]) (rest := []) ⟨hx, hb, hml, hown, hts⟩ (g_nearerOf l D H.size r_9 fz fo w ) ⟨(va_cnB (own := RX5) (host := RX8) (index := 60) 4 hts gX5_decode_X8_nearerOf_n60 rfl rfl rfl (hNW.2.1 (RX5, 60, yX8_nearerOf, RX8) (List.mem_of_getElem? (l := nw_M) (i := 11) rfl)) (hts (.initialized RX8) (List.mem_of_getElem? (i := 5) rfl)) (by decide +kernel) ⟨Nat.le_of_ble_eq_true rfl, Nat.le_of_ble_eq_true rfl⟩), (hts (.static yX8_nearerOf) (List.mem_of_getElem? (i := 22) rfl)), trivial⟩ (st_preS hP hD hK hNW [] [] rfl rfl (by decide) rfl) rfl rfl hl.1 rfl (lv_room (Nat.le_of_ble_eq_true rfl)) dX5_decode_57 ⟨(Nat.le_of_ble_eq_true rfl), (Nat.le_of_ble_eq_true rfl)⟩) (fun r_16 u H locs hw hP hD hK hS => ?_)
    have hw : r_16 = 0 ∨ r_16 = 1 ∨ r_16 = -1 := hw
    have hw_17 := hw
    have hP : va_P D vwCl [(tp, .inr (6, [.ref ta, .int tk])), (ta, .inl (cI, 120, .inl tf)), (h0, .inr (4, [.int fw, .int fb, .int fa, .int fc, .int fp, .int fz, .int fo, .int fl9]))] H := hP
    have hD : va_D A [(tp, .inr (6, [.ref ta, .int tk])), (ta, .inl (cI, 120, .inl tf)), (h0, .inr (4, [.int fw, .int fb, .int fa, .int fc, .int fp, .int fz, .int fo, .int fl9]))] := hD
    have hK : va_K D vwCl [(cI, .int)] s := hK
    refine lv_istore (lv' := [(6, .int r_16), (5, .int r_9), (4, .int i_2), (3, .int i3_1), (0, .ref h0), (1, .ref tp), (2, .int w)]) hx hb dX5_decode_60 hl (by decide) rfl (fun ls hl => ?_)
    refine lv_iload hx hb dX5_decode_62 (lv_at hl 0 rfl) ?_
    refine lv_iconst (v := (-1)) hx hb dX5_decode_64 (by decide) ?_
    refine lv_icmp_ne (tgt := 74) hx hb dX5_decode_65 (by decide) (fun c_18 => ?_) (fun c_18 => ?_)
    · refine lv_iload_n hx hb dX5_decode_74 rfl (lv_at hl 3 rfl) ?_
      refine lv_iconst (v := 2) hx hb dX5_decode_75 (by decide) ?_
      refine lv_imul hx hb dX5_decode_76 ?_
      refine lv_topi (fun y_19 _ => ?_)
      refine lv_iload hx hb dX5_decode_77 (lv_at hl 0 rfl) ?_
      refine lv_iadd hx hb dX5_decode_79 ?_
      refine lv_topi (fun y_20 _ => ?_)
      refine lv_istore_n (lv' := [(3, .int y_20), (6, .int r_16), (5, .int r_9), (4, .int i_2), (0, .ref h0), (1, .ref tp), (2, .int w)]) hx hb dX5_decode_80 rfl hl (by decide) rfl (fun ls hl => ?_)
      refine lv_goto (tgt := 105) hx hb dX5_decode_81 (by decide) ?_
      refine lv_iinc (v := i_2 + 1) (lv' := [(4, .int (i_2 + 1)), (3, .int y_20), (6, .int r_16), (5, .int r_9), (0, .ref h0), (1, .ref tp), (2, .int w)]) hx hb dX5_decode_105 hl (k := 3) rfl rfl (by decide) rfl (fun ls hl => ?_)
      refine lv_goto (tgt := 5) hx hb dX5_decode_108 (by decide) ?_
      exact ih_3 _ _ _ _ (by have : ((-1) : Int32).toInt = -1 := (by decide); have : (0 : Int32).toInt = 0 := (by decide); have := ti_nle c_5; have := ti_lt c_8; have := ti_ne c_11; have := ti_ne c_18; have u1 := ti_up (i := i_2) (n := tk) (by omega); omega) ⟨y_20, i_2 + 1, rfl, ⟨hP.sub [2, 0, 1] rfl, hD.sub [2, 0, 1] (by decide) rfl⟩, hS, lv_sub hl [0, 1, 4, 5, 6] rfl, (by have : ((-1) : Int32).toInt = -1 := (by decide); have : (0 : Int32).toInt = 0 := (by decide); have := ti_nle c_5; have := ti_lt c_8; have := ti_ne c_11; have := ti_ne c_18; have u1 := ti_up (i := i_2) (n := tk) (by omega); omega)⟩
    refine lv_iload hx hb dX5_decode_68 (lv_at hl 2 rfl) ?_
    refine go_i (wr := [(tp, .inr (6, [.ref ta, .int tk])), (ta, .inl (cI, 120, .inl tf)), (h0, .inr (4, [.int fw, .int fb, .int fa, .int fc, .int fp, .int fz, .int fo, .int fl9]))]) (tysr := [(cI, .int)]) hP hD hS hA hK [] [0, 1, 2] [0] rfl rfl (by decide) (by decide) rfl (va_runSN (As := [.int i_2]) (rest := []) ⟨hx, hb, hml, hown, hts⟩ (g_fault l D H.size i_2 ) ⟨(va_cnB (own := RX5) (host := RX8) (index := 54) 1 hts gX5_decode_X8_fault_n54 rfl rfl rfl (hNW.2.1 (RX5, 54, yX8_fault, RX8) (List.mem_of_getElem? (l := nw_M) (i := 10) rfl)) (hts (.initialized RX8) (List.mem_of_getElem? (i := 5) rfl)) (by decide +kernel) ⟨Nat.le_of_ble_eq_true rfl, Nat.le_of_ble_eq_true rfl⟩), (hts (.static yX8_fault) (List.mem_of_getElem? (i := 4) rfl)), trivial⟩ (st_preS hP hD hK hNW [] [] rfl rfl (by decide) rfl) rfl rfl hl.1 rfl (lv_room (Nat.le_of_ble_eq_true rfl)) dX5_decode_70 ⟨(Nat.le_of_ble_eq_true rfl), (Nat.le_of_ble_eq_true rfl)⟩) (fun r_21 u H locs hw hP hD hK hS => ?_)
    have hP : va_P D vwCl [(tp, .inr (6, [.ref ta, .int tk])), (ta, .inl (cI, 120, .inl tf)), (h0, .inr (4, [.int fw, .int fb, .int fa, .int fc, .int fp, .int fz, .int fo, .int fl9]))] H := hP
    have hD : va_D A [(tp, .inr (6, [.ref ta, .int tk])), (ta, .inl (cI, 120, .inl tf)), (h0, .inr (4, [.int fw, .int fb, .int fa, .int fc, .int fp, .int fz, .int fo, .int fl9]))] := hD
    have hK : va_K D vwCl [(cI, .int)] s := hK
    exact ret_i hx hb hr hlocks rfl (u := ()) trivial (hP.sub [2, 0, 1] rfl) (hK.sub [] rfl) (hD.sub [2, 0, 1] (by decide) rfl) hS (Nat.le_of_ble_eq_true rfl) (Nat.le_of_ble_eq_true rfl) dX5_decode_73
  refine lv_iload hx hb dX5_decode_23 (lv_at hl 0 rfl) ?_
  refine go_i (wr := [(h0, .inr (4, [.int fw, .int fb, .int fa, .int fc, .int fp, .int fz, .int fo, .int fl9])), (tp, .inr (6, [.ref ta, .int tk])), (ta, .inl (cI, 120, .inl tf))]) (tysr := [(cI, .int)]) hP hD hS hA hK [] [0, 1, 2] [0] rfl rfl (by decide) (by decide) rfl (va_runSN (As := [.int i_2]) (rest := []) ⟨hx, hb, hml, hown, hts⟩ (g_fault l D H.size i_2 ) ⟨(va_cnB (own := RX5) (host := RX8) (index := 54) 1 hts gX5_decode_X8_fault_n54 rfl rfl rfl (hNW.2.1 (RX5, 54, yX8_fault, RX8) (List.mem_of_getElem? (l := nw_M) (i := 10) rfl)) (hts (.initialized RX8) (List.mem_of_getElem? (i := 5) rfl)) (by decide +kernel) ⟨Nat.le_of_ble_eq_true rfl, Nat.le_of_ble_eq_true rfl⟩), (hts (.static yX8_fault) (List.mem_of_getElem? (i := 4) rfl)), trivial⟩ (st_preS hP hD hK hNW [] [] rfl rfl (by decide) rfl) rfl rfl hl.1 rfl (lv_room (Nat.le_of_ble_eq_true rfl)) dX5_decode_25 ⟨(Nat.le_of_ble_eq_true rfl), (Nat.le_of_ble_eq_true rfl)⟩) (fun r_22 u H locs hw hP hD hK hS => ?_)
  have hP : va_P D vwCl [(h0, .inr (4, [.int fw, .int fb, .int fa, .int fc, .int fp, .int fz, .int fo, .int fl9])), (tp, .inr (6, [.ref ta, .int tk])), (ta, .inl (cI, 120, .inl tf))] H := hP
  have hD : va_D A [(h0, .inr (4, [.int fw, .int fb, .int fa, .int fc, .int fp, .int fz, .int fo, .int fl9])), (tp, .inr (6, [.ref ta, .int tk])), (ta, .inl (cI, 120, .inl tf))] := hD
  have hK : va_K D vwCl [(cI, .int)] s := hK
  exact ret_i hx hb hr hlocks rfl (u := ()) trivial (hP.sub [0, 1, 2] rfl) (hK.sub [] rfl) (hD.sub [0, 1, 2] (by decide) rfl) hS (Nat.le_of_ble_eq_true rfl) (Nat.le_of_ble_eq_true rfl) dX5_decode_28
theorem hig_isOn_X2 : ∀ w ∈ wsX20, w ∈ wsX2_isOn := mem_pl [2, 3] rfl
set_option maxHeartbeats 4000000 in
set_option maxRecDepth 100000 in
theorem g_isOn (l : Launch) (D : va_G) (sz : Nat) (h0 : Nat) (fb : Int32) (fp : Int32) (v : Int32) (w : Int32) (hfb : bi fb 1 24) (hw9 : bi w 0 (2 * fb.toInt)) : Ci l yX2_isOn wsX2_isOn ({ frames := 0, cells := 0, slots := 0, locals := 0 } : Room) D [.ref h0, .int v, .int w] [(h0, .inr (1, [.int fb, .int fp]))] [] sz (fun (r : Int32) => fun (_ : Unit) => r = onh (cN fb) v (cN w)) (fun (_ : Unit) => [(h0, .inr (1, [.int fb, .int fp]))]) (fun (_ : Unit) => []) := by
  refine ct_i (cc := cX2_isOn) (maxL := 4) (ret := (some .boolean)) (by decide) rfl (Nat.le_of_ble_eq_true rfl) ?_
  intro p e s m below meth c A ls H hx hb hr hts hown hml hlocks hin hA hS hP hK hD hNW hl hAe hsz
  have hl : lv_has ls 4 [(0, .ref h0), (1, .int v), (2, .int w)] := hl
  refine lv_iload_n hx hb dX2_isOn_0 rfl (lv_at hl 2 rfl) ?_
  refine lv_if_ne (tgt := 6) hx hb dX2_isOn_1 (by decide) (fun c_1 => ?_) (fun c_1 => ?_)
  · refine lv_iload_n hx hb dX2_isOn_6 rfl (lv_at hl 1 rfl) ?_
    refine lv_aload_n hx hb dX2_isOn_7 rfl (lv_at hl 0 rfl) ?_
    refine va_get (D := D) (ci := 1) (v := .int fb) (C := RX2) (T := TX2) (N := 2) hx hb hts hig_isOn_X2 hown hK hP 0 rfl rfl 0 (by decide) (hts (.fieldLink RX2 9 "OneHandset$HalvesForm" "bits" "I") (List.mem_of_getElem? (i := 1) rfl)) (fun _ h9 => h9) rfl dX2_isOn_8 ?_
    refine lv_iload_n hx hb dX2_isOn_11 rfl (lv_at hl 2 rfl) ?_
    refine lv_iconst (v := 1) hx hb dX2_isOn_12 (by decide) ?_
    refine lv_iadd hx hb dX2_isOn_13 ?_
    refine lv_iconst (v := 2) hx hb dX2_isOn_14 (by decide) ?_
    refine lv_idiv hx hb dX2_isOn_15 (by decide) ?_
    refine lv_isub hx hb dX2_isOn_16 ?_
    refine lv_ishr hx hb dX2_isOn_17 ?_
    refine lv_iconst (v := 1) hx hb dX2_isOn_18 (by decide) ?_
    refine lv_iand hx hb dX2_isOn_19 ?_
    refine lv_istore_n (lv' := [(3, .int ((v >>> ((fb - ((w + 1) / 2)) &&& 31)) &&& 1)), (0, .ref h0), (1, .int v), (2, .int w)]) hx hb dX2_isOn_20 rfl hl (by decide) rfl (fun ls hl => ?_)
    refine lv_iload_n hx hb dX2_isOn_21 rfl (lv_at hl 3 rfl) ?_
    refine lv_iconst (v := 2) hx hb dX2_isOn_22 (by decide) ?_
    refine lv_irem hx hb dX2_isOn_23 (by decide) ?_
    refine lv_iconst (v := 1) hx hb dX2_isOn_24 (by decide) ?_
    refine lv_icmp_ne (tgt := 32) hx hb dX2_isOn_25 (by decide) (fun c_2 => ?_) (fun c_2 => ?_)
    · refine lv_iconst (v := 0) hx hb dX2_isOn_32 (by decide) ?_
      refine lv_iload_n hx hb dX2_isOn_33 rfl (lv_at hl 0 rfl) ?_
      refine lv_if_ne (tgt := 41) hx hb dX2_isOn_34 (by decide) (fun c_3 => ?_) (fun c_3 => ?_)
      · refine lv_iconst (v := 0) hx hb dX2_isOn_41 (by decide) ?_
        refine lv_icmp_ne (tgt := 49) hx hb dX2_isOn_42 (by decide) (fun c_4 => absurd c_4 (by decide)) (fun _ => ?_)
        refine lv_iconst (v := 1) hx hb dX2_isOn_45 (by decide) ?_
        refine lv_goto (tgt := 50) hx hb dX2_isOn_46 (by decide) ?_
        exact ret_i hx hb hr hlocks rfl (u := ()) (by rw [on_c hfb (by have : (0 : Int32).toInt = 0 := (by decide); have : (1 : Int32).toInt = 1 := (by decide); have := ti_ne c_1; have := ti_ne c_2; have := ti_ne c_3; have k0 : (0 : Int32).toInt = 0 := (by decide); omega), if_neg c_2, if_neg c_3]) (hP.sub [0] rfl) (hK.sub [] rfl) (hD.sub [0] (by decide) rfl) hS (Nat.le_of_ble_eq_true rfl) (Nat.le_of_ble_eq_true rfl) dX2_isOn_50
      refine lv_iconst (v := 1) hx hb dX2_isOn_37 (by decide) ?_
      refine lv_goto (tgt := 42) hx hb dX2_isOn_38 (by decide) ?_
      refine lv_icmp_ne (tgt := 49) hx hb dX2_isOn_42 (by decide) (fun _ => ?_) (fun c_5 => absurd c_5 (by decide))
      refine lv_iconst (v := 0) hx hb dX2_isOn_49 (by decide) ?_
      exact ret_i hx hb hr hlocks rfl (u := ()) (by rw [on_c hfb (by have : (0 : Int32).toInt = 0 := (by decide); have : (1 : Int32).toInt = 1 := (by decide); have := ti_ne c_1; have := ti_ne c_2; have := ti_eq c_3; have k0 : (0 : Int32).toInt = 0 := (by decide); omega), if_neg c_2, if_pos c_3]) (hP.sub [0] rfl) (hK.sub [] rfl) (hD.sub [0] (by decide) rfl) hS (Nat.le_of_ble_eq_true rfl) (Nat.le_of_ble_eq_true rfl) dX2_isOn_50
    refine lv_iconst (v := 1) hx hb dX2_isOn_28 (by decide) ?_
    refine lv_goto (tgt := 33) hx hb dX2_isOn_29 (by decide) ?_
    refine lv_iload_n hx hb dX2_isOn_33 rfl (lv_at hl 0 rfl) ?_
    refine lv_if_ne (tgt := 41) hx hb dX2_isOn_34 (by decide) (fun c_6 => ?_) (fun c_6 => ?_)
    · refine lv_iconst (v := 0) hx hb dX2_isOn_41 (by decide) ?_
      refine lv_icmp_ne (tgt := 49) hx hb dX2_isOn_42 (by decide) (fun _ => ?_) (fun c_7 => absurd c_7 (by decide))
      refine lv_iconst (v := 0) hx hb dX2_isOn_49 (by decide) ?_
      exact ret_i hx hb hr hlocks rfl (u := ()) (by rw [on_c hfb (by have : (0 : Int32).toInt = 0 := (by decide); have : (1 : Int32).toInt = 1 := (by decide); have := ti_ne c_1; have := ti_eq c_2; have := ti_ne c_6; have k0 : (0 : Int32).toInt = 0 := (by decide); omega), if_pos c_2, if_neg c_6]) (hP.sub [0] rfl) (hK.sub [] rfl) (hD.sub [0] (by decide) rfl) hS (Nat.le_of_ble_eq_true rfl) (Nat.le_of_ble_eq_true rfl) dX2_isOn_50
    refine lv_iconst (v := 1) hx hb dX2_isOn_37 (by decide) ?_
    refine lv_goto (tgt := 42) hx hb dX2_isOn_38 (by decide) ?_
    refine lv_icmp_ne (tgt := 49) hx hb dX2_isOn_42 (by decide) (fun c_8 => absurd c_8 (by decide)) (fun _ => ?_)
    refine lv_iconst (v := 1) hx hb dX2_isOn_45 (by decide) ?_
    refine lv_goto (tgt := 50) hx hb dX2_isOn_46 (by decide) ?_
    exact ret_i hx hb hr hlocks rfl (u := ()) (by rw [on_c hfb (by have : (0 : Int32).toInt = 0 := (by decide); have : (1 : Int32).toInt = 1 := (by decide); have := ti_ne c_1; have := ti_eq c_2; have := ti_eq c_6; have k0 : (0 : Int32).toInt = 0 := (by decide); omega), if_pos c_2, if_pos c_6]) (hP.sub [0] rfl) (hK.sub [] rfl) (hD.sub [0] (by decide) rfl) hS (Nat.le_of_ble_eq_true rfl) (Nat.le_of_ble_eq_true rfl) dX2_isOn_50
  refine lv_iconst (v := 1) hx hb dX2_isOn_4 (by decide) ?_
  exact ret_i hx hb hr hlocks rfl (u := ()) (on_0 c_1) (hP.sub [0] rfl) (hK.sub [] rfl) (hD.sub [0] (by decide) rfl) hS (Nat.le_of_ble_eq_true rfl) (Nat.le_of_ble_eq_true rfl) dX2_isOn_5
theorem hig_Hwrite_X2 : ∀ w ∈ wsX20, w ∈ wsX2_write := mem_pl [19, 20] rfl
set_option maxHeartbeats 4000000 in
set_option maxRecDepth 100000 in
theorem g_Hwrite (l : Launch) (D : va_G) (sz : Nat) (h0 : Nat) (fb : Int32) (fp : Int32) (tp : Nat) (ta : Nat) (cI : ClassId) (tk : Int32) (tf : Nat → Int32) (v : Int32) (hk0 : tk.toInt = 0) (hfb : bi fb 1 24) : Cv l yX2_write wsX2_write ({ frames := 1, cells := 0, slots := 0, locals := 23 } : Room) D [.ref h0, .int v, .ref tp] [(h0, .inr (1, [.int fb, .int fp])), (tp, .inr (6, [.ref ta, .int tk])), (ta, .inl (cI, 120, .inl tf))] [(cI, .int)] sz (fun (u9 : Int32 × (Nat → Int32)) => match u9 with | (tk2, tf2) => bi tk2 0 120 ∧ tk2 = nI (nHT (cN fb) v)) (fun (u9 : Int32 × (Nat → Int32)) => match u9 with | (tk2, tf2) => [(h0, .inr (1, [.int fb, .int fp])), (tp, .inr (6, [.ref ta, .int tk2])), (ta, .inl (cI, 120, .inl tf2))]) (fun (u9 : Int32 × (Nat → Int32)) => match u9 with | (tk2, tf2) => []) := by
  refine ct_v (cc := cX2_write) (maxL := 5) (ret := none) (by decide) rfl (Nat.le_of_ble_eq_true rfl) ?_
  intro p e s m below meth c A ls H hx hb hr hts hown hml hlocks hin hA hS hP hK hD hNW hl hAe hsz
  have hl : lv_has ls 5 [(0, .ref h0), (1, .int v), (2, .ref tp)] := hl
  refine jn_S 31 (fun st9 H locs ls => ∃ (q_1 : Int32), st9 = [.int q_1] ∧ (va_P D vwCl [(h0, .inr (1, [.int fb, .int fp])), (tp, .inr (6, [.ref ta, .int tk])), (ta, .inl (cI, 120, .inl tf))] H ∧ va_D A [(h0, .inr (1, [.int fb, .int fp])), (tp, .inr (6, [.ref ta, .int tk])), (ta, .inl (cI, 120, .inl tf))]) ∧ va_S A s.heap H locs ∧ lv_has ls 5 [(0, .ref h0), (1, .int v), (2, .ref tp)] ∧ (bi q_1 1 (2 * fb.toInt) ∧ cN q_1 = nHZ (cN fb) v)) ?_ ?_
  · intro st9 H locs ls hI
    obtain ⟨q_1, rfl, ⟨hP, hD⟩, hS, hl, hv_2⟩ := hI
    refine lv_istore_n (lv' := [(3, .int q_1), (0, .ref h0), (1, .int v), (2, .ref tp)]) hx hb dX2_write_31 rfl hl (by decide) rfl (fun ls hl => ?_)
    refine lv_aload_n hx hb dX2_write_32 rfl (lv_at hl 3 rfl) ?_
    refine lv_aload_n hx hb dX2_write_33 rfl (lv_at hl 1 rfl) ?_
    refine va_get (D := D) (ci := 1) (v := .int fp) (C := RX2) (T := TX2) (N := 2) hx hb hts hig_Hwrite_X2 hown hK hP 0 rfl rfl 1 (by decide) (hts (.fieldLink RX2 15 "OneHandset$HalvesForm" "p" "I") (List.mem_of_getElem? (i := 2) rfl)) (fun _ h9 => h9) rfl dX2_write_34 ?_
    refine go_v (wr := [(h0, .inr (1, [.int fb, .int fp]))]) (tysr := [(cI, .int)]) hP hD hS hA hK [1, 2] [0] [0] rfl rfl (by decide) (by decide) rfl (va_runV (As := [.int fp]) (rest := []) ⟨hx, hb, hml, hown, hts⟩ (g_append l D H.size tp ta cI tk tf fp (by omega)) (cwV 1 hts gX2_write_X7_append rfl rfl rfl (by decide +kernel) ⟨Nat.le_of_ble_eq_true rfl, Nat.le_of_ble_eq_true rfl⟩) (st_preV (ci := 6) (q0 := 1) hP hD hK hNW [1, 2] [0] rfl rfl (by decide) rfl rfl rfl rfl) rfl rfl hl.1 rfl (lv_room (Nat.le_of_ble_eq_true rfl)) dX2_write_37 ⟨(Nat.le_of_ble_eq_true rfl), (Nat.le_of_ble_eq_true rfl)⟩) (fun u H locs hw hP hD hK hS => ?_)
    obtain ⟨tk_4, tf_5⟩ := u
    have hw : bi tk_4 0 120 ∧ (tk.toInt < 120 → tk_4 = tk + 1) := hw
    have hw_6 := hw
    have hP : va_P D vwCl [(h0, .inr (1, [.int fb, .int fp])), (tp, .inr (6, [.ref ta, .int tk_4])), (ta, .inl (cI, 120, .inl tf_5))] H := hP
    have hD : va_D A [(h0, .inr (1, [.int fb, .int fp])), (tp, .inr (6, [.ref ta, .int tk_4])), (ta, .inl (cI, 120, .inl tf_5))] := hD
    have hK : va_K D vwCl [(cI, .int)] s := hK
    refine lv_iconst (v := 1) hx hb dX2_write_40 (by decide) ?_
    refine lv_istore (lv' := [(4, .int 1), (3, .int q_1), (0, .ref h0), (1, .int v), (2, .ref tp)]) hx hb dX2_write_41 hl (by decide) rfl (fun ls hl => ?_)
    refine lp_N (fun n9 H locs ls => ∃ (i_7 : Int32), ∃ (tk_8 : Int32), ∃ (tf_9 : Nat → Int32), n9 = (q_1.toInt + 1 - i_7.toInt).toNat ∧ (va_P D vwCl [(h0, .inr (1, [.int fb, .int fp])), (tp, .inr (6, [.ref ta, .int tk_8])), (ta, .inl (cI, 120, .inl tf_9))] H ∧ va_D A [(h0, .inr (1, [.int fb, .int fp])), (tp, .inr (6, [.ref ta, .int tk_8])), (ta, .inl (cI, 120, .inl tf_9))]) ∧ va_S A s.heap H locs ∧ lv_has ls 5 [(4, .int i_7), (3, .int q_1), (0, .ref h0), (1, .int v), (2, .ref tp)] ∧ (1 ≤ i_7.toInt ∧ i_7.toInt ≤ (q_1).toInt + 1 ∧ tk_8.toInt = nHC (cN fb) v (cN i_7 - 1))) ?_ ⟨1, tk_4, tf_5, rfl, ⟨hP, hD⟩, hS, hl, ⟨by decide, (by have k1 : (1 : Int32).toInt = 1 := (by decide); have u8 := hv_2; omega), (by have e9 := ti_eq ((hw_6).2 (by omega)); have k4 : (400 : Int32).toInt = 400 := (by decide); have u7 := ti_up (i := tk) (n := 400) (by omega); have e8 := hc_1 (n := cN fb) (c := v); omega)⟩⟩
    intro n9 ih_10 H locs ls hI
    obtain ⟨i_7, tk_8, tf_9, rfl, ⟨hP, hD⟩, hS, hl, hv_11⟩ := hI
    refine lv_iload hx hb dX2_write_43 (lv_at hl 0 rfl) ?_
    refine lv_iload_n hx hb dX2_write_45 rfl (lv_at hl 1 rfl) ?_
    refine lv_icmp_gt (tgt := 93) hx hb dX2_write_46 (by decide) (fun c_12 => ?_) (fun c_12 => ?_)
    · exact ret_v hx hb hr hlocks (u := (tk_8, tf_9)) (⟨(by have := ti_lt c_12; have u8 := hv_2; have c9 := cZ (i := i_7) (by omega); have u9 := hc_le (cN fb) v (cN i_7 - 1); omega), hl_to (hl_e (hv_2).2 (ti_inj (by have := ti_lt c_12; have k4 : (400 : Int32).toInt = 400 := (by decide); have u8 := hv_2; have u7 := ti_up (i := q_1) (n := 400) (by omega); omega)) (hv_11).2.2 (by have u8 := hv_2; omega)) (by have c9 := cZ (i := fb) (by omega); omega)⟩) (hP.sub [0, 1, 2] rfl) (hK.sub [] rfl) (hD.sub [0, 1, 2] (by decide) rfl) hS (Nat.le_of_ble_eq_true rfl) (Nat.le_of_ble_eq_true rfl) dX2_write_93
    refine lv_aload_n hx hb dX2_write_49 rfl (lv_at hl 2 rfl) ?_
    refine lv_iload_n hx hb dX2_write_50 rfl (lv_at hl 3 rfl) ?_
    refine lv_iload hx hb dX2_write_51 (lv_at hl 0 rfl) ?_
    refine go_i (wr := [(tp, .inr (6, [.ref ta, .int tk_8])), (ta, .inl (cI, 120, .inl tf_9))]) (tysr := [(cI, .int)]) hP hD hS hA hK [0] [1, 2] [0] rfl rfl (by decide) (by decide) rfl (va_runV (As := [.int v, .int i_7]) (rest := []) ⟨hx, hb, hml, hown, hts⟩ (g_isOn l D H.size h0 fb fp v i_7 hfb (by have := ti_nlt c_12; have u8 := hv_2; omega)) (cwV 2 hts gX2_write_X2_isOn rfl rfl rfl (by decide +kernel) ⟨Nat.le_of_ble_eq_true rfl, Nat.le_of_ble_eq_true rfl⟩) (st_preV (ci := 1) (q0 := 0) hP hD hK hNW [0] [] rfl rfl (by decide) rfl rfl rfl rfl) rfl rfl hl.1 rfl (lv_room (Nat.le_of_ble_eq_true rfl)) dX2_write_53 ⟨(Nat.le_of_ble_eq_true rfl), (Nat.le_of_ble_eq_true rfl)⟩) (fun r_13 u H locs hw hP hD hK hS => ?_)
    have hw : r_13 = onh (cN fb) v (cN i_7) := hw
    subst hw
    have hP : va_P D vwCl [(tp, .inr (6, [.ref ta, .int tk_8])), (ta, .inl (cI, 120, .inl tf_9)), (h0, .inr (1, [.int fb, .int fp]))] H := hP
    have hD : va_D A [(tp, .inr (6, [.ref ta, .int tk_8])), (ta, .inl (cI, 120, .inl tf_9)), (h0, .inr (1, [.int fb, .int fp]))] := hD
    have hK : va_K D vwCl [(cI, .int)] s := hK
    refine lv_aload_n hx hb dX2_write_56 rfl (lv_at hl 2 rfl) ?_
    refine lv_iload_n hx hb dX2_write_57 rfl (lv_at hl 3 rfl) ?_
    refine lv_iload hx hb dX2_write_58 (lv_at hl 0 rfl) ?_
    refine lv_iconst (v := 1) hx hb dX2_write_60 (by decide) ?_
    refine lv_isub hx hb dX2_write_61 ?_
    refine go_i (wr := [(tp, .inr (6, [.ref ta, .int tk_8])), (ta, .inl (cI, 120, .inl tf_9))]) (tysr := [(cI, .int)]) hP hD hS hA hK [2] [0, 1] [0] rfl rfl (by decide) (by decide) rfl (va_runV (As := [.int v, .int (i_7 - 1)]) (rest := [.int (onh (cN fb) v (cN i_7))]) ⟨hx, hb, hml, hown, hts⟩ (g_isOn l D H.size h0 fb fp v (i_7 - 1) hfb (by have := ti_nlt c_12; have u8 := hv_2; have u7 := ti_m1 (i := i_7) (by omega); omega)) (cwV 2 hts gX2_write_X2_isOn rfl rfl rfl (by decide +kernel) ⟨Nat.le_of_ble_eq_true rfl, Nat.le_of_ble_eq_true rfl⟩) (st_preV (ci := 1) (q0 := 2) hP hD hK hNW [2] [] rfl rfl (by decide) rfl rfl rfl rfl) rfl rfl hl.1 rfl (lv_room (Nat.le_of_ble_eq_true rfl)) dX2_write_62 ⟨(Nat.le_of_ble_eq_true rfl), (Nat.le_of_ble_eq_true rfl)⟩) (fun r_14 u H locs hw hP hD hK hS => ?_)
    have hw : r_14 = onh (cN fb) v (cN (i_7 - 1)) := hw
    subst hw
    have hP : va_P D vwCl [(tp, .inr (6, [.ref ta, .int tk_8])), (ta, .inl (cI, 120, .inl tf_9)), (h0, .inr (1, [.int fb, .int fp]))] H := hP
    have hD : va_D A [(tp, .inr (6, [.ref ta, .int tk_8])), (ta, .inl (cI, 120, .inl tf_9)), (h0, .inr (1, [.int fb, .int fp]))] := hD
    have hK : va_K D vwCl [(cI, .int)] s := hK
    refine lv_icmp_ne (tgt := 79) hx hb dX2_write_65 (by decide) (fun c_15 => ?_) (fun c_15 => ?_)
    · refine lv_aload_n hx hb dX2_write_79 rfl (lv_at hl 4 rfl) ?_
      refine lv_aload_n hx hb dX2_write_80 rfl (lv_at hl 2 rfl) ?_
      refine va_get (D := D) (ci := 1) (v := .int fp) (C := RX2) (T := TX2) (N := 2) hx hb hts hig_Hwrite_X2 hown hK hP 2 rfl rfl 1 (by decide) (hts (.fieldLink RX2 15 "OneHandset$HalvesForm" "p" "I") (List.mem_of_getElem? (i := 2) rfl)) (fun _ h9 => h9) rfl dX2_write_81 ?_
      refine go_v (wr := [(h0, .inr (1, [.int fb, .int fp]))]) (tysr := [(cI, .int)]) hP hD hS hA hK [0, 1] [2] [0] rfl rfl (by decide) (by decide) rfl (va_runV (As := [.int fp]) (rest := []) ⟨hx, hb, hml, hown, hts⟩ (g_append l D H.size tp ta cI tk_8 tf_9 fp (by have := ti_nlt c_12; have := ti_ne c_15; have u8 := hv_2; have c9 := cZ (i := i_7) (by omega); have u9 := hc_le (cN fb) v (cN i_7 - 1); omega)) (cwV 1 hts gX2_write_X7_append rfl rfl rfl (by decide +kernel) ⟨Nat.le_of_ble_eq_true rfl, Nat.le_of_ble_eq_true rfl⟩) (st_preV (ci := 6) (q0 := 0) hP hD hK hNW [0, 1] [0] rfl rfl (by decide) rfl rfl rfl rfl) rfl rfl hl.1 rfl (lv_room (Nat.le_of_ble_eq_true rfl)) dX2_write_84 ⟨(Nat.le_of_ble_eq_true rfl), (Nat.le_of_ble_eq_true rfl)⟩) (fun u H locs hw hP hD hK hS => ?_)
      obtain ⟨tk_17, tf_18⟩ := u
      have hw : bi tk_17 0 120 ∧ (tk_8.toInt < 120 → tk_17 = tk_8 + 1) := hw
      have hw_19 := hw
      have hP : va_P D vwCl [(h0, .inr (1, [.int fb, .int fp])), (tp, .inr (6, [.ref ta, .int tk_17])), (ta, .inl (cI, 120, .inl tf_18))] H := hP
      have hD : va_D A [(h0, .inr (1, [.int fb, .int fp])), (tp, .inr (6, [.ref ta, .int tk_17])), (ta, .inl (cI, 120, .inl tf_18))] := hD
      have hK : va_K D vwCl [(cI, .int)] s := hK
      refine lv_iinc (v := i_7 + 1) (lv' := [(4, .int (i_7 + 1)), (3, .int q_1), (0, .ref h0), (1, .int v), (2, .ref tp)]) hx hb dX2_write_87 hl (k := 0) rfl rfl (by decide) rfl (fun ls hl => ?_)
      refine lv_goto (tgt := 43) hx hb dX2_write_90 (by decide) ?_
      exact ih_10 _ _ _ _ (by have := ti_nlt c_12; have := ti_ne c_15; have kn : (50 : Int32).toInt = 50 := (by decide); have u8 := hv_2; have u1 := ti_up (i := i_7) (n := 50) (by omega); omega) ⟨i_7 + 1, tk_17, tf_18, rfl, ⟨hP, hD⟩, hS, lv_sub hl [0, 1, 2, 3, 4] rfl, ⟨(by have := ti_nlt c_12; have := ti_ne c_15; have kn : (50 : Int32).toInt = 50 := (by decide); have c9 := cZ (i := i_7) (by omega); have u6 := hc_le (cN fb) v (cN i_7 - 1); have u8 := hv_2; have u1 := ti_up (i := i_7) (n := 50) (by omega); omega), (by have := ti_nlt c_12; have := ti_ne c_15; have kn : (50 : Int32).toInt = 50 := (by decide); have c9 := cZ (i := i_7) (by omega); have u6 := hc_le (cN fb) v (cN i_7 - 1); have u8 := hv_2; have u1 := ti_up (i := i_7) (n := 50) (by omega); omega), (by have := ti_nlt c_12; have := ti_ne c_15; have kn : (50 : Int32).toInt = 50 := (by decide); have c9 := cZ (i := i_7) (by omega); have u6 := hc_le (cN fb) v (cN i_7 - 1); have u8 := hv_2; have k4 : (400 : Int32).toInt = 400 := (by decide); have e9 := ti_eq ((hw_19).2 (by omega)); have u7 := ti_up (i := tk_8) (n := 400) (by omega); have e8 := hc_d (n := cN fb) (c := v) (i := i_7) (by omega) c_15; have u1 := ti_up (i := i_7) (n := 50) (by omega); omega)⟩⟩
    refine lv_aload_n hx hb dX2_write_68 rfl (lv_at hl 4 rfl) ?_
    refine lv_aload_n hx hb dX2_write_69 rfl (lv_at hl 2 rfl) ?_
    refine va_get (D := D) (ci := 1) (v := .int fp) (C := RX2) (T := TX2) (N := 2) hx hb hts hig_Hwrite_X2 hown hK hP 2 rfl rfl 1 (by decide) (hts (.fieldLink RX2 15 "OneHandset$HalvesForm" "p" "I") (List.mem_of_getElem? (i := 2) rfl)) (fun _ h9 => h9) rfl dX2_write_70 ?_
    refine go_v (wr := [(h0, .inr (1, [.int fb, .int fp]))]) (tysr := [(cI, .int)]) hP hD hS hA hK [0, 1] [2] [0] rfl rfl (by decide) (by decide) rfl (va_runV (As := [.int fp]) (rest := []) ⟨hx, hb, hml, hown, hts⟩ (g_lengthenLast l D H.size tp ta cI tk_8 tf_9 fp (by have := ti_nlt c_12; have := ti_eq c_15; have u8 := hv_2; have c9 := cZ (i := i_7) (by omega); have u9 := hc_le (cN fb) v (cN i_7 - 1); omega)) (cwV 1 hts gX2_write_X7_lengthenLast rfl rfl rfl (by decide +kernel) ⟨Nat.le_of_ble_eq_true rfl, Nat.le_of_ble_eq_true rfl⟩) (st_preV (ci := 6) (q0 := 0) hP hD hK hNW [0, 1] [0] rfl rfl (by decide) rfl rfl rfl rfl) rfl rfl hl.1 rfl (lv_room (Nat.le_of_ble_eq_true rfl)) dX2_write_73 ⟨(Nat.le_of_ble_eq_true rfl), (Nat.le_of_ble_eq_true rfl)⟩) (fun u H locs hw hP hD hK hS => ?_)
    obtain ⟨tf_21, rfl⟩ : ∃ z, z = u := ⟨_, rfl⟩
    have hP : va_P D vwCl [(h0, .inr (1, [.int fb, .int fp])), (tp, .inr (6, [.ref ta, .int tk_8])), (ta, .inl (cI, 120, .inl tf_21))] H := hP
    have hD : va_D A [(h0, .inr (1, [.int fb, .int fp])), (tp, .inr (6, [.ref ta, .int tk_8])), (ta, .inl (cI, 120, .inl tf_21))] := hD
    have hK : va_K D vwCl [(cI, .int)] s := hK
    refine lv_goto (tgt := 87) hx hb dX2_write_76 (by decide) ?_
    refine lv_iinc (v := i_7 + 1) (lv' := [(4, .int (i_7 + 1)), (3, .int q_1), (0, .ref h0), (1, .int v), (2, .ref tp)]) hx hb dX2_write_87 hl (k := 0) rfl rfl (by decide) rfl (fun ls hl => ?_)
    refine lv_goto (tgt := 43) hx hb dX2_write_90 (by decide) ?_
    exact ih_10 _ _ _ _ (by have := ti_nlt c_12; have := ti_eq c_15; have kn : (50 : Int32).toInt = 50 := (by decide); have u8 := hv_2; have u1 := ti_up (i := i_7) (n := 50) (by omega); omega) ⟨i_7 + 1, tk_8, tf_21, rfl, ⟨hP, hD⟩, hS, lv_sub hl [0, 1, 2, 3, 4] rfl, ⟨(by have := ti_nlt c_12; have := ti_eq c_15; have kn : (50 : Int32).toInt = 50 := (by decide); have c9 := cZ (i := i_7) (by omega); have u6 := hc_le (cN fb) v (cN i_7 - 1); have u8 := hv_2; have u1 := ti_up (i := i_7) (n := 50) (by omega); omega), (by have := ti_nlt c_12; have := ti_eq c_15; have kn : (50 : Int32).toInt = 50 := (by decide); have c9 := cZ (i := i_7) (by omega); have u6 := hc_le (cN fb) v (cN i_7 - 1); have u8 := hv_2; have u1 := ti_up (i := i_7) (n := 50) (by omega); omega), (by have := ti_nlt c_12; have := ti_eq c_15; have kn : (50 : Int32).toInt = 50 := (by decide); have c9 := cZ (i := i_7) (by omega); have u6 := hc_le (cN fb) v (cN i_7 - 1); have u8 := hv_2; have e8 := hc_s (n := cN fb) (c := v) (i := i_7) (by omega) c_15; have u1 := ti_up (i := i_7) (n := 50) (by omega); omega)⟩⟩
  · intro hJ_22
    refine lv_aload_n hx hb dX2_write_0 rfl (lv_at hl 0 rfl) ?_
    refine lv_iload_n hx hb dX2_write_1 rfl (lv_at hl 1 rfl) ?_
    refine lv_iconst (v := 2) hx hb dX2_write_2 (by decide) ?_
    refine lv_aload_n hx hb dX2_write_3 rfl (lv_at hl 0 rfl) ?_
    refine va_get (D := D) (ci := 1) (v := .int fb) (C := RX2) (T := TX2) (N := 2) hx hb hts hig_Hwrite_X2 hown hK hP 0 rfl rfl 0 (by decide) (hts (.fieldLink RX2 9 "OneHandset$HalvesForm" "bits" "I") (List.mem_of_getElem? (i := 1) rfl)) (fun _ h9 => h9) rfl dX2_write_4 ?_
    refine lv_imul hx hb dX2_write_7 ?_
    refine go_i (wr := [(tp, .inr (6, [.ref ta, .int tk])), (ta, .inl (cI, 120, .inl tf))]) (tysr := [(cI, .int)]) hP hD hS hA hK [0] [1, 2] [0] rfl rfl (by decide) (by decide) rfl (va_runV (As := [.int v, .int (2 * fb)]) (rest := []) ⟨hx, hb, hml, hown, hts⟩ (g_isOn l D H.size h0 fb fp v (2 * fb) hfb (by have u2 := u_2n hfb; omega)) (cwV 2 hts gX2_write_X2_isOn rfl rfl rfl (by decide +kernel) ⟨Nat.le_of_ble_eq_true rfl, Nat.le_of_ble_eq_true rfl⟩) (st_preV (ci := 1) (q0 := 0) hP hD hK hNW [0] [] rfl rfl (by decide) rfl rfl rfl rfl) rfl rfl hl.1 rfl (lv_room (Nat.le_of_ble_eq_true rfl)) dX2_write_8 ⟨(Nat.le_of_ble_eq_true rfl), (Nat.le_of_ble_eq_true rfl)⟩) (fun r_23 u H locs hw hP hD hK hS => ?_)
    have hw : r_23 = onh (cN fb) v (cN (2 * fb)) := hw
    subst hw
    have hP : va_P D vwCl [(tp, .inr (6, [.ref ta, .int tk])), (ta, .inl (cI, 120, .inl tf)), (h0, .inr (1, [.int fb, .int fp]))] H := hP
    have hD : va_D A [(tp, .inr (6, [.ref ta, .int tk])), (ta, .inl (cI, 120, .inl tf)), (h0, .inr (1, [.int fb, .int fp]))] := hD
    have hK : va_K D vwCl [(cI, .int)] s := hK
    refine lv_if_eq (tgt := 23) hx hb dX2_write_11 (by decide) (fun c_24 => ?_) (fun c_24 => ?_)
    · refine lv_iconst (v := 2) hx hb dX2_write_23 (by decide) ?_
      refine lv_aload_n hx hb dX2_write_24 rfl (lv_at hl 0 rfl) ?_
      refine va_get (D := D) (ci := 1) (v := .int fb) (C := RX2) (T := TX2) (N := 2) hx hb hts hig_Hwrite_X2 hown hK hP 2 rfl rfl 0 (by decide) (hts (.fieldLink RX2 9 "OneHandset$HalvesForm" "bits" "I") (List.mem_of_getElem? (i := 1) rfl)) (fun _ h9 => h9) rfl dX2_write_25 ?_
      refine lv_imul hx hb dX2_write_28 ?_
      refine lv_iconst (v := 1) hx hb dX2_write_29 (by decide) ?_
      refine lv_isub hx hb dX2_write_30 ?_
      exact hJ_22 _ _ _ _ ⟨(2 * fb) - 1, rfl, ⟨hP.sub [2, 0, 1] rfl, hD.sub [2, 0, 1] (by decide) rfl⟩, hS, lv_sub hl [0, 1, 2] rfl, ⟨(by have : (0 : Int32).toInt = 0 := (by decide); have := ti_eq c_24; have u2 := u_2n hfb; have u3 := ti_m1 (i := 2 * fb) (by omega); omega), hz_b hfb c_24⟩⟩
    refine lv_iconst (v := 2) hx hb dX2_write_14 (by decide) ?_
    refine lv_aload_n hx hb dX2_write_15 rfl (lv_at hl 0 rfl) ?_
    refine va_get (D := D) (ci := 1) (v := .int fb) (C := RX2) (T := TX2) (N := 2) hx hb hts hig_Hwrite_X2 hown hK hP 2 rfl rfl 0 (by decide) (hts (.fieldLink RX2 9 "OneHandset$HalvesForm" "bits" "I") (List.mem_of_getElem? (i := 1) rfl)) (fun _ h9 => h9) rfl dX2_write_16 ?_
    refine lv_imul hx hb dX2_write_19 ?_
    refine lv_goto (tgt := 31) hx hb dX2_write_20 (by decide) ?_
    exact hJ_22 _ _ _ _ ⟨2 * fb, rfl, ⟨hP.sub [2, 0, 1] rfl, hD.sub [2, 0, 1] (by decide) rfl⟩, hS, lv_sub hl [0, 1, 2] rfl, ⟨(by have : (0 : Int32).toInt = 0 := (by decide); have := ti_ne c_24; have u2 := u_2n hfb; omega), hz_a hfb c_24⟩⟩
theorem hig_Hdecode_X7 : ∀ w ∈ wsX70, w ∈ wsX2_decode := mem_pl [28, 29] rfl
theorem hig_Hdecode_X2 : ∀ w ∈ wsX20, w ∈ wsX2_decode := mem_pl [30, 31] rfl
set_option maxHeartbeats 4000000 in
set_option maxRecDepth 100000 in
theorem g_Hdecode (l : Launch) (D : va_G) (sz : Nat) (h0 : Nat) (fb : Int32) (fp : Int32) (tp : Nat) (ta : Nat) (cI : ClassId) (tk : Int32) (tf : Nat → Int32) (w : Int32) (hk : bi tk 0 120) : Ci l yX2_decode wsX2_decode ({ frames := 4, cells := 0, slots := 0, locals := 89 } : Room) D [.ref h0, .ref tp, .int w] [(h0, .inr (1, [.int fb, .int fp])), (tp, .inr (6, [.ref ta, .int tk])), (ta, .inl (cI, 120, .inl tf))] [(cI, .int)] sz (fun (r : Int32) => fun (_ : Unit) => True) (fun (_ : Unit) => [(h0, .inr (1, [.int fb, .int fp])), (tp, .inr (6, [.ref ta, .int tk])), (ta, .inl (cI, 120, .inl tf))]) (fun (_ : Unit) => []) := by
  refine ct_i (cc := cX2_decode) (maxL := 11) (ret := (some .int)) (by decide) rfl (Nat.le_of_ble_eq_true rfl) ?_
  intro p e s m below meth c A ls H hx hb hr hts hown hml hlocks hin hA hS hP hK hD hNW hl hAe hsz
  have hl : lv_has ls 11 [(0, .ref h0), (1, .ref tp), (2, .int w)] := hl
  refine lv_iconst (v := 0) hx hb dX2_decode_0 (by decide) ?_
  refine lv_istore_n (lv' := [(3, .int 0), (0, .ref h0), (1, .ref tp), (2, .int w)]) hx hb dX2_decode_1 rfl hl (by decide) rfl (fun ls hl => ?_)
  refine lv_iconst (v := 0) hx hb dX2_decode_2 (by decide) ?_
  refine lv_istore (lv' := [(4, .int 0), (3, .int 0), (0, .ref h0), (1, .ref tp), (2, .int w)]) hx hb dX2_decode_3 hl (by decide) rfl (fun ls hl => ?_)
  refine lv_iconst (v := 0) hx hb dX2_decode_5 (by decide) ?_
  refine lv_istore (lv' := [(5, .int 0), (4, .int 0), (3, .int 0), (0, .ref h0), (1, .ref tp), (2, .int w)]) hx hb dX2_decode_6 hl (by decide) rfl (fun ls hl => ?_)
  refine lv_iconst (v := 0) hx hb dX2_decode_8 (by decide) ?_
  refine lv_istore (lv' := [(6, .int 0), (5, .int 0), (4, .int 0), (3, .int 0), (0, .ref h0), (1, .ref tp), (2, .int w)]) hx hb dX2_decode_9 hl (by decide) rfl (fun ls hl => ?_)
  refine lp_N (fun n9 H locs ls => ∃ (i3_1 : Int32), ∃ (i4_2 : Int32), ∃ (i5_3 : Int32), ∃ (i_4 : Int32), n9 = (tk.toInt - i_4.toInt).toNat ∧ (va_P D vwCl [(h0, .inr (1, [.int fb, .int fp])), (tp, .inr (6, [.ref ta, .int tk])), (ta, .inl (cI, 120, .inl tf))] H ∧ va_D A [(h0, .inr (1, [.int fb, .int fp])), (tp, .inr (6, [.ref ta, .int tk])), (ta, .inl (cI, 120, .inl tf))]) ∧ va_S A s.heap H locs ∧ lv_has ls 11 [(6, .int i_4), (5, .int i5_3), (4, .int i4_2), (3, .int i3_1), (0, .ref h0), (1, .ref tp), (2, .int w)] ∧ (0 ≤ i_4.toInt)) ?_ ⟨0, 0, 0, 0, rfl, ⟨hP, hD⟩, hS, hl, (by decide)⟩
  intro n9 ih_5 H locs ls hI
  obtain ⟨i3_1, i4_2, i5_3, i_4, rfl, ⟨hP, hD⟩, hS, hl, hv_6⟩ := hI
  refine lv_iload hx hb dX2_decode_11 (lv_at hl 0 rfl) ?_
  refine lv_aload_n hx hb dX2_decode_13 rfl (lv_at hl 5 rfl) ?_
  refine va_getN (D := D) (ci := 6) (v := .int tk) (C := RX7) (T := TX7) (N := 2) hx hb hts hig_Hdecode_X7 hown hK hP 1 rfl rfl 1 (by decide) (va_Nw.use rfl (hNW.1 ("OneHandset$HalvesForm", 31, "OneHandset$Tape", "size", "I", "OneHandset") (List.mem_of_getElem? (l := nw_F) (i := 2) rfl))) (fun _ h9 => h9) rfl dX2_decode_14 ?_
  refine lv_icmp_ge (tgt := 165) hx hb dX2_decode_17 (by decide) (fun c_7 => ?_) (fun c_7 => ?_)
  · refine lv_iload hx hb dX2_decode_165 (lv_at hl 2 rfl) ?_
    refine lv_iconst (v := 2) hx hb dX2_decode_167 (by decide) ?_
    refine lv_aload_n hx hb dX2_decode_168 rfl (lv_at hl 4 rfl) ?_
    refine va_get (D := D) (ci := 1) (v := .int fb) (C := RX2) (T := TX2) (N := 2) hx hb hts hig_Hdecode_X2 hown hK hP 0 rfl rfl 0 (by decide) (hts (.fieldLink RX2 9 "OneHandset$HalvesForm" "bits" "I") (List.mem_of_getElem? (i := 2) rfl)) (fun _ h9 => h9) rfl dX2_decode_169 ?_
    refine lv_imul hx hb dX2_decode_172 ?_
    refine lv_topi (fun y_8 _ => ?_)
    refine lv_icmp_ne (tgt := 185) hx hb dX2_decode_173 (by decide) (fun c_9 => ?_) (fun c_9 => ?_)
    · refine lv_iload hx hb dX2_decode_185 (lv_at hl 2 rfl) ?_
      refine lv_iconst (v := 2) hx hb dX2_decode_187 (by decide) ?_
      refine lv_aload_n hx hb dX2_decode_188 rfl (lv_at hl 4 rfl) ?_
      refine va_get (D := D) (ci := 1) (v := .int fb) (C := RX2) (T := TX2) (N := 2) hx hb hts hig_Hdecode_X2 hown hK hP 0 rfl rfl 0 (by decide) (hts (.fieldLink RX2 9 "OneHandset$HalvesForm" "bits" "I") (List.mem_of_getElem? (i := 2) rfl)) (fun _ h9 => h9) rfl dX2_decode_189 ?_
      refine lv_imul hx hb dX2_decode_192 ?_
      refine lv_topi (fun y_10 _ => ?_)
      refine lv_icmp_le (tgt := 200) hx hb dX2_decode_193 (by decide) (fun c_11 => ?_) (fun c_11 => ?_)
      · refine lv_aload_n hx hb dX2_decode_200 rfl (lv_at hl 5 rfl) ?_
        refine va_getN (D := D) (ci := 6) (v := .int tk) (C := RX7) (T := TX7) (N := 2) hx hb hts hig_Hdecode_X7 hown hK hP 1 rfl rfl 1 (by decide) (va_Nw.use rfl (hNW.1 ("OneHandset$HalvesForm", 31, "OneHandset$Tape", "size", "I", "OneHandset") (List.mem_of_getElem? (l := nw_F) (i := 2) rfl))) (fun _ h9 => h9) rfl dX2_decode_201 ?_
        refine go_i (wr := [(h0, .inr (1, [.int fb, .int fp])), (tp, .inr (6, [.ref ta, .int tk])), (ta, .inl (cI, 120, .inl tf))]) (tysr := [(cI, .int)]) hP hD hS hA hK [] [0, 1, 2] [0] rfl rfl (by decide) (by decide) rfl (va_runSN (As := [.int tk]) (rest := []) ⟨hx, hb, hml, hown, hts⟩ (g_fault l D H.size tk ) ⟨(va_cnB (own := RX2) (host := RX8) (index := 42) 1 hts gX2_decode_X8_fault_n42 rfl rfl rfl (hNW.2.1 (RX2, 42, yX8_fault, RX8) (List.mem_of_getElem? (l := nw_M) (i := 9) rfl)) (hts (.initialized RX8) (List.mem_of_getElem? (i := 11) rfl)) (by decide +kernel) ⟨Nat.le_of_ble_eq_true rfl, Nat.le_of_ble_eq_true rfl⟩), (hts (.static yX8_fault) (List.mem_of_getElem? (i := 26) rfl)), trivial⟩ (st_preS hP hD hK hNW [] [] rfl rfl (by decide) rfl) rfl rfl hl.1 rfl (lv_room (Nat.le_of_ble_eq_true rfl)) dX2_decode_204 ⟨(Nat.le_of_ble_eq_true rfl), (Nat.le_of_ble_eq_true rfl)⟩) (fun r_12 u H locs hw hP hD hK hS => ?_)
        have hP : va_P D vwCl [(h0, .inr (1, [.int fb, .int fp])), (tp, .inr (6, [.ref ta, .int tk])), (ta, .inl (cI, 120, .inl tf))] H := hP
        have hD : va_D A [(h0, .inr (1, [.int fb, .int fp])), (tp, .inr (6, [.ref ta, .int tk])), (ta, .inl (cI, 120, .inl tf))] := hD
        have hK : va_K D vwCl [(cI, .int)] s := hK
        exact ret_i hx hb hr hlocks rfl (u := ()) trivial (hP.sub [0, 1, 2] rfl) (hK.sub [] rfl) (hD.sub [0, 1, 2] (by decide) rfl) hS (Nat.le_of_ble_eq_true rfl) (Nat.le_of_ble_eq_true rfl) dX2_decode_207
      refine lv_iload_n hx hb dX2_decode_196 rfl (lv_at hl 3 rfl) ?_
      refine lv_goto (tgt := 207) hx hb dX2_decode_197 (by decide) ?_
      exact ret_i hx hb hr hlocks rfl (u := ()) trivial (hP.sub [0, 1, 2] rfl) (hK.sub [] rfl) (hD.sub [0, 1, 2] (by decide) rfl) hS (Nat.le_of_ble_eq_true rfl) (Nat.le_of_ble_eq_true rfl) dX2_decode_207
    refine lv_iload hx hb dX2_decode_176 (lv_at hl 1 rfl) ?_
    refine lv_if_eq (tgt := 185) hx hb dX2_decode_178 (by decide) (fun c_13 => ?_) (fun c_13 => ?_)
    · refine lv_iload hx hb dX2_decode_185 (lv_at hl 2 rfl) ?_
      refine lv_iconst (v := 2) hx hb dX2_decode_187 (by decide) ?_
      refine lv_aload_n hx hb dX2_decode_188 rfl (lv_at hl 4 rfl) ?_
      refine va_get (D := D) (ci := 1) (v := .int fb) (C := RX2) (T := TX2) (N := 2) hx hb hts hig_Hdecode_X2 hown hK hP 0 rfl rfl 0 (by decide) (hts (.fieldLink RX2 9 "OneHandset$HalvesForm" "bits" "I") (List.mem_of_getElem? (i := 2) rfl)) (fun _ h9 => h9) rfl dX2_decode_189 ?_
      refine lv_imul hx hb dX2_decode_192 ?_
      refine lv_topi (fun y_14 _ => ?_)
      refine lv_icmp_le (tgt := 200) hx hb dX2_decode_193 (by decide) (fun c_15 => ?_) (fun c_15 => ?_)
      · refine lv_aload_n hx hb dX2_decode_200 rfl (lv_at hl 5 rfl) ?_
        refine va_getN (D := D) (ci := 6) (v := .int tk) (C := RX7) (T := TX7) (N := 2) hx hb hts hig_Hdecode_X7 hown hK hP 1 rfl rfl 1 (by decide) (va_Nw.use rfl (hNW.1 ("OneHandset$HalvesForm", 31, "OneHandset$Tape", "size", "I", "OneHandset") (List.mem_of_getElem? (l := nw_F) (i := 2) rfl))) (fun _ h9 => h9) rfl dX2_decode_201 ?_
        refine go_i (wr := [(h0, .inr (1, [.int fb, .int fp])), (tp, .inr (6, [.ref ta, .int tk])), (ta, .inl (cI, 120, .inl tf))]) (tysr := [(cI, .int)]) hP hD hS hA hK [] [0, 1, 2] [0] rfl rfl (by decide) (by decide) rfl (va_runSN (As := [.int tk]) (rest := []) ⟨hx, hb, hml, hown, hts⟩ (g_fault l D H.size tk ) ⟨(va_cnB (own := RX2) (host := RX8) (index := 42) 1 hts gX2_decode_X8_fault_n42 rfl rfl rfl (hNW.2.1 (RX2, 42, yX8_fault, RX8) (List.mem_of_getElem? (l := nw_M) (i := 9) rfl)) (hts (.initialized RX8) (List.mem_of_getElem? (i := 11) rfl)) (by decide +kernel) ⟨Nat.le_of_ble_eq_true rfl, Nat.le_of_ble_eq_true rfl⟩), (hts (.static yX8_fault) (List.mem_of_getElem? (i := 26) rfl)), trivial⟩ (st_preS hP hD hK hNW [] [] rfl rfl (by decide) rfl) rfl rfl hl.1 rfl (lv_room (Nat.le_of_ble_eq_true rfl)) dX2_decode_204 ⟨(Nat.le_of_ble_eq_true rfl), (Nat.le_of_ble_eq_true rfl)⟩) (fun r_16 u H locs hw hP hD hK hS => ?_)
        have hP : va_P D vwCl [(h0, .inr (1, [.int fb, .int fp])), (tp, .inr (6, [.ref ta, .int tk])), (ta, .inl (cI, 120, .inl tf))] H := hP
        have hD : va_D A [(h0, .inr (1, [.int fb, .int fp])), (tp, .inr (6, [.ref ta, .int tk])), (ta, .inl (cI, 120, .inl tf))] := hD
        have hK : va_K D vwCl [(cI, .int)] s := hK
        exact ret_i hx hb hr hlocks rfl (u := ()) trivial (hP.sub [0, 1, 2] rfl) (hK.sub [] rfl) (hD.sub [0, 1, 2] (by decide) rfl) hS (Nat.le_of_ble_eq_true rfl) (Nat.le_of_ble_eq_true rfl) dX2_decode_207
      refine lv_iload_n hx hb dX2_decode_196 rfl (lv_at hl 3 rfl) ?_
      refine lv_goto (tgt := 207) hx hb dX2_decode_197 (by decide) ?_
      exact ret_i hx hb hr hlocks rfl (u := ()) trivial (hP.sub [0, 1, 2] rfl) (hK.sub [] rfl) (hD.sub [0, 1, 2] (by decide) rfl) hS (Nat.le_of_ble_eq_true rfl) (Nat.le_of_ble_eq_true rfl) dX2_decode_207
    refine lv_iload_n hx hb dX2_decode_181 rfl (lv_at hl 3 rfl) ?_
    refine lv_iconst (v := 2) hx hb dX2_decode_182 (by decide) ?_
    refine lv_imul hx hb dX2_decode_183 ?_
    refine lv_topi (fun y_17 _ => ?_)
    exact ret_i hx hb hr hlocks rfl (u := ()) trivial (hP.sub [0, 1, 2] rfl) (hK.sub [] rfl) (hD.sub [0, 1, 2] (by decide) rfl) hS (Nat.le_of_ble_eq_true rfl) (Nat.le_of_ble_eq_true rfl) dX2_decode_184
  refine lv_aload_n hx hb dX2_decode_20 rfl (lv_at hl 5 rfl) ?_
  refine lv_iload hx hb dX2_decode_21 (lv_at hl 0 rfl) ?_
  refine go_i (wr := [(h0, .inr (1, [.int fb, .int fp]))]) (tysr := [(cI, .int)]) hP hD hS hA hK [1, 2] [0] [0] rfl rfl (by decide) (by decide) rfl (va_runV (As := [.int i_4]) (rest := []) ⟨hx, hb, hml, hown, hts⟩ (g_at l D H.size tp ta cI tk tf i_4 (by first | assumption | omega)) (cwV 1 hts gX2_decode_X7_at rfl rfl rfl (by decide +kernel) ⟨Nat.le_of_ble_eq_true rfl, Nat.le_of_ble_eq_true rfl⟩) (st_preV (ci := 6) (q0 := 1) hP hD hK hNW [1, 2] [0] rfl rfl (by decide) rfl rfl rfl rfl) rfl rfl hl.1 rfl (lv_room (Nat.le_of_ble_eq_true rfl)) dX2_decode_23 ⟨(Nat.le_of_ble_eq_true rfl), (Nat.le_of_ble_eq_true rfl)⟩) (fun r_18 u H locs hw hP hD hK hS => ?_)
  have hP : va_P D vwCl [(h0, .inr (1, [.int fb, .int fp])), (tp, .inr (6, [.ref ta, .int tk])), (ta, .inl (cI, 120, .inl tf))] H := hP
  have hD : va_D A [(h0, .inr (1, [.int fb, .int fp])), (tp, .inr (6, [.ref ta, .int tk])), (ta, .inl (cI, 120, .inl tf))] := hD
  have hK : va_K D vwCl [(cI, .int)] s := hK
  refine lv_aload_n hx hb dX2_decode_26 rfl (lv_at hl 4 rfl) ?_
  refine va_get (D := D) (ci := 1) (v := .int fp) (C := RX2) (T := TX2) (N := 2) hx hb hts hig_Hdecode_X2 hown hK hP 0 rfl rfl 1 (by decide) (hts (.fieldLink RX2 15 "OneHandset$HalvesForm" "p" "I") (List.mem_of_getElem? (i := 1) rfl)) (fun _ h9 => h9) rfl dX2_decode_27 ?_
  refine lv_iconst (v := 2) hx hb dX2_decode_30 (by decide) ?_
  refine lv_aload_n hx hb dX2_decode_31 rfl (lv_at hl 4 rfl) ?_
  refine va_get (D := D) (ci := 1) (v := .int fp) (C := RX2) (T := TX2) (N := 2) hx hb hts hig_Hdecode_X2 hown hK hP 0 rfl rfl 1 (by decide) (hts (.fieldLink RX2 15 "OneHandset$HalvesForm" "p" "I") (List.mem_of_getElem? (i := 1) rfl)) (fun _ h9 => h9) rfl dX2_decode_32 ?_
  refine lv_imul hx hb dX2_decode_35 ?_
  refine lv_topi (fun y_19 _ => ?_)
  refine lv_iload_n hx hb dX2_decode_36 rfl (lv_at hl 6 rfl) ?_
  refine go_i (wr := [(h0, .inr (1, [.int fb, .int fp])), (tp, .inr (6, [.ref ta, .int tk])), (ta, .inl (cI, 120, .inl tf))]) (tysr := [(cI, .int)]) hP hD hS hA hK [] [0, 1, 2] [0] rfl rfl (by decide) (by decide) rfl (va_runSN (As := [.int r_18, .int fp, .int y_19, .int w]) (rest := []) ⟨hx, hb, hml, hown, hts⟩ (g_nearerOf l D H.size r_18 fp y_19 w ) ⟨(va_cnB (own := RX2) (host := RX8) (index := 38) 4 hts gX2_decode_X8_nearerOf_n38 rfl rfl rfl (hNW.2.1 (RX2, 38, yX8_nearerOf, RX8) (List.mem_of_getElem? (l := nw_M) (i := 8) rfl)) (hts (.initialized RX8) (List.mem_of_getElem? (i := 11) rfl)) (by decide +kernel) ⟨Nat.le_of_ble_eq_true rfl, Nat.le_of_ble_eq_true rfl⟩), (hts (.static yX8_nearerOf) (List.mem_of_getElem? (i := 13) rfl)), trivial⟩ (st_preS hP hD hK hNW [] [] rfl rfl (by decide) rfl) rfl rfl hl.1 rfl (lv_room (Nat.le_of_ble_eq_true rfl)) dX2_decode_37 ⟨(Nat.le_of_ble_eq_true rfl), (Nat.le_of_ble_eq_true rfl)⟩) (fun r_20 u H locs hw hP hD hK hS => ?_)
  have hw : r_20 = 0 ∨ r_20 = 1 ∨ r_20 = -1 := hw
  have hw_21 := hw
  have hP : va_P D vwCl [(h0, .inr (1, [.int fb, .int fp])), (tp, .inr (6, [.ref ta, .int tk])), (ta, .inl (cI, 120, .inl tf))] H := hP
  have hD : va_D A [(h0, .inr (1, [.int fb, .int fp])), (tp, .inr (6, [.ref ta, .int tk])), (ta, .inl (cI, 120, .inl tf))] := hD
  have hK : va_K D vwCl [(cI, .int)] s := hK
  refine lv_istore (lv' := [(7, .int r_20), (6, .int i_4), (5, .int i5_3), (4, .int i4_2), (3, .int i3_1), (0, .ref h0), (1, .ref tp), (2, .int w)]) hx hb dX2_decode_40 hl (by decide) rfl (fun ls hl => ?_)
  refine lv_iload hx hb dX2_decode_42 (lv_at hl 0 rfl) ?_
  refine lv_iconst (v := (-1)) hx hb dX2_decode_44 (by decide) ?_
  refine lv_icmp_ne (tgt := 54) hx hb dX2_decode_45 (by decide) (fun c_22 => ?_) (fun c_22 => ?_)
  · refine jn_S 66 (fun st9 H locs ls => ∃ (q_23 : Int32), st9 = [.int q_23] ∧ (va_P D vwCl [(h0, .inr (1, [.int fb, .int fp])), (tp, .inr (6, [.ref ta, .int tk])), (ta, .inl (cI, 120, .inl tf))] H ∧ va_D A [(h0, .inr (1, [.int fb, .int fp])), (tp, .inr (6, [.ref ta, .int tk])), (ta, .inl (cI, 120, .inl tf))]) ∧ va_S A s.heap H locs ∧ lv_has ls 11 [(7, .int r_20), (6, .int i_4), (5, .int i5_3), (4, .int i4_2), (3, .int i3_1), (0, .ref h0), (1, .ref tp), (2, .int w)]) ?_ ?_
    · intro st9 H locs ls hI
      obtain ⟨q_23, rfl, ⟨hP, hD⟩, hS, hl⟩ := hI
      refine lv_istore (lv' := [(8, .int q_23), (7, .int r_20), (6, .int i_4), (5, .int i5_3), (4, .int i4_2), (3, .int i3_1), (0, .ref h0), (1, .ref tp), (2, .int w)]) hx hb dX2_decode_66 hl (by decide) rfl (fun ls hl => ?_)
      refine lv_iconst (v := 0) hx hb dX2_decode_68 (by decide) ?_
      refine lv_istore (lv' := [(9, .int 0), (8, .int q_23), (7, .int r_20), (6, .int i_4), (5, .int i5_3), (4, .int i4_2), (3, .int i3_1), (0, .ref h0), (1, .ref tp), (2, .int w)]) hx hb dX2_decode_69 hl (by decide) rfl (fun ls hl => ?_)
      refine lp_N (fun n9 H locs ls => ∃ (i3_25 : Int32), ∃ (i4_26 : Int32), ∃ (i5_27 : Int32), ∃ (i_28 : Int32), n9 = (r_20.toInt + 1 - i_28.toInt).toNat ∧ (va_P D vwCl [(h0, .inr (1, [.int fb, .int fp])), (tp, .inr (6, [.ref ta, .int tk])), (ta, .inl (cI, 120, .inl tf))] H ∧ va_D A [(h0, .inr (1, [.int fb, .int fp])), (tp, .inr (6, [.ref ta, .int tk])), (ta, .inl (cI, 120, .inl tf))]) ∧ va_S A s.heap H locs ∧ lv_has ls 11 [(9, .int i_28), (8, .int q_23), (7, .int r_20), (6, .int i_4), (5, .int i5_27), (4, .int i4_26), (3, .int i3_25), (0, .ref h0), (1, .ref tp), (2, .int w)] ∧ (0 ≤ i_28.toInt)) ?_ ⟨i3_1, i4_2, i5_3, 0, rfl, ⟨hP, hD⟩, hS, hl, (by decide)⟩
      intro n9 ih_29 H locs ls hI
      obtain ⟨i3_25, i4_26, i5_27, i_28, rfl, ⟨hP, hD⟩, hS, hl, hv_30⟩ := hI
      refine lv_iload hx hb dX2_decode_71 (lv_at hl 0 rfl) ?_
      refine lv_iload hx hb dX2_decode_73 (lv_at hl 2 rfl) ?_
      refine lv_icmp_gt (tgt := 159) hx hb dX2_decode_75 (by decide) (fun c_31 => ?_) (fun c_31 => ?_)
      · refine lv_iinc (v := i_4 + 1) (lv' := [(6, .int (i_4 + 1)), (9, .int i_28), (8, .int q_23), (7, .int r_20), (5, .int i5_27), (4, .int i4_26), (3, .int i3_25), (0, .ref h0), (1, .ref tp), (2, .int w)]) hx hb dX2_decode_159 hl (k := 3) rfl rfl (by decide) rfl (fun ls hl => ?_)
        refine lv_goto (tgt := 11) hx hb dX2_decode_162 (by decide) ?_
        exact ih_5 _ _ _ _ (by have : ((-1) : Int32).toInt = -1 := (by decide); have := ti_nle c_7; have := ti_ne c_22; have := ti_lt c_31; have u1 := ti_up (i := i_4) (n := tk) (by omega); omega) ⟨i3_25, i4_26, i5_27, i_4 + 1, rfl, ⟨hP, hD⟩, hS, lv_sub hl [0, 4, 5, 6, 7, 8, 9] rfl, (by have : ((-1) : Int32).toInt = -1 := (by decide); have := ti_nle c_7; have := ti_ne c_22; have := ti_lt c_31; have u1 := ti_up (i := i_4) (n := tk) (by omega); omega)⟩
      refine jn_S 95 (fun st9 H locs ls => ∃ (q_32 : Int32), st9 = [.int q_32] ∧ (va_P D vwCl [(h0, .inr (1, [.int fb, .int fp])), (tp, .inr (6, [.ref ta, .int tk])), (ta, .inl (cI, 120, .inl tf))] H ∧ va_D A [(h0, .inr (1, [.int fb, .int fp])), (tp, .inr (6, [.ref ta, .int tk])), (ta, .inl (cI, 120, .inl tf))]) ∧ va_S A s.heap H locs ∧ lv_has ls 11 [(9, .int i_28), (8, .int q_23), (7, .int r_20), (6, .int i_4), (5, .int i5_27), (4, .int i4_26), (3, .int i3_25), (0, .ref h0), (1, .ref tp), (2, .int w)]) ?_ ?_
      · intro st9 H locs ls hI
        obtain ⟨q_32, rfl, ⟨hP, hD⟩, hS, hl⟩ := hI
        refine lv_istore (lv' := [(10, .int q_32), (9, .int i_28), (8, .int q_23), (7, .int r_20), (6, .int i_4), (5, .int i5_27), (4, .int i4_26), (3, .int i3_25), (0, .ref h0), (1, .ref tp), (2, .int w)]) hx hb dX2_decode_95 hl (by decide) rfl (fun ls hl => ?_)
        refine jn_S 126 (fun st9 H locs ls => st9 = [] ∧ (va_P D vwCl [(h0, .inr (1, [.int fb, .int fp])), (tp, .inr (6, [.ref ta, .int tk])), (ta, .inl (cI, 120, .inl tf))] H ∧ va_D A [(h0, .inr (1, [.int fb, .int fp])), (tp, .inr (6, [.ref ta, .int tk])), (ta, .inl (cI, 120, .inl tf))]) ∧ va_S A s.heap H locs ∧ lv_has ls 11 [(10, .int q_32), (9, .int i_28), (8, .int q_23), (7, .int r_20), (6, .int i_4), (5, .int i5_27), (4, .int i4_26), (3, .int i3_25), (0, .ref h0), (1, .ref tp), (2, .int w)]) ?_ ?_
        · intro st9 H locs ls hI
          obtain ⟨rfl, ⟨hP, hD⟩, hS, hl⟩ := hI
          refine jn_S 146 (fun st9 H locs ls => ∃ (i3_35 : Int32), st9 = [] ∧ (va_P D vwCl [(h0, .inr (1, [.int fb, .int fp])), (tp, .inr (6, [.ref ta, .int tk])), (ta, .inl (cI, 120, .inl tf))] H ∧ va_D A [(h0, .inr (1, [.int fb, .int fp])), (tp, .inr (6, [.ref ta, .int tk])), (ta, .inl (cI, 120, .inl tf))]) ∧ va_S A s.heap H locs ∧ lv_has ls 11 [(10, .int q_32), (9, .int i_28), (8, .int q_23), (7, .int r_20), (6, .int i_4), (5, .int i5_27), (4, .int i4_26), (3, .int i3_35), (0, .ref h0), (1, .ref tp), (2, .int w)]) ?_ ?_
          · intro st9 H locs ls hI
            obtain ⟨i3_35, rfl, ⟨hP, hD⟩, hS, hl⟩ := hI
            refine lv_iload hx hb dX2_decode_146 (lv_at hl 2 rfl) ?_
            refine lv_istore (lv' := [(5, .int q_23), (10, .int q_32), (9, .int i_28), (8, .int q_23), (7, .int r_20), (6, .int i_4), (4, .int i4_26), (3, .int i3_35), (0, .ref h0), (1, .ref tp), (2, .int w)]) hx hb dX2_decode_148 hl (by decide) rfl (fun ls hl => ?_)
            refine lv_iinc (v := i4_26 + 1) (lv' := [(4, .int (i4_26 + 1)), (5, .int q_23), (10, .int q_32), (9, .int i_28), (8, .int q_23), (7, .int r_20), (6, .int i_4), (3, .int i3_35), (0, .ref h0), (1, .ref tp), (2, .int w)]) hx hb dX2_decode_150 hl (k := 6) rfl rfl (by decide) rfl (fun ls hl => ?_)
            refine lv_iinc (v := i_28 + 1) (lv' := [(9, .int (i_28 + 1)), (4, .int (i4_26 + 1)), (5, .int q_23), (10, .int q_32), (8, .int q_23), (7, .int r_20), (6, .int i_4), (3, .int i3_35), (0, .ref h0), (1, .ref tp), (2, .int w)]) hx hb dX2_decode_153 hl (k := 3) rfl rfl (by decide) rfl (fun ls hl => ?_)
            refine lv_goto (tgt := 71) hx hb dX2_decode_156 (by decide) ?_
            exact ih_29 _ _ _ _ (by have : ((-1) : Int32).toInt = -1 := (by decide); have := ti_nle c_7; have := ti_ne c_22; have := ti_nlt c_31; have kn : (5 : Int32).toInt = 5 := (by decide); have u5 := nr_le hw_21; have u1 := ti_up (i := i_28) (n := 5) (by omega); omega) ⟨i3_35, i4_26 + 1, q_23, i_28 + 1, rfl, ⟨hP, hD⟩, hS, lv_sub hl [0, 4, 5, 6, 2, 1, 7, 8, 9, 10] rfl, (by have : ((-1) : Int32).toInt = -1 := (by decide); have := ti_nle c_7; have := ti_ne c_22; have := ti_nlt c_31; have kn : (5 : Int32).toInt = 5 := (by decide); have u5 := nr_le hw_21; have u1 := ti_up (i := i_28) (n := 5) (by omega); omega)⟩
          · intro hJ_37
            refine lv_iload hx hb dX2_decode_126 (lv_at hl 0 rfl) ?_
            refine lv_if_eq (tgt := 146) hx hb dX2_decode_128 (by decide) (fun c_38 => ?_) (fun c_38 => ?_)
            · exact hJ_37 _ _ _ _ ⟨i3_25, rfl, ⟨hP, hD⟩, hS, lv_sub hl [0, 1, 2, 3, 4, 5, 6, 7, 8, 9, 10] rfl⟩
            refine lv_iload_n hx hb dX2_decode_131 rfl (lv_at hl 7 rfl) ?_
            refine lv_iconst (v := 2) hx hb dX2_decode_132 (by decide) ?_
            refine lv_imul hx hb dX2_decode_133 ?_
            refine lv_topi (fun y_39 _ => ?_)
            refine lv_iload hx hb dX2_decode_134 (lv_at hl 5 rfl) ?_
            refine lv_if_eq (tgt := 143) hx hb dX2_decode_136 (by decide) (fun c_40 => ?_) (fun c_40 => ?_)
            · refine lv_iconst (v := 1) hx hb dX2_decode_143 (by decide) ?_
              refine lv_iadd hx hb dX2_decode_144 ?_
              refine lv_topi (fun y_41 _ => ?_)
              refine lv_istore_n (lv' := [(3, .int y_41), (10, .int q_32), (9, .int i_28), (8, .int q_23), (7, .int r_20), (6, .int i_4), (5, .int i5_27), (4, .int i4_26), (0, .ref h0), (1, .ref tp), (2, .int w)]) hx hb dX2_decode_145 rfl hl (by decide) rfl (fun ls hl => ?_)
              exact hJ_37 _ _ _ _ ⟨y_41, rfl, ⟨hP, hD⟩, hS, lv_sub hl [1, 2, 3, 4, 5, 6, 7, 0, 8, 9, 10] rfl⟩
            refine lv_iconst (v := 0) hx hb dX2_decode_139 (by decide) ?_
            refine lv_goto (tgt := 144) hx hb dX2_decode_140 (by decide) ?_
            refine lv_iadd hx hb dX2_decode_144 ?_
            refine lv_topi (fun y_42 _ => ?_)
            refine lv_istore_n (lv' := [(3, .int y_42), (10, .int q_32), (9, .int i_28), (8, .int q_23), (7, .int r_20), (6, .int i_4), (5, .int i5_27), (4, .int i4_26), (0, .ref h0), (1, .ref tp), (2, .int w)]) hx hb dX2_decode_145 rfl hl (by decide) rfl (fun ls hl => ?_)
            exact hJ_37 _ _ _ _ ⟨y_42, rfl, ⟨hP, hD⟩, hS, lv_sub hl [1, 2, 3, 4, 5, 6, 7, 0, 8, 9, 10] rfl⟩
        · intro hJ_43
          refine lv_iload hx hb dX2_decode_97 (lv_at hl 6 rfl) ?_
          refine lv_iconst (v := 2) hx hb dX2_decode_99 (by decide) ?_
          refine lv_aload_n hx hb dX2_decode_100 rfl (lv_at hl 8 rfl) ?_
          refine va_get (D := D) (ci := 1) (v := .int fb) (C := RX2) (T := TX2) (N := 2) hx hb hts hig_Hdecode_X2 hown hK hP 0 rfl rfl 0 (by decide) (hts (.fieldLink RX2 9 "OneHandset$HalvesForm" "bits" "I") (List.mem_of_getElem? (i := 2) rfl)) (fun _ h9 => h9) rfl dX2_decode_101 ?_
          refine lv_imul hx hb dX2_decode_104 ?_
          refine lv_topi (fun y_44 _ => ?_)
          refine lv_icmp_gt (tgt := 120) hx hb dX2_decode_105 (by decide) (fun c_45 => ?_) (fun c_45 => ?_)
          · refine lv_iload hx hb dX2_decode_120 (lv_at hl 4 rfl) ?_
            refine go_i (wr := [(h0, .inr (1, [.int fb, .int fp])), (tp, .inr (6, [.ref ta, .int tk])), (ta, .inl (cI, 120, .inl tf))]) (tysr := [(cI, .int)]) hP hD hS hA hK [] [0, 1, 2] [0] rfl rfl (by decide) (by decide) rfl (va_runSN (As := [.int i_4]) (rest := []) ⟨hx, hb, hml, hown, hts⟩ (g_fault l D H.size i_4 ) ⟨(va_cnB (own := RX2) (host := RX8) (index := 42) 1 hts gX2_decode_X8_fault_n42 rfl rfl rfl (hNW.2.1 (RX2, 42, yX8_fault, RX8) (List.mem_of_getElem? (l := nw_M) (i := 9) rfl)) (hts (.initialized RX8) (List.mem_of_getElem? (i := 11) rfl)) (by decide +kernel) ⟨Nat.le_of_ble_eq_true rfl, Nat.le_of_ble_eq_true rfl⟩), (hts (.static yX8_fault) (List.mem_of_getElem? (i := 26) rfl)), trivial⟩ (st_preS hP hD hK hNW [] [] rfl rfl (by decide) rfl) rfl rfl hl.1 rfl (lv_room (Nat.le_of_ble_eq_true rfl)) dX2_decode_122 ⟨(Nat.le_of_ble_eq_true rfl), (Nat.le_of_ble_eq_true rfl)⟩) (fun r_46 u H locs hw hP hD hK hS => ?_)
            have hP : va_P D vwCl [(h0, .inr (1, [.int fb, .int fp])), (tp, .inr (6, [.ref ta, .int tk])), (ta, .inl (cI, 120, .inl tf))] H := hP
            have hD : va_D A [(h0, .inr (1, [.int fb, .int fp])), (tp, .inr (6, [.ref ta, .int tk])), (ta, .inl (cI, 120, .inl tf))] := hD
            have hK : va_K D vwCl [(cI, .int)] s := hK
            exact ret_i hx hb hr hlocks rfl (u := ()) trivial (hP.sub [0, 1, 2] rfl) (hK.sub [] rfl) (hD.sub [0, 1, 2] (by decide) rfl) hS (Nat.le_of_ble_eq_true rfl) (Nat.le_of_ble_eq_true rfl) dX2_decode_125
          refine lv_iload hx hb dX2_decode_108 (lv_at hl 0 rfl) ?_
          refine lv_if_eq (tgt := 126) hx hb dX2_decode_110 (by decide) (fun c_47 => ?_) (fun c_47 => ?_)
          · exact hJ_43 _ _ _ _ ⟨rfl, ⟨hP, hD⟩, hS, lv_sub hl [0, 1, 2, 3, 4, 5, 6, 7, 8, 9, 10] rfl⟩
          refine lv_iload hx hb dX2_decode_113 (lv_at hl 2 rfl) ?_
          refine lv_iload hx hb dX2_decode_115 (lv_at hl 5 rfl) ?_
          refine lv_icmp_ne (tgt := 126) hx hb dX2_decode_117 (by decide) (fun c_48 => ?_) (fun c_48 => ?_)
          · exact hJ_43 _ _ _ _ ⟨rfl, ⟨hP, hD⟩, hS, lv_sub hl [0, 1, 2, 3, 4, 5, 6, 7, 8, 9, 10] rfl⟩
          refine lv_iload hx hb dX2_decode_120 (lv_at hl 4 rfl) ?_
          refine go_i (wr := [(h0, .inr (1, [.int fb, .int fp])), (tp, .inr (6, [.ref ta, .int tk])), (ta, .inl (cI, 120, .inl tf))]) (tysr := [(cI, .int)]) hP hD hS hA hK [] [0, 1, 2] [0] rfl rfl (by decide) (by decide) rfl (va_runSN (As := [.int i_4]) (rest := []) ⟨hx, hb, hml, hown, hts⟩ (g_fault l D H.size i_4 ) ⟨(va_cnB (own := RX2) (host := RX8) (index := 42) 1 hts gX2_decode_X8_fault_n42 rfl rfl rfl (hNW.2.1 (RX2, 42, yX8_fault, RX8) (List.mem_of_getElem? (l := nw_M) (i := 9) rfl)) (hts (.initialized RX8) (List.mem_of_getElem? (i := 11) rfl)) (by decide +kernel) ⟨Nat.le_of_ble_eq_true rfl, Nat.le_of_ble_eq_true rfl⟩), (hts (.static yX8_fault) (List.mem_of_getElem? (i := 26) rfl)), trivial⟩ (st_preS hP hD hK hNW [] [] rfl rfl (by decide) rfl) rfl rfl hl.1 rfl (lv_room (Nat.le_of_ble_eq_true rfl)) dX2_decode_122 ⟨(Nat.le_of_ble_eq_true rfl), (Nat.le_of_ble_eq_true rfl)⟩) (fun r_49 u H locs hw hP hD hK hS => ?_)
          have hP : va_P D vwCl [(h0, .inr (1, [.int fb, .int fp])), (tp, .inr (6, [.ref ta, .int tk])), (ta, .inl (cI, 120, .inl tf))] H := hP
          have hD : va_D A [(h0, .inr (1, [.int fb, .int fp])), (tp, .inr (6, [.ref ta, .int tk])), (ta, .inl (cI, 120, .inl tf))] := hD
          have hK : va_K D vwCl [(cI, .int)] s := hK
          exact ret_i hx hb hr hlocks rfl (u := ()) trivial (hP.sub [0, 1, 2] rfl) (hK.sub [] rfl) (hD.sub [0, 1, 2] (by decide) rfl) hS (Nat.le_of_ble_eq_true rfl) (Nat.le_of_ble_eq_true rfl) dX2_decode_125
      · intro hJ_50
        refine lv_iload hx hb dX2_decode_78 (lv_at hl 5 rfl) ?_
        refine lv_if_le (tgt := 94) hx hb dX2_decode_80 (by decide) (fun c_51 => ?_) (fun c_51 => ?_)
        · refine lv_iconst (v := 0) hx hb dX2_decode_94 (by decide) ?_
          exact hJ_50 _ _ _ _ ⟨0, rfl, ⟨hP, hD⟩, hS, lv_sub hl [0, 1, 2, 3, 4, 5, 6, 7, 8, 9] rfl⟩
        refine lv_iload hx hb dX2_decode_83 (lv_at hl 5 rfl) ?_
        refine lv_iconst (v := 2) hx hb dX2_decode_85 (by decide) ?_
        refine lv_irem hx hb dX2_decode_86 (by decide) ?_
        refine lv_topi (fun y_52 _ => ?_)
        refine lv_if_ne (tgt := 94) hx hb dX2_decode_87 (by decide) (fun c_53 => ?_) (fun c_53 => ?_)
        · refine lv_iconst (v := 0) hx hb dX2_decode_94 (by decide) ?_
          exact hJ_50 _ _ _ _ ⟨0, rfl, ⟨hP, hD⟩, hS, lv_sub hl [0, 1, 2, 3, 4, 5, 6, 7, 8, 9] rfl⟩
        refine lv_iconst (v := 1) hx hb dX2_decode_90 (by decide) ?_
        refine lv_goto (tgt := 95) hx hb dX2_decode_91 (by decide) ?_
        exact hJ_50 _ _ _ _ ⟨1, rfl, ⟨hP, hD⟩, hS, lv_sub hl [0, 1, 2, 3, 4, 5, 6, 7, 8, 9] rfl⟩
    · intro hJ_54
      refine lv_iload hx hb dX2_decode_54 (lv_at hl 1 rfl) ?_
      refine lv_iconst (v := 2) hx hb dX2_decode_56 (by decide) ?_
      refine lv_irem hx hb dX2_decode_57 (by decide) ?_
      refine lv_topi (fun y_55 _ => ?_)
      refine lv_if_ne (tgt := 65) hx hb dX2_decode_58 (by decide) (fun c_56 => ?_) (fun c_56 => ?_)
      · refine lv_iconst (v := 0) hx hb dX2_decode_65 (by decide) ?_
        exact hJ_54 _ _ _ _ ⟨0, rfl, ⟨hP, hD⟩, hS, lv_sub hl [0, 1, 2, 3, 4, 5, 6, 7] rfl⟩
      refine lv_iconst (v := 1) hx hb dX2_decode_61 (by decide) ?_
      refine lv_goto (tgt := 66) hx hb dX2_decode_62 (by decide) ?_
      exact hJ_54 _ _ _ _ ⟨1, rfl, ⟨hP, hD⟩, hS, lv_sub hl [0, 1, 2, 3, 4, 5, 6, 7] rfl⟩
  refine lv_iload hx hb dX2_decode_48 (lv_at hl 1 rfl) ?_
  refine go_i (wr := [(h0, .inr (1, [.int fb, .int fp])), (tp, .inr (6, [.ref ta, .int tk])), (ta, .inl (cI, 120, .inl tf))]) (tysr := [(cI, .int)]) hP hD hS hA hK [] [0, 1, 2] [0] rfl rfl (by decide) (by decide) rfl (va_runSN (As := [.int i_4]) (rest := []) ⟨hx, hb, hml, hown, hts⟩ (g_fault l D H.size i_4 ) ⟨(va_cnB (own := RX2) (host := RX8) (index := 42) 1 hts gX2_decode_X8_fault_n42 rfl rfl rfl (hNW.2.1 (RX2, 42, yX8_fault, RX8) (List.mem_of_getElem? (l := nw_M) (i := 9) rfl)) (hts (.initialized RX8) (List.mem_of_getElem? (i := 11) rfl)) (by decide +kernel) ⟨Nat.le_of_ble_eq_true rfl, Nat.le_of_ble_eq_true rfl⟩), (hts (.static yX8_fault) (List.mem_of_getElem? (i := 26) rfl)), trivial⟩ (st_preS hP hD hK hNW [] [] rfl rfl (by decide) rfl) rfl rfl hl.1 rfl (lv_room (Nat.le_of_ble_eq_true rfl)) dX2_decode_50 ⟨(Nat.le_of_ble_eq_true rfl), (Nat.le_of_ble_eq_true rfl)⟩) (fun r_57 u H locs hw hP hD hK hS => ?_)
  have hP : va_P D vwCl [(h0, .inr (1, [.int fb, .int fp])), (tp, .inr (6, [.ref ta, .int tk])), (ta, .inl (cI, 120, .inl tf))] H := hP
  have hD : va_D A [(h0, .inr (1, [.int fb, .int fp])), (tp, .inr (6, [.ref ta, .int tk])), (ta, .inl (cI, 120, .inl tf))] := hD
  have hK : va_K D vwCl [(cI, .int)] s := hK
  exact ret_i hx hb hr hlocks rfl (u := ()) trivial (hP.sub [0, 1, 2] rfl) (hK.sub [] rfl) (hD.sub [0, 1, 2] (by decide) rfl) hS (Nat.le_of_ble_eq_true rfl) (Nat.le_of_ble_eq_true rfl) dX2_decode_53
