theorem hig_flashP_X7 : ∀ w ∈ wsX70, w ∈ wsX4_flash := mem_pl [46, 47] rfl
theorem hig_flashP_X4 : ∀ w ∈ wsX40, w ∈ wsX4_flash := mem_pl [48, 49, 50, 51, 52] rfl
set_option maxHeartbeats 4000000 in
set_option maxRecDepth 100000 in
theorem g_flashP (l : Launch) (D : va_G) (sz : Nat) (cI : ClassId) (h0 : Nat) (fm : Nat) (ky : Nat) (mq : Int32) (mb : Int32) (mi : Int32) (fw : Int32) (fb : Int32) (fa : Int32) (fc : Int32) (fp : Int32) (fz : Int32) (fo : Int32) (fl9 : Int32) (tp : Nat) (ta : Nat) (tk : Int32) (tf : Nat → Int32) (w : Int32) (hfl : bi fl9 0 51) : Ci l yX4_flash wsX4_flash ({ frames := 2, cells := 0, slots := 0, locals := 45 } : Room) D [.ref h0, .int w, .ref tp] [(h0, .inr (3, [.int mq, .int mb, .ref fm, .ref ky, .int mi])), (fm, .inr (4, [.int fw, .int fb, .int fa, .int fc, .int fp, .int fz, .int fo, .int fl9])), (tp, .inr (6, [.ref ta, .int tk])), (ta, .inl (cI, 120, .inl tf))] [(cI, .int)] sz (fun (r : Int32) => fun (u9 : Int32 × (Nat → Int32)) => match u9 with | (tk2, tf2) => bi tk2 0 120 ∧ r = tk2 ∧ tk2 = fl9) (fun (u9 : Int32 × (Nat → Int32)) => match u9 with | (tk2, tf2) => [(h0, .inr (3, [.int mq, .int mb, .ref fm, .ref ky, .int mi])), (fm, .inr (4, [.int fw, .int fb, .int fa, .int fc, .int fp, .int fz, .int fo, .int fl9])), (tp, .inr (6, [.ref ta, .int tk2])), (ta, .inl (cI, 120, .inl tf2))]) (fun (u9 : Int32 × (Nat → Int32)) => match u9 with | (tk2, tf2) => []) := by
  refine ct_i (cc := cX4_flash) (maxL := 3) (ret := (some .int)) (by decide) rfl (Nat.le_of_ble_eq_true rfl) ?_
  intro p e s m below meth c A ls H hx hb hr hts hown hml hlocks hin hA hS hP hK hD hNW hl hAe hsz
  have hl : lv_has ls 3 [(0, .ref h0), (1, .int w), (2, .ref tp)] := hl
  refine lv_aload_n hx hb dX4_flash_0 rfl (lv_at hl 2 rfl) ?_
  refine lv_iconst (v := 0) hx hb dX4_flash_1 (by decide) ?_
  refine va_putN (D := D) (ci := 6) (v := .int 0) (ty := .int) (C := RX7) (T := TX7) (N := 2) hx hb hts hig_flashP_X7 tyX7 tyX7_ok nmX7 hown hK hP hD hS 2 rfl rfl 1 (by decide) (va_Nw.use rfl (hNW.1 ("OneHandset$Make", 34, "OneHandset$Tape", "size", "I", "OneHandset") (List.mem_of_getElem? (l := nw_F) (i := 0) rfl))) (fun _ h9 => h9) rfl (by decide +kernel) rfl rfl (Nat.le_of_ble_eq_true rfl) dX4_flash_2 (fun H locs hP hD hS => ?_)
  have hP : va_P D vwCl [(h0, .inr (3, [.int mq, .int mb, .ref fm, .ref ky, .int mi])), (fm, .inr (4, [.int fw, .int fb, .int fa, .int fc, .int fp, .int fz, .int fo, .int fl9])), (tp, .inr (6, [.ref ta, .int 0])), (ta, .inl (cI, 120, .inl tf))] H := hP
  have hD : va_D A [(h0, .inr (3, [.int mq, .int mb, .ref fm, .ref ky, .int mi])), (fm, .inr (4, [.int fw, .int fb, .int fa, .int fc, .int fp, .int fz, .int fo, .int fl9])), (tp, .inr (6, [.ref ta, .int 0])), (ta, .inl (cI, 120, .inl tf))] := hD
  refine lv_aload_n hx hb dX4_flash_5 rfl (lv_at hl 0 rfl) ?_
  refine va_get (D := D) (ci := 3) (v := .ref fm) (C := RX4) (T := TX4) (N := 5) hx hb hts hig_flashP_X4 hown hK hP 0 rfl rfl 2 (by decide) (hts (.fieldLink RX4 21 "OneHandset$Make" "form" "LOneHandset$Form;") (List.mem_of_getElem? (i := 1) rfl)) (fun _ h9 => h9) rfl dX4_flash_6 ?_
  refine lv_iload_n hx hb dX4_flash_9 rfl (lv_at hl 1 rfl) ?_
  refine lv_aload_n hx hb dX4_flash_10 rfl (lv_at hl 2 rfl) ?_
  refine go_v (wr := [(h0, .inr (3, [.int mq, .int mb, .ref fm, .ref ky, .int mi]))]) (tysr := [(cI, .int)]) hP hD hS hA hK [1, 2, 3] [0] [0] rfl rfl (by decide) (by decide) rfl (va_runU (As := [.int w, .ref tp]) (rest := []) ⟨hx, hb, hml, hown, hts⟩ (g_Pwrite l D H.size fm fw fb fa fc fp fz fo fl9 tp ta cI 0 tf w (by decide) hfl) (va_cwA 2 hts gX4_flash_X5_write_u39X5 rfl rfl rfl (hNW.2.2.2 _ (List.mem_of_getElem? (l := nw_D) (i := 0) rfl)) (by decide +kernel) ⟨Nat.le_of_ble_eq_true rfl, Nat.le_of_ble_eq_true rfl⟩) (st_preV (ci := 4) (q0 := 1) hP hD hK hNW [1, 2, 3] [0] rfl rfl (by decide) rfl rfl rfl rfl) rfl rfl hl.1 rfl (lv_room (Nat.le_of_ble_eq_true rfl)) dX4_flash_11 ⟨(Nat.le_of_ble_eq_true rfl), (Nat.le_of_ble_eq_true rfl)⟩) (fun u H locs hw hP hD hK hS => ?_)
  obtain ⟨tk_2, tf_3⟩ := u
  have hw : bi tk_2 0 120 ∧ tk_2 = fl9 := hw
  have hw_4 := hw
  have hP : va_P D vwCl [(h0, .inr (3, [.int mq, .int mb, .ref fm, .ref ky, .int mi])), (fm, .inr (4, [.int fw, .int fb, .int fa, .int fc, .int fp, .int fz, .int fo, .int fl9])), (tp, .inr (6, [.ref ta, .int tk_2])), (ta, .inl (cI, 120, .inl tf_3))] H := hP
  have hD : va_D A [(h0, .inr (3, [.int mq, .int mb, .ref fm, .ref ky, .int mi])), (fm, .inr (4, [.int fw, .int fb, .int fa, .int fc, .int fp, .int fz, .int fo, .int fl9])), (tp, .inr (6, [.ref ta, .int tk_2])), (ta, .inl (cI, 120, .inl tf_3))] := hD
  have hK : va_K D vwCl [(cI, .int)] s := hK
  refine lv_aload_n hx hb dX4_flash_14 rfl (lv_at hl 2 rfl) ?_
  refine va_getN (D := D) (ci := 6) (v := .int tk_2) (C := RX7) (T := TX7) (N := 2) hx hb hts hig_flashP_X7 hown hK hP 2 rfl rfl 1 (by decide) (va_Nw.use rfl (hNW.1 ("OneHandset$Make", 34, "OneHandset$Tape", "size", "I", "OneHandset") (List.mem_of_getElem? (l := nw_F) (i := 0) rfl))) (fun _ h9 => h9) rfl dX4_flash_15 ?_
  exact ret_i hx hb hr hlocks rfl (u := (tk_2, tf_3)) (⟨(hw_4).1, rfl, (hw_4).2⟩) (hP.sub [0, 1, 2, 3] rfl) (hK.sub [] rfl) (hD.sub [0, 1, 2, 3] (by decide) rfl) hS (Nat.le_of_ble_eq_true rfl) (Nat.le_of_ble_eq_true rfl) dX4_flash_18
theorem hig_decodeP_X4 : ∀ w ∈ wsX40, w ∈ wsX4_decode := mem_pl [56, 57, 58, 59, 60] rfl
set_option maxHeartbeats 4000000 in
set_option maxRecDepth 100000 in
theorem g_decodeP (l : Launch) (D : va_G) (sz : Nat) (cI : ClassId) (h0 : Nat) (fm : Nat) (ky : Nat) (mq : Int32) (mb : Int32) (mi : Int32) (fw : Int32) (fb : Int32) (fa : Int32) (fc : Int32) (fp : Int32) (fz : Int32) (fo : Int32) (fl9 : Int32) (tp : Nat) (ta : Nat) (tk : Int32) (tf : Nat → Int32) (hk : bi tk 0 120) : Ci l yX4_decode wsX4_decode ({ frames := 5, cells := 0, slots := 0, locals := 115 } : Room) D [.ref h0, .ref tp] [(h0, .inr (3, [.int mq, .int mb, .ref fm, .ref ky, .int mi])), (fm, .inr (4, [.int fw, .int fb, .int fa, .int fc, .int fp, .int fz, .int fo, .int fl9])), (tp, .inr (6, [.ref ta, .int tk])), (ta, .inl (cI, 120, .inl tf))] [(cI, .int)] sz (fun (r : Int32) => fun (_ : Unit) => True) (fun (_ : Unit) => [(h0, .inr (3, [.int mq, .int mb, .ref fm, .ref ky, .int mi])), (fm, .inr (4, [.int fw, .int fb, .int fa, .int fc, .int fp, .int fz, .int fo, .int fl9])), (tp, .inr (6, [.ref ta, .int tk])), (ta, .inl (cI, 120, .inl tf))]) (fun (_ : Unit) => []) := by
  refine ct_i (cc := cX4_decode) (maxL := 2) (ret := (some .int)) (by decide) rfl (Nat.le_of_ble_eq_true rfl) ?_
  intro p e s m below meth c A ls H hx hb hr hts hown hml hlocks hin hA hS hP hK hD hNW hl hAe hsz
  have hl : lv_has ls 2 [(0, .ref h0), (1, .ref tp)] := hl
  refine lv_aload_n hx hb dX4_decode_0 rfl (lv_at hl 0 rfl) ?_
  refine va_get (D := D) (ci := 3) (v := .ref fm) (C := RX4) (T := TX4) (N := 5) hx hb hts hig_decodeP_X4 hown hK hP 0 rfl rfl 2 (by decide) (hts (.fieldLink RX4 21 "OneHandset$Make" "form" "LOneHandset$Form;") (List.mem_of_getElem? (i := 1) rfl)) (fun _ h9 => h9) rfl dX4_decode_1 ?_
  refine lv_aload_n hx hb dX4_decode_4 rfl (lv_at hl 1 rfl) ?_
  refine lv_aload_n hx hb dX4_decode_5 rfl (lv_at hl 0 rfl) ?_
  refine va_get (D := D) (ci := 3) (v := .int mi) (C := RX4) (T := TX4) (N := 5) hx hb hts hig_decodeP_X4 hown hK hP 0 rfl rfl 4 (by decide) (hts (.fieldLink RX4 9 "OneHandset$Make" "miss" "I") (List.mem_of_getElem? (i := 2) rfl)) (fun _ h9 => h9) rfl dX4_decode_6 ?_
  refine go_i (wr := [(h0, .inr (3, [.int mq, .int mb, .ref fm, .ref ky, .int mi]))]) (tysr := [(cI, .int)]) hP hD hS hA hK [1, 2, 3] [0] [0] rfl rfl (by decide) (by decide) rfl (va_runU (As := [.ref tp, .int mi]) (rest := []) ⟨hx, hb, hml, hown, hts⟩ (g_Pdecode l D H.size fm fw fb fa fc fp fz fo fl9 tp ta cI tk tf mi hk) (va_cwA 2 hts gX4_decode_X5_decode_u45X5 rfl rfl rfl (hNW.2.2.2 _ (List.mem_of_getElem? (l := nw_D) (i := 1) rfl)) (by decide +kernel) ⟨Nat.le_of_ble_eq_true rfl, Nat.le_of_ble_eq_true rfl⟩) (st_preV (ci := 4) (q0 := 1) hP hD hK hNW [1, 2, 3] [0] rfl rfl (by decide) rfl rfl rfl rfl) rfl rfl hl.1 rfl (lv_room (Nat.le_of_ble_eq_true rfl)) dX4_decode_9 ⟨(Nat.le_of_ble_eq_true rfl), (Nat.le_of_ble_eq_true rfl)⟩) (fun r_1 u H locs hw hP hD hK hS => ?_)
  have hP : va_P D vwCl [(h0, .inr (3, [.int mq, .int mb, .ref fm, .ref ky, .int mi])), (fm, .inr (4, [.int fw, .int fb, .int fa, .int fc, .int fp, .int fz, .int fo, .int fl9])), (tp, .inr (6, [.ref ta, .int tk])), (ta, .inl (cI, 120, .inl tf))] H := hP
  have hD : va_D A [(h0, .inr (3, [.int mq, .int mb, .ref fm, .ref ky, .int mi])), (fm, .inr (4, [.int fw, .int fb, .int fa, .int fc, .int fp, .int fz, .int fo, .int fl9])), (tp, .inr (6, [.ref ta, .int tk])), (ta, .inl (cI, 120, .inl tf))] := hD
  have hK : va_K D vwCl [(cI, .int)] s := hK
  exact ret_i hx hb hr hlocks rfl (u := ()) trivial (hP.sub [0, 1, 2, 3] rfl) (hK.sub [] rfl) (hD.sub [0, 1, 2, 3] (by decide) rfl) hS (Nat.le_of_ble_eq_true rfl) (Nat.le_of_ble_eq_true rfl) dX4_decode_12
theorem hig_flashH_X7 : ∀ w ∈ wsX70, w ∈ wsX4_flash := mem_pl [46, 47] rfl
theorem hig_flashH_X4 : ∀ w ∈ wsX40, w ∈ wsX4_flash := mem_pl [48, 49, 50, 51, 52] rfl
set_option maxHeartbeats 4000000 in
set_option maxRecDepth 100000 in
theorem g_flashH (l : Launch) (D : va_G) (sz : Nat) (cI : ClassId) (h0 : Nat) (fm : Nat) (ky : Nat) (mq : Int32) (mb : Int32) (mi : Int32) (fb : Int32) (fp : Int32) (tp : Nat) (ta : Nat) (tk : Int32) (tf : Nat → Int32) (w : Int32) (hfb : bi fb 1 24) : Ci l yX4_flash wsX4_flash ({ frames := 2, cells := 0, slots := 0, locals := 47 } : Room) D [.ref h0, .int w, .ref tp] [(h0, .inr (3, [.int mq, .int mb, .ref fm, .ref ky, .int mi])), (fm, .inr (1, [.int fb, .int fp])), (tp, .inr (6, [.ref ta, .int tk])), (ta, .inl (cI, 120, .inl tf))] [(cI, .int)] sz (fun (r : Int32) => fun (u9 : Int32 × (Nat → Int32)) => match u9 with | (tk2, tf2) => bi tk2 0 120 ∧ r = tk2 ∧ tk2 = nI (nHT (cN fb) w)) (fun (u9 : Int32 × (Nat → Int32)) => match u9 with | (tk2, tf2) => [(h0, .inr (3, [.int mq, .int mb, .ref fm, .ref ky, .int mi])), (fm, .inr (1, [.int fb, .int fp])), (tp, .inr (6, [.ref ta, .int tk2])), (ta, .inl (cI, 120, .inl tf2))]) (fun (u9 : Int32 × (Nat → Int32)) => match u9 with | (tk2, tf2) => []) := by
  refine ct_i (cc := cX4_flash) (maxL := 3) (ret := (some .int)) (by decide) rfl (Nat.le_of_ble_eq_true rfl) ?_
  intro p e s m below meth c A ls H hx hb hr hts hown hml hlocks hin hA hS hP hK hD hNW hl hAe hsz
  have hl : lv_has ls 3 [(0, .ref h0), (1, .int w), (2, .ref tp)] := hl
  refine lv_aload_n hx hb dX4_flash_0 rfl (lv_at hl 2 rfl) ?_
  refine lv_iconst (v := 0) hx hb dX4_flash_1 (by decide) ?_
  refine va_putN (D := D) (ci := 6) (v := .int 0) (ty := .int) (C := RX7) (T := TX7) (N := 2) hx hb hts hig_flashH_X7 tyX7 tyX7_ok nmX7 hown hK hP hD hS 2 rfl rfl 1 (by decide) (va_Nw.use rfl (hNW.1 ("OneHandset$Make", 34, "OneHandset$Tape", "size", "I", "OneHandset") (List.mem_of_getElem? (l := nw_F) (i := 0) rfl))) (fun _ h9 => h9) rfl (by decide +kernel) rfl rfl (Nat.le_of_ble_eq_true rfl) dX4_flash_2 (fun H locs hP hD hS => ?_)
  have hP : va_P D vwCl [(h0, .inr (3, [.int mq, .int mb, .ref fm, .ref ky, .int mi])), (fm, .inr (1, [.int fb, .int fp])), (tp, .inr (6, [.ref ta, .int 0])), (ta, .inl (cI, 120, .inl tf))] H := hP
  have hD : va_D A [(h0, .inr (3, [.int mq, .int mb, .ref fm, .ref ky, .int mi])), (fm, .inr (1, [.int fb, .int fp])), (tp, .inr (6, [.ref ta, .int 0])), (ta, .inl (cI, 120, .inl tf))] := hD
  refine lv_aload_n hx hb dX4_flash_5 rfl (lv_at hl 0 rfl) ?_
  refine va_get (D := D) (ci := 3) (v := .ref fm) (C := RX4) (T := TX4) (N := 5) hx hb hts hig_flashH_X4 hown hK hP 0 rfl rfl 2 (by decide) (hts (.fieldLink RX4 21 "OneHandset$Make" "form" "LOneHandset$Form;") (List.mem_of_getElem? (i := 1) rfl)) (fun _ h9 => h9) rfl dX4_flash_6 ?_
  refine lv_iload_n hx hb dX4_flash_9 rfl (lv_at hl 1 rfl) ?_
  refine lv_aload_n hx hb dX4_flash_10 rfl (lv_at hl 2 rfl) ?_
  refine go_v (wr := [(h0, .inr (3, [.int mq, .int mb, .ref fm, .ref ky, .int mi]))]) (tysr := [(cI, .int)]) hP hD hS hA hK [1, 2, 3] [0] [0] rfl rfl (by decide) (by decide) rfl (va_runU (As := [.int w, .ref tp]) (rest := []) ⟨hx, hb, hml, hown, hts⟩ (g_Hwrite l D H.size fm fb fp tp ta cI 0 tf w (by decide) hfb) (va_cwA 2 hts gX4_flash_X2_write_u39X2 rfl rfl rfl (hNW.2.2.2 _ (List.mem_of_getElem? (l := nw_D) (i := 0) rfl)) (by decide +kernel) ⟨Nat.le_of_ble_eq_true rfl, Nat.le_of_ble_eq_true rfl⟩) (st_preV (ci := 1) (q0 := 1) hP hD hK hNW [1, 2, 3] [0] rfl rfl (by decide) rfl rfl rfl rfl) rfl rfl hl.1 rfl (lv_room (Nat.le_of_ble_eq_true rfl)) dX4_flash_11 ⟨(Nat.le_of_ble_eq_true rfl), (Nat.le_of_ble_eq_true rfl)⟩) (fun u H locs hw hP hD hK hS => ?_)
  obtain ⟨tk_2, tf_3⟩ := u
  have hw : bi tk_2 0 120 ∧ tk_2 = nI (nHT (cN fb) w) := hw
  have hw_4 := hw
  have hP : va_P D vwCl [(h0, .inr (3, [.int mq, .int mb, .ref fm, .ref ky, .int mi])), (fm, .inr (1, [.int fb, .int fp])), (tp, .inr (6, [.ref ta, .int tk_2])), (ta, .inl (cI, 120, .inl tf_3))] H := hP
  have hD : va_D A [(h0, .inr (3, [.int mq, .int mb, .ref fm, .ref ky, .int mi])), (fm, .inr (1, [.int fb, .int fp])), (tp, .inr (6, [.ref ta, .int tk_2])), (ta, .inl (cI, 120, .inl tf_3))] := hD
  have hK : va_K D vwCl [(cI, .int)] s := hK
  refine lv_aload_n hx hb dX4_flash_14 rfl (lv_at hl 2 rfl) ?_
  refine va_getN (D := D) (ci := 6) (v := .int tk_2) (C := RX7) (T := TX7) (N := 2) hx hb hts hig_flashH_X7 hown hK hP 2 rfl rfl 1 (by decide) (va_Nw.use rfl (hNW.1 ("OneHandset$Make", 34, "OneHandset$Tape", "size", "I", "OneHandset") (List.mem_of_getElem? (l := nw_F) (i := 0) rfl))) (fun _ h9 => h9) rfl dX4_flash_15 ?_
  exact ret_i hx hb hr hlocks rfl (u := (tk_2, tf_3)) (⟨(hw_4).1, rfl, (hw_4).2⟩) (hP.sub [0, 1, 2, 3] rfl) (hK.sub [] rfl) (hD.sub [0, 1, 2, 3] (by decide) rfl) hS (Nat.le_of_ble_eq_true rfl) (Nat.le_of_ble_eq_true rfl) dX4_flash_18
theorem hig_decodeH_X4 : ∀ w ∈ wsX40, w ∈ wsX4_decode := mem_pl [56, 57, 58, 59, 60] rfl
set_option maxHeartbeats 4000000 in
set_option maxRecDepth 100000 in
theorem g_decodeH (l : Launch) (D : va_G) (sz : Nat) (cI : ClassId) (h0 : Nat) (fm : Nat) (ky : Nat) (mq : Int32) (mb : Int32) (mi : Int32) (fb : Int32) (fp : Int32) (tp : Nat) (ta : Nat) (tk : Int32) (tf : Nat → Int32) (hk : bi tk 0 120) : Ci l yX4_decode wsX4_decode ({ frames := 5, cells := 0, slots := 0, locals := 119 } : Room) D [.ref h0, .ref tp] [(h0, .inr (3, [.int mq, .int mb, .ref fm, .ref ky, .int mi])), (fm, .inr (1, [.int fb, .int fp])), (tp, .inr (6, [.ref ta, .int tk])), (ta, .inl (cI, 120, .inl tf))] [(cI, .int)] sz (fun (r : Int32) => fun (_ : Unit) => True) (fun (_ : Unit) => [(h0, .inr (3, [.int mq, .int mb, .ref fm, .ref ky, .int mi])), (fm, .inr (1, [.int fb, .int fp])), (tp, .inr (6, [.ref ta, .int tk])), (ta, .inl (cI, 120, .inl tf))]) (fun (_ : Unit) => []) := by
  refine ct_i (cc := cX4_decode) (maxL := 2) (ret := (some .int)) (by decide) rfl (Nat.le_of_ble_eq_true rfl) ?_
  intro p e s m below meth c A ls H hx hb hr hts hown hml hlocks hin hA hS hP hK hD hNW hl hAe hsz
  have hl : lv_has ls 2 [(0, .ref h0), (1, .ref tp)] := hl
  refine lv_aload_n hx hb dX4_decode_0 rfl (lv_at hl 0 rfl) ?_
  refine va_get (D := D) (ci := 3) (v := .ref fm) (C := RX4) (T := TX4) (N := 5) hx hb hts hig_decodeH_X4 hown hK hP 0 rfl rfl 2 (by decide) (hts (.fieldLink RX4 21 "OneHandset$Make" "form" "LOneHandset$Form;") (List.mem_of_getElem? (i := 1) rfl)) (fun _ h9 => h9) rfl dX4_decode_1 ?_
  refine lv_aload_n hx hb dX4_decode_4 rfl (lv_at hl 1 rfl) ?_
  refine lv_aload_n hx hb dX4_decode_5 rfl (lv_at hl 0 rfl) ?_
  refine va_get (D := D) (ci := 3) (v := .int mi) (C := RX4) (T := TX4) (N := 5) hx hb hts hig_decodeH_X4 hown hK hP 0 rfl rfl 4 (by decide) (hts (.fieldLink RX4 9 "OneHandset$Make" "miss" "I") (List.mem_of_getElem? (i := 2) rfl)) (fun _ h9 => h9) rfl dX4_decode_6 ?_
  refine go_i (wr := [(h0, .inr (3, [.int mq, .int mb, .ref fm, .ref ky, .int mi]))]) (tysr := [(cI, .int)]) hP hD hS hA hK [1, 2, 3] [0] [0] rfl rfl (by decide) (by decide) rfl (va_runU (As := [.ref tp, .int mi]) (rest := []) ⟨hx, hb, hml, hown, hts⟩ (g_Hdecode l D H.size fm fb fp tp ta cI tk tf mi hk) (va_cwA 2 hts gX4_decode_X2_decode_u45X2 rfl rfl rfl (hNW.2.2.2 _ (List.mem_of_getElem? (l := nw_D) (i := 1) rfl)) (by decide +kernel) ⟨Nat.le_of_ble_eq_true rfl, Nat.le_of_ble_eq_true rfl⟩) (st_preV (ci := 1) (q0 := 1) hP hD hK hNW [1, 2, 3] [0] rfl rfl (by decide) rfl rfl rfl rfl) rfl rfl hl.1 rfl (lv_room (Nat.le_of_ble_eq_true rfl)) dX4_decode_9 ⟨(Nat.le_of_ble_eq_true rfl), (Nat.le_of_ble_eq_true rfl)⟩) (fun r_1 u H locs hw hP hD hK hS => ?_)
  have hP : va_P D vwCl [(h0, .inr (3, [.int mq, .int mb, .ref fm, .ref ky, .int mi])), (fm, .inr (1, [.int fb, .int fp])), (tp, .inr (6, [.ref ta, .int tk])), (ta, .inl (cI, 120, .inl tf))] H := hP
  have hD : va_D A [(h0, .inr (3, [.int mq, .int mb, .ref fm, .ref ky, .int mi])), (fm, .inr (1, [.int fb, .int fp])), (tp, .inr (6, [.ref ta, .int tk])), (ta, .inl (cI, 120, .inl tf))] := hD
  have hK : va_K D vwCl [(cI, .int)] s := hK
  exact ret_i hx hb hr hlocks rfl (u := ()) trivial (hP.sub [0, 1, 2, 3] rfl) (hK.sub [] rfl) (hD.sub [0, 1, 2, 3] (by decide) rfl) hS (Nat.le_of_ble_eq_true rfl) (Nat.le_of_ble_eq_true rfl) dX4_decode_12
theorem hig_makeAt_no_X8 : ∀ w ∈ wsX80, w ∈ wsX8_makeAt := mem_pl [7, 8, 9, 10, 11] rfl
set_option maxHeartbeats 4000000 in
set_option maxRecDepth 100000 in
theorem g_makeAt_no (l : Launch) (D : va_G) (sz : Nat) (h0 : Nat) (tp : Nat) (mka : Nat) (bx : Nat) (rt : Nat) (mc : Int32) (i : Int32) (hno : wi i 0 (mc - 1) = 0) : Cq l yX8_makeAt wsX8_makeAt ({ frames := 1, cells := 0, slots := 0, locals := 22 } : Room) D [.ref h0, .int i] [(h0, .inr (7, [.ref tp, .ref mka, .int mc, .ref bx, .ref rt]))] [] sz (fun (r : Option Nat) => fun (_ : Unit) => r = none) (fun (_ : Unit) => [(h0, .inr (7, [.ref tp, .ref mka, .int mc, .ref bx, .ref rt]))]) (fun (_ : Unit) => []) := by
  refine ct_q (cc := cX8_makeAt) (maxL := 2) (ret := (some (.object "OneHandset$Make"))) (by decide) rfl (Nat.le_of_ble_eq_true rfl) ?_
  intro p e s m below meth c A ls H hx hb hr hts hown hml hlocks hin hA hS hP hK hD hNW hl hAe hsz
  have hl : lv_has ls 2 [(0, .ref h0), (1, .int i)] := hl
  refine lv_iload_n hx hb dX8_makeAt_0 rfl (lv_at hl 1 rfl) ?_
  refine lv_iconst (v := 0) hx hb dX8_makeAt_1 (by decide) ?_
  refine lv_aload_n hx hb dX8_makeAt_2 rfl (lv_at hl 0 rfl) ?_
  refine va_get (D := D) (ci := 7) (v := .int mc) (C := RX8) (T := TX8) (N := 5) hx hb hts hig_makeAt_no_X8 hown hK hP 0 rfl rfl 2 (by decide) (hts (.fieldLink RX8 22 "OneHandset" "makeCount" "I") (List.mem_of_getElem? (i := 1) rfl)) (fun _ h9 => h9) rfl dX8_makeAt_3 ?_
  refine lv_iconst (v := 1) hx hb dX8_makeAt_6 (by decide) ?_
  refine lv_isub hx hb dX8_makeAt_7 ?_
  refine go_i (wr := [(h0, .inr (7, [.ref tp, .ref mka, .int mc, .ref bx, .ref rt]))]) (tysr := []) hP hD hS hA hK [] [0] [] rfl rfl (by decide) (by decide) rfl (va_runS (As := [.int i, .int 0, .int (mc - 1)]) (rest := []) ⟨hx, hb, hml, hown, hts⟩ (c_X8_within l D H.size i 0 (mc - 1) ) (va_cwS 3 hts gX8_makeAt_X8_within rfl rfl rfl (by decide +kernel) ⟨Nat.le_of_ble_eq_true rfl, Nat.le_of_ble_eq_true rfl⟩) (st_preS hP hD hK hNW [] [] rfl rfl (by decide) rfl) rfl rfl hl.1 rfl (lv_room (Nat.le_of_ble_eq_true rfl)) dX8_makeAt_8 ⟨(Nat.le_of_ble_eq_true rfl), (Nat.le_of_ble_eq_true rfl)⟩) (fun r_1 u H locs hw hP hD hK hS => ?_)
  have hw : r_1 = wi i 0 (mc - 1) := hw
  subst hw
  have hP : va_P D vwCl [(h0, .inr (7, [.ref tp, .ref mka, .int mc, .ref bx, .ref rt]))] H := hP
  have hD : va_D A [(h0, .inr (7, [.ref tp, .ref mka, .int mc, .ref bx, .ref rt]))] := hD
  have hK : va_K D vwCl [] s := hK
  refine lv_if_eq (tgt := 23) hx hb dX8_makeAt_11 (by decide) (fun _ => ?_) (fun c_2 => absurd (hno) c_2)
  refine lv_null hx hb dX8_makeAt_23 ?_
  exact ret_q (none) rfl hx hb hr hlocks (Or.inl ⟨_, rfl⟩) (u := ()) rfl (hP.sub [0] rfl) (hK.sub [] rfl) (hD.sub [0] (by decide) rfl) hS (Nat.le_of_ble_eq_true rfl) (Nat.le_of_ble_eq_true rfl) dX8_makeAt_24
theorem hig_makeAt_yes_X8 : ∀ w ∈ wsX80, w ∈ wsX8_makeAt := mem_pl [7, 8, 9, 10, 11] rfl
set_option maxHeartbeats 4000000 in
set_option maxRecDepth 100000 in
theorem g_makeAt_yes (l : Launch) (D : va_G) (sz : Nat) (h0 : Nat) (tp : Nat) (mka : Nat) (bx : Nat) (rt : Nat) (mc : Int32) (cM : ClassId) (mf : Nat → Option Nat) (mk : Nat) (i : Int32) (hyes : ¬ wi i 0 (mc - 1) = 0) (him : mf (Int32.toNatClampNeg i) = some mk) (hmc : bi mc 0 8) : Cq l yX8_makeAt wsX8_makeAt ({ frames := 1, cells := 0, slots := 0, locals := 22 } : Room) D [.ref h0, .int i] [(h0, .inr (7, [.ref tp, .ref mka, .int mc, .ref bx, .ref rt])), (mka, .inl (cM, 8, .inr (.inr (.inr (.inr mf)))))] [(cM, .object "OneHandset$Make")] sz (fun (r : Option Nat) => fun (_ : Unit) => r = some mk) (fun (_ : Unit) => [(h0, .inr (7, [.ref tp, .ref mka, .int mc, .ref bx, .ref rt])), (mka, .inl (cM, 8, .inr (.inr (.inr (.inr mf)))))]) (fun (_ : Unit) => []) := by
  refine ct_q (cc := cX8_makeAt) (maxL := 2) (ret := (some (.object "OneHandset$Make"))) (by decide) rfl (Nat.le_of_ble_eq_true rfl) ?_
  intro p e s m below meth c A ls H hx hb hr hts hown hml hlocks hin hA hS hP hK hD hNW hl hAe hsz
  have hl : lv_has ls 2 [(0, .ref h0), (1, .int i)] := hl
  refine lv_iload_n hx hb dX8_makeAt_0 rfl (lv_at hl 1 rfl) ?_
  refine lv_iconst (v := 0) hx hb dX8_makeAt_1 (by decide) ?_
  refine lv_aload_n hx hb dX8_makeAt_2 rfl (lv_at hl 0 rfl) ?_
  refine va_get (D := D) (ci := 7) (v := .int mc) (C := RX8) (T := TX8) (N := 5) hx hb hts hig_makeAt_yes_X8 hown hK hP 0 rfl rfl 2 (by decide) (hts (.fieldLink RX8 22 "OneHandset" "makeCount" "I") (List.mem_of_getElem? (i := 1) rfl)) (fun _ h9 => h9) rfl dX8_makeAt_3 ?_
  refine lv_iconst (v := 1) hx hb dX8_makeAt_6 (by decide) ?_
  refine lv_isub hx hb dX8_makeAt_7 ?_
  refine go_i (wr := [(h0, .inr (7, [.ref tp, .ref mka, .int mc, .ref bx, .ref rt])), (mka, .inl (cM, 8, .inr (.inr (.inr (.inr mf)))))]) (tysr := [(cM, .object "OneHandset$Make")]) hP hD hS hA hK [] [0, 1] [0] rfl rfl (by decide) (by decide) rfl (va_runS (As := [.int i, .int 0, .int (mc - 1)]) (rest := []) ⟨hx, hb, hml, hown, hts⟩ (c_X8_within l D H.size i 0 (mc - 1) ) (va_cwS 3 hts gX8_makeAt_X8_within rfl rfl rfl (by decide +kernel) ⟨Nat.le_of_ble_eq_true rfl, Nat.le_of_ble_eq_true rfl⟩) (st_preS hP hD hK hNW [] [] rfl rfl (by decide) rfl) rfl rfl hl.1 rfl (lv_room (Nat.le_of_ble_eq_true rfl)) dX8_makeAt_8 ⟨(Nat.le_of_ble_eq_true rfl), (Nat.le_of_ble_eq_true rfl)⟩) (fun r_1 u H locs hw hP hD hK hS => ?_)
  have hw : r_1 = wi i 0 (mc - 1) := hw
  subst hw
  have hP : va_P D vwCl [(h0, .inr (7, [.ref tp, .ref mka, .int mc, .ref bx, .ref rt])), (mka, .inl (cM, 8, .inr (.inr (.inr (.inr mf)))))] H := hP
  have hD : va_D A [(h0, .inr (7, [.ref tp, .ref mka, .int mc, .ref bx, .ref rt])), (mka, .inl (cM, 8, .inr (.inr (.inr (.inr mf)))))] := hD
  have hK : va_K D vwCl [(cM, .object "OneHandset$Make")] s := hK
  refine lv_if_eq (tgt := 23) hx hb dX8_makeAt_11 (by decide) (fun c_2 => absurd c_2 (hyes)) (fun _ => ?_)
  refine lv_aload_n hx hb dX8_makeAt_14 rfl (lv_at hl 0 rfl) ?_
  refine va_get (D := D) (ci := 7) (v := .ref mka) (C := RX8) (T := TX8) (N := 5) hx hb hts hig_makeAt_yes_X8 hown hK hP 0 rfl rfl 1 (by decide) (hts (.fieldLink RX8 18 "OneHandset" "makes" "[LOneHandset$Make;") (List.mem_of_getElem? (i := 2) rfl)) (fun _ h9 => h9) rfl dX8_makeAt_15 ?_
  refine lv_iload_n hx hb dX8_makeAt_18 rfl (lv_at hl 1 rfl) ?_
  refine va_aldq hx hb hK hP 1 0 rfl rfl (vp_in_iff.mpr (by have k0 : (0 : Int32).toInt = 0 := (by decide); have u0 := ti_wi1 hyes; have u1 := ti_m1 (i := mc) (by omega); omega)) dX8_makeAt_19 ?_
  refine lv_goto (tgt := 24) hx hb dX8_makeAt_20 (by decide) ?_
  exact ret_q (mf (Int32.toNatClampNeg i)) rfl hx hb hr hlocks (Or.inl ⟨_, rfl⟩) (u := ()) him (hP.sub [0, 1] rfl) (hK.sub [] rfl) (hD.sub [0, 1] (by decide) rfl) hS (Nat.le_of_ble_eq_true rfl) (Nat.le_of_ble_eq_true rfl) dX8_makeAt_24
set_option maxHeartbeats 4000000 in
set_option maxRecDepth 100000 in
theorem g_boxAt_no (l : Launch) (D : va_G) (sz : Nat) (h0 : Nat) (tp : Nat) (mka : Nat) (bx : Nat) (rt : Nat) (mc : Int32) (i : Int32) (hno : wi i 0 3 = 0) : Cq l yX8_boxAt wsX8_boxAt ({ frames := 1, cells := 0, slots := 0, locals := 22 } : Room) D [.ref h0, .int i] [(h0, .inr (7, [.ref tp, .ref mka, .int mc, .ref bx, .ref rt]))] [] sz (fun (r : Option Nat) => fun (_ : Unit) => r = none) (fun (_ : Unit) => [(h0, .inr (7, [.ref tp, .ref mka, .int mc, .ref bx, .ref rt]))]) (fun (_ : Unit) => []) := by
  refine ct_q (cc := cX8_boxAt) (maxL := 2) (ret := (some (.object "OneHandset$Box"))) (by decide) rfl (Nat.le_of_ble_eq_true rfl) ?_
  intro p e s m below meth c A ls H hx hb hr hts hown hml hlocks hin hA hS hP hK hD hNW hl hAe hsz
  have hl : lv_has ls 2 [(0, .ref h0), (1, .int i)] := hl
  refine lv_iload_n hx hb dX8_boxAt_0 rfl (lv_at hl 1 rfl) ?_
  refine lv_iconst (v := 0) hx hb dX8_boxAt_1 (by decide) ?_
  refine lv_iconst (v := 3) hx hb dX8_boxAt_2 (by decide) ?_
  refine go_i (wr := [(h0, .inr (7, [.ref tp, .ref mka, .int mc, .ref bx, .ref rt]))]) (tysr := []) hP hD hS hA hK [] [0] [] rfl rfl (by decide) (by decide) rfl (va_runS (As := [.int i, .int 0, .int 3]) (rest := []) ⟨hx, hb, hml, hown, hts⟩ (c_X8_within l D H.size i 0 3 ) (va_cwS 3 hts gX8_boxAt_X8_within rfl rfl rfl (by decide +kernel) ⟨Nat.le_of_ble_eq_true rfl, Nat.le_of_ble_eq_true rfl⟩) (st_preS hP hD hK hNW [] [] rfl rfl (by decide) rfl) rfl rfl hl.1 rfl (lv_room (Nat.le_of_ble_eq_true rfl)) dX8_boxAt_3 ⟨(Nat.le_of_ble_eq_true rfl), (Nat.le_of_ble_eq_true rfl)⟩) (fun r_1 u H locs hw hP hD hK hS => ?_)
  have hw : r_1 = wi i 0 3 := hw
  subst hw
  have hP : va_P D vwCl [(h0, .inr (7, [.ref tp, .ref mka, .int mc, .ref bx, .ref rt]))] H := hP
  have hD : va_D A [(h0, .inr (7, [.ref tp, .ref mka, .int mc, .ref bx, .ref rt]))] := hD
  have hK : va_K D vwCl [] s := hK
  refine lv_if_eq (tgt := 18) hx hb dX8_boxAt_6 (by decide) (fun _ => ?_) (fun c_2 => absurd (hno) c_2)
  refine lv_null hx hb dX8_boxAt_18 ?_
  exact ret_q (none) rfl hx hb hr hlocks (Or.inl ⟨_, rfl⟩) (u := ()) rfl (hP.sub [0] rfl) (hK.sub [] rfl) (hD.sub [0] (by decide) rfl) hS (Nat.le_of_ble_eq_true rfl) (Nat.le_of_ble_eq_true rfl) dX8_boxAt_19
theorem hig_boxAt_yes_X8 : ∀ w ∈ wsX80, w ∈ wsX8_boxAt := mem_pl [6, 7, 8, 9, 10] rfl
set_option maxHeartbeats 4000000 in
set_option maxRecDepth 100000 in
theorem g_boxAt_yes (l : Launch) (D : va_G) (sz : Nat) (h0 : Nat) (tp : Nat) (mka : Nat) (bx : Nat) (rt : Nat) (mc : Int32) (cB : ClassId) (bf : Nat → Option Nat) (bq : Nat) (i : Int32) (hyes : ¬ wi i 0 3 = 0) (hib : bf (Int32.toNatClampNeg i) = some bq) : Cq l yX8_boxAt wsX8_boxAt ({ frames := 1, cells := 0, slots := 0, locals := 22 } : Room) D [.ref h0, .int i] [(h0, .inr (7, [.ref tp, .ref mka, .int mc, .ref bx, .ref rt])), (bx, .inl (cB, 4, .inr (.inr (.inr (.inr bf)))))] [(cB, .object "OneHandset$Box")] sz (fun (r : Option Nat) => fun (_ : Unit) => r = some bq) (fun (_ : Unit) => [(h0, .inr (7, [.ref tp, .ref mka, .int mc, .ref bx, .ref rt])), (bx, .inl (cB, 4, .inr (.inr (.inr (.inr bf)))))]) (fun (_ : Unit) => []) := by
  refine ct_q (cc := cX8_boxAt) (maxL := 2) (ret := (some (.object "OneHandset$Box"))) (by decide) rfl (Nat.le_of_ble_eq_true rfl) ?_
  intro p e s m below meth c A ls H hx hb hr hts hown hml hlocks hin hA hS hP hK hD hNW hl hAe hsz
  have hl : lv_has ls 2 [(0, .ref h0), (1, .int i)] := hl
  refine lv_iload_n hx hb dX8_boxAt_0 rfl (lv_at hl 1 rfl) ?_
  refine lv_iconst (v := 0) hx hb dX8_boxAt_1 (by decide) ?_
  refine lv_iconst (v := 3) hx hb dX8_boxAt_2 (by decide) ?_
  refine go_i (wr := [(h0, .inr (7, [.ref tp, .ref mka, .int mc, .ref bx, .ref rt])), (bx, .inl (cB, 4, .inr (.inr (.inr (.inr bf)))))]) (tysr := [(cB, .object "OneHandset$Box")]) hP hD hS hA hK [] [0, 1] [0] rfl rfl (by decide) (by decide) rfl (va_runS (As := [.int i, .int 0, .int 3]) (rest := []) ⟨hx, hb, hml, hown, hts⟩ (c_X8_within l D H.size i 0 3 ) (va_cwS 3 hts gX8_boxAt_X8_within rfl rfl rfl (by decide +kernel) ⟨Nat.le_of_ble_eq_true rfl, Nat.le_of_ble_eq_true rfl⟩) (st_preS hP hD hK hNW [] [] rfl rfl (by decide) rfl) rfl rfl hl.1 rfl (lv_room (Nat.le_of_ble_eq_true rfl)) dX8_boxAt_3 ⟨(Nat.le_of_ble_eq_true rfl), (Nat.le_of_ble_eq_true rfl)⟩) (fun r_1 u H locs hw hP hD hK hS => ?_)
  have hw : r_1 = wi i 0 3 := hw
  subst hw
  have hP : va_P D vwCl [(h0, .inr (7, [.ref tp, .ref mka, .int mc, .ref bx, .ref rt])), (bx, .inl (cB, 4, .inr (.inr (.inr (.inr bf)))))] H := hP
  have hD : va_D A [(h0, .inr (7, [.ref tp, .ref mka, .int mc, .ref bx, .ref rt])), (bx, .inl (cB, 4, .inr (.inr (.inr (.inr bf)))))] := hD
  have hK : va_K D vwCl [(cB, .object "OneHandset$Box")] s := hK
  refine lv_if_eq (tgt := 18) hx hb dX8_boxAt_6 (by decide) (fun c_2 => absurd c_2 (hyes)) (fun _ => ?_)
  refine lv_aload_n hx hb dX8_boxAt_9 rfl (lv_at hl 0 rfl) ?_
  refine va_get (D := D) (ci := 7) (v := .ref bx) (C := RX8) (T := TX8) (N := 5) hx hb hts hig_boxAt_yes_X8 hown hK hP 0 rfl rfl 3 (by decide) (hts (.fieldLink RX8 28 "OneHandset" "boxes" "[LOneHandset$Box;") (List.mem_of_getElem? (i := 1) rfl)) (fun _ h9 => h9) rfl dX8_boxAt_10 ?_
  refine lv_iload_n hx hb dX8_boxAt_13 rfl (lv_at hl 1 rfl) ?_
  refine va_aldq hx hb hK hP 1 0 rfl rfl (wi_in hyes) dX8_boxAt_14 ?_
  refine lv_goto (tgt := 19) hx hb dX8_boxAt_15 (by decide) ?_
  exact ret_q (bf (Int32.toNatClampNeg i)) rfl hx hb hr hlocks (Or.inl ⟨_, rfl⟩) (u := ()) hib (hP.sub [0, 1] rfl) (hK.sub [] rfl) (hD.sub [0, 1] (by decide) rfl) hS (Nat.le_of_ble_eq_true rfl) (Nat.le_of_ble_eq_true rfl) dX8_boxAt_19
