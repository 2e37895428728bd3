theorem hiX7_append_X7 : ∀ w ∈ wsX70, w ∈ wsX7_append := mem_pl [3, 4] rfl
set_option maxHeartbeats 4000000 in
set_option maxRecDepth 100000 in
theorem c_X7_append (l : Launch) (D : va_G) (sz : Nat) (h0 : Nat) (ta : Nat) (cT : ClassId) (f : Nat → Int32) (sz0 : Int32) (t : Int32) (hs : ¬ 120 ≤ sz0) (hi : vp_in sz0 120) : Cv l yX7_append wsX7_append ({ frames := 0, cells := 0, slots := 0, locals := 0 } : Room) D [.ref h0, .int t] [(h0, .inr (6, [.ref ta, .int sz0])), (ta, .inl (cT, 120, .inl f))] [(cT, .int)] sz (fun (_ : Unit) => True) (fun (_ : Unit) => [(h0, .inr (6, [.ref ta, .int (sz0 + 1)])), (ta, .inl (cT, 120, .inl (upd f (Int32.toNatClampNeg sz0) t)))]) (fun (_ : Unit) => [(cT, .int)]) := by
  refine ct_v (cc := cX7_append) (maxL := 2) (ret := none) (by decide) rfl (Nat.le_of_ble_eq_true rfl) ?_
  intro p e s m below meth c A ls H hx hb hr hts hown hml hlocks hin hA hS hP hK hD hNW hl hAe hsz
  have hl : lv_has ls 2 [(0, .ref h0), (1, .int t)] := hl
  refine lv_aload_n hx hb dX7_append_0 rfl (lv_at hl 0 rfl) ?_
  refine va_get (D := D) (ci := 6) (v := .int sz0) (C := RX7) (T := TX7) (N := 2) hx hb hts hiX7_append_X7 hown hK hP 0 rfl rfl 1 (by decide) (hts (.fieldLink RX7 15 "OneHandset$Tape" "size" "I") (List.mem_of_getElem? (i := 1) rfl)) (fun _ h9 => h9) rfl dX7_append_1 ?_
  refine lv_bipush (v := 120) hx hb dX7_append_4 (by decide) ?_
  refine lv_icmp_ge (tgt := 29) hx hb dX7_append_6 (by decide) (fun c_1 => absurd c_1 (hs)) (fun _ => ?_)
  refine lv_aload_n hx hb dX7_append_9 rfl (lv_at hl 0 rfl) ?_
  refine va_get (D := D) (ci := 6) (v := .ref ta) (C := RX7) (T := TX7) (N := 2) hx hb hts hiX7_append_X7 hown hK hP 0 rfl rfl 0 (by decide) (hts (.fieldLink RX7 9 "OneHandset$Tape" "times" "[I") (List.mem_of_getElem? (i := 2) rfl)) (fun _ h9 => h9) rfl dX7_append_10 ?_
  refine lv_aload_n hx hb dX7_append_13 rfl (lv_at hl 0 rfl) ?_
  refine va_get (D := D) (ci := 6) (v := .int sz0) (C := RX7) (T := TX7) (N := 2) hx hb hts hiX7_append_X7 hown hK hP 0 rfl rfl 1 (by decide) (hts (.fieldLink RX7 15 "OneHandset$Tape" "size" "I") (List.mem_of_getElem? (i := 1) rfl)) (fun _ h9 => h9) rfl dX7_append_14 ?_
  refine lv_iload_n hx hb dX7_append_17 rfl (lv_at hl 1 rfl) ?_
  refine va_iast hx hb hK hP hD hS 1 0 rfl rfl hi dX7_append_18 (fun H locs hP hD hS => ?_)
  have hP : va_P D vwCl [(h0, .inr (6, [.ref ta, .int sz0])), (ta, .inl (cT, 120, .inl (upd f (Int32.toNatClampNeg sz0) t)))] H := hP
  have hD : va_D A [(h0, .inr (6, [.ref ta, .int sz0])), (ta, .inl (cT, 120, .inl (upd f (Int32.toNatClampNeg sz0) t)))] := hD
  refine lv_aload_n hx hb dX7_append_19 rfl (lv_at hl 0 rfl) ?_
  refine lv_dup hx hb dX7_append_20 rfl ?_
  refine va_get (D := D) (ci := 6) (v := .int sz0) (C := RX7) (T := TX7) (N := 2) hx hb hts hiX7_append_X7 hown hK hP 0 rfl rfl 1 (by decide) (hts (.fieldLink RX7 15 "OneHandset$Tape" "size" "I") (List.mem_of_getElem? (i := 1) rfl)) (fun _ h9 => h9) rfl dX7_append_21 ?_
  refine lv_iconst (v := 1) hx hb dX7_append_24 (by decide) ?_
  refine lv_iadd hx hb dX7_append_25 ?_
  refine va_put (D := D) (ci := 6) (v := .int (sz0 + 1)) (ty := .int) (C := RX7) (T := TX7) (N := 2) hx hb hts hiX7_append_X7 tyX7 tyX7_ok nmX7 hown hK hP hD hS 0 rfl rfl 1 (by decide) (hts (.fieldLink RX7 15 "OneHandset$Tape" "size" "I") (List.mem_of_getElem? (i := 1) rfl)) (fun _ h9 => h9) rfl (by decide +kernel) rfl rfl (Nat.le_of_ble_eq_true rfl) dX7_append_26 (fun H locs hP hD hS => ?_)
  have hP : va_P D vwCl [(h0, .inr (6, [.ref ta, .int (sz0 + 1)])), (ta, .inl (cT, 120, .inl (upd f (Int32.toNatClampNeg sz0) t)))] H := hP
  have hD : va_D A [(h0, .inr (6, [.ref ta, .int (sz0 + 1)])), (ta, .inl (cT, 120, .inl (upd f (Int32.toNatClampNeg sz0) t)))] := hD
  exact ret_v hx hb hr hlocks (u := ()) trivial (hP.sub [0, 1] rfl) (hK.sub [0] rfl) (hD.sub [0, 1] (by decide) rfl) hS (Nat.le_of_ble_eq_true rfl) (Nat.le_of_ble_eq_true rfl) dX7_append_29
theorem hiX8_feed_X8 : ∀ w ∈ wsX80, w ∈ wsX8_feed := mem_pl [9, 10, 11, 12, 13] rfl
theorem hiX8_feed_X7 : ∀ w ∈ wsX70, w ∈ wsX8_feed := mem_pl [14, 15] rfl
set_option maxHeartbeats 4000000 in
set_option maxRecDepth 100000 in
theorem c_X8_feed (l : Launch) (D : va_G) (sz : Nat) (h0 : Nat) (tp : Nat) (mka : Nat) (bx : Nat) (rt : Nat) (ta : Nat) (cT : ClassId) (f : Nat → Int32) (a : Int32) (b : Int32) (cc : Int32) (d : Int32) (e9 : Int32)  : Ci l yX8_feed wsX8_feed ({ frames := 1, cells := 0, slots := 0, locals := 21 } : Room) D [.ref h0, .int a, .int b, .int cc, .int d, .int e9] [(h0, .inr (7, [.ref tp, .ref mka, .int 0, .ref bx, .ref rt])), (tp, .inr (6, [.ref ta, .int 0])), (ta, .inl (cT, 120, .inl f))] [(cT, .int)] sz (fun (r : Int32) => fun (_ : Unit) => r = 5) (fun (_ : Unit) => []) (fun (_ : Unit) => []) := by
  refine ct_i (cc := cX8_feed) (maxL := 6) (ret := (some .int)) (by decide) rfl (Nat.le_of_ble_eq_true rfl) ?_
  intro p e s m below meth c A ls H hx hb hr hts hown hml hlocks hin hA hS hP hK hD hNW hl hAe hsz
  have hl : lv_has ls 6 [(0, .ref h0), (1, .int a), (2, .int b), (3, .int cc), (4, .int d), (5, .int e9)] := hl
  refine lv_aload_n hx hb dX8_feed_0 rfl (lv_at hl 0 rfl) ?_
  refine va_get (D := D) (ci := 7) (v := .ref tp) (C := RX8) (T := TX8) (N := 5) hx hb hts hiX8_feed_X8 hown hK hP 0 rfl rfl 0 (by decide) (hts (.fieldLink RX8 12 "OneHandset" "tape" "LOneHandset$Tape;") (List.mem_of_getElem? (i := 1) rfl)) (fun _ h9 => h9) rfl dX8_feed_1 ?_
  refine va_getN (D := D) (ci := 6) (v := .int 0) (C := RX7) (T := TX7) (N := 2) hx hb hts hiX8_feed_X7 hown hK hP 1 rfl rfl 1 (by decide) (va_Nw.use rfl (hNW.1 ("OneHandset", 81, "OneHandset$Tape", "size", "I", "OneHandset") (List.mem_of_getElem? (l := nw_F) (i := 1) rfl))) (fun _ h9 => h9) rfl dX8_feed_4 ?_
  refine lv_bipush (v := 115) hx hb dX8_feed_7 (by decide) ?_
  refine lv_icmp_le (tgt := 14) hx hb dX8_feed_9 (by decide) (fun _ => ?_) (fun c_1 => absurd (by decide) c_1)
  refine lv_aload_n hx hb dX8_feed_14 rfl (lv_at hl 0 rfl) ?_
  refine va_get (D := D) (ci := 7) (v := .ref tp) (C := RX8) (T := TX8) (N := 5) hx hb hts hiX8_feed_X8 hown hK hP 0 rfl rfl 0 (by decide) (hts (.fieldLink RX8 12 "OneHandset" "tape" "LOneHandset$Tape;") (List.mem_of_getElem? (i := 1) rfl)) (fun _ h9 => h9) rfl dX8_feed_15 ?_
  refine lv_iload_n hx hb dX8_feed_18 rfl (lv_at hl 1 rfl) ?_
  refine go_v (wr := [(h0, .inr (7, [.ref tp, .ref mka, .int 0, .ref bx, .ref rt]))]) (tysr := []) hP hD hS hA hK [1, 2] [0] [] rfl rfl (by decide) (by decide) rfl (va_runV (As := [.int a]) (rest := []) ⟨hx, hb, hml, hown, hts⟩ (c_X7_append l D H.size tp ta cT f 0 a (by decide) (vin (by decide))) (cwV 1 hts gX8_feed_X7_append rfl rfl rfl (by decide +kernel) ⟨Nat.le_of_ble_eq_true rfl, Nat.le_of_ble_eq_true rfl⟩) (st_preV (ci := 6) (q0 := 1) hP hD hK hNW [1, 2] [0] rfl rfl (by decide) rfl rfl rfl rfl) rfl rfl hl.1 rfl (lv_room (Nat.le_of_ble_eq_true rfl)) dX8_feed_19 ⟨(Nat.le_of_ble_eq_true rfl), (Nat.le_of_ble_eq_true rfl)⟩) (fun u H locs hw hP hD hK hS => ?_)
  have hP : va_P D vwCl [(h0, .inr (7, [.ref tp, .ref mka, .int 0, .ref bx, .ref rt])), (tp, .inr (6, [.ref ta, .int (0 + 1)])), (ta, .inl (cT, 120, .inl (upd f (Int32.toNatClampNeg 0) a)))] H := hP
  have hD : va_D A [(h0, .inr (7, [.ref tp, .ref mka, .int 0, .ref bx, .ref rt])), (tp, .inr (6, [.ref ta, .int (0 + 1)])), (ta, .inl (cT, 120, .inl (upd f (Int32.toNatClampNeg 0) a)))] := hD
  have hK : va_K D vwCl [(cT, .int)] s := hK
  rw [show (0 + 1 : Int32) = 1 from by decide] at hP hD
  refine lv_aload_n hx hb dX8_feed_22 rfl (lv_at hl 0 rfl) ?_
  refine va_get (D := D) (ci := 7) (v := .ref tp) (C := RX8) (T := TX8) (N := 5) hx hb hts hiX8_feed_X8 hown hK hP 0 rfl rfl 0 (by decide) (hts (.fieldLink RX8 12 "OneHandset" "tape" "LOneHandset$Tape;") (List.mem_of_getElem? (i := 1) rfl)) (fun _ h9 => h9) rfl dX8_feed_23 ?_
  refine lv_iload_n hx hb dX8_feed_26 rfl (lv_at hl 2 rfl) ?_
  refine go_v (wr := [(h0, .inr (7, [.ref tp, .ref mka, .int 0, .ref bx, .ref rt]))]) (tysr := []) hP hD hS hA hK [1, 2] [0] [] rfl rfl (by decide) (by decide) rfl (va_runV (As := [.int b]) (rest := []) ⟨hx, hb, hml, hown, hts⟩ (c_X7_append l D H.size tp ta cT (upd f (Int32.toNatClampNeg 0) a) 1 b (by decide) (vin (by decide))) (cwV 1 hts gX8_feed_X7_append rfl rfl rfl (by decide +kernel) ⟨Nat.le_of_ble_eq_true rfl, Nat.le_of_ble_eq_true rfl⟩) (st_preV (ci := 6) (q0 := 1) hP hD hK hNW [1, 2] [0] rfl rfl (by decide) rfl rfl rfl rfl) rfl rfl hl.1 rfl (lv_room (Nat.le_of_ble_eq_true rfl)) dX8_feed_27 ⟨(Nat.le_of_ble_eq_true rfl), (Nat.le_of_ble_eq_true rfl)⟩) (fun u H locs hw hP hD hK hS => ?_)
  have hP : va_P D vwCl [(h0, .inr (7, [.ref tp, .ref mka, .int 0, .ref bx, .ref rt])), (tp, .inr (6, [.ref ta, .int (1 + 1)])), (ta, .inl (cT, 120, .inl (upd (upd f (Int32.toNatClampNeg 0) a) (Int32.toNatClampNeg 1) b)))] H := hP
  have hD : va_D A [(h0, .inr (7, [.ref tp, .ref mka, .int 0, .ref bx, .ref rt])), (tp, .inr (6, [.ref ta, .int (1 + 1)])), (ta, .inl (cT, 120, .inl (upd (upd f (Int32.toNatClampNeg 0) a) (Int32.toNatClampNeg 1) b)))] := hD
  have hK : va_K D vwCl [(cT, .int)] s := hK
  rw [show (1 + 1 : Int32) = 2 from by decide] at hP hD
  refine lv_aload_n hx hb dX8_feed_30 rfl (lv_at hl 0 rfl) ?_
  refine va_get (D := D) (ci := 7) (v := .ref tp) (C := RX8) (T := TX8) (N := 5) hx hb hts hiX8_feed_X8 hown hK hP 0 rfl rfl 0 (by decide) (hts (.fieldLink RX8 12 "OneHandset" "tape" "LOneHandset$Tape;") (List.mem_of_getElem? (i := 1) rfl)) (fun _ h9 => h9) rfl dX8_feed_31 ?_
  refine lv_iload_n hx hb dX8_feed_34 rfl (lv_at hl 3 rfl) ?_
  refine go_v (wr := [(h0, .inr (7, [.ref tp, .ref mka, .int 0, .ref bx, .ref rt]))]) (tysr := []) hP hD hS hA hK [1, 2] [0] [] rfl rfl (by decide) (by decide) rfl (va_runV (As := [.int cc]) (rest := []) ⟨hx, hb, hml, hown, hts⟩ (c_X7_append l D H.size tp ta cT (upd (upd f (Int32.toNatClampNeg 0) a) (Int32.toNatClampNeg 1) b) 2 cc (by decide) (vin (by decide))) (cwV 1 hts gX8_feed_X7_append rfl rfl rfl (by decide +kernel) ⟨Nat.le_of_ble_eq_true rfl, Nat.le_of_ble_eq_true rfl⟩) (st_preV (ci := 6) (q0 := 1) hP hD hK hNW [1, 2] [0] rfl rfl (by decide) rfl rfl rfl rfl) rfl rfl hl.1 rfl (lv_room (Nat.le_of_ble_eq_true rfl)) dX8_feed_35 ⟨(Nat.le_of_ble_eq_true rfl), (Nat.le_of_ble_eq_true rfl)⟩) (fun u H locs hw hP hD hK hS => ?_)
  have hP : va_P D vwCl [(h0, .inr (7, [.ref tp, .ref mka, .int 0, .ref bx, .ref rt])), (tp, .inr (6, [.ref ta, .int (2 + 1)])), (ta, .inl (cT, 120, .inl (upd (upd (upd f (Int32.toNatClampNeg 0) a) (Int32.toNatClampNeg 1) b) (Int32.toNatClampNeg 2) cc)))] H := hP
  have hD : va_D A [(h0, .inr (7, [.ref tp, .ref mka, .int 0, .ref bx, .ref rt])), (tp, .inr (6, [.ref ta, .int (2 + 1)])), (ta, .inl (cT, 120, .inl (upd (upd (upd f (Int32.toNatClampNeg 0) a) (Int32.toNatClampNeg 1) b) (Int32.toNatClampNeg 2) cc)))] := hD
  have hK : va_K D vwCl [(cT, .int)] s := hK
  rw [show (2 + 1 : Int32) = 3 from by decide] at hP hD
  refine lv_aload_n hx hb dX8_feed_38 rfl (lv_at hl 0 rfl) ?_
  refine va_get (D := D) (ci := 7) (v := .ref tp) (C := RX8) (T := TX8) (N := 5) hx hb hts hiX8_feed_X8 hown hK hP 0 rfl rfl 0 (by decide) (hts (.fieldLink RX8 12 "OneHandset" "tape" "LOneHandset$Tape;") (List.mem_of_getElem? (i := 1) rfl)) (fun _ h9 => h9) rfl dX8_feed_39 ?_
  refine lv_iload hx hb dX8_feed_42 (lv_at hl 4 rfl) ?_
  refine go_v (wr := [(h0, .inr (7, [.ref tp, .ref mka, .int 0, .ref bx, .ref rt]))]) (tysr := []) hP hD hS hA hK [1, 2] [0] [] rfl rfl (by decide) (by decide) rfl (va_runV (As := [.int d]) (rest := []) ⟨hx, hb, hml, hown, hts⟩ (c_X7_append l D H.size tp ta cT (upd (upd (upd f (Int32.toNatClampNeg 0) a) (Int32.toNatClampNeg 1) b) (Int32.toNatClampNeg 2) cc) 3 d (by decide) (vin (by decide))) (cwV 1 hts gX8_feed_X7_append rfl rfl rfl (by decide +kernel) ⟨Nat.le_of_ble_eq_true rfl, Nat.le_of_ble_eq_true rfl⟩) (st_preV (ci := 6) (q0 := 1) hP hD hK hNW [1, 2] [0] rfl rfl (by decide) rfl rfl rfl rfl) rfl rfl hl.1 rfl (lv_room (Nat.le_of_ble_eq_true rfl)) dX8_feed_44 ⟨(Nat.le_of_ble_eq_true rfl), (Nat.le_of_ble_eq_true rfl)⟩) (fun u H locs hw hP hD hK hS => ?_)
  have hP : va_P D vwCl [(h0, .inr (7, [.ref tp, .ref mka, .int 0, .ref bx, .ref rt])), (tp, .inr (6, [.ref ta, .int (3 + 1)])), (ta, .inl (cT, 120, .inl (upd (upd (upd (upd f (Int32.toNatClampNeg 0) a) (Int32.toNatClampNeg 1) b) (Int32.toNatClampNeg 2) cc) (Int32.toNatClampNeg 3) d)))] H := hP
  have hD : va_D A [(h0, .inr (7, [.ref tp, .ref mka, .int 0, .ref bx, .ref rt])), (tp, .inr (6, [.ref ta, .int (3 + 1)])), (ta, .inl (cT, 120, .inl (upd (upd (upd (upd f (Int32.toNatClampNeg 0) a) (Int32.toNatClampNeg 1) b) (Int32.toNatClampNeg 2) cc) (Int32.toNatClampNeg 3) d)))] := hD
  have hK : va_K D vwCl [(cT, .int)] s := hK
  rw [show (3 + 1 : Int32) = 4 from by decide] at hP hD
  refine lv_aload_n hx hb dX8_feed_47 rfl (lv_at hl 0 rfl) ?_
  refine va_get (D := D) (ci := 7) (v := .ref tp) (C := RX8) (T := TX8) (N := 5) hx hb hts hiX8_feed_X8 hown hK hP 0 rfl rfl 0 (by decide) (hts (.fieldLink RX8 12 "OneHandset" "tape" "LOneHandset$Tape;") (List.mem_of_getElem? (i := 1) rfl)) (fun _ h9 => h9) rfl dX8_feed_48 ?_
  refine lv_iload hx hb dX8_feed_51 (lv_at hl 5 rfl) ?_
  refine go_v (wr := [(h0, .inr (7, [.ref tp, .ref mka, .int 0, .ref bx, .ref rt]))]) (tysr := []) hP hD hS hA hK [1, 2] [0] [] rfl rfl (by decide) (by decide) rfl (va_runV (As := [.int e9]) (rest := []) ⟨hx, hb, hml, hown, hts⟩ (c_X7_append l D H.size tp ta cT (upd (upd (upd (upd f (Int32.toNatClampNeg 0) a) (Int32.toNatClampNeg 1) b) (Int32.toNatClampNeg 2) cc) (Int32.toNatClampNeg 3) d) 4 e9 (by decide) (vin (by decide))) (cwV 1 hts gX8_feed_X7_append rfl rfl rfl (by decide +kernel) ⟨Nat.le_of_ble_eq_true rfl, Nat.le_of_ble_eq_true rfl⟩) (st_preV (ci := 6) (q0 := 1) hP hD hK hNW [1, 2] [0] rfl rfl (by decide) rfl rfl rfl rfl) rfl rfl hl.1 rfl (lv_room (Nat.le_of_ble_eq_true rfl)) dX8_feed_53 ⟨(Nat.le_of_ble_eq_true rfl), (Nat.le_of_ble_eq_true rfl)⟩) (fun u H locs hw hP hD hK hS => ?_)
  have hP : va_P D vwCl [(h0, .inr (7, [.ref tp, .ref mka, .int 0, .ref bx, .ref rt])), (tp, .inr (6, [.ref ta, .int (4 + 1)])), (ta, .inl (cT, 120, .inl (upd (upd (upd (upd (upd f (Int32.toNatClampNeg 0) a) (Int32.toNatClampNeg 1) b) (Int32.toNatClampNeg 2) cc) (Int32.toNatClampNeg 3) d) (Int32.toNatClampNeg 4) e9)))] H := hP
  have hD : va_D A [(h0, .inr (7, [.ref tp, .ref mka, .int 0, .ref bx, .ref rt])), (tp, .inr (6, [.ref ta, .int (4 + 1)])), (ta, .inl (cT, 120, .inl (upd (upd (upd (upd (upd f (Int32.toNatClampNeg 0) a) (Int32.toNatClampNeg 1) b) (Int32.toNatClampNeg 2) cc) (Int32.toNatClampNeg 3) d) (Int32.toNatClampNeg 4) e9)))] := hD
  have hK : va_K D vwCl [(cT, .int)] s := hK
  rw [show (4 + 1 : Int32) = 5 from by decide] at hP hD
  refine lv_aload_n hx hb dX8_feed_56 rfl (lv_at hl 0 rfl) ?_
  refine va_get (D := D) (ci := 7) (v := .ref tp) (C := RX8) (T := TX8) (N := 5) hx hb hts hiX8_feed_X8 hown hK hP 0 rfl rfl 0 (by decide) (hts (.fieldLink RX8 12 "OneHandset" "tape" "LOneHandset$Tape;") (List.mem_of_getElem? (i := 1) rfl)) (fun _ h9 => h9) rfl dX8_feed_57 ?_
  refine va_getN (D := D) (ci := 6) (v := .int 5) (C := RX7) (T := TX7) (N := 2) hx hb hts hiX8_feed_X7 hown hK hP 1 rfl rfl 1 (by decide) (va_Nw.use rfl (hNW.1 ("OneHandset", 81, "OneHandset$Tape", "size", "I", "OneHandset") (List.mem_of_getElem? (l := nw_F) (i := 1) rfl))) (fun _ h9 => h9) rfl dX8_feed_60 ?_
  exact ret_i hx hb hr hlocks rfl (u := ()) rfl (hP.sub [] rfl) (hK.sub [] rfl) (hD.sub [] (by decide) rfl) hS (Nat.le_of_ble_eq_true rfl) (Nat.le_of_ble_eq_true rfl) dX8_feed_63
theorem hiX8_end_X8 : ∀ w ∈ wsX80, w ∈ wsX8_end := mem_pl [6, 7, 8, 9, 10] rfl
theorem hiX8_end_X7 : ∀ w ∈ wsX70, w ∈ wsX8_end := mem_pl [11, 12] rfl
set_option maxHeartbeats 4000000 in
set_option maxRecDepth 100000 in
theorem c_X8_end (l : Launch) (D : va_G) (sz : Nat) (h0 : Nat) (tp : Nat) (mka : Nat) (bx : Nat) (rt : Nat) (ta : Nat) (n : Int32)  : Ci l yX8_end wsX8_end ({ frames := 1, cells := 0, slots := 0, locals := 22 } : Room) D [.ref h0, .int n] [(h0, .inr (7, [.ref tp, .ref mka, .int 0, .ref bx, .ref rt])), (tp, .inr (6, [.ref ta, .int 0]))] [] sz (fun (r : Int32) => fun (_ : Unit) => r = if wi n 0 0 = 0 then 0 else 1) (fun (_ : Unit) => []) (fun (_ : Unit) => []) := by
  refine ct_i (cc := cX8_end) (maxL := 2) (ret := (some .boolean)) (by decide) rfl (Nat.le_of_ble_eq_true rfl) ?_
  intro p e s m below meth c A ls H hx hb hr hts hown hml hlocks hin hA hS hP hK hD hNW hl hAe hsz
  have hl : lv_has ls 2 [(0, .ref h0), (1, .int n)] := hl
  refine lv_iload_n hx hb dX8_end_0 rfl (lv_at hl 1 rfl) ?_
  refine lv_iconst (v := 0) hx hb dX8_end_1 (by decide) ?_
  refine lv_aload_n hx hb dX8_end_2 rfl (lv_at hl 0 rfl) ?_
  refine va_get (D := D) (ci := 7) (v := .ref tp) (C := RX8) (T := TX8) (N := 5) hx hb hts hiX8_end_X8 hown hK hP 0 rfl rfl 0 (by decide) (hts (.fieldLink RX8 12 "OneHandset" "tape" "LOneHandset$Tape;") (List.mem_of_getElem? (i := 1) rfl)) (fun _ h9 => h9) rfl dX8_end_3 ?_
  refine va_getN (D := D) (ci := 6) (v := .int 0) (C := RX7) (T := TX7) (N := 2) hx hb hts hiX8_end_X7 hown hK hP 1 rfl rfl 1 (by decide) (va_Nw.use rfl (hNW.1 ("OneHandset", 81, "OneHandset$Tape", "size", "I", "OneHandset") (List.mem_of_getElem? (l := nw_F) (i := 1) rfl))) (fun _ h9 => h9) rfl dX8_end_6 ?_
  refine go_i (wr := [(h0, .inr (7, [.ref tp, .ref mka, .int 0, .ref bx, .ref rt])), (tp, .inr (6, [.ref ta, .int 0]))]) (tysr := []) hP hD hS hA hK [] [0, 1] [] rfl rfl (by decide) (by decide) rfl (va_runS (As := [.int n, .int 0, .int 0]) (rest := []) ⟨hx, hb, hml, hown, hts⟩ (c_X8_within l D H.size n 0 0 ) (va_cwS 3 hts gX8_end_X8_within rfl rfl rfl (by decide +kernel) ⟨Nat.le_of_ble_eq_true rfl, Nat.le_of_ble_eq_true rfl⟩) (st_preS hP hD hK hNW [] [] rfl rfl (by decide) rfl) rfl rfl hl.1 rfl (lv_room (Nat.le_of_ble_eq_true rfl)) dX8_end_9 ⟨(Nat.le_of_ble_eq_true rfl), (Nat.le_of_ble_eq_true rfl)⟩) (fun r_1 u H locs hw hP hD hK hS => ?_)
  have hw : r_1 = wi n 0 0 := hw
  subst hw
  have hP : va_P D vwCl [(h0, .inr (7, [.ref tp, .ref mka, .int 0, .ref bx, .ref rt])), (tp, .inr (6, [.ref ta, .int 0]))] H := hP
  have hD : va_D A [(h0, .inr (7, [.ref tp, .ref mka, .int 0, .ref bx, .ref rt])), (tp, .inr (6, [.ref ta, .int 0]))] := hD
  have hK : va_K D vwCl [] s := hK
  refine lv_if_ne (tgt := 17) hx hb dX8_end_12 (by decide) (fun c_2 => ?_) (fun c_2 => ?_)
  · refine lv_aload_n hx hb dX8_end_17 rfl (lv_at hl 0 rfl) ?_
    refine va_get (D := D) (ci := 7) (v := .ref tp) (C := RX8) (T := TX8) (N := 5) hx hb hts hiX8_end_X8 hown hK hP 0 rfl rfl 0 (by decide) (hts (.fieldLink RX8 12 "OneHandset" "tape" "LOneHandset$Tape;") (List.mem_of_getElem? (i := 1) rfl)) (fun _ h9 => h9) rfl dX8_end_18 ?_
    refine lv_iload_n hx hb dX8_end_21 rfl (lv_at hl 1 rfl) ?_
    refine va_putN (D := D) (ci := 6) (v := .int n) (ty := .int) (C := RX7) (T := TX7) (N := 2) hx hb hts hiX8_end_X7 tyX7 tyX7_ok nmX7 hown hK hP hD hS 1 rfl rfl 1 (by decide) (va_Nw.use rfl (hNW.1 ("OneHandset", 81, "OneHandset$Tape", "size", "I", "OneHandset") (List.mem_of_getElem? (l := nw_F) (i := 1) rfl))) (fun _ h9 => h9) rfl (by decide +kernel) rfl rfl (Nat.le_of_ble_eq_true rfl) dX8_end_22 (fun H locs hP hD hS => ?_)
    have hP : va_P D vwCl [(h0, .inr (7, [.ref tp, .ref mka, .int 0, .ref bx, .ref rt])), (tp, .inr (6, [.ref ta, .int n]))] H := hP
    have hD : va_D A [(h0, .inr (7, [.ref tp, .ref mka, .int 0, .ref bx, .ref rt])), (tp, .inr (6, [.ref ta, .int n]))] := hD
    refine lv_iconst (v := 1) hx hb dX8_end_25 (by decide) ?_
    exact ret_i hx hb hr hlocks rfl (u := ()) (by simp [c_2]) (hP.sub [] rfl) (hK.sub [] rfl) (hD.sub [] (by decide) rfl) hS (Nat.le_of_ble_eq_true rfl) (Nat.le_of_ble_eq_true rfl) dX8_end_26
  refine lv_iconst (v := 0) hx hb dX8_end_15 (by decide) ?_
  exact ret_i hx hb hr hlocks rfl (u := ()) (by simp [c_2]) (hP.sub [] rfl) (hK.sub [] rfl) (hD.sub [] (by decide) rfl) hS (Nat.le_of_ble_eq_true rfl) (Nat.le_of_ble_eq_true rfl) dX8_end_16
theorem hiX7_stretchAll_X7 : ∀ w ∈ wsX70, w ∈ wsX7_stretchAll := mem_pl [16, 17] rfl
set_option maxHeartbeats 4000000 in
set_option maxRecDepth 100000 in
theorem c_X7_stretchAll (l : Launch) (D : va_G) (sz : Nat) (h0 : Nat) (ta : Nat) (w : Int32)  : Cv l yX7_stretchAll wsX7_stretchAll ({ frames := 0, cells := 0, slots := 0, locals := 0 } : Room) D [.ref h0, .int w] [(h0, .inr (6, [.ref ta, .int 0]))] [] sz (fun (_ : Unit) => True) (fun (_ : Unit) => []) (fun (_ : Unit) => []) := by
  refine ct_v (cc := cX7_stretchAll) (maxL := 4) (ret := none) (by decide) rfl (Nat.le_of_ble_eq_true rfl) ?_
  intro p e s m below meth c A ls H hx hb hr hts hown hml hlocks hin hA hS hP hK hD hNW hl hAe hsz
  have hl : lv_has ls 4 [(0, .ref h0), (1, .int w)] := hl
  refine lv_iconst (v := 0) hx hb dX7_stretchAll_0 (by decide) ?_
  refine lv_istore_n (lv' := [(2, .int 0), (0, .ref h0), (1, .int w)]) hx hb dX7_stretchAll_1 rfl hl (by decide) rfl (fun ls hl => ?_)
  refine lv_iload_n hx hb dX7_stretchAll_2 rfl (lv_at hl 0 rfl) ?_
  refine lv_aload_n hx hb dX7_stretchAll_3 rfl (lv_at hl 1 rfl) ?_
  refine va_get (D := D) (ci := 6) (v := .int 0) (C := RX7) (T := TX7) (N := 2) hx hb hts hiX7_stretchAll_X7 hown hK hP 0 rfl rfl 1 (by decide) (hts (.fieldLink RX7 15 "OneHandset$Tape" "size" "I") (List.mem_of_getElem? (i := 1) rfl)) (fun _ h9 => h9) rfl dX7_stretchAll_4 ?_
  refine lv_icmp_ge (tgt := 60) hx hb dX7_stretchAll_7 (by decide) (fun _ => ?_) (fun c_1 => absurd (by decide) c_1)
  exact ret_v hx hb hr hlocks (u := ()) trivial (hP.sub [] rfl) (hK.sub [] rfl) (hD.sub [] (by decide) rfl) hS (Nat.le_of_ble_eq_true rfl) (Nat.le_of_ble_eq_true rfl) dX7_stretchAll_60
theorem hiX8_stretch_X8 : ∀ w ∈ wsX80, w ∈ wsX8_stretch := mem_pl [22, 23, 24, 25, 26] rfl
set_option maxHeartbeats 4000000 in
set_option maxRecDepth 100000 in
theorem c_X8_stretch (l : Launch) (D : va_G) (sz : Nat) (h0 : Nat) (tp : Nat) (mka : Nat) (bx : Nat) (rt : Nat) (ta : Nat) (n : Int32)  : Ci l yX8_stretch wsX8_stretch ({ frames := 1, cells := 0, slots := 0, locals := 23 } : Room) D [.ref h0, .int n] [(h0, .inr (7, [.ref tp, .ref mka, .int 0, .ref bx, .ref rt])), (tp, .inr (6, [.ref ta, .int 0]))] [] sz (fun (r : Int32) => fun (_ : Unit) => r = if wi n (-60) 60 = 0 then 0 else 1) (fun (_ : Unit) => []) (fun (_ : Unit) => []) := by
  refine ct_i (cc := cX8_stretch) (maxL := 2) (ret := (some .boolean)) (by decide) rfl (Nat.le_of_ble_eq_true rfl) ?_
  intro p e s m below meth c A ls H hx hb hr hts hown hml hlocks hin hA hS hP hK hD hNW hl hAe hsz
  have hl : lv_has ls 2 [(0, .ref h0), (1, .int n)] := hl
  refine lv_iload_n hx hb dX8_stretch_0 rfl (lv_at hl 1 rfl) ?_
  refine lv_bipush (v := (-60)) hx hb dX8_stretch_1 (by decide) ?_
  refine lv_bipush (v := 60) hx hb dX8_stretch_3 (by decide) ?_
  refine go_i (wr := [(h0, .inr (7, [.ref tp, .ref mka, .int 0, .ref bx, .ref rt])), (tp, .inr (6, [.ref ta, .int 0]))]) (tysr := []) hP hD hS hA hK [] [0, 1] [] rfl rfl (by decide) (by decide) rfl (va_runS (As := [.int n, .int (-60), .int 60]) (rest := []) ⟨hx, hb, hml, hown, hts⟩ (c_X8_within l D H.size n (-60) 60 ) (va_cwS 3 hts gX8_stretch_X8_within rfl rfl rfl (by decide +kernel) ⟨Nat.le_of_ble_eq_true rfl, Nat.le_of_ble_eq_true rfl⟩) (st_preS hP hD hK hNW [] [] rfl rfl (by decide) rfl) rfl rfl hl.1 rfl (lv_room (Nat.le_of_ble_eq_true rfl)) dX8_stretch_5 ⟨(Nat.le_of_ble_eq_true rfl), (Nat.le_of_ble_eq_true rfl)⟩) (fun r_1 u H locs hw hP hD hK hS => ?_)
  have hw : r_1 = wi n (-60) 60 := hw
  subst hw
  have hP : va_P D vwCl [(h0, .inr (7, [.ref tp, .ref mka, .int 0, .ref bx, .ref rt])), (tp, .inr (6, [.ref ta, .int 0]))] H := hP
  have hD : va_D A [(h0, .inr (7, [.ref tp, .ref mka, .int 0, .ref bx, .ref rt])), (tp, .inr (6, [.ref ta, .int 0]))] := hD
  have hK : va_K D vwCl [] s := hK
  refine lv_if_ne (tgt := 13) hx hb dX8_stretch_8 (by decide) (fun c_2 => ?_) (fun c_2 => ?_)
  · refine lv_aload_n hx hb dX8_stretch_13 rfl (lv_at hl 0 rfl) ?_
    refine va_get (D := D) (ci := 7) (v := .ref tp) (C := RX8) (T := TX8) (N := 5) hx hb hts hiX8_stretch_X8 hown hK hP 0 rfl rfl 0 (by decide) (hts (.fieldLink RX8 12 "OneHandset" "tape" "LOneHandset$Tape;") (List.mem_of_getElem? (i := 1) rfl)) (fun _ h9 => h9) rfl dX8_stretch_14 ?_
    refine lv_iload_n hx hb dX8_stretch_17 rfl (lv_at hl 1 rfl) ?_
    refine go_v (wr := [(h0, .inr (7, [.ref tp, .ref mka, .int 0, .ref bx, .ref rt]))]) (tysr := []) hP hD hS hA hK [1] [0] [] rfl rfl (by decide) (by decide) rfl (va_runV (As := [.int n]) (rest := []) ⟨hx, hb, hml, hown, hts⟩ (c_X7_stretchAll l D H.size tp ta n ) (cwV 1 hts gX8_stretch_X7_stretchAll rfl rfl rfl (by decide +kernel) ⟨Nat.le_of_ble_eq_true rfl, Nat.le_of_ble_eq_true rfl⟩) (st_preV (ci := 6) (q0 := 1) hP hD hK hNW [1] [] rfl rfl (by decide) rfl rfl rfl rfl) rfl rfl hl.1 rfl (lv_room (Nat.le_of_ble_eq_true rfl)) dX8_stretch_18 ⟨(Nat.le_of_ble_eq_true rfl), (Nat.le_of_ble_eq_true rfl)⟩) (fun u H locs hw hP hD hK hS => ?_)
    have hP : va_P D vwCl [(h0, .inr (7, [.ref tp, .ref mka, .int 0, .ref bx, .ref rt]))] H := hP
    have hD : va_D A [(h0, .inr (7, [.ref tp, .ref mka, .int 0, .ref bx, .ref rt]))] := hD
    have hK : va_K D vwCl [] s := hK
    refine lv_iconst (v := 1) hx hb dX8_stretch_21 (by decide) ?_
    exact ret_i hx hb hr hlocks rfl (u := ()) (by simp [c_2]) (hP.sub [] rfl) (hK.sub [] rfl) (hD.sub [] (by decide) rfl) hS (Nat.le_of_ble_eq_true rfl) (Nat.le_of_ble_eq_true rfl) dX8_stretch_22
  refine lv_iconst (v := 0) hx hb dX8_stretch_11 (by decide) ?_
  exact ret_i hx hb hr hlocks rfl (u := ()) (by simp [c_2]) (hP.sub [] rfl) (hK.sub [] rfl) (hD.sub [] (by decide) rfl) hS (Nat.le_of_ble_eq_true rfl) (Nat.le_of_ble_eq_true rfl) dX8_stretch_12
theorem hiX8_count_X8 : ∀ w ∈ wsX80, w ∈ wsX8_count := mem_pl [4, 5, 6, 7, 8] rfl
theorem hiX8_count_X7 : ∀ w ∈ wsX70, w ∈ wsX8_count := mem_pl [9, 10] rfl
theorem hiX8_count_X6 : ∀ w ∈ wsX60, w ∈ wsX8_count := mem_pl [11, 12, 13, 14, 15] rfl
set_option maxHeartbeats 4000000 in
set_option maxRecDepth 100000 in
theorem c_X8_count (l : Launch) (D : va_G) (sz : Nat) (h0 : Nat) (tp : Nat) (mka : Nat) (bx : Nat) (rt : Nat) (ta : Nat) (r0 : Nat) (r1 : Nat) (r2 : Nat) (r3 : Nat) (w : Int32)  : Ci l yX8_count wsX8_count ({ frames := 0, cells := 0, slots := 0, locals := 0 } : Room) D [.ref h0, .int w] [(h0, .inr (7, [.ref tp, .ref mka, .int 0, .ref bx, .ref rt])), (tp, .inr (6, [.ref ta, .int 0])), (rt, .inr (5, [.ref r0, .ref r1, .ref r2, .ref r3, .int 0]))] [] sz (fun (r : Int32) => fun (_ : Unit) => r = coS w) (fun (_ : Unit) => []) (fun (_ : Unit) => []) := by
  refine ct_i (cc := cX8_count) (maxL := 2) (ret := (some .int)) (by decide) rfl (Nat.le_of_ble_eq_true rfl) ?_
  intro p e s m below meth c A ls H hx hb hr hts hown hml hlocks hin hA hS hP hK hD hNW hl hAe hsz
  have hl : lv_has ls 2 [(0, .ref h0), (1, .int w)] := hl
  refine lv_iload_n hx hb dX8_count_0 rfl (lv_at hl 1 rfl) ?_
  rcases tsw (n := 3) (by decide) (by decide) w with h_1 | h_1
  · obtain ⟨k_9, hk_9, e_9⟩ := h_1
    rcases (show k_9 = 0 ∨ k_9 = 1 ∨ k_9 = 2 by omega) with rfl | rfl | rfl
    · have c_2 : w = (0 : Int32) := e_9
      refine W.eq (g2 := F0 m 1 ls [.int 0]) (by rw [c_2]) ?_
      refine lv_tableIn (off := 27) (tgt := 28) hx hb dX8_count_1 (by decide) (by decide) rfl (by decide) ?_
      refine lv_aload_n hx hb dX8_count_28 rfl (lv_at hl 0 rfl) ?_
      refine va_get (D := D) (ci := 7) (v := .int 0) (C := RX8) (T := TX8) (N := 5) hx hb hts hiX8_count_X8 hown hK hP 0 rfl rfl 2 (by decide) (hts (.fieldLink RX8 22 "OneHandset" "makeCount" "I") (List.mem_of_getElem? (i := 1) rfl)) (fun _ h9 => h9) rfl dX8_count_29 ?_
      exact ret_i hx hb hr hlocks rfl (u := ()) (by simp [coS, c_2]) (hP.sub [] rfl) (hK.sub [] rfl) (hD.sub [] (by decide) rfl) hS (Nat.le_of_ble_eq_true rfl) (Nat.le_of_ble_eq_true rfl) dX8_count_32
    · have c_3 : w = (1 : Int32) := e_9
      refine W.eq (g2 := F0 m 1 ls [.int 1]) (by rw [c_3]) ?_
      refine lv_tableIn (off := 32) (tgt := 33) hx hb dX8_count_1 (by decide) (by decide) rfl (by decide) ?_
      refine lv_aload_n hx hb dX8_count_33 rfl (lv_at hl 0 rfl) ?_
      refine va_get (D := D) (ci := 7) (v := .ref tp) (C := RX8) (T := TX8) (N := 5) hx hb hts hiX8_count_X8 hown hK hP 0 rfl rfl 0 (by decide) (hts (.fieldLink RX8 12 "OneHandset" "tape" "LOneHandset$Tape;") (List.mem_of_getElem? (i := 2) rfl)) (fun _ h9 => h9) rfl dX8_count_34 ?_
      refine va_getN (D := D) (ci := 6) (v := .int 0) (C := RX7) (T := TX7) (N := 2) hx hb hts hiX8_count_X7 hown hK hP 1 rfl rfl 1 (by decide) (va_Nw.use rfl (hNW.1 ("OneHandset", 81, "OneHandset$Tape", "size", "I", "OneHandset") (List.mem_of_getElem? (l := nw_F) (i := 1) rfl))) (fun _ h9 => h9) rfl dX8_count_37 ?_
      exact ret_i hx hb hr hlocks rfl (u := ()) (by simp [coS, c_3]) (hP.sub [] rfl) (hK.sub [] rfl) (hD.sub [] (by decide) rfl) hS (Nat.le_of_ble_eq_true rfl) (Nat.le_of_ble_eq_true rfl) dX8_count_40
    · have c_4 : w = (2 : Int32) := e_9
      refine W.eq (g2 := F0 m 1 ls [.int 2]) (by rw [c_4]) ?_
      refine lv_tableIn (off := 40) (tgt := 41) hx hb dX8_count_1 (by decide) (by decide) rfl (by decide) ?_
      refine lv_aload_n hx hb dX8_count_41 rfl (lv_at hl 0 rfl) ?_
      refine va_get (D := D) (ci := 7) (v := .ref rt) (C := RX8) (T := TX8) (N := 5) hx hb hts hiX8_count_X8 hown hK hP 0 rfl rfl 4 (by decide) (hts (.fieldLink RX8 36 "OneHandset" "route" "LOneHandset$Route;") (List.mem_of_getElem? (i := 3) rfl)) (fun _ h9 => h9) rfl dX8_count_42 ?_
      refine va_getN (D := D) (ci := 5) (v := .int 0) (C := RX6) (T := TX6) (N := 5) hx hb hts hiX8_count_X6 hown hK hP 2 rfl rfl 4 (by decide) (va_Nw.use rfl (hNW.1 ("OneHandset", 196, "OneHandset$Route", "length", "I", "OneHandset") (List.mem_of_getElem? (l := nw_F) (i := 9) rfl))) (fun _ h9 => h9) rfl dX8_count_45 ?_
      exact ret_i hx hb hr hlocks rfl (u := ()) (by simp [coS, c_4]) (hP.sub [] rfl) (hK.sub [] rfl) (hD.sub [] (by decide) rfl) hS (Nat.le_of_ble_eq_true rfl) (Nat.le_of_ble_eq_true rfl) dX8_count_48
  refine lv_tableOut (tgt := 49) hx hb dX8_count_1 h_1 (by decide) ?_
  have c_6 : ¬ w = (0 : Int32) := tsw_ne (n := 3) (k := 0) (by decide) (by decide) h_1
  have c_7 : ¬ w = (1 : Int32) := tsw_ne (n := 3) (k := 1) (by decide) (by decide) h_1
  have c_8 : ¬ w = (2 : Int32) := tsw_ne (n := 3) (k := 2) (by decide) (by decide) h_1
  refine lv_iconst (v := (-1)) hx hb dX8_count_49 (by decide) ?_
  exact ret_i hx hb hr hlocks rfl (u := ()) (by simp [coS, c_6, c_7, c_8]) (hP.sub [] rfl) (hK.sub [] rfl) (hD.sub [] (by decide) rfl) hS (Nat.le_of_ble_eq_true rfl) (Nat.le_of_ble_eq_true rfl) dX8_count_50
theorem hiX6_buttonAt_X6 : ∀ w ∈ wsX60, w ∈ wsX6_buttonAt := mem_pl [6, 7, 8, 9, 10] rfl
set_option maxHeartbeats 4000000 in
set_option maxRecDepth 100000 in
theorem c_X6_buttonAt (l : Launch) (D : va_G) (sz : Nat) (h0 : Nat) (r0 : Nat) (r1 : Nat) (r2 : Nat) (r3 : Nat) (w : Int32)  : Ci l yX6_buttonAt wsX6_buttonAt ({ frames := 1, cells := 0, slots := 0, locals := 22 } : Room) D [.ref h0, .int w] [(h0, .inr (5, [.ref r0, .ref r1, .ref r2, .ref r3, .int 0]))] [] sz (fun (r : Int32) => fun (_ : Unit) => r = -1) (fun (_ : Unit) => []) (fun (_ : Unit) => []) := by
  refine ct_i (cc := cX6_buttonAt) (maxL := 2) (ret := (some .int)) (by decide) rfl (Nat.le_of_ble_eq_true rfl) ?_
  intro p e s m below meth c A ls H hx hb hr hts hown hml hlocks hin hA hS hP hK hD hNW hl hAe hsz
  have hl : lv_has ls 2 [(0, .ref h0), (1, .int w)] := hl
  refine lv_iload_n hx hb dX6_buttonAt_0 rfl (lv_at hl 1 rfl) ?_
  refine lv_iconst (v := 0) hx hb dX6_buttonAt_1 (by decide) ?_
  refine lv_aload_n hx hb dX6_buttonAt_2 rfl (lv_at hl 0 rfl) ?_
  refine va_get (D := D) (ci := 5) (v := .int 0) (C := RX6) (T := TX6) (N := 5) hx hb hts hiX6_buttonAt_X6 hown hK hP 0 rfl rfl 4 (by decide) (hts (.fieldLink RX6 24 "OneHandset$Route" "length" "I") (List.mem_of_getElem? (i := 1) rfl)) (fun _ h9 => h9) rfl dX6_buttonAt_3 ?_
  refine lv_iconst (v := 1) hx hb dX6_buttonAt_6 (by decide) ?_
  refine lv_isub hx hb dX6_buttonAt_7 ?_
  refine lv_topi (fun v_1 ev_1 => ?_)
  obtain rfl : v_1 = (-1 : Int32) := ev_1.trans (by decide)
  refine go_i (wr := [(h0, .inr (5, [.ref r0, .ref r1, .ref r2, .ref r3, .int 0]))]) (tysr := []) hP hD hS hA hK [] [0] [] rfl rfl (by decide) (by decide) rfl (va_runSN (As := [.int w, .int 0, .int (-1)]) (rest := []) ⟨hx, hb, hml, hown, hts⟩ (c_X8_within l D H.size w 0 (-1) ) ⟨(va_cnB (own := RX6) (host := RX8) (index := 49) 3 hts gX6_buttonAt_X8_within_n49 rfl rfl rfl (hNW.2.1 (RX6, 49, yX8_within, RX8) (List.mem_of_getElem? (l := nw_M) (i := 17) rfl)) (hts (.initialized RX8) (List.mem_of_getElem? (i := 4) rfl)) (by decide +kernel) ⟨Nat.le_of_ble_eq_true rfl, Nat.le_of_ble_eq_true rfl⟩), (hts (.static yX8_within) (List.mem_of_getElem? (i := 3) rfl)), trivial⟩ (st_preS hP hD hK hNW [] [] rfl rfl (by decide) rfl) rfl rfl hl.1 rfl (lv_room (Nat.le_of_ble_eq_true rfl)) dX6_buttonAt_8 ⟨(Nat.le_of_ble_eq_true rfl), (Nat.le_of_ble_eq_true rfl)⟩) (fun r_2 u H locs hw hP hD hK hS => ?_)
  have hw : r_2 = wi w 0 (-1) := hw
  subst hw
  have hP : va_P D vwCl [(h0, .inr (5, [.ref r0, .ref r1, .ref r2, .ref r3, .int 0]))] H := hP
  have hD : va_D A [(h0, .inr (5, [.ref r0, .ref r1, .ref r2, .ref r3, .int 0]))] := hD
  have hK : va_K D vwCl [] s := hK
  refine lv_if_eq (tgt := 23) hx hb dX6_buttonAt_11 (by decide) (fun _ => ?_) (fun c_3 => absurd (wi_0m _) c_3)
  refine lv_iconst (v := (-1)) hx hb dX6_buttonAt_23 (by decide) ?_
  exact ret_i hx hb hr hlocks rfl (u := ()) rfl (hP.sub [] rfl) (hK.sub [] rfl) (hD.sub [] (by decide) rfl) hS (Nat.le_of_ble_eq_true rfl) (Nat.le_of_ble_eq_true rfl) dX6_buttonAt_24
theorem hiX8_button_X8 : ∀ w ∈ wsX80, w ∈ wsX8_button := mem_pl [12, 13, 14, 15, 16] rfl
set_option maxHeartbeats 4000000 in
set_option maxRecDepth 100000 in
theorem c_X8_button (l : Launch) (D : va_G) (sz : Nat) (h0 : Nat) (tp : Nat) (mka : Nat) (bx : Nat) (rt : Nat) (r0 : Nat) (r1 : Nat) (r2 : Nat) (r3 : Nat) (w : Int32)  : Ci l yX8_button wsX8_button ({ frames := 2, cells := 0, slots := 0, locals := 43 } : Room) D [.ref h0, .int w] [(h0, .inr (7, [.ref tp, .ref mka, .int 0, .ref bx, .ref rt])), (rt, .inr (5, [.ref r0, .ref r1, .ref r2, .ref r3, .int 0]))] [] sz (fun (r : Int32) => fun (_ : Unit) => r = -1) (fun (_ : Unit) => []) (fun (_ : Unit) => []) := by
  refine ct_i (cc := cX8_button) (maxL := 2) (ret := (some .int)) (by decide) rfl (Nat.le_of_ble_eq_true rfl) ?_
  intro p e s m below meth c A ls H hx hb hr hts hown hml hlocks hin hA hS hP hK hD hNW hl hAe hsz
  have hl : lv_has ls 2 [(0, .ref h0), (1, .int w)] := hl
  refine lv_aload_n hx hb dX8_button_0 rfl (lv_at hl 0 rfl) ?_
  refine va_get (D := D) (ci := 7) (v := .ref rt) (C := RX8) (T := TX8) (N := 5) hx hb hts hiX8_button_X8 hown hK hP 0 rfl rfl 4 (by decide) (hts (.fieldLink RX8 36 "OneHandset" "route" "LOneHandset$Route;") (List.mem_of_getElem? (i := 1) rfl)) (fun _ h9 => h9) rfl dX8_button_1 ?_
  refine lv_iload_n hx hb dX8_button_4 rfl (lv_at hl 1 rfl) ?_
  refine go_i (wr := [(h0, .inr (7, [.ref tp, .ref mka, .int 0, .ref bx, .ref rt]))]) (tysr := []) hP hD hS hA hK [1] [0] [] rfl rfl (by decide) (by decide) rfl (va_runV (As := [.int w]) (rest := []) ⟨hx, hb, hml, hown, hts⟩ (c_X6_buttonAt l D H.size rt r0 r1 r2 r3 w ) (cwV 1 hts gX8_button_X6_buttonAt rfl rfl rfl (by decide +kernel) ⟨Nat.le_of_ble_eq_true rfl, Nat.le_of_ble_eq_true rfl⟩) (st_preV (ci := 5) (q0 := 1) hP hD hK hNW [1] [] rfl rfl (by decide) rfl rfl rfl rfl) rfl rfl hl.1 rfl (lv_room (Nat.le_of_ble_eq_true rfl)) dX8_button_5 ⟨(Nat.le_of_ble_eq_true rfl), (Nat.le_of_ble_eq_true rfl)⟩) (fun r_1 u H locs hw hP hD hK hS => ?_)
  have hw : r_1 = -1 := hw
  subst hw
  have hP : va_P D vwCl [(h0, .inr (7, [.ref tp, .ref mka, .int 0, .ref bx, .ref rt]))] H := hP
  have hD : va_D A [(h0, .inr (7, [.ref tp, .ref mka, .int 0, .ref bx, .ref rt]))] := hD
  have hK : va_K D vwCl [] s := hK
  exact ret_i hx hb hr hlocks rfl (u := ()) rfl (hP.sub [] rfl) (hK.sub [] rfl) (hD.sub [] (by decide) rfl) hS (Nat.le_of_ble_eq_true rfl) (Nat.le_of_ble_eq_true rfl) dX8_button_8
