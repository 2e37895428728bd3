theorem hig_hasState_X0 : ∀ w ∈ wsX00, w ∈ wsX0_hasState := mem_pl [5, 6, 7, 8] rfl
set_option maxHeartbeats 4000000 in
set_option maxRecDepth 100000 in
theorem g_hasState (l : Launch) (D : va_G) (sz : Nat) (h0 : Nat) (la : Nat) (st : Int32) (bu : Int32) (my : Int32) (v : Int32)  : Ci l yX0_hasState wsX0_hasState ({ frames := 1, cells := 0, slots := 0, locals := 22 } : Room) D [.ref h0, .int v] [(h0, .inr (0, [.ref la, .int st, .int bu, .int my]))] [] sz (fun (r : Int32) => fun (_ : Unit) => r = wi v 0 (st - 1)) (fun (_ : Unit) => [(h0, .inr (0, [.ref la, .int st, .int bu, .int my]))]) (fun (_ : Unit) => []) := by
  refine ct_i (cc := cX0_hasState) (maxL := 2) (ret := (some .boolean)) (by decide) rfl (Nat.le_of_ble_eq_true rfl) ?_
  intro p e s m below meth c A ls H hx hb hr hts hown hml hlocks hin hA hS hP hK hD hNW hl hAe hsz
  have hl : lv_has ls 2 [(0, .ref h0), (1, .int v)] := hl
  refine lv_iload_n hx hb dX0_hasState_0 rfl (lv_at hl 1 rfl) ?_
  refine lv_iconst (v := 0) hx hb dX0_hasState_1 (by decide) ?_
  refine lv_aload_n hx hb dX0_hasState_2 rfl (lv_at hl 0 rfl) ?_
  refine va_get (D := D) (ci := 0) (v := .int st) (C := RX0) (T := TX0) (N := 4) hx hb hts hig_hasState_X0 hown hK hP 0 rfl rfl 1 (by decide) (hts (.fieldLink RX0 19 "OneHandset$Box" "states" "I") (List.mem_of_getElem? (i := 1) rfl)) (fun _ h9 => h9) rfl dX0_hasState_3 ?_
  refine lv_iconst (v := 1) hx hb dX0_hasState_6 (by decide) ?_
  refine lv_isub hx hb dX0_hasState_7 ?_
  refine go_i (wr := [(h0, .inr (0, [.ref la, .int st, .int bu, .int my]))]) (tysr := []) hP hD hS hA hK [] [0] [] rfl rfl (by decide) (by decide) rfl (va_runSN (As := [.int v, .int 0, .int (st - 1)]) (rest := []) ⟨hx, hb, hml, hown, hts⟩ (c_X8_within l D H.size v 0 (st - 1) ) ⟨(va_cnB (own := RX0) (host := RX8) (index := 39) 3 hts gX0_hasState_X8_within_n39 rfl rfl rfl (hNW.2.1 (RX0, 39, yX8_within, RX8) (List.mem_of_getElem? (l := nw_M) (i := 16) rfl)) (hts (.initialized RX8) (List.mem_of_getElem? (i := 3) rfl)) (by decide +kernel) ⟨Nat.le_of_ble_eq_true rfl, Nat.le_of_ble_eq_true rfl⟩), (hts (.static yX8_within) (List.mem_of_getElem? (i := 2) rfl)), trivial⟩ (st_preS hP hD hK hNW [] [] rfl rfl (by decide) rfl) rfl rfl hl.1 rfl (lv_room (Nat.le_of_ble_eq_true rfl)) dX0_hasState_8 ⟨(Nat.le_of_ble_eq_true rfl), (Nat.le_of_ble_eq_true rfl)⟩) (fun r_1 u H locs hw hP hD hK hS => ?_)
  have hw : r_1 = wi v 0 (st - 1) := hw
  subst hw
  have hP : va_P D vwCl [(h0, .inr (0, [.ref la, .int st, .int bu, .int my]))] H := hP
  have hD : va_D A [(h0, .inr (0, [.ref la, .int st, .int bu, .int my]))] := hD
  have hK : va_K D vwCl [] s := hK
  exact ret_i hx hb hr hlocks (wi_nar _ _ _) (u := ()) rfl (hP.sub [0] rfl) (hK.sub [] rfl) (hD.sub [0] (by decide) rfl) hS (Nat.le_of_ble_eq_true rfl) (Nat.le_of_ble_eq_true rfl) dX0_hasState_11
theorem hig_hasButton_X0 : ∀ w ∈ wsX00, w ∈ wsX0_hasButton := mem_pl [5, 6, 7, 8] rfl
set_option maxHeartbeats 4000000 in
set_option maxRecDepth 100000 in
theorem g_hasButton (l : Launch) (D : va_G) (sz : Nat) (h0 : Nat) (la : Nat) (st : Int32) (bu : Int32) (my : Int32) (v : Int32)  : Ci l yX0_hasButton wsX0_hasButton ({ frames := 1, cells := 0, slots := 0, locals := 22 } : Room) D [.ref h0, .int v] [(h0, .inr (0, [.ref la, .int st, .int bu, .int my]))] [] sz (fun (r : Int32) => fun (_ : Unit) => r = wi v 0 (bu - 1)) (fun (_ : Unit) => [(h0, .inr (0, [.ref la, .int st, .int bu, .int my]))]) (fun (_ : Unit) => []) := by
  refine ct_i (cc := cX0_hasButton) (maxL := 2) (ret := (some .boolean)) (by decide) rfl (Nat.le_of_ble_eq_true rfl) ?_
  intro p e s m below meth c A ls H hx hb hr hts hown hml hlocks hin hA hS hP hK hD hNW hl hAe hsz
  have hl : lv_has ls 2 [(0, .ref h0), (1, .int v)] := hl
  refine lv_iload_n hx hb dX0_hasButton_0 rfl (lv_at hl 1 rfl) ?_
  refine lv_iconst (v := 0) hx hb dX0_hasButton_1 (by decide) ?_
  refine lv_aload_n hx hb dX0_hasButton_2 rfl (lv_at hl 0 rfl) ?_
  refine va_get (D := D) (ci := 0) (v := .int bu) (C := RX0) (T := TX0) (N := 4) hx hb hts hig_hasButton_X0 hown hK hP 0 rfl rfl 2 (by decide) (hts (.fieldLink RX0 23 "OneHandset$Box" "buttons" "I") (List.mem_of_getElem? (i := 1) rfl)) (fun _ h9 => h9) rfl dX0_hasButton_3 ?_
  refine lv_iconst (v := 1) hx hb dX0_hasButton_6 (by decide) ?_
  refine lv_isub hx hb dX0_hasButton_7 ?_
  refine go_i (wr := [(h0, .inr (0, [.ref la, .int st, .int bu, .int my]))]) (tysr := []) hP hD hS hA hK [] [0] [] rfl rfl (by decide) (by decide) rfl (va_runSN (As := [.int v, .int 0, .int (bu - 1)]) (rest := []) ⟨hx, hb, hml, hown, hts⟩ (c_X8_within l D H.size v 0 (bu - 1) ) ⟨(va_cnB (own := RX0) (host := RX8) (index := 39) 3 hts gX0_hasButton_X8_within_n39 rfl rfl rfl (hNW.2.1 (RX0, 39, yX8_within, RX8) (List.mem_of_getElem? (l := nw_M) (i := 16) rfl)) (hts (.initialized RX8) (List.mem_of_getElem? (i := 3) rfl)) (by decide +kernel) ⟨Nat.le_of_ble_eq_true rfl, Nat.le_of_ble_eq_true rfl⟩), (hts (.static yX8_within) (List.mem_of_getElem? (i := 2) rfl)), trivial⟩ (st_preS hP hD hK hNW [] [] rfl rfl (by decide) rfl) rfl rfl hl.1 rfl (lv_room (Nat.le_of_ble_eq_true rfl)) dX0_hasButton_8 ⟨(Nat.le_of_ble_eq_true rfl), (Nat.le_of_ble_eq_true rfl)⟩) (fun r_1 u H locs hw hP hD hK hS => ?_)
  have hw : r_1 = wi v 0 (bu - 1) := hw
  subst hw
  have hP : va_P D vwCl [(h0, .inr (0, [.ref la, .int st, .int bu, .int my]))] H := hP
  have hD : va_D A [(h0, .inr (0, [.ref la, .int st, .int bu, .int my]))] := hD
  have hK : va_K D vwCl [] s := hK
  exact ret_i hx hb hr hlocks (wi_nar _ _ _) (u := ()) rfl (hP.sub [0] rfl) (hK.sub [] rfl) (hD.sub [0] (by decide) rfl) hS (Nat.le_of_ble_eq_true rfl) (Nat.le_of_ble_eq_true rfl) dX0_hasButton_11
theorem hig_hasSet_X0 : ∀ w ∈ wsX00, w ∈ wsX0_hasSet := mem_pl [7, 8, 9, 10] rfl
set_option maxHeartbeats 4000000 in
set_option maxRecDepth 100000 in
theorem g_hasSet (l : Launch) (D : va_G) (sz : Nat) (h0 : Nat) (la : Nat) (st : Int32) (bu : Int32) (my : Int32) (v : Int32)  : Ci l yX0_hasSet wsX0_hasSet ({ frames := 1, cells := 0, slots := 0, locals := 22 } : Room) D [.ref h0, .int v] [(h0, .inr (0, [.ref la, .int st, .int bu, .int my]))] [] sz (fun (r : Int32) => fun (_ : Unit) => r = wi v 1 (lb st)) (fun (_ : Unit) => [(h0, .inr (0, [.ref la, .int st, .int bu, .int my]))]) (fun (_ : Unit) => []) := by
  refine ct_i (cc := cX0_hasSet) (maxL := 2) (ret := (some .boolean)) (by decide) rfl (Nat.le_of_ble_eq_true rfl) ?_
  intro p e s m below meth c A ls H hx hb hr hts hown hml hlocks hin hA hS hP hK hD hNW hl hAe hsz
  have hl : lv_has ls 2 [(0, .ref h0), (1, .int v)] := hl
  refine lv_iload_n hx hb dX0_hasSet_0 rfl (lv_at hl 1 rfl) ?_
  refine lv_iconst (v := 1) hx hb dX0_hasSet_1 (by decide) ?_
  refine lv_aload_n hx hb dX0_hasSet_2 rfl (lv_at hl 0 rfl) ?_
  refine va_get (D := D) (ci := 0) (v := .int st) (C := RX0) (T := TX0) (N := 4) hx hb hts hig_hasSet_X0 hown hK hP 0 rfl rfl 1 (by decide) (hts (.fieldLink RX0 19 "OneHandset$Box" "states" "I") (List.mem_of_getElem? (i := 1) rfl)) (fun _ h9 => h9) rfl dX0_hasSet_3 ?_
  refine go_i (wr := [(h0, .inr (0, [.ref la, .int st, .int bu, .int my]))]) (tysr := []) hP hD hS hA hK [] [0] [] rfl rfl (by decide) (by decide) rfl (va_runSN (As := [.int st]) (rest := [.int 1, .int v]) ⟨hx, hb, hml, hown, hts⟩ (c_X8_lowBits l D H.size st ) ⟨(va_cnB (own := RX0) (host := RX8) (index := 26) 1 hts gX0_hasSet_X8_lowBits_n26 rfl rfl rfl (hNW.2.1 (RX0, 26, yX8_lowBits, RX8) (List.mem_of_getElem? (l := nw_M) (i := 1) rfl)) (hts (.initialized RX8) (List.mem_of_getElem? (i := 3) rfl)) (by decide +kernel) ⟨Nat.le_of_ble_eq_true rfl, Nat.le_of_ble_eq_true rfl⟩), (hts (.static yX8_lowBits) (List.mem_of_getElem? (i := 2) rfl)), trivial⟩ (st_preS hP hD hK hNW [] [] rfl rfl (by decide) rfl) rfl rfl hl.1 rfl (lv_room (Nat.le_of_ble_eq_true rfl)) dX0_hasSet_6 ⟨(Nat.le_of_ble_eq_true rfl), (Nat.le_of_ble_eq_true rfl)⟩) (fun r_1 u H locs hw hP hD hK hS => ?_)
  have hw : r_1 = lb st := hw
  subst hw
  have hP : va_P D vwCl [(h0, .inr (0, [.ref la, .int st, .int bu, .int my]))] H := hP
  have hD : va_D A [(h0, .inr (0, [.ref la, .int st, .int bu, .int my]))] := hD
  have hK : va_K D vwCl [] s := hK
  refine go_i (wr := [(h0, .inr (0, [.ref la, .int st, .int bu, .int my]))]) (tysr := []) hP hD hS hA hK [] [0] [] rfl rfl (by decide) (by decide) rfl (va_runSN (As := [.int v, .int 1, .int (lb st)]) (rest := []) ⟨hx, hb, hml, hown, hts⟩ (c_X8_within l D H.size v 1 (lb st) ) ⟨(va_cnB (own := RX0) (host := RX8) (index := 39) 3 hts gX0_hasSet_X8_within_n39 rfl rfl rfl (hNW.2.1 (RX0, 39, yX8_within, RX8) (List.mem_of_getElem? (l := nw_M) (i := 16) rfl)) (hts (.initialized RX8) (List.mem_of_getElem? (i := 3) rfl)) (by decide +kernel) ⟨Nat.le_of_ble_eq_true rfl, Nat.le_of_ble_eq_true rfl⟩), (hts (.static yX8_within) (List.mem_of_getElem? (i := 5) rfl)), trivial⟩ (st_preS hP hD hK hNW [] [] rfl rfl (by decide) rfl) rfl rfl hl.1 rfl (lv_room (Nat.le_of_ble_eq_true rfl)) dX0_hasSet_9 ⟨(Nat.le_of_ble_eq_true rfl), (Nat.le_of_ble_eq_true rfl)⟩) (fun r_2 u H locs hw hP hD hK hS => ?_)
  have hw : r_2 = wi v 1 (lb st) := hw
  subst hw
  have hP : va_P D vwCl [(h0, .inr (0, [.ref la, .int st, .int bu, .int my]))] H := hP
  have hD : va_D A [(h0, .inr (0, [.ref la, .int st, .int bu, .int my]))] := hD
  have hK : va_K D vwCl [] s := hK
  exact ret_i hx hb hr hlocks (wi_nar _ _ _) (u := ()) rfl (hP.sub [0] rfl) (hK.sub [] rfl) (hD.sub [0] (by decide) rfl) hS (Nat.le_of_ble_eq_true rfl) (Nat.le_of_ble_eq_true rfl) dX0_hasSet_12
theorem hig_startAnew_X0 : ∀ w ∈ wsX00, w ∈ wsX0_startAnew := mem_pl [12, 13, 14, 15] rfl
set_option maxHeartbeats 4000000 in
set_option maxRecDepth 100000 in
theorem g_startAnew (l : Launch) (D : va_G) (sz : Nat) (cI : ClassId) (h0 : Nat) (la : Nat) (st : Int32) (bu : Int32) (my : Int32) (lf : Nat → Int32) (v : Int32) (w : Int32)  : Cv l yX0_startAnew wsX0_startAnew ({ frames := 1, cells := 0, slots := 0, locals := 23 } : Room) D [.ref h0, .int v, .int w] [(h0, .inr (0, [.ref la, .int st, .int bu, .int my])), (la, .inl (cI, 32, .inl lf))] [(cI, .int)] sz (fun (_ : Unit) => True) (fun (_ : Unit) => [(h0, .inr (0, [.ref la, .int v, .int w, .int (lb v)])), (la, .inl (cI, 32, .inl (fl lf 0 32)))]) (fun (_ : Unit) => []) := by
  refine ct_v (cc := cX0_startAnew) (maxL := 3) (ret := none) (by decide) rfl (Nat.le_of_ble_eq_true rfl) ?_
  intro p e s m below meth c A ls H hx hb hr hts hown hml hlocks hin hA hS hP hK hD hNW hl hAe hsz
  have hl : lv_has ls 3 [(0, .ref h0), (1, .int v), (2, .int w)] := hl
  refine lv_aload_n hx hb dX0_startAnew_0 rfl (lv_at hl 0 rfl) ?_
  refine lv_iload_n hx hb dX0_startAnew_1 rfl (lv_at hl 1 rfl) ?_
  refine va_put (D := D) (ci := 0) (v := .int v) (ty := .int) (C := RX0) (T := TX0) (N := 4) hx hb hts hig_startAnew_X0 tyX0 tyX0_ok nmX0 hown hK hP hD hS 0 rfl rfl 1 (by decide) (hts (.fieldLink RX0 19 "OneHandset$Box" "states" "I") (List.mem_of_getElem? (i := 1) rfl)) (fun _ h9 => h9) rfl (by decide +kernel) rfl rfl (Nat.le_of_ble_eq_true rfl) dX0_startAnew_2 (fun H locs hP hD hS => ?_)
  have hP : va_P D vwCl [(h0, .inr (0, [.ref la, .int v, .int bu, .int my])), (la, .inl (cI, 32, .inl lf))] H := hP
  have hD : va_D A [(h0, .inr (0, [.ref la, .int v, .int bu, .int my])), (la, .inl (cI, 32, .inl lf))] := hD
  refine lv_aload_n hx hb dX0_startAnew_5 rfl (lv_at hl 0 rfl) ?_
  refine lv_iload_n hx hb dX0_startAnew_6 rfl (lv_at hl 2 rfl) ?_
  refine va_put (D := D) (ci := 0) (v := .int w) (ty := .int) (C := RX0) (T := TX0) (N := 4) hx hb hts hig_startAnew_X0 tyX0 tyX0_ok nmX0 hown hK hP hD hS 0 rfl rfl 2 (by decide) (hts (.fieldLink RX0 23 "OneHandset$Box" "buttons" "I") (List.mem_of_getElem? (i := 2) rfl)) (fun _ h9 => h9) rfl (by decide +kernel) rfl rfl (Nat.le_of_ble_eq_true rfl) dX0_startAnew_7 (fun H locs hP hD hS => ?_)
  have hP : va_P D vwCl [(h0, .inr (0, [.ref la, .int v, .int w, .int my])), (la, .inl (cI, 32, .inl lf))] H := hP
  have hD : va_D A [(h0, .inr (0, [.ref la, .int v, .int w, .int my])), (la, .inl (cI, 32, .inl lf))] := hD
  refine lv_aload_n hx hb dX0_startAnew_10 rfl (lv_at hl 0 rfl) ?_
  refine lv_iload_n hx hb dX0_startAnew_11 rfl (lv_at hl 1 rfl) ?_
  refine go_i (wr := [(h0, .inr (0, [.ref la, .int v, .int w, .int my])), (la, .inl (cI, 32, .inl lf))]) (tysr := [(cI, .int)]) hP hD hS hA hK [] [0, 1] [0] rfl rfl (by decide) (by decide) rfl (va_runSN (As := [.int v]) (rest := [.ref h0]) ⟨hx, hb, hml, hown, hts⟩ (c_X8_lowBits l D H.size v ) ⟨(va_cnB (own := RX0) (host := RX8) (index := 26) 1 hts gX0_startAnew_X8_lowBits_n26 rfl rfl rfl (hNW.2.1 (RX0, 26, yX8_lowBits, RX8) (List.mem_of_getElem? (l := nw_M) (i := 1) rfl)) (hts (.initialized RX8) (List.mem_of_getElem? (i := 6) rfl)) (by decide +kernel) ⟨Nat.le_of_ble_eq_true rfl, Nat.le_of_ble_eq_true rfl⟩), (hts (.static yX8_lowBits) (List.mem_of_getElem? (i := 5) rfl)), trivial⟩ (st_preS hP hD hK hNW [] [] rfl rfl (by decide) rfl) rfl rfl hl.1 rfl (lv_room (Nat.le_of_ble_eq_true rfl)) dX0_startAnew_12 ⟨(Nat.le_of_ble_eq_true rfl), (Nat.le_of_ble_eq_true rfl)⟩) (fun r_1 u H locs hw hP hD hK hS => ?_)
  have hw : r_1 = lb v := hw
  subst hw
  have hP : va_P D vwCl [(h0, .inr (0, [.ref la, .int v, .int w, .int my])), (la, .inl (cI, 32, .inl lf))] H := hP
  have hD : va_D A [(h0, .inr (0, [.ref la, .int v, .int w, .int my])), (la, .inl (cI, 32, .inl lf))] := hD
  have hK : va_K D vwCl [(cI, .int)] s := hK
  refine va_put (D := D) (ci := 0) (v := .int (lb v)) (ty := .int) (C := RX0) (T := TX0) (N := 4) hx hb hts hig_startAnew_X0 tyX0 tyX0_ok nmX0 hown hK hP hD hS 0 rfl rfl 3 (by decide) (hts (.fieldLink RX0 30 "OneHandset$Box" "maybe" "I") (List.mem_of_getElem? (i := 3) rfl)) (fun _ h9 => h9) rfl (by decide +kernel) rfl rfl (Nat.le_of_ble_eq_true rfl) dX0_startAnew_15 (fun H locs hP hD hS => ?_)
  have hP : va_P D vwCl [(h0, .inr (0, [.ref la, .int v, .int w, .int (lb v)])), (la, .inl (cI, 32, .inl lf))] H := hP
  have hD : va_D A [(h0, .inr (0, [.ref la, .int v, .int w, .int (lb v)])), (la, .inl (cI, 32, .inl lf))] := hD
  refine lv_aload_n hx hb dX0_startAnew_18 rfl (lv_at hl 0 rfl) ?_
  refine va_get (D := D) (ci := 0) (v := .ref la) (C := RX0) (T := TX0) (N := 4) hx hb hts hig_startAnew_X0 hown hK hP 0 rfl rfl 0 (by decide) (hts (.fieldLink RX0 9 "OneHandset$Box" "leads" "[I") (List.mem_of_getElem? (i := 4) rfl)) (fun _ h9 => h9) rfl dX0_startAnew_19 ?_
  refine lv_iconst (v := 0) hx hb dX0_startAnew_22 (by decide) ?_
  refine go_v (wr := [(h0, .inr (0, [.ref la, .int v, .int w, .int (lb v)]))]) (tysr := [(cI, .int)]) hP hD hS hA hK [1] [0] [0] rfl rfl (by decide) (by decide) rfl (va_runS (As := [.ref la, .int 0]) (rest := []) ⟨hx, hb, hml, hown, hts⟩ (c_J7_fill_53178 l D H.size la cI 32 lf 0 (by first | assumption | omega | decide)) (va_cwS 2 hts gX0_startAnew_J7_fill_53178 rfl rfl rfl (by decide +kernel) ⟨Nat.le_of_ble_eq_true rfl, Nat.le_of_ble_eq_true rfl⟩) (st_preS hP hD hK hNW [1] [0] rfl rfl (by decide) rfl) rfl rfl hl.1 rfl (lv_room (Nat.le_of_ble_eq_true rfl)) dX0_startAnew_23 ⟨(Nat.le_of_ble_eq_true rfl), (Nat.le_of_ble_eq_true rfl)⟩) (fun u H locs hw hP hD hK hS => ?_)
  have hP : va_P D vwCl [(h0, .inr (0, [.ref la, .int v, .int w, .int (lb v)])), (la, .inl (cI, 32, .inl (fl lf 0 32)))] H := hP
  have hD : va_D A [(h0, .inr (0, [.ref la, .int v, .int w, .int (lb v)])), (la, .inl (cI, 32, .inl (fl lf 0 32)))] := hD
  have hK : va_K D vwCl [(cI, .int), (cI, .int)] s := hK
  exact ret_v hx hb hr hlocks (u := ()) trivial (hP.sub [0, 1] rfl) (hK.sub [] rfl) (hD.sub [0, 1] (by decide) rfl) hS (Nat.le_of_ble_eq_true rfl) (Nat.le_of_ble_eq_true rfl) dX0_startAnew_26
theorem hig_setLead_X0 : ∀ w ∈ wsX00, w ∈ wsX0_setLead := mem_pl [16, 17, 18, 19] rfl
set_option maxHeartbeats 4000000 in
set_option maxRecDepth 100000 in
theorem g_setLead (l : Launch) (D : va_G) (sz : Nat) (cI : ClassId) (h0 : Nat) (la : Nat) (st : Int32) (bu : Int32) (my : Int32) (lf : Nat → Int32) (v : Int32) (w : Int32) (x : Int32) (hst : bi st 1 8) (hbu : bi bu 1 4) (hs9 : ¬ wi v 0 (st - 1) = 0) (hb9 : ¬ wi w 0 (bu - 1) = 0) : Cv l yX0_setLead wsX0_setLead ({ frames := 2, cells := 0, slots := 0, locals := 43 } : Room) D [.ref h0, .int v, .int w, .int x] [(h0, .inr (0, [.ref la, .int st, .int bu, .int my])), (la, .inl (cI, 32, .inl lf))] [(cI, .int)] sz (fun (_ : Unit) => True) (fun (_ : Unit) => [(h0, .inr (0, [.ref la, .int st, .int bu, .int my])), (la, .inl (cI, 32, .inl (upd lf (Int32.toNatClampNeg (v * 4 + w)) x)))]) (fun (_ : Unit) => []) := by
  refine ct_v (cc := cX0_setLead) (maxL := 4) (ret := none) (by decide) rfl (Nat.le_of_ble_eq_true rfl) ?_
  intro p e s m below meth c A ls H hx hb hr hts hown hml hlocks hin hA hS hP hK hD hNW hl hAe hsz
  have hl : lv_has ls 4 [(0, .ref h0), (1, .int v), (2, .int w), (3, .int x)] := hl
  refine lv_aload_n hx hb dX0_setLead_0 rfl (lv_at hl 0 rfl) ?_
  refine lv_iload_n hx hb dX0_setLead_1 rfl (lv_at hl 1 rfl) ?_
  refine go_i (wr := [(la, .inl (cI, 32, .inl lf))]) (tysr := [(cI, .int)]) hP hD hS hA hK [0] [1] [0] rfl rfl (by decide) (by decide) rfl (va_runV (As := [.int v]) (rest := []) ⟨hx, hb, hml, hown, hts⟩ (g_hasState l D H.size h0 la st bu my v ) (cwV 1 hts gX0_setLead_X0_hasState rfl rfl rfl (by decide +kernel) ⟨Nat.le_of_ble_eq_true rfl, Nat.le_of_ble_eq_true rfl⟩) (st_preV (ci := 0) (q0 := 0) hP hD hK hNW [0] [] rfl rfl (by decide) rfl rfl rfl rfl) rfl rfl hl.1 rfl (lv_room (Nat.le_of_ble_eq_true rfl)) dX0_setLead_2 ⟨(Nat.le_of_ble_eq_true rfl), (Nat.le_of_ble_eq_true rfl)⟩) (fun r_1 u H locs hw hP hD hK hS => ?_)
  have hw : r_1 = wi v 0 (st - 1) := hw
  subst hw
  have hP : va_P D vwCl [(la, .inl (cI, 32, .inl lf)), (h0, .inr (0, [.ref la, .int st, .int bu, .int my]))] H := hP
  have hD : va_D A [(la, .inl (cI, 32, .inl lf)), (h0, .inr (0, [.ref la, .int st, .int bu, .int my]))] := hD
  have hK : va_K D vwCl [(cI, .int)] s := hK
  refine lv_if_eq (tgt := 27) hx hb dX0_setLead_5 (by decide) (fun c_2 => absurd c_2 (hs9)) (fun _ => ?_)
  refine lv_aload_n hx hb dX0_setLead_8 rfl (lv_at hl 0 rfl) ?_
  refine lv_iload_n hx hb dX0_setLead_9 rfl (lv_at hl 2 rfl) ?_
  refine go_i (wr := [(la, .inl (cI, 32, .inl lf))]) (tysr := [(cI, .int)]) hP hD hS hA hK [1] [0] [0] rfl rfl (by decide) (by decide) rfl (va_runV (As := [.int w]) (rest := []) ⟨hx, hb, hml, hown, hts⟩ (g_hasButton l D H.size h0 la st bu my w ) (cwV 1 hts gX0_setLead_X0_hasButton rfl rfl rfl (by decide +kernel) ⟨Nat.le_of_ble_eq_true rfl, Nat.le_of_ble_eq_true rfl⟩) (st_preV (ci := 0) (q0 := 1) hP hD hK hNW [1] [] rfl rfl (by decide) rfl rfl rfl rfl) rfl rfl hl.1 rfl (lv_room (Nat.le_of_ble_eq_true rfl)) dX0_setLead_10 ⟨(Nat.le_of_ble_eq_true rfl), (Nat.le_of_ble_eq_true rfl)⟩) (fun r_3 u H locs hw hP hD hK hS => ?_)
  have hw : r_3 = wi w 0 (bu - 1) := hw
  subst hw
  have hP : va_P D vwCl [(la, .inl (cI, 32, .inl lf)), (h0, .inr (0, [.ref la, .int st, .int bu, .int my]))] H := hP
  have hD : va_D A [(la, .inl (cI, 32, .inl lf)), (h0, .inr (0, [.ref la, .int st, .int bu, .int my]))] := hD
  have hK : va_K D vwCl [(cI, .int)] s := hK
  refine lv_if_eq (tgt := 27) hx hb dX0_setLead_13 (by decide) (fun c_4 => absurd c_4 (hb9)) (fun _ => ?_)
  refine lv_aload_n hx hb dX0_setLead_16 rfl (lv_at hl 0 rfl) ?_
  refine va_get (D := D) (ci := 0) (v := .ref la) (C := RX0) (T := TX0) (N := 4) hx hb hts hig_setLead_X0 hown hK hP 1 rfl rfl 0 (by decide) (hts (.fieldLink RX0 9 "OneHandset$Box" "leads" "[I") (List.mem_of_getElem? (i := 1) rfl)) (fun _ h9 => h9) rfl dX0_setLead_17 ?_
  refine lv_iload_n hx hb dX0_setLead_20 rfl (lv_at hl 1 rfl) ?_
  refine lv_iconst (v := 4) hx hb dX0_setLead_21 (by decide) ?_
  refine lv_imul hx hb dX0_setLead_22 ?_
  refine lv_iload_n hx hb dX0_setLead_23 rfl (lv_at hl 2 rfl) ?_
  refine lv_iadd hx hb dX0_setLead_24 ?_
  refine lv_iload_n hx hb dX0_setLead_25 rfl (lv_at hl 3 rfl) ?_
  refine va_iast hx hb hK hP hD hS 0 0 rfl rfl (by have k0 : (0 : Int32).toInt = 0 := (by decide); have q1 := ti_wi1 hs9; have q2 := ti_wi1 hb9; have u1 := ti_m1 (i := st) (by omega); have u2 := ti_m1 (i := bu) (by omega); have u3 := ix4 (x := v) (y := w) (by omega) (by omega); exact vp_in_iff.mpr (by omega)) dX0_setLead_26 (fun H locs hP hD hS => ?_)
  have hP : va_P D vwCl [(la, .inl (cI, 32, .inl (upd lf (Int32.toNatClampNeg ((v * 4) + w)) x))), (h0, .inr (0, [.ref la, .int st, .int bu, .int my]))] H := hP
  have hD : va_D A [(la, .inl (cI, 32, .inl (upd lf (Int32.toNatClampNeg ((v * 4) + w)) x))), (h0, .inr (0, [.ref la, .int st, .int bu, .int my]))] := hD
  exact ret_v hx hb hr hlocks (u := ()) trivial (hP.sub [1, 0] rfl) (hK.sub [] rfl) (hD.sub [1, 0] (by decide) rfl) hS (Nat.le_of_ble_eq_true rfl) (Nat.le_of_ble_eq_true rfl) dX0_setLead_27
theorem hig_behind_X0 : ∀ w ∈ wsX00, w ∈ wsX0_behind := mem_pl [12, 13, 14, 15] rfl
set_option maxHeartbeats 4000000 in
set_option maxRecDepth 100000 in
theorem g_behind (l : Launch) (D : va_G) (sz : Nat) (cI : ClassId) (h0 : Nat) (la : Nat) (st : Int32) (bu : Int32) (my : Int32) (lf : Nat → Int32) (v : Int32) (w : Int32) (hst : bi st 1 8) (hbu : bi bu 1 4) (hlf : ∀ j, bi (lf j) 0 7) (hb9 : ¬ wi w 0 (bu - 1) = 0) : Ci l yX0_behind wsX0_behind ({ frames := 2, cells := 0, slots := 0, locals := 43 } : Room) D [.ref h0, .int v, .int w] [(h0, .inr (0, [.ref la, .int st, .int bu, .int my])), (la, .inl (cI, 32, .inl lf))] [(cI, .int)] sz (fun (r : Int32) => fun (_ : Unit) => bi r 0 255 ∧ r = bh lf v (cN w) (cN st)) (fun (_ : Unit) => [(h0, .inr (0, [.ref la, .int st, .int bu, .int my])), (la, .inl (cI, 32, .inl lf))]) (fun (_ : Unit) => []) := by
  refine ct_i (cc := cX0_behind) (maxL := 5) (ret := (some .int)) (by decide) rfl (Nat.le_of_ble_eq_true rfl) ?_
  intro p e s m below meth c A ls H hx hb hr hts hown hml hlocks hin hA hS hP hK hD hNW hl hAe hsz
  have hl : lv_has ls 5 [(0, .ref h0), (1, .int v), (2, .int w)] := hl
  refine lv_iconst (v := 0) hx hb dX0_behind_0 (by decide) ?_
  refine lv_istore_n (lv' := [(3, .int 0), (0, .ref h0), (1, .int v), (2, .int w)]) hx hb dX0_behind_1 rfl hl (by decide) rfl (fun ls hl => ?_)
  refine lv_iconst (v := 0) hx hb dX0_behind_2 (by decide) ?_
  refine lv_istore (lv' := [(4, .int 0), (3, .int 0), (0, .ref h0), (1, .int v), (2, .int w)]) hx hb dX0_behind_3 hl (by decide) rfl (fun ls hl => ?_)
  refine lp_N (fun n9 H locs ls => ∃ (q_1 : Int32), ∃ (i_2 : Int32), n9 = (st.toInt - i_2.toInt).toNat ∧ (va_P D vwCl [(h0, .inr (0, [.ref la, .int st, .int bu, .int my])), (la, .inl (cI, 32, .inl lf))] H ∧ va_D A [(h0, .inr (0, [.ref la, .int st, .int bu, .int my])), (la, .inl (cI, 32, .inl lf))]) ∧ va_S A s.heap H locs ∧ lv_has ls 5 [(4, .int i_2), (3, .int q_1), (0, .ref h0), (1, .int v), (2, .int w)] ∧ ((0 ≤ i_2.toInt ∧ i_2.toInt ≤ st.toInt) ∧ bi q_1 0 255 ∧ q_1 = bh lf v (cN w) (cN i_2))) ?_ ⟨0, 0, rfl, ⟨hP, hD⟩, hS, hl, ⟨⟨by decide, by have k0 : (0 : Int32).toInt = 0 := (by decide); omega⟩, by decide, rfl⟩⟩
  intro n9 ih_3 H locs ls hI
  obtain ⟨q_1, i_2, rfl, ⟨hP, hD⟩, hS, hl, hv_4⟩ := hI
  refine lv_iload hx hb dX0_behind_5 (lv_at hl 0 rfl) ?_
  refine lv_aload_n hx hb dX0_behind_7 rfl (lv_at hl 2 rfl) ?_
  refine va_get (D := D) (ci := 0) (v := .int st) (C := RX0) (T := TX0) (N := 4) hx hb hts hig_behind_X0 hown hK hP 0 rfl rfl 1 (by decide) (hts (.fieldLink RX0 19 "OneHandset$Box" "states" "I") (List.mem_of_getElem? (i := 1) rfl)) (fun _ h9 => h9) rfl dX0_behind_8 ?_
  refine lv_icmp_ge (tgt := 54) hx hb dX0_behind_11 (by decide) (fun c_5 => ?_) (fun c_5 => ?_)
  · refine lv_iload_n hx hb dX0_behind_54 rfl (lv_at hl 1 rfl) ?_
    exact ret_i hx hb hr hlocks rfl (u := ()) (⟨(hv_4).2.1, bh_end (hv_4).2.2 (ti_inj (by have := ti_le c_5; omega))⟩) (hP.sub [0, 1] rfl) (hK.sub [] rfl) (hD.sub [0, 1] (by decide) rfl) hS (Nat.le_of_ble_eq_true rfl) (Nat.le_of_ble_eq_true rfl) dX0_behind_55
  refine lv_aload_n hx hb dX0_behind_14 rfl (lv_at hl 2 rfl) ?_
  refine lv_iload_n hx hb dX0_behind_15 rfl (lv_at hl 4 rfl) ?_
  refine go_i (wr := [(la, .inl (cI, 32, .inl lf))]) (tysr := [(cI, .int)]) hP hD hS hA hK [0] [1] [0] rfl rfl (by decide) (by decide) rfl (va_runV (As := [.int w]) (rest := []) ⟨hx, hb, hml, hown, hts⟩ (g_hasButton l D H.size h0 la st bu my w ) (cwV 1 hts gX0_behind_X0_hasButton rfl rfl rfl (by decide +kernel) ⟨Nat.le_of_ble_eq_true rfl, Nat.le_of_ble_eq_true rfl⟩) (st_preV (ci := 0) (q0 := 0) hP hD hK hNW [0] [] rfl rfl (by decide) rfl rfl rfl rfl) rfl rfl hl.1 rfl (lv_room (Nat.le_of_ble_eq_true rfl)) dX0_behind_16 ⟨(Nat.le_of_ble_eq_true rfl), (Nat.le_of_ble_eq_true rfl)⟩) (fun r_6 u H locs hw hP hD hK hS => ?_)
  have hw : r_6 = wi w 0 (bu - 1) := hw
  subst hw
  have hP : va_P D vwCl [(la, .inl (cI, 32, .inl lf)), (h0, .inr (0, [.ref la, .int st, .int bu, .int my]))] H := hP
  have hD : va_D A [(la, .inl (cI, 32, .inl lf)), (h0, .inr (0, [.ref la, .int st, .int bu, .int my]))] := hD
  have hK : va_K D vwCl [(cI, .int)] s := hK
  refine lv_if_eq (tgt := 54) hx hb dX0_behind_19 (by decide) (fun c_7 => absurd c_7 (hb9)) (fun _ => ?_)
  refine jn_S 48 (fun st9 H locs ls => ∃ (q_8 : Int32), st9 = [] ∧ (va_P D vwCl [(la, .inl (cI, 32, .inl lf)), (h0, .inr (0, [.ref la, .int st, .int bu, .int my]))] H ∧ va_D A [(la, .inl (cI, 32, .inl lf)), (h0, .inr (0, [.ref la, .int st, .int bu, .int my]))]) ∧ va_S A s.heap H locs ∧ lv_has ls 5 [(4, .int i_2), (3, .int q_8), (0, .ref h0), (1, .int v), (2, .int w)] ∧ (bi q_8 0 255 ∧ q_8 = bh lf v (cN w) (cN (i_2 + 1)))) ?_ ?_
  · intro st9 H locs ls hI
    obtain ⟨q_8, rfl, ⟨hP, hD⟩, hS, hl, hv_9⟩ := hI
    refine lv_iinc (v := i_2 + 1) (lv' := [(4, .int (i_2 + 1)), (3, .int q_8), (0, .ref h0), (1, .int v), (2, .int w)]) hx hb dX0_behind_48 hl (k := 0) rfl rfl (by decide) rfl (fun ls hl => ?_)
    refine lv_goto (tgt := 5) hx hb dX0_behind_51 (by decide) ?_
    exact ih_3 _ _ _ _ (by have := ti_nle c_5; have u1 := ti_up (i := i_2) (n := st) (by omega); omega) ⟨q_8, i_2 + 1, rfl, ⟨hP.sub [1, 0] rfl, hD.sub [1, 0] (by decide) rfl⟩, hS, lv_sub hl [0, 1, 2, 3, 4] rfl, ⟨⟨(by have := ti_nle c_5; have u1 := ti_up (i := i_2) (n := st) (by omega); omega), (by have := ti_nle c_5; have u1 := ti_up (i := i_2) (n := st) (by omega); omega)⟩, hv_9⟩⟩
  · intro hJ_10
    refine lv_iload_n hx hb dX0_behind_22 rfl (lv_at hl 3 rfl) ?_
    refine lv_iload hx hb dX0_behind_23 (lv_at hl 0 rfl) ?_
    refine lv_ishr hx hb dX0_behind_25 ?_
    refine lv_iconst (v := 1) hx hb dX0_behind_26 (by decide) ?_
    refine lv_iand hx hb dX0_behind_27 ?_
    refine lv_iconst (v := 1) hx hb dX0_behind_28 (by decide) ?_
    refine lv_icmp_ne (tgt := 48) hx hb dX0_behind_29 (by decide) (fun c_11 => ?_) (fun c_11 => ?_)
    · exact hJ_10 _ _ _ _ ⟨q_1, rfl, ⟨hP, hD⟩, hS, lv_sub hl [0, 1, 2, 3, 4] rfl, ⟨(hv_4).2.1, bh_n (n := st) (hv_4).1.1 (by have : (1 : Int32).toInt = 1 := (by decide); have := ti_nle c_5; have := ti_ne c_11; omega) c_11 (hv_4).2.2⟩⟩
    refine lv_iload_n hx hb dX0_behind_32 rfl (lv_at hl 1 rfl) ?_
    refine lv_iconst (v := 1) hx hb dX0_behind_33 (by decide) ?_
    refine lv_aload_n hx hb dX0_behind_34 rfl (lv_at hl 2 rfl) ?_
    refine va_get (D := D) (ci := 0) (v := .ref la) (C := RX0) (T := TX0) (N := 4) hx hb hts hig_behind_X0 hown hK hP 1 rfl rfl 0 (by decide) (hts (.fieldLink RX0 9 "OneHandset$Box" "leads" "[I") (List.mem_of_getElem? (i := 2) rfl)) (fun _ h9 => h9) rfl dX0_behind_35 ?_
    refine lv_iload hx hb dX0_behind_38 (lv_at hl 0 rfl) ?_
    refine lv_iconst (v := 4) hx hb dX0_behind_40 (by decide) ?_
    refine lv_imul hx hb dX0_behind_41 ?_
    refine lv_iload_n hx hb dX0_behind_42 rfl (lv_at hl 4 rfl) ?_
    refine lv_iadd hx hb dX0_behind_43 ?_
    refine va_iald hx hb hK hP 0 0 rfl rfl (by have : (1 : Int32).toInt = 1 := (by decide); have := ti_nle c_5; have := ti_eq c_11; have k0 : (0 : Int32).toInt = 0 := (by decide); have q2 := ti_wi1 hb9; have u2 := ti_m1 (i := bu) (by omega); have u3 := ix4 (x := i_2) (y := w) (by omega) (by omega); exact vp_in_iff.mpr (by omega)) dX0_behind_44 ?_
    refine lv_ishl hx hb dX0_behind_45 ?_
    refine lv_ior hx hb dX0_behind_46 ?_
    refine lv_istore_n (lv' := [(3, .int (q_1 ||| (1 <<< ((lf (Int32.toNatClampNeg ((i_2 * 4) + w))) &&& 31)))), (4, .int i_2), (0, .ref h0), (1, .int v), (2, .int w)]) hx hb dX0_behind_47 rfl hl (by decide) rfl (fun ls hl => ?_)
    exact hJ_10 _ _ _ _ ⟨q_1 ||| (1 <<< ((lf (Int32.toNatClampNeg ((i_2 * 4) + w))) &&& 31)), rfl, ⟨hP, hD⟩, hS, lv_sub hl [1, 0, 2, 3, 4] rfl, ⟨or_bi (hv_4).2.1 (hlf _), bh_t (n := st) (hv_4).1.1 (by have : (1 : Int32).toInt = 1 := (by decide); have := ti_nle c_5; have := ti_eq c_11; omega) c_11 (hv_4).2.2 (congrArg lf (ix4n (by have : (1 : Int32).toInt = 1 := (by decide); have := ti_nle c_5; have := ti_eq c_11; omega) (by have k0 : (0 : Int32).toInt = 0 := (by decide); have q2 := ti_wi1 hb9; have u2 := ti_m1 (i := bu) (by omega); omega)))⟩⟩
theorem hig_buttonAt_X6 : ∀ w ∈ wsX60, w ∈ wsX6_buttonAt := mem_pl [6, 7, 8, 9, 10] rfl
set_option maxHeartbeats 4000000 in
set_option maxRecDepth 100000 in
theorem g_buttonAt (l : Launch) (D : va_G) (sz : Nat) (cI : ClassId) (h0 : Nat) (r0 : Nat) (r1 : Nat) (r2 : Nat) (r3 : Nat) (rl : Int32) (f0 : Nat → Int32) (v : Int32) (hrl : bi rl 0 256) : Ci l yX6_buttonAt wsX6_buttonAt ({ frames := 1, cells := 0, slots := 0, locals := 22 } : Room) D [.ref h0, .int v] [(h0, .inr (5, [.ref r0, .ref r1, .ref r2, .ref r3, .int rl])), (r0, .inl (cI, 256, .inl f0))] [(cI, .int)] sz (fun (r : Int32) => fun (_ : Unit) => r = btA rl f0 v) (fun (_ : Unit) => [(h0, .inr (5, [.ref r0, .ref r1, .ref r2, .ref r3, .int rl])), (r0, .inl (cI, 256, .inl f0))]) (fun (_ : Unit) => []) := by
  refine ct_i (cc := cX6_buttonAt) (maxL := 2) (ret := (some .int)) (by decide) rfl (Nat.le_of_ble_eq_true rfl) ?_
  intro p e s m below meth c A ls H hx hb hr hts hown hml hlocks hin hA hS hP hK hD hNW hl hAe hsz
  have hl : lv_has ls 2 [(0, .ref h0), (1, .int v)] := hl
  refine lv_iload_n hx hb dX6_buttonAt_0 rfl (lv_at hl 1 rfl) ?_
  refine lv_iconst (v := 0) hx hb dX6_buttonAt_1 (by decide) ?_
  refine lv_aload_n hx hb dX6_buttonAt_2 rfl (lv_at hl 0 rfl) ?_
  refine va_get (D := D) (ci := 5) (v := .int rl) (C := RX6) (T := TX6) (N := 5) hx hb hts hig_buttonAt_X6 hown hK hP 0 rfl rfl 4 (by decide) (hts (.fieldLink RX6 24 "OneHandset$Route" "length" "I") (List.mem_of_getElem? (i := 1) rfl)) (fun _ h9 => h9) rfl dX6_buttonAt_3 ?_
  refine lv_iconst (v := 1) hx hb dX6_buttonAt_6 (by decide) ?_
  refine lv_isub hx hb dX6_buttonAt_7 ?_
  refine go_i (wr := [(h0, .inr (5, [.ref r0, .ref r1, .ref r2, .ref r3, .int rl])), (r0, .inl (cI, 256, .inl f0))]) (tysr := [(cI, .int)]) hP hD hS hA hK [] [0, 1] [0] rfl rfl (by decide) (by decide) rfl (va_runSN (As := [.int v, .int 0, .int (rl - 1)]) (rest := []) ⟨hx, hb, hml, hown, hts⟩ (c_X8_within l D H.size v 0 (rl - 1) ) ⟨(va_cnB (own := RX6) (host := RX8) (index := 49) 3 hts gX6_buttonAt_X8_within_n49 rfl rfl rfl (hNW.2.1 (RX6, 49, yX8_within, RX8) (List.mem_of_getElem? (l := nw_M) (i := 17) rfl)) (hts (.initialized RX8) (List.mem_of_getElem? (i := 4) rfl)) (by decide +kernel) ⟨Nat.le_of_ble_eq_true rfl, Nat.le_of_ble_eq_true rfl⟩), (hts (.static yX8_within) (List.mem_of_getElem? (i := 3) rfl)), trivial⟩ (st_preS hP hD hK hNW [] [] rfl rfl (by decide) rfl) rfl rfl hl.1 rfl (lv_room (Nat.le_of_ble_eq_true rfl)) dX6_buttonAt_8 ⟨(Nat.le_of_ble_eq_true rfl), (Nat.le_of_ble_eq_true rfl)⟩) (fun r_1 u H locs hw hP hD hK hS => ?_)
  have hw : r_1 = wi v 0 (rl - 1) := hw
  subst hw
  have hP : va_P D vwCl [(h0, .inr (5, [.ref r0, .ref r1, .ref r2, .ref r3, .int rl])), (r0, .inl (cI, 256, .inl f0))] H := hP
  have hD : va_D A [(h0, .inr (5, [.ref r0, .ref r1, .ref r2, .ref r3, .int rl])), (r0, .inl (cI, 256, .inl f0))] := hD
  have hK : va_K D vwCl [(cI, .int)] s := hK
  refine lv_if_eq (tgt := 23) hx hb dX6_buttonAt_11 (by decide) (fun c_2 => ?_) (fun c_2 => ?_)
  · refine lv_iconst (v := (-1)) hx hb dX6_buttonAt_23 (by decide) ?_
    exact ret_i hx hb hr hlocks rfl (u := ()) (by unfold btA; rw [if_pos c_2]) (hP.sub [0, 1] rfl) (hK.sub [] rfl) (hD.sub [0, 1] (by decide) rfl) hS (Nat.le_of_ble_eq_true rfl) (Nat.le_of_ble_eq_true rfl) dX6_buttonAt_24
  refine lv_aload_n hx hb dX6_buttonAt_14 rfl (lv_at hl 0 rfl) ?_
  refine va_get (D := D) (ci := 5) (v := .ref r0) (C := RX6) (T := TX6) (N := 5) hx hb hts hig_buttonAt_X6 hown hK hP 0 rfl rfl 0 (by decide) (hts (.fieldLink RX6 9 "OneHandset$Route" "row" "[I") (List.mem_of_getElem? (i := 2) rfl)) (fun _ h9 => h9) rfl dX6_buttonAt_15 ?_
  refine lv_iload_n hx hb dX6_buttonAt_18 rfl (lv_at hl 1 rfl) ?_
  refine va_iald hx hb hK hP 1 0 rfl rfl (by have : (0 : Int32).toInt = 0 := (by decide); have := ti_wi1 c_2; have u1 := ti_m1 (i := rl) (by omega); exact vp_in_iff.mpr (by omega)) dX6_buttonAt_19 ?_
  refine lv_goto (tgt := 24) hx hb dX6_buttonAt_20 (by decide) ?_
  exact ret_i hx hb hr hlocks rfl (u := ()) (by unfold btA; rw [if_neg c_2]) (hP.sub [0, 1] rfl) (hK.sub [] rfl) (hD.sub [0, 1] (by decide) rfl) hS (Nat.le_of_ble_eq_true rfl) (Nat.le_of_ble_eq_true rfl) dX6_buttonAt_24
theorem hig_keepRow_X6 : ∀ w ∈ wsX60, w ∈ wsX6_keepRow := mem_pl [5, 6, 7, 8, 9] rfl
set_option maxHeartbeats 4000000 in
set_option maxRecDepth 100000 in
theorem g_keepRow (l : Launch) (D : va_G) (sz : Nat) (cI : ClassId) (h0 : Nat) (r0 : Nat) (r1 : Nat) (r2 : Nat) (r3 : Nat) (rl : Int32) (f0 : Nat → Int32) (f2 : Nat → Int32) (f3 : Nat → Int32) (d : Nat → Nat) (v : Int32) (w : Int32) (hdk : DK f2 v d) (his : IS f2 w) (hd : d (Int32.toNatClampNeg w) < 256) : Ci l yX6_keepRow wsX6_keepRow ({ frames := 0, cells := 0, slots := 0, locals := 0 } : Room) D [.ref h0, .int v, .int w] [(h0, .inr (5, [.ref r0, .ref r1, .ref r2, .ref r3, .int rl])), (r0, .inl (cI, 256, .inl f0)), (r2, .inl (cI, 256, .inl f2)), (r3, .inl (cI, 256, .inl f3))] [(cI, .int)] sz (fun (r : Int32) => fun (u9 : Int32 × (Nat → Int32)) => match u9 with | (rl2, f02) => bi rl2 0 256 ∧ TR f2 f3 v w r rl2 f02) (fun (u9 : Int32 × (Nat → Int32)) => match u9 with | (rl2, f02) => [(h0, .inr (5, [.ref r0, .ref r1, .ref r2, .ref r3, .int rl2])), (r0, .inl (cI, 256, .inl f02)), (r2, .inl (cI, 256, .inl f2)), (r3, .inl (cI, 256, .inl f3))]) (fun (u9 : Int32 × (Nat → Int32)) => match u9 with | (rl2, f02) => []) := by
  refine ct_i (cc := cX6_keepRow) (maxL := 5) (ret := (some .int)) (by decide) rfl (Nat.le_of_ble_eq_true rfl) ?_
  intro p e s m below meth c A ls H hx hb hr hts hown hml hlocks hin hA hS hP hK hD hNW hl hAe hsz
  have hl : lv_has ls 5 [(0, .ref h0), (1, .int v), (2, .int w)] := hl
  refine lv_aload_n hx hb dX6_keepRow_0 rfl (lv_at hl 0 rfl) ?_
  refine lv_iconst (v := 0) hx hb dX6_keepRow_1 (by decide) ?_
  refine va_put (D := D) (ci := 5) (v := .int 0) (ty := .int) (C := RX6) (T := TX6) (N := 5) hx hb hts hig_keepRow_X6 tyX6 tyX6_ok nmX6 hown hK hP hD hS 0 rfl rfl 4 (by decide) (hts (.fieldLink RX6 24 "OneHandset$Route" "length" "I") (List.mem_of_getElem? (i := 1) rfl)) (fun _ h9 => h9) rfl (by decide +kernel) rfl rfl (Nat.le_of_ble_eq_true rfl) dX6_keepRow_2 (fun H locs hP hD hS => ?_)
  have hP : va_P D vwCl [(h0, .inr (5, [.ref r0, .ref r1, .ref r2, .ref r3, .int 0])), (r0, .inl (cI, 256, .inl f0)), (r2, .inl (cI, 256, .inl f2)), (r3, .inl (cI, 256, .inl f3))] H := hP
  have hD : va_D A [(h0, .inr (5, [.ref r0, .ref r1, .ref r2, .ref r3, .int 0])), (r0, .inl (cI, 256, .inl f0)), (r2, .inl (cI, 256, .inl f2)), (r3, .inl (cI, 256, .inl f3))] := hD
  refine lv_iload_n hx hb dX6_keepRow_5 rfl (lv_at hl 2 rfl) ?_
  refine lv_istore_n (lv' := [(3, .int w), (0, .ref h0), (1, .int v), (2, .int w)]) hx hb dX6_keepRow_6 rfl hl (by decide) rfl (fun ls hl => ?_)
  refine lp_N (fun n9 H locs ls => ∃ (z_1 : Int32), ∃ (i_2 : Int32), n9 = d (Int32.toNatClampNeg i_2) ∧ (va_P D vwCl [(h0, .inr (5, [.ref r0, .ref r1, .ref r2, .ref r3, .int z_1])), (r0, .inl (cI, 256, .inl f0)), (r2, .inl (cI, 256, .inl f2)), (r3, .inl (cI, 256, .inl f3))] H ∧ va_D A [(h0, .inr (5, [.ref r0, .ref r1, .ref r2, .ref r3, .int z_1])), (r0, .inl (cI, 256, .inl f0)), (r2, .inl (cI, 256, .inl f2)), (r3, .inl (cI, 256, .inl f3))]) ∧ va_S A s.heap H locs ∧ lv_has ls 5 [(3, .int i_2), (0, .ref h0), (1, .int v), (2, .int w)] ∧ (IS f2 i_2 ∧ 0 ≤ z_1.toInt ∧ z_1.toInt + d (Int32.toNatClampNeg i_2) = d (Int32.toNatClampNeg w))) ?_ ⟨0, w, rfl, ⟨hP, hD⟩, hS, hl, ⟨his, by decide, (by have k0 : (0 : Int32).toInt = 0 := (by decide); clear hml hsz hr hlocks; omega)⟩⟩
  intro n9 ih_3 H locs ls hI
  obtain ⟨z_1, i_2, rfl, ⟨hP, hD⟩, hS, hl, hv_4⟩ := hI
  refine lv_iload_n hx hb dX6_keepRow_7 rfl (lv_at hl 0 rfl) ?_
  refine lv_iload_n hx hb dX6_keepRow_8 rfl (lv_at hl 2 rfl) ?_
  refine lv_icmp_eq (tgt := 42) hx hb dX6_keepRow_9 (by decide) (fun c_5 => ?_) (fun c_5 => ?_)
  · have hn_6 : (z_1).toInt = d (Int32.toNatClampNeg w) := (by have h3 := hdk.2.1; rw [← c_5] at h3; have h4 := hv_4; clear hml hsz hr hlocks; omega)
    refine lv_iload_n hx hb dX6_keepRow_42 rfl (lv_at hl 3 rfl) ?_
    refine lv_istore_n (lv' := [(3, .int w), (0, .ref h0), (1, .int v), (2, .int w)]) hx hb dX6_keepRow_43 rfl hl (by decide) rfl (fun ls hl => ?_)
    refine lv_aload_n hx hb dX6_keepRow_44 rfl (lv_at hl 1 rfl) ?_
    refine va_get (D := D) (ci := 5) (v := .int z_1) (C := RX6) (T := TX6) (N := 5) hx hb hts hig_keepRow_X6 hown hK hP 0 rfl rfl 4 (by decide) (hts (.fieldLink RX6 24 "OneHandset$Route" "length" "I") (List.mem_of_getElem? (i := 1) rfl)) (fun _ h9 => h9) rfl dX6_keepRow_45 ?_
    refine lv_iconst (v := 1) hx hb dX6_keepRow_48 (by decide) ?_
    refine lv_isub hx hb dX6_keepRow_49 ?_
    refine lv_istore (lv' := [(4, .int (z_1 - 1)), (3, .int w), (0, .ref h0), (1, .int v), (2, .int w)]) hx hb dX6_keepRow_50 hl (by decide) rfl (fun ls hl => ?_)
    refine lp_N (fun n9 H locs ls => ∃ (g_7 : Nat → Int32), ∃ (j_8 : Int32), ∃ (i_9 : Int32), n9 = (i_9.toInt + 1).toNat ∧ (va_P D vwCl [(h0, .inr (5, [.ref r0, .ref r1, .ref r2, .ref r3, .int z_1])), (r0, .inl (cI, 256, .inl g_7)), (r2, .inl (cI, 256, .inl f2)), (r3, .inl (cI, 256, .inl f3))] H ∧ va_D A [(h0, .inr (5, [.ref r0, .ref r1, .ref r2, .ref r3, .int z_1])), (r0, .inl (cI, 256, .inl g_7)), (r2, .inl (cI, 256, .inl f2)), (r3, .inl (cI, 256, .inl f3))]) ∧ va_S A s.heap H locs ∧ lv_has ls 5 [(4, .int i_9), (3, .int j_8), (0, .ref h0), (1, .int v), (2, .int w)] ∧ ((IS f2 j_8 ∧ ((d (Int32.toNatClampNeg j_8) : Nat) : Int) = i_9.toInt + 1 ∧ d (Int32.toNatClampNeg j_8) ≤ d (Int32.toNatClampNeg w)) ∧ j_8 = pb f2 w (d (Int32.toNatClampNeg w) - d (Int32.toNatClampNeg j_8)) ∧ RF f2 f3 w (d (Int32.toNatClampNeg w)) g_7 (d (Int32.toNatClampNeg j_8)))) ?_ ⟨f0, w, z_1 - 1, rfl, ⟨hP, hD⟩, hS, hl, ⟨⟨his, (by have h4 := hn_6; have u1 := ti_m1 (i := z_1) (by omega); clear hml hsz hr hlocks; omega), Nat.le_refl _⟩, pb_00, RF.start⟩⟩
    intro n9 ih_10 H locs ls hI
    obtain ⟨g_7, j_8, i_9, rfl, ⟨hP, hD⟩, hS, hl, hv_11⟩ := hI
    refine lv_iload hx hb dX6_keepRow_52 (lv_at hl 0 rfl) ?_
    refine lv_if_lt (tgt := 83) hx hb dX6_keepRow_54 (by decide) (fun c_12 => ?_) (fun c_12 => ?_)
    · refine lv_aload_n hx hb dX6_keepRow_83 rfl (lv_at hl 2 rfl) ?_
      refine va_get (D := D) (ci := 5) (v := .int z_1) (C := RX6) (T := TX6) (N := 5) hx hb hts hig_keepRow_X6 hown hK hP 0 rfl rfl 4 (by decide) (hts (.fieldLink RX6 24 "OneHandset$Route" "length" "I") (List.mem_of_getElem? (i := 1) rfl)) (fun _ h9 => h9) rfl dX6_keepRow_84 ?_
      exact ret_i hx hb hr hlocks rfl (u := (z_1, g_7)) (⟨(by have h4 := hn_6; clear hml hsz hr hlocks; omega), TR.mk hdk his hd hn_6 (rf_0 (hv_11).2.2 (by have : (0 : Int32).toInt = 0 := (by decide); have := ti_eq c_5; have := ti_lt c_12; have k0 : (0 : Int32).toInt = 0 := (by decide); have h3 := hv_11; omega))⟩) (hP.sub [0, 1, 2, 3] rfl) (hK.sub [] rfl) (hD.sub [0, 1, 2, 3] (by decide) rfl) hS (Nat.le_of_ble_eq_true rfl) (Nat.le_of_ble_eq_true rfl) dX6_keepRow_87
    have hne_13 : ¬ j_8 = v := fun q9 => (by have : (0 : Int32).toInt = 0 := (by decide); have := ti_eq c_5; have := ti_nlt c_12; have h3 := hdk.2.1; rw [← q9] at h3; have h4 := hv_11; have k0 : (0 : Int32).toInt = 0 := (by decide); omega)
    have hnx_14 : IS f2 (f2 (Int32.toNatClampNeg j_8)) ∧ d (Int32.toNatClampNeg (f2 (Int32.toNatClampNeg j_8))) + 1 = d (Int32.toNatClampNeg j_8) := DK.nx hdk (hv_11).1.1 hne_13
    refine lv_aload_n hx hb dX6_keepRow_57 rfl (lv_at hl 2 rfl) ?_
    refine va_get (D := D) (ci := 5) (v := .ref r0) (C := RX6) (T := TX6) (N := 5) hx hb hts hig_keepRow_X6 hown hK hP 0 rfl rfl 0 (by decide) (hts (.fieldLink RX6 9 "OneHandset$Route" "row" "[I") (List.mem_of_getElem? (i := 3) rfl)) (fun _ h9 => h9) rfl dX6_keepRow_58 ?_
    refine lv_iload hx hb dX6_keepRow_61 (lv_at hl 0 rfl) ?_
    refine lv_aload_n hx hb dX6_keepRow_63 rfl (lv_at hl 2 rfl) ?_
    refine va_get (D := D) (ci := 5) (v := .ref r3) (C := RX6) (T := TX6) (N := 5) hx hb hts hig_keepRow_X6 hown hK hP 0 rfl rfl 3 (by decide) (hts (.fieldLink RX6 21 "OneHandset$Route" "by" "[I") (List.mem_of_getElem? (i := 4) rfl)) (fun _ h9 => h9) rfl dX6_keepRow_64 ?_
    refine lv_iload_n hx hb dX6_keepRow_67 rfl (lv_at hl 1 rfl) ?_
    refine va_iald hx hb hK hP 3 0 rfl rfl (hv_11).1.1.vin dX6_keepRow_68 ?_
    refine va_iast hx hb hK hP hD hS 1 0 rfl rfl (by have : (0 : Int32).toInt = 0 := (by decide); have := ti_eq c_5; have := ti_nlt c_12; have u7 := hv_11; exact vp_in_iff.mpr (by omega)) dX6_keepRow_69 (fun H locs hP hD hS => ?_)
    have hP : va_P D vwCl [(h0, .inr (5, [.ref r0, .ref r1, .ref r2, .ref r3, .int z_1])), (r0, .inl (cI, 256, .inl (upd g_7 (Int32.toNatClampNeg i_9) (f3 (Int32.toNatClampNeg j_8))))), (r2, .inl (cI, 256, .inl f2)), (r3, .inl (cI, 256, .inl f3))] H := hP
    have hD : va_D A [(h0, .inr (5, [.ref r0, .ref r1, .ref r2, .ref r3, .int z_1])), (r0, .inl (cI, 256, .inl (upd g_7 (Int32.toNatClampNeg i_9) (f3 (Int32.toNatClampNeg j_8))))), (r2, .inl (cI, 256, .inl f2)), (r3, .inl (cI, 256, .inl f3))] := hD
    refine lv_aload_n hx hb dX6_keepRow_70 rfl (lv_at hl 2 rfl) ?_
    refine va_get (D := D) (ci := 5) (v := .ref r2) (C := RX6) (T := TX6) (N := 5) hx hb hts hig_keepRow_X6 hown hK hP 0 rfl rfl 2 (by decide) (hts (.fieldLink RX6 18 "OneHandset$Route" "before" "[I") (List.mem_of_getElem? (i := 2) rfl)) (fun _ h9 => h9) rfl dX6_keepRow_71 ?_
    refine lv_iload_n hx hb dX6_keepRow_74 rfl (lv_at hl 1 rfl) ?_
    refine va_iald hx hb hK hP 2 0 rfl rfl (hv_11).1.1.vin dX6_keepRow_75 ?_
    refine lv_istore_n (lv' := [(3, .int (f2 (Int32.toNatClampNeg j_8))), (4, .int i_9), (0, .ref h0), (1, .int v), (2, .int w)]) hx hb dX6_keepRow_76 rfl hl (by decide) rfl (fun ls hl => ?_)
    refine lv_iinc (v := i_9 + (-1)) (lv' := [(4, .int (i_9 + (-1))), (3, .int (f2 (Int32.toNatClampNeg j_8))), (0, .ref h0), (1, .int v), (2, .int w)]) hx hb dX6_keepRow_77 hl (k := 1) rfl rfl (by decide) rfl (fun ls hl => ?_)
    refine lv_goto (tgt := 52) hx hb dX6_keepRow_80 (by decide) ?_
    exact ih_10 _ _ _ _ (mu_dn c_12) ⟨upd g_7 (Int32.toNatClampNeg i_9) (f3 (Int32.toNatClampNeg j_8)), f2 (Int32.toNatClampNeg j_8), i_9 + (-1), rfl, ⟨hP, hD⟩, hS, lv_sub hl [0, 1, 2, 3, 4] rfl, ⟨⟨(hnx_14).1, (by have : (0 : Int32).toInt = 0 := (by decide); have := ti_eq c_5; have := ti_nlt c_12; clear hml hsz hr hlocks; have h3 := hv_11; have h4 := hnx_14; have u1 := ti_am1s (i := i_9) (by omega); omega), (by have : (0 : Int32).toInt = 0 := (by decide); have := ti_eq c_5; have := ti_nlt c_12; clear hml hsz hr hlocks; have h3 := hv_11; have h4 := hnx_14; have u1 := ti_am1s (i := i_9) (by omega); omega)⟩, pb_nx (hv_11).2.1 (hnx_14).2 (hv_11).1.2.2, RF.up (hv_11).2.2 (hnx_14).2 (hv_11).2.1 (by have : (0 : Int32).toInt = 0 := (by decide); have := ti_eq c_5; have := ti_nlt c_12; clear hml hsz hr hlocks; have h3 := hv_11; have h4 := hnx_14; omega)⟩⟩
  have hnx_15 : IS f2 (f2 (Int32.toNatClampNeg i_2)) ∧ d (Int32.toNatClampNeg (f2 (Int32.toNatClampNeg i_2))) + 1 = d (Int32.toNatClampNeg i_2) := DK.nx hdk (hv_4).1 c_5
  refine lv_aload_n hx hb dX6_keepRow_12 rfl (lv_at hl 1 rfl) ?_
  refine va_get (D := D) (ci := 5) (v := .int z_1) (C := RX6) (T := TX6) (N := 5) hx hb hts hig_keepRow_X6 hown hK hP 0 rfl rfl 4 (by decide) (hts (.fieldLink RX6 24 "OneHandset$Route" "length" "I") (List.mem_of_getElem? (i := 1) rfl)) (fun _ h9 => h9) rfl dX6_keepRow_13 ?_
  refine lv_sipush (v := 256) hx hb dX6_keepRow_16 (by decide) ?_
  refine lv_icmp_ge (tgt := 42) hx hb dX6_keepRow_19 (by decide) (fun c_16 => absurd c_16 (n_le (by have h3 := hv_4; have k256 : (256 : Int32).toInt = 256 := (by decide); clear hml hsz hr hlocks; omega))) (fun _ => ?_)
  refine lv_aload_n hx hb dX6_keepRow_22 rfl (lv_at hl 1 rfl) ?_
  refine lv_dup hx hb dX6_keepRow_23 rfl ?_
  refine va_get (D := D) (ci := 5) (v := .int z_1) (C := RX6) (T := TX6) (N := 5) hx hb hts hig_keepRow_X6 hown hK hP 0 rfl rfl 4 (by decide) (hts (.fieldLink RX6 24 "OneHandset$Route" "length" "I") (List.mem_of_getElem? (i := 1) rfl)) (fun _ h9 => h9) rfl dX6_keepRow_24 ?_
  refine lv_iconst (v := 1) hx hb dX6_keepRow_27 (by decide) ?_
  refine lv_iadd hx hb dX6_keepRow_28 ?_
  refine va_put (D := D) (ci := 5) (v := .int (z_1 + 1)) (ty := .int) (C := RX6) (T := TX6) (N := 5) hx hb hts hig_keepRow_X6 tyX6 tyX6_ok nmX6 hown hK hP hD hS 0 rfl rfl 4 (by decide) (hts (.fieldLink RX6 24 "OneHandset$Route" "length" "I") (List.mem_of_getElem? (i := 1) rfl)) (fun _ h9 => h9) rfl (by decide +kernel) rfl rfl (Nat.le_of_ble_eq_true rfl) dX6_keepRow_29 (fun H locs hP hD hS => ?_)
  have hP : va_P D vwCl [(h0, .inr (5, [.ref r0, .ref r1, .ref r2, .ref r3, .int (z_1 + 1)])), (r0, .inl (cI, 256, .inl f0)), (r2, .inl (cI, 256, .inl f2)), (r3, .inl (cI, 256, .inl f3))] H := hP
  have hD : va_D A [(h0, .inr (5, [.ref r0, .ref r1, .ref r2, .ref r3, .int (z_1 + 1)])), (r0, .inl (cI, 256, .inl f0)), (r2, .inl (cI, 256, .inl f2)), (r3, .inl (cI, 256, .inl f3))] := hD
  refine lv_aload_n hx hb dX6_keepRow_32 rfl (lv_at hl 1 rfl) ?_
  refine va_get (D := D) (ci := 5) (v := .ref r2) (C := RX6) (T := TX6) (N := 5) hx hb hts hig_keepRow_X6 hown hK hP 0 rfl rfl 2 (by decide) (hts (.fieldLink RX6 18 "OneHandset$Route" "before" "[I") (List.mem_of_getElem? (i := 2) rfl)) (fun _ h9 => h9) rfl dX6_keepRow_33 ?_
  refine lv_iload_n hx hb dX6_keepRow_36 rfl (lv_at hl 0 rfl) ?_
  refine va_iald hx hb hK hP 2 0 rfl rfl (hv_4).1.vin dX6_keepRow_37 ?_
  refine lv_istore_n (lv' := [(3, .int (f2 (Int32.toNatClampNeg i_2))), (0, .ref h0), (1, .int v), (2, .int w)]) hx hb dX6_keepRow_38 rfl hl (by decide) rfl (fun ls hl => ?_)
  refine lv_goto (tgt := 7) hx hb dX6_keepRow_39 (by decide) ?_
  exact ih_3 _ _ _ _ (by have h4 := hnx_15; clear hml hsz hr hlocks; omega) ⟨z_1 + 1, f2 (Int32.toNatClampNeg i_2), rfl, ⟨hP, hD⟩, hS, lv_sub hl [0, 1, 2, 3] rfl, ⟨(hnx_15).1, (by have h3 := hv_4; have h4 := hnx_15; have k400 : (400 : Int32).toInt = 400 := (by decide); have u1 := ti_up (i := z_1) (n := 400) (by omega); clear hml hsz hr hlocks; omega), (by have h3 := hv_4; have h4 := hnx_15; have k400 : (400 : Int32).toInt = 400 := (by decide); have u1 := ti_up (i := z_1) (n := 400) (by omega); clear hml hsz hr hlocks; omega)⟩⟩
theorem hig_find_X6 : ∀ w ∈ wsX60, w ∈ wsX6_find := mem_pl [30, 31, 32, 33, 34] rfl
theorem hig_find_X0 : ∀ w ∈ wsX00, w ∈ wsX6_find := mem_pl [35, 36, 37, 38] rfl
set_option maxHeartbeats 4000000 in
set_option maxRecDepth 100000 in
theorem g_find (l : Launch) (D : va_G) (sz : Nat) (cI : ClassId) (h0 : Nat) (r0 : Nat) (r1 : Nat) (r2 : Nat) (r3 : Nat) (rl : Int32) (f0 : Nat → Int32) (f1 : Nat → Int32) (f2 : Nat → Int32) (f3 : Nat → Int32) (bq : Nat) (la : Nat) (st : Int32) (bu : Int32) (my : Int32) (lf : Nat → Int32) (v : Int32) (hst : bi st 1 8) (hbu : bi bu 1 4) (hmy : bi my 0 255) (hlf : ∀ j, bi (lf j) 0 7) (hrl : bi rl 0 256) : Ci l yX6_find wsX6_find ({ frames := 3, cells := 0, slots := 0, locals := 67 } : Room) D [.ref h0, .ref bq, .int v] [(h0, .inr (5, [.ref r0, .ref r1, .ref r2, .ref r3, .int rl])), (r0, .inl (cI, 256, .inl f0)), (r1, .inl (cI, 256, .inl f1)), (r2, .inl (cI, 256, .inl f2)), (r3, .inl (cI, 256, .inl f3)), (bq, .inr (0, [.ref la, .int st, .int bu, .int my])), (la, .inl (cI, 32, .inl lf))] [(cI, .int)] sz (fun (r : Int32) => fun (u9 : Int32 × (Nat → Int32) × (Nat → Int32) × (Nat → Int32) × (Nat → Int32)) => match u9 with | (rl2, f02, f12, f22, f32) => bi rl2 0 256 ∧ WYP (wy (w3 lf (cN st) (cN bu) my) my v) r rl rl2 f0 f02) (fun (u9 : Int32 × (Nat → Int32) × (Nat → Int32) × (Nat → Int32) × (Nat → Int32)) => match u9 with | (rl2, f02, f12, f22, f32) => [(h0, .inr (5, [.ref r0, .ref r1, .ref r2, .ref r3, .int rl2])), (r0, .inl (cI, 256, .inl f02)), (r1, .inl (cI, 256, .inl f12)), (r2, .inl (cI, 256, .inl f22)), (r3, .inl (cI, 256, .inl f32)), (bq, .inr (0, [.ref la, .int st, .int bu, .int my])), (la, .inl (cI, 32, .inl lf))]) (fun (u9 : Int32 × (Nat → Int32) × (Nat → Int32) × (Nat → Int32) × (Nat → Int32)) => match u9 with | (rl2, f02, f12, f22, f32) => []) := by
  refine ct_i (cc := cX6_find) (maxL := 9) (ret := (some .int)) (by decide) rfl (Nat.le_of_ble_eq_true rfl) ?_
  intro p e s m below meth c A ls H hx hb hr hts hown hml hlocks hin hA hS hP hK hD hNW hl hAe hsz
  have hl : lv_has ls 9 [(0, .ref h0), (1, .ref bq), (2, .int v)] := hl
  refine lv_aload_n hx hb dX6_find_0 rfl (lv_at hl 0 rfl) ?_
  refine va_get (D := D) (ci := 5) (v := .ref r2) (C := RX6) (T := TX6) (N := 5) hx hb hts hig_find_X6 hown hK hP 0 rfl rfl 2 (by decide) (hts (.fieldLink RX6 18 "OneHandset$Route" "before" "[I") (List.mem_of_getElem? (i := 1) rfl)) (fun _ h9 => h9) rfl dX6_find_1 ?_
  refine lv_iconst (v := (-1)) hx hb dX6_find_4 (by decide) ?_
  refine go_v (wr := [(h0, .inr (5, [.ref r0, .ref r1, .ref r2, .ref r3, .int rl])), (r0, .inl (cI, 256, .inl f0)), (r1, .inl (cI, 256, .inl f1)), (r3, .inl (cI, 256, .inl f3)), (bq, .inr (0, [.ref la, .int st, .int bu, .int my])), (la, .inl (cI, 32, .inl lf))]) (tysr := [(cI, .int)]) hP hD hS hA hK [3] [0, 1, 2, 4, 5, 6] [0] rfl rfl (by decide) (by decide) rfl (va_runS (As := [.ref r2, .int (-1)]) (rest := []) ⟨hx, hb, hml, hown, hts⟩ (c_J7_fill_53178 l D H.size r2 cI 256 f2 (-1) (by decide)) (va_cwS 2 hts gX6_find_J7_fill_53178 rfl rfl rfl (by decide +kernel) ⟨Nat.le_of_ble_eq_true rfl, Nat.le_of_ble_eq_true rfl⟩) (st_preS hP hD hK hNW [3] [0] rfl rfl (by decide) rfl) rfl rfl hl.1 rfl (lv_room (Nat.le_of_ble_eq_true rfl)) dX6_find_5 ⟨(Nat.le_of_ble_eq_true rfl), (Nat.le_of_ble_eq_true rfl)⟩) (fun u H locs hw hP hD hK hS => ?_)
  have hP : va_P D vwCl [(h0, .inr (5, [.ref r0, .ref r1, .ref r2, .ref r3, .int rl])), (r0, .inl (cI, 256, .inl f0)), (r1, .inl (cI, 256, .inl f1)), (r3, .inl (cI, 256, .inl f3)), (bq, .inr (0, [.ref la, .int st, .int bu, .int my])), (la, .inl (cI, 32, .inl lf)), (r2, .inl (cI, 256, .inl (fl f2 (-1) 256)))] H := hP
  have hD : va_D A [(h0, .inr (5, [.ref r0, .ref r1, .ref r2, .ref r3, .int rl])), (r0, .inl (cI, 256, .inl f0)), (r1, .inl (cI, 256, .inl f1)), (r3, .inl (cI, 256, .inl f3)), (bq, .inr (0, [.ref la, .int st, .int bu, .int my])), (la, .inl (cI, 32, .inl lf)), (r2, .inl (cI, 256, .inl (fl f2 (-1) 256)))] := hD
  have hK : va_K D vwCl [(cI, .int), (cI, .int)] s := hK
  refine lv_aload_n hx hb dX6_find_8 rfl (lv_at hl 1 rfl) ?_
  refine va_getN (D := D) (ci := 0) (v := .int my) (C := RX0) (T := TX0) (N := 4) hx hb hts hig_find_X0 hown hK hP 4 rfl rfl 3 (by decide) (va_Nw.use rfl (hNW.1 ("OneHandset$Route", 34, "OneHandset$Box", "maybe", "I", "OneHandset") (List.mem_of_getElem? (l := nw_F) (i := 7) rfl))) (fun _ h9 => h9) rfl dX6_find_9 ?_
  refine lv_istore_n (lv' := [(3, .int my), (0, .ref h0), (1, .ref bq), (2, .int v)]) hx hb dX6_find_12 rfl hl (by decide) rfl (fun ls hl => ?_)
  refine lv_aload_n hx hb dX6_find_13 rfl (lv_at hl 1 rfl) ?_
  refine va_get (D := D) (ci := 5) (v := .ref r1) (C := RX6) (T := TX6) (N := 5) hx hb hts hig_find_X6 hown hK hP 0 rfl rfl 1 (by decide) (hts (.fieldLink RX6 15 "OneHandset$Route" "queue" "[I") (List.mem_of_getElem? (i := 2) rfl)) (fun _ h9 => h9) rfl dX6_find_14 ?_
  refine lv_iconst (v := 0) hx hb dX6_find_17 (by decide) ?_
  refine lv_iload_n hx hb dX6_find_18 rfl (lv_at hl 0 rfl) ?_
  refine va_iast hx hb hK hP hD hS 2 0 rfl rfl (vin (by decide)) dX6_find_19 (fun H locs hP hD hS => ?_)
  have hP : va_P D vwCl [(h0, .inr (5, [.ref r0, .ref r1, .ref r2, .ref r3, .int rl])), (r0, .inl (cI, 256, .inl f0)), (r1, .inl (cI, 256, .inl (upd f1 0 my))), (r3, .inl (cI, 256, .inl f3)), (bq, .inr (0, [.ref la, .int st, .int bu, .int my])), (la, .inl (cI, 32, .inl lf)), (r2, .inl (cI, 256, .inl (fl f2 (-1) 256)))] H := hP
  have hD : va_D A [(h0, .inr (5, [.ref r0, .ref r1, .ref r2, .ref r3, .int rl])), (r0, .inl (cI, 256, .inl f0)), (r1, .inl (cI, 256, .inl (upd f1 0 my))), (r3, .inl (cI, 256, .inl f3)), (bq, .inr (0, [.ref la, .int st, .int bu, .int my])), (la, .inl (cI, 32, .inl lf)), (r2, .inl (cI, 256, .inl (fl f2 (-1) 256)))] := hD
  refine lv_aload_n hx hb dX6_find_20 rfl (lv_at hl 1 rfl) ?_
  refine va_get (D := D) (ci := 5) (v := .ref r2) (C := RX6) (T := TX6) (N := 5) hx hb hts hig_find_X6 hown hK hP 0 rfl rfl 2 (by decide) (hts (.fieldLink RX6 18 "OneHandset$Route" "before" "[I") (List.mem_of_getElem? (i := 1) rfl)) (fun _ h9 => h9) rfl dX6_find_21 ?_
  refine lv_iload_n hx hb dX6_find_24 rfl (lv_at hl 0 rfl) ?_
  refine lv_iload_n hx hb dX6_find_25 rfl (lv_at hl 0 rfl) ?_
  refine va_iast hx hb hK hP hD hS 6 0 rfl rfl (vp_in_iff.mpr (by omega)) dX6_find_26 (fun H locs hP hD hS => ?_)
  have hP : va_P D vwCl [(h0, .inr (5, [.ref r0, .ref r1, .ref r2, .ref r3, .int rl])), (r0, .inl (cI, 256, .inl f0)), (r1, .inl (cI, 256, .inl (upd f1 0 my))), (r3, .inl (cI, 256, .inl f3)), (bq, .inr (0, [.ref la, .int st, .int bu, .int my])), (la, .inl (cI, 32, .inl lf)), (r2, .inl (cI, 256, .inl (upd (fl f2 (-1) 256) (Int32.toNatClampNeg my) my)))] H := hP
  have hD : va_D A [(h0, .inr (5, [.ref r0, .ref r1, .ref r2, .ref r3, .int rl])), (r0, .inl (cI, 256, .inl f0)), (r1, .inl (cI, 256, .inl (upd f1 0 my))), (r3, .inl (cI, 256, .inl f3)), (bq, .inr (0, [.ref la, .int st, .int bu, .int my])), (la, .inl (cI, 32, .inl lf)), (r2, .inl (cI, 256, .inl (upd (fl f2 (-1) 256) (Int32.toNatClampNeg my) my)))] := hD
  refine lv_iconst (v := 1) hx hb dX6_find_27 (by decide) ?_
  refine lv_istore (lv' := [(4, .int 1), (3, .int my), (0, .ref h0), (1, .ref bq), (2, .int v)]) hx hb dX6_find_28 hl (by decide) rfl (fun ls hl => ?_)
  refine lv_iconst (v := 0) hx hb dX6_find_30 (by decide) ?_
  refine lv_istore (lv' := [(5, .int 0), (4, .int 1), (3, .int my), (0, .ref h0), (1, .ref bq), (2, .int v)]) hx hb dX6_find_31 hl (by decide) rfl (fun ls hl => ?_)
  refine lp_N (fun n9 H locs ls => ∃ (q_2 : Nat → Int32), ∃ (f_3 : Nat → Int32), ∃ (k_4 : Nat → Int32), ∃ (t_5 : Int32), ∃ (i_6 : Int32), ∃ (d_7 : Nat → Nat), n9 = (256 - i_6.toInt).toNat ∧ (va_P D vwCl [(h0, .inr (5, [.ref r0, .ref r1, .ref r2, .ref r3, .int rl])), (r0, .inl (cI, 256, .inl f0)), (r1, .inl (cI, 256, .inl q_2)), (r3, .inl (cI, 256, .inl k_4)), (bq, .inr (0, [.ref la, .int st, .int bu, .int my])), (la, .inl (cI, 32, .inl lf)), (r2, .inl (cI, 256, .inl f_3))] H ∧ va_D A [(h0, .inr (5, [.ref r0, .ref r1, .ref r2, .ref r3, .int rl])), (r0, .inl (cI, 256, .inl f0)), (r1, .inl (cI, 256, .inl q_2)), (r3, .inl (cI, 256, .inl k_4)), (bq, .inr (0, [.ref la, .int st, .int bu, .int my])), (la, .inl (cI, 32, .inl lf)), (r2, .inl (cI, 256, .inl f_3))]) ∧ va_S A s.heap H locs ∧ lv_has ls 9 [(5, .int i_6), (4, .int t_5), (3, .int my), (0, .ref h0), (1, .ref bq), (2, .int v)] ∧ ((WI q_2 f_3 d_7 my t_5 ∧ 0 ≤ i_6.toInt ∧ i_6.toInt ≤ 256) ∧ AG my q_2 f_3 k_4 t_5 (w3 lf (cN st) (cN bu) my (cN i_6)) ∧ wE (w3 lf (cN st) (cN bu) my) v 257 0 = wE (w3 lf (cN st) (cN bu) my) v (257 - cN i_6) (cN i_6))) ?_ ⟨upd f1 0 my, upd (fl f2 (-1) 256) (Int32.toNatClampNeg my) my, f3, 1, 0, fun _ => 0, rfl, ⟨hP, hD⟩, hS, hl, ⟨⟨WI.start hmy (fun j hj => fl_in hj), by decide, by decide⟩, ag_0 (AG.start (fun j hj => fl_in hj)), wE_0⟩⟩
  intro n9 ih_8 H locs ls hI
  obtain ⟨q_2, f_3, k_4, t_5, i_6, d_7, rfl, ⟨hP, hD⟩, hS, hl, hv_9⟩ := hI
  refine lv_iload hx hb dX6_find_33 (lv_at hl 0 rfl) ?_
  refine lv_iload hx hb dX6_find_35 (lv_at hl 1 rfl) ?_
  refine lv_icmp_ge (tgt := 157) hx hb dX6_find_37 (by decide) (fun c_10 => ?_) (fun c_10 => ?_)
  · refine lv_bipush (v := (-2)) hx hb dX6_find_157 (by decide) ?_
    exact ret_i hx hb hr hlocks rfl (u := (rl, f0, q_2, f_3, k_4)) (⟨hrl, WYP.no (wE_no (hv_9).2.2 (hv_9).2.1 (hv_9).1.2.1 (by have := ti_le c_10; omega) (hv_9).1.2.2)⟩) (hP.sub [0, 1, 2, 6, 3, 4, 5] rfl) (hK.sub [] rfl) (hD.sub [0, 1, 2, 6, 3, 4, 5] (by decide) rfl) hS (Nat.le_of_ble_eq_true rfl) (Nat.le_of_ble_eq_true rfl) dX6_find_159
  refine lv_iload hx hb dX6_find_40 (lv_at hl 0 rfl) ?_
  refine lv_sipush (v := 256) hx hb dX6_find_42 (by decide) ?_
  refine lv_icmp_ge (tgt := 157) hx hb dX6_find_45 (by decide) (fun c_11 => absurd c_11 (n_le (by have := ti_nle c_10; have k256 : (256 : Int32).toInt = 256 := (by decide); have u7 := (hv_9).1.1.le; omega))) (fun _ => ?_)
  refine lv_aload_n hx hb dX6_find_48 rfl (lv_at hl 3 rfl) ?_
  refine va_get (D := D) (ci := 5) (v := .ref r1) (C := RX6) (T := TX6) (N := 5) hx hb hts hig_find_X6 hown hK hP 0 rfl rfl 1 (by decide) (hts (.fieldLink RX6 15 "OneHandset$Route" "queue" "[I") (List.mem_of_getElem? (i := 2) rfl)) (fun _ h9 => h9) rfl dX6_find_49 ?_
  refine lv_iload hx hb dX6_find_52 (lv_at hl 0 rfl) ?_
  refine va_iald hx hb hK hP 2 0 rfl rfl (by have := ti_nle c_10; have u7 := (hv_9).1.1.le; exact vp_in_iff.mpr (by omega)) dX6_find_54 ?_
  refine lv_istore (lv' := [(6, .int (q_2 (Int32.toNatClampNeg i_6))), (5, .int i_6), (4, .int t_5), (3, .int my), (0, .ref h0), (1, .ref bq), (2, .int v)]) hx hb dX6_find_55 hl (by decide) rfl (fun ls hl => ?_)
  have hset_12 : IS f_3 (q_2 (Int32.toNatClampNeg i_6)) ∧ (d_7 (Int32.toNatClampNeg (q_2 (Int32.toNatClampNeg i_6))) : Int) ≤ (i_6).toInt := WI.at (hv_9).1.1 (hv_9).1.2.1 (by have := ti_nle c_10; omega)
  have hnow_13 : q_2 (Int32.toNatClampNeg i_6) = (w3 lf (cN st) (cN bu) my (cN i_6)).1 (cN i_6) := ag_at (hv_9).2.1 (hv_9).1.2.1 (by have := ti_nle c_10; omega)
  refine lv_iload hx hb dX6_find_57 (lv_at hl 0 rfl) ?_
  refine lv_iload_n hx hb dX6_find_59 rfl (lv_at hl 6 rfl) ?_
  refine lv_iconst (v := (-1)) hx hb dX6_find_60 (by decide) ?_
  refine lv_ixor hx hb dX6_find_61 ?_
  refine lv_iand hx hb dX6_find_62 ?_
  refine lv_if_ne (tgt := 74) hx hb dX6_find_63 (by decide) (fun c_14 => ?_) (fun c_14 => ?_)
  · refine lv_iconst (v := 0) hx hb dX6_find_74 (by decide) ?_
    refine lv_istore (lv' := [(7, .int 0), (6, .int (q_2 (Int32.toNatClampNeg i_6))), (5, .int i_6), (4, .int t_5), (3, .int my), (0, .ref h0), (1, .ref bq), (2, .int v)]) hx hb dX6_find_75 hl (by decide) rfl (fun ls hl => ?_)
    refine lp_N (fun n9 H locs ls => ∃ (q_15 : Nat → Int32), ∃ (f_16 : Nat → Int32), ∃ (k_17 : Nat → Int32), ∃ (t_18 : Int32), ∃ (j_19 : Int32), ∃ (d_20 : Nat → Nat), n9 = (bu.toInt - j_19.toInt).toNat ∧ (va_P D vwCl [(h0, .inr (5, [.ref r0, .ref r1, .ref r2, .ref r3, .int rl])), (r0, .inl (cI, 256, .inl f0)), (r1, .inl (cI, 256, .inl q_15)), (r3, .inl (cI, 256, .inl k_17)), (bq, .inr (0, [.ref la, .int st, .int bu, .int my])), (la, .inl (cI, 32, .inl lf)), (r2, .inl (cI, 256, .inl f_16))] H ∧ va_D A [(h0, .inr (5, [.ref r0, .ref r1, .ref r2, .ref r3, .int rl])), (r0, .inl (cI, 256, .inl f0)), (r1, .inl (cI, 256, .inl q_15)), (r3, .inl (cI, 256, .inl k_17)), (bq, .inr (0, [.ref la, .int st, .int bu, .int my])), (la, .inl (cI, 32, .inl lf)), (r2, .inl (cI, 256, .inl f_16))]) ∧ va_S A s.heap H locs ∧ lv_has ls 9 [(7, .int j_19), (6, .int (q_2 (Int32.toNatClampNeg i_6))), (5, .int i_6), (4, .int t_18), (3, .int my), (0, .ref h0), (1, .ref bq), (2, .int v)] ∧ (WJ q_15 f_16 d_20 my t_18 (q_2 (Int32.toNatClampNeg i_6)) i_6 ∧ (0 ≤ j_19.toInt ∧ j_19.toInt ≤ bu.toInt) ∧ AG my q_15 f_16 k_17 t_18 (w2 lf (cN st) (q_2 (Int32.toNatClampNeg i_6)) (w3 lf (cN st) (cN bu) my (cN i_6)) (cN j_19)))) ?_ ⟨q_2, f_3, k_4, t_5, 0, d_7, rfl, ⟨hP, hD⟩, hS, hl, ⟨⟨(hv_9).1.1, (hset_12).1, (hset_12).2, (by have : (0 : Int32).toInt = 0 := (by decide); have := ti_nle c_10; have := ti_ne c_14; omega)⟩, ⟨by decide, by have k0 : (0 : Int32).toInt = 0 := (by decide); omega⟩, ag_20 (hv_9).2.1⟩⟩
    intro n9 ih_21 H locs ls hI
    obtain ⟨q_15, f_16, k_17, t_18, j_19, d_20, rfl, ⟨hP, hD⟩, hS, hl, hv_22⟩ := hI
    refine lv_iload hx hb dX6_find_77 (lv_at hl 0 rfl) ?_
    refine lv_aload_n hx hb dX6_find_79 rfl (lv_at hl 6 rfl) ?_
    refine va_getN (D := D) (ci := 0) (v := .int bu) (C := RX0) (T := TX0) (N := 4) hx hb hts hig_find_X0 hown hK hP 4 rfl rfl 2 (by decide) (va_Nw.use rfl (hNW.1 ("OneHandset$Route", 43, "OneHandset$Box", "buttons", "I", "OneHandset") (List.mem_of_getElem? (l := nw_F) (i := 5) rfl))) (fun _ h9 => h9) rfl dX6_find_80 ?_
    refine lv_icmp_ge (tgt := 151) hx hb dX6_find_83 (by decide) (fun c_23 => ?_) (fun c_23 => ?_)
    · refine lv_iinc (v := i_6 + 1) (lv' := [(5, .int (i_6 + 1)), (7, .int j_19), (6, .int (q_2 (Int32.toNatClampNeg i_6))), (4, .int t_18), (3, .int my), (0, .ref h0), (1, .ref bq), (2, .int v)]) hx hb dX6_find_151 hl (k := 2) rfl rfl (by decide) rfl (fun ls hl => ?_)
      refine lv_goto (tgt := 33) hx hb dX6_find_154 (by decide) ?_
      exact ih_8 _ _ _ _ (by have : (0 : Int32).toInt = 0 := (by decide); have := ti_nle c_10; have := ti_ne c_14; have := ti_le c_23; have kn : (256 : Int32).toInt = 256 := (by decide); have u7 := (hv_9).1.1.le; have u1 := ti_up (i := i_6) (n := 256) (by omega); omega) ⟨q_15, f_16, k_17, t_18, i_6 + 1, d_20, rfl, ⟨hP, hD⟩, hS, lv_sub hl [0, 3, 4, 5, 6, 7] rfl, ⟨⟨(hv_22).1.1, (by have : (0 : Int32).toInt = 0 := (by decide); have := ti_nle c_10; have := ti_ne c_14; have := ti_le c_23; have kn : (256 : Int32).toInt = 256 := (by decide); have u7 := (hv_9).1.1.le; have u1 := ti_up (i := i_6) (n := 256) (by omega); omega), (by have : (0 : Int32).toInt = 0 := (by decide); have := ti_nle c_10; have := ti_ne c_14; have := ti_le c_23; have kn : (256 : Int32).toInt = 256 := (by decide); have u7 := (hv_9).1.1.le; have u1 := ti_up (i := i_6) (n := 256) (by omega); omega)⟩, AG.nx (l := t_5) (hv_22).2.2 hnow_13 (ti_inj (by have : (0 : Int32).toInt = 0 := (by decide); have := ti_nle c_10; have := ti_ne c_14; have := ti_le c_23; omega)) (hv_9).1.2.1 ((by have : (0 : Int32).toInt = 0 := (by decide); have := ti_nle c_10; have := ti_ne c_14; omega)), wE_up (hv_9).2.2 (hv_9).2.1 (hv_9).1.2.1 ((by have : (0 : Int32).toInt = 0 := (by decide); have := ti_nle c_10; have := ti_ne c_14; omega)) ((hv_9).1.1.le).2 c_14⟩⟩
    refine lv_aload_n hx hb dX6_find_86 rfl (lv_at hl 6 rfl) ?_
    refine lv_iload hx hb dX6_find_87 (lv_at hl 1 rfl) ?_
    refine lv_iload hx hb dX6_find_89 (lv_at hl 0 rfl) ?_
    refine go_i (wr := [(h0, .inr (5, [.ref r0, .ref r1, .ref r2, .ref r3, .int rl])), (r0, .inl (cI, 256, .inl f0)), (r1, .inl (cI, 256, .inl q_15)), (r3, .inl (cI, 256, .inl k_17)), (r2, .inl (cI, 256, .inl f_16))]) (tysr := [(cI, .int), (cI, .int)]) hP hD hS hA hK [4, 5] [0, 1, 2, 3, 6] [0, 1] rfl rfl (by decide) (by decide) rfl (va_runV (As := [.int (q_2 (Int32.toNatClampNeg i_6)), .int j_19]) (rest := []) ⟨hx, hb, hml, hown, hts⟩ (g_behind l D H.size cI bq la st bu my lf (q_2 (Int32.toNatClampNeg i_6)) j_19 hst hbu hlf (wi_y (by have : (0 : Int32).toInt = 0 := (by decide); have := ti_nle c_10; have := ti_ne c_14; have := ti_nle c_23; have k0 : (0 : Int32).toInt = 0 := (by decide); have u1 := ti_m1 (i := bu) (by omega); omega))) (cwV 2 hts gX6_find_X0_behind rfl rfl rfl (by decide +kernel) ⟨Nat.le_of_ble_eq_true rfl, Nat.le_of_ble_eq_true rfl⟩) (st_preV (ci := 0) (q0 := 4) hP hD hK hNW [4, 5] [0] rfl rfl (by decide) rfl rfl rfl rfl) rfl rfl hl.1 rfl (lv_room (Nat.le_of_ble_eq_true rfl)) dX6_find_91 ⟨(Nat.le_of_ble_eq_true rfl), (Nat.le_of_ble_eq_true rfl)⟩) (fun r_24 u H locs hw hP hD hK hS => ?_)
    have hw : bi r_24 0 255 ∧ r_24 = bh lf (q_2 (Int32.toNatClampNeg i_6)) (cN j_19) (cN st) := hw
    have hw_25 := hw
    have hP : va_P D vwCl [(h0, .inr (5, [.ref r0, .ref r1, .ref r2, .ref r3, .int rl])), (r0, .inl (cI, 256, .inl f0)), (r1, .inl (cI, 256, .inl q_15)), (r3, .inl (cI, 256, .inl k_17)), (r2, .inl (cI, 256, .inl f_16)), (bq, .inr (0, [.ref la, .int st, .int bu, .int my])), (la, .inl (cI, 32, .inl lf))] H := hP
    have hD : va_D A [(h0, .inr (5, [.ref r0, .ref r1, .ref r2, .ref r3, .int rl])), (r0, .inl (cI, 256, .inl f0)), (r1, .inl (cI, 256, .inl q_15)), (r3, .inl (cI, 256, .inl k_17)), (r2, .inl (cI, 256, .inl f_16)), (bq, .inr (0, [.ref la, .int st, .int bu, .int my])), (la, .inl (cI, 32, .inl lf))] := hD
    have hK : va_K D vwCl [(cI, .int), (cI, .int)] s := hK
    refine lv_istore (lv' := [(8, .int r_24), (7, .int j_19), (6, .int (q_2 (Int32.toNatClampNeg i_6))), (5, .int i_6), (4, .int t_18), (3, .int my), (0, .ref h0), (1, .ref bq), (2, .int v)]) hx hb dX6_find_94 hl (by decide) rfl (fun ls hl => ?_)
    refine jn_S 145 (fun st9 H locs ls => ∃ (q_26 : Nat → Int32), ∃ (f_27 : Nat → Int32), ∃ (k_28 : Nat → Int32), ∃ (t_29 : Int32), ∃ (d_30 : Nat → Nat), st9 = [] ∧ (va_P D vwCl [(h0, .inr (5, [.ref r0, .ref r1, .ref r2, .ref r3, .int rl])), (r0, .inl (cI, 256, .inl f0)), (r1, .inl (cI, 256, .inl q_26)), (r3, .inl (cI, 256, .inl k_28)), (r2, .inl (cI, 256, .inl f_27)), (bq, .inr (0, [.ref la, .int st, .int bu, .int my])), (la, .inl (cI, 32, .inl lf))] H ∧ va_D A [(h0, .inr (5, [.ref r0, .ref r1, .ref r2, .ref r3, .int rl])), (r0, .inl (cI, 256, .inl f0)), (r1, .inl (cI, 256, .inl q_26)), (r3, .inl (cI, 256, .inl k_28)), (r2, .inl (cI, 256, .inl f_27)), (bq, .inr (0, [.ref la, .int st, .int bu, .int my])), (la, .inl (cI, 32, .inl lf))]) ∧ va_S A s.heap H locs ∧ lv_has ls 9 [(8, .int r_24), (7, .int j_19), (6, .int (q_2 (Int32.toNatClampNeg i_6))), (5, .int i_6), (4, .int t_29), (3, .int my), (0, .ref h0), (1, .ref bq), (2, .int v)] ∧ (WJ q_26 f_27 d_30 my t_29 (q_2 (Int32.toNatClampNeg i_6)) i_6 ∧ AG my q_26 f_27 k_28 t_29 (w2 lf (cN st) (q_2 (Int32.toNatClampNeg i_6)) (w3 lf (cN st) (cN bu) my (cN i_6)) (cN (j_19 + 1))))) ?_ ?_
    · intro st9 H locs ls hI
      obtain ⟨q_26, f_27, k_28, t_29, d_30, rfl, ⟨hP, hD⟩, hS, hl, hv_31⟩ := hI
      refine lv_iinc (v := j_19 + 1) (lv' := [(7, .int (j_19 + 1)), (8, .int r_24), (6, .int (q_2 (Int32.toNatClampNeg i_6))), (5, .int i_6), (4, .int t_29), (3, .int my), (0, .ref h0), (1, .ref bq), (2, .int v)]) hx hb dX6_find_145 hl (k := 1) rfl rfl (by decide) rfl (fun ls hl => ?_)
      refine lv_goto (tgt := 77) hx hb dX6_find_148 (by decide) ?_
      exact ih_21 _ _ _ _ (by have : (0 : Int32).toInt = 0 := (by decide); have := ti_nle c_10; have := ti_ne c_14; have := ti_nle c_23; have u1 := ti_up (i := j_19) (n := bu) (by omega); omega) ⟨q_26, f_27, k_28, t_29, j_19 + 1, d_30, rfl, ⟨hP.sub [0, 1, 2, 3, 5, 6, 4] rfl, hD.sub [0, 1, 2, 3, 5, 6, 4] (by decide) rfl⟩, hS, lv_sub hl [0, 2, 3, 4, 5, 6, 7, 8] rfl, ⟨(hv_31).1, ⟨(by have : (0 : Int32).toInt = 0 := (by decide); have := ti_nle c_10; have := ti_ne c_14; have := ti_nle c_23; have u1 := ti_up (i := j_19) (n := bu) (by omega); omega), (by have : (0 : Int32).toInt = 0 := (by decide); have := ti_nle c_10; have := ti_ne c_14; have := ti_nle c_23; have u1 := ti_up (i := j_19) (n := bu) (by omega); omega)⟩, (hv_31).2⟩⟩
    · intro hJ_32
      refine lv_aload_n hx hb dX6_find_96 rfl (lv_at hl 6 rfl) ?_
      refine va_get (D := D) (ci := 5) (v := .ref r2) (C := RX6) (T := TX6) (N := 5) hx hb hts hig_find_X6 hown hK hP 0 rfl rfl 2 (by decide) (hts (.fieldLink RX6 18 "OneHandset$Route" "before" "[I") (List.mem_of_getElem? (i := 1) rfl)) (fun _ h9 => h9) rfl dX6_find_97 ?_
      refine lv_iload hx hb dX6_find_100 (lv_at hl 0 rfl) ?_
      refine va_iald hx hb hK hP 4 0 rfl rfl (vp_in_iff.mpr (by have u7 := (hw_25).1; omega)) dX6_find_102 ?_
      refine lv_iconst (v := (-1)) hx hb dX6_find_103 (by decide) ?_
      refine lv_icmp_ne (tgt := 145) hx hb dX6_find_104 (by decide) (fun c_33 => ?_) (fun c_33 => ?_)
      · exact hJ_32 _ _ _ _ ⟨q_15, f_16, k_17, t_18, d_20, rfl, ⟨hP, hD⟩, hS, lv_sub hl [0, 1, 2, 3, 4, 5, 6, 7, 8] rfl, ⟨(hv_22).1, AG.skipJ (m := bu) (hv_22).2.2 (hv_22).2.1.1 (by have : ((-1) : Int32).toInt = -1 := (by decide); have : (0 : Int32).toInt = 0 := (by decide); have := ti_nle c_10; have := ti_ne c_14; have := ti_nle c_23; have := ti_ne c_33; omega) (hw_25).1 (hw_25).2 c_33⟩⟩
      refine lv_iload hx hb dX6_find_107 (lv_at hl 4 rfl) ?_
      refine lv_sipush (v := 256) hx hb dX6_find_109 (by decide) ?_
      refine lv_icmp_ge (tgt := 145) hx hb dX6_find_112 (by decide) (fun c_34 => absurd c_34 (n_le (by have : ((-1) : Int32).toInt = -1 := (by decide); have : (0 : Int32).toInt = 0 := (by decide); have := ti_nle c_10; have := ti_ne c_14; have := ti_nle c_23; have := ti_eq c_33; have k256 : (256 : Int32).toInt = 256 := (by decide); have u7 := WI.lt (hv_22).1.1 (hw_25).1 c_33; omega))) (fun _ => ?_)
      refine lv_aload_n hx hb dX6_find_115 rfl (lv_at hl 6 rfl) ?_
      refine va_get (D := D) (ci := 5) (v := .ref r2) (C := RX6) (T := TX6) (N := 5) hx hb hts hig_find_X6 hown hK hP 0 rfl rfl 2 (by decide) (hts (.fieldLink RX6 18 "OneHandset$Route" "before" "[I") (List.mem_of_getElem? (i := 1) rfl)) (fun _ h9 => h9) rfl dX6_find_116 ?_
      refine lv_iload hx hb dX6_find_119 (lv_at hl 0 rfl) ?_
      refine lv_iload hx hb dX6_find_121 (lv_at hl 2 rfl) ?_
      refine va_iast hx hb hK hP hD hS 4 0 rfl rfl (vp_in_iff.mpr (by have u7 := (hw_25).1; omega)) dX6_find_123 (fun H locs hP hD hS => ?_)
      have hP : va_P D vwCl [(h0, .inr (5, [.ref r0, .ref r1, .ref r2, .ref r3, .int rl])), (r0, .inl (cI, 256, .inl f0)), (r1, .inl (cI, 256, .inl q_15)), (r3, .inl (cI, 256, .inl k_17)), (r2, .inl (cI, 256, .inl (upd f_16 (Int32.toNatClampNeg r_24) (q_2 (Int32.toNatClampNeg i_6))))), (bq, .inr (0, [.ref la, .int st, .int bu, .int my])), (la, .inl (cI, 32, .inl lf))] H := hP
      have hD : va_D A [(h0, .inr (5, [.ref r0, .ref r1, .ref r2, .ref r3, .int rl])), (r0, .inl (cI, 256, .inl f0)), (r1, .inl (cI, 256, .inl q_15)), (r3, .inl (cI, 256, .inl k_17)), (r2, .inl (cI, 256, .inl (upd f_16 (Int32.toNatClampNeg r_24) (q_2 (Int32.toNatClampNeg i_6))))), (bq, .inr (0, [.ref la, .int st, .int bu, .int my])), (la, .inl (cI, 32, .inl lf))] := hD
      refine lv_aload_n hx hb dX6_find_124 rfl (lv_at hl 6 rfl) ?_
      refine va_get (D := D) (ci := 5) (v := .ref r3) (C := RX6) (T := TX6) (N := 5) hx hb hts hig_find_X6 hown hK hP 0 rfl rfl 3 (by decide) (hts (.fieldLink RX6 21 "OneHandset$Route" "by" "[I") (List.mem_of_getElem? (i := 3) rfl)) (fun _ h9 => h9) rfl dX6_find_125 ?_
      refine lv_iload hx hb dX6_find_128 (lv_at hl 0 rfl) ?_
      refine lv_iload hx hb dX6_find_130 (lv_at hl 1 rfl) ?_
      refine va_iast hx hb hK hP hD hS 3 0 rfl rfl (vp_in_iff.mpr (by have u7 := (hw_25).1; omega)) dX6_find_132 (fun H locs hP hD hS => ?_)
      have hP : va_P D vwCl [(h0, .inr (5, [.ref r0, .ref r1, .ref r2, .ref r3, .int rl])), (r0, .inl (cI, 256, .inl f0)), (r1, .inl (cI, 256, .inl q_15)), (r3, .inl (cI, 256, .inl (upd k_17 (Int32.toNatClampNeg r_24) j_19))), (r2, .inl (cI, 256, .inl (upd f_16 (Int32.toNatClampNeg r_24) (q_2 (Int32.toNatClampNeg i_6))))), (bq, .inr (0, [.ref la, .int st, .int bu, .int my])), (la, .inl (cI, 32, .inl lf))] H := hP
      have hD : va_D A [(h0, .inr (5, [.ref r0, .ref r1, .ref r2, .ref r3, .int rl])), (r0, .inl (cI, 256, .inl f0)), (r1, .inl (cI, 256, .inl q_15)), (r3, .inl (cI, 256, .inl (upd k_17 (Int32.toNatClampNeg r_24) j_19))), (r2, .inl (cI, 256, .inl (upd f_16 (Int32.toNatClampNeg r_24) (q_2 (Int32.toNatClampNeg i_6))))), (bq, .inr (0, [.ref la, .int st, .int bu, .int my])), (la, .inl (cI, 32, .inl lf))] := hD
      refine lv_aload_n hx hb dX6_find_133 rfl (lv_at hl 6 rfl) ?_
      refine va_get (D := D) (ci := 5) (v := .ref r1) (C := RX6) (T := TX6) (N := 5) hx hb hts hig_find_X6 hown hK hP 0 rfl rfl 1 (by decide) (hts (.fieldLink RX6 15 "OneHandset$Route" "queue" "[I") (List.mem_of_getElem? (i := 2) rfl)) (fun _ h9 => h9) rfl dX6_find_134 ?_
      refine lv_iload hx hb dX6_find_137 (lv_at hl 4 rfl) ?_
      refine lv_iload hx hb dX6_find_139 (lv_at hl 0 rfl) ?_
      refine va_iast hx hb hK hP hD hS 2 0 rfl rfl (by have : ((-1) : Int32).toInt = -1 := (by decide); have : (0 : Int32).toInt = 0 := (by decide); have := ti_nle c_10; have := ti_ne c_14; have := ti_nle c_23; have := ti_eq c_33; have u7 := WI.lt (hv_22).1.1 (hw_25).1 c_33; exact vp_in_iff.mpr (by omega)) dX6_find_141 (fun H locs hP hD hS => ?_)
      have hP : va_P D vwCl [(h0, .inr (5, [.ref r0, .ref r1, .ref r2, .ref r3, .int rl])), (r0, .inl (cI, 256, .inl f0)), (r1, .inl (cI, 256, .inl (upd q_15 (Int32.toNatClampNeg t_18) r_24))), (r3, .inl (cI, 256, .inl (upd k_17 (Int32.toNatClampNeg r_24) j_19))), (r2, .inl (cI, 256, .inl (upd f_16 (Int32.toNatClampNeg r_24) (q_2 (Int32.toNatClampNeg i_6))))), (bq, .inr (0, [.ref la, .int st, .int bu, .int my])), (la, .inl (cI, 32, .inl lf))] H := hP
      have hD : va_D A [(h0, .inr (5, [.ref r0, .ref r1, .ref r2, .ref r3, .int rl])), (r0, .inl (cI, 256, .inl f0)), (r1, .inl (cI, 256, .inl (upd q_15 (Int32.toNatClampNeg t_18) r_24))), (r3, .inl (cI, 256, .inl (upd k_17 (Int32.toNatClampNeg r_24) j_19))), (r2, .inl (cI, 256, .inl (upd f_16 (Int32.toNatClampNeg r_24) (q_2 (Int32.toNatClampNeg i_6))))), (bq, .inr (0, [.ref la, .int st, .int bu, .int my])), (la, .inl (cI, 32, .inl lf))] := hD
      refine lv_iinc (v := t_18 + 1) (lv' := [(4, .int (t_18 + 1)), (8, .int r_24), (7, .int j_19), (6, .int (q_2 (Int32.toNatClampNeg i_6))), (5, .int i_6), (3, .int my), (0, .ref h0), (1, .ref bq), (2, .int v)]) hx hb dX6_find_142 hl (k := 4) rfl rfl (by decide) rfl (fun ls hl => ?_)
      exact hJ_32 _ _ _ _ ⟨upd q_15 (Int32.toNatClampNeg t_18) r_24, upd f_16 (Int32.toNatClampNeg r_24) (q_2 (Int32.toNatClampNeg i_6)), upd k_17 (Int32.toNatClampNeg r_24) j_19, t_18 + 1, upn d_20 (Int32.toNatClampNeg r_24) (d_20 (Int32.toNatClampNeg (q_2 (Int32.toNatClampNeg i_6))) + 1), rfl, ⟨hP, hD⟩, hS, lv_sub hl [1, 2, 3, 4, 0, 5, 6, 7, 8] rfl, ⟨WJ.push (hv_22).1 (hw_25).1 c_33, AG.pushJ (m := bu) (hv_22).2.2 (hv_22).2.1.1 (by have : ((-1) : Int32).toInt = -1 := (by decide); have : (0 : Int32).toInt = 0 := (by decide); have := ti_nle c_10; have := ti_ne c_14; have := ti_nle c_23; have := ti_eq c_33; omega) (hw_25).1 (WI.lt (hv_22).1.1 (hw_25).1 c_33) (hw_25).2 c_33⟩⟩
  refine lv_aload_n hx hb dX6_find_66 rfl (lv_at hl 4 rfl) ?_
  refine lv_iload_n hx hb dX6_find_67 rfl (lv_at hl 3 rfl) ?_
  refine lv_iload hx hb dX6_find_68 (lv_at hl 0 rfl) ?_
  refine go_i (wr := [(r1, .inl (cI, 256, .inl q_2)), (bq, .inr (0, [.ref la, .int st, .int bu, .int my])), (la, .inl (cI, 32, .inl lf))]) (tysr := [(cI, .int), (cI, .int)]) hP hD hS hA hK [0, 1, 6, 3] [2, 4, 5] [0, 1] rfl rfl (by decide) (by decide) rfl (va_runV (As := [.int my, .int (q_2 (Int32.toNatClampNeg i_6))]) (rest := []) ⟨hx, hb, hml, hown, hts⟩ (g_keepRow l D H.size cI h0 r0 r1 r2 r3 rl f0 f_3 k_4 d_7 my (q_2 (Int32.toNatClampNeg i_6)) (hv_9).1.1.1 (hset_12).1 (by have : (0 : Int32).toInt = 0 := (by decide); have := ti_nle c_10; have := ti_eq c_14; have u7 := (hv_9).1.1.le; have u8 := (hset_12).2; omega)) (cwV 2 hts gX6_find_X6_keepRow rfl rfl rfl (by decide +kernel) ⟨Nat.le_of_ble_eq_true rfl, Nat.le_of_ble_eq_true rfl⟩) (st_preV (ci := 5) (q0 := 0) hP hD hK hNW [0, 1, 6, 3] [0] rfl rfl (by decide) rfl rfl rfl rfl) rfl rfl hl.1 rfl (lv_room (Nat.le_of_ble_eq_true rfl)) dX6_find_70 ⟨(Nat.le_of_ble_eq_true rfl), (Nat.le_of_ble_eq_true rfl)⟩) (fun r_35 u H locs hw hP hD hK hS => ?_)
  obtain ⟨rl_36, f_37⟩ := u
  have hw : bi rl_36 0 256 ∧ TR f_3 k_4 my (q_2 (Int32.toNatClampNeg i_6)) r_35 rl_36 f_37 := hw
  have hw_38 := hw
  have hP : va_P D vwCl [(r1, .inl (cI, 256, .inl q_2)), (bq, .inr (0, [.ref la, .int st, .int bu, .int my])), (la, .inl (cI, 32, .inl lf)), (h0, .inr (5, [.ref r0, .ref r1, .ref r2, .ref r3, .int rl_36])), (r0, .inl (cI, 256, .inl f_37)), (r2, .inl (cI, 256, .inl f_3)), (r3, .inl (cI, 256, .inl k_4))] H := hP
  have hD : va_D A [(r1, .inl (cI, 256, .inl q_2)), (bq, .inr (0, [.ref la, .int st, .int bu, .int my])), (la, .inl (cI, 32, .inl lf)), (h0, .inr (5, [.ref r0, .ref r1, .ref r2, .ref r3, .int rl_36])), (r0, .inl (cI, 256, .inl f_37)), (r2, .inl (cI, 256, .inl f_3)), (r3, .inl (cI, 256, .inl k_4))] := hD
  have hK : va_K D vwCl [(cI, .int), (cI, .int)] s := hK
  exact ret_i hx hb hr hlocks rfl (u := (rl_36, f_37, q_2, f_3, k_4)) (⟨(hw_38).1, WYP.yes (wE_yes (hv_9).2.2 (hv_9).2.1 (hv_9).1.2.1 (by have : (0 : Int32).toInt = 0 := (by decide); have := ti_nle c_10; have := ti_eq c_14; omega) ((hv_9).1.1.le).2 c_14) (hv_9).2.1 (hv_9).1.1.1 (hset_12).1 (by have : (0 : Int32).toInt = 0 := (by decide); have := ti_nle c_10; have := ti_eq c_14; have u7 := (hv_9).1.1.le; have u8 := (hset_12).2; omega) hnow_13 (hw_38).2⟩) (hP.sub [3, 4, 0, 5, 6, 1, 2] rfl) (hK.sub [] rfl) (hD.sub [3, 4, 0, 5, 6, 1, 2] (by decide) rfl) hS (Nat.le_of_ble_eq_true rfl) (Nat.le_of_ble_eq_true rfl) dX6_find_73
