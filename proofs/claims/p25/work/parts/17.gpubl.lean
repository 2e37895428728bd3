set_option maxHeartbeats 4000000 in
set_option maxRecDepth 100000 in
theorem n_set (l : Launch) (D : va_G) (sz : Nat) (h0 : Nat) (tp : Nat) (mka : Nat) (bx : Nat) (rt : Nat) (mc : Int32) (i : Int32) (v : Int32) (w : Int32) (hno : wi i 0 (mc - 1) = 0) : Ci l yX8_set wsX8_set ({ frames := 2, cells := 0, slots := 0, locals := 43 } : Room) D [.ref h0, .int i, .int v, .int w] [(h0, .inr (7, [.ref tp, .ref mka, .int mc, .ref bx, .ref rt]))] [] sz (fun (r : Int32) => fun (_ : Unit) => r = 0) (fun (_ : Unit) => [(h0, .inr (7, [.ref tp, .ref mka, .int mc, .ref bx, .ref rt]))]) (fun (_ : Unit) => []) := by
  refine ct_i (cc := cX8_set) (maxL := 5) (ret := (some .boolean)) (by decide) rfl (Nat.le_of_ble_eq_true rfl) ?_
  intro p e s m below meth c A ls H hx hb hr hts hown hml hlocks hin hA hS hP hK hD hNW hl hAe hsz
  have hl : lv_has ls 5 [(0, .ref h0), (1, .int i), (2, .int v), (3, .int w)] := hl
  refine lv_aload_n hx hb dX8_set_0 rfl (lv_at hl 0 rfl) ?_
  refine lv_iload_n hx hb dX8_set_1 rfl (lv_at hl 1 rfl) ?_
  refine go_q (wr := []) (tysr := []) hP hD hS hA hK [0] [] [] rfl rfl (by decide) (by decide) rfl (va_runV (As := [.int i]) (rest := []) ⟨hx, hb, hml, hown, hts⟩ (g_makeAt_no l D H.size h0 tp mka bx rt mc i hno) (cwV 1 hts gX8_set_X8_makeAt rfl rfl rfl (by decide +kernel) ⟨Nat.le_of_ble_eq_true rfl, Nat.le_of_ble_eq_true rfl⟩) (st_preV (ci := 7) (q0 := 0) hP hD hK hNW [0] [] rfl rfl (by decide) rfl rfl rfl rfl) rfl rfl hl.1 rfl (lv_room (Nat.le_of_ble_eq_true rfl)) dX8_set_2 ⟨(Nat.le_of_ble_eq_true rfl), (Nat.le_of_ble_eq_true rfl)⟩) (fun r_1 u H locs hw hP hD hK hS => ?_)
  have hw : r_1 = none := hw
  subst hw
  have hP : va_P D vwCl [(h0, .inr (7, [.ref tp, .ref mka, .int mc, .ref bx, .ref rt]))] H := hP
  have hD : va_D A [(h0, .inr (7, [.ref tp, .ref mka, .int mc, .ref bx, .ref rt]))] := hD
  have hK : va_K D vwCl [] s := hK
  refine lv_astoreN (lv' := [(4, .null), (0, .ref h0), (1, .int i), (2, .int v), (3, .int w)]) hx hb dX8_set_5 hl (by decide) rfl (fun ls hl => ?_)
  refine lv_aloadN hx hb dX8_set_7 (lv_at hl 0 rfl) ?_
  refine lv_ifnonnullN hx hb dX8_set_9 ?_
  refine lv_iconst (v := 0) hx hb dX8_set_12 (by decide) ?_
  exact ret_i hx hb hr hlocks rfl (u := ()) rfl (hP.sub [0] rfl) (hK.sub [] rfl) (hD.sub [0] (by decide) rfl) hS (Nat.le_of_ble_eq_true rfl) (Nat.le_of_ble_eq_true rfl) dX8_set_13
set_option maxHeartbeats 4000000 in
set_option maxRecDepth 100000 in
theorem n_send (l : Launch) (D : va_G) (sz : Nat) (h0 : Nat) (tp : Nat) (mka : Nat) (bx : Nat) (rt : Nat) (mc : Int32) (i : Int32) (v : Int32) (hno : wi i 0 (mc - 1) = 0) : Ci l yX8_send wsX8_send ({ frames := 2, cells := 0, slots := 0, locals := 43 } : Room) D [.ref h0, .int i, .int v] [(h0, .inr (7, [.ref tp, .ref mka, .int mc, .ref bx, .ref rt]))] [] sz (fun (r : Int32) => fun (_ : Unit) => r = -1) (fun (_ : Unit) => [(h0, .inr (7, [.ref tp, .ref mka, .int mc, .ref bx, .ref rt]))]) (fun (_ : Unit) => []) := by
  refine ct_i (cc := cX8_send) (maxL := 4) (ret := (some .int)) (by decide) rfl (Nat.le_of_ble_eq_true rfl) ?_
  intro p e s m below meth c A ls H hx hb hr hts hown hml hlocks hin hA hS hP hK hD hNW hl hAe hsz
  have hl : lv_has ls 4 [(0, .ref h0), (1, .int i), (2, .int v)] := hl
  refine lv_aload_n hx hb dX8_send_0 rfl (lv_at hl 0 rfl) ?_
  refine lv_iload_n hx hb dX8_send_1 rfl (lv_at hl 1 rfl) ?_
  refine go_q (wr := []) (tysr := []) hP hD hS hA hK [0] [] [] rfl rfl (by decide) (by decide) rfl (va_runV (As := [.int i]) (rest := []) ⟨hx, hb, hml, hown, hts⟩ (g_makeAt_no l D H.size h0 tp mka bx rt mc i hno) (cwV 1 hts gX8_send_X8_makeAt rfl rfl rfl (by decide +kernel) ⟨Nat.le_of_ble_eq_true rfl, Nat.le_of_ble_eq_true rfl⟩) (st_preV (ci := 7) (q0 := 0) hP hD hK hNW [0] [] rfl rfl (by decide) rfl rfl rfl rfl) rfl rfl hl.1 rfl (lv_room (Nat.le_of_ble_eq_true rfl)) dX8_send_2 ⟨(Nat.le_of_ble_eq_true rfl), (Nat.le_of_ble_eq_true rfl)⟩) (fun r_1 u H locs hw hP hD hK hS => ?_)
  have hw : r_1 = none := hw
  subst hw
  have hP : va_P D vwCl [(h0, .inr (7, [.ref tp, .ref mka, .int mc, .ref bx, .ref rt]))] H := hP
  have hD : va_D A [(h0, .inr (7, [.ref tp, .ref mka, .int mc, .ref bx, .ref rt]))] := hD
  have hK : va_K D vwCl [] s := hK
  refine lv_astore_nN (lv' := [(3, .null), (0, .ref h0), (1, .int i), (2, .int v)]) hx hb dX8_send_5 rfl hl (by decide) rfl (fun ls hl => ?_)
  refine lv_aload_nN hx hb dX8_send_6 rfl (lv_at hl 0 rfl) ?_
  refine lv_ifnullN (tgt := 25) hx hb dX8_send_7 (by decide) ?_
  refine lv_iconst (v := (-1)) hx hb dX8_send_25 (by decide) ?_
  exact ret_i hx hb hr hlocks rfl (u := ()) rfl (hP.sub [0] rfl) (hK.sub [] rfl) (hD.sub [0] (by decide) rfl) hS (Nat.le_of_ble_eq_true rfl) (Nat.le_of_ble_eq_true rfl) dX8_send_26
set_option maxHeartbeats 4000000 in
set_option maxRecDepth 100000 in
theorem n_read (l : Launch) (D : va_G) (sz : Nat) (h0 : Nat) (tp : Nat) (mka : Nat) (bx : Nat) (rt : Nat) (mc : Int32) (i : Int32) (hno : wi i 0 (mc - 1) = 0) : Ci l yX8_read wsX8_read ({ frames := 2, cells := 0, slots := 0, locals := 43 } : Room) D [.ref h0, .int i] [(h0, .inr (7, [.ref tp, .ref mka, .int mc, .ref bx, .ref rt]))] [] sz (fun (r : Int32) => fun (_ : Unit) => True) (fun (_ : Unit) => [(h0, .inr (7, [.ref tp, .ref mka, .int mc, .ref bx, .ref rt]))]) (fun (_ : Unit) => []) := by
  refine ct_i (cc := cX8_read) (maxL := 3) (ret := (some .int)) (by decide) rfl (Nat.le_of_ble_eq_true rfl) ?_
  intro p e s m below meth c A ls H hx hb hr hts hown hml hlocks hin hA hS hP hK hD hNW hl hAe hsz
  have hl : lv_has ls 3 [(0, .ref h0), (1, .int i)] := hl
  refine lv_aload_n hx hb dX8_read_0 rfl (lv_at hl 0 rfl) ?_
  refine lv_iload_n hx hb dX8_read_1 rfl (lv_at hl 1 rfl) ?_
  refine go_q (wr := []) (tysr := []) hP hD hS hA hK [0] [] [] rfl rfl (by decide) (by decide) rfl (va_runV (As := [.int i]) (rest := []) ⟨hx, hb, hml, hown, hts⟩ (g_makeAt_no l D H.size h0 tp mka bx rt mc i hno) (cwV 1 hts gX8_read_X8_makeAt rfl rfl rfl (by decide +kernel) ⟨Nat.le_of_ble_eq_true rfl, Nat.le_of_ble_eq_true rfl⟩) (st_preV (ci := 7) (q0 := 0) hP hD hK hNW [0] [] rfl rfl (by decide) rfl rfl rfl rfl) rfl rfl hl.1 rfl (lv_room (Nat.le_of_ble_eq_true rfl)) dX8_read_2 ⟨(Nat.le_of_ble_eq_true rfl), (Nat.le_of_ble_eq_true rfl)⟩) (fun r_1 u H locs hw hP hD hK hS => ?_)
  have hw : r_1 = none := hw
  subst hw
  have hP : va_P D vwCl [(h0, .inr (7, [.ref tp, .ref mka, .int mc, .ref bx, .ref rt]))] H := hP
  have hD : va_D A [(h0, .inr (7, [.ref tp, .ref mka, .int mc, .ref bx, .ref rt]))] := hD
  have hK : va_K D vwCl [] s := hK
  refine lv_astore_nN (lv' := [(2, .null), (0, .ref h0), (1, .int i)]) hx hb dX8_read_5 rfl hl (by decide) rfl (fun ls hl => ?_)
  refine lv_aload_nN hx hb dX8_read_6 rfl (lv_at hl 0 rfl) ?_
  refine lv_ifnonnullN hx hb dX8_read_7 ?_
  refine lv_iconst (v := (-1)) hx hb dX8_read_10 (by decide) ?_
  refine lv_goto (tgt := 22) hx hb dX8_read_11 (by decide) ?_
  exact ret_i hx hb hr hlocks rfl (u := ()) trivial (hP.sub [0] rfl) (hK.sub [] rfl) (hD.sub [0] (by decide) rfl) hS (Nat.le_of_ble_eq_true rfl) (Nat.le_of_ble_eq_true rfl) dX8_read_22
set_option maxHeartbeats 4000000 in
set_option maxRecDepth 100000 in
theorem n_learn (l : Launch) (D : va_G) (sz : Nat) (h0 : Nat) (tp : Nat) (mka : Nat) (bx : Nat) (rt : Nat) (mc : Int32) (i : Int32) (v : Int32) (hno : wi i 0 (mc - 1) = 0) : Ci l yX8_learn wsX8_learn ({ frames := 2, cells := 0, slots := 0, locals := 43 } : Room) D [.ref h0, .int i, .int v] [(h0, .inr (7, [.ref tp, .ref mka, .int mc, .ref bx, .ref rt]))] [] sz (fun (r : Int32) => fun (_ : Unit) => True) (fun (_ : Unit) => [(h0, .inr (7, [.ref tp, .ref mka, .int mc, .ref bx, .ref rt]))]) (fun (_ : Unit) => []) := by
  refine ct_i (cc := cX8_learn) (maxL := 5) (ret := (some .int)) (by decide) rfl (Nat.le_of_ble_eq_true rfl) ?_
  intro p e s m below meth c A ls H hx hb hr hts hown hml hlocks hin hA hS hP hK hD hNW hl hAe hsz
  have hl : lv_has ls 5 [(0, .ref h0), (1, .int i), (2, .int v)] := hl
  refine lv_aload_n hx hb dX8_learn_0 rfl (lv_at hl 0 rfl) ?_
  refine lv_iload_n hx hb dX8_learn_1 rfl (lv_at hl 1 rfl) ?_
  refine go_q (wr := []) (tysr := []) hP hD hS hA hK [0] [] [] rfl rfl (by decide) (by decide) rfl (va_runV (As := [.int i]) (rest := []) ⟨hx, hb, hml, hown, hts⟩ (g_makeAt_no l D H.size h0 tp mka bx rt mc i hno) (cwV 1 hts gX8_learn_X8_makeAt rfl rfl rfl (by decide +kernel) ⟨Nat.le_of_ble_eq_true rfl, Nat.le_of_ble_eq_true rfl⟩) (st_preV (ci := 7) (q0 := 0) hP hD hK hNW [0] [] rfl rfl (by decide) rfl rfl rfl rfl) rfl rfl hl.1 rfl (lv_room (Nat.le_of_ble_eq_true rfl)) dX8_learn_2 ⟨(Nat.le_of_ble_eq_true rfl), (Nat.le_of_ble_eq_true rfl)⟩) (fun r_1 u H locs hw hP hD hK hS => ?_)
  have hw : r_1 = none := hw
  subst hw
  have hP : va_P D vwCl [(h0, .inr (7, [.ref tp, .ref mka, .int mc, .ref bx, .ref rt]))] H := hP
  have hD : va_D A [(h0, .inr (7, [.ref tp, .ref mka, .int mc, .ref bx, .ref rt]))] := hD
  have hK : va_K D vwCl [] s := hK
  refine lv_astore_nN (lv' := [(3, .null), (0, .ref h0), (1, .int i), (2, .int v)]) hx hb dX8_learn_5 rfl hl (by decide) rfl (fun ls hl => ?_)
  refine lv_aload_nN hx hb dX8_learn_6 rfl (lv_at hl 0 rfl) ?_
  refine lv_ifnonnullN hx hb dX8_learn_7 ?_
  refine lv_iconst (v := (-1)) hx hb dX8_learn_10 (by decide) ?_
  exact ret_i hx hb hr hlocks rfl (u := ()) trivial (hP.sub [0] rfl) (hK.sub [] rfl) (hD.sub [0] (by decide) rfl) hS (Nat.le_of_ble_eq_true rfl) (Nat.le_of_ble_eq_true rfl) dX8_learn_11
set_option maxHeartbeats 4000000 in
set_option maxRecDepth 100000 in
theorem n_forget (l : Launch) (D : va_G) (sz : Nat) (h0 : Nat) (tp : Nat) (mka : Nat) (bx : Nat) (rt : Nat) (mc : Int32) (i : Int32) (v : Int32) (hno : wi i 0 (mc - 1) = 0) : Ci l yX8_forget wsX8_forget ({ frames := 2, cells := 0, slots := 0, locals := 43 } : Room) D [.ref h0, .int i, .int v] [(h0, .inr (7, [.ref tp, .ref mka, .int mc, .ref bx, .ref rt]))] [] sz (fun (r : Int32) => fun (_ : Unit) => True) (fun (_ : Unit) => [(h0, .inr (7, [.ref tp, .ref mka, .int mc, .ref bx, .ref rt]))]) (fun (_ : Unit) => []) := by
  refine ct_i (cc := cX8_forget) (maxL := 4) (ret := (some .boolean)) (by decide) rfl (Nat.le_of_ble_eq_true rfl) ?_
  intro p e s m below meth c A ls H hx hb hr hts hown hml hlocks hin hA hS hP hK hD hNW hl hAe hsz
  have hl : lv_has ls 4 [(0, .ref h0), (1, .int i), (2, .int v)] := hl
  refine lv_aload_n hx hb dX8_forget_0 rfl (lv_at hl 0 rfl) ?_
  refine lv_iload_n hx hb dX8_forget_1 rfl (lv_at hl 1 rfl) ?_
  refine go_q (wr := []) (tysr := []) hP hD hS hA hK [0] [] [] rfl rfl (by decide) (by decide) rfl (va_runV (As := [.int i]) (rest := []) ⟨hx, hb, hml, hown, hts⟩ (g_makeAt_no l D H.size h0 tp mka bx rt mc i hno) (cwV 1 hts gX8_forget_X8_makeAt rfl rfl rfl (by decide +kernel) ⟨Nat.le_of_ble_eq_true rfl, Nat.le_of_ble_eq_true rfl⟩) (st_preV (ci := 7) (q0 := 0) hP hD hK hNW [0] [] rfl rfl (by decide) rfl rfl rfl rfl) rfl rfl hl.1 rfl (lv_room (Nat.le_of_ble_eq_true rfl)) dX8_forget_2 ⟨(Nat.le_of_ble_eq_true rfl), (Nat.le_of_ble_eq_true rfl)⟩) (fun r_1 u H locs hw hP hD hK hS => ?_)
  have hw : r_1 = none := hw
  subst hw
  have hP : va_P D vwCl [(h0, .inr (7, [.ref tp, .ref mka, .int mc, .ref bx, .ref rt]))] H := hP
  have hD : va_D A [(h0, .inr (7, [.ref tp, .ref mka, .int mc, .ref bx, .ref rt]))] := hD
  have hK : va_K D vwCl [] s := hK
  refine lv_astore_nN (lv' := [(3, .null), (0, .ref h0), (1, .int i), (2, .int v)]) hx hb dX8_forget_5 rfl hl (by decide) rfl (fun ls hl => ?_)
  refine lv_aload_nN hx hb dX8_forget_6 rfl (lv_at hl 0 rfl) ?_
  refine lv_ifnullN (tgt := 25) hx hb dX8_forget_7 (by decide) ?_
  refine lv_iconst (v := 0) hx hb dX8_forget_25 (by decide) ?_
  exact ret_i hx hb hr hlocks rfl (u := ()) trivial (hP.sub [0] rfl) (hK.sub [] rfl) (hD.sub [0] (by decide) rfl) hS (Nat.le_of_ble_eq_true rfl) (Nat.le_of_ble_eq_true rfl) dX8_forget_26
set_option maxHeartbeats 4000000 in
set_option maxRecDepth 100000 in
theorem n_key (l : Launch) (D : va_G) (sz : Nat) (h0 : Nat) (tp : Nat) (mka : Nat) (bx : Nat) (rt : Nat) (mc : Int32) (i : Int32) (v : Int32) (hno : wi i 0 (mc - 1) = 0) : Ci l yX8_key wsX8_key ({ frames := 2, cells := 0, slots := 0, locals := 43 } : Room) D [.ref h0, .int i, .int v] [(h0, .inr (7, [.ref tp, .ref mka, .int mc, .ref bx, .ref rt]))] [] sz (fun (r : Int32) => fun (_ : Unit) => True) (fun (_ : Unit) => [(h0, .inr (7, [.ref tp, .ref mka, .int mc, .ref bx, .ref rt]))]) (fun (_ : Unit) => []) := by
  refine ct_i (cc := cX8_key) (maxL := 4) (ret := (some .int)) (by decide) rfl (Nat.le_of_ble_eq_true rfl) ?_
  intro p e s m below meth c A ls H hx hb hr hts hown hml hlocks hin hA hS hP hK hD hNW hl hAe hsz
  have hl : lv_has ls 4 [(0, .ref h0), (1, .int i), (2, .int v)] := hl
  refine lv_aload_n hx hb dX8_key_0 rfl (lv_at hl 0 rfl) ?_
  refine lv_iload_n hx hb dX8_key_1 rfl (lv_at hl 1 rfl) ?_
  refine go_q (wr := []) (tysr := []) hP hD hS hA hK [0] [] [] rfl rfl (by decide) (by decide) rfl (va_runV (As := [.int i]) (rest := []) ⟨hx, hb, hml, hown, hts⟩ (g_makeAt_no l D H.size h0 tp mka bx rt mc i hno) (cwV 1 hts gX8_key_X8_makeAt rfl rfl rfl (by decide +kernel) ⟨Nat.le_of_ble_eq_true rfl, Nat.le_of_ble_eq_true rfl⟩) (st_preV (ci := 7) (q0 := 0) hP hD hK hNW [0] [] rfl rfl (by decide) rfl rfl rfl rfl) rfl rfl hl.1 rfl (lv_room (Nat.le_of_ble_eq_true rfl)) dX8_key_2 ⟨(Nat.le_of_ble_eq_true rfl), (Nat.le_of_ble_eq_true rfl)⟩) (fun r_1 u H locs hw hP hD hK hS => ?_)
  have hw : r_1 = none := hw
  subst hw
  have hP : va_P D vwCl [(h0, .inr (7, [.ref tp, .ref mka, .int mc, .ref bx, .ref rt]))] H := hP
  have hD : va_D A [(h0, .inr (7, [.ref tp, .ref mka, .int mc, .ref bx, .ref rt]))] := hD
  have hK : va_K D vwCl [] s := hK
  refine lv_astore_nN (lv' := [(3, .null), (0, .ref h0), (1, .int i), (2, .int v)]) hx hb dX8_key_5 rfl hl (by decide) rfl (fun ls hl => ?_)
  refine lv_aload_nN hx hb dX8_key_6 rfl (lv_at hl 0 rfl) ?_
  refine lv_ifnonnullN hx hb dX8_key_7 ?_
  refine lv_iconst (v := (-1)) hx hb dX8_key_10 (by decide) ?_
  refine lv_goto (tgt := 22) hx hb dX8_key_11 (by decide) ?_
  exact ret_i hx hb hr hlocks rfl (u := ()) trivial (hP.sub [0] rfl) (hK.sub [] rfl) (hD.sub [0] (by decide) rfl) hS (Nat.le_of_ble_eq_true rfl) (Nat.le_of_ble_eq_true rfl) dX8_key_22
set_option maxHeartbeats 4000000 in
set_option maxRecDepth 100000 in
theorem n_press (l : Launch) (D : va_G) (sz : Nat) (h0 : Nat) (tp : Nat) (mka : Nat) (bx : Nat) (rt : Nat) (mc : Int32) (i : Int32) (v : Int32) (hno : wi i 0 (mc - 1) = 0) : Ci l yX8_press wsX8_press ({ frames := 2, cells := 0, slots := 0, locals := 43 } : Room) D [.ref h0, .int i, .int v] [(h0, .inr (7, [.ref tp, .ref mka, .int mc, .ref bx, .ref rt]))] [] sz (fun (r : Int32) => fun (_ : Unit) => True) (fun (_ : Unit) => [(h0, .inr (7, [.ref tp, .ref mka, .int mc, .ref bx, .ref rt]))]) (fun (_ : Unit) => []) := by
  refine ct_i (cc := cX8_press) (maxL := 4) (ret := (some .int)) (by decide) rfl (Nat.le_of_ble_eq_true rfl) ?_
  intro p e s m below meth c A ls H hx hb hr hts hown hml hlocks hin hA hS hP hK hD hNW hl hAe hsz
  have hl : lv_has ls 4 [(0, .ref h0), (1, .int i), (2, .int v)] := hl
  refine lv_aload_n hx hb dX8_press_0 rfl (lv_at hl 0 rfl) ?_
  refine lv_iload_n hx hb dX8_press_1 rfl (lv_at hl 1 rfl) ?_
  refine go_q (wr := []) (tysr := []) hP hD hS hA hK [0] [] [] rfl rfl (by decide) (by decide) rfl (va_runV (As := [.int i]) (rest := []) ⟨hx, hb, hml, hown, hts⟩ (g_makeAt_no l D H.size h0 tp mka bx rt mc i hno) (cwV 1 hts gX8_press_X8_makeAt rfl rfl rfl (by decide +kernel) ⟨Nat.le_of_ble_eq_true rfl, Nat.le_of_ble_eq_true rfl⟩) (st_preV (ci := 7) (q0 := 0) hP hD hK hNW [0] [] rfl rfl (by decide) rfl rfl rfl rfl) rfl rfl hl.1 rfl (lv_room (Nat.le_of_ble_eq_true rfl)) dX8_press_2 ⟨(Nat.le_of_ble_eq_true rfl), (Nat.le_of_ble_eq_true rfl)⟩) (fun r_1 u H locs hw hP hD hK hS => ?_)
  have hw : r_1 = none := hw
  subst hw
  have hP : va_P D vwCl [(h0, .inr (7, [.ref tp, .ref mka, .int mc, .ref bx, .ref rt]))] H := hP
  have hD : va_D A [(h0, .inr (7, [.ref tp, .ref mka, .int mc, .ref bx, .ref rt]))] := hD
  have hK : va_K D vwCl [] s := hK
  refine lv_astore_nN (lv' := [(3, .null), (0, .ref h0), (1, .int i), (2, .int v)]) hx hb dX8_press_5 rfl hl (by decide) rfl (fun ls hl => ?_)
  refine lv_aload_nN hx hb dX8_press_6 rfl (lv_at hl 0 rfl) ?_
  refine lv_ifnullN (tgt := 22) hx hb dX8_press_7 (by decide) ?_
  refine lv_iconst (v := (-1)) hx hb dX8_press_22 (by decide) ?_
  exact ret_i hx hb hr hlocks rfl (u := ()) trivial (hP.sub [0] rfl) (hK.sub [] rfl) (hD.sub [0] (by decide) rfl) hS (Nat.le_of_ble_eq_true rfl) (Nat.le_of_ble_eq_true rfl) dX8_press_23
set_option maxHeartbeats 4000000 in
set_option maxRecDepth 100000 in
theorem n_of (l : Launch) (D : va_G) (sz : Nat) (h0 : Nat) (tp : Nat) (mka : Nat) (bx : Nat) (rt : Nat) (mc : Int32) (i : Int32) (v : Int32) (hno : wi i 0 (mc - 1) = 0) : Ci l yX8_of wsX8_of ({ frames := 2, cells := 0, slots := 0, locals := 43 } : Room) D [.ref h0, .int i, .int v] [(h0, .inr (7, [.ref tp, .ref mka, .int mc, .ref bx, .ref rt]))] [] sz (fun (r : Int32) => fun (_ : Unit) => True) (fun (_ : Unit) => [(h0, .inr (7, [.ref tp, .ref mka, .int mc, .ref bx, .ref rt]))]) (fun (_ : Unit) => []) := by
  refine ct_i (cc := cX8_of) (maxL := 4) (ret := (some .int)) (by decide) rfl (Nat.le_of_ble_eq_true rfl) ?_
  intro p e s m below meth c A ls H hx hb hr hts hown hml hlocks hin hA hS hP hK hD hNW hl hAe hsz
  have hl : lv_has ls 4 [(0, .ref h0), (1, .int i), (2, .int v)] := hl
  refine lv_aload_n hx hb dX8_of_0 rfl (lv_at hl 0 rfl) ?_
  refine lv_iload_n hx hb dX8_of_1 rfl (lv_at hl 1 rfl) ?_
  refine go_q (wr := []) (tysr := []) hP hD hS hA hK [0] [] [] rfl rfl (by decide) (by decide) rfl (va_runV (As := [.int i]) (rest := []) ⟨hx, hb, hml, hown, hts⟩ (g_makeAt_no l D H.size h0 tp mka bx rt mc i hno) (cwV 1 hts gX8_of_X8_makeAt rfl rfl rfl (by decide +kernel) ⟨Nat.le_of_ble_eq_true rfl, Nat.le_of_ble_eq_true rfl⟩) (st_preV (ci := 7) (q0 := 0) hP hD hK hNW [0] [] rfl rfl (by decide) rfl rfl rfl rfl) rfl rfl hl.1 rfl (lv_room (Nat.le_of_ble_eq_true rfl)) dX8_of_2 ⟨(Nat.le_of_ble_eq_true rfl), (Nat.le_of_ble_eq_true rfl)⟩) (fun r_1 u H locs hw hP hD hK hS => ?_)
  have hw : r_1 = none := hw
  subst hw
  have hP : va_P D vwCl [(h0, .inr (7, [.ref tp, .ref mka, .int mc, .ref bx, .ref rt]))] H := hP
  have hD : va_D A [(h0, .inr (7, [.ref tp, .ref mka, .int mc, .ref bx, .ref rt]))] := hD
  have hK : va_K D vwCl [] s := hK
  refine lv_astore_nN (lv' := [(3, .null), (0, .ref h0), (1, .int i), (2, .int v)]) hx hb dX8_of_5 rfl hl (by decide) rfl (fun ls hl => ?_)
  refine lv_aload_nN hx hb dX8_of_6 rfl (lv_at hl 0 rfl) ?_
  refine lv_ifnonnullN hx hb dX8_of_7 ?_
  refine lv_iconst (v := (-1)) hx hb dX8_of_10 (by decide) ?_
  exact ret_i hx hb hr hlocks rfl (u := ()) trivial (hP.sub [0] rfl) (hK.sub [] rfl) (hD.sub [0] (by decide) rfl) hS (Nat.le_of_ble_eq_true rfl) (Nat.le_of_ble_eq_true rfl) dX8_of_11
set_option maxHeartbeats 4000000 in
set_option maxRecDepth 100000 in
theorem n_check (l : Launch) (D : va_G) (sz : Nat) (h0 : Nat) (tp : Nat) (mka : Nat) (bx : Nat) (rt : Nat) (mc : Int32) (i : Int32) (v : Int32) (hno : wi i 0 (mc - 1) = 0) : Ci l yX8_check wsX8_check ({ frames := 2, cells := 0, slots := 0, locals := 43 } : Room) D [.ref h0, .int i, .int v] [(h0, .inr (7, [.ref tp, .ref mka, .int mc, .ref bx, .ref rt]))] [] sz (fun (r : Int32) => fun (_ : Unit) => True) (fun (_ : Unit) => [(h0, .inr (7, [.ref tp, .ref mka, .int mc, .ref bx, .ref rt]))]) (fun (_ : Unit) => []) := by
  refine ct_i (cc := cX8_check) (maxL := 4) (ret := (some .int)) (by decide) rfl (Nat.le_of_ble_eq_true rfl) ?_
  intro p e s m below meth c A ls H hx hb hr hts hown hml hlocks hin hA hS hP hK hD hNW hl hAe hsz
  have hl : lv_has ls 4 [(0, .ref h0), (1, .int i), (2, .int v)] := hl
  refine lv_aload_n hx hb dX8_check_0 rfl (lv_at hl 0 rfl) ?_
  refine lv_iload_n hx hb dX8_check_1 rfl (lv_at hl 1 rfl) ?_
  refine go_q (wr := []) (tysr := []) hP hD hS hA hK [0] [] [] rfl rfl (by decide) (by decide) rfl (va_runV (As := [.int i]) (rest := []) ⟨hx, hb, hml, hown, hts⟩ (g_makeAt_no l D H.size h0 tp mka bx rt mc i hno) (cwV 1 hts gX8_check_X8_makeAt rfl rfl rfl (by decide +kernel) ⟨Nat.le_of_ble_eq_true rfl, Nat.le_of_ble_eq_true rfl⟩) (st_preV (ci := 7) (q0 := 0) hP hD hK hNW [0] [] rfl rfl (by decide) rfl rfl rfl rfl) rfl rfl hl.1 rfl (lv_room (Nat.le_of_ble_eq_true rfl)) dX8_check_2 ⟨(Nat.le_of_ble_eq_true rfl), (Nat.le_of_ble_eq_true rfl)⟩) (fun r_1 u H locs hw hP hD hK hS => ?_)
  have hw : r_1 = none := hw
  subst hw
  have hP : va_P D vwCl [(h0, .inr (7, [.ref tp, .ref mka, .int mc, .ref bx, .ref rt]))] H := hP
  have hD : va_D A [(h0, .inr (7, [.ref tp, .ref mka, .int mc, .ref bx, .ref rt]))] := hD
  have hK : va_K D vwCl [] s := hK
  refine lv_astore_nN (lv' := [(3, .null), (0, .ref h0), (1, .int i), (2, .int v)]) hx hb dX8_check_5 rfl hl (by decide) rfl (fun ls hl => ?_)
  refine lv_aload_nN hx hb dX8_check_6 rfl (lv_at hl 0 rfl) ?_
  refine lv_ifnonnullN hx hb dX8_check_7 ?_
  refine lv_iconst (v := (-1)) hx hb dX8_check_10 (by decide) ?_
  refine lv_goto (tgt := 22) hx hb dX8_check_11 (by decide) ?_
  exact ret_i hx hb hr hlocks rfl (u := ()) trivial (hP.sub [0] rfl) (hK.sub [] rfl) (hD.sub [0] (by decide) rfl) hS (Nat.le_of_ble_eq_true rfl) (Nat.le_of_ble_eq_true rfl) dX8_check_22
set_option maxHeartbeats 4000000 in
set_option maxRecDepth 100000 in
theorem n_many (l : Launch) (D : va_G) (sz : Nat) (h0 : Nat) (tp : Nat) (mka : Nat) (bx : Nat) (rt : Nat) (mc : Int32) (i : Int32) (hno : wi i 0 (mc - 1) = 0) : Ci l yX8_many wsX8_many ({ frames := 2, cells := 0, slots := 0, locals := 43 } : Room) D [.ref h0, .int i] [(h0, .inr (7, [.ref tp, .ref mka, .int mc, .ref bx, .ref rt]))] [] sz (fun (r : Int32) => fun (_ : Unit) => True) (fun (_ : Unit) => [(h0, .inr (7, [.ref tp, .ref mka, .int mc, .ref bx, .ref rt]))]) (fun (_ : Unit) => []) := by
  refine ct_i (cc := cX8_many) (maxL := 3) (ret := (some .int)) (by decide) rfl (Nat.le_of_ble_eq_true rfl) ?_
  intro p e s m below meth c A ls H hx hb hr hts hown hml hlocks hin hA hS hP hK hD hNW hl hAe hsz
  have hl : lv_has ls 3 [(0, .ref h0), (1, .int i)] := hl
  refine lv_aload_n hx hb dX8_many_0 rfl (lv_at hl 0 rfl) ?_
  refine lv_iload_n hx hb dX8_many_1 rfl (lv_at hl 1 rfl) ?_
  refine go_q (wr := []) (tysr := []) hP hD hS hA hK [0] [] [] rfl rfl (by decide) (by decide) rfl (va_runV (As := [.int i]) (rest := []) ⟨hx, hb, hml, hown, hts⟩ (g_makeAt_no l D H.size h0 tp mka bx rt mc i hno) (cwV 1 hts gX8_many_X8_makeAt rfl rfl rfl (by decide +kernel) ⟨Nat.le_of_ble_eq_true rfl, Nat.le_of_ble_eq_true rfl⟩) (st_preV (ci := 7) (q0 := 0) hP hD hK hNW [0] [] rfl rfl (by decide) rfl rfl rfl rfl) rfl rfl hl.1 rfl (lv_room (Nat.le_of_ble_eq_true rfl)) dX8_many_2 ⟨(Nat.le_of_ble_eq_true rfl), (Nat.le_of_ble_eq_true rfl)⟩) (fun r_1 u H locs hw hP hD hK hS => ?_)
  have hw : r_1 = none := hw
  subst hw
  have hP : va_P D vwCl [(h0, .inr (7, [.ref tp, .ref mka, .int mc, .ref bx, .ref rt]))] H := hP
  have hD : va_D A [(h0, .inr (7, [.ref tp, .ref mka, .int mc, .ref bx, .ref rt]))] := hD
  have hK : va_K D vwCl [] s := hK
  refine lv_astore_nN (lv' := [(2, .null), (0, .ref h0), (1, .int i)]) hx hb dX8_many_5 rfl hl (by decide) rfl (fun ls hl => ?_)
  refine lv_aload_nN hx hb dX8_many_6 rfl (lv_at hl 0 rfl) ?_
  refine lv_ifnullN (tgt := 20) hx hb dX8_many_7 (by decide) ?_
  refine lv_iconst (v := (-1)) hx hb dX8_many_20 (by decide) ?_
  refine lv_goto (tgt := 31) hx hb dX8_many_21 (by decide) ?_
  exact ret_i hx hb hr hlocks rfl (u := ()) trivial (hP.sub [0] rfl) (hK.sub [] rfl) (hD.sub [0] (by decide) rfl) hS (Nat.le_of_ble_eq_true rfl) (Nat.le_of_ble_eq_true rfl) dX8_many_31
set_option maxHeartbeats 4000000 in
set_option maxRecDepth 100000 in
theorem n_foreseen (l : Launch) (D : va_G) (sz : Nat) (h0 : Nat) (tp : Nat) (mka : Nat) (bx : Nat) (rt : Nat) (mc : Int32) (i : Int32) (v : Int32) (hno : wi i 0 (mc - 1) = 0) : Ci l yX8_foreseen wsX8_foreseen ({ frames := 2, cells := 0, slots := 0, locals := 43 } : Room) D [.ref h0, .int i, .int v] [(h0, .inr (7, [.ref tp, .ref mka, .int mc, .ref bx, .ref rt]))] [] sz (fun (r : Int32) => fun (_ : Unit) => True) (fun (_ : Unit) => [(h0, .inr (7, [.ref tp, .ref mka, .int mc, .ref bx, .ref rt]))]) (fun (_ : Unit) => []) := by
  refine ct_i (cc := cX8_foreseen) (maxL := 4) (ret := (some .int)) (by decide) rfl (Nat.le_of_ble_eq_true rfl) ?_
  intro p e s m below meth c A ls H hx hb hr hts hown hml hlocks hin hA hS hP hK hD hNW hl hAe hsz
  have hl : lv_has ls 4 [(0, .ref h0), (1, .int i), (2, .int v)] := hl
  refine lv_aload_n hx hb dX8_foreseen_0 rfl (lv_at hl 0 rfl) ?_
  refine lv_iload_n hx hb dX8_foreseen_1 rfl (lv_at hl 1 rfl) ?_
  refine go_q (wr := []) (tysr := []) hP hD hS hA hK [0] [] [] rfl rfl (by decide) (by decide) rfl (va_runV (As := [.int i]) (rest := []) ⟨hx, hb, hml, hown, hts⟩ (g_makeAt_no l D H.size h0 tp mka bx rt mc i hno) (cwV 1 hts gX8_foreseen_X8_makeAt rfl rfl rfl (by decide +kernel) ⟨Nat.le_of_ble_eq_true rfl, Nat.le_of_ble_eq_true rfl⟩) (st_preV (ci := 7) (q0 := 0) hP hD hK hNW [0] [] rfl rfl (by decide) rfl rfl rfl rfl) rfl rfl hl.1 rfl (lv_room (Nat.le_of_ble_eq_true rfl)) dX8_foreseen_2 ⟨(Nat.le_of_ble_eq_true rfl), (Nat.le_of_ble_eq_true rfl)⟩) (fun r_1 u H locs hw hP hD hK hS => ?_)
  have hw : r_1 = none := hw
  subst hw
  have hP : va_P D vwCl [(h0, .inr (7, [.ref tp, .ref mka, .int mc, .ref bx, .ref rt]))] H := hP
  have hD : va_D A [(h0, .inr (7, [.ref tp, .ref mka, .int mc, .ref bx, .ref rt]))] := hD
  have hK : va_K D vwCl [] s := hK
  refine lv_astore_nN (lv' := [(3, .null), (0, .ref h0), (1, .int i), (2, .int v)]) hx hb dX8_foreseen_5 rfl hl (by decide) rfl (fun ls hl => ?_)
  refine lv_aload_nN hx hb dX8_foreseen_6 rfl (lv_at hl 0 rfl) ?_
  refine lv_ifnullN (tgt := 20) hx hb dX8_foreseen_7 (by decide) ?_
  refine lv_iconst (v := (-1)) hx hb dX8_foreseen_20 (by decide) ?_
  refine lv_goto (tgt := 32) hx hb dX8_foreseen_21 (by decide) ?_
  exact ret_i hx hb hr hlocks rfl (u := ()) trivial (hP.sub [0] rfl) (hK.sub [] rfl) (hD.sub [0] (by decide) rfl) hS (Nat.le_of_ble_eq_true rfl) (Nat.le_of_ble_eq_true rfl) dX8_foreseen_32
theorem hiy_set_X4 : ∀ w ∈ wsX40, w ∈ wsX8_set := mem_pl [53, 54, 55, 56, 57] rfl
set_option maxHeartbeats 4000000 in
set_option maxRecDepth 100000 in
theorem y_set (l : Launch) (D : va_G) (sz : Nat) (cI : ClassId) (h0 : Nat) (tp : Nat) (mka : Nat) (bx : Nat) (rt : Nat) (mc : Int32) (cM : ClassId) (mf : Nat → Option Nat) (mk : Nat) (fm : Nat) (ky : Nat) (mq : Int32) (mb : Int32) (mi : Int32) (ca : Nat) (cc : Nat) (kb : Int32) (kf : Int32) (kg : Int32) (kl : Int32) (kx : Int32) (ko : Int32) (kc : Nat → Int32) (kd : Nat → Int32) (i : Int32) (v : Int32) (w : Int32) (hyes : ¬ wi i 0 (mc - 1) = 0) (him : mf (Int32.toNatClampNeg i) = some mk) (hmc : bi mc 0 8) : Ci l yX8_set wsX8_set ({ frames := 6, cells := 0, slots := 0, locals := 133 } : Room) D [.ref h0, .int i, .int v, .int w] [(h0, .inr (7, [.ref tp, .ref mka, .int mc, .ref bx, .ref rt])), (mka, .inl (cM, 8, .inr (.inr (.inr (.inr mf))))), (mk, .inr (3, [.int mq, .int mb, .ref fm, .ref ky, .int mi])), (ky, .inr (2, [.int kb, .ref ca, .ref cc, .int kf, .int kg, .int kl, .int kx, .int ko])), (ca, .inl (cI, 16, .inl kc)), (cc, .inl (cI, 4, .inl kd))] [(cI, .int), (cM, .object "OneHandset$Make")] sz (fun (r : Int32) => fun (u9 : Int32 × Int32 × Int32 × Int32 × Int32 × Int32 × (Nat → Int32) × (Nat → Int32)) => match u9 with | (mi2, kf2, kg2, kl2, kx2, ko2, kc2, kd2) => r = seA mc mb i v w) (fun (u9 : Int32 × Int32 × Int32 × Int32 × Int32 × Int32 × (Nat → Int32) × (Nat → Int32)) => match u9 with | (mi2, kf2, kg2, kl2, kx2, ko2, kc2, kd2) => [(h0, .inr (7, [.ref tp, .ref mka, .int mc, .ref bx, .ref rt])), (mka, .inl (cM, 8, .inr (.inr (.inr (.inr mf))))), (mk, .inr (3, [.int mq, .int mb, .ref fm, .ref ky, .int mi2])), (ky, .inr (2, [.int kb, .ref ca, .ref cc, .int kf2, .int kg2, .int kl2, .int kx2, .int ko2])), (ca, .inl (cI, 16, .inl kc2)), (cc, .inl (cI, 4, .inl kd2))]) (fun (u9 : Int32 × Int32 × Int32 × Int32 × Int32 × Int32 × (Nat → Int32) × (Nat → Int32)) => match u9 with | (mi2, kf2, kg2, kl2, kx2, ko2, kc2, kd2) => []) := by
  refine ct_i (cc := cX8_set) (maxL := 5) (ret := (some .boolean)) (by decide) rfl (Nat.le_of_ble_eq_true rfl) ?_
  intro p e s m below meth c A ls H hx hb hr hts hown hml hlocks hin hA hS hP hK hD hNW hl hAe hsz
  have hl : lv_has ls 5 [(0, .ref h0), (1, .int i), (2, .int v), (3, .int w)] := hl
  refine lv_aload_n hx hb dX8_set_0 rfl (lv_at hl 0 rfl) ?_
  refine lv_iload_n hx hb dX8_set_1 rfl (lv_at hl 1 rfl) ?_
  refine go_q (wr := [(mk, .inr (3, [.int mq, .int mb, .ref fm, .ref ky, .int mi])), (ky, .inr (2, [.int kb, .ref ca, .ref cc, .int kf, .int kg, .int kl, .int kx, .int ko])), (ca, .inl (cI, 16, .inl kc)), (cc, .inl (cI, 4, .inl kd))]) (tysr := [(cI, .int), (cM, .object "OneHandset$Make")]) hP hD hS hA hK [0, 1] [2, 3, 4, 5] [0, 1] rfl rfl (by decide) (by decide) rfl (va_runV (As := [.int i]) (rest := []) ⟨hx, hb, hml, hown, hts⟩ (g_makeAt_yes l D H.size h0 tp mka bx rt mc cM mf mk i hyes him hmc) (cwV 1 hts gX8_set_X8_makeAt rfl rfl rfl (by decide +kernel) ⟨Nat.le_of_ble_eq_true rfl, Nat.le_of_ble_eq_true rfl⟩) (st_preV (ci := 7) (q0 := 0) hP hD hK hNW [0, 1] [1] rfl rfl (by decide) rfl rfl rfl rfl) rfl rfl hl.1 rfl (lv_room (Nat.le_of_ble_eq_true rfl)) dX8_set_2 ⟨(Nat.le_of_ble_eq_true rfl), (Nat.le_of_ble_eq_true rfl)⟩) (fun r_1 u H locs hw hP hD hK hS => ?_)
  have hw : r_1 = some mk := hw
  subst hw
  have hP : va_P D vwCl [(mk, .inr (3, [.int mq, .int mb, .ref fm, .ref ky, .int mi])), (ky, .inr (2, [.int kb, .ref ca, .ref cc, .int kf, .int kg, .int kl, .int kx, .int ko])), (ca, .inl (cI, 16, .inl kc)), (cc, .inl (cI, 4, .inl kd)), (h0, .inr (7, [.ref tp, .ref mka, .int mc, .ref bx, .ref rt])), (mka, .inl (cM, 8, .inr (.inr (.inr (.inr mf)))))] H := hP
  have hD : va_D A [(mk, .inr (3, [.int mq, .int mb, .ref fm, .ref ky, .int mi])), (ky, .inr (2, [.int kb, .ref ca, .ref cc, .int kf, .int kg, .int kl, .int kx, .int ko])), (ca, .inl (cI, 16, .inl kc)), (cc, .inl (cI, 4, .inl kd)), (h0, .inr (7, [.ref tp, .ref mka, .int mc, .ref bx, .ref rt])), (mka, .inl (cM, 8, .inr (.inr (.inr (.inr mf)))))] := hD
  have hK : va_K D vwCl [(cI, .int), (cM, .object "OneHandset$Make")] s := hK
  refine W.eq (g2 := F0 m 5 ls [.ref mk]) rfl ?_
  refine lv_astore (lv' := [(4, .ref mk), (0, .ref h0), (1, .int i), (2, .int v), (3, .int w)]) hx hb dX8_set_5 hl (by decide) rfl (fun ls hl => ?_)
  refine lv_aload hx hb dX8_set_7 (lv_at hl 0 rfl) ?_
  refine lv_ifnonnull (tgt := 14) hx hb dX8_set_9 (by decide) ?_
  refine lv_iload_n hx hb dX8_set_14 rfl (lv_at hl 3 rfl) ?_
  refine lv_if_ne (tgt := 36) hx hb dX8_set_15 (by decide) (fun c_2 => ?_) (fun c_2 => ?_)
  · refine lv_iload_n hx hb dX8_set_36 rfl (lv_at hl 3 rfl) ?_
    refine lv_iconst (v := 1) hx hb dX8_set_37 (by decide) ?_
    refine lv_icmp_ne (tgt := 67) hx hb dX8_set_38 (by decide) (fun c_3 => ?_) (fun c_3 => ?_)
    · refine lv_iconst (v := 0) hx hb dX8_set_67 (by decide) ?_
      exact ret_i hx hb hr hlocks rfl (u := (mi, kf, kg, kl, kx, ko, kc, kd)) (by unfold seA; rw [if_neg hyes, if_neg c_2, if_neg c_3]) (hP.sub [4, 5, 0, 1, 2, 3] rfl) (hK.sub [] rfl) (hD.sub [4, 5, 0, 1, 2, 3] (by decide) rfl) hS (Nat.le_of_ble_eq_true rfl) (Nat.le_of_ble_eq_true rfl) dX8_set_68
    refine lv_iload_n hx hb dX8_set_41 rfl (lv_at hl 4 rfl) ?_
    refine lv_iconst (v := (-1)) hx hb dX8_set_42 (by decide) ?_
    refine lv_aload hx hb dX8_set_43 (lv_at hl 0 rfl) ?_
    refine va_getN (D := D) (ci := 3) (v := .int mb) (C := RX4) (T := TX4) (N := 5) hx hb hts hiy_set_X4 hown hK hP 0 rfl rfl 1 (by decide) (va_Nw.use rfl (hNW.1 ("OneHandset", 68, "OneHandset$Make", "bits", "I", "OneHandset") (List.mem_of_getElem? (l := nw_F) (i := 15) rfl))) (fun _ h9 => h9) rfl dX8_set_45 ?_
    refine lv_iconst (v := 1) hx hb dX8_set_48 (by decide) ?_
    refine lv_isub hx hb dX8_set_49 ?_
    refine go_i (wr := [(mk, .inr (3, [.int mq, .int mb, .ref fm, .ref ky, .int mi])), (ky, .inr (2, [.int kb, .ref ca, .ref cc, .int kf, .int kg, .int kl, .int kx, .int ko])), (ca, .inl (cI, 16, .inl kc)), (cc, .inl (cI, 4, .inl kd)), (h0, .inr (7, [.ref tp, .ref mka, .int mc, .ref bx, .ref rt])), (mka, .inl (cM, 8, .inr (.inr (.inr (.inr mf)))))]) (tysr := [(cI, .int), (cM, .object "OneHandset$Make")]) hP hD hS hA hK [] [0, 1, 2, 3, 4, 5] [0, 1] rfl rfl (by decide) (by decide) rfl (va_runS (As := [.int w, .int (-1), .int (mb - 1)]) (rest := []) ⟨hx, hb, hml, hown, hts⟩ (c_X8_within l D H.size w (-1) (mb - 1) ) (va_cwS 3 hts gX8_set_X8_within rfl rfl rfl (by decide +kernel) ⟨Nat.le_of_ble_eq_true rfl, Nat.le_of_ble_eq_true rfl⟩) (st_preS hP hD hK hNW [] [] rfl rfl (by decide) rfl) rfl rfl hl.1 rfl (lv_room (Nat.le_of_ble_eq_true rfl)) dX8_set_50 ⟨(Nat.le_of_ble_eq_true rfl), (Nat.le_of_ble_eq_true rfl)⟩) (fun r_4 u H locs hw hP hD hK hS => ?_)
    have hw : r_4 = wi w (-1) (mb - 1) := hw
    subst hw
    have hP : va_P D vwCl [(mk, .inr (3, [.int mq, .int mb, .ref fm, .ref ky, .int mi])), (ky, .inr (2, [.int kb, .ref ca, .ref cc, .int kf, .int kg, .int kl, .int kx, .int ko])), (ca, .inl (cI, 16, .inl kc)), (cc, .inl (cI, 4, .inl kd)), (h0, .inr (7, [.ref tp, .ref mka, .int mc, .ref bx, .ref rt])), (mka, .inl (cM, 8, .inr (.inr (.inr (.inr mf)))))] H := hP
    have hD : va_D A [(mk, .inr (3, [.int mq, .int mb, .ref fm, .ref ky, .int mi])), (ky, .inr (2, [.int kb, .ref ca, .ref cc, .int kf, .int kg, .int kl, .int kx, .int ko])), (ca, .inl (cI, 16, .inl kc)), (cc, .inl (cI, 4, .inl kd)), (h0, .inr (7, [.ref tp, .ref mka, .int mc, .ref bx, .ref rt])), (mka, .inl (cM, 8, .inr (.inr (.inr (.inr mf)))))] := hD
    have hK : va_K D vwCl [(cI, .int), (cM, .object "OneHandset$Make")] s := hK
    refine lv_if_eq (tgt := 67) hx hb dX8_set_53 (by decide) (fun c_5 => ?_) (fun c_5 => ?_)
    · refine lv_iconst (v := 0) hx hb dX8_set_67 (by decide) ?_
      exact ret_i hx hb hr hlocks rfl (u := (mi, kf, kg, kl, kx, ko, kc, kd)) (by unfold seA; rw [if_neg hyes, if_neg c_2, if_pos c_3]; exact (c_5).symm) (hP.sub [4, 5, 0, 1, 2, 3] rfl) (hK.sub [] rfl) (hD.sub [4, 5, 0, 1, 2, 3] (by decide) rfl) hS (Nat.le_of_ble_eq_true rfl) (Nat.le_of_ble_eq_true rfl) dX8_set_68
    refine lv_aload hx hb dX8_set_56 (lv_at hl 0 rfl) ?_
    refine va_getN (D := D) (ci := 3) (v := .ref ky) (C := RX4) (T := TX4) (N := 5) hx hb hts hiy_set_X4 hown hK hP 0 rfl rfl 3 (by decide) (va_Nw.use rfl (hNW.1 ("OneHandset", 71, "OneHandset$Make", "keys", "LOneHandset$Keys;", "OneHandset") (List.mem_of_getElem? (l := nw_F) (i := 16) rfl))) (fun _ h9 => h9) rfl dX8_set_58 ?_
    refine lv_iload_n hx hb dX8_set_61 rfl (lv_at hl 4 rfl) ?_
    refine go_v (wr := [(mk, .inr (3, [.int mq, .int mb, .ref fm, .ref ky, .int mi])), (h0, .inr (7, [.ref tp, .ref mka, .int mc, .ref bx, .ref rt])), (mka, .inl (cM, 8, .inr (.inr (.inr (.inr mf)))))]) (tysr := [(cI, .int), (cM, .object "OneHandset$Make")]) hP hD hS hA hK [1, 2, 3] [0, 4, 5] [0, 1] rfl rfl (by decide) (by decide) rfl (va_runVN (C := RX3) (As := [.int w]) (rest := []) ⟨hx, hb, hml, hown, hts⟩ (g_startWithFlip l D H.size cI ky ca cc kb kf kg kl kx ko kc kd w ) ⟨(va_cnB (own := RX8) (host := RX8) (index := 75) 1 hts gX8_set_X3_startWithFlip_n75 rfl rfl rfl (hNW.2.1 (RX8, 75, yX3_startWithFlip, RX8) (List.mem_of_getElem? (l := nw_M) (i := 6) rfl)) (hts (.initialized RX3) (List.mem_of_getElem? (i := 12) rfl)) (by decide +kernel) ⟨Nat.le_of_ble_eq_true rfl, Nat.le_of_ble_eq_true rfl⟩), (hts (.instanceMethod yX3_startWithFlip) (List.mem_of_getElem? (i := 11) rfl)), (hts (.selects RX3 yX3_startWithFlip yX3_startWithFlip) (List.mem_of_getElem? (i := 13) rfl))⟩ (st_preV (ci := 2) (q0 := 1) hP hD hK hNW [1, 2, 3] [0] rfl rfl (by decide) rfl rfl rfl rfl) rfl rfl hl.1 rfl (lv_room (Nat.le_of_ble_eq_true rfl)) dX8_set_62 ⟨(Nat.le_of_ble_eq_true rfl), (Nat.le_of_ble_eq_true rfl)⟩) (fun u H locs hw hP hD hK hS => ?_)
    obtain ⟨kf_7, kg_8, kl_9, kx_10, ko_11, kc_12, kd_13⟩ := u
    have hP : va_P D vwCl [(mk, .inr (3, [.int mq, .int mb, .ref fm, .ref ky, .int mi])), (h0, .inr (7, [.ref tp, .ref mka, .int mc, .ref bx, .ref rt])), (mka, .inl (cM, 8, .inr (.inr (.inr (.inr mf))))), (ky, .inr (2, [.int kb, .ref ca, .ref cc, .int kf_7, .int kg_8, .int kl_9, .int kx_10, .int ko_11])), (ca, .inl (cI, 16, .inl kc_12)), (cc, .inl (cI, 4, .inl kd_13))] H := hP
    have hD : va_D A [(mk, .inr (3, [.int mq, .int mb, .ref fm, .ref ky, .int mi])), (h0, .inr (7, [.ref tp, .ref mka, .int mc, .ref bx, .ref rt])), (mka, .inl (cM, 8, .inr (.inr (.inr (.inr mf))))), (ky, .inr (2, [.int kb, .ref ca, .ref cc, .int kf_7, .int kg_8, .int kl_9, .int kx_10, .int ko_11])), (ca, .inl (cI, 16, .inl kc_12)), (cc, .inl (cI, 4, .inl kd_13))] := hD
    have hK : va_K D vwCl [(cI, .int), (cM, .object "OneHandset$Make")] s := hK
    refine lv_iconst (v := 1) hx hb dX8_set_65 (by decide) ?_
    exact ret_i hx hb hr hlocks rfl (u := (mi, kf_7, kg_8, kl_9, kx_10, ko_11, kc_12, kd_13)) (by unfold seA; rw [if_neg hyes, if_neg c_2, if_pos c_3]; exact (wi_1 c_5).symm) (hP.sub [1, 2, 0, 3, 4, 5] rfl) (hK.sub [] rfl) (hD.sub [1, 2, 0, 3, 4, 5] (by decide) rfl) hS (Nat.le_of_ble_eq_true rfl) (Nat.le_of_ble_eq_true rfl) dX8_set_66
  refine lv_iload_n hx hb dX8_set_18 rfl (lv_at hl 4 rfl) ?_
  refine lv_iconst (v := 0) hx hb dX8_set_19 (by decide) ?_
  refine lv_bipush (v := 40) hx hb dX8_set_20 (by decide) ?_
  refine go_i (wr := [(mk, .inr (3, [.int mq, .int mb, .ref fm, .ref ky, .int mi])), (ky, .inr (2, [.int kb, .ref ca, .ref cc, .int kf, .int kg, .int kl, .int kx, .int ko])), (ca, .inl (cI, 16, .inl kc)), (cc, .inl (cI, 4, .inl kd)), (h0, .inr (7, [.ref tp, .ref mka, .int mc, .ref bx, .ref rt])), (mka, .inl (cM, 8, .inr (.inr (.inr (.inr mf)))))]) (tysr := [(cI, .int), (cM, .object "OneHandset$Make")]) hP hD hS hA hK [] [0, 1, 2, 3, 4, 5] [0, 1] rfl rfl (by decide) (by decide) rfl (va_runS (As := [.int w, .int 0, .int 40]) (rest := []) ⟨hx, hb, hml, hown, hts⟩ (c_X8_within l D H.size w 0 40 ) (va_cwS 3 hts gX8_set_X8_within rfl rfl rfl (by decide +kernel) ⟨Nat.le_of_ble_eq_true rfl, Nat.le_of_ble_eq_true rfl⟩) (st_preS hP hD hK hNW [] [] rfl rfl (by decide) rfl) rfl rfl hl.1 rfl (lv_room (Nat.le_of_ble_eq_true rfl)) dX8_set_22 ⟨(Nat.le_of_ble_eq_true rfl), (Nat.le_of_ble_eq_true rfl)⟩) (fun r_14 u H locs hw hP hD hK hS => ?_)
  have hw : r_14 = wi w 0 40 := hw
  subst hw
  have hP : va_P D vwCl [(mk, .inr (3, [.int mq, .int mb, .ref fm, .ref ky, .int mi])), (ky, .inr (2, [.int kb, .ref ca, .ref cc, .int kf, .int kg, .int kl, .int kx, .int ko])), (ca, .inl (cI, 16, .inl kc)), (cc, .inl (cI, 4, .inl kd)), (h0, .inr (7, [.ref tp, .ref mka, .int mc, .ref bx, .ref rt])), (mka, .inl (cM, 8, .inr (.inr (.inr (.inr mf)))))] H := hP
  have hD : va_D A [(mk, .inr (3, [.int mq, .int mb, .ref fm, .ref ky, .int mi])), (ky, .inr (2, [.int kb, .ref ca, .ref cc, .int kf, .int kg, .int kl, .int kx, .int ko])), (ca, .inl (cI, 16, .inl kc)), (cc, .inl (cI, 4, .inl kd)), (h0, .inr (7, [.ref tp, .ref mka, .int mc, .ref bx, .ref rt])), (mka, .inl (cM, 8, .inr (.inr (.inr (.inr mf)))))] := hD
  have hK : va_K D vwCl [(cI, .int), (cM, .object "OneHandset$Make")] s := hK
  refine lv_if_eq (tgt := 36) hx hb dX8_set_25 (by decide) (fun c_15 => ?_) (fun c_15 => ?_)
  · refine lv_iload_n hx hb dX8_set_36 rfl (lv_at hl 3 rfl) ?_
    refine lv_iconst (v := 1) hx hb dX8_set_37 (by decide) ?_
    refine lv_icmp_ne (tgt := 67) hx hb dX8_set_38 (by decide) (fun _ => ?_) (fun c_16 => absurd c_16 (fun q9 => absurd (c_2.symm.trans q9) (by decide)))
    refine lv_iconst (v := 0) hx hb dX8_set_67 (by decide) ?_
    exact ret_i hx hb hr hlocks rfl (u := (mi, kf, kg, kl, kx, ko, kc, kd)) (by unfold seA; rw [if_neg hyes, if_pos c_2]; exact (c_15).symm) (hP.sub [4, 5, 0, 1, 2, 3] rfl) (hK.sub [] rfl) (hD.sub [4, 5, 0, 1, 2, 3] (by decide) rfl) hS (Nat.le_of_ble_eq_true rfl) (Nat.le_of_ble_eq_true rfl) dX8_set_68
  refine lv_aload hx hb dX8_set_28 (lv_at hl 0 rfl) ?_
  refine lv_iload_n hx hb dX8_set_30 rfl (lv_at hl 4 rfl) ?_
  refine va_putN (D := D) (ci := 3) (v := .int w) (ty := .int) (C := RX4) (T := TX4) (N := 5) hx hb hts hiy_set_X4 tyX4 tyX4_ok nmX4 hown hK hP hD hS 0 rfl rfl 4 (by decide) (va_Nw.use rfl (hNW.1 ("OneHandset", 65, "OneHandset$Make", "miss", "I", "OneHandset") (List.mem_of_getElem? (l := nw_F) (i := 17) rfl))) (fun _ h9 => h9) rfl (by decide +kernel) rfl rfl (Nat.le_of_ble_eq_true rfl) dX8_set_31 (fun H locs hP hD hS => ?_)
  have hP : va_P D vwCl [(mk, .inr (3, [.int mq, .int mb, .ref fm, .ref ky, .int w])), (ky, .inr (2, [.int kb, .ref ca, .ref cc, .int kf, .int kg, .int kl, .int kx, .int ko])), (ca, .inl (cI, 16, .inl kc)), (cc, .inl (cI, 4, .inl kd)), (h0, .inr (7, [.ref tp, .ref mka, .int mc, .ref bx, .ref rt])), (mka, .inl (cM, 8, .inr (.inr (.inr (.inr mf)))))] H := hP
  have hD : va_D A [(mk, .inr (3, [.int mq, .int mb, .ref fm, .ref ky, .int w])), (ky, .inr (2, [.int kb, .ref ca, .ref cc, .int kf, .int kg, .int kl, .int kx, .int ko])), (ca, .inl (cI, 16, .inl kc)), (cc, .inl (cI, 4, .inl kd)), (h0, .inr (7, [.ref tp, .ref mka, .int mc, .ref bx, .ref rt])), (mka, .inl (cM, 8, .inr (.inr (.inr (.inr mf)))))] := hD
  refine lv_iconst (v := 1) hx hb dX8_set_34 (by decide) ?_
  exact ret_i hx hb hr hlocks rfl (u := (w, kf, kg, kl, kx, ko, kc, kd)) (by unfold seA; rw [if_neg hyes, if_pos c_2]; exact (wi_1 c_15).symm) (hP.sub [4, 5, 0, 1, 2, 3] rfl) (hK.sub [] rfl) (hD.sub [4, 5, 0, 1, 2, 3] (by decide) rfl) hS (Nat.le_of_ble_eq_true rfl) (Nat.le_of_ble_eq_true rfl) dX8_set_35
theorem hiy_sendP_X4 : ∀ w ∈ wsX40, w ∈ wsX8_send := mem_pl [65, 66, 67, 68, 69] rfl
theorem hiy_sendP_X8 : ∀ w ∈ wsX80, w ∈ wsX8_send := mem_pl [70, 71, 72, 73, 74] rfl
set_option maxHeartbeats 4000000 in
set_option maxRecDepth 100000 in
theorem y_sendP (l : Launch) (D : va_G) (sz : Nat) (cI : ClassId) (h0 : Nat) (tp : Nat) (mka : Nat) (bx : Nat) (rt : Nat) (mc : Int32) (cM : ClassId) (mf : Nat → Option Nat) (mk : Nat) (fm : Nat) (ky : Nat) (mq : Int32) (mb : Int32) (mi : Int32) (fw : Int32) (fb : Int32) (fa : Int32) (fc : Int32) (fp : Int32) (fz : Int32) (fo : Int32) (fl9 : Int32) (ta : Nat) (tk : Int32) (tf : Nat → Int32) (i : Int32) (v : Int32) (hyes : ¬ wi i 0 (mc - 1) = 0) (him : mf (Int32.toNatClampNeg i) = some mk) (hmc : bi mc 0 8) (hk : bi tk 0 120) (hfl : bi fl9 0 51) : Ci l yX8_send wsX8_send ({ frames := 3, cells := 0, slots := 0, locals := 67 } : Room) D [.ref h0, .int i, .int v] [(h0, .inr (7, [.ref tp, .ref mka, .int mc, .ref bx, .ref rt])), (mka, .inl (cM, 8, .inr (.inr (.inr (.inr mf))))), (mk, .inr (3, [.int mq, .int mb, .ref fm, .ref ky, .int mi])), (fm, .inr (4, [.int fw, .int fb, .int fa, .int fc, .int fp, .int fz, .int fo, .int fl9])), (tp, .inr (6, [.ref ta, .int tk])), (ta, .inl (cI, 120, .inl tf))] [(cI, .int), (cM, .object "OneHandset$Make")] sz (fun (r : Int32) => fun (u9 : Int32 × (Nat → Int32)) => match u9 with | (tk2, tf2) => bi tk2 0 120 ∧ ((wi v 0 (lb mb) = 0 ∧ r = -1) ∨ (¬ wi v 0 (lb mb) = 0 ∧ r = fl9))) (fun (u9 : Int32 × (Nat → Int32)) => match u9 with | (tk2, tf2) => [(h0, .inr (7, [.ref tp, .ref mka, .int mc, .ref bx, .ref rt])), (mka, .inl (cM, 8, .inr (.inr (.inr (.inr mf))))), (mk, .inr (3, [.int mq, .int mb, .ref fm, .ref ky, .int mi])), (fm, .inr (4, [.int fw, .int fb, .int fa, .int fc, .int fp, .int fz, .int fo, .int fl9])), (tp, .inr (6, [.ref ta, .int tk2])), (ta, .inl (cI, 120, .inl tf2))]) (fun (u9 : Int32 × (Nat → Int32)) => match u9 with | (tk2, tf2) => []) := by
  refine ct_i (cc := cX8_send) (maxL := 4) (ret := (some .int)) (by decide) rfl (Nat.le_of_ble_eq_true rfl) ?_
  intro p e s m below meth c A ls H hx hb hr hts hown hml hlocks hin hA hS hP hK hD hNW hl hAe hsz
  have hl : lv_has ls 4 [(0, .ref h0), (1, .int i), (2, .int v)] := hl
  refine lv_aload_n hx hb dX8_send_0 rfl (lv_at hl 0 rfl) ?_
  refine lv_iload_n hx hb dX8_send_1 rfl (lv_at hl 1 rfl) ?_
  refine go_q (wr := [(mk, .inr (3, [.int mq, .int mb, .ref fm, .ref ky, .int mi])), (fm, .inr (4, [.int fw, .int fb, .int fa, .int fc, .int fp, .int fz, .int fo, .int fl9])), (tp, .inr (6, [.ref ta, .int tk])), (ta, .inl (cI, 120, .inl tf))]) (tysr := [(cI, .int), (cM, .object "OneHandset$Make")]) hP hD hS hA hK [0, 1] [2, 3, 4, 5] [0, 1] rfl rfl (by decide) (by decide) rfl (va_runV (As := [.int i]) (rest := []) ⟨hx, hb, hml, hown, hts⟩ (g_makeAt_yes l D H.size h0 tp mka bx rt mc cM mf mk i hyes him hmc) (cwV 1 hts gX8_send_X8_makeAt rfl rfl rfl (by decide +kernel) ⟨Nat.le_of_ble_eq_true rfl, Nat.le_of_ble_eq_true rfl⟩) (st_preV (ci := 7) (q0 := 0) hP hD hK hNW [0, 1] [1] rfl rfl (by decide) rfl rfl rfl rfl) rfl rfl hl.1 rfl (lv_room (Nat.le_of_ble_eq_true rfl)) dX8_send_2 ⟨(Nat.le_of_ble_eq_true rfl), (Nat.le_of_ble_eq_true rfl)⟩) (fun r_1 u H locs hw hP hD hK hS => ?_)
  have hw : r_1 = some mk := hw
  subst hw
  have hP : va_P D vwCl [(mk, .inr (3, [.int mq, .int mb, .ref fm, .ref ky, .int mi])), (fm, .inr (4, [.int fw, .int fb, .int fa, .int fc, .int fp, .int fz, .int fo, .int fl9])), (tp, .inr (6, [.ref ta, .int tk])), (ta, .inl (cI, 120, .inl tf)), (h0, .inr (7, [.ref tp, .ref mka, .int mc, .ref bx, .ref rt])), (mka, .inl (cM, 8, .inr (.inr (.inr (.inr mf)))))] H := hP
  have hD : va_D A [(mk, .inr (3, [.int mq, .int mb, .ref fm, .ref ky, .int mi])), (fm, .inr (4, [.int fw, .int fb, .int fa, .int fc, .int fp, .int fz, .int fo, .int fl9])), (tp, .inr (6, [.ref ta, .int tk])), (ta, .inl (cI, 120, .inl tf)), (h0, .inr (7, [.ref tp, .ref mka, .int mc, .ref bx, .ref rt])), (mka, .inl (cM, 8, .inr (.inr (.inr (.inr mf)))))] := hD
  have hK : va_K D vwCl [(cI, .int), (cM, .object "OneHandset$Make")] s := hK
  refine W.eq (g2 := F0 m 5 ls [.ref mk]) rfl ?_
  refine lv_astore_n (lv' := [(3, .ref mk), (0, .ref h0), (1, .int i), (2, .int v)]) hx hb dX8_send_5 rfl hl (by decide) rfl (fun ls hl => ?_)
  refine lv_aload_n hx hb dX8_send_6 rfl (lv_at hl 0 rfl) ?_
  refine lv_ifnull hx hb dX8_send_7 ?_
  refine lv_iload_n hx hb dX8_send_10 rfl (lv_at hl 3 rfl) ?_
  refine lv_iconst (v := 0) hx hb dX8_send_11 (by decide) ?_
  refine lv_aload_n hx hb dX8_send_12 rfl (lv_at hl 0 rfl) ?_
  refine va_getN (D := D) (ci := 3) (v := .int mb) (C := RX4) (T := TX4) (N := 5) hx hb hts hiy_sendP_X4 hown hK hP 0 rfl rfl 1 (by decide) (va_Nw.use rfl (hNW.1 ("OneHandset", 68, "OneHandset$Make", "bits", "I", "OneHandset") (List.mem_of_getElem? (l := nw_F) (i := 15) rfl))) (fun _ h9 => h9) rfl dX8_send_13 ?_
  refine go_i (wr := [(mk, .inr (3, [.int mq, .int mb, .ref fm, .ref ky, .int mi])), (fm, .inr (4, [.int fw, .int fb, .int fa, .int fc, .int fp, .int fz, .int fo, .int fl9])), (tp, .inr (6, [.ref ta, .int tk])), (ta, .inl (cI, 120, .inl tf)), (h0, .inr (7, [.ref tp, .ref mka, .int mc, .ref bx, .ref rt])), (mka, .inl (cM, 8, .inr (.inr (.inr (.inr mf)))))]) (tysr := [(cI, .int), (cM, .object "OneHandset$Make")]) hP hD hS hA hK [] [0, 1, 2, 3, 4, 5] [0, 1] rfl rfl (by decide) (by decide) rfl (va_runS (As := [.int mb]) (rest := [.int 0, .int v]) ⟨hx, hb, hml, hown, hts⟩ (c_X8_lowBits l D H.size mb ) (va_cwS 1 hts gX8_send_X8_lowBits rfl rfl rfl (by decide +kernel) ⟨Nat.le_of_ble_eq_true rfl, Nat.le_of_ble_eq_true rfl⟩) (st_preS hP hD hK hNW [] [] rfl rfl (by decide) rfl) rfl rfl hl.1 rfl (lv_room (Nat.le_of_ble_eq_true rfl)) dX8_send_16 ⟨(Nat.le_of_ble_eq_true rfl), (Nat.le_of_ble_eq_true rfl)⟩) (fun r_2 u H locs hw hP hD hK hS => ?_)
  have hw : r_2 = lb mb := hw
  subst hw
  have hP : va_P D vwCl [(mk, .inr (3, [.int mq, .int mb, .ref fm, .ref ky, .int mi])), (fm, .inr (4, [.int fw, .int fb, .int fa, .int fc, .int fp, .int fz, .int fo, .int fl9])), (tp, .inr (6, [.ref ta, .int tk])), (ta, .inl (cI, 120, .inl tf)), (h0, .inr (7, [.ref tp, .ref mka, .int mc, .ref bx, .ref rt])), (mka, .inl (cM, 8, .inr (.inr (.inr (.inr mf)))))] H := hP
  have hD : va_D A [(mk, .inr (3, [.int mq, .int mb, .ref fm, .ref ky, .int mi])), (fm, .inr (4, [.int fw, .int fb, .int fa, .int fc, .int fp, .int fz, .int fo, .int fl9])), (tp, .inr (6, [.ref ta, .int tk])), (ta, .inl (cI, 120, .inl tf)), (h0, .inr (7, [.ref tp, .ref mka, .int mc, .ref bx, .ref rt])), (mka, .inl (cM, 8, .inr (.inr (.inr (.inr mf)))))] := hD
  have hK : va_K D vwCl [(cI, .int), (cM, .object "OneHandset$Make")] s := hK
  refine go_i (wr := [(mk, .inr (3, [.int mq, .int mb, .ref fm, .ref ky, .int mi])), (fm, .inr (4, [.int fw, .int fb, .int fa, .int fc, .int fp, .int fz, .int fo, .int fl9])), (tp, .inr (6, [.ref ta, .int tk])), (ta, .inl (cI, 120, .inl tf)), (h0, .inr (7, [.ref tp, .ref mka, .int mc, .ref bx, .ref rt])), (mka, .inl (cM, 8, .inr (.inr (.inr (.inr mf)))))]) (tysr := [(cI, .int), (cM, .object "OneHandset$Make")]) hP hD hS hA hK [] [0, 1, 2, 3, 4, 5] [0, 1] rfl rfl (by decide) (by decide) rfl (va_runS (As := [.int v, .int 0, .int (lb mb)]) (rest := []) ⟨hx, hb, hml, hown, hts⟩ (c_X8_within l D H.size v 0 (lb mb) ) (va_cwS 3 hts gX8_send_X8_within rfl rfl rfl (by decide +kernel) ⟨Nat.le_of_ble_eq_true rfl, Nat.le_of_ble_eq_true rfl⟩) (st_preS hP hD hK hNW [] [] rfl rfl (by decide) rfl) rfl rfl hl.1 rfl (lv_room (Nat.le_of_ble_eq_true rfl)) dX8_send_19 ⟨(Nat.le_of_ble_eq_true rfl), (Nat.le_of_ble_eq_true rfl)⟩) (fun r_3 u H locs hw hP hD hK hS => ?_)
  have hw : r_3 = wi v 0 (lb mb) := hw
  subst hw
  have hP : va_P D vwCl [(mk, .inr (3, [.int mq, .int mb, .ref fm, .ref ky, .int mi])), (fm, .inr (4, [.int fw, .int fb, .int fa, .int fc, .int fp, .int fz, .int fo, .int fl9])), (tp, .inr (6, [.ref ta, .int tk])), (ta, .inl (cI, 120, .inl tf)), (h0, .inr (7, [.ref tp, .ref mka, .int mc, .ref bx, .ref rt])), (mka, .inl (cM, 8, .inr (.inr (.inr (.inr mf)))))] H := hP
  have hD : va_D A [(mk, .inr (3, [.int mq, .int mb, .ref fm, .ref ky, .int mi])), (fm, .inr (4, [.int fw, .int fb, .int fa, .int fc, .int fp, .int fz, .int fo, .int fl9])), (tp, .inr (6, [.ref ta, .int tk])), (ta, .inl (cI, 120, .inl tf)), (h0, .inr (7, [.ref tp, .ref mka, .int mc, .ref bx, .ref rt])), (mka, .inl (cM, 8, .inr (.inr (.inr (.inr mf)))))] := hD
  have hK : va_K D vwCl [(cI, .int), (cM, .object "OneHandset$Make")] s := hK
  refine lv_if_ne (tgt := 27) hx hb dX8_send_22 (by decide) (fun c_4 => ?_) (fun c_4 => ?_)
  · refine lv_aload_n hx hb dX8_send_27 rfl (lv_at hl 0 rfl) ?_
    refine lv_iload_n hx hb dX8_send_28 rfl (lv_at hl 3 rfl) ?_
    refine lv_aload_n hx hb dX8_send_29 rfl (lv_at hl 1 rfl) ?_
    refine va_get (D := D) (ci := 7) (v := .ref tp) (C := RX8) (T := TX8) (N := 5) hx hb hts hiy_sendP_X8 hown hK hP 4 rfl rfl 0 (by decide) (hts (.fieldLink RX8 12 "OneHandset" "tape" "LOneHandset$Tape;") (List.mem_of_getElem? (i := 1) rfl)) (fun _ h9 => h9) rfl dX8_send_30 ?_
    refine go_i (wr := [(h0, .inr (7, [.ref tp, .ref mka, .int mc, .ref bx, .ref rt])), (mka, .inl (cM, 8, .inr (.inr (.inr (.inr mf)))))]) (tysr := [(cI, .int), (cM, .object "OneHandset$Make")]) hP hD hS hA hK [0, 1, 2, 3] [4, 5] [0, 1] rfl rfl (by decide) (by decide) rfl (va_runV (As := [.int v, .ref tp]) (rest := []) ⟨hx, hb, hml, hown, hts⟩ (g_flashP l D H.size cI mk fm ky mq mb mi fw fb fa fc fp fz fo fl9 tp ta tk tf v hfl) (cwV 2 hts gX8_send_X4_flash rfl rfl rfl (by decide +kernel) ⟨Nat.le_of_ble_eq_true rfl, Nat.le_of_ble_eq_true rfl⟩) (st_preV (ci := 3) (q0 := 0) hP hD hK hNW [0, 1, 2, 3] [0] rfl rfl (by decide) rfl rfl rfl rfl) rfl rfl hl.1 rfl (lv_room (Nat.le_of_ble_eq_true rfl)) dX8_send_33 ⟨(Nat.le_of_ble_eq_true rfl), (Nat.le_of_ble_eq_true rfl)⟩) (fun r_5 u H locs hw hP hD hK hS => ?_)
    obtain ⟨tk_6, tf_7⟩ := u
    have hw : bi tk_6 0 120 ∧ r_5 = tk_6 ∧ tk_6 = fl9 := hw
    have hw_8 := hw
    have hP : va_P D vwCl [(h0, .inr (7, [.ref tp, .ref mka, .int mc, .ref bx, .ref rt])), (mka, .inl (cM, 8, .inr (.inr (.inr (.inr mf))))), (mk, .inr (3, [.int mq, .int mb, .ref fm, .ref ky, .int mi])), (fm, .inr (4, [.int fw, .int fb, .int fa, .int fc, .int fp, .int fz, .int fo, .int fl9])), (tp, .inr (6, [.ref ta, .int tk_6])), (ta, .inl (cI, 120, .inl tf_7))] H := hP
    have hD : va_D A [(h0, .inr (7, [.ref tp, .ref mka, .int mc, .ref bx, .ref rt])), (mka, .inl (cM, 8, .inr (.inr (.inr (.inr mf))))), (mk, .inr (3, [.int mq, .int mb, .ref fm, .ref ky, .int mi])), (fm, .inr (4, [.int fw, .int fb, .int fa, .int fc, .int fp, .int fz, .int fo, .int fl9])), (tp, .inr (6, [.ref ta, .int tk_6])), (ta, .inl (cI, 120, .inl tf_7))] := hD
    have hK : va_K D vwCl [(cI, .int), (cM, .object "OneHandset$Make")] s := hK
    exact ret_i hx hb hr hlocks rfl (u := (tk_6, tf_7)) (⟨(hw_8).1, Or.inr ⟨c_4, (hw_8).2.1.trans (hw_8).2.2⟩⟩) (hP.sub [0, 1, 2, 3, 4, 5] rfl) (hK.sub [] rfl) (hD.sub [0, 1, 2, 3, 4, 5] (by decide) rfl) hS (Nat.le_of_ble_eq_true rfl) (Nat.le_of_ble_eq_true rfl) dX8_send_36
  refine lv_iconst (v := (-1)) hx hb dX8_send_25 (by decide) ?_
  exact ret_i hx hb hr hlocks rfl (u := (tk, tf)) (⟨hk, Or.inl ⟨c_4, rfl⟩⟩) (hP.sub [4, 5, 0, 1, 2, 3] rfl) (hK.sub [] rfl) (hD.sub [4, 5, 0, 1, 2, 3] (by decide) rfl) hS (Nat.le_of_ble_eq_true rfl) (Nat.le_of_ble_eq_true rfl) dX8_send_26
theorem hiy_readP_X8 : ∀ w ∈ wsX80, w ∈ wsX8_read := mem_pl [68, 69, 70, 71, 72] rfl
set_option maxHeartbeats 4000000 in
set_option maxRecDepth 100000 in
theorem y_readP (l : Launch) (D : va_G) (sz : Nat) (cI : ClassId) (h0 : Nat) (tp : Nat) (mka : Nat) (bx : Nat) (rt : Nat) (mc : Int32) (cM : ClassId) (mf : Nat → Option Nat) (mk : Nat) (fm : Nat) (ky : Nat) (mq : Int32) (mb : Int32) (mi : Int32) (fw : Int32) (fb : Int32) (fa : Int32) (fc : Int32) (fp : Int32) (fz : Int32) (fo : Int32) (fl9 : Int32) (ta : Nat) (tk : Int32) (tf : Nat → Int32) (i : Int32) (hyes : ¬ wi i 0 (mc - 1) = 0) (him : mf (Int32.toNatClampNeg i) = some mk) (hmc : bi mc 0 8) (hk : bi tk 0 120) (hfl : bi fl9 0 51) : Ci l yX8_read wsX8_read ({ frames := 6, cells := 0, slots := 0, locals := 136 } : Room) D [.ref h0, .int i] [(h0, .inr (7, [.ref tp, .ref mka, .int mc, .ref bx, .ref rt])), (mka, .inl (cM, 8, .inr (.inr (.inr (.inr mf))))), (mk, .inr (3, [.int mq, .int mb, .ref fm, .ref ky, .int mi])), (fm, .inr (4, [.int fw, .int fb, .int fa, .int fc, .int fp, .int fz, .int fo, .int fl9])), (tp, .inr (6, [.ref ta, .int tk])), (ta, .inl (cI, 120, .inl tf))] [(cI, .int), (cM, .object "OneHandset$Make")] sz (fun (r : Int32) => fun (_ : Unit) => True) (fun (_ : Unit) => [(h0, .inr (7, [.ref tp, .ref mka, .int mc, .ref bx, .ref rt])), (mka, .inl (cM, 8, .inr (.inr (.inr (.inr mf))))), (mk, .inr (3, [.int mq, .int mb, .ref fm, .ref ky, .int mi])), (fm, .inr (4, [.int fw, .int fb, .int fa, .int fc, .int fp, .int fz, .int fo, .int fl9])), (tp, .inr (6, [.ref ta, .int tk])), (ta, .inl (cI, 120, .inl tf))]) (fun (_ : Unit) => []) := by
  refine ct_i (cc := cX8_read) (maxL := 3) (ret := (some .int)) (by decide) rfl (Nat.le_of_ble_eq_true rfl) ?_
  intro p e s m below meth c A ls H hx hb hr hts hown hml hlocks hin hA hS hP hK hD hNW hl hAe hsz
  have hl : lv_has ls 3 [(0, .ref h0), (1, .int i)] := hl
  refine lv_aload_n hx hb dX8_read_0 rfl (lv_at hl 0 rfl) ?_
  refine lv_iload_n hx hb dX8_read_1 rfl (lv_at hl 1 rfl) ?_
  refine go_q (wr := [(mk, .inr (3, [.int mq, .int mb, .ref fm, .ref ky, .int mi])), (fm, .inr (4, [.int fw, .int fb, .int fa, .int fc, .int fp, .int fz, .int fo, .int fl9])), (tp, .inr (6, [.ref ta, .int tk])), (ta, .inl (cI, 120, .inl tf))]) (tysr := [(cI, .int), (cM, .object "OneHandset$Make")]) hP hD hS hA hK [0, 1] [2, 3, 4, 5] [0, 1] rfl rfl (by decide) (by decide) rfl (va_runV (As := [.int i]) (rest := []) ⟨hx, hb, hml, hown, hts⟩ (g_makeAt_yes l D H.size h0 tp mka bx rt mc cM mf mk i hyes him hmc) (cwV 1 hts gX8_read_X8_makeAt rfl rfl rfl (by decide +kernel) ⟨Nat.le_of_ble_eq_true rfl, Nat.le_of_ble_eq_true rfl⟩) (st_preV (ci := 7) (q0 := 0) hP hD hK hNW [0, 1] [1] rfl rfl (by decide) rfl rfl rfl rfl) rfl rfl hl.1 rfl (lv_room (Nat.le_of_ble_eq_true rfl)) dX8_read_2 ⟨(Nat.le_of_ble_eq_true rfl), (Nat.le_of_ble_eq_true rfl)⟩) (fun r_1 u H locs hw hP hD hK hS => ?_)
  have hw : r_1 = some mk := hw
  subst hw
  have hP : va_P D vwCl [(mk, .inr (3, [.int mq, .int mb, .ref fm, .ref ky, .int mi])), (fm, .inr (4, [.int fw, .int fb, .int fa, .int fc, .int fp, .int fz, .int fo, .int fl9])), (tp, .inr (6, [.ref ta, .int tk])), (ta, .inl (cI, 120, .inl tf)), (h0, .inr (7, [.ref tp, .ref mka, .int mc, .ref bx, .ref rt])), (mka, .inl (cM, 8, .inr (.inr (.inr (.inr mf)))))] H := hP
  have hD : va_D A [(mk, .inr (3, [.int mq, .int mb, .ref fm, .ref ky, .int mi])), (fm, .inr (4, [.int fw, .int fb, .int fa, .int fc, .int fp, .int fz, .int fo, .int fl9])), (tp, .inr (6, [.ref ta, .int tk])), (ta, .inl (cI, 120, .inl tf)), (h0, .inr (7, [.ref tp, .ref mka, .int mc, .ref bx, .ref rt])), (mka, .inl (cM, 8, .inr (.inr (.inr (.inr mf)))))] := hD
  have hK : va_K D vwCl [(cI, .int), (cM, .object "OneHandset$Make")] s := hK
  refine W.eq (g2 := F0 m 5 ls [.ref mk]) rfl ?_
  refine lv_astore_n (lv' := [(2, .ref mk), (0, .ref h0), (1, .int i)]) hx hb dX8_read_5 rfl hl (by decide) rfl (fun ls hl => ?_)
  refine lv_aload_n hx hb dX8_read_6 rfl (lv_at hl 0 rfl) ?_
  refine lv_ifnonnull (tgt := 14) hx hb dX8_read_7 (by decide) ?_
  refine lv_aload_n hx hb dX8_read_14 rfl (lv_at hl 0 rfl) ?_
  refine lv_aload_n hx hb dX8_read_15 rfl (lv_at hl 1 rfl) ?_
  refine va_get (D := D) (ci := 7) (v := .ref tp) (C := RX8) (T := TX8) (N := 5) hx hb hts hiy_readP_X8 hown hK hP 4 rfl rfl 0 (by decide) (hts (.fieldLink RX8 12 "OneHandset" "tape" "LOneHandset$Tape;") (List.mem_of_getElem? (i := 1) rfl)) (fun _ h9 => h9) rfl dX8_read_16 ?_
  refine go_i (wr := [(h0, .inr (7, [.ref tp, .ref mka, .int mc, .ref bx, .ref rt])), (mka, .inl (cM, 8, .inr (.inr (.inr (.inr mf)))))]) (tysr := [(cI, .int), (cM, .object "OneHandset$Make")]) hP hD hS hA hK [0, 1, 2, 3] [4, 5] [0, 1] rfl rfl (by decide) (by decide) rfl (va_runV (As := [.ref tp]) (rest := []) ⟨hx, hb, hml, hown, hts⟩ (g_decodeP l D H.size cI mk fm ky mq mb mi fw fb fa fc fp fz fo fl9 tp ta tk tf hk) (cwV 1 hts gX8_read_X4_decode rfl rfl rfl (by decide +kernel) ⟨Nat.le_of_ble_eq_true rfl, Nat.le_of_ble_eq_true rfl⟩) (st_preV (ci := 3) (q0 := 0) hP hD hK hNW [0, 1, 2, 3] [0] rfl rfl (by decide) rfl rfl rfl rfl) rfl rfl hl.1 rfl (lv_room (Nat.le_of_ble_eq_true rfl)) dX8_read_19 ⟨(Nat.le_of_ble_eq_true rfl), (Nat.le_of_ble_eq_true rfl)⟩) (fun r_2 u H locs hw hP hD hK hS => ?_)
  have hP : va_P D vwCl [(h0, .inr (7, [.ref tp, .ref mka, .int mc, .ref bx, .ref rt])), (mka, .inl (cM, 8, .inr (.inr (.inr (.inr mf))))), (mk, .inr (3, [.int mq, .int mb, .ref fm, .ref ky, .int mi])), (fm, .inr (4, [.int fw, .int fb, .int fa, .int fc, .int fp, .int fz, .int fo, .int fl9])), (tp, .inr (6, [.ref ta, .int tk])), (ta, .inl (cI, 120, .inl tf))] H := hP
  have hD : va_D A [(h0, .inr (7, [.ref tp, .ref mka, .int mc, .ref bx, .ref rt])), (mka, .inl (cM, 8, .inr (.inr (.inr (.inr mf))))), (mk, .inr (3, [.int mq, .int mb, .ref fm, .ref ky, .int mi])), (fm, .inr (4, [.int fw, .int fb, .int fa, .int fc, .int fp, .int fz, .int fo, .int fl9])), (tp, .inr (6, [.ref ta, .int tk])), (ta, .inl (cI, 120, .inl tf))] := hD
  have hK : va_K D vwCl [(cI, .int), (cM, .object "OneHandset$Make")] s := hK
  exact ret_i hx hb hr hlocks rfl (u := ()) trivial (hP.sub [0, 1, 2, 3, 4, 5] rfl) (hK.sub [] rfl) (hD.sub [0, 1, 2, 3, 4, 5] (by decide) rfl) hS (Nat.le_of_ble_eq_true rfl) (Nat.le_of_ble_eq_true rfl) dX8_read_22
theorem hiy_learnP_X8 : ∀ w ∈ wsX80, w ∈ wsX8_learn := mem_pl [110, 111, 112, 113, 114] rfl
theorem hiy_learnP_X4 : ∀ w ∈ wsX40, w ∈ wsX8_learn := mem_pl [115, 116, 117, 118, 119] rfl
set_option maxHeartbeats 4000000 in
set_option maxRecDepth 100000 in
theorem y_learnP (l : Launch) (D : va_G) (sz : Nat) (cI : ClassId) (h0 : Nat) (tp : Nat) (mka : Nat) (bx : Nat) (rt : Nat) (mc : Int32) (cM : ClassId) (mf : Nat → Option Nat) (mk : Nat) (fm : Nat) (ky : Nat) (mq : Int32) (mb : Int32) (mi : Int32) (fw : Int32) (fb : Int32) (fa : Int32) (fc : Int32) (fp : Int32) (fz : Int32) (fo : Int32) (fl9 : Int32) (ta : Nat) (tk : Int32) (tf : Nat → Int32) (ca : Nat) (cc : Nat) (kb : Int32) (kf : Int32) (kg : Int32) (kl : Int32) (kx : Int32) (ko : Int32) (kc : Nat → Int32) (kd : Nat → Int32) (i : Int32) (v : Int32) (hyes : ¬ wi i 0 (mc - 1) = 0) (him : mf (Int32.toNatClampNeg i) = some mk) (hmc : bi mc 0 8) (hk : bi tk 0 120) (hfl : bi fl9 0 51) : Ci l yX8_learn wsX8_learn ({ frames := 6, cells := 0, slots := 0, locals := 136 } : Room) D [.ref h0, .int i, .int v] [(h0, .inr (7, [.ref tp, .ref mka, .int mc, .ref bx, .ref rt])), (mka, .inl (cM, 8, .inr (.inr (.inr (.inr mf))))), (mk, .inr (3, [.int mq, .int mb, .ref fm, .ref ky, .int mi])), (fm, .inr (4, [.int fw, .int fb, .int fa, .int fc, .int fp, .int fz, .int fo, .int fl9])), (tp, .inr (6, [.ref ta, .int tk])), (ta, .inl (cI, 120, .inl tf)), (ky, .inr (2, [.int kb, .ref ca, .ref cc, .int kf, .int kg, .int kl, .int kx, .int ko])), (ca, .inl (cI, 16, .inl kc)), (cc, .inl (cI, 4, .inl kd))] [(cI, .int), (cM, .object "OneHandset$Make")] sz (fun (r : Int32) => fun (u9 : Int32 × Int32 × Int32 × (Nat → Int32) × (Nat → Int32)) => match u9 with | (kl2, kx2, ko2, kc2, kd2) => True) (fun (u9 : Int32 × Int32 × Int32 × (Nat → Int32) × (Nat → Int32)) => match u9 with | (kl2, kx2, ko2, kc2, kd2) => [(h0, .inr (7, [.ref tp, .ref mka, .int mc, .ref bx, .ref rt])), (mka, .inl (cM, 8, .inr (.inr (.inr (.inr mf))))), (mk, .inr (3, [.int mq, .int mb, .ref fm, .ref ky, .int mi])), (fm, .inr (4, [.int fw, .int fb, .int fa, .int fc, .int fp, .int fz, .int fo, .int fl9])), (tp, .inr (6, [.ref ta, .int tk])), (ta, .inl (cI, 120, .inl tf)), (ky, .inr (2, [.int kb, .ref ca, .ref cc, .int kf, .int kg, .int kl2, .int kx2, .int ko2])), (ca, .inl (cI, 16, .inl kc2)), (cc, .inl (cI, 4, .inl kd2))]) (fun (u9 : Int32 × Int32 × Int32 × (Nat → Int32) × (Nat → Int32)) => match u9 with | (kl2, kx2, ko2, kc2, kd2) => []) := by
  refine ct_i (cc := cX8_learn) (maxL := 5) (ret := (some .int)) (by decide) rfl (Nat.le_of_ble_eq_true rfl) ?_
  intro p e s m below meth c A ls H hx hb hr hts hown hml hlocks hin hA hS hP hK hD hNW hl hAe hsz
  have hl : lv_has ls 5 [(0, .ref h0), (1, .int i), (2, .int v)] := hl
  refine lv_aload_n hx hb dX8_learn_0 rfl (lv_at hl 0 rfl) ?_
  refine lv_iload_n hx hb dX8_learn_1 rfl (lv_at hl 1 rfl) ?_
  refine go_q (wr := [(mk, .inr (3, [.int mq, .int mb, .ref fm, .ref ky, .int mi])), (fm, .inr (4, [.int fw, .int fb, .int fa, .int fc, .int fp, .int fz, .int fo, .int fl9])), (tp, .inr (6, [.ref ta, .int tk])), (ta, .inl (cI, 120, .inl tf)), (ky, .inr (2, [.int kb, .ref ca, .ref cc, .int kf, .int kg, .int kl, .int kx, .int ko])), (ca, .inl (cI, 16, .inl kc)), (cc, .inl (cI, 4, .inl kd))]) (tysr := [(cI, .int), (cM, .object "OneHandset$Make")]) hP hD hS hA hK [0, 1] [2, 3, 4, 5, 6, 7, 8] [0, 1] rfl rfl (by decide) (by decide) rfl (va_runV (As := [.int i]) (rest := []) ⟨hx, hb, hml, hown, hts⟩ (g_makeAt_yes l D H.size h0 tp mka bx rt mc cM mf mk i hyes him hmc) (cwV 1 hts gX8_learn_X8_makeAt rfl rfl rfl (by decide +kernel) ⟨Nat.le_of_ble_eq_true rfl, Nat.le_of_ble_eq_true rfl⟩) (st_preV (ci := 7) (q0 := 0) hP hD hK hNW [0, 1] [1] rfl rfl (by decide) rfl rfl rfl rfl) rfl rfl hl.1 rfl (lv_room (Nat.le_of_ble_eq_true rfl)) dX8_learn_2 ⟨(Nat.le_of_ble_eq_true rfl), (Nat.le_of_ble_eq_true rfl)⟩) (fun r_1 u H locs hw hP hD hK hS => ?_)
  have hw : r_1 = some mk := hw
  subst hw
  have hP : va_P D vwCl [(mk, .inr (3, [.int mq, .int mb, .ref fm, .ref ky, .int mi])), (fm, .inr (4, [.int fw, .int fb, .int fa, .int fc, .int fp, .int fz, .int fo, .int fl9])), (tp, .inr (6, [.ref ta, .int tk])), (ta, .inl (cI, 120, .inl tf)), (ky, .inr (2, [.int kb, .ref ca, .ref cc, .int kf, .int kg, .int kl, .int kx, .int ko])), (ca, .inl (cI, 16, .inl kc)), (cc, .inl (cI, 4, .inl kd)), (h0, .inr (7, [.ref tp, .ref mka, .int mc, .ref bx, .ref rt])), (mka, .inl (cM, 8, .inr (.inr (.inr (.inr mf)))))] H := hP
  have hD : va_D A [(mk, .inr (3, [.int mq, .int mb, .ref fm, .ref ky, .int mi])), (fm, .inr (4, [.int fw, .int fb, .int fa, .int fc, .int fp, .int fz, .int fo, .int fl9])), (tp, .inr (6, [.ref ta, .int tk])), (ta, .inl (cI, 120, .inl tf)), (ky, .inr (2, [.int kb, .ref ca, .ref cc, .int kf, .int kg, .int kl, .int kx, .int ko])), (ca, .inl (cI, 16, .inl kc)), (cc, .inl (cI, 4, .inl kd)), (h0, .inr (7, [.ref tp, .ref mka, .int mc, .ref bx, .ref rt])), (mka, .inl (cM, 8, .inr (.inr (.inr (.inr mf)))))] := hD
  have hK : va_K D vwCl [(cI, .int), (cM, .object "OneHandset$Make")] s := hK
  refine W.eq (g2 := F0 m 5 ls [.ref mk]) rfl ?_
  refine lv_astore_n (lv' := [(3, .ref mk), (0, .ref h0), (1, .int i), (2, .int v)]) hx hb dX8_learn_5 rfl hl (by decide) rfl (fun ls hl => ?_)
  refine lv_aload_n hx hb dX8_learn_6 rfl (lv_at hl 0 rfl) ?_
  refine lv_ifnonnull (tgt := 12) hx hb dX8_learn_7 (by decide) ?_
  refine lv_aload_n hx hb dX8_learn_12 rfl (lv_at hl 0 rfl) ?_
  refine lv_aload_n hx hb dX8_learn_13 rfl (lv_at hl 1 rfl) ?_
  refine va_get (D := D) (ci := 7) (v := .ref tp) (C := RX8) (T := TX8) (N := 5) hx hb hts hiy_learnP_X8 hown hK hP 7 rfl rfl 0 (by decide) (hts (.fieldLink RX8 12 "OneHandset" "tape" "LOneHandset$Tape;") (List.mem_of_getElem? (i := 1) rfl)) (fun _ h9 => h9) rfl dX8_learn_14 ?_
  refine go_i (wr := [(ky, .inr (2, [.int kb, .ref ca, .ref cc, .int kf, .int kg, .int kl, .int kx, .int ko])), (ca, .inl (cI, 16, .inl kc)), (cc, .inl (cI, 4, .inl kd)), (h0, .inr (7, [.ref tp, .ref mka, .int mc, .ref bx, .ref rt])), (mka, .inl (cM, 8, .inr (.inr (.inr (.inr mf)))))]) (tysr := [(cI, .int), (cM, .object "OneHandset$Make")]) hP hD hS hA hK [0, 1, 2, 3] [4, 5, 6, 7, 8] [0, 1] rfl rfl (by decide) (by decide) rfl (va_runV (As := [.ref tp]) (rest := []) ⟨hx, hb, hml, hown, hts⟩ (g_decodeP l D H.size cI mk fm ky mq mb mi fw fb fa fc fp fz fo fl9 tp ta tk tf hk) (cwV 1 hts gX8_learn_X4_decode rfl rfl rfl (by decide +kernel) ⟨Nat.le_of_ble_eq_true rfl, Nat.le_of_ble_eq_true rfl⟩) (st_preV (ci := 3) (q0 := 0) hP hD hK hNW [0, 1, 2, 3] [0] rfl rfl (by decide) rfl rfl rfl rfl) rfl rfl hl.1 rfl (lv_room (Nat.le_of_ble_eq_true rfl)) dX8_learn_17 ⟨(Nat.le_of_ble_eq_true rfl), (Nat.le_of_ble_eq_true rfl)⟩) (fun r_2 u H locs hw hP hD hK hS => ?_)
  have hP : va_P D vwCl [(ky, .inr (2, [.int kb, .ref ca, .ref cc, .int kf, .int kg, .int kl, .int kx, .int ko])), (ca, .inl (cI, 16, .inl kc)), (cc, .inl (cI, 4, .inl kd)), (h0, .inr (7, [.ref tp, .ref mka, .int mc, .ref bx, .ref rt])), (mka, .inl (cM, 8, .inr (.inr (.inr (.inr mf))))), (mk, .inr (3, [.int mq, .int mb, .ref fm, .ref ky, .int mi])), (fm, .inr (4, [.int fw, .int fb, .int fa, .int fc, .int fp, .int fz, .int fo, .int fl9])), (tp, .inr (6, [.ref ta, .int tk])), (ta, .inl (cI, 120, .inl tf))] H := hP
  have hD : va_D A [(ky, .inr (2, [.int kb, .ref ca, .ref cc, .int kf, .int kg, .int kl, .int kx, .int ko])), (ca, .inl (cI, 16, .inl kc)), (cc, .inl (cI, 4, .inl kd)), (h0, .inr (7, [.ref tp, .ref mka, .int mc, .ref bx, .ref rt])), (mka, .inl (cM, 8, .inr (.inr (.inr (.inr mf))))), (mk, .inr (3, [.int mq, .int mb, .ref fm, .ref ky, .int mi])), (fm, .inr (4, [.int fw, .int fb, .int fa, .int fc, .int fp, .int fz, .int fo, .int fl9])), (tp, .inr (6, [.ref ta, .int tk])), (ta, .inl (cI, 120, .inl tf))] := hD
  have hK : va_K D vwCl [(cI, .int), (cM, .object "OneHandset$Make")] s := hK
  refine lv_istore (lv' := [(4, .int r_2), (3, .ref mk), (0, .ref h0), (1, .int i), (2, .int v)]) hx hb dX8_learn_20 hl (by decide) rfl (fun ls hl => ?_)
  refine lv_iload hx hb dX8_learn_22 (lv_at hl 0 rfl) ?_
  refine lv_if_ge (tgt := 31) hx hb dX8_learn_24 (by decide) (fun c_3 => ?_) (fun c_3 => ?_)
  · refine lv_aload_n hx hb dX8_learn_31 rfl (lv_at hl 1 rfl) ?_
    refine va_getN (D := D) (ci := 3) (v := .ref ky) (C := RX4) (T := TX4) (N := 5) hx hb hts hiy_learnP_X4 hown hK hP 5 rfl rfl 3 (by decide) (va_Nw.use rfl (hNW.1 ("OneHandset", 71, "OneHandset$Make", "keys", "LOneHandset$Keys;", "OneHandset") (List.mem_of_getElem? (l := nw_F) (i := 16) rfl))) (fun _ h9 => h9) rfl dX8_learn_32 ?_
    refine lv_iload_n hx hb dX8_learn_35 rfl (lv_at hl 4 rfl) ?_
    refine lv_iload hx hb dX8_learn_36 (lv_at hl 0 rfl) ?_
    refine go_i (wr := [(h0, .inr (7, [.ref tp, .ref mka, .int mc, .ref bx, .ref rt])), (mka, .inl (cM, 8, .inr (.inr (.inr (.inr mf))))), (mk, .inr (3, [.int mq, .int mb, .ref fm, .ref ky, .int mi])), (fm, .inr (4, [.int fw, .int fb, .int fa, .int fc, .int fp, .int fz, .int fo, .int fl9])), (tp, .inr (6, [.ref ta, .int tk])), (ta, .inl (cI, 120, .inl tf))]) (tysr := [(cI, .int), (cM, .object "OneHandset$Make")]) hP hD hS hA hK [0, 1, 2] [3, 4, 5, 6, 7, 8] [0, 1] rfl rfl (by decide) (by decide) rfl (va_runV (As := [.int v, .int r_2]) (rest := []) ⟨hx, hb, hml, hown, hts⟩ (g_take l D H.size cI ky ca cc kb kf kg kl kx ko kc kd v r_2 ) (cwV 2 hts gX8_learn_X3_take rfl rfl rfl (by decide +kernel) ⟨Nat.le_of_ble_eq_true rfl, Nat.le_of_ble_eq_true rfl⟩) (st_preV (ci := 2) (q0 := 0) hP hD hK hNW [0, 1, 2] [0] rfl rfl (by decide) rfl rfl rfl rfl) rfl rfl hl.1 rfl (lv_room (Nat.le_of_ble_eq_true rfl)) dX8_learn_38 ⟨(Nat.le_of_ble_eq_true rfl), (Nat.le_of_ble_eq_true rfl)⟩) (fun r_4 u H locs hw hP hD hK hS => ?_)
    obtain ⟨kl_5, kx_6, ko_7, kc_8, kd_9⟩ := u
    have hP : va_P D vwCl [(h0, .inr (7, [.ref tp, .ref mka, .int mc, .ref bx, .ref rt])), (mka, .inl (cM, 8, .inr (.inr (.inr (.inr mf))))), (mk, .inr (3, [.int mq, .int mb, .ref fm, .ref ky, .int mi])), (fm, .inr (4, [.int fw, .int fb, .int fa, .int fc, .int fp, .int fz, .int fo, .int fl9])), (tp, .inr (6, [.ref ta, .int tk])), (ta, .inl (cI, 120, .inl tf)), (ky, .inr (2, [.int kb, .ref ca, .ref cc, .int kf, .int kg, .int kl_5, .int kx_6, .int ko_7])), (ca, .inl (cI, 16, .inl kc_8)), (cc, .inl (cI, 4, .inl kd_9))] H := hP
    have hD : va_D A [(h0, .inr (7, [.ref tp, .ref mka, .int mc, .ref bx, .ref rt])), (mka, .inl (cM, 8, .inr (.inr (.inr (.inr mf))))), (mk, .inr (3, [.int mq, .int mb, .ref fm, .ref ky, .int mi])), (fm, .inr (4, [.int fw, .int fb, .int fa, .int fc, .int fp, .int fz, .int fo, .int fl9])), (tp, .inr (6, [.ref ta, .int tk])), (ta, .inl (cI, 120, .inl tf)), (ky, .inr (2, [.int kb, .ref ca, .ref cc, .int kf, .int kg, .int kl_5, .int kx_6, .int ko_7])), (ca, .inl (cI, 16, .inl kc_8)), (cc, .inl (cI, 4, .inl kd_9))] := hD
    have hK : va_K D vwCl [(cI, .int), (cM, .object "OneHandset$Make")] s := hK
    exact ret_i hx hb hr hlocks rfl (u := (kl_5, kx_6, ko_7, kc_8, kd_9)) trivial (hP.sub [0, 1, 2, 3, 4, 5, 6, 7, 8] rfl) (hK.sub [] rfl) (hD.sub [0, 1, 2, 3, 4, 5, 6, 7, 8] (by decide) rfl) hS (Nat.le_of_ble_eq_true rfl) (Nat.le_of_ble_eq_true rfl) dX8_learn_41
  refine lv_iconst (v := (-1)) hx hb dX8_learn_27 (by decide) ?_
  refine lv_goto (tgt := 41) hx hb dX8_learn_28 (by decide) ?_
  exact ret_i hx hb hr hlocks rfl (u := (kl, kx, ko, kc, kd)) trivial (hP.sub [3, 4, 5, 6, 7, 8, 0, 1, 2] rfl) (hK.sub [] rfl) (hD.sub [3, 4, 5, 6, 7, 8, 0, 1, 2] (by decide) rfl) hS (Nat.le_of_ble_eq_true rfl) (Nat.le_of_ble_eq_true rfl) dX8_learn_41
theorem hiy_pressP_X4 : ∀ w ∈ wsX40, w ∈ wsX8_press := mem_pl [83, 84, 85, 86, 87] rfl
theorem hiy_pressP_X8 : ∀ w ∈ wsX80, w ∈ wsX8_press := mem_pl [88, 89, 90, 91, 92] rfl
set_option maxHeartbeats 4000000 in
set_option maxRecDepth 100000 in
theorem y_pressP (l : Launch) (D : va_G) (sz : Nat) (cI : ClassId) (h0 : Nat) (tp : Nat) (mka : Nat) (bx : Nat) (rt : Nat) (mc : Int32) (cM : ClassId) (mf : Nat → Option Nat) (mk : Nat) (fm : Nat) (ky : Nat) (mq : Int32) (mb : Int32) (mi : Int32) (fw : Int32) (fb : Int32) (fa : Int32) (fc : Int32) (fp : Int32) (fz : Int32) (fo : Int32) (fl9 : Int32) (ta : Nat) (tk : Int32) (tf : Nat → Int32) (ca : Nat) (cc : Nat) (kb : Int32) (kf : Int32) (kg : Int32) (kl : Int32) (kx : Int32) (ko : Int32) (kc : Nat → Int32) (kd : Nat → Int32) (i : Int32) (v : Int32) (hyes : ¬ wi i 0 (mc - 1) = 0) (him : mf (Int32.toNatClampNeg i) = some mk) (hmc : bi mc 0 8) (hk : bi tk 0 120) (hfl : bi fl9 0 51) : Ci l yX8_press wsX8_press ({ frames := 4, cells := 0, slots := 0, locals := 86 } : Room) D [.ref h0, .int i, .int v] [(h0, .inr (7, [.ref tp, .ref mka, .int mc, .ref bx, .ref rt])), (mka, .inl (cM, 8, .inr (.inr (.inr (.inr mf))))), (mk, .inr (3, [.int mq, .int mb, .ref fm, .ref ky, .int mi])), (fm, .inr (4, [.int fw, .int fb, .int fa, .int fc, .int fp, .int fz, .int fo, .int fl9])), (tp, .inr (6, [.ref ta, .int tk])), (ta, .inl (cI, 120, .inl tf)), (ky, .inr (2, [.int kb, .ref ca, .ref cc, .int kf, .int kg, .int kl, .int kx, .int ko])), (ca, .inl (cI, 16, .inl kc)), (cc, .inl (cI, 4, .inl kd))] [(cI, .int), (cM, .object "OneHandset$Make")] sz (fun (r : Int32) => fun (u9 : Int32 × (Nat → Int32) × Int32) => match u9 with | (tk2, tf2, kg2) => bi tk2 0 120) (fun (u9 : Int32 × (Nat → Int32) × Int32) => match u9 with | (tk2, tf2, kg2) => [(h0, .inr (7, [.ref tp, .ref mka, .int mc, .ref bx, .ref rt])), (mka, .inl (cM, 8, .inr (.inr (.inr (.inr mf))))), (mk, .inr (3, [.int mq, .int mb, .ref fm, .ref ky, .int mi])), (fm, .inr (4, [.int fw, .int fb, .int fa, .int fc, .int fp, .int fz, .int fo, .int fl9])), (tp, .inr (6, [.ref ta, .int tk2])), (ta, .inl (cI, 120, .inl tf2)), (ky, .inr (2, [.int kb, .ref ca, .ref cc, .int kf, .int kg2, .int kl, .int kx, .int ko])), (ca, .inl (cI, 16, .inl kc)), (cc, .inl (cI, 4, .inl kd))]) (fun (u9 : Int32 × (Nat → Int32) × Int32) => match u9 with | (tk2, tf2, kg2) => []) := by
  refine ct_i (cc := cX8_press) (maxL := 4) (ret := (some .int)) (by decide) rfl (Nat.le_of_ble_eq_true rfl) ?_
  intro p e s m below meth c A ls H hx hb hr hts hown hml hlocks hin hA hS hP hK hD hNW hl hAe hsz
  have hl : lv_has ls 4 [(0, .ref h0), (1, .int i), (2, .int v)] := hl
  refine lv_aload_n hx hb dX8_press_0 rfl (lv_at hl 0 rfl) ?_
  refine lv_iload_n hx hb dX8_press_1 rfl (lv_at hl 1 rfl) ?_
  refine go_q (wr := [(mk, .inr (3, [.int mq, .int mb, .ref fm, .ref ky, .int mi])), (fm, .inr (4, [.int fw, .int fb, .int fa, .int fc, .int fp, .int fz, .int fo, .int fl9])), (tp, .inr (6, [.ref ta, .int tk])), (ta, .inl (cI, 120, .inl tf)), (ky, .inr (2, [.int kb, .ref ca, .ref cc, .int kf, .int kg, .int kl, .int kx, .int ko])), (ca, .inl (cI, 16, .inl kc)), (cc, .inl (cI, 4, .inl kd))]) (tysr := [(cI, .int), (cM, .object "OneHandset$Make")]) hP hD hS hA hK [0, 1] [2, 3, 4, 5, 6, 7, 8] [0, 1] rfl rfl (by decide) (by decide) rfl (va_runV (As := [.int i]) (rest := []) ⟨hx, hb, hml, hown, hts⟩ (g_makeAt_yes l D H.size h0 tp mka bx rt mc cM mf mk i hyes him hmc) (cwV 1 hts gX8_press_X8_makeAt rfl rfl rfl (by decide +kernel) ⟨Nat.le_of_ble_eq_true rfl, Nat.le_of_ble_eq_true rfl⟩) (st_preV (ci := 7) (q0 := 0) hP hD hK hNW [0, 1] [1] rfl rfl (by decide) rfl rfl rfl rfl) rfl rfl hl.1 rfl (lv_room (Nat.le_of_ble_eq_true rfl)) dX8_press_2 ⟨(Nat.le_of_ble_eq_true rfl), (Nat.le_of_ble_eq_true rfl)⟩) (fun r_1 u H locs hw hP hD hK hS => ?_)
  have hw : r_1 = some mk := hw
  subst hw
  have hP : va_P D vwCl [(mk, .inr (3, [.int mq, .int mb, .ref fm, .ref ky, .int mi])), (fm, .inr (4, [.int fw, .int fb, .int fa, .int fc, .int fp, .int fz, .int fo, .int fl9])), (tp, .inr (6, [.ref ta, .int tk])), (ta, .inl (cI, 120, .inl tf)), (ky, .inr (2, [.int kb, .ref ca, .ref cc, .int kf, .int kg, .int kl, .int kx, .int ko])), (ca, .inl (cI, 16, .inl kc)), (cc, .inl (cI, 4, .inl kd)), (h0, .inr (7, [.ref tp, .ref mka, .int mc, .ref bx, .ref rt])), (mka, .inl (cM, 8, .inr (.inr (.inr (.inr mf)))))] H := hP
  have hD : va_D A [(mk, .inr (3, [.int mq, .int mb, .ref fm, .ref ky, .int mi])), (fm, .inr (4, [.int fw, .int fb, .int fa, .int fc, .int fp, .int fz, .int fo, .int fl9])), (tp, .inr (6, [.ref ta, .int tk])), (ta, .inl (cI, 120, .inl tf)), (ky, .inr (2, [.int kb, .ref ca, .ref cc, .int kf, .int kg, .int kl, .int kx, .int ko])), (ca, .inl (cI, 16, .inl kc)), (cc, .inl (cI, 4, .inl kd)), (h0, .inr (7, [.ref tp, .ref mka, .int mc, .ref bx, .ref rt])), (mka, .inl (cM, 8, .inr (.inr (.inr (.inr mf)))))] := hD
  have hK : va_K D vwCl [(cI, .int), (cM, .object "OneHandset$Make")] s := hK
  refine W.eq (g2 := F0 m 5 ls [.ref mk]) rfl ?_
  refine lv_astore_n (lv' := [(3, .ref mk), (0, .ref h0), (1, .int i), (2, .int v)]) hx hb dX8_press_5 rfl hl (by decide) rfl (fun ls hl => ?_)
  refine lv_aload_n hx hb dX8_press_6 rfl (lv_at hl 0 rfl) ?_
  refine lv_ifnull hx hb dX8_press_7 ?_
  refine lv_aload_n hx hb dX8_press_10 rfl (lv_at hl 0 rfl) ?_
  refine va_getN (D := D) (ci := 3) (v := .ref ky) (C := RX4) (T := TX4) (N := 5) hx hb hts hiy_pressP_X4 hown hK hP 0 rfl rfl 3 (by decide) (va_Nw.use rfl (hNW.1 ("OneHandset", 71, "OneHandset$Make", "keys", "LOneHandset$Keys;", "OneHandset") (List.mem_of_getElem? (l := nw_F) (i := 16) rfl))) (fun _ h9 => h9) rfl dX8_press_11 ?_
  refine lv_iload_n hx hb dX8_press_14 rfl (lv_at hl 3 rfl) ?_
  refine go_i (wr := [(mk, .inr (3, [.int mq, .int mb, .ref fm, .ref ky, .int mi])), (fm, .inr (4, [.int fw, .int fb, .int fa, .int fc, .int fp, .int fz, .int fo, .int fl9])), (tp, .inr (6, [.ref ta, .int tk])), (ta, .inl (cI, 120, .inl tf)), (h0, .inr (7, [.ref tp, .ref mka, .int mc, .ref bx, .ref rt])), (mka, .inl (cM, 8, .inr (.inr (.inr (.inr mf)))))]) (tysr := [(cI, .int), (cM, .object "OneHandset$Make")]) hP hD hS hA hK [4, 5, 6] [0, 1, 2, 3, 7, 8] [0, 1] rfl rfl (by decide) (by decide) rfl (va_runV (As := [.int v]) (rest := []) ⟨hx, hb, hml, hown, hts⟩ (g_codeOf l D H.size cI ky ca cc kb kf kg kl kx ko kc kd v ) (cwV 1 hts gX8_press_X3_codeOf rfl rfl rfl (by decide +kernel) ⟨Nat.le_of_ble_eq_true rfl, Nat.le_of_ble_eq_true rfl⟩) (st_preV (ci := 2) (q0 := 4) hP hD hK hNW [4, 5, 6] [0] rfl rfl (by decide) rfl rfl rfl rfl) rfl rfl hl.1 rfl (lv_room (Nat.le_of_ble_eq_true rfl)) dX8_press_15 ⟨(Nat.le_of_ble_eq_true rfl), (Nat.le_of_ble_eq_true rfl)⟩) (fun r_2 u H locs hw hP hD hK hS => ?_)
  have hw : r_2 = -1 ∨ bi v 0 15 := hw
  have hw_3 := hw
  have hP : va_P D vwCl [(mk, .inr (3, [.int mq, .int mb, .ref fm, .ref ky, .int mi])), (fm, .inr (4, [.int fw, .int fb, .int fa, .int fc, .int fp, .int fz, .int fo, .int fl9])), (tp, .inr (6, [.ref ta, .int tk])), (ta, .inl (cI, 120, .inl tf)), (h0, .inr (7, [.ref tp, .ref mka, .int mc, .ref bx, .ref rt])), (mka, .inl (cM, 8, .inr (.inr (.inr (.inr mf))))), (ky, .inr (2, [.int kb, .ref ca, .ref cc, .int kf, .int kg, .int kl, .int kx, .int ko])), (ca, .inl (cI, 16, .inl kc)), (cc, .inl (cI, 4, .inl kd))] H := hP
  have hD : va_D A [(mk, .inr (3, [.int mq, .int mb, .ref fm, .ref ky, .int mi])), (fm, .inr (4, [.int fw, .int fb, .int fa, .int fc, .int fp, .int fz, .int fo, .int fl9])), (tp, .inr (6, [.ref ta, .int tk])), (ta, .inl (cI, 120, .inl tf)), (h0, .inr (7, [.ref tp, .ref mka, .int mc, .ref bx, .ref rt])), (mka, .inl (cM, 8, .inr (.inr (.inr (.inr mf))))), (ky, .inr (2, [.int kb, .ref ca, .ref cc, .int kf, .int kg, .int kl, .int kx, .int ko])), (ca, .inl (cI, 16, .inl kc)), (cc, .inl (cI, 4, .inl kd))] := hD
  have hK : va_K D vwCl [(cI, .int), (cM, .object "OneHandset$Make")] s := hK
  refine lv_iconst (v := (-1)) hx hb dX8_press_18 (by decide) ?_
  refine lv_icmp_ne (tgt := 24) hx hb dX8_press_19 (by decide) (fun c_4 => ?_) (fun c_4 => ?_)
  · refine lv_aload_n hx hb dX8_press_24 rfl (lv_at hl 0 rfl) ?_
    refine lv_aload_n hx hb dX8_press_25 rfl (lv_at hl 0 rfl) ?_
    refine va_getN (D := D) (ci := 3) (v := .ref ky) (C := RX4) (T := TX4) (N := 5) hx hb hts hiy_pressP_X4 hown hK hP 0 rfl rfl 3 (by decide) (va_Nw.use rfl (hNW.1 ("OneHandset", 71, "OneHandset$Make", "keys", "LOneHandset$Keys;", "OneHandset") (List.mem_of_getElem? (l := nw_F) (i := 16) rfl))) (fun _ h9 => h9) rfl dX8_press_26 ?_
    refine lv_iload_n hx hb dX8_press_29 rfl (lv_at hl 3 rfl) ?_
    refine go_i (wr := [(mk, .inr (3, [.int mq, .int mb, .ref fm, .ref ky, .int mi])), (fm, .inr (4, [.int fw, .int fb, .int fa, .int fc, .int fp, .int fz, .int fo, .int fl9])), (tp, .inr (6, [.ref ta, .int tk])), (ta, .inl (cI, 120, .inl tf)), (h0, .inr (7, [.ref tp, .ref mka, .int mc, .ref bx, .ref rt])), (mka, .inl (cM, 8, .inr (.inr (.inr (.inr mf)))))]) (tysr := [(cI, .int), (cM, .object "OneHandset$Make")]) hP hD hS hA hK [6, 7, 8] [0, 1, 2, 3, 4, 5] [0, 1] rfl rfl (by decide) (by decide) rfl (va_runV (As := [.int v]) (rest := [.ref mk]) ⟨hx, hb, hml, hown, hts⟩ (g_codeToSend l D H.size cI ky ca cc kb kf kg kl kx ko kc kd v ) (cwV 1 hts gX8_press_X3_codeToSend rfl rfl rfl (by decide +kernel) ⟨Nat.le_of_ble_eq_true rfl, Nat.le_of_ble_eq_true rfl⟩) (st_preV (ci := 2) (q0 := 6) hP hD hK hNW [6, 7, 8] [0] rfl rfl (by decide) rfl rfl rfl rfl) rfl rfl hl.1 rfl (lv_room (Nat.le_of_ble_eq_true rfl)) dX8_press_30 ⟨(Nat.le_of_ble_eq_true rfl), (Nat.le_of_ble_eq_true rfl)⟩) (fun r_5 u H locs hw hP hD hK hS => ?_)
    obtain ⟨kg_6, rfl⟩ : ∃ z, z = u := ⟨_, rfl⟩
    have hP : va_P D vwCl [(mk, .inr (3, [.int mq, .int mb, .ref fm, .ref ky, .int mi])), (fm, .inr (4, [.int fw, .int fb, .int fa, .int fc, .int fp, .int fz, .int fo, .int fl9])), (tp, .inr (6, [.ref ta, .int tk])), (ta, .inl (cI, 120, .inl tf)), (h0, .inr (7, [.ref tp, .ref mka, .int mc, .ref bx, .ref rt])), (mka, .inl (cM, 8, .inr (.inr (.inr (.inr mf))))), (ky, .inr (2, [.int kb, .ref ca, .ref cc, .int kf, .int kg_6, .int kl, .int kx, .int ko])), (ca, .inl (cI, 16, .inl kc)), (cc, .inl (cI, 4, .inl kd))] H := hP
    have hD : va_D A [(mk, .inr (3, [.int mq, .int mb, .ref fm, .ref ky, .int mi])), (fm, .inr (4, [.int fw, .int fb, .int fa, .int fc, .int fp, .int fz, .int fo, .int fl9])), (tp, .inr (6, [.ref ta, .int tk])), (ta, .inl (cI, 120, .inl tf)), (h0, .inr (7, [.ref tp, .ref mka, .int mc, .ref bx, .ref rt])), (mka, .inl (cM, 8, .inr (.inr (.inr (.inr mf))))), (ky, .inr (2, [.int kb, .ref ca, .ref cc, .int kf, .int kg_6, .int kl, .int kx, .int ko])), (ca, .inl (cI, 16, .inl kc)), (cc, .inl (cI, 4, .inl kd))] := hD
    have hK : va_K D vwCl [(cI, .int), (cM, .object "OneHandset$Make")] s := hK
    refine lv_aload_n hx hb dX8_press_33 rfl (lv_at hl 1 rfl) ?_
    refine va_get (D := D) (ci := 7) (v := .ref tp) (C := RX8) (T := TX8) (N := 5) hx hb hts hiy_pressP_X8 hown hK hP 4 rfl rfl 0 (by decide) (hts (.fieldLink RX8 12 "OneHandset" "tape" "LOneHandset$Tape;") (List.mem_of_getElem? (i := 1) rfl)) (fun _ h9 => h9) rfl dX8_press_34 ?_
    refine go_i (wr := [(h0, .inr (7, [.ref tp, .ref mka, .int mc, .ref bx, .ref rt])), (mka, .inl (cM, 8, .inr (.inr (.inr (.inr mf))))), (ky, .inr (2, [.int kb, .ref ca, .ref cc, .int kf, .int kg_6, .int kl, .int kx, .int ko])), (ca, .inl (cI, 16, .inl kc)), (cc, .inl (cI, 4, .inl kd))]) (tysr := [(cI, .int), (cM, .object "OneHandset$Make")]) hP hD hS hA hK [0, 1, 2, 3] [4, 5, 6, 7, 8] [0, 1] rfl rfl (by decide) (by decide) rfl (va_runV (As := [.int r_5, .ref tp]) (rest := []) ⟨hx, hb, hml, hown, hts⟩ (g_flashP l D H.size cI mk fm ky mq mb mi fw fb fa fc fp fz fo fl9 tp ta tk tf r_5 hfl) (cwV 2 hts gX8_press_X4_flash rfl rfl rfl (by decide +kernel) ⟨Nat.le_of_ble_eq_true rfl, Nat.le_of_ble_eq_true rfl⟩) (st_preV (ci := 3) (q0 := 0) hP hD hK hNW [0, 1, 2, 3] [0] rfl rfl (by decide) rfl rfl rfl rfl) rfl rfl hl.1 rfl (lv_room (Nat.le_of_ble_eq_true rfl)) dX8_press_37 ⟨(Nat.le_of_ble_eq_true rfl), (Nat.le_of_ble_eq_true rfl)⟩) (fun r_7 u H locs hw hP hD hK hS => ?_)
    obtain ⟨tk_8, tf_9⟩ := u
    have hw : bi tk_8 0 120 ∧ r_7 = tk_8 ∧ tk_8 = fl9 := hw
    have hw_10 := hw
    have hP : va_P D vwCl [(h0, .inr (7, [.ref tp, .ref mka, .int mc, .ref bx, .ref rt])), (mka, .inl (cM, 8, .inr (.inr (.inr (.inr mf))))), (ky, .inr (2, [.int kb, .ref ca, .ref cc, .int kf, .int kg_6, .int kl, .int kx, .int ko])), (ca, .inl (cI, 16, .inl kc)), (cc, .inl (cI, 4, .inl kd)), (mk, .inr (3, [.int mq, .int mb, .ref fm, .ref ky, .int mi])), (fm, .inr (4, [.int fw, .int fb, .int fa, .int fc, .int fp, .int fz, .int fo, .int fl9])), (tp, .inr (6, [.ref ta, .int tk_8])), (ta, .inl (cI, 120, .inl tf_9))] H := hP
    have hD : va_D A [(h0, .inr (7, [.ref tp, .ref mka, .int mc, .ref bx, .ref rt])), (mka, .inl (cM, 8, .inr (.inr (.inr (.inr mf))))), (ky, .inr (2, [.int kb, .ref ca, .ref cc, .int kf, .int kg_6, .int kl, .int kx, .int ko])), (ca, .inl (cI, 16, .inl kc)), (cc, .inl (cI, 4, .inl kd)), (mk, .inr (3, [.int mq, .int mb, .ref fm, .ref ky, .int mi])), (fm, .inr (4, [.int fw, .int fb, .int fa, .int fc, .int fp, .int fz, .int fo, .int fl9])), (tp, .inr (6, [.ref ta, .int tk_8])), (ta, .inl (cI, 120, .inl tf_9))] := hD
    have hK : va_K D vwCl [(cI, .int), (cM, .object "OneHandset$Make")] s := hK
    exact ret_i hx hb hr hlocks rfl (u := (tk_8, tf_9, kg_6)) ((hw_10).1) (hP.sub [0, 1, 5, 6, 7, 8, 2, 3, 4] rfl) (hK.sub [] rfl) (hD.sub [0, 1, 5, 6, 7, 8, 2, 3, 4] (by decide) rfl) hS (Nat.le_of_ble_eq_true rfl) (Nat.le_of_ble_eq_true rfl) dX8_press_40
  refine lv_iconst (v := (-1)) hx hb dX8_press_22 (by decide) ?_
  exact ret_i hx hb hr hlocks rfl (u := (tk, tf, kg)) hk (hP.sub [4, 5, 0, 1, 2, 3, 6, 7, 8] rfl) (hK.sub [] rfl) (hD.sub [4, 5, 0, 1, 2, 3, 6, 7, 8] (by decide) rfl) hS (Nat.le_of_ble_eq_true rfl) (Nat.le_of_ble_eq_true rfl) dX8_press_23
theorem hiy_sendH_X4 : ∀ w ∈ wsX40, w ∈ wsX8_send := mem_pl [65, 66, 67, 68, 69] rfl
theorem hiy_sendH_X8 : ∀ w ∈ wsX80, w ∈ wsX8_send := mem_pl [70, 71, 72, 73, 74] rfl
set_option maxHeartbeats 4000000 in
set_option maxRecDepth 100000 in
theorem y_sendH (l : Launch) (D : va_G) (sz : Nat) (cI : ClassId) (h0 : Nat) (tp : Nat) (mka : Nat) (bx : Nat) (rt : Nat) (mc : Int32) (cM : ClassId) (mf : Nat → Option Nat) (mk : Nat) (fm : Nat) (ky : Nat) (mq : Int32) (mb : Int32) (mi : Int32) (fb : Int32) (fp : Int32) (ta : Nat) (tk : Int32) (tf : Nat → Int32) (i : Int32) (v : Int32) (hyes : ¬ wi i 0 (mc - 1) = 0) (him : mf (Int32.toNatClampNeg i) = some mk) (hmc : bi mc 0 8) (hk : bi tk 0 120) (hfb : bi fb 1 24) : Ci l yX8_send wsX8_send ({ frames := 3, cells := 0, slots := 0, locals := 69 } : Room) D [.ref h0, .int i, .int v] [(h0, .inr (7, [.ref tp, .ref mka, .int mc, .ref bx, .ref rt])), (mka, .inl (cM, 8, .inr (.inr (.inr (.inr mf))))), (mk, .inr (3, [.int mq, .int mb, .ref fm, .ref ky, .int mi])), (fm, .inr (1, [.int fb, .int fp])), (tp, .inr (6, [.ref ta, .int tk])), (ta, .inl (cI, 120, .inl tf))] [(cI, .int), (cM, .object "OneHandset$Make")] sz (fun (r : Int32) => fun (u9 : Int32 × (Nat → Int32)) => match u9 with | (tk2, tf2) => bi tk2 0 120 ∧ ((wi v 0 (lb mb) = 0 ∧ r = -1) ∨ (¬ wi v 0 (lb mb) = 0 ∧ r = nI (nHT (cN fb) v)))) (fun (u9 : Int32 × (Nat → Int32)) => match u9 with | (tk2, tf2) => [(h0, .inr (7, [.ref tp, .ref mka, .int mc, .ref bx, .ref rt])), (mka, .inl (cM, 8, .inr (.inr (.inr (.inr mf))))), (mk, .inr (3, [.int mq, .int mb, .ref fm, .ref ky, .int mi])), (fm, .inr (1, [.int fb, .int fp])), (tp, .inr (6, [.ref ta, .int tk2])), (ta, .inl (cI, 120, .inl tf2))]) (fun (u9 : Int32 × (Nat → Int32)) => match u9 with | (tk2, tf2) => []) := by
  refine ct_i (cc := cX8_send) (maxL := 4) (ret := (some .int)) (by decide) rfl (Nat.le_of_ble_eq_true rfl) ?_
  intro p e s m below meth c A ls H hx hb hr hts hown hml hlocks hin hA hS hP hK hD hNW hl hAe hsz
  have hl : lv_has ls 4 [(0, .ref h0), (1, .int i), (2, .int v)] := hl
  refine lv_aload_n hx hb dX8_send_0 rfl (lv_at hl 0 rfl) ?_
  refine lv_iload_n hx hb dX8_send_1 rfl (lv_at hl 1 rfl) ?_
  refine go_q (wr := [(mk, .inr (3, [.int mq, .int mb, .ref fm, .ref ky, .int mi])), (fm, .inr (1, [.int fb, .int fp])), (tp, .inr (6, [.ref ta, .int tk])), (ta, .inl (cI, 120, .inl tf))]) (tysr := [(cI, .int), (cM, .object "OneHandset$Make")]) hP hD hS hA hK [0, 1] [2, 3, 4, 5] [0, 1] rfl rfl (by decide) (by decide) rfl (va_runV (As := [.int i]) (rest := []) ⟨hx, hb, hml, hown, hts⟩ (g_makeAt_yes l D H.size h0 tp mka bx rt mc cM mf mk i hyes him hmc) (cwV 1 hts gX8_send_X8_makeAt rfl rfl rfl (by decide +kernel) ⟨Nat.le_of_ble_eq_true rfl, Nat.le_of_ble_eq_true rfl⟩) (st_preV (ci := 7) (q0 := 0) hP hD hK hNW [0, 1] [1] rfl rfl (by decide) rfl rfl rfl rfl) rfl rfl hl.1 rfl (lv_room (Nat.le_of_ble_eq_true rfl)) dX8_send_2 ⟨(Nat.le_of_ble_eq_true rfl), (Nat.le_of_ble_eq_true rfl)⟩) (fun r_1 u H locs hw hP hD hK hS => ?_)
  have hw : r_1 = some mk := hw
  subst hw
  have hP : va_P D vwCl [(mk, .inr (3, [.int mq, .int mb, .ref fm, .ref ky, .int mi])), (fm, .inr (1, [.int fb, .int fp])), (tp, .inr (6, [.ref ta, .int tk])), (ta, .inl (cI, 120, .inl tf)), (h0, .inr (7, [.ref tp, .ref mka, .int mc, .ref bx, .ref rt])), (mka, .inl (cM, 8, .inr (.inr (.inr (.inr mf)))))] H := hP
  have hD : va_D A [(mk, .inr (3, [.int mq, .int mb, .ref fm, .ref ky, .int mi])), (fm, .inr (1, [.int fb, .int fp])), (tp, .inr (6, [.ref ta, .int tk])), (ta, .inl (cI, 120, .inl tf)), (h0, .inr (7, [.ref tp, .ref mka, .int mc, .ref bx, .ref rt])), (mka, .inl (cM, 8, .inr (.inr (.inr (.inr mf)))))] := hD
  have hK : va_K D vwCl [(cI, .int), (cM, .object "OneHandset$Make")] s := hK
  refine W.eq (g2 := F0 m 5 ls [.ref mk]) rfl ?_
  refine lv_astore_n (lv' := [(3, .ref mk), (0, .ref h0), (1, .int i), (2, .int v)]) hx hb dX8_send_5 rfl hl (by decide) rfl (fun ls hl => ?_)
  refine lv_aload_n hx hb dX8_send_6 rfl (lv_at hl 0 rfl) ?_
  refine lv_ifnull hx hb dX8_send_7 ?_
  refine lv_iload_n hx hb dX8_send_10 rfl (lv_at hl 3 rfl) ?_
  refine lv_iconst (v := 0) hx hb dX8_send_11 (by decide) ?_
  refine lv_aload_n hx hb dX8_send_12 rfl (lv_at hl 0 rfl) ?_
  refine va_getN (D := D) (ci := 3) (v := .int mb) (C := RX4) (T := TX4) (N := 5) hx hb hts hiy_sendH_X4 hown hK hP 0 rfl rfl 1 (by decide) (va_Nw.use rfl (hNW.1 ("OneHandset", 68, "OneHandset$Make", "bits", "I", "OneHandset") (List.mem_of_getElem? (l := nw_F) (i := 15) rfl))) (fun _ h9 => h9) rfl dX8_send_13 ?_
  refine go_i (wr := [(mk, .inr (3, [.int mq, .int mb, .ref fm, .ref ky, .int mi])), (fm, .inr (1, [.int fb, .int fp])), (tp, .inr (6, [.ref ta, .int tk])), (ta, .inl (cI, 120, .inl tf)), (h0, .inr (7, [.ref tp, .ref mka, .int mc, .ref bx, .ref rt])), (mka, .inl (cM, 8, .inr (.inr (.inr (.inr mf)))))]) (tysr := [(cI, .int), (cM, .object "OneHandset$Make")]) hP hD hS hA hK [] [0, 1, 2, 3, 4, 5] [0, 1] rfl rfl (by decide) (by decide) rfl (va_runS (As := [.int mb]) (rest := [.int 0, .int v]) ⟨hx, hb, hml, hown, hts⟩ (c_X8_lowBits l D H.size mb ) (va_cwS 1 hts gX8_send_X8_lowBits rfl rfl rfl (by decide +kernel) ⟨Nat.le_of_ble_eq_true rfl, Nat.le_of_ble_eq_true rfl⟩) (st_preS hP hD hK hNW [] [] rfl rfl (by decide) rfl) rfl rfl hl.1 rfl (lv_room (Nat.le_of_ble_eq_true rfl)) dX8_send_16 ⟨(Nat.le_of_ble_eq_true rfl), (Nat.le_of_ble_eq_true rfl)⟩) (fun r_2 u H locs hw hP hD hK hS => ?_)
  have hw : r_2 = lb mb := hw
  subst hw
  have hP : va_P D vwCl [(mk, .inr (3, [.int mq, .int mb, .ref fm, .ref ky, .int mi])), (fm, .inr (1, [.int fb, .int fp])), (tp, .inr (6, [.ref ta, .int tk])), (ta, .inl (cI, 120, .inl tf)), (h0, .inr (7, [.ref tp, .ref mka, .int mc, .ref bx, .ref rt])), (mka, .inl (cM, 8, .inr (.inr (.inr (.inr mf)))))] H := hP
  have hD : va_D A [(mk, .inr (3, [.int mq, .int mb, .ref fm, .ref ky, .int mi])), (fm, .inr (1, [.int fb, .int fp])), (tp, .inr (6, [.ref ta, .int tk])), (ta, .inl (cI, 120, .inl tf)), (h0, .inr (7, [.ref tp, .ref mka, .int mc, .ref bx, .ref rt])), (mka, .inl (cM, 8, .inr (.inr (.inr (.inr mf)))))] := hD
  have hK : va_K D vwCl [(cI, .int), (cM, .object "OneHandset$Make")] s := hK
  refine go_i (wr := [(mk, .inr (3, [.int mq, .int mb, .ref fm, .ref ky, .int mi])), (fm, .inr (1, [.int fb, .int fp])), (tp, .inr (6, [.ref ta, .int tk])), (ta, .inl (cI, 120, .inl tf)), (h0, .inr (7, [.ref tp, .ref mka, .int mc, .ref bx, .ref rt])), (mka, .inl (cM, 8, .inr (.inr (.inr (.inr mf)))))]) (tysr := [(cI, .int), (cM, .object "OneHandset$Make")]) hP hD hS hA hK [] [0, 1, 2, 3, 4, 5] [0, 1] rfl rfl (by decide) (by decide) rfl (va_runS (As := [.int v, .int 0, .int (lb mb)]) (rest := []) ⟨hx, hb, hml, hown, hts⟩ (c_X8_within l D H.size v 0 (lb mb) ) (va_cwS 3 hts gX8_send_X8_within rfl rfl rfl (by decide +kernel) ⟨Nat.le_of_ble_eq_true rfl, Nat.le_of_ble_eq_true rfl⟩) (st_preS hP hD hK hNW [] [] rfl rfl (by decide) rfl) rfl rfl hl.1 rfl (lv_room (Nat.le_of_ble_eq_true rfl)) dX8_send_19 ⟨(Nat.le_of_ble_eq_true rfl), (Nat.le_of_ble_eq_true rfl)⟩) (fun r_3 u H locs hw hP hD hK hS => ?_)
  have hw : r_3 = wi v 0 (lb mb) := hw
  subst hw
  have hP : va_P D vwCl [(mk, .inr (3, [.int mq, .int mb, .ref fm, .ref ky, .int mi])), (fm, .inr (1, [.int fb, .int fp])), (tp, .inr (6, [.ref ta, .int tk])), (ta, .inl (cI, 120, .inl tf)), (h0, .inr (7, [.ref tp, .ref mka, .int mc, .ref bx, .ref rt])), (mka, .inl (cM, 8, .inr (.inr (.inr (.inr mf)))))] H := hP
  have hD : va_D A [(mk, .inr (3, [.int mq, .int mb, .ref fm, .ref ky, .int mi])), (fm, .inr (1, [.int fb, .int fp])), (tp, .inr (6, [.ref ta, .int tk])), (ta, .inl (cI, 120, .inl tf)), (h0, .inr (7, [.ref tp, .ref mka, .int mc, .ref bx, .ref rt])), (mka, .inl (cM, 8, .inr (.inr (.inr (.inr mf)))))] := hD
  have hK : va_K D vwCl [(cI, .int), (cM, .object "OneHandset$Make")] s := hK
  refine lv_if_ne (tgt := 27) hx hb dX8_send_22 (by decide) (fun c_4 => ?_) (fun c_4 => ?_)
  · refine lv_aload_n hx hb dX8_send_27 rfl (lv_at hl 0 rfl) ?_
    refine lv_iload_n hx hb dX8_send_28 rfl (lv_at hl 3 rfl) ?_
    refine lv_aload_n hx hb dX8_send_29 rfl (lv_at hl 1 rfl) ?_
    refine va_get (D := D) (ci := 7) (v := .ref tp) (C := RX8) (T := TX8) (N := 5) hx hb hts hiy_sendH_X8 hown hK hP 4 rfl rfl 0 (by decide) (hts (.fieldLink RX8 12 "OneHandset" "tape" "LOneHandset$Tape;") (List.mem_of_getElem? (i := 1) rfl)) (fun _ h9 => h9) rfl dX8_send_30 ?_
    refine go_i (wr := [(h0, .inr (7, [.ref tp, .ref mka, .int mc, .ref bx, .ref rt])), (mka, .inl (cM, 8, .inr (.inr (.inr (.inr mf)))))]) (tysr := [(cI, .int), (cM, .object "OneHandset$Make")]) hP hD hS hA hK [0, 1, 2, 3] [4, 5] [0, 1] rfl rfl (by decide) (by decide) rfl (va_runV (As := [.int v, .ref tp]) (rest := []) ⟨hx, hb, hml, hown, hts⟩ (g_flashH l D H.size cI mk fm ky mq mb mi fb fp tp ta tk tf v hfb) (cwV 2 hts gX8_send_X4_flash rfl rfl rfl (by decide +kernel) ⟨Nat.le_of_ble_eq_true rfl, Nat.le_of_ble_eq_true rfl⟩) (st_preV (ci := 3) (q0 := 0) hP hD hK hNW [0, 1, 2, 3] [0] rfl rfl (by decide) rfl rfl rfl rfl) rfl rfl hl.1 rfl (lv_room (Nat.le_of_ble_eq_true rfl)) dX8_send_33 ⟨(Nat.le_of_ble_eq_true rfl), (Nat.le_of_ble_eq_true rfl)⟩) (fun r_5 u H locs hw hP hD hK hS => ?_)
    obtain ⟨tk_6, tf_7⟩ := u
    have hw : bi tk_6 0 120 ∧ r_5 = tk_6 ∧ tk_6 = nI (nHT (cN fb) v) := hw
    have hw_8 := hw
    have hP : va_P D vwCl [(h0, .inr (7, [.ref tp, .ref mka, .int mc, .ref bx, .ref rt])), (mka, .inl (cM, 8, .inr (.inr (.inr (.inr mf))))), (mk, .inr (3, [.int mq, .int mb, .ref fm, .ref ky, .int mi])), (fm, .inr (1, [.int fb, .int fp])), (tp, .inr (6, [.ref ta, .int tk_6])), (ta, .inl (cI, 120, .inl tf_7))] H := hP
    have hD : va_D A [(h0, .inr (7, [.ref tp, .ref mka, .int mc, .ref bx, .ref rt])), (mka, .inl (cM, 8, .inr (.inr (.inr (.inr mf))))), (mk, .inr (3, [.int mq, .int mb, .ref fm, .ref ky, .int mi])), (fm, .inr (1, [.int fb, .int fp])), (tp, .inr (6, [.ref ta, .int tk_6])), (ta, .inl (cI, 120, .inl tf_7))] := hD
    have hK : va_K D vwCl [(cI, .int), (cM, .object "OneHandset$Make")] s := hK
    exact ret_i hx hb hr hlocks rfl (u := (tk_6, tf_7)) (⟨(hw_8).1, Or.inr ⟨c_4, (hw_8).2.1.trans (hw_8).2.2⟩⟩) (hP.sub [0, 1, 2, 3, 4, 5] rfl) (hK.sub [] rfl) (hD.sub [0, 1, 2, 3, 4, 5] (by decide) rfl) hS (Nat.le_of_ble_eq_true rfl) (Nat.le_of_ble_eq_true rfl) dX8_send_36
  refine lv_iconst (v := (-1)) hx hb dX8_send_25 (by decide) ?_
  exact ret_i hx hb hr hlocks rfl (u := (tk, tf)) (⟨hk, Or.inl ⟨c_4, rfl⟩⟩) (hP.sub [4, 5, 0, 1, 2, 3] rfl) (hK.sub [] rfl) (hD.sub [4, 5, 0, 1, 2, 3] (by decide) rfl) hS (Nat.le_of_ble_eq_true rfl) (Nat.le_of_ble_eq_true rfl) dX8_send_26
theorem hiy_readH_X8 : ∀ w ∈ wsX80, w ∈ wsX8_read := mem_pl [68, 69, 70, 71, 72] rfl
set_option maxHeartbeats 4000000 in
set_option maxRecDepth 100000 in
theorem y_readH (l : Launch) (D : va_G) (sz : Nat) (cI : ClassId) (h0 : Nat) (tp : Nat) (mka : Nat) (bx : Nat) (rt : Nat) (mc : Int32) (cM : ClassId) (mf : Nat → Option Nat) (mk : Nat) (fm : Nat) (ky : Nat) (mq : Int32) (mb : Int32) (mi : Int32) (fb : Int32) (fp : Int32) (ta : Nat) (tk : Int32) (tf : Nat → Int32) (i : Int32) (hyes : ¬ wi i 0 (mc - 1) = 0) (him : mf (Int32.toNatClampNeg i) = some mk) (hmc : bi mc 0 8) (hk : bi tk 0 120) (hfb : bi fb 1 24) : Ci l yX8_read wsX8_read ({ frames := 6, cells := 0, slots := 0, locals := 140 } : Room) D [.ref h0, .int i] [(h0, .inr (7, [.ref tp, .ref mka, .int mc, .ref bx, .ref rt])), (mka, .inl (cM, 8, .inr (.inr (.inr (.inr mf))))), (mk, .inr (3, [.int mq, .int mb, .ref fm, .ref ky, .int mi])), (fm, .inr (1, [.int fb, .int fp])), (tp, .inr (6, [.ref ta, .int tk])), (ta, .inl (cI, 120, .inl tf))] [(cI, .int), (cM, .object "OneHandset$Make")] sz (fun (r : Int32) => fun (_ : Unit) => True) (fun (_ : Unit) => [(h0, .inr (7, [.ref tp, .ref mka, .int mc, .ref bx, .ref rt])), (mka, .inl (cM, 8, .inr (.inr (.inr (.inr mf))))), (mk, .inr (3, [.int mq, .int mb, .ref fm, .ref ky, .int mi])), (fm, .inr (1, [.int fb, .int fp])), (tp, .inr (6, [.ref ta, .int tk])), (ta, .inl (cI, 120, .inl tf))]) (fun (_ : Unit) => []) := by
  refine ct_i (cc := cX8_read) (maxL := 3) (ret := (some .int)) (by decide) rfl (Nat.le_of_ble_eq_true rfl) ?_
  intro p e s m below meth c A ls H hx hb hr hts hown hml hlocks hin hA hS hP hK hD hNW hl hAe hsz
  have hl : lv_has ls 3 [(0, .ref h0), (1, .int i)] := hl
  refine lv_aload_n hx hb dX8_read_0 rfl (lv_at hl 0 rfl) ?_
  refine lv_iload_n hx hb dX8_read_1 rfl (lv_at hl 1 rfl) ?_
  refine go_q (wr := [(mk, .inr (3, [.int mq, .int mb, .ref fm, .ref ky, .int mi])), (fm, .inr (1, [.int fb, .int fp])), (tp, .inr (6, [.ref ta, .int tk])), (ta, .inl (cI, 120, .inl tf))]) (tysr := [(cI, .int), (cM, .object "OneHandset$Make")]) hP hD hS hA hK [0, 1] [2, 3, 4, 5] [0, 1] rfl rfl (by decide) (by decide) rfl (va_runV (As := [.int i]) (rest := []) ⟨hx, hb, hml, hown, hts⟩ (g_makeAt_yes l D H.size h0 tp mka bx rt mc cM mf mk i hyes him hmc) (cwV 1 hts gX8_read_X8_makeAt rfl rfl rfl (by decide +kernel) ⟨Nat.le_of_ble_eq_true rfl, Nat.le_of_ble_eq_true rfl⟩) (st_preV (ci := 7) (q0 := 0) hP hD hK hNW [0, 1] [1] rfl rfl (by decide) rfl rfl rfl rfl) rfl rfl hl.1 rfl (lv_room (Nat.le_of_ble_eq_true rfl)) dX8_read_2 ⟨(Nat.le_of_ble_eq_true rfl), (Nat.le_of_ble_eq_true rfl)⟩) (fun r_1 u H locs hw hP hD hK hS => ?_)
  have hw : r_1 = some mk := hw
  subst hw
  have hP : va_P D vwCl [(mk, .inr (3, [.int mq, .int mb, .ref fm, .ref ky, .int mi])), (fm, .inr (1, [.int fb, .int fp])), (tp, .inr (6, [.ref ta, .int tk])), (ta, .inl (cI, 120, .inl tf)), (h0, .inr (7, [.ref tp, .ref mka, .int mc, .ref bx, .ref rt])), (mka, .inl (cM, 8, .inr (.inr (.inr (.inr mf)))))] H := hP
  have hD : va_D A [(mk, .inr (3, [.int mq, .int mb, .ref fm, .ref ky, .int mi])), (fm, .inr (1, [.int fb, .int fp])), (tp, .inr (6, [.ref ta, .int tk])), (ta, .inl (cI, 120, .inl tf)), (h0, .inr (7, [.ref tp, .ref mka, .int mc, .ref bx, .ref rt])), (mka, .inl (cM, 8, .inr (.inr (.inr (.inr mf)))))] := hD
  have hK : va_K D vwCl [(cI, .int), (cM, .object "OneHandset$Make")] s := hK
  refine W.eq (g2 := F0 m 5 ls [.ref mk]) rfl ?_
  refine lv_astore_n (lv' := [(2, .ref mk), (0, .ref h0), (1, .int i)]) hx hb dX8_read_5 rfl hl (by decide) rfl (fun ls hl => ?_)
  refine lv_aload_n hx hb dX8_read_6 rfl (lv_at hl 0 rfl) ?_
  refine lv_ifnonnull (tgt := 14) hx hb dX8_read_7 (by decide) ?_
  refine lv_aload_n hx hb dX8_read_14 rfl (lv_at hl 0 rfl) ?_
  refine lv_aload_n hx hb dX8_read_15 rfl (lv_at hl 1 rfl) ?_
  refine va_get (D := D) (ci := 7) (v := .ref tp) (C := RX8) (T := TX8) (N := 5) hx hb hts hiy_readH_X8 hown hK hP 4 rfl rfl 0 (by decide) (hts (.fieldLink RX8 12 "OneHandset" "tape" "LOneHandset$Tape;") (List.mem_of_getElem? (i := 1) rfl)) (fun _ h9 => h9) rfl dX8_read_16 ?_
  refine go_i (wr := [(h0, .inr (7, [.ref tp, .ref mka, .int mc, .ref bx, .ref rt])), (mka, .inl (cM, 8, .inr (.inr (.inr (.inr mf)))))]) (tysr := [(cI, .int), (cM, .object "OneHandset$Make")]) hP hD hS hA hK [0, 1, 2, 3] [4, 5] [0, 1] rfl rfl (by decide) (by decide) rfl (va_runV (As := [.ref tp]) (rest := []) ⟨hx, hb, hml, hown, hts⟩ (g_decodeH l D H.size cI mk fm ky mq mb mi fb fp tp ta tk tf hk) (cwV 1 hts gX8_read_X4_decode rfl rfl rfl (by decide +kernel) ⟨Nat.le_of_ble_eq_true rfl, Nat.le_of_ble_eq_true rfl⟩) (st_preV (ci := 3) (q0 := 0) hP hD hK hNW [0, 1, 2, 3] [0] rfl rfl (by decide) rfl rfl rfl rfl) rfl rfl hl.1 rfl (lv_room (Nat.le_of_ble_eq_true rfl)) dX8_read_19 ⟨(Nat.le_of_ble_eq_true rfl), (Nat.le_of_ble_eq_true rfl)⟩) (fun r_2 u H locs hw hP hD hK hS => ?_)
  have hP : va_P D vwCl [(h0, .inr (7, [.ref tp, .ref mka, .int mc, .ref bx, .ref rt])), (mka, .inl (cM, 8, .inr (.inr (.inr (.inr mf))))), (mk, .inr (3, [.int mq, .int mb, .ref fm, .ref ky, .int mi])), (fm, .inr (1, [.int fb, .int fp])), (tp, .inr (6, [.ref ta, .int tk])), (ta, .inl (cI, 120, .inl tf))] H := hP
  have hD : va_D A [(h0, .inr (7, [.ref tp, .ref mka, .int mc, .ref bx, .ref rt])), (mka, .inl (cM, 8, .inr (.inr (.inr (.inr mf))))), (mk, .inr (3, [.int mq, .int mb, .ref fm, .ref ky, .int mi])), (fm, .inr (1, [.int fb, .int fp])), (tp, .inr (6, [.ref ta, .int tk])), (ta, .inl (cI, 120, .inl tf))] := hD
  have hK : va_K D vwCl [(cI, .int), (cM, .object "OneHandset$Make")] s := hK
  exact ret_i hx hb hr hlocks rfl (u := ()) trivial (hP.sub [0, 1, 2, 3, 4, 5] rfl) (hK.sub [] rfl) (hD.sub [0, 1, 2, 3, 4, 5] (by decide) rfl) hS (Nat.le_of_ble_eq_true rfl) (Nat.le_of_ble_eq_true rfl) dX8_read_22
theorem hiy_learnH_X8 : ∀ w ∈ wsX80, w ∈ wsX8_learn := mem_pl [110, 111, 112, 113, 114] rfl
theorem hiy_learnH_X4 : ∀ w ∈ wsX40, w ∈ wsX8_learn := mem_pl [115, 116, 117, 118, 119] rfl
set_option maxHeartbeats 4000000 in
set_option maxRecDepth 100000 in
theorem y_learnH (l : Launch) (D : va_G) (sz : Nat) (cI : ClassId) (h0 : Nat) (tp : Nat) (mka : Nat) (bx : Nat) (rt : Nat) (mc : Int32) (cM : ClassId) (mf : Nat → Option Nat) (mk : Nat) (fm : Nat) (ky : Nat) (mq : Int32) (mb : Int32) (mi : Int32) (fb : Int32) (fp : Int32) (ta : Nat) (tk : Int32) (tf : Nat → Int32) (ca : Nat) (cc : Nat) (kb : Int32) (kf : Int32) (kg : Int32) (kl : Int32) (kx : Int32) (ko : Int32) (kc : Nat → Int32) (kd : Nat → Int32) (i : Int32) (v : Int32) (hyes : ¬ wi i 0 (mc - 1) = 0) (him : mf (Int32.toNatClampNeg i) = some mk) (hmc : bi mc 0 8) (hk : bi tk 0 120) (hfb : bi fb 1 24) : Ci l yX8_learn wsX8_learn ({ frames := 6, cells := 0, slots := 0, locals := 140 } : Room) D [.ref h0, .int i, .int v] [(h0, .inr (7, [.ref tp, .ref mka, .int mc, .ref bx, .ref rt])), (mka, .inl (cM, 8, .inr (.inr (.inr (.inr mf))))), (mk, .inr (3, [.int mq, .int mb, .ref fm, .ref ky, .int mi])), (fm, .inr (1, [.int fb, .int fp])), (tp, .inr (6, [.ref ta, .int tk])), (ta, .inl (cI, 120, .inl tf)), (ky, .inr (2, [.int kb, .ref ca, .ref cc, .int kf, .int kg, .int kl, .int kx, .int ko])), (ca, .inl (cI, 16, .inl kc)), (cc, .inl (cI, 4, .inl kd))] [(cI, .int), (cM, .object "OneHandset$Make")] sz (fun (r : Int32) => fun (u9 : Int32 × Int32 × Int32 × (Nat → Int32) × (Nat → Int32)) => match u9 with | (kl2, kx2, ko2, kc2, kd2) => True) (fun (u9 : Int32 × Int32 × Int32 × (Nat → Int32) × (Nat → Int32)) => match u9 with | (kl2, kx2, ko2, kc2, kd2) => [(h0, .inr (7, [.ref tp, .ref mka, .int mc, .ref bx, .ref rt])), (mka, .inl (cM, 8, .inr (.inr (.inr (.inr mf))))), (mk, .inr (3, [.int mq, .int mb, .ref fm, .ref ky, .int mi])), (fm, .inr (1, [.int fb, .int fp])), (tp, .inr (6, [.ref ta, .int tk])), (ta, .inl (cI, 120, .inl tf)), (ky, .inr (2, [.int kb, .ref ca, .ref cc, .int kf, .int kg, .int kl2, .int kx2, .int ko2])), (ca, .inl (cI, 16, .inl kc2)), (cc, .inl (cI, 4, .inl kd2))]) (fun (u9 : Int32 × Int32 × Int32 × (Nat → Int32) × (Nat → Int32)) => match u9 with | (kl2, kx2, ko2, kc2, kd2) => []) := by
  refine ct_i (cc := cX8_learn) (maxL := 5) (ret := (some .int)) (by decide) rfl (Nat.le_of_ble_eq_true rfl) ?_
  intro p e s m below meth c A ls H hx hb hr hts hown hml hlocks hin hA hS hP hK hD hNW hl hAe hsz
  have hl : lv_has ls 5 [(0, .ref h0), (1, .int i), (2, .int v)] := hl
  refine lv_aload_n hx hb dX8_learn_0 rfl (lv_at hl 0 rfl) ?_
  refine lv_iload_n hx hb dX8_learn_1 rfl (lv_at hl 1 rfl) ?_
  refine go_q (wr := [(mk, .inr (3, [.int mq, .int mb, .ref fm, .ref ky, .int mi])), (fm, .inr (1, [.int fb, .int fp])), (tp, .inr (6, [.ref ta, .int tk])), (ta, .inl (cI, 120, .inl tf)), (ky, .inr (2, [.int kb, .ref ca, .ref cc, .int kf, .int kg, .int kl, .int kx, .int ko])), (ca, .inl (cI, 16, .inl kc)), (cc, .inl (cI, 4, .inl kd))]) (tysr := [(cI, .int), (cM, .object "OneHandset$Make")]) hP hD hS hA hK [0, 1] [2, 3, 4, 5, 6, 7, 8] [0, 1] rfl rfl (by decide) (by decide) rfl (va_runV (As := [.int i]) (rest := []) ⟨hx, hb, hml, hown, hts⟩ (g_makeAt_yes l D H.size h0 tp mka bx rt mc cM mf mk i hyes him hmc) (cwV 1 hts gX8_learn_X8_makeAt rfl rfl rfl (by decide +kernel) ⟨Nat.le_of_ble_eq_true rfl, Nat.le_of_ble_eq_true rfl⟩) (st_preV (ci := 7) (q0 := 0) hP hD hK hNW [0, 1] [1] rfl rfl (by decide) rfl rfl rfl rfl) rfl rfl hl.1 rfl (lv_room (Nat.le_of_ble_eq_true rfl)) dX8_learn_2 ⟨(Nat.le_of_ble_eq_true rfl), (Nat.le_of_ble_eq_true rfl)⟩) (fun r_1 u H locs hw hP hD hK hS => ?_)
  have hw : r_1 = some mk := hw
  subst hw
  have hP : va_P D vwCl [(mk, .inr (3, [.int mq, .int mb, .ref fm, .ref ky, .int mi])), (fm, .inr (1, [.int fb, .int fp])), (tp, .inr (6, [.ref ta, .int tk])), (ta, .inl (cI, 120, .inl tf)), (ky, .inr (2, [.int kb, .ref ca, .ref cc, .int kf, .int kg, .int kl, .int kx, .int ko])), (ca, .inl (cI, 16, .inl kc)), (cc, .inl (cI, 4, .inl kd)), (h0, .inr (7, [.ref tp, .ref mka, .int mc, .ref bx, .ref rt])), (mka, .inl (cM, 8, .inr (.inr (.inr (.inr mf)))))] H := hP
  have hD : va_D A [(mk, .inr (3, [.int mq, .int mb, .ref fm, .ref ky, .int mi])), (fm, .inr (1, [.int fb, .int fp])), (tp, .inr (6, [.ref ta, .int tk])), (ta, .inl (cI, 120, .inl tf)), (ky, .inr (2, [.int kb, .ref ca, .ref cc, .int kf, .int kg, .int kl, .int kx, .int ko])), (ca, .inl (cI, 16, .inl kc)), (cc, .inl (cI, 4, .inl kd)), (h0, .inr (7, [.ref tp, .ref mka, .int mc, .ref bx, .ref rt])), (mka, .inl (cM, 8, .inr (.inr (.inr (.inr mf)))))] := hD
  have hK : va_K D vwCl [(cI, .int), (cM, .object "OneHandset$Make")] s := hK
  refine W.eq (g2 := F0 m 5 ls [.ref mk]) rfl ?_
  refine lv_astore_n (lv' := [(3, .ref mk), (0, .ref h0), (1, .int i), (2, .int v)]) hx hb dX8_learn_5 rfl hl (by decide) rfl (fun ls hl => ?_)
  refine lv_aload_n hx hb dX8_learn_6 rfl (lv_at hl 0 rfl) ?_
  refine lv_ifnonnull (tgt := 12) hx hb dX8_learn_7 (by decide) ?_
  refine lv_aload_n hx hb dX8_learn_12 rfl (lv_at hl 0 rfl) ?_
  refine lv_aload_n hx hb dX8_learn_13 rfl (lv_at hl 1 rfl) ?_
  refine va_get (D := D) (ci := 7) (v := .ref tp) (C := RX8) (T := TX8) (N := 5) hx hb hts hiy_learnH_X8 hown hK hP 7 rfl rfl 0 (by decide) (hts (.fieldLink RX8 12 "OneHandset" "tape" "LOneHandset$Tape;") (List.mem_of_getElem? (i := 1) rfl)) (fun _ h9 => h9) rfl dX8_learn_14 ?_
  refine go_i (wr := [(ky, .inr (2, [.int kb, .ref ca, .ref cc, .int kf, .int kg, .int kl, .int kx, .int ko])), (ca, .inl (cI, 16, .inl kc)), (cc, .inl (cI, 4, .inl kd)), (h0, .inr (7, [.ref tp, .ref mka, .int mc, .ref bx, .ref rt])), (mka, .inl (cM, 8, .inr (.inr (.inr (.inr mf)))))]) (tysr := [(cI, .int), (cM, .object "OneHandset$Make")]) hP hD hS hA hK [0, 1, 2, 3] [4, 5, 6, 7, 8] [0, 1] rfl rfl (by decide) (by decide) rfl (va_runV (As := [.ref tp]) (rest := []) ⟨hx, hb, hml, hown, hts⟩ (g_decodeH l D H.size cI mk fm ky mq mb mi fb fp tp ta tk tf hk) (cwV 1 hts gX8_learn_X4_decode rfl rfl rfl (by decide +kernel) ⟨Nat.le_of_ble_eq_true rfl, Nat.le_of_ble_eq_true rfl⟩) (st_preV (ci := 3) (q0 := 0) hP hD hK hNW [0, 1, 2, 3] [0] rfl rfl (by decide) rfl rfl rfl rfl) rfl rfl hl.1 rfl (lv_room (Nat.le_of_ble_eq_true rfl)) dX8_learn_17 ⟨(Nat.le_of_ble_eq_true rfl), (Nat.le_of_ble_eq_true rfl)⟩) (fun r_2 u H locs hw hP hD hK hS => ?_)
  have hP : va_P D vwCl [(ky, .inr (2, [.int kb, .ref ca, .ref cc, .int kf, .int kg, .int kl, .int kx, .int ko])), (ca, .inl (cI, 16, .inl kc)), (cc, .inl (cI, 4, .inl kd)), (h0, .inr (7, [.ref tp, .ref mka, .int mc, .ref bx, .ref rt])), (mka, .inl (cM, 8, .inr (.inr (.inr (.inr mf))))), (mk, .inr (3, [.int mq, .int mb, .ref fm, .ref ky, .int mi])), (fm, .inr (1, [.int fb, .int fp])), (tp, .inr (6, [.ref ta, .int tk])), (ta, .inl (cI, 120, .inl tf))] H := hP
  have hD : va_D A [(ky, .inr (2, [.int kb, .ref ca, .ref cc, .int kf, .int kg, .int kl, .int kx, .int ko])), (ca, .inl (cI, 16, .inl kc)), (cc, .inl (cI, 4, .inl kd)), (h0, .inr (7, [.ref tp, .ref mka, .int mc, .ref bx, .ref rt])), (mka, .inl (cM, 8, .inr (.inr (.inr (.inr mf))))), (mk, .inr (3, [.int mq, .int mb, .ref fm, .ref ky, .int mi])), (fm, .inr (1, [.int fb, .int fp])), (tp, .inr (6, [.ref ta, .int tk])), (ta, .inl (cI, 120, .inl tf))] := hD
  have hK : va_K D vwCl [(cI, .int), (cM, .object "OneHandset$Make")] s := hK
  refine lv_istore (lv' := [(4, .int r_2), (3, .ref mk), (0, .ref h0), (1, .int i), (2, .int v)]) hx hb dX8_learn_20 hl (by decide) rfl (fun ls hl => ?_)
  refine lv_iload hx hb dX8_learn_22 (lv_at hl 0 rfl) ?_
  refine lv_if_ge (tgt := 31) hx hb dX8_learn_24 (by decide) (fun c_3 => ?_) (fun c_3 => ?_)
  · refine lv_aload_n hx hb dX8_learn_31 rfl (lv_at hl 1 rfl) ?_
    refine va_getN (D := D) (ci := 3) (v := .ref ky) (C := RX4) (T := TX4) (N := 5) hx hb hts hiy_learnH_X4 hown hK hP 5 rfl rfl 3 (by decide) (va_Nw.use rfl (hNW.1 ("OneHandset", 71, "OneHandset$Make", "keys", "LOneHandset$Keys;", "OneHandset") (List.mem_of_getElem? (l := nw_F) (i := 16) rfl))) (fun _ h9 => h9) rfl dX8_learn_32 ?_
    refine lv_iload_n hx hb dX8_learn_35 rfl (lv_at hl 4 rfl) ?_
    refine lv_iload hx hb dX8_learn_36 (lv_at hl 0 rfl) ?_
    refine go_i (wr := [(h0, .inr (7, [.ref tp, .ref mka, .int mc, .ref bx, .ref rt])), (mka, .inl (cM, 8, .inr (.inr (.inr (.inr mf))))), (mk, .inr (3, [.int mq, .int mb, .ref fm, .ref ky, .int mi])), (fm, .inr (1, [.int fb, .int fp])), (tp, .inr (6, [.ref ta, .int tk])), (ta, .inl (cI, 120, .inl tf))]) (tysr := [(cI, .int), (cM, .object "OneHandset$Make")]) hP hD hS hA hK [0, 1, 2] [3, 4, 5, 6, 7, 8] [0, 1] rfl rfl (by decide) (by decide) rfl (va_runV (As := [.int v, .int r_2]) (rest := []) ⟨hx, hb, hml, hown, hts⟩ (g_take l D H.size cI ky ca cc kb kf kg kl kx ko kc kd v r_2 ) (cwV 2 hts gX8_learn_X3_take rfl rfl rfl (by decide +kernel) ⟨Nat.le_of_ble_eq_true rfl, Nat.le_of_ble_eq_true rfl⟩) (st_preV (ci := 2) (q0 := 0) hP hD hK hNW [0, 1, 2] [0] rfl rfl (by decide) rfl rfl rfl rfl) rfl rfl hl.1 rfl (lv_room (Nat.le_of_ble_eq_true rfl)) dX8_learn_38 ⟨(Nat.le_of_ble_eq_true rfl), (Nat.le_of_ble_eq_true rfl)⟩) (fun r_4 u H locs hw hP hD hK hS => ?_)
    obtain ⟨kl_5, kx_6, ko_7, kc_8, kd_9⟩ := u
    have hP : va_P D vwCl [(h0, .inr (7, [.ref tp, .ref mka, .int mc, .ref bx, .ref rt])), (mka, .inl (cM, 8, .inr (.inr (.inr (.inr mf))))), (mk, .inr (3, [.int mq, .int mb, .ref fm, .ref ky, .int mi])), (fm, .inr (1, [.int fb, .int fp])), (tp, .inr (6, [.ref ta, .int tk])), (ta, .inl (cI, 120, .inl tf)), (ky, .inr (2, [.int kb, .ref ca, .ref cc, .int kf, .int kg, .int kl_5, .int kx_6, .int ko_7])), (ca, .inl (cI, 16, .inl kc_8)), (cc, .inl (cI, 4, .inl kd_9))] H := hP
    have hD : va_D A [(h0, .inr (7, [.ref tp, .ref mka, .int mc, .ref bx, .ref rt])), (mka, .inl (cM, 8, .inr (.inr (.inr (.inr mf))))), (mk, .inr (3, [.int mq, .int mb, .ref fm, .ref ky, .int mi])), (fm, .inr (1, [.int fb, .int fp])), (tp, .inr (6, [.ref ta, .int tk])), (ta, .inl (cI, 120, .inl tf)), (ky, .inr (2, [.int kb, .ref ca, .ref cc, .int kf, .int kg, .int kl_5, .int kx_6, .int ko_7])), (ca, .inl (cI, 16, .inl kc_8)), (cc, .inl (cI, 4, .inl kd_9))] := hD
    have hK : va_K D vwCl [(cI, .int), (cM, .object "OneHandset$Make")] s := hK
    exact ret_i hx hb hr hlocks rfl (u := (kl_5, kx_6, ko_7, kc_8, kd_9)) trivial (hP.sub [0, 1, 2, 3, 4, 5, 6, 7, 8] rfl) (hK.sub [] rfl) (hD.sub [0, 1, 2, 3, 4, 5, 6, 7, 8] (by decide) rfl) hS (Nat.le_of_ble_eq_true rfl) (Nat.le_of_ble_eq_true rfl) dX8_learn_41
  refine lv_iconst (v := (-1)) hx hb dX8_learn_27 (by decide) ?_
  refine lv_goto (tgt := 41) hx hb dX8_learn_28 (by decide) ?_
  exact ret_i hx hb hr hlocks rfl (u := (kl, kx, ko, kc, kd)) trivial (hP.sub [3, 4, 5, 6, 7, 8, 0, 1, 2] rfl) (hK.sub [] rfl) (hD.sub [3, 4, 5, 6, 7, 8, 0, 1, 2] (by decide) rfl) hS (Nat.le_of_ble_eq_true rfl) (Nat.le_of_ble_eq_true rfl) dX8_learn_41
theorem hiy_pressH_X4 : ∀ w ∈ wsX40, w ∈ wsX8_press := mem_pl [83, 84, 85, 86, 87] rfl
theorem hiy_pressH_X8 : ∀ w ∈ wsX80, w ∈ wsX8_press := mem_pl [88, 89, 90, 91, 92] rfl
set_option maxHeartbeats 4000000 in
set_option maxRecDepth 100000 in
theorem y_pressH (l : Launch) (D : va_G) (sz : Nat) (cI : ClassId) (h0 : Nat) (tp : Nat) (mka : Nat) (bx : Nat) (rt : Nat) (mc : Int32) (cM : ClassId) (mf : Nat → Option Nat) (mk : Nat) (fm : Nat) (ky : Nat) (mq : Int32) (mb : Int32) (mi : Int32) (fb : Int32) (fp : Int32) (ta : Nat) (tk : Int32) (tf : Nat → Int32) (ca : Nat) (cc : Nat) (kb : Int32) (kf : Int32) (kg : Int32) (kl : Int32) (kx : Int32) (ko : Int32) (kc : Nat → Int32) (kd : Nat → Int32) (i : Int32) (v : Int32) (hyes : ¬ wi i 0 (mc - 1) = 0) (him : mf (Int32.toNatClampNeg i) = some mk) (hmc : bi mc 0 8) (hk : bi tk 0 120) (hfb : bi fb 1 24) : Ci l yX8_press wsX8_press ({ frames := 4, cells := 0, slots := 0, locals := 86 } : Room) D [.ref h0, .int i, .int v] [(h0, .inr (7, [.ref tp, .ref mka, .int mc, .ref bx, .ref rt])), (mka, .inl (cM, 8, .inr (.inr (.inr (.inr mf))))), (mk, .inr (3, [.int mq, .int mb, .ref fm, .ref ky, .int mi])), (fm, .inr (1, [.int fb, .int fp])), (tp, .inr (6, [.ref ta, .int tk])), (ta, .inl (cI, 120, .inl tf)), (ky, .inr (2, [.int kb, .ref ca, .ref cc, .int kf, .int kg, .int kl, .int kx, .int ko])), (ca, .inl (cI, 16, .inl kc)), (cc, .inl (cI, 4, .inl kd))] [(cI, .int), (cM, .object "OneHandset$Make")] sz (fun (r : Int32) => fun (u9 : Int32 × (Nat → Int32) × Int32) => match u9 with | (tk2, tf2, kg2) => bi tk2 0 120) (fun (u9 : Int32 × (Nat → Int32) × Int32) => match u9 with | (tk2, tf2, kg2) => [(h0, .inr (7, [.ref tp, .ref mka, .int mc, .ref bx, .ref rt])), (mka, .inl (cM, 8, .inr (.inr (.inr (.inr mf))))), (mk, .inr (3, [.int mq, .int mb, .ref fm, .ref ky, .int mi])), (fm, .inr (1, [.int fb, .int fp])), (tp, .inr (6, [.ref ta, .int tk2])), (ta, .inl (cI, 120, .inl tf2)), (ky, .inr (2, [.int kb, .ref ca, .ref cc, .int kf, .int kg2, .int kl, .int kx, .int ko])), (ca, .inl (cI, 16, .inl kc)), (cc, .inl (cI, 4, .inl kd))]) (fun (u9 : Int32 × (Nat → Int32) × Int32) => match u9 with | (tk2, tf2, kg2) => []) := by
  refine ct_i (cc := cX8_press) (maxL := 4) (ret := (some .int)) (by decide) rfl (Nat.le_of_ble_eq_true rfl) ?_
  intro p e s m below meth c A ls H hx hb hr hts hown hml hlocks hin hA hS hP hK hD hNW hl hAe hsz
  have hl : lv_has ls 4 [(0, .ref h0), (1, .int i), (2, .int v)] := hl
  refine lv_aload_n hx hb dX8_press_0 rfl (lv_at hl 0 rfl) ?_
  refine lv_iload_n hx hb dX8_press_1 rfl (lv_at hl 1 rfl) ?_
  refine go_q (wr := [(mk, .inr (3, [.int mq, .int mb, .ref fm, .ref ky, .int mi])), (fm, .inr (1, [.int fb, .int fp])), (tp, .inr (6, [.ref ta, .int tk])), (ta, .inl (cI, 120, .inl tf)), (ky, .inr (2, [.int kb, .ref ca, .ref cc, .int kf, .int kg, .int kl, .int kx, .int ko])), (ca, .inl (cI, 16, .inl kc)), (cc, .inl (cI, 4, .inl kd))]) (tysr := [(cI, .int), (cM, .object "OneHandset$Make")]) hP hD hS hA hK [0, 1] [2, 3, 4, 5, 6, 7, 8] [0, 1] rfl rfl (by decide) (by decide) rfl (va_runV (As := [.int i]) (rest := []) ⟨hx, hb, hml, hown, hts⟩ (g_makeAt_yes l D H.size h0 tp mka bx rt mc cM mf mk i hyes him hmc) (cwV 1 hts gX8_press_X8_makeAt rfl rfl rfl (by decide +kernel) ⟨Nat.le_of_ble_eq_true rfl, Nat.le_of_ble_eq_true rfl⟩) (st_preV (ci := 7) (q0 := 0) hP hD hK hNW [0, 1] [1] rfl rfl (by decide) rfl rfl rfl rfl) rfl rfl hl.1 rfl (lv_room (Nat.le_of_ble_eq_true rfl)) dX8_press_2 ⟨(Nat.le_of_ble_eq_true rfl), (Nat.le_of_ble_eq_true rfl)⟩) (fun r_1 u H locs hw hP hD hK hS => ?_)
  have hw : r_1 = some mk := hw
  subst hw
  have hP : va_P D vwCl [(mk, .inr (3, [.int mq, .int mb, .ref fm, .ref ky, .int mi])), (fm, .inr (1, [.int fb, .int fp])), (tp, .inr (6, [.ref ta, .int tk])), (ta, .inl (cI, 120, .inl tf)), (ky, .inr (2, [.int kb, .ref ca, .ref cc, .int kf, .int kg, .int kl, .int kx, .int ko])), (ca, .inl (cI, 16, .inl kc)), (cc, .inl (cI, 4, .inl kd)), (h0, .inr (7, [.ref tp, .ref mka, .int mc, .ref bx, .ref rt])), (mka, .inl (cM, 8, .inr (.inr (.inr (.inr mf)))))] H := hP
  have hD : va_D A [(mk, .inr (3, [.int mq, .int mb, .ref fm, .ref ky, .int mi])), (fm, .inr (1, [.int fb, .int fp])), (tp, .inr (6, [.ref ta, .int tk])), (ta, .inl (cI, 120, .inl tf)), (ky, .inr (2, [.int kb, .ref ca, .ref cc, .int kf, .int kg, .int kl, .int kx, .int ko])), (ca, .inl (cI, 16, .inl kc)), (cc, .inl (cI, 4, .inl kd)), (h0, .inr (7, [.ref tp, .ref mka, .int mc, .ref bx, .ref rt])), (mka, .inl (cM, 8, .inr (.inr (.inr (.inr mf)))))] := hD
  have hK : va_K D vwCl [(cI, .int), (cM, .object "OneHandset$Make")] s := hK
  refine W.eq (g2 := F0 m 5 ls [.ref mk]) rfl ?_
  refine lv_astore_n (lv' := [(3, .ref mk), (0, .ref h0), (1, .int i), (2, .int v)]) hx hb dX8_press_5 rfl hl (by decide) rfl (fun ls hl => ?_)
  refine lv_aload_n hx hb dX8_press_6 rfl (lv_at hl 0 rfl) ?_
  refine lv_ifnull hx hb dX8_press_7 ?_
  refine lv_aload_n hx hb dX8_press_10 rfl (lv_at hl 0 rfl) ?_
  refine va_getN (D := D) (ci := 3) (v := .ref ky) (C := RX4) (T := TX4) (N := 5) hx hb hts hiy_pressH_X4 hown hK hP 0 rfl rfl 3 (by decide) (va_Nw.use rfl (hNW.1 ("OneHandset", 71, "OneHandset$Make", "keys", "LOneHandset$Keys;", "OneHandset") (List.mem_of_getElem? (l := nw_F) (i := 16) rfl))) (fun _ h9 => h9) rfl dX8_press_11 ?_
  refine lv_iload_n hx hb dX8_press_14 rfl (lv_at hl 3 rfl) ?_
  refine go_i (wr := [(mk, .inr (3, [.int mq, .int mb, .ref fm, .ref ky, .int mi])), (fm, .inr (1, [.int fb, .int fp])), (tp, .inr (6, [.ref ta, .int tk])), (ta, .inl (cI, 120, .inl tf)), (h0, .inr (7, [.ref tp, .ref mka, .int mc, .ref bx, .ref rt])), (mka, .inl (cM, 8, .inr (.inr (.inr (.inr mf)))))]) (tysr := [(cI, .int), (cM, .object "OneHandset$Make")]) hP hD hS hA hK [4, 5, 6] [0, 1, 2, 3, 7, 8] [0, 1] rfl rfl (by decide) (by decide) rfl (va_runV (As := [.int v]) (rest := []) ⟨hx, hb, hml, hown, hts⟩ (g_codeOf l D H.size cI ky ca cc kb kf kg kl kx ko kc kd v ) (cwV 1 hts gX8_press_X3_codeOf rfl rfl rfl (by decide +kernel) ⟨Nat.le_of_ble_eq_true rfl, Nat.le_of_ble_eq_true rfl⟩) (st_preV (ci := 2) (q0 := 4) hP hD hK hNW [4, 5, 6] [0] rfl rfl (by decide) rfl rfl rfl rfl) rfl rfl hl.1 rfl (lv_room (Nat.le_of_ble_eq_true rfl)) dX8_press_15 ⟨(Nat.le_of_ble_eq_true rfl), (Nat.le_of_ble_eq_true rfl)⟩) (fun r_2 u H locs hw hP hD hK hS => ?_)
  have hw : r_2 = -1 ∨ bi v 0 15 := hw
  have hw_3 := hw
  have hP : va_P D vwCl [(mk, .inr (3, [.int mq, .int mb, .ref fm, .ref ky, .int mi])), (fm, .inr (1, [.int fb, .int fp])), (tp, .inr (6, [.ref ta, .int tk])), (ta, .inl (cI, 120, .inl tf)), (h0, .inr (7, [.ref tp, .ref mka, .int mc, .ref bx, .ref rt])), (mka, .inl (cM, 8, .inr (.inr (.inr (.inr mf))))), (ky, .inr (2, [.int kb, .ref ca, .ref cc, .int kf, .int kg, .int kl, .int kx, .int ko])), (ca, .inl (cI, 16, .inl kc)), (cc, .inl (cI, 4, .inl kd))] H := hP
  have hD : va_D A [(mk, .inr (3, [.int mq, .int mb, .ref fm, .ref ky, .int mi])), (fm, .inr (1, [.int fb, .int fp])), (tp, .inr (6, [.ref ta, .int tk])), (ta, .inl (cI, 120, .inl tf)), (h0, .inr (7, [.ref tp, .ref mka, .int mc, .ref bx, .ref rt])), (mka, .inl (cM, 8, .inr (.inr (.inr (.inr mf))))), (ky, .inr (2, [.int kb, .ref ca, .ref cc, .int kf, .int kg, .int kl, .int kx, .int ko])), (ca, .inl (cI, 16, .inl kc)), (cc, .inl (cI, 4, .inl kd))] := hD
  have hK : va_K D vwCl [(cI, .int), (cM, .object "OneHandset$Make")] s := hK
  refine lv_iconst (v := (-1)) hx hb dX8_press_18 (by decide) ?_
  refine lv_icmp_ne (tgt := 24) hx hb dX8_press_19 (by decide) (fun c_4 => ?_) (fun c_4 => ?_)
  · refine lv_aload_n hx hb dX8_press_24 rfl (lv_at hl 0 rfl) ?_
    refine lv_aload_n hx hb dX8_press_25 rfl (lv_at hl 0 rfl) ?_
    refine va_getN (D := D) (ci := 3) (v := .ref ky) (C := RX4) (T := TX4) (N := 5) hx hb hts hiy_pressH_X4 hown hK hP 0 rfl rfl 3 (by decide) (va_Nw.use rfl (hNW.1 ("OneHandset", 71, "OneHandset$Make", "keys", "LOneHandset$Keys;", "OneHandset") (List.mem_of_getElem? (l := nw_F) (i := 16) rfl))) (fun _ h9 => h9) rfl dX8_press_26 ?_
    refine lv_iload_n hx hb dX8_press_29 rfl (lv_at hl 3 rfl) ?_
    refine go_i (wr := [(mk, .inr (3, [.int mq, .int mb, .ref fm, .ref ky, .int mi])), (fm, .inr (1, [.int fb, .int fp])), (tp, .inr (6, [.ref ta, .int tk])), (ta, .inl (cI, 120, .inl tf)), (h0, .inr (7, [.ref tp, .ref mka, .int mc, .ref bx, .ref rt])), (mka, .inl (cM, 8, .inr (.inr (.inr (.inr mf)))))]) (tysr := [(cI, .int), (cM, .object "OneHandset$Make")]) hP hD hS hA hK [6, 7, 8] [0, 1, 2, 3, 4, 5] [0, 1] rfl rfl (by decide) (by decide) rfl (va_runV (As := [.int v]) (rest := [.ref mk]) ⟨hx, hb, hml, hown, hts⟩ (g_codeToSend l D H.size cI ky ca cc kb kf kg kl kx ko kc kd v ) (cwV 1 hts gX8_press_X3_codeToSend rfl rfl rfl (by decide +kernel) ⟨Nat.le_of_ble_eq_true rfl, Nat.le_of_ble_eq_true rfl⟩) (st_preV (ci := 2) (q0 := 6) hP hD hK hNW [6, 7, 8] [0] rfl rfl (by decide) rfl rfl rfl rfl) rfl rfl hl.1 rfl (lv_room (Nat.le_of_ble_eq_true rfl)) dX8_press_30 ⟨(Nat.le_of_ble_eq_true rfl), (Nat.le_of_ble_eq_true rfl)⟩) (fun r_5 u H locs hw hP hD hK hS => ?_)
    obtain ⟨kg_6, rfl⟩ : ∃ z, z = u := ⟨_, rfl⟩
    have hP : va_P D vwCl [(mk, .inr (3, [.int mq, .int mb, .ref fm, .ref ky, .int mi])), (fm, .inr (1, [.int fb, .int fp])), (tp, .inr (6, [.ref ta, .int tk])), (ta, .inl (cI, 120, .inl tf)), (h0, .inr (7, [.ref tp, .ref mka, .int mc, .ref bx, .ref rt])), (mka, .inl (cM, 8, .inr (.inr (.inr (.inr mf))))), (ky, .inr (2, [.int kb, .ref ca, .ref cc, .int kf, .int kg_6, .int kl, .int kx, .int ko])), (ca, .inl (cI, 16, .inl kc)), (cc, .inl (cI, 4, .inl kd))] H := hP
    have hD : va_D A [(mk, .inr (3, [.int mq, .int mb, .ref fm, .ref ky, .int mi])), (fm, .inr (1, [.int fb, .int fp])), (tp, .inr (6, [.ref ta, .int tk])), (ta, .inl (cI, 120, .inl tf)), (h0, .inr (7, [.ref tp, .ref mka, .int mc, .ref bx, .ref rt])), (mka, .inl (cM, 8, .inr (.inr (.inr (.inr mf))))), (ky, .inr (2, [.int kb, .ref ca, .ref cc, .int kf, .int kg_6, .int kl, .int kx, .int ko])), (ca, .inl (cI, 16, .inl kc)), (cc, .inl (cI, 4, .inl kd))] := hD
    have hK : va_K D vwCl [(cI, .int), (cM, .object "OneHandset$Make")] s := hK
    refine lv_aload_n hx hb dX8_press_33 rfl (lv_at hl 1 rfl) ?_
    refine va_get (D := D) (ci := 7) (v := .ref tp) (C := RX8) (T := TX8) (N := 5) hx hb hts hiy_pressH_X8 hown hK hP 4 rfl rfl 0 (by decide) (hts (.fieldLink RX8 12 "OneHandset" "tape" "LOneHandset$Tape;") (List.mem_of_getElem? (i := 1) rfl)) (fun _ h9 => h9) rfl dX8_press_34 ?_
    refine go_i (wr := [(h0, .inr (7, [.ref tp, .ref mka, .int mc, .ref bx, .ref rt])), (mka, .inl (cM, 8, .inr (.inr (.inr (.inr mf))))), (ky, .inr (2, [.int kb, .ref ca, .ref cc, .int kf, .int kg_6, .int kl, .int kx, .int ko])), (ca, .inl (cI, 16, .inl kc)), (cc, .inl (cI, 4, .inl kd))]) (tysr := [(cI, .int), (cM, .object "OneHandset$Make")]) hP hD hS hA hK [0, 1, 2, 3] [4, 5, 6, 7, 8] [0, 1] rfl rfl (by decide) (by decide) rfl (va_runV (As := [.int r_5, .ref tp]) (rest := []) ⟨hx, hb, hml, hown, hts⟩ (g_flashH l D H.size cI mk fm ky mq mb mi fb fp tp ta tk tf r_5 hfb) (cwV 2 hts gX8_press_X4_flash rfl rfl rfl (by decide +kernel) ⟨Nat.le_of_ble_eq_true rfl, Nat.le_of_ble_eq_true rfl⟩) (st_preV (ci := 3) (q0 := 0) hP hD hK hNW [0, 1, 2, 3] [0] rfl rfl (by decide) rfl rfl rfl rfl) rfl rfl hl.1 rfl (lv_room (Nat.le_of_ble_eq_true rfl)) dX8_press_37 ⟨(Nat.le_of_ble_eq_true rfl), (Nat.le_of_ble_eq_true rfl)⟩) (fun r_7 u H locs hw hP hD hK hS => ?_)
    obtain ⟨tk_8, tf_9⟩ := u
    have hw : bi tk_8 0 120 ∧ r_7 = tk_8 ∧ tk_8 = nI (nHT (cN fb) r_5) := hw
    have hw_10 := hw
    have hP : va_P D vwCl [(h0, .inr (7, [.ref tp, .ref mka, .int mc, .ref bx, .ref rt])), (mka, .inl (cM, 8, .inr (.inr (.inr (.inr mf))))), (ky, .inr (2, [.int kb, .ref ca, .ref cc, .int kf, .int kg_6, .int kl, .int kx, .int ko])), (ca, .inl (cI, 16, .inl kc)), (cc, .inl (cI, 4, .inl kd)), (mk, .inr (3, [.int mq, .int mb, .ref fm, .ref ky, .int mi])), (fm, .inr (1, [.int fb, .int fp])), (tp, .inr (6, [.ref ta, .int tk_8])), (ta, .inl (cI, 120, .inl tf_9))] H := hP
    have hD : va_D A [(h0, .inr (7, [.ref tp, .ref mka, .int mc, .ref bx, .ref rt])), (mka, .inl (cM, 8, .inr (.inr (.inr (.inr mf))))), (ky, .inr (2, [.int kb, .ref ca, .ref cc, .int kf, .int kg_6, .int kl, .int kx, .int ko])), (ca, .inl (cI, 16, .inl kc)), (cc, .inl (cI, 4, .inl kd)), (mk, .inr (3, [.int mq, .int mb, .ref fm, .ref ky, .int mi])), (fm, .inr (1, [.int fb, .int fp])), (tp, .inr (6, [.ref ta, .int tk_8])), (ta, .inl (cI, 120, .inl tf_9))] := hD
    have hK : va_K D vwCl [(cI, .int), (cM, .object "OneHandset$Make")] s := hK
    exact ret_i hx hb hr hlocks rfl (u := (tk_8, tf_9, kg_6)) ((hw_10).1) (hP.sub [0, 1, 5, 6, 7, 8, 2, 3, 4] rfl) (hK.sub [] rfl) (hD.sub [0, 1, 5, 6, 7, 8, 2, 3, 4] (by decide) rfl) hS (Nat.le_of_ble_eq_true rfl) (Nat.le_of_ble_eq_true rfl) dX8_press_40
  refine lv_iconst (v := (-1)) hx hb dX8_press_22 (by decide) ?_
  exact ret_i hx hb hr hlocks rfl (u := (tk, tf, kg)) hk (hP.sub [4, 5, 0, 1, 2, 3, 6, 7, 8] rfl) (hK.sub [] rfl) (hD.sub [4, 5, 0, 1, 2, 3, 6, 7, 8] (by decide) rfl) hS (Nat.le_of_ble_eq_true rfl) (Nat.le_of_ble_eq_true rfl) dX8_press_23
theorem hiy_forget_X4 : ∀ w ∈ wsX40, w ∈ wsX8_forget := mem_pl [57, 58, 59, 60, 61] rfl
set_option maxHeartbeats 4000000 in
set_option maxRecDepth 100000 in
theorem y_forget (l : Launch) (D : va_G) (sz : Nat) (cI : ClassId) (h0 : Nat) (tp : Nat) (mka : Nat) (bx : Nat) (rt : Nat) (mc : Int32) (cM : ClassId) (mf : Nat → Option Nat) (mk : Nat) (fm : Nat) (ky : Nat) (mq : Int32) (mb : Int32) (mi : Int32) (ca : Nat) (cc : Nat) (kb : Int32) (kf : Int32) (kg : Int32) (kl : Int32) (kx : Int32) (ko : Int32) (kc : Nat → Int32) (kd : Nat → Int32) (i : Int32) (v : Int32) (hyes : ¬ wi i 0 (mc - 1) = 0) (him : mf (Int32.toNatClampNeg i) = some mk) (hmc : bi mc 0 8) : Ci l yX8_forget wsX8_forget ({ frames := 6, cells := 0, slots := 0, locals := 133 } : Room) D [.ref h0, .int i, .int v] [(h0, .inr (7, [.ref tp, .ref mka, .int mc, .ref bx, .ref rt])), (mka, .inl (cM, 8, .inr (.inr (.inr (.inr mf))))), (mk, .inr (3, [.int mq, .int mb, .ref fm, .ref ky, .int mi])), (ky, .inr (2, [.int kb, .ref ca, .ref cc, .int kf, .int kg, .int kl, .int kx, .int ko])), (ca, .inl (cI, 16, .inl kc)), (cc, .inl (cI, 4, .inl kd))] [(cI, .int), (cM, .object "OneHandset$Make")] sz (fun (r : Int32) => fun (u9 : Int32 × Int32 × Int32 × (Nat → Int32) × (Nat → Int32)) => match u9 with | (kl2, kx2, ko2, kc2, kd2) => True) (fun (u9 : Int32 × Int32 × Int32 × (Nat → Int32) × (Nat → Int32)) => match u9 with | (kl2, kx2, ko2, kc2, kd2) => [(h0, .inr (7, [.ref tp, .ref mka, .int mc, .ref bx, .ref rt])), (mka, .inl (cM, 8, .inr (.inr (.inr (.inr mf))))), (mk, .inr (3, [.int mq, .int mb, .ref fm, .ref ky, .int mi])), (ky, .inr (2, [.int kb, .ref ca, .ref cc, .int kf, .int kg, .int kl2, .int kx2, .int ko2])), (ca, .inl (cI, 16, .inl kc2)), (cc, .inl (cI, 4, .inl kd2))]) (fun (u9 : Int32 × Int32 × Int32 × (Nat → Int32) × (Nat → Int32)) => match u9 with | (kl2, kx2, ko2, kc2, kd2) => []) := by
  refine ct_i (cc := cX8_forget) (maxL := 4) (ret := (some .boolean)) (by decide) rfl (Nat.le_of_ble_eq_true rfl) ?_
  intro p e s m below meth c A ls H hx hb hr hts hown hml hlocks hin hA hS hP hK hD hNW hl hAe hsz
  have hl : lv_has ls 4 [(0, .ref h0), (1, .int i), (2, .int v)] := hl
  refine lv_aload_n hx hb dX8_forget_0 rfl (lv_at hl 0 rfl) ?_
  refine lv_iload_n hx hb dX8_forget_1 rfl (lv_at hl 1 rfl) ?_
  refine go_q (wr := [(mk, .inr (3, [.int mq, .int mb, .ref fm, .ref ky, .int mi])), (ky, .inr (2, [.int kb, .ref ca, .ref cc, .int kf, .int kg, .int kl, .int kx, .int ko])), (ca, .inl (cI, 16, .inl kc)), (cc, .inl (cI, 4, .inl kd))]) (tysr := [(cI, .int), (cM, .object "OneHandset$Make")]) hP hD hS hA hK [0, 1] [2, 3, 4, 5] [0, 1] rfl rfl (by decide) (by decide) rfl (va_runV (As := [.int i]) (rest := []) ⟨hx, hb, hml, hown, hts⟩ (g_makeAt_yes l D H.size h0 tp mka bx rt mc cM mf mk i hyes him hmc) (cwV 1 hts gX8_forget_X8_makeAt rfl rfl rfl (by decide +kernel) ⟨Nat.le_of_ble_eq_true rfl, Nat.le_of_ble_eq_true rfl⟩) (st_preV (ci := 7) (q0 := 0) hP hD hK hNW [0, 1] [1] rfl rfl (by decide) rfl rfl rfl rfl) rfl rfl hl.1 rfl (lv_room (Nat.le_of_ble_eq_true rfl)) dX8_forget_2 ⟨(Nat.le_of_ble_eq_true rfl), (Nat.le_of_ble_eq_true rfl)⟩) (fun r_1 u H locs hw hP hD hK hS => ?_)
  have hw : r_1 = some mk := hw
  subst hw
  have hP : va_P D vwCl [(mk, .inr (3, [.int mq, .int mb, .ref fm, .ref ky, .int mi])), (ky, .inr (2, [.int kb, .ref ca, .ref cc, .int kf, .int kg, .int kl, .int kx, .int ko])), (ca, .inl (cI, 16, .inl kc)), (cc, .inl (cI, 4, .inl kd)), (h0, .inr (7, [.ref tp, .ref mka, .int mc, .ref bx, .ref rt])), (mka, .inl (cM, 8, .inr (.inr (.inr (.inr mf)))))] H := hP
  have hD : va_D A [(mk, .inr (3, [.int mq, .int mb, .ref fm, .ref ky, .int mi])), (ky, .inr (2, [.int kb, .ref ca, .ref cc, .int kf, .int kg, .int kl, .int kx, .int ko])), (ca, .inl (cI, 16, .inl kc)), (cc, .inl (cI, 4, .inl kd)), (h0, .inr (7, [.ref tp, .ref mka, .int mc, .ref bx, .ref rt])), (mka, .inl (cM, 8, .inr (.inr (.inr (.inr mf)))))] := hD
  have hK : va_K D vwCl [(cI, .int), (cM, .object "OneHandset$Make")] s := hK
  refine W.eq (g2 := F0 m 5 ls [.ref mk]) rfl ?_
  refine lv_astore_n (lv' := [(3, .ref mk), (0, .ref h0), (1, .int i), (2, .int v)]) hx hb dX8_forget_5 rfl hl (by decide) rfl (fun ls hl => ?_)
  refine lv_aload_n hx hb dX8_forget_6 rfl (lv_at hl 0 rfl) ?_
  refine lv_ifnull hx hb dX8_forget_7 ?_
  refine lv_aload_n hx hb dX8_forget_10 rfl (lv_at hl 0 rfl) ?_
  refine va_getN (D := D) (ci := 3) (v := .ref ky) (C := RX4) (T := TX4) (N := 5) hx hb hts hiy_forget_X4 hown hK hP 0 rfl rfl 3 (by decide) (va_Nw.use rfl (hNW.1 ("OneHandset", 71, "OneHandset$Make", "keys", "LOneHandset$Keys;", "OneHandset") (List.mem_of_getElem? (l := nw_F) (i := 16) rfl))) (fun _ h9 => h9) rfl dX8_forget_11 ?_
  refine lv_iload_n hx hb dX8_forget_14 rfl (lv_at hl 3 rfl) ?_
  refine go_i (wr := [(mk, .inr (3, [.int mq, .int mb, .ref fm, .ref ky, .int mi])), (h0, .inr (7, [.ref tp, .ref mka, .int mc, .ref bx, .ref rt])), (mka, .inl (cM, 8, .inr (.inr (.inr (.inr mf)))))]) (tysr := [(cI, .int), (cM, .object "OneHandset$Make")]) hP hD hS hA hK [1, 2, 3] [0, 4, 5] [0, 1] rfl rfl (by decide) (by decide) rfl (va_runV (As := [.int v]) (rest := []) ⟨hx, hb, hml, hown, hts⟩ (g_drop l D H.size cI ky ca cc kb kf kg kl kx ko kc kd v ) (cwV 1 hts gX8_forget_X3_drop rfl rfl rfl (by decide +kernel) ⟨Nat.le_of_ble_eq_true rfl, Nat.le_of_ble_eq_true rfl⟩) (st_preV (ci := 2) (q0 := 1) hP hD hK hNW [1, 2, 3] [0] rfl rfl (by decide) rfl rfl rfl rfl) rfl rfl hl.1 rfl (lv_room (Nat.le_of_ble_eq_true rfl)) dX8_forget_15 ⟨(Nat.le_of_ble_eq_true rfl), (Nat.le_of_ble_eq_true rfl)⟩) (fun r_2 u H locs hw hP hD hK hS => ?_)
  obtain ⟨kl_3, kx_4, ko_5, kc_6, kd_7⟩ := u
  have hP : va_P D vwCl [(mk, .inr (3, [.int mq, .int mb, .ref fm, .ref ky, .int mi])), (h0, .inr (7, [.ref tp, .ref mka, .int mc, .ref bx, .ref rt])), (mka, .inl (cM, 8, .inr (.inr (.inr (.inr mf))))), (ky, .inr (2, [.int kb, .ref ca, .ref cc, .int kf, .int kg, .int kl_3, .int kx_4, .int ko_5])), (ca, .inl (cI, 16, .inl kc_6)), (cc, .inl (cI, 4, .inl kd_7))] H := hP
  have hD : va_D A [(mk, .inr (3, [.int mq, .int mb, .ref fm, .ref ky, .int mi])), (h0, .inr (7, [.ref tp, .ref mka, .int mc, .ref bx, .ref rt])), (mka, .inl (cM, 8, .inr (.inr (.inr (.inr mf))))), (ky, .inr (2, [.int kb, .ref ca, .ref cc, .int kf, .int kg, .int kl_3, .int kx_4, .int ko_5])), (ca, .inl (cI, 16, .inl kc_6)), (cc, .inl (cI, 4, .inl kd_7))] := hD
  have hK : va_K D vwCl [(cI, .int), (cM, .object "OneHandset$Make")] s := hK
  refine lv_if_eq (tgt := 25) hx hb dX8_forget_18 (by decide) (fun c_8 => ?_) (fun c_8 => ?_)
  · refine lv_iconst (v := 0) hx hb dX8_forget_25 (by decide) ?_
    exact ret_i hx hb hr hlocks rfl (u := (kl_3, kx_4, ko_5, kc_6, kd_7)) trivial (hP.sub [1, 2, 0, 3, 4, 5] rfl) (hK.sub [] rfl) (hD.sub [1, 2, 0, 3, 4, 5] (by decide) rfl) hS (Nat.le_of_ble_eq_true rfl) (Nat.le_of_ble_eq_true rfl) dX8_forget_26
  refine lv_iconst (v := 1) hx hb dX8_forget_21 (by decide) ?_
  refine lv_goto (tgt := 26) hx hb dX8_forget_22 (by decide) ?_
  exact ret_i hx hb hr hlocks rfl (u := (kl_3, kx_4, ko_5, kc_6, kd_7)) trivial (hP.sub [1, 2, 0, 3, 4, 5] rfl) (hK.sub [] rfl) (hD.sub [1, 2, 0, 3, 4, 5] (by decide) rfl) hS (Nat.le_of_ble_eq_true rfl) (Nat.le_of_ble_eq_true rfl) dX8_forget_26
theorem hiy_key_X4 : ∀ w ∈ wsX40, w ∈ wsX8_key := mem_pl [21, 22, 23, 24, 25] rfl
set_option maxHeartbeats 4000000 in
set_option maxRecDepth 100000 in
theorem y_key (l : Launch) (D : va_G) (sz : Nat) (cI : ClassId) (h0 : Nat) (tp : Nat) (mka : Nat) (bx : Nat) (rt : Nat) (mc : Int32) (cM : ClassId) (mf : Nat → Option Nat) (mk : Nat) (fm : Nat) (ky : Nat) (mq : Int32) (mb : Int32) (mi : Int32) (ca : Nat) (cc : Nat) (kb : Int32) (kf : Int32) (kg : Int32) (kl : Int32) (kx : Int32) (ko : Int32) (kc : Nat → Int32) (kd : Nat → Int32) (i : Int32) (v : Int32) (hyes : ¬ wi i 0 (mc - 1) = 0) (him : mf (Int32.toNatClampNeg i) = some mk) (hmc : bi mc 0 8) : Ci l yX8_key wsX8_key ({ frames := 3, cells := 0, slots := 0, locals := 64 } : Room) D [.ref h0, .int i, .int v] [(h0, .inr (7, [.ref tp, .ref mka, .int mc, .ref bx, .ref rt])), (mka, .inl (cM, 8, .inr (.inr (.inr (.inr mf))))), (mk, .inr (3, [.int mq, .int mb, .ref fm, .ref ky, .int mi])), (ky, .inr (2, [.int kb, .ref ca, .ref cc, .int kf, .int kg, .int kl, .int kx, .int ko])), (ca, .inl (cI, 16, .inl kc)), (cc, .inl (cI, 4, .inl kd))] [(cI, .int), (cM, .object "OneHandset$Make")] sz (fun (r : Int32) => fun (_ : Unit) => True) (fun (_ : Unit) => [(h0, .inr (7, [.ref tp, .ref mka, .int mc, .ref bx, .ref rt])), (mka, .inl (cM, 8, .inr (.inr (.inr (.inr mf))))), (mk, .inr (3, [.int mq, .int mb, .ref fm, .ref ky, .int mi])), (ky, .inr (2, [.int kb, .ref ca, .ref cc, .int kf, .int kg, .int kl, .int kx, .int ko])), (ca, .inl (cI, 16, .inl kc)), (cc, .inl (cI, 4, .inl kd))]) (fun (_ : Unit) => []) := by
  refine ct_i (cc := cX8_key) (maxL := 4) (ret := (some .int)) (by decide) rfl (Nat.le_of_ble_eq_true rfl) ?_
  intro p e s m below meth c A ls H hx hb hr hts hown hml hlocks hin hA hS hP hK hD hNW hl hAe hsz
  have hl : lv_has ls 4 [(0, .ref h0), (1, .int i), (2, .int v)] := hl
  refine lv_aload_n hx hb dX8_key_0 rfl (lv_at hl 0 rfl) ?_
  refine lv_iload_n hx hb dX8_key_1 rfl (lv_at hl 1 rfl) ?_
  refine go_q (wr := [(mk, .inr (3, [.int mq, .int mb, .ref fm, .ref ky, .int mi])), (ky, .inr (2, [.int kb, .ref ca, .ref cc, .int kf, .int kg, .int kl, .int kx, .int ko])), (ca, .inl (cI, 16, .inl kc)), (cc, .inl (cI, 4, .inl kd))]) (tysr := [(cI, .int), (cM, .object "OneHandset$Make")]) hP hD hS hA hK [0, 1] [2, 3, 4, 5] [0, 1] rfl rfl (by decide) (by decide) rfl (va_runV (As := [.int i]) (rest := []) ⟨hx, hb, hml, hown, hts⟩ (g_makeAt_yes l D H.size h0 tp mka bx rt mc cM mf mk i hyes him hmc) (cwV 1 hts gX8_key_X8_makeAt rfl rfl rfl (by decide +kernel) ⟨Nat.le_of_ble_eq_true rfl, Nat.le_of_ble_eq_true rfl⟩) (st_preV (ci := 7) (q0 := 0) hP hD hK hNW [0, 1] [1] rfl rfl (by decide) rfl rfl rfl rfl) rfl rfl hl.1 rfl (lv_room (Nat.le_of_ble_eq_true rfl)) dX8_key_2 ⟨(Nat.le_of_ble_eq_true rfl), (Nat.le_of_ble_eq_true rfl)⟩) (fun r_1 u H locs hw hP hD hK hS => ?_)
  have hw : r_1 = some mk := hw
  subst hw
  have hP : va_P D vwCl [(mk, .inr (3, [.int mq, .int mb, .ref fm, .ref ky, .int mi])), (ky, .inr (2, [.int kb, .ref ca, .ref cc, .int kf, .int kg, .int kl, .int kx, .int ko])), (ca, .inl (cI, 16, .inl kc)), (cc, .inl (cI, 4, .inl kd)), (h0, .inr (7, [.ref tp, .ref mka, .int mc, .ref bx, .ref rt])), (mka, .inl (cM, 8, .inr (.inr (.inr (.inr mf)))))] H := hP
  have hD : va_D A [(mk, .inr (3, [.int mq, .int mb, .ref fm, .ref ky, .int mi])), (ky, .inr (2, [.int kb, .ref ca, .ref cc, .int kf, .int kg, .int kl, .int kx, .int ko])), (ca, .inl (cI, 16, .inl kc)), (cc, .inl (cI, 4, .inl kd)), (h0, .inr (7, [.ref tp, .ref mka, .int mc, .ref bx, .ref rt])), (mka, .inl (cM, 8, .inr (.inr (.inr (.inr mf)))))] := hD
  have hK : va_K D vwCl [(cI, .int), (cM, .object "OneHandset$Make")] s := hK
  refine W.eq (g2 := F0 m 5 ls [.ref mk]) rfl ?_
  refine lv_astore_n (lv' := [(3, .ref mk), (0, .ref h0), (1, .int i), (2, .int v)]) hx hb dX8_key_5 rfl hl (by decide) rfl (fun ls hl => ?_)
  refine lv_aload_n hx hb dX8_key_6 rfl (lv_at hl 0 rfl) ?_
  refine lv_ifnonnull (tgt := 14) hx hb dX8_key_7 (by decide) ?_
  refine lv_aload_n hx hb dX8_key_14 rfl (lv_at hl 0 rfl) ?_
  refine va_getN (D := D) (ci := 3) (v := .ref ky) (C := RX4) (T := TX4) (N := 5) hx hb hts hiy_key_X4 hown hK hP 0 rfl rfl 3 (by decide) (va_Nw.use rfl (hNW.1 ("OneHandset", 71, "OneHandset$Make", "keys", "LOneHandset$Keys;", "OneHandset") (List.mem_of_getElem? (l := nw_F) (i := 16) rfl))) (fun _ h9 => h9) rfl dX8_key_15 ?_
  refine lv_iload_n hx hb dX8_key_18 rfl (lv_at hl 3 rfl) ?_
  refine go_i (wr := [(mk, .inr (3, [.int mq, .int mb, .ref fm, .ref ky, .int mi])), (h0, .inr (7, [.ref tp, .ref mka, .int mc, .ref bx, .ref rt])), (mka, .inl (cM, 8, .inr (.inr (.inr (.inr mf)))))]) (tysr := [(cI, .int), (cM, .object "OneHandset$Make")]) hP hD hS hA hK [1, 2, 3] [0, 4, 5] [0, 1] rfl rfl (by decide) (by decide) rfl (va_runV (As := [.int v]) (rest := []) ⟨hx, hb, hml, hown, hts⟩ (g_codeOf l D H.size cI ky ca cc kb kf kg kl kx ko kc kd v ) (cwV 1 hts gX8_key_X3_codeOf rfl rfl rfl (by decide +kernel) ⟨Nat.le_of_ble_eq_true rfl, Nat.le_of_ble_eq_true rfl⟩) (st_preV (ci := 2) (q0 := 1) hP hD hK hNW [1, 2, 3] [0] rfl rfl (by decide) rfl rfl rfl rfl) rfl rfl hl.1 rfl (lv_room (Nat.le_of_ble_eq_true rfl)) dX8_key_19 ⟨(Nat.le_of_ble_eq_true rfl), (Nat.le_of_ble_eq_true rfl)⟩) (fun r_2 u H locs hw hP hD hK hS => ?_)
  have hw : r_2 = -1 ∨ bi v 0 15 := hw
  have hw_3 := hw
  have hP : va_P D vwCl [(mk, .inr (3, [.int mq, .int mb, .ref fm, .ref ky, .int mi])), (h0, .inr (7, [.ref tp, .ref mka, .int mc, .ref bx, .ref rt])), (mka, .inl (cM, 8, .inr (.inr (.inr (.inr mf))))), (ky, .inr (2, [.int kb, .ref ca, .ref cc, .int kf, .int kg, .int kl, .int kx, .int ko])), (ca, .inl (cI, 16, .inl kc)), (cc, .inl (cI, 4, .inl kd))] H := hP
  have hD : va_D A [(mk, .inr (3, [.int mq, .int mb, .ref fm, .ref ky, .int mi])), (h0, .inr (7, [.ref tp, .ref mka, .int mc, .ref bx, .ref rt])), (mka, .inl (cM, 8, .inr (.inr (.inr (.inr mf))))), (ky, .inr (2, [.int kb, .ref ca, .ref cc, .int kf, .int kg, .int kl, .int kx, .int ko])), (ca, .inl (cI, 16, .inl kc)), (cc, .inl (cI, 4, .inl kd))] := hD
  have hK : va_K D vwCl [(cI, .int), (cM, .object "OneHandset$Make")] s := hK
  exact ret_i hx hb hr hlocks rfl (u := ()) trivial (hP.sub [1, 2, 0, 3, 4, 5] rfl) (hK.sub [] rfl) (hD.sub [1, 2, 0, 3, 4, 5] (by decide) rfl) hS (Nat.le_of_ble_eq_true rfl) (Nat.le_of_ble_eq_true rfl) dX8_key_22
theorem hiy_of_X4 : ∀ w ∈ wsX40, w ∈ wsX8_of := mem_pl [11, 12, 13, 14, 15] rfl
theorem hiy_of_X3 : ∀ w ∈ wsX30, w ∈ wsX8_of := mem_pl [16, 17, 18, 19, 20, 21, 22, 23] rfl
set_option maxHeartbeats 4000000 in
set_option maxRecDepth 100000 in
theorem y_of (l : Launch) (D : va_G) (sz : Nat) (cI : ClassId) (h0 : Nat) (tp : Nat) (mka : Nat) (bx : Nat) (rt : Nat) (mc : Int32) (cM : ClassId) (mf : Nat → Option Nat) (mk : Nat) (fm : Nat) (ky : Nat) (mq : Int32) (mb : Int32) (mi : Int32) (ca : Nat) (cc : Nat) (kb : Int32) (kf : Int32) (kg : Int32) (kl : Int32) (kx : Int32) (ko : Int32) (i : Int32) (v : Int32) (hyes : ¬ wi i 0 (mc - 1) = 0) (him : mf (Int32.toNatClampNeg i) = some mk) (hmc : bi mc 0 8) : Ci l yX8_of wsX8_of ({ frames := 2, cells := 0, slots := 0, locals := 43 } : Room) D [.ref h0, .int i, .int v] [(h0, .inr (7, [.ref tp, .ref mka, .int mc, .ref bx, .ref rt])), (mka, .inl (cM, 8, .inr (.inr (.inr (.inr mf))))), (mk, .inr (3, [.int mq, .int mb, .ref fm, .ref ky, .int mi])), (ky, .inr (2, [.int kb, .ref ca, .ref cc, .int kf, .int kg, .int kl, .int kx, .int ko]))] [(cI, .int), (cM, .object "OneHandset$Make")] sz (fun (r : Int32) => fun (_ : Unit) => True) (fun (_ : Unit) => [(h0, .inr (7, [.ref tp, .ref mka, .int mc, .ref bx, .ref rt])), (mka, .inl (cM, 8, .inr (.inr (.inr (.inr mf))))), (mk, .inr (3, [.int mq, .int mb, .ref fm, .ref ky, .int mi])), (ky, .inr (2, [.int kb, .ref ca, .ref cc, .int kf, .int kg, .int kl, .int kx, .int ko]))]) (fun (_ : Unit) => []) := by
  refine ct_i (cc := cX8_of) (maxL := 4) (ret := (some .int)) (by decide) rfl (Nat.le_of_ble_eq_true rfl) ?_
  intro p e s m below meth c A ls H hx hb hr hts hown hml hlocks hin hA hS hP hK hD hNW hl hAe hsz
  have hl : lv_has ls 4 [(0, .ref h0), (1, .int i), (2, .int v)] := hl
  refine lv_aload_n hx hb dX8_of_0 rfl (lv_at hl 0 rfl) ?_
  refine lv_iload_n hx hb dX8_of_1 rfl (lv_at hl 1 rfl) ?_
  refine go_q (wr := [(mk, .inr (3, [.int mq, .int mb, .ref fm, .ref ky, .int mi])), (ky, .inr (2, [.int kb, .ref ca, .ref cc, .int kf, .int kg, .int kl, .int kx, .int ko]))]) (tysr := [(cI, .int), (cM, .object "OneHandset$Make")]) hP hD hS hA hK [0, 1] [2, 3] [0, 1] rfl rfl (by decide) (by decide) rfl (va_runV (As := [.int i]) (rest := []) ⟨hx, hb, hml, hown, hts⟩ (g_makeAt_yes l D H.size h0 tp mka bx rt mc cM mf mk i hyes him hmc) (cwV 1 hts gX8_of_X8_makeAt rfl rfl rfl (by decide +kernel) ⟨Nat.le_of_ble_eq_true rfl, Nat.le_of_ble_eq_true rfl⟩) (st_preV (ci := 7) (q0 := 0) hP hD hK hNW [0, 1] [1] rfl rfl (by decide) rfl rfl rfl rfl) rfl rfl hl.1 rfl (lv_room (Nat.le_of_ble_eq_true rfl)) dX8_of_2 ⟨(Nat.le_of_ble_eq_true rfl), (Nat.le_of_ble_eq_true rfl)⟩) (fun r_1 u H locs hw hP hD hK hS => ?_)
  have hw : r_1 = some mk := hw
  subst hw
  have hP : va_P D vwCl [(mk, .inr (3, [.int mq, .int mb, .ref fm, .ref ky, .int mi])), (ky, .inr (2, [.int kb, .ref ca, .ref cc, .int kf, .int kg, .int kl, .int kx, .int ko])), (h0, .inr (7, [.ref tp, .ref mka, .int mc, .ref bx, .ref rt])), (mka, .inl (cM, 8, .inr (.inr (.inr (.inr mf)))))] H := hP
  have hD : va_D A [(mk, .inr (3, [.int mq, .int mb, .ref fm, .ref ky, .int mi])), (ky, .inr (2, [.int kb, .ref ca, .ref cc, .int kf, .int kg, .int kl, .int kx, .int ko])), (h0, .inr (7, [.ref tp, .ref mka, .int mc, .ref bx, .ref rt])), (mka, .inl (cM, 8, .inr (.inr (.inr (.inr mf)))))] := hD
  have hK : va_K D vwCl [(cI, .int), (cM, .object "OneHandset$Make")] s := hK
  refine W.eq (g2 := F0 m 5 ls [.ref mk]) rfl ?_
  refine lv_astore_n (lv' := [(3, .ref mk), (0, .ref h0), (1, .int i), (2, .int v)]) hx hb dX8_of_5 rfl hl (by decide) rfl (fun ls hl => ?_)
  refine lv_aload_n hx hb dX8_of_6 rfl (lv_at hl 0 rfl) ?_
  refine lv_ifnonnull (tgt := 12) hx hb dX8_of_7 (by decide) ?_
  refine lv_iload_n hx hb dX8_of_12 rfl (lv_at hl 3 rfl) ?_
  rcases tsw (n := 7) (by decide) (by decide) v with h_2 | h_2
  · obtain ⟨k_9, hk_9, e_9⟩ := h_2
    rcases (show k_9 = 0 ∨ k_9 = 1 ∨ k_9 = 2 ∨ k_9 = 3 ∨ k_9 = 4 ∨ k_9 = 5 ∨ k_9 = 6 by omega) with rfl | rfl | rfl | rfl | rfl | rfl | rfl
    · have c_3 : v = (0 : Int32) := e_9
      refine W.eq (g2 := F0 m 13 ls [.int 0]) (by rw [c_3]) ?_
      refine lv_tableIn (off := 43) (tgt := 56) hx hb dX8_of_13 (by decide) (by decide) rfl (by decide) ?_
      refine lv_aload_n hx hb dX8_of_56 rfl (lv_at hl 0 rfl) ?_
      refine va_getN (D := D) (ci := 3) (v := .int mq) (C := RX4) (T := TX4) (N := 5) hx hb hts hiy_of_X4 hown hK hP 0 rfl rfl 0 (by decide) (va_Nw.use rfl (hNW.1 ("OneHandset", 124, "OneHandset$Make", "kind", "I", "OneHandset") (List.mem_of_getElem? (l := nw_F) (i := 14) rfl))) (fun _ h9 => h9) rfl dX8_of_57 ?_
      exact ret_i hx hb hr hlocks rfl (u := ()) trivial (hP.sub [2, 3, 0, 1] rfl) (hK.sub [] rfl) (hD.sub [2, 3, 0, 1] (by decide) rfl) hS (Nat.le_of_ble_eq_true rfl) (Nat.le_of_ble_eq_true rfl) dX8_of_60
    · have c_4 : v = (1 : Int32) := e_9
      refine W.eq (g2 := F0 m 13 ls [.int 1]) (by rw [c_4]) ?_
      refine lv_tableIn (off := 48) (tgt := 61) hx hb dX8_of_13 (by decide) (by decide) rfl (by decide) ?_
      refine lv_aload_n hx hb dX8_of_61 rfl (lv_at hl 0 rfl) ?_
      refine va_getN (D := D) (ci := 3) (v := .int mb) (C := RX4) (T := TX4) (N := 5) hx hb hts hiy_of_X4 hown hK hP 0 rfl rfl 1 (by decide) (va_Nw.use rfl (hNW.1 ("OneHandset", 68, "OneHandset$Make", "bits", "I", "OneHandset") (List.mem_of_getElem? (l := nw_F) (i := 15) rfl))) (fun _ h9 => h9) rfl dX8_of_62 ?_
      exact ret_i hx hb hr hlocks rfl (u := ()) trivial (hP.sub [2, 3, 0, 1] rfl) (hK.sub [] rfl) (hD.sub [2, 3, 0, 1] (by decide) rfl) hS (Nat.le_of_ble_eq_true rfl) (Nat.le_of_ble_eq_true rfl) dX8_of_65
    · have c_5 : v = (2 : Int32) := e_9
      refine W.eq (g2 := F0 m 13 ls [.int 2]) (by rw [c_5]) ?_
      refine lv_tableIn (off := 53) (tgt := 66) hx hb dX8_of_13 (by decide) (by decide) rfl (by decide) ?_
      refine lv_aload_n hx hb dX8_of_66 rfl (lv_at hl 0 rfl) ?_
      refine va_getN (D := D) (ci := 3) (v := .int mi) (C := RX4) (T := TX4) (N := 5) hx hb hts hiy_of_X4 hown hK hP 0 rfl rfl 4 (by decide) (va_Nw.use rfl (hNW.1 ("OneHandset", 65, "OneHandset$Make", "miss", "I", "OneHandset") (List.mem_of_getElem? (l := nw_F) (i := 17) rfl))) (fun _ h9 => h9) rfl dX8_of_67 ?_
      exact ret_i hx hb hr hlocks rfl (u := ()) trivial (hP.sub [2, 3, 0, 1] rfl) (hK.sub [] rfl) (hD.sub [2, 3, 0, 1] (by decide) rfl) hS (Nat.le_of_ble_eq_true rfl) (Nat.le_of_ble_eq_true rfl) dX8_of_70
    · have c_6 : v = (3 : Int32) := e_9
      refine W.eq (g2 := F0 m 13 ls [.int 3]) (by rw [c_6]) ?_
      refine lv_tableIn (off := 58) (tgt := 71) hx hb dX8_of_13 (by decide) (by decide) rfl (by decide) ?_
      refine lv_aload_n hx hb dX8_of_71 rfl (lv_at hl 0 rfl) ?_
      refine va_getN (D := D) (ci := 3) (v := .ref ky) (C := RX4) (T := TX4) (N := 5) hx hb hts hiy_of_X4 hown hK hP 0 rfl rfl 3 (by decide) (va_Nw.use rfl (hNW.1 ("OneHandset", 71, "OneHandset$Make", "keys", "LOneHandset$Keys;", "OneHandset") (List.mem_of_getElem? (l := nw_F) (i := 16) rfl))) (fun _ h9 => h9) rfl dX8_of_72 ?_
      refine va_getN (D := D) (ci := 2) (v := .int kf) (C := RX3) (T := TX3) (N := 8) hx hb hts hiy_of_X3 hown hK hP 1 rfl rfl 3 (by decide) (va_Nw.use rfl (hNW.1 ("OneHandset", 127, "OneHandset$Keys", "flip", "I", "OneHandset") (List.mem_of_getElem? (l := nw_F) (i := 10) rfl))) (fun _ h9 => h9) rfl dX8_of_75 ?_
      exact ret_i hx hb hr hlocks rfl (u := ()) trivial (hP.sub [2, 3, 0, 1] rfl) (hK.sub [] rfl) (hD.sub [2, 3, 0, 1] (by decide) rfl) hS (Nat.le_of_ble_eq_true rfl) (Nat.le_of_ble_eq_true rfl) dX8_of_78
    · have c_7 : v = (4 : Int32) := e_9
      refine W.eq (g2 := F0 m 13 ls [.int 4]) (by rw [c_7]) ?_
      refine lv_tableIn (off := 66) (tgt := 79) hx hb dX8_of_13 (by decide) (by decide) rfl (by decide) ?_
      refine lv_aload_n hx hb dX8_of_79 rfl (lv_at hl 0 rfl) ?_
      refine va_getN (D := D) (ci := 3) (v := .ref ky) (C := RX4) (T := TX4) (N := 5) hx hb hts hiy_of_X4 hown hK hP 0 rfl rfl 3 (by decide) (va_Nw.use rfl (hNW.1 ("OneHandset", 71, "OneHandset$Make", "keys", "LOneHandset$Keys;", "OneHandset") (List.mem_of_getElem? (l := nw_F) (i := 16) rfl))) (fun _ h9 => h9) rfl dX8_of_80 ?_
      refine va_getN (D := D) (ci := 2) (v := .int kl) (C := RX3) (T := TX3) (N := 8) hx hb hts hiy_of_X3 hown hK hP 1 rfl rfl 5 (by decide) (va_Nw.use rfl (hNW.1 ("OneHandset", 130, "OneHandset$Keys", "learnt", "I", "OneHandset") (List.mem_of_getElem? (l := nw_F) (i := 12) rfl))) (fun _ h9 => h9) rfl dX8_of_83 ?_
      exact ret_i hx hb hr hlocks rfl (u := ()) trivial (hP.sub [2, 3, 0, 1] rfl) (hK.sub [] rfl) (hD.sub [2, 3, 0, 1] (by decide) rfl) hS (Nat.le_of_ble_eq_true rfl) (Nat.le_of_ble_eq_true rfl) dX8_of_86
    · have c_8 : v = (5 : Int32) := e_9
      refine W.eq (g2 := F0 m 13 ls [.int 5]) (by rw [c_8]) ?_
      refine lv_tableIn (off := 74) (tgt := 87) hx hb dX8_of_13 (by decide) (by decide) rfl (by decide) ?_
      refine lv_aload_n hx hb dX8_of_87 rfl (lv_at hl 0 rfl) ?_
      refine va_getN (D := D) (ci := 3) (v := .ref ky) (C := RX4) (T := TX4) (N := 5) hx hb hts hiy_of_X4 hown hK hP 0 rfl rfl 3 (by decide) (va_Nw.use rfl (hNW.1 ("OneHandset", 71, "OneHandset$Make", "keys", "LOneHandset$Keys;", "OneHandset") (List.mem_of_getElem? (l := nw_F) (i := 16) rfl))) (fun _ h9 => h9) rfl dX8_of_88 ?_
      refine va_getN (D := D) (ci := 2) (v := .int kx) (C := RX3) (T := TX3) (N := 8) hx hb hts hiy_of_X3 hown hK hP 1 rfl rfl 6 (by decide) (va_Nw.use rfl (hNW.1 ("OneHandset", 133, "OneHandset$Keys", "fixed", "I", "OneHandset") (List.mem_of_getElem? (l := nw_F) (i := 13) rfl))) (fun _ h9 => h9) rfl dX8_of_91 ?_
      exact ret_i hx hb hr hlocks rfl (u := ()) trivial (hP.sub [2, 3, 0, 1] rfl) (hK.sub [] rfl) (hD.sub [2, 3, 0, 1] (by decide) rfl) hS (Nat.le_of_ble_eq_true rfl) (Nat.le_of_ble_eq_true rfl) dX8_of_94
    · have c_9 : v = (6 : Int32) := e_9
      refine W.eq (g2 := F0 m 13 ls [.int 6]) (by rw [c_9]) ?_
      refine lv_tableIn (off := 82) (tgt := 95) hx hb dX8_of_13 (by decide) (by decide) rfl (by decide) ?_
      refine lv_aload_n hx hb dX8_of_95 rfl (lv_at hl 0 rfl) ?_
      refine va_getN (D := D) (ci := 3) (v := .ref ky) (C := RX4) (T := TX4) (N := 5) hx hb hts hiy_of_X4 hown hK hP 0 rfl rfl 3 (by decide) (va_Nw.use rfl (hNW.1 ("OneHandset", 71, "OneHandset$Make", "keys", "LOneHandset$Keys;", "OneHandset") (List.mem_of_getElem? (l := nw_F) (i := 16) rfl))) (fun _ h9 => h9) rfl dX8_of_96 ?_
      refine va_getN (D := D) (ci := 2) (v := .int kg) (C := RX3) (T := TX3) (N := 8) hx hb hts hiy_of_X3 hown hK hP 1 rfl rfl 4 (by decide) (va_Nw.use rfl (hNW.1 ("OneHandset", 136, "OneHandset$Keys", "flipBit", "I", "OneHandset") (List.mem_of_getElem? (l := nw_F) (i := 11) rfl))) (fun _ h9 => h9) rfl dX8_of_99 ?_
      exact ret_i hx hb hr hlocks rfl (u := ()) trivial (hP.sub [2, 3, 0, 1] rfl) (hK.sub [] rfl) (hD.sub [2, 3, 0, 1] (by decide) rfl) hS (Nat.le_of_ble_eq_true rfl) (Nat.le_of_ble_eq_true rfl) dX8_of_102
  refine lv_tableOut (tgt := 103) hx hb dX8_of_13 h_2 (by decide) ?_
  have c_11 : ¬ v = (0 : Int32) := tsw_ne (n := 7) (k := 0) (by decide) (by decide) h_2
  have c_12 : ¬ v = (1 : Int32) := tsw_ne (n := 7) (k := 1) (by decide) (by decide) h_2
  have c_13 : ¬ v = (2 : Int32) := tsw_ne (n := 7) (k := 2) (by decide) (by decide) h_2
  have c_14 : ¬ v = (3 : Int32) := tsw_ne (n := 7) (k := 3) (by decide) (by decide) h_2
  have c_15 : ¬ v = (4 : Int32) := tsw_ne (n := 7) (k := 4) (by decide) (by decide) h_2
  have c_16 : ¬ v = (5 : Int32) := tsw_ne (n := 7) (k := 5) (by decide) (by decide) h_2
  have c_17 : ¬ v = (6 : Int32) := tsw_ne (n := 7) (k := 6) (by decide) (by decide) h_2
  refine lv_iconst (v := (-1)) hx hb dX8_of_103 (by decide) ?_
  exact ret_i hx hb hr hlocks rfl (u := ()) trivial (hP.sub [2, 3, 0, 1] rfl) (hK.sub [] rfl) (hD.sub [2, 3, 0, 1] (by decide) rfl) hS (Nat.le_of_ble_eq_true rfl) (Nat.le_of_ble_eq_true rfl) dX8_of_104
theorem hiy_check_X4 : ∀ w ∈ wsX40, w ∈ wsX8_check := mem_pl [17, 18, 19, 20, 21] rfl
set_option maxHeartbeats 4000000 in
set_option maxRecDepth 100000 in
theorem y_check (l : Launch) (D : va_G) (sz : Nat) (cI : ClassId) (h0 : Nat) (tp : Nat) (mka : Nat) (bx : Nat) (rt : Nat) (mc : Int32) (cM : ClassId) (mf : Nat → Option Nat) (mk : Nat) (fm : Nat) (ky : Nat) (mq : Int32) (mb : Int32) (mi : Int32) (ca : Nat) (cc : Nat) (kb : Int32) (kf : Int32) (kg : Int32) (kl : Int32) (kx : Int32) (ko : Int32) (kc : Nat → Int32) (kd : Nat → Int32) (i : Int32) (v : Int32) (hyes : ¬ wi i 0 (mc - 1) = 0) (him : mf (Int32.toNatClampNeg i) = some mk) (hmc : bi mc 0 8) : Ci l yX8_check wsX8_check ({ frames := 2, cells := 0, slots := 0, locals := 43 } : Room) D [.ref h0, .int i, .int v] [(h0, .inr (7, [.ref tp, .ref mka, .int mc, .ref bx, .ref rt])), (mka, .inl (cM, 8, .inr (.inr (.inr (.inr mf))))), (mk, .inr (3, [.int mq, .int mb, .ref fm, .ref ky, .int mi])), (ky, .inr (2, [.int kb, .ref ca, .ref cc, .int kf, .int kg, .int kl, .int kx, .int ko])), (ca, .inl (cI, 16, .inl kc)), (cc, .inl (cI, 4, .inl kd))] [(cI, .int), (cM, .object "OneHandset$Make")] sz (fun (r : Int32) => fun (_ : Unit) => True) (fun (_ : Unit) => [(h0, .inr (7, [.ref tp, .ref mka, .int mc, .ref bx, .ref rt])), (mka, .inl (cM, 8, .inr (.inr (.inr (.inr mf))))), (mk, .inr (3, [.int mq, .int mb, .ref fm, .ref ky, .int mi])), (ky, .inr (2, [.int kb, .ref ca, .ref cc, .int kf, .int kg, .int kl, .int kx, .int ko])), (ca, .inl (cI, 16, .inl kc)), (cc, .inl (cI, 4, .inl kd))]) (fun (_ : Unit) => []) := by
  refine ct_i (cc := cX8_check) (maxL := 4) (ret := (some .int)) (by decide) rfl (Nat.le_of_ble_eq_true rfl) ?_
  intro p e s m below meth c A ls H hx hb hr hts hown hml hlocks hin hA hS hP hK hD hNW hl hAe hsz
  have hl : lv_has ls 4 [(0, .ref h0), (1, .int i), (2, .int v)] := hl
  refine lv_aload_n hx hb dX8_check_0 rfl (lv_at hl 0 rfl) ?_
  refine lv_iload_n hx hb dX8_check_1 rfl (lv_at hl 1 rfl) ?_
  refine go_q (wr := [(mk, .inr (3, [.int mq, .int mb, .ref fm, .ref ky, .int mi])), (ky, .inr (2, [.int kb, .ref ca, .ref cc, .int kf, .int kg, .int kl, .int kx, .int ko])), (ca, .inl (cI, 16, .inl kc)), (cc, .inl (cI, 4, .inl kd))]) (tysr := [(cI, .int), (cM, .object "OneHandset$Make")]) hP hD hS hA hK [0, 1] [2, 3, 4, 5] [0, 1] rfl rfl (by decide) (by decide) rfl (va_runV (As := [.int i]) (rest := []) ⟨hx, hb, hml, hown, hts⟩ (g_makeAt_yes l D H.size h0 tp mka bx rt mc cM mf mk i hyes him hmc) (cwV 1 hts gX8_check_X8_makeAt rfl rfl rfl (by decide +kernel) ⟨Nat.le_of_ble_eq_true rfl, Nat.le_of_ble_eq_true rfl⟩) (st_preV (ci := 7) (q0 := 0) hP hD hK hNW [0, 1] [1] rfl rfl (by decide) rfl rfl rfl rfl) rfl rfl hl.1 rfl (lv_room (Nat.le_of_ble_eq_true rfl)) dX8_check_2 ⟨(Nat.le_of_ble_eq_true rfl), (Nat.le_of_ble_eq_true rfl)⟩) (fun r_1 u H locs hw hP hD hK hS => ?_)
  have hw : r_1 = some mk := hw
  subst hw
  have hP : va_P D vwCl [(mk, .inr (3, [.int mq, .int mb, .ref fm, .ref ky, .int mi])), (ky, .inr (2, [.int kb, .ref ca, .ref cc, .int kf, .int kg, .int kl, .int kx, .int ko])), (ca, .inl (cI, 16, .inl kc)), (cc, .inl (cI, 4, .inl kd)), (h0, .inr (7, [.ref tp, .ref mka, .int mc, .ref bx, .ref rt])), (mka, .inl (cM, 8, .inr (.inr (.inr (.inr mf)))))] H := hP
  have hD : va_D A [(mk, .inr (3, [.int mq, .int mb, .ref fm, .ref ky, .int mi])), (ky, .inr (2, [.int kb, .ref ca, .ref cc, .int kf, .int kg, .int kl, .int kx, .int ko])), (ca, .inl (cI, 16, .inl kc)), (cc, .inl (cI, 4, .inl kd)), (h0, .inr (7, [.ref tp, .ref mka, .int mc, .ref bx, .ref rt])), (mka, .inl (cM, 8, .inr (.inr (.inr (.inr mf)))))] := hD
  have hK : va_K D vwCl [(cI, .int), (cM, .object "OneHandset$Make")] s := hK
  refine W.eq (g2 := F0 m 5 ls [.ref mk]) rfl ?_
  refine lv_astore_n (lv' := [(3, .ref mk), (0, .ref h0), (1, .int i), (2, .int v)]) hx hb dX8_check_5 rfl hl (by decide) rfl (fun ls hl => ?_)
  refine lv_aload_n hx hb dX8_check_6 rfl (lv_at hl 0 rfl) ?_
  refine lv_ifnonnull (tgt := 14) hx hb dX8_check_7 (by decide) ?_
  refine lv_aload_n hx hb dX8_check_14 rfl (lv_at hl 0 rfl) ?_
  refine va_getN (D := D) (ci := 3) (v := .ref ky) (C := RX4) (T := TX4) (N := 5) hx hb hts hiy_check_X4 hown hK hP 0 rfl rfl 3 (by decide) (va_Nw.use rfl (hNW.1 ("OneHandset", 71, "OneHandset$Make", "keys", "LOneHandset$Keys;", "OneHandset") (List.mem_of_getElem? (l := nw_F) (i := 16) rfl))) (fun _ h9 => h9) rfl dX8_check_15 ?_
  refine lv_iload_n hx hb dX8_check_18 rfl (lv_at hl 3 rfl) ?_
  refine go_i (wr := [(mk, .inr (3, [.int mq, .int mb, .ref fm, .ref ky, .int mi])), (h0, .inr (7, [.ref tp, .ref mka, .int mc, .ref bx, .ref rt])), (mka, .inl (cM, 8, .inr (.inr (.inr (.inr mf)))))]) (tysr := [(cI, .int), (cM, .object "OneHandset$Make")]) hP hD hS hA hK [1, 2, 3] [0, 4, 5] [0, 1] rfl rfl (by decide) (by decide) rfl (va_runV (As := [.int v]) (rest := []) ⟨hx, hb, hml, hown, hts⟩ (g_constantThatHolds l D H.size cI ky ca cc kb kf kg kl kx ko kc kd v ) (cwV 1 hts gX8_check_X3_constantThatHolds rfl rfl rfl (by decide +kernel) ⟨Nat.le_of_ble_eq_true rfl, Nat.le_of_ble_eq_true rfl⟩) (st_preV (ci := 2) (q0 := 1) hP hD hK hNW [1, 2, 3] [0] rfl rfl (by decide) rfl rfl rfl rfl) rfl rfl hl.1 rfl (lv_room (Nat.le_of_ble_eq_true rfl)) dX8_check_19 ⟨(Nat.le_of_ble_eq_true rfl), (Nat.le_of_ble_eq_true rfl)⟩) (fun r_2 u H locs hw hP hD hK hS => ?_)
  have hP : va_P D vwCl [(mk, .inr (3, [.int mq, .int mb, .ref fm, .ref ky, .int mi])), (h0, .inr (7, [.ref tp, .ref mka, .int mc, .ref bx, .ref rt])), (mka, .inl (cM, 8, .inr (.inr (.inr (.inr mf))))), (ky, .inr (2, [.int kb, .ref ca, .ref cc, .int kf, .int kg, .int kl, .int kx, .int ko])), (ca, .inl (cI, 16, .inl kc)), (cc, .inl (cI, 4, .inl kd))] H := hP
  have hD : va_D A [(mk, .inr (3, [.int mq, .int mb, .ref fm, .ref ky, .int mi])), (h0, .inr (7, [.ref tp, .ref mka, .int mc, .ref bx, .ref rt])), (mka, .inl (cM, 8, .inr (.inr (.inr (.inr mf))))), (ky, .inr (2, [.int kb, .ref ca, .ref cc, .int kf, .int kg, .int kl, .int kx, .int ko])), (ca, .inl (cI, 16, .inl kc)), (cc, .inl (cI, 4, .inl kd))] := hD
  have hK : va_K D vwCl [(cI, .int), (cM, .object "OneHandset$Make")] s := hK
  exact ret_i hx hb hr hlocks rfl (u := ()) trivial (hP.sub [1, 2, 0, 3, 4, 5] rfl) (hK.sub [] rfl) (hD.sub [1, 2, 0, 3, 4, 5] (by decide) rfl) hS (Nat.le_of_ble_eq_true rfl) (Nat.le_of_ble_eq_true rfl) dX8_check_22
theorem hiy_many_X4 : ∀ w ∈ wsX40, w ∈ wsX8_many := mem_pl [59, 60, 61, 62, 63] rfl
set_option maxHeartbeats 4000000 in
set_option maxRecDepth 100000 in
theorem y_many (l : Launch) (D : va_G) (sz : Nat) (cI : ClassId) (h0 : Nat) (tp : Nat) (mka : Nat) (bx : Nat) (rt : Nat) (mc : Int32) (cM : ClassId) (mf : Nat → Option Nat) (mk : Nat) (fm : Nat) (ky : Nat) (mq : Int32) (mb : Int32) (mi : Int32) (ca : Nat) (cc : Nat) (kb : Int32) (kf : Int32) (kg : Int32) (kl : Int32) (kx : Int32) (ko : Int32) (kc : Nat → Int32) (kd : Nat → Int32) (i : Int32) (hyes : ¬ wi i 0 (mc - 1) = 0) (him : mf (Int32.toNatClampNeg i) = some mk) (hmc : bi mc 0 8) : Ci l yX8_many wsX8_many ({ frames := 6, cells := 0, slots := 0, locals := 133 } : Room) D [.ref h0, .int i] [(h0, .inr (7, [.ref tp, .ref mka, .int mc, .ref bx, .ref rt])), (mka, .inl (cM, 8, .inr (.inr (.inr (.inr mf))))), (mk, .inr (3, [.int mq, .int mb, .ref fm, .ref ky, .int mi])), (ky, .inr (2, [.int kb, .ref ca, .ref cc, .int kf, .int kg, .int kl, .int kx, .int ko])), (ca, .inl (cI, 16, .inl kc)), (cc, .inl (cI, 4, .inl kd))] [(cI, .int), (cM, .object "OneHandset$Make")] sz (fun (r : Int32) => fun (_ : Unit) => True) (fun (_ : Unit) => [(h0, .inr (7, [.ref tp, .ref mka, .int mc, .ref bx, .ref rt])), (mka, .inl (cM, 8, .inr (.inr (.inr (.inr mf))))), (mk, .inr (3, [.int mq, .int mb, .ref fm, .ref ky, .int mi])), (ky, .inr (2, [.int kb, .ref ca, .ref cc, .int kf, .int kg, .int kl, .int kx, .int ko])), (ca, .inl (cI, 16, .inl kc)), (cc, .inl (cI, 4, .inl kd))]) (fun (_ : Unit) => []) := by
  refine ct_i (cc := cX8_many) (maxL := 3) (ret := (some .int)) (by decide) rfl (Nat.le_of_ble_eq_true rfl) ?_
  intro p e s m below meth c A ls H hx hb hr hts hown hml hlocks hin hA hS hP hK hD hNW hl hAe hsz
  have hl : lv_has ls 3 [(0, .ref h0), (1, .int i)] := hl
  refine lv_aload_n hx hb dX8_many_0 rfl (lv_at hl 0 rfl) ?_
  refine lv_iload_n hx hb dX8_many_1 rfl (lv_at hl 1 rfl) ?_
  refine go_q (wr := [(mk, .inr (3, [.int mq, .int mb, .ref fm, .ref ky, .int mi])), (ky, .inr (2, [.int kb, .ref ca, .ref cc, .int kf, .int kg, .int kl, .int kx, .int ko])), (ca, .inl (cI, 16, .inl kc)), (cc, .inl (cI, 4, .inl kd))]) (tysr := [(cI, .int), (cM, .object "OneHandset$Make")]) hP hD hS hA hK [0, 1] [2, 3, 4, 5] [0, 1] rfl rfl (by decide) (by decide) rfl (va_runV (As := [.int i]) (rest := []) ⟨hx, hb, hml, hown, hts⟩ (g_makeAt_yes l D H.size h0 tp mka bx rt mc cM mf mk i hyes him hmc) (cwV 1 hts gX8_many_X8_makeAt rfl rfl rfl (by decide +kernel) ⟨Nat.le_of_ble_eq_true rfl, Nat.le_of_ble_eq_true rfl⟩) (st_preV (ci := 7) (q0 := 0) hP hD hK hNW [0, 1] [1] rfl rfl (by decide) rfl rfl rfl rfl) rfl rfl hl.1 rfl (lv_room (Nat.le_of_ble_eq_true rfl)) dX8_many_2 ⟨(Nat.le_of_ble_eq_true rfl), (Nat.le_of_ble_eq_true rfl)⟩) (fun r_1 u H locs hw hP hD hK hS => ?_)
  have hw : r_1 = some mk := hw
  subst hw
  have hP : va_P D vwCl [(mk, .inr (3, [.int mq, .int mb, .ref fm, .ref ky, .int mi])), (ky, .inr (2, [.int kb, .ref ca, .ref cc, .int kf, .int kg, .int kl, .int kx, .int ko])), (ca, .inl (cI, 16, .inl kc)), (cc, .inl (cI, 4, .inl kd)), (h0, .inr (7, [.ref tp, .ref mka, .int mc, .ref bx, .ref rt])), (mka, .inl (cM, 8, .inr (.inr (.inr (.inr mf)))))] H := hP
  have hD : va_D A [(mk, .inr (3, [.int mq, .int mb, .ref fm, .ref ky, .int mi])), (ky, .inr (2, [.int kb, .ref ca, .ref cc, .int kf, .int kg, .int kl, .int kx, .int ko])), (ca, .inl (cI, 16, .inl kc)), (cc, .inl (cI, 4, .inl kd)), (h0, .inr (7, [.ref tp, .ref mka, .int mc, .ref bx, .ref rt])), (mka, .inl (cM, 8, .inr (.inr (.inr (.inr mf)))))] := hD
  have hK : va_K D vwCl [(cI, .int), (cM, .object "OneHandset$Make")] s := hK
  refine W.eq (g2 := F0 m 5 ls [.ref mk]) rfl ?_
  refine lv_astore_n (lv' := [(2, .ref mk), (0, .ref h0), (1, .int i)]) hx hb dX8_many_5 rfl hl (by decide) rfl (fun ls hl => ?_)
  refine lv_aload_n hx hb dX8_many_6 rfl (lv_at hl 0 rfl) ?_
  refine lv_ifnull hx hb dX8_many_7 ?_
  refine lv_aload_n hx hb dX8_many_10 rfl (lv_at hl 0 rfl) ?_
  refine va_getN (D := D) (ci := 3) (v := .ref ky) (C := RX4) (T := TX4) (N := 5) hx hb hts hiy_many_X4 hown hK hP 0 rfl rfl 3 (by decide) (va_Nw.use rfl (hNW.1 ("OneHandset", 71, "OneHandset$Make", "keys", "LOneHandset$Keys;", "OneHandset") (List.mem_of_getElem? (l := nw_F) (i := 16) rfl))) (fun _ h9 => h9) rfl dX8_many_11 ?_
  refine go_i (wr := [(mk, .inr (3, [.int mq, .int mb, .ref fm, .ref ky, .int mi])), (ca, .inl (cI, 16, .inl kc)), (cc, .inl (cI, 4, .inl kd)), (h0, .inr (7, [.ref tp, .ref mka, .int mc, .ref bx, .ref rt])), (mka, .inl (cM, 8, .inr (.inr (.inr (.inr mf)))))]) (tysr := [(cI, .int), (cM, .object "OneHandset$Make")]) hP hD hS hA hK [1] [0, 2, 3, 4, 5] [0, 1] rfl rfl (by decide) (by decide) rfl (va_runV (As := []) (rest := []) ⟨hx, hb, hml, hown, hts⟩ (g_canForesee l D H.size ky ca cc kb kf kg kl kx ko ) (cwV 0 hts gX8_many_X3_canForesee rfl rfl rfl (by decide +kernel) ⟨Nat.le_of_ble_eq_true rfl, Nat.le_of_ble_eq_true rfl⟩) (st_preV (ci := 2) (q0 := 1) hP hD hK hNW [1] [] rfl rfl (by decide) rfl rfl rfl rfl) rfl rfl hl.1 rfl (lv_room (Nat.le_of_ble_eq_true rfl)) dX8_many_14 ⟨(Nat.le_of_ble_eq_true rfl), (Nat.le_of_ble_eq_true rfl)⟩) (fun r_2 u H locs hw hP hD hK hS => ?_)
  have hP : va_P D vwCl [(mk, .inr (3, [.int mq, .int mb, .ref fm, .ref ky, .int mi])), (ca, .inl (cI, 16, .inl kc)), (cc, .inl (cI, 4, .inl kd)), (h0, .inr (7, [.ref tp, .ref mka, .int mc, .ref bx, .ref rt])), (mka, .inl (cM, 8, .inr (.inr (.inr (.inr mf))))), (ky, .inr (2, [.int kb, .ref ca, .ref cc, .int kf, .int kg, .int kl, .int kx, .int ko]))] H := hP
  have hD : va_D A [(mk, .inr (3, [.int mq, .int mb, .ref fm, .ref ky, .int mi])), (ca, .inl (cI, 16, .inl kc)), (cc, .inl (cI, 4, .inl kd)), (h0, .inr (7, [.ref tp, .ref mka, .int mc, .ref bx, .ref rt])), (mka, .inl (cM, 8, .inr (.inr (.inr (.inr mf))))), (ky, .inr (2, [.int kb, .ref ca, .ref cc, .int kf, .int kg, .int kl, .int kx, .int ko]))] := hD
  have hK : va_K D vwCl [(cI, .int), (cM, .object "OneHandset$Make")] s := hK
  refine lv_if_ne (tgt := 24) hx hb dX8_many_17 (by decide) (fun c_3 => ?_) (fun c_3 => ?_)
  · refine lv_aload_n hx hb dX8_many_24 rfl (lv_at hl 0 rfl) ?_
    refine va_getN (D := D) (ci := 3) (v := .ref ky) (C := RX4) (T := TX4) (N := 5) hx hb hts hiy_many_X4 hown hK hP 0 rfl rfl 3 (by decide) (va_Nw.use rfl (hNW.1 ("OneHandset", 71, "OneHandset$Make", "keys", "LOneHandset$Keys;", "OneHandset") (List.mem_of_getElem? (l := nw_F) (i := 16) rfl))) (fun _ h9 => h9) rfl dX8_many_25 ?_
    refine go_i (wr := [(mk, .inr (3, [.int mq, .int mb, .ref fm, .ref ky, .int mi])), (h0, .inr (7, [.ref tp, .ref mka, .int mc, .ref bx, .ref rt])), (mka, .inl (cM, 8, .inr (.inr (.inr (.inr mf)))))]) (tysr := [(cI, .int), (cM, .object "OneHandset$Make")]) hP hD hS hA hK [5, 1, 2] [0, 3, 4] [0, 1] rfl rfl (by decide) (by decide) rfl (va_runV (As := []) (rest := []) ⟨hx, hb, hml, hown, hts⟩ (g_foreseenCount l D H.size cI ky ca cc kb kf kg kl kx ko kc kd ) (cwV 0 hts gX8_many_X3_foreseenCount rfl rfl rfl (by decide +kernel) ⟨Nat.le_of_ble_eq_true rfl, Nat.le_of_ble_eq_true rfl⟩) (st_preV (ci := 2) (q0 := 5) hP hD hK hNW [5, 1, 2] [0] rfl rfl (by decide) rfl rfl rfl rfl) rfl rfl hl.1 rfl (lv_room (Nat.le_of_ble_eq_true rfl)) dX8_many_28 ⟨(Nat.le_of_ble_eq_true rfl), (Nat.le_of_ble_eq_true rfl)⟩) (fun r_4 u H locs hw hP hD hK hS => ?_)
    have hP : va_P D vwCl [(mk, .inr (3, [.int mq, .int mb, .ref fm, .ref ky, .int mi])), (h0, .inr (7, [.ref tp, .ref mka, .int mc, .ref bx, .ref rt])), (mka, .inl (cM, 8, .inr (.inr (.inr (.inr mf))))), (ky, .inr (2, [.int kb, .ref ca, .ref cc, .int kf, .int kg, .int kl, .int kx, .int ko])), (ca, .inl (cI, 16, .inl kc)), (cc, .inl (cI, 4, .inl kd))] H := hP
    have hD : va_D A [(mk, .inr (3, [.int mq, .int mb, .ref fm, .ref ky, .int mi])), (h0, .inr (7, [.ref tp, .ref mka, .int mc, .ref bx, .ref rt])), (mka, .inl (cM, 8, .inr (.inr (.inr (.inr mf))))), (ky, .inr (2, [.int kb, .ref ca, .ref cc, .int kf, .int kg, .int kl, .int kx, .int ko])), (ca, .inl (cI, 16, .inl kc)), (cc, .inl (cI, 4, .inl kd))] := hD
    have hK : va_K D vwCl [(cI, .int), (cM, .object "OneHandset$Make")] s := hK
    exact ret_i hx hb hr hlocks rfl (u := ()) trivial (hP.sub [1, 2, 0, 3, 4, 5] rfl) (hK.sub [] rfl) (hD.sub [1, 2, 0, 3, 4, 5] (by decide) rfl) hS (Nat.le_of_ble_eq_true rfl) (Nat.le_of_ble_eq_true rfl) dX8_many_31
  refine lv_iconst (v := (-1)) hx hb dX8_many_20 (by decide) ?_
  refine lv_goto (tgt := 31) hx hb dX8_many_21 (by decide) ?_
  exact ret_i hx hb hr hlocks rfl (u := ()) trivial (hP.sub [3, 4, 0, 5, 1, 2] rfl) (hK.sub [] rfl) (hD.sub [3, 4, 0, 5, 1, 2] (by decide) rfl) hS (Nat.le_of_ble_eq_true rfl) (Nat.le_of_ble_eq_true rfl) dX8_many_31
theorem hiy_foreseen_X4 : ∀ w ∈ wsX40, w ∈ wsX8_foreseen := mem_pl [59, 60, 61, 62, 63] rfl
set_option maxHeartbeats 4000000 in
set_option maxRecDepth 100000 in
theorem y_foreseen (l : Launch) (D : va_G) (sz : Nat) (cI : ClassId) (h0 : Nat) (tp : Nat) (mka : Nat) (bx : Nat) (rt : Nat) (mc : Int32) (cM : ClassId) (mf : Nat → Option Nat) (mk : Nat) (fm : Nat) (ky : Nat) (mq : Int32) (mb : Int32) (mi : Int32) (ca : Nat) (cc : Nat) (kb : Int32) (kf : Int32) (kg : Int32) (kl : Int32) (kx : Int32) (ko : Int32) (kc : Nat → Int32) (kd : Nat → Int32) (i : Int32) (v : Int32) (hyes : ¬ wi i 0 (mc - 1) = 0) (him : mf (Int32.toNatClampNeg i) = some mk) (hmc : bi mc 0 8) : Ci l yX8_foreseen wsX8_foreseen ({ frames := 6, cells := 0, slots := 0, locals := 134 } : Room) D [.ref h0, .int i, .int v] [(h0, .inr (7, [.ref tp, .ref mka, .int mc, .ref bx, .ref rt])), (mka, .inl (cM, 8, .inr (.inr (.inr (.inr mf))))), (mk, .inr (3, [.int mq, .int mb, .ref fm, .ref ky, .int mi])), (ky, .inr (2, [.int kb, .ref ca, .ref cc, .int kf, .int kg, .int kl, .int kx, .int ko])), (ca, .inl (cI, 16, .inl kc)), (cc, .inl (cI, 4, .inl kd))] [(cI, .int), (cM, .object "OneHandset$Make")] sz (fun (r : Int32) => fun (_ : Unit) => True) (fun (_ : Unit) => [(h0, .inr (7, [.ref tp, .ref mka, .int mc, .ref bx, .ref rt])), (mka, .inl (cM, 8, .inr (.inr (.inr (.inr mf))))), (mk, .inr (3, [.int mq, .int mb, .ref fm, .ref ky, .int mi])), (ky, .inr (2, [.int kb, .ref ca, .ref cc, .int kf, .int kg, .int kl, .int kx, .int ko])), (ca, .inl (cI, 16, .inl kc)), (cc, .inl (cI, 4, .inl kd))]) (fun (_ : Unit) => []) := by
  refine ct_i (cc := cX8_foreseen) (maxL := 4) (ret := (some .int)) (by decide) rfl (Nat.le_of_ble_eq_true rfl) ?_
  intro p e s m below meth c A ls H hx hb hr hts hown hml hlocks hin hA hS hP hK hD hNW hl hAe hsz
  have hl : lv_has ls 4 [(0, .ref h0), (1, .int i), (2, .int v)] := hl
  refine lv_aload_n hx hb dX8_foreseen_0 rfl (lv_at hl 0 rfl) ?_
  refine lv_iload_n hx hb dX8_foreseen_1 rfl (lv_at hl 1 rfl) ?_
  refine go_q (wr := [(mk, .inr (3, [.int mq, .int mb, .ref fm, .ref ky, .int mi])), (ky, .inr (2, [.int kb, .ref ca, .ref cc, .int kf, .int kg, .int kl, .int kx, .int ko])), (ca, .inl (cI, 16, .inl kc)), (cc, .inl (cI, 4, .inl kd))]) (tysr := [(cI, .int), (cM, .object "OneHandset$Make")]) hP hD hS hA hK [0, 1] [2, 3, 4, 5] [0, 1] rfl rfl (by decide) (by decide) rfl (va_runV (As := [.int i]) (rest := []) ⟨hx, hb, hml, hown, hts⟩ (g_makeAt_yes l D H.size h0 tp mka bx rt mc cM mf mk i hyes him hmc) (cwV 1 hts gX8_foreseen_X8_makeAt rfl rfl rfl (by decide +kernel) ⟨Nat.le_of_ble_eq_true rfl, Nat.le_of_ble_eq_true rfl⟩) (st_preV (ci := 7) (q0 := 0) hP hD hK hNW [0, 1] [1] rfl rfl (by decide) rfl rfl rfl rfl) rfl rfl hl.1 rfl (lv_room (Nat.le_of_ble_eq_true rfl)) dX8_foreseen_2 ⟨(Nat.le_of_ble_eq_true rfl), (Nat.le_of_ble_eq_true rfl)⟩) (fun r_1 u H locs hw hP hD hK hS => ?_)
  have hw : r_1 = some mk := hw
  subst hw
  have hP : va_P D vwCl [(mk, .inr (3, [.int mq, .int mb, .ref fm, .ref ky, .int mi])), (ky, .inr (2, [.int kb, .ref ca, .ref cc, .int kf, .int kg, .int kl, .int kx, .int ko])), (ca, .inl (cI, 16, .inl kc)), (cc, .inl (cI, 4, .inl kd)), (h0, .inr (7, [.ref tp, .ref mka, .int mc, .ref bx, .ref rt])), (mka, .inl (cM, 8, .inr (.inr (.inr (.inr mf)))))] H := hP
  have hD : va_D A [(mk, .inr (3, [.int mq, .int mb, .ref fm, .ref ky, .int mi])), (ky, .inr (2, [.int kb, .ref ca, .ref cc, .int kf, .int kg, .int kl, .int kx, .int ko])), (ca, .inl (cI, 16, .inl kc)), (cc, .inl (cI, 4, .inl kd)), (h0, .inr (7, [.ref tp, .ref mka, .int mc, .ref bx, .ref rt])), (mka, .inl (cM, 8, .inr (.inr (.inr (.inr mf)))))] := hD
  have hK : va_K D vwCl [(cI, .int), (cM, .object "OneHandset$Make")] s := hK
  refine W.eq (g2 := F0 m 5 ls [.ref mk]) rfl ?_
  refine lv_astore_n (lv' := [(3, .ref mk), (0, .ref h0), (1, .int i), (2, .int v)]) hx hb dX8_foreseen_5 rfl hl (by decide) rfl (fun ls hl => ?_)
  refine lv_aload_n hx hb dX8_foreseen_6 rfl (lv_at hl 0 rfl) ?_
  refine lv_ifnull hx hb dX8_foreseen_7 ?_
  refine lv_aload_n hx hb dX8_foreseen_10 rfl (lv_at hl 0 rfl) ?_
  refine va_getN (D := D) (ci := 3) (v := .ref ky) (C := RX4) (T := TX4) (N := 5) hx hb hts hiy_foreseen_X4 hown hK hP 0 rfl rfl 3 (by decide) (va_Nw.use rfl (hNW.1 ("OneHandset", 71, "OneHandset$Make", "keys", "LOneHandset$Keys;", "OneHandset") (List.mem_of_getElem? (l := nw_F) (i := 16) rfl))) (fun _ h9 => h9) rfl dX8_foreseen_11 ?_
  refine go_i (wr := [(mk, .inr (3, [.int mq, .int mb, .ref fm, .ref ky, .int mi])), (ca, .inl (cI, 16, .inl kc)), (cc, .inl (cI, 4, .inl kd)), (h0, .inr (7, [.ref tp, .ref mka, .int mc, .ref bx, .ref rt])), (mka, .inl (cM, 8, .inr (.inr (.inr (.inr mf)))))]) (tysr := [(cI, .int), (cM, .object "OneHandset$Make")]) hP hD hS hA hK [1] [0, 2, 3, 4, 5] [0, 1] rfl rfl (by decide) (by decide) rfl (va_runV (As := []) (rest := []) ⟨hx, hb, hml, hown, hts⟩ (g_canForesee l D H.size ky ca cc kb kf kg kl kx ko ) (cwV 0 hts gX8_foreseen_X3_canForesee rfl rfl rfl (by decide +kernel) ⟨Nat.le_of_ble_eq_true rfl, Nat.le_of_ble_eq_true rfl⟩) (st_preV (ci := 2) (q0 := 1) hP hD hK hNW [1] [] rfl rfl (by decide) rfl rfl rfl rfl) rfl rfl hl.1 rfl (lv_room (Nat.le_of_ble_eq_true rfl)) dX8_foreseen_14 ⟨(Nat.le_of_ble_eq_true rfl), (Nat.le_of_ble_eq_true rfl)⟩) (fun r_2 u H locs hw hP hD hK hS => ?_)
  have hP : va_P D vwCl [(mk, .inr (3, [.int mq, .int mb, .ref fm, .ref ky, .int mi])), (ca, .inl (cI, 16, .inl kc)), (cc, .inl (cI, 4, .inl kd)), (h0, .inr (7, [.ref tp, .ref mka, .int mc, .ref bx, .ref rt])), (mka, .inl (cM, 8, .inr (.inr (.inr (.inr mf))))), (ky, .inr (2, [.int kb, .ref ca, .ref cc, .int kf, .int kg, .int kl, .int kx, .int ko]))] H := hP
  have hD : va_D A [(mk, .inr (3, [.int mq, .int mb, .ref fm, .ref ky, .int mi])), (ca, .inl (cI, 16, .inl kc)), (cc, .inl (cI, 4, .inl kd)), (h0, .inr (7, [.ref tp, .ref mka, .int mc, .ref bx, .ref rt])), (mka, .inl (cM, 8, .inr (.inr (.inr (.inr mf))))), (ky, .inr (2, [.int kb, .ref ca, .ref cc, .int kf, .int kg, .int kl, .int kx, .int ko]))] := hD
  have hK : va_K D vwCl [(cI, .int), (cM, .object "OneHandset$Make")] s := hK
  refine lv_if_ne (tgt := 24) hx hb dX8_foreseen_17 (by decide) (fun c_3 => ?_) (fun c_3 => ?_)
  · refine lv_aload_n hx hb dX8_foreseen_24 rfl (lv_at hl 0 rfl) ?_
    refine va_getN (D := D) (ci := 3) (v := .ref ky) (C := RX4) (T := TX4) (N := 5) hx hb hts hiy_foreseen_X4 hown hK hP 0 rfl rfl 3 (by decide) (va_Nw.use rfl (hNW.1 ("OneHandset", 71, "OneHandset$Make", "keys", "LOneHandset$Keys;", "OneHandset") (List.mem_of_getElem? (l := nw_F) (i := 16) rfl))) (fun _ h9 => h9) rfl dX8_foreseen_25 ?_
    refine lv_iload_n hx hb dX8_foreseen_28 rfl (lv_at hl 3 rfl) ?_
    refine go_i (wr := [(mk, .inr (3, [.int mq, .int mb, .ref fm, .ref ky, .int mi])), (h0, .inr (7, [.ref tp, .ref mka, .int mc, .ref bx, .ref rt])), (mka, .inl (cM, 8, .inr (.inr (.inr (.inr mf)))))]) (tysr := [(cI, .int), (cM, .object "OneHandset$Make")]) hP hD hS hA hK [5, 1, 2] [0, 3, 4] [0, 1] rfl rfl (by decide) (by decide) rfl (va_runV (As := [.int v]) (rest := []) ⟨hx, hb, hml, hown, hts⟩ (g_foreseenAt l D H.size cI ky ca cc kb kf kg kl kx ko kc kd v ) (cwV 1 hts gX8_foreseen_X3_foreseenAt rfl rfl rfl (by decide +kernel) ⟨Nat.le_of_ble_eq_true rfl, Nat.le_of_ble_eq_true rfl⟩) (st_preV (ci := 2) (q0 := 5) hP hD hK hNW [5, 1, 2] [0] rfl rfl (by decide) rfl rfl rfl rfl) rfl rfl hl.1 rfl (lv_room (Nat.le_of_ble_eq_true rfl)) dX8_foreseen_29 ⟨(Nat.le_of_ble_eq_true rfl), (Nat.le_of_ble_eq_true rfl)⟩) (fun r_4 u H locs hw hP hD hK hS => ?_)
    have hP : va_P D vwCl [(mk, .inr (3, [.int mq, .int mb, .ref fm, .ref ky, .int mi])), (h0, .inr (7, [.ref tp, .ref mka, .int mc, .ref bx, .ref rt])), (mka, .inl (cM, 8, .inr (.inr (.inr (.inr mf))))), (ky, .inr (2, [.int kb, .ref ca, .ref cc, .int kf, .int kg, .int kl, .int kx, .int ko])), (ca, .inl (cI, 16, .inl kc)), (cc, .inl (cI, 4, .inl kd))] H := hP
    have hD : va_D A [(mk, .inr (3, [.int mq, .int mb, .ref fm, .ref ky, .int mi])), (h0, .inr (7, [.ref tp, .ref mka, .int mc, .ref bx, .ref rt])), (mka, .inl (cM, 8, .inr (.inr (.inr (.inr mf))))), (ky, .inr (2, [.int kb, .ref ca, .ref cc, .int kf, .int kg, .int kl, .int kx, .int ko])), (ca, .inl (cI, 16, .inl kc)), (cc, .inl (cI, 4, .inl kd))] := hD
    have hK : va_K D vwCl [(cI, .int), (cM, .object "OneHandset$Make")] s := hK
    exact ret_i hx hb hr hlocks rfl (u := ()) trivial (hP.sub [1, 2, 0, 3, 4, 5] rfl) (hK.sub [] rfl) (hD.sub [1, 2, 0, 3, 4, 5] (by decide) rfl) hS (Nat.le_of_ble_eq_true rfl) (Nat.le_of_ble_eq_true rfl) dX8_foreseen_32
  refine lv_iconst (v := (-1)) hx hb dX8_foreseen_20 (by decide) ?_
  refine lv_goto (tgt := 32) hx hb dX8_foreseen_21 (by decide) ?_
  exact ret_i hx hb hr hlocks rfl (u := ()) trivial (hP.sub [3, 4, 0, 5, 1, 2] rfl) (hK.sub [] rfl) (hD.sub [3, 4, 0, 5, 1, 2] (by decide) rfl) hS (Nat.le_of_ble_eq_true rfl) (Nat.le_of_ble_eq_true rfl) dX8_foreseen_32
set_option maxHeartbeats 4000000 in
set_option maxRecDepth 100000 in
theorem b_nn (l : Launch) (D : va_G) (sz : Nat) (cI : ClassId) (h0 : Nat) (tp : Nat) (mka : Nat) (bx : Nat) (rt : Nat) (mc : Int32) (cM : ClassId) (mf : Nat → Option Nat) (i : Int32) (v : Int32) (hmc : bi mc 0 8) (hno : wi i 0 (mc - 1) = 0) (hno2 : wi v 0 (mc - 1) = 0) : Ci l yX8_both wsX8_both ({ frames := 2, cells := 0, slots := 0, locals := 43 } : Room) D [.ref h0, .int i, .int v] [(h0, .inr (7, [.ref tp, .ref mka, .int mc, .ref bx, .ref rt])), (mka, .inl (cM, 8, .inr (.inr (.inr (.inr mf)))))] [(cI, .int), (cM, .object "OneHandset$Make")] sz (fun (r : Int32) => fun (_ : Unit) => True) (fun (_ : Unit) => [(h0, .inr (7, [.ref tp, .ref mka, .int mc, .ref bx, .ref rt])), (mka, .inl (cM, 8, .inr (.inr (.inr (.inr mf)))))]) (fun (_ : Unit) => []) := by
  refine ct_i (cc := cX8_both) (maxL := 5) (ret := (some .int)) (by decide) rfl (Nat.le_of_ble_eq_true rfl) ?_
  intro p e s m below meth c A ls H hx hb hr hts hown hml hlocks hin hA hS hP hK hD hNW hl hAe hsz
  have hl : lv_has ls 5 [(0, .ref h0), (1, .int i), (2, .int v)] := hl
  refine lv_aload_n hx hb dX8_both_0 rfl (lv_at hl 0 rfl) ?_
  refine lv_iload_n hx hb dX8_both_1 rfl (lv_at hl 1 rfl) ?_
  refine go_q (wr := [(mka, .inl (cM, 8, .inr (.inr (.inr (.inr mf)))))]) (tysr := [(cI, .int), (cM, .object "OneHandset$Make")]) hP hD hS hA hK [0] [1] [0, 1] rfl rfl (by decide) (by decide) rfl (va_runV (As := [.int i]) (rest := []) ⟨hx, hb, hml, hown, hts⟩ (g_makeAt_no l D H.size h0 tp mka bx rt mc i hno) (cwV 1 hts gX8_both_X8_makeAt rfl rfl rfl (by decide +kernel) ⟨Nat.le_of_ble_eq_true rfl, Nat.le_of_ble_eq_true rfl⟩) (st_preV (ci := 7) (q0 := 0) hP hD hK hNW [0] [] rfl rfl (by decide) rfl rfl rfl rfl) rfl rfl hl.1 rfl (lv_room (Nat.le_of_ble_eq_true rfl)) dX8_both_2 ⟨(Nat.le_of_ble_eq_true rfl), (Nat.le_of_ble_eq_true rfl)⟩) (fun r_1 u H locs hw hP hD hK hS => ?_)
  have hw : r_1 = none := hw
  subst hw
  have hP : va_P D vwCl [(mka, .inl (cM, 8, .inr (.inr (.inr (.inr mf))))), (h0, .inr (7, [.ref tp, .ref mka, .int mc, .ref bx, .ref rt]))] H := hP
  have hD : va_D A [(mka, .inl (cM, 8, .inr (.inr (.inr (.inr mf))))), (h0, .inr (7, [.ref tp, .ref mka, .int mc, .ref bx, .ref rt]))] := hD
  have hK : va_K D vwCl [(cI, .int), (cM, .object "OneHandset$Make")] s := hK
  refine lv_astore_nN (lv' := [(3, .null), (0, .ref h0), (1, .int i), (2, .int v)]) hx hb dX8_both_5 rfl hl (by decide) rfl (fun ls hl => ?_)
  refine lv_aload_n hx hb dX8_both_6 rfl (lv_at hl 1 rfl) ?_
  refine lv_iload_n hx hb dX8_both_7 rfl (lv_at hl 3 rfl) ?_
  refine go_q (wr := [(mka, .inl (cM, 8, .inr (.inr (.inr (.inr mf)))))]) (tysr := [(cI, .int), (cM, .object "OneHandset$Make")]) hP hD hS hA hK [1] [0] [0, 1] rfl rfl (by decide) (by decide) rfl (va_runV (As := [.int v]) (rest := []) ⟨hx, hb, hml, hown, hts⟩ (g_makeAt_no l D H.size h0 tp mka bx rt mc v hno2) (cwV 1 hts gX8_both_X8_makeAt rfl rfl rfl (by decide +kernel) ⟨Nat.le_of_ble_eq_true rfl, Nat.le_of_ble_eq_true rfl⟩) (st_preV (ci := 7) (q0 := 1) hP hD hK hNW [1] [] rfl rfl (by decide) rfl rfl rfl rfl) rfl rfl hl.1 rfl (lv_room (Nat.le_of_ble_eq_true rfl)) dX8_both_8 ⟨(Nat.le_of_ble_eq_true rfl), (Nat.le_of_ble_eq_true rfl)⟩) (fun r_2 u H locs hw hP hD hK hS => ?_)
  have hw : r_2 = none := hw
  subst hw
  have hP : va_P D vwCl [(mka, .inl (cM, 8, .inr (.inr (.inr (.inr mf))))), (h0, .inr (7, [.ref tp, .ref mka, .int mc, .ref bx, .ref rt]))] H := hP
  have hD : va_D A [(mka, .inl (cM, 8, .inr (.inr (.inr (.inr mf))))), (h0, .inr (7, [.ref tp, .ref mka, .int mc, .ref bx, .ref rt]))] := hD
  have hK : va_K D vwCl [(cI, .int), (cM, .object "OneHandset$Make")] s := hK
  refine lv_astoreN (lv' := [(4, .null), (3, .null), (0, .ref h0), (1, .int i), (2, .int v)]) hx hb dX8_both_11 hl (by decide) rfl (fun ls hl => ?_)
  refine lv_aload_nN hx hb dX8_both_13 rfl (lv_at hl 1 rfl) ?_
  refine lv_ifnullN (tgt := 34) hx hb dX8_both_14 (by decide) ?_
  refine lv_iconst (v := (-1)) hx hb dX8_both_34 (by decide) ?_
  exact ret_i hx hb hr hlocks rfl (u := ()) trivial (hP.sub [1, 0] rfl) (hK.sub [] rfl) (hD.sub [1, 0] (by decide) rfl) hS (Nat.le_of_ble_eq_true rfl) (Nat.le_of_ble_eq_true rfl) dX8_both_35
set_option maxHeartbeats 4000000 in
set_option maxRecDepth 100000 in
theorem b_ny (l : Launch) (D : va_G) (sz : Nat) (cI : ClassId) (h0 : Nat) (tp : Nat) (mka : Nat) (bx : Nat) (rt : Nat) (mc : Int32) (cM : ClassId) (mf : Nat → Option Nat) (mk : Nat) (i : Int32) (v : Int32) (hmc : bi mc 0 8) (hno : wi i 0 (mc - 1) = 0) (hyes2 : ¬ wi v 0 (mc - 1) = 0) (him2 : mf (Int32.toNatClampNeg v) = some mk) : Ci l yX8_both wsX8_both ({ frames := 2, cells := 0, slots := 0, locals := 43 } : Room) D [.ref h0, .int i, .int v] [(h0, .inr (7, [.ref tp, .ref mka, .int mc, .ref bx, .ref rt])), (mka, .inl (cM, 8, .inr (.inr (.inr (.inr mf)))))] [(cI, .int), (cM, .object "OneHandset$Make")] sz (fun (r : Int32) => fun (_ : Unit) => True) (fun (_ : Unit) => [(h0, .inr (7, [.ref tp, .ref mka, .int mc, .ref bx, .ref rt])), (mka, .inl (cM, 8, .inr (.inr (.inr (.inr mf)))))]) (fun (_ : Unit) => []) := by
  refine ct_i (cc := cX8_both) (maxL := 5) (ret := (some .int)) (by decide) rfl (Nat.le_of_ble_eq_true rfl) ?_
  intro p e s m below meth c A ls H hx hb hr hts hown hml hlocks hin hA hS hP hK hD hNW hl hAe hsz
  have hl : lv_has ls 5 [(0, .ref h0), (1, .int i), (2, .int v)] := hl
  refine lv_aload_n hx hb dX8_both_0 rfl (lv_at hl 0 rfl) ?_
  refine lv_iload_n hx hb dX8_both_1 rfl (lv_at hl 1 rfl) ?_
  refine go_q (wr := [(mka, .inl (cM, 8, .inr (.inr (.inr (.inr mf)))))]) (tysr := [(cI, .int), (cM, .object "OneHandset$Make")]) hP hD hS hA hK [0] [1] [0, 1] rfl rfl (by decide) (by decide) rfl (va_runV (As := [.int i]) (rest := []) ⟨hx, hb, hml, hown, hts⟩ (g_makeAt_no l D H.size h0 tp mka bx rt mc i hno) (cwV 1 hts gX8_both_X8_makeAt rfl rfl rfl (by decide +kernel) ⟨Nat.le_of_ble_eq_true rfl, Nat.le_of_ble_eq_true rfl⟩) (st_preV (ci := 7) (q0 := 0) hP hD hK hNW [0] [] rfl rfl (by decide) rfl rfl rfl rfl) rfl rfl hl.1 rfl (lv_room (Nat.le_of_ble_eq_true rfl)) dX8_both_2 ⟨(Nat.le_of_ble_eq_true rfl), (Nat.le_of_ble_eq_true rfl)⟩) (fun r_1 u H locs hw hP hD hK hS => ?_)
  have hw : r_1 = none := hw
  subst hw
  have hP : va_P D vwCl [(mka, .inl (cM, 8, .inr (.inr (.inr (.inr mf))))), (h0, .inr (7, [.ref tp, .ref mka, .int mc, .ref bx, .ref rt]))] H := hP
  have hD : va_D A [(mka, .inl (cM, 8, .inr (.inr (.inr (.inr mf))))), (h0, .inr (7, [.ref tp, .ref mka, .int mc, .ref bx, .ref rt]))] := hD
  have hK : va_K D vwCl [(cI, .int), (cM, .object "OneHandset$Make")] s := hK
  refine lv_astore_nN (lv' := [(3, .null), (0, .ref h0), (1, .int i), (2, .int v)]) hx hb dX8_both_5 rfl hl (by decide) rfl (fun ls hl => ?_)
  refine lv_aload_n hx hb dX8_both_6 rfl (lv_at hl 1 rfl) ?_
  refine lv_iload_n hx hb dX8_both_7 rfl (lv_at hl 3 rfl) ?_
  refine go_q (wr := []) (tysr := [(cI, .int), (cM, .object "OneHandset$Make")]) hP hD hS hA hK [1, 0] [] [0, 1] rfl rfl (by decide) (by decide) rfl (va_runV (As := [.int v]) (rest := []) ⟨hx, hb, hml, hown, hts⟩ (g_makeAt_yes l D H.size h0 tp mka bx rt mc cM mf mk v hyes2 him2 hmc) (cwV 1 hts gX8_both_X8_makeAt rfl rfl rfl (by decide +kernel) ⟨Nat.le_of_ble_eq_true rfl, Nat.le_of_ble_eq_true rfl⟩) (st_preV (ci := 7) (q0 := 1) hP hD hK hNW [1, 0] [1] rfl rfl (by decide) rfl rfl rfl rfl) rfl rfl hl.1 rfl (lv_room (Nat.le_of_ble_eq_true rfl)) dX8_both_8 ⟨(Nat.le_of_ble_eq_true rfl), (Nat.le_of_ble_eq_true rfl)⟩) (fun r_2 u H locs hw hP hD hK hS => ?_)
  have hw : r_2 = some mk := hw
  subst hw
  have hP : va_P D vwCl [(h0, .inr (7, [.ref tp, .ref mka, .int mc, .ref bx, .ref rt])), (mka, .inl (cM, 8, .inr (.inr (.inr (.inr mf)))))] H := hP
  have hD : va_D A [(h0, .inr (7, [.ref tp, .ref mka, .int mc, .ref bx, .ref rt])), (mka, .inl (cM, 8, .inr (.inr (.inr (.inr mf)))))] := hD
  have hK : va_K D vwCl [(cI, .int), (cM, .object "OneHandset$Make")] s := hK
  refine W.eq (g2 := F0 m 11 ls [.ref mk]) rfl ?_
  refine lv_astore (lv' := [(4, .ref mk), (3, .null), (0, .ref h0), (1, .int i), (2, .int v)]) hx hb dX8_both_11 hl (by decide) rfl (fun ls hl => ?_)
  refine lv_aload_nN hx hb dX8_both_13 rfl (lv_at hl 1 rfl) ?_
  refine lv_ifnullN (tgt := 34) hx hb dX8_both_14 (by decide) ?_
  refine lv_iconst (v := (-1)) hx hb dX8_both_34 (by decide) ?_
  exact ret_i hx hb hr hlocks rfl (u := ()) trivial (hP.sub [0, 1] rfl) (hK.sub [] rfl) (hD.sub [0, 1] (by decide) rfl) hS (Nat.le_of_ble_eq_true rfl) (Nat.le_of_ble_eq_true rfl) dX8_both_35
set_option maxHeartbeats 4000000 in
set_option maxRecDepth 100000 in
theorem b_yn (l : Launch) (D : va_G) (sz : Nat) (cI : ClassId) (h0 : Nat) (tp : Nat) (mka : Nat) (bx : Nat) (rt : Nat) (mc : Int32) (cM : ClassId) (mf : Nat → Option Nat) (mk : Nat) (i : Int32) (v : Int32) (hmc : bi mc 0 8) (hyes : ¬ wi i 0 (mc - 1) = 0) (him : mf (Int32.toNatClampNeg i) = some mk) (hno2 : wi v 0 (mc - 1) = 0) : Ci l yX8_both wsX8_both ({ frames := 2, cells := 0, slots := 0, locals := 43 } : Room) D [.ref h0, .int i, .int v] [(h0, .inr (7, [.ref tp, .ref mka, .int mc, .ref bx, .ref rt])), (mka, .inl (cM, 8, .inr (.inr (.inr (.inr mf)))))] [(cI, .int), (cM, .object "OneHandset$Make")] sz (fun (r : Int32) => fun (_ : Unit) => True) (fun (_ : Unit) => [(h0, .inr (7, [.ref tp, .ref mka, .int mc, .ref bx, .ref rt])), (mka, .inl (cM, 8, .inr (.inr (.inr (.inr mf)))))]) (fun (_ : Unit) => []) := by
  refine ct_i (cc := cX8_both) (maxL := 5) (ret := (some .int)) (by decide) rfl (Nat.le_of_ble_eq_true rfl) ?_
  intro p e s m below meth c A ls H hx hb hr hts hown hml hlocks hin hA hS hP hK hD hNW hl hAe hsz
  have hl : lv_has ls 5 [(0, .ref h0), (1, .int i), (2, .int v)] := hl
  refine lv_aload_n hx hb dX8_both_0 rfl (lv_at hl 0 rfl) ?_
  refine lv_iload_n hx hb dX8_both_1 rfl (lv_at hl 1 rfl) ?_
  refine go_q (wr := []) (tysr := [(cI, .int), (cM, .object "OneHandset$Make")]) hP hD hS hA hK [0, 1] [] [0, 1] rfl rfl (by decide) (by decide) rfl (va_runV (As := [.int i]) (rest := []) ⟨hx, hb, hml, hown, hts⟩ (g_makeAt_yes l D H.size h0 tp mka bx rt mc cM mf mk i hyes him hmc) (cwV 1 hts gX8_both_X8_makeAt rfl rfl rfl (by decide +kernel) ⟨Nat.le_of_ble_eq_true rfl, Nat.le_of_ble_eq_true rfl⟩) (st_preV (ci := 7) (q0 := 0) hP hD hK hNW [0, 1] [1] rfl rfl (by decide) rfl rfl rfl rfl) rfl rfl hl.1 rfl (lv_room (Nat.le_of_ble_eq_true rfl)) dX8_both_2 ⟨(Nat.le_of_ble_eq_true rfl), (Nat.le_of_ble_eq_true rfl)⟩) (fun r_1 u H locs hw hP hD hK hS => ?_)
  have hw : r_1 = some mk := hw
  subst hw
  have hP : va_P D vwCl [(h0, .inr (7, [.ref tp, .ref mka, .int mc, .ref bx, .ref rt])), (mka, .inl (cM, 8, .inr (.inr (.inr (.inr mf)))))] H := hP
  have hD : va_D A [(h0, .inr (7, [.ref tp, .ref mka, .int mc, .ref bx, .ref rt])), (mka, .inl (cM, 8, .inr (.inr (.inr (.inr mf)))))] := hD
  have hK : va_K D vwCl [(cI, .int), (cM, .object "OneHandset$Make")] s := hK
  refine W.eq (g2 := F0 m 5 ls [.ref mk]) rfl ?_
  refine lv_astore_n (lv' := [(3, .ref mk), (0, .ref h0), (1, .int i), (2, .int v)]) hx hb dX8_both_5 rfl hl (by decide) rfl (fun ls hl => ?_)
  refine lv_aload_n hx hb dX8_both_6 rfl (lv_at hl 1 rfl) ?_
  refine lv_iload_n hx hb dX8_both_7 rfl (lv_at hl 3 rfl) ?_
  refine go_q (wr := [(mka, .inl (cM, 8, .inr (.inr (.inr (.inr mf)))))]) (tysr := [(cI, .int), (cM, .object "OneHandset$Make")]) hP hD hS hA hK [0] [1] [0, 1] rfl rfl (by decide) (by decide) rfl (va_runV (As := [.int v]) (rest := []) ⟨hx, hb, hml, hown, hts⟩ (g_makeAt_no l D H.size h0 tp mka bx rt mc v hno2) (cwV 1 hts gX8_both_X8_makeAt rfl rfl rfl (by decide +kernel) ⟨Nat.le_of_ble_eq_true rfl, Nat.le_of_ble_eq_true rfl⟩) (st_preV (ci := 7) (q0 := 0) hP hD hK hNW [0] [] rfl rfl (by decide) rfl rfl rfl rfl) rfl rfl hl.1 rfl (lv_room (Nat.le_of_ble_eq_true rfl)) dX8_both_8 ⟨(Nat.le_of_ble_eq_true rfl), (Nat.le_of_ble_eq_true rfl)⟩) (fun r_2 u H locs hw hP hD hK hS => ?_)
  have hw : r_2 = none := hw
  subst hw
  have hP : va_P D vwCl [(mka, .inl (cM, 8, .inr (.inr (.inr (.inr mf))))), (h0, .inr (7, [.ref tp, .ref mka, .int mc, .ref bx, .ref rt]))] H := hP
  have hD : va_D A [(mka, .inl (cM, 8, .inr (.inr (.inr (.inr mf))))), (h0, .inr (7, [.ref tp, .ref mka, .int mc, .ref bx, .ref rt]))] := hD
  have hK : va_K D vwCl [(cI, .int), (cM, .object "OneHandset$Make")] s := hK
  refine lv_astoreN (lv' := [(4, .null), (3, .ref mk), (0, .ref h0), (1, .int i), (2, .int v)]) hx hb dX8_both_11 hl (by decide) rfl (fun ls hl => ?_)
  refine lv_aload_n hx hb dX8_both_13 rfl (lv_at hl 1 rfl) ?_
  refine lv_ifnull hx hb dX8_both_14 ?_
  refine lv_aloadN hx hb dX8_both_17 (lv_at hl 0 rfl) ?_
  refine lv_ifnullN (tgt := 34) hx hb dX8_both_19 (by decide) ?_
  refine lv_iconst (v := (-1)) hx hb dX8_both_34 (by decide) ?_
  exact ret_i hx hb hr hlocks rfl (u := ()) trivial (hP.sub [1, 0] rfl) (hK.sub [] rfl) (hD.sub [1, 0] (by decide) rfl) hS (Nat.le_of_ble_eq_true rfl) (Nat.le_of_ble_eq_true rfl) dX8_both_35
theorem hib_same_X4 : ∀ w ∈ wsX40, w ∈ wsX8_both := mem_pl [63, 64, 65, 66, 67] rfl
set_option maxHeartbeats 4000000 in
set_option maxRecDepth 100000 in
theorem b_same (l : Launch) (D : va_G) (sz : Nat) (cI : ClassId) (h0 : Nat) (tp : Nat) (mka : Nat) (bx : Nat) (rt : Nat) (mc : Int32) (cM : ClassId) (mf : Nat → Option Nat) (mk : Nat) (fm : Nat) (ky : Nat) (mq : Int32) (mb : Int32) (mi : Int32) (ca : Nat) (cc : Nat) (kb : Int32) (kf : Int32) (kg : Int32) (kl : Int32) (kx : Int32) (ko : Int32) (kc : Nat → Int32) (kd : Nat → Int32) (i : Int32) (v : Int32) (hmc : bi mc 0 8) (hyes : ¬ wi i 0 (mc - 1) = 0) (him : mf (Int32.toNatClampNeg i) = some mk) (hyes2 : ¬ wi v 0 (mc - 1) = 0) (him2 : mf (Int32.toNatClampNeg v) = some mk) : Ci l yX8_both wsX8_both ({ frames := 6, cells := 0, slots := 0, locals := 134 } : Room) D [.ref h0, .int i, .int v] [(h0, .inr (7, [.ref tp, .ref mka, .int mc, .ref bx, .ref rt])), (mka, .inl (cM, 8, .inr (.inr (.inr (.inr mf))))), (mk, .inr (3, [.int mq, .int mb, .ref fm, .ref ky, .int mi])), (ky, .inr (2, [.int kb, .ref ca, .ref cc, .int kf, .int kg, .int kl, .int kx, .int ko])), (ca, .inl (cI, 16, .inl kc)), (cc, .inl (cI, 4, .inl kd))] [(cI, .int), (cM, .object "OneHandset$Make")] sz (fun (r : Int32) => fun (_ : Unit) => True) (fun (_ : Unit) => [(h0, .inr (7, [.ref tp, .ref mka, .int mc, .ref bx, .ref rt])), (mka, .inl (cM, 8, .inr (.inr (.inr (.inr mf))))), (mk, .inr (3, [.int mq, .int mb, .ref fm, .ref ky, .int mi])), (ky, .inr (2, [.int kb, .ref ca, .ref cc, .int kf, .int kg, .int kl, .int kx, .int ko])), (ca, .inl (cI, 16, .inl kc)), (cc, .inl (cI, 4, .inl kd))]) (fun (_ : Unit) => []) := by
  refine ct_i (cc := cX8_both) (maxL := 5) (ret := (some .int)) (by decide) rfl (Nat.le_of_ble_eq_true rfl) ?_
  intro p e s m below meth c A ls H hx hb hr hts hown hml hlocks hin hA hS hP hK hD hNW hl hAe hsz
  have hl : lv_has ls 5 [(0, .ref h0), (1, .int i), (2, .int v)] := hl
  refine lv_aload_n hx hb dX8_both_0 rfl (lv_at hl 0 rfl) ?_
  refine lv_iload_n hx hb dX8_both_1 rfl (lv_at hl 1 rfl) ?_
  refine go_q (wr := [(mk, .inr (3, [.int mq, .int mb, .ref fm, .ref ky, .int mi])), (ky, .inr (2, [.int kb, .ref ca, .ref cc, .int kf, .int kg, .int kl, .int kx, .int ko])), (ca, .inl (cI, 16, .inl kc)), (cc, .inl (cI, 4, .inl kd))]) (tysr := [(cI, .int), (cM, .object "OneHandset$Make")]) hP hD hS hA hK [0, 1] [2, 3, 4, 5] [0, 1] rfl rfl (by decide) (by decide) rfl (va_runV (As := [.int i]) (rest := []) ⟨hx, hb, hml, hown, hts⟩ (g_makeAt_yes l D H.size h0 tp mka bx rt mc cM mf mk i hyes him hmc) (cwV 1 hts gX8_both_X8_makeAt rfl rfl rfl (by decide +kernel) ⟨Nat.le_of_ble_eq_true rfl, Nat.le_of_ble_eq_true rfl⟩) (st_preV (ci := 7) (q0 := 0) hP hD hK hNW [0, 1] [1] rfl rfl (by decide) rfl rfl rfl rfl) rfl rfl hl.1 rfl (lv_room (Nat.le_of_ble_eq_true rfl)) dX8_both_2 ⟨(Nat.le_of_ble_eq_true rfl), (Nat.le_of_ble_eq_true rfl)⟩) (fun r_1 u H locs hw hP hD hK hS => ?_)
  have hw : r_1 = some mk := hw
  subst hw
  have hP : va_P D vwCl [(mk, .inr (3, [.int mq, .int mb, .ref fm, .ref ky, .int mi])), (ky, .inr (2, [.int kb, .ref ca, .ref cc, .int kf, .int kg, .int kl, .int kx, .int ko])), (ca, .inl (cI, 16, .inl kc)), (cc, .inl (cI, 4, .inl kd)), (h0, .inr (7, [.ref tp, .ref mka, .int mc, .ref bx, .ref rt])), (mka, .inl (cM, 8, .inr (.inr (.inr (.inr mf)))))] H := hP
  have hD : va_D A [(mk, .inr (3, [.int mq, .int mb, .ref fm, .ref ky, .int mi])), (ky, .inr (2, [.int kb, .ref ca, .ref cc, .int kf, .int kg, .int kl, .int kx, .int ko])), (ca, .inl (cI, 16, .inl kc)), (cc, .inl (cI, 4, .inl kd)), (h0, .inr (7, [.ref tp, .ref mka, .int mc, .ref bx, .ref rt])), (mka, .inl (cM, 8, .inr (.inr (.inr (.inr mf)))))] := hD
  have hK : va_K D vwCl [(cI, .int), (cM, .object "OneHandset$Make")] s := hK
  refine W.eq (g2 := F0 m 5 ls [.ref mk]) rfl ?_
  refine lv_astore_n (lv' := [(3, .ref mk), (0, .ref h0), (1, .int i), (2, .int v)]) hx hb dX8_both_5 rfl hl (by decide) rfl (fun ls hl => ?_)
  refine lv_aload_n hx hb dX8_both_6 rfl (lv_at hl 1 rfl) ?_
  refine lv_iload_n hx hb dX8_both_7 rfl (lv_at hl 3 rfl) ?_
  refine go_q (wr := [(mk, .inr (3, [.int mq, .int mb, .ref fm, .ref ky, .int mi])), (ky, .inr (2, [.int kb, .ref ca, .ref cc, .int kf, .int kg, .int kl, .int kx, .int ko])), (ca, .inl (cI, 16, .inl kc)), (cc, .inl (cI, 4, .inl kd))]) (tysr := [(cI, .int), (cM, .object "OneHandset$Make")]) hP hD hS hA hK [4, 5] [0, 1, 2, 3] [0, 1] rfl rfl (by decide) (by decide) rfl (va_runV (As := [.int v]) (rest := []) ⟨hx, hb, hml, hown, hts⟩ (g_makeAt_yes l D H.size h0 tp mka bx rt mc cM mf mk v hyes2 him2 hmc) (cwV 1 hts gX8_both_X8_makeAt rfl rfl rfl (by decide +kernel) ⟨Nat.le_of_ble_eq_true rfl, Nat.le_of_ble_eq_true rfl⟩) (st_preV (ci := 7) (q0 := 4) hP hD hK hNW [4, 5] [1] rfl rfl (by decide) rfl rfl rfl rfl) rfl rfl hl.1 rfl (lv_room (Nat.le_of_ble_eq_true rfl)) dX8_both_8 ⟨(Nat.le_of_ble_eq_true rfl), (Nat.le_of_ble_eq_true rfl)⟩) (fun r_2 u H locs hw hP hD hK hS => ?_)
  have hw : r_2 = some mk := hw
  subst hw
  have hP : va_P D vwCl [(mk, .inr (3, [.int mq, .int mb, .ref fm, .ref ky, .int mi])), (ky, .inr (2, [.int kb, .ref ca, .ref cc, .int kf, .int kg, .int kl, .int kx, .int ko])), (ca, .inl (cI, 16, .inl kc)), (cc, .inl (cI, 4, .inl kd)), (h0, .inr (7, [.ref tp, .ref mka, .int mc, .ref bx, .ref rt])), (mka, .inl (cM, 8, .inr (.inr (.inr (.inr mf)))))] H := hP
  have hD : va_D A [(mk, .inr (3, [.int mq, .int mb, .ref fm, .ref ky, .int mi])), (ky, .inr (2, [.int kb, .ref ca, .ref cc, .int kf, .int kg, .int kl, .int kx, .int ko])), (ca, .inl (cI, 16, .inl kc)), (cc, .inl (cI, 4, .inl kd)), (h0, .inr (7, [.ref tp, .ref mka, .int mc, .ref bx, .ref rt])), (mka, .inl (cM, 8, .inr (.inr (.inr (.inr mf)))))] := hD
  have hK : va_K D vwCl [(cI, .int), (cM, .object "OneHandset$Make")] s := hK
  refine W.eq (g2 := F0 m 11 ls [.ref mk]) rfl ?_
  refine lv_astore (lv' := [(4, .ref mk), (3, .ref mk), (0, .ref h0), (1, .int i), (2, .int v)]) hx hb dX8_both_11 hl (by decide) rfl (fun ls hl => ?_)
  refine lv_aload_n hx hb dX8_both_13 rfl (lv_at hl 1 rfl) ?_
  refine lv_ifnull hx hb dX8_both_14 ?_
  refine lv_aload hx hb dX8_both_17 (lv_at hl 0 rfl) ?_
  refine lv_ifnull hx hb dX8_both_19 ?_
  refine lv_aload_n hx hb dX8_both_22 rfl (lv_at hl 1 rfl) ?_
  refine va_getN (D := D) (ci := 3) (v := .int mb) (C := RX4) (T := TX4) (N := 5) hx hb hts hib_same_X4 hown hK hP 0 rfl rfl 1 (by decide) (va_Nw.use rfl (hNW.1 ("OneHandset", 68, "OneHandset$Make", "bits", "I", "OneHandset") (List.mem_of_getElem? (l := nw_F) (i := 15) rfl))) (fun _ h9 => h9) rfl dX8_both_23 ?_
  refine lv_aload hx hb dX8_both_26 (lv_at hl 0 rfl) ?_
  refine va_getN (D := D) (ci := 3) (v := .int mb) (C := RX4) (T := TX4) (N := 5) hx hb hts hib_same_X4 hown hK hP 0 rfl rfl 1 (by decide) (va_Nw.use rfl (hNW.1 ("OneHandset", 68, "OneHandset$Make", "bits", "I", "OneHandset") (List.mem_of_getElem? (l := nw_F) (i := 15) rfl))) (fun _ h9 => h9) rfl dX8_both_28 ?_
  refine lv_icmp_eq (tgt := 36) hx hb dX8_both_31 (by decide) (fun c_3 => ?_) (fun c_3 => ?_)
  · refine lv_aload_n hx hb dX8_both_36 rfl (lv_at hl 1 rfl) ?_
    refine va_getN (D := D) (ci := 3) (v := .ref ky) (C := RX4) (T := TX4) (N := 5) hx hb hts hib_same_X4 hown hK hP 0 rfl rfl 3 (by decide) (va_Nw.use rfl (hNW.1 ("OneHandset", 71, "OneHandset$Make", "keys", "LOneHandset$Keys;", "OneHandset") (List.mem_of_getElem? (l := nw_F) (i := 16) rfl))) (fun _ h9 => h9) rfl dX8_both_37 ?_
    refine go_i (wr := [(mk, .inr (3, [.int mq, .int mb, .ref fm, .ref ky, .int mi])), (ca, .inl (cI, 16, .inl kc)), (cc, .inl (cI, 4, .inl kd)), (h0, .inr (7, [.ref tp, .ref mka, .int mc, .ref bx, .ref rt])), (mka, .inl (cM, 8, .inr (.inr (.inr (.inr mf)))))]) (tysr := [(cI, .int), (cM, .object "OneHandset$Make")]) hP hD hS hA hK [1] [0, 2, 3, 4, 5] [0, 1] rfl rfl (by decide) (by decide) rfl (va_runV (As := []) (rest := []) ⟨hx, hb, hml, hown, hts⟩ (g_canForesee l D H.size ky ca cc kb kf kg kl kx ko ) (cwV 0 hts gX8_both_X3_canForesee rfl rfl rfl (by decide +kernel) ⟨Nat.le_of_ble_eq_true rfl, Nat.le_of_ble_eq_true rfl⟩) (st_preV (ci := 2) (q0 := 1) hP hD hK hNW [1] [] rfl rfl (by decide) rfl rfl rfl rfl) rfl rfl hl.1 rfl (lv_room (Nat.le_of_ble_eq_true rfl)) dX8_both_40 ⟨(Nat.le_of_ble_eq_true rfl), (Nat.le_of_ble_eq_true rfl)⟩) (fun r_4 u H locs hw hP hD hK hS => ?_)
    have hP : va_P D vwCl [(mk, .inr (3, [.int mq, .int mb, .ref fm, .ref ky, .int mi])), (ca, .inl (cI, 16, .inl kc)), (cc, .inl (cI, 4, .inl kd)), (h0, .inr (7, [.ref tp, .ref mka, .int mc, .ref bx, .ref rt])), (mka, .inl (cM, 8, .inr (.inr (.inr (.inr mf))))), (ky, .inr (2, [.int kb, .ref ca, .ref cc, .int kf, .int kg, .int kl, .int kx, .int ko]))] H := hP
    have hD : va_D A [(mk, .inr (3, [.int mq, .int mb, .ref fm, .ref ky, .int mi])), (ca, .inl (cI, 16, .inl kc)), (cc, .inl (cI, 4, .inl kd)), (h0, .inr (7, [.ref tp, .ref mka, .int mc, .ref bx, .ref rt])), (mka, .inl (cM, 8, .inr (.inr (.inr (.inr mf))))), (ky, .inr (2, [.int kb, .ref ca, .ref cc, .int kf, .int kg, .int kl, .int kx, .int ko]))] := hD
    have hK : va_K D vwCl [(cI, .int), (cM, .object "OneHandset$Make")] s := hK
    refine lv_if_eq (tgt := 57) hx hb dX8_both_43 (by decide) (fun c_5 => ?_) (fun c_5 => ?_)
    · refine lv_iconst (v := (-1)) hx hb dX8_both_57 (by decide) ?_
      exact ret_i hx hb hr hlocks rfl (u := ()) trivial (hP.sub [3, 4, 0, 5, 1, 2] rfl) (hK.sub [] rfl) (hD.sub [3, 4, 0, 5, 1, 2] (by decide) rfl) hS (Nat.le_of_ble_eq_true rfl) (Nat.le_of_ble_eq_true rfl) dX8_both_58
    refine lv_aload hx hb dX8_both_46 (lv_at hl 0 rfl) ?_
    refine va_getN (D := D) (ci := 3) (v := .ref ky) (C := RX4) (T := TX4) (N := 5) hx hb hts hib_same_X4 hown hK hP 0 rfl rfl 3 (by decide) (va_Nw.use rfl (hNW.1 ("OneHandset", 71, "OneHandset$Make", "keys", "LOneHandset$Keys;", "OneHandset") (List.mem_of_getElem? (l := nw_F) (i := 16) rfl))) (fun _ h9 => h9) rfl dX8_both_48 ?_
    refine go_i (wr := [(mk, .inr (3, [.int mq, .int mb, .ref fm, .ref ky, .int mi])), (ca, .inl (cI, 16, .inl kc)), (cc, .inl (cI, 4, .inl kd)), (h0, .inr (7, [.ref tp, .ref mka, .int mc, .ref bx, .ref rt])), (mka, .inl (cM, 8, .inr (.inr (.inr (.inr mf)))))]) (tysr := [(cI, .int), (cM, .object "OneHandset$Make")]) hP hD hS hA hK [5] [0, 1, 2, 3, 4] [0, 1] rfl rfl (by decide) (by decide) rfl (va_runV (As := []) (rest := []) ⟨hx, hb, hml, hown, hts⟩ (g_canForesee l D H.size ky ca cc kb kf kg kl kx ko ) (cwV 0 hts gX8_both_X3_canForesee rfl rfl rfl (by decide +kernel) ⟨Nat.le_of_ble_eq_true rfl, Nat.le_of_ble_eq_true rfl⟩) (st_preV (ci := 2) (q0 := 5) hP hD hK hNW [5] [] rfl rfl (by decide) rfl rfl rfl rfl) rfl rfl hl.1 rfl (lv_room (Nat.le_of_ble_eq_true rfl)) dX8_both_51 ⟨(Nat.le_of_ble_eq_true rfl), (Nat.le_of_ble_eq_true rfl)⟩) (fun r_6 u H locs hw hP hD hK hS => ?_)
    have hP : va_P D vwCl [(mk, .inr (3, [.int mq, .int mb, .ref fm, .ref ky, .int mi])), (ca, .inl (cI, 16, .inl kc)), (cc, .inl (cI, 4, .inl kd)), (h0, .inr (7, [.ref tp, .ref mka, .int mc, .ref bx, .ref rt])), (mka, .inl (cM, 8, .inr (.inr (.inr (.inr mf))))), (ky, .inr (2, [.int kb, .ref ca, .ref cc, .int kf, .int kg, .int kl, .int kx, .int ko]))] H := hP
    have hD : va_D A [(mk, .inr (3, [.int mq, .int mb, .ref fm, .ref ky, .int mi])), (ca, .inl (cI, 16, .inl kc)), (cc, .inl (cI, 4, .inl kd)), (h0, .inr (7, [.ref tp, .ref mka, .int mc, .ref bx, .ref rt])), (mka, .inl (cM, 8, .inr (.inr (.inr (.inr mf))))), (ky, .inr (2, [.int kb, .ref ca, .ref cc, .int kf, .int kg, .int kl, .int kx, .int ko]))] := hD
    have hK : va_K D vwCl [(cI, .int), (cM, .object "OneHandset$Make")] s := hK
    refine lv_if_ne (tgt := 59) hx hb dX8_both_54 (by decide) (fun c_7 => ?_) (fun c_7 => ?_)
    · refine lv_aload_n hx hb dX8_both_59 rfl (lv_at hl 1 rfl) ?_
      refine va_getN (D := D) (ci := 3) (v := .ref ky) (C := RX4) (T := TX4) (N := 5) hx hb hts hib_same_X4 hown hK hP 0 rfl rfl 3 (by decide) (va_Nw.use rfl (hNW.1 ("OneHandset", 71, "OneHandset$Make", "keys", "LOneHandset$Keys;", "OneHandset") (List.mem_of_getElem? (l := nw_F) (i := 16) rfl))) (fun _ h9 => h9) rfl dX8_both_60 ?_
      refine lv_aload hx hb dX8_both_63 (lv_at hl 0 rfl) ?_
      refine va_getN (D := D) (ci := 3) (v := .ref ky) (C := RX4) (T := TX4) (N := 5) hx hb hts hib_same_X4 hown hK hP 0 rfl rfl 3 (by decide) (va_Nw.use rfl (hNW.1 ("OneHandset", 71, "OneHandset$Make", "keys", "LOneHandset$Keys;", "OneHandset") (List.mem_of_getElem? (l := nw_F) (i := 16) rfl))) (fun _ h9 => h9) rfl dX8_both_65 ?_
      refine go_i (wr := [(mk, .inr (3, [.int mq, .int mb, .ref fm, .ref ky, .int mi])), (h0, .inr (7, [.ref tp, .ref mka, .int mc, .ref bx, .ref rt])), (mka, .inl (cM, 8, .inr (.inr (.inr (.inr mf)))))]) (tysr := [(cI, .int), (cM, .object "OneHandset$Make")]) hP hD hS hA hK [5, 1, 2] [0, 3, 4] [0, 1] rfl rfl (by decide) (by decide) rfl (va_runV (As := [.ref ky]) (rest := []) ⟨hx, hb, hml, hown, hts⟩ (g_leastSame l D H.size cI ky ca cc kb kf kg kl kx ko kc kd ) (cwV 1 hts gX8_both_X3_leastForeseenWith rfl rfl rfl (by decide +kernel) ⟨Nat.le_of_ble_eq_true rfl, Nat.le_of_ble_eq_true rfl⟩) (st_preV (ci := 2) (q0 := 5) hP hD hK hNW [5, 1, 2] [0] rfl rfl (by decide) rfl rfl rfl rfl) rfl rfl hl.1 rfl (lv_room (Nat.le_of_ble_eq_true rfl)) dX8_both_68 ⟨(Nat.le_of_ble_eq_true rfl), (Nat.le_of_ble_eq_true rfl)⟩) (fun r_8 u H locs hw hP hD hK hS => ?_)
      have hP : va_P D vwCl [(mk, .inr (3, [.int mq, .int mb, .ref fm, .ref ky, .int mi])), (h0, .inr (7, [.ref tp, .ref mka, .int mc, .ref bx, .ref rt])), (mka, .inl (cM, 8, .inr (.inr (.inr (.inr mf))))), (ky, .inr (2, [.int kb, .ref ca, .ref cc, .int kf, .int kg, .int kl, .int kx, .int ko])), (ca, .inl (cI, 16, .inl kc)), (cc, .inl (cI, 4, .inl kd))] H := hP
      have hD : va_D A [(mk, .inr (3, [.int mq, .int mb, .ref fm, .ref ky, .int mi])), (h0, .inr (7, [.ref tp, .ref mka, .int mc, .ref bx, .ref rt])), (mka, .inl (cM, 8, .inr (.inr (.inr (.inr mf))))), (ky, .inr (2, [.int kb, .ref ca, .ref cc, .int kf, .int kg, .int kl, .int kx, .int ko])), (ca, .inl (cI, 16, .inl kc)), (cc, .inl (cI, 4, .inl kd))] := hD
      have hK : va_K D vwCl [(cI, .int), (cM, .object "OneHandset$Make")] s := hK
      exact ret_i hx hb hr hlocks rfl (u := ()) trivial (hP.sub [1, 2, 0, 3, 4, 5] rfl) (hK.sub [] rfl) (hD.sub [1, 2, 0, 3, 4, 5] (by decide) rfl) hS (Nat.le_of_ble_eq_true rfl) (Nat.le_of_ble_eq_true rfl) dX8_both_71
    refine lv_iconst (v := (-1)) hx hb dX8_both_57 (by decide) ?_
    exact ret_i hx hb hr hlocks rfl (u := ()) trivial (hP.sub [3, 4, 0, 5, 1, 2] rfl) (hK.sub [] rfl) (hD.sub [3, 4, 0, 5, 1, 2] (by decide) rfl) hS (Nat.le_of_ble_eq_true rfl) (Nat.le_of_ble_eq_true rfl) dX8_both_58
  refine lv_iconst (v := (-1)) hx hb dX8_both_34 (by decide) ?_
  exact ret_i hx hb hr hlocks rfl (u := ()) trivial (hP.sub [4, 5, 0, 1, 2, 3] rfl) (hK.sub [] rfl) (hD.sub [4, 5, 0, 1, 2, 3] (by decide) rfl) hS (Nat.le_of_ble_eq_true rfl) (Nat.le_of_ble_eq_true rfl) dX8_both_35
theorem hib_other_X4 : ∀ w ∈ wsX40, w ∈ wsX8_both := mem_pl [63, 64, 65, 66, 67] rfl
set_option maxHeartbeats 4000000 in
set_option maxRecDepth 100000 in
theorem b_other (l : Launch) (D : va_G) (sz : Nat) (cI : ClassId) (h0 : Nat) (tp : Nat) (mka : Nat) (bx : Nat) (rt : Nat) (mc : Int32) (cM : ClassId) (mf : Nat → Option Nat) (mk : Nat) (fm : Nat) (ky : Nat) (mq : Int32) (mb : Int32) (mi : Int32) (ca : Nat) (cc : Nat) (kb : Int32) (kf : Int32) (kg : Int32) (kl : Int32) (kx : Int32) (ko : Int32) (kc : Nat → Int32) (kd : Nat → Int32) (mky : Nat) (fmy : Nat) (kyy : Nat) (mqy : Int32) (mby : Int32) (miy : Int32) (cay : Nat) (ccy : Nat) (kby : Int32) (kfy : Int32) (kgy : Int32) (kly : Int32) (kxy : Int32) (koy : Int32) (kcy : Nat → Int32) (kdy : Nat → Int32) (i : Int32) (v : Int32) (hmc : bi mc 0 8) (hyes : ¬ wi i 0 (mc - 1) = 0) (him : mf (Int32.toNatClampNeg i) = some mk) (hyes2 : ¬ wi v 0 (mc - 1) = 0) (him2 : mf (Int32.toNatClampNeg v) = some mky) : Ci l yX8_both wsX8_both ({ frames := 6, cells := 0, slots := 0, locals := 134 } : Room) D [.ref h0, .int i, .int v] [(h0, .inr (7, [.ref tp, .ref mka, .int mc, .ref bx, .ref rt])), (mka, .inl (cM, 8, .inr (.inr (.inr (.inr mf))))), (mk, .inr (3, [.int mq, .int mb, .ref fm, .ref ky, .int mi])), (ky, .inr (2, [.int kb, .ref ca, .ref cc, .int kf, .int kg, .int kl, .int kx, .int ko])), (ca, .inl (cI, 16, .inl kc)), (cc, .inl (cI, 4, .inl kd)), (mky, .inr (3, [.int mqy, .int mby, .ref fmy, .ref kyy, .int miy])), (kyy, .inr (2, [.int kby, .ref cay, .ref ccy, .int kfy, .int kgy, .int kly, .int kxy, .int koy])), (cay, .inl (cI, 16, .inl kcy)), (ccy, .inl (cI, 4, .inl kdy))] [(cI, .int), (cM, .object "OneHandset$Make")] sz (fun (r : Int32) => fun (_ : Unit) => True) (fun (_ : Unit) => [(h0, .inr (7, [.ref tp, .ref mka, .int mc, .ref bx, .ref rt])), (mka, .inl (cM, 8, .inr (.inr (.inr (.inr mf))))), (mk, .inr (3, [.int mq, .int mb, .ref fm, .ref ky, .int mi])), (ky, .inr (2, [.int kb, .ref ca, .ref cc, .int kf, .int kg, .int kl, .int kx, .int ko])), (ca, .inl (cI, 16, .inl kc)), (cc, .inl (cI, 4, .inl kd)), (mky, .inr (3, [.int mqy, .int mby, .ref fmy, .ref kyy, .int miy])), (kyy, .inr (2, [.int kby, .ref cay, .ref ccy, .int kfy, .int kgy, .int kly, .int kxy, .int koy])), (cay, .inl (cI, 16, .inl kcy)), (ccy, .inl (cI, 4, .inl kdy))]) (fun (_ : Unit) => []) := by
  refine ct_i (cc := cX8_both) (maxL := 5) (ret := (some .int)) (by decide) rfl (Nat.le_of_ble_eq_true rfl) ?_
  intro p e s m below meth c A ls H hx hb hr hts hown hml hlocks hin hA hS hP hK hD hNW hl hAe hsz
  have hl : lv_has ls 5 [(0, .ref h0), (1, .int i), (2, .int v)] := hl
  refine lv_aload_n hx hb dX8_both_0 rfl (lv_at hl 0 rfl) ?_
  refine lv_iload_n hx hb dX8_both_1 rfl (lv_at hl 1 rfl) ?_
  refine go_q (wr := [(mk, .inr (3, [.int mq, .int mb, .ref fm, .ref ky, .int mi])), (ky, .inr (2, [.int kb, .ref ca, .ref cc, .int kf, .int kg, .int kl, .int kx, .int ko])), (ca, .inl (cI, 16, .inl kc)), (cc, .inl (cI, 4, .inl kd)), (mky, .inr (3, [.int mqy, .int mby, .ref fmy, .ref kyy, .int miy])), (kyy, .inr (2, [.int kby, .ref cay, .ref ccy, .int kfy, .int kgy, .int kly, .int kxy, .int koy])), (cay, .inl (cI, 16, .inl kcy)), (ccy, .inl (cI, 4, .inl kdy))]) (tysr := [(cI, .int), (cM, .object "OneHandset$Make")]) hP hD hS hA hK [0, 1] [2, 3, 4, 5, 6, 7, 8, 9] [0, 1] rfl rfl (by decide) (by decide) rfl (va_runV (As := [.int i]) (rest := []) ⟨hx, hb, hml, hown, hts⟩ (g_makeAt_yes l D H.size h0 tp mka bx rt mc cM mf mk i hyes him hmc) (cwV 1 hts gX8_both_X8_makeAt rfl rfl rfl (by decide +kernel) ⟨Nat.le_of_ble_eq_true rfl, Nat.le_of_ble_eq_true rfl⟩) (st_preV (ci := 7) (q0 := 0) hP hD hK hNW [0, 1] [1] rfl rfl (by decide) rfl rfl rfl rfl) rfl rfl hl.1 rfl (lv_room (Nat.le_of_ble_eq_true rfl)) dX8_both_2 ⟨(Nat.le_of_ble_eq_true rfl), (Nat.le_of_ble_eq_true rfl)⟩) (fun r_1 u H locs hw hP hD hK hS => ?_)
  have hw : r_1 = some mk := hw
  subst hw
  have hP : va_P D vwCl [(mk, .inr (3, [.int mq, .int mb, .ref fm, .ref ky, .int mi])), (ky, .inr (2, [.int kb, .ref ca, .ref cc, .int kf, .int kg, .int kl, .int kx, .int ko])), (ca, .inl (cI, 16, .inl kc)), (cc, .inl (cI, 4, .inl kd)), (mky, .inr (3, [.int mqy, .int mby, .ref fmy, .ref kyy, .int miy])), (kyy, .inr (2, [.int kby, .ref cay, .ref ccy, .int kfy, .int kgy, .int kly, .int kxy, .int koy])), (cay, .inl (cI, 16, .inl kcy)), (ccy, .inl (cI, 4, .inl kdy)), (h0, .inr (7, [.ref tp, .ref mka, .int mc, .ref bx, .ref rt])), (mka, .inl (cM, 8, .inr (.inr (.inr (.inr mf)))))] H := hP
  have hD : va_D A [(mk, .inr (3, [.int mq, .int mb, .ref fm, .ref ky, .int mi])), (ky, .inr (2, [.int kb, .ref ca, .ref cc, .int kf, .int kg, .int kl, .int kx, .int ko])), (ca, .inl (cI, 16, .inl kc)), (cc, .inl (cI, 4, .inl kd)), (mky, .inr (3, [.int mqy, .int mby, .ref fmy, .ref kyy, .int miy])), (kyy, .inr (2, [.int kby, .ref cay, .ref ccy, .int kfy, .int kgy, .int kly, .int kxy, .int koy])), (cay, .inl (cI, 16, .inl kcy)), (ccy, .inl (cI, 4, .inl kdy)), (h0, .inr (7, [.ref tp, .ref mka, .int mc, .ref bx, .ref rt])), (mka, .inl (cM, 8, .inr (.inr (.inr (.inr mf)))))] := hD
  have hK : va_K D vwCl [(cI, .int), (cM, .object "OneHandset$Make")] s := hK
  refine W.eq (g2 := F0 m 5 ls [.ref mk]) rfl ?_
  refine lv_astore_n (lv' := [(3, .ref mk), (0, .ref h0), (1, .int i), (2, .int v)]) hx hb dX8_both_5 rfl hl (by decide) rfl (fun ls hl => ?_)
  refine lv_aload_n hx hb dX8_both_6 rfl (lv_at hl 1 rfl) ?_
  refine lv_iload_n hx hb dX8_both_7 rfl (lv_at hl 3 rfl) ?_
  refine go_q (wr := [(mk, .inr (3, [.int mq, .int mb, .ref fm, .ref ky, .int mi])), (ky, .inr (2, [.int kb, .ref ca, .ref cc, .int kf, .int kg, .int kl, .int kx, .int ko])), (ca, .inl (cI, 16, .inl kc)), (cc, .inl (cI, 4, .inl kd)), (mky, .inr (3, [.int mqy, .int mby, .ref fmy, .ref kyy, .int miy])), (kyy, .inr (2, [.int kby, .ref cay, .ref ccy, .int kfy, .int kgy, .int kly, .int kxy, .int koy])), (cay, .inl (cI, 16, .inl kcy)), (ccy, .inl (cI, 4, .inl kdy))]) (tysr := [(cI, .int), (cM, .object "OneHandset$Make")]) hP hD hS hA hK [8, 9] [0, 1, 2, 3, 4, 5, 6, 7] [0, 1] rfl rfl (by decide) (by decide) rfl (va_runV (As := [.int v]) (rest := []) ⟨hx, hb, hml, hown, hts⟩ (g_makeAt_yes l D H.size h0 tp mka bx rt mc cM mf mky v hyes2 him2 hmc) (cwV 1 hts gX8_both_X8_makeAt rfl rfl rfl (by decide +kernel) ⟨Nat.le_of_ble_eq_true rfl, Nat.le_of_ble_eq_true rfl⟩) (st_preV (ci := 7) (q0 := 8) hP hD hK hNW [8, 9] [1] rfl rfl (by decide) rfl rfl rfl rfl) rfl rfl hl.1 rfl (lv_room (Nat.le_of_ble_eq_true rfl)) dX8_both_8 ⟨(Nat.le_of_ble_eq_true rfl), (Nat.le_of_ble_eq_true rfl)⟩) (fun r_2 u H locs hw hP hD hK hS => ?_)
  have hw : r_2 = some mky := hw
  subst hw
  have hP : va_P D vwCl [(mk, .inr (3, [.int mq, .int mb, .ref fm, .ref ky, .int mi])), (ky, .inr (2, [.int kb, .ref ca, .ref cc, .int kf, .int kg, .int kl, .int kx, .int ko])), (ca, .inl (cI, 16, .inl kc)), (cc, .inl (cI, 4, .inl kd)), (mky, .inr (3, [.int mqy, .int mby, .ref fmy, .ref kyy, .int miy])), (kyy, .inr (2, [.int kby, .ref cay, .ref ccy, .int kfy, .int kgy, .int kly, .int kxy, .int koy])), (cay, .inl (cI, 16, .inl kcy)), (ccy, .inl (cI, 4, .inl kdy)), (h0, .inr (7, [.ref tp, .ref mka, .int mc, .ref bx, .ref rt])), (mka, .inl (cM, 8, .inr (.inr (.inr (.inr mf)))))] H := hP
  have hD : va_D A [(mk, .inr (3, [.int mq, .int mb, .ref fm, .ref ky, .int mi])), (ky, .inr (2, [.int kb, .ref ca, .ref cc, .int kf, .int kg, .int kl, .int kx, .int ko])), (ca, .inl (cI, 16, .inl kc)), (cc, .inl (cI, 4, .inl kd)), (mky, .inr (3, [.int mqy, .int mby, .ref fmy, .ref kyy, .int miy])), (kyy, .inr (2, [.int kby, .ref cay, .ref ccy, .int kfy, .int kgy, .int kly, .int kxy, .int koy])), (cay, .inl (cI, 16, .inl kcy)), (ccy, .inl (cI, 4, .inl kdy)), (h0, .inr (7, [.ref tp, .ref mka, .int mc, .ref bx, .ref rt])), (mka, .inl (cM, 8, .inr (.inr (.inr (.inr mf)))))] := hD
  have hK : va_K D vwCl [(cI, .int), (cM, .object "OneHandset$Make")] s := hK
  refine W.eq (g2 := F0 m 11 ls [.ref mky]) rfl ?_
  refine lv_astore (lv' := [(4, .ref mky), (3, .ref mk), (0, .ref h0), (1, .int i), (2, .int v)]) hx hb dX8_both_11 hl (by decide) rfl (fun ls hl => ?_)
  refine lv_aload_n hx hb dX8_both_13 rfl (lv_at hl 1 rfl) ?_
  refine lv_ifnull hx hb dX8_both_14 ?_
  refine lv_aload hx hb dX8_both_17 (lv_at hl 0 rfl) ?_
  refine lv_ifnull hx hb dX8_both_19 ?_
  refine lv_aload_n hx hb dX8_both_22 rfl (lv_at hl 1 rfl) ?_
  refine va_getN (D := D) (ci := 3) (v := .int mb) (C := RX4) (T := TX4) (N := 5) hx hb hts hib_other_X4 hown hK hP 0 rfl rfl 1 (by decide) (va_Nw.use rfl (hNW.1 ("OneHandset", 68, "OneHandset$Make", "bits", "I", "OneHandset") (List.mem_of_getElem? (l := nw_F) (i := 15) rfl))) (fun _ h9 => h9) rfl dX8_both_23 ?_
  refine lv_aload hx hb dX8_both_26 (lv_at hl 0 rfl) ?_
  refine va_getN (D := D) (ci := 3) (v := .int mby) (C := RX4) (T := TX4) (N := 5) hx hb hts hib_other_X4 hown hK hP 4 rfl rfl 1 (by decide) (va_Nw.use rfl (hNW.1 ("OneHandset", 68, "OneHandset$Make", "bits", "I", "OneHandset") (List.mem_of_getElem? (l := nw_F) (i := 15) rfl))) (fun _ h9 => h9) rfl dX8_both_28 ?_
  refine lv_icmp_eq (tgt := 36) hx hb dX8_both_31 (by decide) (fun c_3 => ?_) (fun c_3 => ?_)
  · refine lv_aload_n hx hb dX8_both_36 rfl (lv_at hl 1 rfl) ?_
    refine va_getN (D := D) (ci := 3) (v := .ref ky) (C := RX4) (T := TX4) (N := 5) hx hb hts hib_other_X4 hown hK hP 0 rfl rfl 3 (by decide) (va_Nw.use rfl (hNW.1 ("OneHandset", 71, "OneHandset$Make", "keys", "LOneHandset$Keys;", "OneHandset") (List.mem_of_getElem? (l := nw_F) (i := 16) rfl))) (fun _ h9 => h9) rfl dX8_both_37 ?_
    refine go_i (wr := [(mk, .inr (3, [.int mq, .int mb, .ref fm, .ref ky, .int mi])), (ca, .inl (cI, 16, .inl kc)), (cc, .inl (cI, 4, .inl kd)), (mky, .inr (3, [.int mqy, .int mby, .ref fmy, .ref kyy, .int miy])), (kyy, .inr (2, [.int kby, .ref cay, .ref ccy, .int kfy, .int kgy, .int kly, .int kxy, .int koy])), (cay, .inl (cI, 16, .inl kcy)), (ccy, .inl (cI, 4, .inl kdy)), (h0, .inr (7, [.ref tp, .ref mka, .int mc, .ref bx, .ref rt])), (mka, .inl (cM, 8, .inr (.inr (.inr (.inr mf)))))]) (tysr := [(cI, .int), (cM, .object "OneHandset$Make")]) hP hD hS hA hK [1] [0, 2, 3, 4, 5, 6, 7, 8, 9] [0, 1] rfl rfl (by decide) (by decide) rfl (va_runV (As := []) (rest := []) ⟨hx, hb, hml, hown, hts⟩ (g_canForesee l D H.size ky ca cc kb kf kg kl kx ko ) (cwV 0 hts gX8_both_X3_canForesee rfl rfl rfl (by decide +kernel) ⟨Nat.le_of_ble_eq_true rfl, Nat.le_of_ble_eq_true rfl⟩) (st_preV (ci := 2) (q0 := 1) hP hD hK hNW [1] [] rfl rfl (by decide) rfl rfl rfl rfl) rfl rfl hl.1 rfl (lv_room (Nat.le_of_ble_eq_true rfl)) dX8_both_40 ⟨(Nat.le_of_ble_eq_true rfl), (Nat.le_of_ble_eq_true rfl)⟩) (fun r_4 u H locs hw hP hD hK hS => ?_)
    have hP : va_P D vwCl [(mk, .inr (3, [.int mq, .int mb, .ref fm, .ref ky, .int mi])), (ca, .inl (cI, 16, .inl kc)), (cc, .inl (cI, 4, .inl kd)), (mky, .inr (3, [.int mqy, .int mby, .ref fmy, .ref kyy, .int miy])), (kyy, .inr (2, [.int kby, .ref cay, .ref ccy, .int kfy, .int kgy, .int kly, .int kxy, .int koy])), (cay, .inl (cI, 16, .inl kcy)), (ccy, .inl (cI, 4, .inl kdy)), (h0, .inr (7, [.ref tp, .ref mka, .int mc, .ref bx, .ref rt])), (mka, .inl (cM, 8, .inr (.inr (.inr (.inr mf))))), (ky, .inr (2, [.int kb, .ref ca, .ref cc, .int kf, .int kg, .int kl, .int kx, .int ko]))] H := hP
    have hD : va_D A [(mk, .inr (3, [.int mq, .int mb, .ref fm, .ref ky, .int mi])), (ca, .inl (cI, 16, .inl kc)), (cc, .inl (cI, 4, .inl kd)), (mky, .inr (3, [.int mqy, .int mby, .ref fmy, .ref kyy, .int miy])), (kyy, .inr (2, [.int kby, .ref cay, .ref ccy, .int kfy, .int kgy, .int kly, .int kxy, .int koy])), (cay, .inl (cI, 16, .inl kcy)), (ccy, .inl (cI, 4, .inl kdy)), (h0, .inr (7, [.ref tp, .ref mka, .int mc, .ref bx, .ref rt])), (mka, .inl (cM, 8, .inr (.inr (.inr (.inr mf))))), (ky, .inr (2, [.int kb, .ref ca, .ref cc, .int kf, .int kg, .int kl, .int kx, .int ko]))] := hD
    have hK : va_K D vwCl [(cI, .int), (cM, .object "OneHandset$Make")] s := hK
    refine lv_if_eq (tgt := 57) hx hb dX8_both_43 (by decide) (fun c_5 => ?_) (fun c_5 => ?_)
    · refine lv_iconst (v := (-1)) hx hb dX8_both_57 (by decide) ?_
      exact ret_i hx hb hr hlocks rfl (u := ()) trivial (hP.sub [7, 8, 0, 9, 1, 2, 3, 4, 5, 6] rfl) (hK.sub [] rfl) (hD.sub [7, 8, 0, 9, 1, 2, 3, 4, 5, 6] (by decide) rfl) hS (Nat.le_of_ble_eq_true rfl) (Nat.le_of_ble_eq_true rfl) dX8_both_58
    refine lv_aload hx hb dX8_both_46 (lv_at hl 0 rfl) ?_
    refine va_getN (D := D) (ci := 3) (v := .ref kyy) (C := RX4) (T := TX4) (N := 5) hx hb hts hib_other_X4 hown hK hP 3 rfl rfl 3 (by decide) (va_Nw.use rfl (hNW.1 ("OneHandset", 71, "OneHandset$Make", "keys", "LOneHandset$Keys;", "OneHandset") (List.mem_of_getElem? (l := nw_F) (i := 16) rfl))) (fun _ h9 => h9) rfl dX8_both_48 ?_
    refine go_i (wr := [(mk, .inr (3, [.int mq, .int mb, .ref fm, .ref ky, .int mi])), (ca, .inl (cI, 16, .inl kc)), (cc, .inl (cI, 4, .inl kd)), (mky, .inr (3, [.int mqy, .int mby, .ref fmy, .ref kyy, .int miy])), (cay, .inl (cI, 16, .inl kcy)), (ccy, .inl (cI, 4, .inl kdy)), (h0, .inr (7, [.ref tp, .ref mka, .int mc, .ref bx, .ref rt])), (mka, .inl (cM, 8, .inr (.inr (.inr (.inr mf))))), (ky, .inr (2, [.int kb, .ref ca, .ref cc, .int kf, .int kg, .int kl, .int kx, .int ko]))]) (tysr := [(cI, .int), (cM, .object "OneHandset$Make")]) hP hD hS hA hK [4] [0, 1, 2, 3, 5, 6, 7, 8, 9] [0, 1] rfl rfl (by decide) (by decide) rfl (va_runV (As := []) (rest := []) ⟨hx, hb, hml, hown, hts⟩ (g_canForesee l D H.size kyy cay ccy kby kfy kgy kly kxy koy ) (cwV 0 hts gX8_both_X3_canForesee rfl rfl rfl (by decide +kernel) ⟨Nat.le_of_ble_eq_true rfl, Nat.le_of_ble_eq_true rfl⟩) (st_preV (ci := 2) (q0 := 4) hP hD hK hNW [4] [] rfl rfl (by decide) rfl rfl rfl rfl) rfl rfl hl.1 rfl (lv_room (Nat.le_of_ble_eq_true rfl)) dX8_both_51 ⟨(Nat.le_of_ble_eq_true rfl), (Nat.le_of_ble_eq_true rfl)⟩) (fun r_6 u H locs hw hP hD hK hS => ?_)
    have hP : va_P D vwCl [(mk, .inr (3, [.int mq, .int mb, .ref fm, .ref ky, .int mi])), (ca, .inl (cI, 16, .inl kc)), (cc, .inl (cI, 4, .inl kd)), (mky, .inr (3, [.int mqy, .int mby, .ref fmy, .ref kyy, .int miy])), (cay, .inl (cI, 16, .inl kcy)), (ccy, .inl (cI, 4, .inl kdy)), (h0, .inr (7, [.ref tp, .ref mka, .int mc, .ref bx, .ref rt])), (mka, .inl (cM, 8, .inr (.inr (.inr (.inr mf))))), (ky, .inr (2, [.int kb, .ref ca, .ref cc, .int kf, .int kg, .int kl, .int kx, .int ko])), (kyy, .inr (2, [.int kby, .ref cay, .ref ccy, .int kfy, .int kgy, .int kly, .int kxy, .int koy]))] H := hP
    have hD : va_D A [(mk, .inr (3, [.int mq, .int mb, .ref fm, .ref ky, .int mi])), (ca, .inl (cI, 16, .inl kc)), (cc, .inl (cI, 4, .inl kd)), (mky, .inr (3, [.int mqy, .int mby, .ref fmy, .ref kyy, .int miy])), (cay, .inl (cI, 16, .inl kcy)), (ccy, .inl (cI, 4, .inl kdy)), (h0, .inr (7, [.ref tp, .ref mka, .int mc, .ref bx, .ref rt])), (mka, .inl (cM, 8, .inr (.inr (.inr (.inr mf))))), (ky, .inr (2, [.int kb, .ref ca, .ref cc, .int kf, .int kg, .int kl, .int kx, .int ko])), (kyy, .inr (2, [.int kby, .ref cay, .ref ccy, .int kfy, .int kgy, .int kly, .int kxy, .int koy]))] := hD
    have hK : va_K D vwCl [(cI, .int), (cM, .object "OneHandset$Make")] s := hK
    refine lv_if_ne (tgt := 59) hx hb dX8_both_54 (by decide) (fun c_7 => ?_) (fun c_7 => ?_)
    · refine lv_aload_n hx hb dX8_both_59 rfl (lv_at hl 1 rfl) ?_
      refine va_getN (D := D) (ci := 3) (v := .ref ky) (C := RX4) (T := TX4) (N := 5) hx hb hts hib_other_X4 hown hK hP 0 rfl rfl 3 (by decide) (va_Nw.use rfl (hNW.1 ("OneHandset", 71, "OneHandset$Make", "keys", "LOneHandset$Keys;", "OneHandset") (List.mem_of_getElem? (l := nw_F) (i := 16) rfl))) (fun _ h9 => h9) rfl dX8_both_60 ?_
      refine lv_aload hx hb dX8_both_63 (lv_at hl 0 rfl) ?_
      refine va_getN (D := D) (ci := 3) (v := .ref kyy) (C := RX4) (T := TX4) (N := 5) hx hb hts hib_other_X4 hown hK hP 3 rfl rfl 3 (by decide) (va_Nw.use rfl (hNW.1 ("OneHandset", 71, "OneHandset$Make", "keys", "LOneHandset$Keys;", "OneHandset") (List.mem_of_getElem? (l := nw_F) (i := 16) rfl))) (fun _ h9 => h9) rfl dX8_both_65 ?_
      refine go_i (wr := [(mk, .inr (3, [.int mq, .int mb, .ref fm, .ref ky, .int mi])), (mky, .inr (3, [.int mqy, .int mby, .ref fmy, .ref kyy, .int miy])), (h0, .inr (7, [.ref tp, .ref mka, .int mc, .ref bx, .ref rt])), (mka, .inl (cM, 8, .inr (.inr (.inr (.inr mf)))))]) (tysr := [(cI, .int), (cM, .object "OneHandset$Make")]) hP hD hS hA hK [8, 1, 2, 9, 4, 5] [0, 3, 6, 7] [0, 1] rfl rfl (by decide) (by decide) rfl (va_runV (As := [.ref kyy]) (rest := []) ⟨hx, hb, hml, hown, hts⟩ (g_leastOther l D H.size cI ky ca cc kb kf kg kl kx ko kc kd kyy cay ccy kby kfy kgy kly kxy koy kcy kdy ) (cwV 1 hts gX8_both_X3_leastForeseenWith rfl rfl rfl (by decide +kernel) ⟨Nat.le_of_ble_eq_true rfl, Nat.le_of_ble_eq_true rfl⟩) (st_preV (ci := 2) (q0 := 8) hP hD hK hNW [8, 1, 2, 9, 4, 5] [0] rfl rfl (by decide) rfl rfl rfl rfl) rfl rfl hl.1 rfl (lv_room (Nat.le_of_ble_eq_true rfl)) dX8_both_68 ⟨(Nat.le_of_ble_eq_true rfl), (Nat.le_of_ble_eq_true rfl)⟩) (fun r_8 u H locs hw hP hD hK hS => ?_)
      have hP : va_P D vwCl [(mk, .inr (3, [.int mq, .int mb, .ref fm, .ref ky, .int mi])), (mky, .inr (3, [.int mqy, .int mby, .ref fmy, .ref kyy, .int miy])), (h0, .inr (7, [.ref tp, .ref mka, .int mc, .ref bx, .ref rt])), (mka, .inl (cM, 8, .inr (.inr (.inr (.inr mf))))), (ky, .inr (2, [.int kb, .ref ca, .ref cc, .int kf, .int kg, .int kl, .int kx, .int ko])), (ca, .inl (cI, 16, .inl kc)), (cc, .inl (cI, 4, .inl kd)), (kyy, .inr (2, [.int kby, .ref cay, .ref ccy, .int kfy, .int kgy, .int kly, .int kxy, .int koy])), (cay, .inl (cI, 16, .inl kcy)), (ccy, .inl (cI, 4, .inl kdy))] H := hP
      have hD : va_D A [(mk, .inr (3, [.int mq, .int mb, .ref fm, .ref ky, .int mi])), (mky, .inr (3, [.int mqy, .int mby, .ref fmy, .ref kyy, .int miy])), (h0, .inr (7, [.ref tp, .ref mka, .int mc, .ref bx, .ref rt])), (mka, .inl (cM, 8, .inr (.inr (.inr (.inr mf))))), (ky, .inr (2, [.int kb, .ref ca, .ref cc, .int kf, .int kg, .int kl, .int kx, .int ko])), (ca, .inl (cI, 16, .inl kc)), (cc, .inl (cI, 4, .inl kd)), (kyy, .inr (2, [.int kby, .ref cay, .ref ccy, .int kfy, .int kgy, .int kly, .int kxy, .int koy])), (cay, .inl (cI, 16, .inl kcy)), (ccy, .inl (cI, 4, .inl kdy))] := hD
      have hK : va_K D vwCl [(cI, .int), (cM, .object "OneHandset$Make")] s := hK
      exact ret_i hx hb hr hlocks rfl (u := ()) trivial (hP.sub [2, 3, 0, 4, 5, 6, 1, 7, 8, 9] rfl) (hK.sub [] rfl) (hD.sub [2, 3, 0, 4, 5, 6, 1, 7, 8, 9] (by decide) rfl) hS (Nat.le_of_ble_eq_true rfl) (Nat.le_of_ble_eq_true rfl) dX8_both_71
    refine lv_iconst (v := (-1)) hx hb dX8_both_57 (by decide) ?_
    exact ret_i hx hb hr hlocks rfl (u := ()) trivial (hP.sub [6, 7, 0, 8, 1, 2, 3, 9, 4, 5] rfl) (hK.sub [] rfl) (hD.sub [6, 7, 0, 8, 1, 2, 3, 9, 4, 5] (by decide) rfl) hS (Nat.le_of_ble_eq_true rfl) (Nat.le_of_ble_eq_true rfl) dX8_both_58
  refine lv_iconst (v := (-1)) hx hb dX8_both_34 (by decide) ?_
  exact ret_i hx hb hr hlocks rfl (u := ()) trivial (hP.sub [8, 9, 0, 1, 2, 3, 4, 5, 6, 7] rfl) (hK.sub [] rfl) (hD.sub [8, 9, 0, 1, 2, 3, 4, 5, 6, 7] (by decide) rfl) hS (Nat.le_of_ble_eq_true rfl) (Nat.le_of_ble_eq_true rfl) dX8_both_35
theorem hit_feed_X8 : ∀ w ∈ wsX80, w ∈ wsX8_feed := mem_pl [9, 10, 11, 12, 13] rfl
theorem hit_feed_X7 : ∀ w ∈ wsX70, w ∈ wsX8_feed := mem_pl [14, 15] rfl
set_option maxHeartbeats 4000000 in
set_option maxRecDepth 100000 in
theorem t_feed (l : Launch) (D : va_G) (sz : Nat) (cI : ClassId) (h0 : Nat) (tp : Nat) (mka : Nat) (bx : Nat) (rt : Nat) (mc : Int32) (ta : Nat) (tk : Int32) (tf : Nat → Int32) (a : Int32) (b9 : Int32) (c9 : Int32) (d9 : Int32) (e9 : Int32) (hk : bi tk 0 120) : Ci l yX8_feed wsX8_feed ({ frames := 1, cells := 0, slots := 0, locals := 21 } : Room) D [.ref h0, .int a, .int b9, .int c9, .int d9, .int e9] [(h0, .inr (7, [.ref tp, .ref mka, .int mc, .ref bx, .ref rt])), (tp, .inr (6, [.ref ta, .int tk])), (ta, .inl (cI, 120, .inl tf))] [(cI, .int)] sz (fun (r : Int32) => fun (u9 : Int32 × (Nat → Int32)) => match u9 with | (tk2, tf2) => bi tk2 0 120) (fun (u9 : Int32 × (Nat → Int32)) => match u9 with | (tk2, tf2) => [(h0, .inr (7, [.ref tp, .ref mka, .int mc, .ref bx, .ref rt])), (tp, .inr (6, [.ref ta, .int tk2])), (ta, .inl (cI, 120, .inl tf2))]) (fun (u9 : Int32 × (Nat → Int32)) => match u9 with | (tk2, tf2) => []) := by
  refine ct_i (cc := cX8_feed) (maxL := 6) (ret := (some .int)) (by decide) rfl (Nat.le_of_ble_eq_true rfl) ?_
  intro p e s m below meth c A ls H hx hb hr hts hown hml hlocks hin hA hS hP hK hD hNW hl hAe hsz
  have hl : lv_has ls 6 [(0, .ref h0), (1, .int a), (2, .int b9), (3, .int c9), (4, .int d9), (5, .int e9)] := hl
  refine lv_aload_n hx hb dX8_feed_0 rfl (lv_at hl 0 rfl) ?_
  refine va_get (D := D) (ci := 7) (v := .ref tp) (C := RX8) (T := TX8) (N := 5) hx hb hts hit_feed_X8 hown hK hP 0 rfl rfl 0 (by decide) (hts (.fieldLink RX8 12 "OneHandset" "tape" "LOneHandset$Tape;") (List.mem_of_getElem? (i := 1) rfl)) (fun _ h9 => h9) rfl dX8_feed_1 ?_
  refine va_getN (D := D) (ci := 6) (v := .int tk) (C := RX7) (T := TX7) (N := 2) hx hb hts hit_feed_X7 hown hK hP 1 rfl rfl 1 (by decide) (va_Nw.use rfl (hNW.1 ("OneHandset", 81, "OneHandset$Tape", "size", "I", "OneHandset") (List.mem_of_getElem? (l := nw_F) (i := 1) rfl))) (fun _ h9 => h9) rfl dX8_feed_4 ?_
  refine lv_bipush (v := 115) hx hb dX8_feed_7 (by decide) ?_
  refine lv_icmp_le (tgt := 14) hx hb dX8_feed_9 (by decide) (fun c_1 => ?_) (fun c_1 => ?_)
  · refine lv_aload_n hx hb dX8_feed_14 rfl (lv_at hl 0 rfl) ?_
    refine va_get (D := D) (ci := 7) (v := .ref tp) (C := RX8) (T := TX8) (N := 5) hx hb hts hit_feed_X8 hown hK hP 0 rfl rfl 0 (by decide) (hts (.fieldLink RX8 12 "OneHandset" "tape" "LOneHandset$Tape;") (List.mem_of_getElem? (i := 1) rfl)) (fun _ h9 => h9) rfl dX8_feed_15 ?_
    refine lv_iload_n hx hb dX8_feed_18 rfl (lv_at hl 1 rfl) ?_
    refine go_v (wr := [(h0, .inr (7, [.ref tp, .ref mka, .int mc, .ref bx, .ref rt]))]) (tysr := [(cI, .int)]) hP hD hS hA hK [1, 2] [0] [0] rfl rfl (by decide) (by decide) rfl (va_runV (As := [.int a]) (rest := []) ⟨hx, hb, hml, hown, hts⟩ (g_append l D H.size tp ta cI tk tf a hk) (cwV 1 hts gX8_feed_X7_append rfl rfl rfl (by decide +kernel) ⟨Nat.le_of_ble_eq_true rfl, Nat.le_of_ble_eq_true rfl⟩) (st_preV (ci := 6) (q0 := 1) hP hD hK hNW [1, 2] [0] rfl rfl (by decide) rfl rfl rfl rfl) rfl rfl hl.1 rfl (lv_room (Nat.le_of_ble_eq_true rfl)) dX8_feed_19 ⟨(Nat.le_of_ble_eq_true rfl), (Nat.le_of_ble_eq_true rfl)⟩) (fun u H locs hw hP hD hK hS => ?_)
    obtain ⟨tk_3, tf_4⟩ := u
    have hw : bi tk_3 0 120 ∧ (tk.toInt < 120 → tk_3 = tk + 1) := hw
    have hw_5 := hw
    have hP : va_P D vwCl [(h0, .inr (7, [.ref tp, .ref mka, .int mc, .ref bx, .ref rt])), (tp, .inr (6, [.ref ta, .int tk_3])), (ta, .inl (cI, 120, .inl tf_4))] H := hP
    have hD : va_D A [(h0, .inr (7, [.ref tp, .ref mka, .int mc, .ref bx, .ref rt])), (tp, .inr (6, [.ref ta, .int tk_3])), (ta, .inl (cI, 120, .inl tf_4))] := hD
    have hK : va_K D vwCl [(cI, .int)] s := hK
    refine lv_aload_n hx hb dX8_feed_22 rfl (lv_at hl 0 rfl) ?_
    refine va_get (D := D) (ci := 7) (v := .ref tp) (C := RX8) (T := TX8) (N := 5) hx hb hts hit_feed_X8 hown hK hP 0 rfl rfl 0 (by decide) (hts (.fieldLink RX8 12 "OneHandset" "tape" "LOneHandset$Tape;") (List.mem_of_getElem? (i := 1) rfl)) (fun _ h9 => h9) rfl dX8_feed_23 ?_
    refine lv_iload_n hx hb dX8_feed_26 rfl (lv_at hl 2 rfl) ?_
    refine go_v (wr := [(h0, .inr (7, [.ref tp, .ref mka, .int mc, .ref bx, .ref rt]))]) (tysr := [(cI, .int)]) hP hD hS hA hK [1, 2] [0] [0] rfl rfl (by decide) (by decide) rfl (va_runV (As := [.int b9]) (rest := []) ⟨hx, hb, hml, hown, hts⟩ (g_append l D H.size tp ta cI tk_3 tf_4 b9 (hw_5).1) (cwV 1 hts gX8_feed_X7_append rfl rfl rfl (by decide +kernel) ⟨Nat.le_of_ble_eq_true rfl, Nat.le_of_ble_eq_true rfl⟩) (st_preV (ci := 6) (q0 := 1) hP hD hK hNW [1, 2] [0] rfl rfl (by decide) rfl rfl rfl rfl) rfl rfl hl.1 rfl (lv_room (Nat.le_of_ble_eq_true rfl)) dX8_feed_27 ⟨(Nat.le_of_ble_eq_true rfl), (Nat.le_of_ble_eq_true rfl)⟩) (fun u H locs hw hP hD hK hS => ?_)
    obtain ⟨tk_7, tf_8⟩ := u
    have hw : bi tk_7 0 120 ∧ (tk_3.toInt < 120 → tk_7 = tk_3 + 1) := hw
    have hw_9 := hw
    have hP : va_P D vwCl [(h0, .inr (7, [.ref tp, .ref mka, .int mc, .ref bx, .ref rt])), (tp, .inr (6, [.ref ta, .int tk_7])), (ta, .inl (cI, 120, .inl tf_8))] H := hP
    have hD : va_D A [(h0, .inr (7, [.ref tp, .ref mka, .int mc, .ref bx, .ref rt])), (tp, .inr (6, [.ref ta, .int tk_7])), (ta, .inl (cI, 120, .inl tf_8))] := hD
    have hK : va_K D vwCl [(cI, .int)] s := hK
    refine lv_aload_n hx hb dX8_feed_30 rfl (lv_at hl 0 rfl) ?_
    refine va_get (D := D) (ci := 7) (v := .ref tp) (C := RX8) (T := TX8) (N := 5) hx hb hts hit_feed_X8 hown hK hP 0 rfl rfl 0 (by decide) (hts (.fieldLink RX8 12 "OneHandset" "tape" "LOneHandset$Tape;") (List.mem_of_getElem? (i := 1) rfl)) (fun _ h9 => h9) rfl dX8_feed_31 ?_
    refine lv_iload_n hx hb dX8_feed_34 rfl (lv_at hl 3 rfl) ?_
    refine go_v (wr := [(h0, .inr (7, [.ref tp, .ref mka, .int mc, .ref bx, .ref rt]))]) (tysr := [(cI, .int)]) hP hD hS hA hK [1, 2] [0] [0] rfl rfl (by decide) (by decide) rfl (va_runV (As := [.int c9]) (rest := []) ⟨hx, hb, hml, hown, hts⟩ (g_append l D H.size tp ta cI tk_7 tf_8 c9 (hw_9).1) (cwV 1 hts gX8_feed_X7_append rfl rfl rfl (by decide +kernel) ⟨Nat.le_of_ble_eq_true rfl, Nat.le_of_ble_eq_true rfl⟩) (st_preV (ci := 6) (q0 := 1) hP hD hK hNW [1, 2] [0] rfl rfl (by decide) rfl rfl rfl rfl) rfl rfl hl.1 rfl (lv_room (Nat.le_of_ble_eq_true rfl)) dX8_feed_35 ⟨(Nat.le_of_ble_eq_true rfl), (Nat.le_of_ble_eq_true rfl)⟩) (fun u H locs hw hP hD hK hS => ?_)
    obtain ⟨tk_11, tf_12⟩ := u
    have hw : bi tk_11 0 120 ∧ (tk_7.toInt < 120 → tk_11 = tk_7 + 1) := hw
    have hw_13 := hw
    have hP : va_P D vwCl [(h0, .inr (7, [.ref tp, .ref mka, .int mc, .ref bx, .ref rt])), (tp, .inr (6, [.ref ta, .int tk_11])), (ta, .inl (cI, 120, .inl tf_12))] H := hP
    have hD : va_D A [(h0, .inr (7, [.ref tp, .ref mka, .int mc, .ref bx, .ref rt])), (tp, .inr (6, [.ref ta, .int tk_11])), (ta, .inl (cI, 120, .inl tf_12))] := hD
    have hK : va_K D vwCl [(cI, .int)] s := hK
    refine lv_aload_n hx hb dX8_feed_38 rfl (lv_at hl 0 rfl) ?_
    refine va_get (D := D) (ci := 7) (v := .ref tp) (C := RX8) (T := TX8) (N := 5) hx hb hts hit_feed_X8 hown hK hP 0 rfl rfl 0 (by decide) (hts (.fieldLink RX8 12 "OneHandset" "tape" "LOneHandset$Tape;") (List.mem_of_getElem? (i := 1) rfl)) (fun _ h9 => h9) rfl dX8_feed_39 ?_
    refine lv_iload hx hb dX8_feed_42 (lv_at hl 4 rfl) ?_
    refine go_v (wr := [(h0, .inr (7, [.ref tp, .ref mka, .int mc, .ref bx, .ref rt]))]) (tysr := [(cI, .int)]) hP hD hS hA hK [1, 2] [0] [0] rfl rfl (by decide) (by decide) rfl (va_runV (As := [.int d9]) (rest := []) ⟨hx, hb, hml, hown, hts⟩ (g_append l D H.size tp ta cI tk_11 tf_12 d9 (hw_13).1) (cwV 1 hts gX8_feed_X7_append rfl rfl rfl (by decide +kernel) ⟨Nat.le_of_ble_eq_true rfl, Nat.le_of_ble_eq_true rfl⟩) (st_preV (ci := 6) (q0 := 1) hP hD hK hNW [1, 2] [0] rfl rfl (by decide) rfl rfl rfl rfl) rfl rfl hl.1 rfl (lv_room (Nat.le_of_ble_eq_true rfl)) dX8_feed_44 ⟨(Nat.le_of_ble_eq_true rfl), (Nat.le_of_ble_eq_true rfl)⟩) (fun u H locs hw hP hD hK hS => ?_)
    obtain ⟨tk_15, tf_16⟩ := u
    have hw : bi tk_15 0 120 ∧ (tk_11.toInt < 120 → tk_15 = tk_11 + 1) := hw
    have hw_17 := hw
    have hP : va_P D vwCl [(h0, .inr (7, [.ref tp, .ref mka, .int mc, .ref bx, .ref rt])), (tp, .inr (6, [.ref ta, .int tk_15])), (ta, .inl (cI, 120, .inl tf_16))] H := hP
    have hD : va_D A [(h0, .inr (7, [.ref tp, .ref mka, .int mc, .ref bx, .ref rt])), (tp, .inr (6, [.ref ta, .int tk_15])), (ta, .inl (cI, 120, .inl tf_16))] := hD
    have hK : va_K D vwCl [(cI, .int)] s := hK
    refine lv_aload_n hx hb dX8_feed_47 rfl (lv_at hl 0 rfl) ?_
    refine va_get (D := D) (ci := 7) (v := .ref tp) (C := RX8) (T := TX8) (N := 5) hx hb hts hit_feed_X8 hown hK hP 0 rfl rfl 0 (by decide) (hts (.fieldLink RX8 12 "OneHandset" "tape" "LOneHandset$Tape;") (List.mem_of_getElem? (i := 1) rfl)) (fun _ h9 => h9) rfl dX8_feed_48 ?_
    refine lv_iload hx hb dX8_feed_51 (lv_at hl 5 rfl) ?_
    refine go_v (wr := [(h0, .inr (7, [.ref tp, .ref mka, .int mc, .ref bx, .ref rt]))]) (tysr := [(cI, .int)]) hP hD hS hA hK [1, 2] [0] [0] rfl rfl (by decide) (by decide) rfl (va_runV (As := [.int e9]) (rest := []) ⟨hx, hb, hml, hown, hts⟩ (g_append l D H.size tp ta cI tk_15 tf_16 e9 (hw_17).1) (cwV 1 hts gX8_feed_X7_append rfl rfl rfl (by decide +kernel) ⟨Nat.le_of_ble_eq_true rfl, Nat.le_of_ble_eq_true rfl⟩) (st_preV (ci := 6) (q0 := 1) hP hD hK hNW [1, 2] [0] rfl rfl (by decide) rfl rfl rfl rfl) rfl rfl hl.1 rfl (lv_room (Nat.le_of_ble_eq_true rfl)) dX8_feed_53 ⟨(Nat.le_of_ble_eq_true rfl), (Nat.le_of_ble_eq_true rfl)⟩) (fun u H locs hw hP hD hK hS => ?_)
    obtain ⟨tk_19, tf_20⟩ := u
    have hw : bi tk_19 0 120 ∧ (tk_15.toInt < 120 → tk_19 = tk_15 + 1) := hw
    have hw_21 := hw
    have hP : va_P D vwCl [(h0, .inr (7, [.ref tp, .ref mka, .int mc, .ref bx, .ref rt])), (tp, .inr (6, [.ref ta, .int tk_19])), (ta, .inl (cI, 120, .inl tf_20))] H := hP
    have hD : va_D A [(h0, .inr (7, [.ref tp, .ref mka, .int mc, .ref bx, .ref rt])), (tp, .inr (6, [.ref ta, .int tk_19])), (ta, .inl (cI, 120, .inl tf_20))] := hD
    have hK : va_K D vwCl [(cI, .int)] s := hK
    refine lv_aload_n hx hb dX8_feed_56 rfl (lv_at hl 0 rfl) ?_
    refine va_get (D := D) (ci := 7) (v := .ref tp) (C := RX8) (T := TX8) (N := 5) hx hb hts hit_feed_X8 hown hK hP 0 rfl rfl 0 (by decide) (hts (.fieldLink RX8 12 "OneHandset" "tape" "LOneHandset$Tape;") (List.mem_of_getElem? (i := 1) rfl)) (fun _ h9 => h9) rfl dX8_feed_57 ?_
    refine va_getN (D := D) (ci := 6) (v := .int tk_19) (C := RX7) (T := TX7) (N := 2) hx hb hts hit_feed_X7 hown hK hP 1 rfl rfl 1 (by decide) (va_Nw.use rfl (hNW.1 ("OneHandset", 81, "OneHandset$Tape", "size", "I", "OneHandset") (List.mem_of_getElem? (l := nw_F) (i := 1) rfl))) (fun _ h9 => h9) rfl dX8_feed_60 ?_
    exact ret_i hx hb hr hlocks rfl (u := (tk_19, tf_20)) ((hw_21).1) (hP.sub [0, 1, 2] rfl) (hK.sub [] rfl) (hD.sub [0, 1, 2] (by decide) rfl) hS (Nat.le_of_ble_eq_true rfl) (Nat.le_of_ble_eq_true rfl) dX8_feed_63
  refine lv_iconst (v := (-1)) hx hb dX8_feed_12 (by decide) ?_
  exact ret_i hx hb hr hlocks rfl (u := (tk, tf)) hk (hP.sub [0, 1, 2] rfl) (hK.sub [] rfl) (hD.sub [0, 1, 2] (by decide) rfl) hS (Nat.le_of_ble_eq_true rfl) (Nat.le_of_ble_eq_true rfl) dX8_feed_13
theorem hit_end_X8 : ∀ w ∈ wsX80, w ∈ wsX8_end := mem_pl [6, 7, 8, 9, 10] rfl
theorem hit_end_X7 : ∀ w ∈ wsX70, w ∈ wsX8_end := mem_pl [11, 12] rfl
set_option maxHeartbeats 4000000 in
set_option maxRecDepth 100000 in
theorem t_end (l : Launch) (D : va_G) (sz : Nat) (h0 : Nat) (tp : Nat) (mka : Nat) (bx : Nat) (rt : Nat) (mc : Int32) (ta : Nat) (tk : Int32) (v : Int32) (hk : bi tk 0 120) : Ci l yX8_end wsX8_end ({ frames := 1, cells := 0, slots := 0, locals := 22 } : Room) D [.ref h0, .int v] [(h0, .inr (7, [.ref tp, .ref mka, .int mc, .ref bx, .ref rt])), (tp, .inr (6, [.ref ta, .int tk]))] [] sz (fun (r : Int32) => fun (tk2 : Int32) => bi tk2 0 120) (fun (tk2 : Int32) => [(h0, .inr (7, [.ref tp, .ref mka, .int mc, .ref bx, .ref rt])), (tp, .inr (6, [.ref ta, .int tk2]))]) (fun (tk2 : Int32) => []) := by
  refine ct_i (cc := cX8_end) (maxL := 2) (ret := (some .boolean)) (by decide) rfl (Nat.le_of_ble_eq_true rfl) ?_
  intro p e s m below meth c A ls H hx hb hr hts hown hml hlocks hin hA hS hP hK hD hNW hl hAe hsz
  have hl : lv_has ls 2 [(0, .ref h0), (1, .int v)] := hl
  refine lv_iload_n hx hb dX8_end_0 rfl (lv_at hl 1 rfl) ?_
  refine lv_iconst (v := 0) hx hb dX8_end_1 (by decide) ?_
  refine lv_aload_n hx hb dX8_end_2 rfl (lv_at hl 0 rfl) ?_
  refine va_get (D := D) (ci := 7) (v := .ref tp) (C := RX8) (T := TX8) (N := 5) hx hb hts hit_end_X8 hown hK hP 0 rfl rfl 0 (by decide) (hts (.fieldLink RX8 12 "OneHandset" "tape" "LOneHandset$Tape;") (List.mem_of_getElem? (i := 1) rfl)) (fun _ h9 => h9) rfl dX8_end_3 ?_
  refine va_getN (D := D) (ci := 6) (v := .int tk) (C := RX7) (T := TX7) (N := 2) hx hb hts hit_end_X7 hown hK hP 1 rfl rfl 1 (by decide) (va_Nw.use rfl (hNW.1 ("OneHandset", 81, "OneHandset$Tape", "size", "I", "OneHandset") (List.mem_of_getElem? (l := nw_F) (i := 1) rfl))) (fun _ h9 => h9) rfl dX8_end_6 ?_
  refine go_i (wr := [(h0, .inr (7, [.ref tp, .ref mka, .int mc, .ref bx, .ref rt])), (tp, .inr (6, [.ref ta, .int tk]))]) (tysr := []) hP hD hS hA hK [] [0, 1] [] rfl rfl (by decide) (by decide) rfl (va_runS (As := [.int v, .int 0, .int tk]) (rest := []) ⟨hx, hb, hml, hown, hts⟩ (c_X8_within l D H.size v 0 tk ) (va_cwS 3 hts gX8_end_X8_within rfl rfl rfl (by decide +kernel) ⟨Nat.le_of_ble_eq_true rfl, Nat.le_of_ble_eq_true rfl⟩) (st_preS hP hD hK hNW [] [] rfl rfl (by decide) rfl) rfl rfl hl.1 rfl (lv_room (Nat.le_of_ble_eq_true rfl)) dX8_end_9 ⟨(Nat.le_of_ble_eq_true rfl), (Nat.le_of_ble_eq_true rfl)⟩) (fun r_1 u H locs hw hP hD hK hS => ?_)
  have hw : r_1 = wi v 0 tk := hw
  subst hw
  have hP : va_P D vwCl [(h0, .inr (7, [.ref tp, .ref mka, .int mc, .ref bx, .ref rt])), (tp, .inr (6, [.ref ta, .int tk]))] H := hP
  have hD : va_D A [(h0, .inr (7, [.ref tp, .ref mka, .int mc, .ref bx, .ref rt])), (tp, .inr (6, [.ref ta, .int tk]))] := hD
  have hK : va_K D vwCl [] s := hK
  refine lv_if_ne (tgt := 17) hx hb dX8_end_12 (by decide) (fun c_2 => ?_) (fun c_2 => ?_)
  · refine lv_aload_n hx hb dX8_end_17 rfl (lv_at hl 0 rfl) ?_
    refine va_get (D := D) (ci := 7) (v := .ref tp) (C := RX8) (T := TX8) (N := 5) hx hb hts hit_end_X8 hown hK hP 0 rfl rfl 0 (by decide) (hts (.fieldLink RX8 12 "OneHandset" "tape" "LOneHandset$Tape;") (List.mem_of_getElem? (i := 1) rfl)) (fun _ h9 => h9) rfl dX8_end_18 ?_
    refine lv_iload_n hx hb dX8_end_21 rfl (lv_at hl 1 rfl) ?_
    refine va_putN (D := D) (ci := 6) (v := .int v) (ty := .int) (C := RX7) (T := TX7) (N := 2) hx hb hts hit_end_X7 tyX7 tyX7_ok nmX7 hown hK hP hD hS 1 rfl rfl 1 (by decide) (va_Nw.use rfl (hNW.1 ("OneHandset", 81, "OneHandset$Tape", "size", "I", "OneHandset") (List.mem_of_getElem? (l := nw_F) (i := 1) rfl))) (fun _ h9 => h9) rfl (by decide +kernel) rfl rfl (Nat.le_of_ble_eq_true rfl) dX8_end_22 (fun H locs hP hD hS => ?_)
    have hP : va_P D vwCl [(h0, .inr (7, [.ref tp, .ref mka, .int mc, .ref bx, .ref rt])), (tp, .inr (6, [.ref ta, .int v]))] H := hP
    have hD : va_D A [(h0, .inr (7, [.ref tp, .ref mka, .int mc, .ref bx, .ref rt])), (tp, .inr (6, [.ref ta, .int v]))] := hD
    refine lv_iconst (v := 1) hx hb dX8_end_25 (by decide) ?_
    exact ret_i hx hb hr hlocks rfl (u := v) (by have : (0 : Int32).toInt = 0 := (by decide); have := ti_wi1 c_2; omega) (hP.sub [0, 1] rfl) (hK.sub [] rfl) (hD.sub [0, 1] (by decide) rfl) hS (Nat.le_of_ble_eq_true rfl) (Nat.le_of_ble_eq_true rfl) dX8_end_26
  refine lv_iconst (v := 0) hx hb dX8_end_15 (by decide) ?_
  exact ret_i hx hb hr hlocks rfl (u := tk) hk (hP.sub [0, 1] rfl) (hK.sub [] rfl) (hD.sub [0, 1] (by decide) rfl) hS (Nat.le_of_ble_eq_true rfl) (Nat.le_of_ble_eq_true rfl) dX8_end_16
theorem hit_stretch_X8 : ∀ w ∈ wsX80, w ∈ wsX8_stretch := mem_pl [22, 23, 24, 25, 26] rfl
set_option maxHeartbeats 4000000 in
set_option maxRecDepth 100000 in
theorem t_stretch (l : Launch) (D : va_G) (sz : Nat) (cI : ClassId) (h0 : Nat) (tp : Nat) (mka : Nat) (bx : Nat) (rt : Nat) (mc : Int32) (ta : Nat) (tk : Int32) (tf : Nat → Int32) (v : Int32) (hk : bi tk 0 120) : Ci l yX8_stretch wsX8_stretch ({ frames := 3, cells := 0, slots := 0, locals := 65 } : Room) D [.ref h0, .int v] [(h0, .inr (7, [.ref tp, .ref mka, .int mc, .ref bx, .ref rt])), (tp, .inr (6, [.ref ta, .int tk])), (ta, .inl (cI, 120, .inl tf))] [(cI, .int)] sz (fun (r : Int32) => fun (tf2 : Nat → Int32) => r = (if wi v (-60) 60 = 0 then 0 else 1)) (fun (tf2 : Nat → Int32) => [(h0, .inr (7, [.ref tp, .ref mka, .int mc, .ref bx, .ref rt])), (tp, .inr (6, [.ref ta, .int tk])), (ta, .inl (cI, 120, .inl tf2))]) (fun (tf2 : Nat → Int32) => []) := by
  refine ct_i (cc := cX8_stretch) (maxL := 2) (ret := (some .boolean)) (by decide) rfl (Nat.le_of_ble_eq_true rfl) ?_
  intro p e s m below meth c A ls H hx hb hr hts hown hml hlocks hin hA hS hP hK hD hNW hl hAe hsz
  have hl : lv_has ls 2 [(0, .ref h0), (1, .int v)] := hl
  refine lv_iload_n hx hb dX8_stretch_0 rfl (lv_at hl 1 rfl) ?_
  refine lv_bipush (v := (-60)) hx hb dX8_stretch_1 (by decide) ?_
  refine lv_bipush (v := 60) hx hb dX8_stretch_3 (by decide) ?_
  refine go_i (wr := [(h0, .inr (7, [.ref tp, .ref mka, .int mc, .ref bx, .ref rt])), (tp, .inr (6, [.ref ta, .int tk])), (ta, .inl (cI, 120, .inl tf))]) (tysr := [(cI, .int)]) hP hD hS hA hK [] [0, 1, 2] [0] rfl rfl (by decide) (by decide) rfl (va_runS (As := [.int v, .int (-60), .int 60]) (rest := []) ⟨hx, hb, hml, hown, hts⟩ (c_X8_within l D H.size v (-60) 60 ) (va_cwS 3 hts gX8_stretch_X8_within rfl rfl rfl (by decide +kernel) ⟨Nat.le_of_ble_eq_true rfl, Nat.le_of_ble_eq_true rfl⟩) (st_preS hP hD hK hNW [] [] rfl rfl (by decide) rfl) rfl rfl hl.1 rfl (lv_room (Nat.le_of_ble_eq_true rfl)) dX8_stretch_5 ⟨(Nat.le_of_ble_eq_true rfl), (Nat.le_of_ble_eq_true rfl)⟩) (fun r_1 u H locs hw hP hD hK hS => ?_)
  have hw : r_1 = wi v (-60) 60 := hw
  subst hw
  have hP : va_P D vwCl [(h0, .inr (7, [.ref tp, .ref mka, .int mc, .ref bx, .ref rt])), (tp, .inr (6, [.ref ta, .int tk])), (ta, .inl (cI, 120, .inl tf))] H := hP
  have hD : va_D A [(h0, .inr (7, [.ref tp, .ref mka, .int mc, .ref bx, .ref rt])), (tp, .inr (6, [.ref ta, .int tk])), (ta, .inl (cI, 120, .inl tf))] := hD
  have hK : va_K D vwCl [(cI, .int)] s := hK
  refine lv_if_ne (tgt := 13) hx hb dX8_stretch_8 (by decide) (fun c_2 => ?_) (fun c_2 => ?_)
  · refine lv_aload_n hx hb dX8_stretch_13 rfl (lv_at hl 0 rfl) ?_
    refine va_get (D := D) (ci := 7) (v := .ref tp) (C := RX8) (T := TX8) (N := 5) hx hb hts hit_stretch_X8 hown hK hP 0 rfl rfl 0 (by decide) (hts (.fieldLink RX8 12 "OneHandset" "tape" "LOneHandset$Tape;") (List.mem_of_getElem? (i := 1) rfl)) (fun _ h9 => h9) rfl dX8_stretch_14 ?_
    refine lv_iload_n hx hb dX8_stretch_17 rfl (lv_at hl 1 rfl) ?_
    refine go_v (wr := [(h0, .inr (7, [.ref tp, .ref mka, .int mc, .ref bx, .ref rt]))]) (tysr := [(cI, .int)]) hP hD hS hA hK [1, 2] [0] [0] rfl rfl (by decide) (by decide) rfl (va_runV (As := [.int v]) (rest := []) ⟨hx, hb, hml, hown, hts⟩ (g_stretchAll l D H.size tp ta cI tk tf v hk) (cwV 1 hts gX8_stretch_X7_stretchAll rfl rfl rfl (by decide +kernel) ⟨Nat.le_of_ble_eq_true rfl, Nat.le_of_ble_eq_true rfl⟩) (st_preV (ci := 6) (q0 := 1) hP hD hK hNW [1, 2] [0] rfl rfl (by decide) rfl rfl rfl rfl) rfl rfl hl.1 rfl (lv_room (Nat.le_of_ble_eq_true rfl)) dX8_stretch_18 ⟨(Nat.le_of_ble_eq_true rfl), (Nat.le_of_ble_eq_true rfl)⟩) (fun u H locs hw hP hD hK hS => ?_)
    obtain ⟨tf_4, rfl⟩ : ∃ z, z = u := ⟨_, rfl⟩
    have hP : va_P D vwCl [(h0, .inr (7, [.ref tp, .ref mka, .int mc, .ref bx, .ref rt])), (tp, .inr (6, [.ref ta, .int tk])), (ta, .inl (cI, 120, .inl tf_4))] H := hP
    have hD : va_D A [(h0, .inr (7, [.ref tp, .ref mka, .int mc, .ref bx, .ref rt])), (tp, .inr (6, [.ref ta, .int tk])), (ta, .inl (cI, 120, .inl tf_4))] := hD
    have hK : va_K D vwCl [(cI, .int)] s := hK
    refine lv_iconst (v := 1) hx hb dX8_stretch_21 (by decide) ?_
    exact ret_i hx hb hr hlocks rfl (u := tf_4) (by simp [c_2]) (hP.sub [0, 1, 2] rfl) (hK.sub [] rfl) (hD.sub [0, 1, 2] (by decide) rfl) hS (Nat.le_of_ble_eq_true rfl) (Nat.le_of_ble_eq_true rfl) dX8_stretch_22
  refine lv_iconst (v := 0) hx hb dX8_stretch_11 (by decide) ?_
  exact ret_i hx hb hr hlocks rfl (u := tf) (by simp [c_2]) (hP.sub [0, 1, 2] rfl) (hK.sub [] rfl) (hD.sub [0, 1, 2] (by decide) rfl) hS (Nat.le_of_ble_eq_true rfl) (Nat.le_of_ble_eq_true rfl) dX8_stretch_12
theorem hit_count_X8 : ∀ w ∈ wsX80, w ∈ wsX8_count := mem_pl [4, 5, 6, 7, 8] rfl
theorem hit_count_X7 : ∀ w ∈ wsX70, w ∈ wsX8_count := mem_pl [9, 10] rfl
theorem hit_count_X6 : ∀ w ∈ wsX60, w ∈ wsX8_count := mem_pl [11, 12, 13, 14, 15] rfl
set_option maxHeartbeats 4000000 in
set_option maxRecDepth 100000 in
theorem t_count (l : Launch) (D : va_G) (sz : Nat) (h0 : Nat) (tp : Nat) (mka : Nat) (bx : Nat) (rt : Nat) (mc : Int32) (ta : Nat) (r0 : Nat) (r1 : Nat) (r2 : Nat) (r3 : Nat) (tk : Int32) (rl : Int32) (v : Int32)  : Ci l yX8_count wsX8_count ({ frames := 0, cells := 0, slots := 0, locals := 0 } : Room) D [.ref h0, .int v] [(h0, .inr (7, [.ref tp, .ref mka, .int mc, .ref bx, .ref rt])), (tp, .inr (6, [.ref ta, .int tk])), (rt, .inr (5, [.ref r0, .ref r1, .ref r2, .ref r3, .int rl]))] [] sz (fun (r : Int32) => fun (_ : Unit) => True) (fun (_ : Unit) => [(h0, .inr (7, [.ref tp, .ref mka, .int mc, .ref bx, .ref rt])), (tp, .inr (6, [.ref ta, .int tk])), (rt, .inr (5, [.ref r0, .ref r1, .ref r2, .ref r3, .int rl]))]) (fun (_ : Unit) => []) := by
  refine ct_i (cc := cX8_count) (maxL := 2) (ret := (some .int)) (by decide) rfl (Nat.le_of_ble_eq_true rfl) ?_
  intro p e s m below meth c A ls H hx hb hr hts hown hml hlocks hin hA hS hP hK hD hNW hl hAe hsz
  have hl : lv_has ls 2 [(0, .ref h0), (1, .int v)] := hl
  refine lv_iload_n hx hb dX8_count_0 rfl (lv_at hl 1 rfl) ?_
  rcases tsw (n := 3) (by decide) (by decide) v with h_1 | h_1
  · obtain ⟨k_9, hk_9, e_9⟩ := h_1
    rcases (show k_9 = 0 ∨ k_9 = 1 ∨ k_9 = 2 by omega) with rfl | rfl | rfl
    · have c_2 : v = (0 : Int32) := e_9
      refine W.eq (g2 := F0 m 1 ls [.int 0]) (by rw [c_2]) ?_
      refine lv_tableIn (off := 27) (tgt := 28) hx hb dX8_count_1 (by decide) (by decide) rfl (by decide) ?_
      refine lv_aload_n hx hb dX8_count_28 rfl (lv_at hl 0 rfl) ?_
      refine va_get (D := D) (ci := 7) (v := .int mc) (C := RX8) (T := TX8) (N := 5) hx hb hts hit_count_X8 hown hK hP 0 rfl rfl 2 (by decide) (hts (.fieldLink RX8 22 "OneHandset" "makeCount" "I") (List.mem_of_getElem? (i := 1) rfl)) (fun _ h9 => h9) rfl dX8_count_29 ?_
      exact ret_i hx hb hr hlocks rfl (u := ()) trivial (hP.sub [0, 1, 2] rfl) (hK.sub [] rfl) (hD.sub [0, 1, 2] (by decide) rfl) hS (Nat.le_of_ble_eq_true rfl) (Nat.le_of_ble_eq_true rfl) dX8_count_32
    · have c_3 : v = (1 : Int32) := e_9
      refine W.eq (g2 := F0 m 1 ls [.int 1]) (by rw [c_3]) ?_
      refine lv_tableIn (off := 32) (tgt := 33) hx hb dX8_count_1 (by decide) (by decide) rfl (by decide) ?_
      refine lv_aload_n hx hb dX8_count_33 rfl (lv_at hl 0 rfl) ?_
      refine va_get (D := D) (ci := 7) (v := .ref tp) (C := RX8) (T := TX8) (N := 5) hx hb hts hit_count_X8 hown hK hP 0 rfl rfl 0 (by decide) (hts (.fieldLink RX8 12 "OneHandset" "tape" "LOneHandset$Tape;") (List.mem_of_getElem? (i := 2) rfl)) (fun _ h9 => h9) rfl dX8_count_34 ?_
      refine va_getN (D := D) (ci := 6) (v := .int tk) (C := RX7) (T := TX7) (N := 2) hx hb hts hit_count_X7 hown hK hP 1 rfl rfl 1 (by decide) (va_Nw.use rfl (hNW.1 ("OneHandset", 81, "OneHandset$Tape", "size", "I", "OneHandset") (List.mem_of_getElem? (l := nw_F) (i := 1) rfl))) (fun _ h9 => h9) rfl dX8_count_37 ?_
      exact ret_i hx hb hr hlocks rfl (u := ()) trivial (hP.sub [0, 1, 2] rfl) (hK.sub [] rfl) (hD.sub [0, 1, 2] (by decide) rfl) hS (Nat.le_of_ble_eq_true rfl) (Nat.le_of_ble_eq_true rfl) dX8_count_40
    · have c_4 : v = (2 : Int32) := e_9
      refine W.eq (g2 := F0 m 1 ls [.int 2]) (by rw [c_4]) ?_
      refine lv_tableIn (off := 40) (tgt := 41) hx hb dX8_count_1 (by decide) (by decide) rfl (by decide) ?_
      refine lv_aload_n hx hb dX8_count_41 rfl (lv_at hl 0 rfl) ?_
      refine va_get (D := D) (ci := 7) (v := .ref rt) (C := RX8) (T := TX8) (N := 5) hx hb hts hit_count_X8 hown hK hP 0 rfl rfl 4 (by decide) (hts (.fieldLink RX8 36 "OneHandset" "route" "LOneHandset$Route;") (List.mem_of_getElem? (i := 3) rfl)) (fun _ h9 => h9) rfl dX8_count_42 ?_
      refine va_getN (D := D) (ci := 5) (v := .int rl) (C := RX6) (T := TX6) (N := 5) hx hb hts hit_count_X6 hown hK hP 2 rfl rfl 4 (by decide) (va_Nw.use rfl (hNW.1 ("OneHandset", 196, "OneHandset$Route", "length", "I", "OneHandset") (List.mem_of_getElem? (l := nw_F) (i := 9) rfl))) (fun _ h9 => h9) rfl dX8_count_45 ?_
      exact ret_i hx hb hr hlocks rfl (u := ()) trivial (hP.sub [0, 1, 2] rfl) (hK.sub [] rfl) (hD.sub [0, 1, 2] (by decide) rfl) hS (Nat.le_of_ble_eq_true rfl) (Nat.le_of_ble_eq_true rfl) dX8_count_48
  refine lv_tableOut (tgt := 49) hx hb dX8_count_1 h_1 (by decide) ?_
  have c_6 : ¬ v = (0 : Int32) := tsw_ne (n := 3) (k := 0) (by decide) (by decide) h_1
  have c_7 : ¬ v = (1 : Int32) := tsw_ne (n := 3) (k := 1) (by decide) (by decide) h_1
  have c_8 : ¬ v = (2 : Int32) := tsw_ne (n := 3) (k := 2) (by decide) (by decide) h_1
  refine lv_iconst (v := (-1)) hx hb dX8_count_49 (by decide) ?_
  exact ret_i hx hb hr hlocks rfl (u := ()) trivial (hP.sub [0, 1, 2] rfl) (hK.sub [] rfl) (hD.sub [0, 1, 2] (by decide) rfl) hS (Nat.le_of_ble_eq_true rfl) (Nat.le_of_ble_eq_true rfl) dX8_count_50
set_option maxHeartbeats 4000000 in
set_option maxRecDepth 100000 in
theorem n_box (l : Launch) (D : va_G) (sz : Nat) (h0 : Nat) (tp : Nat) (mka : Nat) (bx : Nat) (rt : Nat) (mc : Int32) (i : Int32) (v : Int32) (w : Int32) (hno : wi i 0 3 = 0) : Ci l yX8_box wsX8_box ({ frames := 2, cells := 0, slots := 0, locals := 43 } : Room) D [.ref h0, .int i, .int v, .int w] [(h0, .inr (7, [.ref tp, .ref mka, .int mc, .ref bx, .ref rt]))] [] sz (fun (r : Int32) => fun (_ : Unit) => r = 0) (fun (_ : Unit) => [(h0, .inr (7, [.ref tp, .ref mka, .int mc, .ref bx, .ref rt]))]) (fun (_ : Unit) => []) := by
  refine ct_i (cc := cX8_box) (maxL := 5) (ret := (some .boolean)) (by decide) rfl (Nat.le_of_ble_eq_true rfl) ?_
  intro p e s m below meth c A ls H hx hb hr hts hown hml hlocks hin hA hS hP hK hD hNW hl hAe hsz
  have hl : lv_has ls 5 [(0, .ref h0), (1, .int i), (2, .int v), (3, .int w)] := hl
  refine lv_aload_n hx hb dX8_box_0 rfl (lv_at hl 0 rfl) ?_
  refine lv_iload_n hx hb dX8_box_1 rfl (lv_at hl 1 rfl) ?_
  refine go_q (wr := []) (tysr := []) hP hD hS hA hK [0] [] [] rfl rfl (by decide) (by decide) rfl (va_runV (As := [.int i]) (rest := []) ⟨hx, hb, hml, hown, hts⟩ (g_boxAt_no l D H.size h0 tp mka bx rt mc i hno) (cwV 1 hts gX8_box_X8_boxAt rfl rfl rfl (by decide +kernel) ⟨Nat.le_of_ble_eq_true rfl, Nat.le_of_ble_eq_true rfl⟩) (st_preV (ci := 7) (q0 := 0) hP hD hK hNW [0] [] rfl rfl (by decide) rfl rfl rfl rfl) rfl rfl hl.1 rfl (lv_room (Nat.le_of_ble_eq_true rfl)) dX8_box_2 ⟨(Nat.le_of_ble_eq_true rfl), (Nat.le_of_ble_eq_true rfl)⟩) (fun r_1 u H locs hw hP hD hK hS => ?_)
  have hw : r_1 = none := hw
  subst hw
  have hP : va_P D vwCl [(h0, .inr (7, [.ref tp, .ref mka, .int mc, .ref bx, .ref rt]))] H := hP
  have hD : va_D A [(h0, .inr (7, [.ref tp, .ref mka, .int mc, .ref bx, .ref rt]))] := hD
  have hK : va_K D vwCl [] s := hK
  refine lv_astoreN (lv' := [(4, .null), (0, .ref h0), (1, .int i), (2, .int v), (3, .int w)]) hx hb dX8_box_5 hl (by decide) rfl (fun ls hl => ?_)
  refine lv_aloadN hx hb dX8_box_7 (lv_at hl 0 rfl) ?_
  refine lv_ifnullN (tgt := 31) hx hb dX8_box_9 (by decide) ?_
  refine lv_iconst (v := 0) hx hb dX8_box_31 (by decide) ?_
  exact ret_i hx hb hr hlocks rfl (u := ()) rfl (hP.sub [0] rfl) (hK.sub [] rfl) (hD.sub [0] (by decide) rfl) hS (Nat.le_of_ble_eq_true rfl) (Nat.le_of_ble_eq_true rfl) dX8_box_32
set_option maxHeartbeats 4000000 in
set_option maxRecDepth 100000 in
theorem n_lead (l : Launch) (D : va_G) (sz : Nat) (h0 : Nat) (tp : Nat) (mka : Nat) (bx : Nat) (rt : Nat) (mc : Int32) (i : Int32) (v : Int32) (w : Int32) (x : Int32) (hno : wi i 0 3 = 0) : Ci l yX8_lead wsX8_lead ({ frames := 2, cells := 0, slots := 0, locals := 43 } : Room) D [.ref h0, .int i, .int v, .int w, .int x] [(h0, .inr (7, [.ref tp, .ref mka, .int mc, .ref bx, .ref rt]))] [] sz (fun (r : Int32) => fun (_ : Unit) => r = 0) (fun (_ : Unit) => [(h0, .inr (7, [.ref tp, .ref mka, .int mc, .ref bx, .ref rt]))]) (fun (_ : Unit) => []) := by
  refine ct_i (cc := cX8_lead) (maxL := 6) (ret := (some .boolean)) (by decide) rfl (Nat.le_of_ble_eq_true rfl) ?_
  intro p e s m below meth c A ls H hx hb hr hts hown hml hlocks hin hA hS hP hK hD hNW hl hAe hsz
  have hl : lv_has ls 6 [(0, .ref h0), (1, .int i), (2, .int v), (3, .int w), (4, .int x)] := hl
  refine lv_aload_n hx hb dX8_lead_0 rfl (lv_at hl 0 rfl) ?_
  refine lv_iload_n hx hb dX8_lead_1 rfl (lv_at hl 1 rfl) ?_
  refine go_q (wr := []) (tysr := []) hP hD hS hA hK [0] [] [] rfl rfl (by decide) (by decide) rfl (va_runV (As := [.int i]) (rest := []) ⟨hx, hb, hml, hown, hts⟩ (g_boxAt_no l D H.size h0 tp mka bx rt mc i hno) (cwV 1 hts gX8_lead_X8_boxAt rfl rfl rfl (by decide +kernel) ⟨Nat.le_of_ble_eq_true rfl, Nat.le_of_ble_eq_true rfl⟩) (st_preV (ci := 7) (q0 := 0) hP hD hK hNW [0] [] rfl rfl (by decide) rfl rfl rfl rfl) rfl rfl hl.1 rfl (lv_room (Nat.le_of_ble_eq_true rfl)) dX8_lead_2 ⟨(Nat.le_of_ble_eq_true rfl), (Nat.le_of_ble_eq_true rfl)⟩) (fun r_1 u H locs hw hP hD hK hS => ?_)
  have hw : r_1 = none := hw
  subst hw
  have hP : va_P D vwCl [(h0, .inr (7, [.ref tp, .ref mka, .int mc, .ref bx, .ref rt]))] H := hP
  have hD : va_D A [(h0, .inr (7, [.ref tp, .ref mka, .int mc, .ref bx, .ref rt]))] := hD
  have hK : va_K D vwCl [] s := hK
  refine lv_astoreN (lv' := [(5, .null), (0, .ref h0), (1, .int i), (2, .int v), (3, .int w), (4, .int x)]) hx hb dX8_lead_5 hl (by decide) rfl (fun ls hl => ?_)
  refine lv_aloadN hx hb dX8_lead_7 (lv_at hl 0 rfl) ?_
  refine lv_ifnullN (tgt := 40) hx hb dX8_lead_9 (by decide) ?_
  refine lv_iconst (v := 0) hx hb dX8_lead_40 (by decide) ?_
  exact ret_i hx hb hr hlocks rfl (u := ()) rfl (hP.sub [0] rfl) (hK.sub [] rfl) (hD.sub [0] (by decide) rfl) hS (Nat.le_of_ble_eq_true rfl) (Nat.le_of_ble_eq_true rfl) dX8_lead_41
set_option maxHeartbeats 4000000 in
set_option maxRecDepth 100000 in
theorem n_maybe (l : Launch) (D : va_G) (sz : Nat) (h0 : Nat) (tp : Nat) (mka : Nat) (bx : Nat) (rt : Nat) (mc : Int32) (i : Int32) (v : Int32) (hno : wi i 0 3 = 0) : Ci l yX8_maybe wsX8_maybe ({ frames := 2, cells := 0, slots := 0, locals := 43 } : Room) D [.ref h0, .int i, .int v] [(h0, .inr (7, [.ref tp, .ref mka, .int mc, .ref bx, .ref rt]))] [] sz (fun (r : Int32) => fun (_ : Unit) => r = 0) (fun (_ : Unit) => [(h0, .inr (7, [.ref tp, .ref mka, .int mc, .ref bx, .ref rt]))]) (fun (_ : Unit) => []) := by
  refine ct_i (cc := cX8_maybe) (maxL := 4) (ret := (some .boolean)) (by decide) rfl (Nat.le_of_ble_eq_true rfl) ?_
  intro p e s m below meth c A ls H hx hb hr hts hown hml hlocks hin hA hS hP hK hD hNW hl hAe hsz
  have hl : lv_has ls 4 [(0, .ref h0), (1, .int i), (2, .int v)] := hl
  refine lv_aload_n hx hb dX8_maybe_0 rfl (lv_at hl 0 rfl) ?_
  refine lv_iload_n hx hb dX8_maybe_1 rfl (lv_at hl 1 rfl) ?_
  refine go_q (wr := []) (tysr := []) hP hD hS hA hK [0] [] [] rfl rfl (by decide) (by decide) rfl (va_runV (As := [.int i]) (rest := []) ⟨hx, hb, hml, hown, hts⟩ (g_boxAt_no l D H.size h0 tp mka bx rt mc i hno) (cwV 1 hts gX8_maybe_X8_boxAt rfl rfl rfl (by decide +kernel) ⟨Nat.le_of_ble_eq_true rfl, Nat.le_of_ble_eq_true rfl⟩) (st_preV (ci := 7) (q0 := 0) hP hD hK hNW [0] [] rfl rfl (by decide) rfl rfl rfl rfl) rfl rfl hl.1 rfl (lv_room (Nat.le_of_ble_eq_true rfl)) dX8_maybe_2 ⟨(Nat.le_of_ble_eq_true rfl), (Nat.le_of_ble_eq_true rfl)⟩) (fun r_1 u H locs hw hP hD hK hS => ?_)
  have hw : r_1 = none := hw
  subst hw
  have hP : va_P D vwCl [(h0, .inr (7, [.ref tp, .ref mka, .int mc, .ref bx, .ref rt]))] H := hP
  have hD : va_D A [(h0, .inr (7, [.ref tp, .ref mka, .int mc, .ref bx, .ref rt]))] := hD
  have hK : va_K D vwCl [] s := hK
  refine lv_astore_nN (lv' := [(3, .null), (0, .ref h0), (1, .int i), (2, .int v)]) hx hb dX8_maybe_5 rfl hl (by decide) rfl (fun ls hl => ?_)
  refine lv_aload_nN hx hb dX8_maybe_6 rfl (lv_at hl 0 rfl) ?_
  refine lv_ifnullN (tgt := 18) hx hb dX8_maybe_7 (by decide) ?_
  refine lv_iconst (v := 0) hx hb dX8_maybe_18 (by decide) ?_
  exact ret_i hx hb hr hlocks rfl (u := ()) rfl (hP.sub [0] rfl) (hK.sub [] rfl) (hD.sub [0] (by decide) rfl) hS (Nat.le_of_ble_eq_true rfl) (Nat.le_of_ble_eq_true rfl) dX8_maybe_19
set_option maxHeartbeats 4000000 in
set_option maxRecDepth 100000 in
theorem n_push (l : Launch) (D : va_G) (sz : Nat) (h0 : Nat) (tp : Nat) (mka : Nat) (bx : Nat) (rt : Nat) (mc : Int32) (i : Int32) (v : Int32) (hno : wi i 0 3 = 0) : Ci l yX8_push wsX8_push ({ frames := 2, cells := 0, slots := 0, locals := 43 } : Room) D [.ref h0, .int i, .int v] [(h0, .inr (7, [.ref tp, .ref mka, .int mc, .ref bx, .ref rt]))] [] sz (fun (r : Int32) => fun (_ : Unit) => r = -1) (fun (_ : Unit) => [(h0, .inr (7, [.ref tp, .ref mka, .int mc, .ref bx, .ref rt]))]) (fun (_ : Unit) => []) := by
  refine ct_i (cc := cX8_push) (maxL := 4) (ret := (some .int)) (by decide) rfl (Nat.le_of_ble_eq_true rfl) ?_
  intro p e s m below meth c A ls H hx hb hr hts hown hml hlocks hin hA hS hP hK hD hNW hl hAe hsz
  have hl : lv_has ls 4 [(0, .ref h0), (1, .int i), (2, .int v)] := hl
  refine lv_aload_n hx hb dX8_push_0 rfl (lv_at hl 0 rfl) ?_
  refine lv_iload_n hx hb dX8_push_1 rfl (lv_at hl 1 rfl) ?_
  refine go_q (wr := []) (tysr := []) hP hD hS hA hK [0] [] [] rfl rfl (by decide) (by decide) rfl (va_runV (As := [.int i]) (rest := []) ⟨hx, hb, hml, hown, hts⟩ (g_boxAt_no l D H.size h0 tp mka bx rt mc i hno) (cwV 1 hts gX8_push_X8_boxAt rfl rfl rfl (by decide +kernel) ⟨Nat.le_of_ble_eq_true rfl, Nat.le_of_ble_eq_true rfl⟩) (st_preV (ci := 7) (q0 := 0) hP hD hK hNW [0] [] rfl rfl (by decide) rfl rfl rfl rfl) rfl rfl hl.1 rfl (lv_room (Nat.le_of_ble_eq_true rfl)) dX8_push_2 ⟨(Nat.le_of_ble_eq_true rfl), (Nat.le_of_ble_eq_true rfl)⟩) (fun r_1 u H locs hw hP hD hK hS => ?_)
  have hw : r_1 = none := hw
  subst hw
  have hP : va_P D vwCl [(h0, .inr (7, [.ref tp, .ref mka, .int mc, .ref bx, .ref rt]))] H := hP
  have hD : va_D A [(h0, .inr (7, [.ref tp, .ref mka, .int mc, .ref bx, .ref rt]))] := hD
  have hK : va_K D vwCl [] s := hK
  refine lv_astore_nN (lv' := [(3, .null), (0, .ref h0), (1, .int i), (2, .int v)]) hx hb dX8_push_5 rfl hl (by decide) rfl (fun ls hl => ?_)
  refine lv_aload_nN hx hb dX8_push_6 rfl (lv_at hl 0 rfl) ?_
  refine lv_ifnullN (tgt := 18) hx hb dX8_push_7 (by decide) ?_
  refine lv_iconst (v := (-1)) hx hb dX8_push_18 (by decide) ?_
  exact ret_i hx hb hr hlocks rfl (u := ()) rfl (hP.sub [0] rfl) (hK.sub [] rfl) (hD.sub [0] (by decide) rfl) hS (Nat.le_of_ble_eq_true rfl) (Nat.le_of_ble_eq_true rfl) dX8_push_19
set_option maxHeartbeats 4000000 in
set_option maxRecDepth 100000 in
theorem n_way (l : Launch) (D : va_G) (sz : Nat) (h0 : Nat) (tp : Nat) (mka : Nat) (bx : Nat) (rt : Nat) (mc : Int32) (i : Int32) (v : Int32) (hno : wi i 0 3 = 0) : Ci l yX8_way wsX8_way ({ frames := 2, cells := 0, slots := 0, locals := 43 } : Room) D [.ref h0, .int i, .int v] [(h0, .inr (7, [.ref tp, .ref mka, .int mc, .ref bx, .ref rt]))] [] sz (fun (r : Int32) => fun (_ : Unit) => r = -1) (fun (_ : Unit) => [(h0, .inr (7, [.ref tp, .ref mka, .int mc, .ref bx, .ref rt]))]) (fun (_ : Unit) => []) := by
  refine ct_i (cc := cX8_way) (maxL := 4) (ret := (some .int)) (by decide) rfl (Nat.le_of_ble_eq_true rfl) ?_
  intro p e s m below meth c A ls H hx hb hr hts hown hml hlocks hin hA hS hP hK hD hNW hl hAe hsz
  have hl : lv_has ls 4 [(0, .ref h0), (1, .int i), (2, .int v)] := hl
  refine lv_aload_n hx hb dX8_way_0 rfl (lv_at hl 0 rfl) ?_
  refine lv_iload_n hx hb dX8_way_1 rfl (lv_at hl 1 rfl) ?_
  refine go_q (wr := []) (tysr := []) hP hD hS hA hK [0] [] [] rfl rfl (by decide) (by decide) rfl (va_runV (As := [.int i]) (rest := []) ⟨hx, hb, hml, hown, hts⟩ (g_boxAt_no l D H.size h0 tp mka bx rt mc i hno) (cwV 1 hts gX8_way_X8_boxAt rfl rfl rfl (by decide +kernel) ⟨Nat.le_of_ble_eq_true rfl, Nat.le_of_ble_eq_true rfl⟩) (st_preV (ci := 7) (q0 := 0) hP hD hK hNW [0] [] rfl rfl (by decide) rfl rfl rfl rfl) rfl rfl hl.1 rfl (lv_room (Nat.le_of_ble_eq_true rfl)) dX8_way_2 ⟨(Nat.le_of_ble_eq_true rfl), (Nat.le_of_ble_eq_true rfl)⟩) (fun r_1 u H locs hw hP hD hK hS => ?_)
  have hw : r_1 = none := hw
  subst hw
  have hP : va_P D vwCl [(h0, .inr (7, [.ref tp, .ref mka, .int mc, .ref bx, .ref rt]))] H := hP
  have hD : va_D A [(h0, .inr (7, [.ref tp, .ref mka, .int mc, .ref bx, .ref rt]))] := hD
  have hK : va_K D vwCl [] s := hK
  refine lv_astore_nN (lv' := [(3, .null), (0, .ref h0), (1, .int i), (2, .int v)]) hx hb dX8_way_5 rfl hl (by decide) rfl (fun ls hl => ?_)
  refine lv_aload_nN hx hb dX8_way_6 rfl (lv_at hl 0 rfl) ?_
  refine lv_ifnullN (tgt := 18) hx hb dX8_way_7 (by decide) ?_
  refine lv_iconst (v := (-1)) hx hb dX8_way_18 (by decide) ?_
  refine lv_goto (tgt := 31) hx hb dX8_way_19 (by decide) ?_
  exact ret_i hx hb hr hlocks rfl (u := ()) rfl (hP.sub [0] rfl) (hK.sub [] rfl) (hD.sub [0] (by decide) rfl) hS (Nat.le_of_ble_eq_true rfl) (Nat.le_of_ble_eq_true rfl) dX8_way_31
set_option maxHeartbeats 4000000 in
set_option maxRecDepth 100000 in
theorem n_told (l : Launch) (D : va_G) (sz : Nat) (h0 : Nat) (tp : Nat) (mka : Nat) (bx : Nat) (rt : Nat) (mc : Int32) (i : Int32) (v : Int32) (hno : wi i 0 3 = 0) : Ci l yX8_told wsX8_told ({ frames := 2, cells := 0, slots := 0, locals := 43 } : Room) D [.ref h0, .int i, .int v] [(h0, .inr (7, [.ref tp, .ref mka, .int mc, .ref bx, .ref rt]))] [] sz (fun (r : Int32) => fun (_ : Unit) => r = -1) (fun (_ : Unit) => [(h0, .inr (7, [.ref tp, .ref mka, .int mc, .ref bx, .ref rt]))]) (fun (_ : Unit) => []) := by
  refine ct_i (cc := cX8_told) (maxL := 4) (ret := (some .int)) (by decide) rfl (Nat.le_of_ble_eq_true rfl) ?_
  intro p e s m below meth c A ls H hx hb hr hts hown hml hlocks hin hA hS hP hK hD hNW hl hAe hsz
  have hl : lv_has ls 4 [(0, .ref h0), (1, .int i), (2, .int v)] := hl
  refine lv_aload_n hx hb dX8_told_0 rfl (lv_at hl 0 rfl) ?_
  refine lv_iload_n hx hb dX8_told_1 rfl (lv_at hl 1 rfl) ?_
  refine go_q (wr := []) (tysr := []) hP hD hS hA hK [0] [] [] rfl rfl (by decide) (by decide) rfl (va_runV (As := [.int i]) (rest := []) ⟨hx, hb, hml, hown, hts⟩ (g_boxAt_no l D H.size h0 tp mka bx rt mc i hno) (cwV 1 hts gX8_told_X8_boxAt rfl rfl rfl (by decide +kernel) ⟨Nat.le_of_ble_eq_true rfl, Nat.le_of_ble_eq_true rfl⟩) (st_preV (ci := 7) (q0 := 0) hP hD hK hNW [0] [] rfl rfl (by decide) rfl rfl rfl rfl) rfl rfl hl.1 rfl (lv_room (Nat.le_of_ble_eq_true rfl)) dX8_told_2 ⟨(Nat.le_of_ble_eq_true rfl), (Nat.le_of_ble_eq_true rfl)⟩) (fun r_1 u H locs hw hP hD hK hS => ?_)
  have hw : r_1 = none := hw
  subst hw
  have hP : va_P D vwCl [(h0, .inr (7, [.ref tp, .ref mka, .int mc, .ref bx, .ref rt]))] H := hP
  have hD : va_D A [(h0, .inr (7, [.ref tp, .ref mka, .int mc, .ref bx, .ref rt]))] := hD
  have hK : va_K D vwCl [] s := hK
  refine lv_astore_nN (lv' := [(3, .null), (0, .ref h0), (1, .int i), (2, .int v)]) hx hb dX8_told_5 rfl hl (by decide) rfl (fun ls hl => ?_)
  refine lv_aload_nN hx hb dX8_told_6 rfl (lv_at hl 0 rfl) ?_
  refine lv_ifnonnullN hx hb dX8_told_7 ?_
  refine lv_iconst (v := (-1)) hx hb dX8_told_10 (by decide) ?_
  exact ret_i hx hb hr hlocks rfl (u := ()) rfl (hP.sub [0] rfl) (hK.sub [] rfl) (hD.sub [0] (by decide) rfl) hS (Nat.le_of_ble_eq_true rfl) (Nat.le_of_ble_eq_true rfl) dX8_told_11
set_option maxHeartbeats 4000000 in
set_option maxRecDepth 100000 in
theorem y_box (l : Launch) (D : va_G) (sz : Nat) (cI : ClassId) (h0 : Nat) (tp : Nat) (mka : Nat) (bx : Nat) (rt : Nat) (mc : Int32) (cB : ClassId) (bf : Nat → Option Nat) (bq : Nat) (la : Nat) (st : Int32) (bu : Int32) (my : Int32) (lf : Nat → Int32) (i : Int32) (v : Int32) (w : Int32) (hyes : ¬ wi i 0 3 = 0) (hib : bf (Int32.toNatClampNeg i) = some bq) (hst : bi st 1 8) (hbu : bi bu 1 4) (hmy : bi my 0 255) (hlf : ∀ j, bi (lf j) 0 7) : Ci l yX8_box wsX8_box ({ frames := 2, cells := 0, slots := 0, locals := 45 } : Room) D [.ref h0, .int i, .int v, .int w] [(h0, .inr (7, [.ref tp, .ref mka, .int mc, .ref bx, .ref rt])), (bx, .inl (cB, 4, .inr (.inr (.inr (.inr bf))))), (bq, .inr (0, [.ref la, .int st, .int bu, .int my])), (la, .inl (cI, 32, .inl lf))] [(cI, .int), (cB, .object "OneHandset$Box")] sz (fun (r : Int32) => fun (u9 : Int32 × Int32 × Int32 × (Nat → Int32)) => match u9 with | (st2, bu2, my2, lf2) => (bi st2 1 8 ∧ bi bu2 1 4 ∧ bi my2 0 255 ∧ ∀ j, bi (lf2 j) 0 7) ∧ ((bxS i v w = 0 ∧ r = 0 ∧ st2 = st ∧ bu2 = bu ∧ my2 = my ∧ lf2 = lf) ∨ (¬ bxS i v w = 0 ∧ r = 1 ∧ st2 = v ∧ bu2 = w ∧ my2 = lb v ∧ lf2 = fl lf 0 32))) (fun (u9 : Int32 × Int32 × Int32 × (Nat → Int32)) => match u9 with | (st2, bu2, my2, lf2) => [(h0, .inr (7, [.ref tp, .ref mka, .int mc, .ref bx, .ref rt])), (bx, .inl (cB, 4, .inr (.inr (.inr (.inr bf))))), (bq, .inr (0, [.ref la, .int st2, .int bu2, .int my2])), (la, .inl (cI, 32, .inl lf2))]) (fun (u9 : Int32 × Int32 × Int32 × (Nat → Int32)) => match u9 with | (st2, bu2, my2, lf2) => []) := by
  refine ct_i (cc := cX8_box) (maxL := 5) (ret := (some .boolean)) (by decide) rfl (Nat.le_of_ble_eq_true rfl) ?_
  intro p e s m below meth c A ls H hx hb hr hts hown hml hlocks hin hA hS hP hK hD hNW hl hAe hsz
  have hl : lv_has ls 5 [(0, .ref h0), (1, .int i), (2, .int v), (3, .int w)] := hl
  refine lv_aload_n hx hb dX8_box_0 rfl (lv_at hl 0 rfl) ?_
  refine lv_iload_n hx hb dX8_box_1 rfl (lv_at hl 1 rfl) ?_
  refine go_q (wr := [(bq, .inr (0, [.ref la, .int st, .int bu, .int my])), (la, .inl (cI, 32, .inl lf))]) (tysr := [(cI, .int), (cB, .object "OneHandset$Box")]) hP hD hS hA hK [0, 1] [2, 3] [0, 1] rfl rfl (by decide) (by decide) rfl (va_runV (As := [.int i]) (rest := []) ⟨hx, hb, hml, hown, hts⟩ (g_boxAt_yes l D H.size h0 tp mka bx rt mc cB bf bq i hyes hib) (cwV 1 hts gX8_box_X8_boxAt rfl rfl rfl (by decide +kernel) ⟨Nat.le_of_ble_eq_true rfl, Nat.le_of_ble_eq_true rfl⟩) (st_preV (ci := 7) (q0 := 0) hP hD hK hNW [0, 1] [1] rfl rfl (by decide) rfl rfl rfl rfl) rfl rfl hl.1 rfl (lv_room (Nat.le_of_ble_eq_true rfl)) dX8_box_2 ⟨(Nat.le_of_ble_eq_true rfl), (Nat.le_of_ble_eq_true rfl)⟩) (fun r_1 u H locs hw hP hD hK hS => ?_)
  have hw : r_1 = some bq := hw
  subst hw
  have hP : va_P D vwCl [(bq, .inr (0, [.ref la, .int st, .int bu, .int my])), (la, .inl (cI, 32, .inl lf)), (h0, .inr (7, [.ref tp, .ref mka, .int mc, .ref bx, .ref rt])), (bx, .inl (cB, 4, .inr (.inr (.inr (.inr bf)))))] H := hP
  have hD : va_D A [(bq, .inr (0, [.ref la, .int st, .int bu, .int my])), (la, .inl (cI, 32, .inl lf)), (h0, .inr (7, [.ref tp, .ref mka, .int mc, .ref bx, .ref rt])), (bx, .inl (cB, 4, .inr (.inr (.inr (.inr bf)))))] := hD
  have hK : va_K D vwCl [(cI, .int), (cB, .object "OneHandset$Box")] s := hK
  refine W.eq (g2 := F0 m 5 ls [.ref bq]) rfl ?_
  refine lv_astore (lv' := [(4, .ref bq), (0, .ref h0), (1, .int i), (2, .int v), (3, .int w)]) hx hb dX8_box_5 hl (by decide) rfl (fun ls hl => ?_)
  refine lv_aload hx hb dX8_box_7 (lv_at hl 0 rfl) ?_
  refine lv_ifnull hx hb dX8_box_9 ?_
  refine lv_iload_n hx hb dX8_box_12 rfl (lv_at hl 3 rfl) ?_
  refine lv_iconst (v := 1) hx hb dX8_box_13 (by decide) ?_
  refine lv_bipush (v := 8) hx hb dX8_box_14 (by decide) ?_
  refine go_i (wr := [(bq, .inr (0, [.ref la, .int st, .int bu, .int my])), (la, .inl (cI, 32, .inl lf)), (h0, .inr (7, [.ref tp, .ref mka, .int mc, .ref bx, .ref rt])), (bx, .inl (cB, 4, .inr (.inr (.inr (.inr bf)))))]) (tysr := [(cI, .int), (cB, .object "OneHandset$Box")]) hP hD hS hA hK [] [0, 1, 2, 3] [0, 1] rfl rfl (by decide) (by decide) rfl (va_runS (As := [.int v, .int 1, .int 8]) (rest := []) ⟨hx, hb, hml, hown, hts⟩ (c_X8_within l D H.size v 1 8 ) (va_cwS 3 hts gX8_box_X8_within rfl rfl rfl (by decide +kernel) ⟨Nat.le_of_ble_eq_true rfl, Nat.le_of_ble_eq_true rfl⟩) (st_preS hP hD hK hNW [] [] rfl rfl (by decide) rfl) rfl rfl hl.1 rfl (lv_room (Nat.le_of_ble_eq_true rfl)) dX8_box_16 ⟨(Nat.le_of_ble_eq_true rfl), (Nat.le_of_ble_eq_true rfl)⟩) (fun r_2 u H locs hw hP hD hK hS => ?_)
  have hw : r_2 = wi v 1 8 := hw
  subst hw
  have hP : va_P D vwCl [(bq, .inr (0, [.ref la, .int st, .int bu, .int my])), (la, .inl (cI, 32, .inl lf)), (h0, .inr (7, [.ref tp, .ref mka, .int mc, .ref bx, .ref rt])), (bx, .inl (cB, 4, .inr (.inr (.inr (.inr bf)))))] H := hP
  have hD : va_D A [(bq, .inr (0, [.ref la, .int st, .int bu, .int my])), (la, .inl (cI, 32, .inl lf)), (h0, .inr (7, [.ref tp, .ref mka, .int mc, .ref bx, .ref rt])), (bx, .inl (cB, 4, .inr (.inr (.inr (.inr bf)))))] := hD
  have hK : va_K D vwCl [(cI, .int), (cB, .object "OneHandset$Box")] s := hK
  refine lv_if_eq (tgt := 31) hx hb dX8_box_19 (by decide) (fun c_3 => ?_) (fun c_3 => ?_)
  · refine lv_iconst (v := 0) hx hb dX8_box_31 (by decide) ?_
    exact ret_i hx hb hr hlocks rfl (u := (st, bu, my, lf)) (⟨⟨hst, hbu, hmy, hlf⟩, Or.inl ⟨(by unfold bxS; rw [if_neg hyes, if_pos c_3]), rfl, rfl, rfl, rfl, rfl⟩⟩) (hP.sub [2, 3, 0, 1] rfl) (hK.sub [] rfl) (hD.sub [2, 3, 0, 1] (by decide) rfl) hS (Nat.le_of_ble_eq_true rfl) (Nat.le_of_ble_eq_true rfl) dX8_box_32
  refine lv_iload_n hx hb dX8_box_22 rfl (lv_at hl 4 rfl) ?_
  refine lv_iconst (v := 1) hx hb dX8_box_23 (by decide) ?_
  refine lv_iconst (v := 4) hx hb dX8_box_24 (by decide) ?_
  refine go_i (wr := [(bq, .inr (0, [.ref la, .int st, .int bu, .int my])), (la, .inl (cI, 32, .inl lf)), (h0, .inr (7, [.ref tp, .ref mka, .int mc, .ref bx, .ref rt])), (bx, .inl (cB, 4, .inr (.inr (.inr (.inr bf)))))]) (tysr := [(cI, .int), (cB, .object "OneHandset$Box")]) hP hD hS hA hK [] [0, 1, 2, 3] [0, 1] rfl rfl (by decide) (by decide) rfl (va_runS (As := [.int w, .int 1, .int 4]) (rest := []) ⟨hx, hb, hml, hown, hts⟩ (c_X8_within l D H.size w 1 4 ) (va_cwS 3 hts gX8_box_X8_within rfl rfl rfl (by decide +kernel) ⟨Nat.le_of_ble_eq_true rfl, Nat.le_of_ble_eq_true rfl⟩) (st_preS hP hD hK hNW [] [] rfl rfl (by decide) rfl) rfl rfl hl.1 rfl (lv_room (Nat.le_of_ble_eq_true rfl)) dX8_box_25 ⟨(Nat.le_of_ble_eq_true rfl), (Nat.le_of_ble_eq_true rfl)⟩) (fun r_4 u H locs hw hP hD hK hS => ?_)
  have hw : r_4 = wi w 1 4 := hw
  subst hw
  have hP : va_P D vwCl [(bq, .inr (0, [.ref la, .int st, .int bu, .int my])), (la, .inl (cI, 32, .inl lf)), (h0, .inr (7, [.ref tp, .ref mka, .int mc, .ref bx, .ref rt])), (bx, .inl (cB, 4, .inr (.inr (.inr (.inr bf)))))] H := hP
  have hD : va_D A [(bq, .inr (0, [.ref la, .int st, .int bu, .int my])), (la, .inl (cI, 32, .inl lf)), (h0, .inr (7, [.ref tp, .ref mka, .int mc, .ref bx, .ref rt])), (bx, .inl (cB, 4, .inr (.inr (.inr (.inr bf)))))] := hD
  have hK : va_K D vwCl [(cI, .int), (cB, .object "OneHandset$Box")] s := hK
  refine lv_if_ne (tgt := 33) hx hb dX8_box_28 (by decide) (fun c_5 => ?_) (fun c_5 => ?_)
  · refine lv_aload hx hb dX8_box_33 (lv_at hl 0 rfl) ?_
    refine lv_iload_n hx hb dX8_box_35 rfl (lv_at hl 3 rfl) ?_
    refine lv_iload_n hx hb dX8_box_36 rfl (lv_at hl 4 rfl) ?_
    refine go_v (wr := [(h0, .inr (7, [.ref tp, .ref mka, .int mc, .ref bx, .ref rt])), (bx, .inl (cB, 4, .inr (.inr (.inr (.inr bf)))))]) (tysr := [(cI, .int), (cB, .object "OneHandset$Box")]) hP hD hS hA hK [0, 1] [2, 3] [0, 1] rfl rfl (by decide) (by decide) rfl (va_runVN (C := RX0) (As := [.int v, .int w]) (rest := []) ⟨hx, hb, hml, hown, hts⟩ (g_startAnew l D H.size cI bq la st bu my lf v w ) ⟨(va_cnB (own := RX8) (host := RX8) (index := 161) 2 hts gX8_box_X0_startAnew_n161 rfl rfl rfl (hNW.2.1 (RX8, 161, yX0_startAnew, RX8) (List.mem_of_getElem? (l := nw_M) (i := 15) rfl)) (hts (.initialized RX0) (List.mem_of_getElem? (i := 11) rfl)) (by decide +kernel) ⟨Nat.le_of_ble_eq_true rfl, Nat.le_of_ble_eq_true rfl⟩), (hts (.instanceMethod yX0_startAnew) (List.mem_of_getElem? (i := 10) rfl)), (hts (.selects RX0 yX0_startAnew yX0_startAnew) (List.mem_of_getElem? (i := 12) rfl))⟩ (st_preV (ci := 0) (q0 := 0) hP hD hK hNW [0, 1] [0] rfl rfl (by decide) rfl rfl rfl rfl) rfl rfl hl.1 rfl (lv_room (Nat.le_of_ble_eq_true rfl)) dX8_box_37 ⟨(Nat.le_of_ble_eq_true rfl), (Nat.le_of_ble_eq_true rfl)⟩) (fun u H locs hw hP hD hK hS => ?_)
    have hP : va_P D vwCl [(h0, .inr (7, [.ref tp, .ref mka, .int mc, .ref bx, .ref rt])), (bx, .inl (cB, 4, .inr (.inr (.inr (.inr bf))))), (bq, .inr (0, [.ref la, .int v, .int w, .int (lb v)])), (la, .inl (cI, 32, .inl (fl lf 0 32)))] H := hP
    have hD : va_D A [(h0, .inr (7, [.ref tp, .ref mka, .int mc, .ref bx, .ref rt])), (bx, .inl (cB, 4, .inr (.inr (.inr (.inr bf))))), (bq, .inr (0, [.ref la, .int v, .int w, .int (lb v)])), (la, .inl (cI, 32, .inl (fl lf 0 32)))] := hD
    have hK : va_K D vwCl [(cI, .int), (cB, .object "OneHandset$Box")] s := hK
    refine lv_iconst (v := 1) hx hb dX8_box_40 (by decide) ?_
    exact ret_i hx hb hr hlocks rfl (u := (v, w, lb v, fl lf 0 32)) (⟨⟨(by have : (1 : Int32).toInt = 1 := (by decide); have : (4 : Int32).toInt = 4 := (by decide); have : (8 : Int32).toInt = 8 := (by decide); have := ti_wi1 c_3; have := ti_wi1 c_5; omega), (by have : (1 : Int32).toInt = 1 := (by decide); have : (4 : Int32).toInt = 4 := (by decide); have : (8 : Int32).toInt = 8 := (by decide); have := ti_wi1 c_3; have := ti_wi1 c_5; omega), (by have u9 := lb_bi (x := v) (by have : (1 : Int32).toInt = 1 := (by decide); have : (4 : Int32).toInt = 4 := (by decide); have : (8 : Int32).toInt = 8 := (by decide); have := ti_wi1 c_3; have := ti_wi1 c_5; omega); omega), all_fl hlf (by decide)⟩, Or.inr ⟨(by unfold bxS; rw [if_neg hyes, if_neg c_3, if_neg c_5]; decide), rfl, rfl, rfl, rfl, rfl⟩⟩) (hP.sub [0, 1, 2, 3] rfl) (hK.sub [] rfl) (hD.sub [0, 1, 2, 3] (by decide) rfl) hS (Nat.le_of_ble_eq_true rfl) (Nat.le_of_ble_eq_true rfl) dX8_box_41
  refine lv_iconst (v := 0) hx hb dX8_box_31 (by decide) ?_
  exact ret_i hx hb hr hlocks rfl (u := (st, bu, my, lf)) (⟨⟨hst, hbu, hmy, hlf⟩, Or.inl ⟨(by unfold bxS; rw [if_neg hyes, if_neg c_3, if_pos c_5]), rfl, rfl, rfl, rfl, rfl⟩⟩) (hP.sub [2, 3, 0, 1] rfl) (hK.sub [] rfl) (hD.sub [2, 3, 0, 1] (by decide) rfl) hS (Nat.le_of_ble_eq_true rfl) (Nat.le_of_ble_eq_true rfl) dX8_box_32
set_option maxHeartbeats 4000000 in
set_option maxRecDepth 100000 in
theorem y_lead (l : Launch) (D : va_G) (sz : Nat) (cI : ClassId) (h0 : Nat) (tp : Nat) (mka : Nat) (bx : Nat) (rt : Nat) (mc : Int32) (cB : ClassId) (bf : Nat → Option Nat) (bq : Nat) (la : Nat) (st : Int32) (bu : Int32) (my : Int32) (lf : Nat → Int32) (i : Int32) (v : Int32) (w : Int32) (x : Int32) (hyes : ¬ wi i 0 3 = 0) (hib : bf (Int32.toNatClampNeg i) = some bq) (hst : bi st 1 8) (hbu : bi bu 1 4) (hmy : bi my 0 255) (hlf : ∀ j, bi (lf j) 0 7) : Ci l yX8_lead wsX8_lead ({ frames := 3, cells := 0, slots := 0, locals := 66 } : Room) D [.ref h0, .int i, .int v, .int w, .int x] [(h0, .inr (7, [.ref tp, .ref mka, .int mc, .ref bx, .ref rt])), (bx, .inl (cB, 4, .inr (.inr (.inr (.inr bf))))), (bq, .inr (0, [.ref la, .int st, .int bu, .int my])), (la, .inl (cI, 32, .inl lf))] [(cI, .int), (cB, .object "OneHandset$Box")] sz (fun (r : Int32) => fun (lf2 : Nat → Int32) => (∀ j, bi (lf2 j) 0 7) ∧ ((gld st bu i v w x = 0 ∧ r = 0 ∧ lf2 = lf) ∨ (¬ gld st bu i v w x = 0 ∧ r = 1 ∧ lf2 = upd lf (4 * cN v + cN w) x ∧ cN v < 8 ∧ cN w < 4))) (fun (lf2 : Nat → Int32) => [(h0, .inr (7, [.ref tp, .ref mka, .int mc, .ref bx, .ref rt])), (bx, .inl (cB, 4, .inr (.inr (.inr (.inr bf))))), (bq, .inr (0, [.ref la, .int st, .int bu, .int my])), (la, .inl (cI, 32, .inl lf2))]) (fun (lf2 : Nat → Int32) => []) := by
  refine ct_i (cc := cX8_lead) (maxL := 6) (ret := (some .boolean)) (by decide) rfl (Nat.le_of_ble_eq_true rfl) ?_
  intro p e s m below meth c A ls H hx hb hr hts hown hml hlocks hin hA hS hP hK hD hNW hl hAe hsz
  have hl : lv_has ls 6 [(0, .ref h0), (1, .int i), (2, .int v), (3, .int w), (4, .int x)] := hl
  refine lv_aload_n hx hb dX8_lead_0 rfl (lv_at hl 0 rfl) ?_
  refine lv_iload_n hx hb dX8_lead_1 rfl (lv_at hl 1 rfl) ?_
  refine go_q (wr := [(bq, .inr (0, [.ref la, .int st, .int bu, .int my])), (la, .inl (cI, 32, .inl lf))]) (tysr := [(cI, .int), (cB, .object "OneHandset$Box")]) hP hD hS hA hK [0, 1] [2, 3] [0, 1] rfl rfl (by decide) (by decide) rfl (va_runV (As := [.int i]) (rest := []) ⟨hx, hb, hml, hown, hts⟩ (g_boxAt_yes l D H.size h0 tp mka bx rt mc cB bf bq i hyes hib) (cwV 1 hts gX8_lead_X8_boxAt rfl rfl rfl (by decide +kernel) ⟨Nat.le_of_ble_eq_true rfl, Nat.le_of_ble_eq_true rfl⟩) (st_preV (ci := 7) (q0 := 0) hP hD hK hNW [0, 1] [1] rfl rfl (by decide) rfl rfl rfl rfl) rfl rfl hl.1 rfl (lv_room (Nat.le_of_ble_eq_true rfl)) dX8_lead_2 ⟨(Nat.le_of_ble_eq_true rfl), (Nat.le_of_ble_eq_true rfl)⟩) (fun r_1 u H locs hw hP hD hK hS => ?_)
  have hw : r_1 = some bq := hw
  subst hw
  have hP : va_P D vwCl [(bq, .inr (0, [.ref la, .int st, .int bu, .int my])), (la, .inl (cI, 32, .inl lf)), (h0, .inr (7, [.ref tp, .ref mka, .int mc, .ref bx, .ref rt])), (bx, .inl (cB, 4, .inr (.inr (.inr (.inr bf)))))] H := hP
  have hD : va_D A [(bq, .inr (0, [.ref la, .int st, .int bu, .int my])), (la, .inl (cI, 32, .inl lf)), (h0, .inr (7, [.ref tp, .ref mka, .int mc, .ref bx, .ref rt])), (bx, .inl (cB, 4, .inr (.inr (.inr (.inr bf)))))] := hD
  have hK : va_K D vwCl [(cI, .int), (cB, .object "OneHandset$Box")] s := hK
  refine W.eq (g2 := F0 m 5 ls [.ref bq]) rfl ?_
  refine lv_astore (lv' := [(5, .ref bq), (0, .ref h0), (1, .int i), (2, .int v), (3, .int w), (4, .int x)]) hx hb dX8_lead_5 hl (by decide) rfl (fun ls hl => ?_)
  refine lv_aload hx hb dX8_lead_7 (lv_at hl 0 rfl) ?_
  refine lv_ifnull hx hb dX8_lead_9 ?_
  refine lv_aload hx hb dX8_lead_12 (lv_at hl 0 rfl) ?_
  refine lv_iload_n hx hb dX8_lead_14 rfl (lv_at hl 3 rfl) ?_
  refine go_i (wr := [(la, .inl (cI, 32, .inl lf)), (h0, .inr (7, [.ref tp, .ref mka, .int mc, .ref bx, .ref rt])), (bx, .inl (cB, 4, .inr (.inr (.inr (.inr bf)))))]) (tysr := [(cI, .int), (cB, .object "OneHandset$Box")]) hP hD hS hA hK [0] [1, 2, 3] [0, 1] rfl rfl (by decide) (by decide) rfl (va_runV (As := [.int v]) (rest := []) ⟨hx, hb, hml, hown, hts⟩ (g_hasState l D H.size bq la st bu my v ) (cwV 1 hts gX8_lead_X0_hasState rfl rfl rfl (by decide +kernel) ⟨Nat.le_of_ble_eq_true rfl, Nat.le_of_ble_eq_true rfl⟩) (st_preV (ci := 0) (q0 := 0) hP hD hK hNW [0] [] rfl rfl (by decide) rfl rfl rfl rfl) rfl rfl hl.1 rfl (lv_room (Nat.le_of_ble_eq_true rfl)) dX8_lead_15 ⟨(Nat.le_of_ble_eq_true rfl), (Nat.le_of_ble_eq_true rfl)⟩) (fun r_2 u H locs hw hP hD hK hS => ?_)
  have hw : r_2 = wi v 0 (st - 1) := hw
  subst hw
  have hP : va_P D vwCl [(la, .inl (cI, 32, .inl lf)), (h0, .inr (7, [.ref tp, .ref mka, .int mc, .ref bx, .ref rt])), (bx, .inl (cB, 4, .inr (.inr (.inr (.inr bf))))), (bq, .inr (0, [.ref la, .int st, .int bu, .int my]))] H := hP
  have hD : va_D A [(la, .inl (cI, 32, .inl lf)), (h0, .inr (7, [.ref tp, .ref mka, .int mc, .ref bx, .ref rt])), (bx, .inl (cB, 4, .inr (.inr (.inr (.inr bf))))), (bq, .inr (0, [.ref la, .int st, .int bu, .int my]))] := hD
  have hK : va_K D vwCl [(cI, .int), (cB, .object "OneHandset$Box")] s := hK
  refine lv_if_eq (tgt := 40) hx hb dX8_lead_18 (by decide) (fun c_3 => ?_) (fun c_3 => ?_)
  · refine lv_iconst (v := 0) hx hb dX8_lead_40 (by decide) ?_
    exact ret_i hx hb hr hlocks rfl (u := lf) (⟨hlf, Or.inl ⟨(by unfold gld; rw [if_neg hyes, if_pos c_3]), rfl, rfl⟩⟩) (hP.sub [1, 2, 3, 0] rfl) (hK.sub [] rfl) (hD.sub [1, 2, 3, 0] (by decide) rfl) hS (Nat.le_of_ble_eq_true rfl) (Nat.le_of_ble_eq_true rfl) dX8_lead_41
  refine lv_aload hx hb dX8_lead_21 (lv_at hl 0 rfl) ?_
  refine lv_iload_n hx hb dX8_lead_23 rfl (lv_at hl 4 rfl) ?_
  refine go_i (wr := [(la, .inl (cI, 32, .inl lf)), (h0, .inr (7, [.ref tp, .ref mka, .int mc, .ref bx, .ref rt])), (bx, .inl (cB, 4, .inr (.inr (.inr (.inr bf)))))]) (tysr := [(cI, .int), (cB, .object "OneHandset$Box")]) hP hD hS hA hK [3] [0, 1, 2] [0, 1] rfl rfl (by decide) (by decide) rfl (va_runV (As := [.int w]) (rest := []) ⟨hx, hb, hml, hown, hts⟩ (g_hasButton l D H.size bq la st bu my w ) (cwV 1 hts gX8_lead_X0_hasButton rfl rfl rfl (by decide +kernel) ⟨Nat.le_of_ble_eq_true rfl, Nat.le_of_ble_eq_true rfl⟩) (st_preV (ci := 0) (q0 := 3) hP hD hK hNW [3] [] rfl rfl (by decide) rfl rfl rfl rfl) rfl rfl hl.1 rfl (lv_room (Nat.le_of_ble_eq_true rfl)) dX8_lead_24 ⟨(Nat.le_of_ble_eq_true rfl), (Nat.le_of_ble_eq_true rfl)⟩) (fun r_4 u H locs hw hP hD hK hS => ?_)
  have hw : r_4 = wi w 0 (bu - 1) := hw
  subst hw
  have hP : va_P D vwCl [(la, .inl (cI, 32, .inl lf)), (h0, .inr (7, [.ref tp, .ref mka, .int mc, .ref bx, .ref rt])), (bx, .inl (cB, 4, .inr (.inr (.inr (.inr bf))))), (bq, .inr (0, [.ref la, .int st, .int bu, .int my]))] H := hP
  have hD : va_D A [(la, .inl (cI, 32, .inl lf)), (h0, .inr (7, [.ref tp, .ref mka, .int mc, .ref bx, .ref rt])), (bx, .inl (cB, 4, .inr (.inr (.inr (.inr bf))))), (bq, .inr (0, [.ref la, .int st, .int bu, .int my]))] := hD
  have hK : va_K D vwCl [(cI, .int), (cB, .object "OneHandset$Box")] s := hK
  refine lv_if_eq (tgt := 40) hx hb dX8_lead_27 (by decide) (fun c_5 => ?_) (fun c_5 => ?_)
  · refine lv_iconst (v := 0) hx hb dX8_lead_40 (by decide) ?_
    exact ret_i hx hb hr hlocks rfl (u := lf) (⟨hlf, Or.inl ⟨(by unfold gld; rw [if_neg hyes, if_neg c_3, if_pos c_5]), rfl, rfl⟩⟩) (hP.sub [1, 2, 3, 0] rfl) (hK.sub [] rfl) (hD.sub [1, 2, 3, 0] (by decide) rfl) hS (Nat.le_of_ble_eq_true rfl) (Nat.le_of_ble_eq_true rfl) dX8_lead_41
  refine lv_aload hx hb dX8_lead_30 (lv_at hl 0 rfl) ?_
  refine lv_iload hx hb dX8_lead_32 (lv_at hl 5 rfl) ?_
  refine go_i (wr := [(la, .inl (cI, 32, .inl lf)), (h0, .inr (7, [.ref tp, .ref mka, .int mc, .ref bx, .ref rt])), (bx, .inl (cB, 4, .inr (.inr (.inr (.inr bf)))))]) (tysr := [(cI, .int), (cB, .object "OneHandset$Box")]) hP hD hS hA hK [3] [0, 1, 2] [0, 1] rfl rfl (by decide) (by decide) rfl (va_runV (As := [.int x]) (rest := []) ⟨hx, hb, hml, hown, hts⟩ (g_hasState l D H.size bq la st bu my x ) (cwV 1 hts gX8_lead_X0_hasState rfl rfl rfl (by decide +kernel) ⟨Nat.le_of_ble_eq_true rfl, Nat.le_of_ble_eq_true rfl⟩) (st_preV (ci := 0) (q0 := 3) hP hD hK hNW [3] [] rfl rfl (by decide) rfl rfl rfl rfl) rfl rfl hl.1 rfl (lv_room (Nat.le_of_ble_eq_true rfl)) dX8_lead_34 ⟨(Nat.le_of_ble_eq_true rfl), (Nat.le_of_ble_eq_true rfl)⟩) (fun r_6 u H locs hw hP hD hK hS => ?_)
  have hw : r_6 = wi x 0 (st - 1) := hw
  subst hw
  have hP : va_P D vwCl [(la, .inl (cI, 32, .inl lf)), (h0, .inr (7, [.ref tp, .ref mka, .int mc, .ref bx, .ref rt])), (bx, .inl (cB, 4, .inr (.inr (.inr (.inr bf))))), (bq, .inr (0, [.ref la, .int st, .int bu, .int my]))] H := hP
  have hD : va_D A [(la, .inl (cI, 32, .inl lf)), (h0, .inr (7, [.ref tp, .ref mka, .int mc, .ref bx, .ref rt])), (bx, .inl (cB, 4, .inr (.inr (.inr (.inr bf))))), (bq, .inr (0, [.ref la, .int st, .int bu, .int my]))] := hD
  have hK : va_K D vwCl [(cI, .int), (cB, .object "OneHandset$Box")] s := hK
  refine lv_if_ne (tgt := 42) hx hb dX8_lead_37 (by decide) (fun c_7 => ?_) (fun c_7 => ?_)
  · refine lv_aload hx hb dX8_lead_42 (lv_at hl 0 rfl) ?_
    refine lv_iload_n hx hb dX8_lead_44 rfl (lv_at hl 3 rfl) ?_
    refine lv_iload_n hx hb dX8_lead_45 rfl (lv_at hl 4 rfl) ?_
    refine lv_iload hx hb dX8_lead_46 (lv_at hl 5 rfl) ?_
    refine go_v (wr := [(h0, .inr (7, [.ref tp, .ref mka, .int mc, .ref bx, .ref rt])), (bx, .inl (cB, 4, .inr (.inr (.inr (.inr bf)))))]) (tysr := [(cI, .int), (cB, .object "OneHandset$Box")]) hP hD hS hA hK [3, 0] [1, 2] [0, 1] rfl rfl (by decide) (by decide) rfl (va_runV (As := [.int v, .int w, .int x]) (rest := []) ⟨hx, hb, hml, hown, hts⟩ (g_setLead l D H.size cI bq la st bu my lf v w x hst hbu c_3 c_5) (cwV 3 hts gX8_lead_X0_setLead rfl rfl rfl (by decide +kernel) ⟨Nat.le_of_ble_eq_true rfl, Nat.le_of_ble_eq_true rfl⟩) (st_preV (ci := 0) (q0 := 3) hP hD hK hNW [3, 0] [0] rfl rfl (by decide) rfl rfl rfl rfl) rfl rfl hl.1 rfl (lv_room (Nat.le_of_ble_eq_true rfl)) dX8_lead_48 ⟨(Nat.le_of_ble_eq_true rfl), (Nat.le_of_ble_eq_true rfl)⟩) (fun u H locs hw hP hD hK hS => ?_)
    have hP : va_P D vwCl [(h0, .inr (7, [.ref tp, .ref mka, .int mc, .ref bx, .ref rt])), (bx, .inl (cB, 4, .inr (.inr (.inr (.inr bf))))), (bq, .inr (0, [.ref la, .int st, .int bu, .int my])), (la, .inl (cI, 32, .inl (upd lf (Int32.toNatClampNeg (v * 4 + w)) x)))] H := hP
    have hD : va_D A [(h0, .inr (7, [.ref tp, .ref mka, .int mc, .ref bx, .ref rt])), (bx, .inl (cB, 4, .inr (.inr (.inr (.inr bf))))), (bq, .inr (0, [.ref la, .int st, .int bu, .int my])), (la, .inl (cI, 32, .inl (upd lf (Int32.toNatClampNeg (v * 4 + w)) x)))] := hD
    have hK : va_K D vwCl [(cI, .int), (cB, .object "OneHandset$Box")] s := hK
    refine lv_iconst (v := 1) hx hb dX8_lead_51 (by decide) ?_
    exact ret_i hx hb hr hlocks rfl (u := upd lf (Int32.toNatClampNeg (v * 4 + w)) x) (⟨all_upd hlf (by have : (0 : Int32).toInt = 0 := (by decide); have := ti_wi1 c_3; have := ti_wi1 c_5; have := ti_wi1 c_7; have k0 : (0 : Int32).toInt = 0 := (by decide); have u1 := ti_m1 (i := st) (by omega); omega), Or.inr ⟨(by unfold gld; rw [if_neg hyes, if_neg c_3, if_neg c_5, if_neg c_7]; decide), rfl, congrArg (fun k9 => upd lf k9 x) (ix4n (by have : (0 : Int32).toInt = 0 := (by decide); have := ti_wi1 c_3; have := ti_wi1 c_5; have := ti_wi1 c_7; have k0 : (0 : Int32).toInt = 0 := (by decide); have u1 := ti_m1 (i := st) (by omega); have u2 := ti_m1 (i := bu) (by omega); omega) (by have : (0 : Int32).toInt = 0 := (by decide); have := ti_wi1 c_3; have := ti_wi1 c_5; have := ti_wi1 c_7; have k0 : (0 : Int32).toInt = 0 := (by decide); have u1 := ti_m1 (i := st) (by omega); have u2 := ti_m1 (i := bu) (by omega); omega)), c8z (by have : (0 : Int32).toInt = 0 := (by decide); have := ti_wi1 c_3; have := ti_wi1 c_5; have := ti_wi1 c_7; have k0 : (0 : Int32).toInt = 0 := (by decide); have u1 := ti_m1 (i := st) (by omega); have u2 := ti_m1 (i := bu) (by omega); omega), c4z (by have : (0 : Int32).toInt = 0 := (by decide); have := ti_wi1 c_3; have := ti_wi1 c_5; have := ti_wi1 c_7; have k0 : (0 : Int32).toInt = 0 := (by decide); have u1 := ti_m1 (i := st) (by omega); have u2 := ti_m1 (i := bu) (by omega); omega)⟩⟩) (hP.sub [0, 1, 2, 3] rfl) (hK.sub [] rfl) (hD.sub [0, 1, 2, 3] (by decide) rfl) hS (Nat.le_of_ble_eq_true rfl) (Nat.le_of_ble_eq_true rfl) dX8_lead_52
  refine lv_iconst (v := 0) hx hb dX8_lead_40 (by decide) ?_
  exact ret_i hx hb hr hlocks rfl (u := lf) (⟨hlf, Or.inl ⟨(by unfold gld; rw [if_neg hyes, if_neg c_3, if_neg c_5, if_pos c_7]), rfl, rfl⟩⟩) (hP.sub [1, 2, 3, 0] rfl) (hK.sub [] rfl) (hD.sub [1, 2, 3, 0] (by decide) rfl) hS (Nat.le_of_ble_eq_true rfl) (Nat.le_of_ble_eq_true rfl) dX8_lead_41
theorem hiy_maybe_X0 : ∀ w ∈ wsX00, w ∈ wsX8_maybe := mem_pl [18, 19, 20, 21] rfl
set_option maxHeartbeats 4000000 in
set_option maxRecDepth 100000 in
theorem y_maybe (l : Launch) (D : va_G) (sz : Nat) (cI : ClassId) (h0 : Nat) (tp : Nat) (mka : Nat) (bx : Nat) (rt : Nat) (mc : Int32) (cB : ClassId) (bf : Nat → Option Nat) (bq : Nat) (la : Nat) (st : Int32) (bu : Int32) (my : Int32) (lf : Nat → Int32) (i : Int32) (v : Int32) (hyes : ¬ wi i 0 3 = 0) (hib : bf (Int32.toNatClampNeg i) = some bq) (hst : bi st 1 8) (hbu : bi bu 1 4) (hmy : bi my 0 255) (hlf : ∀ j, bi (lf j) 0 7) : Ci l yX8_maybe wsX8_maybe ({ frames := 2, cells := 0, slots := 0, locals := 43 } : Room) D [.ref h0, .int i, .int v] [(h0, .inr (7, [.ref tp, .ref mka, .int mc, .ref bx, .ref rt])), (bx, .inl (cB, 4, .inr (.inr (.inr (.inr bf))))), (bq, .inr (0, [.ref la, .int st, .int bu, .int my])), (la, .inl (cI, 32, .inl lf))] [(cI, .int), (cB, .object "OneHandset$Box")] sz (fun (r : Int32) => fun (my2 : Int32) => bi my2 0 255 ∧ ((gmy st i v = 0 ∧ r = 0 ∧ my2 = my) ∨ (¬ gmy st i v = 0 ∧ r = 1 ∧ my2 = v))) (fun (my2 : Int32) => [(h0, .inr (7, [.ref tp, .ref mka, .int mc, .ref bx, .ref rt])), (bx, .inl (cB, 4, .inr (.inr (.inr (.inr bf))))), (bq, .inr (0, [.ref la, .int st, .int bu, .int my2])), (la, .inl (cI, 32, .inl lf))]) (fun (my2 : Int32) => []) := by
  refine ct_i (cc := cX8_maybe) (maxL := 4) (ret := (some .boolean)) (by decide) rfl (Nat.le_of_ble_eq_true rfl) ?_
  intro p e s m below meth c A ls H hx hb hr hts hown hml hlocks hin hA hS hP hK hD hNW hl hAe hsz
  have hl : lv_has ls 4 [(0, .ref h0), (1, .int i), (2, .int v)] := hl
  refine lv_aload_n hx hb dX8_maybe_0 rfl (lv_at hl 0 rfl) ?_
  refine lv_iload_n hx hb dX8_maybe_1 rfl (lv_at hl 1 rfl) ?_
  refine go_q (wr := [(bq, .inr (0, [.ref la, .int st, .int bu, .int my])), (la, .inl (cI, 32, .inl lf))]) (tysr := [(cI, .int), (cB, .object "OneHandset$Box")]) hP hD hS hA hK [0, 1] [2, 3] [0, 1] rfl rfl (by decide) (by decide) rfl (va_runV (As := [.int i]) (rest := []) ⟨hx, hb, hml, hown, hts⟩ (g_boxAt_yes l D H.size h0 tp mka bx rt mc cB bf bq i hyes hib) (cwV 1 hts gX8_maybe_X8_boxAt rfl rfl rfl (by decide +kernel) ⟨Nat.le_of_ble_eq_true rfl, Nat.le_of_ble_eq_true rfl⟩) (st_preV (ci := 7) (q0 := 0) hP hD hK hNW [0, 1] [1] rfl rfl (by decide) rfl rfl rfl rfl) rfl rfl hl.1 rfl (lv_room (Nat.le_of_ble_eq_true rfl)) dX8_maybe_2 ⟨(Nat.le_of_ble_eq_true rfl), (Nat.le_of_ble_eq_true rfl)⟩) (fun r_1 u H locs hw hP hD hK hS => ?_)
  have hw : r_1 = some bq := hw
  subst hw
  have hP : va_P D vwCl [(bq, .inr (0, [.ref la, .int st, .int bu, .int my])), (la, .inl (cI, 32, .inl lf)), (h0, .inr (7, [.ref tp, .ref mka, .int mc, .ref bx, .ref rt])), (bx, .inl (cB, 4, .inr (.inr (.inr (.inr bf)))))] H := hP
  have hD : va_D A [(bq, .inr (0, [.ref la, .int st, .int bu, .int my])), (la, .inl (cI, 32, .inl lf)), (h0, .inr (7, [.ref tp, .ref mka, .int mc, .ref bx, .ref rt])), (bx, .inl (cB, 4, .inr (.inr (.inr (.inr bf)))))] := hD
  have hK : va_K D vwCl [(cI, .int), (cB, .object "OneHandset$Box")] s := hK
  refine W.eq (g2 := F0 m 5 ls [.ref bq]) rfl ?_
  refine lv_astore_n (lv' := [(3, .ref bq), (0, .ref h0), (1, .int i), (2, .int v)]) hx hb dX8_maybe_5 rfl hl (by decide) rfl (fun ls hl => ?_)
  refine lv_aload_n hx hb dX8_maybe_6 rfl (lv_at hl 0 rfl) ?_
  refine lv_ifnull hx hb dX8_maybe_7 ?_
  refine lv_aload_n hx hb dX8_maybe_10 rfl (lv_at hl 0 rfl) ?_
  refine lv_iload_n hx hb dX8_maybe_11 rfl (lv_at hl 3 rfl) ?_
  refine go_i (wr := [(la, .inl (cI, 32, .inl lf)), (h0, .inr (7, [.ref tp, .ref mka, .int mc, .ref bx, .ref rt])), (bx, .inl (cB, 4, .inr (.inr (.inr (.inr bf)))))]) (tysr := [(cI, .int), (cB, .object "OneHandset$Box")]) hP hD hS hA hK [0] [1, 2, 3] [0, 1] rfl rfl (by decide) (by decide) rfl (va_runV (As := [.int v]) (rest := []) ⟨hx, hb, hml, hown, hts⟩ (g_hasSet l D H.size bq la st bu my v ) (cwV 1 hts gX8_maybe_X0_hasSet rfl rfl rfl (by decide +kernel) ⟨Nat.le_of_ble_eq_true rfl, Nat.le_of_ble_eq_true rfl⟩) (st_preV (ci := 0) (q0 := 0) hP hD hK hNW [0] [] rfl rfl (by decide) rfl rfl rfl rfl) rfl rfl hl.1 rfl (lv_room (Nat.le_of_ble_eq_true rfl)) dX8_maybe_12 ⟨(Nat.le_of_ble_eq_true rfl), (Nat.le_of_ble_eq_true rfl)⟩) (fun r_2 u H locs hw hP hD hK hS => ?_)
  have hw : r_2 = wi v 1 (lb st) := hw
  subst hw
  have hP : va_P D vwCl [(la, .inl (cI, 32, .inl lf)), (h0, .inr (7, [.ref tp, .ref mka, .int mc, .ref bx, .ref rt])), (bx, .inl (cB, 4, .inr (.inr (.inr (.inr bf))))), (bq, .inr (0, [.ref la, .int st, .int bu, .int my]))] H := hP
  have hD : va_D A [(la, .inl (cI, 32, .inl lf)), (h0, .inr (7, [.ref tp, .ref mka, .int mc, .ref bx, .ref rt])), (bx, .inl (cB, 4, .inr (.inr (.inr (.inr bf))))), (bq, .inr (0, [.ref la, .int st, .int bu, .int my]))] := hD
  have hK : va_K D vwCl [(cI, .int), (cB, .object "OneHandset$Box")] s := hK
  refine lv_if_ne (tgt := 20) hx hb dX8_maybe_15 (by decide) (fun c_3 => ?_) (fun c_3 => ?_)
  · refine lv_aload_n hx hb dX8_maybe_20 rfl (lv_at hl 0 rfl) ?_
    refine lv_iload_n hx hb dX8_maybe_21 rfl (lv_at hl 3 rfl) ?_
    refine va_putN (D := D) (ci := 0) (v := .int v) (ty := .int) (C := RX0) (T := TX0) (N := 4) hx hb hts hiy_maybe_X0 tyX0 tyX0_ok nmX0 hown hK hP hD hS 3 rfl rfl 3 (by decide) (va_Nw.use rfl (hNW.1 ("OneHandset", 177, "OneHandset$Box", "maybe", "I", "OneHandset") (List.mem_of_getElem? (l := nw_F) (i := 8) rfl))) (fun _ h9 => h9) rfl (by decide +kernel) rfl rfl (Nat.le_of_ble_eq_true rfl) dX8_maybe_22 (fun H locs hP hD hS => ?_)
    have hP : va_P D vwCl [(la, .inl (cI, 32, .inl lf)), (h0, .inr (7, [.ref tp, .ref mka, .int mc, .ref bx, .ref rt])), (bx, .inl (cB, 4, .inr (.inr (.inr (.inr bf))))), (bq, .inr (0, [.ref la, .int st, .int bu, .int v]))] H := hP
    have hD : va_D A [(la, .inl (cI, 32, .inl lf)), (h0, .inr (7, [.ref tp, .ref mka, .int mc, .ref bx, .ref rt])), (bx, .inl (cB, 4, .inr (.inr (.inr (.inr bf))))), (bq, .inr (0, [.ref la, .int st, .int bu, .int v]))] := hD
    refine lv_iconst (v := 1) hx hb dX8_maybe_25 (by decide) ?_
    exact ret_i hx hb hr hlocks rfl (u := v) (⟨(by have : (1 : Int32).toInt = 1 := (by decide); have := ti_wi1 c_3; have u9 := lb_bi hst; omega), Or.inr ⟨(by unfold gmy; rw [if_neg hyes, if_neg c_3]; decide), rfl, rfl⟩⟩) (hP.sub [1, 2, 3, 0] rfl) (hK.sub [] rfl) (hD.sub [1, 2, 3, 0] (by decide) rfl) hS (Nat.le_of_ble_eq_true rfl) (Nat.le_of_ble_eq_true rfl) dX8_maybe_26
  refine lv_iconst (v := 0) hx hb dX8_maybe_18 (by decide) ?_
  exact ret_i hx hb hr hlocks rfl (u := my) (⟨hmy, Or.inl ⟨(by unfold gmy; rw [if_neg hyes, if_pos c_3]), rfl, rfl⟩⟩) (hP.sub [1, 2, 3, 0] rfl) (hK.sub [] rfl) (hD.sub [1, 2, 3, 0] (by decide) rfl) hS (Nat.le_of_ble_eq_true rfl) (Nat.le_of_ble_eq_true rfl) dX8_maybe_19
theorem hiy_push_X0 : ∀ w ∈ wsX00, w ∈ wsX8_push := mem_pl [23, 24, 25, 26] rfl
set_option maxHeartbeats 4000000 in
set_option maxRecDepth 100000 in
theorem y_push (l : Launch) (D : va_G) (sz : Nat) (cI : ClassId) (h0 : Nat) (tp : Nat) (mka : Nat) (bx : Nat) (rt : Nat) (mc : Int32) (cB : ClassId) (bf : Nat → Option Nat) (bq : Nat) (la : Nat) (st : Int32) (bu : Int32) (my : Int32) (lf : Nat → Int32) (i : Int32) (v : Int32) (hyes : ¬ wi i 0 3 = 0) (hib : bf (Int32.toNatClampNeg i) = some bq) (hst : bi st 1 8) (hbu : bi bu 1 4) (hmy : bi my 0 255) (hlf : ∀ j, bi (lf j) 0 7) : Ci l yX8_push wsX8_push ({ frames := 3, cells := 0, slots := 0, locals := 67 } : Room) D [.ref h0, .int i, .int v] [(h0, .inr (7, [.ref tp, .ref mka, .int mc, .ref bx, .ref rt])), (bx, .inl (cB, 4, .inr (.inr (.inr (.inr bf))))), (bq, .inr (0, [.ref la, .int st, .int bu, .int my])), (la, .inl (cI, 32, .inl lf))] [(cI, .int), (cB, .object "OneHandset$Box")] sz (fun (r : Int32) => fun (my2 : Int32) => bi my2 0 255 ∧ ((gpu bu i v = 0 ∧ r = -1 ∧ my2 = my) ∨ (¬ gpu bu i v = 0 ∧ r = my2 ∧ my2 = bh lf my (cN v) (cN st) ∧ cN v < 4))) (fun (my2 : Int32) => [(h0, .inr (7, [.ref tp, .ref mka, .int mc, .ref bx, .ref rt])), (bx, .inl (cB, 4, .inr (.inr (.inr (.inr bf))))), (bq, .inr (0, [.ref la, .int st, .int bu, .int my2])), (la, .inl (cI, 32, .inl lf))]) (fun (my2 : Int32) => []) := by
  refine ct_i (cc := cX8_push) (maxL := 4) (ret := (some .int)) (by decide) rfl (Nat.le_of_ble_eq_true rfl) ?_
  intro p e s m below meth c A ls H hx hb hr hts hown hml hlocks hin hA hS hP hK hD hNW hl hAe hsz
  have hl : lv_has ls 4 [(0, .ref h0), (1, .int i), (2, .int v)] := hl
  refine lv_aload_n hx hb dX8_push_0 rfl (lv_at hl 0 rfl) ?_
  refine lv_iload_n hx hb dX8_push_1 rfl (lv_at hl 1 rfl) ?_
  refine go_q (wr := [(bq, .inr (0, [.ref la, .int st, .int bu, .int my])), (la, .inl (cI, 32, .inl lf))]) (tysr := [(cI, .int), (cB, .object "OneHandset$Box")]) hP hD hS hA hK [0, 1] [2, 3] [0, 1] rfl rfl (by decide) (by decide) rfl (va_runV (As := [.int i]) (rest := []) ⟨hx, hb, hml, hown, hts⟩ (g_boxAt_yes l D H.size h0 tp mka bx rt mc cB bf bq i hyes hib) (cwV 1 hts gX8_push_X8_boxAt rfl rfl rfl (by decide +kernel) ⟨Nat.le_of_ble_eq_true rfl, Nat.le_of_ble_eq_true rfl⟩) (st_preV (ci := 7) (q0 := 0) hP hD hK hNW [0, 1] [1] rfl rfl (by decide) rfl rfl rfl rfl) rfl rfl hl.1 rfl (lv_room (Nat.le_of_ble_eq_true rfl)) dX8_push_2 ⟨(Nat.le_of_ble_eq_true rfl), (Nat.le_of_ble_eq_true rfl)⟩) (fun r_1 u H locs hw hP hD hK hS => ?_)
  have hw : r_1 = some bq := hw
  subst hw
  have hP : va_P D vwCl [(bq, .inr (0, [.ref la, .int st, .int bu, .int my])), (la, .inl (cI, 32, .inl lf)), (h0, .inr (7, [.ref tp, .ref mka, .int mc, .ref bx, .ref rt])), (bx, .inl (cB, 4, .inr (.inr (.inr (.inr bf)))))] H := hP
  have hD : va_D A [(bq, .inr (0, [.ref la, .int st, .int bu, .int my])), (la, .inl (cI, 32, .inl lf)), (h0, .inr (7, [.ref tp, .ref mka, .int mc, .ref bx, .ref rt])), (bx, .inl (cB, 4, .inr (.inr (.inr (.inr bf)))))] := hD
  have hK : va_K D vwCl [(cI, .int), (cB, .object "OneHandset$Box")] s := hK
  refine W.eq (g2 := F0 m 5 ls [.ref bq]) rfl ?_
  refine lv_astore_n (lv' := [(3, .ref bq), (0, .ref h0), (1, .int i), (2, .int v)]) hx hb dX8_push_5 rfl hl (by decide) rfl (fun ls hl => ?_)
  refine lv_aload_n hx hb dX8_push_6 rfl (lv_at hl 0 rfl) ?_
  refine lv_ifnull hx hb dX8_push_7 ?_
  refine lv_aload_n hx hb dX8_push_10 rfl (lv_at hl 0 rfl) ?_
  refine lv_iload_n hx hb dX8_push_11 rfl (lv_at hl 3 rfl) ?_
  refine go_i (wr := [(la, .inl (cI, 32, .inl lf)), (h0, .inr (7, [.ref tp, .ref mka, .int mc, .ref bx, .ref rt])), (bx, .inl (cB, 4, .inr (.inr (.inr (.inr bf)))))]) (tysr := [(cI, .int), (cB, .object "OneHandset$Box")]) hP hD hS hA hK [0] [1, 2, 3] [0, 1] rfl rfl (by decide) (by decide) rfl (va_runV (As := [.int v]) (rest := []) ⟨hx, hb, hml, hown, hts⟩ (g_hasButton l D H.size bq la st bu my v ) (cwV 1 hts gX8_push_X0_hasButton rfl rfl rfl (by decide +kernel) ⟨Nat.le_of_ble_eq_true rfl, Nat.le_of_ble_eq_true rfl⟩) (st_preV (ci := 0) (q0 := 0) hP hD hK hNW [0] [] rfl rfl (by decide) rfl rfl rfl rfl) rfl rfl hl.1 rfl (lv_room (Nat.le_of_ble_eq_true rfl)) dX8_push_12 ⟨(Nat.le_of_ble_eq_true rfl), (Nat.le_of_ble_eq_true rfl)⟩) (fun r_2 u H locs hw hP hD hK hS => ?_)
  have hw : r_2 = wi v 0 (bu - 1) := hw
  subst hw
  have hP : va_P D vwCl [(la, .inl (cI, 32, .inl lf)), (h0, .inr (7, [.ref tp, .ref mka, .int mc, .ref bx, .ref rt])), (bx, .inl (cB, 4, .inr (.inr (.inr (.inr bf))))), (bq, .inr (0, [.ref la, .int st, .int bu, .int my]))] H := hP
  have hD : va_D A [(la, .inl (cI, 32, .inl lf)), (h0, .inr (7, [.ref tp, .ref mka, .int mc, .ref bx, .ref rt])), (bx, .inl (cB, 4, .inr (.inr (.inr (.inr bf))))), (bq, .inr (0, [.ref la, .int st, .int bu, .int my]))] := hD
  have hK : va_K D vwCl [(cI, .int), (cB, .object "OneHandset$Box")] s := hK
  refine lv_if_ne (tgt := 20) hx hb dX8_push_15 (by decide) (fun c_3 => ?_) (fun c_3 => ?_)
  · refine lv_aload_n hx hb dX8_push_20 rfl (lv_at hl 0 rfl) ?_
    refine lv_aload_n hx hb dX8_push_21 rfl (lv_at hl 0 rfl) ?_
    refine lv_aload_n hx hb dX8_push_22 rfl (lv_at hl 0 rfl) ?_
    refine va_getN (D := D) (ci := 0) (v := .int my) (C := RX0) (T := TX0) (N := 4) hx hb hts hiy_push_X0 hown hK hP 3 rfl rfl 3 (by decide) (va_Nw.use rfl (hNW.1 ("OneHandset", 177, "OneHandset$Box", "maybe", "I", "OneHandset") (List.mem_of_getElem? (l := nw_F) (i := 8) rfl))) (fun _ h9 => h9) rfl dX8_push_23 ?_
    refine lv_iload_n hx hb dX8_push_26 rfl (lv_at hl 3 rfl) ?_
    refine go_i (wr := [(h0, .inr (7, [.ref tp, .ref mka, .int mc, .ref bx, .ref rt])), (bx, .inl (cB, 4, .inr (.inr (.inr (.inr bf)))))]) (tysr := [(cI, .int), (cB, .object "OneHandset$Box")]) hP hD hS hA hK [3, 0] [1, 2] [0, 1] rfl rfl (by decide) (by decide) rfl (va_runV (As := [.int my, .int v]) (rest := [.ref bq]) ⟨hx, hb, hml, hown, hts⟩ (g_behind l D H.size cI bq la st bu my lf my v hst hbu hlf c_3) (cwV 2 hts gX8_push_X0_behind rfl rfl rfl (by decide +kernel) ⟨Nat.le_of_ble_eq_true rfl, Nat.le_of_ble_eq_true rfl⟩) (st_preV (ci := 0) (q0 := 3) hP hD hK hNW [3, 0] [0] rfl rfl (by decide) rfl rfl rfl rfl) rfl rfl hl.1 rfl (lv_room (Nat.le_of_ble_eq_true rfl)) dX8_push_27 ⟨(Nat.le_of_ble_eq_true rfl), (Nat.le_of_ble_eq_true rfl)⟩) (fun r_4 u H locs hw hP hD hK hS => ?_)
    have hw : bi r_4 0 255 ∧ r_4 = bh lf my (cN v) (cN st) := hw
    have hw_5 := hw
    have hP : va_P D vwCl [(h0, .inr (7, [.ref tp, .ref mka, .int mc, .ref bx, .ref rt])), (bx, .inl (cB, 4, .inr (.inr (.inr (.inr bf))))), (bq, .inr (0, [.ref la, .int st, .int bu, .int my])), (la, .inl (cI, 32, .inl lf))] H := hP
    have hD : va_D A [(h0, .inr (7, [.ref tp, .ref mka, .int mc, .ref bx, .ref rt])), (bx, .inl (cB, 4, .inr (.inr (.inr (.inr bf))))), (bq, .inr (0, [.ref la, .int st, .int bu, .int my])), (la, .inl (cI, 32, .inl lf))] := hD
    have hK : va_K D vwCl [(cI, .int), (cB, .object "OneHandset$Box")] s := hK
    refine va_putN (D := D) (ci := 0) (v := .int r_4) (ty := .int) (C := RX0) (T := TX0) (N := 4) hx hb hts hiy_push_X0 tyX0 tyX0_ok nmX0 hown hK hP hD hS 2 rfl rfl 3 (by decide) (va_Nw.use rfl (hNW.1 ("OneHandset", 177, "OneHandset$Box", "maybe", "I", "OneHandset") (List.mem_of_getElem? (l := nw_F) (i := 8) rfl))) (fun _ h9 => h9) rfl (by decide +kernel) rfl rfl (Nat.le_of_ble_eq_true rfl) dX8_push_30 (fun H locs hP hD hS => ?_)
    have hP : va_P D vwCl [(h0, .inr (7, [.ref tp, .ref mka, .int mc, .ref bx, .ref rt])), (bx, .inl (cB, 4, .inr (.inr (.inr (.inr bf))))), (bq, .inr (0, [.ref la, .int st, .int bu, .int r_4])), (la, .inl (cI, 32, .inl lf))] H := hP
    have hD : va_D A [(h0, .inr (7, [.ref tp, .ref mka, .int mc, .ref bx, .ref rt])), (bx, .inl (cB, 4, .inr (.inr (.inr (.inr bf))))), (bq, .inr (0, [.ref la, .int st, .int bu, .int r_4])), (la, .inl (cI, 32, .inl lf))] := hD
    refine lv_aload_n hx hb dX8_push_33 rfl (lv_at hl 0 rfl) ?_
    refine va_getN (D := D) (ci := 0) (v := .int r_4) (C := RX0) (T := TX0) (N := 4) hx hb hts hiy_push_X0 hown hK hP 2 rfl rfl 3 (by decide) (va_Nw.use rfl (hNW.1 ("OneHandset", 177, "OneHandset$Box", "maybe", "I", "OneHandset") (List.mem_of_getElem? (l := nw_F) (i := 8) rfl))) (fun _ h9 => h9) rfl dX8_push_34 ?_
    exact ret_i hx hb hr hlocks rfl (u := r_4) (⟨(hw_5).1, Or.inr ⟨(by unfold gpu; rw [if_neg hyes, if_neg c_3]; decide), rfl, (hw_5).2, c4z (by have : (0 : Int32).toInt = 0 := (by decide); have := ti_wi1 c_3; have k0 : (0 : Int32).toInt = 0 := (by decide); have u2 := ti_m1 (i := bu) (by omega); omega)⟩⟩) (hP.sub [0, 1, 2, 3] rfl) (hK.sub [] rfl) (hD.sub [0, 1, 2, 3] (by decide) rfl) hS (Nat.le_of_ble_eq_true rfl) (Nat.le_of_ble_eq_true rfl) dX8_push_37
  refine lv_iconst (v := (-1)) hx hb dX8_push_18 (by decide) ?_
  exact ret_i hx hb hr hlocks rfl (u := my) (⟨hmy, Or.inl ⟨(by unfold gpu; rw [if_neg hyes, if_pos c_3]), rfl, rfl⟩⟩) (hP.sub [1, 2, 3, 0] rfl) (hK.sub [] rfl) (hD.sub [1, 2, 3, 0] (by decide) rfl) hS (Nat.le_of_ble_eq_true rfl) (Nat.le_of_ble_eq_true rfl) dX8_push_19
theorem hiy_told_X0 : ∀ w ∈ wsX00, w ∈ wsX8_told := mem_pl [10, 11, 12, 13] rfl
set_option maxHeartbeats 4000000 in
set_option maxRecDepth 100000 in
theorem y_told (l : Launch) (D : va_G) (sz : Nat) (cI : ClassId) (h0 : Nat) (tp : Nat) (mka : Nat) (bx : Nat) (rt : Nat) (mc : Int32) (cB : ClassId) (bf : Nat → Option Nat) (bq : Nat) (la : Nat) (st : Int32) (bu : Int32) (my : Int32) (lf : Nat → Int32) (i : Int32) (v : Int32) (hyes : ¬ wi i 0 3 = 0) (hib : bf (Int32.toNatClampNeg i) = some bq) (hst : bi st 1 8) (hbu : bi bu 1 4) (hmy : bi my 0 255) (hlf : ∀ j, bi (lf j) 0 7) : Ci l yX8_told wsX8_told ({ frames := 2, cells := 0, slots := 0, locals := 43 } : Room) D [.ref h0, .int i, .int v] [(h0, .inr (7, [.ref tp, .ref mka, .int mc, .ref bx, .ref rt])), (bx, .inl (cB, 4, .inr (.inr (.inr (.inr bf))))), (bq, .inr (0, [.ref la, .int st, .int bu, .int my])), (la, .inl (cI, 32, .inl lf))] [(cI, .int), (cB, .object "OneHandset$Box")] sz (fun (r : Int32) => fun (_ : Unit) => r = toA st bu my i v) (fun (_ : Unit) => [(h0, .inr (7, [.ref tp, .ref mka, .int mc, .ref bx, .ref rt])), (bx, .inl (cB, 4, .inr (.inr (.inr (.inr bf))))), (bq, .inr (0, [.ref la, .int st, .int bu, .int my])), (la, .inl (cI, 32, .inl lf))]) (fun (_ : Unit) => []) := by
  refine ct_i (cc := cX8_told) (maxL := 4) (ret := (some .int)) (by decide) rfl (Nat.le_of_ble_eq_true rfl) ?_
  intro p e s m below meth c A ls H hx hb hr hts hown hml hlocks hin hA hS hP hK hD hNW hl hAe hsz
  have hl : lv_has ls 4 [(0, .ref h0), (1, .int i), (2, .int v)] := hl
  refine lv_aload_n hx hb dX8_told_0 rfl (lv_at hl 0 rfl) ?_
  refine lv_iload_n hx hb dX8_told_1 rfl (lv_at hl 1 rfl) ?_
  refine go_q (wr := [(bq, .inr (0, [.ref la, .int st, .int bu, .int my])), (la, .inl (cI, 32, .inl lf))]) (tysr := [(cI, .int), (cB, .object "OneHandset$Box")]) hP hD hS hA hK [0, 1] [2, 3] [0, 1] rfl rfl (by decide) (by decide) rfl (va_runV (As := [.int i]) (rest := []) ⟨hx, hb, hml, hown, hts⟩ (g_boxAt_yes l D H.size h0 tp mka bx rt mc cB bf bq i hyes hib) (cwV 1 hts gX8_told_X8_boxAt rfl rfl rfl (by decide +kernel) ⟨Nat.le_of_ble_eq_true rfl, Nat.le_of_ble_eq_true rfl⟩) (st_preV (ci := 7) (q0 := 0) hP hD hK hNW [0, 1] [1] rfl rfl (by decide) rfl rfl rfl rfl) rfl rfl hl.1 rfl (lv_room (Nat.le_of_ble_eq_true rfl)) dX8_told_2 ⟨(Nat.le_of_ble_eq_true rfl), (Nat.le_of_ble_eq_true rfl)⟩) (fun r_1 u H locs hw hP hD hK hS => ?_)
  have hw : r_1 = some bq := hw
  subst hw
  have hP : va_P D vwCl [(bq, .inr (0, [.ref la, .int st, .int bu, .int my])), (la, .inl (cI, 32, .inl lf)), (h0, .inr (7, [.ref tp, .ref mka, .int mc, .ref bx, .ref rt])), (bx, .inl (cB, 4, .inr (.inr (.inr (.inr bf)))))] H := hP
  have hD : va_D A [(bq, .inr (0, [.ref la, .int st, .int bu, .int my])), (la, .inl (cI, 32, .inl lf)), (h0, .inr (7, [.ref tp, .ref mka, .int mc, .ref bx, .ref rt])), (bx, .inl (cB, 4, .inr (.inr (.inr (.inr bf)))))] := hD
  have hK : va_K D vwCl [(cI, .int), (cB, .object "OneHandset$Box")] s := hK
  refine W.eq (g2 := F0 m 5 ls [.ref bq]) rfl ?_
  refine lv_astore_n (lv' := [(3, .ref bq), (0, .ref h0), (1, .int i), (2, .int v)]) hx hb dX8_told_5 rfl hl (by decide) rfl (fun ls hl => ?_)
  refine lv_aload_n hx hb dX8_told_6 rfl (lv_at hl 0 rfl) ?_
  refine lv_ifnonnull (tgt := 12) hx hb dX8_told_7 (by decide) ?_
  refine lv_iload_n hx hb dX8_told_12 rfl (lv_at hl 3 rfl) ?_
  rcases tsw (n := 3) (by decide) (by decide) v with h_2 | h_2
  · obtain ⟨k_9, hk_9, e_9⟩ := h_2
    rcases (show k_9 = 0 ∨ k_9 = 1 ∨ k_9 = 2 by omega) with rfl | rfl | rfl
    · have c_3 : v = (0 : Int32) := e_9
      refine W.eq (g2 := F0 m 13 ls [.int 0]) (by rw [c_3]) ?_
      refine lv_tableIn (off := 27) (tgt := 40) hx hb dX8_told_13 (by decide) (by decide) rfl (by decide) ?_
      refine lv_aload_n hx hb dX8_told_40 rfl (lv_at hl 0 rfl) ?_
      refine va_getN (D := D) (ci := 0) (v := .int st) (C := RX0) (T := TX0) (N := 4) hx hb hts hiy_told_X0 hown hK hP 0 rfl rfl 1 (by decide) (va_Nw.use rfl (hNW.1 ("OneHandset", 190, "OneHandset$Box", "states", "I", "OneHandset") (List.mem_of_getElem? (l := nw_F) (i := 4) rfl))) (fun _ h9 => h9) rfl dX8_told_41 ?_
      exact ret_i hx hb hr hlocks rfl (u := ()) (by unfold toA; rw [if_neg hyes, c_3]; rfl) (hP.sub [2, 3, 0, 1] rfl) (hK.sub [] rfl) (hD.sub [2, 3, 0, 1] (by decide) rfl) hS (Nat.le_of_ble_eq_true rfl) (Nat.le_of_ble_eq_true rfl) dX8_told_44
    · have c_4 : v = (1 : Int32) := e_9
      refine W.eq (g2 := F0 m 13 ls [.int 1]) (by rw [c_4]) ?_
      refine lv_tableIn (off := 32) (tgt := 45) hx hb dX8_told_13 (by decide) (by decide) rfl (by decide) ?_
      refine lv_aload_n hx hb dX8_told_45 rfl (lv_at hl 0 rfl) ?_
      refine va_getN (D := D) (ci := 0) (v := .int bu) (C := RX0) (T := TX0) (N := 4) hx hb hts hiy_told_X0 hown hK hP 0 rfl rfl 2 (by decide) (va_Nw.use rfl (hNW.1 ("OneHandset", 193, "OneHandset$Box", "buttons", "I", "OneHandset") (List.mem_of_getElem? (l := nw_F) (i := 6) rfl))) (fun _ h9 => h9) rfl dX8_told_46 ?_
      exact ret_i hx hb hr hlocks rfl (u := ()) (by unfold toA; rw [if_neg hyes, c_4]; rfl) (hP.sub [2, 3, 0, 1] rfl) (hK.sub [] rfl) (hD.sub [2, 3, 0, 1] (by decide) rfl) hS (Nat.le_of_ble_eq_true rfl) (Nat.le_of_ble_eq_true rfl) dX8_told_49
    · have c_5 : v = (2 : Int32) := e_9
      refine W.eq (g2 := F0 m 13 ls [.int 2]) (by rw [c_5]) ?_
      refine lv_tableIn (off := 37) (tgt := 50) hx hb dX8_told_13 (by decide) (by decide) rfl (by decide) ?_
      refine lv_aload_n hx hb dX8_told_50 rfl (lv_at hl 0 rfl) ?_
      refine va_getN (D := D) (ci := 0) (v := .int my) (C := RX0) (T := TX0) (N := 4) hx hb hts hiy_told_X0 hown hK hP 0 rfl rfl 3 (by decide) (va_Nw.use rfl (hNW.1 ("OneHandset", 177, "OneHandset$Box", "maybe", "I", "OneHandset") (List.mem_of_getElem? (l := nw_F) (i := 8) rfl))) (fun _ h9 => h9) rfl dX8_told_51 ?_
      exact ret_i hx hb hr hlocks rfl (u := ()) (by unfold toA; rw [if_neg hyes, c_5]; rfl) (hP.sub [2, 3, 0, 1] rfl) (hK.sub [] rfl) (hD.sub [2, 3, 0, 1] (by decide) rfl) hS (Nat.le_of_ble_eq_true rfl) (Nat.le_of_ble_eq_true rfl) dX8_told_54
  refine lv_tableOut (tgt := 55) hx hb dX8_told_13 h_2 (by decide) ?_
  have c_7 : ¬ v = (0 : Int32) := tsw_ne (n := 3) (k := 0) (by decide) (by decide) h_2
  have c_8 : ¬ v = (1 : Int32) := tsw_ne (n := 3) (k := 1) (by decide) (by decide) h_2
  have c_9 : ¬ v = (2 : Int32) := tsw_ne (n := 3) (k := 2) (by decide) (by decide) h_2
  refine lv_iconst (v := (-1)) hx hb dX8_told_55 (by decide) ?_
  exact ret_i hx hb hr hlocks rfl (u := ()) (by unfold toA; rw [if_neg hyes, if_neg c_7, if_neg c_8, if_neg c_9]) (hP.sub [2, 3, 0, 1] rfl) (hK.sub [] rfl) (hD.sub [2, 3, 0, 1] (by decide) rfl) hS (Nat.le_of_ble_eq_true rfl) (Nat.le_of_ble_eq_true rfl) dX8_told_56
theorem hiy_way_X8 : ∀ w ∈ wsX80, w ∈ wsX8_way := mem_pl [47, 48, 49, 50, 51] rfl
set_option maxHeartbeats 4000000 in
set_option maxRecDepth 100000 in
theorem y_way (l : Launch) (D : va_G) (sz : Nat) (cI : ClassId) (h0 : Nat) (tp : Nat) (mka : Nat) (bx : Nat) (rt : Nat) (mc : Int32) (cB : ClassId) (bf : Nat → Option Nat) (bq : Nat) (la : Nat) (st : Int32) (bu : Int32) (my : Int32) (lf : Nat → Int32) (r0 : Nat) (r1 : Nat) (r2 : Nat) (r3 : Nat) (rl : Int32) (f0 : Nat → Int32) (f1 : Nat → Int32) (f2 : Nat → Int32) (f3 : Nat → Int32) (i : Int32) (v : Int32) (hyes : ¬ wi i 0 3 = 0) (hib : bf (Int32.toNatClampNeg i) = some bq) (hst : bi st 1 8) (hbu : bi bu 1 4) (hmy : bi my 0 255) (hlf : ∀ j, bi (lf j) 0 7) (hrl : bi rl 0 256) : Ci l yX8_way wsX8_way ({ frames := 4, cells := 0, slots := 0, locals := 95 } : Room) D [.ref h0, .int i, .int v] [(h0, .inr (7, [.ref tp, .ref mka, .int mc, .ref bx, .ref rt])), (bx, .inl (cB, 4, .inr (.inr (.inr (.inr bf))))), (bq, .inr (0, [.ref la, .int st, .int bu, .int my])), (la, .inl (cI, 32, .inl lf)), (rt, .inr (5, [.ref r0, .ref r1, .ref r2, .ref r3, .int rl])), (r0, .inl (cI, 256, .inl f0)), (r1, .inl (cI, 256, .inl f1)), (r2, .inl (cI, 256, .inl f2)), (r3, .inl (cI, 256, .inl f3))] [(cI, .int), (cB, .object "OneHandset$Box")] sz (fun (r : Int32) => fun (u9 : Int32 × (Nat → Int32) × (Nat → Int32) × (Nat → Int32) × (Nat → Int32)) => match u9 with | (rl2, f02, f12, f22, f32) => bi rl2 0 256 ∧ ((gmy st i v = 0 ∧ r = -1 ∧ rl2 = rl ∧ f02 = f0) ∨ (¬ gmy st i v = 0 ∧ WYP (wy (w3 lf (cN st) (cN bu) my) my v) r rl rl2 f0 f02))) (fun (u9 : Int32 × (Nat → Int32) × (Nat → Int32) × (Nat → Int32) × (Nat → Int32)) => match u9 with | (rl2, f02, f12, f22, f32) => [(h0, .inr (7, [.ref tp, .ref mka, .int mc, .ref bx, .ref rt])), (bx, .inl (cB, 4, .inr (.inr (.inr (.inr bf))))), (bq, .inr (0, [.ref la, .int st, .int bu, .int my])), (la, .inl (cI, 32, .inl lf)), (rt, .inr (5, [.ref r0, .ref r1, .ref r2, .ref r3, .int rl2])), (r0, .inl (cI, 256, .inl f02)), (r1, .inl (cI, 256, .inl f12)), (r2, .inl (cI, 256, .inl f22)), (r3, .inl (cI, 256, .inl f32))]) (fun (u9 : Int32 × (Nat → Int32) × (Nat → Int32) × (Nat → Int32) × (Nat → Int32)) => match u9 with | (rl2, f02, f12, f22, f32) => []) := by
  refine ct_i (cc := cX8_way) (maxL := 4) (ret := (some .int)) (by decide) rfl (Nat.le_of_ble_eq_true rfl) ?_
  intro p e s m below meth c A ls H hx hb hr hts hown hml hlocks hin hA hS hP hK hD hNW hl hAe hsz
  have hl : lv_has ls 4 [(0, .ref h0), (1, .int i), (2, .int v)] := hl
  refine lv_aload_n hx hb dX8_way_0 rfl (lv_at hl 0 rfl) ?_
  refine lv_iload_n hx hb dX8_way_1 rfl (lv_at hl 1 rfl) ?_
  refine go_q (wr := [(bq, .inr (0, [.ref la, .int st, .int bu, .int my])), (la, .inl (cI, 32, .inl lf)), (rt, .inr (5, [.ref r0, .ref r1, .ref r2, .ref r3, .int rl])), (r0, .inl (cI, 256, .inl f0)), (r1, .inl (cI, 256, .inl f1)), (r2, .inl (cI, 256, .inl f2)), (r3, .inl (cI, 256, .inl f3))]) (tysr := [(cI, .int), (cB, .object "OneHandset$Box")]) hP hD hS hA hK [0, 1] [2, 3, 4, 5, 6, 7, 8] [0, 1] rfl rfl (by decide) (by decide) rfl (va_runV (As := [.int i]) (rest := []) ⟨hx, hb, hml, hown, hts⟩ (g_boxAt_yes l D H.size h0 tp mka bx rt mc cB bf bq i hyes hib) (cwV 1 hts gX8_way_X8_boxAt rfl rfl rfl (by decide +kernel) ⟨Nat.le_of_ble_eq_true rfl, Nat.le_of_ble_eq_true rfl⟩) (st_preV (ci := 7) (q0 := 0) hP hD hK hNW [0, 1] [1] rfl rfl (by decide) rfl rfl rfl rfl) rfl rfl hl.1 rfl (lv_room (Nat.le_of_ble_eq_true rfl)) dX8_way_2 ⟨(Nat.le_of_ble_eq_true rfl), (Nat.le_of_ble_eq_true rfl)⟩) (fun r_1 u H locs hw hP hD hK hS => ?_)
  have hw : r_1 = some bq := hw
  subst hw
  have hP : va_P D vwCl [(bq, .inr (0, [.ref la, .int st, .int bu, .int my])), (la, .inl (cI, 32, .inl lf)), (rt, .inr (5, [.ref r0, .ref r1, .ref r2, .ref r3, .int rl])), (r0, .inl (cI, 256, .inl f0)), (r1, .inl (cI, 256, .inl f1)), (r2, .inl (cI, 256, .inl f2)), (r3, .inl (cI, 256, .inl f3)), (h0, .inr (7, [.ref tp, .ref mka, .int mc, .ref bx, .ref rt])), (bx, .inl (cB, 4, .inr (.inr (.inr (.inr bf)))))] H := hP
  have hD : va_D A [(bq, .inr (0, [.ref la, .int st, .int bu, .int my])), (la, .inl (cI, 32, .inl lf)), (rt, .inr (5, [.ref r0, .ref r1, .ref r2, .ref r3, .int rl])), (r0, .inl (cI, 256, .inl f0)), (r1, .inl (cI, 256, .inl f1)), (r2, .inl (cI, 256, .inl f2)), (r3, .inl (cI, 256, .inl f3)), (h0, .inr (7, [.ref tp, .ref mka, .int mc, .ref bx, .ref rt])), (bx, .inl (cB, 4, .inr (.inr (.inr (.inr bf)))))] := hD
  have hK : va_K D vwCl [(cI, .int), (cB, .object "OneHandset$Box")] s := hK
  refine W.eq (g2 := F0 m 5 ls [.ref bq]) rfl ?_
  refine lv_astore_n (lv' := [(3, .ref bq), (0, .ref h0), (1, .int i), (2, .int v)]) hx hb dX8_way_5 rfl hl (by decide) rfl (fun ls hl => ?_)
  refine lv_aload_n hx hb dX8_way_6 rfl (lv_at hl 0 rfl) ?_
  refine lv_ifnull hx hb dX8_way_7 ?_
  refine lv_aload_n hx hb dX8_way_10 rfl (lv_at hl 0 rfl) ?_
  refine lv_iload_n hx hb dX8_way_11 rfl (lv_at hl 3 rfl) ?_
  refine go_i (wr := [(la, .inl (cI, 32, .inl lf)), (rt, .inr (5, [.ref r0, .ref r1, .ref r2, .ref r3, .int rl])), (r0, .inl (cI, 256, .inl f0)), (r1, .inl (cI, 256, .inl f1)), (r2, .inl (cI, 256, .inl f2)), (r3, .inl (cI, 256, .inl f3)), (h0, .inr (7, [.ref tp, .ref mka, .int mc, .ref bx, .ref rt])), (bx, .inl (cB, 4, .inr (.inr (.inr (.inr bf)))))]) (tysr := [(cI, .int), (cB, .object "OneHandset$Box")]) hP hD hS hA hK [0] [1, 2, 3, 4, 5, 6, 7, 8] [0, 1] rfl rfl (by decide) (by decide) rfl (va_runV (As := [.int v]) (rest := []) ⟨hx, hb, hml, hown, hts⟩ (g_hasSet l D H.size bq la st bu my v ) (cwV 1 hts gX8_way_X0_hasSet rfl rfl rfl (by decide +kernel) ⟨Nat.le_of_ble_eq_true rfl, Nat.le_of_ble_eq_true rfl⟩) (st_preV (ci := 0) (q0 := 0) hP hD hK hNW [0] [] rfl rfl (by decide) rfl rfl rfl rfl) rfl rfl hl.1 rfl (lv_room (Nat.le_of_ble_eq_true rfl)) dX8_way_12 ⟨(Nat.le_of_ble_eq_true rfl), (Nat.le_of_ble_eq_true rfl)⟩) (fun r_2 u H locs hw hP hD hK hS => ?_)
  have hw : r_2 = wi v 1 (lb st) := hw
  subst hw
  have hP : va_P D vwCl [(la, .inl (cI, 32, .inl lf)), (rt, .inr (5, [.ref r0, .ref r1, .ref r2, .ref r3, .int rl])), (r0, .inl (cI, 256, .inl f0)), (r1, .inl (cI, 256, .inl f1)), (r2, .inl (cI, 256, .inl f2)), (r3, .inl (cI, 256, .inl f3)), (h0, .inr (7, [.ref tp, .ref mka, .int mc, .ref bx, .ref rt])), (bx, .inl (cB, 4, .inr (.inr (.inr (.inr bf))))), (bq, .inr (0, [.ref la, .int st, .int bu, .int my]))] H := hP
  have hD : va_D A [(la, .inl (cI, 32, .inl lf)), (rt, .inr (5, [.ref r0, .ref r1, .ref r2, .ref r3, .int rl])), (r0, .inl (cI, 256, .inl f0)), (r1, .inl (cI, 256, .inl f1)), (r2, .inl (cI, 256, .inl f2)), (r3, .inl (cI, 256, .inl f3)), (h0, .inr (7, [.ref tp, .ref mka, .int mc, .ref bx, .ref rt])), (bx, .inl (cB, 4, .inr (.inr (.inr (.inr bf))))), (bq, .inr (0, [.ref la, .int st, .int bu, .int my]))] := hD
  have hK : va_K D vwCl [(cI, .int), (cB, .object "OneHandset$Box")] s := hK
  refine lv_if_ne (tgt := 22) hx hb dX8_way_15 (by decide) (fun c_3 => ?_) (fun c_3 => ?_)
  · refine lv_aload_n hx hb dX8_way_22 rfl (lv_at hl 1 rfl) ?_
    refine va_get (D := D) (ci := 7) (v := .ref rt) (C := RX8) (T := TX8) (N := 5) hx hb hts hiy_way_X8 hown hK hP 6 rfl rfl 4 (by decide) (hts (.fieldLink RX8 36 "OneHandset" "route" "LOneHandset$Route;") (List.mem_of_getElem? (i := 1) rfl)) (fun _ h9 => h9) rfl dX8_way_23 ?_
    refine lv_aload_n hx hb dX8_way_26 rfl (lv_at hl 0 rfl) ?_
    refine lv_iload_n hx hb dX8_way_27 rfl (lv_at hl 3 rfl) ?_
    refine go_i (wr := [(h0, .inr (7, [.ref tp, .ref mka, .int mc, .ref bx, .ref rt])), (bx, .inl (cB, 4, .inr (.inr (.inr (.inr bf)))))]) (tysr := [(cI, .int), (cB, .object "OneHandset$Box")]) hP hD hS hA hK [1, 2, 3, 4, 5, 8, 0] [6, 7] [0, 1] rfl rfl (by decide) (by decide) rfl (va_runV (As := [.ref bq, .int v]) (rest := []) ⟨hx, hb, hml, hown, hts⟩ (g_find l D H.size cI rt r0 r1 r2 r3 rl f0 f1 f2 f3 bq la st bu my lf v hst hbu hmy hlf hrl) (cwV 2 hts gX8_way_X6_find rfl rfl rfl (by decide +kernel) ⟨Nat.le_of_ble_eq_true rfl, Nat.le_of_ble_eq_true rfl⟩) (st_preV (ci := 5) (q0 := 1) hP hD hK hNW [1, 2, 3, 4, 5, 8, 0] [0] rfl rfl (by decide) rfl rfl rfl rfl) rfl rfl hl.1 rfl (lv_room (Nat.le_of_ble_eq_true rfl)) dX8_way_28 ⟨(Nat.le_of_ble_eq_true rfl), (Nat.le_of_ble_eq_true rfl)⟩) (fun r_4 u H locs hw hP hD hK hS => ?_)
    obtain ⟨rl_5, f_6, f_7, f_8, f_9⟩ := u
    have hw : bi rl_5 0 256 ∧ WYP (wy (w3 lf (cN st) (cN bu) my) my v) r_4 rl rl_5 f0 f_6 := hw
    have hw_10 := hw
    have hP : va_P D vwCl [(h0, .inr (7, [.ref tp, .ref mka, .int mc, .ref bx, .ref rt])), (bx, .inl (cB, 4, .inr (.inr (.inr (.inr bf))))), (rt, .inr (5, [.ref r0, .ref r1, .ref r2, .ref r3, .int rl_5])), (r0, .inl (cI, 256, .inl f_6)), (r1, .inl (cI, 256, .inl f_7)), (r2, .inl (cI, 256, .inl f_8)), (r3, .inl (cI, 256, .inl f_9)), (bq, .inr (0, [.ref la, .int st, .int bu, .int my])), (la, .inl (cI, 32, .inl lf))] H := hP
    have hD : va_D A [(h0, .inr (7, [.ref tp, .ref mka, .int mc, .ref bx, .ref rt])), (bx, .inl (cB, 4, .inr (.inr (.inr (.inr bf))))), (rt, .inr (5, [.ref r0, .ref r1, .ref r2, .ref r3, .int rl_5])), (r0, .inl (cI, 256, .inl f_6)), (r1, .inl (cI, 256, .inl f_7)), (r2, .inl (cI, 256, .inl f_8)), (r3, .inl (cI, 256, .inl f_9)), (bq, .inr (0, [.ref la, .int st, .int bu, .int my])), (la, .inl (cI, 32, .inl lf))] := hD
    have hK : va_K D vwCl [(cI, .int), (cB, .object "OneHandset$Box")] s := hK
    exact ret_i hx hb hr hlocks rfl (u := (rl_5, f_6, f_7, f_8, f_9)) (⟨(hw_10).1, Or.inr ⟨(by unfold gmy; rw [if_neg hyes, if_neg c_3]; decide), (hw_10).2⟩⟩) (hP.sub [0, 1, 7, 8, 2, 3, 4, 5, 6] rfl) (hK.sub [] rfl) (hD.sub [0, 1, 7, 8, 2, 3, 4, 5, 6] (by decide) rfl) hS (Nat.le_of_ble_eq_true rfl) (Nat.le_of_ble_eq_true rfl) dX8_way_31
  refine lv_iconst (v := (-1)) hx hb dX8_way_18 (by decide) ?_
  refine lv_goto (tgt := 31) hx hb dX8_way_19 (by decide) ?_
  exact ret_i hx hb hr hlocks rfl (u := (rl, f0, f1, f2, f3)) (⟨hrl, Or.inl ⟨(by unfold gmy; rw [if_neg hyes, if_pos c_3]), rfl, rfl, rfl⟩⟩) (hP.sub [6, 7, 8, 0, 1, 2, 3, 4, 5] rfl) (hK.sub [] rfl) (hD.sub [6, 7, 8, 0, 1, 2, 3, 4, 5] (by decide) rfl) hS (Nat.le_of_ble_eq_true rfl) (Nat.le_of_ble_eq_true rfl) dX8_way_31
theorem hit_button_X8 : ∀ w ∈ wsX80, w ∈ wsX8_button := mem_pl [12, 13, 14, 15, 16] rfl
set_option maxHeartbeats 4000000 in
set_option maxRecDepth 100000 in
theorem t_button (l : Launch) (D : va_G) (sz : Nat) (cI : ClassId) (h0 : Nat) (tp : Nat) (mka : Nat) (bx : Nat) (rt : Nat) (mc : Int32) (r0 : Nat) (r1 : Nat) (r2 : Nat) (r3 : Nat) (rl : Int32) (f0 : Nat → Int32) (v : Int32) (hrl : bi rl 0 256) : Ci l yX8_button wsX8_button ({ frames := 2, cells := 0, slots := 0, locals := 43 } : Room) D [.ref h0, .int v] [(h0, .inr (7, [.ref tp, .ref mka, .int mc, .ref bx, .ref rt])), (rt, .inr (5, [.ref r0, .ref r1, .ref r2, .ref r3, .int rl])), (r0, .inl (cI, 256, .inl f0))] [(cI, .int)] sz (fun (r : Int32) => fun (_ : Unit) => r = btA rl f0 v) (fun (_ : Unit) => [(h0, .inr (7, [.ref tp, .ref mka, .int mc, .ref bx, .ref rt])), (rt, .inr (5, [.ref r0, .ref r1, .ref r2, .ref r3, .int rl])), (r0, .inl (cI, 256, .inl f0))]) (fun (_ : Unit) => []) := by
  refine ct_i (cc := cX8_button) (maxL := 2) (ret := (some .int)) (by decide) rfl (Nat.le_of_ble_eq_true rfl) ?_
  intro p e s m below meth c A ls H hx hb hr hts hown hml hlocks hin hA hS hP hK hD hNW hl hAe hsz
  have hl : lv_has ls 2 [(0, .ref h0), (1, .int v)] := hl
  refine lv_aload_n hx hb dX8_button_0 rfl (lv_at hl 0 rfl) ?_
  refine va_get (D := D) (ci := 7) (v := .ref rt) (C := RX8) (T := TX8) (N := 5) hx hb hts hit_button_X8 hown hK hP 0 rfl rfl 4 (by decide) (hts (.fieldLink RX8 36 "OneHandset" "route" "LOneHandset$Route;") (List.mem_of_getElem? (i := 1) rfl)) (fun _ h9 => h9) rfl dX8_button_1 ?_
  refine lv_iload_n hx hb dX8_button_4 rfl (lv_at hl 1 rfl) ?_
  refine go_i (wr := [(h0, .inr (7, [.ref tp, .ref mka, .int mc, .ref bx, .ref rt]))]) (tysr := [(cI, .int)]) hP hD hS hA hK [1, 2] [0] [0] rfl rfl (by decide) (by decide) rfl (va_runV (As := [.int v]) (rest := []) ⟨hx, hb, hml, hown, hts⟩ (g_buttonAt l D H.size cI rt r0 r1 r2 r3 rl f0 v hrl) (cwV 1 hts gX8_button_X6_buttonAt rfl rfl rfl (by decide +kernel) ⟨Nat.le_of_ble_eq_true rfl, Nat.le_of_ble_eq_true rfl⟩) (st_preV (ci := 5) (q0 := 1) hP hD hK hNW [1, 2] [0] rfl rfl (by decide) rfl rfl rfl rfl) rfl rfl hl.1 rfl (lv_room (Nat.le_of_ble_eq_true rfl)) dX8_button_5 ⟨(Nat.le_of_ble_eq_true rfl), (Nat.le_of_ble_eq_true rfl)⟩) (fun r_1 u H locs hw hP hD hK hS => ?_)
  have hw : r_1 = btA rl f0 v := hw
  subst hw
  have hP : va_P D vwCl [(h0, .inr (7, [.ref tp, .ref mka, .int mc, .ref bx, .ref rt])), (rt, .inr (5, [.ref r0, .ref r1, .ref r2, .ref r3, .int rl])), (r0, .inl (cI, 256, .inl f0))] H := hP
  have hD : va_D A [(h0, .inr (7, [.ref tp, .ref mka, .int mc, .ref bx, .ref rt])), (rt, .inr (5, [.ref r0, .ref r1, .ref r2, .ref r3, .int rl])), (r0, .inl (cI, 256, .inl f0))] := hD
  have hK : va_K D vwCl [(cI, .int)] s := hK
  exact ret_i hx hb hr hlocks rfl (u := ()) rfl (hP.sub [0, 1, 2] rfl) (hK.sub [] rfl) (hD.sub [0, 1, 2] (by decide) rfl) hS (Nat.le_of_ble_eq_true rfl) (Nat.le_of_ble_eq_true rfl) dX8_button_8
