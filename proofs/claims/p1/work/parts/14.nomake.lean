theorem hiX8_makeAt_X8 : ∀ w ∈ wsX80, w ∈ wsX8_makeAt := mem_pl [7, 8, 9, 10, 11] rfl
set_option maxHeartbeats 4000000 in
set_option maxRecDepth 100000 in
theorem c_X8_makeAt (l : Launch) (D : va_G) (sz : Nat) (h0 : Nat) (tp : Nat) (mka : Nat) (bx : Nat) (rt : Nat) (i : Int32)  : Cq l yX8_makeAt wsX8_makeAt ({ frames := 1, cells := 0, slots := 0, locals := 22 } : Room) D [.ref h0, .int i] [(h0, .inr (7, [.ref tp, .ref mka, .int 0, .ref bx, .ref rt]))] [] sz (fun (r : Option Nat) => fun (_ : Unit) => r = none) (fun (_ : Unit) => [(h0, .inr (7, [.ref tp, .ref mka, .int 0, .ref bx, .ref rt]))]) (fun (_ : Unit) => []) := by
  refine ct_q (cc := cX8_makeAt) (maxL := 2) (ret := (some (.object "OneHandset$Make"))) (by decide) rfl (Nat.le_of_ble_eq_true rfl) ?_
  intro p e s m below meth c A ls H hx hb hr hts hown hml hlocks hin hA hS hP hK hD hNW hl hAe hsz
  have hl : lv_has ls 2 [(0, .ref h0), (1, .int i)] := hl
  refine lv_iload_n hx hb dX8_makeAt_0 rfl (lv_at hl 1 rfl) ?_
  refine lv_iconst (v := 0) hx hb dX8_makeAt_1 (by decide) ?_
  refine lv_aload_n hx hb dX8_makeAt_2 rfl (lv_at hl 0 rfl) ?_
  refine va_get (D := D) (ci := 7) (v := .int 0) (C := RX8) (T := TX8) (N := 5) hx hb hts hiX8_makeAt_X8 hown hK hP 0 rfl rfl 2 (by decide) (hts (.fieldLink RX8 22 "OneHandset" "makeCount" "I") (List.mem_of_getElem? (i := 1) rfl)) (fun _ h9 => h9) rfl dX8_makeAt_3 ?_
  refine lv_iconst (v := 1) hx hb dX8_makeAt_6 (by decide) ?_
  refine lv_isub hx hb dX8_makeAt_7 ?_
  refine lv_topi (fun v_1 ev_1 => ?_)
  obtain rfl : v_1 = (-1 : Int32) := ev_1.trans (by decide)
  refine go_i (wr := [(h0, .inr (7, [.ref tp, .ref mka, .int 0, .ref bx, .ref rt]))]) (tysr := []) hP hD hS hA hK [] [0] [] rfl rfl (by decide) (by decide) rfl (va_runS (As := [.int i, .int 0, .int (-1)]) (rest := []) ⟨hx, hb, hml, hown, hts⟩ (c_X8_within l D H.size i 0 (-1) ) (va_cwS 3 hts gX8_makeAt_X8_within rfl rfl rfl (by decide +kernel) ⟨Nat.le_of_ble_eq_true rfl, Nat.le_of_ble_eq_true rfl⟩) (st_preS hP hD hK hNW [] [] rfl rfl (by decide) rfl) rfl rfl hl.1 rfl (lv_room (Nat.le_of_ble_eq_true rfl)) dX8_makeAt_8 ⟨(Nat.le_of_ble_eq_true rfl), (Nat.le_of_ble_eq_true rfl)⟩) (fun r_2 u H locs hw hP hD hK hS => ?_)
  have hw : r_2 = wi i 0 (-1) := hw
  subst hw
  have hP : va_P D vwCl [(h0, .inr (7, [.ref tp, .ref mka, .int 0, .ref bx, .ref rt]))] H := hP
  have hD : va_D A [(h0, .inr (7, [.ref tp, .ref mka, .int 0, .ref bx, .ref rt]))] := hD
  have hK : va_K D vwCl [] s := hK
  refine lv_if_eq (tgt := 23) hx hb dX8_makeAt_11 (by decide) (fun _ => ?_) (fun c_3 => absurd (wi_0m _) c_3)
  refine lv_null hx hb dX8_makeAt_23 ?_
  exact ret_q (none) rfl hx hb hr hlocks (Or.inl ⟨_, rfl⟩) (u := ()) rfl (hP.sub [0] rfl) (hK.sub [] rfl) (hD.sub [0] (by decide) rfl) hS (Nat.le_of_ble_eq_true rfl) (Nat.le_of_ble_eq_true rfl) dX8_makeAt_24
set_option maxHeartbeats 4000000 in
set_option maxRecDepth 100000 in
theorem c_X8_set (l : Launch) (D : va_G) (sz : Nat) (h0 : Nat) (tp : Nat) (mka : Nat) (bx : Nat) (rt : Nat) (i : Int32) (w : Int32) (v : Int32)  : Ci l yX8_set wsX8_set ({ frames := 2, cells := 0, slots := 0, locals := 43 } : Room) D [.ref h0, .int i, .int w, .int v] [(h0, .inr (7, [.ref tp, .ref mka, .int 0, .ref bx, .ref rt]))] [] sz (fun (r : Int32) => fun (_ : Unit) => r = 0) (fun (_ : Unit) => []) (fun (_ : Unit) => []) := by
  refine ct_i (cc := cX8_set) (maxL := 5) (ret := (some .boolean)) (by decide) rfl (Nat.le_of_ble_eq_true rfl) ?_
  intro p e s m below meth c A ls H hx hb hr hts hown hml hlocks hin hA hS hP hK hD hNW hl hAe hsz
  have hl : lv_has ls 5 [(0, .ref h0), (1, .int i), (2, .int w), (3, .int v)] := hl
  refine lv_aload_n hx hb dX8_set_0 rfl (lv_at hl 0 rfl) ?_
  refine lv_iload_n hx hb dX8_set_1 rfl (lv_at hl 1 rfl) ?_
  refine go_q (wr := []) (tysr := []) hP hD hS hA hK [0] [] [] rfl rfl (by decide) (by decide) rfl (va_runV (As := [.int i]) (rest := []) ⟨hx, hb, hml, hown, hts⟩ (c_X8_makeAt l D H.size h0 tp mka bx rt i ) (cwV 1 hts gX8_set_X8_makeAt rfl rfl rfl (by decide +kernel) ⟨Nat.le_of_ble_eq_true rfl, Nat.le_of_ble_eq_true rfl⟩) (st_preV (ci := 7) (q0 := 0) hP hD hK hNW [0] [] rfl rfl (by decide) rfl rfl rfl rfl) rfl rfl hl.1 rfl (lv_room (Nat.le_of_ble_eq_true rfl)) dX8_set_2 ⟨(Nat.le_of_ble_eq_true rfl), (Nat.le_of_ble_eq_true rfl)⟩) (fun r_1 u H locs hw hP hD hK hS => ?_)
  have hw : r_1 = none := hw
  subst hw
  have hP : va_P D vwCl [(h0, .inr (7, [.ref tp, .ref mka, .int 0, .ref bx, .ref rt]))] H := hP
  have hD : va_D A [(h0, .inr (7, [.ref tp, .ref mka, .int 0, .ref bx, .ref rt]))] := hD
  have hK : va_K D vwCl [] s := hK
  refine lv_astoreN (lv' := [(4, .null), (0, .ref h0), (1, .int i), (2, .int w), (3, .int v)]) hx hb dX8_set_5 hl (by decide) rfl (fun ls hl => ?_)
  refine lv_aloadN hx hb dX8_set_7 (lv_at hl 0 rfl) ?_
  refine lv_ifnonnullN hx hb dX8_set_9 ?_
  refine lv_iconst (v := 0) hx hb dX8_set_12 (by decide) ?_
  exact ret_i hx hb hr hlocks rfl (u := ()) rfl (hP.sub [] rfl) (hK.sub [] rfl) (hD.sub [] (by decide) rfl) hS (Nat.le_of_ble_eq_true rfl) (Nat.le_of_ble_eq_true rfl) dX8_set_13
set_option maxHeartbeats 4000000 in
set_option maxRecDepth 100000 in
theorem c_X8_send (l : Launch) (D : va_G) (sz : Nat) (h0 : Nat) (tp : Nat) (mka : Nat) (bx : Nat) (rt : Nat) (i : Int32) (w : Int32)  : Ci l yX8_send wsX8_send ({ frames := 2, cells := 0, slots := 0, locals := 43 } : Room) D [.ref h0, .int i, .int w] [(h0, .inr (7, [.ref tp, .ref mka, .int 0, .ref bx, .ref rt]))] [] sz (fun (r : Int32) => fun (_ : Unit) => r = -1) (fun (_ : Unit) => []) (fun (_ : Unit) => []) := by
  refine ct_i (cc := cX8_send) (maxL := 4) (ret := (some .int)) (by decide) rfl (Nat.le_of_ble_eq_true rfl) ?_
  intro p e s m below meth c A ls H hx hb hr hts hown hml hlocks hin hA hS hP hK hD hNW hl hAe hsz
  have hl : lv_has ls 4 [(0, .ref h0), (1, .int i), (2, .int w)] := hl
  refine lv_aload_n hx hb dX8_send_0 rfl (lv_at hl 0 rfl) ?_
  refine lv_iload_n hx hb dX8_send_1 rfl (lv_at hl 1 rfl) ?_
  refine go_q (wr := []) (tysr := []) hP hD hS hA hK [0] [] [] rfl rfl (by decide) (by decide) rfl (va_runV (As := [.int i]) (rest := []) ⟨hx, hb, hml, hown, hts⟩ (c_X8_makeAt l D H.size h0 tp mka bx rt i ) (cwV 1 hts gX8_send_X8_makeAt rfl rfl rfl (by decide +kernel) ⟨Nat.le_of_ble_eq_true rfl, Nat.le_of_ble_eq_true rfl⟩) (st_preV (ci := 7) (q0 := 0) hP hD hK hNW [0] [] rfl rfl (by decide) rfl rfl rfl rfl) rfl rfl hl.1 rfl (lv_room (Nat.le_of_ble_eq_true rfl)) dX8_send_2 ⟨(Nat.le_of_ble_eq_true rfl), (Nat.le_of_ble_eq_true rfl)⟩) (fun r_1 u H locs hw hP hD hK hS => ?_)
  have hw : r_1 = none := hw
  subst hw
  have hP : va_P D vwCl [(h0, .inr (7, [.ref tp, .ref mka, .int 0, .ref bx, .ref rt]))] H := hP
  have hD : va_D A [(h0, .inr (7, [.ref tp, .ref mka, .int 0, .ref bx, .ref rt]))] := hD
  have hK : va_K D vwCl [] s := hK
  refine lv_astore_nN (lv' := [(3, .null), (0, .ref h0), (1, .int i), (2, .int w)]) hx hb dX8_send_5 rfl hl (by decide) rfl (fun ls hl => ?_)
  refine lv_aload_nN hx hb dX8_send_6 rfl (lv_at hl 0 rfl) ?_
  refine lv_ifnullN (tgt := 25) hx hb dX8_send_7 (by decide) ?_
  refine lv_iconst (v := (-1)) hx hb dX8_send_25 (by decide) ?_
  exact ret_i hx hb hr hlocks rfl (u := ()) rfl (hP.sub [] rfl) (hK.sub [] rfl) (hD.sub [] (by decide) rfl) hS (Nat.le_of_ble_eq_true rfl) (Nat.le_of_ble_eq_true rfl) dX8_send_26
set_option maxHeartbeats 4000000 in
set_option maxRecDepth 100000 in
theorem c_X8_read (l : Launch) (D : va_G) (sz : Nat) (h0 : Nat) (tp : Nat) (mka : Nat) (bx : Nat) (rt : Nat) (i : Int32)  : Ci l yX8_read wsX8_read ({ frames := 2, cells := 0, slots := 0, locals := 43 } : Room) D [.ref h0, .int i] [(h0, .inr (7, [.ref tp, .ref mka, .int 0, .ref bx, .ref rt]))] [] sz (fun (r : Int32) => fun (_ : Unit) => r = -1) (fun (_ : Unit) => []) (fun (_ : Unit) => []) := by
  refine ct_i (cc := cX8_read) (maxL := 3) (ret := (some .int)) (by decide) rfl (Nat.le_of_ble_eq_true rfl) ?_
  intro p e s m below meth c A ls H hx hb hr hts hown hml hlocks hin hA hS hP hK hD hNW hl hAe hsz
  have hl : lv_has ls 3 [(0, .ref h0), (1, .int i)] := hl
  refine lv_aload_n hx hb dX8_read_0 rfl (lv_at hl 0 rfl) ?_
  refine lv_iload_n hx hb dX8_read_1 rfl (lv_at hl 1 rfl) ?_
  refine go_q (wr := []) (tysr := []) hP hD hS hA hK [0] [] [] rfl rfl (by decide) (by decide) rfl (va_runV (As := [.int i]) (rest := []) ⟨hx, hb, hml, hown, hts⟩ (c_X8_makeAt l D H.size h0 tp mka bx rt i ) (cwV 1 hts gX8_read_X8_makeAt rfl rfl rfl (by decide +kernel) ⟨Nat.le_of_ble_eq_true rfl, Nat.le_of_ble_eq_true rfl⟩) (st_preV (ci := 7) (q0 := 0) hP hD hK hNW [0] [] rfl rfl (by decide) rfl rfl rfl rfl) rfl rfl hl.1 rfl (lv_room (Nat.le_of_ble_eq_true rfl)) dX8_read_2 ⟨(Nat.le_of_ble_eq_true rfl), (Nat.le_of_ble_eq_true rfl)⟩) (fun r_1 u H locs hw hP hD hK hS => ?_)
  have hw : r_1 = none := hw
  subst hw
  have hP : va_P D vwCl [(h0, .inr (7, [.ref tp, .ref mka, .int 0, .ref bx, .ref rt]))] H := hP
  have hD : va_D A [(h0, .inr (7, [.ref tp, .ref mka, .int 0, .ref bx, .ref rt]))] := hD
  have hK : va_K D vwCl [] s := hK
  refine lv_astore_nN (lv' := [(2, .null), (0, .ref h0), (1, .int i)]) hx hb dX8_read_5 rfl hl (by decide) rfl (fun ls hl => ?_)
  refine lv_aload_nN hx hb dX8_read_6 rfl (lv_at hl 0 rfl) ?_
  refine lv_ifnonnullN hx hb dX8_read_7 ?_
  refine lv_iconst (v := (-1)) hx hb dX8_read_10 (by decide) ?_
  refine lv_goto (tgt := 22) hx hb dX8_read_11 (by decide) ?_
  exact ret_i hx hb hr hlocks rfl (u := ()) rfl (hP.sub [] rfl) (hK.sub [] rfl) (hD.sub [] (by decide) rfl) hS (Nat.le_of_ble_eq_true rfl) (Nat.le_of_ble_eq_true rfl) dX8_read_22
theorem hiX8_which_X8 : ∀ w ∈ wsX80, w ∈ wsX8_which := mem_pl [72, 73, 74, 75, 76] rfl
set_option maxHeartbeats 4000000 in
set_option maxRecDepth 100000 in
theorem c_X8_which (l : Launch) (D : va_G) (sz : Nat) (h0 : Nat) (tp : Nat) (mka : Nat) (bx : Nat) (rt : Nat)  : Ci l yX8_which wsX8_which ({ frames := 0, cells := 0, slots := 0, locals := 0 } : Room) D [.ref h0] [(h0, .inr (7, [.ref tp, .ref mka, .int 0, .ref bx, .ref rt]))] [] sz (fun (r : Int32) => fun (_ : Unit) => r = 0) (fun (_ : Unit) => []) (fun (_ : Unit) => []) := by
  refine ct_i (cc := cX8_which) (maxL := 3) (ret := (some .int)) (by decide) rfl (Nat.le_of_ble_eq_true rfl) ?_
  intro p e s m below meth c A ls H hx hb hr hts hown hml hlocks hin hA hS hP hK hD hNW hl hAe hsz
  have hl : lv_has ls 3 [(0, .ref h0)] := hl
  refine lv_iconst (v := 0) hx hb dX8_which_0 (by decide) ?_
  refine lv_istore_n (lv' := [(1, .int 0), (0, .ref h0)]) hx hb dX8_which_1 rfl hl (by decide) rfl (fun ls hl => ?_)
  refine lv_iconst (v := 0) hx hb dX8_which_2 (by decide) ?_
  refine lv_istore_n (lv' := [(2, .int 0), (1, .int 0), (0, .ref h0)]) hx hb dX8_which_3 rfl hl (by decide) rfl (fun ls hl => ?_)
  refine lv_iload_n hx hb dX8_which_4 rfl (lv_at hl 0 rfl) ?_
  refine lv_aload_n hx hb dX8_which_5 rfl (lv_at hl 2 rfl) ?_
  refine va_get (D := D) (ci := 7) (v := .int 0) (C := RX8) (T := TX8) (N := 5) hx hb hts hiX8_which_X8 hown hK hP 0 rfl rfl 2 (by decide) (hts (.fieldLink RX8 22 "OneHandset" "makeCount" "I") (List.mem_of_getElem? (i := 1) rfl)) (fun _ h9 => h9) rfl dX8_which_6 ?_
  refine lv_icmp_ge (tgt := 32) hx hb dX8_which_9 (by decide) (fun _ => ?_) (fun c_1 => absurd (by decide) c_1)
  refine lv_iload_n hx hb dX8_which_32 rfl (lv_at hl 1 rfl) ?_
  exact ret_i hx hb hr hlocks rfl (u := ()) rfl (hP.sub [] rfl) (hK.sub [] rfl) (hD.sub [] (by decide) rfl) hS (Nat.le_of_ble_eq_true rfl) (Nat.le_of_ble_eq_true rfl) dX8_which_33
set_option maxHeartbeats 4000000 in
set_option maxRecDepth 100000 in
theorem c_X8_learn (l : Launch) (D : va_G) (sz : Nat) (h0 : Nat) (tp : Nat) (mka : Nat) (bx : Nat) (rt : Nat) (i : Int32) (w : Int32)  : Ci l yX8_learn wsX8_learn ({ frames := 2, cells := 0, slots := 0, locals := 43 } : Room) D [.ref h0, .int i, .int w] [(h0, .inr (7, [.ref tp, .ref mka, .int 0, .ref bx, .ref rt]))] [] sz (fun (r : Int32) => fun (_ : Unit) => r = -1) (fun (_ : Unit) => []) (fun (_ : Unit) => []) := by
  refine ct_i (cc := cX8_learn) (maxL := 5) (ret := (some .int)) (by decide) rfl (Nat.le_of_ble_eq_true rfl) ?_
  intro p e s m below meth c A ls H hx hb hr hts hown hml hlocks hin hA hS hP hK hD hNW hl hAe hsz
  have hl : lv_has ls 5 [(0, .ref h0), (1, .int i), (2, .int w)] := hl
  refine lv_aload_n hx hb dX8_learn_0 rfl (lv_at hl 0 rfl) ?_
  refine lv_iload_n hx hb dX8_learn_1 rfl (lv_at hl 1 rfl) ?_
  refine go_q (wr := []) (tysr := []) hP hD hS hA hK [0] [] [] rfl rfl (by decide) (by decide) rfl (va_runV (As := [.int i]) (rest := []) ⟨hx, hb, hml, hown, hts⟩ (c_X8_makeAt l D H.size h0 tp mka bx rt i ) (cwV 1 hts gX8_learn_X8_makeAt rfl rfl rfl (by decide +kernel) ⟨Nat.le_of_ble_eq_true rfl, Nat.le_of_ble_eq_true rfl⟩) (st_preV (ci := 7) (q0 := 0) hP hD hK hNW [0] [] rfl rfl (by decide) rfl rfl rfl rfl) rfl rfl hl.1 rfl (lv_room (Nat.le_of_ble_eq_true rfl)) dX8_learn_2 ⟨(Nat.le_of_ble_eq_true rfl), (Nat.le_of_ble_eq_true rfl)⟩) (fun r_1 u H locs hw hP hD hK hS => ?_)
  have hw : r_1 = none := hw
  subst hw
  have hP : va_P D vwCl [(h0, .inr (7, [.ref tp, .ref mka, .int 0, .ref bx, .ref rt]))] H := hP
  have hD : va_D A [(h0, .inr (7, [.ref tp, .ref mka, .int 0, .ref bx, .ref rt]))] := hD
  have hK : va_K D vwCl [] s := hK
  refine lv_astore_nN (lv' := [(3, .null), (0, .ref h0), (1, .int i), (2, .int w)]) hx hb dX8_learn_5 rfl hl (by decide) rfl (fun ls hl => ?_)
  refine lv_aload_nN hx hb dX8_learn_6 rfl (lv_at hl 0 rfl) ?_
  refine lv_ifnonnullN hx hb dX8_learn_7 ?_
  refine lv_iconst (v := (-1)) hx hb dX8_learn_10 (by decide) ?_
  exact ret_i hx hb hr hlocks rfl (u := ()) rfl (hP.sub [] rfl) (hK.sub [] rfl) (hD.sub [] (by decide) rfl) hS (Nat.le_of_ble_eq_true rfl) (Nat.le_of_ble_eq_true rfl) dX8_learn_11
set_option maxHeartbeats 4000000 in
set_option maxRecDepth 100000 in
theorem c_X8_forget (l : Launch) (D : va_G) (sz : Nat) (h0 : Nat) (tp : Nat) (mka : Nat) (bx : Nat) (rt : Nat) (i : Int32) (w : Int32)  : Ci l yX8_forget wsX8_forget ({ frames := 2, cells := 0, slots := 0, locals := 43 } : Room) D [.ref h0, .int i, .int w] [(h0, .inr (7, [.ref tp, .ref mka, .int 0, .ref bx, .ref rt]))] [] sz (fun (r : Int32) => fun (_ : Unit) => r = 0) (fun (_ : Unit) => []) (fun (_ : Unit) => []) := by
  refine ct_i (cc := cX8_forget) (maxL := 4) (ret := (some .boolean)) (by decide) rfl (Nat.le_of_ble_eq_true rfl) ?_
  intro p e s m below meth c A ls H hx hb hr hts hown hml hlocks hin hA hS hP hK hD hNW hl hAe hsz
  have hl : lv_has ls 4 [(0, .ref h0), (1, .int i), (2, .int w)] := hl
  refine lv_aload_n hx hb dX8_forget_0 rfl (lv_at hl 0 rfl) ?_
  refine lv_iload_n hx hb dX8_forget_1 rfl (lv_at hl 1 rfl) ?_
  refine go_q (wr := []) (tysr := []) hP hD hS hA hK [0] [] [] rfl rfl (by decide) (by decide) rfl (va_runV (As := [.int i]) (rest := []) ⟨hx, hb, hml, hown, hts⟩ (c_X8_makeAt l D H.size h0 tp mka bx rt i ) (cwV 1 hts gX8_forget_X8_makeAt rfl rfl rfl (by decide +kernel) ⟨Nat.le_of_ble_eq_true rfl, Nat.le_of_ble_eq_true rfl⟩) (st_preV (ci := 7) (q0 := 0) hP hD hK hNW [0] [] rfl rfl (by decide) rfl rfl rfl rfl) rfl rfl hl.1 rfl (lv_room (Nat.le_of_ble_eq_true rfl)) dX8_forget_2 ⟨(Nat.le_of_ble_eq_true rfl), (Nat.le_of_ble_eq_true rfl)⟩) (fun r_1 u H locs hw hP hD hK hS => ?_)
  have hw : r_1 = none := hw
  subst hw
  have hP : va_P D vwCl [(h0, .inr (7, [.ref tp, .ref mka, .int 0, .ref bx, .ref rt]))] H := hP
  have hD : va_D A [(h0, .inr (7, [.ref tp, .ref mka, .int 0, .ref bx, .ref rt]))] := hD
  have hK : va_K D vwCl [] s := hK
  refine lv_astore_nN (lv' := [(3, .null), (0, .ref h0), (1, .int i), (2, .int w)]) hx hb dX8_forget_5 rfl hl (by decide) rfl (fun ls hl => ?_)
  refine lv_aload_nN hx hb dX8_forget_6 rfl (lv_at hl 0 rfl) ?_
  refine lv_ifnullN (tgt := 25) hx hb dX8_forget_7 (by decide) ?_
  refine lv_iconst (v := 0) hx hb dX8_forget_25 (by decide) ?_
  exact ret_i hx hb hr hlocks rfl (u := ()) rfl (hP.sub [] rfl) (hK.sub [] rfl) (hD.sub [] (by decide) rfl) hS (Nat.le_of_ble_eq_true rfl) (Nat.le_of_ble_eq_true rfl) dX8_forget_26
set_option maxHeartbeats 4000000 in
set_option maxRecDepth 100000 in
theorem c_X8_key (l : Launch) (D : va_G) (sz : Nat) (h0 : Nat) (tp : Nat) (mka : Nat) (bx : Nat) (rt : Nat) (i : Int32) (w : Int32)  : Ci l yX8_key wsX8_key ({ frames := 2, cells := 0, slots := 0, locals := 43 } : Room) D [.ref h0, .int i, .int w] [(h0, .inr (7, [.ref tp, .ref mka, .int 0, .ref bx, .ref rt]))] [] sz (fun (r : Int32) => fun (_ : Unit) => r = -1) (fun (_ : Unit) => []) (fun (_ : Unit) => []) := by
  refine ct_i (cc := cX8_key) (maxL := 4) (ret := (some .int)) (by decide) rfl (Nat.le_of_ble_eq_true rfl) ?_
  intro p e s m below meth c A ls H hx hb hr hts hown hml hlocks hin hA hS hP hK hD hNW hl hAe hsz
  have hl : lv_has ls 4 [(0, .ref h0), (1, .int i), (2, .int w)] := hl
  refine lv_aload_n hx hb dX8_key_0 rfl (lv_at hl 0 rfl) ?_
  refine lv_iload_n hx hb dX8_key_1 rfl (lv_at hl 1 rfl) ?_
  refine go_q (wr := []) (tysr := []) hP hD hS hA hK [0] [] [] rfl rfl (by decide) (by decide) rfl (va_runV (As := [.int i]) (rest := []) ⟨hx, hb, hml, hown, hts⟩ (c_X8_makeAt l D H.size h0 tp mka bx rt i ) (cwV 1 hts gX8_key_X8_makeAt rfl rfl rfl (by decide +kernel) ⟨Nat.le_of_ble_eq_true rfl, Nat.le_of_ble_eq_true rfl⟩) (st_preV (ci := 7) (q0 := 0) hP hD hK hNW [0] [] rfl rfl (by decide) rfl rfl rfl rfl) rfl rfl hl.1 rfl (lv_room (Nat.le_of_ble_eq_true rfl)) dX8_key_2 ⟨(Nat.le_of_ble_eq_true rfl), (Nat.le_of_ble_eq_true rfl)⟩) (fun r_1 u H locs hw hP hD hK hS => ?_)
  have hw : r_1 = none := hw
  subst hw
  have hP : va_P D vwCl [(h0, .inr (7, [.ref tp, .ref mka, .int 0, .ref bx, .ref rt]))] H := hP
  have hD : va_D A [(h0, .inr (7, [.ref tp, .ref mka, .int 0, .ref bx, .ref rt]))] := hD
  have hK : va_K D vwCl [] s := hK
  refine lv_astore_nN (lv' := [(3, .null), (0, .ref h0), (1, .int i), (2, .int w)]) hx hb dX8_key_5 rfl hl (by decide) rfl (fun ls hl => ?_)
  refine lv_aload_nN hx hb dX8_key_6 rfl (lv_at hl 0 rfl) ?_
  refine lv_ifnonnullN hx hb dX8_key_7 ?_
  refine lv_iconst (v := (-1)) hx hb dX8_key_10 (by decide) ?_
  refine lv_goto (tgt := 22) hx hb dX8_key_11 (by decide) ?_
  exact ret_i hx hb hr hlocks rfl (u := ()) rfl (hP.sub [] rfl) (hK.sub [] rfl) (hD.sub [] (by decide) rfl) hS (Nat.le_of_ble_eq_true rfl) (Nat.le_of_ble_eq_true rfl) dX8_key_22
set_option maxHeartbeats 4000000 in
set_option maxRecDepth 100000 in
theorem c_X8_press (l : Launch) (D : va_G) (sz : Nat) (h0 : Nat) (tp : Nat) (mka : Nat) (bx : Nat) (rt : Nat) (i : Int32) (w : Int32)  : Ci l yX8_press wsX8_press ({ frames := 2, cells := 0, slots := 0, locals := 43 } : Room) D [.ref h0, .int i, .int w] [(h0, .inr (7, [.ref tp, .ref mka, .int 0, .ref bx, .ref rt]))] [] sz (fun (r : Int32) => fun (_ : Unit) => r = -1) (fun (_ : Unit) => []) (fun (_ : Unit) => []) := by
  refine ct_i (cc := cX8_press) (maxL := 4) (ret := (some .int)) (by decide) rfl (Nat.le_of_ble_eq_true rfl) ?_
  intro p e s m below meth c A ls H hx hb hr hts hown hml hlocks hin hA hS hP hK hD hNW hl hAe hsz
  have hl : lv_has ls 4 [(0, .ref h0), (1, .int i), (2, .int w)] := hl
  refine lv_aload_n hx hb dX8_press_0 rfl (lv_at hl 0 rfl) ?_
  refine lv_iload_n hx hb dX8_press_1 rfl (lv_at hl 1 rfl) ?_
  refine go_q (wr := []) (tysr := []) hP hD hS hA hK [0] [] [] rfl rfl (by decide) (by decide) rfl (va_runV (As := [.int i]) (rest := []) ⟨hx, hb, hml, hown, hts⟩ (c_X8_makeAt l D H.size h0 tp mka bx rt i ) (cwV 1 hts gX8_press_X8_makeAt rfl rfl rfl (by decide +kernel) ⟨Nat.le_of_ble_eq_true rfl, Nat.le_of_ble_eq_true rfl⟩) (st_preV (ci := 7) (q0 := 0) hP hD hK hNW [0] [] rfl rfl (by decide) rfl rfl rfl rfl) rfl rfl hl.1 rfl (lv_room (Nat.le_of_ble_eq_true rfl)) dX8_press_2 ⟨(Nat.le_of_ble_eq_true rfl), (Nat.le_of_ble_eq_true rfl)⟩) (fun r_1 u H locs hw hP hD hK hS => ?_)
  have hw : r_1 = none := hw
  subst hw
  have hP : va_P D vwCl [(h0, .inr (7, [.ref tp, .ref mka, .int 0, .ref bx, .ref rt]))] H := hP
  have hD : va_D A [(h0, .inr (7, [.ref tp, .ref mka, .int 0, .ref bx, .ref rt]))] := hD
  have hK : va_K D vwCl [] s := hK
  refine lv_astore_nN (lv' := [(3, .null), (0, .ref h0), (1, .int i), (2, .int w)]) hx hb dX8_press_5 rfl hl (by decide) rfl (fun ls hl => ?_)
  refine lv_aload_nN hx hb dX8_press_6 rfl (lv_at hl 0 rfl) ?_
  refine lv_ifnullN (tgt := 22) hx hb dX8_press_7 (by decide) ?_
  refine lv_iconst (v := (-1)) hx hb dX8_press_22 (by decide) ?_
  exact ret_i hx hb hr hlocks rfl (u := ()) rfl (hP.sub [] rfl) (hK.sub [] rfl) (hD.sub [] (by decide) rfl) hS (Nat.le_of_ble_eq_true rfl) (Nat.le_of_ble_eq_true rfl) dX8_press_23
set_option maxHeartbeats 4000000 in
set_option maxRecDepth 100000 in
theorem c_X8_of (l : Launch) (D : va_G) (sz : Nat) (h0 : Nat) (tp : Nat) (mka : Nat) (bx : Nat) (rt : Nat) (i : Int32) (w : Int32)  : Ci l yX8_of wsX8_of ({ frames := 2, cells := 0, slots := 0, locals := 43 } : Room) D [.ref h0, .int i, .int w] [(h0, .inr (7, [.ref tp, .ref mka, .int 0, .ref bx, .ref rt]))] [] sz (fun (r : Int32) => fun (_ : Unit) => r = -1) (fun (_ : Unit) => []) (fun (_ : Unit) => []) := by
  refine ct_i (cc := cX8_of) (maxL := 4) (ret := (some .int)) (by decide) rfl (Nat.le_of_ble_eq_true rfl) ?_
  intro p e s m below meth c A ls H hx hb hr hts hown hml hlocks hin hA hS hP hK hD hNW hl hAe hsz
  have hl : lv_has ls 4 [(0, .ref h0), (1, .int i), (2, .int w)] := hl
  refine lv_aload_n hx hb dX8_of_0 rfl (lv_at hl 0 rfl) ?_
  refine lv_iload_n hx hb dX8_of_1 rfl (lv_at hl 1 rfl) ?_
  refine go_q (wr := []) (tysr := []) hP hD hS hA hK [0] [] [] rfl rfl (by decide) (by decide) rfl (va_runV (As := [.int i]) (rest := []) ⟨hx, hb, hml, hown, hts⟩ (c_X8_makeAt l D H.size h0 tp mka bx rt i ) (cwV 1 hts gX8_of_X8_makeAt rfl rfl rfl (by decide +kernel) ⟨Nat.le_of_ble_eq_true rfl, Nat.le_of_ble_eq_true rfl⟩) (st_preV (ci := 7) (q0 := 0) hP hD hK hNW [0] [] rfl rfl (by decide) rfl rfl rfl rfl) rfl rfl hl.1 rfl (lv_room (Nat.le_of_ble_eq_true rfl)) dX8_of_2 ⟨(Nat.le_of_ble_eq_true rfl), (Nat.le_of_ble_eq_true rfl)⟩) (fun r_1 u H locs hw hP hD hK hS => ?_)
  have hw : r_1 = none := hw
  subst hw
  have hP : va_P D vwCl [(h0, .inr (7, [.ref tp, .ref mka, .int 0, .ref bx, .ref rt]))] H := hP
  have hD : va_D A [(h0, .inr (7, [.ref tp, .ref mka, .int 0, .ref bx, .ref rt]))] := hD
  have hK : va_K D vwCl [] s := hK
  refine lv_astore_nN (lv' := [(3, .null), (0, .ref h0), (1, .int i), (2, .int w)]) hx hb dX8_of_5 rfl hl (by decide) rfl (fun ls hl => ?_)
  refine lv_aload_nN hx hb dX8_of_6 rfl (lv_at hl 0 rfl) ?_
  refine lv_ifnonnullN hx hb dX8_of_7 ?_
  refine lv_iconst (v := (-1)) hx hb dX8_of_10 (by decide) ?_
  exact ret_i hx hb hr hlocks rfl (u := ()) rfl (hP.sub [] rfl) (hK.sub [] rfl) (hD.sub [] (by decide) rfl) hS (Nat.le_of_ble_eq_true rfl) (Nat.le_of_ble_eq_true rfl) dX8_of_11
set_option maxHeartbeats 4000000 in
set_option maxRecDepth 100000 in
theorem c_X8_check (l : Launch) (D : va_G) (sz : Nat) (h0 : Nat) (tp : Nat) (mka : Nat) (bx : Nat) (rt : Nat) (i : Int32) (w : Int32)  : Ci l yX8_check wsX8_check ({ frames := 2, cells := 0, slots := 0, locals := 43 } : Room) D [.ref h0, .int i, .int w] [(h0, .inr (7, [.ref tp, .ref mka, .int 0, .ref bx, .ref rt]))] [] sz (fun (r : Int32) => fun (_ : Unit) => r = -1) (fun (_ : Unit) => []) (fun (_ : Unit) => []) := by
  refine ct_i (cc := cX8_check) (maxL := 4) (ret := (some .int)) (by decide) rfl (Nat.le_of_ble_eq_true rfl) ?_
  intro p e s m below meth c A ls H hx hb hr hts hown hml hlocks hin hA hS hP hK hD hNW hl hAe hsz
  have hl : lv_has ls 4 [(0, .ref h0), (1, .int i), (2, .int w)] := hl
  refine lv_aload_n hx hb dX8_check_0 rfl (lv_at hl 0 rfl) ?_
  refine lv_iload_n hx hb dX8_check_1 rfl (lv_at hl 1 rfl) ?_
  refine go_q (wr := []) (tysr := []) hP hD hS hA hK [0] [] [] rfl rfl (by decide) (by decide) rfl (va_runV (As := [.int i]) (rest := []) ⟨hx, hb, hml, hown, hts⟩ (c_X8_makeAt l D H.size h0 tp mka bx rt i ) (cwV 1 hts gX8_check_X8_makeAt rfl rfl rfl (by decide +kernel) ⟨Nat.le_of_ble_eq_true rfl, Nat.le_of_ble_eq_true rfl⟩) (st_preV (ci := 7) (q0 := 0) hP hD hK hNW [0] [] rfl rfl (by decide) rfl rfl rfl rfl) rfl rfl hl.1 rfl (lv_room (Nat.le_of_ble_eq_true rfl)) dX8_check_2 ⟨(Nat.le_of_ble_eq_true rfl), (Nat.le_of_ble_eq_true rfl)⟩) (fun r_1 u H locs hw hP hD hK hS => ?_)
  have hw : r_1 = none := hw
  subst hw
  have hP : va_P D vwCl [(h0, .inr (7, [.ref tp, .ref mka, .int 0, .ref bx, .ref rt]))] H := hP
  have hD : va_D A [(h0, .inr (7, [.ref tp, .ref mka, .int 0, .ref bx, .ref rt]))] := hD
  have hK : va_K D vwCl [] s := hK
  refine lv_astore_nN (lv' := [(3, .null), (0, .ref h0), (1, .int i), (2, .int w)]) hx hb dX8_check_5 rfl hl (by decide) rfl (fun ls hl => ?_)
  refine lv_aload_nN hx hb dX8_check_6 rfl (lv_at hl 0 rfl) ?_
  refine lv_ifnonnullN hx hb dX8_check_7 ?_
  refine lv_iconst (v := (-1)) hx hb dX8_check_10 (by decide) ?_
  refine lv_goto (tgt := 22) hx hb dX8_check_11 (by decide) ?_
  exact ret_i hx hb hr hlocks rfl (u := ()) rfl (hP.sub [] rfl) (hK.sub [] rfl) (hD.sub [] (by decide) rfl) hS (Nat.le_of_ble_eq_true rfl) (Nat.le_of_ble_eq_true rfl) dX8_check_22
set_option maxHeartbeats 4000000 in
set_option maxRecDepth 100000 in
theorem c_X8_many (l : Launch) (D : va_G) (sz : Nat) (h0 : Nat) (tp : Nat) (mka : Nat) (bx : Nat) (rt : Nat) (i : Int32)  : Ci l yX8_many wsX8_many ({ frames := 2, cells := 0, slots := 0, locals := 43 } : Room) D [.ref h0, .int i] [(h0, .inr (7, [.ref tp, .ref mka, .int 0, .ref bx, .ref rt]))] [] sz (fun (r : Int32) => fun (_ : Unit) => r = -1) (fun (_ : Unit) => []) (fun (_ : Unit) => []) := by
  refine ct_i (cc := cX8_many) (maxL := 3) (ret := (some .int)) (by decide) rfl (Nat.le_of_ble_eq_true rfl) ?_
  intro p e s m below meth c A ls H hx hb hr hts hown hml hlocks hin hA hS hP hK hD hNW hl hAe hsz
  have hl : lv_has ls 3 [(0, .ref h0), (1, .int i)] := hl
  refine lv_aload_n hx hb dX8_many_0 rfl (lv_at hl 0 rfl) ?_
  refine lv_iload_n hx hb dX8_many_1 rfl (lv_at hl 1 rfl) ?_
  refine go_q (wr := []) (tysr := []) hP hD hS hA hK [0] [] [] rfl rfl (by decide) (by decide) rfl (va_runV (As := [.int i]) (rest := []) ⟨hx, hb, hml, hown, hts⟩ (c_X8_makeAt l D H.size h0 tp mka bx rt i ) (cwV 1 hts gX8_many_X8_makeAt rfl rfl rfl (by decide +kernel) ⟨Nat.le_of_ble_eq_true rfl, Nat.le_of_ble_eq_true rfl⟩) (st_preV (ci := 7) (q0 := 0) hP hD hK hNW [0] [] rfl rfl (by decide) rfl rfl rfl rfl) rfl rfl hl.1 rfl (lv_room (Nat.le_of_ble_eq_true rfl)) dX8_many_2 ⟨(Nat.le_of_ble_eq_true rfl), (Nat.le_of_ble_eq_true rfl)⟩) (fun r_1 u H locs hw hP hD hK hS => ?_)
  have hw : r_1 = none := hw
  subst hw
  have hP : va_P D vwCl [(h0, .inr (7, [.ref tp, .ref mka, .int 0, .ref bx, .ref rt]))] H := hP
  have hD : va_D A [(h0, .inr (7, [.ref tp, .ref mka, .int 0, .ref bx, .ref rt]))] := hD
  have hK : va_K D vwCl [] s := hK
  refine lv_astore_nN (lv' := [(2, .null), (0, .ref h0), (1, .int i)]) hx hb dX8_many_5 rfl hl (by decide) rfl (fun ls hl => ?_)
  refine lv_aload_nN hx hb dX8_many_6 rfl (lv_at hl 0 rfl) ?_
  refine lv_ifnullN (tgt := 20) hx hb dX8_many_7 (by decide) ?_
  refine lv_iconst (v := (-1)) hx hb dX8_many_20 (by decide) ?_
  refine lv_goto (tgt := 31) hx hb dX8_many_21 (by decide) ?_
  exact ret_i hx hb hr hlocks rfl (u := ()) rfl (hP.sub [] rfl) (hK.sub [] rfl) (hD.sub [] (by decide) rfl) hS (Nat.le_of_ble_eq_true rfl) (Nat.le_of_ble_eq_true rfl) dX8_many_31
set_option maxHeartbeats 4000000 in
set_option maxRecDepth 100000 in
theorem c_X8_foreseen (l : Launch) (D : va_G) (sz : Nat) (h0 : Nat) (tp : Nat) (mka : Nat) (bx : Nat) (rt : Nat) (i : Int32) (w : Int32)  : Ci l yX8_foreseen wsX8_foreseen ({ frames := 2, cells := 0, slots := 0, locals := 43 } : Room) D [.ref h0, .int i, .int w] [(h0, .inr (7, [.ref tp, .ref mka, .int 0, .ref bx, .ref rt]))] [] sz (fun (r : Int32) => fun (_ : Unit) => r = -1) (fun (_ : Unit) => []) (fun (_ : Unit) => []) := by
  refine ct_i (cc := cX8_foreseen) (maxL := 4) (ret := (some .int)) (by decide) rfl (Nat.le_of_ble_eq_true rfl) ?_
  intro p e s m below meth c A ls H hx hb hr hts hown hml hlocks hin hA hS hP hK hD hNW hl hAe hsz
  have hl : lv_has ls 4 [(0, .ref h0), (1, .int i), (2, .int w)] := hl
  refine lv_aload_n hx hb dX8_foreseen_0 rfl (lv_at hl 0 rfl) ?_
  refine lv_iload_n hx hb dX8_foreseen_1 rfl (lv_at hl 1 rfl) ?_
  refine go_q (wr := []) (tysr := []) hP hD hS hA hK [0] [] [] rfl rfl (by decide) (by decide) rfl (va_runV (As := [.int i]) (rest := []) ⟨hx, hb, hml, hown, hts⟩ (c_X8_makeAt l D H.size h0 tp mka bx rt i ) (cwV 1 hts gX8_foreseen_X8_makeAt rfl rfl rfl (by decide +kernel) ⟨Nat.le_of_ble_eq_true rfl, Nat.le_of_ble_eq_true rfl⟩) (st_preV (ci := 7) (q0 := 0) hP hD hK hNW [0] [] rfl rfl (by decide) rfl rfl rfl rfl) rfl rfl hl.1 rfl (lv_room (Nat.le_of_ble_eq_true rfl)) dX8_foreseen_2 ⟨(Nat.le_of_ble_eq_true rfl), (Nat.le_of_ble_eq_true rfl)⟩) (fun r_1 u H locs hw hP hD hK hS => ?_)
  have hw : r_1 = none := hw
  subst hw
  have hP : va_P D vwCl [(h0, .inr (7, [.ref tp, .ref mka, .int 0, .ref bx, .ref rt]))] H := hP
  have hD : va_D A [(h0, .inr (7, [.ref tp, .ref mka, .int 0, .ref bx, .ref rt]))] := hD
  have hK : va_K D vwCl [] s := hK
  refine lv_astore_nN (lv' := [(3, .null), (0, .ref h0), (1, .int i), (2, .int w)]) hx hb dX8_foreseen_5 rfl hl (by decide) rfl (fun ls hl => ?_)
  refine lv_aload_nN hx hb dX8_foreseen_6 rfl (lv_at hl 0 rfl) ?_
  refine lv_ifnullN (tgt := 20) hx hb dX8_foreseen_7 (by decide) ?_
  refine lv_iconst (v := (-1)) hx hb dX8_foreseen_20 (by decide) ?_
  refine lv_goto (tgt := 32) hx hb dX8_foreseen_21 (by decide) ?_
  exact ret_i hx hb hr hlocks rfl (u := ()) rfl (hP.sub [] rfl) (hK.sub [] rfl) (hD.sub [] (by decide) rfl) hS (Nat.le_of_ble_eq_true rfl) (Nat.le_of_ble_eq_true rfl) dX8_foreseen_32
set_option maxHeartbeats 4000000 in
set_option maxRecDepth 100000 in
theorem c_X8_both (l : Launch) (D : va_G) (sz : Nat) (h0 : Nat) (tp : Nat) (mka : Nat) (bx : Nat) (rt : Nat) (i : Int32) (w : Int32)  : Ci l yX8_both wsX8_both ({ frames := 2, cells := 0, slots := 0, locals := 43 } : Room) D [.ref h0, .int i, .int w] [(h0, .inr (7, [.ref tp, .ref mka, .int 0, .ref bx, .ref rt]))] [] sz (fun (r : Int32) => fun (_ : Unit) => r = -1) (fun (_ : Unit) => []) (fun (_ : Unit) => []) := by
  refine ct_i (cc := cX8_both) (maxL := 5) (ret := (some .int)) (by decide) rfl (Nat.le_of_ble_eq_true rfl) ?_
  intro p e s m below meth c A ls H hx hb hr hts hown hml hlocks hin hA hS hP hK hD hNW hl hAe hsz
  have hl : lv_has ls 5 [(0, .ref h0), (1, .int i), (2, .int w)] := hl
  refine lv_aload_n hx hb dX8_both_0 rfl (lv_at hl 0 rfl) ?_
  refine lv_iload_n hx hb dX8_both_1 rfl (lv_at hl 1 rfl) ?_
  refine go_q (wr := []) (tysr := []) hP hD hS hA hK [0] [] [] rfl rfl (by decide) (by decide) rfl (va_runV (As := [.int i]) (rest := []) ⟨hx, hb, hml, hown, hts⟩ (c_X8_makeAt l D H.size h0 tp mka bx rt i ) (cwV 1 hts gX8_both_X8_makeAt rfl rfl rfl (by decide +kernel) ⟨Nat.le_of_ble_eq_true rfl, Nat.le_of_ble_eq_true rfl⟩) (st_preV (ci := 7) (q0 := 0) hP hD hK hNW [0] [] rfl rfl (by decide) rfl rfl rfl rfl) rfl rfl hl.1 rfl (lv_room (Nat.le_of_ble_eq_true rfl)) dX8_both_2 ⟨(Nat.le_of_ble_eq_true rfl), (Nat.le_of_ble_eq_true rfl)⟩) (fun r_1 u H locs hw hP hD hK hS => ?_)
  have hw : r_1 = none := hw
  subst hw
  have hP : va_P D vwCl [(h0, .inr (7, [.ref tp, .ref mka, .int 0, .ref bx, .ref rt]))] H := hP
  have hD : va_D A [(h0, .inr (7, [.ref tp, .ref mka, .int 0, .ref bx, .ref rt]))] := hD
  have hK : va_K D vwCl [] s := hK
  refine lv_astore_nN (lv' := [(3, .null), (0, .ref h0), (1, .int i), (2, .int w)]) hx hb dX8_both_5 rfl hl (by decide) rfl (fun ls hl => ?_)
  refine lv_aload_n hx hb dX8_both_6 rfl (lv_at hl 1 rfl) ?_
  refine lv_iload_n hx hb dX8_both_7 rfl (lv_at hl 3 rfl) ?_
  refine go_q (wr := []) (tysr := []) hP hD hS hA hK [0] [] [] rfl rfl (by decide) (by decide) rfl (va_runV (As := [.int w]) (rest := []) ⟨hx, hb, hml, hown, hts⟩ (c_X8_makeAt l D H.size h0 tp mka bx rt w ) (cwV 1 hts gX8_both_X8_makeAt rfl rfl rfl (by decide +kernel) ⟨Nat.le_of_ble_eq_true rfl, Nat.le_of_ble_eq_true rfl⟩) (st_preV (ci := 7) (q0 := 0) hP hD hK hNW [0] [] rfl rfl (by decide) rfl rfl rfl rfl) rfl rfl hl.1 rfl (lv_room (Nat.le_of_ble_eq_true rfl)) dX8_both_8 ⟨(Nat.le_of_ble_eq_true rfl), (Nat.le_of_ble_eq_true rfl)⟩) (fun r_2 u H locs hw hP hD hK hS => ?_)
  have hw : r_2 = none := hw
  subst hw
  have hP : va_P D vwCl [(h0, .inr (7, [.ref tp, .ref mka, .int 0, .ref bx, .ref rt]))] H := hP
  have hD : va_D A [(h0, .inr (7, [.ref tp, .ref mka, .int 0, .ref bx, .ref rt]))] := hD
  have hK : va_K D vwCl [] s := hK
  refine lv_astoreN (lv' := [(4, .null), (3, .null), (0, .ref h0), (1, .int i), (2, .int w)]) hx hb dX8_both_11 hl (by decide) rfl (fun ls hl => ?_)
  refine lv_aload_nN hx hb dX8_both_13 rfl (lv_at hl 1 rfl) ?_
  refine lv_ifnullN (tgt := 34) hx hb dX8_both_14 (by decide) ?_
  refine lv_iconst (v := (-1)) hx hb dX8_both_34 (by decide) ?_
  exact ret_i hx hb hr hlocks rfl (u := ()) rfl (hP.sub [] rfl) (hK.sub [] rfl) (hD.sub [] (by decide) rfl) hS (Nat.le_of_ble_eq_true rfl) (Nat.le_of_ble_eq_true rfl) dX8_both_35
