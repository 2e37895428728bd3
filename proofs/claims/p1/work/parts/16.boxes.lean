set_option maxHeartbeats 4000000 in
set_option maxRecDepth 100000 in
theorem c_boxAt_no (l : Launch) (D : va_G) (sz : Nat) (h0 : Nat) (tp : Nat) (mka : Nat) (bx : Nat) (rt : Nat) (cB : ClassId) (bf : Nat → Option Nat) (i : Int32) (hno : wi i 0 3 = 0) : Cq l yX8_boxAt wsX8_boxAt ({ frames := 1, cells := 0, slots := 0, locals := 22 } : Room) D [.ref h0, .int i] [(h0, .inr (7, [.ref tp, .ref mka, .int 0, .ref bx, .ref rt])), (bx, .inl (cB, 4, .inr (.inr (.inr (.inr bf)))))] [(cB, .object "OneHandset$Box")] sz (fun (r : Option Nat) => fun (_ : Unit) => r = none) (fun (_ : Unit) => [(h0, .inr (7, [.ref tp, .ref mka, .int 0, .ref bx, .ref rt])), (bx, .inl (cB, 4, .inr (.inr (.inr (.inr bf)))))]) (fun (_ : Unit) => [(cB, .object "OneHandset$Box")]) := by
  refine ct_q (cc := cX8_boxAt) (maxL := 2) (ret := (some (.object "OneHandset$Box"))) (by decide) rfl (Nat.le_of_ble_eq_true rfl) ?_
  intro p e s m below meth c A ls H hx hb hr hts hown hml hlocks hin hA hS hP hK hD hNW hl hAe hsz
  have hl : lv_has ls 2 [(0, .ref h0), (1, .int i)] := hl
  refine lv_iload_n hx hb dX8_boxAt_0 rfl (lv_at hl 1 rfl) ?_
  refine lv_iconst (v := 0) hx hb dX8_boxAt_1 (by decide) ?_
  refine lv_iconst (v := 3) hx hb dX8_boxAt_2 (by decide) ?_
  refine go_i (wr := [(h0, .inr (7, [.ref tp, .ref mka, .int 0, .ref bx, .ref rt])), (bx, .inl (cB, 4, .inr (.inr (.inr (.inr bf)))))]) (tysr := [(cB, .object "OneHandset$Box")]) hP hD hS hA hK [] [0, 1] [0] rfl rfl (by decide) (by decide) rfl (va_runS (As := [.int i, .int 0, .int 3]) (rest := []) ⟨hx, hb, hml, hown, hts⟩ (c_X8_within l D H.size i 0 3 ) (va_cwS 3 hts gX8_boxAt_X8_within rfl rfl rfl (by decide +kernel) ⟨Nat.le_of_ble_eq_true rfl, Nat.le_of_ble_eq_true rfl⟩) (st_preS hP hD hK hNW [] [] rfl rfl (by decide) rfl) rfl rfl hl.1 rfl (lv_room (Nat.le_of_ble_eq_true rfl)) dX8_boxAt_3 ⟨(Nat.le_of_ble_eq_true rfl), (Nat.le_of_ble_eq_true rfl)⟩) (fun r_1 u H locs hw hP hD hK hS => ?_)
  have hw : r_1 = wi i 0 3 := hw
  subst hw
  have hP : va_P D vwCl [(h0, .inr (7, [.ref tp, .ref mka, .int 0, .ref bx, .ref rt])), (bx, .inl (cB, 4, .inr (.inr (.inr (.inr bf)))))] H := hP
  have hD : va_D A [(h0, .inr (7, [.ref tp, .ref mka, .int 0, .ref bx, .ref rt])), (bx, .inl (cB, 4, .inr (.inr (.inr (.inr bf)))))] := hD
  have hK : va_K D vwCl [(cB, .object "OneHandset$Box")] s := hK
  refine lv_if_eq (tgt := 18) hx hb dX8_boxAt_6 (by decide) (fun _ => ?_) (fun c_2 => absurd (hno) c_2)
  refine lv_null hx hb dX8_boxAt_18 ?_
  exact ret_q (none) rfl hx hb hr hlocks (Or.inl ⟨_, rfl⟩) (u := ()) rfl (hP.sub [0, 1] rfl) (hK.sub [0] rfl) (hD.sub [0, 1] (by decide) rfl) hS (Nat.le_of_ble_eq_true rfl) (Nat.le_of_ble_eq_true rfl) dX8_boxAt_19
theorem hiboxAt_yes_X8 : ∀ w ∈ wsX80, w ∈ wsX8_boxAt := mem_pl [6, 7, 8, 9, 10] rfl
set_option maxHeartbeats 4000000 in
set_option maxRecDepth 100000 in
theorem c_boxAt_yes (l : Launch) (D : va_G) (sz : Nat) (h0 : Nat) (tp : Nat) (mka : Nat) (bx : Nat) (rt : Nat) (cB : ClassId) (bf : Nat → Option Nat) (i : Int32) (hyes : ¬ wi i 0 3 = 0) (hi : vp_in i 4) : Cq l yX8_boxAt wsX8_boxAt ({ frames := 1, cells := 0, slots := 0, locals := 22 } : Room) D [.ref h0, .int i] [(h0, .inr (7, [.ref tp, .ref mka, .int 0, .ref bx, .ref rt])), (bx, .inl (cB, 4, .inr (.inr (.inr (.inr bf)))))] [(cB, .object "OneHandset$Box")] sz (fun (r : Option Nat) => fun (_ : Unit) => r = bf (Int32.toNatClampNeg i)) (fun (_ : Unit) => [(h0, .inr (7, [.ref tp, .ref mka, .int 0, .ref bx, .ref rt])), (bx, .inl (cB, 4, .inr (.inr (.inr (.inr bf)))))]) (fun (_ : Unit) => [(cB, .object "OneHandset$Box")]) := by
  refine ct_q (cc := cX8_boxAt) (maxL := 2) (ret := (some (.object "OneHandset$Box"))) (by decide) rfl (Nat.le_of_ble_eq_true rfl) ?_
  intro p e s m below meth c A ls H hx hb hr hts hown hml hlocks hin hA hS hP hK hD hNW hl hAe hsz
  have hl : lv_has ls 2 [(0, .ref h0), (1, .int i)] := hl
  refine lv_iload_n hx hb dX8_boxAt_0 rfl (lv_at hl 1 rfl) ?_
  refine lv_iconst (v := 0) hx hb dX8_boxAt_1 (by decide) ?_
  refine lv_iconst (v := 3) hx hb dX8_boxAt_2 (by decide) ?_
  refine go_i (wr := [(h0, .inr (7, [.ref tp, .ref mka, .int 0, .ref bx, .ref rt])), (bx, .inl (cB, 4, .inr (.inr (.inr (.inr bf)))))]) (tysr := [(cB, .object "OneHandset$Box")]) hP hD hS hA hK [] [0, 1] [0] rfl rfl (by decide) (by decide) rfl (va_runS (As := [.int i, .int 0, .int 3]) (rest := []) ⟨hx, hb, hml, hown, hts⟩ (c_X8_within l D H.size i 0 3 ) (va_cwS 3 hts gX8_boxAt_X8_within rfl rfl rfl (by decide +kernel) ⟨Nat.le_of_ble_eq_true rfl, Nat.le_of_ble_eq_true rfl⟩) (st_preS hP hD hK hNW [] [] rfl rfl (by decide) rfl) rfl rfl hl.1 rfl (lv_room (Nat.le_of_ble_eq_true rfl)) dX8_boxAt_3 ⟨(Nat.le_of_ble_eq_true rfl), (Nat.le_of_ble_eq_true rfl)⟩) (fun r_1 u H locs hw hP hD hK hS => ?_)
  have hw : r_1 = wi i 0 3 := hw
  subst hw
  have hP : va_P D vwCl [(h0, .inr (7, [.ref tp, .ref mka, .int 0, .ref bx, .ref rt])), (bx, .inl (cB, 4, .inr (.inr (.inr (.inr bf)))))] H := hP
  have hD : va_D A [(h0, .inr (7, [.ref tp, .ref mka, .int 0, .ref bx, .ref rt])), (bx, .inl (cB, 4, .inr (.inr (.inr (.inr bf)))))] := hD
  have hK : va_K D vwCl [(cB, .object "OneHandset$Box")] s := hK
  refine lv_if_eq (tgt := 18) hx hb dX8_boxAt_6 (by decide) (fun c_2 => absurd c_2 (hyes)) (fun _ => ?_)
  refine lv_aload_n hx hb dX8_boxAt_9 rfl (lv_at hl 0 rfl) ?_
  refine va_get (D := D) (ci := 7) (v := .ref bx) (C := RX8) (T := TX8) (N := 5) hx hb hts hiboxAt_yes_X8 hown hK hP 0 rfl rfl 3 (by decide) (hts (.fieldLink RX8 28 "OneHandset" "boxes" "[LOneHandset$Box;") (List.mem_of_getElem? (i := 1) rfl)) (fun _ h9 => h9) rfl dX8_boxAt_10 ?_
  refine lv_iload_n hx hb dX8_boxAt_13 rfl (lv_at hl 1 rfl) ?_
  refine va_aldq hx hb hK hP 1 0 rfl rfl hi dX8_boxAt_14 ?_
  refine lv_goto (tgt := 19) hx hb dX8_boxAt_15 (by decide) ?_
  exact ret_q (bf (Int32.toNatClampNeg i)) rfl hx hb hr hlocks (Or.inl ⟨_, rfl⟩) (u := ()) rfl (hP.sub [0, 1] rfl) (hK.sub [0] rfl) (hD.sub [0, 1] (by decide) rfl) hS (Nat.le_of_ble_eq_true rfl) (Nat.le_of_ble_eq_true rfl) dX8_boxAt_19
theorem hiX0_hasState_X0 : ∀ w ∈ wsX00, w ∈ wsX0_hasState := mem_pl [5, 6, 7, 8] rfl
set_option maxHeartbeats 4000000 in
set_option maxRecDepth 100000 in
theorem c_X0_hasState (l : Launch) (D : va_G) (sz : Nat) (h0 : Nat) (la : Nat) (st : Int32) (bu : Int32) (my : Int32) (v : Int32) (m1 : Int32) (hm : st - 1 = m1) : Ci l yX0_hasState wsX0_hasState ({ frames := 1, cells := 0, slots := 0, locals := 22 } : Room) D [.ref h0, .int v] [(h0, .inr (0, [.ref la, .int st, .int bu, .int my]))] [] sz (fun (r : Int32) => fun (_ : Unit) => r = wi v 0 m1) (fun (_ : Unit) => [(h0, .inr (0, [.ref la, .int st, .int bu, .int my]))]) (fun (_ : Unit) => []) := by
  refine ct_i (cc := cX0_hasState) (maxL := 2) (ret := (some .boolean)) (by decide) rfl (Nat.le_of_ble_eq_true rfl) ?_
  intro p e s m below meth c A ls H hx hb hr hts hown hml hlocks hin hA hS hP hK hD hNW hl hAe hsz
  have hl : lv_has ls 2 [(0, .ref h0), (1, .int v)] := hl
  subst hm
  refine lv_iload_n hx hb dX0_hasState_0 rfl (lv_at hl 1 rfl) ?_
  refine lv_iconst (v := 0) hx hb dX0_hasState_1 (by decide) ?_
  refine lv_aload_n hx hb dX0_hasState_2 rfl (lv_at hl 0 rfl) ?_
  refine va_get (D := D) (ci := 0) (v := .int st) (C := RX0) (T := TX0) (N := 4) hx hb hts hiX0_hasState_X0 hown hK hP 0 rfl rfl 1 (by decide) (hts (.fieldLink RX0 19 "OneHandset$Box" "states" "I") (List.mem_of_getElem? (i := 1) rfl)) (fun _ h9 => h9) rfl dX0_hasState_3 ?_
  refine lv_iconst (v := 1) hx hb dX0_hasState_6 (by decide) ?_
  refine lv_isub hx hb dX0_hasState_7 ?_
  refine go_i (wr := [(h0, .inr (0, [.ref la, .int st, .int bu, .int my]))]) (tysr := []) hP hD hS hA hK [] [0] [] rfl rfl (by decide) (by decide) rfl (va_runSN (As := [.int v, .int 0, .int (st - 1)]) (rest := []) ⟨hx, hb, hml, hown, hts⟩ (c_X8_within l D H.size v 0 (st - 1) ) ⟨(va_cnB (own := RX0) (host := RX8) (index := 39) 3 hts gX0_hasState_X8_within_n39 rfl rfl rfl (hNW.2.1 (RX0, 39, yX8_within, RX8) (List.mem_of_getElem? (l := nw_M) (i := 16) rfl)) (hts (.initialized RX8) (List.mem_of_getElem? (i := 3) rfl)) (by decide +kernel) ⟨Nat.le_of_ble_eq_true rfl, Nat.le_of_ble_eq_true rfl⟩), (hts (.static yX8_within) (List.mem_of_getElem? (i := 2) rfl)), trivial⟩ (st_preS hP hD hK hNW [] [] rfl rfl (by decide) rfl) rfl rfl hl.1 rfl (lv_room (Nat.le_of_ble_eq_true rfl)) dX0_hasState_8 ⟨(Nat.le_of_ble_eq_true rfl), (Nat.le_of_ble_eq_true rfl)⟩) (fun r_1 u H locs hw hP hD hK hS => ?_)
  have hw : r_1 = wi v 0 (st - 1) := hw
  subst hw
  have hP : va_P D vwCl [(h0, .inr (0, [.ref la, .int st, .int bu, .int my]))] H := hP
  have hD : va_D A [(h0, .inr (0, [.ref la, .int st, .int bu, .int my]))] := hD
  have hK : va_K D vwCl [] s := hK
  exact ret_i hx hb hr hlocks (wi_nar _ _ _) (u := ()) rfl (hP.sub [0] rfl) (hK.sub [] rfl) (hD.sub [0] (by decide) rfl) hS (Nat.le_of_ble_eq_true rfl) (Nat.le_of_ble_eq_true rfl) dX0_hasState_11
theorem hiX0_hasButton_X0 : ∀ w ∈ wsX00, w ∈ wsX0_hasButton := mem_pl [5, 6, 7, 8] rfl
set_option maxHeartbeats 4000000 in
set_option maxRecDepth 100000 in
theorem c_X0_hasButton (l : Launch) (D : va_G) (sz : Nat) (h0 : Nat) (la : Nat) (st : Int32) (bu : Int32) (my : Int32) (v : Int32) (m1 : Int32) (hm : bu - 1 = m1) : Ci l yX0_hasButton wsX0_hasButton ({ frames := 1, cells := 0, slots := 0, locals := 22 } : Room) D [.ref h0, .int v] [(h0, .inr (0, [.ref la, .int st, .int bu, .int my]))] [] sz (fun (r : Int32) => fun (_ : Unit) => r = wi v 0 m1) (fun (_ : Unit) => [(h0, .inr (0, [.ref la, .int st, .int bu, .int my]))]) (fun (_ : Unit) => []) := by
  refine ct_i (cc := cX0_hasButton) (maxL := 2) (ret := (some .boolean)) (by decide) rfl (Nat.le_of_ble_eq_true rfl) ?_
  intro p e s m below meth c A ls H hx hb hr hts hown hml hlocks hin hA hS hP hK hD hNW hl hAe hsz
  have hl : lv_has ls 2 [(0, .ref h0), (1, .int v)] := hl
  subst hm
  refine lv_iload_n hx hb dX0_hasButton_0 rfl (lv_at hl 1 rfl) ?_
  refine lv_iconst (v := 0) hx hb dX0_hasButton_1 (by decide) ?_
  refine lv_aload_n hx hb dX0_hasButton_2 rfl (lv_at hl 0 rfl) ?_
  refine va_get (D := D) (ci := 0) (v := .int bu) (C := RX0) (T := TX0) (N := 4) hx hb hts hiX0_hasButton_X0 hown hK hP 0 rfl rfl 2 (by decide) (hts (.fieldLink RX0 23 "OneHandset$Box" "buttons" "I") (List.mem_of_getElem? (i := 1) rfl)) (fun _ h9 => h9) rfl dX0_hasButton_3 ?_
  refine lv_iconst (v := 1) hx hb dX0_hasButton_6 (by decide) ?_
  refine lv_isub hx hb dX0_hasButton_7 ?_
  refine go_i (wr := [(h0, .inr (0, [.ref la, .int st, .int bu, .int my]))]) (tysr := []) hP hD hS hA hK [] [0] [] rfl rfl (by decide) (by decide) rfl (va_runSN (As := [.int v, .int 0, .int (bu - 1)]) (rest := []) ⟨hx, hb, hml, hown, hts⟩ (c_X8_within l D H.size v 0 (bu - 1) ) ⟨(va_cnB (own := RX0) (host := RX8) (index := 39) 3 hts gX0_hasButton_X8_within_n39 rfl rfl rfl (hNW.2.1 (RX0, 39, yX8_within, RX8) (List.mem_of_getElem? (l := nw_M) (i := 16) rfl)) (hts (.initialized RX8) (List.mem_of_getElem? (i := 3) rfl)) (by decide +kernel) ⟨Nat.le_of_ble_eq_true rfl, Nat.le_of_ble_eq_true rfl⟩), (hts (.static yX8_within) (List.mem_of_getElem? (i := 2) rfl)), trivial⟩ (st_preS hP hD hK hNW [] [] rfl rfl (by decide) rfl) rfl rfl hl.1 rfl (lv_room (Nat.le_of_ble_eq_true rfl)) dX0_hasButton_8 ⟨(Nat.le_of_ble_eq_true rfl), (Nat.le_of_ble_eq_true rfl)⟩) (fun r_1 u H locs hw hP hD hK hS => ?_)
  have hw : r_1 = wi v 0 (bu - 1) := hw
  subst hw
  have hP : va_P D vwCl [(h0, .inr (0, [.ref la, .int st, .int bu, .int my]))] H := hP
  have hD : va_D A [(h0, .inr (0, [.ref la, .int st, .int bu, .int my]))] := hD
  have hK : va_K D vwCl [] s := hK
  exact ret_i hx hb hr hlocks (wi_nar _ _ _) (u := ()) rfl (hP.sub [0] rfl) (hK.sub [] rfl) (hD.sub [0] (by decide) rfl) hS (Nat.le_of_ble_eq_true rfl) (Nat.le_of_ble_eq_true rfl) dX0_hasButton_11
theorem hiX0_hasSet_X0 : ∀ w ∈ wsX00, w ∈ wsX0_hasSet := mem_pl [7, 8, 9, 10] rfl
set_option maxHeartbeats 4000000 in
set_option maxRecDepth 100000 in
theorem c_X0_hasSet (l : Launch) (D : va_G) (sz : Nat) (h0 : Nat) (la : Nat) (st : Int32) (bu : Int32) (my : Int32) (v : Int32) (m1 : Int32) (hm : lb st = m1) : Ci l yX0_hasSet wsX0_hasSet ({ frames := 1, cells := 0, slots := 0, locals := 22 } : Room) D [.ref h0, .int v] [(h0, .inr (0, [.ref la, .int st, .int bu, .int my]))] [] sz (fun (r : Int32) => fun (_ : Unit) => r = wi v 1 m1) (fun (_ : Unit) => [(h0, .inr (0, [.ref la, .int st, .int bu, .int my]))]) (fun (_ : Unit) => []) := by
  refine ct_i (cc := cX0_hasSet) (maxL := 2) (ret := (some .boolean)) (by decide) rfl (Nat.le_of_ble_eq_true rfl) ?_
  intro p e s m below meth c A ls H hx hb hr hts hown hml hlocks hin hA hS hP hK hD hNW hl hAe hsz
  have hl : lv_has ls 2 [(0, .ref h0), (1, .int v)] := hl
  subst hm
  refine lv_iload_n hx hb dX0_hasSet_0 rfl (lv_at hl 1 rfl) ?_
  refine lv_iconst (v := 1) hx hb dX0_hasSet_1 (by decide) ?_
  refine lv_aload_n hx hb dX0_hasSet_2 rfl (lv_at hl 0 rfl) ?_
  refine va_get (D := D) (ci := 0) (v := .int st) (C := RX0) (T := TX0) (N := 4) hx hb hts hiX0_hasSet_X0 hown hK hP 0 rfl rfl 1 (by decide) (hts (.fieldLink RX0 19 "OneHandset$Box" "states" "I") (List.mem_of_getElem? (i := 1) rfl)) (fun _ h9 => h9) rfl dX0_hasSet_3 ?_
  refine go_i (wr := [(h0, .inr (0, [.ref la, .int st, .int bu, .int my]))]) (tysr := []) hP hD hS hA hK [] [0] [] rfl rfl (by decide) (by decide) rfl (va_runSN (As := [.int st]) (rest := [.int 1, .int v]) ⟨hx, hb, hml, hown, hts⟩ (c_X8_lowBits l D H.size st ) ⟨(va_cnB (own := RX0) (host := RX8) (index := 26) 1 hts gX0_hasSet_X8_lowBits_n26 rfl rfl rfl (hNW.2.1 (RX0, 26, yX8_lowBits, RX8) (List.mem_of_getElem? (l := nw_M) (i := 1) rfl)) (hts (.initialized RX8) (List.mem_of_getElem? (i := 3) rfl)) (by decide +kernel) ⟨Nat.le_of_ble_eq_true rfl, Nat.le_of_ble_eq_true rfl⟩), (hts (.static yX8_lowBits) (List.mem_of_getElem? (i := 2) rfl)), trivial⟩ (st_preS hP hD hK hNW [] [] rfl rfl (by decide) rfl) rfl rfl hl.1 rfl (lv_room (Nat.le_of_ble_eq_true rfl)) dX0_hasSet_6 ⟨(Nat.le_of_ble_eq_true rfl), (Nat.le_of_ble_eq_true rfl)⟩) (fun r_1 u H locs hw hP hD hK hS => ?_)
  have hw : r_1 = lb st := hw
  subst hw
  have hP : va_P D vwCl [(h0, .inr (0, [.ref la, .int st, .int bu, .int my]))] H := hP
  have hD : va_D A [(h0, .inr (0, [.ref la, .int st, .int bu, .int my]))] := hD
  have hK : va_K D vwCl [] s := hK
  refine go_i (wr := [(h0, .inr (0, [.ref la, .int st, .int bu, .int my]))]) (tysr := []) hP hD hS hA hK [] [0] [] rfl rfl (by decide) (by decide) rfl (va_runSN (As := [.int v, .int 1, .int (lb st)]) (rest := []) ⟨hx, hb, hml, hown, hts⟩ (c_X8_within l D H.size v 1 (lb st) ) ⟨(va_cnB (own := RX0) (host := RX8) (index := 39) 3 hts gX0_hasSet_X8_within_n39 rfl rfl rfl (hNW.2.1 (RX0, 39, yX8_within, RX8) (List.mem_of_getElem? (l := nw_M) (i := 16) rfl)) (hts (.initialized RX8) (List.mem_of_getElem? (i := 3) rfl)) (by decide +kernel) ⟨Nat.le_of_ble_eq_true rfl, Nat.le_of_ble_eq_true rfl⟩), (hts (.static yX8_within) (List.mem_of_getElem? (i := 5) rfl)), trivial⟩ (st_preS hP hD hK hNW [] [] rfl rfl (by decide) rfl) rfl rfl hl.1 rfl (lv_room (Nat.le_of_ble_eq_true rfl)) dX0_hasSet_9 ⟨(Nat.le_of_ble_eq_true rfl), (Nat.le_of_ble_eq_true rfl)⟩) (fun r_2 u H locs hw hP hD hK hS => ?_)
  have hw : r_2 = wi v 1 (lb st) := hw
  subst hw
  have hP : va_P D vwCl [(h0, .inr (0, [.ref la, .int st, .int bu, .int my]))] H := hP
  have hD : va_D A [(h0, .inr (0, [.ref la, .int st, .int bu, .int my]))] := hD
  have hK : va_K D vwCl [] s := hK
  exact ret_i hx hb hr hlocks (wi_nar _ _ _) (u := ()) rfl (hP.sub [0] rfl) (hK.sub [] rfl) (hD.sub [0] (by decide) rfl) hS (Nat.le_of_ble_eq_true rfl) (Nat.le_of_ble_eq_true rfl) dX0_hasSet_12
theorem hiX0_setLead_X0 : ∀ w ∈ wsX00, w ∈ wsX0_setLead := mem_pl [16, 17, 18, 19] rfl
set_option maxHeartbeats 4000000 in
set_option maxRecDepth 100000 in
theorem c_X0_setLead (l : Launch) (D : va_G) (sz : Nat) (h0 : Nat) (la : Nat) (cL : ClassId) (f : Nat → Int32)  : Cv l yX0_setLead wsX0_setLead ({ frames := 2, cells := 0, slots := 0, locals := 43 } : Room) D [.ref h0, .int 0, .int 0, .int 0] [(h0, .inr (0, [.ref la, .int 1, .int 1, .int 1])), (la, .inl (cL, 32, .inl f))] [(cL, .int)] sz (fun (_ : Unit) => True) (fun (_ : Unit) => []) (fun (_ : Unit) => []) := by
  refine ct_v (cc := cX0_setLead) (maxL := 4) (ret := none) (by decide) rfl (Nat.le_of_ble_eq_true rfl) ?_
  intro p e s m below meth c A ls H hx hb hr hts hown hml hlocks hin hA hS hP hK hD hNW hl hAe hsz
  have hl : lv_has ls 4 [(0, .ref h0), (1, .int 0), (2, .int 0), (3, .int 0)] := hl
  refine lv_aload_n hx hb dX0_setLead_0 rfl (lv_at hl 0 rfl) ?_
  refine lv_iload_n hx hb dX0_setLead_1 rfl (lv_at hl 1 rfl) ?_
  refine go_i (wr := [(la, .inl (cL, 32, .inl f))]) (tysr := [(cL, .int)]) hP hD hS hA hK [0] [1] [0] rfl rfl (by decide) (by decide) rfl (va_runV (As := [.int 0]) (rest := []) ⟨hx, hb, hml, hown, hts⟩ (c_X0_hasState l D H.size h0 la 1 1 1 0 0 (by decide)) (cwV 1 hts gX0_setLead_X0_hasState rfl rfl rfl (by decide +kernel) ⟨Nat.le_of_ble_eq_true rfl, Nat.le_of_ble_eq_true rfl⟩) (st_preV (ci := 0) (q0 := 0) hP hD hK hNW [0] [] rfl rfl (by decide) rfl rfl rfl rfl) rfl rfl hl.1 rfl (lv_room (Nat.le_of_ble_eq_true rfl)) dX0_setLead_2 ⟨(Nat.le_of_ble_eq_true rfl), (Nat.le_of_ble_eq_true rfl)⟩) (fun r_1 u H locs hw hP hD hK hS => ?_)
  have hw : r_1 = wi 0 0 0 := hw
  subst hw
  have hP : va_P D vwCl [(la, .inl (cL, 32, .inl f)), (h0, .inr (0, [.ref la, .int 1, .int 1, .int 1]))] H := hP
  have hD : va_D A [(la, .inl (cL, 32, .inl f)), (h0, .inr (0, [.ref la, .int 1, .int 1, .int 1]))] := hD
  have hK : va_K D vwCl [(cL, .int)] s := hK
  refine lv_topi (fun v_2 ev_2 => ?_)
  obtain rfl : v_2 = (1 : Int32) := ev_2.trans (by decide)
  refine lv_if_eq (tgt := 27) hx hb dX0_setLead_5 (by decide) (fun c_3 => absurd c_3 (by decide)) (fun _ => ?_)
  refine lv_aload_n hx hb dX0_setLead_8 rfl (lv_at hl 0 rfl) ?_
  refine lv_iload_n hx hb dX0_setLead_9 rfl (lv_at hl 2 rfl) ?_
  refine go_i (wr := [(la, .inl (cL, 32, .inl f))]) (tysr := [(cL, .int)]) hP hD hS hA hK [1] [0] [0] rfl rfl (by decide) (by decide) rfl (va_runV (As := [.int 0]) (rest := []) ⟨hx, hb, hml, hown, hts⟩ (c_X0_hasButton l D H.size h0 la 1 1 1 0 0 (by decide)) (cwV 1 hts gX0_setLead_X0_hasButton rfl rfl rfl (by decide +kernel) ⟨Nat.le_of_ble_eq_true rfl, Nat.le_of_ble_eq_true rfl⟩) (st_preV (ci := 0) (q0 := 1) hP hD hK hNW [1] [] rfl rfl (by decide) rfl rfl rfl rfl) rfl rfl hl.1 rfl (lv_room (Nat.le_of_ble_eq_true rfl)) dX0_setLead_10 ⟨(Nat.le_of_ble_eq_true rfl), (Nat.le_of_ble_eq_true rfl)⟩) (fun r_4 u H locs hw hP hD hK hS => ?_)
  have hw : r_4 = wi 0 0 0 := hw
  subst hw
  have hP : va_P D vwCl [(la, .inl (cL, 32, .inl f)), (h0, .inr (0, [.ref la, .int 1, .int 1, .int 1]))] H := hP
  have hD : va_D A [(la, .inl (cL, 32, .inl f)), (h0, .inr (0, [.ref la, .int 1, .int 1, .int 1]))] := hD
  have hK : va_K D vwCl [(cL, .int)] s := hK
  refine lv_topi (fun v_5 ev_5 => ?_)
  obtain rfl : v_5 = (1 : Int32) := ev_5.trans (by decide)
  refine lv_if_eq (tgt := 27) hx hb dX0_setLead_13 (by decide) (fun c_6 => absurd c_6 (by decide)) (fun _ => ?_)
  refine lv_aload_n hx hb dX0_setLead_16 rfl (lv_at hl 0 rfl) ?_
  refine va_get (D := D) (ci := 0) (v := .ref la) (C := RX0) (T := TX0) (N := 4) hx hb hts hiX0_setLead_X0 hown hK hP 1 rfl rfl 0 (by decide) (hts (.fieldLink RX0 9 "OneHandset$Box" "leads" "[I") (List.mem_of_getElem? (i := 1) rfl)) (fun _ h9 => h9) rfl dX0_setLead_17 ?_
  refine lv_iload_n hx hb dX0_setLead_20 rfl (lv_at hl 1 rfl) ?_
  refine lv_iconst (v := 4) hx hb dX0_setLead_21 (by decide) ?_
  refine lv_imul hx hb dX0_setLead_22 ?_
  refine lv_topi (fun v_7 ev_7 => ?_)
  obtain rfl : v_7 = (0 : Int32) := ev_7.trans (by decide)
  refine lv_iload_n hx hb dX0_setLead_23 rfl (lv_at hl 2 rfl) ?_
  refine lv_iadd hx hb dX0_setLead_24 ?_
  refine lv_topi (fun v_8 ev_8 => ?_)
  obtain rfl : v_8 = (0 : Int32) := ev_8.trans (by decide)
  refine lv_iload_n hx hb dX0_setLead_25 rfl (lv_at hl 3 rfl) ?_
  refine va_iast hx hb hK hP hD hS 0 0 rfl rfl (vin (by decide)) dX0_setLead_26 (fun H locs hP hD hS => ?_)
  have hP : va_P D vwCl [(la, .inl (cL, 32, .inl (upd f 0 0))), (h0, .inr (0, [.ref la, .int 1, .int 1, .int 1]))] H := hP
  have hD : va_D A [(la, .inl (cL, 32, .inl (upd f 0 0))), (h0, .inr (0, [.ref la, .int 1, .int 1, .int 1]))] := hD
  exact ret_v hx hb hr hlocks (u := ()) trivial (hP.sub [] rfl) (hK.sub [] rfl) (hD.sub [] (by decide) rfl) hS (Nat.le_of_ble_eq_true rfl) (Nat.le_of_ble_eq_true rfl) dX0_setLead_27
theorem hiX0_behind_X0 : ∀ w ∈ wsX00, w ∈ wsX0_behind := mem_pl [12, 13, 14, 15] rfl
set_option maxHeartbeats 4000000 in
set_option maxRecDepth 100000 in
theorem c_X0_behind (l : Launch) (D : va_G) (sz : Nat) (h0 : Nat) (la : Nat) (cL : ClassId) (f : Nat → Int32) (hf : f 0 = 0) : Ci l yX0_behind wsX0_behind ({ frames := 2, cells := 0, slots := 0, locals := 43 } : Room) D [.ref h0, .int 1, .int 0] [(h0, .inr (0, [.ref la, .int 1, .int 1, .int 1])), (la, .inl (cL, 32, .inl f))] [(cL, .int)] sz (fun (r : Int32) => fun (_ : Unit) => r = 1) (fun (_ : Unit) => [(h0, .inr (0, [.ref la, .int 1, .int 1, .int 1])), (la, .inl (cL, 32, .inl f))]) (fun (_ : Unit) => [(cL, .int)]) := by
  refine ct_i (cc := cX0_behind) (maxL := 5) (ret := (some .int)) (by decide) rfl (Nat.le_of_ble_eq_true rfl) ?_
  intro p e s m below meth c A ls H hx hb hr hts hown hml hlocks hin hA hS hP hK hD hNW hl hAe hsz
  have hl : lv_has ls 5 [(0, .ref h0), (1, .int 1), (2, .int 0)] := hl
  refine lv_iconst (v := 0) hx hb dX0_behind_0 (by decide) ?_
  refine lv_istore_n (lv' := [(3, .int 0), (0, .ref h0), (1, .int 1), (2, .int 0)]) hx hb dX0_behind_1 rfl hl (by decide) rfl (fun ls hl => ?_)
  refine lv_iconst (v := 0) hx hb dX0_behind_2 (by decide) ?_
  refine lv_istore (lv' := [(4, .int 0), (3, .int 0), (0, .ref h0), (1, .int 1), (2, .int 0)]) hx hb dX0_behind_3 hl (by decide) rfl (fun ls hl => ?_)
  refine lv_iload hx hb dX0_behind_5 (lv_at hl 0 rfl) ?_
  refine lv_aload_n hx hb dX0_behind_7 rfl (lv_at hl 2 rfl) ?_
  refine va_get (D := D) (ci := 0) (v := .int 1) (C := RX0) (T := TX0) (N := 4) hx hb hts hiX0_behind_X0 hown hK hP 0 rfl rfl 1 (by decide) (hts (.fieldLink RX0 19 "OneHandset$Box" "states" "I") (List.mem_of_getElem? (i := 1) rfl)) (fun _ h9 => h9) rfl dX0_behind_8 ?_
  refine lv_icmp_ge (tgt := 54) hx hb dX0_behind_11 (by decide) (fun c_1 => absurd c_1 (by decide)) (fun _ => ?_)
  refine lv_aload_n hx hb dX0_behind_14 rfl (lv_at hl 2 rfl) ?_
  refine lv_iload_n hx hb dX0_behind_15 rfl (lv_at hl 4 rfl) ?_
  refine go_i (wr := [(la, .inl (cL, 32, .inl f))]) (tysr := [(cL, .int)]) hP hD hS hA hK [0] [1] [0] rfl rfl (by decide) (by decide) rfl (va_runV (As := [.int 0]) (rest := []) ⟨hx, hb, hml, hown, hts⟩ (c_X0_hasButton l D H.size h0 la 1 1 1 0 0 (by decide)) (cwV 1 hts gX0_behind_X0_hasButton rfl rfl rfl (by decide +kernel) ⟨Nat.le_of_ble_eq_true rfl, Nat.le_of_ble_eq_true rfl⟩) (st_preV (ci := 0) (q0 := 0) hP hD hK hNW [0] [] rfl rfl (by decide) rfl rfl rfl rfl) rfl rfl hl.1 rfl (lv_room (Nat.le_of_ble_eq_true rfl)) dX0_behind_16 ⟨(Nat.le_of_ble_eq_true rfl), (Nat.le_of_ble_eq_true rfl)⟩) (fun r_2 u H locs hw hP hD hK hS => ?_)
  have hw : r_2 = wi 0 0 0 := hw
  subst hw
  have hP : va_P D vwCl [(la, .inl (cL, 32, .inl f)), (h0, .inr (0, [.ref la, .int 1, .int 1, .int 1]))] H := hP
  have hD : va_D A [(la, .inl (cL, 32, .inl f)), (h0, .inr (0, [.ref la, .int 1, .int 1, .int 1]))] := hD
  have hK : va_K D vwCl [(cL, .int)] s := hK
  refine lv_topi (fun v_3 ev_3 => ?_)
  obtain rfl : v_3 = (1 : Int32) := ev_3.trans (by decide)
  refine lv_if_eq (tgt := 54) hx hb dX0_behind_19 (by decide) (fun c_4 => absurd c_4 (by decide)) (fun _ => ?_)
  refine lv_iload_n hx hb dX0_behind_22 rfl (lv_at hl 3 rfl) ?_
  refine lv_iload hx hb dX0_behind_23 (lv_at hl 0 rfl) ?_
  refine lv_ishr hx hb dX0_behind_25 ?_
  refine lv_topi (fun v_5 ev_5 => ?_)
  obtain rfl : v_5 = (1 : Int32) := ev_5.trans (by decide)
  refine lv_iconst (v := 1) hx hb dX0_behind_26 (by decide) ?_
  refine lv_iand hx hb dX0_behind_27 ?_
  refine lv_topi (fun v_6 ev_6 => ?_)
  obtain rfl : v_6 = (1 : Int32) := ev_6.trans (by decide)
  refine lv_iconst (v := 1) hx hb dX0_behind_28 (by decide) ?_
  refine lv_icmp_ne (tgt := 48) hx hb dX0_behind_29 (by decide) (fun c_7 => absurd c_7 (by decide)) (fun _ => ?_)
  refine lv_iload_n hx hb dX0_behind_32 rfl (lv_at hl 1 rfl) ?_
  refine lv_iconst (v := 1) hx hb dX0_behind_33 (by decide) ?_
  refine lv_aload_n hx hb dX0_behind_34 rfl (lv_at hl 2 rfl) ?_
  refine va_get (D := D) (ci := 0) (v := .ref la) (C := RX0) (T := TX0) (N := 4) hx hb hts hiX0_behind_X0 hown hK hP 1 rfl rfl 0 (by decide) (hts (.fieldLink RX0 9 "OneHandset$Box" "leads" "[I") (List.mem_of_getElem? (i := 2) rfl)) (fun _ h9 => h9) rfl dX0_behind_35 ?_
  refine lv_iload hx hb dX0_behind_38 (lv_at hl 0 rfl) ?_
  refine lv_iconst (v := 4) hx hb dX0_behind_40 (by decide) ?_
  refine lv_imul hx hb dX0_behind_41 ?_
  refine lv_topi (fun v_8 ev_8 => ?_)
  obtain rfl : v_8 = (0 : Int32) := ev_8.trans (by decide)
  refine lv_iload_n hx hb dX0_behind_42 rfl (lv_at hl 4 rfl) ?_
  refine lv_iadd hx hb dX0_behind_43 ?_
  refine lv_topi (fun v_9 ev_9 => ?_)
  obtain rfl : v_9 = (0 : Int32) := ev_9.trans (by decide)
  refine va_iald hx hb hK hP 0 0 rfl rfl (vin (by decide)) dX0_behind_44 ?_
  refine lv_topi (fun v_10 ev_10 => ?_)
  obtain rfl : v_10 = 0 := ev_10.trans (hf)
  refine lv_ishl hx hb dX0_behind_45 ?_
  refine lv_topi (fun v_11 ev_11 => ?_)
  obtain rfl : v_11 = (1 : Int32) := ev_11.trans (by decide)
  refine lv_ior hx hb dX0_behind_46 ?_
  refine lv_topi (fun v_12 ev_12 => ?_)
  obtain rfl : v_12 = (1 : Int32) := ev_12.trans (by decide)
  refine lv_istore_n (lv' := [(3, .int 1), (4, .int 0), (0, .ref h0), (1, .int 1), (2, .int 0)]) hx hb dX0_behind_47 rfl hl (by decide) rfl (fun ls hl => ?_)
  refine lv_iinc (v := 1) (lv' := [(4, .int 1), (3, .int 1), (0, .ref h0), (1, .int 1), (2, .int 0)]) hx hb dX0_behind_48 hl (k := 1) rfl (by decide) (by decide) rfl (fun ls hl => ?_)
  refine lv_goto (tgt := 5) hx hb dX0_behind_51 (by decide) ?_
  refine lv_iload hx hb dX0_behind_5 (lv_at hl 0 rfl) ?_
  refine lv_aload_n hx hb dX0_behind_7 rfl (lv_at hl 2 rfl) ?_
  refine va_get (D := D) (ci := 0) (v := .int 1) (C := RX0) (T := TX0) (N := 4) hx hb hts hiX0_behind_X0 hown hK hP 1 rfl rfl 1 (by decide) (hts (.fieldLink RX0 19 "OneHandset$Box" "states" "I") (List.mem_of_getElem? (i := 1) rfl)) (fun _ h9 => h9) rfl dX0_behind_8 ?_
  refine lv_icmp_ge (tgt := 54) hx hb dX0_behind_11 (by decide) (fun _ => ?_) (fun c_13 => absurd (by decide) c_13)
  refine lv_iload_n hx hb dX0_behind_54 rfl (lv_at hl 1 rfl) ?_
  exact ret_i hx hb hr hlocks rfl (u := ()) rfl (hP.sub [1, 0] rfl) (hK.sub [0] rfl) (hD.sub [1, 0] (by decide) rfl) hS (Nat.le_of_ble_eq_true rfl) (Nat.le_of_ble_eq_true rfl) dX0_behind_55
theorem hiX6_keepRow_X6 : ∀ w ∈ wsX60, w ∈ wsX6_keepRow := mem_pl [5, 6, 7, 8, 9] rfl
set_option maxHeartbeats 4000000 in
set_option maxRecDepth 100000 in
theorem c_X6_keepRow (l : Launch) (D : va_G) (sz : Nat) (h0 : Nat) (r0 : Nat) (r1 : Nat) (r2 : Nat) (r3 : Nat)  : Ci l yX6_keepRow wsX6_keepRow ({ frames := 0, cells := 0, slots := 0, locals := 0 } : Room) D [.ref h0, .int 1, .int 1] [(h0, .inr (5, [.ref r0, .ref r1, .ref r2, .ref r3, .int 0]))] [] sz (fun (r : Int32) => fun (_ : Unit) => r = 0) (fun (_ : Unit) => [(h0, .inr (5, [.ref r0, .ref r1, .ref r2, .ref r3, .int 0]))]) (fun (_ : Unit) => []) := by
  refine ct_i (cc := cX6_keepRow) (maxL := 5) (ret := (some .int)) (by decide) rfl (Nat.le_of_ble_eq_true rfl) ?_
  intro p e s m below meth c A ls H hx hb hr hts hown hml hlocks hin hA hS hP hK hD hNW hl hAe hsz
  have hl : lv_has ls 5 [(0, .ref h0), (1, .int 1), (2, .int 1)] := hl
  refine lv_aload_n hx hb dX6_keepRow_0 rfl (lv_at hl 0 rfl) ?_
  refine lv_iconst (v := 0) hx hb dX6_keepRow_1 (by decide) ?_
  refine va_put (D := D) (ci := 5) (v := .int 0) (ty := .int) (C := RX6) (T := TX6) (N := 5) hx hb hts hiX6_keepRow_X6 tyX6 tyX6_ok nmX6 hown hK hP hD hS 0 rfl rfl 4 (by decide) (hts (.fieldLink RX6 24 "OneHandset$Route" "length" "I") (List.mem_of_getElem? (i := 1) rfl)) (fun _ h9 => h9) rfl (by decide +kernel) rfl rfl (Nat.le_of_ble_eq_true rfl) dX6_keepRow_2 (fun H locs hP hD hS => ?_)
  have hP : va_P D vwCl [(h0, .inr (5, [.ref r0, .ref r1, .ref r2, .ref r3, .int 0]))] H := hP
  have hD : va_D A [(h0, .inr (5, [.ref r0, .ref r1, .ref r2, .ref r3, .int 0]))] := hD
  refine lv_iload_n hx hb dX6_keepRow_5 rfl (lv_at hl 2 rfl) ?_
  refine lv_istore_n (lv' := [(3, .int 1), (0, .ref h0), (1, .int 1), (2, .int 1)]) hx hb dX6_keepRow_6 rfl hl (by decide) rfl (fun ls hl => ?_)
  refine lv_iload_n hx hb dX6_keepRow_7 rfl (lv_at hl 0 rfl) ?_
  refine lv_iload_n hx hb dX6_keepRow_8 rfl (lv_at hl 2 rfl) ?_
  refine lv_icmp_eq (tgt := 42) hx hb dX6_keepRow_9 (by decide) (fun _ => ?_) (fun c_1 => absurd (by decide) c_1)
  refine lv_iload_n hx hb dX6_keepRow_42 rfl (lv_at hl 3 rfl) ?_
  refine lv_istore_n (lv' := [(3, .int 1), (0, .ref h0), (1, .int 1), (2, .int 1)]) hx hb dX6_keepRow_43 rfl hl (by decide) rfl (fun ls hl => ?_)
  refine lv_aload_n hx hb dX6_keepRow_44 rfl (lv_at hl 1 rfl) ?_
  refine va_get (D := D) (ci := 5) (v := .int 0) (C := RX6) (T := TX6) (N := 5) hx hb hts hiX6_keepRow_X6 hown hK hP 0 rfl rfl 4 (by decide) (hts (.fieldLink RX6 24 "OneHandset$Route" "length" "I") (List.mem_of_getElem? (i := 1) rfl)) (fun _ h9 => h9) rfl dX6_keepRow_45 ?_
  refine lv_iconst (v := 1) hx hb dX6_keepRow_48 (by decide) ?_
  refine lv_isub hx hb dX6_keepRow_49 ?_
  refine lv_topi (fun v_2 ev_2 => ?_)
  obtain rfl : v_2 = (-1 : Int32) := ev_2.trans (by decide)
  refine lv_istore (lv' := [(4, .int (-1)), (3, .int 1), (0, .ref h0), (1, .int 1), (2, .int 1)]) hx hb dX6_keepRow_50 hl (by decide) rfl (fun ls hl => ?_)
  refine lv_iload hx hb dX6_keepRow_52 (lv_at hl 0 rfl) ?_
  refine lv_if_lt (tgt := 83) hx hb dX6_keepRow_54 (by decide) (fun _ => ?_) (fun c_3 => absurd (by decide) c_3)
  refine lv_aload_n hx hb dX6_keepRow_83 rfl (lv_at hl 2 rfl) ?_
  refine va_get (D := D) (ci := 5) (v := .int 0) (C := RX6) (T := TX6) (N := 5) hx hb hts hiX6_keepRow_X6 hown hK hP 0 rfl rfl 4 (by decide) (hts (.fieldLink RX6 24 "OneHandset$Route" "length" "I") (List.mem_of_getElem? (i := 1) rfl)) (fun _ h9 => h9) rfl dX6_keepRow_84 ?_
  exact ret_i hx hb hr hlocks rfl (u := ()) rfl (hP.sub [0] rfl) (hK.sub [] rfl) (hD.sub [0] (by decide) rfl) hS (Nat.le_of_ble_eq_true rfl) (Nat.le_of_ble_eq_true rfl) dX6_keepRow_87
theorem hiX6_find_X6 : ∀ w ∈ wsX60, w ∈ wsX6_find := mem_pl [30, 31, 32, 33, 34] rfl
theorem hiX6_find_X0 : ∀ w ∈ wsX00, w ∈ wsX6_find := mem_pl [35, 36, 37, 38] rfl
set_option maxHeartbeats 4000000 in
set_option maxRecDepth 100000 in
theorem c_X6_find (l : Launch) (D : va_G) (sz : Nat) (h0 : Nat) (r0 : Nat) (r1 : Nat) (r2 : Nat) (r3 : Nat) (bq : Nat) (la : Nat) (d1 : ClassId) (d2 : ClassId) (f1 : Nat → Int32) (f2 : Nat → Int32)  : Ci l yX6_find wsX6_find ({ frames := 1, cells := 0, slots := 0, locals := 24 } : Room) D [.ref h0, .ref bq, .int 1] [(h0, .inr (5, [.ref r0, .ref r1, .ref r2, .ref r3, .int 0])), (r1, .inl (d1, 256, .inl f1)), (r2, .inl (d2, 256, .inl f2)), (bq, .inr (0, [.ref la, .int 1, .int 1, .int 1]))] [(d1, .int), (d2, .int)] sz (fun (r : Int32) => fun (_ : Unit) => r = 0) (fun (_ : Unit) => []) (fun (_ : Unit) => []) := by
  refine ct_i (cc := cX6_find) (maxL := 9) (ret := (some .int)) (by decide) rfl (Nat.le_of_ble_eq_true rfl) ?_
  intro p e s m below meth c A ls H hx hb hr hts hown hml hlocks hin hA hS hP hK hD hNW hl hAe hsz
  have hl : lv_has ls 9 [(0, .ref h0), (1, .ref bq), (2, .int 1)] := hl
  refine lv_aload_n hx hb dX6_find_0 rfl (lv_at hl 0 rfl) ?_
  refine va_get (D := D) (ci := 5) (v := .ref r2) (C := RX6) (T := TX6) (N := 5) hx hb hts hiX6_find_X6 hown hK hP 0 rfl rfl 2 (by decide) (hts (.fieldLink RX6 18 "OneHandset$Route" "before" "[I") (List.mem_of_getElem? (i := 1) rfl)) (fun _ h9 => h9) rfl dX6_find_1 ?_
  refine lv_iconst (v := (-1)) hx hb dX6_find_4 (by decide) ?_
  refine go_v (wr := [(h0, .inr (5, [.ref r0, .ref r1, .ref r2, .ref r3, .int 0])), (r1, .inl (d1, 256, .inl f1)), (bq, .inr (0, [.ref la, .int 1, .int 1, .int 1]))]) (tysr := [(d1, .int)]) hP hD hS hA hK [2] [0, 1, 3] [0] rfl rfl (by decide) (by decide) rfl (va_runS (As := [.ref r2, .int (-1)]) (rest := []) ⟨hx, hb, hml, hown, hts⟩ (c_J7_fill_53178 l D H.size r2 d2 256 f2 (-1) (by decide)) (va_cwS 2 hts gX6_find_J7_fill_53178 rfl rfl rfl (by decide +kernel) ⟨Nat.le_of_ble_eq_true rfl, Nat.le_of_ble_eq_true rfl⟩) (st_preS hP hD hK hNW [2] [1] rfl rfl (by decide) rfl) rfl rfl hl.1 rfl (lv_room (Nat.le_of_ble_eq_true rfl)) dX6_find_5 ⟨(Nat.le_of_ble_eq_true rfl), (Nat.le_of_ble_eq_true rfl)⟩) (fun u H locs hw hP hD hK hS => ?_)
  have hP : va_P D vwCl [(h0, .inr (5, [.ref r0, .ref r1, .ref r2, .ref r3, .int 0])), (r1, .inl (d1, 256, .inl f1)), (bq, .inr (0, [.ref la, .int 1, .int 1, .int 1])), (r2, .inl (d2, 256, .inl (fl f2 (-1) 256)))] H := hP
  have hD : va_D A [(h0, .inr (5, [.ref r0, .ref r1, .ref r2, .ref r3, .int 0])), (r1, .inl (d1, 256, .inl f1)), (bq, .inr (0, [.ref la, .int 1, .int 1, .int 1])), (r2, .inl (d2, 256, .inl (fl f2 (-1) 256)))] := hD
  have hK : va_K D vwCl [(d1, .int), (d2, .int)] s := hK
  refine lv_aload_n hx hb dX6_find_8 rfl (lv_at hl 1 rfl) ?_
  refine va_getN (D := D) (ci := 0) (v := .int 1) (C := RX0) (T := TX0) (N := 4) hx hb hts hiX6_find_X0 hown hK hP 2 rfl rfl 3 (by decide) (va_Nw.use rfl (hNW.1 ("OneHandset$Route", 34, "OneHandset$Box", "maybe", "I", "OneHandset") (List.mem_of_getElem? (l := nw_F) (i := 7) rfl))) (fun _ h9 => h9) rfl dX6_find_9 ?_
  refine lv_istore_n (lv' := [(3, .int 1), (0, .ref h0), (1, .ref bq), (2, .int 1)]) hx hb dX6_find_12 rfl hl (by decide) rfl (fun ls hl => ?_)
  refine lv_aload_n hx hb dX6_find_13 rfl (lv_at hl 1 rfl) ?_
  refine va_get (D := D) (ci := 5) (v := .ref r1) (C := RX6) (T := TX6) (N := 5) hx hb hts hiX6_find_X6 hown hK hP 0 rfl rfl 1 (by decide) (hts (.fieldLink RX6 15 "OneHandset$Route" "queue" "[I") (List.mem_of_getElem? (i := 2) rfl)) (fun _ h9 => h9) rfl dX6_find_14 ?_
  refine lv_iconst (v := 0) hx hb dX6_find_17 (by decide) ?_
  refine lv_iload_n hx hb dX6_find_18 rfl (lv_at hl 0 rfl) ?_
  refine va_iast hx hb hK hP hD hS 1 0 rfl rfl (vin (by decide)) dX6_find_19 (fun H locs hP hD hS => ?_)
  have hP : va_P D vwCl [(h0, .inr (5, [.ref r0, .ref r1, .ref r2, .ref r3, .int 0])), (r1, .inl (d1, 256, .inl (upd f1 0 1))), (bq, .inr (0, [.ref la, .int 1, .int 1, .int 1])), (r2, .inl (d2, 256, .inl (fl f2 (-1) 256)))] H := hP
  have hD : va_D A [(h0, .inr (5, [.ref r0, .ref r1, .ref r2, .ref r3, .int 0])), (r1, .inl (d1, 256, .inl (upd f1 0 1))), (bq, .inr (0, [.ref la, .int 1, .int 1, .int 1])), (r2, .inl (d2, 256, .inl (fl f2 (-1) 256)))] := hD
  refine lv_aload_n hx hb dX6_find_20 rfl (lv_at hl 1 rfl) ?_
  refine va_get (D := D) (ci := 5) (v := .ref r2) (C := RX6) (T := TX6) (N := 5) hx hb hts hiX6_find_X6 hown hK hP 0 rfl rfl 2 (by decide) (hts (.fieldLink RX6 18 "OneHandset$Route" "before" "[I") (List.mem_of_getElem? (i := 1) rfl)) (fun _ h9 => h9) rfl dX6_find_21 ?_
  refine lv_iload_n hx hb dX6_find_24 rfl (lv_at hl 0 rfl) ?_
  refine lv_iload_n hx hb dX6_find_25 rfl (lv_at hl 0 rfl) ?_
  refine va_iast hx hb hK hP hD hS 3 1 rfl rfl (vin (by decide)) dX6_find_26 (fun H locs hP hD hS => ?_)
  have hP : va_P D vwCl [(h0, .inr (5, [.ref r0, .ref r1, .ref r2, .ref r3, .int 0])), (r1, .inl (d1, 256, .inl (upd f1 0 1))), (bq, .inr (0, [.ref la, .int 1, .int 1, .int 1])), (r2, .inl (d2, 256, .inl (upd (fl f2 (-1) 256) 1 1)))] H := hP
  have hD : va_D A [(h0, .inr (5, [.ref r0, .ref r1, .ref r2, .ref r3, .int 0])), (r1, .inl (d1, 256, .inl (upd f1 0 1))), (bq, .inr (0, [.ref la, .int 1, .int 1, .int 1])), (r2, .inl (d2, 256, .inl (upd (fl f2 (-1) 256) 1 1)))] := hD
  refine lv_iconst (v := 1) hx hb dX6_find_27 (by decide) ?_
  refine lv_istore (lv' := [(4, .int 1), (3, .int 1), (0, .ref h0), (1, .ref bq), (2, .int 1)]) hx hb dX6_find_28 hl (by decide) rfl (fun ls hl => ?_)
  refine lv_iconst (v := 0) hx hb dX6_find_30 (by decide) ?_
  refine lv_istore (lv' := [(5, .int 0), (4, .int 1), (3, .int 1), (0, .ref h0), (1, .ref bq), (2, .int 1)]) hx hb dX6_find_31 hl (by decide) rfl (fun ls hl => ?_)
  refine lv_iload hx hb dX6_find_33 (lv_at hl 0 rfl) ?_
  refine lv_iload hx hb dX6_find_35 (lv_at hl 1 rfl) ?_
  refine lv_icmp_ge (tgt := 157) hx hb dX6_find_37 (by decide) (fun c_2 => absurd c_2 (by decide)) (fun _ => ?_)
  refine lv_iload hx hb dX6_find_40 (lv_at hl 0 rfl) ?_
  refine lv_sipush (v := 256) hx hb dX6_find_42 (by decide) ?_
  refine lv_icmp_ge (tgt := 157) hx hb dX6_find_45 (by decide) (fun c_3 => absurd c_3 (by decide)) (fun _ => ?_)
  refine lv_aload_n hx hb dX6_find_48 rfl (lv_at hl 3 rfl) ?_
  refine va_get (D := D) (ci := 5) (v := .ref r1) (C := RX6) (T := TX6) (N := 5) hx hb hts hiX6_find_X6 hown hK hP 0 rfl rfl 1 (by decide) (hts (.fieldLink RX6 15 "OneHandset$Route" "queue" "[I") (List.mem_of_getElem? (i := 2) rfl)) (fun _ h9 => h9) rfl dX6_find_49 ?_
  refine lv_iload hx hb dX6_find_52 (lv_at hl 0 rfl) ?_
  refine va_iald hx hb hK hP 1 0 rfl rfl (vin (by decide)) dX6_find_54 ?_
  refine lv_topi (fun v_4 ev_4 => ?_)
  obtain rfl : v_4 = 1 := ev_4.trans (by simp [upd])
  refine lv_istore (lv' := [(6, .int 1), (5, .int 0), (4, .int 1), (3, .int 1), (0, .ref h0), (1, .ref bq), (2, .int 1)]) hx hb dX6_find_55 hl (by decide) rfl (fun ls hl => ?_)
  refine lv_iload hx hb dX6_find_57 (lv_at hl 0 rfl) ?_
  refine lv_iload_n hx hb dX6_find_59 rfl (lv_at hl 6 rfl) ?_
  refine lv_iconst (v := (-1)) hx hb dX6_find_60 (by decide) ?_
  refine lv_ixor hx hb dX6_find_61 ?_
  refine lv_topi (fun v_5 ev_5 => ?_)
  obtain rfl : v_5 = (-2 : Int32) := ev_5.trans (by decide)
  refine lv_iand hx hb dX6_find_62 ?_
  refine lv_topi (fun v_6 ev_6 => ?_)
  obtain rfl : v_6 = (0 : Int32) := ev_6.trans (by decide)
  refine lv_if_ne (tgt := 74) hx hb dX6_find_63 (by decide) (fun c_7 => absurd c_7 (by decide)) (fun _ => ?_)
  refine lv_aload_n hx hb dX6_find_66 rfl (lv_at hl 4 rfl) ?_
  refine lv_iload_n hx hb dX6_find_67 rfl (lv_at hl 3 rfl) ?_
  refine lv_iload hx hb dX6_find_68 (lv_at hl 0 rfl) ?_
  refine go_i (wr := [(r1, .inl (d1, 256, .inl (upd f1 0 1))), (bq, .inr (0, [.ref la, .int 1, .int 1, .int 1])), (r2, .inl (d2, 256, .inl (upd (fl f2 (-1) 256) 1 1)))]) (tysr := [(d1, .int), (d2, .int)]) hP hD hS hA hK [0] [1, 2, 3] [0, 1] rfl rfl (by decide) (by decide) rfl (va_runV (As := [.int 1, .int 1]) (rest := []) ⟨hx, hb, hml, hown, hts⟩ (c_X6_keepRow l D H.size h0 r0 r1 r2 r3 ) (cwV 2 hts gX6_find_X6_keepRow rfl rfl rfl (by decide +kernel) ⟨Nat.le_of_ble_eq_true rfl, Nat.le_of_ble_eq_true rfl⟩) (st_preV (ci := 5) (q0 := 0) hP hD hK hNW [0] [] rfl rfl (by decide) rfl rfl rfl rfl) rfl rfl hl.1 rfl (lv_room (Nat.le_of_ble_eq_true rfl)) dX6_find_70 ⟨(Nat.le_of_ble_eq_true rfl), (Nat.le_of_ble_eq_true rfl)⟩) (fun r_8 u H locs hw hP hD hK hS => ?_)
  have hw : r_8 = 0 := hw
  subst hw
  have hP : va_P D vwCl [(r1, .inl (d1, 256, .inl (upd f1 0 1))), (bq, .inr (0, [.ref la, .int 1, .int 1, .int 1])), (r2, .inl (d2, 256, .inl (upd (fl f2 (-1) 256) 1 1))), (h0, .inr (5, [.ref r0, .ref r1, .ref r2, .ref r3, .int 0]))] H := hP
  have hD : va_D A [(r1, .inl (d1, 256, .inl (upd f1 0 1))), (bq, .inr (0, [.ref la, .int 1, .int 1, .int 1])), (r2, .inl (d2, 256, .inl (upd (fl f2 (-1) 256) 1 1))), (h0, .inr (5, [.ref r0, .ref r1, .ref r2, .ref r3, .int 0]))] := hD
  have hK : va_K D vwCl [(d1, .int), (d2, .int)] s := hK
  exact ret_i hx hb hr hlocks rfl (u := ()) rfl (hP.sub [] rfl) (hK.sub [] rfl) (hD.sub [] (by decide) rfl) hS (Nat.le_of_ble_eq_true rfl) (Nat.le_of_ble_eq_true rfl) dX6_find_73
