set_option maxHeartbeats 4000000 in
set_option maxRecDepth 100000 in
theorem c_X1_init (l : Launch) (D : va_G) (sz : Nat) (h0 : Nat)  : Cv l yX1_init wsX1_init ({ frames := 1, cells := 0, slots := 0, locals := 12 } : Room) D [.ref h0] [] [] sz (fun (_ : Unit) => True) (fun (_ : Unit) => []) (fun (_ : Unit) => []) := by
  refine ct_v (cc := cX1_init) (maxL := 1) (ret := none) (by decide) rfl (Nat.le_of_ble_eq_true rfl) ?_
  intro p e s m below meth c A ls H hx hb hr hts hown hml hlocks hin hA hS hP hK hD hNW hl hAe hsz
  have hl : lv_has ls 1 [(0, .ref h0)] := hl
  refine lv_aload_n hx hb dX1_init_0 rfl (lv_at hl 0 rfl) ?_
  refine W.objInit hx hb hown (hts (.methodLink RX1 1 objectInit) (List.mem_of_getElem? (i := 1) rfl)) (hts (.instanceMethod objectInit) (List.mem_of_getElem? (i := 2) rfl)) (hts (.code objectInit ⟨#[0xb1]⟩ 1 none) (List.mem_of_getElem? (i := 3) rfl)) rfl (by rw [hml]; exact hl.1) rfl dX1_init_1 (Nat.le_of_ble_eq_true rfl) (Nat.le_of_ble_eq_true rfl) ?_
  refine W.eq (g2 := F0 m 4 ls []) rfl ?_
  exact ret_v hx hb hr hlocks (u := ()) trivial (hP.sub [] rfl) (hK.sub [] rfl) (hD.sub [] (by decide) rfl) hS (Nat.le_of_ble_eq_true rfl) (Nat.le_of_ble_eq_true rfl) dX1_init_4
theorem hiX2_init_X2 : ∀ w ∈ wsX20, w ∈ wsX2_init := mem_pl [9, 10] rfl
set_option maxHeartbeats 4000000 in
set_option maxRecDepth 100000 in
theorem c_X2_init (l : Launch) (D : va_G) (sz : Nat) (h0 : Nat) (n : Int32) (pp : Int32)  : Cv l yX2_init wsX2_init ({ frames := 2, cells := 0, slots := 0, locals := 32 } : Room) D [.ref h0, .int n, .int pp] [(h0, .inr (1, [.int 0, .int 0]))] [] sz (fun (_ : Unit) => True) (fun (_ : Unit) => []) (fun (_ : Unit) => []) := by
  refine ct_v (cc := cX2_init) (maxL := 3) (ret := none) (by decide) rfl (Nat.le_of_ble_eq_true rfl) ?_
  intro p e s m below meth c A ls H hx hb hr hts hown hml hlocks hin hA hS hP hK hD hNW hl hAe hsz
  have hl : lv_has ls 3 [(0, .ref h0), (1, .int n), (2, .int pp)] := hl
  refine lv_aload_n hx hb dX2_init_0 rfl (lv_at hl 0 rfl) ?_
  refine go_v (wr := [(h0, .inr (1, [.int 0, .int 0]))]) (tysr := []) hP hD hS hA hK [] [0] [] rfl rfl (by decide) (by decide) rfl (va_runIN (As := []) (rest := []) ⟨hx, hb, hml, hown, hts⟩ (c_X1_init l D H.size h0 ) ⟨(va_cnB (own := RX2) (host := RX8) (index := 3) 0 hts gX2_init_X1_init_n3 rfl rfl rfl (hNW.2.1 (RX2, 3, yX1_init, RX8) (List.mem_of_getElem? (l := nw_M) (i := 3) rfl)) (hts (.initialized RX1) (List.mem_of_getElem? (i := 4) rfl)) (by decide +kernel) ⟨Nat.le_of_ble_eq_true rfl, Nat.le_of_ble_eq_true rfl⟩), rfl, (hts (.instanceMethod yX1_init) (List.mem_of_getElem? (i := 3) rfl))⟩ (st_preS hP hD hK hNW [] [] rfl rfl (by decide) rfl) rfl rfl hl.1 rfl (lv_room (Nat.le_of_ble_eq_true rfl)) dX2_init_1 ⟨(Nat.le_of_ble_eq_true rfl), (Nat.le_of_ble_eq_true rfl)⟩) (fun u H locs hw hP hD hK hS => ?_)
  have hP : va_P D vwCl [(h0, .inr (1, [.int 0, .int 0]))] H := hP
  have hD : va_D A [(h0, .inr (1, [.int 0, .int 0]))] := hD
  have hK : va_K D vwCl [] s := hK
  refine lv_aload_n hx hb dX2_init_4 rfl (lv_at hl 0 rfl) ?_
  refine lv_iload_n hx hb dX2_init_5 rfl (lv_at hl 1 rfl) ?_
  refine va_putF (D := D) (ci := 1) (v := .int n) (ty := .int) (C := RX2) (T := TX2) (N := 2) hx hb hts hiX2_init_X2 tyX2 tyX2_ok nmX2 hown hK hP hD hS 0 rfl rfl 0 (by decide) (hts (.fieldLink RX2 9 "OneHandset$HalvesForm" "bits" "I") (List.mem_of_getElem? (i := 1) rfl)) (fun _ h9 => h9) rfl hin rfl (by decide +kernel) rfl rfl (Nat.le_of_ble_eq_true rfl) dX2_init_6 (fun H locs hP hD hS => ?_)
  have hP : va_P D vwCl [(h0, .inr (1, [.int n, .int 0]))] H := hP
  have hD : va_D A [(h0, .inr (1, [.int n, .int 0]))] := hD
  refine lv_aload_n hx hb dX2_init_9 rfl (lv_at hl 0 rfl) ?_
  refine lv_iload_n hx hb dX2_init_10 rfl (lv_at hl 2 rfl) ?_
  refine va_putF (D := D) (ci := 1) (v := .int pp) (ty := .int) (C := RX2) (T := TX2) (N := 2) hx hb hts hiX2_init_X2 tyX2 tyX2_ok nmX2 hown hK hP hD hS 0 rfl rfl 1 (by decide) (hts (.fieldLink RX2 15 "OneHandset$HalvesForm" "p" "I") (List.mem_of_getElem? (i := 2) rfl)) (fun _ h9 => h9) rfl hin rfl (by decide +kernel) rfl rfl (Nat.le_of_ble_eq_true rfl) dX2_init_11 (fun H locs hP hD hS => ?_)
  have hP : va_P D vwCl [(h0, .inr (1, [.int n, .int pp]))] H := hP
  have hD : va_D A [(h0, .inr (1, [.int n, .int pp]))] := hD
  exact ret_v hx hb hr hlocks (u := ()) trivial (hP.sub [] rfl) (hK.sub [] rfl) (hD.sub [] (by decide) rfl) hS (Nat.le_of_ble_eq_true rfl) (Nat.le_of_ble_eq_true rfl) dX2_init_14
theorem hiX5_init0_X5 : ∀ w ∈ wsX50, w ∈ wsX5_init := mem_pl [15, 16, 17, 18, 19, 20, 21, 22] rfl
set_option maxHeartbeats 4000000 in
set_option maxRecDepth 100000 in
theorem c_X5_init0 (l : Launch) (D : va_G) (sz : Nat) (h0 : Nat) (n : Int32) (a : Int32) (b : Int32) (pp : Int32) (z : Int32) (o : Int32)  : Cv l yX5_init wsX5_init ({ frames := 2, cells := 0, slots := 0, locals := 32 } : Room) D [.ref h0, .int 0, .int n, .int a, .int b, .int pp, .int z, .int o] [(h0, .inr (4, [.int 0, .int 0, .int 0, .int 0, .int 0, .int 0, .int 0, .int 0]))] [] sz (fun (_ : Unit) => True) (fun (_ : Unit) => []) (fun (_ : Unit) => []) := by
  refine ct_v (cc := cX5_init) (maxL := 8) (ret := none) (by decide) rfl (Nat.le_of_ble_eq_true rfl) ?_
  intro p e s m below meth c A ls H hx hb hr hts hown hml hlocks hin hA hS hP hK hD hNW hl hAe hsz
  have hl : lv_has ls 8 [(0, .ref h0), (1, .int 0), (2, .int n), (3, .int a), (4, .int b), (5, .int pp), (6, .int z), (7, .int o)] := hl
  refine lv_aload_n hx hb dX5_init_0 rfl (lv_at hl 0 rfl) ?_
  refine go_v (wr := [(h0, .inr (4, [.int 0, .int 0, .int 0, .int 0, .int 0, .int 0, .int 0, .int 0]))]) (tysr := []) hP hD hS hA hK [] [0] [] rfl rfl (by decide) (by decide) rfl (va_runIN (As := []) (rest := []) ⟨hx, hb, hml, hown, hts⟩ (c_X1_init l D H.size h0 ) ⟨(va_cnB (own := RX5) (host := RX8) (index := 3) 0 hts gX5_init_X1_init_n3 rfl rfl rfl (hNW.2.1 (RX5, 3, yX1_init, RX8) (List.mem_of_getElem? (l := nw_M) (i := 4) rfl)) (hts (.initialized RX1) (List.mem_of_getElem? (i := 10) rfl)) (by decide +kernel) ⟨Nat.le_of_ble_eq_true rfl, Nat.le_of_ble_eq_true rfl⟩), rfl, (hts (.instanceMethod yX1_init) (List.mem_of_getElem? (i := 9) rfl))⟩ (st_preS hP hD hK hNW [] [] rfl rfl (by decide) rfl) rfl rfl hl.1 rfl (lv_room (Nat.le_of_ble_eq_true rfl)) dX5_init_1 ⟨(Nat.le_of_ble_eq_true rfl), (Nat.le_of_ble_eq_true rfl)⟩) (fun u H locs hw hP hD hK hS => ?_)
  have hP : va_P D vwCl [(h0, .inr (4, [.int 0, .int 0, .int 0, .int 0, .int 0, .int 0, .int 0, .int 0]))] H := hP
  have hD : va_D A [(h0, .inr (4, [.int 0, .int 0, .int 0, .int 0, .int 0, .int 0, .int 0, .int 0]))] := hD
  have hK : va_K D vwCl [] s := hK
  refine lv_aload_n hx hb dX5_init_4 rfl (lv_at hl 0 rfl) ?_
  refine lv_iload_n hx hb dX5_init_5 rfl (lv_at hl 1 rfl) ?_
  refine va_putF (D := D) (ci := 4) (v := .int 0) (ty := .boolean) (C := RX5) (T := TX5) (N := 8) hx hb hts hiX5_init0_X5 tyX5 tyX5_ok nmX5 hown hK hP hD hS 0 rfl rfl 0 (by decide) (hts (.fieldLink RX5 9 "OneHandset$PairsForm" "onTellsBit" "Z") (List.mem_of_getElem? (i := 1) rfl)) (fun _ h9 => h9) rfl hin rfl (by decide +kernel) rfl rfl (Nat.le_of_ble_eq_true rfl) dX5_init_6 (fun H locs hP hD hS => ?_)
  have hP : va_P D vwCl [(h0, .inr (4, [.int 0, .int 0, .int 0, .int 0, .int 0, .int 0, .int 0, .int 0]))] H := hP
  have hD : va_D A [(h0, .inr (4, [.int 0, .int 0, .int 0, .int 0, .int 0, .int 0, .int 0, .int 0]))] := hD
  refine lv_aload_n hx hb dX5_init_9 rfl (lv_at hl 0 rfl) ?_
  refine lv_iload_n hx hb dX5_init_10 rfl (lv_at hl 2 rfl) ?_
  refine va_putF (D := D) (ci := 4) (v := .int n) (ty := .int) (C := RX5) (T := TX5) (N := 8) hx hb hts hiX5_init0_X5 tyX5 tyX5_ok nmX5 hown hK hP hD hS 0 rfl rfl 1 (by decide) (hts (.fieldLink RX5 15 "OneHandset$PairsForm" "bits" "I") (List.mem_of_getElem? (i := 2) rfl)) (fun _ h9 => h9) rfl hin rfl (by decide +kernel) rfl rfl (Nat.le_of_ble_eq_true rfl) dX5_init_11 (fun H locs hP hD hS => ?_)
  have hP : va_P D vwCl [(h0, .inr (4, [.int 0, .int n, .int 0, .int 0, .int 0, .int 0, .int 0, .int 0]))] H := hP
  have hD : va_D A [(h0, .inr (4, [.int 0, .int n, .int 0, .int 0, .int 0, .int 0, .int 0, .int 0]))] := hD
  refine lv_aload_n hx hb dX5_init_14 rfl (lv_at hl 0 rfl) ?_
  refine lv_iload_n hx hb dX5_init_15 rfl (lv_at hl 3 rfl) ?_
  refine va_putF (D := D) (ci := 4) (v := .int a) (ty := .int) (C := RX5) (T := TX5) (N := 8) hx hb hts hiX5_init0_X5 tyX5 tyX5_ok nmX5 hown hK hP hD hS 0 rfl rfl 2 (by decide) (hts (.fieldLink RX5 19 "OneHandset$PairsForm" "a" "I") (List.mem_of_getElem? (i := 3) rfl)) (fun _ h9 => h9) rfl hin rfl (by decide +kernel) rfl rfl (Nat.le_of_ble_eq_true rfl) dX5_init_16 (fun H locs hP hD hS => ?_)
  have hP : va_P D vwCl [(h0, .inr (4, [.int 0, .int n, .int a, .int 0, .int 0, .int 0, .int 0, .int 0]))] H := hP
  have hD : va_D A [(h0, .inr (4, [.int 0, .int n, .int a, .int 0, .int 0, .int 0, .int 0, .int 0]))] := hD
  refine lv_aload_n hx hb dX5_init_19 rfl (lv_at hl 0 rfl) ?_
  refine lv_iload hx hb dX5_init_20 (lv_at hl 4 rfl) ?_
  refine va_putF (D := D) (ci := 4) (v := .int b) (ty := .int) (C := RX5) (T := TX5) (N := 8) hx hb hts hiX5_init0_X5 tyX5 tyX5_ok nmX5 hown hK hP hD hS 0 rfl rfl 3 (by decide) (hts (.fieldLink RX5 22 "OneHandset$PairsForm" "b" "I") (List.mem_of_getElem? (i := 4) rfl)) (fun _ h9 => h9) rfl hin rfl (by decide +kernel) rfl rfl (Nat.le_of_ble_eq_true rfl) dX5_init_22 (fun H locs hP hD hS => ?_)
  have hP : va_P D vwCl [(h0, .inr (4, [.int 0, .int n, .int a, .int b, .int 0, .int 0, .int 0, .int 0]))] H := hP
  have hD : va_D A [(h0, .inr (4, [.int 0, .int n, .int a, .int b, .int 0, .int 0, .int 0, .int 0]))] := hD
  refine lv_aload_n hx hb dX5_init_25 rfl (lv_at hl 0 rfl) ?_
  refine lv_iload hx hb dX5_init_26 (lv_at hl 5 rfl) ?_
  refine va_putF (D := D) (ci := 4) (v := .int pp) (ty := .int) (C := RX5) (T := TX5) (N := 8) hx hb hts hiX5_init0_X5 tyX5 tyX5_ok nmX5 hown hK hP hD hS 0 rfl rfl 4 (by decide) (hts (.fieldLink RX5 25 "OneHandset$PairsForm" "p" "I") (List.mem_of_getElem? (i := 5) rfl)) (fun _ h9 => h9) rfl hin rfl (by decide +kernel) rfl rfl (Nat.le_of_ble_eq_true rfl) dX5_init_28 (fun H locs hP hD hS => ?_)
  have hP : va_P D vwCl [(h0, .inr (4, [.int 0, .int n, .int a, .int b, .int pp, .int 0, .int 0, .int 0]))] H := hP
  have hD : va_D A [(h0, .inr (4, [.int 0, .int n, .int a, .int b, .int pp, .int 0, .int 0, .int 0]))] := hD
  refine lv_aload_n hx hb dX5_init_31 rfl (lv_at hl 0 rfl) ?_
  refine lv_iload hx hb dX5_init_32 (lv_at hl 6 rfl) ?_
  refine va_putF (D := D) (ci := 4) (v := .int z) (ty := .int) (C := RX5) (T := TX5) (N := 8) hx hb hts hiX5_init0_X5 tyX5 tyX5_ok nmX5 hown hK hP hD hS 0 rfl rfl 5 (by decide) (hts (.fieldLink RX5 28 "OneHandset$PairsForm" "z" "I") (List.mem_of_getElem? (i := 6) rfl)) (fun _ h9 => h9) rfl hin rfl (by decide +kernel) rfl rfl (Nat.le_of_ble_eq_true rfl) dX5_init_34 (fun H locs hP hD hS => ?_)
  have hP : va_P D vwCl [(h0, .inr (4, [.int 0, .int n, .int a, .int b, .int pp, .int z, .int 0, .int 0]))] H := hP
  have hD : va_D A [(h0, .inr (4, [.int 0, .int n, .int a, .int b, .int pp, .int z, .int 0, .int 0]))] := hD
  refine lv_aload_n hx hb dX5_init_37 rfl (lv_at hl 0 rfl) ?_
  refine lv_iload hx hb dX5_init_38 (lv_at hl 7 rfl) ?_
  refine va_putF (D := D) (ci := 4) (v := .int o) (ty := .int) (C := RX5) (T := TX5) (N := 8) hx hb hts hiX5_init0_X5 tyX5 tyX5_ok nmX5 hown hK hP hD hS 0 rfl rfl 6 (by decide) (hts (.fieldLink RX5 31 "OneHandset$PairsForm" "o" "I") (List.mem_of_getElem? (i := 7) rfl)) (fun _ h9 => h9) rfl hin rfl (by decide +kernel) rfl rfl (Nat.le_of_ble_eq_true rfl) dX5_init_40 (fun H locs hP hD hS => ?_)
  have hP : va_P D vwCl [(h0, .inr (4, [.int 0, .int n, .int a, .int b, .int pp, .int z, .int o, .int 0]))] H := hP
  have hD : va_D A [(h0, .inr (4, [.int 0, .int n, .int a, .int b, .int pp, .int z, .int o, .int 0]))] := hD
  refine lv_aload_n hx hb dX5_init_43 rfl (lv_at hl 0 rfl) ?_
  refine lv_iload_n hx hb dX5_init_44 rfl (lv_at hl 1 rfl) ?_
  refine lv_if_eq (tgt := 56) hx hb dX5_init_45 (by decide) (fun _ => ?_) (fun c_2 => absurd (by decide) c_2)
  refine lv_iconst (v := 2) hx hb dX5_init_56 (by decide) ?_
  refine lv_iload_n hx hb dX5_init_57 rfl (lv_at hl 2 rfl) ?_
  refine lv_imul hx hb dX5_init_58 ?_
  refine lv_iconst (v := 3) hx hb dX5_init_59 (by decide) ?_
  refine lv_iadd hx hb dX5_init_60 ?_
  refine va_putF (D := D) (ci := 4) (v := .int ((2 * n) + 3)) (ty := .int) (C := RX5) (T := TX5) (N := 8) hx hb hts hiX5_init0_X5 tyX5 tyX5_ok nmX5 hown hK hP hD hS 0 rfl rfl 7 (by decide) (hts (.fieldLink RX5 34 "OneHandset$PairsForm" "length" "I") (List.mem_of_getElem? (i := 8) rfl)) (fun _ h9 => h9) rfl hin rfl (by decide +kernel) rfl rfl (Nat.le_of_ble_eq_true rfl) dX5_init_61 (fun H locs hP hD hS => ?_)
  have hP : va_P D vwCl [(h0, .inr (4, [.int 0, .int n, .int a, .int b, .int pp, .int z, .int o, .int ((2 * n) + 3)]))] H := hP
  have hD : va_D A [(h0, .inr (4, [.int 0, .int n, .int a, .int b, .int pp, .int z, .int o, .int ((2 * n) + 3)]))] := hD
  exact ret_v hx hb hr hlocks (u := ()) trivial (hP.sub [] rfl) (hK.sub [] rfl) (hD.sub [] (by decide) rfl) hS (Nat.le_of_ble_eq_true rfl) (Nat.le_of_ble_eq_true rfl) dX5_init_64
theorem hiX5_init1_X5 : ∀ w ∈ wsX50, w ∈ wsX5_init := mem_pl [15, 16, 17, 18, 19, 20, 21, 22] rfl
set_option maxHeartbeats 4000000 in
set_option maxRecDepth 100000 in
theorem c_X5_init1 (l : Launch) (D : va_G) (sz : Nat) (h0 : Nat) (n : Int32) (a : Int32) (b : Int32) (pp : Int32) (z : Int32) (o : Int32)  : Cv l yX5_init wsX5_init ({ frames := 2, cells := 0, slots := 0, locals := 32 } : Room) D [.ref h0, .int 1, .int n, .int a, .int b, .int pp, .int z, .int o] [(h0, .inr (4, [.int 0, .int 0, .int 0, .int 0, .int 0, .int 0, .int 0, .int 0]))] [] sz (fun (_ : Unit) => True) (fun (_ : Unit) => []) (fun (_ : Unit) => []) := by
  refine ct_v (cc := cX5_init) (maxL := 8) (ret := none) (by decide) rfl (Nat.le_of_ble_eq_true rfl) ?_
  intro p e s m below meth c A ls H hx hb hr hts hown hml hlocks hin hA hS hP hK hD hNW hl hAe hsz
  have hl : lv_has ls 8 [(0, .ref h0), (1, .int 1), (2, .int n), (3, .int a), (4, .int b), (5, .int pp), (6, .int z), (7, .int o)] := hl
  refine lv_aload_n hx hb dX5_init_0 rfl (lv_at hl 0 rfl) ?_
  refine go_v (wr := [(h0, .inr (4, [.int 0, .int 0, .int 0, .int 0, .int 0, .int 0, .int 0, .int 0]))]) (tysr := []) hP hD hS hA hK [] [0] [] rfl rfl (by decide) (by decide) rfl (va_runIN (As := []) (rest := []) ⟨hx, hb, hml, hown, hts⟩ (c_X1_init l D H.size h0 ) ⟨(va_cnB (own := RX5) (host := RX8) (index := 3) 0 hts gX5_init_X1_init_n3 rfl rfl rfl (hNW.2.1 (RX5, 3, yX1_init, RX8) (List.mem_of_getElem? (l := nw_M) (i := 4) rfl)) (hts (.initialized RX1) (List.mem_of_getElem? (i := 10) rfl)) (by decide +kernel) ⟨Nat.le_of_ble_eq_true rfl, Nat.le_of_ble_eq_true rfl⟩), rfl, (hts (.instanceMethod yX1_init) (List.mem_of_getElem? (i := 9) rfl))⟩ (st_preS hP hD hK hNW [] [] rfl rfl (by decide) rfl) rfl rfl hl.1 rfl (lv_room (Nat.le_of_ble_eq_true rfl)) dX5_init_1 ⟨(Nat.le_of_ble_eq_true rfl), (Nat.le_of_ble_eq_true rfl)⟩) (fun u H locs hw hP hD hK hS => ?_)
  have hP : va_P D vwCl [(h0, .inr (4, [.int 0, .int 0, .int 0, .int 0, .int 0, .int 0, .int 0, .int 0]))] H := hP
  have hD : va_D A [(h0, .inr (4, [.int 0, .int 0, .int 0, .int 0, .int 0, .int 0, .int 0, .int 0]))] := hD
  have hK : va_K D vwCl [] s := hK
  refine lv_aload_n hx hb dX5_init_4 rfl (lv_at hl 0 rfl) ?_
  refine lv_iload_n hx hb dX5_init_5 rfl (lv_at hl 1 rfl) ?_
  refine va_putF (D := D) (ci := 4) (v := .int 1) (ty := .boolean) (C := RX5) (T := TX5) (N := 8) hx hb hts hiX5_init1_X5 tyX5 tyX5_ok nmX5 hown hK hP hD hS 0 rfl rfl 0 (by decide) (hts (.fieldLink RX5 9 "OneHandset$PairsForm" "onTellsBit" "Z") (List.mem_of_getElem? (i := 1) rfl)) (fun _ h9 => h9) rfl hin rfl (by decide +kernel) rfl rfl (Nat.le_of_ble_eq_true rfl) dX5_init_6 (fun H locs hP hD hS => ?_)
  have hP : va_P D vwCl [(h0, .inr (4, [.int 1, .int 0, .int 0, .int 0, .int 0, .int 0, .int 0, .int 0]))] H := hP
  have hD : va_D A [(h0, .inr (4, [.int 1, .int 0, .int 0, .int 0, .int 0, .int 0, .int 0, .int 0]))] := hD
  refine lv_aload_n hx hb dX5_init_9 rfl (lv_at hl 0 rfl) ?_
  refine lv_iload_n hx hb dX5_init_10 rfl (lv_at hl 2 rfl) ?_
  refine va_putF (D := D) (ci := 4) (v := .int n) (ty := .int) (C := RX5) (T := TX5) (N := 8) hx hb hts hiX5_init1_X5 tyX5 tyX5_ok nmX5 hown hK hP hD hS 0 rfl rfl 1 (by decide) (hts (.fieldLink RX5 15 "OneHandset$PairsForm" "bits" "I") (List.mem_of_getElem? (i := 2) rfl)) (fun _ h9 => h9) rfl hin rfl (by decide +kernel) rfl rfl (Nat.le_of_ble_eq_true rfl) dX5_init_11 (fun H locs hP hD hS => ?_)
  have hP : va_P D vwCl [(h0, .inr (4, [.int 1, .int n, .int 0, .int 0, .int 0, .int 0, .int 0, .int 0]))] H := hP
  have hD : va_D A [(h0, .inr (4, [.int 1, .int n, .int 0, .int 0, .int 0, .int 0, .int 0, .int 0]))] := hD
  refine lv_aload_n hx hb dX5_init_14 rfl (lv_at hl 0 rfl) ?_
  refine lv_iload_n hx hb dX5_init_15 rfl (lv_at hl 3 rfl) ?_
  refine va_putF (D := D) (ci := 4) (v := .int a) (ty := .int) (C := RX5) (T := TX5) (N := 8) hx hb hts hiX5_init1_X5 tyX5 tyX5_ok nmX5 hown hK hP hD hS 0 rfl rfl 2 (by decide) (hts (.fieldLink RX5 19 "OneHandset$PairsForm" "a" "I") (List.mem_of_getElem? (i := 3) rfl)) (fun _ h9 => h9) rfl hin rfl (by decide +kernel) rfl rfl (Nat.le_of_ble_eq_true rfl) dX5_init_16 (fun H locs hP hD hS => ?_)
  have hP : va_P D vwCl [(h0, .inr (4, [.int 1, .int n, .int a, .int 0, .int 0, .int 0, .int 0, .int 0]))] H := hP
  have hD : va_D A [(h0, .inr (4, [.int 1, .int n, .int a, .int 0, .int 0, .int 0, .int 0, .int 0]))] := hD
  refine lv_aload_n hx hb dX5_init_19 rfl (lv_at hl 0 rfl) ?_
  refine lv_iload hx hb dX5_init_20 (lv_at hl 4 rfl) ?_
  refine va_putF (D := D) (ci := 4) (v := .int b) (ty := .int) (C := RX5) (T := TX5) (N := 8) hx hb hts hiX5_init1_X5 tyX5 tyX5_ok nmX5 hown hK hP hD hS 0 rfl rfl 3 (by decide) (hts (.fieldLink RX5 22 "OneHandset$PairsForm" "b" "I") (List.mem_of_getElem? (i := 4) rfl)) (fun _ h9 => h9) rfl hin rfl (by decide +kernel) rfl rfl (Nat.le_of_ble_eq_true rfl) dX5_init_22 (fun H locs hP hD hS => ?_)
  have hP : va_P D vwCl [(h0, .inr (4, [.int 1, .int n, .int a, .int b, .int 0, .int 0, .int 0, .int 0]))] H := hP
  have hD : va_D A [(h0, .inr (4, [.int 1, .int n, .int a, .int b, .int 0, .int 0, .int 0, .int 0]))] := hD
  refine lv_aload_n hx hb dX5_init_25 rfl (lv_at hl 0 rfl) ?_
  refine lv_iload hx hb dX5_init_26 (lv_at hl 5 rfl) ?_
  refine va_putF (D := D) (ci := 4) (v := .int pp) (ty := .int) (C := RX5) (T := TX5) (N := 8) hx hb hts hiX5_init1_X5 tyX5 tyX5_ok nmX5 hown hK hP hD hS 0 rfl rfl 4 (by decide) (hts (.fieldLink RX5 25 "OneHandset$PairsForm" "p" "I") (List.mem_of_getElem? (i := 5) rfl)) (fun _ h9 => h9) rfl hin rfl (by decide +kernel) rfl rfl (Nat.le_of_ble_eq_true rfl) dX5_init_28 (fun H locs hP hD hS => ?_)
  have hP : va_P D vwCl [(h0, .inr (4, [.int 1, .int n, .int a, .int b, .int pp, .int 0, .int 0, .int 0]))] H := hP
  have hD : va_D A [(h0, .inr (4, [.int 1, .int n, .int a, .int b, .int pp, .int 0, .int 0, .int 0]))] := hD
  refine lv_aload_n hx hb dX5_init_31 rfl (lv_at hl 0 rfl) ?_
  refine lv_iload hx hb dX5_init_32 (lv_at hl 6 rfl) ?_
  refine va_putF (D := D) (ci := 4) (v := .int z) (ty := .int) (C := RX5) (T := TX5) (N := 8) hx hb hts hiX5_init1_X5 tyX5 tyX5_ok nmX5 hown hK hP hD hS 0 rfl rfl 5 (by decide) (hts (.fieldLink RX5 28 "OneHandset$PairsForm" "z" "I") (List.mem_of_getElem? (i := 6) rfl)) (fun _ h9 => h9) rfl hin rfl (by decide +kernel) rfl rfl (Nat.le_of_ble_eq_true rfl) dX5_init_34 (fun H locs hP hD hS => ?_)
  have hP : va_P D vwCl [(h0, .inr (4, [.int 1, .int n, .int a, .int b, .int pp, .int z, .int 0, .int 0]))] H := hP
  have hD : va_D A [(h0, .inr (4, [.int 1, .int n, .int a, .int b, .int pp, .int z, .int 0, .int 0]))] := hD
  refine lv_aload_n hx hb dX5_init_37 rfl (lv_at hl 0 rfl) ?_
  refine lv_iload hx hb dX5_init_38 (lv_at hl 7 rfl) ?_
  refine va_putF (D := D) (ci := 4) (v := .int o) (ty := .int) (C := RX5) (T := TX5) (N := 8) hx hb hts hiX5_init1_X5 tyX5 tyX5_ok nmX5 hown hK hP hD hS 0 rfl rfl 6 (by decide) (hts (.fieldLink RX5 31 "OneHandset$PairsForm" "o" "I") (List.mem_of_getElem? (i := 7) rfl)) (fun _ h9 => h9) rfl hin rfl (by decide +kernel) rfl rfl (Nat.le_of_ble_eq_true rfl) dX5_init_40 (fun H locs hP hD hS => ?_)
  have hP : va_P D vwCl [(h0, .inr (4, [.int 1, .int n, .int a, .int b, .int pp, .int z, .int o, .int 0]))] H := hP
  have hD : va_D A [(h0, .inr (4, [.int 1, .int n, .int a, .int b, .int pp, .int z, .int o, .int 0]))] := hD
  refine lv_aload_n hx hb dX5_init_43 rfl (lv_at hl 0 rfl) ?_
  refine lv_iload_n hx hb dX5_init_44 rfl (lv_at hl 1 rfl) ?_
  refine lv_if_eq (tgt := 56) hx hb dX5_init_45 (by decide) (fun c_2 => absurd c_2 (by decide)) (fun _ => ?_)
  refine lv_iconst (v := 2) hx hb dX5_init_48 (by decide) ?_
  refine lv_iload_n hx hb dX5_init_49 rfl (lv_at hl 2 rfl) ?_
  refine lv_imul hx hb dX5_init_50 ?_
  refine lv_iconst (v := 1) hx hb dX5_init_51 (by decide) ?_
  refine lv_iadd hx hb dX5_init_52 ?_
  refine lv_goto (tgt := 61) hx hb dX5_init_53 (by decide) ?_
  refine va_putF (D := D) (ci := 4) (v := .int ((2 * n) + 1)) (ty := .int) (C := RX5) (T := TX5) (N := 8) hx hb hts hiX5_init1_X5 tyX5 tyX5_ok nmX5 hown hK hP hD hS 0 rfl rfl 7 (by decide) (hts (.fieldLink RX5 34 "OneHandset$PairsForm" "length" "I") (List.mem_of_getElem? (i := 8) rfl)) (fun _ h9 => h9) rfl hin rfl (by decide +kernel) rfl rfl (Nat.le_of_ble_eq_true rfl) dX5_init_61 (fun H locs hP hD hS => ?_)
  have hP : va_P D vwCl [(h0, .inr (4, [.int 1, .int n, .int a, .int b, .int pp, .int z, .int o, .int ((2 * n) + 1)]))] H := hP
  have hD : va_D A [(h0, .inr (4, [.int 1, .int n, .int a, .int b, .int pp, .int z, .int o, .int ((2 * n) + 1)]))] := hD
  exact ret_v hx hb hr hlocks (u := ()) trivial (hP.sub [] rfl) (hK.sub [] rfl) (hD.sub [] (by decide) rfl) hS (Nat.le_of_ble_eq_true rfl) (Nat.le_of_ble_eq_true rfl) dX5_init_64
theorem hiX3_isCheck_X3 : ∀ w ∈ wsX30, w ∈ wsX3_isCheck := mem_pl [3, 4, 5, 6, 7, 8, 9, 10] rfl
set_option maxHeartbeats 4000000 in
set_option maxRecDepth 100000 in
theorem c_X3_isCheck (l : Launch) (D : va_G) (sz : Nat) (h0 : Nat) (ca : Nat) (cc : Nat) (kb : Int32) (kf : Int32) (kg : Int32) (kl : Int32) (kx : Int32) (ko : Int32) (rule : Int32)  : Ci l yX3_isCheck wsX3_isCheck ({ frames := 0, cells := 0, slots := 0, locals := 0 } : Room) D [.ref h0, .int rule] [(h0, .inr (2, [.int kb, .ref ca, .ref cc, .int kf, .int kg, .int kl, .int kx, .int ko]))] [] sz (fun (r : Int32) => fun (_ : Unit) => True) (fun (_ : Unit) => [(h0, .inr (2, [.int kb, .ref ca, .ref cc, .int kf, .int kg, .int kl, .int kx, .int ko]))]) (fun (_ : Unit) => []) := by
  refine ct_i (cc := cX3_isCheck) (maxL := 2) (ret := (some .boolean)) (by decide) rfl (Nat.le_of_ble_eq_true rfl) ?_
  intro p e s m below meth c A ls H hx hb hr hts hown hml hlocks hin hA hS hP hK hD hNW hl hAe hsz
  have hl : lv_has ls 2 [(0, .ref h0), (1, .int rule)] := hl
  refine lv_aload_n hx hb dX3_isCheck_0 rfl (lv_at hl 0 rfl) ?_
  refine va_get (D := D) (ci := 2) (v := .int kb) (C := RX3) (T := TX3) (N := 8) hx hb hts hiX3_isCheck_X3 hown hK hP 0 rfl rfl 0 (by decide) (hts (.fieldLink RX3 18 "OneHandset$Keys" "bits" "I") (List.mem_of_getElem? (i := 1) rfl)) (fun _ h9 => h9) rfl dX3_isCheck_1 ?_
  refine lv_iconst (v := 4) hx hb dX3_isCheck_4 (by decide) ?_
  refine lv_icmp_le (tgt := 34) hx hb dX3_isCheck_5 (by decide) (fun c_1 => ?_) (fun c_1 => ?_)
  · refine lv_iconst (v := 0) hx hb dX3_isCheck_34 (by decide) ?_
    exact ret_i hx hb hr hlocks rfl (u := ()) trivial (hP.sub [0] rfl) (hK.sub [] rfl) (hD.sub [0] (by decide) rfl) hS (Nat.le_of_ble_eq_true rfl) (Nat.le_of_ble_eq_true rfl) dX3_isCheck_35
  refine lv_iload_n hx hb dX3_isCheck_8 rfl (lv_at hl 1 rfl) ?_
  refine lv_iconst (v := 3) hx hb dX3_isCheck_9 (by decide) ?_
  refine lv_icmp_ne (tgt := 30) hx hb dX3_isCheck_10 (by decide) (fun c_2 => ?_) (fun c_2 => ?_)
  · refine lv_iconst (v := 1) hx hb dX3_isCheck_30 (by decide) ?_
    refine lv_goto (tgt := 35) hx hb dX3_isCheck_31 (by decide) ?_
    exact ret_i hx hb hr hlocks rfl (u := ()) trivial (hP.sub [0] rfl) (hK.sub [] rfl) (hD.sub [0] (by decide) rfl) hS (Nat.le_of_ble_eq_true rfl) (Nat.le_of_ble_eq_true rfl) dX3_isCheck_35
  refine lv_aload_n hx hb dX3_isCheck_13 rfl (lv_at hl 0 rfl) ?_
  refine va_get (D := D) (ci := 2) (v := .int kb) (C := RX3) (T := TX3) (N := 8) hx hb hts hiX3_isCheck_X3 hown hK hP 0 rfl rfl 0 (by decide) (hts (.fieldLink RX3 18 "OneHandset$Keys" "bits" "I") (List.mem_of_getElem? (i := 1) rfl)) (fun _ h9 => h9) rfl dX3_isCheck_14 ?_
  refine lv_iconst (v := 2) hx hb dX3_isCheck_17 (by decide) ?_
  refine lv_irem hx hb dX3_isCheck_18 (by decide) ?_
  refine lv_if_ne (tgt := 34) hx hb dX3_isCheck_19 (by decide) (fun c_3 => ?_) (fun c_3 => ?_)
  · refine lv_iconst (v := 0) hx hb dX3_isCheck_34 (by decide) ?_
    exact ret_i hx hb hr hlocks rfl (u := ()) trivial (hP.sub [0] rfl) (hK.sub [] rfl) (hD.sub [0] (by decide) rfl) hS (Nat.le_of_ble_eq_true rfl) (Nat.le_of_ble_eq_true rfl) dX3_isCheck_35
  refine lv_aload_n hx hb dX3_isCheck_22 rfl (lv_at hl 0 rfl) ?_
  refine va_get (D := D) (ci := 2) (v := .int kf) (C := RX3) (T := TX3) (N := 8) hx hb hts hiX3_isCheck_X3 hown hK hP 0 rfl rfl 3 (by decide) (hts (.fieldLink RX3 26 "OneHandset$Keys" "flip" "I") (List.mem_of_getElem? (i := 2) rfl)) (fun _ h9 => h9) rfl dX3_isCheck_23 ?_
  refine lv_iconst (v := (-1)) hx hb dX3_isCheck_26 (by decide) ?_
  refine lv_icmp_ne (tgt := 34) hx hb dX3_isCheck_27 (by decide) (fun c_4 => ?_) (fun c_4 => ?_)
  · refine lv_iconst (v := 0) hx hb dX3_isCheck_34 (by decide) ?_
    exact ret_i hx hb hr hlocks rfl (u := ()) trivial (hP.sub [0] rfl) (hK.sub [] rfl) (hD.sub [0] (by decide) rfl) hS (Nat.le_of_ble_eq_true rfl) (Nat.le_of_ble_eq_true rfl) dX3_isCheck_35
  refine lv_iconst (v := 1) hx hb dX3_isCheck_30 (by decide) ?_
  refine lv_goto (tgt := 35) hx hb dX3_isCheck_31 (by decide) ?_
  exact ret_i hx hb hr hlocks rfl (u := ()) trivial (hP.sub [0] rfl) (hK.sub [] rfl) (hD.sub [0] (by decide) rfl) hS (Nat.le_of_ble_eq_true rfl) (Nat.le_of_ble_eq_true rfl) dX3_isCheck_35
theorem hiX3_compareAll_X3 : ∀ w ∈ wsX30, w ∈ wsX3_compareAll := mem_pl [32, 33, 34, 35, 36, 37, 38, 39] rfl
set_option maxHeartbeats 4000000 in
set_option maxRecDepth 100000 in
theorem c_X3_compareAll (l : Launch) (D : va_G) (sz : Nat) (h0 : Nat) (ca : Nat) (cc : Nat) (cA : ClassId) (cB : ClassId) (f : Nat → Int32) (g : Nat → Int32) (kb : Int32) (kf : Int32) (kg : Int32) (kl : Int32) (kx : Int32) (ko : Int32)  : Cv l yX3_compareAll wsX3_compareAll ({ frames := 1, cells := 0, slots := 0, locals := 21 } : Room) D [.ref h0] [(h0, .inr (2, [.int kb, .ref ca, .ref cc, .int kf, .int kg, .int kl, .int kx, .int ko])), (ca, .inl (cA, 16, .inl (fl f (-1) 16))), (cc, .inl (cB, 4, .inl g))] [(cA, .int), (cB, .int)] sz (fun (_ : Unit) => True) (fun (_ : Unit) => []) (fun (_ : Unit) => []) := by
  refine ct_v (cc := cX3_compareAll) (maxL := 4) (ret := none) (by decide) rfl (Nat.le_of_ble_eq_true rfl) ?_
  intro p e s m below meth c A ls H hx hb hr hts hown hml hlocks hin hA hS hP hK hD hNW hl hAe hsz
  have hl : lv_has ls 4 [(0, .ref h0)] := hl
  refine lv_aload_n hx hb dX3_compareAll_0 rfl (lv_at hl 0 rfl) ?_
  refine lv_iconst (v := 0) hx hb dX3_compareAll_1 (by decide) ?_
  refine va_put (D := D) (ci := 2) (v := .int 0) (ty := .int) (C := RX3) (T := TX3) (N := 8) hx hb hts hiX3_compareAll_X3 tyX3 tyX3_ok nmX3 hown hK hP hD hS 0 rfl rfl 5 (by decide) (hts (.fieldLink RX3 57 "OneHandset$Keys" "learnt" "I") (List.mem_of_getElem? (i := 1) rfl)) (fun _ h9 => h9) rfl (by decide +kernel) rfl rfl (Nat.le_of_ble_eq_true rfl) dX3_compareAll_2 (fun H locs hP hD hS => ?_)
  have hP : va_P D vwCl [(h0, .inr (2, [.int kb, .ref ca, .ref cc, .int kf, .int kg, .int 0, .int kx, .int ko])), (ca, .inl (cA, 16, .inl (fl f (-1) 16))), (cc, .inl (cB, 4, .inl g))] H := hP
  have hD : va_D A [(h0, .inr (2, [.int kb, .ref ca, .ref cc, .int kf, .int kg, .int 0, .int kx, .int ko])), (ca, .inl (cA, 16, .inl (fl f (-1) 16))), (cc, .inl (cB, 4, .inl g))] := hD
  refine lv_aload_n hx hb dX3_compareAll_5 rfl (lv_at hl 0 rfl) ?_
  refine va_get (D := D) (ci := 2) (v := .int kb) (C := RX3) (T := TX3) (N := 8) hx hb hts hiX3_compareAll_X3 hown hK hP 0 rfl rfl 0 (by decide) (hts (.fieldLink RX3 18 "OneHandset$Keys" "bits" "I") (List.mem_of_getElem? (i := 2) rfl)) (fun _ h9 => h9) rfl dX3_compareAll_6 ?_
  refine go_i (wr := [(h0, .inr (2, [.int kb, .ref ca, .ref cc, .int kf, .int kg, .int 0, .int kx, .int ko])), (ca, .inl (cA, 16, .inl (fl f (-1) 16))), (cc, .inl (cB, 4, .inl g))]) (tysr := [(cA, .int), (cB, .int)]) hP hD hS hA hK [] [0, 1, 2] [0, 1] rfl rfl (by decide) (by decide) rfl (va_runSN (As := [.int kb]) (rest := []) ⟨hx, hb, hml, hown, hts⟩ (c_X8_lowBits l D H.size kb ) ⟨(va_cnB (own := RX3) (host := RX8) (index := 60) 1 hts gX3_compareAll_X8_lowBits_n60 rfl rfl rfl (hNW.2.1 (RX3, 60, yX8_lowBits, RX8) (List.mem_of_getElem? (l := nw_M) (i := 5) rfl)) (hts (.initialized RX8) (List.mem_of_getElem? (i := 8) rfl)) (by decide +kernel) ⟨Nat.le_of_ble_eq_true rfl, Nat.le_of_ble_eq_true rfl⟩), (hts (.static yX8_lowBits) (List.mem_of_getElem? (i := 7) rfl)), trivial⟩ (st_preS hP hD hK hNW [] [] rfl rfl (by decide) rfl) rfl rfl hl.1 rfl (lv_room (Nat.le_of_ble_eq_true rfl)) dX3_compareAll_9 ⟨(Nat.le_of_ble_eq_true rfl), (Nat.le_of_ble_eq_true rfl)⟩) (fun r_1 u H locs hw hP hD hK hS => ?_)
  have hw : r_1 = lb kb := hw
  subst hw
  have hP : va_P D vwCl [(h0, .inr (2, [.int kb, .ref ca, .ref cc, .int kf, .int kg, .int 0, .int kx, .int ko])), (ca, .inl (cA, 16, .inl (fl f (-1) 16))), (cc, .inl (cB, 4, .inl g))] H := hP
  have hD : va_D A [(h0, .inr (2, [.int kb, .ref ca, .ref cc, .int kf, .int kg, .int 0, .int kx, .int ko])), (ca, .inl (cA, 16, .inl (fl f (-1) 16))), (cc, .inl (cB, 4, .inl g))] := hD
  have hK : va_K D vwCl [(cA, .int), (cB, .int)] s := hK
  refine lv_istore_n (lv' := [(1, .int (lb kb)), (0, .ref h0)]) hx hb dX3_compareAll_12 rfl hl (by decide) rfl (fun ls hl => ?_)
  refine lv_iconst (v := 0) hx hb dX3_compareAll_13 (by decide) ?_
  refine lv_istore_n (lv' := [(2, .int 0), (1, .int (lb kb)), (0, .ref h0)]) hx hb dX3_compareAll_14 rfl hl (by decide) rfl (fun ls hl => ?_)
  refine lv_iconst (v := 0) hx hb dX3_compareAll_15 (by decide) ?_
  refine lv_istore_n (lv' := [(3, .int 0), (2, .int 0), (1, .int (lb kb)), (0, .ref h0)]) hx hb dX3_compareAll_16 rfl hl (by decide) rfl (fun ls hl => ?_)
  refine lv_iload_n hx hb dX3_compareAll_17 rfl (lv_at hl 0 rfl) ?_
  refine lv_bipush (v := 16) hx hb dX3_compareAll_18 (by decide) ?_
  refine lv_icmp_ge (tgt := 67) hx hb dX3_compareAll_20 (by decide) (fun c_2 => absurd c_2 (by decide)) (fun _ => ?_)
  refine lv_aload_n hx hb dX3_compareAll_23 rfl (lv_at hl 3 rfl) ?_
  refine va_get (D := D) (ci := 2) (v := .ref ca) (C := RX3) (T := TX3) (N := 8) hx hb hts hiX3_compareAll_X3 hown hK hP 0 rfl rfl 1 (by decide) (hts (.fieldLink RX3 9 "OneHandset$Keys" "codes" "[I") (List.mem_of_getElem? (i := 3) rfl)) (fun _ h9 => h9) rfl dX3_compareAll_24 ?_
  refine lv_iload_n hx hb dX3_compareAll_27 rfl (lv_at hl 0 rfl) ?_
  refine va_iald hx hb hK hP 1 0 rfl rfl (vin (by decide)) dX3_compareAll_28 ?_
  refine lv_topi (fun v_3 ev_3 => ?_)
  obtain rfl : v_3 = (-1) := ev_3.trans (fl_in (by decide))
  refine lv_iconst (v := (-1)) hx hb dX3_compareAll_29 (by decide) ?_
  refine lv_icmp_eq (tgt := 61) hx hb dX3_compareAll_30 (by decide) (fun _ => ?_) (fun c_4 => absurd (by decide) c_4)
  refine lv_iinc (v := 1) (lv' := [(3, .int 1), (2, .int 0), (1, .int (lb kb)), (0, .ref h0)]) hx hb dX3_compareAll_61 hl (k := 0) rfl (by decide) (by decide) rfl (fun ls hl => ?_)
  refine lv_goto (tgt := 17) hx hb dX3_compareAll_64 (by decide) ?_
  refine lv_iload_n hx hb dX3_compareAll_17 rfl (lv_at hl 0 rfl) ?_
  refine lv_bipush (v := 16) hx hb dX3_compareAll_18 (by decide) ?_
  refine lv_icmp_ge (tgt := 67) hx hb dX3_compareAll_20 (by decide) (fun c_5 => absurd c_5 (by decide)) (fun _ => ?_)
  refine lv_aload_n hx hb dX3_compareAll_23 rfl (lv_at hl 3 rfl) ?_
  refine va_get (D := D) (ci := 2) (v := .ref ca) (C := RX3) (T := TX3) (N := 8) hx hb hts hiX3_compareAll_X3 hown hK hP 0 rfl rfl 1 (by decide) (hts (.fieldLink RX3 9 "OneHandset$Keys" "codes" "[I") (List.mem_of_getElem? (i := 3) rfl)) (fun _ h9 => h9) rfl dX3_compareAll_24 ?_
  refine lv_iload_n hx hb dX3_compareAll_27 rfl (lv_at hl 0 rfl) ?_
  refine va_iald hx hb hK hP 1 0 rfl rfl (vin (by decide)) dX3_compareAll_28 ?_
  refine lv_topi (fun v_6 ev_6 => ?_)
  obtain rfl : v_6 = (-1) := ev_6.trans (fl_in (by decide))
  refine lv_iconst (v := (-1)) hx hb dX3_compareAll_29 (by decide) ?_
  refine lv_icmp_eq (tgt := 61) hx hb dX3_compareAll_30 (by decide) (fun _ => ?_) (fun c_7 => absurd (by decide) c_7)
  refine lv_iinc (v := 2) (lv' := [(3, .int 2), (2, .int 0), (1, .int (lb kb)), (0, .ref h0)]) hx hb dX3_compareAll_61 hl (k := 0) rfl (by decide) (by decide) rfl (fun ls hl => ?_)
  refine lv_goto (tgt := 17) hx hb dX3_compareAll_64 (by decide) ?_
  refine lv_iload_n hx hb dX3_compareAll_17 rfl (lv_at hl 0 rfl) ?_
  refine lv_bipush (v := 16) hx hb dX3_compareAll_18 (by decide) ?_
  refine lv_icmp_ge (tgt := 67) hx hb dX3_compareAll_20 (by decide) (fun c_8 => absurd c_8 (by decide)) (fun _ => ?_)
  refine lv_aload_n hx hb dX3_compareAll_23 rfl (lv_at hl 3 rfl) ?_
  refine va_get (D := D) (ci := 2) (v := .ref ca) (C := RX3) (T := TX3) (N := 8) hx hb hts hiX3_compareAll_X3 hown hK hP 0 rfl rfl 1 (by decide) (hts (.fieldLink RX3 9 "OneHandset$Keys" "codes" "[I") (List.mem_of_getElem? (i := 3) rfl)) (fun _ h9 => h9) rfl dX3_compareAll_24 ?_
  refine lv_iload_n hx hb dX3_compareAll_27 rfl (lv_at hl 0 rfl) ?_
  refine va_iald hx hb hK hP 1 0 rfl rfl (vin (by decide)) dX3_compareAll_28 ?_
  refine lv_topi (fun v_9 ev_9 => ?_)
  obtain rfl : v_9 = (-1) := ev_9.trans (fl_in (by decide))
  refine lv_iconst (v := (-1)) hx hb dX3_compareAll_29 (by decide) ?_
  refine lv_icmp_eq (tgt := 61) hx hb dX3_compareAll_30 (by decide) (fun _ => ?_) (fun c_10 => absurd (by decide) c_10)
  refine lv_iinc (v := 3) (lv' := [(3, .int 3), (2, .int 0), (1, .int (lb kb)), (0, .ref h0)]) hx hb dX3_compareAll_61 hl (k := 0) rfl (by decide) (by decide) rfl (fun ls hl => ?_)
  refine lv_goto (tgt := 17) hx hb dX3_compareAll_64 (by decide) ?_
  refine lv_iload_n hx hb dX3_compareAll_17 rfl (lv_at hl 0 rfl) ?_
  refine lv_bipush (v := 16) hx hb dX3_compareAll_18 (by decide) ?_
  refine lv_icmp_ge (tgt := 67) hx hb dX3_compareAll_20 (by decide) (fun c_11 => absurd c_11 (by decide)) (fun _ => ?_)
  refine lv_aload_n hx hb dX3_compareAll_23 rfl (lv_at hl 3 rfl) ?_
  refine va_get (D := D) (ci := 2) (v := .ref ca) (C := RX3) (T := TX3) (N := 8) hx hb hts hiX3_compareAll_X3 hown hK hP 0 rfl rfl 1 (by decide) (hts (.fieldLink RX3 9 "OneHandset$Keys" "codes" "[I") (List.mem_of_getElem? (i := 3) rfl)) (fun _ h9 => h9) rfl dX3_compareAll_24 ?_
  refine lv_iload_n hx hb dX3_compareAll_27 rfl (lv_at hl 0 rfl) ?_
  refine va_iald hx hb hK hP 1 0 rfl rfl (vin (by decide)) dX3_compareAll_28 ?_
  refine lv_topi (fun v_12 ev_12 => ?_)
  obtain rfl : v_12 = (-1) := ev_12.trans (fl_in (by decide))
  refine lv_iconst (v := (-1)) hx hb dX3_compareAll_29 (by decide) ?_
  refine lv_icmp_eq (tgt := 61) hx hb dX3_compareAll_30 (by decide) (fun _ => ?_) (fun c_13 => absurd (by decide) c_13)
  refine lv_iinc (v := 4) (lv' := [(3, .int 4), (2, .int 0), (1, .int (lb kb)), (0, .ref h0)]) hx hb dX3_compareAll_61 hl (k := 0) rfl (by decide) (by decide) rfl (fun ls hl => ?_)
  refine lv_goto (tgt := 17) hx hb dX3_compareAll_64 (by decide) ?_
  refine lv_iload_n hx hb dX3_compareAll_17 rfl (lv_at hl 0 rfl) ?_
  refine lv_bipush (v := 16) hx hb dX3_compareAll_18 (by decide) ?_
  refine lv_icmp_ge (tgt := 67) hx hb dX3_compareAll_20 (by decide) (fun c_14 => absurd c_14 (by decide)) (fun _ => ?_)
  refine lv_aload_n hx hb dX3_compareAll_23 rfl (lv_at hl 3 rfl) ?_
  refine va_get (D := D) (ci := 2) (v := .ref ca) (C := RX3) (T := TX3) (N := 8) hx hb hts hiX3_compareAll_X3 hown hK hP 0 rfl rfl 1 (by decide) (hts (.fieldLink RX3 9 "OneHandset$Keys" "codes" "[I") (List.mem_of_getElem? (i := 3) rfl)) (fun _ h9 => h9) rfl dX3_compareAll_24 ?_
  refine lv_iload_n hx hb dX3_compareAll_27 rfl (lv_at hl 0 rfl) ?_
  refine va_iald hx hb hK hP 1 0 rfl rfl (vin (by decide)) dX3_compareAll_28 ?_
  refine lv_topi (fun v_15 ev_15 => ?_)
  obtain rfl : v_15 = (-1) := ev_15.trans (fl_in (by decide))
  refine lv_iconst (v := (-1)) hx hb dX3_compareAll_29 (by decide) ?_
  refine lv_icmp_eq (tgt := 61) hx hb dX3_compareAll_30 (by decide) (fun _ => ?_) (fun c_16 => absurd (by decide) c_16)
  refine lv_iinc (v := 5) (lv' := [(3, .int 5), (2, .int 0), (1, .int (lb kb)), (0, .ref h0)]) hx hb dX3_compareAll_61 hl (k := 0) rfl (by decide) (by decide) rfl (fun ls hl => ?_)
  refine lv_goto (tgt := 17) hx hb dX3_compareAll_64 (by decide) ?_
  refine lv_iload_n hx hb dX3_compareAll_17 rfl (lv_at hl 0 rfl) ?_
  refine lv_bipush (v := 16) hx hb dX3_compareAll_18 (by decide) ?_
  refine lv_icmp_ge (tgt := 67) hx hb dX3_compareAll_20 (by decide) (fun c_17 => absurd c_17 (by decide)) (fun _ => ?_)
  refine lv_aload_n hx hb dX3_compareAll_23 rfl (lv_at hl 3 rfl) ?_
  refine va_get (D := D) (ci := 2) (v := .ref ca) (C := RX3) (T := TX3) (N := 8) hx hb hts hiX3_compareAll_X3 hown hK hP 0 rfl rfl 1 (by decide) (hts (.fieldLink RX3 9 "OneHandset$Keys" "codes" "[I") (List.mem_of_getElem? (i := 3) rfl)) (fun _ h9 => h9) rfl dX3_compareAll_24 ?_
  refine lv_iload_n hx hb dX3_compareAll_27 rfl (lv_at hl 0 rfl) ?_
  refine va_iald hx hb hK hP 1 0 rfl rfl (vin (by decide)) dX3_compareAll_28 ?_
  refine lv_topi (fun v_18 ev_18 => ?_)
  obtain rfl : v_18 = (-1) := ev_18.trans (fl_in (by decide))
  refine lv_iconst (v := (-1)) hx hb dX3_compareAll_29 (by decide) ?_
  refine lv_icmp_eq (tgt := 61) hx hb dX3_compareAll_30 (by decide) (fun _ => ?_) (fun c_19 => absurd (by decide) c_19)
  refine lv_iinc (v := 6) (lv' := [(3, .int 6), (2, .int 0), (1, .int (lb kb)), (0, .ref h0)]) hx hb dX3_compareAll_61 hl (k := 0) rfl (by decide) (by decide) rfl (fun ls hl => ?_)
  refine lv_goto (tgt := 17) hx hb dX3_compareAll_64 (by decide) ?_
  refine lv_iload_n hx hb dX3_compareAll_17 rfl (lv_at hl 0 rfl) ?_
  refine lv_bipush (v := 16) hx hb dX3_compareAll_18 (by decide) ?_
  refine lv_icmp_ge (tgt := 67) hx hb dX3_compareAll_20 (by decide) (fun c_20 => absurd c_20 (by decide)) (fun _ => ?_)
  refine lv_aload_n hx hb dX3_compareAll_23 rfl (lv_at hl 3 rfl) ?_
  refine va_get (D := D) (ci := 2) (v := .ref ca) (C := RX3) (T := TX3) (N := 8) hx hb hts hiX3_compareAll_X3 hown hK hP 0 rfl rfl 1 (by decide) (hts (.fieldLink RX3 9 "OneHandset$Keys" "codes" "[I") (List.mem_of_getElem? (i := 3) rfl)) (fun _ h9 => h9) rfl dX3_compareAll_24 ?_
  refine lv_iload_n hx hb dX3_compareAll_27 rfl (lv_at hl 0 rfl) ?_
  refine va_iald hx hb hK hP 1 0 rfl rfl (vin (by decide)) dX3_compareAll_28 ?_
  refine lv_topi (fun v_21 ev_21 => ?_)
  obtain rfl : v_21 = (-1) := ev_21.trans (fl_in (by decide))
  refine lv_iconst (v := (-1)) hx hb dX3_compareAll_29 (by decide) ?_
  refine lv_icmp_eq (tgt := 61) hx hb dX3_compareAll_30 (by decide) (fun _ => ?_) (fun c_22 => absurd (by decide) c_22)
  refine lv_iinc (v := 7) (lv' := [(3, .int 7), (2, .int 0), (1, .int (lb kb)), (0, .ref h0)]) hx hb dX3_compareAll_61 hl (k := 0) rfl (by decide) (by decide) rfl (fun ls hl => ?_)
  refine lv_goto (tgt := 17) hx hb dX3_compareAll_64 (by decide) ?_
  refine lv_iload_n hx hb dX3_compareAll_17 rfl (lv_at hl 0 rfl) ?_
  refine lv_bipush (v := 16) hx hb dX3_compareAll_18 (by decide) ?_
  refine lv_icmp_ge (tgt := 67) hx hb dX3_compareAll_20 (by decide) (fun c_23 => absurd c_23 (by decide)) (fun _ => ?_)
  refine lv_aload_n hx hb dX3_compareAll_23 rfl (lv_at hl 3 rfl) ?_
  refine va_get (D := D) (ci := 2) (v := .ref ca) (C := RX3) (T := TX3) (N := 8) hx hb hts hiX3_compareAll_X3 hown hK hP 0 rfl rfl 1 (by decide) (hts (.fieldLink RX3 9 "OneHandset$Keys" "codes" "[I") (List.mem_of_getElem? (i := 3) rfl)) (fun _ h9 => h9) rfl dX3_compareAll_24 ?_
  refine lv_iload_n hx hb dX3_compareAll_27 rfl (lv_at hl 0 rfl) ?_
  refine va_iald hx hb hK hP 1 0 rfl rfl (vin (by decide)) dX3_compareAll_28 ?_
  refine lv_topi (fun v_24 ev_24 => ?_)
  obtain rfl : v_24 = (-1) := ev_24.trans (fl_in (by decide))
  refine lv_iconst (v := (-1)) hx hb dX3_compareAll_29 (by decide) ?_
  refine lv_icmp_eq (tgt := 61) hx hb dX3_compareAll_30 (by decide) (fun _ => ?_) (fun c_25 => absurd (by decide) c_25)
  refine lv_iinc (v := 8) (lv' := [(3, .int 8), (2, .int 0), (1, .int (lb kb)), (0, .ref h0)]) hx hb dX3_compareAll_61 hl (k := 0) rfl (by decide) (by decide) rfl (fun ls hl => ?_)
  refine lv_goto (tgt := 17) hx hb dX3_compareAll_64 (by decide) ?_
  refine lv_iload_n hx hb dX3_compareAll_17 rfl (lv_at hl 0 rfl) ?_
  refine lv_bipush (v := 16) hx hb dX3_compareAll_18 (by decide) ?_
  refine lv_icmp_ge (tgt := 67) hx hb dX3_compareAll_20 (by decide) (fun c_26 => absurd c_26 (by decide)) (fun _ => ?_)
  refine lv_aload_n hx hb dX3_compareAll_23 rfl (lv_at hl 3 rfl) ?_
  refine va_get (D := D) (ci := 2) (v := .ref ca) (C := RX3) (T := TX3) (N := 8) hx hb hts hiX3_compareAll_X3 hown hK hP 0 rfl rfl 1 (by decide) (hts (.fieldLink RX3 9 "OneHandset$Keys" "codes" "[I") (List.mem_of_getElem? (i := 3) rfl)) (fun _ h9 => h9) rfl dX3_compareAll_24 ?_
  refine lv_iload_n hx hb dX3_compareAll_27 rfl (lv_at hl 0 rfl) ?_
  refine va_iald hx hb hK hP 1 0 rfl rfl (vin (by decide)) dX3_compareAll_28 ?_
  refine lv_topi (fun v_27 ev_27 => ?_)
  obtain rfl : v_27 = (-1) := ev_27.trans (fl_in (by decide))
  refine lv_iconst (v := (-1)) hx hb dX3_compareAll_29 (by decide) ?_
  refine lv_icmp_eq (tgt := 61) hx hb dX3_compareAll_30 (by decide) (fun _ => ?_) (fun c_28 => absurd (by decide) c_28)
  refine lv_iinc (v := 9) (lv' := [(3, .int 9), (2, .int 0), (1, .int (lb kb)), (0, .ref h0)]) hx hb dX3_compareAll_61 hl (k := 0) rfl (by decide) (by decide) rfl (fun ls hl => ?_)
  refine lv_goto (tgt := 17) hx hb dX3_compareAll_64 (by decide) ?_
  refine lv_iload_n hx hb dX3_compareAll_17 rfl (lv_at hl 0 rfl) ?_
  refine lv_bipush (v := 16) hx hb dX3_compareAll_18 (by decide) ?_
  refine lv_icmp_ge (tgt := 67) hx hb dX3_compareAll_20 (by decide) (fun c_29 => absurd c_29 (by decide)) (fun _ => ?_)
  refine lv_aload_n hx hb dX3_compareAll_23 rfl (lv_at hl 3 rfl) ?_
  refine va_get (D := D) (ci := 2) (v := .ref ca) (C := RX3) (T := TX3) (N := 8) hx hb hts hiX3_compareAll_X3 hown hK hP 0 rfl rfl 1 (by decide) (hts (.fieldLink RX3 9 "OneHandset$Keys" "codes" "[I") (List.mem_of_getElem? (i := 3) rfl)) (fun _ h9 => h9) rfl dX3_compareAll_24 ?_
  refine lv_iload_n hx hb dX3_compareAll_27 rfl (lv_at hl 0 rfl) ?_
  refine va_iald hx hb hK hP 1 0 rfl rfl (vin (by decide)) dX3_compareAll_28 ?_
  refine lv_topi (fun v_30 ev_30 => ?_)
  obtain rfl : v_30 = (-1) := ev_30.trans (fl_in (by decide))
  refine lv_iconst (v := (-1)) hx hb dX3_compareAll_29 (by decide) ?_
  refine lv_icmp_eq (tgt := 61) hx hb dX3_compareAll_30 (by decide) (fun _ => ?_) (fun c_31 => absurd (by decide) c_31)
  refine lv_iinc (v := 10) (lv' := [(3, .int 10), (2, .int 0), (1, .int (lb kb)), (0, .ref h0)]) hx hb dX3_compareAll_61 hl (k := 0) rfl (by decide) (by decide) rfl (fun ls hl => ?_)
  refine lv_goto (tgt := 17) hx hb dX3_compareAll_64 (by decide) ?_
  refine lv_iload_n hx hb dX3_compareAll_17 rfl (lv_at hl 0 rfl) ?_
  refine lv_bipush (v := 16) hx hb dX3_compareAll_18 (by decide) ?_
  refine lv_icmp_ge (tgt := 67) hx hb dX3_compareAll_20 (by decide) (fun c_32 => absurd c_32 (by decide)) (fun _ => ?_)
  refine lv_aload_n hx hb dX3_compareAll_23 rfl (lv_at hl 3 rfl) ?_
  refine va_get (D := D) (ci := 2) (v := .ref ca) (C := RX3) (T := TX3) (N := 8) hx hb hts hiX3_compareAll_X3 hown hK hP 0 rfl rfl 1 (by decide) (hts (.fieldLink RX3 9 "OneHandset$Keys" "codes" "[I") (List.mem_of_getElem? (i := 3) rfl)) (fun _ h9 => h9) rfl dX3_compareAll_24 ?_
  refine lv_iload_n hx hb dX3_compareAll_27 rfl (lv_at hl 0 rfl) ?_
  refine va_iald hx hb hK hP 1 0 rfl rfl (vin (by decide)) dX3_compareAll_28 ?_
  refine lv_topi (fun v_33 ev_33 => ?_)
  obtain rfl : v_33 = (-1) := ev_33.trans (fl_in (by decide))
  refine lv_iconst (v := (-1)) hx hb dX3_compareAll_29 (by decide) ?_
  refine lv_icmp_eq (tgt := 61) hx hb dX3_compareAll_30 (by decide) (fun _ => ?_) (fun c_34 => absurd (by decide) c_34)
  refine lv_iinc (v := 11) (lv' := [(3, .int 11), (2, .int 0), (1, .int (lb kb)), (0, .ref h0)]) hx hb dX3_compareAll_61 hl (k := 0) rfl (by decide) (by decide) rfl (fun ls hl => ?_)
  refine lv_goto (tgt := 17) hx hb dX3_compareAll_64 (by decide) ?_
  refine lv_iload_n hx hb dX3_compareAll_17 rfl (lv_at hl 0 rfl) ?_
  refine lv_bipush (v := 16) hx hb dX3_compareAll_18 (by decide) ?_
  refine lv_icmp_ge (tgt := 67) hx hb dX3_compareAll_20 (by decide) (fun c_35 => absurd c_35 (by decide)) (fun _ => ?_)
  refine lv_aload_n hx hb dX3_compareAll_23 rfl (lv_at hl 3 rfl) ?_
  refine va_get (D := D) (ci := 2) (v := .ref ca) (C := RX3) (T := TX3) (N := 8) hx hb hts hiX3_compareAll_X3 hown hK hP 0 rfl rfl 1 (by decide) (hts (.fieldLink RX3 9 "OneHandset$Keys" "codes" "[I") (List.mem_of_getElem? (i := 3) rfl)) (fun _ h9 => h9) rfl dX3_compareAll_24 ?_
  refine lv_iload_n hx hb dX3_compareAll_27 rfl (lv_at hl 0 rfl) ?_
  refine va_iald hx hb hK hP 1 0 rfl rfl (vin (by decide)) dX3_compareAll_28 ?_
  refine lv_topi (fun v_36 ev_36 => ?_)
  obtain rfl : v_36 = (-1) := ev_36.trans (fl_in (by decide))
  refine lv_iconst (v := (-1)) hx hb dX3_compareAll_29 (by decide) ?_
  refine lv_icmp_eq (tgt := 61) hx hb dX3_compareAll_30 (by decide) (fun _ => ?_) (fun c_37 => absurd (by decide) c_37)
  refine lv_iinc (v := 12) (lv' := [(3, .int 12), (2, .int 0), (1, .int (lb kb)), (0, .ref h0)]) hx hb dX3_compareAll_61 hl (k := 0) rfl (by decide) (by decide) rfl (fun ls hl => ?_)
  refine lv_goto (tgt := 17) hx hb dX3_compareAll_64 (by decide) ?_
  refine lv_iload_n hx hb dX3_compareAll_17 rfl (lv_at hl 0 rfl) ?_
  refine lv_bipush (v := 16) hx hb dX3_compareAll_18 (by decide) ?_
  refine lv_icmp_ge (tgt := 67) hx hb dX3_compareAll_20 (by decide) (fun c_38 => absurd c_38 (by decide)) (fun _ => ?_)
  refine lv_aload_n hx hb dX3_compareAll_23 rfl (lv_at hl 3 rfl) ?_
  refine va_get (D := D) (ci := 2) (v := .ref ca) (C := RX3) (T := TX3) (N := 8) hx hb hts hiX3_compareAll_X3 hown hK hP 0 rfl rfl 1 (by decide) (hts (.fieldLink RX3 9 "OneHandset$Keys" "codes" "[I") (List.mem_of_getElem? (i := 3) rfl)) (fun _ h9 => h9) rfl dX3_compareAll_24 ?_
  refine lv_iload_n hx hb dX3_compareAll_27 rfl (lv_at hl 0 rfl) ?_
  refine va_iald hx hb hK hP 1 0 rfl rfl (vin (by decide)) dX3_compareAll_28 ?_
  refine lv_topi (fun v_39 ev_39 => ?_)
  obtain rfl : v_39 = (-1) := ev_39.trans (fl_in (by decide))
  refine lv_iconst (v := (-1)) hx hb dX3_compareAll_29 (by decide) ?_
  refine lv_icmp_eq (tgt := 61) hx hb dX3_compareAll_30 (by decide) (fun _ => ?_) (fun c_40 => absurd (by decide) c_40)
  refine lv_iinc (v := 13) (lv' := [(3, .int 13), (2, .int 0), (1, .int (lb kb)), (0, .ref h0)]) hx hb dX3_compareAll_61 hl (k := 0) rfl (by decide) (by decide) rfl (fun ls hl => ?_)
  refine lv_goto (tgt := 17) hx hb dX3_compareAll_64 (by decide) ?_
  refine lv_iload_n hx hb dX3_compareAll_17 rfl (lv_at hl 0 rfl) ?_
  refine lv_bipush (v := 16) hx hb dX3_compareAll_18 (by decide) ?_
  refine lv_icmp_ge (tgt := 67) hx hb dX3_compareAll_20 (by decide) (fun c_41 => absurd c_41 (by decide)) (fun _ => ?_)
  refine lv_aload_n hx hb dX3_compareAll_23 rfl (lv_at hl 3 rfl) ?_
  refine va_get (D := D) (ci := 2) (v := .ref ca) (C := RX3) (T := TX3) (N := 8) hx hb hts hiX3_compareAll_X3 hown hK hP 0 rfl rfl 1 (by decide) (hts (.fieldLink RX3 9 "OneHandset$Keys" "codes" "[I") (List.mem_of_getElem? (i := 3) rfl)) (fun _ h9 => h9) rfl dX3_compareAll_24 ?_
  refine lv_iload_n hx hb dX3_compareAll_27 rfl (lv_at hl 0 rfl) ?_
  refine va_iald hx hb hK hP 1 0 rfl rfl (vin (by decide)) dX3_compareAll_28 ?_
  refine lv_topi (fun v_42 ev_42 => ?_)
  obtain rfl : v_42 = (-1) := ev_42.trans (fl_in (by decide))
  refine lv_iconst (v := (-1)) hx hb dX3_compareAll_29 (by decide) ?_
  refine lv_icmp_eq (tgt := 61) hx hb dX3_compareAll_30 (by decide) (fun _ => ?_) (fun c_43 => absurd (by decide) c_43)
  refine lv_iinc (v := 14) (lv' := [(3, .int 14), (2, .int 0), (1, .int (lb kb)), (0, .ref h0)]) hx hb dX3_compareAll_61 hl (k := 0) rfl (by decide) (by decide) rfl (fun ls hl => ?_)
  refine lv_goto (tgt := 17) hx hb dX3_compareAll_64 (by decide) ?_
  refine lv_iload_n hx hb dX3_compareAll_17 rfl (lv_at hl 0 rfl) ?_
  refine lv_bipush (v := 16) hx hb dX3_compareAll_18 (by decide) ?_
  refine lv_icmp_ge (tgt := 67) hx hb dX3_compareAll_20 (by decide) (fun c_44 => absurd c_44 (by decide)) (fun _ => ?_)
  refine lv_aload_n hx hb dX3_compareAll_23 rfl (lv_at hl 3 rfl) ?_
  refine va_get (D := D) (ci := 2) (v := .ref ca) (C := RX3) (T := TX3) (N := 8) hx hb hts hiX3_compareAll_X3 hown hK hP 0 rfl rfl 1 (by decide) (hts (.fieldLink RX3 9 "OneHandset$Keys" "codes" "[I") (List.mem_of_getElem? (i := 3) rfl)) (fun _ h9 => h9) rfl dX3_compareAll_24 ?_
  refine lv_iload_n hx hb dX3_compareAll_27 rfl (lv_at hl 0 rfl) ?_
  refine va_iald hx hb hK hP 1 0 rfl rfl (vin (by decide)) dX3_compareAll_28 ?_
  refine lv_topi (fun v_45 ev_45 => ?_)
  obtain rfl : v_45 = (-1) := ev_45.trans (fl_in (by decide))
  refine lv_iconst (v := (-1)) hx hb dX3_compareAll_29 (by decide) ?_
  refine lv_icmp_eq (tgt := 61) hx hb dX3_compareAll_30 (by decide) (fun _ => ?_) (fun c_46 => absurd (by decide) c_46)
  refine lv_iinc (v := 15) (lv' := [(3, .int 15), (2, .int 0), (1, .int (lb kb)), (0, .ref h0)]) hx hb dX3_compareAll_61 hl (k := 0) rfl (by decide) (by decide) rfl (fun ls hl => ?_)
  refine lv_goto (tgt := 17) hx hb dX3_compareAll_64 (by decide) ?_
  refine lv_iload_n hx hb dX3_compareAll_17 rfl (lv_at hl 0 rfl) ?_
  refine lv_bipush (v := 16) hx hb dX3_compareAll_18 (by decide) ?_
  refine lv_icmp_ge (tgt := 67) hx hb dX3_compareAll_20 (by decide) (fun c_47 => absurd c_47 (by decide)) (fun _ => ?_)
  refine lv_aload_n hx hb dX3_compareAll_23 rfl (lv_at hl 3 rfl) ?_
  refine va_get (D := D) (ci := 2) (v := .ref ca) (C := RX3) (T := TX3) (N := 8) hx hb hts hiX3_compareAll_X3 hown hK hP 0 rfl rfl 1 (by decide) (hts (.fieldLink RX3 9 "OneHandset$Keys" "codes" "[I") (List.mem_of_getElem? (i := 3) rfl)) (fun _ h9 => h9) rfl dX3_compareAll_24 ?_
  refine lv_iload_n hx hb dX3_compareAll_27 rfl (lv_at hl 0 rfl) ?_
  refine va_iald hx hb hK hP 1 0 rfl rfl (vin (by decide)) dX3_compareAll_28 ?_
  refine lv_topi (fun v_48 ev_48 => ?_)
  obtain rfl : v_48 = (-1) := ev_48.trans (fl_in (by decide))
  refine lv_iconst (v := (-1)) hx hb dX3_compareAll_29 (by decide) ?_
  refine lv_icmp_eq (tgt := 61) hx hb dX3_compareAll_30 (by decide) (fun _ => ?_) (fun c_49 => absurd (by decide) c_49)
  refine lv_iinc (v := 16) (lv' := [(3, .int 16), (2, .int 0), (1, .int (lb kb)), (0, .ref h0)]) hx hb dX3_compareAll_61 hl (k := 0) rfl (by decide) (by decide) rfl (fun ls hl => ?_)
  refine lv_goto (tgt := 17) hx hb dX3_compareAll_64 (by decide) ?_
  refine lv_iload_n hx hb dX3_compareAll_17 rfl (lv_at hl 0 rfl) ?_
  refine lv_bipush (v := 16) hx hb dX3_compareAll_18 (by decide) ?_
  refine lv_icmp_ge (tgt := 67) hx hb dX3_compareAll_20 (by decide) (fun _ => ?_) (fun c_50 => absurd (by decide) c_50)
  refine lv_aload_n hx hb dX3_compareAll_67 rfl (lv_at hl 3 rfl) ?_
  refine lv_aload_n hx hb dX3_compareAll_68 rfl (lv_at hl 3 rfl) ?_
  refine va_get (D := D) (ci := 2) (v := .int 0) (C := RX3) (T := TX3) (N := 8) hx hb hts hiX3_compareAll_X3 hown hK hP 0 rfl rfl 5 (by decide) (hts (.fieldLink RX3 57 "OneHandset$Keys" "learnt" "I") (List.mem_of_getElem? (i := 1) rfl)) (fun _ h9 => h9) rfl dX3_compareAll_69 ?_
  refine lv_if_ne (tgt := 79) hx hb dX3_compareAll_72 (by decide) (fun c_51 => absurd c_51 (by decide)) (fun _ => ?_)
  refine lv_iconst (v := 0) hx hb dX3_compareAll_75 (by decide) ?_
  refine lv_goto (tgt := 101) hx hb dX3_compareAll_76 (by decide) ?_
  refine va_put (D := D) (ci := 2) (v := .int 0) (ty := .int) (C := RX3) (T := TX3) (N := 8) hx hb hts hiX3_compareAll_X3 tyX3 tyX3_ok nmX3 hown hK hP hD hS 0 rfl rfl 6 (by decide) (hts (.fieldLink RX3 63 "OneHandset$Keys" "fixed" "I") (List.mem_of_getElem? (i := 4) rfl)) (fun _ h9 => h9) rfl (by decide +kernel) rfl rfl (Nat.le_of_ble_eq_true rfl) dX3_compareAll_101 (fun H locs hP hD hS => ?_)
  have hP : va_P D vwCl [(h0, .inr (2, [.int kb, .ref ca, .ref cc, .int kf, .int kg, .int 0, .int 0, .int ko])), (ca, .inl (cA, 16, .inl (fl f (-1) 16))), (cc, .inl (cB, 4, .inl g))] H := hP
  have hD : va_D A [(h0, .inr (2, [.int kb, .ref ca, .ref cc, .int kf, .int kg, .int 0, .int 0, .int ko])), (ca, .inl (cA, 16, .inl (fl f (-1) 16))), (cc, .inl (cB, 4, .inl g))] := hD
  refine lv_aload_n hx hb dX3_compareAll_104 rfl (lv_at hl 3 rfl) ?_
  refine lv_iload_n hx hb dX3_compareAll_105 rfl (lv_at hl 2 rfl) ?_
  refine lv_aload_n hx hb dX3_compareAll_106 rfl (lv_at hl 3 rfl) ?_
  refine va_get (D := D) (ci := 2) (v := .int 0) (C := RX3) (T := TX3) (N := 8) hx hb hts hiX3_compareAll_X3 hown hK hP 0 rfl rfl 6 (by decide) (hts (.fieldLink RX3 63 "OneHandset$Keys" "fixed" "I") (List.mem_of_getElem? (i := 4) rfl)) (fun _ h9 => h9) rfl dX3_compareAll_107 ?_
  refine lv_iand hx hb dX3_compareAll_110 ?_
  refine va_put (D := D) (ci := 2) (v := .int ((lb kb) &&& 0)) (ty := .int) (C := RX3) (T := TX3) (N := 8) hx hb hts hiX3_compareAll_X3 tyX3 tyX3_ok nmX3 hown hK hP hD hS 0 rfl rfl 7 (by decide) (hts (.fieldLink RX3 66 "OneHandset$Keys" "fixedOn" "I") (List.mem_of_getElem? (i := 5) rfl)) (fun _ h9 => h9) rfl (by decide +kernel) rfl rfl (Nat.le_of_ble_eq_true rfl) dX3_compareAll_111 (fun H locs hP hD hS => ?_)
  have hP : va_P D vwCl [(h0, .inr (2, [.int kb, .ref ca, .ref cc, .int kf, .int kg, .int 0, .int 0, .int ((lb kb) &&& 0)])), (ca, .inl (cA, 16, .inl (fl f (-1) 16))), (cc, .inl (cB, 4, .inl g))] H := hP
  have hD : va_D A [(h0, .inr (2, [.int kb, .ref ca, .ref cc, .int kf, .int kg, .int 0, .int 0, .int ((lb kb) &&& 0)])), (ca, .inl (cA, 16, .inl (fl f (-1) 16))), (cc, .inl (cB, 4, .inl g))] := hD
  refine lv_iconst (v := 1) hx hb dX3_compareAll_114 (by decide) ?_
  refine lv_istore_n (lv' := [(3, .int 1), (2, .int 0), (1, .int (lb kb)), (0, .ref h0)]) hx hb dX3_compareAll_115 rfl hl (by decide) rfl (fun ls hl => ?_)
  refine lv_iload_n hx hb dX3_compareAll_116 rfl (lv_at hl 0 rfl) ?_
  refine lv_iconst (v := 3) hx hb dX3_compareAll_117 (by decide) ?_
  refine lv_icmp_gt (tgt := 158) hx hb dX3_compareAll_118 (by decide) (fun c_52 => absurd c_52 (by decide)) (fun _ => ?_)
  refine lv_aload_n hx hb dX3_compareAll_121 rfl (lv_at hl 3 rfl) ?_
  refine va_get (D := D) (ci := 2) (v := .ref cc) (C := RX3) (T := TX3) (N := 8) hx hb hts hiX3_compareAll_X3 hown hK hP 0 rfl rfl 2 (by decide) (hts (.fieldLink RX3 15 "OneHandset$Keys" "constants" "[I") (List.mem_of_getElem? (i := 6) rfl)) (fun _ h9 => h9) rfl dX3_compareAll_122 ?_
  refine lv_iload_n hx hb dX3_compareAll_125 rfl (lv_at hl 0 rfl) ?_
  refine lv_aload_n hx hb dX3_compareAll_126 rfl (lv_at hl 3 rfl) ?_
  refine lv_iload_n hx hb dX3_compareAll_127 rfl (lv_at hl 0 rfl) ?_
  refine go_i (wr := [(ca, .inl (cA, 16, .inl (fl f (-1) 16))), (cc, .inl (cB, 4, .inl g))]) (tysr := [(cA, .int), (cB, .int)]) hP hD hS hA hK [0] [1, 2] [0, 1] rfl rfl (by decide) (by decide) rfl (va_runV (As := [.int 1]) (rest := [.int 1, .ref cc]) ⟨hx, hb, hml, hown, hts⟩ (c_X3_isCheck l D H.size h0 ca cc kb kf kg 0 0 ((lb kb) &&& 0) 1 ) (cwV 1 hts gX3_compareAll_X3_isCheck rfl rfl rfl (by decide +kernel) ⟨Nat.le_of_ble_eq_true rfl, Nat.le_of_ble_eq_true rfl⟩) (st_preV (ci := 2) (q0 := 0) hP hD hK hNW [0] [] rfl rfl (by decide) rfl rfl rfl rfl) rfl rfl hl.1 rfl (lv_room (Nat.le_of_ble_eq_true rfl)) dX3_compareAll_128 ⟨(Nat.le_of_ble_eq_true rfl), (Nat.le_of_ble_eq_true rfl)⟩) (fun r_53 u H locs hw hP hD hK hS => ?_)
  have hP : va_P D vwCl [(ca, .inl (cA, 16, .inl (fl f (-1) 16))), (cc, .inl (cB, 4, .inl g)), (h0, .inr (2, [.int kb, .ref ca, .ref cc, .int kf, .int kg, .int 0, .int 0, .int ((lb kb) &&& 0)]))] H := hP
  have hD : va_D A [(ca, .inl (cA, 16, .inl (fl f (-1) 16))), (cc, .inl (cB, 4, .inl g)), (h0, .inr (2, [.int kb, .ref ca, .ref cc, .int kf, .int kg, .int 0, .int 0, .int ((lb kb) &&& 0)]))] := hD
  have hK : va_K D vwCl [(cA, .int), (cB, .int)] s := hK
  refine lv_if_eq (tgt := 150) hx hb dX3_compareAll_131 (by decide) (fun c_54 => ?_) (fun c_54 => ?_)
  · refine lv_iconst (v := (-1)) hx hb dX3_compareAll_150 (by decide) ?_
    refine va_iast hx hb hK hP hD hS 1 1 rfl rfl (vin (by decide)) dX3_compareAll_151 (fun H locs hP hD hS => ?_)
    obtain ⟨g_55, hP, hD⟩ : ∃ g9 : Nat → Int32, va_P D vwCl [(ca, .inl (cA, 16, .inl (fl f (-1) 16))), (cc, .inl (cB, 4, .inl g9)), (h0, .inr (2, [.int kb, .ref ca, .ref cc, .int kf, .int kg, .int 0, .int 0, .int ((lb kb) &&& 0)]))] H ∧ va_D A [(ca, .inl (cA, 16, .inl (fl f (-1) 16))), (cc, .inl (cB, 4, .inl g9)), (h0, .inr (2, [.int kb, .ref ca, .ref cc, .int kf, .int kg, .int 0, .int 0, .int ((lb kb) &&& 0)]))] := ⟨_, hP, hD⟩
    refine lv_iinc (v := 2) (lv' := [(3, .int 2), (2, .int 0), (1, .int (lb kb)), (0, .ref h0)]) hx hb dX3_compareAll_152 hl (k := 0) rfl (by decide) (by decide) rfl (fun ls hl => ?_)
    refine lv_goto (tgt := 116) hx hb dX3_compareAll_155 (by decide) ?_
    refine lv_iload_n hx hb dX3_compareAll_116 rfl (lv_at hl 0 rfl) ?_
    refine lv_iconst (v := 3) hx hb dX3_compareAll_117 (by decide) ?_
    refine lv_icmp_gt (tgt := 158) hx hb dX3_compareAll_118 (by decide) (fun c_56 => absurd c_56 (by decide)) (fun _ => ?_)
    refine lv_aload_n hx hb dX3_compareAll_121 rfl (lv_at hl 3 rfl) ?_
    refine va_get (D := D) (ci := 2) (v := .ref cc) (C := RX3) (T := TX3) (N := 8) hx hb hts hiX3_compareAll_X3 hown hK hP 2 rfl rfl 2 (by decide) (hts (.fieldLink RX3 15 "OneHandset$Keys" "constants" "[I") (List.mem_of_getElem? (i := 6) rfl)) (fun _ h9 => h9) rfl dX3_compareAll_122 ?_
    refine lv_iload_n hx hb dX3_compareAll_125 rfl (lv_at hl 0 rfl) ?_
    refine lv_aload_n hx hb dX3_compareAll_126 rfl (lv_at hl 3 rfl) ?_
    refine lv_iload_n hx hb dX3_compareAll_127 rfl (lv_at hl 0 rfl) ?_
    refine go_i (wr := [(ca, .inl (cA, 16, .inl (fl f (-1) 16))), (cc, .inl (cB, 4, .inl g_55))]) (tysr := [(cA, .int), (cB, .int)]) hP hD hS hA hK [2] [0, 1] [0, 1] rfl rfl (by decide) (by decide) rfl (va_runV (As := [.int 2]) (rest := [.int 2, .ref cc]) ⟨hx, hb, hml, hown, hts⟩ (c_X3_isCheck l D H.size h0 ca cc kb kf kg 0 0 ((lb kb) &&& 0) 2 ) (cwV 1 hts gX3_compareAll_X3_isCheck rfl rfl rfl (by decide +kernel) ⟨Nat.le_of_ble_eq_true rfl, Nat.le_of_ble_eq_true rfl⟩) (st_preV (ci := 2) (q0 := 2) hP hD hK hNW [2] [] rfl rfl (by decide) rfl rfl rfl rfl) rfl rfl hl.1 rfl (lv_room (Nat.le_of_ble_eq_true rfl)) dX3_compareAll_128 ⟨(Nat.le_of_ble_eq_true rfl), (Nat.le_of_ble_eq_true rfl)⟩) (fun r_57 u H locs hw hP hD hK hS => ?_)
    have hP : va_P D vwCl [(ca, .inl (cA, 16, .inl (fl f (-1) 16))), (cc, .inl (cB, 4, .inl g_55)), (h0, .inr (2, [.int kb, .ref ca, .ref cc, .int kf, .int kg, .int 0, .int 0, .int ((lb kb) &&& 0)]))] H := hP
    have hD : va_D A [(ca, .inl (cA, 16, .inl (fl f (-1) 16))), (cc, .inl (cB, 4, .inl g_55)), (h0, .inr (2, [.int kb, .ref ca, .ref cc, .int kf, .int kg, .int 0, .int 0, .int ((lb kb) &&& 0)]))] := hD
    have hK : va_K D vwCl [(cA, .int), (cB, .int)] s := hK
    refine lv_if_eq (tgt := 150) hx hb dX3_compareAll_131 (by decide) (fun c_58 => ?_) (fun c_58 => ?_)
    · refine lv_iconst (v := (-1)) hx hb dX3_compareAll_150 (by decide) ?_
      refine va_iast hx hb hK hP hD hS 1 1 rfl rfl (vin (by decide)) dX3_compareAll_151 (fun H locs hP hD hS => ?_)
      obtain ⟨g_59, hP, hD⟩ : ∃ g9 : Nat → Int32, va_P D vwCl [(ca, .inl (cA, 16, .inl (fl f (-1) 16))), (cc, .inl (cB, 4, .inl g9)), (h0, .inr (2, [.int kb, .ref ca, .ref cc, .int kf, .int kg, .int 0, .int 0, .int ((lb kb) &&& 0)]))] H ∧ va_D A [(ca, .inl (cA, 16, .inl (fl f (-1) 16))), (cc, .inl (cB, 4, .inl g9)), (h0, .inr (2, [.int kb, .ref ca, .ref cc, .int kf, .int kg, .int 0, .int 0, .int ((lb kb) &&& 0)]))] := ⟨_, hP, hD⟩
      refine lv_iinc (v := 3) (lv' := [(3, .int 3), (2, .int 0), (1, .int (lb kb)), (0, .ref h0)]) hx hb dX3_compareAll_152 hl (k := 0) rfl (by decide) (by decide) rfl (fun ls hl => ?_)
      refine lv_goto (tgt := 116) hx hb dX3_compareAll_155 (by decide) ?_
      refine lv_iload_n hx hb dX3_compareAll_116 rfl (lv_at hl 0 rfl) ?_
      refine lv_iconst (v := 3) hx hb dX3_compareAll_117 (by decide) ?_
      refine lv_icmp_gt (tgt := 158) hx hb dX3_compareAll_118 (by decide) (fun c_60 => absurd c_60 (by decide)) (fun _ => ?_)
      refine lv_aload_n hx hb dX3_compareAll_121 rfl (lv_at hl 3 rfl) ?_
      refine va_get (D := D) (ci := 2) (v := .ref cc) (C := RX3) (T := TX3) (N := 8) hx hb hts hiX3_compareAll_X3 hown hK hP 2 rfl rfl 2 (by decide) (hts (.fieldLink RX3 15 "OneHandset$Keys" "constants" "[I") (List.mem_of_getElem? (i := 6) rfl)) (fun _ h9 => h9) rfl dX3_compareAll_122 ?_
      refine lv_iload_n hx hb dX3_compareAll_125 rfl (lv_at hl 0 rfl) ?_
      refine lv_aload_n hx hb dX3_compareAll_126 rfl (lv_at hl 3 rfl) ?_
      refine lv_iload_n hx hb dX3_compareAll_127 rfl (lv_at hl 0 rfl) ?_
      refine go_i (wr := [(ca, .inl (cA, 16, .inl (fl f (-1) 16))), (cc, .inl (cB, 4, .inl g_59))]) (tysr := [(cA, .int), (cB, .int)]) hP hD hS hA hK [2] [0, 1] [0, 1] rfl rfl (by decide) (by decide) rfl (va_runV (As := [.int 3]) (rest := [.int 3, .ref cc]) ⟨hx, hb, hml, hown, hts⟩ (c_X3_isCheck l D H.size h0 ca cc kb kf kg 0 0 ((lb kb) &&& 0) 3 ) (cwV 1 hts gX3_compareAll_X3_isCheck rfl rfl rfl (by decide +kernel) ⟨Nat.le_of_ble_eq_true rfl, Nat.le_of_ble_eq_true rfl⟩) (st_preV (ci := 2) (q0 := 2) hP hD hK hNW [2] [] rfl rfl (by decide) rfl rfl rfl rfl) rfl rfl hl.1 rfl (lv_room (Nat.le_of_ble_eq_true rfl)) dX3_compareAll_128 ⟨(Nat.le_of_ble_eq_true rfl), (Nat.le_of_ble_eq_true rfl)⟩) (fun r_61 u H locs hw hP hD hK hS => ?_)
      have hP : va_P D vwCl [(ca, .inl (cA, 16, .inl (fl f (-1) 16))), (cc, .inl (cB, 4, .inl g_59)), (h0, .inr (2, [.int kb, .ref ca, .ref cc, .int kf, .int kg, .int 0, .int 0, .int ((lb kb) &&& 0)]))] H := hP
      have hD : va_D A [(ca, .inl (cA, 16, .inl (fl f (-1) 16))), (cc, .inl (cB, 4, .inl g_59)), (h0, .inr (2, [.int kb, .ref ca, .ref cc, .int kf, .int kg, .int 0, .int 0, .int ((lb kb) &&& 0)]))] := hD
      have hK : va_K D vwCl [(cA, .int), (cB, .int)] s := hK
      refine lv_if_eq (tgt := 150) hx hb dX3_compareAll_131 (by decide) (fun c_62 => ?_) (fun c_62 => ?_)
      · refine lv_iconst (v := (-1)) hx hb dX3_compareAll_150 (by decide) ?_
        refine va_iast hx hb hK hP hD hS 1 1 rfl rfl (vin (by decide)) dX3_compareAll_151 (fun H locs hP hD hS => ?_)
        obtain ⟨g_63, hP, hD⟩ : ∃ g9 : Nat → Int32, va_P D vwCl [(ca, .inl (cA, 16, .inl (fl f (-1) 16))), (cc, .inl (cB, 4, .inl g9)), (h0, .inr (2, [.int kb, .ref ca, .ref cc, .int kf, .int kg, .int 0, .int 0, .int ((lb kb) &&& 0)]))] H ∧ va_D A [(ca, .inl (cA, 16, .inl (fl f (-1) 16))), (cc, .inl (cB, 4, .inl g9)), (h0, .inr (2, [.int kb, .ref ca, .ref cc, .int kf, .int kg, .int 0, .int 0, .int ((lb kb) &&& 0)]))] := ⟨_, hP, hD⟩
        refine lv_iinc (v := 4) (lv' := [(3, .int 4), (2, .int 0), (1, .int (lb kb)), (0, .ref h0)]) hx hb dX3_compareAll_152 hl (k := 0) rfl (by decide) (by decide) rfl (fun ls hl => ?_)
        refine lv_goto (tgt := 116) hx hb dX3_compareAll_155 (by decide) ?_
        refine lv_iload_n hx hb dX3_compareAll_116 rfl (lv_at hl 0 rfl) ?_
        refine lv_iconst (v := 3) hx hb dX3_compareAll_117 (by decide) ?_
        refine lv_icmp_gt (tgt := 158) hx hb dX3_compareAll_118 (by decide) (fun _ => ?_) (fun c_64 => absurd (by decide) c_64)
        exact ret_v hx hb hr hlocks (u := ()) trivial (hP.sub [] rfl) (hK.sub [] rfl) (hD.sub [] (by decide) rfl) hS (Nat.le_of_ble_eq_true rfl) (Nat.le_of_ble_eq_true rfl) dX3_compareAll_158
      refine lv_aload_n hx hb dX3_compareAll_134 rfl (lv_at hl 3 rfl) ?_
      refine va_get (D := D) (ci := 2) (v := .int 0) (C := RX3) (T := TX3) (N := 8) hx hb hts hiX3_compareAll_X3 hown hK hP 2 rfl rfl 5 (by decide) (hts (.fieldLink RX3 57 "OneHandset$Keys" "learnt" "I") (List.mem_of_getElem? (i := 1) rfl)) (fun _ h9 => h9) rfl dX3_compareAll_135 ?_
      refine lv_iconst (v := 2) hx hb dX3_compareAll_138 (by decide) ?_
      refine lv_icmp_lt (tgt := 150) hx hb dX3_compareAll_139 (by decide) (fun _ => ?_) (fun c_65 => absurd (by decide) c_65)
      refine lv_iconst (v := (-1)) hx hb dX3_compareAll_150 (by decide) ?_
      refine va_iast hx hb hK hP hD hS 1 1 rfl rfl (vin (by decide)) dX3_compareAll_151 (fun H locs hP hD hS => ?_)
      obtain ⟨g_66, hP, hD⟩ : ∃ g9 : Nat → Int32, va_P D vwCl [(ca, .inl (cA, 16, .inl (fl f (-1) 16))), (cc, .inl (cB, 4, .inl g9)), (h0, .inr (2, [.int kb, .ref ca, .ref cc, .int kf, .int kg, .int 0, .int 0, .int ((lb kb) &&& 0)]))] H ∧ va_D A [(ca, .inl (cA, 16, .inl (fl f (-1) 16))), (cc, .inl (cB, 4, .inl g9)), (h0, .inr (2, [.int kb, .ref ca, .ref cc, .int kf, .int kg, .int 0, .int 0, .int ((lb kb) &&& 0)]))] := ⟨_, hP, hD⟩
      refine lv_iinc (v := 4) (lv' := [(3, .int 4), (2, .int 0), (1, .int (lb kb)), (0, .ref h0)]) hx hb dX3_compareAll_152 hl (k := 0) rfl (by decide) (by decide) rfl (fun ls hl => ?_)
      refine lv_goto (tgt := 116) hx hb dX3_compareAll_155 (by decide) ?_
      refine lv_iload_n hx hb dX3_compareAll_116 rfl (lv_at hl 0 rfl) ?_
      refine lv_iconst (v := 3) hx hb dX3_compareAll_117 (by decide) ?_
      refine lv_icmp_gt (tgt := 158) hx hb dX3_compareAll_118 (by decide) (fun _ => ?_) (fun c_67 => absurd (by decide) c_67)
      exact ret_v hx hb hr hlocks (u := ()) trivial (hP.sub [] rfl) (hK.sub [] rfl) (hD.sub [] (by decide) rfl) hS (Nat.le_of_ble_eq_true rfl) (Nat.le_of_ble_eq_true rfl) dX3_compareAll_158
    refine lv_aload_n hx hb dX3_compareAll_134 rfl (lv_at hl 3 rfl) ?_
    refine va_get (D := D) (ci := 2) (v := .int 0) (C := RX3) (T := TX3) (N := 8) hx hb hts hiX3_compareAll_X3 hown hK hP 2 rfl rfl 5 (by decide) (hts (.fieldLink RX3 57 "OneHandset$Keys" "learnt" "I") (List.mem_of_getElem? (i := 1) rfl)) (fun _ h9 => h9) rfl dX3_compareAll_135 ?_
    refine lv_iconst (v := 2) hx hb dX3_compareAll_138 (by decide) ?_
    refine lv_icmp_lt (tgt := 150) hx hb dX3_compareAll_139 (by decide) (fun _ => ?_) (fun c_68 => absurd (by decide) c_68)
    refine lv_iconst (v := (-1)) hx hb dX3_compareAll_150 (by decide) ?_
    refine va_iast hx hb hK hP hD hS 1 1 rfl rfl (vin (by decide)) dX3_compareAll_151 (fun H locs hP hD hS => ?_)
    obtain ⟨g_69, hP, hD⟩ : ∃ g9 : Nat → Int32, va_P D vwCl [(ca, .inl (cA, 16, .inl (fl f (-1) 16))), (cc, .inl (cB, 4, .inl g9)), (h0, .inr (2, [.int kb, .ref ca, .ref cc, .int kf, .int kg, .int 0, .int 0, .int ((lb kb) &&& 0)]))] H ∧ va_D A [(ca, .inl (cA, 16, .inl (fl f (-1) 16))), (cc, .inl (cB, 4, .inl g9)), (h0, .inr (2, [.int kb, .ref ca, .ref cc, .int kf, .int kg, .int 0, .int 0, .int ((lb kb) &&& 0)]))] := ⟨_, hP, hD⟩
    refine lv_iinc (v := 3) (lv' := [(3, .int 3), (2, .int 0), (1, .int (lb kb)), (0, .ref h0)]) hx hb dX3_compareAll_152 hl (k := 0) rfl (by decide) (by decide) rfl (fun ls hl => ?_)
    refine lv_goto (tgt := 116) hx hb dX3_compareAll_155 (by decide) ?_
    refine lv_iload_n hx hb dX3_compareAll_116 rfl (lv_at hl 0 rfl) ?_
    refine lv_iconst (v := 3) hx hb dX3_compareAll_117 (by decide) ?_
    refine lv_icmp_gt (tgt := 158) hx hb dX3_compareAll_118 (by decide) (fun c_70 => absurd c_70 (by decide)) (fun _ => ?_)
    refine lv_aload_n hx hb dX3_compareAll_121 rfl (lv_at hl 3 rfl) ?_
    refine va_get (D := D) (ci := 2) (v := .ref cc) (C := RX3) (T := TX3) (N := 8) hx hb hts hiX3_compareAll_X3 hown hK hP 2 rfl rfl 2 (by decide) (hts (.fieldLink RX3 15 "OneHandset$Keys" "constants" "[I") (List.mem_of_getElem? (i := 6) rfl)) (fun _ h9 => h9) rfl dX3_compareAll_122 ?_
    refine lv_iload_n hx hb dX3_compareAll_125 rfl (lv_at hl 0 rfl) ?_
    refine lv_aload_n hx hb dX3_compareAll_126 rfl (lv_at hl 3 rfl) ?_
    refine lv_iload_n hx hb dX3_compareAll_127 rfl (lv_at hl 0 rfl) ?_
    refine go_i (wr := [(ca, .inl (cA, 16, .inl (fl f (-1) 16))), (cc, .inl (cB, 4, .inl g_69))]) (tysr := [(cA, .int), (cB, .int)]) hP hD hS hA hK [2] [0, 1] [0, 1] rfl rfl (by decide) (by decide) rfl (va_runV (As := [.int 3]) (rest := [.int 3, .ref cc]) ⟨hx, hb, hml, hown, hts⟩ (c_X3_isCheck l D H.size h0 ca cc kb kf kg 0 0 ((lb kb) &&& 0) 3 ) (cwV 1 hts gX3_compareAll_X3_isCheck rfl rfl rfl (by decide +kernel) ⟨Nat.le_of_ble_eq_true rfl, Nat.le_of_ble_eq_true rfl⟩) (st_preV (ci := 2) (q0 := 2) hP hD hK hNW [2] [] rfl rfl (by decide) rfl rfl rfl rfl) rfl rfl hl.1 rfl (lv_room (Nat.le_of_ble_eq_true rfl)) dX3_compareAll_128 ⟨(Nat.le_of_ble_eq_true rfl), (Nat.le_of_ble_eq_true rfl)⟩) (fun r_71 u H locs hw hP hD hK hS => ?_)
    have hP : va_P D vwCl [(ca, .inl (cA, 16, .inl (fl f (-1) 16))), (cc, .inl (cB, 4, .inl g_69)), (h0, .inr (2, [.int kb, .ref ca, .ref cc, .int kf, .int kg, .int 0, .int 0, .int ((lb kb) &&& 0)]))] H := hP
    have hD : va_D A [(ca, .inl (cA, 16, .inl (fl f (-1) 16))), (cc, .inl (cB, 4, .inl g_69)), (h0, .inr (2, [.int kb, .ref ca, .ref cc, .int kf, .int kg, .int 0, .int 0, .int ((lb kb) &&& 0)]))] := hD
    have hK : va_K D vwCl [(cA, .int), (cB, .int)] s := hK
    refine lv_if_eq (tgt := 150) hx hb dX3_compareAll_131 (by decide) (fun c_72 => ?_) (fun c_72 => ?_)
    · refine lv_iconst (v := (-1)) hx hb dX3_compareAll_150 (by decide) ?_
      refine va_iast hx hb hK hP hD hS 1 1 rfl rfl (vin (by decide)) dX3_compareAll_151 (fun H locs hP hD hS => ?_)
      obtain ⟨g_73, hP, hD⟩ : ∃ g9 : Nat → Int32, va_P D vwCl [(ca, .inl (cA, 16, .inl (fl f (-1) 16))), (cc, .inl (cB, 4, .inl g9)), (h0, .inr (2, [.int kb, .ref ca, .ref cc, .int kf, .int kg, .int 0, .int 0, .int ((lb kb) &&& 0)]))] H ∧ va_D A [(ca, .inl (cA, 16, .inl (fl f (-1) 16))), (cc, .inl (cB, 4, .inl g9)), (h0, .inr (2, [.int kb, .ref ca, .ref cc, .int kf, .int kg, .int 0, .int 0, .int ((lb kb) &&& 0)]))] := ⟨_, hP, hD⟩
      refine lv_iinc (v := 4) (lv' := [(3, .int 4), (2, .int 0), (1, .int (lb kb)), (0, .ref h0)]) hx hb dX3_compareAll_152 hl (k := 0) rfl (by decide) (by decide) rfl (fun ls hl => ?_)
      refine lv_goto (tgt := 116) hx hb dX3_compareAll_155 (by decide) ?_
      refine lv_iload_n hx hb dX3_compareAll_116 rfl (lv_at hl 0 rfl) ?_
      refine lv_iconst (v := 3) hx hb dX3_compareAll_117 (by decide) ?_
      refine lv_icmp_gt (tgt := 158) hx hb dX3_compareAll_118 (by decide) (fun _ => ?_) (fun c_74 => absurd (by decide) c_74)
      exact ret_v hx hb hr hlocks (u := ()) trivial (hP.sub [] rfl) (hK.sub [] rfl) (hD.sub [] (by decide) rfl) hS (Nat.le_of_ble_eq_true rfl) (Nat.le_of_ble_eq_true rfl) dX3_compareAll_158
    refine lv_aload_n hx hb dX3_compareAll_134 rfl (lv_at hl 3 rfl) ?_
    refine va_get (D := D) (ci := 2) (v := .int 0) (C := RX3) (T := TX3) (N := 8) hx hb hts hiX3_compareAll_X3 hown hK hP 2 rfl rfl 5 (by decide) (hts (.fieldLink RX3 57 "OneHandset$Keys" "learnt" "I") (List.mem_of_getElem? (i := 1) rfl)) (fun _ h9 => h9) rfl dX3_compareAll_135 ?_
    refine lv_iconst (v := 2) hx hb dX3_compareAll_138 (by decide) ?_
    refine lv_icmp_lt (tgt := 150) hx hb dX3_compareAll_139 (by decide) (fun _ => ?_) (fun c_75 => absurd (by decide) c_75)
    refine lv_iconst (v := (-1)) hx hb dX3_compareAll_150 (by decide) ?_
    refine va_iast hx hb hK hP hD hS 1 1 rfl rfl (vin (by decide)) dX3_compareAll_151 (fun H locs hP hD hS => ?_)
    obtain ⟨g_76, hP, hD⟩ : ∃ g9 : Nat → Int32, va_P D vwCl [(ca, .inl (cA, 16, .inl (fl f (-1) 16))), (cc, .inl (cB, 4, .inl g9)), (h0, .inr (2, [.int kb, .ref ca, .ref cc, .int kf, .int kg, .int 0, .int 0, .int ((lb kb) &&& 0)]))] H ∧ va_D A [(ca, .inl (cA, 16, .inl (fl f (-1) 16))), (cc, .inl (cB, 4, .inl g9)), (h0, .inr (2, [.int kb, .ref ca, .ref cc, .int kf, .int kg, .int 0, .int 0, .int ((lb kb) &&& 0)]))] := ⟨_, hP, hD⟩
    refine lv_iinc (v := 4) (lv' := [(3, .int 4), (2, .int 0), (1, .int (lb kb)), (0, .ref h0)]) hx hb dX3_compareAll_152 hl (k := 0) rfl (by decide) (by decide) rfl (fun ls hl => ?_)
    refine lv_goto (tgt := 116) hx hb dX3_compareAll_155 (by decide) ?_
    refine lv_iload_n hx hb dX3_compareAll_116 rfl (lv_at hl 0 rfl) ?_
    refine lv_iconst (v := 3) hx hb dX3_compareAll_117 (by decide) ?_
    refine lv_icmp_gt (tgt := 158) hx hb dX3_compareAll_118 (by decide) (fun _ => ?_) (fun c_77 => absurd (by decide) c_77)
    exact ret_v hx hb hr hlocks (u := ()) trivial (hP.sub [] rfl) (hK.sub [] rfl) (hD.sub [] (by decide) rfl) hS (Nat.le_of_ble_eq_true rfl) (Nat.le_of_ble_eq_true rfl) dX3_compareAll_158
  refine lv_aload_n hx hb dX3_compareAll_134 rfl (lv_at hl 3 rfl) ?_
  refine va_get (D := D) (ci := 2) (v := .int 0) (C := RX3) (T := TX3) (N := 8) hx hb hts hiX3_compareAll_X3 hown hK hP 2 rfl rfl 5 (by decide) (hts (.fieldLink RX3 57 "OneHandset$Keys" "learnt" "I") (List.mem_of_getElem? (i := 1) rfl)) (fun _ h9 => h9) rfl dX3_compareAll_135 ?_
  refine lv_iconst (v := 2) hx hb dX3_compareAll_138 (by decide) ?_
  refine lv_icmp_lt (tgt := 150) hx hb dX3_compareAll_139 (by decide) (fun _ => ?_) (fun c_78 => absurd (by decide) c_78)
  refine lv_iconst (v := (-1)) hx hb dX3_compareAll_150 (by decide) ?_
  refine va_iast hx hb hK hP hD hS 1 1 rfl rfl (vin (by decide)) dX3_compareAll_151 (fun H locs hP hD hS => ?_)
  obtain ⟨g_79, hP, hD⟩ : ∃ g9 : Nat → Int32, va_P D vwCl [(ca, .inl (cA, 16, .inl (fl f (-1) 16))), (cc, .inl (cB, 4, .inl g9)), (h0, .inr (2, [.int kb, .ref ca, .ref cc, .int kf, .int kg, .int 0, .int 0, .int ((lb kb) &&& 0)]))] H ∧ va_D A [(ca, .inl (cA, 16, .inl (fl f (-1) 16))), (cc, .inl (cB, 4, .inl g9)), (h0, .inr (2, [.int kb, .ref ca, .ref cc, .int kf, .int kg, .int 0, .int 0, .int ((lb kb) &&& 0)]))] := ⟨_, hP, hD⟩
  refine lv_iinc (v := 2) (lv' := [(3, .int 2), (2, .int 0), (1, .int (lb kb)), (0, .ref h0)]) hx hb dX3_compareAll_152 hl (k := 0) rfl (by decide) (by decide) rfl (fun ls hl => ?_)
  refine lv_goto (tgt := 116) hx hb dX3_compareAll_155 (by decide) ?_
  refine lv_iload_n hx hb dX3_compareAll_116 rfl (lv_at hl 0 rfl) ?_
  refine lv_iconst (v := 3) hx hb dX3_compareAll_117 (by decide) ?_
  refine lv_icmp_gt (tgt := 158) hx hb dX3_compareAll_118 (by decide) (fun c_80 => absurd c_80 (by decide)) (fun _ => ?_)
  refine lv_aload_n hx hb dX3_compareAll_121 rfl (lv_at hl 3 rfl) ?_
  refine va_get (D := D) (ci := 2) (v := .ref cc) (C := RX3) (T := TX3) (N := 8) hx hb hts hiX3_compareAll_X3 hown hK hP 2 rfl rfl 2 (by decide) (hts (.fieldLink RX3 15 "OneHandset$Keys" "constants" "[I") (List.mem_of_getElem? (i := 6) rfl)) (fun _ h9 => h9) rfl dX3_compareAll_122 ?_
  refine lv_iload_n hx hb dX3_compareAll_125 rfl (lv_at hl 0 rfl) ?_
  refine lv_aload_n hx hb dX3_compareAll_126 rfl (lv_at hl 3 rfl) ?_
  refine lv_iload_n hx hb dX3_compareAll_127 rfl (lv_at hl 0 rfl) ?_
  refine go_i (wr := [(ca, .inl (cA, 16, .inl (fl f (-1) 16))), (cc, .inl (cB, 4, .inl g_79))]) (tysr := [(cA, .int), (cB, .int)]) hP hD hS hA hK [2] [0, 1] [0, 1] rfl rfl (by decide) (by decide) rfl (va_runV (As := [.int 2]) (rest := [.int 2, .ref cc]) ⟨hx, hb, hml, hown, hts⟩ (c_X3_isCheck l D H.size h0 ca cc kb kf kg 0 0 ((lb kb) &&& 0) 2 ) (cwV 1 hts gX3_compareAll_X3_isCheck rfl rfl rfl (by decide +kernel) ⟨Nat.le_of_ble_eq_true rfl, Nat.le_of_ble_eq_true rfl⟩) (st_preV (ci := 2) (q0 := 2) hP hD hK hNW [2] [] rfl rfl (by decide) rfl rfl rfl rfl) rfl rfl hl.1 rfl (lv_room (Nat.le_of_ble_eq_true rfl)) dX3_compareAll_128 ⟨(Nat.le_of_ble_eq_true rfl), (Nat.le_of_ble_eq_true rfl)⟩) (fun r_81 u H locs hw hP hD hK hS => ?_)
  have hP : va_P D vwCl [(ca, .inl (cA, 16, .inl (fl f (-1) 16))), (cc, .inl (cB, 4, .inl g_79)), (h0, .inr (2, [.int kb, .ref ca, .ref cc, .int kf, .int kg, .int 0, .int 0, .int ((lb kb) &&& 0)]))] H := hP
  have hD : va_D A [(ca, .inl (cA, 16, .inl (fl f (-1) 16))), (cc, .inl (cB, 4, .inl g_79)), (h0, .inr (2, [.int kb, .ref ca, .ref cc, .int kf, .int kg, .int 0, .int 0, .int ((lb kb) &&& 0)]))] := hD
  have hK : va_K D vwCl [(cA, .int), (cB, .int)] s := hK
  refine lv_if_eq (tgt := 150) hx hb dX3_compareAll_131 (by decide) (fun c_82 => ?_) (fun c_82 => ?_)
  · refine lv_iconst (v := (-1)) hx hb dX3_compareAll_150 (by decide) ?_
    refine va_iast hx hb hK hP hD hS 1 1 rfl rfl (vin (by decide)) dX3_compareAll_151 (fun H locs hP hD hS => ?_)
    obtain ⟨g_83, hP, hD⟩ : ∃ g9 : Nat → Int32, va_P D vwCl [(ca, .inl (cA, 16, .inl (fl f (-1) 16))), (cc, .inl (cB, 4, .inl g9)), (h0, .inr (2, [.int kb, .ref ca, .ref cc, .int kf, .int kg, .int 0, .int 0, .int ((lb kb) &&& 0)]))] H ∧ va_D A [(ca, .inl (cA, 16, .inl (fl f (-1) 16))), (cc, .inl (cB, 4, .inl g9)), (h0, .inr (2, [.int kb, .ref ca, .ref cc, .int kf, .int kg, .int 0, .int 0, .int ((lb kb) &&& 0)]))] := ⟨_, hP, hD⟩
    refine lv_iinc (v := 3) (lv' := [(3, .int 3), (2, .int 0), (1, .int (lb kb)), (0, .ref h0)]) hx hb dX3_compareAll_152 hl (k := 0) rfl (by decide) (by decide) rfl (fun ls hl => ?_)
    refine lv_goto (tgt := 116) hx hb dX3_compareAll_155 (by decide) ?_
    refine lv_iload_n hx hb dX3_compareAll_116 rfl (lv_at hl 0 rfl) ?_
    refine lv_iconst (v := 3) hx hb dX3_compareAll_117 (by decide) ?_
    refine lv_icmp_gt (tgt := 158) hx hb dX3_compareAll_118 (by decide) (fun c_84 => absurd c_84 (by decide)) (fun _ => ?_)
    refine lv_aload_n hx hb dX3_compareAll_121 rfl (lv_at hl 3 rfl) ?_
    refine va_get (D := D) (ci := 2) (v := .ref cc) (C := RX3) (T := TX3) (N := 8) hx hb hts hiX3_compareAll_X3 hown hK hP 2 rfl rfl 2 (by decide) (hts (.fieldLink RX3 15 "OneHandset$Keys" "constants" "[I") (List.mem_of_getElem? (i := 6) rfl)) (fun _ h9 => h9) rfl dX3_compareAll_122 ?_
    refine lv_iload_n hx hb dX3_compareAll_125 rfl (lv_at hl 0 rfl) ?_
    refine lv_aload_n hx hb dX3_compareAll_126 rfl (lv_at hl 3 rfl) ?_
    refine lv_iload_n hx hb dX3_compareAll_127 rfl (lv_at hl 0 rfl) ?_
    refine go_i (wr := [(ca, .inl (cA, 16, .inl (fl f (-1) 16))), (cc, .inl (cB, 4, .inl g_83))]) (tysr := [(cA, .int), (cB, .int)]) hP hD hS hA hK [2] [0, 1] [0, 1] rfl rfl (by decide) (by decide) rfl (va_runV (As := [.int 3]) (rest := [.int 3, .ref cc]) ⟨hx, hb, hml, hown, hts⟩ (c_X3_isCheck l D H.size h0 ca cc kb kf kg 0 0 ((lb kb) &&& 0) 3 ) (cwV 1 hts gX3_compareAll_X3_isCheck rfl rfl rfl (by decide +kernel) ⟨Nat.le_of_ble_eq_true rfl, Nat.le_of_ble_eq_true rfl⟩) (st_preV (ci := 2) (q0 := 2) hP hD hK hNW [2] [] rfl rfl (by decide) rfl rfl rfl rfl) rfl rfl hl.1 rfl (lv_room (Nat.le_of_ble_eq_true rfl)) dX3_compareAll_128 ⟨(Nat.le_of_ble_eq_true rfl), (Nat.le_of_ble_eq_true rfl)⟩) (fun r_85 u H locs hw hP hD hK hS => ?_)
    have hP : va_P D vwCl [(ca, .inl (cA, 16, .inl (fl f (-1) 16))), (cc, .inl (cB, 4, .inl g_83)), (h0, .inr (2, [.int kb, .ref ca, .ref cc, .int kf, .int kg, .int 0, .int 0, .int ((lb kb) &&& 0)]))] H := hP
    have hD : va_D A [(ca, .inl (cA, 16, .inl (fl f (-1) 16))), (cc, .inl (cB, 4, .inl g_83)), (h0, .inr (2, [.int kb, .ref ca, .ref cc, .int kf, .int kg, .int 0, .int 0, .int ((lb kb) &&& 0)]))] := hD
    have hK : va_K D vwCl [(cA, .int), (cB, .int)] s := hK
    refine lv_if_eq (tgt := 150) hx hb dX3_compareAll_131 (by decide) (fun c_86 => ?_) (fun c_86 => ?_)
    · refine lv_iconst (v := (-1)) hx hb dX3_compareAll_150 (by decide) ?_
      refine va_iast hx hb hK hP hD hS 1 1 rfl rfl (vin (by decide)) dX3_compareAll_151 (fun H locs hP hD hS => ?_)
      obtain ⟨g_87, hP, hD⟩ : ∃ g9 : Nat → Int32, va_P D vwCl [(ca, .inl (cA, 16, .inl (fl f (-1) 16))), (cc, .inl (cB, 4, .inl g9)), (h0, .inr (2, [.int kb, .ref ca, .ref cc, .int kf, .int kg, .int 0, .int 0, .int ((lb kb) &&& 0)]))] H ∧ va_D A [(ca, .inl (cA, 16, .inl (fl f (-1) 16))), (cc, .inl (cB, 4, .inl g9)), (h0, .inr (2, [.int kb, .ref ca, .ref cc, .int kf, .int kg, .int 0, .int 0, .int ((lb kb) &&& 0)]))] := ⟨_, hP, hD⟩
      refine lv_iinc (v := 4) (lv' := [(3, .int 4), (2, .int 0), (1, .int (lb kb)), (0, .ref h0)]) hx hb dX3_compareAll_152 hl (k := 0) rfl (by decide) (by decide) rfl (fun ls hl => ?_)
      refine lv_goto (tgt := 116) hx hb dX3_compareAll_155 (by decide) ?_
      refine lv_iload_n hx hb dX3_compareAll_116 rfl (lv_at hl 0 rfl) ?_
      refine lv_iconst (v := 3) hx hb dX3_compareAll_117 (by decide) ?_
      refine lv_icmp_gt (tgt := 158) hx hb dX3_compareAll_118 (by decide) (fun _ => ?_) (fun c_88 => absurd (by decide) c_88)
      exact ret_v hx hb hr hlocks (u := ()) trivial (hP.sub [] rfl) (hK.sub [] rfl) (hD.sub [] (by decide) rfl) hS (Nat.le_of_ble_eq_true rfl) (Nat.le_of_ble_eq_true rfl) dX3_compareAll_158
    refine lv_aload_n hx hb dX3_compareAll_134 rfl (lv_at hl 3 rfl) ?_
    refine va_get (D := D) (ci := 2) (v := .int 0) (C := RX3) (T := TX3) (N := 8) hx hb hts hiX3_compareAll_X3 hown hK hP 2 rfl rfl 5 (by decide) (hts (.fieldLink RX3 57 "OneHandset$Keys" "learnt" "I") (List.mem_of_getElem? (i := 1) rfl)) (fun _ h9 => h9) rfl dX3_compareAll_135 ?_
    refine lv_iconst (v := 2) hx hb dX3_compareAll_138 (by decide) ?_
    refine lv_icmp_lt (tgt := 150) hx hb dX3_compareAll_139 (by decide) (fun _ => ?_) (fun c_89 => absurd (by decide) c_89)
    refine lv_iconst (v := (-1)) hx hb dX3_compareAll_150 (by decide) ?_
    refine va_iast hx hb hK hP hD hS 1 1 rfl rfl (vin (by decide)) dX3_compareAll_151 (fun H locs hP hD hS => ?_)
    obtain ⟨g_90, hP, hD⟩ : ∃ g9 : Nat → Int32, va_P D vwCl [(ca, .inl (cA, 16, .inl (fl f (-1) 16))), (cc, .inl (cB, 4, .inl g9)), (h0, .inr (2, [.int kb, .ref ca, .ref cc, .int kf, .int kg, .int 0, .int 0, .int ((lb kb) &&& 0)]))] H ∧ va_D A [(ca, .inl (cA, 16, .inl (fl f (-1) 16))), (cc, .inl (cB, 4, .inl g9)), (h0, .inr (2, [.int kb, .ref ca, .ref cc, .int kf, .int kg, .int 0, .int 0, .int ((lb kb) &&& 0)]))] := ⟨_, hP, hD⟩
    refine lv_iinc (v := 4) (lv' := [(3, .int 4), (2, .int 0), (1, .int (lb kb)), (0, .ref h0)]) hx hb dX3_compareAll_152 hl (k := 0) rfl (by decide) (by decide) rfl (fun ls hl => ?_)
    refine lv_goto (tgt := 116) hx hb dX3_compareAll_155 (by decide) ?_
    refine lv_iload_n hx hb dX3_compareAll_116 rfl (lv_at hl 0 rfl) ?_
    refine lv_iconst (v := 3) hx hb dX3_compareAll_117 (by decide) ?_
    refine lv_icmp_gt (tgt := 158) hx hb dX3_compareAll_118 (by decide) (fun _ => ?_) (fun c_91 => absurd (by decide) c_91)
    exact ret_v hx hb hr hlocks (u := ()) trivial (hP.sub [] rfl) (hK.sub [] rfl) (hD.sub [] (by decide) rfl) hS (Nat.le_of_ble_eq_true rfl) (Nat.le_of_ble_eq_true rfl) dX3_compareAll_158
  refine lv_aload_n hx hb dX3_compareAll_134 rfl (lv_at hl 3 rfl) ?_
  refine va_get (D := D) (ci := 2) (v := .int 0) (C := RX3) (T := TX3) (N := 8) hx hb hts hiX3_compareAll_X3 hown hK hP 2 rfl rfl 5 (by decide) (hts (.fieldLink RX3 57 "OneHandset$Keys" "learnt" "I") (List.mem_of_getElem? (i := 1) rfl)) (fun _ h9 => h9) rfl dX3_compareAll_135 ?_
  refine lv_iconst (v := 2) hx hb dX3_compareAll_138 (by decide) ?_
  refine lv_icmp_lt (tgt := 150) hx hb dX3_compareAll_139 (by decide) (fun _ => ?_) (fun c_92 => absurd (by decide) c_92)
  refine lv_iconst (v := (-1)) hx hb dX3_compareAll_150 (by decide) ?_
  refine va_iast hx hb hK hP hD hS 1 1 rfl rfl (vin (by decide)) dX3_compareAll_151 (fun H locs hP hD hS => ?_)
  obtain ⟨g_93, hP, hD⟩ : ∃ g9 : Nat → Int32, va_P D vwCl [(ca, .inl (cA, 16, .inl (fl f (-1) 16))), (cc, .inl (cB, 4, .inl g9)), (h0, .inr (2, [.int kb, .ref ca, .ref cc, .int kf, .int kg, .int 0, .int 0, .int ((lb kb) &&& 0)]))] H ∧ va_D A [(ca, .inl (cA, 16, .inl (fl f (-1) 16))), (cc, .inl (cB, 4, .inl g9)), (h0, .inr (2, [.int kb, .ref ca, .ref cc, .int kf, .int kg, .int 0, .int 0, .int ((lb kb) &&& 0)]))] := ⟨_, hP, hD⟩
  refine lv_iinc (v := 3) (lv' := [(3, .int 3), (2, .int 0), (1, .int (lb kb)), (0, .ref h0)]) hx hb dX3_compareAll_152 hl (k := 0) rfl (by decide) (by decide) rfl (fun ls hl => ?_)
  refine lv_goto (tgt := 116) hx hb dX3_compareAll_155 (by decide) ?_
  refine lv_iload_n hx hb dX3_compareAll_116 rfl (lv_at hl 0 rfl) ?_
  refine lv_iconst (v := 3) hx hb dX3_compareAll_117 (by decide) ?_
  refine lv_icmp_gt (tgt := 158) hx hb dX3_compareAll_118 (by decide) (fun c_94 => absurd c_94 (by decide)) (fun _ => ?_)
  refine lv_aload_n hx hb dX3_compareAll_121 rfl (lv_at hl 3 rfl) ?_
  refine va_get (D := D) (ci := 2) (v := .ref cc) (C := RX3) (T := TX3) (N := 8) hx hb hts hiX3_compareAll_X3 hown hK hP 2 rfl rfl 2 (by decide) (hts (.fieldLink RX3 15 "OneHandset$Keys" "constants" "[I") (List.mem_of_getElem? (i := 6) rfl)) (fun _ h9 => h9) rfl dX3_compareAll_122 ?_
  refine lv_iload_n hx hb dX3_compareAll_125 rfl (lv_at hl 0 rfl) ?_
  refine lv_aload_n hx hb dX3_compareAll_126 rfl (lv_at hl 3 rfl) ?_
  refine lv_iload_n hx hb dX3_compareAll_127 rfl (lv_at hl 0 rfl) ?_
  refine go_i (wr := [(ca, .inl (cA, 16, .inl (fl f (-1) 16))), (cc, .inl (cB, 4, .inl g_93))]) (tysr := [(cA, .int), (cB, .int)]) hP hD hS hA hK [2] [0, 1] [0, 1] rfl rfl (by decide) (by decide) rfl (va_runV (As := [.int 3]) (rest := [.int 3, .ref cc]) ⟨hx, hb, hml, hown, hts⟩ (c_X3_isCheck l D H.size h0 ca cc kb kf kg 0 0 ((lb kb) &&& 0) 3 ) (cwV 1 hts gX3_compareAll_X3_isCheck rfl rfl rfl (by decide +kernel) ⟨Nat.le_of_ble_eq_true rfl, Nat.le_of_ble_eq_true rfl⟩) (st_preV (ci := 2) (q0 := 2) hP hD hK hNW [2] [] rfl rfl (by decide) rfl rfl rfl rfl) rfl rfl hl.1 rfl (lv_room (Nat.le_of_ble_eq_true rfl)) dX3_compareAll_128 ⟨(Nat.le_of_ble_eq_true rfl), (Nat.le_of_ble_eq_true rfl)⟩) (fun r_95 u H locs hw hP hD hK hS => ?_)
  have hP : va_P D vwCl [(ca, .inl (cA, 16, .inl (fl f (-1) 16))), (cc, .inl (cB, 4, .inl g_93)), (h0, .inr (2, [.int kb, .ref ca, .ref cc, .int kf, .int kg, .int 0, .int 0, .int ((lb kb) &&& 0)]))] H := hP
  have hD : va_D A [(ca, .inl (cA, 16, .inl (fl f (-1) 16))), (cc, .inl (cB, 4, .inl g_93)), (h0, .inr (2, [.int kb, .ref ca, .ref cc, .int kf, .int kg, .int 0, .int 0, .int ((lb kb) &&& 0)]))] := hD
  have hK : va_K D vwCl [(cA, .int), (cB, .int)] s := hK
  refine lv_if_eq (tgt := 150) hx hb dX3_compareAll_131 (by decide) (fun c_96 => ?_) (fun c_96 => ?_)
  · refine lv_iconst (v := (-1)) hx hb dX3_compareAll_150 (by decide) ?_
    refine va_iast hx hb hK hP hD hS 1 1 rfl rfl (vin (by decide)) dX3_compareAll_151 (fun H locs hP hD hS => ?_)
    obtain ⟨g_97, hP, hD⟩ : ∃ g9 : Nat → Int32, va_P D vwCl [(ca, .inl (cA, 16, .inl (fl f (-1) 16))), (cc, .inl (cB, 4, .inl g9)), (h0, .inr (2, [.int kb, .ref ca, .ref cc, .int kf, .int kg, .int 0, .int 0, .int ((lb kb) &&& 0)]))] H ∧ va_D A [(ca, .inl (cA, 16, .inl (fl f (-1) 16))), (cc, .inl (cB, 4, .inl g9)), (h0, .inr (2, [.int kb, .ref ca, .ref cc, .int kf, .int kg, .int 0, .int 0, .int ((lb kb) &&& 0)]))] := ⟨_, hP, hD⟩
    refine lv_iinc (v := 4) (lv' := [(3, .int 4), (2, .int 0), (1, .int (lb kb)), (0, .ref h0)]) hx hb dX3_compareAll_152 hl (k := 0) rfl (by decide) (by decide) rfl (fun ls hl => ?_)
    refine lv_goto (tgt := 116) hx hb dX3_compareAll_155 (by decide) ?_
    refine lv_iload_n hx hb dX3_compareAll_116 rfl (lv_at hl 0 rfl) ?_
    refine lv_iconst (v := 3) hx hb dX3_compareAll_117 (by decide) ?_
    refine lv_icmp_gt (tgt := 158) hx hb dX3_compareAll_118 (by decide) (fun _ => ?_) (fun c_98 => absurd (by decide) c_98)
    exact ret_v hx hb hr hlocks (u := ()) trivial (hP.sub [] rfl) (hK.sub [] rfl) (hD.sub [] (by decide) rfl) hS (Nat.le_of_ble_eq_true rfl) (Nat.le_of_ble_eq_true rfl) dX3_compareAll_158
  refine lv_aload_n hx hb dX3_compareAll_134 rfl (lv_at hl 3 rfl) ?_
  refine va_get (D := D) (ci := 2) (v := .int 0) (C := RX3) (T := TX3) (N := 8) hx hb hts hiX3_compareAll_X3 hown hK hP 2 rfl rfl 5 (by decide) (hts (.fieldLink RX3 57 "OneHandset$Keys" "learnt" "I") (List.mem_of_getElem? (i := 1) rfl)) (fun _ h9 => h9) rfl dX3_compareAll_135 ?_
  refine lv_iconst (v := 2) hx hb dX3_compareAll_138 (by decide) ?_
  refine lv_icmp_lt (tgt := 150) hx hb dX3_compareAll_139 (by decide) (fun _ => ?_) (fun c_99 => absurd (by decide) c_99)
  refine lv_iconst (v := (-1)) hx hb dX3_compareAll_150 (by decide) ?_
  refine va_iast hx hb hK hP hD hS 1 1 rfl rfl (vin (by decide)) dX3_compareAll_151 (fun H locs hP hD hS => ?_)
  obtain ⟨g_100, hP, hD⟩ : ∃ g9 : Nat → Int32, va_P D vwCl [(ca, .inl (cA, 16, .inl (fl f (-1) 16))), (cc, .inl (cB, 4, .inl g9)), (h0, .inr (2, [.int kb, .ref ca, .ref cc, .int kf, .int kg, .int 0, .int 0, .int ((lb kb) &&& 0)]))] H ∧ va_D A [(ca, .inl (cA, 16, .inl (fl f (-1) 16))), (cc, .inl (cB, 4, .inl g9)), (h0, .inr (2, [.int kb, .ref ca, .ref cc, .int kf, .int kg, .int 0, .int 0, .int ((lb kb) &&& 0)]))] := ⟨_, hP, hD⟩
  refine lv_iinc (v := 4) (lv' := [(3, .int 4), (2, .int 0), (1, .int (lb kb)), (0, .ref h0)]) hx hb dX3_compareAll_152 hl (k := 0) rfl (by decide) (by decide) rfl (fun ls hl => ?_)
  refine lv_goto (tgt := 116) hx hb dX3_compareAll_155 (by decide) ?_
  refine lv_iload_n hx hb dX3_compareAll_116 rfl (lv_at hl 0 rfl) ?_
  refine lv_iconst (v := 3) hx hb dX3_compareAll_117 (by decide) ?_
  refine lv_icmp_gt (tgt := 158) hx hb dX3_compareAll_118 (by decide) (fun _ => ?_) (fun c_101 => absurd (by decide) c_101)
  exact ret_v hx hb hr hlocks (u := ()) trivial (hP.sub [] rfl) (hK.sub [] rfl) (hD.sub [] (by decide) rfl) hS (Nat.le_of_ble_eq_true rfl) (Nat.le_of_ble_eq_true rfl) dX3_compareAll_158
