set_option maxHeartbeats 4000000 in
set_option maxRecDepth 100000 in
theorem g_X1_init (l : Launch) (D : va_G) (sz : Nat) (h0 : Nat)  : Cv l yX1_init wsX1_init ({ frames := 1, cells := 0, slots := 0, locals := 12 } : Room) D [.ref h0] [] [] sz (fun (_ : Unit) => True) (fun (_ : Unit) => []) (fun (_ : Unit) => []) := by
  refine ct_v (cc := cX1_init) (maxL := 1) (ret := none) (by decide) rfl (Nat.le_of_ble_eq_true rfl) ?_
  intro p e s m below meth c A ls H hx hb hr hts hown hml hlocks hin hA hS hP hK hD hNW hl hAe hsz
  have hl : lv_has ls 1 [(0, .ref h0)] := hl
  refine lv_aload_n hx hb dX1_init_0 rfl (lv_at hl 0 rfl) ?_
  refine W.objInit hx hb hown (hts (.methodLink RX1 1 objectInit) (List.mem_of_getElem? (i := 1) rfl)) (hts (.instanceMethod objectInit) (List.mem_of_getElem? (i := 2) rfl)) (hts (.code objectInit ⟨#[0xb1]⟩ 1 none) (List.mem_of_getElem? (i := 3) rfl)) rfl (by rw [hml]; exact hl.1) rfl dX1_init_1 (Nat.le_of_ble_eq_true rfl) (Nat.le_of_ble_eq_true rfl) ?_
  refine W.eq (g2 := F0 m 4 ls []) rfl ?_
  exact ret_v hx hb hr hlocks (u := ()) trivial (hP.sub [] rfl) (hK.sub [] rfl) (hD.sub [] (by decide) rfl) hS (Nat.le_of_ble_eq_true rfl) (Nat.le_of_ble_eq_true rfl) dX1_init_4
theorem hig_X2_init_X2 : ∀ w ∈ wsX20, w ∈ wsX2_init := mem_pl [9, 10] rfl
set_option maxHeartbeats 4000000 in
set_option maxRecDepth 100000 in
theorem g_X2_init (l : Launch) (D : va_G) (sz : Nat) (h0 : Nat) (v : Int32) (w : Int32)  : Cv l yX2_init wsX2_init ({ frames := 2, cells := 0, slots := 0, locals := 32 } : Room) D [.ref h0, .int v, .int w] [(h0, .inr (1, [.int 0, .int 0]))] [] sz (fun (_ : Unit) => True) (fun (_ : Unit) => [(h0, .inr (1, [.int v, .int w]))]) (fun (_ : Unit) => []) := by
  refine ct_v (cc := cX2_init) (maxL := 3) (ret := none) (by decide) rfl (Nat.le_of_ble_eq_true rfl) ?_
  intro p e s m below meth c A ls H hx hb hr hts hown hml hlocks hin hA hS hP hK hD hNW hl hAe hsz
  have hl : lv_has ls 3 [(0, .ref h0), (1, .int v), (2, .int w)] := hl
  refine lv_aload_n hx hb dX2_init_0 rfl (lv_at hl 0 rfl) ?_
  refine go_v (wr := [(h0, .inr (1, [.int 0, .int 0]))]) (tysr := []) hP hD hS hA hK [] [0] [] rfl rfl (by decide) (by decide) rfl (va_runIN (As := []) (rest := []) ⟨hx, hb, hml, hown, hts⟩ (g_X1_init l D H.size h0 ) ⟨(va_cnB (own := RX2) (host := RX8) (index := 3) 0 hts gX2_init_X1_init_n3 rfl rfl rfl (hNW.2.1 (RX2, 3, yX1_init, RX8) (List.mem_of_getElem? (l := nw_M) (i := 3) rfl)) (hts (.initialized RX1) (List.mem_of_getElem? (i := 4) rfl)) (by decide +kernel) ⟨Nat.le_of_ble_eq_true rfl, Nat.le_of_ble_eq_true rfl⟩), rfl, (hts (.instanceMethod yX1_init) (List.mem_of_getElem? (i := 3) rfl))⟩ (st_preS hP hD hK hNW [] [] rfl rfl (by decide) rfl) rfl rfl hl.1 rfl (lv_room (Nat.le_of_ble_eq_true rfl)) dX2_init_1 ⟨(Nat.le_of_ble_eq_true rfl), (Nat.le_of_ble_eq_true rfl)⟩) (fun u H locs hw hP hD hK hS => ?_)
  have hP : va_P D vwCl [(h0, .inr (1, [.int 0, .int 0]))] H := hP
  have hD : va_D A [(h0, .inr (1, [.int 0, .int 0]))] := hD
  have hK : va_K D vwCl [] s := hK
  refine lv_aload_n hx hb dX2_init_4 rfl (lv_at hl 0 rfl) ?_
  refine lv_iload_n hx hb dX2_init_5 rfl (lv_at hl 1 rfl) ?_
  refine va_putF (D := D) (ci := 1) (v := .int v) (ty := .int) (C := RX2) (T := TX2) (N := 2) hx hb hts hig_X2_init_X2 tyX2 tyX2_ok nmX2 hown hK hP hD hS 0 rfl rfl 0 (by decide) (hts (.fieldLink RX2 9 "OneHandset$HalvesForm" "bits" "I") (List.mem_of_getElem? (i := 1) rfl)) (fun _ h9 => h9) rfl hin rfl (by decide +kernel) rfl rfl (Nat.le_of_ble_eq_true rfl) dX2_init_6 (fun H locs hP hD hS => ?_)
  have hP : va_P D vwCl [(h0, .inr (1, [.int v, .int 0]))] H := hP
  have hD : va_D A [(h0, .inr (1, [.int v, .int 0]))] := hD
  refine lv_aload_n hx hb dX2_init_9 rfl (lv_at hl 0 rfl) ?_
  refine lv_iload_n hx hb dX2_init_10 rfl (lv_at hl 2 rfl) ?_
  refine va_putF (D := D) (ci := 1) (v := .int w) (ty := .int) (C := RX2) (T := TX2) (N := 2) hx hb hts hig_X2_init_X2 tyX2 tyX2_ok nmX2 hown hK hP hD hS 0 rfl rfl 1 (by decide) (hts (.fieldLink RX2 15 "OneHandset$HalvesForm" "p" "I") (List.mem_of_getElem? (i := 2) rfl)) (fun _ h9 => h9) rfl hin rfl (by decide +kernel) rfl rfl (Nat.le_of_ble_eq_true rfl) dX2_init_11 (fun H locs hP hD hS => ?_)
  have hP : va_P D vwCl [(h0, .inr (1, [.int v, .int w]))] H := hP
  have hD : va_D A [(h0, .inr (1, [.int v, .int w]))] := hD
  exact ret_v hx hb hr hlocks (u := ()) trivial (hP.sub [0] rfl) (hK.sub [] rfl) (hD.sub [0] (by decide) rfl) hS (Nat.le_of_ble_eq_true rfl) (Nat.le_of_ble_eq_true rfl) dX2_init_14
theorem hig_X5_init0_X5 : ∀ w ∈ wsX50, w ∈ wsX5_init := mem_pl [15, 16, 17, 18, 19, 20, 21, 22] rfl
set_option maxHeartbeats 4000000 in
set_option maxRecDepth 100000 in
theorem g_X5_init0 (l : Launch) (D : va_G) (sz : Nat) (h0 : Nat) (n : Int32) (a : Int32) (b9 : Int32) (pp : Int32) (z : Int32) (o : Int32)  : Cv l yX5_init wsX5_init ({ frames := 2, cells := 0, slots := 0, locals := 32 } : Room) D [.ref h0, .int 0, .int n, .int a, .int b9, .int pp, .int z, .int o] [(h0, .inr (4, [.int 0, .int 0, .int 0, .int 0, .int 0, .int 0, .int 0, .int 0]))] [] sz (fun (fl9 : Int32) => True) (fun (fl9 : Int32) => [(h0, .inr (4, [.int 0, .int n, .int a, .int b9, .int pp, .int z, .int o, .int fl9]))]) (fun (fl9 : Int32) => []) := by
  refine ct_v (cc := cX5_init) (maxL := 8) (ret := none) (by decide) rfl (Nat.le_of_ble_eq_true rfl) ?_
  intro p e s m below meth c A ls H hx hb hr hts hown hml hlocks hin hA hS hP hK hD hNW hl hAe hsz
  have hl : lv_has ls 8 [(0, .ref h0), (1, .int 0), (2, .int n), (3, .int a), (4, .int b9), (5, .int pp), (6, .int z), (7, .int o)] := hl
  refine lv_aload_n hx hb dX5_init_0 rfl (lv_at hl 0 rfl) ?_
  refine go_v (wr := [(h0, .inr (4, [.int 0, .int 0, .int 0, .int 0, .int 0, .int 0, .int 0, .int 0]))]) (tysr := []) hP hD hS hA hK [] [0] [] rfl rfl (by decide) (by decide) rfl (va_runIN (As := []) (rest := []) ⟨hx, hb, hml, hown, hts⟩ (g_X1_init l D H.size h0 ) ⟨(va_cnB (own := RX5) (host := RX8) (index := 3) 0 hts gX5_init_X1_init_n3 rfl rfl rfl (hNW.2.1 (RX5, 3, yX1_init, RX8) (List.mem_of_getElem? (l := nw_M) (i := 4) rfl)) (hts (.initialized RX1) (List.mem_of_getElem? (i := 10) rfl)) (by decide +kernel) ⟨Nat.le_of_ble_eq_true rfl, Nat.le_of_ble_eq_true rfl⟩), rfl, (hts (.instanceMethod yX1_init) (List.mem_of_getElem? (i := 9) rfl))⟩ (st_preS hP hD hK hNW [] [] rfl rfl (by decide) rfl) rfl rfl hl.1 rfl (lv_room (Nat.le_of_ble_eq_true rfl)) dX5_init_1 ⟨(Nat.le_of_ble_eq_true rfl), (Nat.le_of_ble_eq_true rfl)⟩) (fun u H locs hw hP hD hK hS => ?_)
  have hP : va_P D vwCl [(h0, .inr (4, [.int 0, .int 0, .int 0, .int 0, .int 0, .int 0, .int 0, .int 0]))] H := hP
  have hD : va_D A [(h0, .inr (4, [.int 0, .int 0, .int 0, .int 0, .int 0, .int 0, .int 0, .int 0]))] := hD
  have hK : va_K D vwCl [] s := hK
  refine lv_aload_n hx hb dX5_init_4 rfl (lv_at hl 0 rfl) ?_
  refine lv_iload_n hx hb dX5_init_5 rfl (lv_at hl 1 rfl) ?_
  refine va_putF (D := D) (ci := 4) (v := .int 0) (ty := .boolean) (C := RX5) (T := TX5) (N := 8) hx hb hts hig_X5_init0_X5 tyX5 tyX5_ok nmX5 hown hK hP hD hS 0 rfl rfl 0 (by decide) (hts (.fieldLink RX5 9 "OneHandset$PairsForm" "onTellsBit" "Z") (List.mem_of_getElem? (i := 1) rfl)) (fun _ h9 => h9) rfl hin rfl (by decide +kernel) rfl rfl (Nat.le_of_ble_eq_true rfl) dX5_init_6 (fun H locs hP hD hS => ?_)
  have hP : va_P D vwCl [(h0, .inr (4, [.int 0, .int 0, .int 0, .int 0, .int 0, .int 0, .int 0, .int 0]))] H := hP
  have hD : va_D A [(h0, .inr (4, [.int 0, .int 0, .int 0, .int 0, .int 0, .int 0, .int 0, .int 0]))] := hD
  refine lv_aload_n hx hb dX5_init_9 rfl (lv_at hl 0 rfl) ?_
  refine lv_iload_n hx hb dX5_init_10 rfl (lv_at hl 2 rfl) ?_
  refine va_putF (D := D) (ci := 4) (v := .int n) (ty := .int) (C := RX5) (T := TX5) (N := 8) hx hb hts hig_X5_init0_X5 tyX5 tyX5_ok nmX5 hown hK hP hD hS 0 rfl rfl 1 (by decide) (hts (.fieldLink RX5 15 "OneHandset$PairsForm" "bits" "I") (List.mem_of_getElem? (i := 2) rfl)) (fun _ h9 => h9) rfl hin rfl (by decide +kernel) rfl rfl (Nat.le_of_ble_eq_true rfl) dX5_init_11 (fun H locs hP hD hS => ?_)
  have hP : va_P D vwCl [(h0, .inr (4, [.int 0, .int n, .int 0, .int 0, .int 0, .int 0, .int 0, .int 0]))] H := hP
  have hD : va_D A [(h0, .inr (4, [.int 0, .int n, .int 0, .int 0, .int 0, .int 0, .int 0, .int 0]))] := hD
  refine lv_aload_n hx hb dX5_init_14 rfl (lv_at hl 0 rfl) ?_
  refine lv_iload_n hx hb dX5_init_15 rfl (lv_at hl 3 rfl) ?_
  refine va_putF (D := D) (ci := 4) (v := .int a) (ty := .int) (C := RX5) (T := TX5) (N := 8) hx hb hts hig_X5_init0_X5 tyX5 tyX5_ok nmX5 hown hK hP hD hS 0 rfl rfl 2 (by decide) (hts (.fieldLink RX5 19 "OneHandset$PairsForm" "a" "I") (List.mem_of_getElem? (i := 3) rfl)) (fun _ h9 => h9) rfl hin rfl (by decide +kernel) rfl rfl (Nat.le_of_ble_eq_true rfl) dX5_init_16 (fun H locs hP hD hS => ?_)
  have hP : va_P D vwCl [(h0, .inr (4, [.int 0, .int n, .int a, .int 0, .int 0, .int 0, .int 0, .int 0]))] H := hP
  have hD : va_D A [(h0, .inr (4, [.int 0, .int n, .int a, .int 0, .int 0, .int 0, .int 0, .int 0]))] := hD
  refine lv_aload_n hx hb dX5_init_19 rfl (lv_at hl 0 rfl) ?_
  refine lv_iload hx hb dX5_init_20 (lv_at hl 4 rfl) ?_
  refine va_putF (D := D) (ci := 4) (v := .int b9) (ty := .int) (C := RX5) (T := TX5) (N := 8) hx hb hts hig_X5_init0_X5 tyX5 tyX5_ok nmX5 hown hK hP hD hS 0 rfl rfl 3 (by decide) (hts (.fieldLink RX5 22 "OneHandset$PairsForm" "b" "I") (List.mem_of_getElem? (i := 4) rfl)) (fun _ h9 => h9) rfl hin rfl (by decide +kernel) rfl rfl (Nat.le_of_ble_eq_true rfl) dX5_init_22 (fun H locs hP hD hS => ?_)
  have hP : va_P D vwCl [(h0, .inr (4, [.int 0, .int n, .int a, .int b9, .int 0, .int 0, .int 0, .int 0]))] H := hP
  have hD : va_D A [(h0, .inr (4, [.int 0, .int n, .int a, .int b9, .int 0, .int 0, .int 0, .int 0]))] := hD
  refine lv_aload_n hx hb dX5_init_25 rfl (lv_at hl 0 rfl) ?_
  refine lv_iload hx hb dX5_init_26 (lv_at hl 5 rfl) ?_
  refine va_putF (D := D) (ci := 4) (v := .int pp) (ty := .int) (C := RX5) (T := TX5) (N := 8) hx hb hts hig_X5_init0_X5 tyX5 tyX5_ok nmX5 hown hK hP hD hS 0 rfl rfl 4 (by decide) (hts (.fieldLink RX5 25 "OneHandset$PairsForm" "p" "I") (List.mem_of_getElem? (i := 5) rfl)) (fun _ h9 => h9) rfl hin rfl (by decide +kernel) rfl rfl (Nat.le_of_ble_eq_true rfl) dX5_init_28 (fun H locs hP hD hS => ?_)
  have hP : va_P D vwCl [(h0, .inr (4, [.int 0, .int n, .int a, .int b9, .int pp, .int 0, .int 0, .int 0]))] H := hP
  have hD : va_D A [(h0, .inr (4, [.int 0, .int n, .int a, .int b9, .int pp, .int 0, .int 0, .int 0]))] := hD
  refine lv_aload_n hx hb dX5_init_31 rfl (lv_at hl 0 rfl) ?_
  refine lv_iload hx hb dX5_init_32 (lv_at hl 6 rfl) ?_
  refine va_putF (D := D) (ci := 4) (v := .int z) (ty := .int) (C := RX5) (T := TX5) (N := 8) hx hb hts hig_X5_init0_X5 tyX5 tyX5_ok nmX5 hown hK hP hD hS 0 rfl rfl 5 (by decide) (hts (.fieldLink RX5 28 "OneHandset$PairsForm" "z" "I") (List.mem_of_getElem? (i := 6) rfl)) (fun _ h9 => h9) rfl hin rfl (by decide +kernel) rfl rfl (Nat.le_of_ble_eq_true rfl) dX5_init_34 (fun H locs hP hD hS => ?_)
  have hP : va_P D vwCl [(h0, .inr (4, [.int 0, .int n, .int a, .int b9, .int pp, .int z, .int 0, .int 0]))] H := hP
  have hD : va_D A [(h0, .inr (4, [.int 0, .int n, .int a, .int b9, .int pp, .int z, .int 0, .int 0]))] := hD
  refine lv_aload_n hx hb dX5_init_37 rfl (lv_at hl 0 rfl) ?_
  refine lv_iload hx hb dX5_init_38 (lv_at hl 7 rfl) ?_
  refine va_putF (D := D) (ci := 4) (v := .int o) (ty := .int) (C := RX5) (T := TX5) (N := 8) hx hb hts hig_X5_init0_X5 tyX5 tyX5_ok nmX5 hown hK hP hD hS 0 rfl rfl 6 (by decide) (hts (.fieldLink RX5 31 "OneHandset$PairsForm" "o" "I") (List.mem_of_getElem? (i := 7) rfl)) (fun _ h9 => h9) rfl hin rfl (by decide +kernel) rfl rfl (Nat.le_of_ble_eq_true rfl) dX5_init_40 (fun H locs hP hD hS => ?_)
  have hP : va_P D vwCl [(h0, .inr (4, [.int 0, .int n, .int a, .int b9, .int pp, .int z, .int o, .int 0]))] H := hP
  have hD : va_D A [(h0, .inr (4, [.int 0, .int n, .int a, .int b9, .int pp, .int z, .int o, .int 0]))] := hD
  refine lv_aload_n hx hb dX5_init_43 rfl (lv_at hl 0 rfl) ?_
  refine lv_iload_n hx hb dX5_init_44 rfl (lv_at hl 1 rfl) ?_
  refine lv_if_eq (tgt := 56) hx hb dX5_init_45 (by decide) (fun _ => ?_) (fun c_2 => absurd (by decide) c_2)
  refine lv_iconst (v := 2) hx hb dX5_init_56 (by decide) ?_
  refine lv_iload_n hx hb dX5_init_57 rfl (lv_at hl 2 rfl) ?_
  refine lv_imul hx hb dX5_init_58 ?_
  refine lv_iconst (v := 3) hx hb dX5_init_59 (by decide) ?_
  refine lv_iadd hx hb dX5_init_60 ?_
  refine va_putF (D := D) (ci := 4) (v := .int ((2 * n) + 3)) (ty := .int) (C := RX5) (T := TX5) (N := 8) hx hb hts hig_X5_init0_X5 tyX5 tyX5_ok nmX5 hown hK hP hD hS 0 rfl rfl 7 (by decide) (hts (.fieldLink RX5 34 "OneHandset$PairsForm" "length" "I") (List.mem_of_getElem? (i := 8) rfl)) (fun _ h9 => h9) rfl hin rfl (by decide +kernel) rfl rfl (Nat.le_of_ble_eq_true rfl) dX5_init_61 (fun H locs hP hD hS => ?_)
  have hP : va_P D vwCl [(h0, .inr (4, [.int 0, .int n, .int a, .int b9, .int pp, .int z, .int o, .int ((2 * n) + 3)]))] H := hP
  have hD : va_D A [(h0, .inr (4, [.int 0, .int n, .int a, .int b9, .int pp, .int z, .int o, .int ((2 * n) + 3)]))] := hD
  exact ret_v hx hb hr hlocks (u := (2 * n) + 3) trivial (hP.sub [0] rfl) (hK.sub [] rfl) (hD.sub [0] (by decide) rfl) hS (Nat.le_of_ble_eq_true rfl) (Nat.le_of_ble_eq_true rfl) dX5_init_64
theorem hig_X5_init1_X5 : ∀ w ∈ wsX50, w ∈ wsX5_init := mem_pl [15, 16, 17, 18, 19, 20, 21, 22] rfl
set_option maxHeartbeats 4000000 in
set_option maxRecDepth 100000 in
theorem g_X5_init1 (l : Launch) (D : va_G) (sz : Nat) (h0 : Nat) (n : Int32) (a : Int32) (b9 : Int32) (pp : Int32) (z : Int32) (o : Int32)  : Cv l yX5_init wsX5_init ({ frames := 2, cells := 0, slots := 0, locals := 32 } : Room) D [.ref h0, .int 1, .int n, .int a, .int b9, .int pp, .int z, .int o] [(h0, .inr (4, [.int 0, .int 0, .int 0, .int 0, .int 0, .int 0, .int 0, .int 0]))] [] sz (fun (fl9 : Int32) => True) (fun (fl9 : Int32) => [(h0, .inr (4, [.int 1, .int n, .int a, .int b9, .int pp, .int z, .int o, .int fl9]))]) (fun (fl9 : Int32) => []) := by
  refine ct_v (cc := cX5_init) (maxL := 8) (ret := none) (by decide) rfl (Nat.le_of_ble_eq_true rfl) ?_
  intro p e s m below meth c A ls H hx hb hr hts hown hml hlocks hin hA hS hP hK hD hNW hl hAe hsz
  have hl : lv_has ls 8 [(0, .ref h0), (1, .int 1), (2, .int n), (3, .int a), (4, .int b9), (5, .int pp), (6, .int z), (7, .int o)] := hl
  refine lv_aload_n hx hb dX5_init_0 rfl (lv_at hl 0 rfl) ?_
  refine go_v (wr := [(h0, .inr (4, [.int 0, .int 0, .int 0, .int 0, .int 0, .int 0, .int 0, .int 0]))]) (tysr := []) hP hD hS hA hK [] [0] [] rfl rfl (by decide) (by decide) rfl (va_runIN (As := []) (rest := []) ⟨hx, hb, hml, hown, hts⟩ (g_X1_init l D H.size h0 ) ⟨(va_cnB (own := RX5) (host := RX8) (index := 3) 0 hts gX5_init_X1_init_n3 rfl rfl rfl (hNW.2.1 (RX5, 3, yX1_init, RX8) (List.mem_of_getElem? (l := nw_M) (i := 4) rfl)) (hts (.initialized RX1) (List.mem_of_getElem? (i := 10) rfl)) (by decide +kernel) ⟨Nat.le_of_ble_eq_true rfl, Nat.le_of_ble_eq_true rfl⟩), rfl, (hts (.instanceMethod yX1_init) (List.mem_of_getElem? (i := 9) rfl))⟩ (st_preS hP hD hK hNW [] [] rfl rfl (by decide) rfl) rfl rfl hl.1 rfl (lv_room (Nat.le_of_ble_eq_true rfl)) dX5_init_1 ⟨(Nat.le_of_ble_eq_true rfl), (Nat.le_of_ble_eq_true rfl)⟩) (fun u H locs hw hP hD hK hS => ?_)
  have hP : va_P D vwCl [(h0, .inr (4, [.int 0, .int 0, .int 0, .int 0, .int 0, .int 0, .int 0, .int 0]))] H := hP
  have hD : va_D A [(h0, .inr (4, [.int 0, .int 0, .int 0, .int 0, .int 0, .int 0, .int 0, .int 0]))] := hD
  have hK : va_K D vwCl [] s := hK
  refine lv_aload_n hx hb dX5_init_4 rfl (lv_at hl 0 rfl) ?_
  refine lv_iload_n hx hb dX5_init_5 rfl (lv_at hl 1 rfl) ?_
  refine va_putF (D := D) (ci := 4) (v := .int 1) (ty := .boolean) (C := RX5) (T := TX5) (N := 8) hx hb hts hig_X5_init1_X5 tyX5 tyX5_ok nmX5 hown hK hP hD hS 0 rfl rfl 0 (by decide) (hts (.fieldLink RX5 9 "OneHandset$PairsForm" "onTellsBit" "Z") (List.mem_of_getElem? (i := 1) rfl)) (fun _ h9 => h9) rfl hin rfl (by decide +kernel) rfl rfl (Nat.le_of_ble_eq_true rfl) dX5_init_6 (fun H locs hP hD hS => ?_)
  have hP : va_P D vwCl [(h0, .inr (4, [.int 1, .int 0, .int 0, .int 0, .int 0, .int 0, .int 0, .int 0]))] H := hP
  have hD : va_D A [(h0, .inr (4, [.int 1, .int 0, .int 0, .int 0, .int 0, .int 0, .int 0, .int 0]))] := hD
  refine lv_aload_n hx hb dX5_init_9 rfl (lv_at hl 0 rfl) ?_
  refine lv_iload_n hx hb dX5_init_10 rfl (lv_at hl 2 rfl) ?_
  refine va_putF (D := D) (ci := 4) (v := .int n) (ty := .int) (C := RX5) (T := TX5) (N := 8) hx hb hts hig_X5_init1_X5 tyX5 tyX5_ok nmX5 hown hK hP hD hS 0 rfl rfl 1 (by decide) (hts (.fieldLink RX5 15 "OneHandset$PairsForm" "bits" "I") (List.mem_of_getElem? (i := 2) rfl)) (fun _ h9 => h9) rfl hin rfl (by decide +kernel) rfl rfl (Nat.le_of_ble_eq_true rfl) dX5_init_11 (fun H locs hP hD hS => ?_)
  have hP : va_P D vwCl [(h0, .inr (4, [.int 1, .int n, .int 0, .int 0, .int 0, .int 0, .int 0, .int 0]))] H := hP
  have hD : va_D A [(h0, .inr (4, [.int 1, .int n, .int 0, .int 0, .int 0, .int 0, .int 0, .int 0]))] := hD
  refine lv_aload_n hx hb dX5_init_14 rfl (lv_at hl 0 rfl) ?_
  refine lv_iload_n hx hb dX5_init_15 rfl (lv_at hl 3 rfl) ?_
  refine va_putF (D := D) (ci := 4) (v := .int a) (ty := .int) (C := RX5) (T := TX5) (N := 8) hx hb hts hig_X5_init1_X5 tyX5 tyX5_ok nmX5 hown hK hP hD hS 0 rfl rfl 2 (by decide) (hts (.fieldLink RX5 19 "OneHandset$PairsForm" "a" "I") (List.mem_of_getElem? (i := 3) rfl)) (fun _ h9 => h9) rfl hin rfl (by decide +kernel) rfl rfl (Nat.le_of_ble_eq_true rfl) dX5_init_16 (fun H locs hP hD hS => ?_)
  have hP : va_P D vwCl [(h0, .inr (4, [.int 1, .int n, .int a, .int 0, .int 0, .int 0, .int 0, .int 0]))] H := hP
  have hD : va_D A [(h0, .inr (4, [.int 1, .int n, .int a, .int 0, .int 0, .int 0, .int 0, .int 0]))] := hD
  refine lv_aload_n hx hb dX5_init_19 rfl (lv_at hl 0 rfl) ?_
  refine lv_iload hx hb dX5_init_20 (lv_at hl 4 rfl) ?_
  refine va_putF (D := D) (ci := 4) (v := .int b9) (ty := .int) (C := RX5) (T := TX5) (N := 8) hx hb hts hig_X5_init1_X5 tyX5 tyX5_ok nmX5 hown hK hP hD hS 0 rfl rfl 3 (by decide) (hts (.fieldLink RX5 22 "OneHandset$PairsForm" "b" "I") (List.mem_of_getElem? (i := 4) rfl)) (fun _ h9 => h9) rfl hin rfl (by decide +kernel) rfl rfl (Nat.le_of_ble_eq_true rfl) dX5_init_22 (fun H locs hP hD hS => ?_)
  have hP : va_P D vwCl [(h0, .inr (4, [.int 1, .int n, .int a, .int b9, .int 0, .int 0, .int 0, .int 0]))] H := hP
  have hD : va_D A [(h0, .inr (4, [.int 1, .int n, .int a, .int b9, .int 0, .int 0, .int 0, .int 0]))] := hD
  refine lv_aload_n hx hb dX5_init_25 rfl (lv_at hl 0 rfl) ?_
  refine lv_iload hx hb dX5_init_26 (lv_at hl 5 rfl) ?_
  refine va_putF (D := D) (ci := 4) (v := .int pp) (ty := .int) (C := RX5) (T := TX5) (N := 8) hx hb hts hig_X5_init1_X5 tyX5 tyX5_ok nmX5 hown hK hP hD hS 0 rfl rfl 4 (by decide) (hts (.fieldLink RX5 25 "OneHandset$PairsForm" "p" "I") (List.mem_of_getElem? (i := 5) rfl)) (fun _ h9 => h9) rfl hin rfl (by decide +kernel) rfl rfl (Nat.le_of_ble_eq_true rfl) dX5_init_28 (fun H locs hP hD hS => ?_)
  have hP : va_P D vwCl [(h0, .inr (4, [.int 1, .int n, .int a, .int b9, .int pp, .int 0, .int 0, .int 0]))] H := hP
  have hD : va_D A [(h0, .inr (4, [.int 1, .int n, .int a, .int b9, .int pp, .int 0, .int 0, .int 0]))] := hD
  refine lv_aload_n hx hb dX5_init_31 rfl (lv_at hl 0 rfl) ?_
  refine lv_iload hx hb dX5_init_32 (lv_at hl 6 rfl) ?_
  refine va_putF (D := D) (ci := 4) (v := .int z) (ty := .int) (C := RX5) (T := TX5) (N := 8) hx hb hts hig_X5_init1_X5 tyX5 tyX5_ok nmX5 hown hK hP hD hS 0 rfl rfl 5 (by decide) (hts (.fieldLink RX5 28 "OneHandset$PairsForm" "z" "I") (List.mem_of_getElem? (i := 6) rfl)) (fun _ h9 => h9) rfl hin rfl (by decide +kernel) rfl rfl (Nat.le_of_ble_eq_true rfl) dX5_init_34 (fun H locs hP hD hS => ?_)
  have hP : va_P D vwCl [(h0, .inr (4, [.int 1, .int n, .int a, .int b9, .int pp, .int z, .int 0, .int 0]))] H := hP
  have hD : va_D A [(h0, .inr (4, [.int 1, .int n, .int a, .int b9, .int pp, .int z, .int 0, .int 0]))] := hD
  refine lv_aload_n hx hb dX5_init_37 rfl (lv_at hl 0 rfl) ?_
  refine lv_iload hx hb dX5_init_38 (lv_at hl 7 rfl) ?_
  refine va_putF (D := D) (ci := 4) (v := .int o) (ty := .int) (C := RX5) (T := TX5) (N := 8) hx hb hts hig_X5_init1_X5 tyX5 tyX5_ok nmX5 hown hK hP hD hS 0 rfl rfl 6 (by decide) (hts (.fieldLink RX5 31 "OneHandset$PairsForm" "o" "I") (List.mem_of_getElem? (i := 7) rfl)) (fun _ h9 => h9) rfl hin rfl (by decide +kernel) rfl rfl (Nat.le_of_ble_eq_true rfl) dX5_init_40 (fun H locs hP hD hS => ?_)
  have hP : va_P D vwCl [(h0, .inr (4, [.int 1, .int n, .int a, .int b9, .int pp, .int z, .int o, .int 0]))] H := hP
  have hD : va_D A [(h0, .inr (4, [.int 1, .int n, .int a, .int b9, .int pp, .int z, .int o, .int 0]))] := hD
  refine lv_aload_n hx hb dX5_init_43 rfl (lv_at hl 0 rfl) ?_
  refine lv_iload_n hx hb dX5_init_44 rfl (lv_at hl 1 rfl) ?_
  refine lv_if_eq (tgt := 56) hx hb dX5_init_45 (by decide) (fun c_2 => absurd c_2 (by decide)) (fun _ => ?_)
  refine lv_iconst (v := 2) hx hb dX5_init_48 (by decide) ?_
  refine lv_iload_n hx hb dX5_init_49 rfl (lv_at hl 2 rfl) ?_
  refine lv_imul hx hb dX5_init_50 ?_
  refine lv_iconst (v := 1) hx hb dX5_init_51 (by decide) ?_
  refine lv_iadd hx hb dX5_init_52 ?_
  refine lv_goto (tgt := 61) hx hb dX5_init_53 (by decide) ?_
  refine va_putF (D := D) (ci := 4) (v := .int ((2 * n) + 1)) (ty := .int) (C := RX5) (T := TX5) (N := 8) hx hb hts hig_X5_init1_X5 tyX5 tyX5_ok nmX5 hown hK hP hD hS 0 rfl rfl 7 (by decide) (hts (.fieldLink RX5 34 "OneHandset$PairsForm" "length" "I") (List.mem_of_getElem? (i := 8) rfl)) (fun _ h9 => h9) rfl hin rfl (by decide +kernel) rfl rfl (Nat.le_of_ble_eq_true rfl) dX5_init_61 (fun H locs hP hD hS => ?_)
  have hP : va_P D vwCl [(h0, .inr (4, [.int 1, .int n, .int a, .int b9, .int pp, .int z, .int o, .int ((2 * n) + 1)]))] H := hP
  have hD : va_D A [(h0, .inr (4, [.int 1, .int n, .int a, .int b9, .int pp, .int z, .int o, .int ((2 * n) + 1)]))] := hD
  exact ret_v hx hb hr hlocks (u := (2 * n) + 1) trivial (hP.sub [0] rfl) (hK.sub [] rfl) (hD.sub [0] (by decide) rfl) hS (Nat.le_of_ble_eq_true rfl) (Nat.le_of_ble_eq_true rfl) dX5_init_64
theorem hig_X3_init_X3 : ∀ w ∈ wsX30, w ∈ wsX3_init := mem_pl [49, 50, 51, 52, 53, 54, 55, 56] rfl
set_option maxHeartbeats 4000000 in
set_option maxRecDepth 100000 in
theorem g_X3_init (l : Launch) (D : va_G) (sz : Nat) (cI : ClassId) (h0 : Nat) (v : Int32)  : Cv l yX3_init wsX3_init ({ frames := 6, cells := 2, slots := 20, locals := 133 } : Room) D [.ref h0, .int v] [(h0, .inr (2, [.int 0, .null, .null, .int 0, .int 0, .int 0, .int 0, .int 0]))] [(cI, .int)] sz (fun (u9 : Nat × Nat × Int32 × Int32 × Int32 × Int32 × Int32 × (Nat → Int32) × (Nat → Int32)) => match u9 with | (ca, cc, kf, kg, kl, kx, ko, kc, kd) => True) (fun (u9 : Nat × Nat × Int32 × Int32 × Int32 × Int32 × Int32 × (Nat → Int32) × (Nat → Int32)) => match u9 with | (ca, cc, kf, kg, kl, kx, ko, kc, kd) => [(h0, .inr (2, [.int v, .ref ca, .ref cc, .int kf, .int kg, .int kl, .int kx, .int ko])), (ca, .inl (cI, 16, .inl kc)), (cc, .inl (cI, 4, .inl kd))]) (fun (u9 : Nat × Nat × Int32 × Int32 × Int32 × Int32 × Int32 × (Nat → Int32) × (Nat → Int32)) => match u9 with | (ca, cc, kf, kg, kl, kx, ko, kc, kd) => []) := by
  refine ct_v (cc := cX3_init) (maxL := 2) (ret := none) (by decide) rfl (Nat.le_of_ble_eq_true rfl) ?_
  intro p e s m below meth c A ls H hx hb hr hts hown hml hlocks hin hA hS hP hK hD hNW hl hAe hsz
  have hl : lv_has ls 2 [(0, .ref h0), (1, .int v)] := hl
  refine lv_aload_n hx hb dX3_init_0 rfl (lv_at hl 0 rfl) ?_
  refine W.objInit hx hb hown (hts (.methodLink RX3 3 objectInit) (List.mem_of_getElem? (i := 1) rfl)) (hts (.instanceMethod objectInit) (List.mem_of_getElem? (i := 2) rfl)) (hts (.code objectInit ⟨#[0xb1]⟩ 1 none) (List.mem_of_getElem? (i := 3) rfl)) rfl (by rw [hml]; exact hl.1) rfl dX3_init_1 (Nat.le_of_ble_eq_true rfl) (Nat.le_of_ble_eq_true rfl) ?_
  refine W.eq (g2 := F0 m 4 ls []) rfl ?_
  refine lv_aload_n hx hb dX3_init_4 rfl (lv_at hl 0 rfl) ?_
  refine lv_bipush (v := 16) hx hb dX3_init_5 (by decide) ?_
  refine va_newa (atype := .int) (ty := .int) (a0 := (16, .inl (fun _ => 0))) (N' := 16) hx hb (hts (.arrayClass .int) (List.mem_of_getElem? (i := 4) rfl)) rfl hK hP hD hS hA (na_i 16) (by decide) (by decide) (by decide) (Nat.le_of_ble_eq_true rfl) (Nat.le_of_ble_eq_true rfl) dX3_init_7 (fun q_1 cA_2 H hK hP hD hS => ?_)
  obtain rfl : cI = cA_2 := ra_int 0 1 hK hK rfl rfl
  have hK := hK.sub [0] (tys' := [(cI, .int)]) rfl
  have hP : va_P D vwCl [(h0, .inr (2, [.int 0, .null, .null, .int 0, .int 0, .int 0, .int 0, .int 0])), (q_1, .inl (cI, 16, .inl (fun _ => 0)))] H := hP
  have hD : va_D A [(h0, .inr (2, [.int 0, .null, .null, .int 0, .int 0, .int 0, .int 0, .int 0])), (q_1, .inl (cI, 16, .inl (fun _ => 0)))] := hD
  have hK : va_K D vwCl [(cI, .int)] s := hK
  refine va_putF (D := D) (ci := 2) (v := .ref q_1) (ty := .array .int) (C := RX3) (T := TX3) (N := 8) hx hb hts hig_X3_init_X3 tyX3 tyX3_ok nmX3 hown hK hP hD hS 0 rfl rfl 1 (by decide) (hts (.fieldLink RX3 9 "OneHandset$Keys" "codes" "[I") (List.mem_of_getElem? (i := 5) rfl)) (fun _ h9 => h9) rfl hin rfl (by decide +kernel) rfl rfl (Nat.le_of_ble_eq_true rfl) dX3_init_9 (fun H locs hP hD hS => ?_)
  have hP : va_P D vwCl [(h0, .inr (2, [.int 0, .ref q_1, .null, .int 0, .int 0, .int 0, .int 0, .int 0])), (q_1, .inl (cI, 16, .inl (fun _ => 0)))] H := hP
  have hD : va_D A [(h0, .inr (2, [.int 0, .ref q_1, .null, .int 0, .int 0, .int 0, .int 0, .int 0])), (q_1, .inl (cI, 16, .inl (fun _ => 0)))] := hD
  refine lv_aload_n hx hb dX3_init_12 rfl (lv_at hl 0 rfl) ?_
  refine lv_iconst (v := 4) hx hb dX3_init_13 (by decide) ?_
  refine va_newa (atype := .int) (ty := .int) (a0 := (4, .inl (fun _ => 0))) (N' := 4) hx hb (hts (.arrayClass .int) (List.mem_of_getElem? (i := 4) rfl)) rfl hK hP hD hS hA (na_i 4) (by decide) (by decide) (by decide) (Nat.le_of_ble_eq_true rfl) (Nat.le_of_ble_eq_true rfl) dX3_init_14 (fun q_3 cA_4 H hK hP hD hS => ?_)
  obtain rfl : cI = cA_4 := ra_int 0 1 hK hK rfl rfl
  have hK := hK.sub [0] (tys' := [(cI, .int)]) rfl
  have hP : va_P D vwCl [(h0, .inr (2, [.int 0, .ref q_1, .null, .int 0, .int 0, .int 0, .int 0, .int 0])), (q_1, .inl (cI, 16, .inl (fun _ => 0))), (q_3, .inl (cI, 4, .inl (fun _ => 0)))] H := hP
  have hD : va_D A [(h0, .inr (2, [.int 0, .ref q_1, .null, .int 0, .int 0, .int 0, .int 0, .int 0])), (q_1, .inl (cI, 16, .inl (fun _ => 0))), (q_3, .inl (cI, 4, .inl (fun _ => 0)))] := hD
  have hK : va_K D vwCl [(cI, .int)] s := hK
  refine va_putF (D := D) (ci := 2) (v := .ref q_3) (ty := .array .int) (C := RX3) (T := TX3) (N := 8) hx hb hts hig_X3_init_X3 tyX3 tyX3_ok nmX3 hown hK hP hD hS 0 rfl rfl 2 (by decide) (hts (.fieldLink RX3 15 "OneHandset$Keys" "constants" "[I") (List.mem_of_getElem? (i := 6) rfl)) (fun _ h9 => h9) rfl hin rfl (by decide +kernel) rfl rfl (Nat.le_of_ble_eq_true rfl) dX3_init_16 (fun H locs hP hD hS => ?_)
  have hP : va_P D vwCl [(h0, .inr (2, [.int 0, .ref q_1, .ref q_3, .int 0, .int 0, .int 0, .int 0, .int 0])), (q_1, .inl (cI, 16, .inl (fun _ => 0))), (q_3, .inl (cI, 4, .inl (fun _ => 0)))] H := hP
  have hD : va_D A [(h0, .inr (2, [.int 0, .ref q_1, .ref q_3, .int 0, .int 0, .int 0, .int 0, .int 0])), (q_1, .inl (cI, 16, .inl (fun _ => 0))), (q_3, .inl (cI, 4, .inl (fun _ => 0)))] := hD
  refine lv_aload_n hx hb dX3_init_19 rfl (lv_at hl 0 rfl) ?_
  refine lv_iload_n hx hb dX3_init_20 rfl (lv_at hl 1 rfl) ?_
  refine va_putF (D := D) (ci := 2) (v := .int v) (ty := .int) (C := RX3) (T := TX3) (N := 8) hx hb hts hig_X3_init_X3 tyX3 tyX3_ok nmX3 hown hK hP hD hS 0 rfl rfl 0 (by decide) (hts (.fieldLink RX3 18 "OneHandset$Keys" "bits" "I") (List.mem_of_getElem? (i := 7) rfl)) (fun _ h9 => h9) rfl hin rfl (by decide +kernel) rfl rfl (Nat.le_of_ble_eq_true rfl) dX3_init_21 (fun H locs hP hD hS => ?_)
  have hP : va_P D vwCl [(h0, .inr (2, [.int v, .ref q_1, .ref q_3, .int 0, .int 0, .int 0, .int 0, .int 0])), (q_1, .inl (cI, 16, .inl (fun _ => 0))), (q_3, .inl (cI, 4, .inl (fun _ => 0)))] H := hP
  have hD : va_D A [(h0, .inr (2, [.int v, .ref q_1, .ref q_3, .int 0, .int 0, .int 0, .int 0, .int 0])), (q_1, .inl (cI, 16, .inl (fun _ => 0))), (q_3, .inl (cI, 4, .inl (fun _ => 0)))] := hD
  refine lv_aload_n hx hb dX3_init_24 rfl (lv_at hl 0 rfl) ?_
  refine lv_iconst (v := (-1)) hx hb dX3_init_25 (by decide) ?_
  refine go_v (wr := []) (tysr := [(cI, .int)]) hP hD hS hA hK [0, 1, 2] [] [0] rfl rfl (by decide) (by decide) rfl (va_runV (As := [.int (-1)]) (rest := []) ⟨hx, hb, hml, hown, hts⟩ (g_startWithFlip l D H.size cI h0 q_1 q_3 v 0 0 0 0 0 (fun _ => 0) (fun _ => 0) (-1) ) (cwV 1 hts gX3_init_X3_startWithFlip rfl rfl rfl (by decide +kernel) ⟨Nat.le_of_ble_eq_true rfl, Nat.le_of_ble_eq_true rfl⟩) (st_preV (ci := 2) (q0 := 0) hP hD hK hNW [0, 1, 2] [0] rfl rfl (by decide) rfl rfl rfl rfl) rfl rfl hl.1 rfl (lv_room (Nat.le_of_ble_eq_true rfl)) dX3_init_26 ⟨(Nat.le_of_ble_eq_true rfl), (Nat.le_of_ble_eq_true rfl)⟩) (fun u H locs hw hP hD hK hS => ?_)
  obtain ⟨kf_6, kg_7, kl_8, kx_9, ko_10, kc_11, kd_12⟩ := u
  have hP : va_P D vwCl [(h0, .inr (2, [.int v, .ref q_1, .ref q_3, .int kf_6, .int kg_7, .int kl_8, .int kx_9, .int ko_10])), (q_1, .inl (cI, 16, .inl kc_11)), (q_3, .inl (cI, 4, .inl kd_12))] H := hP
  have hD : va_D A [(h0, .inr (2, [.int v, .ref q_1, .ref q_3, .int kf_6, .int kg_7, .int kl_8, .int kx_9, .int ko_10])), (q_1, .inl (cI, 16, .inl kc_11)), (q_3, .inl (cI, 4, .inl kd_12))] := hD
  have hK : va_K D vwCl [(cI, .int)] s := hK
  exact ret_v hx hb hr hlocks (u := (q_1, q_3, kf_6, kg_7, kl_8, kx_9, ko_10, kc_11, kd_12)) trivial (hP.sub [0, 1, 2] rfl) (hK.sub [] rfl) (hD.sub [0, 1, 2] (by decide) rfl) hS (Nat.le_of_ble_eq_true rfl) (Nat.le_of_ble_eq_true rfl) dX3_init_29
theorem hig_X4_init_X4 : ∀ w ∈ wsX40, w ∈ wsX4_init := mem_pl [60, 61, 62, 63, 64] rfl
theorem hig_X4_init_X3 : ∀ w ∈ wsX30, w ∈ wsX4_init := mem_pl [65, 66, 67, 68, 69, 70, 71, 72] rfl
set_option maxHeartbeats 4000000 in
set_option maxRecDepth 100000 in
theorem g_X4_init (l : Launch) (D : va_G) (sz : Nat) (cI : ClassId) (h0 : Nat) (fm : Nat) (w : Int32) (v : Int32)  : Cv l yX4_init wsX4_init ({ frames := 7, cells := 3, slots := 28, locals := 154 } : Room) D [.ref h0, .int w, .int v, .ref fm] [(h0, .inr (3, [.int 0, .int 0, .null, .null, .int 0]))] [(cI, .int)] sz (fun (u9 : Nat × Nat × Nat × Int32 × Int32 × Int32 × Int32 × Int32 × (Nat → Int32) × (Nat → Int32)) => match u9 with | (ky, ca, cc, kf, kg, kl, kx, ko, kc, kd) => True) (fun (u9 : Nat × Nat × Nat × Int32 × Int32 × Int32 × Int32 × Int32 × (Nat → Int32) × (Nat → Int32)) => match u9 with | (ky, ca, cc, kf, kg, kl, kx, ko, kc, kd) => [(h0, .inr (3, [.int w, .int v, .ref fm, .ref ky, .int 20])), (ky, .inr (2, [.int v, .ref ca, .ref cc, .int kf, .int kg, .int kl, .int kx, .int ko])), (ca, .inl (cI, 16, .inl kc)), (cc, .inl (cI, 4, .inl kd))]) (fun (u9 : Nat × Nat × Nat × Int32 × Int32 × Int32 × Int32 × Int32 × (Nat → Int32) × (Nat → Int32)) => match u9 with | (ky, ca, cc, kf, kg, kl, kx, ko, kc, kd) => []) := by
  refine ct_v (cc := cX4_init) (maxL := 4) (ret := none) (by decide) rfl (Nat.le_of_ble_eq_true rfl) ?_
  intro p e s m below meth c A ls H hx hb hr hts hown hml hlocks hin hA hS hP hK hD hNW hl hAe hsz
  have hl : lv_has ls 4 [(0, .ref h0), (1, .int w), (2, .int v), (3, .ref fm)] := hl
  refine lv_aload_n hx hb dX4_init_0 rfl (lv_at hl 0 rfl) ?_
  refine W.objInit hx hb hown (hts (.methodLink RX4 3 objectInit) (List.mem_of_getElem? (i := 1) rfl)) (hts (.instanceMethod objectInit) (List.mem_of_getElem? (i := 2) rfl)) (hts (.code objectInit ⟨#[0xb1]⟩ 1 none) (List.mem_of_getElem? (i := 3) rfl)) rfl (by rw [hml]; exact hl.1) rfl dX4_init_1 (Nat.le_of_ble_eq_true rfl) (Nat.le_of_ble_eq_true rfl) ?_
  refine W.eq (g2 := F0 m 4 ls []) rfl ?_
  refine lv_aload_n hx hb dX4_init_4 rfl (lv_at hl 0 rfl) ?_
  refine lv_bipush (v := 20) hx hb dX4_init_5 (by decide) ?_
  refine va_put (D := D) (ci := 3) (v := .int 20) (ty := .int) (C := RX4) (T := TX4) (N := 5) hx hb hts hig_X4_init_X4 tyX4 tyX4_ok nmX4 hown hK hP hD hS 0 rfl rfl 4 (by decide) (hts (.fieldLink RX4 9 "OneHandset$Make" "miss" "I") (List.mem_of_getElem? (i := 4) rfl)) (fun _ h9 => h9) rfl (by decide +kernel) rfl rfl (Nat.le_of_ble_eq_true rfl) dX4_init_7 (fun H locs hP hD hS => ?_)
  have hP : va_P D vwCl [(h0, .inr (3, [.int 0, .int 0, .null, .null, .int 20]))] H := hP
  have hD : va_D A [(h0, .inr (3, [.int 0, .int 0, .null, .null, .int 20]))] := hD
  refine lv_aload_n hx hb dX4_init_10 rfl (lv_at hl 0 rfl) ?_
  refine lv_iload_n hx hb dX4_init_11 rfl (lv_at hl 1 rfl) ?_
  refine va_putF (D := D) (ci := 3) (v := .int w) (ty := .int) (C := RX4) (T := TX4) (N := 5) hx hb hts hig_X4_init_X4 tyX4 tyX4_ok nmX4 hown hK hP hD hS 0 rfl rfl 0 (by decide) (hts (.fieldLink RX4 15 "OneHandset$Make" "kind" "I") (List.mem_of_getElem? (i := 5) rfl)) (fun _ h9 => h9) rfl hin rfl (by decide +kernel) rfl rfl (Nat.le_of_ble_eq_true rfl) dX4_init_12 (fun H locs hP hD hS => ?_)
  have hP : va_P D vwCl [(h0, .inr (3, [.int w, .int 0, .null, .null, .int 20]))] H := hP
  have hD : va_D A [(h0, .inr (3, [.int w, .int 0, .null, .null, .int 20]))] := hD
  refine lv_aload_n hx hb dX4_init_15 rfl (lv_at hl 0 rfl) ?_
  refine lv_iload_n hx hb dX4_init_16 rfl (lv_at hl 2 rfl) ?_
  refine va_putF (D := D) (ci := 3) (v := .int v) (ty := .int) (C := RX4) (T := TX4) (N := 5) hx hb hts hig_X4_init_X4 tyX4 tyX4_ok nmX4 hown hK hP hD hS 0 rfl rfl 1 (by decide) (hts (.fieldLink RX4 18 "OneHandset$Make" "bits" "I") (List.mem_of_getElem? (i := 6) rfl)) (fun _ h9 => h9) rfl hin rfl (by decide +kernel) rfl rfl (Nat.le_of_ble_eq_true rfl) dX4_init_17 (fun H locs hP hD hS => ?_)
  have hP : va_P D vwCl [(h0, .inr (3, [.int w, .int v, .null, .null, .int 20]))] H := hP
  have hD : va_D A [(h0, .inr (3, [.int w, .int v, .null, .null, .int 20]))] := hD
  refine lv_aload_n hx hb dX4_init_20 rfl (lv_at hl 0 rfl) ?_
  refine lv_aload_n hx hb dX4_init_21 rfl (lv_at hl 3 rfl) ?_
  refine va_putF (D := D) (ci := 3) (v := .ref fm) (ty := .object "OneHandset$Form") (C := RX4) (T := TX4) (N := 5) hx hb hts hig_X4_init_X4 tyX4 tyX4_ok nmX4 hown hK hP hD hS 0 rfl rfl 2 (by decide) (hts (.fieldLink RX4 21 "OneHandset$Make" "form" "LOneHandset$Form;") (List.mem_of_getElem? (i := 7) rfl)) (fun _ h9 => h9) rfl hin rfl (by decide +kernel) rfl rfl (Nat.le_of_ble_eq_true rfl) dX4_init_22 (fun H locs hP hD hS => ?_)
  have hP : va_P D vwCl [(h0, .inr (3, [.int w, .int v, .ref fm, .null, .int 20]))] H := hP
  have hD : va_D A [(h0, .inr (3, [.int w, .int v, .ref fm, .null, .int 20]))] := hD
  refine lv_aload_n hx hb dX4_init_25 rfl (lv_at hl 0 rfl) ?_
  refine va_new (ci := 2) (fs := [.int 0, .null, .null, .int 0, .int 0, .int 0, .int 0, .int 0]) (C := RX3) (T := TX3) (N := 8) hx hb hts hig_X4_init_X3 tyX3 tyX3_ok hown (hts (.classLink RX4 25 RX3) (List.mem_of_getElem? (i := 8) rfl)) (hts (.instantiable RX3 8) (List.mem_of_getElem? (i := 9) rfl)) (hts (.initialized RX3) (List.mem_of_getElem? (i := 10) rfl)) hK hP hD hS hA rfl (fun j hj => by rcases (show j = 0 ∨ j = 1 ∨ j = 2 ∨ j = 3 ∨ j = 4 ∨ j = 5 ∨ j = 6 ∨ j = 7 by omega) with rfl | rfl | rfl | rfl | rfl | rfl | rfl | rfl <;> rfl) (Nat.le_of_ble_eq_true rfl) (Nat.le_of_ble_eq_true rfl) dX4_init_26 (fun q_1 H hP hD hS => ?_)
  have hP : va_P D vwCl [(h0, .inr (3, [.int w, .int v, .ref fm, .null, .int 20])), (q_1, .inr (2, [.int 0, .null, .null, .int 0, .int 0, .int 0, .int 0, .int 0]))] H := hP
  have hD : va_D A [(h0, .inr (3, [.int w, .int v, .ref fm, .null, .int 20])), (q_1, .inr (2, [.int 0, .null, .null, .int 0, .int 0, .int 0, .int 0, .int 0]))] := hD
  refine lv_dup hx hb dX4_init_29 rfl ?_
  refine lv_iload_n hx hb dX4_init_30 rfl (lv_at hl 2 rfl) ?_
  refine go_v (wr := [(h0, .inr (3, [.int w, .int v, .ref fm, .null, .int 20]))]) (tysr := [(cI, .int)]) hP hD hS hA hK [1] [0] [0] rfl rfl (by decide) (by decide) rfl (va_runI (As := [.int v]) (rest := [.ref q_1, .ref h0]) ⟨hx, hb, hml, hown, hts⟩ (g_X3_init l D H.size cI q_1 v ) (cwI 1 hts gX4_init_X3_init rfl rfl rfl (hts (.initialized RX3) (List.mem_of_getElem? (i := 10) rfl)) (hts (.methodLink RX4 27 yX3_init) (List.mem_of_getElem? (i := 12) rfl)) (hts (.instanceMethod yX3_init) (List.mem_of_getElem? (i := 13) rfl)) rfl (by decide +kernel) ⟨Nat.le_of_ble_eq_true rfl, Nat.le_of_ble_eq_true rfl⟩) (st_preS hP hD hK hNW [1] [0] rfl rfl (by decide) rfl) rfl rfl hl.1 rfl (lv_room (Nat.le_of_ble_eq_true rfl)) dX4_init_31 ⟨(Nat.le_of_ble_eq_true rfl), (Nat.le_of_ble_eq_true rfl)⟩) (fun u H locs hw hP hD hK hS => ?_)
  obtain ⟨ca_3, cc_4, kf_5, kg_6, kl_7, kx_8, ko_9, kc_10, kd_11⟩ := u
  have hP : va_P D vwCl [(h0, .inr (3, [.int w, .int v, .ref fm, .null, .int 20])), (q_1, .inr (2, [.int v, .ref ca_3, .ref cc_4, .int kf_5, .int kg_6, .int kl_7, .int kx_8, .int ko_9])), (ca_3, .inl (cI, 16, .inl kc_10)), (cc_4, .inl (cI, 4, .inl kd_11))] H := hP
  have hD : va_D A [(h0, .inr (3, [.int w, .int v, .ref fm, .null, .int 20])), (q_1, .inr (2, [.int v, .ref ca_3, .ref cc_4, .int kf_5, .int kg_6, .int kl_7, .int kx_8, .int ko_9])), (ca_3, .inl (cI, 16, .inl kc_10)), (cc_4, .inl (cI, 4, .inl kd_11))] := hD
  have hK : va_K D vwCl [(cI, .int)] s := hK
  refine va_putF (D := D) (ci := 3) (v := .ref q_1) (ty := .object "OneHandset$Keys") (C := RX4) (T := TX4) (N := 5) hx hb hts hig_X4_init_X4 tyX4 tyX4_ok nmX4 hown hK hP hD hS 0 rfl rfl 3 (by decide) (hts (.fieldLink RX4 30 "OneHandset$Make" "keys" "LOneHandset$Keys;") (List.mem_of_getElem? (i := 11) rfl)) (fun _ h9 => h9) rfl hin rfl (by decide +kernel) rfl rfl (Nat.le_of_ble_eq_true rfl) dX4_init_34 (fun H locs hP hD hS => ?_)
  have hP : va_P D vwCl [(h0, .inr (3, [.int w, .int v, .ref fm, .ref q_1, .int 20])), (q_1, .inr (2, [.int v, .ref ca_3, .ref cc_4, .int kf_5, .int kg_6, .int kl_7, .int kx_8, .int ko_9])), (ca_3, .inl (cI, 16, .inl kc_10)), (cc_4, .inl (cI, 4, .inl kd_11))] H := hP
  have hD : va_D A [(h0, .inr (3, [.int w, .int v, .ref fm, .ref q_1, .int 20])), (q_1, .inr (2, [.int v, .ref ca_3, .ref cc_4, .int kf_5, .int kg_6, .int kl_7, .int kx_8, .int ko_9])), (ca_3, .inl (cI, 16, .inl kc_10)), (cc_4, .inl (cI, 4, .inl kd_11))] := hD
  exact ret_v hx hb hr hlocks (u := (q_1, ca_3, cc_4, kf_5, kg_6, kl_7, kx_8, ko_9, kc_10, kd_11)) trivial (hP.sub [0, 1, 2, 3] rfl) (hK.sub [] rfl) (hD.sub [0, 1, 2, 3] (by decide) rfl) hS (Nat.le_of_ble_eq_true rfl) (Nat.le_of_ble_eq_true rfl) dX4_init_37
/-- the cells of a make -/
def MKW (cI : ClassId) (mk : Nat) (w : va_W) : Prop :=
  (∃ (fm ky ca cc : Nat) (mq mb mi fw fb fa fc fp fz fo fl9 kb kf kg kl kx ko : Int32) (kc kd : Nat → Int32), w = [(mk, .inr (3, [.int mq, .int mb, .ref fm, .ref ky, .int mi])), (fm, .inr (4, [.int fw, .int fb, .int fa, .int fc, .int fp, .int fz, .int fo, .int fl9])), (ky, .inr (2, [.int kb, .ref ca, .ref cc, .int kf, .int kg, .int kl, .int kx, .int ko])), (ca, .inl (cI, 16, .inl kc)), (cc, .inl (cI, 4, .inl kd))]) ∨
  (∃ (fm ky ca cc : Nat) (mq mb mi fb fp kb kf kg kl kx ko : Int32) (kc kd : Nat → Int32), w = [(mk, .inr (3, [.int mq, .int mb, .ref fm, .ref ky, .int mi])), (fm, .inr (1, [.int fb, .int fp])), (ky, .inr (2, [.int kb, .ref ca, .ref cc, .int kf, .int kg, .int kl, .int kx, .int ko])), (ca, .inl (cI, 16, .inl kc)), (cc, .inl (cI, 4, .inl kd))] ∧ bi fb 1 24)
theorem hiy_make_X8 : ∀ w ∈ wsX80, w ∈ wsX8_make := mem_pl [100, 101, 102, 103, 104] rfl
theorem hiy_make_X5 : ∀ w ∈ wsX50, w ∈ wsX8_make := mem_pl [107, 108, 109, 110, 111, 112, 113, 114] rfl
theorem hiy_make_X4 : ∀ w ∈ wsX40, w ∈ wsX8_make := mem_pl [115, 116, 117, 118, 119] rfl
theorem hiy_make_X2 : ∀ w ∈ wsX20, w ∈ wsX8_make := mem_pl [105, 106] rfl
set_option maxHeartbeats 4000000 in
set_option maxRecDepth 100000 in
theorem y_make (l : Launch) (D : va_G) (sz : Nat) (cI : ClassId) (h0 : Nat) (tp : Nat) (mka : Nat) (bx : Nat) (rt : Nat) (mc : Int32) (cM : ClassId) (mf : Nat → Option Nat) (q9 : Int32) (n : Int32) (a : Int32) (b9 : Int32) (pp : Int32) (z : Int32) (o : Int32) (hmc : bi mc 0 8) : Ci l yX8_make wsX8_make ({ frames := 8, cells := 5, slots := 41, locals := 177 } : Room) D [.ref h0, .int q9, .int n, .int a, .int b9, .int pp, .int z, .int o] [(h0, .inr (7, [.ref tp, .ref mka, .int mc, .ref bx, .ref rt])), (mka, .inl (cM, 8, .inr (.inr (.inr (.inr mf)))))] [(cI, .int), (cM, .object "OneHandset$Make")] sz (fun (r : Int32) => fun (w9 : va_W) => (r = -1 ∧ w9 = [(h0, .inr (7, [.ref tp, .ref mka, .int mc, .ref bx, .ref rt])), (mka, .inl (cM, 8, .inr (.inr (.inr (.inr mf)))))]) ∨ (bi mc 0 7 ∧ r = mc + 1 - 1 ∧ ∃ mk wk, MKW cI mk wk ∧ w9 = (h0, .inr (7, [.ref tp, .ref mka, .int (mc + 1), .ref bx, .ref rt])) :: (mka, .inl (cM, 8, .inr (.inr (.inr (.inr (va_up mf (Int32.toNatClampNeg mc) (some mk))))))) :: wk)) (fun (w9 : va_W) => w9) (fun (w9 : va_W) => []) := by
  refine ct_i (cc := cX8_make) (maxL := 9) (ret := (some .int)) (by decide) rfl (Nat.le_of_ble_eq_true rfl) ?_
  intro p e s m below meth c A ls H hx hb hr hts hown hml hlocks hin hA hS hP hK hD hNW hl hAe hsz
  have hl : lv_has ls 9 [(0, .ref h0), (1, .int q9), (2, .int n), (3, .int a), (4, .int b9), (5, .int pp), (6, .int z), (7, .int o)] := hl
  refine lv_aload_n hx hb dX8_make_0 rfl (lv_at hl 0 rfl) ?_
  refine va_get (D := D) (ci := 7) (v := .int mc) (C := RX8) (T := TX8) (N := 5) hx hb hts hiy_make_X8 hown hK hP 0 rfl rfl 2 (by decide) (hts (.fieldLink RX8 22 "OneHandset" "makeCount" "I") (List.mem_of_getElem? (i := 1) rfl)) (fun _ h9 => h9) rfl dX8_make_1 ?_
  refine lv_bipush (v := 8) hx hb dX8_make_4 (by decide) ?_
  refine lv_icmp_ge (tgt := 28) hx hb dX8_make_6 (by decide) (fun c_1 => ?_) (fun c_1 => ?_)
  · refine lv_iconst (v := (-1)) hx hb dX8_make_28 (by decide) ?_
    exact ret_i hx hb hr hlocks rfl (u := [(h0, .inr (7, [.ref tp, .ref mka, .int mc, .ref bx, .ref rt])), (mka, .inl (cM, 8, .inr (.inr (.inr (.inr mf)))))]) (Or.inl ⟨rfl, rfl⟩) (hP.sub [0, 1] rfl) (hK.sub [] rfl) (hD.sub [0, 1] (by decide) rfl) hS (Nat.le_of_ble_eq_true rfl) (Nat.le_of_ble_eq_true rfl) dX8_make_29
  refine lv_iload_n hx hb dX8_make_9 rfl (lv_at hl 1 rfl) ?_
  refine lv_iconst (v := 0) hx hb dX8_make_10 (by decide) ?_
  refine lv_iconst (v := 2) hx hb dX8_make_11 (by decide) ?_
  refine go_i (wr := [(h0, .inr (7, [.ref tp, .ref mka, .int mc, .ref bx, .ref rt])), (mka, .inl (cM, 8, .inr (.inr (.inr (.inr mf)))))]) (tysr := [(cI, .int), (cM, .object "OneHandset$Make")]) hP hD hS hA hK [] [0, 1] [0, 1] rfl rfl (by decide) (by decide) rfl (va_runS (As := [.int q9, .int 0, .int 2]) (rest := []) ⟨hx, hb, hml, hown, hts⟩ (c_X8_within l D H.size q9 0 2 ) (va_cwS 3 hts gX8_make_X8_within rfl rfl rfl (by decide +kernel) ⟨Nat.le_of_ble_eq_true rfl, Nat.le_of_ble_eq_true rfl⟩) (st_preS hP hD hK hNW [] [] rfl rfl (by decide) rfl) rfl rfl hl.1 rfl (lv_room (Nat.le_of_ble_eq_true rfl)) dX8_make_12 ⟨(Nat.le_of_ble_eq_true rfl), (Nat.le_of_ble_eq_true rfl)⟩) (fun r_2 u H locs hw hP hD hK hS => ?_)
  have hw : r_2 = wi q9 0 2 := hw
  subst hw
  have hP : va_P D vwCl [(h0, .inr (7, [.ref tp, .ref mka, .int mc, .ref bx, .ref rt])), (mka, .inl (cM, 8, .inr (.inr (.inr (.inr mf)))))] H := hP
  have hD : va_D A [(h0, .inr (7, [.ref tp, .ref mka, .int mc, .ref bx, .ref rt])), (mka, .inl (cM, 8, .inr (.inr (.inr (.inr mf)))))] := hD
  have hK : va_K D vwCl [(cI, .int), (cM, .object "OneHandset$Make")] s := hK
  refine lv_if_eq (tgt := 28) hx hb dX8_make_15 (by decide) (fun c_3 => ?_) (fun c_3 => ?_)
  · refine lv_iconst (v := (-1)) hx hb dX8_make_28 (by decide) ?_
    exact ret_i hx hb hr hlocks rfl (u := [(h0, .inr (7, [.ref tp, .ref mka, .int mc, .ref bx, .ref rt])), (mka, .inl (cM, 8, .inr (.inr (.inr (.inr mf)))))]) (Or.inl ⟨rfl, rfl⟩) (hP.sub [0, 1] rfl) (hK.sub [] rfl) (hD.sub [0, 1] (by decide) rfl) hS (Nat.le_of_ble_eq_true rfl) (Nat.le_of_ble_eq_true rfl) dX8_make_29
  refine lv_iload_n hx hb dX8_make_18 rfl (lv_at hl 2 rfl) ?_
  refine lv_iconst (v := 1) hx hb dX8_make_19 (by decide) ?_
  refine lv_bipush (v := 24) hx hb dX8_make_20 (by decide) ?_
  refine go_i (wr := [(h0, .inr (7, [.ref tp, .ref mka, .int mc, .ref bx, .ref rt])), (mka, .inl (cM, 8, .inr (.inr (.inr (.inr mf)))))]) (tysr := [(cI, .int), (cM, .object "OneHandset$Make")]) hP hD hS hA hK [] [0, 1] [0, 1] rfl rfl (by decide) (by decide) rfl (va_runS (As := [.int n, .int 1, .int 24]) (rest := []) ⟨hx, hb, hml, hown, hts⟩ (c_X8_within l D H.size n 1 24 ) (va_cwS 3 hts gX8_make_X8_within rfl rfl rfl (by decide +kernel) ⟨Nat.le_of_ble_eq_true rfl, Nat.le_of_ble_eq_true rfl⟩) (st_preS hP hD hK hNW [] [] rfl rfl (by decide) rfl) rfl rfl hl.1 rfl (lv_room (Nat.le_of_ble_eq_true rfl)) dX8_make_22 ⟨(Nat.le_of_ble_eq_true rfl), (Nat.le_of_ble_eq_true rfl)⟩) (fun r_4 u H locs hw hP hD hK hS => ?_)
  have hw : r_4 = wi n 1 24 := hw
  subst hw
  have hP : va_P D vwCl [(h0, .inr (7, [.ref tp, .ref mka, .int mc, .ref bx, .ref rt])), (mka, .inl (cM, 8, .inr (.inr (.inr (.inr mf)))))] H := hP
  have hD : va_D A [(h0, .inr (7, [.ref tp, .ref mka, .int mc, .ref bx, .ref rt])), (mka, .inl (cM, 8, .inr (.inr (.inr (.inr mf)))))] := hD
  have hK : va_K D vwCl [(cI, .int), (cM, .object "OneHandset$Make")] s := hK
  refine lv_if_ne (tgt := 30) hx hb dX8_make_25 (by decide) (fun c_5 => ?_) (fun c_5 => ?_)
  · refine lv_iload_n hx hb dX8_make_30 rfl (lv_at hl 3 rfl) ?_
    refine go_i (wr := [(h0, .inr (7, [.ref tp, .ref mka, .int mc, .ref bx, .ref rt])), (mka, .inl (cM, 8, .inr (.inr (.inr (.inr mf)))))]) (tysr := [(cI, .int), (cM, .object "OneHandset$Make")]) hP hD hS hA hK [] [0, 1] [0, 1] rfl rfl (by decide) (by decide) rfl (va_runS (As := [.int a]) (rest := []) ⟨hx, hb, hml, hown, hts⟩ (c_X8_isNumber l D H.size a ) (va_cwS 1 hts gX8_make_X8_isNumber rfl rfl rfl (by decide +kernel) ⟨Nat.le_of_ble_eq_true rfl, Nat.le_of_ble_eq_true rfl⟩) (st_preS hP hD hK hNW [] [] rfl rfl (by decide) rfl) rfl rfl hl.1 rfl (lv_room (Nat.le_of_ble_eq_true rfl)) dX8_make_31 ⟨(Nat.le_of_ble_eq_true rfl), (Nat.le_of_ble_eq_true rfl)⟩) (fun r_6 u H locs hw hP hD hK hS => ?_)
    have hw : r_6 = wi a 1 9999 := hw
    subst hw
    have hP : va_P D vwCl [(h0, .inr (7, [.ref tp, .ref mka, .int mc, .ref bx, .ref rt])), (mka, .inl (cM, 8, .inr (.inr (.inr (.inr mf)))))] H := hP
    have hD : va_D A [(h0, .inr (7, [.ref tp, .ref mka, .int mc, .ref bx, .ref rt])), (mka, .inl (cM, 8, .inr (.inr (.inr (.inr mf)))))] := hD
    have hK : va_K D vwCl [(cI, .int), (cM, .object "OneHandset$Make")] s := hK
    refine lv_if_eq (tgt := 76) hx hb dX8_make_34 (by decide) (fun c_7 => ?_) (fun c_7 => ?_)
    · refine lv_iconst (v := (-1)) hx hb dX8_make_76 (by decide) ?_
      exact ret_i hx hb hr hlocks rfl (u := [(h0, .inr (7, [.ref tp, .ref mka, .int mc, .ref bx, .ref rt])), (mka, .inl (cM, 8, .inr (.inr (.inr (.inr mf)))))]) (Or.inl ⟨rfl, rfl⟩) (hP.sub [0, 1] rfl) (hK.sub [] rfl) (hD.sub [0, 1] (by decide) rfl) hS (Nat.le_of_ble_eq_true rfl) (Nat.le_of_ble_eq_true rfl) dX8_make_77
    refine lv_iload hx hb dX8_make_37 (lv_at hl 4 rfl) ?_
    refine go_i (wr := [(h0, .inr (7, [.ref tp, .ref mka, .int mc, .ref bx, .ref rt])), (mka, .inl (cM, 8, .inr (.inr (.inr (.inr mf)))))]) (tysr := [(cI, .int), (cM, .object "OneHandset$Make")]) hP hD hS hA hK [] [0, 1] [0, 1] rfl rfl (by decide) (by decide) rfl (va_runS (As := [.int b9]) (rest := []) ⟨hx, hb, hml, hown, hts⟩ (c_X8_isNumber l D H.size b9 ) (va_cwS 1 hts gX8_make_X8_isNumber rfl rfl rfl (by decide +kernel) ⟨Nat.le_of_ble_eq_true rfl, Nat.le_of_ble_eq_true rfl⟩) (st_preS hP hD hK hNW [] [] rfl rfl (by decide) rfl) rfl rfl hl.1 rfl (lv_room (Nat.le_of_ble_eq_true rfl)) dX8_make_39 ⟨(Nat.le_of_ble_eq_true rfl), (Nat.le_of_ble_eq_true rfl)⟩) (fun r_8 u H locs hw hP hD hK hS => ?_)
    have hw : r_8 = wi b9 1 9999 := hw
    subst hw
    have hP : va_P D vwCl [(h0, .inr (7, [.ref tp, .ref mka, .int mc, .ref bx, .ref rt])), (mka, .inl (cM, 8, .inr (.inr (.inr (.inr mf)))))] H := hP
    have hD : va_D A [(h0, .inr (7, [.ref tp, .ref mka, .int mc, .ref bx, .ref rt])), (mka, .inl (cM, 8, .inr (.inr (.inr (.inr mf)))))] := hD
    have hK : va_K D vwCl [(cI, .int), (cM, .object "OneHandset$Make")] s := hK
    refine lv_if_eq (tgt := 76) hx hb dX8_make_42 (by decide) (fun c_9 => ?_) (fun c_9 => ?_)
    · refine lv_iconst (v := (-1)) hx hb dX8_make_76 (by decide) ?_
      exact ret_i hx hb hr hlocks rfl (u := [(h0, .inr (7, [.ref tp, .ref mka, .int mc, .ref bx, .ref rt])), (mka, .inl (cM, 8, .inr (.inr (.inr (.inr mf)))))]) (Or.inl ⟨rfl, rfl⟩) (hP.sub [0, 1] rfl) (hK.sub [] rfl) (hD.sub [0, 1] (by decide) rfl) hS (Nat.le_of_ble_eq_true rfl) (Nat.le_of_ble_eq_true rfl) dX8_make_77
    refine lv_iload hx hb dX8_make_45 (lv_at hl 5 rfl) ?_
    refine go_i (wr := [(h0, .inr (7, [.ref tp, .ref mka, .int mc, .ref bx, .ref rt])), (mka, .inl (cM, 8, .inr (.inr (.inr (.inr mf)))))]) (tysr := [(cI, .int), (cM, .object "OneHandset$Make")]) hP hD hS hA hK [] [0, 1] [0, 1] rfl rfl (by decide) (by decide) rfl (va_runS (As := [.int pp]) (rest := []) ⟨hx, hb, hml, hown, hts⟩ (c_X8_isNumber l D H.size pp ) (va_cwS 1 hts gX8_make_X8_isNumber rfl rfl rfl (by decide +kernel) ⟨Nat.le_of_ble_eq_true rfl, Nat.le_of_ble_eq_true rfl⟩) (st_preS hP hD hK hNW [] [] rfl rfl (by decide) rfl) rfl rfl hl.1 rfl (lv_room (Nat.le_of_ble_eq_true rfl)) dX8_make_47 ⟨(Nat.le_of_ble_eq_true rfl), (Nat.le_of_ble_eq_true rfl)⟩) (fun r_10 u H locs hw hP hD hK hS => ?_)
    have hw : r_10 = wi pp 1 9999 := hw
    subst hw
    have hP : va_P D vwCl [(h0, .inr (7, [.ref tp, .ref mka, .int mc, .ref bx, .ref rt])), (mka, .inl (cM, 8, .inr (.inr (.inr (.inr mf)))))] H := hP
    have hD : va_D A [(h0, .inr (7, [.ref tp, .ref mka, .int mc, .ref bx, .ref rt])), (mka, .inl (cM, 8, .inr (.inr (.inr (.inr mf)))))] := hD
    have hK : va_K D vwCl [(cI, .int), (cM, .object "OneHandset$Make")] s := hK
    refine lv_if_eq (tgt := 76) hx hb dX8_make_50 (by decide) (fun c_11 => ?_) (fun c_11 => ?_)
    · refine lv_iconst (v := (-1)) hx hb dX8_make_76 (by decide) ?_
      exact ret_i hx hb hr hlocks rfl (u := [(h0, .inr (7, [.ref tp, .ref mka, .int mc, .ref bx, .ref rt])), (mka, .inl (cM, 8, .inr (.inr (.inr (.inr mf)))))]) (Or.inl ⟨rfl, rfl⟩) (hP.sub [0, 1] rfl) (hK.sub [] rfl) (hD.sub [0, 1] (by decide) rfl) hS (Nat.le_of_ble_eq_true rfl) (Nat.le_of_ble_eq_true rfl) dX8_make_77
    refine lv_iload hx hb dX8_make_53 (lv_at hl 6 rfl) ?_
    refine go_i (wr := [(h0, .inr (7, [.ref tp, .ref mka, .int mc, .ref bx, .ref rt])), (mka, .inl (cM, 8, .inr (.inr (.inr (.inr mf)))))]) (tysr := [(cI, .int), (cM, .object "OneHandset$Make")]) hP hD hS hA hK [] [0, 1] [0, 1] rfl rfl (by decide) (by decide) rfl (va_runS (As := [.int z]) (rest := []) ⟨hx, hb, hml, hown, hts⟩ (c_X8_isNumber l D H.size z ) (va_cwS 1 hts gX8_make_X8_isNumber rfl rfl rfl (by decide +kernel) ⟨Nat.le_of_ble_eq_true rfl, Nat.le_of_ble_eq_true rfl⟩) (st_preS hP hD hK hNW [] [] rfl rfl (by decide) rfl) rfl rfl hl.1 rfl (lv_room (Nat.le_of_ble_eq_true rfl)) dX8_make_55 ⟨(Nat.le_of_ble_eq_true rfl), (Nat.le_of_ble_eq_true rfl)⟩) (fun r_12 u H locs hw hP hD hK hS => ?_)
    have hw : r_12 = wi z 1 9999 := hw
    subst hw
    have hP : va_P D vwCl [(h0, .inr (7, [.ref tp, .ref mka, .int mc, .ref bx, .ref rt])), (mka, .inl (cM, 8, .inr (.inr (.inr (.inr mf)))))] H := hP
    have hD : va_D A [(h0, .inr (7, [.ref tp, .ref mka, .int mc, .ref bx, .ref rt])), (mka, .inl (cM, 8, .inr (.inr (.inr (.inr mf)))))] := hD
    have hK : va_K D vwCl [(cI, .int), (cM, .object "OneHandset$Make")] s := hK
    refine lv_if_eq (tgt := 76) hx hb dX8_make_58 (by decide) (fun c_13 => ?_) (fun c_13 => ?_)
    · refine lv_iconst (v := (-1)) hx hb dX8_make_76 (by decide) ?_
      exact ret_i hx hb hr hlocks rfl (u := [(h0, .inr (7, [.ref tp, .ref mka, .int mc, .ref bx, .ref rt])), (mka, .inl (cM, 8, .inr (.inr (.inr (.inr mf)))))]) (Or.inl ⟨rfl, rfl⟩) (hP.sub [0, 1] rfl) (hK.sub [] rfl) (hD.sub [0, 1] (by decide) rfl) hS (Nat.le_of_ble_eq_true rfl) (Nat.le_of_ble_eq_true rfl) dX8_make_77
    refine lv_iload hx hb dX8_make_61 (lv_at hl 7 rfl) ?_
    refine go_i (wr := [(h0, .inr (7, [.ref tp, .ref mka, .int mc, .ref bx, .ref rt])), (mka, .inl (cM, 8, .inr (.inr (.inr (.inr mf)))))]) (tysr := [(cI, .int), (cM, .object "OneHandset$Make")]) hP hD hS hA hK [] [0, 1] [0, 1] rfl rfl (by decide) (by decide) rfl (va_runS (As := [.int o]) (rest := []) ⟨hx, hb, hml, hown, hts⟩ (c_X8_isNumber l D H.size o ) (va_cwS 1 hts gX8_make_X8_isNumber rfl rfl rfl (by decide +kernel) ⟨Nat.le_of_ble_eq_true rfl, Nat.le_of_ble_eq_true rfl⟩) (st_preS hP hD hK hNW [] [] rfl rfl (by decide) rfl) rfl rfl hl.1 rfl (lv_room (Nat.le_of_ble_eq_true rfl)) dX8_make_63 ⟨(Nat.le_of_ble_eq_true rfl), (Nat.le_of_ble_eq_true rfl)⟩) (fun r_14 u H locs hw hP hD hK hS => ?_)
    have hw : r_14 = wi o 1 9999 := hw
    subst hw
    have hP : va_P D vwCl [(h0, .inr (7, [.ref tp, .ref mka, .int mc, .ref bx, .ref rt])), (mka, .inl (cM, 8, .inr (.inr (.inr (.inr mf)))))] H := hP
    have hD : va_D A [(h0, .inr (7, [.ref tp, .ref mka, .int mc, .ref bx, .ref rt])), (mka, .inl (cM, 8, .inr (.inr (.inr (.inr mf)))))] := hD
    have hK : va_K D vwCl [(cI, .int), (cM, .object "OneHandset$Make")] s := hK
    refine lv_if_eq (tgt := 76) hx hb dX8_make_66 (by decide) (fun c_15 => ?_) (fun c_15 => ?_)
    · refine lv_iconst (v := (-1)) hx hb dX8_make_76 (by decide) ?_
      exact ret_i hx hb hr hlocks rfl (u := [(h0, .inr (7, [.ref tp, .ref mka, .int mc, .ref bx, .ref rt])), (mka, .inl (cM, 8, .inr (.inr (.inr (.inr mf)))))]) (Or.inl ⟨rfl, rfl⟩) (hP.sub [0, 1] rfl) (hK.sub [] rfl) (hD.sub [0, 1] (by decide) rfl) hS (Nat.le_of_ble_eq_true rfl) (Nat.le_of_ble_eq_true rfl) dX8_make_77
    refine lv_iload hx hb dX8_make_69 (lv_at hl 6 rfl) ?_
    refine lv_iload hx hb dX8_make_71 (lv_at hl 7 rfl) ?_
    refine lv_icmp_ne (tgt := 78) hx hb dX8_make_73 (by decide) (fun c_16 => ?_) (fun c_16 => ?_)
    · refine lv_iload_n hx hb dX8_make_78 rfl (lv_at hl 1 rfl) ?_
      refine lv_iconst (v := 2) hx hb dX8_make_79 (by decide) ?_
      refine lv_icmp_ne (tgt := 96) hx hb dX8_make_80 (by decide) (fun c_17 => ?_) (fun c_17 => ?_)
      · refine va_new (ci := 4) (fs := [.int 0, .int 0, .int 0, .int 0, .int 0, .int 0, .int 0, .int 0]) (C := RX5) (T := TX5) (N := 8) hx hb hts hiy_make_X5 tyX5 tyX5_ok hown (hts (.classLink RX8 53 RX5) (List.mem_of_getElem? (i := 5) rfl)) (hts (.instantiable RX5 8) (List.mem_of_getElem? (i := 6) rfl)) (hts (.initialized RX5) (List.mem_of_getElem? (i := 7) rfl)) hK hP hD hS hA rfl (fun j hj => by rcases (show j = 0 ∨ j = 1 ∨ j = 2 ∨ j = 3 ∨ j = 4 ∨ j = 5 ∨ j = 6 ∨ j = 7 by omega) with rfl | rfl | rfl | rfl | rfl | rfl | rfl | rfl <;> rfl) (Nat.le_of_ble_eq_true rfl) (Nat.le_of_ble_eq_true rfl) dX8_make_96 (fun q_18 H hP hD hS => ?_)
        have hP : va_P D vwCl [(h0, .inr (7, [.ref tp, .ref mka, .int mc, .ref bx, .ref rt])), (mka, .inl (cM, 8, .inr (.inr (.inr (.inr mf))))), (q_18, .inr (4, [.int 0, .int 0, .int 0, .int 0, .int 0, .int 0, .int 0, .int 0]))] H := hP
        have hD : va_D A [(h0, .inr (7, [.ref tp, .ref mka, .int mc, .ref bx, .ref rt])), (mka, .inl (cM, 8, .inr (.inr (.inr (.inr mf))))), (q_18, .inr (4, [.int 0, .int 0, .int 0, .int 0, .int 0, .int 0, .int 0, .int 0]))] := hD
        refine lv_dup hx hb dX8_make_99 rfl ?_
        refine lv_iload_n hx hb dX8_make_100 rfl (lv_at hl 1 rfl) ?_
        refine lv_iconst (v := 1) hx hb dX8_make_101 (by decide) ?_
        refine lv_icmp_ne (tgt := 109) hx hb dX8_make_102 (by decide) (fun c_19 => ?_) (fun c_19 => ?_)
        · refine lv_iconst (v := 0) hx hb dX8_make_109 (by decide) ?_
          refine lv_iload_n hx hb dX8_make_110 rfl (lv_at hl 2 rfl) ?_
          refine lv_iload_n hx hb dX8_make_111 rfl (lv_at hl 3 rfl) ?_
          refine lv_iload hx hb dX8_make_112 (lv_at hl 4 rfl) ?_
          refine lv_iload hx hb dX8_make_114 (lv_at hl 5 rfl) ?_
          refine lv_iload hx hb dX8_make_116 (lv_at hl 6 rfl) ?_
          refine lv_iload hx hb dX8_make_118 (lv_at hl 7 rfl) ?_
          refine go_v (wr := [(h0, .inr (7, [.ref tp, .ref mka, .int mc, .ref bx, .ref rt])), (mka, .inl (cM, 8, .inr (.inr (.inr (.inr mf)))))]) (tysr := [(cI, .int), (cM, .object "OneHandset$Make")]) hP hD hS hA hK [2] [0, 1] [0, 1] rfl rfl (by decide) (by decide) rfl (va_runI (As := [.int 0, .int n, .int a, .int b9, .int pp, .int z, .int o]) (rest := [.ref q_18]) ⟨hx, hb, hml, hown, hts⟩ (g_X5_init0 l D H.size q_18 n a b9 pp z o ) (cwI 7 hts gX8_make_X5_init rfl rfl rfl (hts (.initialized RX5) (List.mem_of_getElem? (i := 7) rfl)) (hts (.methodLink RX8 55 yX5_init) (List.mem_of_getElem? (i := 30) rfl)) (hts (.instanceMethod yX5_init) (List.mem_of_getElem? (i := 31) rfl)) rfl (by decide +kernel) ⟨Nat.le_of_ble_eq_true rfl, Nat.le_of_ble_eq_true rfl⟩) (st_preS hP hD hK hNW [2] [] rfl rfl (by decide) rfl) rfl rfl hl.1 rfl (lv_room (Nat.le_of_ble_eq_true rfl)) dX8_make_120 ⟨(Nat.le_of_ble_eq_true rfl), (Nat.le_of_ble_eq_true rfl)⟩) (fun u H locs hw hP hD hK hS => ?_)
          obtain ⟨fl_21, rfl⟩ : ∃ z, z = u := ⟨_, rfl⟩
          have hP : va_P D vwCl [(h0, .inr (7, [.ref tp, .ref mka, .int mc, .ref bx, .ref rt])), (mka, .inl (cM, 8, .inr (.inr (.inr (.inr mf))))), (q_18, .inr (4, [.int 0, .int n, .int a, .int b9, .int pp, .int z, .int o, .int fl_21]))] H := hP
          have hD : va_D A [(h0, .inr (7, [.ref tp, .ref mka, .int mc, .ref bx, .ref rt])), (mka, .inl (cM, 8, .inr (.inr (.inr (.inr mf))))), (q_18, .inr (4, [.int 0, .int n, .int a, .int b9, .int pp, .int z, .int o, .int fl_21]))] := hD
          have hK : va_K D vwCl [(cI, .int), (cM, .object "OneHandset$Make")] s := hK
          refine lv_astore (lv' := [(8, .ref q_18), (0, .ref h0), (1, .int q9), (2, .int n), (3, .int a), (4, .int b9), (5, .int pp), (6, .int z), (7, .int o)]) hx hb dX8_make_123 hl (by decide) rfl (fun ls hl => ?_)
          refine lv_aload_n hx hb dX8_make_125 rfl (lv_at hl 1 rfl) ?_
          refine va_get (D := D) (ci := 7) (v := .ref mka) (C := RX8) (T := TX8) (N := 5) hx hb hts hiy_make_X8 hown hK hP 0 rfl rfl 1 (by decide) (hts (.fieldLink RX8 18 "OneHandset" "makes" "[LOneHandset$Make;") (List.mem_of_getElem? (i := 8) rfl)) (fun _ h9 => h9) rfl dX8_make_126 ?_
          refine lv_aload_n hx hb dX8_make_129 rfl (lv_at hl 1 rfl) ?_
          refine va_get (D := D) (ci := 7) (v := .int mc) (C := RX8) (T := TX8) (N := 5) hx hb hts hiy_make_X8 hown hK hP 0 rfl rfl 2 (by decide) (hts (.fieldLink RX8 22 "OneHandset" "makeCount" "I") (List.mem_of_getElem? (i := 1) rfl)) (fun _ h9 => h9) rfl dX8_make_130 ?_
          refine va_new (ci := 3) (fs := [.int 0, .int 0, .null, .null, .int 0]) (C := RX4) (T := TX4) (N := 5) hx hb hts hiy_make_X4 tyX4 tyX4_ok hown (hts (.classLink RX8 16 RX4) (List.mem_of_getElem? (i := 9) rfl)) (hts (.instantiable RX4 5) (List.mem_of_getElem? (i := 10) rfl)) (hts (.initialized RX4) (List.mem_of_getElem? (i := 11) rfl)) hK hP hD hS hA rfl (fun j hj => by rcases (show j = 0 ∨ j = 1 ∨ j = 2 ∨ j = 3 ∨ j = 4 by omega) with rfl | rfl | rfl | rfl | rfl <;> rfl) (Nat.le_of_ble_eq_true rfl) (Nat.le_of_ble_eq_true rfl) dX8_make_133 (fun q_22 H hP hD hS => ?_)
          have hP : va_P D vwCl [(h0, .inr (7, [.ref tp, .ref mka, .int mc, .ref bx, .ref rt])), (mka, .inl (cM, 8, .inr (.inr (.inr (.inr mf))))), (q_18, .inr (4, [.int 0, .int n, .int a, .int b9, .int pp, .int z, .int o, .int fl_21])), (q_22, .inr (3, [.int 0, .int 0, .null, .null, .int 0]))] H := hP
          have hD : va_D A [(h0, .inr (7, [.ref tp, .ref mka, .int mc, .ref bx, .ref rt])), (mka, .inl (cM, 8, .inr (.inr (.inr (.inr mf))))), (q_18, .inr (4, [.int 0, .int n, .int a, .int b9, .int pp, .int z, .int o, .int fl_21])), (q_22, .inr (3, [.int 0, .int 0, .null, .null, .int 0]))] := hD
          refine lv_dup hx hb dX8_make_136 rfl ?_
          refine lv_iload_n hx hb dX8_make_137 rfl (lv_at hl 2 rfl) ?_
          refine lv_iload_n hx hb dX8_make_138 rfl (lv_at hl 3 rfl) ?_
          refine lv_aload hx hb dX8_make_139 (lv_at hl 0 rfl) ?_
          refine go_v (wr := [(h0, .inr (7, [.ref tp, .ref mka, .int mc, .ref bx, .ref rt])), (mka, .inl (cM, 8, .inr (.inr (.inr (.inr mf))))), (q_18, .inr (4, [.int 0, .int n, .int a, .int b9, .int pp, .int z, .int o, .int fl_21]))]) (tysr := [(cI, .int), (cM, .object "OneHandset$Make")]) hP hD hS hA hK [3] [0, 1, 2] [0, 1] rfl rfl (by decide) (by decide) rfl (va_runI (As := [.int q9, .int n, .ref q_18]) (rest := [.ref q_22, .int mc, .ref mka]) ⟨hx, hb, hml, hown, hts⟩ (g_X4_init l D H.size cI q_22 q_18 q9 n ) (cwI 3 hts gX8_make_X4_init rfl rfl rfl (hts (.initialized RX4) (List.mem_of_getElem? (i := 11) rfl)) (hts (.methodLink RX8 58 yX4_init) (List.mem_of_getElem? (i := 41) rfl)) (hts (.instanceMethod yX4_init) (List.mem_of_getElem? (i := 42) rfl)) rfl (by decide +kernel) ⟨Nat.le_of_ble_eq_true rfl, Nat.le_of_ble_eq_true rfl⟩) (st_preS hP hD hK hNW [3] [0] rfl rfl (by decide) rfl) rfl rfl hl.1 rfl (lv_room (Nat.le_of_ble_eq_true rfl)) dX8_make_141 ⟨(Nat.le_of_ble_eq_true rfl), (Nat.le_of_ble_eq_true rfl)⟩) (fun u H locs hw hP hD hK hS => ?_)
          obtain ⟨ky_24, ca_25, cc_26, kf_27, kg_28, kl_29, kx_30, ko_31, kc_32, kd_33⟩ := u
          have hP : va_P D vwCl [(h0, .inr (7, [.ref tp, .ref mka, .int mc, .ref bx, .ref rt])), (mka, .inl (cM, 8, .inr (.inr (.inr (.inr mf))))), (q_18, .inr (4, [.int 0, .int n, .int a, .int b9, .int pp, .int z, .int o, .int fl_21])), (q_22, .inr (3, [.int q9, .int n, .ref q_18, .ref ky_24, .int 20])), (ky_24, .inr (2, [.int n, .ref ca_25, .ref cc_26, .int kf_27, .int kg_28, .int kl_29, .int kx_30, .int ko_31])), (ca_25, .inl (cI, 16, .inl kc_32)), (cc_26, .inl (cI, 4, .inl kd_33))] H := hP
          have hD : va_D A [(h0, .inr (7, [.ref tp, .ref mka, .int mc, .ref bx, .ref rt])), (mka, .inl (cM, 8, .inr (.inr (.inr (.inr mf))))), (q_18, .inr (4, [.int 0, .int n, .int a, .int b9, .int pp, .int z, .int o, .int fl_21])), (q_22, .inr (3, [.int q9, .int n, .ref q_18, .ref ky_24, .int 20])), (ky_24, .inr (2, [.int n, .ref ca_25, .ref cc_26, .int kf_27, .int kg_28, .int kl_29, .int kx_30, .int ko_31])), (ca_25, .inl (cI, 16, .inl kc_32)), (cc_26, .inl (cI, 4, .inl kd_33))] := hD
          have hK : va_K D vwCl [(cI, .int), (cM, .object "OneHandset$Make")] s := hK
          refine va_astq hx hb hK hP hD hS 1 1 3 3 rfl rfl rfl rfl (by have : (0 : Int32).toInt = 0 := (by decide); have : (1 : Int32).toInt = 1 := (by decide); have : (2 : Int32).toInt = 2 := (by decide); have : (8 : Int32).toInt = 8 := (by decide); have : (24 : Int32).toInt = 24 := (by decide); have : (9999 : Int32).toInt = 9999 := (by decide); have := ti_nle c_1; have := ti_wi1 c_3; have := ti_wi1 c_5; have := ti_wi1 c_7; have := ti_wi1 c_9; have := ti_wi1 c_11; have := ti_wi1 c_13; have := ti_wi1 c_15; have := ti_ne c_16; have := ti_ne c_17; have := ti_ne c_19; exact vp_in_iff.mpr (by omega)) dX8_make_144 (fun H locs hP hD hS => ?_)
          have hP : va_P D vwCl [(h0, .inr (7, [.ref tp, .ref mka, .int mc, .ref bx, .ref rt])), (mka, .inl (cM, 8, .inr (.inr (.inr (.inr (va_up mf (Int32.toNatClampNeg mc) (some q_22))))))), (q_18, .inr (4, [.int 0, .int n, .int a, .int b9, .int pp, .int z, .int o, .int fl_21])), (q_22, .inr (3, [.int q9, .int n, .ref q_18, .ref ky_24, .int 20])), (ky_24, .inr (2, [.int n, .ref ca_25, .ref cc_26, .int kf_27, .int kg_28, .int kl_29, .int kx_30, .int ko_31])), (ca_25, .inl (cI, 16, .inl kc_32)), (cc_26, .inl (cI, 4, .inl kd_33))] H := hP
          have hD : va_D A [(h0, .inr (7, [.ref tp, .ref mka, .int mc, .ref bx, .ref rt])), (mka, .inl (cM, 8, .inr (.inr (.inr (.inr (va_up mf (Int32.toNatClampNeg mc) (some q_22))))))), (q_18, .inr (4, [.int 0, .int n, .int a, .int b9, .int pp, .int z, .int o, .int fl_21])), (q_22, .inr (3, [.int q9, .int n, .ref q_18, .ref ky_24, .int 20])), (ky_24, .inr (2, [.int n, .ref ca_25, .ref cc_26, .int kf_27, .int kg_28, .int kl_29, .int kx_30, .int ko_31])), (ca_25, .inl (cI, 16, .inl kc_32)), (cc_26, .inl (cI, 4, .inl kd_33))] := hD
          refine lv_aload_n hx hb dX8_make_145 rfl (lv_at hl 1 rfl) ?_
          refine lv_dup hx hb dX8_make_146 rfl ?_
          refine va_get (D := D) (ci := 7) (v := .int mc) (C := RX8) (T := TX8) (N := 5) hx hb hts hiy_make_X8 hown hK hP 0 rfl rfl 2 (by decide) (hts (.fieldLink RX8 22 "OneHandset" "makeCount" "I") (List.mem_of_getElem? (i := 1) rfl)) (fun _ h9 => h9) rfl dX8_make_147 ?_
          refine lv_iconst (v := 1) hx hb dX8_make_150 (by decide) ?_
          refine lv_iadd hx hb dX8_make_151 ?_
          refine va_put (D := D) (ci := 7) (v := .int (mc + 1)) (ty := .int) (C := RX8) (T := TX8) (N := 5) hx hb hts hiy_make_X8 tyX8 tyX8_ok nmX8 hown hK hP hD hS 0 rfl rfl 2 (by decide) (hts (.fieldLink RX8 22 "OneHandset" "makeCount" "I") (List.mem_of_getElem? (i := 1) rfl)) (fun _ h9 => h9) rfl (by decide +kernel) rfl rfl (Nat.le_of_ble_eq_true rfl) dX8_make_152 (fun H locs hP hD hS => ?_)
          have hP : va_P D vwCl [(h0, .inr (7, [.ref tp, .ref mka, .int (mc + 1), .ref bx, .ref rt])), (mka, .inl (cM, 8, .inr (.inr (.inr (.inr (va_up mf (Int32.toNatClampNeg mc) (some q_22))))))), (q_18, .inr (4, [.int 0, .int n, .int a, .int b9, .int pp, .int z, .int o, .int fl_21])), (q_22, .inr (3, [.int q9, .int n, .ref q_18, .ref ky_24, .int 20])), (ky_24, .inr (2, [.int n, .ref ca_25, .ref cc_26, .int kf_27, .int kg_28, .int kl_29, .int kx_30, .int ko_31])), (ca_25, .inl (cI, 16, .inl kc_32)), (cc_26, .inl (cI, 4, .inl kd_33))] H := hP
          have hD : va_D A [(h0, .inr (7, [.ref tp, .ref mka, .int (mc + 1), .ref bx, .ref rt])), (mka, .inl (cM, 8, .inr (.inr (.inr (.inr (va_up mf (Int32.toNatClampNeg mc) (some q_22))))))), (q_18, .inr (4, [.int 0, .int n, .int a, .int b9, .int pp, .int z, .int o, .int fl_21])), (q_22, .inr (3, [.int q9, .int n, .ref q_18, .ref ky_24, .int 20])), (ky_24, .inr (2, [.int n, .ref ca_25, .ref cc_26, .int kf_27, .int kg_28, .int kl_29, .int kx_30, .int ko_31])), (ca_25, .inl (cI, 16, .inl kc_32)), (cc_26, .inl (cI, 4, .inl kd_33))] := hD
          refine lv_aload_n hx hb dX8_make_155 rfl (lv_at hl 1 rfl) ?_
          refine va_get (D := D) (ci := 7) (v := .int (mc + 1)) (C := RX8) (T := TX8) (N := 5) hx hb hts hiy_make_X8 hown hK hP 0 rfl rfl 2 (by decide) (hts (.fieldLink RX8 22 "OneHandset" "makeCount" "I") (List.mem_of_getElem? (i := 1) rfl)) (fun _ h9 => h9) rfl dX8_make_156 ?_
          refine lv_iconst (v := 1) hx hb dX8_make_159 (by decide) ?_
          refine lv_isub hx hb dX8_make_160 ?_
          exact ret_i hx hb hr hlocks rfl (u := [(h0, .inr (7, [.ref tp, .ref mka, .int (mc + 1), .ref bx, .ref rt])), (mka, .inl (cM, 8, .inr (.inr (.inr (.inr (va_up mf (Int32.toNatClampNeg mc) (some q_22))))))), (q_22, .inr (3, [.int q9, .int n, .ref q_18, .ref ky_24, .int 20])), (q_18, .inr (4, [.int 0, .int n, .int a, .int b9, .int pp, .int z, .int o, .int fl_21])), (ky_24, .inr (2, [.int n, .ref ca_25, .ref cc_26, .int kf_27, .int kg_28, .int kl_29, .int kx_30, .int ko_31])), (ca_25, .inl (cI, 16, .inl kc_32)), (cc_26, .inl (cI, 4, .inl kd_33))]) (Or.inr ⟨(by have : (0 : Int32).toInt = 0 := (by decide); have : (1 : Int32).toInt = 1 := (by decide); have : (2 : Int32).toInt = 2 := (by decide); have : (8 : Int32).toInt = 8 := (by decide); have : (24 : Int32).toInt = 24 := (by decide); have : (9999 : Int32).toInt = 9999 := (by decide); have := ti_nle c_1; have := ti_wi1 c_3; have := ti_wi1 c_5; have := ti_wi1 c_7; have := ti_wi1 c_9; have := ti_wi1 c_11; have := ti_wi1 c_13; have := ti_wi1 c_15; have := ti_ne c_16; have := ti_ne c_17; have := ti_ne c_19; omega), rfl, q_22, [(q_22, .inr (3, [.int q9, .int n, .ref q_18, .ref ky_24, .int 20])), (q_18, .inr (4, [.int 0, .int n, .int a, .int b9, .int pp, .int z, .int o, .int fl_21])), (ky_24, .inr (2, [.int n, .ref ca_25, .ref cc_26, .int kf_27, .int kg_28, .int kl_29, .int kx_30, .int ko_31])), (ca_25, .inl (cI, 16, .inl kc_32)), (cc_26, .inl (cI, 4, .inl kd_33))], Or.inl ⟨q_18, ky_24, ca_25, cc_26, q9, n, 20, 0, n, a, b9, pp, z, o, fl_21, n, kf_27, kg_28, kl_29, kx_30, ko_31, kc_32, kd_33, rfl⟩, rfl⟩) (hP.sub [0, 1, 3, 2, 4, 5, 6] rfl) (hK.sub [] rfl) (hD.sub [0, 1, 3, 2, 4, 5, 6] (by decide) rfl) hS (Nat.le_of_ble_eq_true rfl) (Nat.le_of_ble_eq_true rfl) dX8_make_161
        refine lv_iconst (v := 1) hx hb dX8_make_105 (by decide) ?_
        refine lv_goto (tgt := 110) hx hb dX8_make_106 (by decide) ?_
        refine lv_iload_n hx hb dX8_make_110 rfl (lv_at hl 2 rfl) ?_
        refine lv_iload_n hx hb dX8_make_111 rfl (lv_at hl 3 rfl) ?_
        refine lv_iload hx hb dX8_make_112 (lv_at hl 4 rfl) ?_
        refine lv_iload hx hb dX8_make_114 (lv_at hl 5 rfl) ?_
        refine lv_iload hx hb dX8_make_116 (lv_at hl 6 rfl) ?_
        refine lv_iload hx hb dX8_make_118 (lv_at hl 7 rfl) ?_
        refine go_v (wr := [(h0, .inr (7, [.ref tp, .ref mka, .int mc, .ref bx, .ref rt])), (mka, .inl (cM, 8, .inr (.inr (.inr (.inr mf)))))]) (tysr := [(cI, .int), (cM, .object "OneHandset$Make")]) hP hD hS hA hK [2] [0, 1] [0, 1] rfl rfl (by decide) (by decide) rfl (va_runI (As := [.int 1, .int n, .int a, .int b9, .int pp, .int z, .int o]) (rest := [.ref q_18]) ⟨hx, hb, hml, hown, hts⟩ (g_X5_init1 l D H.size q_18 n a b9 pp z o ) (cwI 7 hts gX8_make_X5_init rfl rfl rfl (hts (.initialized RX5) (List.mem_of_getElem? (i := 7) rfl)) (hts (.methodLink RX8 55 yX5_init) (List.mem_of_getElem? (i := 30) rfl)) (hts (.instanceMethod yX5_init) (List.mem_of_getElem? (i := 31) rfl)) rfl (by decide +kernel) ⟨Nat.le_of_ble_eq_true rfl, Nat.le_of_ble_eq_true rfl⟩) (st_preS hP hD hK hNW [2] [] rfl rfl (by decide) rfl) rfl rfl hl.1 rfl (lv_room (Nat.le_of_ble_eq_true rfl)) dX8_make_120 ⟨(Nat.le_of_ble_eq_true rfl), (Nat.le_of_ble_eq_true rfl)⟩) (fun u H locs hw hP hD hK hS => ?_)
        obtain ⟨fl_35, rfl⟩ : ∃ z, z = u := ⟨_, rfl⟩
        have hP : va_P D vwCl [(h0, .inr (7, [.ref tp, .ref mka, .int mc, .ref bx, .ref rt])), (mka, .inl (cM, 8, .inr (.inr (.inr (.inr mf))))), (q_18, .inr (4, [.int 1, .int n, .int a, .int b9, .int pp, .int z, .int o, .int fl_35]))] H := hP
        have hD : va_D A [(h0, .inr (7, [.ref tp, .ref mka, .int mc, .ref bx, .ref rt])), (mka, .inl (cM, 8, .inr (.inr (.inr (.inr mf))))), (q_18, .inr (4, [.int 1, .int n, .int a, .int b9, .int pp, .int z, .int o, .int fl_35]))] := hD
        have hK : va_K D vwCl [(cI, .int), (cM, .object "OneHandset$Make")] s := hK
        refine lv_astore (lv' := [(8, .ref q_18), (0, .ref h0), (1, .int q9), (2, .int n), (3, .int a), (4, .int b9), (5, .int pp), (6, .int z), (7, .int o)]) hx hb dX8_make_123 hl (by decide) rfl (fun ls hl => ?_)
        refine lv_aload_n hx hb dX8_make_125 rfl (lv_at hl 1 rfl) ?_
        refine va_get (D := D) (ci := 7) (v := .ref mka) (C := RX8) (T := TX8) (N := 5) hx hb hts hiy_make_X8 hown hK hP 0 rfl rfl 1 (by decide) (hts (.fieldLink RX8 18 "OneHandset" "makes" "[LOneHandset$Make;") (List.mem_of_getElem? (i := 8) rfl)) (fun _ h9 => h9) rfl dX8_make_126 ?_
        refine lv_aload_n hx hb dX8_make_129 rfl (lv_at hl 1 rfl) ?_
        refine va_get (D := D) (ci := 7) (v := .int mc) (C := RX8) (T := TX8) (N := 5) hx hb hts hiy_make_X8 hown hK hP 0 rfl rfl 2 (by decide) (hts (.fieldLink RX8 22 "OneHandset" "makeCount" "I") (List.mem_of_getElem? (i := 1) rfl)) (fun _ h9 => h9) rfl dX8_make_130 ?_
        refine va_new (ci := 3) (fs := [.int 0, .int 0, .null, .null, .int 0]) (C := RX4) (T := TX4) (N := 5) hx hb hts hiy_make_X4 tyX4 tyX4_ok hown (hts (.classLink RX8 16 RX4) (List.mem_of_getElem? (i := 9) rfl)) (hts (.instantiable RX4 5) (List.mem_of_getElem? (i := 10) rfl)) (hts (.initialized RX4) (List.mem_of_getElem? (i := 11) rfl)) hK hP hD hS hA rfl (fun j hj => by rcases (show j = 0 ∨ j = 1 ∨ j = 2 ∨ j = 3 ∨ j = 4 by omega) with rfl | rfl | rfl | rfl | rfl <;> rfl) (Nat.le_of_ble_eq_true rfl) (Nat.le_of_ble_eq_true rfl) dX8_make_133 (fun q_36 H hP hD hS => ?_)
        have hP : va_P D vwCl [(h0, .inr (7, [.ref tp, .ref mka, .int mc, .ref bx, .ref rt])), (mka, .inl (cM, 8, .inr (.inr (.inr (.inr mf))))), (q_18, .inr (4, [.int 1, .int n, .int a, .int b9, .int pp, .int z, .int o, .int fl_35])), (q_36, .inr (3, [.int 0, .int 0, .null, .null, .int 0]))] H := hP
        have hD : va_D A [(h0, .inr (7, [.ref tp, .ref mka, .int mc, .ref bx, .ref rt])), (mka, .inl (cM, 8, .inr (.inr (.inr (.inr mf))))), (q_18, .inr (4, [.int 1, .int n, .int a, .int b9, .int pp, .int z, .int o, .int fl_35])), (q_36, .inr (3, [.int 0, .int 0, .null, .null, .int 0]))] := hD
        refine lv_dup hx hb dX8_make_136 rfl ?_
        refine lv_iload_n hx hb dX8_make_137 rfl (lv_at hl 2 rfl) ?_
        refine lv_iload_n hx hb dX8_make_138 rfl (lv_at hl 3 rfl) ?_
        refine lv_aload hx hb dX8_make_139 (lv_at hl 0 rfl) ?_
        refine go_v (wr := [(h0, .inr (7, [.ref tp, .ref mka, .int mc, .ref bx, .ref rt])), (mka, .inl (cM, 8, .inr (.inr (.inr (.inr mf))))), (q_18, .inr (4, [.int 1, .int n, .int a, .int b9, .int pp, .int z, .int o, .int fl_35]))]) (tysr := [(cI, .int), (cM, .object "OneHandset$Make")]) hP hD hS hA hK [3] [0, 1, 2] [0, 1] rfl rfl (by decide) (by decide) rfl (va_runI (As := [.int q9, .int n, .ref q_18]) (rest := [.ref q_36, .int mc, .ref mka]) ⟨hx, hb, hml, hown, hts⟩ (g_X4_init l D H.size cI q_36 q_18 q9 n ) (cwI 3 hts gX8_make_X4_init rfl rfl rfl (hts (.initialized RX4) (List.mem_of_getElem? (i := 11) rfl)) (hts (.methodLink RX8 58 yX4_init) (List.mem_of_getElem? (i := 41) rfl)) (hts (.instanceMethod yX4_init) (List.mem_of_getElem? (i := 42) rfl)) rfl (by decide +kernel) ⟨Nat.le_of_ble_eq_true rfl, Nat.le_of_ble_eq_true rfl⟩) (st_preS hP hD hK hNW [3] [0] rfl rfl (by decide) rfl) rfl rfl hl.1 rfl (lv_room (Nat.le_of_ble_eq_true rfl)) dX8_make_141 ⟨(Nat.le_of_ble_eq_true rfl), (Nat.le_of_ble_eq_true rfl)⟩) (fun u H locs hw hP hD hK hS => ?_)
        obtain ⟨ky_38, ca_39, cc_40, kf_41, kg_42, kl_43, kx_44, ko_45, kc_46, kd_47⟩ := u
        have hP : va_P D vwCl [(h0, .inr (7, [.ref tp, .ref mka, .int mc, .ref bx, .ref rt])), (mka, .inl (cM, 8, .inr (.inr (.inr (.inr mf))))), (q_18, .inr (4, [.int 1, .int n, .int a, .int b9, .int pp, .int z, .int o, .int fl_35])), (q_36, .inr (3, [.int q9, .int n, .ref q_18, .ref ky_38, .int 20])), (ky_38, .inr (2, [.int n, .ref ca_39, .ref cc_40, .int kf_41, .int kg_42, .int kl_43, .int kx_44, .int ko_45])), (ca_39, .inl (cI, 16, .inl kc_46)), (cc_40, .inl (cI, 4, .inl kd_47))] H := hP
        have hD : va_D A [(h0, .inr (7, [.ref tp, .ref mka, .int mc, .ref bx, .ref rt])), (mka, .inl (cM, 8, .inr (.inr (.inr (.inr mf))))), (q_18, .inr (4, [.int 1, .int n, .int a, .int b9, .int pp, .int z, .int o, .int fl_35])), (q_36, .inr (3, [.int q9, .int n, .ref q_18, .ref ky_38, .int 20])), (ky_38, .inr (2, [.int n, .ref ca_39, .ref cc_40, .int kf_41, .int kg_42, .int kl_43, .int kx_44, .int ko_45])), (ca_39, .inl (cI, 16, .inl kc_46)), (cc_40, .inl (cI, 4, .inl kd_47))] := hD
        have hK : va_K D vwCl [(cI, .int), (cM, .object "OneHandset$Make")] s := hK
        refine va_astq hx hb hK hP hD hS 1 1 3 3 rfl rfl rfl rfl (by have : (0 : Int32).toInt = 0 := (by decide); have : (1 : Int32).toInt = 1 := (by decide); have : (2 : Int32).toInt = 2 := (by decide); have : (8 : Int32).toInt = 8 := (by decide); have : (24 : Int32).toInt = 24 := (by decide); have : (9999 : Int32).toInt = 9999 := (by decide); have := ti_nle c_1; have := ti_wi1 c_3; have := ti_wi1 c_5; have := ti_wi1 c_7; have := ti_wi1 c_9; have := ti_wi1 c_11; have := ti_wi1 c_13; have := ti_wi1 c_15; have := ti_ne c_16; have := ti_ne c_17; have := ti_eq c_19; exact vp_in_iff.mpr (by omega)) dX8_make_144 (fun H locs hP hD hS => ?_)
        have hP : va_P D vwCl [(h0, .inr (7, [.ref tp, .ref mka, .int mc, .ref bx, .ref rt])), (mka, .inl (cM, 8, .inr (.inr (.inr (.inr (va_up mf (Int32.toNatClampNeg mc) (some q_36))))))), (q_18, .inr (4, [.int 1, .int n, .int a, .int b9, .int pp, .int z, .int o, .int fl_35])), (q_36, .inr (3, [.int q9, .int n, .ref q_18, .ref ky_38, .int 20])), (ky_38, .inr (2, [.int n, .ref ca_39, .ref cc_40, .int kf_41, .int kg_42, .int kl_43, .int kx_44, .int ko_45])), (ca_39, .inl (cI, 16, .inl kc_46)), (cc_40, .inl (cI, 4, .inl kd_47))] H := hP
        have hD : va_D A [(h0, .inr (7, [.ref tp, .ref mka, .int mc, .ref bx, .ref rt])), (mka, .inl (cM, 8, .inr (.inr (.inr (.inr (va_up mf (Int32.toNatClampNeg mc) (some q_36))))))), (q_18, .inr (4, [.int 1, .int n, .int a, .int b9, .int pp, .int z, .int o, .int fl_35])), (q_36, .inr (3, [.int q9, .int n, .ref q_18, .ref ky_38, .int 20])), (ky_38, .inr (2, [.int n, .ref ca_39, .ref cc_40, .int kf_41, .int kg_42, .int kl_43, .int kx_44, .int ko_45])), (ca_39, .inl (cI, 16, .inl kc_46)), (cc_40, .inl (cI, 4, .inl kd_47))] := hD
        refine lv_aload_n hx hb dX8_make_145 rfl (lv_at hl 1 rfl) ?_
        refine lv_dup hx hb dX8_make_146 rfl ?_
        refine va_get (D := D) (ci := 7) (v := .int mc) (C := RX8) (T := TX8) (N := 5) hx hb hts hiy_make_X8 hown hK hP 0 rfl rfl 2 (by decide) (hts (.fieldLink RX8 22 "OneHandset" "makeCount" "I") (List.mem_of_getElem? (i := 1) rfl)) (fun _ h9 => h9) rfl dX8_make_147 ?_
        refine lv_iconst (v := 1) hx hb dX8_make_150 (by decide) ?_
        refine lv_iadd hx hb dX8_make_151 ?_
        refine va_put (D := D) (ci := 7) (v := .int (mc + 1)) (ty := .int) (C := RX8) (T := TX8) (N := 5) hx hb hts hiy_make_X8 tyX8 tyX8_ok nmX8 hown hK hP hD hS 0 rfl rfl 2 (by decide) (hts (.fieldLink RX8 22 "OneHandset" "makeCount" "I") (List.mem_of_getElem? (i := 1) rfl)) (fun _ h9 => h9) rfl (by decide +kernel) rfl rfl (Nat.le_of_ble_eq_true rfl) dX8_make_152 (fun H locs hP hD hS => ?_)
        have hP : va_P D vwCl [(h0, .inr (7, [.ref tp, .ref mka, .int (mc + 1), .ref bx, .ref rt])), (mka, .inl (cM, 8, .inr (.inr (.inr (.inr (va_up mf (Int32.toNatClampNeg mc) (some q_36))))))), (q_18, .inr (4, [.int 1, .int n, .int a, .int b9, .int pp, .int z, .int o, .int fl_35])), (q_36, .inr (3, [.int q9, .int n, .ref q_18, .ref ky_38, .int 20])), (ky_38, .inr (2, [.int n, .ref ca_39, .ref cc_40, .int kf_41, .int kg_42, .int kl_43, .int kx_44, .int ko_45])), (ca_39, .inl (cI, 16, .inl kc_46)), (cc_40, .inl (cI, 4, .inl kd_47))] H := hP
        have hD : va_D A [(h0, .inr (7, [.ref tp, .ref mka, .int (mc + 1), .ref bx, .ref rt])), (mka, .inl (cM, 8, .inr (.inr (.inr (.inr (va_up mf (Int32.toNatClampNeg mc) (some q_36))))))), (q_18, .inr (4, [.int 1, .int n, .int a, .int b9, .int pp, .int z, .int o, .int fl_35])), (q_36, .inr (3, [.int q9, .int n, .ref q_18, .ref ky_38, .int 20])), (ky_38, .inr (2, [.int n, .ref ca_39, .ref cc_40, .int kf_41, .int kg_42, .int kl_43, .int kx_44, .int ko_45])), (ca_39, .inl (cI, 16, .inl kc_46)), (cc_40, .inl (cI, 4, .inl kd_47))] := hD
        refine lv_aload_n hx hb dX8_make_155 rfl (lv_at hl 1 rfl) ?_
        refine va_get (D := D) (ci := 7) (v := .int (mc + 1)) (C := RX8) (T := TX8) (N := 5) hx hb hts hiy_make_X8 hown hK hP 0 rfl rfl 2 (by decide) (hts (.fieldLink RX8 22 "OneHandset" "makeCount" "I") (List.mem_of_getElem? (i := 1) rfl)) (fun _ h9 => h9) rfl dX8_make_156 ?_
        refine lv_iconst (v := 1) hx hb dX8_make_159 (by decide) ?_
        refine lv_isub hx hb dX8_make_160 ?_
        exact ret_i hx hb hr hlocks rfl (u := [(h0, .inr (7, [.ref tp, .ref mka, .int (mc + 1), .ref bx, .ref rt])), (mka, .inl (cM, 8, .inr (.inr (.inr (.inr (va_up mf (Int32.toNatClampNeg mc) (some q_36))))))), (q_36, .inr (3, [.int q9, .int n, .ref q_18, .ref ky_38, .int 20])), (q_18, .inr (4, [.int 1, .int n, .int a, .int b9, .int pp, .int z, .int o, .int fl_35])), (ky_38, .inr (2, [.int n, .ref ca_39, .ref cc_40, .int kf_41, .int kg_42, .int kl_43, .int kx_44, .int ko_45])), (ca_39, .inl (cI, 16, .inl kc_46)), (cc_40, .inl (cI, 4, .inl kd_47))]) (Or.inr ⟨(by have : (0 : Int32).toInt = 0 := (by decide); have : (1 : Int32).toInt = 1 := (by decide); have : (2 : Int32).toInt = 2 := (by decide); have : (8 : Int32).toInt = 8 := (by decide); have : (24 : Int32).toInt = 24 := (by decide); have : (9999 : Int32).toInt = 9999 := (by decide); have := ti_nle c_1; have := ti_wi1 c_3; have := ti_wi1 c_5; have := ti_wi1 c_7; have := ti_wi1 c_9; have := ti_wi1 c_11; have := ti_wi1 c_13; have := ti_wi1 c_15; have := ti_ne c_16; have := ti_ne c_17; have := ti_eq c_19; omega), rfl, q_36, [(q_36, .inr (3, [.int q9, .int n, .ref q_18, .ref ky_38, .int 20])), (q_18, .inr (4, [.int 1, .int n, .int a, .int b9, .int pp, .int z, .int o, .int fl_35])), (ky_38, .inr (2, [.int n, .ref ca_39, .ref cc_40, .int kf_41, .int kg_42, .int kl_43, .int kx_44, .int ko_45])), (ca_39, .inl (cI, 16, .inl kc_46)), (cc_40, .inl (cI, 4, .inl kd_47))], Or.inl ⟨q_18, ky_38, ca_39, cc_40, q9, n, 20, 1, n, a, b9, pp, z, o, fl_35, n, kf_41, kg_42, kl_43, kx_44, ko_45, kc_46, kd_47, rfl⟩, rfl⟩) (hP.sub [0, 1, 3, 2, 4, 5, 6] rfl) (hK.sub [] rfl) (hD.sub [0, 1, 3, 2, 4, 5, 6] (by decide) rfl) hS (Nat.le_of_ble_eq_true rfl) (Nat.le_of_ble_eq_true rfl) dX8_make_161
      refine va_new (ci := 1) (fs := [.int 0, .int 0]) (C := RX2) (T := TX2) (N := 2) hx hb hts hiy_make_X2 tyX2 tyX2_ok hown (hts (.classLink RX8 48 RX2) (List.mem_of_getElem? (i := 2) rfl)) (hts (.instantiable RX2 2) (List.mem_of_getElem? (i := 3) rfl)) (hts (.initialized RX2) (List.mem_of_getElem? (i := 4) rfl)) hK hP hD hS hA rfl (fun j hj => by rcases (show j = 0 ∨ j = 1 by omega) with rfl | rfl <;> rfl) (Nat.le_of_ble_eq_true rfl) (Nat.le_of_ble_eq_true rfl) dX8_make_83 (fun q_48 H hP hD hS => ?_)
      have hP : va_P D vwCl [(h0, .inr (7, [.ref tp, .ref mka, .int mc, .ref bx, .ref rt])), (mka, .inl (cM, 8, .inr (.inr (.inr (.inr mf))))), (q_48, .inr (1, [.int 0, .int 0]))] H := hP
      have hD : va_D A [(h0, .inr (7, [.ref tp, .ref mka, .int mc, .ref bx, .ref rt])), (mka, .inl (cM, 8, .inr (.inr (.inr (.inr mf))))), (q_48, .inr (1, [.int 0, .int 0]))] := hD
      refine lv_dup hx hb dX8_make_86 rfl ?_
      refine lv_iload_n hx hb dX8_make_87 rfl (lv_at hl 2 rfl) ?_
      refine lv_iload hx hb dX8_make_88 (lv_at hl 5 rfl) ?_
      refine go_v (wr := [(h0, .inr (7, [.ref tp, .ref mka, .int mc, .ref bx, .ref rt])), (mka, .inl (cM, 8, .inr (.inr (.inr (.inr mf)))))]) (tysr := [(cI, .int), (cM, .object "OneHandset$Make")]) hP hD hS hA hK [2] [0, 1] [0, 1] rfl rfl (by decide) (by decide) rfl (va_runI (As := [.int n, .int pp]) (rest := [.ref q_48]) ⟨hx, hb, hml, hown, hts⟩ (g_X2_init l D H.size q_48 n pp ) (cwI 2 hts gX8_make_X2_init rfl rfl rfl (hts (.initialized RX2) (List.mem_of_getElem? (i := 4) rfl)) (hts (.methodLink RX8 50 yX2_init) (List.mem_of_getElem? (i := 19) rfl)) (hts (.instanceMethod yX2_init) (List.mem_of_getElem? (i := 20) rfl)) rfl (by decide +kernel) ⟨Nat.le_of_ble_eq_true rfl, Nat.le_of_ble_eq_true rfl⟩) (st_preS hP hD hK hNW [2] [] rfl rfl (by decide) rfl) rfl rfl hl.1 rfl (lv_room (Nat.le_of_ble_eq_true rfl)) dX8_make_90 ⟨(Nat.le_of_ble_eq_true rfl), (Nat.le_of_ble_eq_true rfl)⟩) (fun u H locs hw hP hD hK hS => ?_)
      have hP : va_P D vwCl [(h0, .inr (7, [.ref tp, .ref mka, .int mc, .ref bx, .ref rt])), (mka, .inl (cM, 8, .inr (.inr (.inr (.inr mf))))), (q_48, .inr (1, [.int n, .int pp]))] H := hP
      have hD : va_D A [(h0, .inr (7, [.ref tp, .ref mka, .int mc, .ref bx, .ref rt])), (mka, .inl (cM, 8, .inr (.inr (.inr (.inr mf))))), (q_48, .inr (1, [.int n, .int pp]))] := hD
      have hK : va_K D vwCl [(cI, .int), (cM, .object "OneHandset$Make")] s := hK
      refine lv_goto (tgt := 123) hx hb dX8_make_93 (by decide) ?_
      refine lv_astore (lv' := [(8, .ref q_48), (0, .ref h0), (1, .int q9), (2, .int n), (3, .int a), (4, .int b9), (5, .int pp), (6, .int z), (7, .int o)]) hx hb dX8_make_123 hl (by decide) rfl (fun ls hl => ?_)
      refine lv_aload_n hx hb dX8_make_125 rfl (lv_at hl 1 rfl) ?_
      refine va_get (D := D) (ci := 7) (v := .ref mka) (C := RX8) (T := TX8) (N := 5) hx hb hts hiy_make_X8 hown hK hP 0 rfl rfl 1 (by decide) (hts (.fieldLink RX8 18 "OneHandset" "makes" "[LOneHandset$Make;") (List.mem_of_getElem? (i := 8) rfl)) (fun _ h9 => h9) rfl dX8_make_126 ?_
      refine lv_aload_n hx hb dX8_make_129 rfl (lv_at hl 1 rfl) ?_
      refine va_get (D := D) (ci := 7) (v := .int mc) (C := RX8) (T := TX8) (N := 5) hx hb hts hiy_make_X8 hown hK hP 0 rfl rfl 2 (by decide) (hts (.fieldLink RX8 22 "OneHandset" "makeCount" "I") (List.mem_of_getElem? (i := 1) rfl)) (fun _ h9 => h9) rfl dX8_make_130 ?_
      refine va_new (ci := 3) (fs := [.int 0, .int 0, .null, .null, .int 0]) (C := RX4) (T := TX4) (N := 5) hx hb hts hiy_make_X4 tyX4 tyX4_ok hown (hts (.classLink RX8 16 RX4) (List.mem_of_getElem? (i := 9) rfl)) (hts (.instantiable RX4 5) (List.mem_of_getElem? (i := 10) rfl)) (hts (.initialized RX4) (List.mem_of_getElem? (i := 11) rfl)) hK hP hD hS hA rfl (fun j hj => by rcases (show j = 0 ∨ j = 1 ∨ j = 2 ∨ j = 3 ∨ j = 4 by omega) with rfl | rfl | rfl | rfl | rfl <;> rfl) (Nat.le_of_ble_eq_true rfl) (Nat.le_of_ble_eq_true rfl) dX8_make_133 (fun q_50 H hP hD hS => ?_)
      have hP : va_P D vwCl [(h0, .inr (7, [.ref tp, .ref mka, .int mc, .ref bx, .ref rt])), (mka, .inl (cM, 8, .inr (.inr (.inr (.inr mf))))), (q_48, .inr (1, [.int n, .int pp])), (q_50, .inr (3, [.int 0, .int 0, .null, .null, .int 0]))] H := hP
      have hD : va_D A [(h0, .inr (7, [.ref tp, .ref mka, .int mc, .ref bx, .ref rt])), (mka, .inl (cM, 8, .inr (.inr (.inr (.inr mf))))), (q_48, .inr (1, [.int n, .int pp])), (q_50, .inr (3, [.int 0, .int 0, .null, .null, .int 0]))] := hD
      refine lv_dup hx hb dX8_make_136 rfl ?_
      refine lv_iload_n hx hb dX8_make_137 rfl (lv_at hl 2 rfl) ?_
      refine lv_iload_n hx hb dX8_make_138 rfl (lv_at hl 3 rfl) ?_
      refine lv_aload hx hb dX8_make_139 (lv_at hl 0 rfl) ?_
      refine go_v (wr := [(h0, .inr (7, [.ref tp, .ref mka, .int mc, .ref bx, .ref rt])), (mka, .inl (cM, 8, .inr (.inr (.inr (.inr mf))))), (q_48, .inr (1, [.int n, .int pp]))]) (tysr := [(cI, .int), (cM, .object "OneHandset$Make")]) hP hD hS hA hK [3] [0, 1, 2] [0, 1] rfl rfl (by decide) (by decide) rfl (va_runI (As := [.int q9, .int n, .ref q_48]) (rest := [.ref q_50, .int mc, .ref mka]) ⟨hx, hb, hml, hown, hts⟩ (g_X4_init l D H.size cI q_50 q_48 q9 n ) (cwI 3 hts gX8_make_X4_init rfl rfl rfl (hts (.initialized RX4) (List.mem_of_getElem? (i := 11) rfl)) (hts (.methodLink RX8 58 yX4_init) (List.mem_of_getElem? (i := 41) rfl)) (hts (.instanceMethod yX4_init) (List.mem_of_getElem? (i := 42) rfl)) rfl (by decide +kernel) ⟨Nat.le_of_ble_eq_true rfl, Nat.le_of_ble_eq_true rfl⟩) (st_preS hP hD hK hNW [3] [0] rfl rfl (by decide) rfl) rfl rfl hl.1 rfl (lv_room (Nat.le_of_ble_eq_true rfl)) dX8_make_141 ⟨(Nat.le_of_ble_eq_true rfl), (Nat.le_of_ble_eq_true rfl)⟩) (fun u H locs hw hP hD hK hS => ?_)
      obtain ⟨ky_52, ca_53, cc_54, kf_55, kg_56, kl_57, kx_58, ko_59, kc_60, kd_61⟩ := u
      have hP : va_P D vwCl [(h0, .inr (7, [.ref tp, .ref mka, .int mc, .ref bx, .ref rt])), (mka, .inl (cM, 8, .inr (.inr (.inr (.inr mf))))), (q_48, .inr (1, [.int n, .int pp])), (q_50, .inr (3, [.int q9, .int n, .ref q_48, .ref ky_52, .int 20])), (ky_52, .inr (2, [.int n, .ref ca_53, .ref cc_54, .int kf_55, .int kg_56, .int kl_57, .int kx_58, .int ko_59])), (ca_53, .inl (cI, 16, .inl kc_60)), (cc_54, .inl (cI, 4, .inl kd_61))] H := hP
      have hD : va_D A [(h0, .inr (7, [.ref tp, .ref mka, .int mc, .ref bx, .ref rt])), (mka, .inl (cM, 8, .inr (.inr (.inr (.inr mf))))), (q_48, .inr (1, [.int n, .int pp])), (q_50, .inr (3, [.int q9, .int n, .ref q_48, .ref ky_52, .int 20])), (ky_52, .inr (2, [.int n, .ref ca_53, .ref cc_54, .int kf_55, .int kg_56, .int kl_57, .int kx_58, .int ko_59])), (ca_53, .inl (cI, 16, .inl kc_60)), (cc_54, .inl (cI, 4, .inl kd_61))] := hD
      have hK : va_K D vwCl [(cI, .int), (cM, .object "OneHandset$Make")] s := hK
      refine va_astq hx hb hK hP hD hS 1 1 3 3 rfl rfl rfl rfl (by have : (0 : Int32).toInt = 0 := (by decide); have : (1 : Int32).toInt = 1 := (by decide); have : (2 : Int32).toInt = 2 := (by decide); have : (8 : Int32).toInt = 8 := (by decide); have : (24 : Int32).toInt = 24 := (by decide); have : (9999 : Int32).toInt = 9999 := (by decide); have := ti_nle c_1; have := ti_wi1 c_3; have := ti_wi1 c_5; have := ti_wi1 c_7; have := ti_wi1 c_9; have := ti_wi1 c_11; have := ti_wi1 c_13; have := ti_wi1 c_15; have := ti_ne c_16; have := ti_eq c_17; exact vp_in_iff.mpr (by omega)) dX8_make_144 (fun H locs hP hD hS => ?_)
      have hP : va_P D vwCl [(h0, .inr (7, [.ref tp, .ref mka, .int mc, .ref bx, .ref rt])), (mka, .inl (cM, 8, .inr (.inr (.inr (.inr (va_up mf (Int32.toNatClampNeg mc) (some q_50))))))), (q_48, .inr (1, [.int n, .int pp])), (q_50, .inr (3, [.int q9, .int n, .ref q_48, .ref ky_52, .int 20])), (ky_52, .inr (2, [.int n, .ref ca_53, .ref cc_54, .int kf_55, .int kg_56, .int kl_57, .int kx_58, .int ko_59])), (ca_53, .inl (cI, 16, .inl kc_60)), (cc_54, .inl (cI, 4, .inl kd_61))] H := hP
      have hD : va_D A [(h0, .inr (7, [.ref tp, .ref mka, .int mc, .ref bx, .ref rt])), (mka, .inl (cM, 8, .inr (.inr (.inr (.inr (va_up mf (Int32.toNatClampNeg mc) (some q_50))))))), (q_48, .inr (1, [.int n, .int pp])), (q_50, .inr (3, [.int q9, .int n, .ref q_48, .ref ky_52, .int 20])), (ky_52, .inr (2, [.int n, .ref ca_53, .ref cc_54, .int kf_55, .int kg_56, .int kl_57, .int kx_58, .int ko_59])), (ca_53, .inl (cI, 16, .inl kc_60)), (cc_54, .inl (cI, 4, .inl kd_61))] := hD
      refine lv_aload_n hx hb dX8_make_145 rfl (lv_at hl 1 rfl) ?_
      refine lv_dup hx hb dX8_make_146 rfl ?_
      refine va_get (D := D) (ci := 7) (v := .int mc) (C := RX8) (T := TX8) (N := 5) hx hb hts hiy_make_X8 hown hK hP 0 rfl rfl 2 (by decide) (hts (.fieldLink RX8 22 "OneHandset" "makeCount" "I") (List.mem_of_getElem? (i := 1) rfl)) (fun _ h9 => h9) rfl dX8_make_147 ?_
      refine lv_iconst (v := 1) hx hb dX8_make_150 (by decide) ?_
      refine lv_iadd hx hb dX8_make_151 ?_
      refine va_put (D := D) (ci := 7) (v := .int (mc + 1)) (ty := .int) (C := RX8) (T := TX8) (N := 5) hx hb hts hiy_make_X8 tyX8 tyX8_ok nmX8 hown hK hP hD hS 0 rfl rfl 2 (by decide) (hts (.fieldLink RX8 22 "OneHandset" "makeCount" "I") (List.mem_of_getElem? (i := 1) rfl)) (fun _ h9 => h9) rfl (by decide +kernel) rfl rfl (Nat.le_of_ble_eq_true rfl) dX8_make_152 (fun H locs hP hD hS => ?_)
      have hP : va_P D vwCl [(h0, .inr (7, [.ref tp, .ref mka, .int (mc + 1), .ref bx, .ref rt])), (mka, .inl (cM, 8, .inr (.inr (.inr (.inr (va_up mf (Int32.toNatClampNeg mc) (some q_50))))))), (q_48, .inr (1, [.int n, .int pp])), (q_50, .inr (3, [.int q9, .int n, .ref q_48, .ref ky_52, .int 20])), (ky_52, .inr (2, [.int n, .ref ca_53, .ref cc_54, .int kf_55, .int kg_56, .int kl_57, .int kx_58, .int ko_59])), (ca_53, .inl (cI, 16, .inl kc_60)), (cc_54, .inl (cI, 4, .inl kd_61))] H := hP
      have hD : va_D A [(h0, .inr (7, [.ref tp, .ref mka, .int (mc + 1), .ref bx, .ref rt])), (mka, .inl (cM, 8, .inr (.inr (.inr (.inr (va_up mf (Int32.toNatClampNeg mc) (some q_50))))))), (q_48, .inr (1, [.int n, .int pp])), (q_50, .inr (3, [.int q9, .int n, .ref q_48, .ref ky_52, .int 20])), (ky_52, .inr (2, [.int n, .ref ca_53, .ref cc_54, .int kf_55, .int kg_56, .int kl_57, .int kx_58, .int ko_59])), (ca_53, .inl (cI, 16, .inl kc_60)), (cc_54, .inl (cI, 4, .inl kd_61))] := hD
      refine lv_aload_n hx hb dX8_make_155 rfl (lv_at hl 1 rfl) ?_
      refine va_get (D := D) (ci := 7) (v := .int (mc + 1)) (C := RX8) (T := TX8) (N := 5) hx hb hts hiy_make_X8 hown hK hP 0 rfl rfl 2 (by decide) (hts (.fieldLink RX8 22 "OneHandset" "makeCount" "I") (List.mem_of_getElem? (i := 1) rfl)) (fun _ h9 => h9) rfl dX8_make_156 ?_
      refine lv_iconst (v := 1) hx hb dX8_make_159 (by decide) ?_
      refine lv_isub hx hb dX8_make_160 ?_
      exact ret_i hx hb hr hlocks rfl (u := [(h0, .inr (7, [.ref tp, .ref mka, .int (mc + 1), .ref bx, .ref rt])), (mka, .inl (cM, 8, .inr (.inr (.inr (.inr (va_up mf (Int32.toNatClampNeg mc) (some q_50))))))), (q_50, .inr (3, [.int q9, .int n, .ref q_48, .ref ky_52, .int 20])), (q_48, .inr (1, [.int n, .int pp])), (ky_52, .inr (2, [.int n, .ref ca_53, .ref cc_54, .int kf_55, .int kg_56, .int kl_57, .int kx_58, .int ko_59])), (ca_53, .inl (cI, 16, .inl kc_60)), (cc_54, .inl (cI, 4, .inl kd_61))]) (Or.inr ⟨(by have : (0 : Int32).toInt = 0 := (by decide); have : (1 : Int32).toInt = 1 := (by decide); have : (2 : Int32).toInt = 2 := (by decide); have : (8 : Int32).toInt = 8 := (by decide); have : (24 : Int32).toInt = 24 := (by decide); have : (9999 : Int32).toInt = 9999 := (by decide); have := ti_nle c_1; have := ti_wi1 c_3; have := ti_wi1 c_5; have := ti_wi1 c_7; have := ti_wi1 c_9; have := ti_wi1 c_11; have := ti_wi1 c_13; have := ti_wi1 c_15; have := ti_ne c_16; have := ti_eq c_17; omega), rfl, q_50, [(q_50, .inr (3, [.int q9, .int n, .ref q_48, .ref ky_52, .int 20])), (q_48, .inr (1, [.int n, .int pp])), (ky_52, .inr (2, [.int n, .ref ca_53, .ref cc_54, .int kf_55, .int kg_56, .int kl_57, .int kx_58, .int ko_59])), (ca_53, .inl (cI, 16, .inl kc_60)), (cc_54, .inl (cI, 4, .inl kd_61))], Or.inr ⟨q_48, ky_52, ca_53, cc_54, q9, n, 20, n, pp, n, kf_55, kg_56, kl_57, kx_58, ko_59, kc_60, kd_61, rfl, (by have : (0 : Int32).toInt = 0 := (by decide); have : (1 : Int32).toInt = 1 := (by decide); have : (2 : Int32).toInt = 2 := (by decide); have : (8 : Int32).toInt = 8 := (by decide); have : (24 : Int32).toInt = 24 := (by decide); have : (9999 : Int32).toInt = 9999 := (by decide); have := ti_nle c_1; have := ti_wi1 c_3; have := ti_wi1 c_5; have := ti_wi1 c_7; have := ti_wi1 c_9; have := ti_wi1 c_11; have := ti_wi1 c_13; have := ti_wi1 c_15; have := ti_ne c_16; have := ti_eq c_17; omega)⟩, rfl⟩) (hP.sub [0, 1, 3, 2, 4, 5, 6] rfl) (hK.sub [] rfl) (hD.sub [0, 1, 3, 2, 4, 5, 6] (by decide) rfl) hS (Nat.le_of_ble_eq_true rfl) (Nat.le_of_ble_eq_true rfl) dX8_make_161
    refine lv_iconst (v := (-1)) hx hb dX8_make_76 (by decide) ?_
    exact ret_i hx hb hr hlocks rfl (u := [(h0, .inr (7, [.ref tp, .ref mka, .int mc, .ref bx, .ref rt])), (mka, .inl (cM, 8, .inr (.inr (.inr (.inr mf)))))]) (Or.inl ⟨rfl, rfl⟩) (hP.sub [0, 1] rfl) (hK.sub [] rfl) (hD.sub [0, 1] (by decide) rfl) hS (Nat.le_of_ble_eq_true rfl) (Nat.le_of_ble_eq_true rfl) dX8_make_77
  refine lv_iconst (v := (-1)) hx hb dX8_make_28 (by decide) ?_
  exact ret_i hx hb hr hlocks rfl (u := [(h0, .inr (7, [.ref tp, .ref mka, .int mc, .ref bx, .ref rt])), (mka, .inl (cM, 8, .inr (.inr (.inr (.inr mf)))))]) (Or.inl ⟨rfl, rfl⟩) (hP.sub [0, 1] rfl) (hK.sub [] rfl) (hD.sub [0, 1] (by decide) rfl) hS (Nat.le_of_ble_eq_true rfl) (Nat.le_of_ble_eq_true rfl) dX8_make_29
