theorem hiX3_startWithFlip_X3 : ∀ w ∈ wsX30, w ∈ wsX3_startWithFlip := mem_pl [41, 42, 43, 44, 45, 46, 47, 48] rfl
set_option maxHeartbeats 4000000 in
set_option maxRecDepth 100000 in
theorem c_X3_startWithFlip (l : Launch) (D : va_G) (sz : Nat) (h0 : Nat) (ca : Nat) (cc : Nat) (cA : ClassId) (cB : ClassId) (f : Nat → Int32) (g : Nat → Int32) (kb : Int32) (kf : Int32) (kg : Int32) (kl : Int32) (kx : Int32) (ko : Int32) (v : Int32)  : Cv l yX3_startWithFlip wsX3_startWithFlip ({ frames := 2, cells := 0, slots := 0, locals := 44 } : Room) D [.ref h0, .int v] [(h0, .inr (2, [.int kb, .ref ca, .ref cc, .int kf, .int kg, .int kl, .int kx, .int ko])), (ca, .inl (cA, 16, .inl f)), (cc, .inl (cB, 4, .inl g))] [(cA, .int), (cB, .int)] sz (fun (_ : Unit) => True) (fun (_ : Unit) => []) (fun (_ : Unit) => []) := by
  refine ct_v (cc := cX3_startWithFlip) (maxL := 2) (ret := none) (by decide) rfl (Nat.le_of_ble_eq_true rfl) ?_
  intro p e s m below meth c A ls H hx hb hr hts hown hml hlocks hin hA hS hP hK hD hNW hl hAe hsz
  have hl : lv_has ls 2 [(0, .ref h0), (1, .int v)] := hl
  refine lv_aload_n hx hb dX3_startWithFlip_0 rfl (lv_at hl 0 rfl) ?_
  refine lv_iload_n hx hb dX3_startWithFlip_1 rfl (lv_at hl 1 rfl) ?_
  refine va_put (D := D) (ci := 2) (v := .int v) (ty := .int) (C := RX3) (T := TX3) (N := 8) hx hb hts hiX3_startWithFlip_X3 tyX3 tyX3_ok nmX3 hown hK hP hD hS 0 rfl rfl 3 (by decide) (hts (.fieldLink RX3 26 "OneHandset$Keys" "flip" "I") (List.mem_of_getElem? (i := 1) rfl)) (fun _ h9 => h9) rfl (by decide +kernel) rfl rfl (Nat.le_of_ble_eq_true rfl) dX3_startWithFlip_2 (fun H locs hP hD hS => ?_)
  have hP : va_P D vwCl [(h0, .inr (2, [.int kb, .ref ca, .ref cc, .int v, .int kg, .int kl, .int kx, .int ko])), (ca, .inl (cA, 16, .inl f)), (cc, .inl (cB, 4, .inl g))] H := hP
  have hD : va_D A [(h0, .inr (2, [.int kb, .ref ca, .ref cc, .int v, .int kg, .int kl, .int kx, .int ko])), (ca, .inl (cA, 16, .inl f)), (cc, .inl (cB, 4, .inl g))] := hD
  refine lv_aload_n hx hb dX3_startWithFlip_5 rfl (lv_at hl 0 rfl) ?_
  refine lv_iconst (v := 0) hx hb dX3_startWithFlip_6 (by decide) ?_
  refine va_put (D := D) (ci := 2) (v := .int 0) (ty := .int) (C := RX3) (T := TX3) (N := 8) hx hb hts hiX3_startWithFlip_X3 tyX3 tyX3_ok nmX3 hown hK hP hD hS 0 rfl rfl 4 (by decide) (hts (.fieldLink RX3 29 "OneHandset$Keys" "flipBit" "I") (List.mem_of_getElem? (i := 2) rfl)) (fun _ h9 => h9) rfl (by decide +kernel) rfl rfl (Nat.le_of_ble_eq_true rfl) dX3_startWithFlip_7 (fun H locs hP hD hS => ?_)
  have hP : va_P D vwCl [(h0, .inr (2, [.int kb, .ref ca, .ref cc, .int v, .int 0, .int kl, .int kx, .int ko])), (ca, .inl (cA, 16, .inl f)), (cc, .inl (cB, 4, .inl g))] H := hP
  have hD : va_D A [(h0, .inr (2, [.int kb, .ref ca, .ref cc, .int v, .int 0, .int kl, .int kx, .int ko])), (ca, .inl (cA, 16, .inl f)), (cc, .inl (cB, 4, .inl g))] := hD
  refine lv_aload_n hx hb dX3_startWithFlip_10 rfl (lv_at hl 0 rfl) ?_
  refine va_get (D := D) (ci := 2) (v := .ref ca) (C := RX3) (T := TX3) (N := 8) hx hb hts hiX3_startWithFlip_X3 hown hK hP 0 rfl rfl 1 (by decide) (hts (.fieldLink RX3 9 "OneHandset$Keys" "codes" "[I") (List.mem_of_getElem? (i := 3) rfl)) (fun _ h9 => h9) rfl dX3_startWithFlip_11 ?_
  refine lv_iconst (v := (-1)) hx hb dX3_startWithFlip_14 (by decide) ?_
  refine go_v (wr := [(h0, .inr (2, [.int kb, .ref ca, .ref cc, .int v, .int 0, .int kl, .int kx, .int ko])), (cc, .inl (cB, 4, .inl g))]) (tysr := [(cB, .int)]) hP hD hS hA hK [1] [0, 2] [1] rfl rfl (by decide) (by decide) rfl (va_runS (As := [.ref ca, .int (-1)]) (rest := []) ⟨hx, hb, hml, hown, hts⟩ (c_J7_fill_53178 l D H.size ca cA 16 f (-1) (by decide)) (va_cwS 2 hts gX3_startWithFlip_J7_fill_53178 rfl rfl rfl (by decide +kernel) ⟨Nat.le_of_ble_eq_true rfl, Nat.le_of_ble_eq_true rfl⟩) (st_preS hP hD hK hNW [1] [0] rfl rfl (by decide) rfl) rfl rfl hl.1 rfl (lv_room (Nat.le_of_ble_eq_true rfl)) dX3_startWithFlip_15 ⟨(Nat.le_of_ble_eq_true rfl), (Nat.le_of_ble_eq_true rfl)⟩) (fun u H locs hw hP hD hK hS => ?_)
  have hP : va_P D vwCl [(h0, .inr (2, [.int kb, .ref ca, .ref cc, .int v, .int 0, .int kl, .int kx, .int ko])), (cc, .inl (cB, 4, .inl g)), (ca, .inl (cA, 16, .inl (fl f (-1) 16)))] H := hP
  have hD : va_D A [(h0, .inr (2, [.int kb, .ref ca, .ref cc, .int v, .int 0, .int kl, .int kx, .int ko])), (cc, .inl (cB, 4, .inl g)), (ca, .inl (cA, 16, .inl (fl f (-1) 16)))] := hD
  have hK : va_K D vwCl [(cB, .int), (cA, .int)] s := hK
  refine lv_aload_n hx hb dX3_startWithFlip_18 rfl (lv_at hl 0 rfl) ?_
  refine go_v (wr := []) (tysr := []) hP hD hS hA hK [0, 2, 1] [] [] rfl rfl (by decide) (by decide) rfl (va_runV (As := []) (rest := []) ⟨hx, hb, hml, hown, hts⟩ (c_X3_compareAll l D H.size h0 ca cc cA cB f g kb v 0 kl kx ko ) (cwV 0 hts gX3_startWithFlip_X3_compareAll rfl rfl rfl (by decide +kernel) ⟨Nat.le_of_ble_eq_true rfl, Nat.le_of_ble_eq_true rfl⟩) (st_preV (ci := 2) (q0 := 0) hP hD hK hNW [0, 2, 1] [1, 0] rfl rfl (by decide) rfl rfl rfl rfl) rfl rfl hl.1 rfl (lv_room (Nat.le_of_ble_eq_true rfl)) dX3_startWithFlip_19 ⟨(Nat.le_of_ble_eq_true rfl), (Nat.le_of_ble_eq_true rfl)⟩) (fun u H locs hw hP hD hK hS => ?_)
  have hP : va_P D vwCl [] H := hP
  have hD : va_D A [] := hD
  have hK : va_K D vwCl [] s := hK
  exact ret_v hx hb hr hlocks (u := ()) trivial (hP.sub [] rfl) (hK.sub [] rfl) (hD.sub [] (by decide) rfl) hS (Nat.le_of_ble_eq_true rfl) (Nat.le_of_ble_eq_true rfl) dX3_startWithFlip_22
theorem hiX3_init_X3 : ∀ w ∈ wsX30, w ∈ wsX3_init := mem_pl [49, 50, 51, 52, 53, 54, 55, 56] rfl
set_option maxHeartbeats 4000000 in
set_option maxRecDepth 100000 in
theorem c_X3_init (l : Launch) (D : va_G) (sz : Nat) (h0 : Nat) (n : Int32)  : Cv l yX3_init wsX3_init ({ frames := 3, cells := 2, slots := 20, locals := 65 } : Room) D [.ref h0, .int n] [(h0, .inr (2, [.int 0, .null, .null, .int 0, .int 0, .int 0, .int 0, .int 0]))] [] sz (fun (_ : Unit) => True) (fun (_ : Unit) => []) (fun (_ : Unit) => []) := by
  refine ct_v (cc := cX3_init) (maxL := 2) (ret := none) (by decide) rfl (Nat.le_of_ble_eq_true rfl) ?_
  intro p e s m below meth c A ls H hx hb hr hts hown hml hlocks hin hA hS hP hK hD hNW hl hAe hsz
  have hl : lv_has ls 2 [(0, .ref h0), (1, .int n)] := hl
  refine lv_aload_n hx hb dX3_init_0 rfl (lv_at hl 0 rfl) ?_
  refine W.objInit hx hb hown (hts (.methodLink RX3 3 objectInit) (List.mem_of_getElem? (i := 1) rfl)) (hts (.instanceMethod objectInit) (List.mem_of_getElem? (i := 2) rfl)) (hts (.code objectInit ⟨#[0xb1]⟩ 1 none) (List.mem_of_getElem? (i := 3) rfl)) rfl (by rw [hml]; exact hl.1) rfl dX3_init_1 (Nat.le_of_ble_eq_true rfl) (Nat.le_of_ble_eq_true rfl) ?_
  refine W.eq (g2 := F0 m 4 ls []) rfl ?_
  refine lv_aload_n hx hb dX3_init_4 rfl (lv_at hl 0 rfl) ?_
  refine lv_bipush (v := 16) hx hb dX3_init_5 (by decide) ?_
  refine va_newa (atype := .int) (ty := .int) (a0 := (16, .inl (fun _ => 0))) (N' := 16) hx hb (hts (.arrayClass .int) (List.mem_of_getElem? (i := 4) rfl)) rfl hK hP hD hS hA (na_i 16) (by decide) (by decide) (by decide) (Nat.le_of_ble_eq_true rfl) (Nat.le_of_ble_eq_true rfl) dX3_init_7 (fun q_1 cA_2 H hK hP hD hS => ?_)
  have hP : va_P D vwCl [(h0, .inr (2, [.int 0, .null, .null, .int 0, .int 0, .int 0, .int 0, .int 0])), (q_1, .inl (cA_2, 16, .inl (fun _ => 0)))] H := hP
  have hD : va_D A [(h0, .inr (2, [.int 0, .null, .null, .int 0, .int 0, .int 0, .int 0, .int 0])), (q_1, .inl (cA_2, 16, .inl (fun _ => 0)))] := hD
  have hK : va_K D vwCl [(cA_2, .int)] s := hK
  refine va_putF (D := D) (ci := 2) (v := .ref q_1) (ty := .array .int) (C := RX3) (T := TX3) (N := 8) hx hb hts hiX3_init_X3 tyX3 tyX3_ok nmX3 hown hK hP hD hS 0 rfl rfl 1 (by decide) (hts (.fieldLink RX3 9 "OneHandset$Keys" "codes" "[I") (List.mem_of_getElem? (i := 5) rfl)) (fun _ h9 => h9) rfl hin rfl (by decide +kernel) rfl rfl (Nat.le_of_ble_eq_true rfl) dX3_init_9 (fun H locs hP hD hS => ?_)
  have hP : va_P D vwCl [(h0, .inr (2, [.int 0, .ref q_1, .null, .int 0, .int 0, .int 0, .int 0, .int 0])), (q_1, .inl (cA_2, 16, .inl (fun _ => 0)))] H := hP
  have hD : va_D A [(h0, .inr (2, [.int 0, .ref q_1, .null, .int 0, .int 0, .int 0, .int 0, .int 0])), (q_1, .inl (cA_2, 16, .inl (fun _ => 0)))] := hD
  refine lv_aload_n hx hb dX3_init_12 rfl (lv_at hl 0 rfl) ?_
  refine lv_iconst (v := 4) hx hb dX3_init_13 (by decide) ?_
  refine va_newa (atype := .int) (ty := .int) (a0 := (4, .inl (fun _ => 0))) (N' := 4) hx hb (hts (.arrayClass .int) (List.mem_of_getElem? (i := 4) rfl)) rfl hK hP hD hS hA (na_i 4) (by decide) (by decide) (by decide) (Nat.le_of_ble_eq_true rfl) (Nat.le_of_ble_eq_true rfl) dX3_init_14 (fun q_3 cA_4 H hK hP hD hS => ?_)
  have hP : va_P D vwCl [(h0, .inr (2, [.int 0, .ref q_1, .null, .int 0, .int 0, .int 0, .int 0, .int 0])), (q_1, .inl (cA_2, 16, .inl (fun _ => 0))), (q_3, .inl (cA_4, 4, .inl (fun _ => 0)))] H := hP
  have hD : va_D A [(h0, .inr (2, [.int 0, .ref q_1, .null, .int 0, .int 0, .int 0, .int 0, .int 0])), (q_1, .inl (cA_2, 16, .inl (fun _ => 0))), (q_3, .inl (cA_4, 4, .inl (fun _ => 0)))] := hD
  have hK : va_K D vwCl [(cA_2, .int), (cA_4, .int)] s := hK
  refine va_putF (D := D) (ci := 2) (v := .ref q_3) (ty := .array .int) (C := RX3) (T := TX3) (N := 8) hx hb hts hiX3_init_X3 tyX3 tyX3_ok nmX3 hown hK hP hD hS 0 rfl rfl 2 (by decide) (hts (.fieldLink RX3 15 "OneHandset$Keys" "constants" "[I") (List.mem_of_getElem? (i := 6) rfl)) (fun _ h9 => h9) rfl hin rfl (by decide +kernel) rfl rfl (Nat.le_of_ble_eq_true rfl) dX3_init_16 (fun H locs hP hD hS => ?_)
  have hP : va_P D vwCl [(h0, .inr (2, [.int 0, .ref q_1, .ref q_3, .int 0, .int 0, .int 0, .int 0, .int 0])), (q_1, .inl (cA_2, 16, .inl (fun _ => 0))), (q_3, .inl (cA_4, 4, .inl (fun _ => 0)))] H := hP
  have hD : va_D A [(h0, .inr (2, [.int 0, .ref q_1, .ref q_3, .int 0, .int 0, .int 0, .int 0, .int 0])), (q_1, .inl (cA_2, 16, .inl (fun _ => 0))), (q_3, .inl (cA_4, 4, .inl (fun _ => 0)))] := hD
  refine lv_aload_n hx hb dX3_init_19 rfl (lv_at hl 0 rfl) ?_
  refine lv_iload_n hx hb dX3_init_20 rfl (lv_at hl 1 rfl) ?_
  refine va_putF (D := D) (ci := 2) (v := .int n) (ty := .int) (C := RX3) (T := TX3) (N := 8) hx hb hts hiX3_init_X3 tyX3 tyX3_ok nmX3 hown hK hP hD hS 0 rfl rfl 0 (by decide) (hts (.fieldLink RX3 18 "OneHandset$Keys" "bits" "I") (List.mem_of_getElem? (i := 7) rfl)) (fun _ h9 => h9) rfl hin rfl (by decide +kernel) rfl rfl (Nat.le_of_ble_eq_true rfl) dX3_init_21 (fun H locs hP hD hS => ?_)
  have hP : va_P D vwCl [(h0, .inr (2, [.int n, .ref q_1, .ref q_3, .int 0, .int 0, .int 0, .int 0, .int 0])), (q_1, .inl (cA_2, 16, .inl (fun _ => 0))), (q_3, .inl (cA_4, 4, .inl (fun _ => 0)))] H := hP
  have hD : va_D A [(h0, .inr (2, [.int n, .ref q_1, .ref q_3, .int 0, .int 0, .int 0, .int 0, .int 0])), (q_1, .inl (cA_2, 16, .inl (fun _ => 0))), (q_3, .inl (cA_4, 4, .inl (fun _ => 0)))] := hD
  refine lv_aload_n hx hb dX3_init_24 rfl (lv_at hl 0 rfl) ?_
  refine lv_iconst (v := (-1)) hx hb dX3_init_25 (by decide) ?_
  refine go_v (wr := []) (tysr := []) hP hD hS hA hK [0, 1, 2] [] [] rfl rfl (by decide) (by decide) rfl (va_runV (As := [.int (-1)]) (rest := []) ⟨hx, hb, hml, hown, hts⟩ (c_X3_startWithFlip l D H.size h0 q_1 q_3 cA_2 cA_4 (fun _ => 0) (fun _ => 0) n 0 0 0 0 0 (-1) ) (cwV 1 hts gX3_init_X3_startWithFlip rfl rfl rfl (by decide +kernel) ⟨Nat.le_of_ble_eq_true rfl, Nat.le_of_ble_eq_true rfl⟩) (st_preV (ci := 2) (q0 := 0) hP hD hK hNW [0, 1, 2] [0, 1] rfl rfl (by decide) rfl rfl rfl rfl) rfl rfl hl.1 rfl (lv_room (Nat.le_of_ble_eq_true rfl)) dX3_init_26 ⟨(Nat.le_of_ble_eq_true rfl), (Nat.le_of_ble_eq_true rfl)⟩) (fun u H locs hw hP hD hK hS => ?_)
  have hP : va_P D vwCl [] H := hP
  have hD : va_D A [] := hD
  have hK : va_K D vwCl [] s := hK
  exact ret_v hx hb hr hlocks (u := ()) trivial (hP.sub [] rfl) (hK.sub [] rfl) (hD.sub [] (by decide) rfl) hS (Nat.le_of_ble_eq_true rfl) (Nat.le_of_ble_eq_true rfl) dX3_init_29
theorem hiX4_init_X4 : ∀ w ∈ wsX40, w ∈ wsX4_init := mem_pl [60, 61, 62, 63, 64] rfl
theorem hiX4_init_X3 : ∀ w ∈ wsX30, w ∈ wsX4_init := mem_pl [65, 66, 67, 68, 69, 70, 71, 72] rfl
set_option maxHeartbeats 4000000 in
set_option maxRecDepth 100000 in
theorem c_X4_init (l : Launch) (D : va_G) (sz : Nat) (h0 : Nat) (fm : Nat) (k : Int32) (n : Int32)  : Cv l yX4_init wsX4_init ({ frames := 4, cells := 3, slots := 28, locals := 86 } : Room) D [.ref h0, .int k, .int n, .ref fm] [(h0, .inr (3, [.int 0, .int 0, .null, .null, .int 0]))] [] sz (fun (ky : Nat) => True) (fun (ky : Nat) => [(h0, .inr (3, [.int k, .int n, .ref fm, .ref ky, .int 20]))]) (fun (ky : Nat) => []) := by
  refine ct_v (cc := cX4_init) (maxL := 4) (ret := none) (by decide) rfl (Nat.le_of_ble_eq_true rfl) ?_
  intro p e s m below meth c A ls H hx hb hr hts hown hml hlocks hin hA hS hP hK hD hNW hl hAe hsz
  have hl : lv_has ls 4 [(0, .ref h0), (1, .int k), (2, .int n), (3, .ref fm)] := hl
  refine lv_aload_n hx hb dX4_init_0 rfl (lv_at hl 0 rfl) ?_
  refine W.objInit hx hb hown (hts (.methodLink RX4 3 objectInit) (List.mem_of_getElem? (i := 1) rfl)) (hts (.instanceMethod objectInit) (List.mem_of_getElem? (i := 2) rfl)) (hts (.code objectInit ⟨#[0xb1]⟩ 1 none) (List.mem_of_getElem? (i := 3) rfl)) rfl (by rw [hml]; exact hl.1) rfl dX4_init_1 (Nat.le_of_ble_eq_true rfl) (Nat.le_of_ble_eq_true rfl) ?_
  refine W.eq (g2 := F0 m 4 ls []) rfl ?_
  refine lv_aload_n hx hb dX4_init_4 rfl (lv_at hl 0 rfl) ?_
  refine lv_bipush (v := 20) hx hb dX4_init_5 (by decide) ?_
  refine va_put (D := D) (ci := 3) (v := .int 20) (ty := .int) (C := RX4) (T := TX4) (N := 5) hx hb hts hiX4_init_X4 tyX4 tyX4_ok nmX4 hown hK hP hD hS 0 rfl rfl 4 (by decide) (hts (.fieldLink RX4 9 "OneHandset$Make" "miss" "I") (List.mem_of_getElem? (i := 4) rfl)) (fun _ h9 => h9) rfl (by decide +kernel) rfl rfl (Nat.le_of_ble_eq_true rfl) dX4_init_7 (fun H locs hP hD hS => ?_)
  have hP : va_P D vwCl [(h0, .inr (3, [.int 0, .int 0, .null, .null, .int 20]))] H := hP
  have hD : va_D A [(h0, .inr (3, [.int 0, .int 0, .null, .null, .int 20]))] := hD
  refine lv_aload_n hx hb dX4_init_10 rfl (lv_at hl 0 rfl) ?_
  refine lv_iload_n hx hb dX4_init_11 rfl (lv_at hl 1 rfl) ?_
  refine va_putF (D := D) (ci := 3) (v := .int k) (ty := .int) (C := RX4) (T := TX4) (N := 5) hx hb hts hiX4_init_X4 tyX4 tyX4_ok nmX4 hown hK hP hD hS 0 rfl rfl 0 (by decide) (hts (.fieldLink RX4 15 "OneHandset$Make" "kind" "I") (List.mem_of_getElem? (i := 5) rfl)) (fun _ h9 => h9) rfl hin rfl (by decide +kernel) rfl rfl (Nat.le_of_ble_eq_true rfl) dX4_init_12 (fun H locs hP hD hS => ?_)
  have hP : va_P D vwCl [(h0, .inr (3, [.int k, .int 0, .null, .null, .int 20]))] H := hP
  have hD : va_D A [(h0, .inr (3, [.int k, .int 0, .null, .null, .int 20]))] := hD
  refine lv_aload_n hx hb dX4_init_15 rfl (lv_at hl 0 rfl) ?_
  refine lv_iload_n hx hb dX4_init_16 rfl (lv_at hl 2 rfl) ?_
  refine va_putF (D := D) (ci := 3) (v := .int n) (ty := .int) (C := RX4) (T := TX4) (N := 5) hx hb hts hiX4_init_X4 tyX4 tyX4_ok nmX4 hown hK hP hD hS 0 rfl rfl 1 (by decide) (hts (.fieldLink RX4 18 "OneHandset$Make" "bits" "I") (List.mem_of_getElem? (i := 6) rfl)) (fun _ h9 => h9) rfl hin rfl (by decide +kernel) rfl rfl (Nat.le_of_ble_eq_true rfl) dX4_init_17 (fun H locs hP hD hS => ?_)
  have hP : va_P D vwCl [(h0, .inr (3, [.int k, .int n, .null, .null, .int 20]))] H := hP
  have hD : va_D A [(h0, .inr (3, [.int k, .int n, .null, .null, .int 20]))] := hD
  refine lv_aload_n hx hb dX4_init_20 rfl (lv_at hl 0 rfl) ?_
  refine lv_aload_n hx hb dX4_init_21 rfl (lv_at hl 3 rfl) ?_
  refine va_putF (D := D) (ci := 3) (v := .ref fm) (ty := .object "OneHandset$Form") (C := RX4) (T := TX4) (N := 5) hx hb hts hiX4_init_X4 tyX4 tyX4_ok nmX4 hown hK hP hD hS 0 rfl rfl 2 (by decide) (hts (.fieldLink RX4 21 "OneHandset$Make" "form" "LOneHandset$Form;") (List.mem_of_getElem? (i := 7) rfl)) (fun _ h9 => h9) rfl hin rfl (by decide +kernel) rfl rfl (Nat.le_of_ble_eq_true rfl) dX4_init_22 (fun H locs hP hD hS => ?_)
  have hP : va_P D vwCl [(h0, .inr (3, [.int k, .int n, .ref fm, .null, .int 20]))] H := hP
  have hD : va_D A [(h0, .inr (3, [.int k, .int n, .ref fm, .null, .int 20]))] := hD
  refine lv_aload_n hx hb dX4_init_25 rfl (lv_at hl 0 rfl) ?_
  refine va_new (ci := 2) (fs := [.int 0, .null, .null, .int 0, .int 0, .int 0, .int 0, .int 0]) (C := RX3) (T := TX3) (N := 8) hx hb hts hiX4_init_X3 tyX3 tyX3_ok hown (hts (.classLink RX4 25 RX3) (List.mem_of_getElem? (i := 8) rfl)) (hts (.instantiable RX3 8) (List.mem_of_getElem? (i := 9) rfl)) (hts (.initialized RX3) (List.mem_of_getElem? (i := 10) rfl)) hK hP hD hS hA rfl (fun j hj => by rcases (show j = 0 ∨ j = 1 ∨ j = 2 ∨ j = 3 ∨ j = 4 ∨ j = 5 ∨ j = 6 ∨ j = 7 by omega) with rfl | rfl | rfl | rfl | rfl | rfl | rfl | rfl <;> rfl) (Nat.le_of_ble_eq_true rfl) (Nat.le_of_ble_eq_true rfl) dX4_init_26 (fun q_1 H hP hD hS => ?_)
  have hP : va_P D vwCl [(h0, .inr (3, [.int k, .int n, .ref fm, .null, .int 20])), (q_1, .inr (2, [.int 0, .null, .null, .int 0, .int 0, .int 0, .int 0, .int 0]))] H := hP
  have hD : va_D A [(h0, .inr (3, [.int k, .int n, .ref fm, .null, .int 20])), (q_1, .inr (2, [.int 0, .null, .null, .int 0, .int 0, .int 0, .int 0, .int 0]))] := hD
  refine lv_dup hx hb dX4_init_29 rfl ?_
  refine lv_iload_n hx hb dX4_init_30 rfl (lv_at hl 2 rfl) ?_
  refine go_v (wr := [(h0, .inr (3, [.int k, .int n, .ref fm, .null, .int 20]))]) (tysr := []) hP hD hS hA hK [1] [0] [] rfl rfl (by decide) (by decide) rfl (va_runI (As := [.int n]) (rest := [.ref q_1, .ref h0]) ⟨hx, hb, hml, hown, hts⟩ (c_X3_init l D H.size q_1 n ) (cwI 1 hts gX4_init_X3_init rfl rfl rfl (hts (.initialized RX3) (List.mem_of_getElem? (i := 10) rfl)) (hts (.methodLink RX4 27 yX3_init) (List.mem_of_getElem? (i := 12) rfl)) (hts (.instanceMethod yX3_init) (List.mem_of_getElem? (i := 13) rfl)) rfl (by decide +kernel) ⟨Nat.le_of_ble_eq_true rfl, Nat.le_of_ble_eq_true rfl⟩) (st_preS hP hD hK hNW [1] [] rfl rfl (by decide) rfl) rfl rfl hl.1 rfl (lv_room (Nat.le_of_ble_eq_true rfl)) dX4_init_31 ⟨(Nat.le_of_ble_eq_true rfl), (Nat.le_of_ble_eq_true rfl)⟩) (fun u H locs hw hP hD hK hS => ?_)
  have hP : va_P D vwCl [(h0, .inr (3, [.int k, .int n, .ref fm, .null, .int 20]))] H := hP
  have hD : va_D A [(h0, .inr (3, [.int k, .int n, .ref fm, .null, .int 20]))] := hD
  have hK : va_K D vwCl [] s := hK
  refine va_putF (D := D) (ci := 3) (v := .ref q_1) (ty := .object "OneHandset$Keys") (C := RX4) (T := TX4) (N := 5) hx hb hts hiX4_init_X4 tyX4 tyX4_ok nmX4 hown hK hP hD hS 0 rfl rfl 3 (by decide) (hts (.fieldLink RX4 30 "OneHandset$Make" "keys" "LOneHandset$Keys;") (List.mem_of_getElem? (i := 11) rfl)) (fun _ h9 => h9) rfl hin rfl (by decide +kernel) rfl rfl (Nat.le_of_ble_eq_true rfl) dX4_init_34 (fun H locs hP hD hS => ?_)
  have hP : va_P D vwCl [(h0, .inr (3, [.int k, .int n, .ref fm, .ref q_1, .int 20]))] H := hP
  have hD : va_D A [(h0, .inr (3, [.int k, .int n, .ref fm, .ref q_1, .int 20]))] := hD
  exact ret_v hx hb hr hlocks (u := q_1) trivial (hP.sub [0] rfl) (hK.sub [] rfl) (hD.sub [0] (by decide) rfl) hS (Nat.le_of_ble_eq_true rfl) (Nat.le_of_ble_eq_true rfl) dX4_init_37
theorem hiX8_make_X8 : ∀ w ∈ wsX80, w ∈ wsX8_make := mem_pl [100, 101, 102, 103, 104] rfl
theorem hiX8_make_X5 : ∀ w ∈ wsX50, w ∈ wsX8_make := mem_pl [107, 108, 109, 110, 111, 112, 113, 114] rfl
theorem hiX8_make_X4 : ∀ w ∈ wsX40, w ∈ wsX8_make := mem_pl [115, 116, 117, 118, 119] rfl
theorem hiX8_make_X2 : ∀ w ∈ wsX20, w ∈ wsX8_make := mem_pl [105, 106] rfl
set_option maxHeartbeats 4000000 in
set_option maxRecDepth 100000 in
theorem c_X8_make (l : Launch) (D : va_G) (sz : Nat) (h0 : Nat) (tp : Nat) (mka : Nat) (bx : Nat) (rt : Nat) (cM : ClassId) (mf : Nat → Option Nat) (k : Int32) (n : Int32) (a : Int32) (b : Int32) (pp : Int32) (z : Int32) (o : Int32)  : Ci l yX8_make wsX8_make ({ frames := 5, cells := 5, slots := 41, locals := 109 } : Room) D [.ref h0, .int k, .int n, .int a, .int b, .int pp, .int z, .int o] [(h0, .inr (7, [.ref tp, .ref mka, .int 0, .ref bx, .ref rt])), (mka, .inl (cM, 8, .inr (.inr (.inr (.inr mf)))))] [(cM, .object "OneHandset$Make")] sz (fun (r : Int32) => fun (_ : Unit) => r = mkS k n a b pp z o) (fun (_ : Unit) => []) (fun (_ : Unit) => []) := by
  refine ct_i (cc := cX8_make) (maxL := 9) (ret := (some .int)) (by decide) rfl (Nat.le_of_ble_eq_true rfl) ?_
  intro p e s m below meth c A ls H hx hb hr hts hown hml hlocks hin hA hS hP hK hD hNW hl hAe hsz
  have hl : lv_has ls 9 [(0, .ref h0), (1, .int k), (2, .int n), (3, .int a), (4, .int b), (5, .int pp), (6, .int z), (7, .int o)] := hl
  refine lv_aload_n hx hb dX8_make_0 rfl (lv_at hl 0 rfl) ?_
  refine va_get (D := D) (ci := 7) (v := .int 0) (C := RX8) (T := TX8) (N := 5) hx hb hts hiX8_make_X8 hown hK hP 0 rfl rfl 2 (by decide) (hts (.fieldLink RX8 22 "OneHandset" "makeCount" "I") (List.mem_of_getElem? (i := 1) rfl)) (fun _ h9 => h9) rfl dX8_make_1 ?_
  refine lv_bipush (v := 8) hx hb dX8_make_4 (by decide) ?_
  refine lv_icmp_ge (tgt := 28) hx hb dX8_make_6 (by decide) (fun c_1 => absurd c_1 (by decide)) (fun _ => ?_)
  refine lv_iload_n hx hb dX8_make_9 rfl (lv_at hl 1 rfl) ?_
  refine lv_iconst (v := 0) hx hb dX8_make_10 (by decide) ?_
  refine lv_iconst (v := 2) hx hb dX8_make_11 (by decide) ?_
  refine go_i (wr := [(h0, .inr (7, [.ref tp, .ref mka, .int 0, .ref bx, .ref rt])), (mka, .inl (cM, 8, .inr (.inr (.inr (.inr mf)))))]) (tysr := [(cM, .object "OneHandset$Make")]) hP hD hS hA hK [] [0, 1] [0] rfl rfl (by decide) (by decide) rfl (va_runS (As := [.int k, .int 0, .int 2]) (rest := []) ⟨hx, hb, hml, hown, hts⟩ (c_X8_within l D H.size k 0 2 ) (va_cwS 3 hts gX8_make_X8_within rfl rfl rfl (by decide +kernel) ⟨Nat.le_of_ble_eq_true rfl, Nat.le_of_ble_eq_true rfl⟩) (st_preS hP hD hK hNW [] [] rfl rfl (by decide) rfl) rfl rfl hl.1 rfl (lv_room (Nat.le_of_ble_eq_true rfl)) dX8_make_12 ⟨(Nat.le_of_ble_eq_true rfl), (Nat.le_of_ble_eq_true rfl)⟩) (fun r_2 u H locs hw hP hD hK hS => ?_)
  have hw : r_2 = wi k 0 2 := hw
  subst hw
  have hP : va_P D vwCl [(h0, .inr (7, [.ref tp, .ref mka, .int 0, .ref bx, .ref rt])), (mka, .inl (cM, 8, .inr (.inr (.inr (.inr mf)))))] H := hP
  have hD : va_D A [(h0, .inr (7, [.ref tp, .ref mka, .int 0, .ref bx, .ref rt])), (mka, .inl (cM, 8, .inr (.inr (.inr (.inr mf)))))] := hD
  have hK : va_K D vwCl [(cM, .object "OneHandset$Make")] s := hK
  refine lv_if_eq (tgt := 28) hx hb dX8_make_15 (by decide) (fun c_3 => ?_) (fun c_3 => ?_)
  · refine lv_iconst (v := (-1)) hx hb dX8_make_28 (by decide) ?_
    exact ret_i hx hb hr hlocks rfl (u := ()) (by simp [mkS, c_3]) (hP.sub [] rfl) (hK.sub [] rfl) (hD.sub [] (by decide) rfl) hS (Nat.le_of_ble_eq_true rfl) (Nat.le_of_ble_eq_true rfl) dX8_make_29
  refine lv_iload_n hx hb dX8_make_18 rfl (lv_at hl 2 rfl) ?_
  refine lv_iconst (v := 1) hx hb dX8_make_19 (by decide) ?_
  refine lv_bipush (v := 24) hx hb dX8_make_20 (by decide) ?_
  refine go_i (wr := [(h0, .inr (7, [.ref tp, .ref mka, .int 0, .ref bx, .ref rt])), (mka, .inl (cM, 8, .inr (.inr (.inr (.inr mf)))))]) (tysr := [(cM, .object "OneHandset$Make")]) hP hD hS hA hK [] [0, 1] [0] rfl rfl (by decide) (by decide) rfl (va_runS (As := [.int n, .int 1, .int 24]) (rest := []) ⟨hx, hb, hml, hown, hts⟩ (c_X8_within l D H.size n 1 24 ) (va_cwS 3 hts gX8_make_X8_within rfl rfl rfl (by decide +kernel) ⟨Nat.le_of_ble_eq_true rfl, Nat.le_of_ble_eq_true rfl⟩) (st_preS hP hD hK hNW [] [] rfl rfl (by decide) rfl) rfl rfl hl.1 rfl (lv_room (Nat.le_of_ble_eq_true rfl)) dX8_make_22 ⟨(Nat.le_of_ble_eq_true rfl), (Nat.le_of_ble_eq_true rfl)⟩) (fun r_4 u H locs hw hP hD hK hS => ?_)
  have hw : r_4 = wi n 1 24 := hw
  subst hw
  have hP : va_P D vwCl [(h0, .inr (7, [.ref tp, .ref mka, .int 0, .ref bx, .ref rt])), (mka, .inl (cM, 8, .inr (.inr (.inr (.inr mf)))))] H := hP
  have hD : va_D A [(h0, .inr (7, [.ref tp, .ref mka, .int 0, .ref bx, .ref rt])), (mka, .inl (cM, 8, .inr (.inr (.inr (.inr mf)))))] := hD
  have hK : va_K D vwCl [(cM, .object "OneHandset$Make")] s := hK
  refine lv_if_ne (tgt := 30) hx hb dX8_make_25 (by decide) (fun c_5 => ?_) (fun c_5 => ?_)
  · refine lv_iload_n hx hb dX8_make_30 rfl (lv_at hl 3 rfl) ?_
    refine go_i (wr := [(h0, .inr (7, [.ref tp, .ref mka, .int 0, .ref bx, .ref rt])), (mka, .inl (cM, 8, .inr (.inr (.inr (.inr mf)))))]) (tysr := [(cM, .object "OneHandset$Make")]) hP hD hS hA hK [] [0, 1] [0] rfl rfl (by decide) (by decide) rfl (va_runS (As := [.int a]) (rest := []) ⟨hx, hb, hml, hown, hts⟩ (c_X8_isNumber l D H.size a ) (va_cwS 1 hts gX8_make_X8_isNumber rfl rfl rfl (by decide +kernel) ⟨Nat.le_of_ble_eq_true rfl, Nat.le_of_ble_eq_true rfl⟩) (st_preS hP hD hK hNW [] [] rfl rfl (by decide) rfl) rfl rfl hl.1 rfl (lv_room (Nat.le_of_ble_eq_true rfl)) dX8_make_31 ⟨(Nat.le_of_ble_eq_true rfl), (Nat.le_of_ble_eq_true rfl)⟩) (fun r_6 u H locs hw hP hD hK hS => ?_)
    have hw : r_6 = wi a 1 9999 := hw
    subst hw
    have hP : va_P D vwCl [(h0, .inr (7, [.ref tp, .ref mka, .int 0, .ref bx, .ref rt])), (mka, .inl (cM, 8, .inr (.inr (.inr (.inr mf)))))] H := hP
    have hD : va_D A [(h0, .inr (7, [.ref tp, .ref mka, .int 0, .ref bx, .ref rt])), (mka, .inl (cM, 8, .inr (.inr (.inr (.inr mf)))))] := hD
    have hK : va_K D vwCl [(cM, .object "OneHandset$Make")] s := hK
    refine lv_if_eq (tgt := 76) hx hb dX8_make_34 (by decide) (fun c_7 => ?_) (fun c_7 => ?_)
    · refine lv_iconst (v := (-1)) hx hb dX8_make_76 (by decide) ?_
      exact ret_i hx hb hr hlocks rfl (u := ()) (by simp [mkS, c_3, c_5, c_7]) (hP.sub [] rfl) (hK.sub [] rfl) (hD.sub [] (by decide) rfl) hS (Nat.le_of_ble_eq_true rfl) (Nat.le_of_ble_eq_true rfl) dX8_make_77
    refine lv_iload hx hb dX8_make_37 (lv_at hl 4 rfl) ?_
    refine go_i (wr := [(h0, .inr (7, [.ref tp, .ref mka, .int 0, .ref bx, .ref rt])), (mka, .inl (cM, 8, .inr (.inr (.inr (.inr mf)))))]) (tysr := [(cM, .object "OneHandset$Make")]) hP hD hS hA hK [] [0, 1] [0] rfl rfl (by decide) (by decide) rfl (va_runS (As := [.int b]) (rest := []) ⟨hx, hb, hml, hown, hts⟩ (c_X8_isNumber l D H.size b ) (va_cwS 1 hts gX8_make_X8_isNumber rfl rfl rfl (by decide +kernel) ⟨Nat.le_of_ble_eq_true rfl, Nat.le_of_ble_eq_true rfl⟩) (st_preS hP hD hK hNW [] [] rfl rfl (by decide) rfl) rfl rfl hl.1 rfl (lv_room (Nat.le_of_ble_eq_true rfl)) dX8_make_39 ⟨(Nat.le_of_ble_eq_true rfl), (Nat.le_of_ble_eq_true rfl)⟩) (fun r_8 u H locs hw hP hD hK hS => ?_)
    have hw : r_8 = wi b 1 9999 := hw
    subst hw
    have hP : va_P D vwCl [(h0, .inr (7, [.ref tp, .ref mka, .int 0, .ref bx, .ref rt])), (mka, .inl (cM, 8, .inr (.inr (.inr (.inr mf)))))] H := hP
    have hD : va_D A [(h0, .inr (7, [.ref tp, .ref mka, .int 0, .ref bx, .ref rt])), (mka, .inl (cM, 8, .inr (.inr (.inr (.inr mf)))))] := hD
    have hK : va_K D vwCl [(cM, .object "OneHandset$Make")] s := hK
    refine lv_if_eq (tgt := 76) hx hb dX8_make_42 (by decide) (fun c_9 => ?_) (fun c_9 => ?_)
    · refine lv_iconst (v := (-1)) hx hb dX8_make_76 (by decide) ?_
      exact ret_i hx hb hr hlocks rfl (u := ()) (by simp [mkS, c_3, c_5, c_7, c_9]) (hP.sub [] rfl) (hK.sub [] rfl) (hD.sub [] (by decide) rfl) hS (Nat.le_of_ble_eq_true rfl) (Nat.le_of_ble_eq_true rfl) dX8_make_77
    refine lv_iload hx hb dX8_make_45 (lv_at hl 5 rfl) ?_
    refine go_i (wr := [(h0, .inr (7, [.ref tp, .ref mka, .int 0, .ref bx, .ref rt])), (mka, .inl (cM, 8, .inr (.inr (.inr (.inr mf)))))]) (tysr := [(cM, .object "OneHandset$Make")]) hP hD hS hA hK [] [0, 1] [0] rfl rfl (by decide) (by decide) rfl (va_runS (As := [.int pp]) (rest := []) ⟨hx, hb, hml, hown, hts⟩ (c_X8_isNumber l D H.size pp ) (va_cwS 1 hts gX8_make_X8_isNumber rfl rfl rfl (by decide +kernel) ⟨Nat.le_of_ble_eq_true rfl, Nat.le_of_ble_eq_true rfl⟩) (st_preS hP hD hK hNW [] [] rfl rfl (by decide) rfl) rfl rfl hl.1 rfl (lv_room (Nat.le_of_ble_eq_true rfl)) dX8_make_47 ⟨(Nat.le_of_ble_eq_true rfl), (Nat.le_of_ble_eq_true rfl)⟩) (fun r_10 u H locs hw hP hD hK hS => ?_)
    have hw : r_10 = wi pp 1 9999 := hw
    subst hw
    have hP : va_P D vwCl [(h0, .inr (7, [.ref tp, .ref mka, .int 0, .ref bx, .ref rt])), (mka, .inl (cM, 8, .inr (.inr (.inr (.inr mf)))))] H := hP
    have hD : va_D A [(h0, .inr (7, [.ref tp, .ref mka, .int 0, .ref bx, .ref rt])), (mka, .inl (cM, 8, .inr (.inr (.inr (.inr mf)))))] := hD
    have hK : va_K D vwCl [(cM, .object "OneHandset$Make")] s := hK
    refine lv_if_eq (tgt := 76) hx hb dX8_make_50 (by decide) (fun c_11 => ?_) (fun c_11 => ?_)
    · refine lv_iconst (v := (-1)) hx hb dX8_make_76 (by decide) ?_
      exact ret_i hx hb hr hlocks rfl (u := ()) (by simp [mkS, c_3, c_5, c_7, c_9, c_11]) (hP.sub [] rfl) (hK.sub [] rfl) (hD.sub [] (by decide) rfl) hS (Nat.le_of_ble_eq_true rfl) (Nat.le_of_ble_eq_true rfl) dX8_make_77
    refine lv_iload hx hb dX8_make_53 (lv_at hl 6 rfl) ?_
    refine go_i (wr := [(h0, .inr (7, [.ref tp, .ref mka, .int 0, .ref bx, .ref rt])), (mka, .inl (cM, 8, .inr (.inr (.inr (.inr mf)))))]) (tysr := [(cM, .object "OneHandset$Make")]) hP hD hS hA hK [] [0, 1] [0] rfl rfl (by decide) (by decide) rfl (va_runS (As := [.int z]) (rest := []) ⟨hx, hb, hml, hown, hts⟩ (c_X8_isNumber l D H.size z ) (va_cwS 1 hts gX8_make_X8_isNumber rfl rfl rfl (by decide +kernel) ⟨Nat.le_of_ble_eq_true rfl, Nat.le_of_ble_eq_true rfl⟩) (st_preS hP hD hK hNW [] [] rfl rfl (by decide) rfl) rfl rfl hl.1 rfl (lv_room (Nat.le_of_ble_eq_true rfl)) dX8_make_55 ⟨(Nat.le_of_ble_eq_true rfl), (Nat.le_of_ble_eq_true rfl)⟩) (fun r_12 u H locs hw hP hD hK hS => ?_)
    have hw : r_12 = wi z 1 9999 := hw
    subst hw
    have hP : va_P D vwCl [(h0, .inr (7, [.ref tp, .ref mka, .int 0, .ref bx, .ref rt])), (mka, .inl (cM, 8, .inr (.inr (.inr (.inr mf)))))] H := hP
    have hD : va_D A [(h0, .inr (7, [.ref tp, .ref mka, .int 0, .ref bx, .ref rt])), (mka, .inl (cM, 8, .inr (.inr (.inr (.inr mf)))))] := hD
    have hK : va_K D vwCl [(cM, .object "OneHandset$Make")] s := hK
    refine lv_if_eq (tgt := 76) hx hb dX8_make_58 (by decide) (fun c_13 => ?_) (fun c_13 => ?_)
    · refine lv_iconst (v := (-1)) hx hb dX8_make_76 (by decide) ?_
      exact ret_i hx hb hr hlocks rfl (u := ()) (by simp [mkS, c_3, c_5, c_7, c_9, c_11, c_13]) (hP.sub [] rfl) (hK.sub [] rfl) (hD.sub [] (by decide) rfl) hS (Nat.le_of_ble_eq_true rfl) (Nat.le_of_ble_eq_true rfl) dX8_make_77
    refine lv_iload hx hb dX8_make_61 (lv_at hl 7 rfl) ?_
    refine go_i (wr := [(h0, .inr (7, [.ref tp, .ref mka, .int 0, .ref bx, .ref rt])), (mka, .inl (cM, 8, .inr (.inr (.inr (.inr mf)))))]) (tysr := [(cM, .object "OneHandset$Make")]) hP hD hS hA hK [] [0, 1] [0] rfl rfl (by decide) (by decide) rfl (va_runS (As := [.int o]) (rest := []) ⟨hx, hb, hml, hown, hts⟩ (c_X8_isNumber l D H.size o ) (va_cwS 1 hts gX8_make_X8_isNumber rfl rfl rfl (by decide +kernel) ⟨Nat.le_of_ble_eq_true rfl, Nat.le_of_ble_eq_true rfl⟩) (st_preS hP hD hK hNW [] [] rfl rfl (by decide) rfl) rfl rfl hl.1 rfl (lv_room (Nat.le_of_ble_eq_true rfl)) dX8_make_63 ⟨(Nat.le_of_ble_eq_true rfl), (Nat.le_of_ble_eq_true rfl)⟩) (fun r_14 u H locs hw hP hD hK hS => ?_)
    have hw : r_14 = wi o 1 9999 := hw
    subst hw
    have hP : va_P D vwCl [(h0, .inr (7, [.ref tp, .ref mka, .int 0, .ref bx, .ref rt])), (mka, .inl (cM, 8, .inr (.inr (.inr (.inr mf)))))] H := hP
    have hD : va_D A [(h0, .inr (7, [.ref tp, .ref mka, .int 0, .ref bx, .ref rt])), (mka, .inl (cM, 8, .inr (.inr (.inr (.inr mf)))))] := hD
    have hK : va_K D vwCl [(cM, .object "OneHandset$Make")] s := hK
    refine lv_if_eq (tgt := 76) hx hb dX8_make_66 (by decide) (fun c_15 => ?_) (fun c_15 => ?_)
    · refine lv_iconst (v := (-1)) hx hb dX8_make_76 (by decide) ?_
      exact ret_i hx hb hr hlocks rfl (u := ()) (by simp [mkS, c_3, c_5, c_7, c_9, c_11, c_13, c_15]) (hP.sub [] rfl) (hK.sub [] rfl) (hD.sub [] (by decide) rfl) hS (Nat.le_of_ble_eq_true rfl) (Nat.le_of_ble_eq_true rfl) dX8_make_77
    refine lv_iload hx hb dX8_make_69 (lv_at hl 6 rfl) ?_
    refine lv_iload hx hb dX8_make_71 (lv_at hl 7 rfl) ?_
    refine lv_icmp_ne (tgt := 78) hx hb dX8_make_73 (by decide) (fun c_16 => ?_) (fun c_16 => ?_)
    · refine lv_iload_n hx hb dX8_make_78 rfl (lv_at hl 1 rfl) ?_
      refine lv_iconst (v := 2) hx hb dX8_make_79 (by decide) ?_
      refine lv_icmp_ne (tgt := 96) hx hb dX8_make_80 (by decide) (fun c_17 => ?_) (fun c_17 => ?_)
      · refine va_new (ci := 4) (fs := [.int 0, .int 0, .int 0, .int 0, .int 0, .int 0, .int 0, .int 0]) (C := RX5) (T := TX5) (N := 8) hx hb hts hiX8_make_X5 tyX5 tyX5_ok hown (hts (.classLink RX8 53 RX5) (List.mem_of_getElem? (i := 5) rfl)) (hts (.instantiable RX5 8) (List.mem_of_getElem? (i := 6) rfl)) (hts (.initialized RX5) (List.mem_of_getElem? (i := 7) rfl)) hK hP hD hS hA rfl (fun j hj => by rcases (show j = 0 ∨ j = 1 ∨ j = 2 ∨ j = 3 ∨ j = 4 ∨ j = 5 ∨ j = 6 ∨ j = 7 by omega) with rfl | rfl | rfl | rfl | rfl | rfl | rfl | rfl <;> rfl) (Nat.le_of_ble_eq_true rfl) (Nat.le_of_ble_eq_true rfl) dX8_make_96 (fun q_18 H hP hD hS => ?_)
        have hP : va_P D vwCl [(h0, .inr (7, [.ref tp, .ref mka, .int 0, .ref bx, .ref rt])), (mka, .inl (cM, 8, .inr (.inr (.inr (.inr mf))))), (q_18, .inr (4, [.int 0, .int 0, .int 0, .int 0, .int 0, .int 0, .int 0, .int 0]))] H := hP
        have hD : va_D A [(h0, .inr (7, [.ref tp, .ref mka, .int 0, .ref bx, .ref rt])), (mka, .inl (cM, 8, .inr (.inr (.inr (.inr mf))))), (q_18, .inr (4, [.int 0, .int 0, .int 0, .int 0, .int 0, .int 0, .int 0, .int 0]))] := hD
        refine lv_dup hx hb dX8_make_99 rfl ?_
        refine lv_iload_n hx hb dX8_make_100 rfl (lv_at hl 1 rfl) ?_
        refine lv_iconst (v := 1) hx hb dX8_make_101 (by decide) ?_
        refine lv_icmp_ne (tgt := 109) hx hb dX8_make_102 (by decide) (fun c_19 => ?_) (fun c_19 => ?_)
        · refine lv_iconst (v := 0) hx hb dX8_make_109 (by decide) ?_
          refine lv_iload_n hx hb dX8_make_110 rfl (lv_at hl 2 rfl) ?_
          refine lv_iload_n hx hb dX8_make_111 rfl (lv_at hl 3 rfl) ?_
          refine lv_iload hx hb dX8_make_112 (lv_at hl 4 rfl) ?_
          refine lv_iload hx hb dX8_make_114 (lv_at hl 5 rfl) ?_
          refine lv_iload hx hb dX8_make_116 (lv_at hl 6 rfl) ?_
          refine lv_iload hx hb dX8_make_118 (lv_at hl 7 rfl) ?_
          refine go_v (wr := [(h0, .inr (7, [.ref tp, .ref mka, .int 0, .ref bx, .ref rt])), (mka, .inl (cM, 8, .inr (.inr (.inr (.inr mf)))))]) (tysr := [(cM, .object "OneHandset$Make")]) hP hD hS hA hK [2] [0, 1] [0] rfl rfl (by decide) (by decide) rfl (va_runI (As := [.int 0, .int n, .int a, .int b, .int pp, .int z, .int o]) (rest := [.ref q_18]) ⟨hx, hb, hml, hown, hts⟩ (c_X5_init0 l D H.size q_18 n a b pp z o ) (cwI 7 hts gX8_make_X5_init rfl rfl rfl (hts (.initialized RX5) (List.mem_of_getElem? (i := 7) rfl)) (hts (.methodLink RX8 55 yX5_init) (List.mem_of_getElem? (i := 30) rfl)) (hts (.instanceMethod yX5_init) (List.mem_of_getElem? (i := 31) rfl)) rfl (by decide +kernel) ⟨Nat.le_of_ble_eq_true rfl, Nat.le_of_ble_eq_true rfl⟩) (st_preS hP hD hK hNW [2] [] rfl rfl (by decide) rfl) rfl rfl hl.1 rfl (lv_room (Nat.le_of_ble_eq_true rfl)) dX8_make_120 ⟨(Nat.le_of_ble_eq_true rfl), (Nat.le_of_ble_eq_true rfl)⟩) (fun u H locs hw hP hD hK hS => ?_)
          have hP : va_P D vwCl [(h0, .inr (7, [.ref tp, .ref mka, .int 0, .ref bx, .ref rt])), (mka, .inl (cM, 8, .inr (.inr (.inr (.inr mf)))))] H := hP
          have hD : va_D A [(h0, .inr (7, [.ref tp, .ref mka, .int 0, .ref bx, .ref rt])), (mka, .inl (cM, 8, .inr (.inr (.inr (.inr mf)))))] := hD
          have hK : va_K D vwCl [(cM, .object "OneHandset$Make")] s := hK
          refine lv_astore (lv' := [(8, .ref q_18), (0, .ref h0), (1, .int k), (2, .int n), (3, .int a), (4, .int b), (5, .int pp), (6, .int z), (7, .int o)]) hx hb dX8_make_123 hl (by decide) rfl (fun ls hl => ?_)
          refine lv_aload_n hx hb dX8_make_125 rfl (lv_at hl 1 rfl) ?_
          refine va_get (D := D) (ci := 7) (v := .ref mka) (C := RX8) (T := TX8) (N := 5) hx hb hts hiX8_make_X8 hown hK hP 0 rfl rfl 1 (by decide) (hts (.fieldLink RX8 18 "OneHandset" "makes" "[LOneHandset$Make;") (List.mem_of_getElem? (i := 8) rfl)) (fun _ h9 => h9) rfl dX8_make_126 ?_
          refine lv_aload_n hx hb dX8_make_129 rfl (lv_at hl 1 rfl) ?_
          refine va_get (D := D) (ci := 7) (v := .int 0) (C := RX8) (T := TX8) (N := 5) hx hb hts hiX8_make_X8 hown hK hP 0 rfl rfl 2 (by decide) (hts (.fieldLink RX8 22 "OneHandset" "makeCount" "I") (List.mem_of_getElem? (i := 1) rfl)) (fun _ h9 => h9) rfl dX8_make_130 ?_
          refine va_new (ci := 3) (fs := [.int 0, .int 0, .null, .null, .int 0]) (C := RX4) (T := TX4) (N := 5) hx hb hts hiX8_make_X4 tyX4 tyX4_ok hown (hts (.classLink RX8 16 RX4) (List.mem_of_getElem? (i := 9) rfl)) (hts (.instantiable RX4 5) (List.mem_of_getElem? (i := 10) rfl)) (hts (.initialized RX4) (List.mem_of_getElem? (i := 11) rfl)) hK hP hD hS hA rfl (fun j hj => by rcases (show j = 0 ∨ j = 1 ∨ j = 2 ∨ j = 3 ∨ j = 4 by omega) with rfl | rfl | rfl | rfl | rfl <;> rfl) (Nat.le_of_ble_eq_true rfl) (Nat.le_of_ble_eq_true rfl) dX8_make_133 (fun q_21 H hP hD hS => ?_)
          have hP : va_P D vwCl [(h0, .inr (7, [.ref tp, .ref mka, .int 0, .ref bx, .ref rt])), (mka, .inl (cM, 8, .inr (.inr (.inr (.inr mf))))), (q_21, .inr (3, [.int 0, .int 0, .null, .null, .int 0]))] H := hP
          have hD : va_D A [(h0, .inr (7, [.ref tp, .ref mka, .int 0, .ref bx, .ref rt])), (mka, .inl (cM, 8, .inr (.inr (.inr (.inr mf))))), (q_21, .inr (3, [.int 0, .int 0, .null, .null, .int 0]))] := hD
          refine lv_dup hx hb dX8_make_136 rfl ?_
          refine lv_iload_n hx hb dX8_make_137 rfl (lv_at hl 2 rfl) ?_
          refine lv_iload_n hx hb dX8_make_138 rfl (lv_at hl 3 rfl) ?_
          refine lv_aload hx hb dX8_make_139 (lv_at hl 0 rfl) ?_
          refine go_v (wr := [(h0, .inr (7, [.ref tp, .ref mka, .int 0, .ref bx, .ref rt])), (mka, .inl (cM, 8, .inr (.inr (.inr (.inr mf)))))]) (tysr := [(cM, .object "OneHandset$Make")]) hP hD hS hA hK [2] [0, 1] [0] rfl rfl (by decide) (by decide) rfl (va_runI (As := [.int k, .int n, .ref q_18]) (rest := [.ref q_21, .int 0, .ref mka]) ⟨hx, hb, hml, hown, hts⟩ (c_X4_init l D H.size q_21 q_18 k n ) (cwI 3 hts gX8_make_X4_init rfl rfl rfl (hts (.initialized RX4) (List.mem_of_getElem? (i := 11) rfl)) (hts (.methodLink RX8 58 yX4_init) (List.mem_of_getElem? (i := 41) rfl)) (hts (.instanceMethod yX4_init) (List.mem_of_getElem? (i := 42) rfl)) rfl (by decide +kernel) ⟨Nat.le_of_ble_eq_true rfl, Nat.le_of_ble_eq_true rfl⟩) (st_preS hP hD hK hNW [2] [] rfl rfl (by decide) rfl) rfl rfl hl.1 rfl (lv_room (Nat.le_of_ble_eq_true rfl)) dX8_make_141 ⟨(Nat.le_of_ble_eq_true rfl), (Nat.le_of_ble_eq_true rfl)⟩) (fun u H locs hw hP hD hK hS => ?_)
          obtain ⟨ky_23, rfl⟩ : ∃ z, z = u := ⟨_, rfl⟩
          have hP : va_P D vwCl [(h0, .inr (7, [.ref tp, .ref mka, .int 0, .ref bx, .ref rt])), (mka, .inl (cM, 8, .inr (.inr (.inr (.inr mf))))), (q_21, .inr (3, [.int k, .int n, .ref q_18, .ref ky_23, .int 20]))] H := hP
          have hD : va_D A [(h0, .inr (7, [.ref tp, .ref mka, .int 0, .ref bx, .ref rt])), (mka, .inl (cM, 8, .inr (.inr (.inr (.inr mf))))), (q_21, .inr (3, [.int k, .int n, .ref q_18, .ref ky_23, .int 20]))] := hD
          have hK : va_K D vwCl [(cM, .object "OneHandset$Make")] s := hK
          refine va_astq hx hb hK hP hD hS 1 0 2 3 rfl rfl rfl rfl (vin (by decide)) dX8_make_144 (fun H locs hP hD hS => ?_)
          have hP : va_P D vwCl [(h0, .inr (7, [.ref tp, .ref mka, .int 0, .ref bx, .ref rt])), (mka, .inl (cM, 8, .inr (.inr (.inr (.inr (va_up mf 0 (some q_21))))))), (q_21, .inr (3, [.int k, .int n, .ref q_18, .ref ky_23, .int 20]))] H := hP
          have hD : va_D A [(h0, .inr (7, [.ref tp, .ref mka, .int 0, .ref bx, .ref rt])), (mka, .inl (cM, 8, .inr (.inr (.inr (.inr (va_up mf 0 (some q_21))))))), (q_21, .inr (3, [.int k, .int n, .ref q_18, .ref ky_23, .int 20]))] := hD
          refine lv_aload_n hx hb dX8_make_145 rfl (lv_at hl 1 rfl) ?_
          refine lv_dup hx hb dX8_make_146 rfl ?_
          refine va_get (D := D) (ci := 7) (v := .int 0) (C := RX8) (T := TX8) (N := 5) hx hb hts hiX8_make_X8 hown hK hP 0 rfl rfl 2 (by decide) (hts (.fieldLink RX8 22 "OneHandset" "makeCount" "I") (List.mem_of_getElem? (i := 1) rfl)) (fun _ h9 => h9) rfl dX8_make_147 ?_
          refine lv_iconst (v := 1) hx hb dX8_make_150 (by decide) ?_
          refine lv_iadd hx hb dX8_make_151 ?_
          refine lv_topi (fun v_24 ev_24 => ?_)
          obtain rfl : v_24 = (1 : Int32) := ev_24.trans (by decide)
          refine va_put (D := D) (ci := 7) (v := .int 1) (ty := .int) (C := RX8) (T := TX8) (N := 5) hx hb hts hiX8_make_X8 tyX8 tyX8_ok nmX8 hown hK hP hD hS 0 rfl rfl 2 (by decide) (hts (.fieldLink RX8 22 "OneHandset" "makeCount" "I") (List.mem_of_getElem? (i := 1) rfl)) (fun _ h9 => h9) rfl (by decide +kernel) rfl rfl (Nat.le_of_ble_eq_true rfl) dX8_make_152 (fun H locs hP hD hS => ?_)
          have hP : va_P D vwCl [(h0, .inr (7, [.ref tp, .ref mka, .int 1, .ref bx, .ref rt])), (mka, .inl (cM, 8, .inr (.inr (.inr (.inr (va_up mf 0 (some q_21))))))), (q_21, .inr (3, [.int k, .int n, .ref q_18, .ref ky_23, .int 20]))] H := hP
          have hD : va_D A [(h0, .inr (7, [.ref tp, .ref mka, .int 1, .ref bx, .ref rt])), (mka, .inl (cM, 8, .inr (.inr (.inr (.inr (va_up mf 0 (some q_21))))))), (q_21, .inr (3, [.int k, .int n, .ref q_18, .ref ky_23, .int 20]))] := hD
          refine lv_aload_n hx hb dX8_make_155 rfl (lv_at hl 1 rfl) ?_
          refine va_get (D := D) (ci := 7) (v := .int 1) (C := RX8) (T := TX8) (N := 5) hx hb hts hiX8_make_X8 hown hK hP 0 rfl rfl 2 (by decide) (hts (.fieldLink RX8 22 "OneHandset" "makeCount" "I") (List.mem_of_getElem? (i := 1) rfl)) (fun _ h9 => h9) rfl dX8_make_156 ?_
          refine lv_iconst (v := 1) hx hb dX8_make_159 (by decide) ?_
          refine lv_isub hx hb dX8_make_160 ?_
          refine lv_topi (fun v_25 ev_25 => ?_)
          obtain rfl : v_25 = (0 : Int32) := ev_25.trans (by decide)
          exact ret_i hx hb hr hlocks rfl (u := ()) (by simp [mkS, c_3, c_5, c_7, c_9, c_11, c_13, c_15, c_16]) (hP.sub [] rfl) (hK.sub [] rfl) (hD.sub [] (by decide) rfl) hS (Nat.le_of_ble_eq_true rfl) (Nat.le_of_ble_eq_true rfl) dX8_make_161
        refine lv_iconst (v := 1) hx hb dX8_make_105 (by decide) ?_
        refine lv_goto (tgt := 110) hx hb dX8_make_106 (by decide) ?_
        refine lv_iload_n hx hb dX8_make_110 rfl (lv_at hl 2 rfl) ?_
        refine lv_iload_n hx hb dX8_make_111 rfl (lv_at hl 3 rfl) ?_
        refine lv_iload hx hb dX8_make_112 (lv_at hl 4 rfl) ?_
        refine lv_iload hx hb dX8_make_114 (lv_at hl 5 rfl) ?_
        refine lv_iload hx hb dX8_make_116 (lv_at hl 6 rfl) ?_
        refine lv_iload hx hb dX8_make_118 (lv_at hl 7 rfl) ?_
        refine go_v (wr := [(h0, .inr (7, [.ref tp, .ref mka, .int 0, .ref bx, .ref rt])), (mka, .inl (cM, 8, .inr (.inr (.inr (.inr mf)))))]) (tysr := [(cM, .object "OneHandset$Make")]) hP hD hS hA hK [2] [0, 1] [0] rfl rfl (by decide) (by decide) rfl (va_runI (As := [.int 1, .int n, .int a, .int b, .int pp, .int z, .int o]) (rest := [.ref q_18]) ⟨hx, hb, hml, hown, hts⟩ (c_X5_init1 l D H.size q_18 n a b pp z o ) (cwI 7 hts gX8_make_X5_init rfl rfl rfl (hts (.initialized RX5) (List.mem_of_getElem? (i := 7) rfl)) (hts (.methodLink RX8 55 yX5_init) (List.mem_of_getElem? (i := 30) rfl)) (hts (.instanceMethod yX5_init) (List.mem_of_getElem? (i := 31) rfl)) rfl (by decide +kernel) ⟨Nat.le_of_ble_eq_true rfl, Nat.le_of_ble_eq_true rfl⟩) (st_preS hP hD hK hNW [2] [] rfl rfl (by decide) rfl) rfl rfl hl.1 rfl (lv_room (Nat.le_of_ble_eq_true rfl)) dX8_make_120 ⟨(Nat.le_of_ble_eq_true rfl), (Nat.le_of_ble_eq_true rfl)⟩) (fun u H locs hw hP hD hK hS => ?_)
        have hP : va_P D vwCl [(h0, .inr (7, [.ref tp, .ref mka, .int 0, .ref bx, .ref rt])), (mka, .inl (cM, 8, .inr (.inr (.inr (.inr mf)))))] H := hP
        have hD : va_D A [(h0, .inr (7, [.ref tp, .ref mka, .int 0, .ref bx, .ref rt])), (mka, .inl (cM, 8, .inr (.inr (.inr (.inr mf)))))] := hD
        have hK : va_K D vwCl [(cM, .object "OneHandset$Make")] s := hK
        refine lv_astore (lv' := [(8, .ref q_18), (0, .ref h0), (1, .int k), (2, .int n), (3, .int a), (4, .int b), (5, .int pp), (6, .int z), (7, .int o)]) hx hb dX8_make_123 hl (by decide) rfl (fun ls hl => ?_)
        refine lv_aload_n hx hb dX8_make_125 rfl (lv_at hl 1 rfl) ?_
        refine va_get (D := D) (ci := 7) (v := .ref mka) (C := RX8) (T := TX8) (N := 5) hx hb hts hiX8_make_X8 hown hK hP 0 rfl rfl 1 (by decide) (hts (.fieldLink RX8 18 "OneHandset" "makes" "[LOneHandset$Make;") (List.mem_of_getElem? (i := 8) rfl)) (fun _ h9 => h9) rfl dX8_make_126 ?_
        refine lv_aload_n hx hb dX8_make_129 rfl (lv_at hl 1 rfl) ?_
        refine va_get (D := D) (ci := 7) (v := .int 0) (C := RX8) (T := TX8) (N := 5) hx hb hts hiX8_make_X8 hown hK hP 0 rfl rfl 2 (by decide) (hts (.fieldLink RX8 22 "OneHandset" "makeCount" "I") (List.mem_of_getElem? (i := 1) rfl)) (fun _ h9 => h9) rfl dX8_make_130 ?_
        refine va_new (ci := 3) (fs := [.int 0, .int 0, .null, .null, .int 0]) (C := RX4) (T := TX4) (N := 5) hx hb hts hiX8_make_X4 tyX4 tyX4_ok hown (hts (.classLink RX8 16 RX4) (List.mem_of_getElem? (i := 9) rfl)) (hts (.instantiable RX4 5) (List.mem_of_getElem? (i := 10) rfl)) (hts (.initialized RX4) (List.mem_of_getElem? (i := 11) rfl)) hK hP hD hS hA rfl (fun j hj => by rcases (show j = 0 ∨ j = 1 ∨ j = 2 ∨ j = 3 ∨ j = 4 by omega) with rfl | rfl | rfl | rfl | rfl <;> rfl) (Nat.le_of_ble_eq_true rfl) (Nat.le_of_ble_eq_true rfl) dX8_make_133 (fun q_27 H hP hD hS => ?_)
        have hP : va_P D vwCl [(h0, .inr (7, [.ref tp, .ref mka, .int 0, .ref bx, .ref rt])), (mka, .inl (cM, 8, .inr (.inr (.inr (.inr mf))))), (q_27, .inr (3, [.int 0, .int 0, .null, .null, .int 0]))] H := hP
        have hD : va_D A [(h0, .inr (7, [.ref tp, .ref mka, .int 0, .ref bx, .ref rt])), (mka, .inl (cM, 8, .inr (.inr (.inr (.inr mf))))), (q_27, .inr (3, [.int 0, .int 0, .null, .null, .int 0]))] := hD
        refine lv_dup hx hb dX8_make_136 rfl ?_
        refine lv_iload_n hx hb dX8_make_137 rfl (lv_at hl 2 rfl) ?_
        refine lv_iload_n hx hb dX8_make_138 rfl (lv_at hl 3 rfl) ?_
        refine lv_aload hx hb dX8_make_139 (lv_at hl 0 rfl) ?_
        refine go_v (wr := [(h0, .inr (7, [.ref tp, .ref mka, .int 0, .ref bx, .ref rt])), (mka, .inl (cM, 8, .inr (.inr (.inr (.inr mf)))))]) (tysr := [(cM, .object "OneHandset$Make")]) hP hD hS hA hK [2] [0, 1] [0] rfl rfl (by decide) (by decide) rfl (va_runI (As := [.int k, .int n, .ref q_18]) (rest := [.ref q_27, .int 0, .ref mka]) ⟨hx, hb, hml, hown, hts⟩ (c_X4_init l D H.size q_27 q_18 k n ) (cwI 3 hts gX8_make_X4_init rfl rfl rfl (hts (.initialized RX4) (List.mem_of_getElem? (i := 11) rfl)) (hts (.methodLink RX8 58 yX4_init) (List.mem_of_getElem? (i := 41) rfl)) (hts (.instanceMethod yX4_init) (List.mem_of_getElem? (i := 42) rfl)) rfl (by decide +kernel) ⟨Nat.le_of_ble_eq_true rfl, Nat.le_of_ble_eq_true rfl⟩) (st_preS hP hD hK hNW [2] [] rfl rfl (by decide) rfl) rfl rfl hl.1 rfl (lv_room (Nat.le_of_ble_eq_true rfl)) dX8_make_141 ⟨(Nat.le_of_ble_eq_true rfl), (Nat.le_of_ble_eq_true rfl)⟩) (fun u H locs hw hP hD hK hS => ?_)
        obtain ⟨ky_29, rfl⟩ : ∃ z, z = u := ⟨_, rfl⟩
        have hP : va_P D vwCl [(h0, .inr (7, [.ref tp, .ref mka, .int 0, .ref bx, .ref rt])), (mka, .inl (cM, 8, .inr (.inr (.inr (.inr mf))))), (q_27, .inr (3, [.int k, .int n, .ref q_18, .ref ky_29, .int 20]))] H := hP
        have hD : va_D A [(h0, .inr (7, [.ref tp, .ref mka, .int 0, .ref bx, .ref rt])), (mka, .inl (cM, 8, .inr (.inr (.inr (.inr mf))))), (q_27, .inr (3, [.int k, .int n, .ref q_18, .ref ky_29, .int 20]))] := hD
        have hK : va_K D vwCl [(cM, .object "OneHandset$Make")] s := hK
        refine va_astq hx hb hK hP hD hS 1 0 2 3 rfl rfl rfl rfl (vin (by decide)) dX8_make_144 (fun H locs hP hD hS => ?_)
        have hP : va_P D vwCl [(h0, .inr (7, [.ref tp, .ref mka, .int 0, .ref bx, .ref rt])), (mka, .inl (cM, 8, .inr (.inr (.inr (.inr (va_up mf 0 (some q_27))))))), (q_27, .inr (3, [.int k, .int n, .ref q_18, .ref ky_29, .int 20]))] H := hP
        have hD : va_D A [(h0, .inr (7, [.ref tp, .ref mka, .int 0, .ref bx, .ref rt])), (mka, .inl (cM, 8, .inr (.inr (.inr (.inr (va_up mf 0 (some q_27))))))), (q_27, .inr (3, [.int k, .int n, .ref q_18, .ref ky_29, .int 20]))] := hD
        refine lv_aload_n hx hb dX8_make_145 rfl (lv_at hl 1 rfl) ?_
        refine lv_dup hx hb dX8_make_146 rfl ?_
        refine va_get (D := D) (ci := 7) (v := .int 0) (C := RX8) (T := TX8) (N := 5) hx hb hts hiX8_make_X8 hown hK hP 0 rfl rfl 2 (by decide) (hts (.fieldLink RX8 22 "OneHandset" "makeCount" "I") (List.mem_of_getElem? (i := 1) rfl)) (fun _ h9 => h9) rfl dX8_make_147 ?_
        refine lv_iconst (v := 1) hx hb dX8_make_150 (by decide) ?_
        refine lv_iadd hx hb dX8_make_151 ?_
        refine lv_topi (fun v_30 ev_30 => ?_)
        obtain rfl : v_30 = (1 : Int32) := ev_30.trans (by decide)
        refine va_put (D := D) (ci := 7) (v := .int 1) (ty := .int) (C := RX8) (T := TX8) (N := 5) hx hb hts hiX8_make_X8 tyX8 tyX8_ok nmX8 hown hK hP hD hS 0 rfl rfl 2 (by decide) (hts (.fieldLink RX8 22 "OneHandset" "makeCount" "I") (List.mem_of_getElem? (i := 1) rfl)) (fun _ h9 => h9) rfl (by decide +kernel) rfl rfl (Nat.le_of_ble_eq_true rfl) dX8_make_152 (fun H locs hP hD hS => ?_)
        have hP : va_P D vwCl [(h0, .inr (7, [.ref tp, .ref mka, .int 1, .ref bx, .ref rt])), (mka, .inl (cM, 8, .inr (.inr (.inr (.inr (va_up mf 0 (some q_27))))))), (q_27, .inr (3, [.int k, .int n, .ref q_18, .ref ky_29, .int 20]))] H := hP
        have hD : va_D A [(h0, .inr (7, [.ref tp, .ref mka, .int 1, .ref bx, .ref rt])), (mka, .inl (cM, 8, .inr (.inr (.inr (.inr (va_up mf 0 (some q_27))))))), (q_27, .inr (3, [.int k, .int n, .ref q_18, .ref ky_29, .int 20]))] := hD
        refine lv_aload_n hx hb dX8_make_155 rfl (lv_at hl 1 rfl) ?_
        refine va_get (D := D) (ci := 7) (v := .int 1) (C := RX8) (T := TX8) (N := 5) hx hb hts hiX8_make_X8 hown hK hP 0 rfl rfl 2 (by decide) (hts (.fieldLink RX8 22 "OneHandset" "makeCount" "I") (List.mem_of_getElem? (i := 1) rfl)) (fun _ h9 => h9) rfl dX8_make_156 ?_
        refine lv_iconst (v := 1) hx hb dX8_make_159 (by decide) ?_
        refine lv_isub hx hb dX8_make_160 ?_
        refine lv_topi (fun v_31 ev_31 => ?_)
        obtain rfl : v_31 = (0 : Int32) := ev_31.trans (by decide)
        exact ret_i hx hb hr hlocks rfl (u := ()) (by simp [mkS, c_3, c_5, c_7, c_9, c_11, c_13, c_15, c_16]) (hP.sub [] rfl) (hK.sub [] rfl) (hD.sub [] (by decide) rfl) hS (Nat.le_of_ble_eq_true rfl) (Nat.le_of_ble_eq_true rfl) dX8_make_161
      refine va_new (ci := 1) (fs := [.int 0, .int 0]) (C := RX2) (T := TX2) (N := 2) hx hb hts hiX8_make_X2 tyX2 tyX2_ok hown (hts (.classLink RX8 48 RX2) (List.mem_of_getElem? (i := 2) rfl)) (hts (.instantiable RX2 2) (List.mem_of_getElem? (i := 3) rfl)) (hts (.initialized RX2) (List.mem_of_getElem? (i := 4) rfl)) hK hP hD hS hA rfl (fun j hj => by rcases (show j = 0 ∨ j = 1 by omega) with rfl | rfl <;> rfl) (Nat.le_of_ble_eq_true rfl) (Nat.le_of_ble_eq_true rfl) dX8_make_83 (fun q_32 H hP hD hS => ?_)
      have hP : va_P D vwCl [(h0, .inr (7, [.ref tp, .ref mka, .int 0, .ref bx, .ref rt])), (mka, .inl (cM, 8, .inr (.inr (.inr (.inr mf))))), (q_32, .inr (1, [.int 0, .int 0]))] H := hP
      have hD : va_D A [(h0, .inr (7, [.ref tp, .ref mka, .int 0, .ref bx, .ref rt])), (mka, .inl (cM, 8, .inr (.inr (.inr (.inr mf))))), (q_32, .inr (1, [.int 0, .int 0]))] := hD
      refine lv_dup hx hb dX8_make_86 rfl ?_
      refine lv_iload_n hx hb dX8_make_87 rfl (lv_at hl 2 rfl) ?_
      refine lv_iload hx hb dX8_make_88 (lv_at hl 5 rfl) ?_
      refine go_v (wr := [(h0, .inr (7, [.ref tp, .ref mka, .int 0, .ref bx, .ref rt])), (mka, .inl (cM, 8, .inr (.inr (.inr (.inr mf)))))]) (tysr := [(cM, .object "OneHandset$Make")]) hP hD hS hA hK [2] [0, 1] [0] rfl rfl (by decide) (by decide) rfl (va_runI (As := [.int n, .int pp]) (rest := [.ref q_32]) ⟨hx, hb, hml, hown, hts⟩ (c_X2_init l D H.size q_32 n pp ) (cwI 2 hts gX8_make_X2_init rfl rfl rfl (hts (.initialized RX2) (List.mem_of_getElem? (i := 4) rfl)) (hts (.methodLink RX8 50 yX2_init) (List.mem_of_getElem? (i := 19) rfl)) (hts (.instanceMethod yX2_init) (List.mem_of_getElem? (i := 20) rfl)) rfl (by decide +kernel) ⟨Nat.le_of_ble_eq_true rfl, Nat.le_of_ble_eq_true rfl⟩) (st_preS hP hD hK hNW [2] [] rfl rfl (by decide) rfl) rfl rfl hl.1 rfl (lv_room (Nat.le_of_ble_eq_true rfl)) dX8_make_90 ⟨(Nat.le_of_ble_eq_true rfl), (Nat.le_of_ble_eq_true rfl)⟩) (fun u H locs hw hP hD hK hS => ?_)
      have hP : va_P D vwCl [(h0, .inr (7, [.ref tp, .ref mka, .int 0, .ref bx, .ref rt])), (mka, .inl (cM, 8, .inr (.inr (.inr (.inr mf)))))] H := hP
      have hD : va_D A [(h0, .inr (7, [.ref tp, .ref mka, .int 0, .ref bx, .ref rt])), (mka, .inl (cM, 8, .inr (.inr (.inr (.inr mf)))))] := hD
      have hK : va_K D vwCl [(cM, .object "OneHandset$Make")] s := hK
      refine lv_goto (tgt := 123) hx hb dX8_make_93 (by decide) ?_
      refine lv_astore (lv' := [(8, .ref q_32), (0, .ref h0), (1, .int k), (2, .int n), (3, .int a), (4, .int b), (5, .int pp), (6, .int z), (7, .int o)]) hx hb dX8_make_123 hl (by decide) rfl (fun ls hl => ?_)
      refine lv_aload_n hx hb dX8_make_125 rfl (lv_at hl 1 rfl) ?_
      refine va_get (D := D) (ci := 7) (v := .ref mka) (C := RX8) (T := TX8) (N := 5) hx hb hts hiX8_make_X8 hown hK hP 0 rfl rfl 1 (by decide) (hts (.fieldLink RX8 18 "OneHandset" "makes" "[LOneHandset$Make;") (List.mem_of_getElem? (i := 8) rfl)) (fun _ h9 => h9) rfl dX8_make_126 ?_
      refine lv_aload_n hx hb dX8_make_129 rfl (lv_at hl 1 rfl) ?_
      refine va_get (D := D) (ci := 7) (v := .int 0) (C := RX8) (T := TX8) (N := 5) hx hb hts hiX8_make_X8 hown hK hP 0 rfl rfl 2 (by decide) (hts (.fieldLink RX8 22 "OneHandset" "makeCount" "I") (List.mem_of_getElem? (i := 1) rfl)) (fun _ h9 => h9) rfl dX8_make_130 ?_
      refine va_new (ci := 3) (fs := [.int 0, .int 0, .null, .null, .int 0]) (C := RX4) (T := TX4) (N := 5) hx hb hts hiX8_make_X4 tyX4 tyX4_ok hown (hts (.classLink RX8 16 RX4) (List.mem_of_getElem? (i := 9) rfl)) (hts (.instantiable RX4 5) (List.mem_of_getElem? (i := 10) rfl)) (hts (.initialized RX4) (List.mem_of_getElem? (i := 11) rfl)) hK hP hD hS hA rfl (fun j hj => by rcases (show j = 0 ∨ j = 1 ∨ j = 2 ∨ j = 3 ∨ j = 4 by omega) with rfl | rfl | rfl | rfl | rfl <;> rfl) (Nat.le_of_ble_eq_true rfl) (Nat.le_of_ble_eq_true rfl) dX8_make_133 (fun q_34 H hP hD hS => ?_)
      have hP : va_P D vwCl [(h0, .inr (7, [.ref tp, .ref mka, .int 0, .ref bx, .ref rt])), (mka, .inl (cM, 8, .inr (.inr (.inr (.inr mf))))), (q_34, .inr (3, [.int 0, .int 0, .null, .null, .int 0]))] H := hP
      have hD : va_D A [(h0, .inr (7, [.ref tp, .ref mka, .int 0, .ref bx, .ref rt])), (mka, .inl (cM, 8, .inr (.inr (.inr (.inr mf))))), (q_34, .inr (3, [.int 0, .int 0, .null, .null, .int 0]))] := hD
      refine lv_dup hx hb dX8_make_136 rfl ?_
      refine lv_iload_n hx hb dX8_make_137 rfl (lv_at hl 2 rfl) ?_
      refine lv_iload_n hx hb dX8_make_138 rfl (lv_at hl 3 rfl) ?_
      refine lv_aload hx hb dX8_make_139 (lv_at hl 0 rfl) ?_
      refine go_v (wr := [(h0, .inr (7, [.ref tp, .ref mka, .int 0, .ref bx, .ref rt])), (mka, .inl (cM, 8, .inr (.inr (.inr (.inr mf)))))]) (tysr := [(cM, .object "OneHandset$Make")]) hP hD hS hA hK [2] [0, 1] [0] rfl rfl (by decide) (by decide) rfl (va_runI (As := [.int k, .int n, .ref q_32]) (rest := [.ref q_34, .int 0, .ref mka]) ⟨hx, hb, hml, hown, hts⟩ (c_X4_init l D H.size q_34 q_32 k n ) (cwI 3 hts gX8_make_X4_init rfl rfl rfl (hts (.initialized RX4) (List.mem_of_getElem? (i := 11) rfl)) (hts (.methodLink RX8 58 yX4_init) (List.mem_of_getElem? (i := 41) rfl)) (hts (.instanceMethod yX4_init) (List.mem_of_getElem? (i := 42) rfl)) rfl (by decide +kernel) ⟨Nat.le_of_ble_eq_true rfl, Nat.le_of_ble_eq_true rfl⟩) (st_preS hP hD hK hNW [2] [] rfl rfl (by decide) rfl) rfl rfl hl.1 rfl (lv_room (Nat.le_of_ble_eq_true rfl)) dX8_make_141 ⟨(Nat.le_of_ble_eq_true rfl), (Nat.le_of_ble_eq_true rfl)⟩) (fun u H locs hw hP hD hK hS => ?_)
      obtain ⟨ky_36, rfl⟩ : ∃ z, z = u := ⟨_, rfl⟩
      have hP : va_P D vwCl [(h0, .inr (7, [.ref tp, .ref mka, .int 0, .ref bx, .ref rt])), (mka, .inl (cM, 8, .inr (.inr (.inr (.inr mf))))), (q_34, .inr (3, [.int k, .int n, .ref q_32, .ref ky_36, .int 20]))] H := hP
      have hD : va_D A [(h0, .inr (7, [.ref tp, .ref mka, .int 0, .ref bx, .ref rt])), (mka, .inl (cM, 8, .inr (.inr (.inr (.inr mf))))), (q_34, .inr (3, [.int k, .int n, .ref q_32, .ref ky_36, .int 20]))] := hD
      have hK : va_K D vwCl [(cM, .object "OneHandset$Make")] s := hK
      refine va_astq hx hb hK hP hD hS 1 0 2 3 rfl rfl rfl rfl (vin (by decide)) dX8_make_144 (fun H locs hP hD hS => ?_)
      have hP : va_P D vwCl [(h0, .inr (7, [.ref tp, .ref mka, .int 0, .ref bx, .ref rt])), (mka, .inl (cM, 8, .inr (.inr (.inr (.inr (va_up mf 0 (some q_34))))))), (q_34, .inr (3, [.int k, .int n, .ref q_32, .ref ky_36, .int 20]))] H := hP
      have hD : va_D A [(h0, .inr (7, [.ref tp, .ref mka, .int 0, .ref bx, .ref rt])), (mka, .inl (cM, 8, .inr (.inr (.inr (.inr (va_up mf 0 (some q_34))))))), (q_34, .inr (3, [.int k, .int n, .ref q_32, .ref ky_36, .int 20]))] := hD
      refine lv_aload_n hx hb dX8_make_145 rfl (lv_at hl 1 rfl) ?_
      refine lv_dup hx hb dX8_make_146 rfl ?_
      refine va_get (D := D) (ci := 7) (v := .int 0) (C := RX8) (T := TX8) (N := 5) hx hb hts hiX8_make_X8 hown hK hP 0 rfl rfl 2 (by decide) (hts (.fieldLink RX8 22 "OneHandset" "makeCount" "I") (List.mem_of_getElem? (i := 1) rfl)) (fun _ h9 => h9) rfl dX8_make_147 ?_
      refine lv_iconst (v := 1) hx hb dX8_make_150 (by decide) ?_
      refine lv_iadd hx hb dX8_make_151 ?_
      refine lv_topi (fun v_37 ev_37 => ?_)
      obtain rfl : v_37 = (1 : Int32) := ev_37.trans (by decide)
      refine va_put (D := D) (ci := 7) (v := .int 1) (ty := .int) (C := RX8) (T := TX8) (N := 5) hx hb hts hiX8_make_X8 tyX8 tyX8_ok nmX8 hown hK hP hD hS 0 rfl rfl 2 (by decide) (hts (.fieldLink RX8 22 "OneHandset" "makeCount" "I") (List.mem_of_getElem? (i := 1) rfl)) (fun _ h9 => h9) rfl (by decide +kernel) rfl rfl (Nat.le_of_ble_eq_true rfl) dX8_make_152 (fun H locs hP hD hS => ?_)
      have hP : va_P D vwCl [(h0, .inr (7, [.ref tp, .ref mka, .int 1, .ref bx, .ref rt])), (mka, .inl (cM, 8, .inr (.inr (.inr (.inr (va_up mf 0 (some q_34))))))), (q_34, .inr (3, [.int k, .int n, .ref q_32, .ref ky_36, .int 20]))] H := hP
      have hD : va_D A [(h0, .inr (7, [.ref tp, .ref mka, .int 1, .ref bx, .ref rt])), (mka, .inl (cM, 8, .inr (.inr (.inr (.inr (va_up mf 0 (some q_34))))))), (q_34, .inr (3, [.int k, .int n, .ref q_32, .ref ky_36, .int 20]))] := hD
      refine lv_aload_n hx hb dX8_make_155 rfl (lv_at hl 1 rfl) ?_
      refine va_get (D := D) (ci := 7) (v := .int 1) (C := RX8) (T := TX8) (N := 5) hx hb hts hiX8_make_X8 hown hK hP 0 rfl rfl 2 (by decide) (hts (.fieldLink RX8 22 "OneHandset" "makeCount" "I") (List.mem_of_getElem? (i := 1) rfl)) (fun _ h9 => h9) rfl dX8_make_156 ?_
      refine lv_iconst (v := 1) hx hb dX8_make_159 (by decide) ?_
      refine lv_isub hx hb dX8_make_160 ?_
      refine lv_topi (fun v_38 ev_38 => ?_)
      obtain rfl : v_38 = (0 : Int32) := ev_38.trans (by decide)
      exact ret_i hx hb hr hlocks rfl (u := ()) (by simp [mkS, c_3, c_5, c_7, c_9, c_11, c_13, c_15, c_16]) (hP.sub [] rfl) (hK.sub [] rfl) (hD.sub [] (by decide) rfl) hS (Nat.le_of_ble_eq_true rfl) (Nat.le_of_ble_eq_true rfl) dX8_make_161
    refine lv_iconst (v := (-1)) hx hb dX8_make_76 (by decide) ?_
    exact ret_i hx hb hr hlocks rfl (u := ()) (by simp [mkS, c_3, c_5, c_7, c_9, c_11, c_13, c_15, c_16]) (hP.sub [] rfl) (hK.sub [] rfl) (hD.sub [] (by decide) rfl) hS (Nat.le_of_ble_eq_true rfl) (Nat.le_of_ble_eq_true rfl) dX8_make_77
  refine lv_iconst (v := (-1)) hx hb dX8_make_28 (by decide) ?_
  exact ret_i hx hb hr hlocks rfl (u := ()) (by simp [mkS, c_3, c_5]) (hP.sub [] rfl) (hK.sub [] rfl) (hD.sub [] (by decide) rfl) hS (Nat.le_of_ble_eq_true rfl) (Nat.le_of_ble_eq_true rfl) dX8_make_29
