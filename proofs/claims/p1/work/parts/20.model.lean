theorem hiX9_init_X9 : ∀ w ∈ wsX90, w ∈ wsX9_init := mem_pl [16, 17, 18, 19, 20, 21, 22, 23, 24, 25, 26, 27, 28, 29, 30, 31, 32] rfl
set_option maxHeartbeats 4000000 in
set_option maxRecDepth 100000 in
theorem c_X9_init (l : Launch) (D : va_G) (sz : Nat) (h0 : Nat)  : Cv l yX9_init wsX9_init ({ frames := 1, cells := 11, slots := 1492, locals := 12 } : Room) D [.ref h0] [(h0, .inr (8, [.null, .int 0, .null, .int 0, .null, .null, .null, .null, .null, .null, .int 0, .int 0, .int 0, .int 0, .null, .null, .null]))] [] sz (fun (u9 : Nat × Nat × Nat × Nat × Nat × Nat × Nat × Nat × Nat × Nat × Nat × ClassId × ClassId × ClassId × ClassId × ClassId × ClassId × ClassId × ClassId × ClassId × ClassId × ClassId) => match u9 with | (a0, a2, a4, a5, a6, a7, a8, a9, a14, a15, a16, k0, k2, k4, k5, k6, k7, k8, k9, k14, k15, k16) => True) (fun (u9 : Nat × Nat × Nat × Nat × Nat × Nat × Nat × Nat × Nat × Nat × Nat × ClassId × ClassId × ClassId × ClassId × ClassId × ClassId × ClassId × ClassId × ClassId × ClassId × ClassId) => match u9 with | (a0, a2, a4, a5, a6, a7, a8, a9, a14, a15, a16, k0, k2, k4, k5, k6, k7, k8, k9, k14, k15, k16) => [(h0, .inr (8, [.ref a0, .int 0, .ref a2, .int 0, .ref a4, .ref a5, .ref a6, .ref a7, .ref a8, .ref a9, .int 0, .int 0, .int 0, .int 0, .ref a14, .ref a15, .ref a16])), (a0, .inl (k0, 120, .inl (fun _ => 0))), (a2, .inl (k2, 80, .inl (fun _ => 0))), (a4, .inl (k4, 128, .inl (fun _ => 0))), (a5, .inl (k5, 4, .inl (upd (upd (upd (upd (fun _ => 0) 0 1) 1 1) 2 1) 3 1))), (a6, .inl (k6, 4, .inl (upd (upd (upd (upd (fun _ => 0) 0 1) 1 1) 2 1) 3 1))), (a7, .inl (k7, 128, .inl (fun _ => 0))), (a8, .inl (k8, 4, .inl (upd (upd (upd (upd (fun _ => 0) 0 1) 1 1) 2 1) 3 1))), (a9, .inl (k9, 256, .inl (fun _ => 0))), (a14, .inl (k14, 256, .inl (fun _ => 0))), (a15, .inl (k15, 256, .inl (fun _ => 0))), (a16, .inl (k16, 256, .inl (fun _ => 0)))]) (fun (u9 : Nat × Nat × Nat × Nat × Nat × Nat × Nat × Nat × Nat × Nat × Nat × ClassId × ClassId × ClassId × ClassId × ClassId × ClassId × ClassId × ClassId × ClassId × ClassId × ClassId) => match u9 with | (a0, a2, a4, a5, a6, a7, a8, a9, a14, a15, a16, k0, k2, k4, k5, k6, k7, k8, k9, k14, k15, k16) => [(k0, .int), (k2, .int), (k4, .int), (k5, .int), (k6, .int), (k7, .int), (k8, .int), (k9, .int), (k14, .int), (k15, .int), (k16, .int)]) := by
  refine ct_v (cc := cX9_init) (maxL := 2) (ret := none) (by decide) rfl (Nat.le_of_ble_eq_true rfl) ?_
  intro p e s m below meth c A ls H hx hb hr hts hown hml hlocks hin hA hS hP hK hD hNW hl hAe hsz
  have hl : lv_has ls 2 [(0, .ref h0)] := hl
  refine lv_aload_n hx hb dX9_init_0 rfl (lv_at hl 0 rfl) ?_
  refine W.objInit hx hb hown (hts (.methodLink RX9 1 objectInit) (List.mem_of_getElem? (i := 1) rfl)) (hts (.instanceMethod objectInit) (List.mem_of_getElem? (i := 2) rfl)) (hts (.code objectInit ⟨#[0xb1]⟩ 1 none) (List.mem_of_getElem? (i := 3) rfl)) rfl (by rw [hml]; exact hl.1) rfl dX9_init_1 (Nat.le_of_ble_eq_true rfl) (Nat.le_of_ble_eq_true rfl) ?_
  refine W.eq (g2 := F0 m 4 ls []) rfl ?_
  refine lv_aload_n hx hb dX9_init_4 rfl (lv_at hl 0 rfl) ?_
  refine lv_bipush (v := 120) hx hb dX9_init_5 (by decide) ?_
  refine va_newa (atype := .int) (ty := .int) (a0 := (120, .inl (fun _ => 0))) (N' := 120) hx hb (hts (.arrayClass .int) (List.mem_of_getElem? (i := 4) rfl)) rfl hK hP hD hS hA (na_i 120) (by decide) (by decide) (by decide) (Nat.le_of_ble_eq_true rfl) (Nat.le_of_ble_eq_true rfl) dX9_init_7 (fun q_1 cA_2 H hK hP hD hS => ?_)
  have hP : va_P D vwCl [(h0, .inr (8, [.null, .int 0, .null, .int 0, .null, .null, .null, .null, .null, .null, .int 0, .int 0, .int 0, .int 0, .null, .null, .null])), (q_1, .inl (cA_2, 120, .inl (fun _ => 0)))] H := hP
  have hD : va_D A [(h0, .inr (8, [.null, .int 0, .null, .int 0, .null, .null, .null, .null, .null, .null, .int 0, .int 0, .int 0, .int 0, .null, .null, .null])), (q_1, .inl (cA_2, 120, .inl (fun _ => 0)))] := hD
  have hK : va_K D vwCl [(cA_2, .int)] s := hK
  refine va_putF (D := D) (ci := 8) (v := .ref q_1) (ty := .array .int) (C := RX9) (T := TX9) (N := 17) hx hb hts hiX9_init_X9 tyX9 tyX9_ok nmX9 hown hK hP hD hS 0 rfl rfl 0 (by decide) (hts (.fieldLink RX9 9 "OneHandsetModel" "tape" "[I") (List.mem_of_getElem? (i := 5) rfl)) (fun _ h9 => h9) rfl hin rfl (by decide +kernel) rfl rfl (Nat.le_of_ble_eq_true rfl) dX9_init_9 (fun H locs hP hD hS => ?_)
  have hP : va_P D vwCl [(h0, .inr (8, [.ref q_1, .int 0, .null, .int 0, .null, .null, .null, .null, .null, .null, .int 0, .int 0, .int 0, .int 0, .null, .null, .null])), (q_1, .inl (cA_2, 120, .inl (fun _ => 0)))] H := hP
  have hD : va_D A [(h0, .inr (8, [.ref q_1, .int 0, .null, .int 0, .null, .null, .null, .null, .null, .null, .int 0, .int 0, .int 0, .int 0, .null, .null, .null])), (q_1, .inl (cA_2, 120, .inl (fun _ => 0)))] := hD
  refine lv_aload_n hx hb dX9_init_12 rfl (lv_at hl 0 rfl) ?_
  refine lv_bipush (v := 80) hx hb dX9_init_13 (by decide) ?_
  refine va_newa (atype := .int) (ty := .int) (a0 := (80, .inl (fun _ => 0))) (N' := 80) hx hb (hts (.arrayClass .int) (List.mem_of_getElem? (i := 4) rfl)) rfl hK hP hD hS hA (na_i 80) (by decide) (by decide) (by decide) (Nat.le_of_ble_eq_true rfl) (Nat.le_of_ble_eq_true rfl) dX9_init_15 (fun q_3 cA_4 H hK hP hD hS => ?_)
  have hP : va_P D vwCl [(h0, .inr (8, [.ref q_1, .int 0, .null, .int 0, .null, .null, .null, .null, .null, .null, .int 0, .int 0, .int 0, .int 0, .null, .null, .null])), (q_1, .inl (cA_2, 120, .inl (fun _ => 0))), (q_3, .inl (cA_4, 80, .inl (fun _ => 0)))] H := hP
  have hD : va_D A [(h0, .inr (8, [.ref q_1, .int 0, .null, .int 0, .null, .null, .null, .null, .null, .null, .int 0, .int 0, .int 0, .int 0, .null, .null, .null])), (q_1, .inl (cA_2, 120, .inl (fun _ => 0))), (q_3, .inl (cA_4, 80, .inl (fun _ => 0)))] := hD
  have hK : va_K D vwCl [(cA_2, .int), (cA_4, .int)] s := hK
  refine va_putF (D := D) (ci := 8) (v := .ref q_3) (ty := .array .int) (C := RX9) (T := TX9) (N := 17) hx hb hts hiX9_init_X9 tyX9 tyX9_ok nmX9 hown hK hP hD hS 0 rfl rfl 2 (by decide) (hts (.fieldLink RX9 13 "OneHandsetModel" "makes" "[I") (List.mem_of_getElem? (i := 6) rfl)) (fun _ h9 => h9) rfl hin rfl (by decide +kernel) rfl rfl (Nat.le_of_ble_eq_true rfl) dX9_init_17 (fun H locs hP hD hS => ?_)
  have hP : va_P D vwCl [(h0, .inr (8, [.ref q_1, .int 0, .ref q_3, .int 0, .null, .null, .null, .null, .null, .null, .int 0, .int 0, .int 0, .int 0, .null, .null, .null])), (q_1, .inl (cA_2, 120, .inl (fun _ => 0))), (q_3, .inl (cA_4, 80, .inl (fun _ => 0)))] H := hP
  have hD : va_D A [(h0, .inr (8, [.ref q_1, .int 0, .ref q_3, .int 0, .null, .null, .null, .null, .null, .null, .int 0, .int 0, .int 0, .int 0, .null, .null, .null])), (q_1, .inl (cA_2, 120, .inl (fun _ => 0))), (q_3, .inl (cA_4, 80, .inl (fun _ => 0)))] := hD
  refine lv_aload_n hx hb dX9_init_20 rfl (lv_at hl 0 rfl) ?_
  refine lv_sipush (v := 128) hx hb dX9_init_21 (by decide) ?_
  refine va_newa (atype := .int) (ty := .int) (a0 := (128, .inl (fun _ => 0))) (N' := 128) hx hb (hts (.arrayClass .int) (List.mem_of_getElem? (i := 4) rfl)) rfl hK hP hD hS hA (na_i 128) (by decide) (by decide) (by decide) (Nat.le_of_ble_eq_true rfl) (Nat.le_of_ble_eq_true rfl) dX9_init_24 (fun q_5 cA_6 H hK hP hD hS => ?_)
  have hP : va_P D vwCl [(h0, .inr (8, [.ref q_1, .int 0, .ref q_3, .int 0, .null, .null, .null, .null, .null, .null, .int 0, .int 0, .int 0, .int 0, .null, .null, .null])), (q_1, .inl (cA_2, 120, .inl (fun _ => 0))), (q_3, .inl (cA_4, 80, .inl (fun _ => 0))), (q_5, .inl (cA_6, 128, .inl (fun _ => 0)))] H := hP
  have hD : va_D A [(h0, .inr (8, [.ref q_1, .int 0, .ref q_3, .int 0, .null, .null, .null, .null, .null, .null, .int 0, .int 0, .int 0, .int 0, .null, .null, .null])), (q_1, .inl (cA_2, 120, .inl (fun _ => 0))), (q_3, .inl (cA_4, 80, .inl (fun _ => 0))), (q_5, .inl (cA_6, 128, .inl (fun _ => 0)))] := hD
  have hK : va_K D vwCl [(cA_2, .int), (cA_4, .int), (cA_6, .int)] s := hK
  refine va_putF (D := D) (ci := 8) (v := .ref q_5) (ty := .array .int) (C := RX9) (T := TX9) (N := 17) hx hb hts hiX9_init_X9 tyX9 tyX9_ok nmX9 hown hK hP hD hS 0 rfl rfl 4 (by decide) (hts (.fieldLink RX9 16 "OneHandsetModel" "keys" "[I") (List.mem_of_getElem? (i := 7) rfl)) (fun _ h9 => h9) rfl hin rfl (by decide +kernel) rfl rfl (Nat.le_of_ble_eq_true rfl) dX9_init_26 (fun H locs hP hD hS => ?_)
  have hP : va_P D vwCl [(h0, .inr (8, [.ref q_1, .int 0, .ref q_3, .int 0, .ref q_5, .null, .null, .null, .null, .null, .int 0, .int 0, .int 0, .int 0, .null, .null, .null])), (q_1, .inl (cA_2, 120, .inl (fun _ => 0))), (q_3, .inl (cA_4, 80, .inl (fun _ => 0))), (q_5, .inl (cA_6, 128, .inl (fun _ => 0)))] H := hP
  have hD : va_D A [(h0, .inr (8, [.ref q_1, .int 0, .ref q_3, .int 0, .ref q_5, .null, .null, .null, .null, .null, .int 0, .int 0, .int 0, .int 0, .null, .null, .null])), (q_1, .inl (cA_2, 120, .inl (fun _ => 0))), (q_3, .inl (cA_4, 80, .inl (fun _ => 0))), (q_5, .inl (cA_6, 128, .inl (fun _ => 0)))] := hD
  refine lv_aload_n hx hb dX9_init_29 rfl (lv_at hl 0 rfl) ?_
  refine lv_iconst (v := 4) hx hb dX9_init_30 (by decide) ?_
  refine va_newa (atype := .int) (ty := .int) (a0 := (4, .inl (fun _ => 0))) (N' := 4) hx hb (hts (.arrayClass .int) (List.mem_of_getElem? (i := 4) rfl)) rfl hK hP hD hS hA (na_i 4) (by decide) (by decide) (by decide) (Nat.le_of_ble_eq_true rfl) (Nat.le_of_ble_eq_true rfl) dX9_init_31 (fun q_7 cA_8 H hK hP hD hS => ?_)
  have hP : va_P D vwCl [(h0, .inr (8, [.ref q_1, .int 0, .ref q_3, .int 0, .ref q_5, .null, .null, .null, .null, .null, .int 0, .int 0, .int 0, .int 0, .null, .null, .null])), (q_1, .inl (cA_2, 120, .inl (fun _ => 0))), (q_3, .inl (cA_4, 80, .inl (fun _ => 0))), (q_5, .inl (cA_6, 128, .inl (fun _ => 0))), (q_7, .inl (cA_8, 4, .inl (fun _ => 0)))] H := hP
  have hD : va_D A [(h0, .inr (8, [.ref q_1, .int 0, .ref q_3, .int 0, .ref q_5, .null, .null, .null, .null, .null, .int 0, .int 0, .int 0, .int 0, .null, .null, .null])), (q_1, .inl (cA_2, 120, .inl (fun _ => 0))), (q_3, .inl (cA_4, 80, .inl (fun _ => 0))), (q_5, .inl (cA_6, 128, .inl (fun _ => 0))), (q_7, .inl (cA_8, 4, .inl (fun _ => 0)))] := hD
  have hK : va_K D vwCl [(cA_2, .int), (cA_4, .int), (cA_6, .int), (cA_8, .int)] s := hK
  refine va_putF (D := D) (ci := 8) (v := .ref q_7) (ty := .array .int) (C := RX9) (T := TX9) (N := 17) hx hb hts hiX9_init_X9 tyX9 tyX9_ok nmX9 hown hK hP hD hS 0 rfl rfl 5 (by decide) (hts (.fieldLink RX9 19 "OneHandsetModel" "states" "[I") (List.mem_of_getElem? (i := 8) rfl)) (fun _ h9 => h9) rfl hin rfl (by decide +kernel) rfl rfl (Nat.le_of_ble_eq_true rfl) dX9_init_33 (fun H locs hP hD hS => ?_)
  have hP : va_P D vwCl [(h0, .inr (8, [.ref q_1, .int 0, .ref q_3, .int 0, .ref q_5, .ref q_7, .null, .null, .null, .null, .int 0, .int 0, .int 0, .int 0, .null, .null, .null])), (q_1, .inl (cA_2, 120, .inl (fun _ => 0))), (q_3, .inl (cA_4, 80, .inl (fun _ => 0))), (q_5, .inl (cA_6, 128, .inl (fun _ => 0))), (q_7, .inl (cA_8, 4, .inl (fun _ => 0)))] H := hP
  have hD : va_D A [(h0, .inr (8, [.ref q_1, .int 0, .ref q_3, .int 0, .ref q_5, .ref q_7, .null, .null, .null, .null, .int 0, .int 0, .int 0, .int 0, .null, .null, .null])), (q_1, .inl (cA_2, 120, .inl (fun _ => 0))), (q_3, .inl (cA_4, 80, .inl (fun _ => 0))), (q_5, .inl (cA_6, 128, .inl (fun _ => 0))), (q_7, .inl (cA_8, 4, .inl (fun _ => 0)))] := hD
  refine lv_aload_n hx hb dX9_init_36 rfl (lv_at hl 0 rfl) ?_
  refine lv_iconst (v := 4) hx hb dX9_init_37 (by decide) ?_
  refine va_newa (atype := .int) (ty := .int) (a0 := (4, .inl (fun _ => 0))) (N' := 4) hx hb (hts (.arrayClass .int) (List.mem_of_getElem? (i := 4) rfl)) rfl hK hP hD hS hA (na_i 4) (by decide) (by decide) (by decide) (Nat.le_of_ble_eq_true rfl) (Nat.le_of_ble_eq_true rfl) dX9_init_38 (fun q_9 cA_10 H hK hP hD hS => ?_)
  have hP : va_P D vwCl [(h0, .inr (8, [.ref q_1, .int 0, .ref q_3, .int 0, .ref q_5, .ref q_7, .null, .null, .null, .null, .int 0, .int 0, .int 0, .int 0, .null, .null, .null])), (q_1, .inl (cA_2, 120, .inl (fun _ => 0))), (q_3, .inl (cA_4, 80, .inl (fun _ => 0))), (q_5, .inl (cA_6, 128, .inl (fun _ => 0))), (q_7, .inl (cA_8, 4, .inl (fun _ => 0))), (q_9, .inl (cA_10, 4, .inl (fun _ => 0)))] H := hP
  have hD : va_D A [(h0, .inr (8, [.ref q_1, .int 0, .ref q_3, .int 0, .ref q_5, .ref q_7, .null, .null, .null, .null, .int 0, .int 0, .int 0, .int 0, .null, .null, .null])), (q_1, .inl (cA_2, 120, .inl (fun _ => 0))), (q_3, .inl (cA_4, 80, .inl (fun _ => 0))), (q_5, .inl (cA_6, 128, .inl (fun _ => 0))), (q_7, .inl (cA_8, 4, .inl (fun _ => 0))), (q_9, .inl (cA_10, 4, .inl (fun _ => 0)))] := hD
  have hK : va_K D vwCl [(cA_2, .int), (cA_4, .int), (cA_6, .int), (cA_8, .int), (cA_10, .int)] s := hK
  refine va_putF (D := D) (ci := 8) (v := .ref q_9) (ty := .array .int) (C := RX9) (T := TX9) (N := 17) hx hb hts hiX9_init_X9 tyX9 tyX9_ok nmX9 hown hK hP hD hS 0 rfl rfl 6 (by decide) (hts (.fieldLink RX9 22 "OneHandsetModel" "buttons" "[I") (List.mem_of_getElem? (i := 9) rfl)) (fun _ h9 => h9) rfl hin rfl (by decide +kernel) rfl rfl (Nat.le_of_ble_eq_true rfl) dX9_init_40 (fun H locs hP hD hS => ?_)
  have hP : va_P D vwCl [(h0, .inr (8, [.ref q_1, .int 0, .ref q_3, .int 0, .ref q_5, .ref q_7, .ref q_9, .null, .null, .null, .int 0, .int 0, .int 0, .int 0, .null, .null, .null])), (q_1, .inl (cA_2, 120, .inl (fun _ => 0))), (q_3, .inl (cA_4, 80, .inl (fun _ => 0))), (q_5, .inl (cA_6, 128, .inl (fun _ => 0))), (q_7, .inl (cA_8, 4, .inl (fun _ => 0))), (q_9, .inl (cA_10, 4, .inl (fun _ => 0)))] H := hP
  have hD : va_D A [(h0, .inr (8, [.ref q_1, .int 0, .ref q_3, .int 0, .ref q_5, .ref q_7, .ref q_9, .null, .null, .null, .int 0, .int 0, .int 0, .int 0, .null, .null, .null])), (q_1, .inl (cA_2, 120, .inl (fun _ => 0))), (q_3, .inl (cA_4, 80, .inl (fun _ => 0))), (q_5, .inl (cA_6, 128, .inl (fun _ => 0))), (q_7, .inl (cA_8, 4, .inl (fun _ => 0))), (q_9, .inl (cA_10, 4, .inl (fun _ => 0)))] := hD
  refine lv_aload_n hx hb dX9_init_43 rfl (lv_at hl 0 rfl) ?_
  refine lv_sipush (v := 128) hx hb dX9_init_44 (by decide) ?_
  refine va_newa (atype := .int) (ty := .int) (a0 := (128, .inl (fun _ => 0))) (N' := 128) hx hb (hts (.arrayClass .int) (List.mem_of_getElem? (i := 4) rfl)) rfl hK hP hD hS hA (na_i 128) (by decide) (by decide) (by decide) (Nat.le_of_ble_eq_true rfl) (Nat.le_of_ble_eq_true rfl) dX9_init_47 (fun q_11 cA_12 H hK hP hD hS => ?_)
  have hP : va_P D vwCl [(h0, .inr (8, [.ref q_1, .int 0, .ref q_3, .int 0, .ref q_5, .ref q_7, .ref q_9, .null, .null, .null, .int 0, .int 0, .int 0, .int 0, .null, .null, .null])), (q_1, .inl (cA_2, 120, .inl (fun _ => 0))), (q_3, .inl (cA_4, 80, .inl (fun _ => 0))), (q_5, .inl (cA_6, 128, .inl (fun _ => 0))), (q_7, .inl (cA_8, 4, .inl (fun _ => 0))), (q_9, .inl (cA_10, 4, .inl (fun _ => 0))), (q_11, .inl (cA_12, 128, .inl (fun _ => 0)))] H := hP
  have hD : va_D A [(h0, .inr (8, [.ref q_1, .int 0, .ref q_3, .int 0, .ref q_5, .ref q_7, .ref q_9, .null, .null, .null, .int 0, .int 0, .int 0, .int 0, .null, .null, .null])), (q_1, .inl (cA_2, 120, .inl (fun _ => 0))), (q_3, .inl (cA_4, 80, .inl (fun _ => 0))), (q_5, .inl (cA_6, 128, .inl (fun _ => 0))), (q_7, .inl (cA_8, 4, .inl (fun _ => 0))), (q_9, .inl (cA_10, 4, .inl (fun _ => 0))), (q_11, .inl (cA_12, 128, .inl (fun _ => 0)))] := hD
  have hK : va_K D vwCl [(cA_2, .int), (cA_4, .int), (cA_6, .int), (cA_8, .int), (cA_10, .int), (cA_12, .int)] s := hK
  refine va_putF (D := D) (ci := 8) (v := .ref q_11) (ty := .array .int) (C := RX9) (T := TX9) (N := 17) hx hb hts hiX9_init_X9 tyX9 tyX9_ok nmX9 hown hK hP hD hS 0 rfl rfl 7 (by decide) (hts (.fieldLink RX9 25 "OneHandsetModel" "leads" "[I") (List.mem_of_getElem? (i := 10) rfl)) (fun _ h9 => h9) rfl hin rfl (by decide +kernel) rfl rfl (Nat.le_of_ble_eq_true rfl) dX9_init_49 (fun H locs hP hD hS => ?_)
  have hP : va_P D vwCl [(h0, .inr (8, [.ref q_1, .int 0, .ref q_3, .int 0, .ref q_5, .ref q_7, .ref q_9, .ref q_11, .null, .null, .int 0, .int 0, .int 0, .int 0, .null, .null, .null])), (q_1, .inl (cA_2, 120, .inl (fun _ => 0))), (q_3, .inl (cA_4, 80, .inl (fun _ => 0))), (q_5, .inl (cA_6, 128, .inl (fun _ => 0))), (q_7, .inl (cA_8, 4, .inl (fun _ => 0))), (q_9, .inl (cA_10, 4, .inl (fun _ => 0))), (q_11, .inl (cA_12, 128, .inl (fun _ => 0)))] H := hP
  have hD : va_D A [(h0, .inr (8, [.ref q_1, .int 0, .ref q_3, .int 0, .ref q_5, .ref q_7, .ref q_9, .ref q_11, .null, .null, .int 0, .int 0, .int 0, .int 0, .null, .null, .null])), (q_1, .inl (cA_2, 120, .inl (fun _ => 0))), (q_3, .inl (cA_4, 80, .inl (fun _ => 0))), (q_5, .inl (cA_6, 128, .inl (fun _ => 0))), (q_7, .inl (cA_8, 4, .inl (fun _ => 0))), (q_9, .inl (cA_10, 4, .inl (fun _ => 0))), (q_11, .inl (cA_12, 128, .inl (fun _ => 0)))] := hD
  refine lv_aload_n hx hb dX9_init_52 rfl (lv_at hl 0 rfl) ?_
  refine lv_iconst (v := 4) hx hb dX9_init_53 (by decide) ?_
  refine va_newa (atype := .int) (ty := .int) (a0 := (4, .inl (fun _ => 0))) (N' := 4) hx hb (hts (.arrayClass .int) (List.mem_of_getElem? (i := 4) rfl)) rfl hK hP hD hS hA (na_i 4) (by decide) (by decide) (by decide) (Nat.le_of_ble_eq_true rfl) (Nat.le_of_ble_eq_true rfl) dX9_init_54 (fun q_13 cA_14 H hK hP hD hS => ?_)
  have hP : va_P D vwCl [(h0, .inr (8, [.ref q_1, .int 0, .ref q_3, .int 0, .ref q_5, .ref q_7, .ref q_9, .ref q_11, .null, .null, .int 0, .int 0, .int 0, .int 0, .null, .null, .null])), (q_1, .inl (cA_2, 120, .inl (fun _ => 0))), (q_3, .inl (cA_4, 80, .inl (fun _ => 0))), (q_5, .inl (cA_6, 128, .inl (fun _ => 0))), (q_7, .inl (cA_8, 4, .inl (fun _ => 0))), (q_9, .inl (cA_10, 4, .inl (fun _ => 0))), (q_11, .inl (cA_12, 128, .inl (fun _ => 0))), (q_13, .inl (cA_14, 4, .inl (fun _ => 0)))] H := hP
  have hD : va_D A [(h0, .inr (8, [.ref q_1, .int 0, .ref q_3, .int 0, .ref q_5, .ref q_7, .ref q_9, .ref q_11, .null, .null, .int 0, .int 0, .int 0, .int 0, .null, .null, .null])), (q_1, .inl (cA_2, 120, .inl (fun _ => 0))), (q_3, .inl (cA_4, 80, .inl (fun _ => 0))), (q_5, .inl (cA_6, 128, .inl (fun _ => 0))), (q_7, .inl (cA_8, 4, .inl (fun _ => 0))), (q_9, .inl (cA_10, 4, .inl (fun _ => 0))), (q_11, .inl (cA_12, 128, .inl (fun _ => 0))), (q_13, .inl (cA_14, 4, .inl (fun _ => 0)))] := hD
  have hK : va_K D vwCl [(cA_2, .int), (cA_4, .int), (cA_6, .int), (cA_8, .int), (cA_10, .int), (cA_12, .int), (cA_14, .int)] s := hK
  refine va_putF (D := D) (ci := 8) (v := .ref q_13) (ty := .array .int) (C := RX9) (T := TX9) (N := 17) hx hb hts hiX9_init_X9 tyX9 tyX9_ok nmX9 hown hK hP hD hS 0 rfl rfl 8 (by decide) (hts (.fieldLink RX9 28 "OneHandsetModel" "sets" "[I") (List.mem_of_getElem? (i := 11) rfl)) (fun _ h9 => h9) rfl hin rfl (by decide +kernel) rfl rfl (Nat.le_of_ble_eq_true rfl) dX9_init_56 (fun H locs hP hD hS => ?_)
  have hP : va_P D vwCl [(h0, .inr (8, [.ref q_1, .int 0, .ref q_3, .int 0, .ref q_5, .ref q_7, .ref q_9, .ref q_11, .ref q_13, .null, .int 0, .int 0, .int 0, .int 0, .null, .null, .null])), (q_1, .inl (cA_2, 120, .inl (fun _ => 0))), (q_3, .inl (cA_4, 80, .inl (fun _ => 0))), (q_5, .inl (cA_6, 128, .inl (fun _ => 0))), (q_7, .inl (cA_8, 4, .inl (fun _ => 0))), (q_9, .inl (cA_10, 4, .inl (fun _ => 0))), (q_11, .inl (cA_12, 128, .inl (fun _ => 0))), (q_13, .inl (cA_14, 4, .inl (fun _ => 0)))] H := hP
  have hD : va_D A [(h0, .inr (8, [.ref q_1, .int 0, .ref q_3, .int 0, .ref q_5, .ref q_7, .ref q_9, .ref q_11, .ref q_13, .null, .int 0, .int 0, .int 0, .int 0, .null, .null, .null])), (q_1, .inl (cA_2, 120, .inl (fun _ => 0))), (q_3, .inl (cA_4, 80, .inl (fun _ => 0))), (q_5, .inl (cA_6, 128, .inl (fun _ => 0))), (q_7, .inl (cA_8, 4, .inl (fun _ => 0))), (q_9, .inl (cA_10, 4, .inl (fun _ => 0))), (q_11, .inl (cA_12, 128, .inl (fun _ => 0))), (q_13, .inl (cA_14, 4, .inl (fun _ => 0)))] := hD
  refine lv_aload_n hx hb dX9_init_59 rfl (lv_at hl 0 rfl) ?_
  refine lv_sipush (v := 256) hx hb dX9_init_60 (by decide) ?_
  refine va_newa (atype := .int) (ty := .int) (a0 := (256, .inl (fun _ => 0))) (N' := 256) hx hb (hts (.arrayClass .int) (List.mem_of_getElem? (i := 4) rfl)) rfl hK hP hD hS hA (na_i 256) (by decide) (by decide) (by decide) (Nat.le_of_ble_eq_true rfl) (Nat.le_of_ble_eq_true rfl) dX9_init_63 (fun q_15 cA_16 H hK hP hD hS => ?_)
  have hP : va_P D vwCl [(h0, .inr (8, [.ref q_1, .int 0, .ref q_3, .int 0, .ref q_5, .ref q_7, .ref q_9, .ref q_11, .ref q_13, .null, .int 0, .int 0, .int 0, .int 0, .null, .null, .null])), (q_1, .inl (cA_2, 120, .inl (fun _ => 0))), (q_3, .inl (cA_4, 80, .inl (fun _ => 0))), (q_5, .inl (cA_6, 128, .inl (fun _ => 0))), (q_7, .inl (cA_8, 4, .inl (fun _ => 0))), (q_9, .inl (cA_10, 4, .inl (fun _ => 0))), (q_11, .inl (cA_12, 128, .inl (fun _ => 0))), (q_13, .inl (cA_14, 4, .inl (fun _ => 0))), (q_15, .inl (cA_16, 256, .inl (fun _ => 0)))] H := hP
  have hD : va_D A [(h0, .inr (8, [.ref q_1, .int 0, .ref q_3, .int 0, .ref q_5, .ref q_7, .ref q_9, .ref q_11, .ref q_13, .null, .int 0, .int 0, .int 0, .int 0, .null, .null, .null])), (q_1, .inl (cA_2, 120, .inl (fun _ => 0))), (q_3, .inl (cA_4, 80, .inl (fun _ => 0))), (q_5, .inl (cA_6, 128, .inl (fun _ => 0))), (q_7, .inl (cA_8, 4, .inl (fun _ => 0))), (q_9, .inl (cA_10, 4, .inl (fun _ => 0))), (q_11, .inl (cA_12, 128, .inl (fun _ => 0))), (q_13, .inl (cA_14, 4, .inl (fun _ => 0))), (q_15, .inl (cA_16, 256, .inl (fun _ => 0)))] := hD
  have hK : va_K D vwCl [(cA_2, .int), (cA_4, .int), (cA_6, .int), (cA_8, .int), (cA_10, .int), (cA_12, .int), (cA_14, .int), (cA_16, .int)] s := hK
  refine va_putF (D := D) (ci := 8) (v := .ref q_15) (ty := .array .int) (C := RX9) (T := TX9) (N := 17) hx hb hts hiX9_init_X9 tyX9 tyX9_ok nmX9 hown hK hP hD hS 0 rfl rfl 9 (by decide) (hts (.fieldLink RX9 31 "OneHandsetModel" "way" "[I") (List.mem_of_getElem? (i := 12) rfl)) (fun _ h9 => h9) rfl hin rfl (by decide +kernel) rfl rfl (Nat.le_of_ble_eq_true rfl) dX9_init_65 (fun H locs hP hD hS => ?_)
  have hP : va_P D vwCl [(h0, .inr (8, [.ref q_1, .int 0, .ref q_3, .int 0, .ref q_5, .ref q_7, .ref q_9, .ref q_11, .ref q_13, .ref q_15, .int 0, .int 0, .int 0, .int 0, .null, .null, .null])), (q_1, .inl (cA_2, 120, .inl (fun _ => 0))), (q_3, .inl (cA_4, 80, .inl (fun _ => 0))), (q_5, .inl (cA_6, 128, .inl (fun _ => 0))), (q_7, .inl (cA_8, 4, .inl (fun _ => 0))), (q_9, .inl (cA_10, 4, .inl (fun _ => 0))), (q_11, .inl (cA_12, 128, .inl (fun _ => 0))), (q_13, .inl (cA_14, 4, .inl (fun _ => 0))), (q_15, .inl (cA_16, 256, .inl (fun _ => 0)))] H := hP
  have hD : va_D A [(h0, .inr (8, [.ref q_1, .int 0, .ref q_3, .int 0, .ref q_5, .ref q_7, .ref q_9, .ref q_11, .ref q_13, .ref q_15, .int 0, .int 0, .int 0, .int 0, .null, .null, .null])), (q_1, .inl (cA_2, 120, .inl (fun _ => 0))), (q_3, .inl (cA_4, 80, .inl (fun _ => 0))), (q_5, .inl (cA_6, 128, .inl (fun _ => 0))), (q_7, .inl (cA_8, 4, .inl (fun _ => 0))), (q_9, .inl (cA_10, 4, .inl (fun _ => 0))), (q_11, .inl (cA_12, 128, .inl (fun _ => 0))), (q_13, .inl (cA_14, 4, .inl (fun _ => 0))), (q_15, .inl (cA_16, 256, .inl (fun _ => 0)))] := hD
  refine lv_aload_n hx hb dX9_init_68 rfl (lv_at hl 0 rfl) ?_
  refine lv_sipush (v := 256) hx hb dX9_init_69 (by decide) ?_
  refine va_newa (atype := .int) (ty := .int) (a0 := (256, .inl (fun _ => 0))) (N' := 256) hx hb (hts (.arrayClass .int) (List.mem_of_getElem? (i := 4) rfl)) rfl hK hP hD hS hA (na_i 256) (by decide) (by decide) (by decide) (Nat.le_of_ble_eq_true rfl) (Nat.le_of_ble_eq_true rfl) dX9_init_72 (fun q_17 cA_18 H hK hP hD hS => ?_)
  have hP : va_P D vwCl [(h0, .inr (8, [.ref q_1, .int 0, .ref q_3, .int 0, .ref q_5, .ref q_7, .ref q_9, .ref q_11, .ref q_13, .ref q_15, .int 0, .int 0, .int 0, .int 0, .null, .null, .null])), (q_1, .inl (cA_2, 120, .inl (fun _ => 0))), (q_3, .inl (cA_4, 80, .inl (fun _ => 0))), (q_5, .inl (cA_6, 128, .inl (fun _ => 0))), (q_7, .inl (cA_8, 4, .inl (fun _ => 0))), (q_9, .inl (cA_10, 4, .inl (fun _ => 0))), (q_11, .inl (cA_12, 128, .inl (fun _ => 0))), (q_13, .inl (cA_14, 4, .inl (fun _ => 0))), (q_15, .inl (cA_16, 256, .inl (fun _ => 0))), (q_17, .inl (cA_18, 256, .inl (fun _ => 0)))] H := hP
  have hD : va_D A [(h0, .inr (8, [.ref q_1, .int 0, .ref q_3, .int 0, .ref q_5, .ref q_7, .ref q_9, .ref q_11, .ref q_13, .ref q_15, .int 0, .int 0, .int 0, .int 0, .null, .null, .null])), (q_1, .inl (cA_2, 120, .inl (fun _ => 0))), (q_3, .inl (cA_4, 80, .inl (fun _ => 0))), (q_5, .inl (cA_6, 128, .inl (fun _ => 0))), (q_7, .inl (cA_8, 4, .inl (fun _ => 0))), (q_9, .inl (cA_10, 4, .inl (fun _ => 0))), (q_11, .inl (cA_12, 128, .inl (fun _ => 0))), (q_13, .inl (cA_14, 4, .inl (fun _ => 0))), (q_15, .inl (cA_16, 256, .inl (fun _ => 0))), (q_17, .inl (cA_18, 256, .inl (fun _ => 0)))] := hD
  have hK : va_K D vwCl [(cA_2, .int), (cA_4, .int), (cA_6, .int), (cA_8, .int), (cA_10, .int), (cA_12, .int), (cA_14, .int), (cA_16, .int), (cA_18, .int)] s := hK
  refine va_putF (D := D) (ci := 8) (v := .ref q_17) (ty := .array .int) (C := RX9) (T := TX9) (N := 17) hx hb hts hiX9_init_X9 tyX9 tyX9_ok nmX9 hown hK hP hD hS 0 rfl rfl 14 (by decide) (hts (.fieldLink RX9 34 "OneHandsetModel" "queue" "[I") (List.mem_of_getElem? (i := 13) rfl)) (fun _ h9 => h9) rfl hin rfl (by decide +kernel) rfl rfl (Nat.le_of_ble_eq_true rfl) dX9_init_74 (fun H locs hP hD hS => ?_)
  have hP : va_P D vwCl [(h0, .inr (8, [.ref q_1, .int 0, .ref q_3, .int 0, .ref q_5, .ref q_7, .ref q_9, .ref q_11, .ref q_13, .ref q_15, .int 0, .int 0, .int 0, .int 0, .ref q_17, .null, .null])), (q_1, .inl (cA_2, 120, .inl (fun _ => 0))), (q_3, .inl (cA_4, 80, .inl (fun _ => 0))), (q_5, .inl (cA_6, 128, .inl (fun _ => 0))), (q_7, .inl (cA_8, 4, .inl (fun _ => 0))), (q_9, .inl (cA_10, 4, .inl (fun _ => 0))), (q_11, .inl (cA_12, 128, .inl (fun _ => 0))), (q_13, .inl (cA_14, 4, .inl (fun _ => 0))), (q_15, .inl (cA_16, 256, .inl (fun _ => 0))), (q_17, .inl (cA_18, 256, .inl (fun _ => 0)))] H := hP
  have hD : va_D A [(h0, .inr (8, [.ref q_1, .int 0, .ref q_3, .int 0, .ref q_5, .ref q_7, .ref q_9, .ref q_11, .ref q_13, .ref q_15, .int 0, .int 0, .int 0, .int 0, .ref q_17, .null, .null])), (q_1, .inl (cA_2, 120, .inl (fun _ => 0))), (q_3, .inl (cA_4, 80, .inl (fun _ => 0))), (q_5, .inl (cA_6, 128, .inl (fun _ => 0))), (q_7, .inl (cA_8, 4, .inl (fun _ => 0))), (q_9, .inl (cA_10, 4, .inl (fun _ => 0))), (q_11, .inl (cA_12, 128, .inl (fun _ => 0))), (q_13, .inl (cA_14, 4, .inl (fun _ => 0))), (q_15, .inl (cA_16, 256, .inl (fun _ => 0))), (q_17, .inl (cA_18, 256, .inl (fun _ => 0)))] := hD
  refine lv_aload_n hx hb dX9_init_77 rfl (lv_at hl 0 rfl) ?_
  refine lv_sipush (v := 256) hx hb dX9_init_78 (by decide) ?_
  refine va_newa (atype := .int) (ty := .int) (a0 := (256, .inl (fun _ => 0))) (N' := 256) hx hb (hts (.arrayClass .int) (List.mem_of_getElem? (i := 4) rfl)) rfl hK hP hD hS hA (na_i 256) (by decide) (by decide) (by decide) (Nat.le_of_ble_eq_true rfl) (Nat.le_of_ble_eq_true rfl) dX9_init_81 (fun q_19 cA_20 H hK hP hD hS => ?_)
  have hP : va_P D vwCl [(h0, .inr (8, [.ref q_1, .int 0, .ref q_3, .int 0, .ref q_5, .ref q_7, .ref q_9, .ref q_11, .ref q_13, .ref q_15, .int 0, .int 0, .int 0, .int 0, .ref q_17, .null, .null])), (q_1, .inl (cA_2, 120, .inl (fun _ => 0))), (q_3, .inl (cA_4, 80, .inl (fun _ => 0))), (q_5, .inl (cA_6, 128, .inl (fun _ => 0))), (q_7, .inl (cA_8, 4, .inl (fun _ => 0))), (q_9, .inl (cA_10, 4, .inl (fun _ => 0))), (q_11, .inl (cA_12, 128, .inl (fun _ => 0))), (q_13, .inl (cA_14, 4, .inl (fun _ => 0))), (q_15, .inl (cA_16, 256, .inl (fun _ => 0))), (q_17, .inl (cA_18, 256, .inl (fun _ => 0))), (q_19, .inl (cA_20, 256, .inl (fun _ => 0)))] H := hP
  have hD : va_D A [(h0, .inr (8, [.ref q_1, .int 0, .ref q_3, .int 0, .ref q_5, .ref q_7, .ref q_9, .ref q_11, .ref q_13, .ref q_15, .int 0, .int 0, .int 0, .int 0, .ref q_17, .null, .null])), (q_1, .inl (cA_2, 120, .inl (fun _ => 0))), (q_3, .inl (cA_4, 80, .inl (fun _ => 0))), (q_5, .inl (cA_6, 128, .inl (fun _ => 0))), (q_7, .inl (cA_8, 4, .inl (fun _ => 0))), (q_9, .inl (cA_10, 4, .inl (fun _ => 0))), (q_11, .inl (cA_12, 128, .inl (fun _ => 0))), (q_13, .inl (cA_14, 4, .inl (fun _ => 0))), (q_15, .inl (cA_16, 256, .inl (fun _ => 0))), (q_17, .inl (cA_18, 256, .inl (fun _ => 0))), (q_19, .inl (cA_20, 256, .inl (fun _ => 0)))] := hD
  have hK : va_K D vwCl [(cA_2, .int), (cA_4, .int), (cA_6, .int), (cA_8, .int), (cA_10, .int), (cA_12, .int), (cA_14, .int), (cA_16, .int), (cA_18, .int), (cA_20, .int)] s := hK
  refine va_putF (D := D) (ci := 8) (v := .ref q_19) (ty := .array .int) (C := RX9) (T := TX9) (N := 17) hx hb hts hiX9_init_X9 tyX9 tyX9_ok nmX9 hown hK hP hD hS 0 rfl rfl 15 (by decide) (hts (.fieldLink RX9 37 "OneHandsetModel" "from" "[I") (List.mem_of_getElem? (i := 14) rfl)) (fun _ h9 => h9) rfl hin rfl (by decide +kernel) rfl rfl (Nat.le_of_ble_eq_true rfl) dX9_init_83 (fun H locs hP hD hS => ?_)
  have hP : va_P D vwCl [(h0, .inr (8, [.ref q_1, .int 0, .ref q_3, .int 0, .ref q_5, .ref q_7, .ref q_9, .ref q_11, .ref q_13, .ref q_15, .int 0, .int 0, .int 0, .int 0, .ref q_17, .ref q_19, .null])), (q_1, .inl (cA_2, 120, .inl (fun _ => 0))), (q_3, .inl (cA_4, 80, .inl (fun _ => 0))), (q_5, .inl (cA_6, 128, .inl (fun _ => 0))), (q_7, .inl (cA_8, 4, .inl (fun _ => 0))), (q_9, .inl (cA_10, 4, .inl (fun _ => 0))), (q_11, .inl (cA_12, 128, .inl (fun _ => 0))), (q_13, .inl (cA_14, 4, .inl (fun _ => 0))), (q_15, .inl (cA_16, 256, .inl (fun _ => 0))), (q_17, .inl (cA_18, 256, .inl (fun _ => 0))), (q_19, .inl (cA_20, 256, .inl (fun _ => 0)))] H := hP
  have hD : va_D A [(h0, .inr (8, [.ref q_1, .int 0, .ref q_3, .int 0, .ref q_5, .ref q_7, .ref q_9, .ref q_11, .ref q_13, .ref q_15, .int 0, .int 0, .int 0, .int 0, .ref q_17, .ref q_19, .null])), (q_1, .inl (cA_2, 120, .inl (fun _ => 0))), (q_3, .inl (cA_4, 80, .inl (fun _ => 0))), (q_5, .inl (cA_6, 128, .inl (fun _ => 0))), (q_7, .inl (cA_8, 4, .inl (fun _ => 0))), (q_9, .inl (cA_10, 4, .inl (fun _ => 0))), (q_11, .inl (cA_12, 128, .inl (fun _ => 0))), (q_13, .inl (cA_14, 4, .inl (fun _ => 0))), (q_15, .inl (cA_16, 256, .inl (fun _ => 0))), (q_17, .inl (cA_18, 256, .inl (fun _ => 0))), (q_19, .inl (cA_20, 256, .inl (fun _ => 0)))] := hD
  refine lv_aload_n hx hb dX9_init_86 rfl (lv_at hl 0 rfl) ?_
  refine lv_sipush (v := 256) hx hb dX9_init_87 (by decide) ?_
  refine va_newa (atype := .int) (ty := .int) (a0 := (256, .inl (fun _ => 0))) (N' := 256) hx hb (hts (.arrayClass .int) (List.mem_of_getElem? (i := 4) rfl)) rfl hK hP hD hS hA (na_i 256) (by decide) (by decide) (by decide) (Nat.le_of_ble_eq_true rfl) (Nat.le_of_ble_eq_true rfl) dX9_init_90 (fun q_21 cA_22 H hK hP hD hS => ?_)
  have hP : va_P D vwCl [(h0, .inr (8, [.ref q_1, .int 0, .ref q_3, .int 0, .ref q_5, .ref q_7, .ref q_9, .ref q_11, .ref q_13, .ref q_15, .int 0, .int 0, .int 0, .int 0, .ref q_17, .ref q_19, .null])), (q_1, .inl (cA_2, 120, .inl (fun _ => 0))), (q_3, .inl (cA_4, 80, .inl (fun _ => 0))), (q_5, .inl (cA_6, 128, .inl (fun _ => 0))), (q_7, .inl (cA_8, 4, .inl (fun _ => 0))), (q_9, .inl (cA_10, 4, .inl (fun _ => 0))), (q_11, .inl (cA_12, 128, .inl (fun _ => 0))), (q_13, .inl (cA_14, 4, .inl (fun _ => 0))), (q_15, .inl (cA_16, 256, .inl (fun _ => 0))), (q_17, .inl (cA_18, 256, .inl (fun _ => 0))), (q_19, .inl (cA_20, 256, .inl (fun _ => 0))), (q_21, .inl (cA_22, 256, .inl (fun _ => 0)))] H := hP
  have hD : va_D A [(h0, .inr (8, [.ref q_1, .int 0, .ref q_3, .int 0, .ref q_5, .ref q_7, .ref q_9, .ref q_11, .ref q_13, .ref q_15, .int 0, .int 0, .int 0, .int 0, .ref q_17, .ref q_19, .null])), (q_1, .inl (cA_2, 120, .inl (fun _ => 0))), (q_3, .inl (cA_4, 80, .inl (fun _ => 0))), (q_5, .inl (cA_6, 128, .inl (fun _ => 0))), (q_7, .inl (cA_8, 4, .inl (fun _ => 0))), (q_9, .inl (cA_10, 4, .inl (fun _ => 0))), (q_11, .inl (cA_12, 128, .inl (fun _ => 0))), (q_13, .inl (cA_14, 4, .inl (fun _ => 0))), (q_15, .inl (cA_16, 256, .inl (fun _ => 0))), (q_17, .inl (cA_18, 256, .inl (fun _ => 0))), (q_19, .inl (cA_20, 256, .inl (fun _ => 0))), (q_21, .inl (cA_22, 256, .inl (fun _ => 0)))] := hD
  have hK : va_K D vwCl [(cA_2, .int), (cA_4, .int), (cA_6, .int), (cA_8, .int), (cA_10, .int), (cA_12, .int), (cA_14, .int), (cA_16, .int), (cA_18, .int), (cA_20, .int), (cA_22, .int)] s := hK
  refine va_putF (D := D) (ci := 8) (v := .ref q_21) (ty := .array .int) (C := RX9) (T := TX9) (N := 17) hx hb hts hiX9_init_X9 tyX9 tyX9_ok nmX9 hown hK hP hD hS 0 rfl rfl 16 (by decide) (hts (.fieldLink RX9 40 "OneHandsetModel" "by" "[I") (List.mem_of_getElem? (i := 15) rfl)) (fun _ h9 => h9) rfl hin rfl (by decide +kernel) rfl rfl (Nat.le_of_ble_eq_true rfl) dX9_init_92 (fun H locs hP hD hS => ?_)
  have hP : va_P D vwCl [(h0, .inr (8, [.ref q_1, .int 0, .ref q_3, .int 0, .ref q_5, .ref q_7, .ref q_9, .ref q_11, .ref q_13, .ref q_15, .int 0, .int 0, .int 0, .int 0, .ref q_17, .ref q_19, .ref q_21])), (q_1, .inl (cA_2, 120, .inl (fun _ => 0))), (q_3, .inl (cA_4, 80, .inl (fun _ => 0))), (q_5, .inl (cA_6, 128, .inl (fun _ => 0))), (q_7, .inl (cA_8, 4, .inl (fun _ => 0))), (q_9, .inl (cA_10, 4, .inl (fun _ => 0))), (q_11, .inl (cA_12, 128, .inl (fun _ => 0))), (q_13, .inl (cA_14, 4, .inl (fun _ => 0))), (q_15, .inl (cA_16, 256, .inl (fun _ => 0))), (q_17, .inl (cA_18, 256, .inl (fun _ => 0))), (q_19, .inl (cA_20, 256, .inl (fun _ => 0))), (q_21, .inl (cA_22, 256, .inl (fun _ => 0)))] H := hP
  have hD : va_D A [(h0, .inr (8, [.ref q_1, .int 0, .ref q_3, .int 0, .ref q_5, .ref q_7, .ref q_9, .ref q_11, .ref q_13, .ref q_15, .int 0, .int 0, .int 0, .int 0, .ref q_17, .ref q_19, .ref q_21])), (q_1, .inl (cA_2, 120, .inl (fun _ => 0))), (q_3, .inl (cA_4, 80, .inl (fun _ => 0))), (q_5, .inl (cA_6, 128, .inl (fun _ => 0))), (q_7, .inl (cA_8, 4, .inl (fun _ => 0))), (q_9, .inl (cA_10, 4, .inl (fun _ => 0))), (q_11, .inl (cA_12, 128, .inl (fun _ => 0))), (q_13, .inl (cA_14, 4, .inl (fun _ => 0))), (q_15, .inl (cA_16, 256, .inl (fun _ => 0))), (q_17, .inl (cA_18, 256, .inl (fun _ => 0))), (q_19, .inl (cA_20, 256, .inl (fun _ => 0))), (q_21, .inl (cA_22, 256, .inl (fun _ => 0)))] := hD
  refine lv_iconst (v := 0) hx hb dX9_init_95 (by decide) ?_
  refine lv_istore_n (lv' := [(1, .int 0), (0, .ref h0)]) hx hb dX9_init_96 rfl hl (by decide) rfl (fun ls hl => ?_)
  refine lv_iload_n hx hb dX9_init_97 rfl (lv_at hl 0 rfl) ?_
  refine lv_iconst (v := 4) hx hb dX9_init_98 (by decide) ?_
  refine lv_icmp_ge (tgt := 129) hx hb dX9_init_99 (by decide) (fun c_23 => absurd c_23 (by decide)) (fun _ => ?_)
  refine lv_aload_n hx hb dX9_init_102 rfl (lv_at hl 1 rfl) ?_
  refine va_get (D := D) (ci := 8) (v := .ref q_7) (C := RX9) (T := TX9) (N := 17) hx hb hts hiX9_init_X9 hown hK hP 0 rfl rfl 5 (by decide) (hts (.fieldLink RX9 19 "OneHandsetModel" "states" "[I") (List.mem_of_getElem? (i := 8) rfl)) (fun _ h9 => h9) rfl dX9_init_103 ?_
  refine lv_iload_n hx hb dX9_init_106 rfl (lv_at hl 0 rfl) ?_
  refine lv_iconst (v := 1) hx hb dX9_init_107 (by decide) ?_
  refine va_iast hx hb hK hP hD hS 4 3 rfl rfl (vin (by decide)) dX9_init_108 (fun H locs hP hD hS => ?_)
  have hP : va_P D vwCl [(h0, .inr (8, [.ref q_1, .int 0, .ref q_3, .int 0, .ref q_5, .ref q_7, .ref q_9, .ref q_11, .ref q_13, .ref q_15, .int 0, .int 0, .int 0, .int 0, .ref q_17, .ref q_19, .ref q_21])), (q_1, .inl (cA_2, 120, .inl (fun _ => 0))), (q_3, .inl (cA_4, 80, .inl (fun _ => 0))), (q_5, .inl (cA_6, 128, .inl (fun _ => 0))), (q_7, .inl (cA_8, 4, .inl (upd (fun _ => 0) 0 1))), (q_9, .inl (cA_10, 4, .inl (fun _ => 0))), (q_11, .inl (cA_12, 128, .inl (fun _ => 0))), (q_13, .inl (cA_14, 4, .inl (fun _ => 0))), (q_15, .inl (cA_16, 256, .inl (fun _ => 0))), (q_17, .inl (cA_18, 256, .inl (fun _ => 0))), (q_19, .inl (cA_20, 256, .inl (fun _ => 0))), (q_21, .inl (cA_22, 256, .inl (fun _ => 0)))] H := hP
  have hD : va_D A [(h0, .inr (8, [.ref q_1, .int 0, .ref q_3, .int 0, .ref q_5, .ref q_7, .ref q_9, .ref q_11, .ref q_13, .ref q_15, .int 0, .int 0, .int 0, .int 0, .ref q_17, .ref q_19, .ref q_21])), (q_1, .inl (cA_2, 120, .inl (fun _ => 0))), (q_3, .inl (cA_4, 80, .inl (fun _ => 0))), (q_5, .inl (cA_6, 128, .inl (fun _ => 0))), (q_7, .inl (cA_8, 4, .inl (upd (fun _ => 0) 0 1))), (q_9, .inl (cA_10, 4, .inl (fun _ => 0))), (q_11, .inl (cA_12, 128, .inl (fun _ => 0))), (q_13, .inl (cA_14, 4, .inl (fun _ => 0))), (q_15, .inl (cA_16, 256, .inl (fun _ => 0))), (q_17, .inl (cA_18, 256, .inl (fun _ => 0))), (q_19, .inl (cA_20, 256, .inl (fun _ => 0))), (q_21, .inl (cA_22, 256, .inl (fun _ => 0)))] := hD
  refine lv_aload_n hx hb dX9_init_109 rfl (lv_at hl 1 rfl) ?_
  refine va_get (D := D) (ci := 8) (v := .ref q_9) (C := RX9) (T := TX9) (N := 17) hx hb hts hiX9_init_X9 hown hK hP 0 rfl rfl 6 (by decide) (hts (.fieldLink RX9 22 "OneHandsetModel" "buttons" "[I") (List.mem_of_getElem? (i := 9) rfl)) (fun _ h9 => h9) rfl dX9_init_110 ?_
  refine lv_iload_n hx hb dX9_init_113 rfl (lv_at hl 0 rfl) ?_
  refine lv_iconst (v := 1) hx hb dX9_init_114 (by decide) ?_
  refine va_iast hx hb hK hP hD hS 5 4 rfl rfl (vin (by decide)) dX9_init_115 (fun H locs hP hD hS => ?_)
  have hP : va_P D vwCl [(h0, .inr (8, [.ref q_1, .int 0, .ref q_3, .int 0, .ref q_5, .ref q_7, .ref q_9, .ref q_11, .ref q_13, .ref q_15, .int 0, .int 0, .int 0, .int 0, .ref q_17, .ref q_19, .ref q_21])), (q_1, .inl (cA_2, 120, .inl (fun _ => 0))), (q_3, .inl (cA_4, 80, .inl (fun _ => 0))), (q_5, .inl (cA_6, 128, .inl (fun _ => 0))), (q_7, .inl (cA_8, 4, .inl (upd (fun _ => 0) 0 1))), (q_9, .inl (cA_10, 4, .inl (upd (fun _ => 0) 0 1))), (q_11, .inl (cA_12, 128, .inl (fun _ => 0))), (q_13, .inl (cA_14, 4, .inl (fun _ => 0))), (q_15, .inl (cA_16, 256, .inl (fun _ => 0))), (q_17, .inl (cA_18, 256, .inl (fun _ => 0))), (q_19, .inl (cA_20, 256, .inl (fun _ => 0))), (q_21, .inl (cA_22, 256, .inl (fun _ => 0)))] H := hP
  have hD : va_D A [(h0, .inr (8, [.ref q_1, .int 0, .ref q_3, .int 0, .ref q_5, .ref q_7, .ref q_9, .ref q_11, .ref q_13, .ref q_15, .int 0, .int 0, .int 0, .int 0, .ref q_17, .ref q_19, .ref q_21])), (q_1, .inl (cA_2, 120, .inl (fun _ => 0))), (q_3, .inl (cA_4, 80, .inl (fun _ => 0))), (q_5, .inl (cA_6, 128, .inl (fun _ => 0))), (q_7, .inl (cA_8, 4, .inl (upd (fun _ => 0) 0 1))), (q_9, .inl (cA_10, 4, .inl (upd (fun _ => 0) 0 1))), (q_11, .inl (cA_12, 128, .inl (fun _ => 0))), (q_13, .inl (cA_14, 4, .inl (fun _ => 0))), (q_15, .inl (cA_16, 256, .inl (fun _ => 0))), (q_17, .inl (cA_18, 256, .inl (fun _ => 0))), (q_19, .inl (cA_20, 256, .inl (fun _ => 0))), (q_21, .inl (cA_22, 256, .inl (fun _ => 0)))] := hD
  refine lv_aload_n hx hb dX9_init_116 rfl (lv_at hl 1 rfl) ?_
  refine va_get (D := D) (ci := 8) (v := .ref q_13) (C := RX9) (T := TX9) (N := 17) hx hb hts hiX9_init_X9 hown hK hP 0 rfl rfl 8 (by decide) (hts (.fieldLink RX9 28 "OneHandsetModel" "sets" "[I") (List.mem_of_getElem? (i := 11) rfl)) (fun _ h9 => h9) rfl dX9_init_117 ?_
  refine lv_iload_n hx hb dX9_init_120 rfl (lv_at hl 0 rfl) ?_
  refine lv_iconst (v := 1) hx hb dX9_init_121 (by decide) ?_
  refine va_iast hx hb hK hP hD hS 7 6 rfl rfl (vin (by decide)) dX9_init_122 (fun H locs hP hD hS => ?_)
  have hP : va_P D vwCl [(h0, .inr (8, [.ref q_1, .int 0, .ref q_3, .int 0, .ref q_5, .ref q_7, .ref q_9, .ref q_11, .ref q_13, .ref q_15, .int 0, .int 0, .int 0, .int 0, .ref q_17, .ref q_19, .ref q_21])), (q_1, .inl (cA_2, 120, .inl (fun _ => 0))), (q_3, .inl (cA_4, 80, .inl (fun _ => 0))), (q_5, .inl (cA_6, 128, .inl (fun _ => 0))), (q_7, .inl (cA_8, 4, .inl (upd (fun _ => 0) 0 1))), (q_9, .inl (cA_10, 4, .inl (upd (fun _ => 0) 0 1))), (q_11, .inl (cA_12, 128, .inl (fun _ => 0))), (q_13, .inl (cA_14, 4, .inl (upd (fun _ => 0) 0 1))), (q_15, .inl (cA_16, 256, .inl (fun _ => 0))), (q_17, .inl (cA_18, 256, .inl (fun _ => 0))), (q_19, .inl (cA_20, 256, .inl (fun _ => 0))), (q_21, .inl (cA_22, 256, .inl (fun _ => 0)))] H := hP
  have hD : va_D A [(h0, .inr (8, [.ref q_1, .int 0, .ref q_3, .int 0, .ref q_5, .ref q_7, .ref q_9, .ref q_11, .ref q_13, .ref q_15, .int 0, .int 0, .int 0, .int 0, .ref q_17, .ref q_19, .ref q_21])), (q_1, .inl (cA_2, 120, .inl (fun _ => 0))), (q_3, .inl (cA_4, 80, .inl (fun _ => 0))), (q_5, .inl (cA_6, 128, .inl (fun _ => 0))), (q_7, .inl (cA_8, 4, .inl (upd (fun _ => 0) 0 1))), (q_9, .inl (cA_10, 4, .inl (upd (fun _ => 0) 0 1))), (q_11, .inl (cA_12, 128, .inl (fun _ => 0))), (q_13, .inl (cA_14, 4, .inl (upd (fun _ => 0) 0 1))), (q_15, .inl (cA_16, 256, .inl (fun _ => 0))), (q_17, .inl (cA_18, 256, .inl (fun _ => 0))), (q_19, .inl (cA_20, 256, .inl (fun _ => 0))), (q_21, .inl (cA_22, 256, .inl (fun _ => 0)))] := hD
  refine lv_iinc (v := 1) (lv' := [(1, .int 1), (0, .ref h0)]) hx hb dX9_init_123 hl (k := 0) rfl (by decide) (by decide) rfl (fun ls hl => ?_)
  refine lv_goto (tgt := 97) hx hb dX9_init_126 (by decide) ?_
  refine lv_iload_n hx hb dX9_init_97 rfl (lv_at hl 0 rfl) ?_
  refine lv_iconst (v := 4) hx hb dX9_init_98 (by decide) ?_
  refine lv_icmp_ge (tgt := 129) hx hb dX9_init_99 (by decide) (fun c_24 => absurd c_24 (by decide)) (fun _ => ?_)
  refine lv_aload_n hx hb dX9_init_102 rfl (lv_at hl 1 rfl) ?_
  refine va_get (D := D) (ci := 8) (v := .ref q_7) (C := RX9) (T := TX9) (N := 17) hx hb hts hiX9_init_X9 hown hK hP 0 rfl rfl 5 (by decide) (hts (.fieldLink RX9 19 "OneHandsetModel" "states" "[I") (List.mem_of_getElem? (i := 8) rfl)) (fun _ h9 => h9) rfl dX9_init_103 ?_
  refine lv_iload_n hx hb dX9_init_106 rfl (lv_at hl 0 rfl) ?_
  refine lv_iconst (v := 1) hx hb dX9_init_107 (by decide) ?_
  refine va_iast hx hb hK hP hD hS 4 3 rfl rfl (vin (by decide)) dX9_init_108 (fun H locs hP hD hS => ?_)
  have hP : va_P D vwCl [(h0, .inr (8, [.ref q_1, .int 0, .ref q_3, .int 0, .ref q_5, .ref q_7, .ref q_9, .ref q_11, .ref q_13, .ref q_15, .int 0, .int 0, .int 0, .int 0, .ref q_17, .ref q_19, .ref q_21])), (q_1, .inl (cA_2, 120, .inl (fun _ => 0))), (q_3, .inl (cA_4, 80, .inl (fun _ => 0))), (q_5, .inl (cA_6, 128, .inl (fun _ => 0))), (q_7, .inl (cA_8, 4, .inl (upd (upd (fun _ => 0) 0 1) 1 1))), (q_9, .inl (cA_10, 4, .inl (upd (fun _ => 0) 0 1))), (q_11, .inl (cA_12, 128, .inl (fun _ => 0))), (q_13, .inl (cA_14, 4, .inl (upd (fun _ => 0) 0 1))), (q_15, .inl (cA_16, 256, .inl (fun _ => 0))), (q_17, .inl (cA_18, 256, .inl (fun _ => 0))), (q_19, .inl (cA_20, 256, .inl (fun _ => 0))), (q_21, .inl (cA_22, 256, .inl (fun _ => 0)))] H := hP
  have hD : va_D A [(h0, .inr (8, [.ref q_1, .int 0, .ref q_3, .int 0, .ref q_5, .ref q_7, .ref q_9, .ref q_11, .ref q_13, .ref q_15, .int 0, .int 0, .int 0, .int 0, .ref q_17, .ref q_19, .ref q_21])), (q_1, .inl (cA_2, 120, .inl (fun _ => 0))), (q_3, .inl (cA_4, 80, .inl (fun _ => 0))), (q_5, .inl (cA_6, 128, .inl (fun _ => 0))), (q_7, .inl (cA_8, 4, .inl (upd (upd (fun _ => 0) 0 1) 1 1))), (q_9, .inl (cA_10, 4, .inl (upd (fun _ => 0) 0 1))), (q_11, .inl (cA_12, 128, .inl (fun _ => 0))), (q_13, .inl (cA_14, 4, .inl (upd (fun _ => 0) 0 1))), (q_15, .inl (cA_16, 256, .inl (fun _ => 0))), (q_17, .inl (cA_18, 256, .inl (fun _ => 0))), (q_19, .inl (cA_20, 256, .inl (fun _ => 0))), (q_21, .inl (cA_22, 256, .inl (fun _ => 0)))] := hD
  refine lv_aload_n hx hb dX9_init_109 rfl (lv_at hl 1 rfl) ?_
  refine va_get (D := D) (ci := 8) (v := .ref q_9) (C := RX9) (T := TX9) (N := 17) hx hb hts hiX9_init_X9 hown hK hP 0 rfl rfl 6 (by decide) (hts (.fieldLink RX9 22 "OneHandsetModel" "buttons" "[I") (List.mem_of_getElem? (i := 9) rfl)) (fun _ h9 => h9) rfl dX9_init_110 ?_
  refine lv_iload_n hx hb dX9_init_113 rfl (lv_at hl 0 rfl) ?_
  refine lv_iconst (v := 1) hx hb dX9_init_114 (by decide) ?_
  refine va_iast hx hb hK hP hD hS 5 4 rfl rfl (vin (by decide)) dX9_init_115 (fun H locs hP hD hS => ?_)
  have hP : va_P D vwCl [(h0, .inr (8, [.ref q_1, .int 0, .ref q_3, .int 0, .ref q_5, .ref q_7, .ref q_9, .ref q_11, .ref q_13, .ref q_15, .int 0, .int 0, .int 0, .int 0, .ref q_17, .ref q_19, .ref q_21])), (q_1, .inl (cA_2, 120, .inl (fun _ => 0))), (q_3, .inl (cA_4, 80, .inl (fun _ => 0))), (q_5, .inl (cA_6, 128, .inl (fun _ => 0))), (q_7, .inl (cA_8, 4, .inl (upd (upd (fun _ => 0) 0 1) 1 1))), (q_9, .inl (cA_10, 4, .inl (upd (upd (fun _ => 0) 0 1) 1 1))), (q_11, .inl (cA_12, 128, .inl (fun _ => 0))), (q_13, .inl (cA_14, 4, .inl (upd (fun _ => 0) 0 1))), (q_15, .inl (cA_16, 256, .inl (fun _ => 0))), (q_17, .inl (cA_18, 256, .inl (fun _ => 0))), (q_19, .inl (cA_20, 256, .inl (fun _ => 0))), (q_21, .inl (cA_22, 256, .inl (fun _ => 0)))] H := hP
  have hD : va_D A [(h0, .inr (8, [.ref q_1, .int 0, .ref q_3, .int 0, .ref q_5, .ref q_7, .ref q_9, .ref q_11, .ref q_13, .ref q_15, .int 0, .int 0, .int 0, .int 0, .ref q_17, .ref q_19, .ref q_21])), (q_1, .inl (cA_2, 120, .inl (fun _ => 0))), (q_3, .inl (cA_4, 80, .inl (fun _ => 0))), (q_5, .inl (cA_6, 128, .inl (fun _ => 0))), (q_7, .inl (cA_8, 4, .inl (upd (upd (fun _ => 0) 0 1) 1 1))), (q_9, .inl (cA_10, 4, .inl (upd (upd (fun _ => 0) 0 1) 1 1))), (q_11, .inl (cA_12, 128, .inl (fun _ => 0))), (q_13, .inl (cA_14, 4, .inl (upd (fun _ => 0) 0 1))), (q_15, .inl (cA_16, 256, .inl (fun _ => 0))), (q_17, .inl (cA_18, 256, .inl (fun _ => 0))), (q_19, .inl (cA_20, 256, .inl (fun _ => 0))), (q_21, .inl (cA_22, 256, .inl (fun _ => 0)))] := hD
  refine lv_aload_n hx hb dX9_init_116 rfl (lv_at hl 1 rfl) ?_
  refine va_get (D := D) (ci := 8) (v := .ref q_13) (C := RX9) (T := TX9) (N := 17) hx hb hts hiX9_init_X9 hown hK hP 0 rfl rfl 8 (by decide) (hts (.fieldLink RX9 28 "OneHandsetModel" "sets" "[I") (List.mem_of_getElem? (i := 11) rfl)) (fun _ h9 => h9) rfl dX9_init_117 ?_
  refine lv_iload_n hx hb dX9_init_120 rfl (lv_at hl 0 rfl) ?_
  refine lv_iconst (v := 1) hx hb dX9_init_121 (by decide) ?_
  refine va_iast hx hb hK hP hD hS 7 6 rfl rfl (vin (by decide)) dX9_init_122 (fun H locs hP hD hS => ?_)
  have hP : va_P D vwCl [(h0, .inr (8, [.ref q_1, .int 0, .ref q_3, .int 0, .ref q_5, .ref q_7, .ref q_9, .ref q_11, .ref q_13, .ref q_15, .int 0, .int 0, .int 0, .int 0, .ref q_17, .ref q_19, .ref q_21])), (q_1, .inl (cA_2, 120, .inl (fun _ => 0))), (q_3, .inl (cA_4, 80, .inl (fun _ => 0))), (q_5, .inl (cA_6, 128, .inl (fun _ => 0))), (q_7, .inl (cA_8, 4, .inl (upd (upd (fun _ => 0) 0 1) 1 1))), (q_9, .inl (cA_10, 4, .inl (upd (upd (fun _ => 0) 0 1) 1 1))), (q_11, .inl (cA_12, 128, .inl (fun _ => 0))), (q_13, .inl (cA_14, 4, .inl (upd (upd (fun _ => 0) 0 1) 1 1))), (q_15, .inl (cA_16, 256, .inl (fun _ => 0))), (q_17, .inl (cA_18, 256, .inl (fun _ => 0))), (q_19, .inl (cA_20, 256, .inl (fun _ => 0))), (q_21, .inl (cA_22, 256, .inl (fun _ => 0)))] H := hP
  have hD : va_D A [(h0, .inr (8, [.ref q_1, .int 0, .ref q_3, .int 0, .ref q_5, .ref q_7, .ref q_9, .ref q_11, .ref q_13, .ref q_15, .int 0, .int 0, .int 0, .int 0, .ref q_17, .ref q_19, .ref q_21])), (q_1, .inl (cA_2, 120, .inl (fun _ => 0))), (q_3, .inl (cA_4, 80, .inl (fun _ => 0))), (q_5, .inl (cA_6, 128, .inl (fun _ => 0))), (q_7, .inl (cA_8, 4, .inl (upd (upd (fun _ => 0) 0 1) 1 1))), (q_9, .inl (cA_10, 4, .inl (upd (upd (fun _ => 0) 0 1) 1 1))), (q_11, .inl (cA_12, 128, .inl (fun _ => 0))), (q_13, .inl (cA_14, 4, .inl (upd (upd (fun _ => 0) 0 1) 1 1))), (q_15, .inl (cA_16, 256, .inl (fun _ => 0))), (q_17, .inl (cA_18, 256, .inl (fun _ => 0))), (q_19, .inl (cA_20, 256, .inl (fun _ => 0))), (q_21, .inl (cA_22, 256, .inl (fun _ => 0)))] := hD
  refine lv_iinc (v := 2) (lv' := [(1, .int 2), (0, .ref h0)]) hx hb dX9_init_123 hl (k := 0) rfl (by decide) (by decide) rfl (fun ls hl => ?_)
  refine lv_goto (tgt := 97) hx hb dX9_init_126 (by decide) ?_
  refine lv_iload_n hx hb dX9_init_97 rfl (lv_at hl 0 rfl) ?_
  refine lv_iconst (v := 4) hx hb dX9_init_98 (by decide) ?_
  refine lv_icmp_ge (tgt := 129) hx hb dX9_init_99 (by decide) (fun c_25 => absurd c_25 (by decide)) (fun _ => ?_)
  refine lv_aload_n hx hb dX9_init_102 rfl (lv_at hl 1 rfl) ?_
  refine va_get (D := D) (ci := 8) (v := .ref q_7) (C := RX9) (T := TX9) (N := 17) hx hb hts hiX9_init_X9 hown hK hP 0 rfl rfl 5 (by decide) (hts (.fieldLink RX9 19 "OneHandsetModel" "states" "[I") (List.mem_of_getElem? (i := 8) rfl)) (fun _ h9 => h9) rfl dX9_init_103 ?_
  refine lv_iload_n hx hb dX9_init_106 rfl (lv_at hl 0 rfl) ?_
  refine lv_iconst (v := 1) hx hb dX9_init_107 (by decide) ?_
  refine va_iast hx hb hK hP hD hS 4 3 rfl rfl (vin (by decide)) dX9_init_108 (fun H locs hP hD hS => ?_)
  have hP : va_P D vwCl [(h0, .inr (8, [.ref q_1, .int 0, .ref q_3, .int 0, .ref q_5, .ref q_7, .ref q_9, .ref q_11, .ref q_13, .ref q_15, .int 0, .int 0, .int 0, .int 0, .ref q_17, .ref q_19, .ref q_21])), (q_1, .inl (cA_2, 120, .inl (fun _ => 0))), (q_3, .inl (cA_4, 80, .inl (fun _ => 0))), (q_5, .inl (cA_6, 128, .inl (fun _ => 0))), (q_7, .inl (cA_8, 4, .inl (upd (upd (upd (fun _ => 0) 0 1) 1 1) 2 1))), (q_9, .inl (cA_10, 4, .inl (upd (upd (fun _ => 0) 0 1) 1 1))), (q_11, .inl (cA_12, 128, .inl (fun _ => 0))), (q_13, .inl (cA_14, 4, .inl (upd (upd (fun _ => 0) 0 1) 1 1))), (q_15, .inl (cA_16, 256, .inl (fun _ => 0))), (q_17, .inl (cA_18, 256, .inl (fun _ => 0))), (q_19, .inl (cA_20, 256, .inl (fun _ => 0))), (q_21, .inl (cA_22, 256, .inl (fun _ => 0)))] H := hP
  have hD : va_D A [(h0, .inr (8, [.ref q_1, .int 0, .ref q_3, .int 0, .ref q_5, .ref q_7, .ref q_9, .ref q_11, .ref q_13, .ref q_15, .int 0, .int 0, .int 0, .int 0, .ref q_17, .ref q_19, .ref q_21])), (q_1, .inl (cA_2, 120, .inl (fun _ => 0))), (q_3, .inl (cA_4, 80, .inl (fun _ => 0))), (q_5, .inl (cA_6, 128, .inl (fun _ => 0))), (q_7, .inl (cA_8, 4, .inl (upd (upd (upd (fun _ => 0) 0 1) 1 1) 2 1))), (q_9, .inl (cA_10, 4, .inl (upd (upd (fun _ => 0) 0 1) 1 1))), (q_11, .inl (cA_12, 128, .inl (fun _ => 0))), (q_13, .inl (cA_14, 4, .inl (upd (upd (fun _ => 0) 0 1) 1 1))), (q_15, .inl (cA_16, 256, .inl (fun _ => 0))), (q_17, .inl (cA_18, 256, .inl (fun _ => 0))), (q_19, .inl (cA_20, 256, .inl (fun _ => 0))), (q_21, .inl (cA_22, 256, .inl (fun _ => 0)))] := hD
  refine lv_aload_n hx hb dX9_init_109 rfl (lv_at hl 1 rfl) ?_
  refine va_get (D := D) (ci := 8) (v := .ref q_9) (C := RX9) (T := TX9) (N := 17) hx hb hts hiX9_init_X9 hown hK hP 0 rfl rfl 6 (by decide) (hts (.fieldLink RX9 22 "OneHandsetModel" "buttons" "[I") (List.mem_of_getElem? (i := 9) rfl)) (fun _ h9 => h9) rfl dX9_init_110 ?_
  refine lv_iload_n hx hb dX9_init_113 rfl (lv_at hl 0 rfl) ?_
  refine lv_iconst (v := 1) hx hb dX9_init_114 (by decide) ?_
  refine va_iast hx hb hK hP hD hS 5 4 rfl rfl (vin (by decide)) dX9_init_115 (fun H locs hP hD hS => ?_)
  have hP : va_P D vwCl [(h0, .inr (8, [.ref q_1, .int 0, .ref q_3, .int 0, .ref q_5, .ref q_7, .ref q_9, .ref q_11, .ref q_13, .ref q_15, .int 0, .int 0, .int 0, .int 0, .ref q_17, .ref q_19, .ref q_21])), (q_1, .inl (cA_2, 120, .inl (fun _ => 0))), (q_3, .inl (cA_4, 80, .inl (fun _ => 0))), (q_5, .inl (cA_6, 128, .inl (fun _ => 0))), (q_7, .inl (cA_8, 4, .inl (upd (upd (upd (fun _ => 0) 0 1) 1 1) 2 1))), (q_9, .inl (cA_10, 4, .inl (upd (upd (upd (fun _ => 0) 0 1) 1 1) 2 1))), (q_11, .inl (cA_12, 128, .inl (fun _ => 0))), (q_13, .inl (cA_14, 4, .inl (upd (upd (fun _ => 0) 0 1) 1 1))), (q_15, .inl (cA_16, 256, .inl (fun _ => 0))), (q_17, .inl (cA_18, 256, .inl (fun _ => 0))), (q_19, .inl (cA_20, 256, .inl (fun _ => 0))), (q_21, .inl (cA_22, 256, .inl (fun _ => 0)))] H := hP
  have hD : va_D A [(h0, .inr (8, [.ref q_1, .int 0, .ref q_3, .int 0, .ref q_5, .ref q_7, .ref q_9, .ref q_11, .ref q_13, .ref q_15, .int 0, .int 0, .int 0, .int 0, .ref q_17, .ref q_19, .ref q_21])), (q_1, .inl (cA_2, 120, .inl (fun _ => 0))), (q_3, .inl (cA_4, 80, .inl (fun _ => 0))), (q_5, .inl (cA_6, 128, .inl (fun _ => 0))), (q_7, .inl (cA_8, 4, .inl (upd (upd (upd (fun _ => 0) 0 1) 1 1) 2 1))), (q_9, .inl (cA_10, 4, .inl (upd (upd (upd (fun _ => 0) 0 1) 1 1) 2 1))), (q_11, .inl (cA_12, 128, .inl (fun _ => 0))), (q_13, .inl (cA_14, 4, .inl (upd (upd (fun _ => 0) 0 1) 1 1))), (q_15, .inl (cA_16, 256, .inl (fun _ => 0))), (q_17, .inl (cA_18, 256, .inl (fun _ => 0))), (q_19, .inl (cA_20, 256, .inl (fun _ => 0))), (q_21, .inl (cA_22, 256, .inl (fun _ => 0)))] := hD
  refine lv_aload_n hx hb dX9_init_116 rfl (lv_at hl 1 rfl) ?_
  refine va_get (D := D) (ci := 8) (v := .ref q_13) (C := RX9) (T := TX9) (N := 17) hx hb hts hiX9_init_X9 hown hK hP 0 rfl rfl 8 (by decide) (hts (.fieldLink RX9 28 "OneHandsetModel" "sets" "[I") (List.mem_of_getElem? (i := 11) rfl)) (fun _ h9 => h9) rfl dX9_init_117 ?_
  refine lv_iload_n hx hb dX9_init_120 rfl (lv_at hl 0 rfl) ?_
  refine lv_iconst (v := 1) hx hb dX9_init_121 (by decide) ?_
  refine va_iast hx hb hK hP hD hS 7 6 rfl rfl (vin (by decide)) dX9_init_122 (fun H locs hP hD hS => ?_)
  have hP : va_P D vwCl [(h0, .inr (8, [.ref q_1, .int 0, .ref q_3, .int 0, .ref q_5, .ref q_7, .ref q_9, .ref q_11, .ref q_13, .ref q_15, .int 0, .int 0, .int 0, .int 0, .ref q_17, .ref q_19, .ref q_21])), (q_1, .inl (cA_2, 120, .inl (fun _ => 0))), (q_3, .inl (cA_4, 80, .inl (fun _ => 0))), (q_5, .inl (cA_6, 128, .inl (fun _ => 0))), (q_7, .inl (cA_8, 4, .inl (upd (upd (upd (fun _ => 0) 0 1) 1 1) 2 1))), (q_9, .inl (cA_10, 4, .inl (upd (upd (upd (fun _ => 0) 0 1) 1 1) 2 1))), (q_11, .inl (cA_12, 128, .inl (fun _ => 0))), (q_13, .inl (cA_14, 4, .inl (upd (upd (upd (fun _ => 0) 0 1) 1 1) 2 1))), (q_15, .inl (cA_16, 256, .inl (fun _ => 0))), (q_17, .inl (cA_18, 256, .inl (fun _ => 0))), (q_19, .inl (cA_20, 256, .inl (fun _ => 0))), (q_21, .inl (cA_22, 256, .inl (fun _ => 0)))] H := hP
  have hD : va_D A [(h0, .inr (8, [.ref q_1, .int 0, .ref q_3, .int 0, .ref q_5, .ref q_7, .ref q_9, .ref q_11, .ref q_13, .ref q_15, .int 0, .int 0, .int 0, .int 0, .ref q_17, .ref q_19, .ref q_21])), (q_1, .inl (cA_2, 120, .inl (fun _ => 0))), (q_3, .inl (cA_4, 80, .inl (fun _ => 0))), (q_5, .inl (cA_6, 128, .inl (fun _ => 0))), (q_7, .inl (cA_8, 4, .inl (upd (upd (upd (fun _ => 0) 0 1) 1 1) 2 1))), (q_9, .inl (cA_10, 4, .inl (upd (upd (upd (fun _ => 0) 0 1) 1 1) 2 1))), (q_11, .inl (cA_12, 128, .inl (fun _ => 0))), (q_13, .inl (cA_14, 4, .inl (upd (upd (upd (fun _ => 0) 0 1) 1 1) 2 1))), (q_15, .inl (cA_16, 256, .inl (fun _ => 0))), (q_17, .inl (cA_18, 256, .inl (fun _ => 0))), (q_19, .inl (cA_20, 256, .inl (fun _ => 0))), (q_21, .inl (cA_22, 256, .inl (fun _ => 0)))] := hD
  refine lv_iinc (v := 3) (lv' := [(1, .int 3), (0, .ref h0)]) hx hb dX9_init_123 hl (k := 0) rfl (by decide) (by decide) rfl (fun ls hl => ?_)
  refine lv_goto (tgt := 97) hx hb dX9_init_126 (by decide) ?_
  refine lv_iload_n hx hb dX9_init_97 rfl (lv_at hl 0 rfl) ?_
  refine lv_iconst (v := 4) hx hb dX9_init_98 (by decide) ?_
  refine lv_icmp_ge (tgt := 129) hx hb dX9_init_99 (by decide) (fun c_26 => absurd c_26 (by decide)) (fun _ => ?_)
  refine lv_aload_n hx hb dX9_init_102 rfl (lv_at hl 1 rfl) ?_
  refine va_get (D := D) (ci := 8) (v := .ref q_7) (C := RX9) (T := TX9) (N := 17) hx hb hts hiX9_init_X9 hown hK hP 0 rfl rfl 5 (by decide) (hts (.fieldLink RX9 19 "OneHandsetModel" "states" "[I") (List.mem_of_getElem? (i := 8) rfl)) (fun _ h9 => h9) rfl dX9_init_103 ?_
  refine lv_iload_n hx hb dX9_init_106 rfl (lv_at hl 0 rfl) ?_
  refine lv_iconst (v := 1) hx hb dX9_init_107 (by decide) ?_
  refine va_iast hx hb hK hP hD hS 4 3 rfl rfl (vin (by decide)) dX9_init_108 (fun H locs hP hD hS => ?_)
  have hP : va_P D vwCl [(h0, .inr (8, [.ref q_1, .int 0, .ref q_3, .int 0, .ref q_5, .ref q_7, .ref q_9, .ref q_11, .ref q_13, .ref q_15, .int 0, .int 0, .int 0, .int 0, .ref q_17, .ref q_19, .ref q_21])), (q_1, .inl (cA_2, 120, .inl (fun _ => 0))), (q_3, .inl (cA_4, 80, .inl (fun _ => 0))), (q_5, .inl (cA_6, 128, .inl (fun _ => 0))), (q_7, .inl (cA_8, 4, .inl (upd (upd (upd (upd (fun _ => 0) 0 1) 1 1) 2 1) 3 1))), (q_9, .inl (cA_10, 4, .inl (upd (upd (upd (fun _ => 0) 0 1) 1 1) 2 1))), (q_11, .inl (cA_12, 128, .inl (fun _ => 0))), (q_13, .inl (cA_14, 4, .inl (upd (upd (upd (fun _ => 0) 0 1) 1 1) 2 1))), (q_15, .inl (cA_16, 256, .inl (fun _ => 0))), (q_17, .inl (cA_18, 256, .inl (fun _ => 0))), (q_19, .inl (cA_20, 256, .inl (fun _ => 0))), (q_21, .inl (cA_22, 256, .inl (fun _ => 0)))] H := hP
  have hD : va_D A [(h0, .inr (8, [.ref q_1, .int 0, .ref q_3, .int 0, .ref q_5, .ref q_7, .ref q_9, .ref q_11, .ref q_13, .ref q_15, .int 0, .int 0, .int 0, .int 0, .ref q_17, .ref q_19, .ref q_21])), (q_1, .inl (cA_2, 120, .inl (fun _ => 0))), (q_3, .inl (cA_4, 80, .inl (fun _ => 0))), (q_5, .inl (cA_6, 128, .inl (fun _ => 0))), (q_7, .inl (cA_8, 4, .inl (upd (upd (upd (upd (fun _ => 0) 0 1) 1 1) 2 1) 3 1))), (q_9, .inl (cA_10, 4, .inl (upd (upd (upd (fun _ => 0) 0 1) 1 1) 2 1))), (q_11, .inl (cA_12, 128, .inl (fun _ => 0))), (q_13, .inl (cA_14, 4, .inl (upd (upd (upd (fun _ => 0) 0 1) 1 1) 2 1))), (q_15, .inl (cA_16, 256, .inl (fun _ => 0))), (q_17, .inl (cA_18, 256, .inl (fun _ => 0))), (q_19, .inl (cA_20, 256, .inl (fun _ => 0))), (q_21, .inl (cA_22, 256, .inl (fun _ => 0)))] := hD
  refine lv_aload_n hx hb dX9_init_109 rfl (lv_at hl 1 rfl) ?_
  refine va_get (D := D) (ci := 8) (v := .ref q_9) (C := RX9) (T := TX9) (N := 17) hx hb hts hiX9_init_X9 hown hK hP 0 rfl rfl 6 (by decide) (hts (.fieldLink RX9 22 "OneHandsetModel" "buttons" "[I") (List.mem_of_getElem? (i := 9) rfl)) (fun _ h9 => h9) rfl dX9_init_110 ?_
  refine lv_iload_n hx hb dX9_init_113 rfl (lv_at hl 0 rfl) ?_
  refine lv_iconst (v := 1) hx hb dX9_init_114 (by decide) ?_
  refine va_iast hx hb hK hP hD hS 5 4 rfl rfl (vin (by decide)) dX9_init_115 (fun H locs hP hD hS => ?_)
  have hP : va_P D vwCl [(h0, .inr (8, [.ref q_1, .int 0, .ref q_3, .int 0, .ref q_5, .ref q_7, .ref q_9, .ref q_11, .ref q_13, .ref q_15, .int 0, .int 0, .int 0, .int 0, .ref q_17, .ref q_19, .ref q_21])), (q_1, .inl (cA_2, 120, .inl (fun _ => 0))), (q_3, .inl (cA_4, 80, .inl (fun _ => 0))), (q_5, .inl (cA_6, 128, .inl (fun _ => 0))), (q_7, .inl (cA_8, 4, .inl (upd (upd (upd (upd (fun _ => 0) 0 1) 1 1) 2 1) 3 1))), (q_9, .inl (cA_10, 4, .inl (upd (upd (upd (upd (fun _ => 0) 0 1) 1 1) 2 1) 3 1))), (q_11, .inl (cA_12, 128, .inl (fun _ => 0))), (q_13, .inl (cA_14, 4, .inl (upd (upd (upd (fun _ => 0) 0 1) 1 1) 2 1))), (q_15, .inl (cA_16, 256, .inl (fun _ => 0))), (q_17, .inl (cA_18, 256, .inl (fun _ => 0))), (q_19, .inl (cA_20, 256, .inl (fun _ => 0))), (q_21, .inl (cA_22, 256, .inl (fun _ => 0)))] H := hP
  have hD : va_D A [(h0, .inr (8, [.ref q_1, .int 0, .ref q_3, .int 0, .ref q_5, .ref q_7, .ref q_9, .ref q_11, .ref q_13, .ref q_15, .int 0, .int 0, .int 0, .int 0, .ref q_17, .ref q_19, .ref q_21])), (q_1, .inl (cA_2, 120, .inl (fun _ => 0))), (q_3, .inl (cA_4, 80, .inl (fun _ => 0))), (q_5, .inl (cA_6, 128, .inl (fun _ => 0))), (q_7, .inl (cA_8, 4, .inl (upd (upd (upd (upd (fun _ => 0) 0 1) 1 1) 2 1) 3 1))), (q_9, .inl (cA_10, 4, .inl (upd (upd (upd (upd (fun _ => 0) 0 1) 1 1) 2 1) 3 1))), (q_11, .inl (cA_12, 128, .inl (fun _ => 0))), (q_13, .inl (cA_14, 4, .inl (upd (upd (upd (fun _ => 0) 0 1) 1 1) 2 1))), (q_15, .inl (cA_16, 256, .inl (fun _ => 0))), (q_17, .inl (cA_18, 256, .inl (fun _ => 0))), (q_19, .inl (cA_20, 256, .inl (fun _ => 0))), (q_21, .inl (cA_22, 256, .inl (fun _ => 0)))] := hD
  refine lv_aload_n hx hb dX9_init_116 rfl (lv_at hl 1 rfl) ?_
  refine va_get (D := D) (ci := 8) (v := .ref q_13) (C := RX9) (T := TX9) (N := 17) hx hb hts hiX9_init_X9 hown hK hP 0 rfl rfl 8 (by decide) (hts (.fieldLink RX9 28 "OneHandsetModel" "sets" "[I") (List.mem_of_getElem? (i := 11) rfl)) (fun _ h9 => h9) rfl dX9_init_117 ?_
  refine lv_iload_n hx hb dX9_init_120 rfl (lv_at hl 0 rfl) ?_
  refine lv_iconst (v := 1) hx hb dX9_init_121 (by decide) ?_
  refine va_iast hx hb hK hP hD hS 7 6 rfl rfl (vin (by decide)) dX9_init_122 (fun H locs hP hD hS => ?_)
  have hP : va_P D vwCl [(h0, .inr (8, [.ref q_1, .int 0, .ref q_3, .int 0, .ref q_5, .ref q_7, .ref q_9, .ref q_11, .ref q_13, .ref q_15, .int 0, .int 0, .int 0, .int 0, .ref q_17, .ref q_19, .ref q_21])), (q_1, .inl (cA_2, 120, .inl (fun _ => 0))), (q_3, .inl (cA_4, 80, .inl (fun _ => 0))), (q_5, .inl (cA_6, 128, .inl (fun _ => 0))), (q_7, .inl (cA_8, 4, .inl (upd (upd (upd (upd (fun _ => 0) 0 1) 1 1) 2 1) 3 1))), (q_9, .inl (cA_10, 4, .inl (upd (upd (upd (upd (fun _ => 0) 0 1) 1 1) 2 1) 3 1))), (q_11, .inl (cA_12, 128, .inl (fun _ => 0))), (q_13, .inl (cA_14, 4, .inl (upd (upd (upd (upd (fun _ => 0) 0 1) 1 1) 2 1) 3 1))), (q_15, .inl (cA_16, 256, .inl (fun _ => 0))), (q_17, .inl (cA_18, 256, .inl (fun _ => 0))), (q_19, .inl (cA_20, 256, .inl (fun _ => 0))), (q_21, .inl (cA_22, 256, .inl (fun _ => 0)))] H := hP
  have hD : va_D A [(h0, .inr (8, [.ref q_1, .int 0, .ref q_3, .int 0, .ref q_5, .ref q_7, .ref q_9, .ref q_11, .ref q_13, .ref q_15, .int 0, .int 0, .int 0, .int 0, .ref q_17, .ref q_19, .ref q_21])), (q_1, .inl (cA_2, 120, .inl (fun _ => 0))), (q_3, .inl (cA_4, 80, .inl (fun _ => 0))), (q_5, .inl (cA_6, 128, .inl (fun _ => 0))), (q_7, .inl (cA_8, 4, .inl (upd (upd (upd (upd (fun _ => 0) 0 1) 1 1) 2 1) 3 1))), (q_9, .inl (cA_10, 4, .inl (upd (upd (upd (upd (fun _ => 0) 0 1) 1 1) 2 1) 3 1))), (q_11, .inl (cA_12, 128, .inl (fun _ => 0))), (q_13, .inl (cA_14, 4, .inl (upd (upd (upd (upd (fun _ => 0) 0 1) 1 1) 2 1) 3 1))), (q_15, .inl (cA_16, 256, .inl (fun _ => 0))), (q_17, .inl (cA_18, 256, .inl (fun _ => 0))), (q_19, .inl (cA_20, 256, .inl (fun _ => 0))), (q_21, .inl (cA_22, 256, .inl (fun _ => 0)))] := hD
  refine lv_iinc (v := 4) (lv' := [(1, .int 4), (0, .ref h0)]) hx hb dX9_init_123 hl (k := 0) rfl (by decide) (by decide) rfl (fun ls hl => ?_)
  refine lv_goto (tgt := 97) hx hb dX9_init_126 (by decide) ?_
  refine lv_iload_n hx hb dX9_init_97 rfl (lv_at hl 0 rfl) ?_
  refine lv_iconst (v := 4) hx hb dX9_init_98 (by decide) ?_
  refine lv_icmp_ge (tgt := 129) hx hb dX9_init_99 (by decide) (fun _ => ?_) (fun c_27 => absurd (by decide) c_27)
  exact ret_v hx hb hr hlocks (u := (q_1, q_3, q_5, q_7, q_9, q_11, q_13, q_15, q_17, q_19, q_21, cA_2, cA_4, cA_6, cA_8, cA_10, cA_12, cA_14, cA_16, cA_18, cA_20, cA_22)) trivial (hP.sub [0, 1, 2, 3, 4, 5, 6, 7, 8, 9, 10, 11] rfl) (hK.sub [0, 1, 2, 3, 4, 5, 6, 7, 8, 9, 10] rfl) (hD.sub [0, 1, 2, 3, 4, 5, 6, 7, 8, 9, 10, 11] (by decide) rfl) hS (Nat.le_of_ble_eq_true rfl) (Nat.le_of_ble_eq_true rfl) dX9_init_129
set_option maxHeartbeats 4000000 in
set_option maxRecDepth 100000 in
theorem c_X9_in (l : Launch) (D : va_G) (sz : Nat) (v : Int32) (lo : Int32) (hi : Int32)  : Ci l yX9_in wsX9_in ({ frames := 0, cells := 0, slots := 0, locals := 0 } : Room) D [.int v, .int lo, .int hi] [] [] sz (fun (r : Int32) => fun (_ : Unit) => r = wi v lo hi) (fun (_ : Unit) => []) (fun (_ : Unit) => []) := by
  refine ct_i (cc := cX9_in) (maxL := 3) (ret := (some .boolean)) (by decide) rfl (Nat.le_of_ble_eq_true rfl) ?_
  intro p e s m below meth c A ls H hx hb hr hts hown hml hlocks hin hA hS hP hK hD hNW hl hAe hsz
  have hl : lv_has ls 3 [(0, .int v), (1, .int lo), (2, .int hi)] := hl
  refine lv_iload_n hx hb dX9_in_0 rfl (lv_at hl 0 rfl) ?_
  refine lv_iload_n hx hb dX9_in_1 rfl (lv_at hl 1 rfl) ?_
  refine lv_icmp_lt (tgt := 14) hx hb dX9_in_2 (by decide) (fun c_1 => ?_) (fun c_1 => ?_)
  · refine lv_iconst (v := 0) hx hb dX9_in_14 (by decide) ?_
    exact ret_i hx hb hr hlocks rfl (u := ()) (by simp [wi, c_1]) (hP.sub [] rfl) (hK.sub [] rfl) (hD.sub [] (by decide) rfl) hS (Nat.le_of_ble_eq_true rfl) (Nat.le_of_ble_eq_true rfl) dX9_in_15
  refine lv_iload_n hx hb dX9_in_5 rfl (lv_at hl 0 rfl) ?_
  refine lv_iload_n hx hb dX9_in_6 rfl (lv_at hl 2 rfl) ?_
  refine lv_icmp_gt (tgt := 14) hx hb dX9_in_7 (by decide) (fun c_2 => ?_) (fun c_2 => ?_)
  · refine lv_iconst (v := 0) hx hb dX9_in_14 (by decide) ?_
    exact ret_i hx hb hr hlocks rfl (u := ()) (by simp [wi, c_1, c_2]) (hP.sub [] rfl) (hK.sub [] rfl) (hD.sub [] (by decide) rfl) hS (Nat.le_of_ble_eq_true rfl) (Nat.le_of_ble_eq_true rfl) dX9_in_15
  refine lv_iconst (v := 1) hx hb dX9_in_10 (by decide) ?_
  refine lv_goto (tgt := 15) hx hb dX9_in_11 (by decide) ?_
  exact ret_i hx hb hr hlocks rfl (u := ()) (by simp [wi, c_1, c_2]) (hP.sub [] rfl) (hK.sub [] rfl) (hD.sub [] (by decide) rfl) hS (Nat.le_of_ble_eq_true rfl) (Nat.le_of_ble_eq_true rfl) dX9_in_15
theorem hiX9_isMake_X9 : ∀ w ∈ wsX90, w ∈ wsX9_isMake := mem_pl [6, 7, 8, 9, 10, 11, 12, 13, 14, 15, 16, 17, 18, 19, 20, 21, 22] rfl
set_option maxHeartbeats 4000000 in
set_option maxRecDepth 100000 in
theorem c_X9_isMake (l : Launch) (D : va_G) (sz : Nat) (h0 : Nat) (a0 : Nat) (a2 : Nat) (a4 : Nat) (a5 : Nat) (a6 : Nat) (a7 : Nat) (a8 : Nat) (a9 : Nat) (a14 : Nat) (a15 : Nat) (a16 : Nat) (th : Int32) (i : Int32)  : Ci l yX9_isMake wsX9_isMake ({ frames := 1, cells := 0, slots := 0, locals := 22 } : Room) D [.ref h0, .int i] [(h0, .inr (8, [.ref a0, .int 0, .ref a2, .int 0, .ref a4, .ref a5, .ref a6, .ref a7, .ref a8, .ref a9, .int 0, .int 0, .int th, .int 0, .ref a14, .ref a15, .ref a16]))] [] sz (fun (r : Int32) => fun (_ : Unit) => r = 0) (fun (_ : Unit) => [(h0, .inr (8, [.ref a0, .int 0, .ref a2, .int 0, .ref a4, .ref a5, .ref a6, .ref a7, .ref a8, .ref a9, .int 0, .int 0, .int th, .int 0, .ref a14, .ref a15, .ref a16]))]) (fun (_ : Unit) => []) := by
  refine ct_i (cc := cX9_isMake) (maxL := 2) (ret := (some .boolean)) (by decide) rfl (Nat.le_of_ble_eq_true rfl) ?_
  intro p e s m below meth c A ls H hx hb hr hts hown hml hlocks hin hA hS hP hK hD hNW hl hAe hsz
  have hl : lv_has ls 2 [(0, .ref h0), (1, .int i)] := hl
  refine lv_iload_n hx hb dX9_isMake_0 rfl (lv_at hl 1 rfl) ?_
  refine lv_iconst (v := 0) hx hb dX9_isMake_1 (by decide) ?_
  refine lv_aload_n hx hb dX9_isMake_2 rfl (lv_at hl 0 rfl) ?_
  refine va_get (D := D) (ci := 8) (v := .int 0) (C := RX9) (T := TX9) (N := 17) hx hb hts hiX9_isMake_X9 hown hK hP 0 rfl rfl 3 (by decide) (hts (.fieldLink RX9 47 "OneHandsetModel" "makeMany" "I") (List.mem_of_getElem? (i := 1) rfl)) (fun _ h9 => h9) rfl dX9_isMake_3 ?_
  refine lv_iconst (v := 1) hx hb dX9_isMake_6 (by decide) ?_
  refine lv_isub hx hb dX9_isMake_7 ?_
  refine lv_topi (fun v_1 ev_1 => ?_)
  obtain rfl : v_1 = (-1 : Int32) := ev_1.trans (by decide)
  refine go_i (wr := [(h0, .inr (8, [.ref a0, .int 0, .ref a2, .int 0, .ref a4, .ref a5, .ref a6, .ref a7, .ref a8, .ref a9, .int 0, .int 0, .int th, .int 0, .ref a14, .ref a15, .ref a16]))]) (tysr := []) hP hD hS hA hK [] [0] [] rfl rfl (by decide) (by decide) rfl (va_runS (As := [.int i, .int 0, .int (-1)]) (rest := []) ⟨hx, hb, hml, hown, hts⟩ (c_X9_in l D H.size i 0 (-1) ) (va_cwS 3 hts gX9_isMake_X9_in rfl rfl rfl (by decide +kernel) ⟨Nat.le_of_ble_eq_true rfl, Nat.le_of_ble_eq_true rfl⟩) (st_preS hP hD hK hNW [] [] rfl rfl (by decide) rfl) rfl rfl hl.1 rfl (lv_room (Nat.le_of_ble_eq_true rfl)) dX9_isMake_8 ⟨(Nat.le_of_ble_eq_true rfl), (Nat.le_of_ble_eq_true rfl)⟩) (fun r_2 u H locs hw hP hD hK hS => ?_)
  have hw : r_2 = wi i 0 (-1) := hw
  subst hw
  have hP : va_P D vwCl [(h0, .inr (8, [.ref a0, .int 0, .ref a2, .int 0, .ref a4, .ref a5, .ref a6, .ref a7, .ref a8, .ref a9, .int 0, .int 0, .int th, .int 0, .ref a14, .ref a15, .ref a16]))] H := hP
  have hD : va_D A [(h0, .inr (8, [.ref a0, .int 0, .ref a2, .int 0, .ref a4, .ref a5, .ref a6, .ref a7, .ref a8, .ref a9, .int 0, .int 0, .int th, .int 0, .ref a14, .ref a15, .ref a16]))] := hD
  have hK : va_K D vwCl [] s := hK
  exact ret_i hx hb hr hlocks (wi_nar _ _ _) (u := ()) (wi_0m _) (hP.sub [0] rfl) (hK.sub [] rfl) (hD.sub [0] (by decide) rfl) hS (Nat.le_of_ble_eq_true rfl) (Nat.le_of_ble_eq_true rfl) dX9_isMake_11
set_option maxHeartbeats 4000000 in
set_option maxRecDepth 100000 in
theorem c_X9_isKey (l : Launch) (D : va_G) (sz : Nat) (h0 : Nat) (a0 : Nat) (a2 : Nat) (a4 : Nat) (a5 : Nat) (a6 : Nat) (a7 : Nat) (a8 : Nat) (a9 : Nat) (a14 : Nat) (a15 : Nat) (a16 : Nat) (th : Int32) (i : Int32) (w : Int32)  : Ci l yX9_isKey wsX9_isKey ({ frames := 2, cells := 0, slots := 0, locals := 43 } : Room) D [.ref h0, .int i, .int w] [(h0, .inr (8, [.ref a0, .int 0, .ref a2, .int 0, .ref a4, .ref a5, .ref a6, .ref a7, .ref a8, .ref a9, .int 0, .int 0, .int th, .int 0, .ref a14, .ref a15, .ref a16]))] [] sz (fun (r : Int32) => fun (_ : Unit) => r = 0) (fun (_ : Unit) => [(h0, .inr (8, [.ref a0, .int 0, .ref a2, .int 0, .ref a4, .ref a5, .ref a6, .ref a7, .ref a8, .ref a9, .int 0, .int 0, .int th, .int 0, .ref a14, .ref a15, .ref a16]))]) (fun (_ : Unit) => []) := by
  refine ct_i (cc := cX9_isKey) (maxL := 3) (ret := (some .boolean)) (by decide) rfl (Nat.le_of_ble_eq_true rfl) ?_
  intro p e s m below meth c A ls H hx hb hr hts hown hml hlocks hin hA hS hP hK hD hNW hl hAe hsz
  have hl : lv_has ls 3 [(0, .ref h0), (1, .int i), (2, .int w)] := hl
  refine lv_aload_n hx hb dX9_isKey_0 rfl (lv_at hl 0 rfl) ?_
  refine lv_iload_n hx hb dX9_isKey_1 rfl (lv_at hl 1 rfl) ?_
  refine go_i (wr := []) (tysr := []) hP hD hS hA hK [0] [] [] rfl rfl (by decide) (by decide) rfl (va_runV (As := [.int i]) (rest := []) ⟨hx, hb, hml, hown, hts⟩ (c_X9_isMake l D H.size h0 a0 a2 a4 a5 a6 a7 a8 a9 a14 a15 a16 th i ) (cwV 1 hts gX9_isKey_X9_isMake rfl rfl rfl (by decide +kernel) ⟨Nat.le_of_ble_eq_true rfl, Nat.le_of_ble_eq_true rfl⟩) (st_preV (ci := 8) (q0 := 0) hP hD hK hNW [0] [] rfl rfl (by decide) rfl rfl rfl rfl) rfl rfl hl.1 rfl (lv_room (Nat.le_of_ble_eq_true rfl)) dX9_isKey_2 ⟨(Nat.le_of_ble_eq_true rfl), (Nat.le_of_ble_eq_true rfl)⟩) (fun r_1 u H locs hw hP hD hK hS => ?_)
  have hw : r_1 = 0 := hw
  subst hw
  have hP : va_P D vwCl [(h0, .inr (8, [.ref a0, .int 0, .ref a2, .int 0, .ref a4, .ref a5, .ref a6, .ref a7, .ref a8, .ref a9, .int 0, .int 0, .int th, .int 0, .ref a14, .ref a15, .ref a16]))] H := hP
  have hD : va_D A [(h0, .inr (8, [.ref a0, .int 0, .ref a2, .int 0, .ref a4, .ref a5, .ref a6, .ref a7, .ref a8, .ref a9, .int 0, .int 0, .int th, .int 0, .ref a14, .ref a15, .ref a16]))] := hD
  have hK : va_K D vwCl [] s := hK
  refine lv_if_eq (tgt := 22) hx hb dX9_isKey_5 (by decide) (fun _ => ?_) (fun c_2 => absurd (by decide) c_2)
  refine lv_iconst (v := 0) hx hb dX9_isKey_22 (by decide) ?_
  exact ret_i hx hb hr hlocks rfl (u := ()) rfl (hP.sub [0] rfl) (hK.sub [] rfl) (hD.sub [0] (by decide) rfl) hS (Nat.le_of_ble_eq_true rfl) (Nat.le_of_ble_eq_true rfl) dX9_isKey_23
set_option maxHeartbeats 4000000 in
set_option maxRecDepth 100000 in
theorem c_X9_canForesee (l : Launch) (D : va_G) (sz : Nat) (h0 : Nat) (a0 : Nat) (a2 : Nat) (a4 : Nat) (a5 : Nat) (a6 : Nat) (a7 : Nat) (a8 : Nat) (a9 : Nat) (a14 : Nat) (a15 : Nat) (a16 : Nat) (th : Int32) (i : Int32)  : Ci l yX9_canForesee wsX9_canForesee ({ frames := 2, cells := 0, slots := 0, locals := 43 } : Room) D [.ref h0, .int i] [(h0, .inr (8, [.ref a0, .int 0, .ref a2, .int 0, .ref a4, .ref a5, .ref a6, .ref a7, .ref a8, .ref a9, .int 0, .int 0, .int th, .int 0, .ref a14, .ref a15, .ref a16]))] [] sz (fun (r : Int32) => fun (_ : Unit) => r = 0) (fun (_ : Unit) => [(h0, .inr (8, [.ref a0, .int 0, .ref a2, .int 0, .ref a4, .ref a5, .ref a6, .ref a7, .ref a8, .ref a9, .int 0, .int 0, .int th, .int 0, .ref a14, .ref a15, .ref a16]))]) (fun (_ : Unit) => []) := by
  refine ct_i (cc := cX9_canForesee) (maxL := 2) (ret := (some .boolean)) (by decide) rfl (Nat.le_of_ble_eq_true rfl) ?_
  intro p e s m below meth c A ls H hx hb hr hts hown hml hlocks hin hA hS hP hK hD hNW hl hAe hsz
  have hl : lv_has ls 2 [(0, .ref h0), (1, .int i)] := hl
  refine lv_aload_n hx hb dX9_canForesee_0 rfl (lv_at hl 0 rfl) ?_
  refine lv_iload_n hx hb dX9_canForesee_1 rfl (lv_at hl 1 rfl) ?_
  refine go_i (wr := []) (tysr := []) hP hD hS hA hK [0] [] [] rfl rfl (by decide) (by decide) rfl (va_runV (As := [.int i]) (rest := []) ⟨hx, hb, hml, hown, hts⟩ (c_X9_isMake l D H.size h0 a0 a2 a4 a5 a6 a7 a8 a9 a14 a15 a16 th i ) (cwV 1 hts gX9_canForesee_X9_isMake rfl rfl rfl (by decide +kernel) ⟨Nat.le_of_ble_eq_true rfl, Nat.le_of_ble_eq_true rfl⟩) (st_preV (ci := 8) (q0 := 0) hP hD hK hNW [0] [] rfl rfl (by decide) rfl rfl rfl rfl) rfl rfl hl.1 rfl (lv_room (Nat.le_of_ble_eq_true rfl)) dX9_canForesee_2 ⟨(Nat.le_of_ble_eq_true rfl), (Nat.le_of_ble_eq_true rfl)⟩) (fun r_1 u H locs hw hP hD hK hS => ?_)
  have hw : r_1 = 0 := hw
  subst hw
  have hP : va_P D vwCl [(h0, .inr (8, [.ref a0, .int 0, .ref a2, .int 0, .ref a4, .ref a5, .ref a6, .ref a7, .ref a8, .ref a9, .int 0, .int 0, .int th, .int 0, .ref a14, .ref a15, .ref a16]))] H := hP
  have hD : va_D A [(h0, .inr (8, [.ref a0, .int 0, .ref a2, .int 0, .ref a4, .ref a5, .ref a6, .ref a7, .ref a8, .ref a9, .int 0, .int 0, .int th, .int 0, .ref a14, .ref a15, .ref a16]))] := hD
  have hK : va_K D vwCl [] s := hK
  refine lv_if_eq (tgt := 54) hx hb dX9_canForesee_5 (by decide) (fun _ => ?_) (fun c_2 => absurd (by decide) c_2)
  refine lv_iconst (v := 0) hx hb dX9_canForesee_54 (by decide) ?_
  exact ret_i hx hb hr hlocks rfl (u := ()) rfl (hP.sub [0] rfl) (hK.sub [] rfl) (hD.sub [0] (by decide) rfl) hS (Nat.le_of_ble_eq_true rfl) (Nat.le_of_ble_eq_true rfl) dX9_canForesee_55
theorem hiX9_set_X9 : ∀ w ∈ wsX90, w ∈ wsX9_set := mem_pl [17, 18, 19, 20, 21, 22, 23, 24, 25, 26, 27, 28, 29, 30, 31, 32, 33] rfl
set_option maxHeartbeats 4000000 in
set_option maxRecDepth 100000 in
theorem c_X9_set (l : Launch) (D : va_G) (sz : Nat) (h0 : Nat) (a0 : Nat) (a2 : Nat) (a4 : Nat) (a5 : Nat) (a6 : Nat) (a7 : Nat) (a8 : Nat) (a9 : Nat) (a14 : Nat) (a15 : Nat) (a16 : Nat) (th : Int32) (i : Int32) (w : Int32) (v : Int32)  : Ci l yX9_set wsX9_set ({ frames := 2, cells := 0, slots := 0, locals := 43 } : Room) D [.ref h0, .int i, .int w, .int v] [(h0, .inr (8, [.ref a0, .int 0, .ref a2, .int 0, .ref a4, .ref a5, .ref a6, .ref a7, .ref a8, .ref a9, .int 0, .int 0, .int th, .int 0, .ref a14, .ref a15, .ref a16]))] [] sz (fun (r : Int32) => fun (_ : Unit) => r = 0) (fun (_ : Unit) => []) (fun (_ : Unit) => []) := by
  refine ct_i (cc := cX9_set) (maxL := 5) (ret := (some .boolean)) (by decide) rfl (Nat.le_of_ble_eq_true rfl) ?_
  intro p e s m below meth c A ls H hx hb hr hts hown hml hlocks hin hA hS hP hK hD hNW hl hAe hsz
  have hl : lv_has ls 5 [(0, .ref h0), (1, .int i), (2, .int w), (3, .int v)] := hl
  refine lv_aload_n hx hb dX9_set_0 rfl (lv_at hl 0 rfl) ?_
  refine lv_iconst (v := 0) hx hb dX9_set_1 (by decide) ?_
  refine va_put (D := D) (ci := 8) (v := .int 0) (ty := .int) (C := RX9) (T := TX9) (N := 17) hx hb hts hiX9_set_X9 tyX9 tyX9_ok nmX9 hown hK hP hD hS 0 rfl rfl 12 (by decide) (hts (.fieldLink RX9 43 "OneHandsetModel" "thrown" "I") (List.mem_of_getElem? (i := 1) rfl)) (fun _ h9 => h9) rfl (by decide +kernel) rfl rfl (Nat.le_of_ble_eq_true rfl) dX9_set_2 (fun H locs hP hD hS => ?_)
  have hP : va_P D vwCl [(h0, .inr (8, [.ref a0, .int 0, .ref a2, .int 0, .ref a4, .ref a5, .ref a6, .ref a7, .ref a8, .ref a9, .int 0, .int 0, .int 0, .int 0, .ref a14, .ref a15, .ref a16]))] H := hP
  have hD : va_D A [(h0, .inr (8, [.ref a0, .int 0, .ref a2, .int 0, .ref a4, .ref a5, .ref a6, .ref a7, .ref a8, .ref a9, .int 0, .int 0, .int 0, .int 0, .ref a14, .ref a15, .ref a16]))] := hD
  refine lv_aload_n hx hb dX9_set_5 rfl (lv_at hl 0 rfl) ?_
  refine lv_iload_n hx hb dX9_set_6 rfl (lv_at hl 1 rfl) ?_
  refine go_i (wr := []) (tysr := []) hP hD hS hA hK [0] [] [] rfl rfl (by decide) (by decide) rfl (va_runV (As := [.int i]) (rest := []) ⟨hx, hb, hml, hown, hts⟩ (c_X9_isMake l D H.size h0 a0 a2 a4 a5 a6 a7 a8 a9 a14 a15 a16 0 i ) (cwV 1 hts gX9_set_X9_isMake rfl rfl rfl (by decide +kernel) ⟨Nat.le_of_ble_eq_true rfl, Nat.le_of_ble_eq_true rfl⟩) (st_preV (ci := 8) (q0 := 0) hP hD hK hNW [0] [] rfl rfl (by decide) rfl rfl rfl rfl) rfl rfl hl.1 rfl (lv_room (Nat.le_of_ble_eq_true rfl)) dX9_set_7 ⟨(Nat.le_of_ble_eq_true rfl), (Nat.le_of_ble_eq_true rfl)⟩) (fun r_1 u H locs hw hP hD hK hS => ?_)
  have hw : r_1 = 0 := hw
  subst hw
  have hP : va_P D vwCl [(h0, .inr (8, [.ref a0, .int 0, .ref a2, .int 0, .ref a4, .ref a5, .ref a6, .ref a7, .ref a8, .ref a9, .int 0, .int 0, .int 0, .int 0, .ref a14, .ref a15, .ref a16]))] H := hP
  have hD : va_D A [(h0, .inr (8, [.ref a0, .int 0, .ref a2, .int 0, .ref a4, .ref a5, .ref a6, .ref a7, .ref a8, .ref a9, .int 0, .int 0, .int 0, .int 0, .ref a14, .ref a15, .ref a16]))] := hD
  have hK : va_K D vwCl [] s := hK
  refine lv_if_eq (tgt := 55) hx hb dX9_set_10 (by decide) (fun _ => ?_) (fun c_2 => absurd (by decide) c_2)
  refine lv_iconst (v := 0) hx hb dX9_set_55 (by decide) ?_
  exact ret_i hx hb hr hlocks rfl (u := ()) rfl (hP.sub [] rfl) (hK.sub [] rfl) (hD.sub [] (by decide) rfl) hS (Nat.le_of_ble_eq_true rfl) (Nat.le_of_ble_eq_true rfl) dX9_set_56
theorem hiX9_send_X9 : ∀ w ∈ wsX90, w ∈ wsX9_send := mem_pl [33, 34, 35, 36, 37, 38, 39, 40, 41, 42, 43, 44, 45, 46, 47, 48, 49] rfl
set_option maxHeartbeats 4000000 in
set_option maxRecDepth 100000 in
theorem c_X9_send (l : Launch) (D : va_G) (sz : Nat) (h0 : Nat) (a0 : Nat) (a2 : Nat) (a4 : Nat) (a5 : Nat) (a6 : Nat) (a7 : Nat) (a8 : Nat) (a9 : Nat) (a14 : Nat) (a15 : Nat) (a16 : Nat) (th : Int32) (i : Int32) (w : Int32)  : Ci l yX9_send wsX9_send ({ frames := 2, cells := 0, slots := 0, locals := 43 } : Room) D [.ref h0, .int i, .int w] [(h0, .inr (8, [.ref a0, .int 0, .ref a2, .int 0, .ref a4, .ref a5, .ref a6, .ref a7, .ref a8, .ref a9, .int 0, .int 0, .int th, .int 0, .ref a14, .ref a15, .ref a16]))] [] sz (fun (r : Int32) => fun (_ : Unit) => r = -1) (fun (_ : Unit) => []) (fun (_ : Unit) => []) := by
  refine ct_i (cc := cX9_send) (maxL := 3) (ret := (some .int)) (by decide) rfl (Nat.le_of_ble_eq_true rfl) ?_
  intro p e s m below meth c A ls H hx hb hr hts hown hml hlocks hin hA hS hP hK hD hNW hl hAe hsz
  have hl : lv_has ls 3 [(0, .ref h0), (1, .int i), (2, .int w)] := hl
  refine lv_aload_n hx hb dX9_send_0 rfl (lv_at hl 0 rfl) ?_
  refine lv_iconst (v := 0) hx hb dX9_send_1 (by decide) ?_
  refine va_put (D := D) (ci := 8) (v := .int 0) (ty := .int) (C := RX9) (T := TX9) (N := 17) hx hb hts hiX9_send_X9 tyX9 tyX9_ok nmX9 hown hK hP hD hS 0 rfl rfl 12 (by decide) (hts (.fieldLink RX9 43 "OneHandsetModel" "thrown" "I") (List.mem_of_getElem? (i := 1) rfl)) (fun _ h9 => h9) rfl (by decide +kernel) rfl rfl (Nat.le_of_ble_eq_true rfl) dX9_send_2 (fun H locs hP hD hS => ?_)
  have hP : va_P D vwCl [(h0, .inr (8, [.ref a0, .int 0, .ref a2, .int 0, .ref a4, .ref a5, .ref a6, .ref a7, .ref a8, .ref a9, .int 0, .int 0, .int 0, .int 0, .ref a14, .ref a15, .ref a16]))] H := hP
  have hD : va_D A [(h0, .inr (8, [.ref a0, .int 0, .ref a2, .int 0, .ref a4, .ref a5, .ref a6, .ref a7, .ref a8, .ref a9, .int 0, .int 0, .int 0, .int 0, .ref a14, .ref a15, .ref a16]))] := hD
  refine lv_aload_n hx hb dX9_send_5 rfl (lv_at hl 0 rfl) ?_
  refine lv_iload_n hx hb dX9_send_6 rfl (lv_at hl 1 rfl) ?_
  refine go_i (wr := []) (tysr := []) hP hD hS hA hK [0] [] [] rfl rfl (by decide) (by decide) rfl (va_runV (As := [.int i]) (rest := []) ⟨hx, hb, hml, hown, hts⟩ (c_X9_isMake l D H.size h0 a0 a2 a4 a5 a6 a7 a8 a9 a14 a15 a16 0 i ) (cwV 1 hts gX9_send_X9_isMake rfl rfl rfl (by decide +kernel) ⟨Nat.le_of_ble_eq_true rfl, Nat.le_of_ble_eq_true rfl⟩) (st_preV (ci := 8) (q0 := 0) hP hD hK hNW [0] [] rfl rfl (by decide) rfl rfl rfl rfl) rfl rfl hl.1 rfl (lv_room (Nat.le_of_ble_eq_true rfl)) dX9_send_7 ⟨(Nat.le_of_ble_eq_true rfl), (Nat.le_of_ble_eq_true rfl)⟩) (fun r_1 u H locs hw hP hD hK hS => ?_)
  have hw : r_1 = 0 := hw
  subst hw
  have hP : va_P D vwCl [(h0, .inr (8, [.ref a0, .int 0, .ref a2, .int 0, .ref a4, .ref a5, .ref a6, .ref a7, .ref a8, .ref a9, .int 0, .int 0, .int 0, .int 0, .ref a14, .ref a15, .ref a16]))] H := hP
  have hD : va_D A [(h0, .inr (8, [.ref a0, .int 0, .ref a2, .int 0, .ref a4, .ref a5, .ref a6, .ref a7, .ref a8, .ref a9, .int 0, .int 0, .int 0, .int 0, .ref a14, .ref a15, .ref a16]))] := hD
  have hK : va_K D vwCl [] s := hK
  refine lv_if_eq (tgt := 29) hx hb dX9_send_10 (by decide) (fun _ => ?_) (fun c_2 => absurd (by decide) c_2)
  refine lv_iconst (v := (-1)) hx hb dX9_send_29 (by decide) ?_
  exact ret_i hx hb hr hlocks rfl (u := ()) rfl (hP.sub [] rfl) (hK.sub [] rfl) (hD.sub [] (by decide) rfl) hS (Nat.le_of_ble_eq_true rfl) (Nat.le_of_ble_eq_true rfl) dX9_send_30
theorem hiX9_read_X9 : ∀ w ∈ wsX90, w ∈ wsX9_read := mem_pl [50, 51, 52, 53, 54, 55, 56, 57, 58, 59, 60, 61, 62, 63, 64, 65, 66] rfl
set_option maxHeartbeats 4000000 in
set_option maxRecDepth 100000 in
theorem c_X9_read (l : Launch) (D : va_G) (sz : Nat) (h0 : Nat) (a0 : Nat) (a2 : Nat) (a4 : Nat) (a5 : Nat) (a6 : Nat) (a7 : Nat) (a8 : Nat) (a9 : Nat) (a14 : Nat) (a15 : Nat) (a16 : Nat) (th : Int32) (i : Int32)  : Ci l yX9_read wsX9_read ({ frames := 2, cells := 0, slots := 0, locals := 43 } : Room) D [.ref h0, .int i] [(h0, .inr (8, [.ref a0, .int 0, .ref a2, .int 0, .ref a4, .ref a5, .ref a6, .ref a7, .ref a8, .ref a9, .int 0, .int 0, .int th, .int 0, .ref a14, .ref a15, .ref a16]))] [] sz (fun (r : Int32) => fun (_ : Unit) => r = -1) (fun (_ : Unit) => []) (fun (_ : Unit) => []) := by
  refine ct_i (cc := cX9_read) (maxL := 3) (ret := (some .int)) (by decide) rfl (Nat.le_of_ble_eq_true rfl) ?_
  intro p e s m below meth c A ls H hx hb hr hts hown hml hlocks hin hA hS hP hK hD hNW hl hAe hsz
  have hl : lv_has ls 3 [(0, .ref h0), (1, .int i)] := hl
  refine lv_aload_n hx hb dX9_read_0 rfl (lv_at hl 0 rfl) ?_
  refine lv_iconst (v := 0) hx hb dX9_read_1 (by decide) ?_
  refine va_put (D := D) (ci := 8) (v := .int 0) (ty := .int) (C := RX9) (T := TX9) (N := 17) hx hb hts hiX9_read_X9 tyX9 tyX9_ok nmX9 hown hK hP hD hS 0 rfl rfl 12 (by decide) (hts (.fieldLink RX9 43 "OneHandsetModel" "thrown" "I") (List.mem_of_getElem? (i := 1) rfl)) (fun _ h9 => h9) rfl (by decide +kernel) rfl rfl (Nat.le_of_ble_eq_true rfl) dX9_read_2 (fun H locs hP hD hS => ?_)
  have hP : va_P D vwCl [(h0, .inr (8, [.ref a0, .int 0, .ref a2, .int 0, .ref a4, .ref a5, .ref a6, .ref a7, .ref a8, .ref a9, .int 0, .int 0, .int 0, .int 0, .ref a14, .ref a15, .ref a16]))] H := hP
  have hD : va_D A [(h0, .inr (8, [.ref a0, .int 0, .ref a2, .int 0, .ref a4, .ref a5, .ref a6, .ref a7, .ref a8, .ref a9, .int 0, .int 0, .int 0, .int 0, .ref a14, .ref a15, .ref a16]))] := hD
  refine lv_aload_n hx hb dX9_read_5 rfl (lv_at hl 0 rfl) ?_
  refine lv_iload_n hx hb dX9_read_6 rfl (lv_at hl 1 rfl) ?_
  refine go_i (wr := []) (tysr := []) hP hD hS hA hK [0] [] [] rfl rfl (by decide) (by decide) rfl (va_runV (As := [.int i]) (rest := []) ⟨hx, hb, hml, hown, hts⟩ (c_X9_isMake l D H.size h0 a0 a2 a4 a5 a6 a7 a8 a9 a14 a15 a16 0 i ) (cwV 1 hts gX9_read_X9_isMake rfl rfl rfl (by decide +kernel) ⟨Nat.le_of_ble_eq_true rfl, Nat.le_of_ble_eq_true rfl⟩) (st_preV (ci := 8) (q0 := 0) hP hD hK hNW [0] [] rfl rfl (by decide) rfl rfl rfl rfl) rfl rfl hl.1 rfl (lv_room (Nat.le_of_ble_eq_true rfl)) dX9_read_7 ⟨(Nat.le_of_ble_eq_true rfl), (Nat.le_of_ble_eq_true rfl)⟩) (fun r_1 u H locs hw hP hD hK hS => ?_)
  have hw : r_1 = 0 := hw
  subst hw
  have hP : va_P D vwCl [(h0, .inr (8, [.ref a0, .int 0, .ref a2, .int 0, .ref a4, .ref a5, .ref a6, .ref a7, .ref a8, .ref a9, .int 0, .int 0, .int 0, .int 0, .ref a14, .ref a15, .ref a16]))] H := hP
  have hD : va_D A [(h0, .inr (8, [.ref a0, .int 0, .ref a2, .int 0, .ref a4, .ref a5, .ref a6, .ref a7, .ref a8, .ref a9, .int 0, .int 0, .int 0, .int 0, .ref a14, .ref a15, .ref a16]))] := hD
  have hK : va_K D vwCl [] s := hK
  refine lv_if_ne (tgt := 15) hx hb dX9_read_10 (by decide) (fun c_2 => absurd c_2 (by decide)) (fun _ => ?_)
  refine lv_iconst (v := (-1)) hx hb dX9_read_13 (by decide) ?_
  exact ret_i hx hb hr hlocks rfl (u := ()) rfl (hP.sub [] rfl) (hK.sub [] rfl) (hD.sub [] (by decide) rfl) hS (Nat.le_of_ble_eq_true rfl) (Nat.le_of_ble_eq_true rfl) dX9_read_14
theorem hiX9_which__X9 : ∀ w ∈ wsX90, w ∈ wsX9_which_ := mem_pl [46, 47, 48, 49, 50, 51, 52, 53, 54, 55, 56, 57, 58, 59, 60, 61, 62] rfl
set_option maxHeartbeats 4000000 in
set_option maxRecDepth 100000 in
theorem c_X9_which_ (l : Launch) (D : va_G) (sz : Nat) (h0 : Nat) (a0 : Nat) (a2 : Nat) (a4 : Nat) (a5 : Nat) (a6 : Nat) (a7 : Nat) (a8 : Nat) (a9 : Nat) (a14 : Nat) (a15 : Nat) (a16 : Nat) (th : Int32)  : Ci l yX9_which_ wsX9_which_ ({ frames := 0, cells := 0, slots := 0, locals := 0 } : Room) D [.ref h0] [(h0, .inr (8, [.ref a0, .int 0, .ref a2, .int 0, .ref a4, .ref a5, .ref a6, .ref a7, .ref a8, .ref a9, .int 0, .int 0, .int th, .int 0, .ref a14, .ref a15, .ref a16]))] [] sz (fun (r : Int32) => fun (_ : Unit) => r = 0) (fun (_ : Unit) => []) (fun (_ : Unit) => []) := by
  refine ct_i (cc := cX9_which_) (maxL := 3) (ret := (some .int)) (by decide) rfl (Nat.le_of_ble_eq_true rfl) ?_
  intro p e s m below meth c A ls H hx hb hr hts hown hml hlocks hin hA hS hP hK hD hNW hl hAe hsz
  have hl : lv_has ls 3 [(0, .ref h0)] := hl
  refine lv_aload_n hx hb dX9_which__0 rfl (lv_at hl 0 rfl) ?_
  refine lv_iconst (v := 0) hx hb dX9_which__1 (by decide) ?_
  refine va_put (D := D) (ci := 8) (v := .int 0) (ty := .int) (C := RX9) (T := TX9) (N := 17) hx hb hts hiX9_which__X9 tyX9 tyX9_ok nmX9 hown hK hP hD hS 0 rfl rfl 12 (by decide) (hts (.fieldLink RX9 43 "OneHandsetModel" "thrown" "I") (List.mem_of_getElem? (i := 1) rfl)) (fun _ h9 => h9) rfl (by decide +kernel) rfl rfl (Nat.le_of_ble_eq_true rfl) dX9_which__2 (fun H locs hP hD hS => ?_)
  have hP : va_P D vwCl [(h0, .inr (8, [.ref a0, .int 0, .ref a2, .int 0, .ref a4, .ref a5, .ref a6, .ref a7, .ref a8, .ref a9, .int 0, .int 0, .int 0, .int 0, .ref a14, .ref a15, .ref a16]))] H := hP
  have hD : va_D A [(h0, .inr (8, [.ref a0, .int 0, .ref a2, .int 0, .ref a4, .ref a5, .ref a6, .ref a7, .ref a8, .ref a9, .int 0, .int 0, .int 0, .int 0, .ref a14, .ref a15, .ref a16]))] := hD
  refine lv_iconst (v := 0) hx hb dX9_which__5 (by decide) ?_
  refine lv_istore_n (lv' := [(1, .int 0), (0, .ref h0)]) hx hb dX9_which__6 rfl hl (by decide) rfl (fun ls hl => ?_)
  refine lv_iconst (v := 0) hx hb dX9_which__7 (by decide) ?_
  refine lv_istore_n (lv' := [(2, .int 0), (1, .int 0), (0, .ref h0)]) hx hb dX9_which__8 rfl hl (by decide) rfl (fun ls hl => ?_)
  refine lv_iload_n hx hb dX9_which__9 rfl (lv_at hl 0 rfl) ?_
  refine lv_aload_n hx hb dX9_which__10 rfl (lv_at hl 2 rfl) ?_
  refine va_get (D := D) (ci := 8) (v := .int 0) (C := RX9) (T := TX9) (N := 17) hx hb hts hiX9_which__X9 hown hK hP 0 rfl rfl 3 (by decide) (hts (.fieldLink RX9 47 "OneHandsetModel" "makeMany" "I") (List.mem_of_getElem? (i := 2) rfl)) (fun _ h9 => h9) rfl dX9_which__11 ?_
  refine lv_icmp_ge (tgt := 38) hx hb dX9_which__14 (by decide) (fun _ => ?_) (fun c_1 => absurd (by decide) c_1)
  refine lv_iload_n hx hb dX9_which__38 rfl (lv_at hl 1 rfl) ?_
  exact ret_i hx hb hr hlocks rfl (u := ()) rfl (hP.sub [] rfl) (hK.sub [] rfl) (hD.sub [] (by decide) rfl) hS (Nat.le_of_ble_eq_true rfl) (Nat.le_of_ble_eq_true rfl) dX9_which__39
theorem hiX9_learn_X9 : ∀ w ∈ wsX90, w ∈ wsX9_learn := mem_pl [59, 60, 61, 62, 63, 64, 65, 66, 67, 68, 69, 70, 71, 72, 73, 74, 75] rfl
set_option maxHeartbeats 4000000 in
set_option maxRecDepth 100000 in
theorem c_X9_learn (l : Launch) (D : va_G) (sz : Nat) (h0 : Nat) (a0 : Nat) (a2 : Nat) (a4 : Nat) (a5 : Nat) (a6 : Nat) (a7 : Nat) (a8 : Nat) (a9 : Nat) (a14 : Nat) (a15 : Nat) (a16 : Nat) (th : Int32) (i : Int32) (w : Int32)  : Ci l yX9_learn wsX9_learn ({ frames := 3, cells := 0, slots := 0, locals := 65 } : Room) D [.ref h0, .int i, .int w] [(h0, .inr (8, [.ref a0, .int 0, .ref a2, .int 0, .ref a4, .ref a5, .ref a6, .ref a7, .ref a8, .ref a9, .int 0, .int 0, .int th, .int 0, .ref a14, .ref a15, .ref a16]))] [] sz (fun (r : Int32) => fun (_ : Unit) => r = -1) (fun (_ : Unit) => []) (fun (_ : Unit) => []) := by
  refine ct_i (cc := cX9_learn) (maxL := 5) (ret := (some .int)) (by decide) rfl (Nat.le_of_ble_eq_true rfl) ?_
  intro p e s m below meth c A ls H hx hb hr hts hown hml hlocks hin hA hS hP hK hD hNW hl hAe hsz
  have hl : lv_has ls 5 [(0, .ref h0), (1, .int i), (2, .int w)] := hl
  refine lv_aload_n hx hb dX9_learn_0 rfl (lv_at hl 0 rfl) ?_
  refine lv_iconst (v := 0) hx hb dX9_learn_1 (by decide) ?_
  refine va_put (D := D) (ci := 8) (v := .int 0) (ty := .int) (C := RX9) (T := TX9) (N := 17) hx hb hts hiX9_learn_X9 tyX9 tyX9_ok nmX9 hown hK hP hD hS 0 rfl rfl 12 (by decide) (hts (.fieldLink RX9 43 "OneHandsetModel" "thrown" "I") (List.mem_of_getElem? (i := 1) rfl)) (fun _ h9 => h9) rfl (by decide +kernel) rfl rfl (Nat.le_of_ble_eq_true rfl) dX9_learn_2 (fun H locs hP hD hS => ?_)
  have hP : va_P D vwCl [(h0, .inr (8, [.ref a0, .int 0, .ref a2, .int 0, .ref a4, .ref a5, .ref a6, .ref a7, .ref a8, .ref a9, .int 0, .int 0, .int 0, .int 0, .ref a14, .ref a15, .ref a16]))] H := hP
  have hD : va_D A [(h0, .inr (8, [.ref a0, .int 0, .ref a2, .int 0, .ref a4, .ref a5, .ref a6, .ref a7, .ref a8, .ref a9, .int 0, .int 0, .int 0, .int 0, .ref a14, .ref a15, .ref a16]))] := hD
  refine lv_aload_n hx hb dX9_learn_5 rfl (lv_at hl 0 rfl) ?_
  refine lv_iload_n hx hb dX9_learn_6 rfl (lv_at hl 1 rfl) ?_
  refine lv_iload_n hx hb dX9_learn_7 rfl (lv_at hl 2 rfl) ?_
  refine go_i (wr := []) (tysr := []) hP hD hS hA hK [0] [] [] rfl rfl (by decide) (by decide) rfl (va_runV (As := [.int i, .int w]) (rest := []) ⟨hx, hb, hml, hown, hts⟩ (c_X9_isKey l D H.size h0 a0 a2 a4 a5 a6 a7 a8 a9 a14 a15 a16 0 i w ) (cwV 2 hts gX9_learn_X9_isKey rfl rfl rfl (by decide +kernel) ⟨Nat.le_of_ble_eq_true rfl, Nat.le_of_ble_eq_true rfl⟩) (st_preV (ci := 8) (q0 := 0) hP hD hK hNW [0] [] rfl rfl (by decide) rfl rfl rfl rfl) rfl rfl hl.1 rfl (lv_room (Nat.le_of_ble_eq_true rfl)) dX9_learn_8 ⟨(Nat.le_of_ble_eq_true rfl), (Nat.le_of_ble_eq_true rfl)⟩) (fun r_1 u H locs hw hP hD hK hS => ?_)
  have hw : r_1 = 0 := hw
  subst hw
  have hP : va_P D vwCl [(h0, .inr (8, [.ref a0, .int 0, .ref a2, .int 0, .ref a4, .ref a5, .ref a6, .ref a7, .ref a8, .ref a9, .int 0, .int 0, .int 0, .int 0, .ref a14, .ref a15, .ref a16]))] H := hP
  have hD : va_D A [(h0, .inr (8, [.ref a0, .int 0, .ref a2, .int 0, .ref a4, .ref a5, .ref a6, .ref a7, .ref a8, .ref a9, .int 0, .int 0, .int 0, .int 0, .ref a14, .ref a15, .ref a16]))] := hD
  have hK : va_K D vwCl [] s := hK
  refine lv_if_ne (tgt := 16) hx hb dX9_learn_11 (by decide) (fun c_2 => absurd c_2 (by decide)) (fun _ => ?_)
  refine lv_iconst (v := (-1)) hx hb dX9_learn_14 (by decide) ?_
  exact ret_i hx hb hr hlocks rfl (u := ()) rfl (hP.sub [] rfl) (hK.sub [] rfl) (hD.sub [] (by decide) rfl) hS (Nat.le_of_ble_eq_true rfl) (Nat.le_of_ble_eq_true rfl) dX9_learn_15
theorem hiX9_forget_X9 : ∀ w ∈ wsX90, w ∈ wsX9_forget := mem_pl [16, 17, 18, 19, 20, 21, 22, 23, 24, 25, 26, 27, 28, 29, 30, 31, 32] rfl
set_option maxHeartbeats 4000000 in
set_option maxRecDepth 100000 in
theorem c_X9_forget (l : Launch) (D : va_G) (sz : Nat) (h0 : Nat) (a0 : Nat) (a2 : Nat) (a4 : Nat) (a5 : Nat) (a6 : Nat) (a7 : Nat) (a8 : Nat) (a9 : Nat) (a14 : Nat) (a15 : Nat) (a16 : Nat) (th : Int32) (i : Int32) (w : Int32)  : Ci l yX9_forget wsX9_forget ({ frames := 3, cells := 0, slots := 0, locals := 65 } : Room) D [.ref h0, .int i, .int w] [(h0, .inr (8, [.ref a0, .int 0, .ref a2, .int 0, .ref a4, .ref a5, .ref a6, .ref a7, .ref a8, .ref a9, .int 0, .int 0, .int th, .int 0, .ref a14, .ref a15, .ref a16]))] [] sz (fun (r : Int32) => fun (_ : Unit) => r = 0) (fun (_ : Unit) => []) (fun (_ : Unit) => []) := by
  refine ct_i (cc := cX9_forget) (maxL := 3) (ret := (some .boolean)) (by decide) rfl (Nat.le_of_ble_eq_true rfl) ?_
  intro p e s m below meth c A ls H hx hb hr hts hown hml hlocks hin hA hS hP hK hD hNW hl hAe hsz
  have hl : lv_has ls 3 [(0, .ref h0), (1, .int i), (2, .int w)] := hl
  refine lv_aload_n hx hb dX9_forget_0 rfl (lv_at hl 0 rfl) ?_
  refine lv_iconst (v := 0) hx hb dX9_forget_1 (by decide) ?_
  refine va_put (D := D) (ci := 8) (v := .int 0) (ty := .int) (C := RX9) (T := TX9) (N := 17) hx hb hts hiX9_forget_X9 tyX9 tyX9_ok nmX9 hown hK hP hD hS 0 rfl rfl 12 (by decide) (hts (.fieldLink RX9 43 "OneHandsetModel" "thrown" "I") (List.mem_of_getElem? (i := 1) rfl)) (fun _ h9 => h9) rfl (by decide +kernel) rfl rfl (Nat.le_of_ble_eq_true rfl) dX9_forget_2 (fun H locs hP hD hS => ?_)
  have hP : va_P D vwCl [(h0, .inr (8, [.ref a0, .int 0, .ref a2, .int 0, .ref a4, .ref a5, .ref a6, .ref a7, .ref a8, .ref a9, .int 0, .int 0, .int 0, .int 0, .ref a14, .ref a15, .ref a16]))] H := hP
  have hD : va_D A [(h0, .inr (8, [.ref a0, .int 0, .ref a2, .int 0, .ref a4, .ref a5, .ref a6, .ref a7, .ref a8, .ref a9, .int 0, .int 0, .int 0, .int 0, .ref a14, .ref a15, .ref a16]))] := hD
  refine lv_aload_n hx hb dX9_forget_5 rfl (lv_at hl 0 rfl) ?_
  refine lv_iload_n hx hb dX9_forget_6 rfl (lv_at hl 1 rfl) ?_
  refine lv_iload_n hx hb dX9_forget_7 rfl (lv_at hl 2 rfl) ?_
  refine go_i (wr := []) (tysr := []) hP hD hS hA hK [0] [] [] rfl rfl (by decide) (by decide) rfl (va_runV (As := [.int i, .int w]) (rest := []) ⟨hx, hb, hml, hown, hts⟩ (c_X9_isKey l D H.size h0 a0 a2 a4 a5 a6 a7 a8 a9 a14 a15 a16 0 i w ) (cwV 2 hts gX9_forget_X9_isKey rfl rfl rfl (by decide +kernel) ⟨Nat.le_of_ble_eq_true rfl, Nat.le_of_ble_eq_true rfl⟩) (st_preV (ci := 8) (q0 := 0) hP hD hK hNW [0] [] rfl rfl (by decide) rfl rfl rfl rfl) rfl rfl hl.1 rfl (lv_room (Nat.le_of_ble_eq_true rfl)) dX9_forget_8 ⟨(Nat.le_of_ble_eq_true rfl), (Nat.le_of_ble_eq_true rfl)⟩) (fun r_1 u H locs hw hP hD hK hS => ?_)
  have hw : r_1 = 0 := hw
  subst hw
  have hP : va_P D vwCl [(h0, .inr (8, [.ref a0, .int 0, .ref a2, .int 0, .ref a4, .ref a5, .ref a6, .ref a7, .ref a8, .ref a9, .int 0, .int 0, .int 0, .int 0, .ref a14, .ref a15, .ref a16]))] H := hP
  have hD : va_D A [(h0, .inr (8, [.ref a0, .int 0, .ref a2, .int 0, .ref a4, .ref a5, .ref a6, .ref a7, .ref a8, .ref a9, .int 0, .int 0, .int 0, .int 0, .ref a14, .ref a15, .ref a16]))] := hD
  have hK : va_K D vwCl [] s := hK
  refine lv_if_eq (tgt := 29) hx hb dX9_forget_11 (by decide) (fun _ => ?_) (fun c_2 => absurd (by decide) c_2)
  refine lv_iconst (v := 0) hx hb dX9_forget_29 (by decide) ?_
  exact ret_i hx hb hr hlocks rfl (u := ()) rfl (hP.sub [] rfl) (hK.sub [] rfl) (hD.sub [] (by decide) rfl) hS (Nat.le_of_ble_eq_true rfl) (Nat.le_of_ble_eq_true rfl) dX9_forget_30
theorem hiX9_key_X9 : ∀ w ∈ wsX90, w ∈ wsX9_key := mem_pl [16, 17, 18, 19, 20, 21, 22, 23, 24, 25, 26, 27, 28, 29, 30, 31, 32] rfl
set_option maxHeartbeats 4000000 in
set_option maxRecDepth 100000 in
theorem c_X9_key (l : Launch) (D : va_G) (sz : Nat) (h0 : Nat) (a0 : Nat) (a2 : Nat) (a4 : Nat) (a5 : Nat) (a6 : Nat) (a7 : Nat) (a8 : Nat) (a9 : Nat) (a14 : Nat) (a15 : Nat) (a16 : Nat) (th : Int32) (i : Int32) (w : Int32)  : Ci l yX9_key wsX9_key ({ frames := 3, cells := 0, slots := 0, locals := 65 } : Room) D [.ref h0, .int i, .int w] [(h0, .inr (8, [.ref a0, .int 0, .ref a2, .int 0, .ref a4, .ref a5, .ref a6, .ref a7, .ref a8, .ref a9, .int 0, .int 0, .int th, .int 0, .ref a14, .ref a15, .ref a16]))] [] sz (fun (r : Int32) => fun (_ : Unit) => r = -1) (fun (_ : Unit) => []) (fun (_ : Unit) => []) := by
  refine ct_i (cc := cX9_key) (maxL := 3) (ret := (some .int)) (by decide) rfl (Nat.le_of_ble_eq_true rfl) ?_
  intro p e s m below meth c A ls H hx hb hr hts hown hml hlocks hin hA hS hP hK hD hNW hl hAe hsz
  have hl : lv_has ls 3 [(0, .ref h0), (1, .int i), (2, .int w)] := hl
  refine lv_aload_n hx hb dX9_key_0 rfl (lv_at hl 0 rfl) ?_
  refine lv_iconst (v := 0) hx hb dX9_key_1 (by decide) ?_
  refine va_put (D := D) (ci := 8) (v := .int 0) (ty := .int) (C := RX9) (T := TX9) (N := 17) hx hb hts hiX9_key_X9 tyX9 tyX9_ok nmX9 hown hK hP hD hS 0 rfl rfl 12 (by decide) (hts (.fieldLink RX9 43 "OneHandsetModel" "thrown" "I") (List.mem_of_getElem? (i := 1) rfl)) (fun _ h9 => h9) rfl (by decide +kernel) rfl rfl (Nat.le_of_ble_eq_true rfl) dX9_key_2 (fun H locs hP hD hS => ?_)
  have hP : va_P D vwCl [(h0, .inr (8, [.ref a0, .int 0, .ref a2, .int 0, .ref a4, .ref a5, .ref a6, .ref a7, .ref a8, .ref a9, .int 0, .int 0, .int 0, .int 0, .ref a14, .ref a15, .ref a16]))] H := hP
  have hD : va_D A [(h0, .inr (8, [.ref a0, .int 0, .ref a2, .int 0, .ref a4, .ref a5, .ref a6, .ref a7, .ref a8, .ref a9, .int 0, .int 0, .int 0, .int 0, .ref a14, .ref a15, .ref a16]))] := hD
  refine lv_aload_n hx hb dX9_key_5 rfl (lv_at hl 0 rfl) ?_
  refine lv_iload_n hx hb dX9_key_6 rfl (lv_at hl 1 rfl) ?_
  refine lv_iload_n hx hb dX9_key_7 rfl (lv_at hl 2 rfl) ?_
  refine go_i (wr := []) (tysr := []) hP hD hS hA hK [0] [] [] rfl rfl (by decide) (by decide) rfl (va_runV (As := [.int i, .int w]) (rest := []) ⟨hx, hb, hml, hown, hts⟩ (c_X9_isKey l D H.size h0 a0 a2 a4 a5 a6 a7 a8 a9 a14 a15 a16 0 i w ) (cwV 2 hts gX9_key_X9_isKey rfl rfl rfl (by decide +kernel) ⟨Nat.le_of_ble_eq_true rfl, Nat.le_of_ble_eq_true rfl⟩) (st_preV (ci := 8) (q0 := 0) hP hD hK hNW [0] [] rfl rfl (by decide) rfl rfl rfl rfl) rfl rfl hl.1 rfl (lv_room (Nat.le_of_ble_eq_true rfl)) dX9_key_8 ⟨(Nat.le_of_ble_eq_true rfl), (Nat.le_of_ble_eq_true rfl)⟩) (fun r_1 u H locs hw hP hD hK hS => ?_)
  have hw : r_1 = 0 := hw
  subst hw
  have hP : va_P D vwCl [(h0, .inr (8, [.ref a0, .int 0, .ref a2, .int 0, .ref a4, .ref a5, .ref a6, .ref a7, .ref a8, .ref a9, .int 0, .int 0, .int 0, .int 0, .ref a14, .ref a15, .ref a16]))] H := hP
  have hD : va_D A [(h0, .inr (8, [.ref a0, .int 0, .ref a2, .int 0, .ref a4, .ref a5, .ref a6, .ref a7, .ref a8, .ref a9, .int 0, .int 0, .int 0, .int 0, .ref a14, .ref a15, .ref a16]))] := hD
  have hK : va_K D vwCl [] s := hK
  refine lv_if_eq (tgt := 28) hx hb dX9_key_11 (by decide) (fun _ => ?_) (fun c_2 => absurd (by decide) c_2)
  refine lv_iconst (v := (-1)) hx hb dX9_key_28 (by decide) ?_
  exact ret_i hx hb hr hlocks rfl (u := ()) rfl (hP.sub [] rfl) (hK.sub [] rfl) (hD.sub [] (by decide) rfl) hS (Nat.le_of_ble_eq_true rfl) (Nat.le_of_ble_eq_true rfl) dX9_key_29
theorem hiX9_press_X9 : ∀ w ∈ wsX90, w ∈ wsX9_press := mem_pl [42, 43, 44, 45, 46, 47, 48, 49, 50, 51, 52, 53, 54, 55, 56, 57, 58] rfl
set_option maxHeartbeats 4000000 in
set_option maxRecDepth 100000 in
theorem c_X9_press (l : Launch) (D : va_G) (sz : Nat) (h0 : Nat) (a0 : Nat) (a2 : Nat) (a4 : Nat) (a5 : Nat) (a6 : Nat) (a7 : Nat) (a8 : Nat) (a9 : Nat) (a14 : Nat) (a15 : Nat) (a16 : Nat) (th : Int32) (i : Int32) (w : Int32)  : Ci l yX9_press wsX9_press ({ frames := 3, cells := 0, slots := 0, locals := 65 } : Room) D [.ref h0, .int i, .int w] [(h0, .inr (8, [.ref a0, .int 0, .ref a2, .int 0, .ref a4, .ref a5, .ref a6, .ref a7, .ref a8, .ref a9, .int 0, .int 0, .int th, .int 0, .ref a14, .ref a15, .ref a16]))] [] sz (fun (r : Int32) => fun (_ : Unit) => r = -1) (fun (_ : Unit) => []) (fun (_ : Unit) => []) := by
  refine ct_i (cc := cX9_press) (maxL := 3) (ret := (some .int)) (by decide) rfl (Nat.le_of_ble_eq_true rfl) ?_
  intro p e s m below meth c A ls H hx hb hr hts hown hml hlocks hin hA hS hP hK hD hNW hl hAe hsz
  have hl : lv_has ls 3 [(0, .ref h0), (1, .int i), (2, .int w)] := hl
  refine lv_aload_n hx hb dX9_press_0 rfl (lv_at hl 0 rfl) ?_
  refine lv_iconst (v := 0) hx hb dX9_press_1 (by decide) ?_
  refine va_put (D := D) (ci := 8) (v := .int 0) (ty := .int) (C := RX9) (T := TX9) (N := 17) hx hb hts hiX9_press_X9 tyX9 tyX9_ok nmX9 hown hK hP hD hS 0 rfl rfl 12 (by decide) (hts (.fieldLink RX9 43 "OneHandsetModel" "thrown" "I") (List.mem_of_getElem? (i := 1) rfl)) (fun _ h9 => h9) rfl (by decide +kernel) rfl rfl (Nat.le_of_ble_eq_true rfl) dX9_press_2 (fun H locs hP hD hS => ?_)
  have hP : va_P D vwCl [(h0, .inr (8, [.ref a0, .int 0, .ref a2, .int 0, .ref a4, .ref a5, .ref a6, .ref a7, .ref a8, .ref a9, .int 0, .int 0, .int 0, .int 0, .ref a14, .ref a15, .ref a16]))] H := hP
  have hD : va_D A [(h0, .inr (8, [.ref a0, .int 0, .ref a2, .int 0, .ref a4, .ref a5, .ref a6, .ref a7, .ref a8, .ref a9, .int 0, .int 0, .int 0, .int 0, .ref a14, .ref a15, .ref a16]))] := hD
  refine lv_aload_n hx hb dX9_press_5 rfl (lv_at hl 0 rfl) ?_
  refine lv_iload_n hx hb dX9_press_6 rfl (lv_at hl 1 rfl) ?_
  refine lv_iload_n hx hb dX9_press_7 rfl (lv_at hl 2 rfl) ?_
  refine go_i (wr := []) (tysr := []) hP hD hS hA hK [0] [] [] rfl rfl (by decide) (by decide) rfl (va_runV (As := [.int i, .int w]) (rest := []) ⟨hx, hb, hml, hown, hts⟩ (c_X9_isKey l D H.size h0 a0 a2 a4 a5 a6 a7 a8 a9 a14 a15 a16 0 i w ) (cwV 2 hts gX9_press_X9_isKey rfl rfl rfl (by decide +kernel) ⟨Nat.le_of_ble_eq_true rfl, Nat.le_of_ble_eq_true rfl⟩) (st_preV (ci := 8) (q0 := 0) hP hD hK hNW [0] [] rfl rfl (by decide) rfl rfl rfl rfl) rfl rfl hl.1 rfl (lv_room (Nat.le_of_ble_eq_true rfl)) dX9_press_8 ⟨(Nat.le_of_ble_eq_true rfl), (Nat.le_of_ble_eq_true rfl)⟩) (fun r_1 u H locs hw hP hD hK hS => ?_)
  have hw : r_1 = 0 := hw
  subst hw
  have hP : va_P D vwCl [(h0, .inr (8, [.ref a0, .int 0, .ref a2, .int 0, .ref a4, .ref a5, .ref a6, .ref a7, .ref a8, .ref a9, .int 0, .int 0, .int 0, .int 0, .ref a14, .ref a15, .ref a16]))] H := hP
  have hD : va_D A [(h0, .inr (8, [.ref a0, .int 0, .ref a2, .int 0, .ref a4, .ref a5, .ref a6, .ref a7, .ref a8, .ref a9, .int 0, .int 0, .int 0, .int 0, .ref a14, .ref a15, .ref a16]))] := hD
  have hK : va_K D vwCl [] s := hK
  refine lv_if_eq (tgt := 29) hx hb dX9_press_11 (by decide) (fun _ => ?_) (fun c_2 => absurd (by decide) c_2)
  refine lv_iconst (v := (-1)) hx hb dX9_press_29 (by decide) ?_
  exact ret_i hx hb hr hlocks rfl (u := ()) rfl (hP.sub [] rfl) (hK.sub [] rfl) (hD.sub [] (by decide) rfl) hS (Nat.le_of_ble_eq_true rfl) (Nat.le_of_ble_eq_true rfl) dX9_press_30
theorem hiX9_of_X9 : ∀ w ∈ wsX90, w ∈ wsX9_of := mem_pl [33, 34, 35, 36, 37, 38, 39, 40, 41, 42, 43, 44, 45, 46, 47, 48, 49] rfl
set_option maxHeartbeats 4000000 in
set_option maxRecDepth 100000 in
theorem c_X9_of (l : Launch) (D : va_G) (sz : Nat) (h0 : Nat) (a0 : Nat) (a2 : Nat) (a4 : Nat) (a5 : Nat) (a6 : Nat) (a7 : Nat) (a8 : Nat) (a9 : Nat) (a14 : Nat) (a15 : Nat) (a16 : Nat) (th : Int32) (i : Int32) (w : Int32)  : Ci l yX9_of wsX9_of ({ frames := 2, cells := 0, slots := 0, locals := 43 } : Room) D [.ref h0, .int i, .int w] [(h0, .inr (8, [.ref a0, .int 0, .ref a2, .int 0, .ref a4, .ref a5, .ref a6, .ref a7, .ref a8, .ref a9, .int 0, .int 0, .int th, .int 0, .ref a14, .ref a15, .ref a16]))] [] sz (fun (r : Int32) => fun (_ : Unit) => r = -1) (fun (_ : Unit) => []) (fun (_ : Unit) => []) := by
  refine ct_i (cc := cX9_of) (maxL := 3) (ret := (some .int)) (by decide) rfl (Nat.le_of_ble_eq_true rfl) ?_
  intro p e s m below meth c A ls H hx hb hr hts hown hml hlocks hin hA hS hP hK hD hNW hl hAe hsz
  have hl : lv_has ls 3 [(0, .ref h0), (1, .int i), (2, .int w)] := hl
  refine lv_aload_n hx hb dX9_of_0 rfl (lv_at hl 0 rfl) ?_
  refine lv_iconst (v := 0) hx hb dX9_of_1 (by decide) ?_
  refine va_put (D := D) (ci := 8) (v := .int 0) (ty := .int) (C := RX9) (T := TX9) (N := 17) hx hb hts hiX9_of_X9 tyX9 tyX9_ok nmX9 hown hK hP hD hS 0 rfl rfl 12 (by decide) (hts (.fieldLink RX9 43 "OneHandsetModel" "thrown" "I") (List.mem_of_getElem? (i := 1) rfl)) (fun _ h9 => h9) rfl (by decide +kernel) rfl rfl (Nat.le_of_ble_eq_true rfl) dX9_of_2 (fun H locs hP hD hS => ?_)
  have hP : va_P D vwCl [(h0, .inr (8, [.ref a0, .int 0, .ref a2, .int 0, .ref a4, .ref a5, .ref a6, .ref a7, .ref a8, .ref a9, .int 0, .int 0, .int 0, .int 0, .ref a14, .ref a15, .ref a16]))] H := hP
  have hD : va_D A [(h0, .inr (8, [.ref a0, .int 0, .ref a2, .int 0, .ref a4, .ref a5, .ref a6, .ref a7, .ref a8, .ref a9, .int 0, .int 0, .int 0, .int 0, .ref a14, .ref a15, .ref a16]))] := hD
  refine lv_aload_n hx hb dX9_of_5 rfl (lv_at hl 0 rfl) ?_
  refine lv_iload_n hx hb dX9_of_6 rfl (lv_at hl 1 rfl) ?_
  refine go_i (wr := []) (tysr := []) hP hD hS hA hK [0] [] [] rfl rfl (by decide) (by decide) rfl (va_runV (As := [.int i]) (rest := []) ⟨hx, hb, hml, hown, hts⟩ (c_X9_isMake l D H.size h0 a0 a2 a4 a5 a6 a7 a8 a9 a14 a15 a16 0 i ) (cwV 1 hts gX9_of_X9_isMake rfl rfl rfl (by decide +kernel) ⟨Nat.le_of_ble_eq_true rfl, Nat.le_of_ble_eq_true rfl⟩) (st_preV (ci := 8) (q0 := 0) hP hD hK hNW [0] [] rfl rfl (by decide) rfl rfl rfl rfl) rfl rfl hl.1 rfl (lv_room (Nat.le_of_ble_eq_true rfl)) dX9_of_7 ⟨(Nat.le_of_ble_eq_true rfl), (Nat.le_of_ble_eq_true rfl)⟩) (fun r_1 u H locs hw hP hD hK hS => ?_)
  have hw : r_1 = 0 := hw
  subst hw
  have hP : va_P D vwCl [(h0, .inr (8, [.ref a0, .int 0, .ref a2, .int 0, .ref a4, .ref a5, .ref a6, .ref a7, .ref a8, .ref a9, .int 0, .int 0, .int 0, .int 0, .ref a14, .ref a15, .ref a16]))] H := hP
  have hD : va_D A [(h0, .inr (8, [.ref a0, .int 0, .ref a2, .int 0, .ref a4, .ref a5, .ref a6, .ref a7, .ref a8, .ref a9, .int 0, .int 0, .int 0, .int 0, .ref a14, .ref a15, .ref a16]))] := hD
  have hK : va_K D vwCl [] s := hK
  refine lv_if_ne (tgt := 15) hx hb dX9_of_10 (by decide) (fun c_2 => absurd c_2 (by decide)) (fun _ => ?_)
  refine lv_iconst (v := (-1)) hx hb dX9_of_13 (by decide) ?_
  exact ret_i hx hb hr hlocks rfl (u := ()) rfl (hP.sub [] rfl) (hK.sub [] rfl) (hD.sub [] (by decide) rfl) hS (Nat.le_of_ble_eq_true rfl) (Nat.le_of_ble_eq_true rfl) dX9_of_14
theorem hiX9_check_X9 : ∀ w ∈ wsX90, w ∈ wsX9_check := mem_pl [36, 37, 38, 39, 40, 41, 42, 43, 44, 45, 46, 47, 48, 49, 50, 51, 52] rfl
set_option maxHeartbeats 4000000 in
set_option maxRecDepth 100000 in
theorem c_X9_check (l : Launch) (D : va_G) (sz : Nat) (h0 : Nat) (a0 : Nat) (a2 : Nat) (a4 : Nat) (a5 : Nat) (a6 : Nat) (a7 : Nat) (a8 : Nat) (a9 : Nat) (a14 : Nat) (a15 : Nat) (a16 : Nat) (th : Int32) (i : Int32) (w : Int32)  : Ci l yX9_check wsX9_check ({ frames := 2, cells := 0, slots := 0, locals := 43 } : Room) D [.ref h0, .int i, .int w] [(h0, .inr (8, [.ref a0, .int 0, .ref a2, .int 0, .ref a4, .ref a5, .ref a6, .ref a7, .ref a8, .ref a9, .int 0, .int 0, .int th, .int 0, .ref a14, .ref a15, .ref a16]))] [] sz (fun (r : Int32) => fun (_ : Unit) => r = -1) (fun (_ : Unit) => []) (fun (_ : Unit) => []) := by
  refine ct_i (cc := cX9_check) (maxL := 3) (ret := (some .int)) (by decide) rfl (Nat.le_of_ble_eq_true rfl) ?_
  intro p e s m below meth c A ls H hx hb hr hts hown hml hlocks hin hA hS hP hK hD hNW hl hAe hsz
  have hl : lv_has ls 3 [(0, .ref h0), (1, .int i), (2, .int w)] := hl
  refine lv_aload_n hx hb dX9_check_0 rfl (lv_at hl 0 rfl) ?_
  refine lv_iconst (v := 0) hx hb dX9_check_1 (by decide) ?_
  refine va_put (D := D) (ci := 8) (v := .int 0) (ty := .int) (C := RX9) (T := TX9) (N := 17) hx hb hts hiX9_check_X9 tyX9 tyX9_ok nmX9 hown hK hP hD hS 0 rfl rfl 12 (by decide) (hts (.fieldLink RX9 43 "OneHandsetModel" "thrown" "I") (List.mem_of_getElem? (i := 1) rfl)) (fun _ h9 => h9) rfl (by decide +kernel) rfl rfl (Nat.le_of_ble_eq_true rfl) dX9_check_2 (fun H locs hP hD hS => ?_)
  have hP : va_P D vwCl [(h0, .inr (8, [.ref a0, .int 0, .ref a2, .int 0, .ref a4, .ref a5, .ref a6, .ref a7, .ref a8, .ref a9, .int 0, .int 0, .int 0, .int 0, .ref a14, .ref a15, .ref a16]))] H := hP
  have hD : va_D A [(h0, .inr (8, [.ref a0, .int 0, .ref a2, .int 0, .ref a4, .ref a5, .ref a6, .ref a7, .ref a8, .ref a9, .int 0, .int 0, .int 0, .int 0, .ref a14, .ref a15, .ref a16]))] := hD
  refine lv_aload_n hx hb dX9_check_5 rfl (lv_at hl 0 rfl) ?_
  refine lv_iload_n hx hb dX9_check_6 rfl (lv_at hl 1 rfl) ?_
  refine go_i (wr := []) (tysr := []) hP hD hS hA hK [0] [] [] rfl rfl (by decide) (by decide) rfl (va_runV (As := [.int i]) (rest := []) ⟨hx, hb, hml, hown, hts⟩ (c_X9_isMake l D H.size h0 a0 a2 a4 a5 a6 a7 a8 a9 a14 a15 a16 0 i ) (cwV 1 hts gX9_check_X9_isMake rfl rfl rfl (by decide +kernel) ⟨Nat.le_of_ble_eq_true rfl, Nat.le_of_ble_eq_true rfl⟩) (st_preV (ci := 8) (q0 := 0) hP hD hK hNW [0] [] rfl rfl (by decide) rfl rfl rfl rfl) rfl rfl hl.1 rfl (lv_room (Nat.le_of_ble_eq_true rfl)) dX9_check_7 ⟨(Nat.le_of_ble_eq_true rfl), (Nat.le_of_ble_eq_true rfl)⟩) (fun r_1 u H locs hw hP hD hK hS => ?_)
  have hw : r_1 = 0 := hw
  subst hw
  have hP : va_P D vwCl [(h0, .inr (8, [.ref a0, .int 0, .ref a2, .int 0, .ref a4, .ref a5, .ref a6, .ref a7, .ref a8, .ref a9, .int 0, .int 0, .int 0, .int 0, .ref a14, .ref a15, .ref a16]))] H := hP
  have hD : va_D A [(h0, .inr (8, [.ref a0, .int 0, .ref a2, .int 0, .ref a4, .ref a5, .ref a6, .ref a7, .ref a8, .ref a9, .int 0, .int 0, .int 0, .int 0, .ref a14, .ref a15, .ref a16]))] := hD
  have hK : va_K D vwCl [] s := hK
  refine lv_if_eq (tgt := 31) hx hb dX9_check_10 (by decide) (fun _ => ?_) (fun c_2 => absurd (by decide) c_2)
  refine lv_iconst (v := (-1)) hx hb dX9_check_31 (by decide) ?_
  exact ret_i hx hb hr hlocks rfl (u := ()) rfl (hP.sub [] rfl) (hK.sub [] rfl) (hD.sub [] (by decide) rfl) hS (Nat.le_of_ble_eq_true rfl) (Nat.le_of_ble_eq_true rfl) dX9_check_32
theorem hiX9_many_X9 : ∀ w ∈ wsX90, w ∈ wsX9_many := mem_pl [65, 66, 67, 68, 69, 70, 71, 72, 73, 74, 75, 76, 77, 78, 79, 80, 81] rfl
set_option maxHeartbeats 4000000 in
set_option maxRecDepth 100000 in
theorem c_X9_many (l : Launch) (D : va_G) (sz : Nat) (h0 : Nat) (a0 : Nat) (a2 : Nat) (a4 : Nat) (a5 : Nat) (a6 : Nat) (a7 : Nat) (a8 : Nat) (a9 : Nat) (a14 : Nat) (a15 : Nat) (a16 : Nat) (th : Int32) (i : Int32)  : Ci l yX9_many wsX9_many ({ frames := 3, cells := 0, slots := 0, locals := 64 } : Room) D [.ref h0, .int i] [(h0, .inr (8, [.ref a0, .int 0, .ref a2, .int 0, .ref a4, .ref a5, .ref a6, .ref a7, .ref a8, .ref a9, .int 0, .int 0, .int th, .int 0, .ref a14, .ref a15, .ref a16]))] [] sz (fun (r : Int32) => fun (_ : Unit) => r = -1) (fun (_ : Unit) => []) (fun (_ : Unit) => []) := by
  refine ct_i (cc := cX9_many) (maxL := 2) (ret := (some .int)) (by decide) rfl (Nat.le_of_ble_eq_true rfl) ?_
  intro p e s m below meth c A ls H hx hb hr hts hown hml hlocks hin hA hS hP hK hD hNW hl hAe hsz
  have hl : lv_has ls 2 [(0, .ref h0), (1, .int i)] := hl
  refine lv_aload_n hx hb dX9_many_0 rfl (lv_at hl 0 rfl) ?_
  refine lv_iconst (v := 0) hx hb dX9_many_1 (by decide) ?_
  refine va_put (D := D) (ci := 8) (v := .int 0) (ty := .int) (C := RX9) (T := TX9) (N := 17) hx hb hts hiX9_many_X9 tyX9 tyX9_ok nmX9 hown hK hP hD hS 0 rfl rfl 12 (by decide) (hts (.fieldLink RX9 43 "OneHandsetModel" "thrown" "I") (List.mem_of_getElem? (i := 1) rfl)) (fun _ h9 => h9) rfl (by decide +kernel) rfl rfl (Nat.le_of_ble_eq_true rfl) dX9_many_2 (fun H locs hP hD hS => ?_)
  have hP : va_P D vwCl [(h0, .inr (8, [.ref a0, .int 0, .ref a2, .int 0, .ref a4, .ref a5, .ref a6, .ref a7, .ref a8, .ref a9, .int 0, .int 0, .int 0, .int 0, .ref a14, .ref a15, .ref a16]))] H := hP
  have hD : va_D A [(h0, .inr (8, [.ref a0, .int 0, .ref a2, .int 0, .ref a4, .ref a5, .ref a6, .ref a7, .ref a8, .ref a9, .int 0, .int 0, .int 0, .int 0, .ref a14, .ref a15, .ref a16]))] := hD
  refine lv_aload_n hx hb dX9_many_5 rfl (lv_at hl 0 rfl) ?_
  refine lv_iload_n hx hb dX9_many_6 rfl (lv_at hl 1 rfl) ?_
  refine go_i (wr := []) (tysr := []) hP hD hS hA hK [0] [] [] rfl rfl (by decide) (by decide) rfl (va_runV (As := [.int i]) (rest := []) ⟨hx, hb, hml, hown, hts⟩ (c_X9_canForesee l D H.size h0 a0 a2 a4 a5 a6 a7 a8 a9 a14 a15 a16 0 i ) (cwV 1 hts gX9_many_X9_canForesee rfl rfl rfl (by decide +kernel) ⟨Nat.le_of_ble_eq_true rfl, Nat.le_of_ble_eq_true rfl⟩) (st_preV (ci := 8) (q0 := 0) hP hD hK hNW [0] [] rfl rfl (by decide) rfl rfl rfl rfl) rfl rfl hl.1 rfl (lv_room (Nat.le_of_ble_eq_true rfl)) dX9_many_7 ⟨(Nat.le_of_ble_eq_true rfl), (Nat.le_of_ble_eq_true rfl)⟩) (fun r_1 u H locs hw hP hD hK hS => ?_)
  have hw : r_1 = 0 := hw
  subst hw
  have hP : va_P D vwCl [(h0, .inr (8, [.ref a0, .int 0, .ref a2, .int 0, .ref a4, .ref a5, .ref a6, .ref a7, .ref a8, .ref a9, .int 0, .int 0, .int 0, .int 0, .ref a14, .ref a15, .ref a16]))] H := hP
  have hD : va_D A [(h0, .inr (8, [.ref a0, .int 0, .ref a2, .int 0, .ref a4, .ref a5, .ref a6, .ref a7, .ref a8, .ref a9, .int 0, .int 0, .int 0, .int 0, .ref a14, .ref a15, .ref a16]))] := hD
  have hK : va_K D vwCl [] s := hK
  refine lv_if_eq (tgt := 23) hx hb dX9_many_10 (by decide) (fun _ => ?_) (fun c_2 => absurd (by decide) c_2)
  refine lv_iconst (v := (-1)) hx hb dX9_many_23 (by decide) ?_
  exact ret_i hx hb hr hlocks rfl (u := ()) rfl (hP.sub [] rfl) (hK.sub [] rfl) (hD.sub [] (by decide) rfl) hS (Nat.le_of_ble_eq_true rfl) (Nat.le_of_ble_eq_true rfl) dX9_many_24
theorem hiX9_foreseen_X9 : ∀ w ∈ wsX90, w ∈ wsX9_foreseen := mem_pl [65, 66, 67, 68, 69, 70, 71, 72, 73, 74, 75, 76, 77, 78, 79, 80, 81] rfl
set_option maxHeartbeats 4000000 in
set_option maxRecDepth 100000 in
theorem c_X9_foreseen (l : Launch) (D : va_G) (sz : Nat) (h0 : Nat) (a0 : Nat) (a2 : Nat) (a4 : Nat) (a5 : Nat) (a6 : Nat) (a7 : Nat) (a8 : Nat) (a9 : Nat) (a14 : Nat) (a15 : Nat) (a16 : Nat) (th : Int32) (i : Int32) (w : Int32)  : Ci l yX9_foreseen wsX9_foreseen ({ frames := 3, cells := 0, slots := 0, locals := 64 } : Room) D [.ref h0, .int i, .int w] [(h0, .inr (8, [.ref a0, .int 0, .ref a2, .int 0, .ref a4, .ref a5, .ref a6, .ref a7, .ref a8, .ref a9, .int 0, .int 0, .int th, .int 0, .ref a14, .ref a15, .ref a16]))] [] sz (fun (r : Int32) => fun (_ : Unit) => r = -1) (fun (_ : Unit) => []) (fun (_ : Unit) => []) := by
  refine ct_i (cc := cX9_foreseen) (maxL := 3) (ret := (some .int)) (by decide) rfl (Nat.le_of_ble_eq_true rfl) ?_
  intro p e s m below meth c A ls H hx hb hr hts hown hml hlocks hin hA hS hP hK hD hNW hl hAe hsz
  have hl : lv_has ls 3 [(0, .ref h0), (1, .int i), (2, .int w)] := hl
  refine lv_aload_n hx hb dX9_foreseen_0 rfl (lv_at hl 0 rfl) ?_
  refine lv_iconst (v := 0) hx hb dX9_foreseen_1 (by decide) ?_
  refine va_put (D := D) (ci := 8) (v := .int 0) (ty := .int) (C := RX9) (T := TX9) (N := 17) hx hb hts hiX9_foreseen_X9 tyX9 tyX9_ok nmX9 hown hK hP hD hS 0 rfl rfl 12 (by decide) (hts (.fieldLink RX9 43 "OneHandsetModel" "thrown" "I") (List.mem_of_getElem? (i := 1) rfl)) (fun _ h9 => h9) rfl (by decide +kernel) rfl rfl (Nat.le_of_ble_eq_true rfl) dX9_foreseen_2 (fun H locs hP hD hS => ?_)
  have hP : va_P D vwCl [(h0, .inr (8, [.ref a0, .int 0, .ref a2, .int 0, .ref a4, .ref a5, .ref a6, .ref a7, .ref a8, .ref a9, .int 0, .int 0, .int 0, .int 0, .ref a14, .ref a15, .ref a16]))] H := hP
  have hD : va_D A [(h0, .inr (8, [.ref a0, .int 0, .ref a2, .int 0, .ref a4, .ref a5, .ref a6, .ref a7, .ref a8, .ref a9, .int 0, .int 0, .int 0, .int 0, .ref a14, .ref a15, .ref a16]))] := hD
  refine lv_aload_n hx hb dX9_foreseen_5 rfl (lv_at hl 0 rfl) ?_
  refine lv_iload_n hx hb dX9_foreseen_6 rfl (lv_at hl 1 rfl) ?_
  refine go_i (wr := []) (tysr := []) hP hD hS hA hK [0] [] [] rfl rfl (by decide) (by decide) rfl (va_runV (As := [.int i]) (rest := []) ⟨hx, hb, hml, hown, hts⟩ (c_X9_canForesee l D H.size h0 a0 a2 a4 a5 a6 a7 a8 a9 a14 a15 a16 0 i ) (cwV 1 hts gX9_foreseen_X9_canForesee rfl rfl rfl (by decide +kernel) ⟨Nat.le_of_ble_eq_true rfl, Nat.le_of_ble_eq_true rfl⟩) (st_preV (ci := 8) (q0 := 0) hP hD hK hNW [0] [] rfl rfl (by decide) rfl rfl rfl rfl) rfl rfl hl.1 rfl (lv_room (Nat.le_of_ble_eq_true rfl)) dX9_foreseen_7 ⟨(Nat.le_of_ble_eq_true rfl), (Nat.le_of_ble_eq_true rfl)⟩) (fun r_1 u H locs hw hP hD hK hS => ?_)
  have hw : r_1 = 0 := hw
  subst hw
  have hP : va_P D vwCl [(h0, .inr (8, [.ref a0, .int 0, .ref a2, .int 0, .ref a4, .ref a5, .ref a6, .ref a7, .ref a8, .ref a9, .int 0, .int 0, .int 0, .int 0, .ref a14, .ref a15, .ref a16]))] H := hP
  have hD : va_D A [(h0, .inr (8, [.ref a0, .int 0, .ref a2, .int 0, .ref a4, .ref a5, .ref a6, .ref a7, .ref a8, .ref a9, .int 0, .int 0, .int 0, .int 0, .ref a14, .ref a15, .ref a16]))] := hD
  have hK : va_K D vwCl [] s := hK
  refine lv_if_eq (tgt := 23) hx hb dX9_foreseen_10 (by decide) (fun _ => ?_) (fun c_2 => absurd (by decide) c_2)
  refine lv_iconst (v := (-1)) hx hb dX9_foreseen_23 (by decide) ?_
  exact ret_i hx hb hr hlocks rfl (u := ()) rfl (hP.sub [] rfl) (hK.sub [] rfl) (hD.sub [] (by decide) rfl) hS (Nat.le_of_ble_eq_true rfl) (Nat.le_of_ble_eq_true rfl) dX9_foreseen_24
theorem hiX9_both_X9 : ∀ w ∈ wsX90, w ∈ wsX9_both := mem_pl [59, 60, 61, 62, 63, 64, 65, 66, 67, 68, 69, 70, 71, 72, 73, 74, 75] rfl
set_option maxHeartbeats 4000000 in
set_option maxRecDepth 100000 in
theorem c_X9_both (l : Launch) (D : va_G) (sz : Nat) (h0 : Nat) (a0 : Nat) (a2 : Nat) (a4 : Nat) (a5 : Nat) (a6 : Nat) (a7 : Nat) (a8 : Nat) (a9 : Nat) (a14 : Nat) (a15 : Nat) (a16 : Nat) (th : Int32) (i : Int32) (w : Int32)  : Ci l yX9_both wsX9_both ({ frames := 3, cells := 0, slots := 0, locals := 64 } : Room) D [.ref h0, .int i, .int w] [(h0, .inr (8, [.ref a0, .int 0, .ref a2, .int 0, .ref a4, .ref a5, .ref a6, .ref a7, .ref a8, .ref a9, .int 0, .int 0, .int th, .int 0, .ref a14, .ref a15, .ref a16]))] [] sz (fun (r : Int32) => fun (_ : Unit) => r = -1) (fun (_ : Unit) => []) (fun (_ : Unit) => []) := by
  refine ct_i (cc := cX9_both) (maxL := 9) (ret := (some .int)) (by decide) rfl (Nat.le_of_ble_eq_true rfl) ?_
  intro p e s m below meth c A ls H hx hb hr hts hown hml hlocks hin hA hS hP hK hD hNW hl hAe hsz
  have hl : lv_has ls 9 [(0, .ref h0), (1, .int i), (2, .int w)] := hl
  refine lv_aload_n hx hb dX9_both_0 rfl (lv_at hl 0 rfl) ?_
  refine lv_iconst (v := 0) hx hb dX9_both_1 (by decide) ?_
  refine va_put (D := D) (ci := 8) (v := .int 0) (ty := .int) (C := RX9) (T := TX9) (N := 17) hx hb hts hiX9_both_X9 tyX9 tyX9_ok nmX9 hown hK hP hD hS 0 rfl rfl 12 (by decide) (hts (.fieldLink RX9 43 "OneHandsetModel" "thrown" "I") (List.mem_of_getElem? (i := 1) rfl)) (fun _ h9 => h9) rfl (by decide +kernel) rfl rfl (Nat.le_of_ble_eq_true rfl) dX9_both_2 (fun H locs hP hD hS => ?_)
  have hP : va_P D vwCl [(h0, .inr (8, [.ref a0, .int 0, .ref a2, .int 0, .ref a4, .ref a5, .ref a6, .ref a7, .ref a8, .ref a9, .int 0, .int 0, .int 0, .int 0, .ref a14, .ref a15, .ref a16]))] H := hP
  have hD : va_D A [(h0, .inr (8, [.ref a0, .int 0, .ref a2, .int 0, .ref a4, .ref a5, .ref a6, .ref a7, .ref a8, .ref a9, .int 0, .int 0, .int 0, .int 0, .ref a14, .ref a15, .ref a16]))] := hD
  refine lv_aload_n hx hb dX9_both_5 rfl (lv_at hl 0 rfl) ?_
  refine lv_iload_n hx hb dX9_both_6 rfl (lv_at hl 1 rfl) ?_
  refine go_i (wr := []) (tysr := []) hP hD hS hA hK [0] [] [] rfl rfl (by decide) (by decide) rfl (va_runV (As := [.int i]) (rest := []) ⟨hx, hb, hml, hown, hts⟩ (c_X9_canForesee l D H.size h0 a0 a2 a4 a5 a6 a7 a8 a9 a14 a15 a16 0 i ) (cwV 1 hts gX9_both_X9_canForesee rfl rfl rfl (by decide +kernel) ⟨Nat.le_of_ble_eq_true rfl, Nat.le_of_ble_eq_true rfl⟩) (st_preV (ci := 8) (q0 := 0) hP hD hK hNW [0] [] rfl rfl (by decide) rfl rfl rfl rfl) rfl rfl hl.1 rfl (lv_room (Nat.le_of_ble_eq_true rfl)) dX9_both_7 ⟨(Nat.le_of_ble_eq_true rfl), (Nat.le_of_ble_eq_true rfl)⟩) (fun r_1 u H locs hw hP hD hK hS => ?_)
  have hw : r_1 = 0 := hw
  subst hw
  have hP : va_P D vwCl [(h0, .inr (8, [.ref a0, .int 0, .ref a2, .int 0, .ref a4, .ref a5, .ref a6, .ref a7, .ref a8, .ref a9, .int 0, .int 0, .int 0, .int 0, .ref a14, .ref a15, .ref a16]))] H := hP
  have hD : va_D A [(h0, .inr (8, [.ref a0, .int 0, .ref a2, .int 0, .ref a4, .ref a5, .ref a6, .ref a7, .ref a8, .ref a9, .int 0, .int 0, .int 0, .int 0, .ref a14, .ref a15, .ref a16]))] := hD
  have hK : va_K D vwCl [] s := hK
  refine lv_if_eq (tgt := 36) hx hb dX9_both_10 (by decide) (fun _ => ?_) (fun c_2 => absurd (by decide) c_2)
  refine lv_iconst (v := (-1)) hx hb dX9_both_36 (by decide) ?_
  exact ret_i hx hb hr hlocks rfl (u := ()) rfl (hP.sub [] rfl) (hK.sub [] rfl) (hD.sub [] (by decide) rfl) hS (Nat.le_of_ble_eq_true rfl) (Nat.le_of_ble_eq_true rfl) dX9_both_37
theorem hiX9_end_X9 : ∀ w ∈ wsX90, w ∈ wsX9_end := mem_pl [3, 4, 5, 6, 7, 8, 9, 10, 11, 12, 13, 14, 15, 16, 17, 18, 19] rfl
set_option maxHeartbeats 4000000 in
set_option maxRecDepth 100000 in
theorem c_X9_end (l : Launch) (D : va_G) (sz : Nat) (h0 : Nat) (a0 : Nat) (a2 : Nat) (a4 : Nat) (a5 : Nat) (a6 : Nat) (a7 : Nat) (a8 : Nat) (a9 : Nat) (a14 : Nat) (a15 : Nat) (a16 : Nat) (th : Int32) (n : Int32)  : Ci l yX9_end wsX9_end ({ frames := 0, cells := 0, slots := 0, locals := 0 } : Room) D [.ref h0, .int n] [(h0, .inr (8, [.ref a0, .int 0, .ref a2, .int 0, .ref a4, .ref a5, .ref a6, .ref a7, .ref a8, .ref a9, .int 0, .int 0, .int th, .int 0, .ref a14, .ref a15, .ref a16]))] [] sz (fun (r : Int32) => fun (_ : Unit) => r = if wi n 0 0 = 0 then 0 else 1) (fun (_ : Unit) => []) (fun (_ : Unit) => []) := by
  refine ct_i (cc := cX9_end) (maxL := 2) (ret := (some .boolean)) (by decide) rfl (Nat.le_of_ble_eq_true rfl) ?_
  intro p e s m below meth c A ls H hx hb hr hts hown hml hlocks hin hA hS hP hK hD hNW hl hAe hsz
  have hl : lv_has ls 2 [(0, .ref h0), (1, .int n)] := hl
  refine lv_aload_n hx hb dX9_end_0 rfl (lv_at hl 0 rfl) ?_
  refine lv_iconst (v := 0) hx hb dX9_end_1 (by decide) ?_
  refine va_put (D := D) (ci := 8) (v := .int 0) (ty := .int) (C := RX9) (T := TX9) (N := 17) hx hb hts hiX9_end_X9 tyX9 tyX9_ok nmX9 hown hK hP hD hS 0 rfl rfl 12 (by decide) (hts (.fieldLink RX9 43 "OneHandsetModel" "thrown" "I") (List.mem_of_getElem? (i := 1) rfl)) (fun _ h9 => h9) rfl (by decide +kernel) rfl rfl (Nat.le_of_ble_eq_true rfl) dX9_end_2 (fun H locs hP hD hS => ?_)
  have hP : va_P D vwCl [(h0, .inr (8, [.ref a0, .int 0, .ref a2, .int 0, .ref a4, .ref a5, .ref a6, .ref a7, .ref a8, .ref a9, .int 0, .int 0, .int 0, .int 0, .ref a14, .ref a15, .ref a16]))] H := hP
  have hD : va_D A [(h0, .inr (8, [.ref a0, .int 0, .ref a2, .int 0, .ref a4, .ref a5, .ref a6, .ref a7, .ref a8, .ref a9, .int 0, .int 0, .int 0, .int 0, .ref a14, .ref a15, .ref a16]))] := hD
  refine lv_iload_n hx hb dX9_end_5 rfl (lv_at hl 1 rfl) ?_
  refine lv_if_lt (tgt := 17) hx hb dX9_end_6 (by decide) (fun c_1 => ?_) (fun c_1 => ?_)
  · refine lv_iconst (v := 0) hx hb dX9_end_17 (by decide) ?_
    exact ret_i hx hb hr hlocks rfl (u := ()) (by simp [wi, c_1]) (hP.sub [] rfl) (hK.sub [] rfl) (hD.sub [] (by decide) rfl) hS (Nat.le_of_ble_eq_true rfl) (Nat.le_of_ble_eq_true rfl) dX9_end_18
  refine lv_iload_n hx hb dX9_end_9 rfl (lv_at hl 1 rfl) ?_
  refine lv_aload_n hx hb dX9_end_10 rfl (lv_at hl 0 rfl) ?_
  refine va_get (D := D) (ci := 8) (v := .int 0) (C := RX9) (T := TX9) (N := 17) hx hb hts hiX9_end_X9 hown hK hP 0 rfl rfl 1 (by decide) (hts (.fieldLink RX9 62 "OneHandsetModel" "taped" "I") (List.mem_of_getElem? (i := 2) rfl)) (fun _ h9 => h9) rfl dX9_end_11 ?_
  refine lv_icmp_le (tgt := 19) hx hb dX9_end_14 (by decide) (fun c_2 => ?_) (fun c_2 => ?_)
  · refine lv_aload_n hx hb dX9_end_19 rfl (lv_at hl 0 rfl) ?_
    refine lv_iload_n hx hb dX9_end_20 rfl (lv_at hl 1 rfl) ?_
    refine va_put (D := D) (ci := 8) (v := .int n) (ty := .int) (C := RX9) (T := TX9) (N := 17) hx hb hts hiX9_end_X9 tyX9 tyX9_ok nmX9 hown hK hP hD hS 0 rfl rfl 1 (by decide) (hts (.fieldLink RX9 62 "OneHandsetModel" "taped" "I") (List.mem_of_getElem? (i := 2) rfl)) (fun _ h9 => h9) rfl (by decide +kernel) rfl rfl (Nat.le_of_ble_eq_true rfl) dX9_end_21 (fun H locs hP hD hS => ?_)
    have hP : va_P D vwCl [(h0, .inr (8, [.ref a0, .int n, .ref a2, .int 0, .ref a4, .ref a5, .ref a6, .ref a7, .ref a8, .ref a9, .int 0, .int 0, .int 0, .int 0, .ref a14, .ref a15, .ref a16]))] H := hP
    have hD : va_D A [(h0, .inr (8, [.ref a0, .int n, .ref a2, .int 0, .ref a4, .ref a5, .ref a6, .ref a7, .ref a8, .ref a9, .int 0, .int 0, .int 0, .int 0, .ref a14, .ref a15, .ref a16]))] := hD
    refine lv_iconst (v := 1) hx hb dX9_end_24 (by decide) ?_
    exact ret_i hx hb hr hlocks rfl (u := ()) (by simp [wi, c_1, c_2]) (hP.sub [] rfl) (hK.sub [] rfl) (hD.sub [] (by decide) rfl) hS (Nat.le_of_ble_eq_true rfl) (Nat.le_of_ble_eq_true rfl) dX9_end_25
  refine lv_iconst (v := 0) hx hb dX9_end_17 (by decide) ?_
  exact ret_i hx hb hr hlocks rfl (u := ()) (by simp [wi, c_1, c_2]) (hP.sub [] rfl) (hK.sub [] rfl) (hD.sub [] (by decide) rfl) hS (Nat.le_of_ble_eq_true rfl) (Nat.le_of_ble_eq_true rfl) dX9_end_18
theorem hiX9_stretch_X9 : ∀ w ∈ wsX90, w ∈ wsX9_stretch := mem_pl [11, 12, 13, 14, 15, 16, 17, 18, 19, 20, 21, 22, 23, 24, 25, 26, 27] rfl
set_option maxHeartbeats 4000000 in
set_option maxRecDepth 100000 in
theorem c_X9_stretch (l : Launch) (D : va_G) (sz : Nat) (h0 : Nat) (a0 : Nat) (a2 : Nat) (a4 : Nat) (a5 : Nat) (a6 : Nat) (a7 : Nat) (a8 : Nat) (a9 : Nat) (a14 : Nat) (a15 : Nat) (a16 : Nat) (th : Int32) (n : Int32)  : Ci l yX9_stretch wsX9_stretch ({ frames := 1, cells := 0, slots := 0, locals := 22 } : Room) D [.ref h0, .int n] [(h0, .inr (8, [.ref a0, .int 0, .ref a2, .int 0, .ref a4, .ref a5, .ref a6, .ref a7, .ref a8, .ref a9, .int 0, .int 0, .int th, .int 0, .ref a14, .ref a15, .ref a16]))] [] sz (fun (r : Int32) => fun (_ : Unit) => r = if wi n (-60) 60 = 0 then 0 else 1) (fun (_ : Unit) => []) (fun (_ : Unit) => []) := by
  refine ct_i (cc := cX9_stretch) (maxL := 4) (ret := (some .boolean)) (by decide) rfl (Nat.le_of_ble_eq_true rfl) ?_
  intro p e s m below meth c A ls H hx hb hr hts hown hml hlocks hin hA hS hP hK hD hNW hl hAe hsz
  have hl : lv_has ls 4 [(0, .ref h0), (1, .int n)] := hl
  refine lv_aload_n hx hb dX9_stretch_0 rfl (lv_at hl 0 rfl) ?_
  refine lv_iconst (v := 0) hx hb dX9_stretch_1 (by decide) ?_
  refine va_put (D := D) (ci := 8) (v := .int 0) (ty := .int) (C := RX9) (T := TX9) (N := 17) hx hb hts hiX9_stretch_X9 tyX9 tyX9_ok nmX9 hown hK hP hD hS 0 rfl rfl 12 (by decide) (hts (.fieldLink RX9 43 "OneHandsetModel" "thrown" "I") (List.mem_of_getElem? (i := 1) rfl)) (fun _ h9 => h9) rfl (by decide +kernel) rfl rfl (Nat.le_of_ble_eq_true rfl) dX9_stretch_2 (fun H locs hP hD hS => ?_)
  have hP : va_P D vwCl [(h0, .inr (8, [.ref a0, .int 0, .ref a2, .int 0, .ref a4, .ref a5, .ref a6, .ref a7, .ref a8, .ref a9, .int 0, .int 0, .int 0, .int 0, .ref a14, .ref a15, .ref a16]))] H := hP
  have hD : va_D A [(h0, .inr (8, [.ref a0, .int 0, .ref a2, .int 0, .ref a4, .ref a5, .ref a6, .ref a7, .ref a8, .ref a9, .int 0, .int 0, .int 0, .int 0, .ref a14, .ref a15, .ref a16]))] := hD
  refine lv_iload_n hx hb dX9_stretch_5 rfl (lv_at hl 1 rfl) ?_
  refine lv_bipush (v := (-60)) hx hb dX9_stretch_6 (by decide) ?_
  refine lv_bipush (v := 60) hx hb dX9_stretch_8 (by decide) ?_
  refine go_i (wr := [(h0, .inr (8, [.ref a0, .int 0, .ref a2, .int 0, .ref a4, .ref a5, .ref a6, .ref a7, .ref a8, .ref a9, .int 0, .int 0, .int 0, .int 0, .ref a14, .ref a15, .ref a16]))]) (tysr := []) hP hD hS hA hK [] [0] [] rfl rfl (by decide) (by decide) rfl (va_runS (As := [.int n, .int (-60), .int 60]) (rest := []) ⟨hx, hb, hml, hown, hts⟩ (c_X9_in l D H.size n (-60) 60 ) (va_cwS 3 hts gX9_stretch_X9_in rfl rfl rfl (by decide +kernel) ⟨Nat.le_of_ble_eq_true rfl, Nat.le_of_ble_eq_true rfl⟩) (st_preS hP hD hK hNW [] [] rfl rfl (by decide) rfl) rfl rfl hl.1 rfl (lv_room (Nat.le_of_ble_eq_true rfl)) dX9_stretch_10 ⟨(Nat.le_of_ble_eq_true rfl), (Nat.le_of_ble_eq_true rfl)⟩) (fun r_1 u H locs hw hP hD hK hS => ?_)
  have hw : r_1 = wi n (-60) 60 := hw
  subst hw
  have hP : va_P D vwCl [(h0, .inr (8, [.ref a0, .int 0, .ref a2, .int 0, .ref a4, .ref a5, .ref a6, .ref a7, .ref a8, .ref a9, .int 0, .int 0, .int 0, .int 0, .ref a14, .ref a15, .ref a16]))] H := hP
  have hD : va_D A [(h0, .inr (8, [.ref a0, .int 0, .ref a2, .int 0, .ref a4, .ref a5, .ref a6, .ref a7, .ref a8, .ref a9, .int 0, .int 0, .int 0, .int 0, .ref a14, .ref a15, .ref a16]))] := hD
  have hK : va_K D vwCl [] s := hK
  refine lv_if_ne (tgt := 18) hx hb dX9_stretch_13 (by decide) (fun c_2 => ?_) (fun c_2 => ?_)
  · refine lv_iconst (v := 0) hx hb dX9_stretch_18 (by decide) ?_
    refine lv_istore_n (lv' := [(2, .int 0), (0, .ref h0), (1, .int n)]) hx hb dX9_stretch_19 rfl hl (by decide) rfl (fun ls hl => ?_)
    refine lv_iload_n hx hb dX9_stretch_20 rfl (lv_at hl 0 rfl) ?_
    refine lv_aload_n hx hb dX9_stretch_21 rfl (lv_at hl 1 rfl) ?_
    refine va_get (D := D) (ci := 8) (v := .int 0) (C := RX9) (T := TX9) (N := 17) hx hb hts hiX9_stretch_X9 hown hK hP 0 rfl rfl 1 (by decide) (hts (.fieldLink RX9 62 "OneHandsetModel" "taped" "I") (List.mem_of_getElem? (i := 2) rfl)) (fun _ h9 => h9) rfl dX9_stretch_22 ?_
    refine lv_icmp_ge (tgt := 97) hx hb dX9_stretch_25 (by decide) (fun _ => ?_) (fun c_3 => absurd (by decide) c_3)
    refine lv_iconst (v := 1) hx hb dX9_stretch_97 (by decide) ?_
    exact ret_i hx hb hr hlocks rfl (u := ()) (by simp [c_2]) (hP.sub [] rfl) (hK.sub [] rfl) (hD.sub [] (by decide) rfl) hS (Nat.le_of_ble_eq_true rfl) (Nat.le_of_ble_eq_true rfl) dX9_stretch_98
  refine lv_iconst (v := 0) hx hb dX9_stretch_16 (by decide) ?_
  exact ret_i hx hb hr hlocks rfl (u := ()) (by simp [c_2]) (hP.sub [] rfl) (hK.sub [] rfl) (hD.sub [] (by decide) rfl) hS (Nat.le_of_ble_eq_true rfl) (Nat.le_of_ble_eq_true rfl) dX9_stretch_17
theorem hiX9_count_X9 : ∀ w ∈ wsX90, w ∈ wsX9_count := mem_pl [5, 6, 7, 8, 9, 10, 11, 12, 13, 14, 15, 16, 17, 18, 19, 20, 21] rfl
set_option maxHeartbeats 4000000 in
set_option maxRecDepth 100000 in
theorem c_X9_count (l : Launch) (D : va_G) (sz : Nat) (h0 : Nat) (a0 : Nat) (a2 : Nat) (a4 : Nat) (a5 : Nat) (a6 : Nat) (a7 : Nat) (a8 : Nat) (a9 : Nat) (a14 : Nat) (a15 : Nat) (a16 : Nat) (th : Int32) (w : Int32)  : Ci l yX9_count wsX9_count ({ frames := 0, cells := 0, slots := 0, locals := 0 } : Room) D [.ref h0, .int w] [(h0, .inr (8, [.ref a0, .int 0, .ref a2, .int 0, .ref a4, .ref a5, .ref a6, .ref a7, .ref a8, .ref a9, .int 0, .int 0, .int th, .int 0, .ref a14, .ref a15, .ref a16]))] [] sz (fun (r : Int32) => fun (_ : Unit) => r = coS w) (fun (_ : Unit) => []) (fun (_ : Unit) => []) := by
  refine ct_i (cc := cX9_count) (maxL := 2) (ret := (some .int)) (by decide) rfl (Nat.le_of_ble_eq_true rfl) ?_
  intro p e s m below meth c A ls H hx hb hr hts hown hml hlocks hin hA hS hP hK hD hNW hl hAe hsz
  have hl : lv_has ls 2 [(0, .ref h0), (1, .int w)] := hl
  refine lv_aload_n hx hb dX9_count_0 rfl (lv_at hl 0 rfl) ?_
  refine lv_iconst (v := 0) hx hb dX9_count_1 (by decide) ?_
  refine va_put (D := D) (ci := 8) (v := .int 0) (ty := .int) (C := RX9) (T := TX9) (N := 17) hx hb hts hiX9_count_X9 tyX9 tyX9_ok nmX9 hown hK hP hD hS 0 rfl rfl 12 (by decide) (hts (.fieldLink RX9 43 "OneHandsetModel" "thrown" "I") (List.mem_of_getElem? (i := 1) rfl)) (fun _ h9 => h9) rfl (by decide +kernel) rfl rfl (Nat.le_of_ble_eq_true rfl) dX9_count_2 (fun H locs hP hD hS => ?_)
  have hP : va_P D vwCl [(h0, .inr (8, [.ref a0, .int 0, .ref a2, .int 0, .ref a4, .ref a5, .ref a6, .ref a7, .ref a8, .ref a9, .int 0, .int 0, .int 0, .int 0, .ref a14, .ref a15, .ref a16]))] H := hP
  have hD : va_D A [(h0, .inr (8, [.ref a0, .int 0, .ref a2, .int 0, .ref a4, .ref a5, .ref a6, .ref a7, .ref a8, .ref a9, .int 0, .int 0, .int 0, .int 0, .ref a14, .ref a15, .ref a16]))] := hD
  refine lv_iload_n hx hb dX9_count_5 rfl (lv_at hl 1 rfl) ?_
  refine lv_if_ne (tgt := 16) hx hb dX9_count_6 (by decide) (fun c_1 => ?_) (fun c_1 => ?_)
  · refine lv_iload_n hx hb dX9_count_16 rfl (lv_at hl 1 rfl) ?_
    refine lv_iconst (v := 1) hx hb dX9_count_17 (by decide) ?_
    refine lv_icmp_ne (tgt := 28) hx hb dX9_count_18 (by decide) (fun c_2 => ?_) (fun c_2 => ?_)
    · refine lv_iload_n hx hb dX9_count_28 rfl (lv_at hl 1 rfl) ?_
      refine lv_iconst (v := 2) hx hb dX9_count_29 (by decide) ?_
      refine lv_icmp_ne (tgt := 40) hx hb dX9_count_30 (by decide) (fun c_3 => ?_) (fun c_3 => ?_)
      · refine lv_iconst (v := (-1)) hx hb dX9_count_40 (by decide) ?_
        exact ret_i hx hb hr hlocks rfl (u := ()) (by simp [coS, c_1, c_2, c_3]) (hP.sub [] rfl) (hK.sub [] rfl) (hD.sub [] (by decide) rfl) hS (Nat.le_of_ble_eq_true rfl) (Nat.le_of_ble_eq_true rfl) dX9_count_41
      refine lv_aload_n hx hb dX9_count_33 rfl (lv_at hl 0 rfl) ?_
      refine va_get (D := D) (ci := 8) (v := .int 0) (C := RX9) (T := TX9) (N := 17) hx hb hts hiX9_count_X9 hown hK hP 0 rfl rfl 10 (by decide) (hts (.fieldLink RX9 168 "OneHandsetModel" "wayMany" "I") (List.mem_of_getElem? (i := 4) rfl)) (fun _ h9 => h9) rfl dX9_count_34 ?_
      refine lv_goto (tgt := 41) hx hb dX9_count_37 (by decide) ?_
      exact ret_i hx hb hr hlocks rfl (u := ()) (by simp [coS, c_1, c_2, c_3]) (hP.sub [] rfl) (hK.sub [] rfl) (hD.sub [] (by decide) rfl) hS (Nat.le_of_ble_eq_true rfl) (Nat.le_of_ble_eq_true rfl) dX9_count_41
    refine lv_aload_n hx hb dX9_count_21 rfl (lv_at hl 0 rfl) ?_
    refine va_get (D := D) (ci := 8) (v := .int 0) (C := RX9) (T := TX9) (N := 17) hx hb hts hiX9_count_X9 hown hK hP 0 rfl rfl 1 (by decide) (hts (.fieldLink RX9 62 "OneHandsetModel" "taped" "I") (List.mem_of_getElem? (i := 3) rfl)) (fun _ h9 => h9) rfl dX9_count_22 ?_
    refine lv_goto (tgt := 41) hx hb dX9_count_25 (by decide) ?_
    exact ret_i hx hb hr hlocks rfl (u := ()) (by simp [coS, c_1, c_2]) (hP.sub [] rfl) (hK.sub [] rfl) (hD.sub [] (by decide) rfl) hS (Nat.le_of_ble_eq_true rfl) (Nat.le_of_ble_eq_true rfl) dX9_count_41
  refine lv_aload_n hx hb dX9_count_9 rfl (lv_at hl 0 rfl) ?_
  refine va_get (D := D) (ci := 8) (v := .int 0) (C := RX9) (T := TX9) (N := 17) hx hb hts hiX9_count_X9 hown hK hP 0 rfl rfl 3 (by decide) (hts (.fieldLink RX9 47 "OneHandsetModel" "makeMany" "I") (List.mem_of_getElem? (i := 2) rfl)) (fun _ h9 => h9) rfl dX9_count_10 ?_
  refine lv_goto (tgt := 41) hx hb dX9_count_13 (by decide) ?_
  exact ret_i hx hb hr hlocks rfl (u := ()) (by simp [coS, c_1]) (hP.sub [] rfl) (hK.sub [] rfl) (hD.sub [] (by decide) rfl) hS (Nat.le_of_ble_eq_true rfl) (Nat.le_of_ble_eq_true rfl) dX9_count_41
theorem hiX9_button_X9 : ∀ w ∈ wsX90, w ∈ wsX9_button := mem_pl [8, 9, 10, 11, 12, 13, 14, 15, 16, 17, 18, 19, 20, 21, 22, 23, 24] rfl
set_option maxHeartbeats 4000000 in
set_option maxRecDepth 100000 in
theorem c_X9_button (l : Launch) (D : va_G) (sz : Nat) (h0 : Nat) (a0 : Nat) (a2 : Nat) (a4 : Nat) (a5 : Nat) (a6 : Nat) (a7 : Nat) (a8 : Nat) (a9 : Nat) (a14 : Nat) (a15 : Nat) (a16 : Nat) (th : Int32) (w : Int32)  : Ci l yX9_button wsX9_button ({ frames := 1, cells := 0, slots := 0, locals := 22 } : Room) D [.ref h0, .int w] [(h0, .inr (8, [.ref a0, .int 0, .ref a2, .int 0, .ref a4, .ref a5, .ref a6, .ref a7, .ref a8, .ref a9, .int 0, .int 0, .int th, .int 0, .ref a14, .ref a15, .ref a16]))] [] sz (fun (r : Int32) => fun (_ : Unit) => r = -1) (fun (_ : Unit) => []) (fun (_ : Unit) => []) := by
  refine ct_i (cc := cX9_button) (maxL := 2) (ret := (some .int)) (by decide) rfl (Nat.le_of_ble_eq_true rfl) ?_
  intro p e s m below meth c A ls H hx hb hr hts hown hml hlocks hin hA hS hP hK hD hNW hl hAe hsz
  have hl : lv_has ls 2 [(0, .ref h0), (1, .int w)] := hl
  refine lv_aload_n hx hb dX9_button_0 rfl (lv_at hl 0 rfl) ?_
  refine lv_iconst (v := 0) hx hb dX9_button_1 (by decide) ?_
  refine va_put (D := D) (ci := 8) (v := .int 0) (ty := .int) (C := RX9) (T := TX9) (N := 17) hx hb hts hiX9_button_X9 tyX9 tyX9_ok nmX9 hown hK hP hD hS 0 rfl rfl 12 (by decide) (hts (.fieldLink RX9 43 "OneHandsetModel" "thrown" "I") (List.mem_of_getElem? (i := 1) rfl)) (fun _ h9 => h9) rfl (by decide +kernel) rfl rfl (Nat.le_of_ble_eq_true rfl) dX9_button_2 (fun H locs hP hD hS => ?_)
  have hP : va_P D vwCl [(h0, .inr (8, [.ref a0, .int 0, .ref a2, .int 0, .ref a4, .ref a5, .ref a6, .ref a7, .ref a8, .ref a9, .int 0, .int 0, .int 0, .int 0, .ref a14, .ref a15, .ref a16]))] H := hP
  have hD : va_D A [(h0, .inr (8, [.ref a0, .int 0, .ref a2, .int 0, .ref a4, .ref a5, .ref a6, .ref a7, .ref a8, .ref a9, .int 0, .int 0, .int 0, .int 0, .ref a14, .ref a15, .ref a16]))] := hD
  refine lv_iload_n hx hb dX9_button_5 rfl (lv_at hl 1 rfl) ?_
  refine lv_iconst (v := 0) hx hb dX9_button_6 (by decide) ?_
  refine lv_aload_n hx hb dX9_button_7 rfl (lv_at hl 0 rfl) ?_
  refine va_get (D := D) (ci := 8) (v := .int 0) (C := RX9) (T := TX9) (N := 17) hx hb hts hiX9_button_X9 hown hK hP 0 rfl rfl 10 (by decide) (hts (.fieldLink RX9 168 "OneHandsetModel" "wayMany" "I") (List.mem_of_getElem? (i := 2) rfl)) (fun _ h9 => h9) rfl dX9_button_8 ?_
  refine lv_iconst (v := 1) hx hb dX9_button_11 (by decide) ?_
  refine lv_isub hx hb dX9_button_12 ?_
  refine lv_topi (fun v_1 ev_1 => ?_)
  obtain rfl : v_1 = (-1 : Int32) := ev_1.trans (by decide)
  refine go_i (wr := [(h0, .inr (8, [.ref a0, .int 0, .ref a2, .int 0, .ref a4, .ref a5, .ref a6, .ref a7, .ref a8, .ref a9, .int 0, .int 0, .int 0, .int 0, .ref a14, .ref a15, .ref a16]))]) (tysr := []) hP hD hS hA hK [] [0] [] rfl rfl (by decide) (by decide) rfl (va_runS (As := [.int w, .int 0, .int (-1)]) (rest := []) ⟨hx, hb, hml, hown, hts⟩ (c_X9_in l D H.size w 0 (-1) ) (va_cwS 3 hts gX9_button_X9_in rfl rfl rfl (by decide +kernel) ⟨Nat.le_of_ble_eq_true rfl, Nat.le_of_ble_eq_true rfl⟩) (st_preS hP hD hK hNW [] [] rfl rfl (by decide) rfl) rfl rfl hl.1 rfl (lv_room (Nat.le_of_ble_eq_true rfl)) dX9_button_13 ⟨(Nat.le_of_ble_eq_true rfl), (Nat.le_of_ble_eq_true rfl)⟩) (fun r_2 u H locs hw hP hD hK hS => ?_)
  have hw : r_2 = wi w 0 (-1) := hw
  subst hw
  have hP : va_P D vwCl [(h0, .inr (8, [.ref a0, .int 0, .ref a2, .int 0, .ref a4, .ref a5, .ref a6, .ref a7, .ref a8, .ref a9, .int 0, .int 0, .int 0, .int 0, .ref a14, .ref a15, .ref a16]))] H := hP
  have hD : va_D A [(h0, .inr (8, [.ref a0, .int 0, .ref a2, .int 0, .ref a4, .ref a5, .ref a6, .ref a7, .ref a8, .ref a9, .int 0, .int 0, .int 0, .int 0, .ref a14, .ref a15, .ref a16]))] := hD
  have hK : va_K D vwCl [] s := hK
  refine lv_if_eq (tgt := 28) hx hb dX9_button_16 (by decide) (fun _ => ?_) (fun c_3 => absurd (wi_0m _) c_3)
  refine lv_iconst (v := (-1)) hx hb dX9_button_28 (by decide) ?_
  exact ret_i hx hb hr hlocks rfl (u := ()) rfl (hP.sub [] rfl) (hK.sub [] rfl) (hD.sub [] (by decide) rfl) hS (Nat.le_of_ble_eq_true rfl) (Nat.le_of_ble_eq_true rfl) dX9_button_29
theorem hiX9_time_X9 : ∀ w ∈ wsX90, w ∈ wsX9_time := mem_pl [8, 9, 10, 11, 12, 13, 14, 15, 16, 17, 18, 19, 20, 21, 22, 23, 24] rfl
set_option maxHeartbeats 4000000 in
set_option maxRecDepth 100000 in
theorem c_X9_time (l : Launch) (D : va_G) (sz : Nat) (h0 : Nat) (a0 : Nat) (a2 : Nat) (a4 : Nat) (a5 : Nat) (a6 : Nat) (a7 : Nat) (a8 : Nat) (a9 : Nat) (a14 : Nat) (a15 : Nat) (a16 : Nat) (th : Int32) (i : Int32)  : Ci l yX9_time wsX9_time ({ frames := 1, cells := 0, slots := 0, locals := 22 } : Room) D [.ref h0, .int i] [(h0, .inr (8, [.ref a0, .int 0, .ref a2, .int 0, .ref a4, .ref a5, .ref a6, .ref a7, .ref a8, .ref a9, .int 0, .int 0, .int th, .int 0, .ref a14, .ref a15, .ref a16]))] [] sz (fun (r : Int32) => fun (_ : Unit) => r = 0) (fun (_ : Unit) => [(h0, .inr (8, [.ref a0, .int 0, .ref a2, .int 0, .ref a4, .ref a5, .ref a6, .ref a7, .ref a8, .ref a9, .int 0, .int 0, .int 1, .int 0, .ref a14, .ref a15, .ref a16]))]) (fun (_ : Unit) => []) := by
  refine ct_i (cc := cX9_time) (maxL := 2) (ret := (some .int)) (by decide) rfl (Nat.le_of_ble_eq_true rfl) ?_
  intro p e s m below meth c A ls H hx hb hr hts hown hml hlocks hin hA hS hP hK hD hNW hl hAe hsz
  have hl : lv_has ls 2 [(0, .ref h0), (1, .int i)] := hl
  refine lv_aload_n hx hb dX9_time_0 rfl (lv_at hl 0 rfl) ?_
  refine lv_iconst (v := 0) hx hb dX9_time_1 (by decide) ?_
  refine va_put (D := D) (ci := 8) (v := .int 0) (ty := .int) (C := RX9) (T := TX9) (N := 17) hx hb hts hiX9_time_X9 tyX9 tyX9_ok nmX9 hown hK hP hD hS 0 rfl rfl 12 (by decide) (hts (.fieldLink RX9 43 "OneHandsetModel" "thrown" "I") (List.mem_of_getElem? (i := 1) rfl)) (fun _ h9 => h9) rfl (by decide +kernel) rfl rfl (Nat.le_of_ble_eq_true rfl) dX9_time_2 (fun H locs hP hD hS => ?_)
  have hP : va_P D vwCl [(h0, .inr (8, [.ref a0, .int 0, .ref a2, .int 0, .ref a4, .ref a5, .ref a6, .ref a7, .ref a8, .ref a9, .int 0, .int 0, .int 0, .int 0, .ref a14, .ref a15, .ref a16]))] H := hP
  have hD : va_D A [(h0, .inr (8, [.ref a0, .int 0, .ref a2, .int 0, .ref a4, .ref a5, .ref a6, .ref a7, .ref a8, .ref a9, .int 0, .int 0, .int 0, .int 0, .ref a14, .ref a15, .ref a16]))] := hD
  refine lv_iload_n hx hb dX9_time_5 rfl (lv_at hl 1 rfl) ?_
  refine lv_iconst (v := 0) hx hb dX9_time_6 (by decide) ?_
  refine lv_aload_n hx hb dX9_time_7 rfl (lv_at hl 0 rfl) ?_
  refine va_get (D := D) (ci := 8) (v := .int 0) (C := RX9) (T := TX9) (N := 17) hx hb hts hiX9_time_X9 hown hK hP 0 rfl rfl 1 (by decide) (hts (.fieldLink RX9 62 "OneHandsetModel" "taped" "I") (List.mem_of_getElem? (i := 2) rfl)) (fun _ h9 => h9) rfl dX9_time_8 ?_
  refine lv_iconst (v := 1) hx hb dX9_time_11 (by decide) ?_
  refine lv_isub hx hb dX9_time_12 ?_
  refine lv_topi (fun v_1 ev_1 => ?_)
  obtain rfl : v_1 = (-1 : Int32) := ev_1.trans (by decide)
  refine go_i (wr := [(h0, .inr (8, [.ref a0, .int 0, .ref a2, .int 0, .ref a4, .ref a5, .ref a6, .ref a7, .ref a8, .ref a9, .int 0, .int 0, .int 0, .int 0, .ref a14, .ref a15, .ref a16]))]) (tysr := []) hP hD hS hA hK [] [0] [] rfl rfl (by decide) (by decide) rfl (va_runS (As := [.int i, .int 0, .int (-1)]) (rest := []) ⟨hx, hb, hml, hown, hts⟩ (c_X9_in l D H.size i 0 (-1) ) (va_cwS 3 hts gX9_time_X9_in rfl rfl rfl (by decide +kernel) ⟨Nat.le_of_ble_eq_true rfl, Nat.le_of_ble_eq_true rfl⟩) (st_preS hP hD hK hNW [] [] rfl rfl (by decide) rfl) rfl rfl hl.1 rfl (lv_room (Nat.le_of_ble_eq_true rfl)) dX9_time_13 ⟨(Nat.le_of_ble_eq_true rfl), (Nat.le_of_ble_eq_true rfl)⟩) (fun r_2 u H locs hw hP hD hK hS => ?_)
  have hw : r_2 = wi i 0 (-1) := hw
  subst hw
  have hP : va_P D vwCl [(h0, .inr (8, [.ref a0, .int 0, .ref a2, .int 0, .ref a4, .ref a5, .ref a6, .ref a7, .ref a8, .ref a9, .int 0, .int 0, .int 0, .int 0, .ref a14, .ref a15, .ref a16]))] H := hP
  have hD : va_D A [(h0, .inr (8, [.ref a0, .int 0, .ref a2, .int 0, .ref a4, .ref a5, .ref a6, .ref a7, .ref a8, .ref a9, .int 0, .int 0, .int 0, .int 0, .ref a14, .ref a15, .ref a16]))] := hD
  have hK : va_K D vwCl [] s := hK
  refine lv_if_ne (tgt := 26) hx hb dX9_time_16 (by decide) (fun c_3 => absurd c_3 (fun h9 => h9 (wi_0m _))) (fun _ => ?_)
  refine lv_aload_n hx hb dX9_time_19 rfl (lv_at hl 0 rfl) ?_
  refine lv_iconst (v := 1) hx hb dX9_time_20 (by decide) ?_
  refine va_put (D := D) (ci := 8) (v := .int 1) (ty := .int) (C := RX9) (T := TX9) (N := 17) hx hb hts hiX9_time_X9 tyX9 tyX9_ok nmX9 hown hK hP hD hS 0 rfl rfl 12 (by decide) (hts (.fieldLink RX9 43 "OneHandsetModel" "thrown" "I") (List.mem_of_getElem? (i := 1) rfl)) (fun _ h9 => h9) rfl (by decide +kernel) rfl rfl (Nat.le_of_ble_eq_true rfl) dX9_time_21 (fun H locs hP hD hS => ?_)
  have hP : va_P D vwCl [(h0, .inr (8, [.ref a0, .int 0, .ref a2, .int 0, .ref a4, .ref a5, .ref a6, .ref a7, .ref a8, .ref a9, .int 0, .int 0, .int 1, .int 0, .ref a14, .ref a15, .ref a16]))] H := hP
  have hD : va_D A [(h0, .inr (8, [.ref a0, .int 0, .ref a2, .int 0, .ref a4, .ref a5, .ref a6, .ref a7, .ref a8, .ref a9, .int 0, .int 0, .int 1, .int 0, .ref a14, .ref a15, .ref a16]))] := hD
  refine lv_iconst (v := 0) hx hb dX9_time_24 (by decide) ?_
  exact ret_i hx hb hr hlocks rfl (u := ()) rfl (hP.sub [0] rfl) (hK.sub [] rfl) (hD.sub [0] (by decide) rfl) hS (Nat.le_of_ble_eq_true rfl) (Nat.le_of_ble_eq_true rfl) dX9_time_25
theorem hiX9_thrown_X9 : ∀ w ∈ wsX90, w ∈ wsX9_thrown := mem_pl [2, 3, 4, 5, 6, 7, 8, 9, 10, 11, 12, 13, 14, 15, 16, 17, 18] rfl
set_option maxHeartbeats 4000000 in
set_option maxRecDepth 100000 in
theorem c_X9_thrown (l : Launch) (D : va_G) (sz : Nat) (h0 : Nat) (a0 : Nat) (a2 : Nat) (a4 : Nat) (a5 : Nat) (a6 : Nat) (a7 : Nat) (a8 : Nat) (a9 : Nat) (a14 : Nat) (a15 : Nat) (a16 : Nat) (th : Int32)  : Ci l yX9_thrown wsX9_thrown ({ frames := 0, cells := 0, slots := 0, locals := 0 } : Room) D [.ref h0] [(h0, .inr (8, [.ref a0, .int 0, .ref a2, .int 0, .ref a4, .ref a5, .ref a6, .ref a7, .ref a8, .ref a9, .int 0, .int 0, .int th, .int 0, .ref a14, .ref a15, .ref a16]))] [] sz (fun (r : Int32) => fun (_ : Unit) => r = th) (fun (_ : Unit) => [(h0, .inr (8, [.ref a0, .int 0, .ref a2, .int 0, .ref a4, .ref a5, .ref a6, .ref a7, .ref a8, .ref a9, .int 0, .int 0, .int th, .int 0, .ref a14, .ref a15, .ref a16]))]) (fun (_ : Unit) => []) := by
  refine ct_i (cc := cX9_thrown) (maxL := 1) (ret := (some .int)) (by decide) rfl (Nat.le_of_ble_eq_true rfl) ?_
  intro p e s m below meth c A ls H hx hb hr hts hown hml hlocks hin hA hS hP hK hD hNW hl hAe hsz
  have hl : lv_has ls 1 [(0, .ref h0)] := hl
  refine lv_aload_n hx hb dX9_thrown_0 rfl (lv_at hl 0 rfl) ?_
  refine va_get (D := D) (ci := 8) (v := .int th) (C := RX9) (T := TX9) (N := 17) hx hb hts hiX9_thrown_X9 hown hK hP 0 rfl rfl 12 (by decide) (hts (.fieldLink RX9 43 "OneHandsetModel" "thrown" "I") (List.mem_of_getElem? (i := 1) rfl)) (fun _ h9 => h9) rfl dX9_thrown_1 ?_
  exact ret_i hx hb hr hlocks rfl (u := ()) rfl (hP.sub [0] rfl) (hK.sub [] rfl) (hD.sub [0] (by decide) rfl) hS (Nat.le_of_ble_eq_true rfl) (Nat.le_of_ble_eq_true rfl) dX9_thrown_4
theorem hiX9_feed_X9 : ∀ w ∈ wsX90, w ∈ wsX9_feed := mem_pl [4, 5, 6, 7, 8, 9, 10, 11, 12, 13, 14, 15, 16, 17, 18, 19, 20] rfl
set_option maxHeartbeats 4000000 in
set_option maxRecDepth 100000 in
theorem c_X9_feed (l : Launch) (D : va_G) (sz : Nat) (h0 : Nat) (a0 : Nat) (a2 : Nat) (a4 : Nat) (a5 : Nat) (a6 : Nat) (a7 : Nat) (a8 : Nat) (a9 : Nat) (a14 : Nat) (a15 : Nat) (a16 : Nat) (th : Int32) (k0 : ClassId) (f0 : Nat → Int32) (a : Int32) (b : Int32) (cc : Int32) (d : Int32) (e9 : Int32)  : Ci l yX9_feed wsX9_feed ({ frames := 0, cells := 0, slots := 0, locals := 0 } : Room) D [.ref h0, .int a, .int b, .int cc, .int d, .int e9] [(h0, .inr (8, [.ref a0, .int 0, .ref a2, .int 0, .ref a4, .ref a5, .ref a6, .ref a7, .ref a8, .ref a9, .int 0, .int 0, .int th, .int 0, .ref a14, .ref a15, .ref a16])), (a0, .inl (k0, 120, .inl f0))] [(k0, .int)] sz (fun (r : Int32) => fun (_ : Unit) => r = 5) (fun (_ : Unit) => []) (fun (_ : Unit) => []) := by
  refine ct_i (cc := cX9_feed) (maxL := 6) (ret := (some .int)) (by decide) rfl (Nat.le_of_ble_eq_true rfl) ?_
  intro p e s m below meth c A ls H hx hb hr hts hown hml hlocks hin hA hS hP hK hD hNW hl hAe hsz
  have hl : lv_has ls 6 [(0, .ref h0), (1, .int a), (2, .int b), (3, .int cc), (4, .int d), (5, .int e9)] := hl
  refine lv_aload_n hx hb dX9_feed_0 rfl (lv_at hl 0 rfl) ?_
  refine lv_iconst (v := 0) hx hb dX9_feed_1 (by decide) ?_
  refine va_put (D := D) (ci := 8) (v := .int 0) (ty := .int) (C := RX9) (T := TX9) (N := 17) hx hb hts hiX9_feed_X9 tyX9 tyX9_ok nmX9 hown hK hP hD hS 0 rfl rfl 12 (by decide) (hts (.fieldLink RX9 43 "OneHandsetModel" "thrown" "I") (List.mem_of_getElem? (i := 1) rfl)) (fun _ h9 => h9) rfl (by decide +kernel) rfl rfl (Nat.le_of_ble_eq_true rfl) dX9_feed_2 (fun H locs hP hD hS => ?_)
  have hP : va_P D vwCl [(h0, .inr (8, [.ref a0, .int 0, .ref a2, .int 0, .ref a4, .ref a5, .ref a6, .ref a7, .ref a8, .ref a9, .int 0, .int 0, .int 0, .int 0, .ref a14, .ref a15, .ref a16])), (a0, .inl (k0, 120, .inl f0))] H := hP
  have hD : va_D A [(h0, .inr (8, [.ref a0, .int 0, .ref a2, .int 0, .ref a4, .ref a5, .ref a6, .ref a7, .ref a8, .ref a9, .int 0, .int 0, .int 0, .int 0, .ref a14, .ref a15, .ref a16])), (a0, .inl (k0, 120, .inl f0))] := hD
  refine lv_aload_n hx hb dX9_feed_5 rfl (lv_at hl 0 rfl) ?_
  refine va_get (D := D) (ci := 8) (v := .int 0) (C := RX9) (T := TX9) (N := 17) hx hb hts hiX9_feed_X9 hown hK hP 0 rfl rfl 1 (by decide) (hts (.fieldLink RX9 62 "OneHandsetModel" "taped" "I") (List.mem_of_getElem? (i := 2) rfl)) (fun _ h9 => h9) rfl dX9_feed_6 ?_
  refine lv_iconst (v := 5) hx hb dX9_feed_9 (by decide) ?_
  refine lv_iadd hx hb dX9_feed_10 ?_
  refine lv_topi (fun v_1 ev_1 => ?_)
  obtain rfl : v_1 = (5 : Int32) := ev_1.trans (by decide)
  refine lv_bipush (v := 120) hx hb dX9_feed_11 (by decide) ?_
  refine lv_icmp_le (tgt := 18) hx hb dX9_feed_13 (by decide) (fun _ => ?_) (fun c_2 => absurd (by decide) c_2)
  refine lv_aload_n hx hb dX9_feed_18 rfl (lv_at hl 0 rfl) ?_
  refine va_get (D := D) (ci := 8) (v := .ref a0) (C := RX9) (T := TX9) (N := 17) hx hb hts hiX9_feed_X9 hown hK hP 0 rfl rfl 0 (by decide) (hts (.fieldLink RX9 9 "OneHandsetModel" "tape" "[I") (List.mem_of_getElem? (i := 3) rfl)) (fun _ h9 => h9) rfl dX9_feed_19 ?_
  refine lv_aload_n hx hb dX9_feed_22 rfl (lv_at hl 0 rfl) ?_
  refine va_get (D := D) (ci := 8) (v := .int 0) (C := RX9) (T := TX9) (N := 17) hx hb hts hiX9_feed_X9 hown hK hP 0 rfl rfl 1 (by decide) (hts (.fieldLink RX9 62 "OneHandsetModel" "taped" "I") (List.mem_of_getElem? (i := 2) rfl)) (fun _ h9 => h9) rfl dX9_feed_23 ?_
  refine lv_iload_n hx hb dX9_feed_26 rfl (lv_at hl 1 rfl) ?_
  refine va_iast hx hb hK hP hD hS 1 0 rfl rfl (vin (by decide)) dX9_feed_27 (fun H locs hP hD hS => ?_)
  obtain ⟨g_3, hP, hD⟩ : ∃ g9 : Nat → Int32, va_P D vwCl [(h0, .inr (8, [.ref a0, .int 0, .ref a2, .int 0, .ref a4, .ref a5, .ref a6, .ref a7, .ref a8, .ref a9, .int 0, .int 0, .int 0, .int 0, .ref a14, .ref a15, .ref a16])), (a0, .inl (k0, 120, .inl g9))] H ∧ va_D A [(h0, .inr (8, [.ref a0, .int 0, .ref a2, .int 0, .ref a4, .ref a5, .ref a6, .ref a7, .ref a8, .ref a9, .int 0, .int 0, .int 0, .int 0, .ref a14, .ref a15, .ref a16])), (a0, .inl (k0, 120, .inl g9))] := ⟨_, hP, hD⟩
  refine lv_aload_n hx hb dX9_feed_28 rfl (lv_at hl 0 rfl) ?_
  refine va_get (D := D) (ci := 8) (v := .ref a0) (C := RX9) (T := TX9) (N := 17) hx hb hts hiX9_feed_X9 hown hK hP 0 rfl rfl 0 (by decide) (hts (.fieldLink RX9 9 "OneHandsetModel" "tape" "[I") (List.mem_of_getElem? (i := 3) rfl)) (fun _ h9 => h9) rfl dX9_feed_29 ?_
  refine lv_aload_n hx hb dX9_feed_32 rfl (lv_at hl 0 rfl) ?_
  refine va_get (D := D) (ci := 8) (v := .int 0) (C := RX9) (T := TX9) (N := 17) hx hb hts hiX9_feed_X9 hown hK hP 0 rfl rfl 1 (by decide) (hts (.fieldLink RX9 62 "OneHandsetModel" "taped" "I") (List.mem_of_getElem? (i := 2) rfl)) (fun _ h9 => h9) rfl dX9_feed_33 ?_
  refine lv_iconst (v := 1) hx hb dX9_feed_36 (by decide) ?_
  refine lv_iadd hx hb dX9_feed_37 ?_
  refine lv_topi (fun v_4 ev_4 => ?_)
  obtain rfl : v_4 = (1 : Int32) := ev_4.trans (by decide)
  refine lv_iload_n hx hb dX9_feed_38 rfl (lv_at hl 2 rfl) ?_
  refine va_iast hx hb hK hP hD hS 1 0 rfl rfl (vin (by decide)) dX9_feed_39 (fun H locs hP hD hS => ?_)
  obtain ⟨g_5, hP, hD⟩ : ∃ g9 : Nat → Int32, va_P D vwCl [(h0, .inr (8, [.ref a0, .int 0, .ref a2, .int 0, .ref a4, .ref a5, .ref a6, .ref a7, .ref a8, .ref a9, .int 0, .int 0, .int 0, .int 0, .ref a14, .ref a15, .ref a16])), (a0, .inl (k0, 120, .inl g9))] H ∧ va_D A [(h0, .inr (8, [.ref a0, .int 0, .ref a2, .int 0, .ref a4, .ref a5, .ref a6, .ref a7, .ref a8, .ref a9, .int 0, .int 0, .int 0, .int 0, .ref a14, .ref a15, .ref a16])), (a0, .inl (k0, 120, .inl g9))] := ⟨_, hP, hD⟩
  refine lv_aload_n hx hb dX9_feed_40 rfl (lv_at hl 0 rfl) ?_
  refine va_get (D := D) (ci := 8) (v := .ref a0) (C := RX9) (T := TX9) (N := 17) hx hb hts hiX9_feed_X9 hown hK hP 0 rfl rfl 0 (by decide) (hts (.fieldLink RX9 9 "OneHandsetModel" "tape" "[I") (List.mem_of_getElem? (i := 3) rfl)) (fun _ h9 => h9) rfl dX9_feed_41 ?_
  refine lv_aload_n hx hb dX9_feed_44 rfl (lv_at hl 0 rfl) ?_
  refine va_get (D := D) (ci := 8) (v := .int 0) (C := RX9) (T := TX9) (N := 17) hx hb hts hiX9_feed_X9 hown hK hP 0 rfl rfl 1 (by decide) (hts (.fieldLink RX9 62 "OneHandsetModel" "taped" "I") (List.mem_of_getElem? (i := 2) rfl)) (fun _ h9 => h9) rfl dX9_feed_45 ?_
  refine lv_iconst (v := 2) hx hb dX9_feed_48 (by decide) ?_
  refine lv_iadd hx hb dX9_feed_49 ?_
  refine lv_topi (fun v_6 ev_6 => ?_)
  obtain rfl : v_6 = (2 : Int32) := ev_6.trans (by decide)
  refine lv_iload_n hx hb dX9_feed_50 rfl (lv_at hl 3 rfl) ?_
  refine va_iast hx hb hK hP hD hS 1 0 rfl rfl (vin (by decide)) dX9_feed_51 (fun H locs hP hD hS => ?_)
  obtain ⟨g_7, hP, hD⟩ : ∃ g9 : Nat → Int32, va_P D vwCl [(h0, .inr (8, [.ref a0, .int 0, .ref a2, .int 0, .ref a4, .ref a5, .ref a6, .ref a7, .ref a8, .ref a9, .int 0, .int 0, .int 0, .int 0, .ref a14, .ref a15, .ref a16])), (a0, .inl (k0, 120, .inl g9))] H ∧ va_D A [(h0, .inr (8, [.ref a0, .int 0, .ref a2, .int 0, .ref a4, .ref a5, .ref a6, .ref a7, .ref a8, .ref a9, .int 0, .int 0, .int 0, .int 0, .ref a14, .ref a15, .ref a16])), (a0, .inl (k0, 120, .inl g9))] := ⟨_, hP, hD⟩
  refine lv_aload_n hx hb dX9_feed_52 rfl (lv_at hl 0 rfl) ?_
  refine va_get (D := D) (ci := 8) (v := .ref a0) (C := RX9) (T := TX9) (N := 17) hx hb hts hiX9_feed_X9 hown hK hP 0 rfl rfl 0 (by decide) (hts (.fieldLink RX9 9 "OneHandsetModel" "tape" "[I") (List.mem_of_getElem? (i := 3) rfl)) (fun _ h9 => h9) rfl dX9_feed_53 ?_
  refine lv_aload_n hx hb dX9_feed_56 rfl (lv_at hl 0 rfl) ?_
  refine va_get (D := D) (ci := 8) (v := .int 0) (C := RX9) (T := TX9) (N := 17) hx hb hts hiX9_feed_X9 hown hK hP 0 rfl rfl 1 (by decide) (hts (.fieldLink RX9 62 "OneHandsetModel" "taped" "I") (List.mem_of_getElem? (i := 2) rfl)) (fun _ h9 => h9) rfl dX9_feed_57 ?_
  refine lv_iconst (v := 3) hx hb dX9_feed_60 (by decide) ?_
  refine lv_iadd hx hb dX9_feed_61 ?_
  refine lv_topi (fun v_8 ev_8 => ?_)
  obtain rfl : v_8 = (3 : Int32) := ev_8.trans (by decide)
  refine lv_iload hx hb dX9_feed_62 (lv_at hl 4 rfl) ?_
  refine va_iast hx hb hK hP hD hS 1 0 rfl rfl (vin (by decide)) dX9_feed_64 (fun H locs hP hD hS => ?_)
  obtain ⟨g_9, hP, hD⟩ : ∃ g9 : Nat → Int32, va_P D vwCl [(h0, .inr (8, [.ref a0, .int 0, .ref a2, .int 0, .ref a4, .ref a5, .ref a6, .ref a7, .ref a8, .ref a9, .int 0, .int 0, .int 0, .int 0, .ref a14, .ref a15, .ref a16])), (a0, .inl (k0, 120, .inl g9))] H ∧ va_D A [(h0, .inr (8, [.ref a0, .int 0, .ref a2, .int 0, .ref a4, .ref a5, .ref a6, .ref a7, .ref a8, .ref a9, .int 0, .int 0, .int 0, .int 0, .ref a14, .ref a15, .ref a16])), (a0, .inl (k0, 120, .inl g9))] := ⟨_, hP, hD⟩
  refine lv_aload_n hx hb dX9_feed_65 rfl (lv_at hl 0 rfl) ?_
  refine va_get (D := D) (ci := 8) (v := .ref a0) (C := RX9) (T := TX9) (N := 17) hx hb hts hiX9_feed_X9 hown hK hP 0 rfl rfl 0 (by decide) (hts (.fieldLink RX9 9 "OneHandsetModel" "tape" "[I") (List.mem_of_getElem? (i := 3) rfl)) (fun _ h9 => h9) rfl dX9_feed_66 ?_
  refine lv_aload_n hx hb dX9_feed_69 rfl (lv_at hl 0 rfl) ?_
  refine va_get (D := D) (ci := 8) (v := .int 0) (C := RX9) (T := TX9) (N := 17) hx hb hts hiX9_feed_X9 hown hK hP 0 rfl rfl 1 (by decide) (hts (.fieldLink RX9 62 "OneHandsetModel" "taped" "I") (List.mem_of_getElem? (i := 2) rfl)) (fun _ h9 => h9) rfl dX9_feed_70 ?_
  refine lv_iconst (v := 4) hx hb dX9_feed_73 (by decide) ?_
  refine lv_iadd hx hb dX9_feed_74 ?_
  refine lv_topi (fun v_10 ev_10 => ?_)
  obtain rfl : v_10 = (4 : Int32) := ev_10.trans (by decide)
  refine lv_iload hx hb dX9_feed_75 (lv_at hl 5 rfl) ?_
  refine va_iast hx hb hK hP hD hS 1 0 rfl rfl (vin (by decide)) dX9_feed_77 (fun H locs hP hD hS => ?_)
  obtain ⟨g_11, hP, hD⟩ : ∃ g9 : Nat → Int32, va_P D vwCl [(h0, .inr (8, [.ref a0, .int 0, .ref a2, .int 0, .ref a4, .ref a5, .ref a6, .ref a7, .ref a8, .ref a9, .int 0, .int 0, .int 0, .int 0, .ref a14, .ref a15, .ref a16])), (a0, .inl (k0, 120, .inl g9))] H ∧ va_D A [(h0, .inr (8, [.ref a0, .int 0, .ref a2, .int 0, .ref a4, .ref a5, .ref a6, .ref a7, .ref a8, .ref a9, .int 0, .int 0, .int 0, .int 0, .ref a14, .ref a15, .ref a16])), (a0, .inl (k0, 120, .inl g9))] := ⟨_, hP, hD⟩
  refine lv_aload_n hx hb dX9_feed_78 rfl (lv_at hl 0 rfl) ?_
  refine lv_dup hx hb dX9_feed_79 rfl ?_
  refine va_get (D := D) (ci := 8) (v := .int 0) (C := RX9) (T := TX9) (N := 17) hx hb hts hiX9_feed_X9 hown hK hP 0 rfl rfl 1 (by decide) (hts (.fieldLink RX9 62 "OneHandsetModel" "taped" "I") (List.mem_of_getElem? (i := 2) rfl)) (fun _ h9 => h9) rfl dX9_feed_80 ?_
  refine lv_iconst (v := 5) hx hb dX9_feed_83 (by decide) ?_
  refine lv_iadd hx hb dX9_feed_84 ?_
  refine lv_topi (fun v_12 ev_12 => ?_)
  obtain rfl : v_12 = (5 : Int32) := ev_12.trans (by decide)
  refine va_put (D := D) (ci := 8) (v := .int 5) (ty := .int) (C := RX9) (T := TX9) (N := 17) hx hb hts hiX9_feed_X9 tyX9 tyX9_ok nmX9 hown hK hP hD hS 0 rfl rfl 1 (by decide) (hts (.fieldLink RX9 62 "OneHandsetModel" "taped" "I") (List.mem_of_getElem? (i := 2) rfl)) (fun _ h9 => h9) rfl (by decide +kernel) rfl rfl (Nat.le_of_ble_eq_true rfl) dX9_feed_85 (fun H locs hP hD hS => ?_)
  have hP : va_P D vwCl [(h0, .inr (8, [.ref a0, .int 5, .ref a2, .int 0, .ref a4, .ref a5, .ref a6, .ref a7, .ref a8, .ref a9, .int 0, .int 0, .int 0, .int 0, .ref a14, .ref a15, .ref a16])), (a0, .inl (k0, 120, .inl g_11))] H := hP
  have hD : va_D A [(h0, .inr (8, [.ref a0, .int 5, .ref a2, .int 0, .ref a4, .ref a5, .ref a6, .ref a7, .ref a8, .ref a9, .int 0, .int 0, .int 0, .int 0, .ref a14, .ref a15, .ref a16])), (a0, .inl (k0, 120, .inl g_11))] := hD
  refine lv_aload_n hx hb dX9_feed_88 rfl (lv_at hl 0 rfl) ?_
  refine va_get (D := D) (ci := 8) (v := .int 5) (C := RX9) (T := TX9) (N := 17) hx hb hts hiX9_feed_X9 hown hK hP 0 rfl rfl 1 (by decide) (hts (.fieldLink RX9 62 "OneHandsetModel" "taped" "I") (List.mem_of_getElem? (i := 2) rfl)) (fun _ h9 => h9) rfl dX9_feed_89 ?_
  exact ret_i hx hb hr hlocks rfl (u := ()) rfl (hP.sub [] rfl) (hK.sub [] rfl) (hD.sub [] (by decide) rfl) hS (Nat.le_of_ble_eq_true rfl) (Nat.le_of_ble_eq_true rfl) dX9_feed_92
