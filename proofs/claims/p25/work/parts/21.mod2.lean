theorem him_lay_X9 : ∀ w ∈ wsX90, w ∈ wsX9_lay := mem_pl [3, 4, 5, 6, 7, 8, 9, 10, 11, 12, 13, 14, 15, 16, 17, 18, 19] rfl
set_option maxHeartbeats 4000000 in
set_option maxRecDepth 100000 in
theorem m_lay (l : Launch) (D : va_G) (sz : Nat) (cI : ClassId) (h0 : Nat) (a0 : Nat) (a1 : Nat) (a2 : Nat) (a3 : Nat) (a4 : Nat) (a5 : Nat) (a6 : Nat) (a7 : Nat) (a8 : Nat) (a9 : Nat) (ab : Nat) (tk : Int32) (mm : Int32) (wm : Int32) (fa : Int32) (th : Int32) (se : Int32) (g0 : Nat → Int32) (t : Int32) (hk : bi tk 0 119) : Cv l yX9_lay wsX9_lay ({ frames := 0, cells := 0, slots := 0, locals := 0 } : Room) D [.ref h0, .int t] [(h0, .inr (8, [.ref a0, .int tk, .ref a1, .int mm, .ref a2, .ref a3, .ref a4, .ref a5, .ref a6, .ref a7, .int wm, .int fa, .int th, .int se, .ref a8, .ref a9, .ref ab])), (a0, .inl (cI, 120, .inl g0))] [(cI, .int)] sz (fun (g02 : Nat → Int32) => True) (fun (g02 : Nat → Int32) => [(h0, .inr (8, [.ref a0, .int (tk + 1), .ref a1, .int mm, .ref a2, .ref a3, .ref a4, .ref a5, .ref a6, .ref a7, .int wm, .int fa, .int th, .int se, .ref a8, .ref a9, .ref ab])), (a0, .inl (cI, 120, .inl g02))]) (fun (g02 : Nat → Int32) => []) := by
  refine ct_v (cc := cX9_lay) (maxL := 2) (ret := none) (by decide) rfl (Nat.le_of_ble_eq_true rfl) ?_
  intro p e s m below meth c A ls H hx hb hr hts hown hml hlocks hin hA hS hP hK hD hNW hl hAe hsz
  have hl : lv_has ls 2 [(0, .ref h0), (1, .int t)] := hl
  refine lv_aload_n hx hb dX9_lay_0 rfl (lv_at hl 0 rfl) ?_
  refine va_get (D := D) (ci := 8) (v := .ref a0) (C := RX9) (T := TX9) (N := 17) hx hb hts him_lay_X9 hown hK hP 0 rfl rfl 0 (by decide) (hts (.fieldLink RX9 9 "OneHandsetModel" "tape" "[I") (List.mem_of_getElem? (i := 1) rfl)) (fun _ h9 => h9) rfl dX9_lay_1 ?_
  refine lv_aload_n hx hb dX9_lay_4 rfl (lv_at hl 0 rfl) ?_
  refine va_get (D := D) (ci := 8) (v := .int tk) (C := RX9) (T := TX9) (N := 17) hx hb hts him_lay_X9 hown hK hP 0 rfl rfl 1 (by decide) (hts (.fieldLink RX9 62 "OneHandsetModel" "taped" "I") (List.mem_of_getElem? (i := 2) rfl)) (fun _ h9 => h9) rfl dX9_lay_5 ?_
  refine lv_iload_n hx hb dX9_lay_8 rfl (lv_at hl 1 rfl) ?_
  refine va_iast hx hb hK hP hD hS 1 0 rfl rfl (by clear hml hsz hr hlocks; exact vp_in_iff.mpr (by omega)) dX9_lay_9 (fun H locs hP hD hS => ?_)
  have hP : va_P D vwCl [(h0, .inr (8, [.ref a0, .int tk, .ref a1, .int mm, .ref a2, .ref a3, .ref a4, .ref a5, .ref a6, .ref a7, .int wm, .int fa, .int th, .int se, .ref a8, .ref a9, .ref ab])), (a0, .inl (cI, 120, .inl (upd g0 (Int32.toNatClampNeg tk) t)))] H := hP
  have hD : va_D A [(h0, .inr (8, [.ref a0, .int tk, .ref a1, .int mm, .ref a2, .ref a3, .ref a4, .ref a5, .ref a6, .ref a7, .int wm, .int fa, .int th, .int se, .ref a8, .ref a9, .ref ab])), (a0, .inl (cI, 120, .inl (upd g0 (Int32.toNatClampNeg tk) t)))] := hD
  refine lv_aload_n hx hb dX9_lay_10 rfl (lv_at hl 0 rfl) ?_
  refine lv_dup hx hb dX9_lay_11 rfl ?_
  refine va_get (D := D) (ci := 8) (v := .int tk) (C := RX9) (T := TX9) (N := 17) hx hb hts him_lay_X9 hown hK hP 0 rfl rfl 1 (by decide) (hts (.fieldLink RX9 62 "OneHandsetModel" "taped" "I") (List.mem_of_getElem? (i := 2) rfl)) (fun _ h9 => h9) rfl dX9_lay_12 ?_
  refine lv_iconst (v := 1) hx hb dX9_lay_15 (by decide) ?_
  refine lv_iadd hx hb dX9_lay_16 ?_
  refine va_put (D := D) (ci := 8) (v := .int (tk + 1)) (ty := .int) (C := RX9) (T := TX9) (N := 17) hx hb hts him_lay_X9 tyX9 tyX9_ok nmX9 hown hK hP hD hS 0 rfl rfl 1 (by decide) (hts (.fieldLink RX9 62 "OneHandsetModel" "taped" "I") (List.mem_of_getElem? (i := 2) rfl)) (fun _ h9 => h9) rfl (by decide +kernel) rfl rfl (Nat.le_of_ble_eq_true rfl) dX9_lay_17 (fun H locs hP hD hS => ?_)
  have hP : va_P D vwCl [(h0, .inr (8, [.ref a0, .int (tk + 1), .ref a1, .int mm, .ref a2, .ref a3, .ref a4, .ref a5, .ref a6, .ref a7, .int wm, .int fa, .int th, .int se, .ref a8, .ref a9, .ref ab])), (a0, .inl (cI, 120, .inl (upd g0 (Int32.toNatClampNeg tk) t)))] H := hP
  have hD : va_D A [(h0, .inr (8, [.ref a0, .int (tk + 1), .ref a1, .int mm, .ref a2, .ref a3, .ref a4, .ref a5, .ref a6, .ref a7, .int wm, .int fa, .int th, .int se, .ref a8, .ref a9, .ref ab])), (a0, .inl (cI, 120, .inl (upd g0 (Int32.toNatClampNeg tk) t)))] := hD
  exact ret_v hx hb hr hlocks (u := upd g0 (Int32.toNatClampNeg tk) t) trivial (hP.sub [0, 1] rfl) (hK.sub [] rfl) (hD.sub [0, 1] (by decide) rfl) hS (Nat.le_of_ble_eq_true rfl) (Nat.le_of_ble_eq_true rfl) dX9_lay_20
set_option maxHeartbeats 4000000 in
set_option maxRecDepth 100000 in
theorem m_isOn (l : Launch) (D : va_G) (sz : Nat) (v : Int32) (w : Int32) (x : Int32) (hv : bi v 1 24) (hx9 : bi x 0 (2 * v.toInt)) : Ci l yX9_isOn wsX9_isOn ({ frames := 0, cells := 0, slots := 0, locals := 0 } : Room) D [.int v, .int w, .int x] [] [] sz (fun (r : Int32) => fun (_ : Unit) => r = onh (cN v) w (cN x)) (fun (_ : Unit) => []) (fun (_ : Unit) => []) := by
  refine ct_i (cc := cX9_isOn) (maxL := 4) (ret := (some .boolean)) (by decide) rfl (Nat.le_of_ble_eq_true rfl) ?_
  intro p e s m below meth c A ls H hx hb hr hts hown hml hlocks hin hA hS hP hK hD hNW hl hAe hsz
  have hl : lv_has ls 4 [(0, .int v), (1, .int w), (2, .int x)] := hl
  refine lv_iload_n hx hb dX9_isOn_0 rfl (lv_at hl 2 rfl) ?_
  refine lv_if_ne (tgt := 6) hx hb dX9_isOn_1 (by decide) (fun c_1 => ?_) (fun c_1 => ?_)
  · refine lv_iload_n hx hb dX9_isOn_6 rfl (lv_at hl 1 rfl) ?_
    refine lv_iload_n hx hb dX9_isOn_7 rfl (lv_at hl 0 rfl) ?_
    refine lv_iconst (v := 1) hx hb dX9_isOn_8 (by decide) ?_
    refine lv_isub hx hb dX9_isOn_9 ?_
    refine lv_iload_n hx hb dX9_isOn_10 rfl (lv_at hl 2 rfl) ?_
    refine lv_iconst (v := 1) hx hb dX9_isOn_11 (by decide) ?_
    refine lv_isub hx hb dX9_isOn_12 ?_
    refine lv_iconst (v := 2) hx hb dX9_isOn_13 (by decide) ?_
    refine lv_idiv hx hb dX9_isOn_14 (by decide) ?_
    refine lv_isub hx hb dX9_isOn_15 ?_
    refine lv_ishr hx hb dX9_isOn_16 ?_
    refine lv_iconst (v := 1) hx hb dX9_isOn_17 (by decide) ?_
    refine lv_iand hx hb dX9_isOn_18 ?_
    refine lv_istore_n (lv' := [(3, .int ((w >>> (((v - 1) - ((x - 1) / 2)) &&& 31)) &&& 1)), (0, .int v), (1, .int w), (2, .int x)]) hx hb dX9_isOn_19 rfl hl (by decide) rfl (fun ls hl => ?_)
    refine lv_iload_n hx hb dX9_isOn_20 rfl (lv_at hl 3 rfl) ?_
    refine lv_iconst (v := 1) hx hb dX9_isOn_21 (by decide) ?_
    refine lv_isub hx hb dX9_isOn_22 ?_
    refine lv_iconst (v := 2) hx hb dX9_isOn_23 (by decide) ?_
    refine lv_irem hx hb dX9_isOn_24 (by decide) ?_
    refine lv_iload_n hx hb dX9_isOn_25 rfl (lv_at hl 0 rfl) ?_
    refine lv_icmp_ne (tgt := 33) hx hb dX9_isOn_26 (by decide) (fun c_2 => ?_) (fun c_2 => ?_)
    · refine lv_iconst (v := 0) hx hb dX9_isOn_33 (by decide) ?_
      exact ret_i hx hb hr hlocks rfl (u := ()) ((on_m hv (by clear hml hsz hr hlocks; have : (0 : Int32).toInt = 0 := (by decide); have := ti_ne c_1; have := ti_ne c_2; have k0 : (0 : Int32).toInt = 0 := (by decide); omega)).2 c_2) (hP.sub [] rfl) (hK.sub [] rfl) (hD.sub [] (by decide) rfl) hS (Nat.le_of_ble_eq_true rfl) (Nat.le_of_ble_eq_true rfl) dX9_isOn_34
    refine lv_iconst (v := 1) hx hb dX9_isOn_29 (by decide) ?_
    refine lv_goto (tgt := 34) hx hb dX9_isOn_30 (by decide) ?_
    exact ret_i hx hb hr hlocks rfl (u := ()) ((on_m hv (by clear hml hsz hr hlocks; have : (0 : Int32).toInt = 0 := (by decide); have := ti_ne c_1; have := ti_eq c_2; have k0 : (0 : Int32).toInt = 0 := (by decide); omega)).1 c_2) (hP.sub [] rfl) (hK.sub [] rfl) (hD.sub [] (by decide) rfl) hS (Nat.le_of_ble_eq_true rfl) (Nat.le_of_ble_eq_true rfl) dX9_isOn_34
  refine lv_iconst (v := 1) hx hb dX9_isOn_4 (by decide) ?_
  exact ret_i hx hb hr hlocks rfl (u := ()) (on_0 c_1) (hP.sub [] rfl) (hK.sub [] rfl) (hD.sub [] (by decide) rfl) hS (Nat.le_of_ble_eq_true rfl) (Nat.le_of_ble_eq_true rfl) dX9_isOn_5
set_option maxHeartbeats 4000000 in
set_option maxRecDepth 100000 in
theorem m_layHalves (l : Launch) (D : va_G) (sz : Nat) (cI : ClassId) (h0 : Nat) (a0 : Nat) (a1 : Nat) (a2 : Nat) (a3 : Nat) (a4 : Nat) (a5 : Nat) (a6 : Nat) (a7 : Nat) (a8 : Nat) (a9 : Nat) (ab : Nat) (tk : Int32) (mm : Int32) (wm : Int32) (fa : Int32) (th : Int32) (se : Int32) (g0 : Nat → Int32) (v : Int32) (w : Int32) (x : Int32) (hv : bi v 1 24) (htk : tk.toInt = 0) : Cv l yX9_layHalves wsX9_layHalves ({ frames := 1, cells := 0, slots := 0, locals := 23 } : Room) D [.ref h0, .int v, .int w, .int x] [(h0, .inr (8, [.ref a0, .int tk, .ref a1, .int mm, .ref a2, .ref a3, .ref a4, .ref a5, .ref a6, .ref a7, .int wm, .int fa, .int th, .int se, .ref a8, .ref a9, .ref ab])), (a0, .inl (cI, 120, .inl g0))] [(cI, .int)] sz (fun (u9 : Int32 × (Nat → Int32)) => match u9 with | (tk2, g02) => bi tk2 0 120 ∧ tk2 = nI (nHT (cN v) w)) (fun (u9 : Int32 × (Nat → Int32)) => match u9 with | (tk2, g02) => [(h0, .inr (8, [.ref a0, .int tk2, .ref a1, .int mm, .ref a2, .ref a3, .ref a4, .ref a5, .ref a6, .ref a7, .int wm, .int fa, .int th, .int se, .ref a8, .ref a9, .ref ab])), (a0, .inl (cI, 120, .inl g02))]) (fun (u9 : Int32 × (Nat → Int32)) => match u9 with | (tk2, g02) => []) := by
  refine ct_v (cc := cX9_layHalves) (maxL := 7) (ret := none) (by decide) rfl (Nat.le_of_ble_eq_true rfl) ?_
  intro p e s m below meth c A ls H hx hb hr hts hown hml hlocks hin hA hS hP hK hD hNW hl hAe hsz
  have hl : lv_has ls 7 [(0, .ref h0), (1, .int v), (2, .int w), (3, .int x)] := hl
  refine lv_iconst (v := 2) hx hb dX9_layHalves_0 (by decide) ?_
  refine lv_iload_n hx hb dX9_layHalves_1 rfl (lv_at hl 1 rfl) ?_
  refine lv_imul hx hb dX9_layHalves_2 ?_
  refine lv_iconst (v := 1) hx hb dX9_layHalves_3 (by decide) ?_
  refine lv_iadd hx hb dX9_layHalves_4 ?_
  refine lv_istore (lv' := [(4, .int ((2 * v) + 1)), (0, .ref h0), (1, .int v), (2, .int w), (3, .int x)]) hx hb dX9_layHalves_5 hl (by decide) rfl (fun ls hl => ?_)
  refine jn_S 22 (fun st9 H locs ls => ∃ (q_1 : Int32), st9 = [] ∧ (va_P D vwCl [(h0, .inr (8, [.ref a0, .int tk, .ref a1, .int mm, .ref a2, .ref a3, .ref a4, .ref a5, .ref a6, .ref a7, .int wm, .int fa, .int th, .int se, .ref a8, .ref a9, .ref ab])), (a0, .inl (cI, 120, .inl g0))] H ∧ va_D A [(h0, .inr (8, [.ref a0, .int tk, .ref a1, .int mm, .ref a2, .ref a3, .ref a4, .ref a5, .ref a6, .ref a7, .int wm, .int fa, .int th, .int se, .ref a8, .ref a9, .ref ab])), (a0, .inl (cI, 120, .inl g0))]) ∧ va_S A s.heap H locs ∧ lv_has ls 7 [(4, .int q_1), (0, .ref h0), (1, .int v), (2, .int w), (3, .int x)] ∧ (bi q_1 1 (2 * v.toInt + 1) ∧ cN q_1 = nHZ (cN v) w + 1)) ?_ ?_
  · intro st9 H locs ls hI
    obtain ⟨q_1, rfl, ⟨hP, hD⟩, hS, hl, hv_2⟩ := hI
    refine lv_iconst (v := 0) hx hb dX9_layHalves_22 (by decide) ?_
    refine lv_istore (lv' := [(5, .int 0), (4, .int q_1), (0, .ref h0), (1, .int v), (2, .int w), (3, .int x)]) hx hb dX9_layHalves_23 hl (by decide) rfl (fun ls hl => ?_)
    refine lv_iconst (v := 1) hx hb dX9_layHalves_25 (by decide) ?_
    refine lv_istore (lv' := [(6, .int 1), (5, .int 0), (4, .int q_1), (0, .ref h0), (1, .int v), (2, .int w), (3, .int x)]) hx hb dX9_layHalves_26 hl (by decide) rfl (fun ls hl => ?_)
    refine lp_N (fun n9 H locs ls => ∃ (z_3 : Int32), ∃ (g_4 : Nat → Int32), ∃ (i5_5 : Int32), ∃ (i_6 : Int32), n9 = ((q_1).toInt + 1 - i_6.toInt).toNat ∧ (va_P D vwCl [(h0, .inr (8, [.ref a0, .int z_3, .ref a1, .int mm, .ref a2, .ref a3, .ref a4, .ref a5, .ref a6, .ref a7, .int wm, .int fa, .int th, .int se, .ref a8, .ref a9, .ref ab])), (a0, .inl (cI, 120, .inl g_4))] H ∧ va_D A [(h0, .inr (8, [.ref a0, .int z_3, .ref a1, .int mm, .ref a2, .ref a3, .ref a4, .ref a5, .ref a6, .ref a7, .int wm, .int fa, .int th, .int se, .ref a8, .ref a9, .ref ab])), (a0, .inl (cI, 120, .inl g_4))]) ∧ va_S A s.heap H locs ∧ lv_has ls 7 [(6, .int i_6), (5, .int i5_5), (4, .int q_1), (0, .ref h0), (1, .int v), (2, .int w), (3, .int x)] ∧ (LI (cN v) w q_1 i_6 i5_5 z_3 ∧ i_6.toInt ≤ (q_1).toInt + 1)) ?_ ⟨tk, g0, 0, 1, rfl, ⟨hP, hD⟩, hS, hl, ⟨LI.start (by clear hml hsz hr hlocks; have u8 := (hv_2).1; omega) htk, (by clear hml hsz hr hlocks; have k1 : (1 : Int32).toInt = 1 := (by decide); have u8 := (hv_2).1; omega)⟩⟩
    intro n9 ih_7 H locs ls hI
    obtain ⟨z_3, g_4, i5_5, i_6, rfl, ⟨hP, hD⟩, hS, hl, hv_8⟩ := hI
    refine lv_iload hx hb dX9_layHalves_28 (lv_at hl 0 rfl) ?_
    refine lv_iload hx hb dX9_layHalves_30 (lv_at hl 2 rfl) ?_
    refine lv_icmp_gt (tgt := 83) hx hb dX9_layHalves_32 (by decide) (fun c_9 => ?_) (fun c_9 => ?_)
    · exact ret_v hx hb hr hlocks (u := (z_3, g_4)) (⟨(by clear hml hsz hr hlocks; have := ti_lt c_9; have u9 := (hv_8).1.2.2.1; omega), LI.fin (hv_8).1 (by clear hml hsz hr hlocks; have := ti_lt c_9; have u8 := (hv_2).1; omega) (by clear hml hsz hr hlocks; have := ti_lt c_9; have u8 := hv_8; omega) (hv_2).2 (by have c9 := cZ (i := v) (by omega); clear hml hsz hr hlocks; omega)⟩) (hP.sub [0, 1] rfl) (hK.sub [] rfl) (hD.sub [0, 1] (by decide) rfl) hS (Nat.le_of_ble_eq_true rfl) (Nat.le_of_ble_eq_true rfl) dX9_layHalves_83
    refine lv_iload hx hb dX9_layHalves_35 (lv_at hl 0 rfl) ?_
    refine lv_iload hx hb dX9_layHalves_37 (lv_at hl 2 rfl) ?_
    refine lv_icmp_ge (tgt := 62) hx hb dX9_layHalves_39 (by decide) (fun c_10 => ?_) (fun c_10 => ?_)
    · refine lv_aload_n hx hb dX9_layHalves_62 rfl (lv_at hl 3 rfl) ?_
      refine lv_iload_n hx hb dX9_layHalves_63 rfl (lv_at hl 6 rfl) ?_
      refine lv_iload hx hb dX9_layHalves_64 (lv_at hl 0 rfl) ?_
      refine lv_iload hx hb dX9_layHalves_66 (lv_at hl 1 rfl) ?_
      refine lv_isub hx hb dX9_layHalves_68 ?_
      refine lv_imul hx hb dX9_layHalves_69 ?_
      refine go_v (wr := []) (tysr := [(cI, .int)]) hP hD hS hA hK [0, 1] [] [0] rfl rfl (by decide) (by decide) rfl (va_runV (As := [.int (x * (i_6 - i5_5))]) (rest := []) ⟨hx, hb, hml, hown, hts⟩ (m_lay l D H.size cI h0 a0 a1 a2 a3 a4 a5 a6 a7 a8 a9 ab z_3 mm wm fa th se g_4 (x * (i_6 - i5_5)) (by clear hml hsz hr hlocks; have := ti_nlt c_9; have := ti_le c_10; have u9 := (hv_8).1.2.2.1; omega)) (cwV 1 hts gX9_layHalves_X9_lay rfl rfl rfl (by decide +kernel) ⟨Nat.le_of_ble_eq_true rfl, Nat.le_of_ble_eq_true rfl⟩) (st_preV (ci := 8) (q0 := 0) hP hD hK hNW [0, 1] [0] rfl rfl (by decide) rfl rfl rfl rfl) rfl rfl hl.1 rfl (lv_room (Nat.le_of_ble_eq_true rfl)) dX9_layHalves_70 ⟨(Nat.le_of_ble_eq_true rfl), (Nat.le_of_ble_eq_true rfl)⟩) (fun u H locs hw hP hD hK hS => ?_)
      obtain ⟨g_12, rfl⟩ : ∃ z, z = u := ⟨_, rfl⟩
      have hP : va_P D vwCl [(h0, .inr (8, [.ref a0, .int (z_3 + 1), .ref a1, .int mm, .ref a2, .ref a3, .ref a4, .ref a5, .ref a6, .ref a7, .int wm, .int fa, .int th, .int se, .ref a8, .ref a9, .ref ab])), (a0, .inl (cI, 120, .inl g_12))] H := hP
      have hD : va_D A [(h0, .inr (8, [.ref a0, .int (z_3 + 1), .ref a1, .int mm, .ref a2, .ref a3, .ref a4, .ref a5, .ref a6, .ref a7, .int wm, .int fa, .int th, .int se, .ref a8, .ref a9, .ref ab])), (a0, .inl (cI, 120, .inl g_12))] := hD
      have hK : va_K D vwCl [(cI, .int)] s := hK
      refine lv_iload hx hb dX9_layHalves_73 (lv_at hl 0 rfl) ?_
      refine lv_istore (lv' := [(5, .int i_6), (6, .int i_6), (4, .int q_1), (0, .ref h0), (1, .int v), (2, .int w), (3, .int x)]) hx hb dX9_layHalves_75 hl (by decide) rfl (fun ls hl => ?_)
      refine lv_iinc (v := i_6 + 1) (lv' := [(6, .int (i_6 + 1)), (5, .int i_6), (4, .int q_1), (0, .ref h0), (1, .int v), (2, .int w), (3, .int x)]) hx hb dX9_layHalves_77 hl (k := 1) rfl (ii_p1 _) (by decide) rfl (fun ls hl => ?_)
      refine lv_goto (tgt := 28) hx hb dX9_layHalves_80 (by decide) ?_
      exact ih_7 _ _ _ _ (by clear hml hsz hr hlocks; have := ti_nlt c_9; have := ti_le c_10; have u8 := (hv_2).1; have u7 := k1_up (i := i_6) (by have u9 := (hv_8).1.2.1; omega); omega) ⟨z_3 + 1, g_12, i_6, i_6 + 1, rfl, ⟨hP, hD⟩, hS, lv_sub hl [0, 1, 2, 3, 4, 5, 6] rfl, ⟨LI.last (hv_8).1 (by clear hml hsz hr hlocks; have := ti_nlt c_9; have := ti_le c_10; have u8 := (hv_2).1; omega) (by clear hml hsz hr hlocks; have := ti_nlt c_9; have := ti_le c_10; have u8 := (hv_2).1; omega), (by clear hml hsz hr hlocks; have := ti_nlt c_9; have := ti_le c_10; have u8 := (hv_2).1; have u9 := (hv_8).1.2.1; have u7 := k1_up (i := i_6) (by omega); omega)⟩⟩
    refine lv_iload_n hx hb dX9_layHalves_42 rfl (lv_at hl 4 rfl) ?_
    refine lv_iload_n hx hb dX9_layHalves_43 rfl (lv_at hl 5 rfl) ?_
    refine lv_iload hx hb dX9_layHalves_44 (lv_at hl 0 rfl) ?_
    refine go_i (wr := [(h0, .inr (8, [.ref a0, .int z_3, .ref a1, .int mm, .ref a2, .ref a3, .ref a4, .ref a5, .ref a6, .ref a7, .int wm, .int fa, .int th, .int se, .ref a8, .ref a9, .ref ab])), (a0, .inl (cI, 120, .inl g_4))]) (tysr := [(cI, .int)]) hP hD hS hA hK [] [0, 1] [0] rfl rfl (by decide) (by decide) rfl (va_runS (As := [.int v, .int w, .int i_6]) (rest := []) ⟨hx, hb, hml, hown, hts⟩ (m_isOn l D H.size v w i_6 hv (by clear hml hsz hr hlocks; have := ti_nlt c_9; have := ti_nle c_10; have u8 := (hv_2).1; have u9 := (hv_8).1.2.1; omega)) (va_cwS 3 hts gX9_layHalves_X9_isOn rfl rfl rfl (by decide +kernel) ⟨Nat.le_of_ble_eq_true rfl, Nat.le_of_ble_eq_true rfl⟩) (st_preS hP hD hK hNW [] [] rfl rfl (by decide) rfl) rfl rfl hl.1 rfl (lv_room (Nat.le_of_ble_eq_true rfl)) dX9_layHalves_46 ⟨(Nat.le_of_ble_eq_true rfl), (Nat.le_of_ble_eq_true rfl)⟩) (fun r_13 u H locs hw hP hD hK hS => ?_)
    have hw : r_13 = onh (cN v) w (cN i_6) := hw
    subst hw
    have hP : va_P D vwCl [(h0, .inr (8, [.ref a0, .int z_3, .ref a1, .int mm, .ref a2, .ref a3, .ref a4, .ref a5, .ref a6, .ref a7, .int wm, .int fa, .int th, .int se, .ref a8, .ref a9, .ref ab])), (a0, .inl (cI, 120, .inl g_4))] H := hP
    have hD : va_D A [(h0, .inr (8, [.ref a0, .int z_3, .ref a1, .int mm, .ref a2, .ref a3, .ref a4, .ref a5, .ref a6, .ref a7, .int wm, .int fa, .int th, .int se, .ref a8, .ref a9, .ref ab])), (a0, .inl (cI, 120, .inl g_4))] := hD
    have hK : va_K D vwCl [(cI, .int)] s := hK
    refine lv_iload_n hx hb dX9_layHalves_49 rfl (lv_at hl 4 rfl) ?_
    refine lv_iload_n hx hb dX9_layHalves_50 rfl (lv_at hl 5 rfl) ?_
    refine lv_iload hx hb dX9_layHalves_51 (lv_at hl 1 rfl) ?_
    refine go_i (wr := [(h0, .inr (8, [.ref a0, .int z_3, .ref a1, .int mm, .ref a2, .ref a3, .ref a4, .ref a5, .ref a6, .ref a7, .int wm, .int fa, .int th, .int se, .ref a8, .ref a9, .ref ab])), (a0, .inl (cI, 120, .inl g_4))]) (tysr := [(cI, .int)]) hP hD hS hA hK [] [0, 1] [0] rfl rfl (by decide) (by decide) rfl (va_runS (As := [.int v, .int w, .int i5_5]) (rest := [.int (onh (cN v) w (cN i_6))]) ⟨hx, hb, hml, hown, hts⟩ (m_isOn l D H.size v w i5_5 hv (by clear hml hsz hr hlocks; have := ti_nlt c_9; have := ti_nle c_10; have u8 := (hv_2).1; have u9 := (hv_8).1.1; have u7 := li_f (hv_8).1; omega)) (va_cwS 3 hts gX9_layHalves_X9_isOn rfl rfl rfl (by decide +kernel) ⟨Nat.le_of_ble_eq_true rfl, Nat.le_of_ble_eq_true rfl⟩) (st_preS hP hD hK hNW [] [] rfl rfl (by decide) rfl) rfl rfl hl.1 rfl (lv_room (Nat.le_of_ble_eq_true rfl)) dX9_layHalves_53 ⟨(Nat.le_of_ble_eq_true rfl), (Nat.le_of_ble_eq_true rfl)⟩) (fun r_14 u H locs hw hP hD hK hS => ?_)
    have hw : r_14 = onh (cN v) w (cN i5_5) := hw
    subst hw
    have hP : va_P D vwCl [(h0, .inr (8, [.ref a0, .int z_3, .ref a1, .int mm, .ref a2, .ref a3, .ref a4, .ref a5, .ref a6, .ref a7, .int wm, .int fa, .int th, .int se, .ref a8, .ref a9, .ref ab])), (a0, .inl (cI, 120, .inl g_4))] H := hP
    have hD : va_D A [(h0, .inr (8, [.ref a0, .int z_3, .ref a1, .int mm, .ref a2, .ref a3, .ref a4, .ref a5, .ref a6, .ref a7, .int wm, .int fa, .int th, .int se, .ref a8, .ref a9, .ref ab])), (a0, .inl (cI, 120, .inl g_4))] := hD
    have hK : va_K D vwCl [(cI, .int)] s := hK
    refine lv_icmp_ne (tgt := 62) hx hb dX9_layHalves_56 (by decide) (fun c_15 => ?_) (fun c_15 => ?_)
    · refine lv_aload_n hx hb dX9_layHalves_62 rfl (lv_at hl 3 rfl) ?_
      refine lv_iload_n hx hb dX9_layHalves_63 rfl (lv_at hl 6 rfl) ?_
      refine lv_iload hx hb dX9_layHalves_64 (lv_at hl 0 rfl) ?_
      refine lv_iload hx hb dX9_layHalves_66 (lv_at hl 1 rfl) ?_
      refine lv_isub hx hb dX9_layHalves_68 ?_
      refine lv_imul hx hb dX9_layHalves_69 ?_
      refine go_v (wr := []) (tysr := [(cI, .int)]) hP hD hS hA hK [0, 1] [] [0] rfl rfl (by decide) (by decide) rfl (va_runV (As := [.int (x * (i_6 - i5_5))]) (rest := []) ⟨hx, hb, hml, hown, hts⟩ (m_lay l D H.size cI h0 a0 a1 a2 a3 a4 a5 a6 a7 a8 a9 ab z_3 mm wm fa th se g_4 (x * (i_6 - i5_5)) (by clear hml hsz hr hlocks; have := ti_nlt c_9; have := ti_nle c_10; have := ti_ne c_15; have u9 := (hv_8).1.2.2.1; omega)) (cwV 1 hts gX9_layHalves_X9_lay rfl rfl rfl (by decide +kernel) ⟨Nat.le_of_ble_eq_true rfl, Nat.le_of_ble_eq_true rfl⟩) (st_preV (ci := 8) (q0 := 0) hP hD hK hNW [0, 1] [0] rfl rfl (by decide) rfl rfl rfl rfl) rfl rfl hl.1 rfl (lv_room (Nat.le_of_ble_eq_true rfl)) dX9_layHalves_70 ⟨(Nat.le_of_ble_eq_true rfl), (Nat.le_of_ble_eq_true rfl)⟩) (fun u H locs hw hP hD hK hS => ?_)
      obtain ⟨g_17, rfl⟩ : ∃ z, z = u := ⟨_, rfl⟩
      have hP : va_P D vwCl [(h0, .inr (8, [.ref a0, .int (z_3 + 1), .ref a1, .int mm, .ref a2, .ref a3, .ref a4, .ref a5, .ref a6, .ref a7, .int wm, .int fa, .int th, .int se, .ref a8, .ref a9, .ref ab])), (a0, .inl (cI, 120, .inl g_17))] H := hP
      have hD : va_D A [(h0, .inr (8, [.ref a0, .int (z_3 + 1), .ref a1, .int mm, .ref a2, .ref a3, .ref a4, .ref a5, .ref a6, .ref a7, .int wm, .int fa, .int th, .int se, .ref a8, .ref a9, .ref ab])), (a0, .inl (cI, 120, .inl g_17))] := hD
      have hK : va_K D vwCl [(cI, .int)] s := hK
      refine lv_iload hx hb dX9_layHalves_73 (lv_at hl 0 rfl) ?_
      refine lv_istore (lv' := [(5, .int i_6), (6, .int i_6), (4, .int q_1), (0, .ref h0), (1, .int v), (2, .int w), (3, .int x)]) hx hb dX9_layHalves_75 hl (by decide) rfl (fun ls hl => ?_)
      refine lv_iinc (v := i_6 + 1) (lv' := [(6, .int (i_6 + 1)), (5, .int i_6), (4, .int q_1), (0, .ref h0), (1, .int v), (2, .int w), (3, .int x)]) hx hb dX9_layHalves_77 hl (k := 1) rfl (ii_p1 _) (by decide) rfl (fun ls hl => ?_)
      refine lv_goto (tgt := 28) hx hb dX9_layHalves_80 (by decide) ?_
      exact ih_7 _ _ _ _ (by clear hml hsz hr hlocks; have := ti_nlt c_9; have := ti_nle c_10; have := ti_ne c_15; have u8 := (hv_2).1; have u7 := k1_up (i := i_6) (by have u9 := (hv_8).1.2.1; omega); omega) ⟨z_3 + 1, g_17, i_6, i_6 + 1, rfl, ⟨hP, hD⟩, hS, lv_sub hl [0, 1, 2, 3, 4, 5, 6] rfl, ⟨LI.diff (hv_8).1 (by clear hml hsz hr hlocks; have := ti_nlt c_9; have := ti_nle c_10; have := ti_ne c_15; have u8 := (hv_2).1; omega) (by clear hml hsz hr hlocks; have := ti_nlt c_9; have := ti_nle c_10; have := ti_ne c_15; have u8 := (hv_2).1; omega) c_15, (by clear hml hsz hr hlocks; have := ti_nlt c_9; have := ti_nle c_10; have := ti_ne c_15; have u8 := (hv_2).1; have u9 := (hv_8).1.2.1; have u7 := k1_up (i := i_6) (by omega); omega)⟩⟩
    refine lv_goto (tgt := 77) hx hb dX9_layHalves_59 (by decide) ?_
    refine lv_iinc (v := i_6 + 1) (lv' := [(6, .int (i_6 + 1)), (5, .int i5_5), (4, .int q_1), (0, .ref h0), (1, .int v), (2, .int w), (3, .int x)]) hx hb dX9_layHalves_77 hl (k := 0) rfl (ii_p1 _) (by decide) rfl (fun ls hl => ?_)
    refine lv_goto (tgt := 28) hx hb dX9_layHalves_80 (by decide) ?_
    exact ih_7 _ _ _ _ (by clear hml hsz hr hlocks; have := ti_nlt c_9; have := ti_nle c_10; have := ti_eq c_15; have u8 := (hv_2).1; have u7 := k1_up (i := i_6) (by have u9 := (hv_8).1.2.1; omega); omega) ⟨z_3, g_4, i5_5, i_6 + 1, rfl, ⟨hP, hD⟩, hS, lv_sub hl [0, 1, 2, 3, 4, 5, 6] rfl, ⟨LI.same (hv_8).1 (by clear hml hsz hr hlocks; have := ti_nlt c_9; have := ti_nle c_10; have := ti_eq c_15; have u8 := (hv_2).1; omega) (by clear hml hsz hr hlocks; have := ti_nlt c_9; have := ti_nle c_10; have := ti_eq c_15; have u8 := (hv_2).1; omega) c_15, (by clear hml hsz hr hlocks; have := ti_nlt c_9; have := ti_nle c_10; have := ti_eq c_15; have u8 := (hv_2).1; have u9 := (hv_8).1.2.1; have u7 := k1_up (i := i_6) (by omega); omega)⟩⟩
  · intro hJ_18
    refine lv_iload_n hx hb dX9_layHalves_7 rfl (lv_at hl 2 rfl) ?_
    refine lv_iload_n hx hb dX9_layHalves_8 rfl (lv_at hl 3 rfl) ?_
    refine lv_iload hx hb dX9_layHalves_9 (lv_at hl 0 rfl) ?_
    refine lv_iconst (v := 1) hx hb dX9_layHalves_11 (by decide) ?_
    refine lv_isub hx hb dX9_layHalves_12 ?_
    refine go_i (wr := [(h0, .inr (8, [.ref a0, .int tk, .ref a1, .int mm, .ref a2, .ref a3, .ref a4, .ref a5, .ref a6, .ref a7, .int wm, .int fa, .int th, .int se, .ref a8, .ref a9, .ref ab])), (a0, .inl (cI, 120, .inl g0))]) (tysr := [(cI, .int)]) hP hD hS hA hK [] [0, 1] [0] rfl rfl (by decide) (by decide) rfl (va_runS (As := [.int v, .int w, .int (((2 * v) + 1) - 1)]) (rest := []) ⟨hx, hb, hml, hown, hts⟩ (m_isOn l D H.size v w (((2 * v) + 1) - 1) hv (by clear hml hsz hr hlocks; have u2 := u_2n hv; have u1 := k1_up (i := 2 * v) (by omega); have u3 := ti_m1 (i := 2 * v + 1) (by omega); omega)) (va_cwS 3 hts gX9_layHalves_X9_isOn rfl rfl rfl (by decide +kernel) ⟨Nat.le_of_ble_eq_true rfl, Nat.le_of_ble_eq_true rfl⟩) (st_preS hP hD hK hNW [] [] rfl rfl (by decide) rfl) rfl rfl hl.1 rfl (lv_room (Nat.le_of_ble_eq_true rfl)) dX9_layHalves_13 ⟨(Nat.le_of_ble_eq_true rfl), (Nat.le_of_ble_eq_true rfl)⟩) (fun r_19 u H locs hw hP hD hK hS => ?_)
    have hw : r_19 = onh (cN v) w (cN (((2 * v) + 1) - 1)) := hw
    subst hw
    have hP : va_P D vwCl [(h0, .inr (8, [.ref a0, .int tk, .ref a1, .int mm, .ref a2, .ref a3, .ref a4, .ref a5, .ref a6, .ref a7, .int wm, .int fa, .int th, .int se, .ref a8, .ref a9, .ref ab])), (a0, .inl (cI, 120, .inl g0))] H := hP
    have hD : va_D A [(h0, .inr (8, [.ref a0, .int tk, .ref a1, .int mm, .ref a2, .ref a3, .ref a4, .ref a5, .ref a6, .ref a7, .int wm, .int fa, .int th, .int se, .ref a8, .ref a9, .ref ab])), (a0, .inl (cI, 120, .inl g0))] := hD
    have hK : va_K D vwCl [(cI, .int)] s := hK
    refine lv_if_ne (tgt := 22) hx hb dX9_layHalves_16 (by decide) (fun c_20 => ?_) (fun c_20 => ?_)
    · exact hJ_18 _ _ _ _ ⟨(2 * v) + 1, rfl, ⟨hP, hD⟩, hS, lv_sub hl [0, 1, 2, 3, 4] rfl, ⟨(by clear hml hsz hr hlocks; have : (0 : Int32).toInt = 0 := (by decide); have := ti_ne c_20; have u2 := u_2n hv; have u1 := k1_up (i := 2 * v) (by omega); omega), lz_a hv c_20⟩⟩
    refine lv_iinc (v := (2 * v) + 1 + (-1)) (lv' := [(4, .int ((2 * v) + 1 + (-1))), (0, .ref h0), (1, .int v), (2, .int w), (3, .int x)]) hx hb dX9_layHalves_19 hl (k := 0) rfl (ii_m1 _) (by decide) rfl (fun ls hl => ?_)
    exact hJ_18 _ _ _ _ ⟨(2 * v) + 1 + (-1), rfl, ⟨hP, hD⟩, hS, lv_sub hl [0, 1, 2, 3, 4] rfl, ⟨(by clear hml hsz hr hlocks; have : (0 : Int32).toInt = 0 := (by decide); have := ti_eq c_20; have u2 := u_2n hv; have u1 := k1_up (i := 2 * v) (by omega); have u4 := ti_am1s (i := 2 * v + 1) (by omega); omega), lz_b hv c_20⟩⟩
theorem him_flash_X9 : ∀ w ∈ wsX90, w ∈ wsX9_flash := mem_pl [20, 21, 22, 23, 24, 25, 26, 27, 28, 29, 30, 31, 32, 33, 34, 35, 36] rfl
set_option maxHeartbeats 4000000 in
set_option maxRecDepth 100000 in
theorem m_flash (l : Launch) (D : va_G) (sz : Nat) (cI : ClassId) (h0 : Nat) (a0 : Nat) (a1 : Nat) (a2 : Nat) (a3 : Nat) (a4 : Nat) (a5 : Nat) (a6 : Nat) (a7 : Nat) (a8 : Nat) (a9 : Nat) (ab : Nat) (tk : Int32) (mm : Int32) (wm : Int32) (fa : Int32) (th : Int32) (se : Int32) (g0 : Nat → Int32) (g1 : Nat → Int32) (v : Int32) (w : Int32) (hv : bi v 0 7) (hvm : v.toInt < mm.toInt) (hmg : MKG g1 mm) : Cv l yX9_flash wsX9_flash ({ frames := 2, cells := 0, slots := 0, locals := 49 } : Room) D [.ref h0, .int v, .int w] [(h0, .inr (8, [.ref a0, .int tk, .ref a1, .int mm, .ref a2, .ref a3, .ref a4, .ref a5, .ref a6, .ref a7, .int wm, .int fa, .int th, .int se, .ref a8, .ref a9, .ref ab])), (a0, .inl (cI, 120, .inl g0)), (a1, .inl (cI, 80, .inl g1))] [(cI, .int)] sz (fun (u9 : Int32 × (Nat → Int32)) => match u9 with | (tk2, g02) => bi tk2 0 120 ∧ FC (g1 (Int32.toNatClampNeg (10 * v + 0))) (g1 (Int32.toNatClampNeg (10 * v + 1))) w tk2) (fun (u9 : Int32 × (Nat → Int32)) => match u9 with | (tk2, g02) => [(h0, .inr (8, [.ref a0, .int tk2, .ref a1, .int mm, .ref a2, .ref a3, .ref a4, .ref a5, .ref a6, .ref a7, .int wm, .int fa, .int th, .int se, .ref a8, .ref a9, .ref ab])), (a0, .inl (cI, 120, .inl g02)), (a1, .inl (cI, 80, .inl g1))]) (fun (u9 : Int32 × (Nat → Int32)) => match u9 with | (tk2, g02) => []) := by
  refine ct_v (cc := cX9_flash) (maxL := 7) (ret := none) (by decide) rfl (Nat.le_of_ble_eq_true rfl) ?_
  intro p e s m below meth c A ls H hx hb hr hts hown hml hlocks hin hA hS hP hK hD hNW hl hAe hsz
  have hl : lv_has ls 7 [(0, .ref h0), (1, .int v), (2, .int w)] := hl
  refine lv_aload_n hx hb dX9_flash_0 rfl (lv_at hl 0 rfl) ?_
  refine lv_iconst (v := 0) hx hb dX9_flash_1 (by decide) ?_
  refine va_put (D := D) (ci := 8) (v := .int 0) (ty := .int) (C := RX9) (T := TX9) (N := 17) hx hb hts him_flash_X9 tyX9 tyX9_ok nmX9 hown hK hP hD hS 0 rfl rfl 1 (by decide) (hts (.fieldLink RX9 62 "OneHandsetModel" "taped" "I") (List.mem_of_getElem? (i := 1) rfl)) (fun _ h9 => h9) rfl (by decide +kernel) rfl rfl (Nat.le_of_ble_eq_true rfl) dX9_flash_2 (fun H locs hP hD hS => ?_)
  have hP : va_P D vwCl [(h0, .inr (8, [.ref a0, .int 0, .ref a1, .int mm, .ref a2, .ref a3, .ref a4, .ref a5, .ref a6, .ref a7, .int wm, .int fa, .int th, .int se, .ref a8, .ref a9, .ref ab])), (a0, .inl (cI, 120, .inl g0)), (a1, .inl (cI, 80, .inl g1))] H := hP
  have hD : va_D A [(h0, .inr (8, [.ref a0, .int 0, .ref a1, .int mm, .ref a2, .ref a3, .ref a4, .ref a5, .ref a6, .ref a7, .int wm, .int fa, .int th, .int se, .ref a8, .ref a9, .ref ab])), (a0, .inl (cI, 120, .inl g0)), (a1, .inl (cI, 80, .inl g1))] := hD
  refine lv_aload_n hx hb dX9_flash_5 rfl (lv_at hl 0 rfl) ?_
  refine lv_iload_n hx hb dX9_flash_6 rfl (lv_at hl 1 rfl) ?_
  refine lv_iconst (v := 1) hx hb dX9_flash_7 (by decide) ?_
  refine go_i (wr := [(a0, .inl (cI, 120, .inl g0))]) (tysr := [(cI, .int)]) hP hD hS hA hK [0, 2] [1] [0] rfl rfl (by decide) (by decide) rfl (va_runV (As := [.int v, .int 1]) (rest := []) ⟨hx, hb, hml, hown, hts⟩ (m_get l D H.size cI h0 a0 a1 a2 a3 a4 a5 a6 a7 a8 a9 ab 0 mm wm fa th se g1 v 1 (by first | assumption | (clear hml hsz hr hlocks; omega) | decide) (by first | assumption | (clear hml hsz hr hlocks; omega) | decide)) (cwV 2 hts gX9_flash_X9_get rfl rfl rfl (by decide +kernel) ⟨Nat.le_of_ble_eq_true rfl, Nat.le_of_ble_eq_true rfl⟩) (st_preV (ci := 8) (q0 := 0) hP hD hK hNW [0, 2] [0] rfl rfl (by decide) rfl rfl rfl rfl) rfl rfl hl.1 rfl (lv_room (Nat.le_of_ble_eq_true rfl)) dX9_flash_8 ⟨(Nat.le_of_ble_eq_true rfl), (Nat.le_of_ble_eq_true rfl)⟩) (fun r_1 u H locs hw hP hD hK hS => ?_)
  have hw : r_1 = g1 (Int32.toNatClampNeg (10 * v + 1)) := hw
  subst hw
  have hP : va_P D vwCl [(a0, .inl (cI, 120, .inl g0)), (h0, .inr (8, [.ref a0, .int 0, .ref a1, .int mm, .ref a2, .ref a3, .ref a4, .ref a5, .ref a6, .ref a7, .int wm, .int fa, .int th, .int se, .ref a8, .ref a9, .ref ab])), (a1, .inl (cI, 80, .inl g1))] H := hP
  have hD : va_D A [(a0, .inl (cI, 120, .inl g0)), (h0, .inr (8, [.ref a0, .int 0, .ref a1, .int mm, .ref a2, .ref a3, .ref a4, .ref a5, .ref a6, .ref a7, .int wm, .int fa, .int th, .int se, .ref a8, .ref a9, .ref ab])), (a1, .inl (cI, 80, .inl g1))] := hD
  have hK : va_K D vwCl [(cI, .int)] s := hK
  refine lv_istore_n (lv' := [(3, .int (g1 (Int32.toNatClampNeg (10 * v + 1)))), (0, .ref h0), (1, .int v), (2, .int w)]) hx hb dX9_flash_11 rfl hl (by decide) rfl (fun ls hl => ?_)
  have hn_2 : bi (g1 (Int32.toNatClampNeg (10 * v + 1))) 1 24 := hmg.at hv hvm
  refine lv_aload_n hx hb dX9_flash_12 rfl (lv_at hl 1 rfl) ?_
  refine lv_iload_n hx hb dX9_flash_13 rfl (lv_at hl 2 rfl) ?_
  refine lv_iconst (v := 4) hx hb dX9_flash_14 (by decide) ?_
  refine go_i (wr := [(a0, .inl (cI, 120, .inl g0))]) (tysr := [(cI, .int)]) hP hD hS hA hK [1, 2] [0] [0] rfl rfl (by decide) (by decide) rfl (va_runV (As := [.int v, .int 4]) (rest := []) ⟨hx, hb, hml, hown, hts⟩ (m_get l D H.size cI h0 a0 a1 a2 a3 a4 a5 a6 a7 a8 a9 ab 0 mm wm fa th se g1 v 4 (by first | assumption | (clear hml hsz hr hlocks; omega) | decide) (by first | assumption | (clear hml hsz hr hlocks; omega) | decide)) (cwV 2 hts gX9_flash_X9_get rfl rfl rfl (by decide +kernel) ⟨Nat.le_of_ble_eq_true rfl, Nat.le_of_ble_eq_true rfl⟩) (st_preV (ci := 8) (q0 := 1) hP hD hK hNW [1, 2] [0] rfl rfl (by decide) rfl rfl rfl rfl) rfl rfl hl.1 rfl (lv_room (Nat.le_of_ble_eq_true rfl)) dX9_flash_15 ⟨(Nat.le_of_ble_eq_true rfl), (Nat.le_of_ble_eq_true rfl)⟩) (fun r_3 u H locs hw hP hD hK hS => ?_)
  have hw : r_3 = g1 (Int32.toNatClampNeg (10 * v + 4)) := hw
  subst hw
  have hP : va_P D vwCl [(a0, .inl (cI, 120, .inl g0)), (h0, .inr (8, [.ref a0, .int 0, .ref a1, .int mm, .ref a2, .ref a3, .ref a4, .ref a5, .ref a6, .ref a7, .int wm, .int fa, .int th, .int se, .ref a8, .ref a9, .ref ab])), (a1, .inl (cI, 80, .inl g1))] H := hP
  have hD : va_D A [(a0, .inl (cI, 120, .inl g0)), (h0, .inr (8, [.ref a0, .int 0, .ref a1, .int mm, .ref a2, .ref a3, .ref a4, .ref a5, .ref a6, .ref a7, .int wm, .int fa, .int th, .int se, .ref a8, .ref a9, .ref ab])), (a1, .inl (cI, 80, .inl g1))] := hD
  have hK : va_K D vwCl [(cI, .int)] s := hK
  refine lv_istore (lv' := [(4, .int (g1 (Int32.toNatClampNeg (10 * v + 4)))), (3, .int (g1 (Int32.toNatClampNeg (10 * v + 1)))), (0, .ref h0), (1, .int v), (2, .int w)]) hx hb dX9_flash_18 hl (by decide) rfl (fun ls hl => ?_)
  refine lv_aload_n hx hb dX9_flash_20 rfl (lv_at hl 2 rfl) ?_
  refine lv_iload_n hx hb dX9_flash_21 rfl (lv_at hl 3 rfl) ?_
  refine lv_iconst (v := 0) hx hb dX9_flash_22 (by decide) ?_
  refine go_i (wr := [(a0, .inl (cI, 120, .inl g0))]) (tysr := [(cI, .int)]) hP hD hS hA hK [1, 2] [0] [0] rfl rfl (by decide) (by decide) rfl (va_runV (As := [.int v, .int 0]) (rest := []) ⟨hx, hb, hml, hown, hts⟩ (m_get l D H.size cI h0 a0 a1 a2 a3 a4 a5 a6 a7 a8 a9 ab 0 mm wm fa th se g1 v 0 (by first | assumption | (clear hml hsz hr hlocks; omega) | decide) (by first | assumption | (clear hml hsz hr hlocks; omega) | decide)) (cwV 2 hts gX9_flash_X9_get rfl rfl rfl (by decide +kernel) ⟨Nat.le_of_ble_eq_true rfl, Nat.le_of_ble_eq_true rfl⟩) (st_preV (ci := 8) (q0 := 1) hP hD hK hNW [1, 2] [0] rfl rfl (by decide) rfl rfl rfl rfl) rfl rfl hl.1 rfl (lv_room (Nat.le_of_ble_eq_true rfl)) dX9_flash_23 ⟨(Nat.le_of_ble_eq_true rfl), (Nat.le_of_ble_eq_true rfl)⟩) (fun r_4 u H locs hw hP hD hK hS => ?_)
  have hw : r_4 = g1 (Int32.toNatClampNeg (10 * v + 0)) := hw
  subst hw
  have hP : va_P D vwCl [(a0, .inl (cI, 120, .inl g0)), (h0, .inr (8, [.ref a0, .int 0, .ref a1, .int mm, .ref a2, .ref a3, .ref a4, .ref a5, .ref a6, .ref a7, .int wm, .int fa, .int th, .int se, .ref a8, .ref a9, .ref ab])), (a1, .inl (cI, 80, .inl g1))] H := hP
  have hD : va_D A [(a0, .inl (cI, 120, .inl g0)), (h0, .inr (8, [.ref a0, .int 0, .ref a1, .int mm, .ref a2, .ref a3, .ref a4, .ref a5, .ref a6, .ref a7, .int wm, .int fa, .int th, .int se, .ref a8, .ref a9, .ref ab])), (a1, .inl (cI, 80, .inl g1))] := hD
  have hK : va_K D vwCl [(cI, .int)] s := hK
  refine lv_iconst (v := 2) hx hb dX9_flash_26 (by decide) ?_
  refine lv_icmp_ne (tgt := 39) hx hb dX9_flash_27 (by decide) (fun c_5 => ?_) (fun c_5 => ?_)
  · refine lv_aload_n hx hb dX9_flash_39 rfl (lv_at hl 2 rfl) ?_
    refine lv_aload_n hx hb dX9_flash_40 rfl (lv_at hl 2 rfl) ?_
    refine lv_iload_n hx hb dX9_flash_41 rfl (lv_at hl 3 rfl) ?_
    refine lv_iconst (v := 2) hx hb dX9_flash_42 (by decide) ?_
    refine go_i (wr := [(a0, .inl (cI, 120, .inl g0))]) (tysr := [(cI, .int)]) hP hD hS hA hK [1, 2] [0] [0] rfl rfl (by decide) (by decide) rfl (va_runV (As := [.int v, .int 2]) (rest := [.ref h0]) ⟨hx, hb, hml, hown, hts⟩ (m_get l D H.size cI h0 a0 a1 a2 a3 a4 a5 a6 a7 a8 a9 ab 0 mm wm fa th se g1 v 2 (by first | assumption | (clear hml hsz hr hlocks; omega) | decide) (by first | assumption | (clear hml hsz hr hlocks; omega) | decide)) (cwV 2 hts gX9_flash_X9_get rfl rfl rfl (by decide +kernel) ⟨Nat.le_of_ble_eq_true rfl, Nat.le_of_ble_eq_true rfl⟩) (st_preV (ci := 8) (q0 := 1) hP hD hK hNW [1, 2] [0] rfl rfl (by decide) rfl rfl rfl rfl) rfl rfl hl.1 rfl (lv_room (Nat.le_of_ble_eq_true rfl)) dX9_flash_43 ⟨(Nat.le_of_ble_eq_true rfl), (Nat.le_of_ble_eq_true rfl)⟩) (fun r_6 u H locs hw hP hD hK hS => ?_)
    have hw : r_6 = g1 (Int32.toNatClampNeg (10 * v + 2)) := hw
    subst hw
    have hP : va_P D vwCl [(a0, .inl (cI, 120, .inl g0)), (h0, .inr (8, [.ref a0, .int 0, .ref a1, .int mm, .ref a2, .ref a3, .ref a4, .ref a5, .ref a6, .ref a7, .int wm, .int fa, .int th, .int se, .ref a8, .ref a9, .ref ab])), (a1, .inl (cI, 80, .inl g1))] H := hP
    have hD : va_D A [(a0, .inl (cI, 120, .inl g0)), (h0, .inr (8, [.ref a0, .int 0, .ref a1, .int mm, .ref a2, .ref a3, .ref a4, .ref a5, .ref a6, .ref a7, .int wm, .int fa, .int th, .int se, .ref a8, .ref a9, .ref ab])), (a1, .inl (cI, 80, .inl g1))] := hD
    have hK : va_K D vwCl [(cI, .int)] s := hK
    refine go_v (wr := [(a1, .inl (cI, 80, .inl g1))]) (tysr := [(cI, .int)]) hP hD hS hA hK [1, 0] [2] [0] rfl rfl (by decide) (by decide) rfl (va_runV (As := [.int (g1 (Int32.toNatClampNeg (10 * v + 2)))]) (rest := []) ⟨hx, hb, hml, hown, hts⟩ (m_lay l D H.size cI h0 a0 a1 a2 a3 a4 a5 a6 a7 a8 a9 ab 0 mm wm fa th se g0 (g1 (Int32.toNatClampNeg (10 * v + 2))) (by first | decide | exact (by clear hml hsz hr hlocks; have : (2 : Int32).toInt = 2 := (by decide); have := ti_ne c_5; have f2 := hn_2; omega))) (cwV 1 hts gX9_flash_X9_lay rfl rfl rfl (by decide +kernel) ⟨Nat.le_of_ble_eq_true rfl, Nat.le_of_ble_eq_true rfl⟩) (st_preV (ci := 8) (q0 := 1) hP hD hK hNW [1, 0] [0] rfl rfl (by decide) rfl rfl rfl rfl) rfl rfl hl.1 rfl (lv_room (Nat.le_of_ble_eq_true rfl)) dX9_flash_46 ⟨(Nat.le_of_ble_eq_true rfl), (Nat.le_of_ble_eq_true rfl)⟩) (fun u H locs hw hP hD hK hS => ?_)
    obtain ⟨g_8, rfl⟩ : ∃ z, z = u := ⟨_, rfl⟩
    have hP : va_P D vwCl [(a1, .inl (cI, 80, .inl g1)), (h0, .inr (8, [.ref a0, .int (0 + 1), .ref a1, .int mm, .ref a2, .ref a3, .ref a4, .ref a5, .ref a6, .ref a7, .int wm, .int fa, .int th, .int se, .ref a8, .ref a9, .ref ab])), (a0, .inl (cI, 120, .inl g_8))] H := hP
    have hD : va_D A [(a1, .inl (cI, 80, .inl g1)), (h0, .inr (8, [.ref a0, .int (0 + 1), .ref a1, .int mm, .ref a2, .ref a3, .ref a4, .ref a5, .ref a6, .ref a7, .int wm, .int fa, .int th, .int se, .ref a8, .ref a9, .ref ab])), (a0, .inl (cI, 120, .inl g_8))] := hD
    have hK : va_K D vwCl [(cI, .int)] s := hK
    rw [show (0 + 1 : Int32) = 1 from by decide] at hP hD
    refine lv_aload_n hx hb dX9_flash_49 rfl (lv_at hl 2 rfl) ?_
    refine lv_aload_n hx hb dX9_flash_50 rfl (lv_at hl 2 rfl) ?_
    refine lv_iload_n hx hb dX9_flash_51 rfl (lv_at hl 3 rfl) ?_
    refine lv_iconst (v := 3) hx hb dX9_flash_52 (by decide) ?_
    refine go_i (wr := [(a0, .inl (cI, 120, .inl g_8))]) (tysr := [(cI, .int)]) hP hD hS hA hK [1, 0] [2] [0] rfl rfl (by decide) (by decide) rfl (va_runV (As := [.int v, .int 3]) (rest := [.ref h0]) ⟨hx, hb, hml, hown, hts⟩ (m_get l D H.size cI h0 a0 a1 a2 a3 a4 a5 a6 a7 a8 a9 ab 1 mm wm fa th se g1 v 3 (by first | assumption | (clear hml hsz hr hlocks; omega) | decide) (by first | assumption | (clear hml hsz hr hlocks; omega) | decide)) (cwV 2 hts gX9_flash_X9_get rfl rfl rfl (by decide +kernel) ⟨Nat.le_of_ble_eq_true rfl, Nat.le_of_ble_eq_true rfl⟩) (st_preV (ci := 8) (q0 := 1) hP hD hK hNW [1, 0] [0] rfl rfl (by decide) rfl rfl rfl rfl) rfl rfl hl.1 rfl (lv_room (Nat.le_of_ble_eq_true rfl)) dX9_flash_53 ⟨(Nat.le_of_ble_eq_true rfl), (Nat.le_of_ble_eq_true rfl)⟩) (fun r_9 u H locs hw hP hD hK hS => ?_)
    have hw : r_9 = g1 (Int32.toNatClampNeg (10 * v + 3)) := hw
    subst hw
    have hP : va_P D vwCl [(a0, .inl (cI, 120, .inl g_8)), (h0, .inr (8, [.ref a0, .int 1, .ref a1, .int mm, .ref a2, .ref a3, .ref a4, .ref a5, .ref a6, .ref a7, .int wm, .int fa, .int th, .int se, .ref a8, .ref a9, .ref ab])), (a1, .inl (cI, 80, .inl g1))] H := hP
    have hD : va_D A [(a0, .inl (cI, 120, .inl g_8)), (h0, .inr (8, [.ref a0, .int 1, .ref a1, .int mm, .ref a2, .ref a3, .ref a4, .ref a5, .ref a6, .ref a7, .int wm, .int fa, .int th, .int se, .ref a8, .ref a9, .ref ab])), (a1, .inl (cI, 80, .inl g1))] := hD
    have hK : va_K D vwCl [(cI, .int)] s := hK
    refine go_v (wr := [(a1, .inl (cI, 80, .inl g1))]) (tysr := [(cI, .int)]) hP hD hS hA hK [1, 0] [2] [0] rfl rfl (by decide) (by decide) rfl (va_runV (As := [.int (g1 (Int32.toNatClampNeg (10 * v + 3)))]) (rest := []) ⟨hx, hb, hml, hown, hts⟩ (m_lay l D H.size cI h0 a0 a1 a2 a3 a4 a5 a6 a7 a8 a9 ab 1 mm wm fa th se g_8 (g1 (Int32.toNatClampNeg (10 * v + 3))) (by first | decide | exact (by clear hml hsz hr hlocks; have : (2 : Int32).toInt = 2 := (by decide); have := ti_ne c_5; have f2 := hn_2; omega))) (cwV 1 hts gX9_flash_X9_lay rfl rfl rfl (by decide +kernel) ⟨Nat.le_of_ble_eq_true rfl, Nat.le_of_ble_eq_true rfl⟩) (st_preV (ci := 8) (q0 := 1) hP hD hK hNW [1, 0] [0] rfl rfl (by decide) rfl rfl rfl rfl) rfl rfl hl.1 rfl (lv_room (Nat.le_of_ble_eq_true rfl)) dX9_flash_56 ⟨(Nat.le_of_ble_eq_true rfl), (Nat.le_of_ble_eq_true rfl)⟩) (fun u H locs hw hP hD hK hS => ?_)
    obtain ⟨g_11, rfl⟩ : ∃ z, z = u := ⟨_, rfl⟩
    have hP : va_P D vwCl [(a1, .inl (cI, 80, .inl g1)), (h0, .inr (8, [.ref a0, .int (1 + 1), .ref a1, .int mm, .ref a2, .ref a3, .ref a4, .ref a5, .ref a6, .ref a7, .int wm, .int fa, .int th, .int se, .ref a8, .ref a9, .ref ab])), (a0, .inl (cI, 120, .inl g_11))] H := hP
    have hD : va_D A [(a1, .inl (cI, 80, .inl g1)), (h0, .inr (8, [.ref a0, .int (1 + 1), .ref a1, .int mm, .ref a2, .ref a3, .ref a4, .ref a5, .ref a6, .ref a7, .int wm, .int fa, .int th, .int se, .ref a8, .ref a9, .ref ab])), (a0, .inl (cI, 120, .inl g_11))] := hD
    have hK : va_K D vwCl [(cI, .int)] s := hK
    rw [show (1 + 1 : Int32) = 2 from by decide] at hP hD
    refine lv_iload_n hx hb dX9_flash_59 rfl (lv_at hl 1 rfl) ?_
    refine lv_iconst (v := 1) hx hb dX9_flash_60 (by decide) ?_
    refine lv_isub hx hb dX9_flash_61 ?_
    refine lv_istore (lv' := [(5, .int ((g1 (Int32.toNatClampNeg (10 * v + 1))) - 1)), (4, .int (g1 (Int32.toNatClampNeg (10 * v + 4)))), (3, .int (g1 (Int32.toNatClampNeg (10 * v + 1)))), (0, .ref h0), (1, .int v), (2, .int w)]) hx hb dX9_flash_62 hl (by decide) rfl (fun ls hl => ?_)
    refine lp_N (fun n9 H locs ls => ∃ (z_12 : Int32), ∃ (g_13 : Nat → Int32), ∃ (i_14 : Int32), n9 = (i_14.toInt + 1).toNat ∧ (va_P D vwCl [(a1, .inl (cI, 80, .inl g1)), (h0, .inr (8, [.ref a0, .int z_12, .ref a1, .int mm, .ref a2, .ref a3, .ref a4, .ref a5, .ref a6, .ref a7, .int wm, .int fa, .int th, .int se, .ref a8, .ref a9, .ref ab])), (a0, .inl (cI, 120, .inl g_13))] H ∧ va_D A [(a1, .inl (cI, 80, .inl g1)), (h0, .inr (8, [.ref a0, .int z_12, .ref a1, .int mm, .ref a2, .ref a3, .ref a4, .ref a5, .ref a6, .ref a7, .int wm, .int fa, .int th, .int se, .ref a8, .ref a9, .ref ab])), (a0, .inl (cI, 120, .inl g_13))]) ∧ va_S A s.heap H locs ∧ lv_has ls 7 [(5, .int i_14), (4, .int (g1 (Int32.toNatClampNeg (10 * v + 4)))), (3, .int (g1 (Int32.toNatClampNeg (10 * v + 1)))), (0, .ref h0), (1, .int v), (2, .int w)] ∧ (bi i_14 (-1) 23 ∧ i_14.toInt ≤ (g1 (Int32.toNatClampNeg (10 * v + 1))).toInt - 1 ∧ FZ (g1 (Int32.toNatClampNeg (10 * v + 0))) (g1 (Int32.toNatClampNeg (10 * v + 1))) z_12 i_14)) ?_ ⟨2, g_11, (g1 (Int32.toNatClampNeg (10 * v + 1))) - 1, rfl, ⟨hP, hD⟩, hS, hl, ⟨(by clear hml hsz hr hlocks; have : (2 : Int32).toInt = 2 := (by decide); have := ti_ne c_5; have k2 : (2 : Int32).toInt = 2 := (by decide); have k0 : (0 : Int32).toInt = 0 := (by decide); have u1 := ti_m1 (i := g1 (Int32.toNatClampNeg (10 * v + 1))) (by omega); omega), (by clear hml hsz hr hlocks; have : (2 : Int32).toInt = 2 := (by decide); have := ti_ne c_5; have k2 : (2 : Int32).toInt = 2 := (by decide); have k0 : (0 : Int32).toInt = 0 := (by decide); have u1 := ti_m1 (i := g1 (Int32.toNatClampNeg (10 * v + 1))) (by omega); omega), FZ.start (by clear hml hsz hr hlocks; have : (2 : Int32).toInt = 2 := (by decide); have := ti_ne c_5; have k2 : (2 : Int32).toInt = 2 := (by decide); have k0 : (0 : Int32).toInt = 0 := (by decide); have u1 := ti_m1 (i := g1 (Int32.toNatClampNeg (10 * v + 1))) (by omega); omega) (by clear hml hsz hr hlocks; have : (2 : Int32).toInt = 2 := (by decide); have := ti_ne c_5; have k2 : (2 : Int32).toInt = 2 := (by decide); have k0 : (0 : Int32).toInt = 0 := (by decide); have u1 := ti_m1 (i := g1 (Int32.toNatClampNeg (10 * v + 1))) (by omega); omega)⟩⟩
    intro n9 ih_15 H locs ls hI
    obtain ⟨z_12, g_13, i_14, rfl, ⟨hP, hD⟩, hS, hl, hv_16⟩ := hI
    refine lv_iload hx hb dX9_flash_64 (lv_at hl 0 rfl) ?_
    refine lv_if_lt (tgt := 144) hx hb dX9_flash_66 (by decide) (fun c_17 => ?_) (fun c_17 => ?_)
    · refine lv_aload_n hx hb dX9_flash_144 rfl (lv_at hl 3 rfl) ?_
      refine lv_iload_n hx hb dX9_flash_145 rfl (lv_at hl 4 rfl) ?_
      refine lv_iconst (v := 0) hx hb dX9_flash_146 (by decide) ?_
      refine go_i (wr := [(a0, .inl (cI, 120, .inl g_13))]) (tysr := [(cI, .int)]) hP hD hS hA hK [1, 0] [2] [0] rfl rfl (by decide) (by decide) rfl (va_runV (As := [.int v, .int 0]) (rest := []) ⟨hx, hb, hml, hown, hts⟩ (m_get l D H.size cI h0 a0 a1 a2 a3 a4 a5 a6 a7 a8 a9 ab z_12 mm wm fa th se g1 v 0 (by first | assumption | (clear hml hsz hr hlocks; omega) | decide) (by first | assumption | (clear hml hsz hr hlocks; omega) | decide)) (cwV 2 hts gX9_flash_X9_get rfl rfl rfl (by decide +kernel) ⟨Nat.le_of_ble_eq_true rfl, Nat.le_of_ble_eq_true rfl⟩) (st_preV (ci := 8) (q0 := 1) hP hD hK hNW [1, 0] [0] rfl rfl (by decide) rfl rfl rfl rfl) rfl rfl hl.1 rfl (lv_room (Nat.le_of_ble_eq_true rfl)) dX9_flash_147 ⟨(Nat.le_of_ble_eq_true rfl), (Nat.le_of_ble_eq_true rfl)⟩) (fun r_18 u H locs hw hP hD hK hS => ?_)
      have hw : r_18 = g1 (Int32.toNatClampNeg (10 * v + 0)) := hw
      subst hw
      have hP : va_P D vwCl [(a0, .inl (cI, 120, .inl g_13)), (h0, .inr (8, [.ref a0, .int z_12, .ref a1, .int mm, .ref a2, .ref a3, .ref a4, .ref a5, .ref a6, .ref a7, .int wm, .int fa, .int th, .int se, .ref a8, .ref a9, .ref ab])), (a1, .inl (cI, 80, .inl g1))] H := hP
      have hD : va_D A [(a0, .inl (cI, 120, .inl g_13)), (h0, .inr (8, [.ref a0, .int z_12, .ref a1, .int mm, .ref a2, .ref a3, .ref a4, .ref a5, .ref a6, .ref a7, .int wm, .int fa, .int th, .int se, .ref a8, .ref a9, .ref ab])), (a1, .inl (cI, 80, .inl g1))] := hD
      have hK : va_K D vwCl [(cI, .int)] s := hK
      refine lv_if_ne (tgt := 159) hx hb dX9_flash_150 (by decide) (fun c_19 => ?_) (fun c_19 => ?_)
      · exact ret_v hx hb hr hlocks (u := (z_12, g_13)) (⟨(by clear hml hsz hr hlocks; have : (0 : Int32).toInt = 0 := (by decide); have : (2 : Int32).toInt = 2 := (by decide); have := ti_ne c_5; have := ti_lt c_17; have := ti_ne c_19; have k0 : (0 : Int32).toInt = 0 := (by decide); have f1 := FZ.e1 (hv_16).2.2 c_19 (by have : (0 : Int32).toInt = 0 := (by decide); have : (2 : Int32).toInt = 2 := (by decide); have := ti_ne c_5; have := ti_lt c_17; have := ti_ne c_19; have k0 : (0 : Int32).toInt = 0 := (by decide); omega); have f2 := hn_2; omega), Or.inr (Or.inr ⟨c_5, c_19, (by clear hml hsz hr hlocks; have : (0 : Int32).toInt = 0 := (by decide); have : (2 : Int32).toInt = 2 := (by decide); have := ti_ne c_5; have := ti_lt c_17; have := ti_ne c_19; have k0 : (0 : Int32).toInt = 0 := (by decide); have f1 := FZ.e1 (hv_16).2.2 c_19 (by have : (0 : Int32).toInt = 0 := (by decide); have : (2 : Int32).toInt = 2 := (by decide); have := ti_ne c_5; have := ti_lt c_17; have := ti_ne c_19; have k0 : (0 : Int32).toInt = 0 := (by decide); omega); have f2 := hn_2; omega)⟩)⟩) (hP.sub [1, 0, 2] rfl) (hK.sub [] rfl) (hD.sub [1, 0, 2] (by decide) rfl) hS (Nat.le_of_ble_eq_true rfl) (Nat.le_of_ble_eq_true rfl) dX9_flash_159
      refine lv_aload_n hx hb dX9_flash_153 rfl (lv_at hl 3 rfl) ?_
      refine lv_iload hx hb dX9_flash_154 (lv_at hl 1 rfl) ?_
      refine go_v (wr := [(a1, .inl (cI, 80, .inl g1))]) (tysr := [(cI, .int)]) hP hD hS hA hK [1, 0] [2] [0] rfl rfl (by decide) (by decide) rfl (va_runV (As := [.int (g1 (Int32.toNatClampNeg (10 * v + 4)))]) (rest := []) ⟨hx, hb, hml, hown, hts⟩ (m_lay l D H.size cI h0 a0 a1 a2 a3 a4 a5 a6 a7 a8 a9 ab z_12 mm wm fa th se g_13 (g1 (Int32.toNatClampNeg (10 * v + 4))) (by first | decide | exact (by clear hml hsz hr hlocks; have : (0 : Int32).toInt = 0 := (by decide); have : (2 : Int32).toInt = 2 := (by decide); have := ti_ne c_5; have := ti_lt c_17; have := ti_eq c_19; have f2 := hn_2; have f5 := hv_16; have f4 := FZ.tb (hv_16).2.2 (by omega); omega))) (cwV 1 hts gX9_flash_X9_lay rfl rfl rfl (by decide +kernel) ⟨Nat.le_of_ble_eq_true rfl, Nat.le_of_ble_eq_true rfl⟩) (st_preV (ci := 8) (q0 := 1) hP hD hK hNW [1, 0] [0] rfl rfl (by decide) rfl rfl rfl rfl) rfl rfl hl.1 rfl (lv_room (Nat.le_of_ble_eq_true rfl)) dX9_flash_156 ⟨(Nat.le_of_ble_eq_true rfl), (Nat.le_of_ble_eq_true rfl)⟩) (fun u H locs hw hP hD hK hS => ?_)
      obtain ⟨g_21, rfl⟩ : ∃ z, z = u := ⟨_, rfl⟩
      have hP : va_P D vwCl [(a1, .inl (cI, 80, .inl g1)), (h0, .inr (8, [.ref a0, .int (z_12 + 1), .ref a1, .int mm, .ref a2, .ref a3, .ref a4, .ref a5, .ref a6, .ref a7, .int wm, .int fa, .int th, .int se, .ref a8, .ref a9, .ref ab])), (a0, .inl (cI, 120, .inl g_21))] H := hP
      have hD : va_D A [(a1, .inl (cI, 80, .inl g1)), (h0, .inr (8, [.ref a0, .int (z_12 + 1), .ref a1, .int mm, .ref a2, .ref a3, .ref a4, .ref a5, .ref a6, .ref a7, .int wm, .int fa, .int th, .int se, .ref a8, .ref a9, .ref ab])), (a0, .inl (cI, 120, .inl g_21))] := hD
      have hK : va_K D vwCl [(cI, .int)] s := hK
      exact ret_v hx hb hr hlocks (u := (z_12 + 1, g_21)) (⟨(by clear hml hsz hr hlocks; have : (0 : Int32).toInt = 0 := (by decide); have : (2 : Int32).toInt = 2 := (by decide); have := ti_ne c_5; have := ti_lt c_17; have := ti_eq c_19; have k0 : (0 : Int32).toInt = 0 := (by decide); have f1 := FZ.e0 (hv_16).2.2 c_19 (by have : (0 : Int32).toInt = 0 := (by decide); have : (2 : Int32).toInt = 2 := (by decide); have := ti_ne c_5; have := ti_lt c_17; have := ti_eq c_19; have k0 : (0 : Int32).toInt = 0 := (by decide); omega); have f2 := hn_2; have k400 : (400 : Int32).toInt = 400 := (by decide); have := ti_up (i := z_12) (n := 400) (by omega); omega), Or.inr (Or.inl ⟨c_5, c_19, (by clear hml hsz hr hlocks; have : (0 : Int32).toInt = 0 := (by decide); have : (2 : Int32).toInt = 2 := (by decide); have := ti_ne c_5; have := ti_lt c_17; have := ti_eq c_19; have k0 : (0 : Int32).toInt = 0 := (by decide); have f1 := FZ.e0 (hv_16).2.2 c_19 (by have : (0 : Int32).toInt = 0 := (by decide); have : (2 : Int32).toInt = 2 := (by decide); have := ti_ne c_5; have := ti_lt c_17; have := ti_eq c_19; have k0 : (0 : Int32).toInt = 0 := (by decide); omega); have f2 := hn_2; have k400 : (400 : Int32).toInt = 400 := (by decide); have := ti_up (i := z_12) (n := 400) (by omega); omega)⟩)⟩) (hP.sub [1, 2, 0] rfl) (hK.sub [] rfl) (hD.sub [1, 2, 0] (by decide) rfl) hS (Nat.le_of_ble_eq_true rfl) (Nat.le_of_ble_eq_true rfl) dX9_flash_159
    have hz0_22 : (z_12).toInt = 2 * (g1 (Int32.toNatClampNeg (10 * v + 1))).toInt - 2 * (i_14).toInt := FZ.at (hv_16).2.2 (by clear hml hsz hr hlocks; have : (0 : Int32).toInt = 0 := (by decide); have : (2 : Int32).toInt = 2 := (by decide); have := ti_ne c_5; have := ti_nlt c_17; have k0 : (0 : Int32).toInt = 0 := (by decide); omega)
    refine lv_aload_n hx hb dX9_flash_69 rfl (lv_at hl 3 rfl) ?_
    refine lv_iload_n hx hb dX9_flash_70 rfl (lv_at hl 4 rfl) ?_
    refine lv_iconst (v := 5) hx hb dX9_flash_71 (by decide) ?_
    refine lv_iload_n hx hb dX9_flash_72 rfl (lv_at hl 5 rfl) ?_
    refine lv_iload hx hb dX9_flash_73 (lv_at hl 0 rfl) ?_
    refine lv_ishr hx hb dX9_flash_75 ?_
    refine lv_iconst (v := 1) hx hb dX9_flash_76 (by decide) ?_
    refine lv_iand hx hb dX9_flash_77 ?_
    refine lv_iadd hx hb dX9_flash_78 ?_
    refine go_i (wr := [(a0, .inl (cI, 120, .inl g_13))]) (tysr := [(cI, .int)]) hP hD hS hA hK [1, 0] [2] [0] rfl rfl (by decide) (by decide) rfl (va_runV (As := [.int v, .int (5 + ((w >>> (i_14 &&& 31)) &&& 1))]) (rest := []) ⟨hx, hb, hml, hown, hts⟩ (m_get l D H.size cI h0 a0 a1 a2 a3 a4 a5 a6 a7 a8 a9 ab z_12 mm wm fa th se g1 v (5 + ((w >>> (i_14 &&& 31)) &&& 1)) (by first | assumption | (clear hml hsz hr hlocks; omega)) (by clear hml hsz hr hlocks; have : (0 : Int32).toInt = 0 := (by decide); have : (2 : Int32).toInt = 2 := (by decide); have := ti_ne c_5; have := ti_nlt c_17; have k5 : (5 : Int32).toInt = 5 := (by decide); have u4 := and1 ((w >>> (i_14 &&& 31))); have u5 := ti_ad (x := 5) (y := ((w >>> (i_14 &&& 31))) &&& 1) (by rw [k5]; omega); rw [k5] at u5; omega)) (cwV 2 hts gX9_flash_X9_get rfl rfl rfl (by decide +kernel) ⟨Nat.le_of_ble_eq_true rfl, Nat.le_of_ble_eq_true rfl⟩) (st_preV (ci := 8) (q0 := 1) hP hD hK hNW [1, 0] [0] rfl rfl (by decide) rfl rfl rfl rfl) rfl rfl hl.1 rfl (lv_room (Nat.le_of_ble_eq_true rfl)) dX9_flash_79 ⟨(Nat.le_of_ble_eq_true rfl), (Nat.le_of_ble_eq_true rfl)⟩) (fun r_23 u H locs hw hP hD hK hS => ?_)
    have hw : r_23 = g1 (Int32.toNatClampNeg (10 * v + (5 + ((w >>> (i_14 &&& 31)) &&& 1)))) := hw
    subst hw
    have hP : va_P D vwCl [(a0, .inl (cI, 120, .inl g_13)), (h0, .inr (8, [.ref a0, .int z_12, .ref a1, .int mm, .ref a2, .ref a3, .ref a4, .ref a5, .ref a6, .ref a7, .int wm, .int fa, .int th, .int se, .ref a8, .ref a9, .ref ab])), (a1, .inl (cI, 80, .inl g1))] H := hP
    have hD : va_D A [(a0, .inl (cI, 120, .inl g_13)), (h0, .inr (8, [.ref a0, .int z_12, .ref a1, .int mm, .ref a2, .ref a3, .ref a4, .ref a5, .ref a6, .ref a7, .int wm, .int fa, .int th, .int se, .ref a8, .ref a9, .ref ab])), (a1, .inl (cI, 80, .inl g1))] := hD
    have hK : va_K D vwCl [(cI, .int)] s := hK
    refine lv_istore (lv' := [(6, .int (g1 (Int32.toNatClampNeg (10 * v + (5 + ((w >>> (i_14 &&& 31)) &&& 1)))))), (5, .int i_14), (4, .int (g1 (Int32.toNatClampNeg (10 * v + 4)))), (3, .int (g1 (Int32.toNatClampNeg (10 * v + 1)))), (0, .ref h0), (1, .int v), (2, .int w)]) hx hb dX9_flash_82 hl (by decide) rfl (fun ls hl => ?_)
    refine lv_aload_n hx hb dX9_flash_84 rfl (lv_at hl 4 rfl) ?_
    refine lv_aload_n hx hb dX9_flash_85 rfl (lv_at hl 4 rfl) ?_
    refine lv_iload_n hx hb dX9_flash_86 rfl (lv_at hl 5 rfl) ?_
    refine lv_iconst (v := 0) hx hb dX9_flash_87 (by decide) ?_
    refine go_i (wr := [(a0, .inl (cI, 120, .inl g_13))]) (tysr := [(cI, .int)]) hP hD hS hA hK [1, 2] [0] [0] rfl rfl (by decide) (by decide) rfl (va_runV (As := [.int v, .int 0]) (rest := [.ref h0]) ⟨hx, hb, hml, hown, hts⟩ (m_get l D H.size cI h0 a0 a1 a2 a3 a4 a5 a6 a7 a8 a9 ab z_12 mm wm fa th se g1 v 0 (by first | assumption | (clear hml hsz hr hlocks; omega) | decide) (by first | assumption | (clear hml hsz hr hlocks; omega) | decide)) (cwV 2 hts gX9_flash_X9_get rfl rfl rfl (by decide +kernel) ⟨Nat.le_of_ble_eq_true rfl, Nat.le_of_ble_eq_true rfl⟩) (st_preV (ci := 8) (q0 := 1) hP hD hK hNW [1, 2] [0] rfl rfl (by decide) rfl rfl rfl rfl) rfl rfl hl.1 rfl (lv_room (Nat.le_of_ble_eq_true rfl)) dX9_flash_88 ⟨(Nat.le_of_ble_eq_true rfl), (Nat.le_of_ble_eq_true rfl)⟩) (fun r_24 u H locs hw hP hD hK hS => ?_)
    have hw : r_24 = g1 (Int32.toNatClampNeg (10 * v + 0)) := hw
    subst hw
    have hP : va_P D vwCl [(a0, .inl (cI, 120, .inl g_13)), (h0, .inr (8, [.ref a0, .int z_12, .ref a1, .int mm, .ref a2, .ref a3, .ref a4, .ref a5, .ref a6, .ref a7, .int wm, .int fa, .int th, .int se, .ref a8, .ref a9, .ref ab])), (a1, .inl (cI, 80, .inl g1))] H := hP
    have hD : va_D A [(a0, .inl (cI, 120, .inl g_13)), (h0, .inr (8, [.ref a0, .int z_12, .ref a1, .int mm, .ref a2, .ref a3, .ref a4, .ref a5, .ref a6, .ref a7, .int wm, .int fa, .int th, .int se, .ref a8, .ref a9, .ref ab])), (a1, .inl (cI, 80, .inl g1))] := hD
    have hK : va_K D vwCl [(cI, .int)] s := hK
    refine lv_if_ne (tgt := 99) hx hb dX9_flash_91 (by decide) (fun c_25 => ?_) (fun c_25 => ?_)
    · refine lv_iload hx hb dX9_flash_99 (lv_at hl 0 rfl) ?_
      refine go_v (wr := [(a1, .inl (cI, 80, .inl g1))]) (tysr := [(cI, .int)]) hP hD hS hA hK [1, 0] [2] [0] rfl rfl (by decide) (by decide) rfl (va_runV (As := [.int (g1 (Int32.toNatClampNeg (10 * v + (5 + ((w >>> (i_14 &&& 31)) &&& 1)))))]) (rest := []) ⟨hx, hb, hml, hown, hts⟩ (m_lay l D H.size cI h0 a0 a1 a2 a3 a4 a5 a6 a7 a8 a9 ab z_12 mm wm fa th se g_13 (g1 (Int32.toNatClampNeg (10 * v + (5 + ((w >>> (i_14 &&& 31)) &&& 1))))) (by first | decide | exact (by clear hml hsz hr hlocks; have : (0 : Int32).toInt = 0 := (by decide); have : (2 : Int32).toInt = 2 := (by decide); have := ti_ne c_5; have := ti_nlt c_17; have := ti_ne c_25; have f2 := hn_2; have f3 := hz0_22; have f5 := hv_16; have f4 := FZ.tb (hv_16).2.2 (by omega); omega))) (cwV 1 hts gX9_flash_X9_lay rfl rfl rfl (by decide +kernel) ⟨Nat.le_of_ble_eq_true rfl, Nat.le_of_ble_eq_true rfl⟩) (st_preV (ci := 8) (q0 := 1) hP hD hK hNW [1, 0] [0] rfl rfl (by decide) rfl rfl rfl rfl) rfl rfl hl.1 rfl (lv_room (Nat.le_of_ble_eq_true rfl)) dX9_flash_101 ⟨(Nat.le_of_ble_eq_true rfl), (Nat.le_of_ble_eq_true rfl)⟩) (fun u H locs hw hP hD hK hS => ?_)
      obtain ⟨g_27, rfl⟩ : ∃ z, z = u := ⟨_, rfl⟩
      have hP : va_P D vwCl [(a1, .inl (cI, 80, .inl g1)), (h0, .inr (8, [.ref a0, .int (z_12 + 1), .ref a1, .int mm, .ref a2, .ref a3, .ref a4, .ref a5, .ref a6, .ref a7, .int wm, .int fa, .int th, .int se, .ref a8, .ref a9, .ref ab])), (a0, .inl (cI, 120, .inl g_27))] H := hP
      have hD : va_D A [(a1, .inl (cI, 80, .inl g1)), (h0, .inr (8, [.ref a0, .int (z_12 + 1), .ref a1, .int mm, .ref a2, .ref a3, .ref a4, .ref a5, .ref a6, .ref a7, .int wm, .int fa, .int th, .int se, .ref a8, .ref a9, .ref ab])), (a0, .inl (cI, 120, .inl g_27))] := hD
      have hK : va_K D vwCl [(cI, .int)] s := hK
      refine lv_aload_n hx hb dX9_flash_104 rfl (lv_at hl 4 rfl) ?_
      refine lv_iload_n hx hb dX9_flash_105 rfl (lv_at hl 5 rfl) ?_
      refine lv_iconst (v := 0) hx hb dX9_flash_106 (by decide) ?_
      refine go_i (wr := [(a0, .inl (cI, 120, .inl g_27))]) (tysr := [(cI, .int)]) hP hD hS hA hK [1, 0] [2] [0] rfl rfl (by decide) (by decide) rfl (va_runV (As := [.int v, .int 0]) (rest := []) ⟨hx, hb, hml, hown, hts⟩ (m_get l D H.size cI h0 a0 a1 a2 a3 a4 a5 a6 a7 a8 a9 ab (z_12 + 1) mm wm fa th se g1 v 0 (by first | assumption | (clear hml hsz hr hlocks; omega) | decide) (by first | assumption | (clear hml hsz hr hlocks; omega) | decide)) (cwV 2 hts gX9_flash_X9_get rfl rfl rfl (by decide +kernel) ⟨Nat.le_of_ble_eq_true rfl, Nat.le_of_ble_eq_true rfl⟩) (st_preV (ci := 8) (q0 := 1) hP hD hK hNW [1, 0] [0] rfl rfl (by decide) rfl rfl rfl rfl) rfl rfl hl.1 rfl (lv_room (Nat.le_of_ble_eq_true rfl)) dX9_flash_107 ⟨(Nat.le_of_ble_eq_true rfl), (Nat.le_of_ble_eq_true rfl)⟩) (fun r_28 u H locs hw hP hD hK hS => ?_)
      have hw : r_28 = g1 (Int32.toNatClampNeg (10 * v + 0)) := hw
      subst hw
      have hP : va_P D vwCl [(a0, .inl (cI, 120, .inl g_27)), (h0, .inr (8, [.ref a0, .int (z_12 + 1), .ref a1, .int mm, .ref a2, .ref a3, .ref a4, .ref a5, .ref a6, .ref a7, .int wm, .int fa, .int th, .int se, .ref a8, .ref a9, .ref ab])), (a1, .inl (cI, 80, .inl g1))] H := hP
      have hD : va_D A [(a0, .inl (cI, 120, .inl g_27)), (h0, .inr (8, [.ref a0, .int (z_12 + 1), .ref a1, .int mm, .ref a2, .ref a3, .ref a4, .ref a5, .ref a6, .ref a7, .int wm, .int fa, .int th, .int se, .ref a8, .ref a9, .ref ab])), (a1, .inl (cI, 80, .inl g1))] := hD
      have hK : va_K D vwCl [(cI, .int)] s := hK
      refine lv_if_eq (tgt := 118) hx hb dX9_flash_110 (by decide) (fun c_29 => absurd c_29 (c_25)) (fun _ => ?_)
      refine lv_iload hx hb dX9_flash_113 (lv_at hl 1 rfl) ?_
      refine lv_if_le (tgt := 138) hx hb dX9_flash_115 (by decide) (fun c_30 => ?_) (fun c_30 => ?_)
      · refine lv_iinc (v := i_14 + (-1)) (lv' := [(5, .int (i_14 + (-1))), (6, .int (g1 (Int32.toNatClampNeg (10 * v + (5 + ((w >>> (i_14 &&& 31)) &&& 1)))))), (4, .int (g1 (Int32.toNatClampNeg (10 * v + 4)))), (3, .int (g1 (Int32.toNatClampNeg (10 * v + 1)))), (0, .ref h0), (1, .int v), (2, .int w)]) hx hb dX9_flash_138 hl (k := 1) rfl (ii_m1 _) (by decide) rfl (fun ls hl => ?_)
        refine lv_goto (tgt := 64) hx hb dX9_flash_141 (by decide) ?_
        exact ih_15 _ _ _ _ (by clear hml hsz hr hlocks; have : (0 : Int32).toInt = 0 := (by decide); have : (2 : Int32).toInt = 2 := (by decide); have := ti_ne c_5; have := ti_nlt c_17; have := ti_ne c_25; have := ti_le c_30; have u0 := hv_16; have u1 := ti_am1s (i := i_14) (by omega); omega) ⟨(z_12 + 1), g_27, i_14 + (-1), rfl, ⟨hP.sub [2, 1, 0] rfl, hD.sub [2, 1, 0] (by decide) rfl⟩, hS, lv_sub hl [0, 2, 3, 4, 5, 6] rfl, ⟨(by clear hml hsz hr hlocks; have : (0 : Int32).toInt = 0 := (by decide); have : (2 : Int32).toInt = 2 := (by decide); have := ti_ne c_5; have := ti_nlt c_17; have := ti_ne c_25; have := ti_le c_30; have u0 := hv_16; have u1 := ti_am1s (i := i_14) (by omega); have f2 := hn_2; have f3 := hz0_22; have k0 : (0 : Int32).toInt = 0 := (by decide); have k400 : (400 : Int32).toInt = 400 := (by decide); have := ti_up (i := z_12) (n := 400) (by omega); omega), (by clear hml hsz hr hlocks; have : (0 : Int32).toInt = 0 := (by decide); have : (2 : Int32).toInt = 2 := (by decide); have := ti_ne c_5; have := ti_nlt c_17; have := ti_ne c_25; have := ti_le c_30; have u0 := hv_16; have u1 := ti_am1s (i := i_14) (by omega); have f2 := hn_2; have f3 := hz0_22; have k0 : (0 : Int32).toInt = 0 := (by decide); have k400 : (400 : Int32).toInt = 400 := (by decide); have := ti_up (i := z_12) (n := 400) (by omega); omega), FZ.c c_25 (by clear hml hsz hr hlocks; have : (0 : Int32).toInt = 0 := (by decide); have : (2 : Int32).toInt = 2 := (by decide); have := ti_ne c_5; have := ti_nlt c_17; have := ti_ne c_25; have := ti_le c_30; have u0 := hv_16; have u1 := ti_am1s (i := i_14) (by omega); have f2 := hn_2; have f3 := hz0_22; have k0 : (0 : Int32).toInt = 0 := (by decide); have k400 : (400 : Int32).toInt = 400 := (by decide); have := ti_up (i := z_12) (n := 400) (by omega); omega) (by clear hml hsz hr hlocks; have : (0 : Int32).toInt = 0 := (by decide); have : (2 : Int32).toInt = 2 := (by decide); have := ti_ne c_5; have := ti_nlt c_17; have := ti_ne c_25; have := ti_le c_30; have u0 := hv_16; have u1 := ti_am1s (i := i_14) (by omega); have f2 := hn_2; have f3 := hz0_22; have k0 : (0 : Int32).toInt = 0 := (by decide); have k400 : (400 : Int32).toInt = 400 := (by decide); have := ti_up (i := z_12) (n := 400) (by omega); omega)⟩⟩
      refine lv_aload_n hx hb dX9_flash_118 rfl (lv_at hl 4 rfl) ?_
      refine lv_aload_n hx hb dX9_flash_119 rfl (lv_at hl 4 rfl) ?_
      refine lv_iload_n hx hb dX9_flash_120 rfl (lv_at hl 5 rfl) ?_
      refine lv_iconst (v := 0) hx hb dX9_flash_121 (by decide) ?_
      refine go_i (wr := [(a0, .inl (cI, 120, .inl g_27))]) (tysr := [(cI, .int)]) hP hD hS hA hK [1, 2] [0] [0] rfl rfl (by decide) (by decide) rfl (va_runV (As := [.int v, .int 0]) (rest := [.ref h0]) ⟨hx, hb, hml, hown, hts⟩ (m_get l D H.size cI h0 a0 a1 a2 a3 a4 a5 a6 a7 a8 a9 ab (z_12 + 1) mm wm fa th se g1 v 0 (by first | assumption | (clear hml hsz hr hlocks; omega) | decide) (by first | assumption | (clear hml hsz hr hlocks; omega) | decide)) (cwV 2 hts gX9_flash_X9_get rfl rfl rfl (by decide +kernel) ⟨Nat.le_of_ble_eq_true rfl, Nat.le_of_ble_eq_true rfl⟩) (st_preV (ci := 8) (q0 := 1) hP hD hK hNW [1, 2] [0] rfl rfl (by decide) rfl rfl rfl rfl) rfl rfl hl.1 rfl (lv_room (Nat.le_of_ble_eq_true rfl)) dX9_flash_122 ⟨(Nat.le_of_ble_eq_true rfl), (Nat.le_of_ble_eq_true rfl)⟩) (fun r_31 u H locs hw hP hD hK hS => ?_)
      have hw : r_31 = g1 (Int32.toNatClampNeg (10 * v + 0)) := hw
      subst hw
      have hP : va_P D vwCl [(a0, .inl (cI, 120, .inl g_27)), (h0, .inr (8, [.ref a0, .int (z_12 + 1), .ref a1, .int mm, .ref a2, .ref a3, .ref a4, .ref a5, .ref a6, .ref a7, .int wm, .int fa, .int th, .int se, .ref a8, .ref a9, .ref ab])), (a1, .inl (cI, 80, .inl g1))] H := hP
      have hD : va_D A [(a0, .inl (cI, 120, .inl g_27)), (h0, .inr (8, [.ref a0, .int (z_12 + 1), .ref a1, .int mm, .ref a2, .ref a3, .ref a4, .ref a5, .ref a6, .ref a7, .int wm, .int fa, .int th, .int se, .ref a8, .ref a9, .ref ab])), (a1, .inl (cI, 80, .inl g1))] := hD
      have hK : va_K D vwCl [(cI, .int)] s := hK
      refine lv_if_ne (tgt := 133) hx hb dX9_flash_125 (by decide) (fun _ => ?_) (fun c_32 => absurd c_32 (c_25))
      refine lv_iload hx hb dX9_flash_133 (lv_at hl 2 rfl) ?_
      refine go_v (wr := [(a1, .inl (cI, 80, .inl g1))]) (tysr := [(cI, .int)]) hP hD hS hA hK [1, 0] [2] [0] rfl rfl (by decide) (by decide) rfl (va_runV (As := [.int (g1 (Int32.toNatClampNeg (10 * v + 4)))]) (rest := []) ⟨hx, hb, hml, hown, hts⟩ (m_lay l D H.size cI h0 a0 a1 a2 a3 a4 a5 a6 a7 a8 a9 ab (z_12 + 1) mm wm fa th se g_27 (g1 (Int32.toNatClampNeg (10 * v + 4))) (by first | decide | exact (by clear hml hsz hr hlocks; have : (0 : Int32).toInt = 0 := (by decide); have : (2 : Int32).toInt = 2 := (by decide); have := ti_ne c_5; have := ti_nlt c_17; have := ti_ne c_25; have := ti_nle c_30; have k400 : (400 : Int32).toInt = 400 := (by decide); have := ti_up (i := z_12) (n := 400) (by omega); have f2 := hn_2; have f3 := hz0_22; have f5 := hv_16; have f4 := FZ.tb (hv_16).2.2 (by omega); omega))) (cwV 1 hts gX9_flash_X9_lay rfl rfl rfl (by decide +kernel) ⟨Nat.le_of_ble_eq_true rfl, Nat.le_of_ble_eq_true rfl⟩) (st_preV (ci := 8) (q0 := 1) hP hD hK hNW [1, 0] [0] rfl rfl (by decide) rfl rfl rfl rfl) rfl rfl hl.1 rfl (lv_room (Nat.le_of_ble_eq_true rfl)) dX9_flash_135 ⟨(Nat.le_of_ble_eq_true rfl), (Nat.le_of_ble_eq_true rfl)⟩) (fun u H locs hw hP hD hK hS => ?_)
      obtain ⟨g_34, rfl⟩ : ∃ z, z = u := ⟨_, rfl⟩
      have hP : va_P D vwCl [(a1, .inl (cI, 80, .inl g1)), (h0, .inr (8, [.ref a0, .int ((z_12 + 1) + 1), .ref a1, .int mm, .ref a2, .ref a3, .ref a4, .ref a5, .ref a6, .ref a7, .int wm, .int fa, .int th, .int se, .ref a8, .ref a9, .ref ab])), (a0, .inl (cI, 120, .inl g_34))] H := hP
      have hD : va_D A [(a1, .inl (cI, 80, .inl g1)), (h0, .inr (8, [.ref a0, .int ((z_12 + 1) + 1), .ref a1, .int mm, .ref a2, .ref a3, .ref a4, .ref a5, .ref a6, .ref a7, .int wm, .int fa, .int th, .int se, .ref a8, .ref a9, .ref ab])), (a0, .inl (cI, 120, .inl g_34))] := hD
      have hK : va_K D vwCl [(cI, .int)] s := hK
      refine lv_iinc (v := i_14 + (-1)) (lv' := [(5, .int (i_14 + (-1))), (6, .int (g1 (Int32.toNatClampNeg (10 * v + (5 + ((w >>> (i_14 &&& 31)) &&& 1)))))), (4, .int (g1 (Int32.toNatClampNeg (10 * v + 4)))), (3, .int (g1 (Int32.toNatClampNeg (10 * v + 1)))), (0, .ref h0), (1, .int v), (2, .int w)]) hx hb dX9_flash_138 hl (k := 1) rfl (ii_m1 _) (by decide) rfl (fun ls hl => ?_)
      refine lv_goto (tgt := 64) hx hb dX9_flash_141 (by decide) ?_
      exact ih_15 _ _ _ _ (by clear hml hsz hr hlocks; have : (0 : Int32).toInt = 0 := (by decide); have : (2 : Int32).toInt = 2 := (by decide); have := ti_ne c_5; have := ti_nlt c_17; have := ti_ne c_25; have := ti_nle c_30; have u0 := hv_16; have u1 := ti_am1s (i := i_14) (by omega); omega) ⟨(z_12 + 1) + 1, g_34, i_14 + (-1), rfl, ⟨hP, hD⟩, hS, lv_sub hl [0, 2, 3, 4, 5, 6] rfl, ⟨(by clear hml hsz hr hlocks; have : (0 : Int32).toInt = 0 := (by decide); have : (2 : Int32).toInt = 2 := (by decide); have := ti_ne c_5; have := ti_nlt c_17; have := ti_ne c_25; have := ti_nle c_30; have u0 := hv_16; have u1 := ti_am1s (i := i_14) (by omega); have f2 := hn_2; have f3 := hz0_22; have k0 : (0 : Int32).toInt = 0 := (by decide); have k400 : (400 : Int32).toInt = 400 := (by decide); have := ti_up (i := z_12) (n := 400) (by omega); have := ti_up (i := z_12 + 1) (n := 400) (by omega); omega), (by clear hml hsz hr hlocks; have : (0 : Int32).toInt = 0 := (by decide); have : (2 : Int32).toInt = 2 := (by decide); have := ti_ne c_5; have := ti_nlt c_17; have := ti_ne c_25; have := ti_nle c_30; have u0 := hv_16; have u1 := ti_am1s (i := i_14) (by omega); have f2 := hn_2; have f3 := hz0_22; have k0 : (0 : Int32).toInt = 0 := (by decide); have k400 : (400 : Int32).toInt = 400 := (by decide); have := ti_up (i := z_12) (n := 400) (by omega); have := ti_up (i := z_12 + 1) (n := 400) (by omega); omega), FZ.b c_25 (by clear hml hsz hr hlocks; have : (0 : Int32).toInt = 0 := (by decide); have : (2 : Int32).toInt = 2 := (by decide); have := ti_ne c_5; have := ti_nlt c_17; have := ti_ne c_25; have := ti_nle c_30; have u0 := hv_16; have u1 := ti_am1s (i := i_14) (by omega); have f2 := hn_2; have f3 := hz0_22; have k0 : (0 : Int32).toInt = 0 := (by decide); have k400 : (400 : Int32).toInt = 400 := (by decide); have := ti_up (i := z_12) (n := 400) (by omega); have := ti_up (i := z_12 + 1) (n := 400) (by omega); omega) (by clear hml hsz hr hlocks; have : (0 : Int32).toInt = 0 := (by decide); have : (2 : Int32).toInt = 2 := (by decide); have := ti_ne c_5; have := ti_nlt c_17; have := ti_ne c_25; have := ti_nle c_30; have u0 := hv_16; have u1 := ti_am1s (i := i_14) (by omega); have f2 := hn_2; have f3 := hz0_22; have k0 : (0 : Int32).toInt = 0 := (by decide); have k400 : (400 : Int32).toInt = 400 := (by decide); have := ti_up (i := z_12) (n := 400) (by omega); have := ti_up (i := z_12 + 1) (n := 400) (by omega); omega)⟩⟩
    refine lv_iload hx hb dX9_flash_94 (lv_at hl 2 rfl) ?_
    refine lv_goto (tgt := 101) hx hb dX9_flash_96 (by decide) ?_
    refine go_v (wr := [(a1, .inl (cI, 80, .inl g1))]) (tysr := [(cI, .int)]) hP hD hS hA hK [1, 0] [2] [0] rfl rfl (by decide) (by decide) rfl (va_runV (As := [.int (g1 (Int32.toNatClampNeg (10 * v + 4)))]) (rest := []) ⟨hx, hb, hml, hown, hts⟩ (m_lay l D H.size cI h0 a0 a1 a2 a3 a4 a5 a6 a7 a8 a9 ab z_12 mm wm fa th se g_13 (g1 (Int32.toNatClampNeg (10 * v + 4))) (by first | decide | exact (by clear hml hsz hr hlocks; have : (0 : Int32).toInt = 0 := (by decide); have : (2 : Int32).toInt = 2 := (by decide); have := ti_ne c_5; have := ti_nlt c_17; have := ti_eq c_25; have f2 := hn_2; have f3 := hz0_22; have f5 := hv_16; have f4 := FZ.tb (hv_16).2.2 (by omega); omega))) (cwV 1 hts gX9_flash_X9_lay rfl rfl rfl (by decide +kernel) ⟨Nat.le_of_ble_eq_true rfl, Nat.le_of_ble_eq_true rfl⟩) (st_preV (ci := 8) (q0 := 1) hP hD hK hNW [1, 0] [0] rfl rfl (by decide) rfl rfl rfl rfl) rfl rfl hl.1 rfl (lv_room (Nat.le_of_ble_eq_true rfl)) dX9_flash_101 ⟨(Nat.le_of_ble_eq_true rfl), (Nat.le_of_ble_eq_true rfl)⟩) (fun u H locs hw hP hD hK hS => ?_)
    obtain ⟨g_36, rfl⟩ : ∃ z, z = u := ⟨_, rfl⟩
    have hP : va_P D vwCl [(a1, .inl (cI, 80, .inl g1)), (h0, .inr (8, [.ref a0, .int (z_12 + 1), .ref a1, .int mm, .ref a2, .ref a3, .ref a4, .ref a5, .ref a6, .ref a7, .int wm, .int fa, .int th, .int se, .ref a8, .ref a9, .ref ab])), (a0, .inl (cI, 120, .inl g_36))] H := hP
    have hD : va_D A [(a1, .inl (cI, 80, .inl g1)), (h0, .inr (8, [.ref a0, .int (z_12 + 1), .ref a1, .int mm, .ref a2, .ref a3, .ref a4, .ref a5, .ref a6, .ref a7, .int wm, .int fa, .int th, .int se, .ref a8, .ref a9, .ref ab])), (a0, .inl (cI, 120, .inl g_36))] := hD
    have hK : va_K D vwCl [(cI, .int)] s := hK
    refine lv_aload_n hx hb dX9_flash_104 rfl (lv_at hl 4 rfl) ?_
    refine lv_iload_n hx hb dX9_flash_105 rfl (lv_at hl 5 rfl) ?_
    refine lv_iconst (v := 0) hx hb dX9_flash_106 (by decide) ?_
    refine go_i (wr := [(a0, .inl (cI, 120, .inl g_36))]) (tysr := [(cI, .int)]) hP hD hS hA hK [1, 0] [2] [0] rfl rfl (by decide) (by decide) rfl (va_runV (As := [.int v, .int 0]) (rest := []) ⟨hx, hb, hml, hown, hts⟩ (m_get l D H.size cI h0 a0 a1 a2 a3 a4 a5 a6 a7 a8 a9 ab (z_12 + 1) mm wm fa th se g1 v 0 (by first | assumption | (clear hml hsz hr hlocks; omega) | decide) (by first | assumption | (clear hml hsz hr hlocks; omega) | decide)) (cwV 2 hts gX9_flash_X9_get rfl rfl rfl (by decide +kernel) ⟨Nat.le_of_ble_eq_true rfl, Nat.le_of_ble_eq_true rfl⟩) (st_preV (ci := 8) (q0 := 1) hP hD hK hNW [1, 0] [0] rfl rfl (by decide) rfl rfl rfl rfl) rfl rfl hl.1 rfl (lv_room (Nat.le_of_ble_eq_true rfl)) dX9_flash_107 ⟨(Nat.le_of_ble_eq_true rfl), (Nat.le_of_ble_eq_true rfl)⟩) (fun r_37 u H locs hw hP hD hK hS => ?_)
    have hw : r_37 = g1 (Int32.toNatClampNeg (10 * v + 0)) := hw
    subst hw
    have hP : va_P D vwCl [(a0, .inl (cI, 120, .inl g_36)), (h0, .inr (8, [.ref a0, .int (z_12 + 1), .ref a1, .int mm, .ref a2, .ref a3, .ref a4, .ref a5, .ref a6, .ref a7, .int wm, .int fa, .int th, .int se, .ref a8, .ref a9, .ref ab])), (a1, .inl (cI, 80, .inl g1))] H := hP
    have hD : va_D A [(a0, .inl (cI, 120, .inl g_36)), (h0, .inr (8, [.ref a0, .int (z_12 + 1), .ref a1, .int mm, .ref a2, .ref a3, .ref a4, .ref a5, .ref a6, .ref a7, .int wm, .int fa, .int th, .int se, .ref a8, .ref a9, .ref ab])), (a1, .inl (cI, 80, .inl g1))] := hD
    have hK : va_K D vwCl [(cI, .int)] s := hK
    refine lv_if_eq (tgt := 118) hx hb dX9_flash_110 (by decide) (fun _ => ?_) (fun c_38 => absurd (c_25) c_38)
    refine lv_aload_n hx hb dX9_flash_118 rfl (lv_at hl 4 rfl) ?_
    refine lv_aload_n hx hb dX9_flash_119 rfl (lv_at hl 4 rfl) ?_
    refine lv_iload_n hx hb dX9_flash_120 rfl (lv_at hl 5 rfl) ?_
    refine lv_iconst (v := 0) hx hb dX9_flash_121 (by decide) ?_
    refine go_i (wr := [(a0, .inl (cI, 120, .inl g_36))]) (tysr := [(cI, .int)]) hP hD hS hA hK [1, 2] [0] [0] rfl rfl (by decide) (by decide) rfl (va_runV (As := [.int v, .int 0]) (rest := [.ref h0]) ⟨hx, hb, hml, hown, hts⟩ (m_get l D H.size cI h0 a0 a1 a2 a3 a4 a5 a6 a7 a8 a9 ab (z_12 + 1) mm wm fa th se g1 v 0 (by first | assumption | (clear hml hsz hr hlocks; omega) | decide) (by first | assumption | (clear hml hsz hr hlocks; omega) | decide)) (cwV 2 hts gX9_flash_X9_get rfl rfl rfl (by decide +kernel) ⟨Nat.le_of_ble_eq_true rfl, Nat.le_of_ble_eq_true rfl⟩) (st_preV (ci := 8) (q0 := 1) hP hD hK hNW [1, 2] [0] rfl rfl (by decide) rfl rfl rfl rfl) rfl rfl hl.1 rfl (lv_room (Nat.le_of_ble_eq_true rfl)) dX9_flash_122 ⟨(Nat.le_of_ble_eq_true rfl), (Nat.le_of_ble_eq_true rfl)⟩) (fun r_39 u H locs hw hP hD hK hS => ?_)
    have hw : r_39 = g1 (Int32.toNatClampNeg (10 * v + 0)) := hw
    subst hw
    have hP : va_P D vwCl [(a0, .inl (cI, 120, .inl g_36)), (h0, .inr (8, [.ref a0, .int (z_12 + 1), .ref a1, .int mm, .ref a2, .ref a3, .ref a4, .ref a5, .ref a6, .ref a7, .int wm, .int fa, .int th, .int se, .ref a8, .ref a9, .ref ab])), (a1, .inl (cI, 80, .inl g1))] H := hP
    have hD : va_D A [(a0, .inl (cI, 120, .inl g_36)), (h0, .inr (8, [.ref a0, .int (z_12 + 1), .ref a1, .int mm, .ref a2, .ref a3, .ref a4, .ref a5, .ref a6, .ref a7, .int wm, .int fa, .int th, .int se, .ref a8, .ref a9, .ref ab])), (a1, .inl (cI, 80, .inl g1))] := hD
    have hK : va_K D vwCl [(cI, .int)] s := hK
    refine lv_if_ne (tgt := 133) hx hb dX9_flash_125 (by decide) (fun c_40 => absurd c_40 (fun q9 => q9 c_25)) (fun _ => ?_)
    refine lv_iload hx hb dX9_flash_128 (lv_at hl 0 rfl) ?_
    refine lv_goto (tgt := 135) hx hb dX9_flash_130 (by decide) ?_
    refine go_v (wr := [(a1, .inl (cI, 80, .inl g1))]) (tysr := [(cI, .int)]) hP hD hS hA hK [1, 0] [2] [0] rfl rfl (by decide) (by decide) rfl (va_runV (As := [.int (g1 (Int32.toNatClampNeg (10 * v + (5 + ((w >>> (i_14 &&& 31)) &&& 1)))))]) (rest := []) ⟨hx, hb, hml, hown, hts⟩ (m_lay l D H.size cI h0 a0 a1 a2 a3 a4 a5 a6 a7 a8 a9 ab (z_12 + 1) mm wm fa th se g_36 (g1 (Int32.toNatClampNeg (10 * v + (5 + ((w >>> (i_14 &&& 31)) &&& 1))))) (by first | decide | exact (by clear hml hsz hr hlocks; have : (0 : Int32).toInt = 0 := (by decide); have : (2 : Int32).toInt = 2 := (by decide); have := ti_ne c_5; have := ti_nlt c_17; have := ti_eq c_25; have k400 : (400 : Int32).toInt = 400 := (by decide); have := ti_up (i := z_12) (n := 400) (by omega); have f2 := hn_2; have f3 := hz0_22; have f5 := hv_16; have f4 := FZ.tb (hv_16).2.2 (by omega); omega))) (cwV 1 hts gX9_flash_X9_lay rfl rfl rfl (by decide +kernel) ⟨Nat.le_of_ble_eq_true rfl, Nat.le_of_ble_eq_true rfl⟩) (st_preV (ci := 8) (q0 := 1) hP hD hK hNW [1, 0] [0] rfl rfl (by decide) rfl rfl rfl rfl) rfl rfl hl.1 rfl (lv_room (Nat.le_of_ble_eq_true rfl)) dX9_flash_135 ⟨(Nat.le_of_ble_eq_true rfl), (Nat.le_of_ble_eq_true rfl)⟩) (fun u H locs hw hP hD hK hS => ?_)
    obtain ⟨g_42, rfl⟩ : ∃ z, z = u := ⟨_, rfl⟩
    have hP : va_P D vwCl [(a1, .inl (cI, 80, .inl g1)), (h0, .inr (8, [.ref a0, .int ((z_12 + 1) + 1), .ref a1, .int mm, .ref a2, .ref a3, .ref a4, .ref a5, .ref a6, .ref a7, .int wm, .int fa, .int th, .int se, .ref a8, .ref a9, .ref ab])), (a0, .inl (cI, 120, .inl g_42))] H := hP
    have hD : va_D A [(a1, .inl (cI, 80, .inl g1)), (h0, .inr (8, [.ref a0, .int ((z_12 + 1) + 1), .ref a1, .int mm, .ref a2, .ref a3, .ref a4, .ref a5, .ref a6, .ref a7, .int wm, .int fa, .int th, .int se, .ref a8, .ref a9, .ref ab])), (a0, .inl (cI, 120, .inl g_42))] := hD
    have hK : va_K D vwCl [(cI, .int)] s := hK
    refine lv_iinc (v := i_14 + (-1)) (lv' := [(5, .int (i_14 + (-1))), (6, .int (g1 (Int32.toNatClampNeg (10 * v + (5 + ((w >>> (i_14 &&& 31)) &&& 1)))))), (4, .int (g1 (Int32.toNatClampNeg (10 * v + 4)))), (3, .int (g1 (Int32.toNatClampNeg (10 * v + 1)))), (0, .ref h0), (1, .int v), (2, .int w)]) hx hb dX9_flash_138 hl (k := 1) rfl (ii_m1 _) (by decide) rfl (fun ls hl => ?_)
    refine lv_goto (tgt := 64) hx hb dX9_flash_141 (by decide) ?_
    exact ih_15 _ _ _ _ (by clear hml hsz hr hlocks; have : (0 : Int32).toInt = 0 := (by decide); have : (2 : Int32).toInt = 2 := (by decide); have := ti_ne c_5; have := ti_nlt c_17; have := ti_eq c_25; have u0 := hv_16; have u1 := ti_am1s (i := i_14) (by omega); omega) ⟨(z_12 + 1) + 1, g_42, i_14 + (-1), rfl, ⟨hP, hD⟩, hS, lv_sub hl [0, 2, 3, 4, 5, 6] rfl, ⟨(by clear hml hsz hr hlocks; have : (0 : Int32).toInt = 0 := (by decide); have : (2 : Int32).toInt = 2 := (by decide); have := ti_ne c_5; have := ti_nlt c_17; have := ti_eq c_25; have u0 := hv_16; have u1 := ti_am1s (i := i_14) (by omega); have f2 := hn_2; have f3 := hz0_22; have k0 : (0 : Int32).toInt = 0 := (by decide); have k400 : (400 : Int32).toInt = 400 := (by decide); have := ti_up (i := z_12) (n := 400) (by omega); have := ti_up (i := z_12 + 1) (n := 400) (by omega); omega), (by clear hml hsz hr hlocks; have : (0 : Int32).toInt = 0 := (by decide); have : (2 : Int32).toInt = 2 := (by decide); have := ti_ne c_5; have := ti_nlt c_17; have := ti_eq c_25; have u0 := hv_16; have u1 := ti_am1s (i := i_14) (by omega); have f2 := hn_2; have f3 := hz0_22; have k0 : (0 : Int32).toInt = 0 := (by decide); have k400 : (400 : Int32).toInt = 400 := (by decide); have := ti_up (i := z_12) (n := 400) (by omega); have := ti_up (i := z_12 + 1) (n := 400) (by omega); omega), FZ.a c_25 (by clear hml hsz hr hlocks; have : (0 : Int32).toInt = 0 := (by decide); have : (2 : Int32).toInt = 2 := (by decide); have := ti_ne c_5; have := ti_nlt c_17; have := ti_eq c_25; have u0 := hv_16; have u1 := ti_am1s (i := i_14) (by omega); have f2 := hn_2; have f3 := hz0_22; have k0 : (0 : Int32).toInt = 0 := (by decide); have k400 : (400 : Int32).toInt = 400 := (by decide); have := ti_up (i := z_12) (n := 400) (by omega); have := ti_up (i := z_12 + 1) (n := 400) (by omega); omega)⟩⟩
  refine lv_aload_n hx hb dX9_flash_30 rfl (lv_at hl 2 rfl) ?_
  refine lv_iload_n hx hb dX9_flash_31 rfl (lv_at hl 1 rfl) ?_
  refine lv_iload_n hx hb dX9_flash_32 rfl (lv_at hl 4 rfl) ?_
  refine lv_iload hx hb dX9_flash_33 (lv_at hl 0 rfl) ?_
  refine go_v (wr := [(a1, .inl (cI, 80, .inl g1))]) (tysr := [(cI, .int)]) hP hD hS hA hK [1, 0] [2] [0] rfl rfl (by decide) (by decide) rfl (va_runV (As := [.int (g1 (Int32.toNatClampNeg (10 * v + 1))), .int w, .int (g1 (Int32.toNatClampNeg (10 * v + 4)))]) (rest := []) ⟨hx, hb, hml, hown, hts⟩ (m_layHalves l D H.size cI h0 a0 a1 a2 a3 a4 a5 a6 a7 a8 a9 ab 0 mm wm fa th se g0 (g1 (Int32.toNatClampNeg (10 * v + 1))) w (g1 (Int32.toNatClampNeg (10 * v + 4))) (by first | assumption | (clear hml hsz hr hlocks; omega) | decide) (by first | assumption | (clear hml hsz hr hlocks; omega) | decide)) (cwV 3 hts gX9_flash_X9_layHalves rfl rfl rfl (by decide +kernel) ⟨Nat.le_of_ble_eq_true rfl, Nat.le_of_ble_eq_true rfl⟩) (st_preV (ci := 8) (q0 := 1) hP hD hK hNW [1, 0] [0] rfl rfl (by decide) rfl rfl rfl rfl) rfl rfl hl.1 rfl (lv_room (Nat.le_of_ble_eq_true rfl)) dX9_flash_35 ⟨(Nat.le_of_ble_eq_true rfl), (Nat.le_of_ble_eq_true rfl)⟩) (fun u H locs hw hP hD hK hS => ?_)
  obtain ⟨tk_44, g_45⟩ := u
  have hw : bi tk_44 0 120 ∧ tk_44 = nI (nHT (cN (g1 (Int32.toNatClampNeg (10 * v + 1)))) w) := hw
  have hw_46 := hw
  have hP : va_P D vwCl [(a1, .inl (cI, 80, .inl g1)), (h0, .inr (8, [.ref a0, .int tk_44, .ref a1, .int mm, .ref a2, .ref a3, .ref a4, .ref a5, .ref a6, .ref a7, .int wm, .int fa, .int th, .int se, .ref a8, .ref a9, .ref ab])), (a0, .inl (cI, 120, .inl g_45))] H := hP
  have hD : va_D A [(a1, .inl (cI, 80, .inl g1)), (h0, .inr (8, [.ref a0, .int tk_44, .ref a1, .int mm, .ref a2, .ref a3, .ref a4, .ref a5, .ref a6, .ref a7, .int wm, .int fa, .int th, .int se, .ref a8, .ref a9, .ref ab])), (a0, .inl (cI, 120, .inl g_45))] := hD
  have hK : va_K D vwCl [(cI, .int)] s := hK
  exact ret_v hx hb hr hlocks (u := (tk_44, g_45)) (⟨(hw_46).1, Or.inl ⟨c_5, (hw_46).2⟩⟩) (hP.sub [1, 2, 0] rfl) (hK.sub [] rfl) (hD.sub [1, 2, 0] (by decide) rfl) hS (Nat.le_of_ble_eq_true rfl) (Nat.le_of_ble_eq_true rfl) dX9_flash_38
theorem him_send_X9 : ∀ w ∈ wsX90, w ∈ wsX9_send := mem_pl [33, 34, 35, 36, 37, 38, 39, 40, 41, 42, 43, 44, 45, 46, 47, 48, 49] rfl
set_option maxHeartbeats 4000000 in
set_option maxRecDepth 100000 in
theorem m_send (l : Launch) (D : va_G) (sz : Nat) (cI : ClassId) (h0 : Nat) (a0 : Nat) (a1 : Nat) (a2 : Nat) (a3 : Nat) (a4 : Nat) (a5 : Nat) (a6 : Nat) (a7 : Nat) (a8 : Nat) (a9 : Nat) (ab : Nat) (tk : Int32) (mm : Int32) (wm : Int32) (fa : Int32) (th : Int32) (se : Int32) (g0 : Nat → Int32) (g1 : Nat → Int32) (v : Int32) (w : Int32) (hk : bi tk 0 120) (hmm : bi mm 0 8) (hmg : MKG g1 mm) : Ci l yX9_send wsX9_send ({ frames := 3, cells := 0, slots := 0, locals := 75 } : Room) D [.ref h0, .int v, .int w] [(h0, .inr (8, [.ref a0, .int tk, .ref a1, .int mm, .ref a2, .ref a3, .ref a4, .ref a5, .ref a6, .ref a7, .int wm, .int fa, .int th, .int se, .ref a8, .ref a9, .ref ab])), (a0, .inl (cI, 120, .inl g0)), (a1, .inl (cI, 80, .inl g1))] [(cI, .int)] sz (fun (r : Int32) => fun (u9 : Int32 × Int32 × (Nat → Int32)) => match u9 with | (tk2, th2, g02) => bi tk2 0 120 ∧ r = snA mm (g1 (Int32.toNatClampNeg (10 * v + 1))) (g1 (Int32.toNatClampNeg (10 * v + 0))) v w) (fun (u9 : Int32 × Int32 × (Nat → Int32)) => match u9 with | (tk2, th2, g02) => [(h0, .inr (8, [.ref a0, .int tk2, .ref a1, .int mm, .ref a2, .ref a3, .ref a4, .ref a5, .ref a6, .ref a7, .int wm, .int fa, .int th2, .int se, .ref a8, .ref a9, .ref ab])), (a0, .inl (cI, 120, .inl g02)), (a1, .inl (cI, 80, .inl g1))]) (fun (u9 : Int32 × Int32 × (Nat → Int32)) => match u9 with | (tk2, th2, g02) => []) := by
  refine ct_i (cc := cX9_send) (maxL := 3) (ret := (some .int)) (by decide) rfl (Nat.le_of_ble_eq_true rfl) ?_
  intro p e s m below meth c A ls H hx hb hr hts hown hml hlocks hin hA hS hP hK hD hNW hl hAe hsz
  have hl : lv_has ls 3 [(0, .ref h0), (1, .int v), (2, .int w)] := hl
  refine lv_aload_n hx hb dX9_send_0 rfl (lv_at hl 0 rfl) ?_
  refine lv_iconst (v := 0) hx hb dX9_send_1 (by decide) ?_
  refine va_put (D := D) (ci := 8) (v := .int 0) (ty := .int) (C := RX9) (T := TX9) (N := 17) hx hb hts him_send_X9 tyX9 tyX9_ok nmX9 hown hK hP hD hS 0 rfl rfl 12 (by decide) (hts (.fieldLink RX9 43 "OneHandsetModel" "thrown" "I") (List.mem_of_getElem? (i := 1) rfl)) (fun _ h9 => h9) rfl (by decide +kernel) rfl rfl (Nat.le_of_ble_eq_true rfl) dX9_send_2 (fun H locs hP hD hS => ?_)
  have hP : va_P D vwCl [(h0, .inr (8, [.ref a0, .int tk, .ref a1, .int mm, .ref a2, .ref a3, .ref a4, .ref a5, .ref a6, .ref a7, .int wm, .int fa, .int 0, .int se, .ref a8, .ref a9, .ref ab])), (a0, .inl (cI, 120, .inl g0)), (a1, .inl (cI, 80, .inl g1))] H := hP
  have hD : va_D A [(h0, .inr (8, [.ref a0, .int tk, .ref a1, .int mm, .ref a2, .ref a3, .ref a4, .ref a5, .ref a6, .ref a7, .int wm, .int fa, .int 0, .int se, .ref a8, .ref a9, .ref ab])), (a0, .inl (cI, 120, .inl g0)), (a1, .inl (cI, 80, .inl g1))] := hD
  refine lv_aload_n hx hb dX9_send_5 rfl (lv_at hl 0 rfl) ?_
  refine lv_iload_n hx hb dX9_send_6 rfl (lv_at hl 1 rfl) ?_
  refine go_i (wr := [(a0, .inl (cI, 120, .inl g0)), (a1, .inl (cI, 80, .inl g1))]) (tysr := [(cI, .int)]) hP hD hS hA hK [0] [1, 2] [0] rfl rfl (by decide) (by decide) rfl (va_runV (As := [.int v]) (rest := []) ⟨hx, hb, hml, hown, hts⟩ (m_isMake l D H.size cI h0 a0 a1 a2 a3 a4 a5 a6 a7 a8 a9 ab tk mm wm fa 0 se v ) (cwV 1 hts gX9_send_X9_isMake rfl rfl rfl (by decide +kernel) ⟨Nat.le_of_ble_eq_true rfl, Nat.le_of_ble_eq_true rfl⟩) (st_preV (ci := 8) (q0 := 0) hP hD hK hNW [0] [0] rfl rfl (by decide) rfl rfl rfl rfl) rfl rfl hl.1 rfl (lv_room (Nat.le_of_ble_eq_true rfl)) dX9_send_7 ⟨(Nat.le_of_ble_eq_true rfl), (Nat.le_of_ble_eq_true rfl)⟩) (fun r_1 u H locs hw hP hD hK hS => ?_)
  have hw : r_1 = wi v 0 (mm - 1) := hw
  subst hw
  have hP : va_P D vwCl [(a0, .inl (cI, 120, .inl g0)), (a1, .inl (cI, 80, .inl g1)), (h0, .inr (8, [.ref a0, .int tk, .ref a1, .int mm, .ref a2, .ref a3, .ref a4, .ref a5, .ref a6, .ref a7, .int wm, .int fa, .int 0, .int se, .ref a8, .ref a9, .ref ab]))] H := hP
  have hD : va_D A [(a0, .inl (cI, 120, .inl g0)), (a1, .inl (cI, 80, .inl g1)), (h0, .inr (8, [.ref a0, .int tk, .ref a1, .int mm, .ref a2, .ref a3, .ref a4, .ref a5, .ref a6, .ref a7, .int wm, .int fa, .int 0, .int se, .ref a8, .ref a9, .ref ab]))] := hD
  have hK : va_K D vwCl [(cI, .int)] s := hK
  refine lv_if_eq (tgt := 29) hx hb dX9_send_10 (by decide) (fun c_2 => ?_) (fun c_2 => ?_)
  · refine lv_iconst (v := (-1)) hx hb dX9_send_29 (by decide) ?_
    exact ret_i hx hb hr hlocks rfl (u := (tk, 0, g0)) (⟨hk, (by unfold snA; rw [if_pos c_2])⟩) (hP.sub [2, 0, 1] rfl) (hK.sub [] rfl) (hD.sub [2, 0, 1] (by decide) rfl) hS (Nat.le_of_ble_eq_true rfl) (Nat.le_of_ble_eq_true rfl) dX9_send_30
  have hv7_3 : bi v 0 7 := (by clear hml hsz hr hlocks; have : (0 : Int32).toInt = 0 := (by decide); have := ti_wi1 c_2; have u1 := ti_m1 (i := mm) (by omega); omega)
  have hvm_4 : v.toInt < mm.toInt := (by clear hml hsz hr hlocks; have : (0 : Int32).toInt = 0 := (by decide); have := ti_wi1 c_2; have u1 := ti_m1 (i := mm) (by omega); omega)
  refine lv_iload_n hx hb dX9_send_13 rfl (lv_at hl 2 rfl) ?_
  refine lv_if_lt (tgt := 29) hx hb dX9_send_14 (by decide) (fun c_5 => ?_) (fun c_5 => ?_)
  · refine lv_iconst (v := (-1)) hx hb dX9_send_29 (by decide) ?_
    exact ret_i hx hb hr hlocks rfl (u := (tk, 0, g0)) (⟨hk, (by unfold snA; rw [if_neg c_2, if_pos (wl_no (hmg.at hv7_3 hvm_4) (Or.inl (by clear hml hsz hr hlocks; have : (0 : Int32).toInt = 0 := (by decide); have := ti_wi1 c_2; have := ti_lt c_5; have k0 : (0 : Int32).toInt = 0 := (by decide); omega)))])⟩) (hP.sub [2, 0, 1] rfl) (hK.sub [] rfl) (hD.sub [2, 0, 1] (by decide) rfl) hS (Nat.le_of_ble_eq_true rfl) (Nat.le_of_ble_eq_true rfl) dX9_send_30
  refine lv_iload_n hx hb dX9_send_17 rfl (lv_at hl 2 rfl) ?_
  refine lv_iconst (v := 1) hx hb dX9_send_18 (by decide) ?_
  refine lv_aload_n hx hb dX9_send_19 rfl (lv_at hl 0 rfl) ?_
  refine lv_iload_n hx hb dX9_send_20 rfl (lv_at hl 1 rfl) ?_
  refine lv_iconst (v := 1) hx hb dX9_send_21 (by decide) ?_
  refine go_i (wr := [(a0, .inl (cI, 120, .inl g0))]) (tysr := [(cI, .int)]) hP hD hS hA hK [2, 1] [0] [0] rfl rfl (by decide) (by decide) rfl (va_runV (As := [.int v, .int 1]) (rest := [.int 1, .int w]) ⟨hx, hb, hml, hown, hts⟩ (m_get l D H.size cI h0 a0 a1 a2 a3 a4 a5 a6 a7 a8 a9 ab tk mm wm fa 0 se g1 v 1 (by first | assumption | (clear hml hsz hr hlocks; omega) | decide) (by first | assumption | (clear hml hsz hr hlocks; omega) | decide)) (cwV 2 hts gX9_send_X9_get rfl rfl rfl (by decide +kernel) ⟨Nat.le_of_ble_eq_true rfl, Nat.le_of_ble_eq_true rfl⟩) (st_preV (ci := 8) (q0 := 2) hP hD hK hNW [2, 1] [0] rfl rfl (by decide) rfl rfl rfl rfl) rfl rfl hl.1 rfl (lv_room (Nat.le_of_ble_eq_true rfl)) dX9_send_22 ⟨(Nat.le_of_ble_eq_true rfl), (Nat.le_of_ble_eq_true rfl)⟩) (fun r_6 u H locs hw hP hD hK hS => ?_)
  have hw : r_6 = g1 (Int32.toNatClampNeg (10 * v + 1)) := hw
  subst hw
  have hP : va_P D vwCl [(a0, .inl (cI, 120, .inl g0)), (h0, .inr (8, [.ref a0, .int tk, .ref a1, .int mm, .ref a2, .ref a3, .ref a4, .ref a5, .ref a6, .ref a7, .int wm, .int fa, .int 0, .int se, .ref a8, .ref a9, .ref ab])), (a1, .inl (cI, 80, .inl g1))] H := hP
  have hD : va_D A [(a0, .inl (cI, 120, .inl g0)), (h0, .inr (8, [.ref a0, .int tk, .ref a1, .int mm, .ref a2, .ref a3, .ref a4, .ref a5, .ref a6, .ref a7, .int wm, .int fa, .int 0, .int se, .ref a8, .ref a9, .ref ab])), (a1, .inl (cI, 80, .inl g1))] := hD
  have hK : va_K D vwCl [(cI, .int)] s := hK
  refine lv_ishl hx hb dX9_send_25 ?_
  refine lv_icmp_lt (tgt := 31) hx hb dX9_send_26 (by decide) (fun c_7 => ?_) (fun c_7 => ?_)
  · refine lv_aload_n hx hb dX9_send_31 rfl (lv_at hl 0 rfl) ?_
    refine lv_iload_n hx hb dX9_send_32 rfl (lv_at hl 1 rfl) ?_
    refine lv_iload_n hx hb dX9_send_33 rfl (lv_at hl 2 rfl) ?_
    refine go_v (wr := []) (tysr := [(cI, .int)]) hP hD hS hA hK [1, 0, 2] [] [0] rfl rfl (by decide) (by decide) rfl (va_runV (As := [.int v, .int w]) (rest := []) ⟨hx, hb, hml, hown, hts⟩ (m_flash l D H.size cI h0 a0 a1 a2 a3 a4 a5 a6 a7 a8 a9 ab tk mm wm fa 0 se g0 g1 v w (by first | assumption | (clear hml hsz hr hlocks; omega) | decide) (by first | assumption | (clear hml hsz hr hlocks; omega) | decide) (by first | assumption | (clear hml hsz hr hlocks; omega) | decide)) (cwV 2 hts gX9_send_X9_flash rfl rfl rfl (by decide +kernel) ⟨Nat.le_of_ble_eq_true rfl, Nat.le_of_ble_eq_true rfl⟩) (st_preV (ci := 8) (q0 := 1) hP hD hK hNW [1, 0, 2] [0] rfl rfl (by decide) rfl rfl rfl rfl) rfl rfl hl.1 rfl (lv_room (Nat.le_of_ble_eq_true rfl)) dX9_send_34 ⟨(Nat.le_of_ble_eq_true rfl), (Nat.le_of_ble_eq_true rfl)⟩) (fun u H locs hw hP hD hK hS => ?_)
    obtain ⟨tk_9, g_10⟩ := u
    have hw : bi tk_9 0 120 ∧ FC (g1 (Int32.toNatClampNeg (10 * v + 0))) (g1 (Int32.toNatClampNeg (10 * v + 1))) w tk_9 := hw
    have hw_11 := hw
    have hP : va_P D vwCl [(h0, .inr (8, [.ref a0, .int tk_9, .ref a1, .int mm, .ref a2, .ref a3, .ref a4, .ref a5, .ref a6, .ref a7, .int wm, .int fa, .int 0, .int se, .ref a8, .ref a9, .ref ab])), (a0, .inl (cI, 120, .inl g_10)), (a1, .inl (cI, 80, .inl g1))] H := hP
    have hD : va_D A [(h0, .inr (8, [.ref a0, .int tk_9, .ref a1, .int mm, .ref a2, .ref a3, .ref a4, .ref a5, .ref a6, .ref a7, .int wm, .int fa, .int 0, .int se, .ref a8, .ref a9, .ref ab])), (a0, .inl (cI, 120, .inl g_10)), (a1, .inl (cI, 80, .inl g1))] := hD
    have hK : va_K D vwCl [(cI, .int)] s := hK
    refine lv_aload_n hx hb dX9_send_37 rfl (lv_at hl 0 rfl) ?_
    refine va_get (D := D) (ci := 8) (v := .int tk_9) (C := RX9) (T := TX9) (N := 17) hx hb hts him_send_X9 hown hK hP 0 rfl rfl 1 (by decide) (hts (.fieldLink RX9 62 "OneHandsetModel" "taped" "I") (List.mem_of_getElem? (i := 2) rfl)) (fun _ h9 => h9) rfl dX9_send_38 ?_
    exact ret_i hx hb hr hlocks rfl (u := (tk_9, 0, g_10)) (⟨(hw_11).1, (by unfold snA; rw [if_neg c_2, if_neg (wl_yes (hmg.at hv7_3 hvm_4) ⟨ti_nlt c_5, ti_lt c_7⟩)]; exact FC.to (hw_11).2 (hmg.at hv7_3 hvm_4))⟩) (hP.sub [0, 1, 2] rfl) (hK.sub [] rfl) (hD.sub [0, 1, 2] (by decide) rfl) hS (Nat.le_of_ble_eq_true rfl) (Nat.le_of_ble_eq_true rfl) dX9_send_41
  refine lv_iconst (v := (-1)) hx hb dX9_send_29 (by decide) ?_
  exact ret_i hx hb hr hlocks rfl (u := (tk, 0, g0)) (⟨hk, (by unfold snA; rw [if_neg c_2, if_pos (wl_no (hmg.at hv7_3 hvm_4) (Or.inr (ti_nlt c_7)))])⟩) (hP.sub [1, 0, 2] rfl) (hK.sub [] rfl) (hD.sub [1, 0, 2] (by decide) rfl) hS (Nat.le_of_ble_eq_true rfl) (Nat.le_of_ble_eq_true rfl) dX9_send_30
theorem him_time_X9 : ∀ w ∈ wsX90, w ∈ wsX9_time := mem_pl [8, 9, 10, 11, 12, 13, 14, 15, 16, 17, 18, 19, 20, 21, 22, 23, 24] rfl
set_option maxHeartbeats 4000000 in
set_option maxRecDepth 100000 in
theorem m_time (l : Launch) (D : va_G) (sz : Nat) (cI : ClassId) (h0 : Nat) (a0 : Nat) (a1 : Nat) (a2 : Nat) (a3 : Nat) (a4 : Nat) (a5 : Nat) (a6 : Nat) (a7 : Nat) (a8 : Nat) (a9 : Nat) (ab : Nat) (tk : Int32) (mm : Int32) (wm : Int32) (fa : Int32) (th : Int32) (se : Int32) (g0 : Nat → Int32) (v : Int32) (hk : bi tk 0 120) : Ci l yX9_time wsX9_time ({ frames := 1, cells := 0, slots := 0, locals := 22 } : Room) D [.ref h0, .int v] [(h0, .inr (8, [.ref a0, .int tk, .ref a1, .int mm, .ref a2, .ref a3, .ref a4, .ref a5, .ref a6, .ref a7, .int wm, .int fa, .int th, .int se, .ref a8, .ref a9, .ref ab])), (a0, .inl (cI, 120, .inl g0))] [(cI, .int)] sz (fun (r : Int32) => fun (th2 : Int32) => True) (fun (th2 : Int32) => [(h0, .inr (8, [.ref a0, .int tk, .ref a1, .int mm, .ref a2, .ref a3, .ref a4, .ref a5, .ref a6, .ref a7, .int wm, .int fa, .int th2, .int se, .ref a8, .ref a9, .ref ab])), (a0, .inl (cI, 120, .inl g0))]) (fun (th2 : Int32) => []) := by
  refine ct_i (cc := cX9_time) (maxL := 2) (ret := (some .int)) (by decide) rfl (Nat.le_of_ble_eq_true rfl) ?_
  intro p e s m below meth c A ls H hx hb hr hts hown hml hlocks hin hA hS hP hK hD hNW hl hAe hsz
  have hl : lv_has ls 2 [(0, .ref h0), (1, .int v)] := hl
  refine lv_aload_n hx hb dX9_time_0 rfl (lv_at hl 0 rfl) ?_
  refine lv_iconst (v := 0) hx hb dX9_time_1 (by decide) ?_
  refine va_put (D := D) (ci := 8) (v := .int 0) (ty := .int) (C := RX9) (T := TX9) (N := 17) hx hb hts him_time_X9 tyX9 tyX9_ok nmX9 hown hK hP hD hS 0 rfl rfl 12 (by decide) (hts (.fieldLink RX9 43 "OneHandsetModel" "thrown" "I") (List.mem_of_getElem? (i := 1) rfl)) (fun _ h9 => h9) rfl (by decide +kernel) rfl rfl (Nat.le_of_ble_eq_true rfl) dX9_time_2 (fun H locs hP hD hS => ?_)
  have hP : va_P D vwCl [(h0, .inr (8, [.ref a0, .int tk, .ref a1, .int mm, .ref a2, .ref a3, .ref a4, .ref a5, .ref a6, .ref a7, .int wm, .int fa, .int 0, .int se, .ref a8, .ref a9, .ref ab])), (a0, .inl (cI, 120, .inl g0))] H := hP
  have hD : va_D A [(h0, .inr (8, [.ref a0, .int tk, .ref a1, .int mm, .ref a2, .ref a3, .ref a4, .ref a5, .ref a6, .ref a7, .int wm, .int fa, .int 0, .int se, .ref a8, .ref a9, .ref ab])), (a0, .inl (cI, 120, .inl g0))] := hD
  refine lv_iload_n hx hb dX9_time_5 rfl (lv_at hl 1 rfl) ?_
  refine lv_iconst (v := 0) hx hb dX9_time_6 (by decide) ?_
  refine lv_aload_n hx hb dX9_time_7 rfl (lv_at hl 0 rfl) ?_
  refine va_get (D := D) (ci := 8) (v := .int tk) (C := RX9) (T := TX9) (N := 17) hx hb hts him_time_X9 hown hK hP 0 rfl rfl 1 (by decide) (hts (.fieldLink RX9 62 "OneHandsetModel" "taped" "I") (List.mem_of_getElem? (i := 2) rfl)) (fun _ h9 => h9) rfl dX9_time_8 ?_
  refine lv_iconst (v := 1) hx hb dX9_time_11 (by decide) ?_
  refine lv_isub hx hb dX9_time_12 ?_
  refine go_i (wr := [(h0, .inr (8, [.ref a0, .int tk, .ref a1, .int mm, .ref a2, .ref a3, .ref a4, .ref a5, .ref a6, .ref a7, .int wm, .int fa, .int 0, .int se, .ref a8, .ref a9, .ref ab])), (a0, .inl (cI, 120, .inl g0))]) (tysr := [(cI, .int)]) hP hD hS hA hK [] [0, 1] [0] rfl rfl (by decide) (by decide) rfl (va_runS (As := [.int v, .int 0, .int (tk - 1)]) (rest := []) ⟨hx, hb, hml, hown, hts⟩ (m_in l D H.size v 0 (tk - 1) ) (va_cwS 3 hts gX9_time_X9_in rfl rfl rfl (by decide +kernel) ⟨Nat.le_of_ble_eq_true rfl, Nat.le_of_ble_eq_true rfl⟩) (st_preS hP hD hK hNW [] [] rfl rfl (by decide) rfl) rfl rfl hl.1 rfl (lv_room (Nat.le_of_ble_eq_true rfl)) dX9_time_13 ⟨(Nat.le_of_ble_eq_true rfl), (Nat.le_of_ble_eq_true rfl)⟩) (fun r_1 u H locs hw hP hD hK hS => ?_)
  have hw : r_1 = wi v 0 (tk - 1) := hw
  subst hw
  have hP : va_P D vwCl [(h0, .inr (8, [.ref a0, .int tk, .ref a1, .int mm, .ref a2, .ref a3, .ref a4, .ref a5, .ref a6, .ref a7, .int wm, .int fa, .int 0, .int se, .ref a8, .ref a9, .ref ab])), (a0, .inl (cI, 120, .inl g0))] H := hP
  have hD : va_D A [(h0, .inr (8, [.ref a0, .int tk, .ref a1, .int mm, .ref a2, .ref a3, .ref a4, .ref a5, .ref a6, .ref a7, .int wm, .int fa, .int 0, .int se, .ref a8, .ref a9, .ref ab])), (a0, .inl (cI, 120, .inl g0))] := hD
  have hK : va_K D vwCl [(cI, .int)] s := hK
  refine lv_if_ne (tgt := 26) hx hb dX9_time_16 (by decide) (fun c_2 => ?_) (fun c_2 => ?_)
  · refine lv_aload_n hx hb dX9_time_26 rfl (lv_at hl 0 rfl) ?_
    refine va_get (D := D) (ci := 8) (v := .ref a0) (C := RX9) (T := TX9) (N := 17) hx hb hts him_time_X9 hown hK hP 0 rfl rfl 0 (by decide) (hts (.fieldLink RX9 9 "OneHandsetModel" "tape" "[I") (List.mem_of_getElem? (i := 3) rfl)) (fun _ h9 => h9) rfl dX9_time_27 ?_
    refine lv_iload_n hx hb dX9_time_30 rfl (lv_at hl 1 rfl) ?_
    refine va_iald hx hb hK hP 1 0 rfl rfl (by clear hml hsz hr hlocks; have : (0 : Int32).toInt = 0 := (by decide); have := ti_wi1 c_2; have u1 := ti_m1 (i := tk) (by omega); exact vp_in_iff.mpr (by omega)) dX9_time_31 ?_
    exact ret_i hx hb hr hlocks rfl (u := 0) trivial (hP.sub [0, 1] rfl) (hK.sub [] rfl) (hD.sub [0, 1] (by decide) rfl) hS (Nat.le_of_ble_eq_true rfl) (Nat.le_of_ble_eq_true rfl) dX9_time_32
  refine lv_aload_n hx hb dX9_time_19 rfl (lv_at hl 0 rfl) ?_
  refine lv_iconst (v := 1) hx hb dX9_time_20 (by decide) ?_
  refine va_put (D := D) (ci := 8) (v := .int 1) (ty := .int) (C := RX9) (T := TX9) (N := 17) hx hb hts him_time_X9 tyX9 tyX9_ok nmX9 hown hK hP hD hS 0 rfl rfl 12 (by decide) (hts (.fieldLink RX9 43 "OneHandsetModel" "thrown" "I") (List.mem_of_getElem? (i := 1) rfl)) (fun _ h9 => h9) rfl (by decide +kernel) rfl rfl (Nat.le_of_ble_eq_true rfl) dX9_time_21 (fun H locs hP hD hS => ?_)
  have hP : va_P D vwCl [(h0, .inr (8, [.ref a0, .int tk, .ref a1, .int mm, .ref a2, .ref a3, .ref a4, .ref a5, .ref a6, .ref a7, .int wm, .int fa, .int 1, .int se, .ref a8, .ref a9, .ref ab])), (a0, .inl (cI, 120, .inl g0))] H := hP
  have hD : va_D A [(h0, .inr (8, [.ref a0, .int tk, .ref a1, .int mm, .ref a2, .ref a3, .ref a4, .ref a5, .ref a6, .ref a7, .int wm, .int fa, .int 1, .int se, .ref a8, .ref a9, .ref ab])), (a0, .inl (cI, 120, .inl g0))] := hD
  refine lv_iconst (v := 0) hx hb dX9_time_24 (by decide) ?_
  exact ret_i hx hb hr hlocks rfl (u := 1) trivial (hP.sub [0, 1] rfl) (hK.sub [] rfl) (hD.sub [0, 1] (by decide) rfl) hS (Nat.le_of_ble_eq_true rfl) (Nat.le_of_ble_eq_true rfl) dX9_time_25
theorem him_stretch_X9 : ∀ w ∈ wsX90, w ∈ wsX9_stretch := mem_pl [11, 12, 13, 14, 15, 16, 17, 18, 19, 20, 21, 22, 23, 24, 25, 26, 27] rfl
set_option maxHeartbeats 4000000 in
set_option maxRecDepth 100000 in
theorem m_stretch (l : Launch) (D : va_G) (sz : Nat) (cI : ClassId) (h0 : Nat) (a0 : Nat) (a1 : Nat) (a2 : Nat) (a3 : Nat) (a4 : Nat) (a5 : Nat) (a6 : Nat) (a7 : Nat) (a8 : Nat) (a9 : Nat) (ab : Nat) (tk : Int32) (mm : Int32) (wm : Int32) (fa : Int32) (th : Int32) (se : Int32) (g0 : Nat → Int32) (v : Int32) (hk : bi tk 0 120) : Ci l yX9_stretch wsX9_stretch ({ frames := 2, cells := 0, slots := 0, locals := 42 } : Room) D [.ref h0, .int v] [(h0, .inr (8, [.ref a0, .int tk, .ref a1, .int mm, .ref a2, .ref a3, .ref a4, .ref a5, .ref a6, .ref a7, .int wm, .int fa, .int th, .int se, .ref a8, .ref a9, .ref ab])), (a0, .inl (cI, 120, .inl g0))] [(cI, .int)] sz (fun (r : Int32) => fun (u9 : Int32 × (Nat → Int32)) => match u9 with | (th2, g02) => r = (if wi v (-60) 60 = 0 then 0 else 1)) (fun (u9 : Int32 × (Nat → Int32)) => match u9 with | (th2, g02) => [(h0, .inr (8, [.ref a0, .int tk, .ref a1, .int mm, .ref a2, .ref a3, .ref a4, .ref a5, .ref a6, .ref a7, .int wm, .int fa, .int th2, .int se, .ref a8, .ref a9, .ref ab])), (a0, .inl (cI, 120, .inl g02))]) (fun (u9 : Int32 × (Nat → Int32)) => match u9 with | (th2, g02) => []) := by
  refine ct_i (cc := cX9_stretch) (maxL := 4) (ret := (some .boolean)) (by decide) rfl (Nat.le_of_ble_eq_true rfl) ?_
  intro p e s m below meth c A ls H hx hb hr hts hown hml hlocks hin hA hS hP hK hD hNW hl hAe hsz
  have hl : lv_has ls 4 [(0, .ref h0), (1, .int v)] := hl
  refine lv_aload_n hx hb dX9_stretch_0 rfl (lv_at hl 0 rfl) ?_
  refine lv_iconst (v := 0) hx hb dX9_stretch_1 (by decide) ?_
  refine va_put (D := D) (ci := 8) (v := .int 0) (ty := .int) (C := RX9) (T := TX9) (N := 17) hx hb hts him_stretch_X9 tyX9 tyX9_ok nmX9 hown hK hP hD hS 0 rfl rfl 12 (by decide) (hts (.fieldLink RX9 43 "OneHandsetModel" "thrown" "I") (List.mem_of_getElem? (i := 1) rfl)) (fun _ h9 => h9) rfl (by decide +kernel) rfl rfl (Nat.le_of_ble_eq_true rfl) dX9_stretch_2 (fun H locs hP hD hS => ?_)
  have hP : va_P D vwCl [(h0, .inr (8, [.ref a0, .int tk, .ref a1, .int mm, .ref a2, .ref a3, .ref a4, .ref a5, .ref a6, .ref a7, .int wm, .int fa, .int 0, .int se, .ref a8, .ref a9, .ref ab])), (a0, .inl (cI, 120, .inl g0))] H := hP
  have hD : va_D A [(h0, .inr (8, [.ref a0, .int tk, .ref a1, .int mm, .ref a2, .ref a3, .ref a4, .ref a5, .ref a6, .ref a7, .int wm, .int fa, .int 0, .int se, .ref a8, .ref a9, .ref ab])), (a0, .inl (cI, 120, .inl g0))] := hD
  refine lv_iload_n hx hb dX9_stretch_5 rfl (lv_at hl 1 rfl) ?_
  refine lv_bipush (v := (-60)) hx hb dX9_stretch_6 (by decide) ?_
  refine lv_bipush (v := 60) hx hb dX9_stretch_8 (by decide) ?_
  refine go_i (wr := [(h0, .inr (8, [.ref a0, .int tk, .ref a1, .int mm, .ref a2, .ref a3, .ref a4, .ref a5, .ref a6, .ref a7, .int wm, .int fa, .int 0, .int se, .ref a8, .ref a9, .ref ab])), (a0, .inl (cI, 120, .inl g0))]) (tysr := [(cI, .int)]) hP hD hS hA hK [] [0, 1] [0] rfl rfl (by decide) (by decide) rfl (va_runS (As := [.int v, .int (-60), .int 60]) (rest := []) ⟨hx, hb, hml, hown, hts⟩ (m_in l D H.size v (-60) 60 ) (va_cwS 3 hts gX9_stretch_X9_in rfl rfl rfl (by decide +kernel) ⟨Nat.le_of_ble_eq_true rfl, Nat.le_of_ble_eq_true rfl⟩) (st_preS hP hD hK hNW [] [] rfl rfl (by decide) rfl) rfl rfl hl.1 rfl (lv_room (Nat.le_of_ble_eq_true rfl)) dX9_stretch_10 ⟨(Nat.le_of_ble_eq_true rfl), (Nat.le_of_ble_eq_true rfl)⟩) (fun r_1 u H locs hw hP hD hK hS => ?_)
  have hw : r_1 = wi v (-60) 60 := hw
  subst hw
  have hP : va_P D vwCl [(h0, .inr (8, [.ref a0, .int tk, .ref a1, .int mm, .ref a2, .ref a3, .ref a4, .ref a5, .ref a6, .ref a7, .int wm, .int fa, .int 0, .int se, .ref a8, .ref a9, .ref ab])), (a0, .inl (cI, 120, .inl g0))] H := hP
  have hD : va_D A [(h0, .inr (8, [.ref a0, .int tk, .ref a1, .int mm, .ref a2, .ref a3, .ref a4, .ref a5, .ref a6, .ref a7, .int wm, .int fa, .int 0, .int se, .ref a8, .ref a9, .ref ab])), (a0, .inl (cI, 120, .inl g0))] := hD
  have hK : va_K D vwCl [(cI, .int)] s := hK
  refine lv_if_ne (tgt := 18) hx hb dX9_stretch_13 (by decide) (fun c_2 => ?_) (fun c_2 => ?_)
  · refine lv_iconst (v := 0) hx hb dX9_stretch_18 (by decide) ?_
    refine lv_istore_n (lv' := [(2, .int 0), (0, .ref h0), (1, .int v)]) hx hb dX9_stretch_19 rfl hl (by decide) rfl (fun ls hl => ?_)
    refine lp_N (fun n9 H locs ls => ∃ (g_3 : Nat → Int32), ∃ (i_4 : Int32), n9 = (tk.toInt - i_4.toInt).toNat ∧ (va_P D vwCl [(h0, .inr (8, [.ref a0, .int tk, .ref a1, .int mm, .ref a2, .ref a3, .ref a4, .ref a5, .ref a6, .ref a7, .int wm, .int fa, .int 0, .int se, .ref a8, .ref a9, .ref ab])), (a0, .inl (cI, 120, .inl g_3))] H ∧ va_D A [(h0, .inr (8, [.ref a0, .int tk, .ref a1, .int mm, .ref a2, .ref a3, .ref a4, .ref a5, .ref a6, .ref a7, .int wm, .int fa, .int 0, .int se, .ref a8, .ref a9, .ref ab])), (a0, .inl (cI, 120, .inl g_3))]) ∧ va_S A s.heap H locs ∧ lv_has ls 4 [(2, .int i_4), (0, .ref h0), (1, .int v)] ∧ (0 ≤ i_4.toInt)) ?_ ⟨g0, 0, rfl, ⟨hP, hD⟩, hS, hl, (by decide)⟩
    intro n9 ih_5 H locs ls hI
    obtain ⟨g_3, i_4, rfl, ⟨hP, hD⟩, hS, hl, hv_6⟩ := hI
    refine lv_iload_n hx hb dX9_stretch_20 rfl (lv_at hl 0 rfl) ?_
    refine lv_aload_n hx hb dX9_stretch_21 rfl (lv_at hl 1 rfl) ?_
    refine va_get (D := D) (ci := 8) (v := .int tk) (C := RX9) (T := TX9) (N := 17) hx hb hts him_stretch_X9 hown hK hP 0 rfl rfl 1 (by decide) (hts (.fieldLink RX9 62 "OneHandsetModel" "taped" "I") (List.mem_of_getElem? (i := 2) rfl)) (fun _ h9 => h9) rfl dX9_stretch_22 ?_
    refine lv_icmp_ge (tgt := 97) hx hb dX9_stretch_25 (by decide) (fun c_7 => ?_) (fun c_7 => ?_)
    · refine lv_iconst (v := 1) hx hb dX9_stretch_97 (by decide) ?_
      exact ret_i hx hb hr hlocks rfl (u := (0, g_3)) ((if_neg c_2).symm) (hP.sub [0, 1] rfl) (hK.sub [] rfl) (hD.sub [0, 1] (by decide) rfl) hS (Nat.le_of_ble_eq_true rfl) (Nat.le_of_ble_eq_true rfl) dX9_stretch_98
    refine lv_aload_n hx hb dX9_stretch_28 rfl (lv_at hl 1 rfl) ?_
    refine va_get (D := D) (ci := 8) (v := .ref a0) (C := RX9) (T := TX9) (N := 17) hx hb hts him_stretch_X9 hown hK hP 0 rfl rfl 0 (by decide) (hts (.fieldLink RX9 9 "OneHandsetModel" "tape" "[I") (List.mem_of_getElem? (i := 3) rfl)) (fun _ h9 => h9) rfl dX9_stretch_29 ?_
    refine lv_iload_n hx hb dX9_stretch_32 rfl (lv_at hl 0 rfl) ?_
    refine va_iald hx hb hK hP 1 0 rfl rfl (by clear hml hsz hr hlocks; have : ((-60) : Int32).toInt = -60 := (by decide); have : (60 : Int32).toInt = 60 := (by decide); have := ti_wi1 c_2; have := ti_nle c_7; exact vp_in_iff.mpr (by omega)) dX9_stretch_33 ?_
    refine go_i (wr := [(h0, .inr (8, [.ref a0, .int tk, .ref a1, .int mm, .ref a2, .ref a3, .ref a4, .ref a5, .ref a6, .ref a7, .int wm, .int fa, .int 0, .int se, .ref a8, .ref a9, .ref ab])), (a0, .inl (cI, 120, .inl g_3))]) (tysr := [(cI, .int)]) hP hD hS hA hK [] [0, 1] [0] rfl rfl (by decide) (by decide) rfl (va_runS (As := [.int (g_3 (Int32.toNatClampNeg i_4))]) (rest := []) ⟨hx, hb, hml, hown, hts⟩ (m_isTime l D H.size (g_3 (Int32.toNatClampNeg i_4)) ) (va_cwS 1 hts gX9_stretch_X9_isTime rfl rfl rfl (by decide +kernel) ⟨Nat.le_of_ble_eq_true rfl, Nat.le_of_ble_eq_true rfl⟩) (st_preS hP hD hK hNW [] [] rfl rfl (by decide) rfl) rfl rfl hl.1 rfl (lv_room (Nat.le_of_ble_eq_true rfl)) dX9_stretch_34 ⟨(Nat.le_of_ble_eq_true rfl), (Nat.le_of_ble_eq_true rfl)⟩) (fun r_8 u H locs hw hP hD hK hS => ?_)
    have hw : r_8 = wi (g_3 (Int32.toNatClampNeg i_4)) 1 20000 := hw
    subst hw
    have hP : va_P D vwCl [(h0, .inr (8, [.ref a0, .int tk, .ref a1, .int mm, .ref a2, .ref a3, .ref a4, .ref a5, .ref a6, .ref a7, .int wm, .int fa, .int 0, .int se, .ref a8, .ref a9, .ref ab])), (a0, .inl (cI, 120, .inl g_3))] H := hP
    have hD : va_D A [(h0, .inr (8, [.ref a0, .int tk, .ref a1, .int mm, .ref a2, .ref a3, .ref a4, .ref a5, .ref a6, .ref a7, .int wm, .int fa, .int 0, .int se, .ref a8, .ref a9, .ref ab])), (a0, .inl (cI, 120, .inl g_3))] := hD
    have hK : va_K D vwCl [(cI, .int)] s := hK
    refine lv_if_ne (tgt := 43) hx hb dX9_stretch_37 (by decide) (fun c_9 => ?_) (fun c_9 => ?_)
    · refine lv_aload_n hx hb dX9_stretch_43 rfl (lv_at hl 1 rfl) ?_
      refine va_get (D := D) (ci := 8) (v := .ref a0) (C := RX9) (T := TX9) (N := 17) hx hb hts him_stretch_X9 hown hK hP 0 rfl rfl 0 (by decide) (hts (.fieldLink RX9 9 "OneHandsetModel" "tape" "[I") (List.mem_of_getElem? (i := 3) rfl)) (fun _ h9 => h9) rfl dX9_stretch_44 ?_
      refine lv_iload_n hx hb dX9_stretch_47 rfl (lv_at hl 0 rfl) ?_
      refine va_iald hx hb hK hP 1 0 rfl rfl (by clear hml hsz hr hlocks; have : ((-60) : Int32).toInt = -60 := (by decide); have : (60 : Int32).toInt = 60 := (by decide); have := ti_wi1 c_2; have := ti_nle c_7; have := ti_wi1 c_9; exact vp_in_iff.mpr (by omega)) dX9_stretch_48 ?_
      refine lv_aload_n hx hb dX9_stretch_49 rfl (lv_at hl 1 rfl) ?_
      refine va_get (D := D) (ci := 8) (v := .ref a0) (C := RX9) (T := TX9) (N := 17) hx hb hts him_stretch_X9 hown hK hP 0 rfl rfl 0 (by decide) (hts (.fieldLink RX9 9 "OneHandsetModel" "tape" "[I") (List.mem_of_getElem? (i := 3) rfl)) (fun _ h9 => h9) rfl dX9_stretch_50 ?_
      refine lv_iload_n hx hb dX9_stretch_53 rfl (lv_at hl 0 rfl) ?_
      refine va_iald hx hb hK hP 1 0 rfl rfl (by clear hml hsz hr hlocks; have : ((-60) : Int32).toInt = -60 := (by decide); have : (60 : Int32).toInt = 60 := (by decide); have := ti_wi1 c_2; have := ti_nle c_7; have := ti_wi1 c_9; exact vp_in_iff.mpr (by omega)) dX9_stretch_54 ?_
      refine lv_iload_n hx hb dX9_stretch_55 rfl (lv_at hl 2 rfl) ?_
      refine lv_imul hx hb dX9_stretch_56 ?_
      refine lv_bipush (v := 100) hx hb dX9_stretch_57 (by decide) ?_
      refine lv_idiv hx hb dX9_stretch_59 (by decide) ?_
      refine lv_iadd hx hb dX9_stretch_60 ?_
      refine lv_istore_n (lv' := [(3, .int ((g_3 (Int32.toNatClampNeg i_4)) + (((g_3 (Int32.toNatClampNeg i_4)) * v) / 100))), (2, .int i_4), (0, .ref h0), (1, .int v)]) hx hb dX9_stretch_61 rfl hl (by decide) rfl (fun ls hl => ?_)
      refine lv_aload_n hx hb dX9_stretch_62 rfl (lv_at hl 2 rfl) ?_
      refine va_get (D := D) (ci := 8) (v := .ref a0) (C := RX9) (T := TX9) (N := 17) hx hb hts him_stretch_X9 hown hK hP 0 rfl rfl 0 (by decide) (hts (.fieldLink RX9 9 "OneHandsetModel" "tape" "[I") (List.mem_of_getElem? (i := 3) rfl)) (fun _ h9 => h9) rfl dX9_stretch_63 ?_
      refine lv_iload_n hx hb dX9_stretch_66 rfl (lv_at hl 1 rfl) ?_
      refine jn_S 90 (fun st9 H locs ls => ∃ (q_10 : Int32), st9 = [.int q_10, .int i_4, .ref a0] ∧ (va_P D vwCl [(h0, .inr (8, [.ref a0, .int tk, .ref a1, .int mm, .ref a2, .ref a3, .ref a4, .ref a5, .ref a6, .ref a7, .int wm, .int fa, .int 0, .int se, .ref a8, .ref a9, .ref ab])), (a0, .inl (cI, 120, .inl g_3))] H ∧ va_D A [(h0, .inr (8, [.ref a0, .int tk, .ref a1, .int mm, .ref a2, .ref a3, .ref a4, .ref a5, .ref a6, .ref a7, .int wm, .int fa, .int 0, .int se, .ref a8, .ref a9, .ref ab])), (a0, .inl (cI, 120, .inl g_3))]) ∧ va_S A s.heap H locs ∧ lv_has ls 4 [(3, .int ((g_3 (Int32.toNatClampNeg i_4)) + (((g_3 (Int32.toNatClampNeg i_4)) * v) / 100))), (2, .int i_4), (0, .ref h0), (1, .int v)]) ?_ ?_
      · intro st9 H locs ls hI
        obtain ⟨q_10, rfl, ⟨hP, hD⟩, hS, hl⟩ := hI
        refine va_iast hx hb hK hP hD hS 1 0 rfl rfl (by clear hml hsz hr hlocks; have : ((-60) : Int32).toInt = -60 := (by decide); have : (60 : Int32).toInt = 60 := (by decide); have := ti_wi1 c_2; have := ti_nle c_7; have := ti_wi1 c_9; exact vp_in_iff.mpr (by omega)) dX9_stretch_90 (fun H locs hP hD hS => ?_)
        obtain ⟨g_12, hP, hD⟩ : ∃ g9 : Nat → Int32, va_P D vwCl [(h0, .inr (8, [.ref a0, .int tk, .ref a1, .int mm, .ref a2, .ref a3, .ref a4, .ref a5, .ref a6, .ref a7, .int wm, .int fa, .int 0, .int se, .ref a8, .ref a9, .ref ab])), (a0, .inl (cI, 120, .inl g9))] H ∧ va_D A [(h0, .inr (8, [.ref a0, .int tk, .ref a1, .int mm, .ref a2, .ref a3, .ref a4, .ref a5, .ref a6, .ref a7, .int wm, .int fa, .int 0, .int se, .ref a8, .ref a9, .ref ab])), (a0, .inl (cI, 120, .inl g9))] := ⟨_, hP, hD⟩
        refine lv_iinc (v := i_4 + 1) (lv' := [(2, .int (i_4 + 1)), (3, .int ((g_3 (Int32.toNatClampNeg i_4)) + (((g_3 (Int32.toNatClampNeg i_4)) * v) / 100))), (0, .ref h0), (1, .int v)]) hx hb dX9_stretch_91 hl (k := 1) rfl (ii_p1 _) (by decide) rfl (fun ls hl => ?_)
        refine lv_goto (tgt := 20) hx hb dX9_stretch_94 (by decide) ?_
        exact ih_5 _ _ _ _ (by clear hml hsz hr hlocks; have : ((-60) : Int32).toInt = -60 := (by decide); have : (60 : Int32).toInt = 60 := (by decide); have := ti_wi1 c_2; have := ti_nle c_7; have := ti_wi1 c_9; have u1 := ti_up (i := i_4) (n := tk) (by omega); omega) ⟨g_12, i_4 + 1, rfl, ⟨hP, hD⟩, hS, lv_sub hl [0, 2, 3] rfl, (by clear hml hsz hr hlocks; have : ((-60) : Int32).toInt = -60 := (by decide); have : (60 : Int32).toInt = 60 := (by decide); have := ti_wi1 c_2; have := ti_nle c_7; have := ti_wi1 c_9; have u1 := ti_up (i := i_4) (n := tk) (by omega); omega)⟩
      · intro hJ_13
        refine lv_iload_n hx hb dX9_stretch_67 rfl (lv_at hl 0 rfl) ?_
        refine lv_iconst (v := 1) hx hb dX9_stretch_68 (by decide) ?_
        refine lv_icmp_ge (tgt := 76) hx hb dX9_stretch_69 (by decide) (fun c_14 => ?_) (fun c_14 => ?_)
        · refine lv_iload_n hx hb dX9_stretch_76 rfl (lv_at hl 0 rfl) ?_
          refine lv_sipush (v := 20000) hx hb dX9_stretch_77 (by decide) ?_
          refine lv_icmp_le (tgt := 89) hx hb dX9_stretch_80 (by decide) (fun c_15 => ?_) (fun c_15 => ?_)
          · refine lv_iload_n hx hb dX9_stretch_89 rfl (lv_at hl 0 rfl) ?_
            exact hJ_13 _ _ _ _ ⟨(g_3 (Int32.toNatClampNeg i_4)) + (((g_3 (Int32.toNatClampNeg i_4)) * v) / 100), rfl, ⟨hP, hD⟩, hS, lv_sub hl [0, 1, 2, 3] rfl⟩
          refine lv_sipush (v := 20000) hx hb dX9_stretch_83 (by decide) ?_
          refine lv_goto (tgt := 90) hx hb dX9_stretch_86 (by decide) ?_
          exact hJ_13 _ _ _ _ ⟨20000, rfl, ⟨hP, hD⟩, hS, lv_sub hl [0, 1, 2, 3] rfl⟩
        refine lv_iconst (v := 1) hx hb dX9_stretch_72 (by decide) ?_
        refine lv_goto (tgt := 90) hx hb dX9_stretch_73 (by decide) ?_
        exact hJ_13 _ _ _ _ ⟨1, rfl, ⟨hP, hD⟩, hS, lv_sub hl [0, 1, 2, 3] rfl⟩
    refine lv_goto (tgt := 91) hx hb dX9_stretch_40 (by decide) ?_
    refine lv_iinc (v := i_4 + 1) (lv' := [(2, .int (i_4 + 1)), (0, .ref h0), (1, .int v)]) hx hb dX9_stretch_91 hl (k := 0) rfl (ii_p1 _) (by decide) rfl (fun ls hl => ?_)
    refine lv_goto (tgt := 20) hx hb dX9_stretch_94 (by decide) ?_
    exact ih_5 _ _ _ _ (by clear hml hsz hr hlocks; have : ((-60) : Int32).toInt = -60 := (by decide); have : (60 : Int32).toInt = 60 := (by decide); have := ti_wi1 c_2; have := ti_nle c_7; have := ti_wi0 c_9; have u1 := ti_up (i := i_4) (n := tk) (by omega); omega) ⟨g_3, i_4 + 1, rfl, ⟨hP, hD⟩, hS, lv_sub hl [0, 1, 2] rfl, (by clear hml hsz hr hlocks; have : ((-60) : Int32).toInt = -60 := (by decide); have : (60 : Int32).toInt = 60 := (by decide); have := ti_wi1 c_2; have := ti_nle c_7; have := ti_wi0 c_9; have u1 := ti_up (i := i_4) (n := tk) (by omega); omega)⟩
  refine lv_iconst (v := 0) hx hb dX9_stretch_16 (by decide) ?_
  exact ret_i hx hb hr hlocks rfl (u := (0, g0)) ((if_pos c_2).symm) (hP.sub [0, 1] rfl) (hK.sub [] rfl) (hD.sub [0, 1] (by decide) rfl) hS (Nat.le_of_ble_eq_true rfl) (Nat.le_of_ble_eq_true rfl) dX9_stretch_17
theorem him_end_X9 : ∀ w ∈ wsX90, w ∈ wsX9_end := mem_pl [3, 4, 5, 6, 7, 8, 9, 10, 11, 12, 13, 14, 15, 16, 17, 18, 19] rfl
set_option maxHeartbeats 4000000 in
set_option maxRecDepth 100000 in
theorem m_end (l : Launch) (D : va_G) (sz : Nat) (cI : ClassId) (h0 : Nat) (a0 : Nat) (a1 : Nat) (a2 : Nat) (a3 : Nat) (a4 : Nat) (a5 : Nat) (a6 : Nat) (a7 : Nat) (a8 : Nat) (a9 : Nat) (ab : Nat) (tk : Int32) (mm : Int32) (wm : Int32) (fa : Int32) (th : Int32) (se : Int32) (v : Int32) (hk : bi tk 0 120) : Ci l yX9_end wsX9_end ({ frames := 0, cells := 0, slots := 0, locals := 0 } : Room) D [.ref h0, .int v] [(h0, .inr (8, [.ref a0, .int tk, .ref a1, .int mm, .ref a2, .ref a3, .ref a4, .ref a5, .ref a6, .ref a7, .int wm, .int fa, .int th, .int se, .ref a8, .ref a9, .ref ab]))] [(cI, .int)] sz (fun (r : Int32) => fun (u9 : Int32 × Int32) => match u9 with | (tk2, th2) => bi tk2 0 120) (fun (u9 : Int32 × Int32) => match u9 with | (tk2, th2) => [(h0, .inr (8, [.ref a0, .int tk2, .ref a1, .int mm, .ref a2, .ref a3, .ref a4, .ref a5, .ref a6, .ref a7, .int wm, .int fa, .int th2, .int se, .ref a8, .ref a9, .ref ab]))]) (fun (u9 : Int32 × Int32) => match u9 with | (tk2, th2) => []) := by
  refine ct_i (cc := cX9_end) (maxL := 2) (ret := (some .boolean)) (by decide) rfl (Nat.le_of_ble_eq_true rfl) ?_
  intro p e s m below meth c A ls H hx hb hr hts hown hml hlocks hin hA hS hP hK hD hNW hl hAe hsz
  have hl : lv_has ls 2 [(0, .ref h0), (1, .int v)] := hl
  refine lv_aload_n hx hb dX9_end_0 rfl (lv_at hl 0 rfl) ?_
  refine lv_iconst (v := 0) hx hb dX9_end_1 (by decide) ?_
  refine va_put (D := D) (ci := 8) (v := .int 0) (ty := .int) (C := RX9) (T := TX9) (N := 17) hx hb hts him_end_X9 tyX9 tyX9_ok nmX9 hown hK hP hD hS 0 rfl rfl 12 (by decide) (hts (.fieldLink RX9 43 "OneHandsetModel" "thrown" "I") (List.mem_of_getElem? (i := 1) rfl)) (fun _ h9 => h9) rfl (by decide +kernel) rfl rfl (Nat.le_of_ble_eq_true rfl) dX9_end_2 (fun H locs hP hD hS => ?_)
  have hP : va_P D vwCl [(h0, .inr (8, [.ref a0, .int tk, .ref a1, .int mm, .ref a2, .ref a3, .ref a4, .ref a5, .ref a6, .ref a7, .int wm, .int fa, .int 0, .int se, .ref a8, .ref a9, .ref ab]))] H := hP
  have hD : va_D A [(h0, .inr (8, [.ref a0, .int tk, .ref a1, .int mm, .ref a2, .ref a3, .ref a4, .ref a5, .ref a6, .ref a7, .int wm, .int fa, .int 0, .int se, .ref a8, .ref a9, .ref ab]))] := hD
  refine lv_iload_n hx hb dX9_end_5 rfl (lv_at hl 1 rfl) ?_
  refine lv_if_lt (tgt := 17) hx hb dX9_end_6 (by decide) (fun c_1 => ?_) (fun c_1 => ?_)
  · refine lv_iconst (v := 0) hx hb dX9_end_17 (by decide) ?_
    exact ret_i hx hb hr hlocks rfl (u := (tk, 0)) hk (hP.sub [0] rfl) (hK.sub [] rfl) (hD.sub [0] (by decide) rfl) hS (Nat.le_of_ble_eq_true rfl) (Nat.le_of_ble_eq_true rfl) dX9_end_18
  refine lv_iload_n hx hb dX9_end_9 rfl (lv_at hl 1 rfl) ?_
  refine lv_aload_n hx hb dX9_end_10 rfl (lv_at hl 0 rfl) ?_
  refine va_get (D := D) (ci := 8) (v := .int tk) (C := RX9) (T := TX9) (N := 17) hx hb hts him_end_X9 hown hK hP 0 rfl rfl 1 (by decide) (hts (.fieldLink RX9 62 "OneHandsetModel" "taped" "I") (List.mem_of_getElem? (i := 2) rfl)) (fun _ h9 => h9) rfl dX9_end_11 ?_
  refine lv_icmp_le (tgt := 19) hx hb dX9_end_14 (by decide) (fun c_2 => ?_) (fun c_2 => ?_)
  · refine lv_aload_n hx hb dX9_end_19 rfl (lv_at hl 0 rfl) ?_
    refine lv_iload_n hx hb dX9_end_20 rfl (lv_at hl 1 rfl) ?_
    refine va_put (D := D) (ci := 8) (v := .int v) (ty := .int) (C := RX9) (T := TX9) (N := 17) hx hb hts him_end_X9 tyX9 tyX9_ok nmX9 hown hK hP hD hS 0 rfl rfl 1 (by decide) (hts (.fieldLink RX9 62 "OneHandsetModel" "taped" "I") (List.mem_of_getElem? (i := 2) rfl)) (fun _ h9 => h9) rfl (by decide +kernel) rfl rfl (Nat.le_of_ble_eq_true rfl) dX9_end_21 (fun H locs hP hD hS => ?_)
    have hP : va_P D vwCl [(h0, .inr (8, [.ref a0, .int v, .ref a1, .int mm, .ref a2, .ref a3, .ref a4, .ref a5, .ref a6, .ref a7, .int wm, .int fa, .int 0, .int se, .ref a8, .ref a9, .ref ab]))] H := hP
    have hD : va_D A [(h0, .inr (8, [.ref a0, .int v, .ref a1, .int mm, .ref a2, .ref a3, .ref a4, .ref a5, .ref a6, .ref a7, .int wm, .int fa, .int 0, .int se, .ref a8, .ref a9, .ref ab]))] := hD
    refine lv_iconst (v := 1) hx hb dX9_end_24 (by decide) ?_
    exact ret_i hx hb hr hlocks rfl (u := (v, 0)) (by clear hml hsz hr hlocks; have : (0 : Int32).toInt = 0 := (by decide); have := ti_nlt c_1; have := ti_le c_2; omega) (hP.sub [0] rfl) (hK.sub [] rfl) (hD.sub [0] (by decide) rfl) hS (Nat.le_of_ble_eq_true rfl) (Nat.le_of_ble_eq_true rfl) dX9_end_25
  refine lv_iconst (v := 0) hx hb dX9_end_17 (by decide) ?_
  exact ret_i hx hb hr hlocks rfl (u := (tk, 0)) hk (hP.sub [0] rfl) (hK.sub [] rfl) (hD.sub [0] (by decide) rfl) hS (Nat.le_of_ble_eq_true rfl) (Nat.le_of_ble_eq_true rfl) dX9_end_18
theorem him_count_X9 : ∀ w ∈ wsX90, w ∈ wsX9_count := mem_pl [5, 6, 7, 8, 9, 10, 11, 12, 13, 14, 15, 16, 17, 18, 19, 20, 21] rfl
set_option maxHeartbeats 4000000 in
set_option maxRecDepth 100000 in
theorem m_count (l : Launch) (D : va_G) (sz : Nat) (cI : ClassId) (h0 : Nat) (a0 : Nat) (a1 : Nat) (a2 : Nat) (a3 : Nat) (a4 : Nat) (a5 : Nat) (a6 : Nat) (a7 : Nat) (a8 : Nat) (a9 : Nat) (ab : Nat) (tk : Int32) (mm : Int32) (wm : Int32) (fa : Int32) (th : Int32) (se : Int32) (v : Int32)  : Ci l yX9_count wsX9_count ({ frames := 0, cells := 0, slots := 0, locals := 0 } : Room) D [.ref h0, .int v] [(h0, .inr (8, [.ref a0, .int tk, .ref a1, .int mm, .ref a2, .ref a3, .ref a4, .ref a5, .ref a6, .ref a7, .int wm, .int fa, .int th, .int se, .ref a8, .ref a9, .ref ab]))] [(cI, .int)] sz (fun (r : Int32) => fun (th2 : Int32) => True) (fun (th2 : Int32) => [(h0, .inr (8, [.ref a0, .int tk, .ref a1, .int mm, .ref a2, .ref a3, .ref a4, .ref a5, .ref a6, .ref a7, .int wm, .int fa, .int th2, .int se, .ref a8, .ref a9, .ref ab]))]) (fun (th2 : Int32) => []) := by
  refine ct_i (cc := cX9_count) (maxL := 2) (ret := (some .int)) (by decide) rfl (Nat.le_of_ble_eq_true rfl) ?_
  intro p e s m below meth c A ls H hx hb hr hts hown hml hlocks hin hA hS hP hK hD hNW hl hAe hsz
  have hl : lv_has ls 2 [(0, .ref h0), (1, .int v)] := hl
  refine lv_aload_n hx hb dX9_count_0 rfl (lv_at hl 0 rfl) ?_
  refine lv_iconst (v := 0) hx hb dX9_count_1 (by decide) ?_
  refine va_put (D := D) (ci := 8) (v := .int 0) (ty := .int) (C := RX9) (T := TX9) (N := 17) hx hb hts him_count_X9 tyX9 tyX9_ok nmX9 hown hK hP hD hS 0 rfl rfl 12 (by decide) (hts (.fieldLink RX9 43 "OneHandsetModel" "thrown" "I") (List.mem_of_getElem? (i := 1) rfl)) (fun _ h9 => h9) rfl (by decide +kernel) rfl rfl (Nat.le_of_ble_eq_true rfl) dX9_count_2 (fun H locs hP hD hS => ?_)
  have hP : va_P D vwCl [(h0, .inr (8, [.ref a0, .int tk, .ref a1, .int mm, .ref a2, .ref a3, .ref a4, .ref a5, .ref a6, .ref a7, .int wm, .int fa, .int 0, .int se, .ref a8, .ref a9, .ref ab]))] H := hP
  have hD : va_D A [(h0, .inr (8, [.ref a0, .int tk, .ref a1, .int mm, .ref a2, .ref a3, .ref a4, .ref a5, .ref a6, .ref a7, .int wm, .int fa, .int 0, .int se, .ref a8, .ref a9, .ref ab]))] := hD
  refine lv_iload_n hx hb dX9_count_5 rfl (lv_at hl 1 rfl) ?_
  refine lv_if_ne (tgt := 16) hx hb dX9_count_6 (by decide) (fun c_1 => ?_) (fun c_1 => ?_)
  · refine lv_iload_n hx hb dX9_count_16 rfl (lv_at hl 1 rfl) ?_
    refine lv_iconst (v := 1) hx hb dX9_count_17 (by decide) ?_
    refine lv_icmp_ne (tgt := 28) hx hb dX9_count_18 (by decide) (fun c_2 => ?_) (fun c_2 => ?_)
    · refine lv_iload_n hx hb dX9_count_28 rfl (lv_at hl 1 rfl) ?_
      refine lv_iconst (v := 2) hx hb dX9_count_29 (by decide) ?_
      refine lv_icmp_ne (tgt := 40) hx hb dX9_count_30 (by decide) (fun c_3 => ?_) (fun c_3 => ?_)
      · refine lv_iconst (v := (-1)) hx hb dX9_count_40 (by decide) ?_
        exact ret_i hx hb hr hlocks rfl (u := 0) trivial (hP.sub [0] rfl) (hK.sub [] rfl) (hD.sub [0] (by decide) rfl) hS (Nat.le_of_ble_eq_true rfl) (Nat.le_of_ble_eq_true rfl) dX9_count_41
      refine lv_aload_n hx hb dX9_count_33 rfl (lv_at hl 0 rfl) ?_
      refine va_get (D := D) (ci := 8) (v := .int wm) (C := RX9) (T := TX9) (N := 17) hx hb hts him_count_X9 hown hK hP 0 rfl rfl 10 (by decide) (hts (.fieldLink RX9 168 "OneHandsetModel" "wayMany" "I") (List.mem_of_getElem? (i := 4) rfl)) (fun _ h9 => h9) rfl dX9_count_34 ?_
      refine lv_goto (tgt := 41) hx hb dX9_count_37 (by decide) ?_
      exact ret_i hx hb hr hlocks rfl (u := 0) trivial (hP.sub [0] rfl) (hK.sub [] rfl) (hD.sub [0] (by decide) rfl) hS (Nat.le_of_ble_eq_true rfl) (Nat.le_of_ble_eq_true rfl) dX9_count_41
    refine lv_aload_n hx hb dX9_count_21 rfl (lv_at hl 0 rfl) ?_
    refine va_get (D := D) (ci := 8) (v := .int tk) (C := RX9) (T := TX9) (N := 17) hx hb hts him_count_X9 hown hK hP 0 rfl rfl 1 (by decide) (hts (.fieldLink RX9 62 "OneHandsetModel" "taped" "I") (List.mem_of_getElem? (i := 3) rfl)) (fun _ h9 => h9) rfl dX9_count_22 ?_
    refine lv_goto (tgt := 41) hx hb dX9_count_25 (by decide) ?_
    exact ret_i hx hb hr hlocks rfl (u := 0) trivial (hP.sub [0] rfl) (hK.sub [] rfl) (hD.sub [0] (by decide) rfl) hS (Nat.le_of_ble_eq_true rfl) (Nat.le_of_ble_eq_true rfl) dX9_count_41
  refine lv_aload_n hx hb dX9_count_9 rfl (lv_at hl 0 rfl) ?_
  refine va_get (D := D) (ci := 8) (v := .int mm) (C := RX9) (T := TX9) (N := 17) hx hb hts him_count_X9 hown hK hP 0 rfl rfl 3 (by decide) (hts (.fieldLink RX9 47 "OneHandsetModel" "makeMany" "I") (List.mem_of_getElem? (i := 2) rfl)) (fun _ h9 => h9) rfl dX9_count_10 ?_
  refine lv_goto (tgt := 41) hx hb dX9_count_13 (by decide) ?_
  exact ret_i hx hb hr hlocks rfl (u := 0) trivial (hP.sub [0] rfl) (hK.sub [] rfl) (hD.sub [0] (by decide) rfl) hS (Nat.le_of_ble_eq_true rfl) (Nat.le_of_ble_eq_true rfl) dX9_count_41
theorem him_feed_X9 : ∀ w ∈ wsX90, w ∈ wsX9_feed := mem_pl [4, 5, 6, 7, 8, 9, 10, 11, 12, 13, 14, 15, 16, 17, 18, 19, 20] rfl
set_option maxHeartbeats 4000000 in
set_option maxRecDepth 100000 in
theorem m_feed (l : Launch) (D : va_G) (sz : Nat) (cI : ClassId) (h0 : Nat) (a0 : Nat) (a1 : Nat) (a2 : Nat) (a3 : Nat) (a4 : Nat) (a5 : Nat) (a6 : Nat) (a7 : Nat) (a8 : Nat) (a9 : Nat) (ab : Nat) (tk : Int32) (mm : Int32) (wm : Int32) (fa : Int32) (th : Int32) (se : Int32) (g0 : Nat → Int32) (a : Int32) (b9 : Int32) (c9 : Int32) (d9 : Int32) (e9 : Int32) (hk : bi tk 0 120) : Ci l yX9_feed wsX9_feed ({ frames := 0, cells := 0, slots := 0, locals := 0 } : Room) D [.ref h0, .int a, .int b9, .int c9, .int d9, .int e9] [(h0, .inr (8, [.ref a0, .int tk, .ref a1, .int mm, .ref a2, .ref a3, .ref a4, .ref a5, .ref a6, .ref a7, .int wm, .int fa, .int th, .int se, .ref a8, .ref a9, .ref ab])), (a0, .inl (cI, 120, .inl g0))] [(cI, .int)] sz (fun (r : Int32) => fun (u9 : Int32 × Int32 × (Nat → Int32)) => match u9 with | (tk2, th2, g02) => bi tk2 0 120) (fun (u9 : Int32 × Int32 × (Nat → Int32)) => match u9 with | (tk2, th2, g02) => [(h0, .inr (8, [.ref a0, .int tk2, .ref a1, .int mm, .ref a2, .ref a3, .ref a4, .ref a5, .ref a6, .ref a7, .int wm, .int fa, .int th2, .int se, .ref a8, .ref a9, .ref ab])), (a0, .inl (cI, 120, .inl g02))]) (fun (u9 : Int32 × Int32 × (Nat → Int32)) => match u9 with | (tk2, th2, g02) => []) := by
  refine ct_i (cc := cX9_feed) (maxL := 6) (ret := (some .int)) (by decide) rfl (Nat.le_of_ble_eq_true rfl) ?_
  intro p e s m below meth c A ls H hx hb hr hts hown hml hlocks hin hA hS hP hK hD hNW hl hAe hsz
  have hl : lv_has ls 6 [(0, .ref h0), (1, .int a), (2, .int b9), (3, .int c9), (4, .int d9), (5, .int e9)] := hl
  refine lv_aload_n hx hb dX9_feed_0 rfl (lv_at hl 0 rfl) ?_
  refine lv_iconst (v := 0) hx hb dX9_feed_1 (by decide) ?_
  refine va_put (D := D) (ci := 8) (v := .int 0) (ty := .int) (C := RX9) (T := TX9) (N := 17) hx hb hts him_feed_X9 tyX9 tyX9_ok nmX9 hown hK hP hD hS 0 rfl rfl 12 (by decide) (hts (.fieldLink RX9 43 "OneHandsetModel" "thrown" "I") (List.mem_of_getElem? (i := 1) rfl)) (fun _ h9 => h9) rfl (by decide +kernel) rfl rfl (Nat.le_of_ble_eq_true rfl) dX9_feed_2 (fun H locs hP hD hS => ?_)
  have hP : va_P D vwCl [(h0, .inr (8, [.ref a0, .int tk, .ref a1, .int mm, .ref a2, .ref a3, .ref a4, .ref a5, .ref a6, .ref a7, .int wm, .int fa, .int 0, .int se, .ref a8, .ref a9, .ref ab])), (a0, .inl (cI, 120, .inl g0))] H := hP
  have hD : va_D A [(h0, .inr (8, [.ref a0, .int tk, .ref a1, .int mm, .ref a2, .ref a3, .ref a4, .ref a5, .ref a6, .ref a7, .int wm, .int fa, .int 0, .int se, .ref a8, .ref a9, .ref ab])), (a0, .inl (cI, 120, .inl g0))] := hD
  refine lv_aload_n hx hb dX9_feed_5 rfl (lv_at hl 0 rfl) ?_
  refine va_get (D := D) (ci := 8) (v := .int tk) (C := RX9) (T := TX9) (N := 17) hx hb hts him_feed_X9 hown hK hP 0 rfl rfl 1 (by decide) (hts (.fieldLink RX9 62 "OneHandsetModel" "taped" "I") (List.mem_of_getElem? (i := 2) rfl)) (fun _ h9 => h9) rfl dX9_feed_6 ?_
  refine lv_iconst (v := 5) hx hb dX9_feed_9 (by decide) ?_
  refine lv_iadd hx hb dX9_feed_10 ?_
  refine lv_bipush (v := 120) hx hb dX9_feed_11 (by decide) ?_
  refine lv_icmp_le (tgt := 18) hx hb dX9_feed_13 (by decide) (fun c_1 => ?_) (fun c_1 => ?_)
  · refine lv_aload_n hx hb dX9_feed_18 rfl (lv_at hl 0 rfl) ?_
    refine va_get (D := D) (ci := 8) (v := .ref a0) (C := RX9) (T := TX9) (N := 17) hx hb hts him_feed_X9 hown hK hP 0 rfl rfl 0 (by decide) (hts (.fieldLink RX9 9 "OneHandsetModel" "tape" "[I") (List.mem_of_getElem? (i := 3) rfl)) (fun _ h9 => h9) rfl dX9_feed_19 ?_
    refine lv_aload_n hx hb dX9_feed_22 rfl (lv_at hl 0 rfl) ?_
    refine va_get (D := D) (ci := 8) (v := .int tk) (C := RX9) (T := TX9) (N := 17) hx hb hts him_feed_X9 hown hK hP 0 rfl rfl 1 (by decide) (hts (.fieldLink RX9 62 "OneHandsetModel" "taped" "I") (List.mem_of_getElem? (i := 2) rfl)) (fun _ h9 => h9) rfl dX9_feed_23 ?_
    refine lv_iload_n hx hb dX9_feed_26 rfl (lv_at hl 1 rfl) ?_
    refine va_iast hx hb hK hP hD hS 1 0 rfl rfl (by clear hml hsz hr hlocks; have : (120 : Int32).toInt = 120 := (by decide); have := ti_le c_1; have k120 : (120 : Int32).toInt = 120 := (by decide); have k5 : (5 : Int32).toInt = 5 := (by decide); have u5 := ti_ad (x := tk) (y := 5) (by rw [k5]; omega); rw [k5] at u5; exact vp_in_iff.mpr (by omega)) dX9_feed_27 (fun H locs hP hD hS => ?_)
    obtain ⟨g_2, hP, hD⟩ : ∃ g9 : Nat → Int32, va_P D vwCl [(h0, .inr (8, [.ref a0, .int tk, .ref a1, .int mm, .ref a2, .ref a3, .ref a4, .ref a5, .ref a6, .ref a7, .int wm, .int fa, .int 0, .int se, .ref a8, .ref a9, .ref ab])), (a0, .inl (cI, 120, .inl g9))] H ∧ va_D A [(h0, .inr (8, [.ref a0, .int tk, .ref a1, .int mm, .ref a2, .ref a3, .ref a4, .ref a5, .ref a6, .ref a7, .int wm, .int fa, .int 0, .int se, .ref a8, .ref a9, .ref ab])), (a0, .inl (cI, 120, .inl g9))] := ⟨_, hP, hD⟩
    refine lv_aload_n hx hb dX9_feed_28 rfl (lv_at hl 0 rfl) ?_
    refine va_get (D := D) (ci := 8) (v := .ref a0) (C := RX9) (T := TX9) (N := 17) hx hb hts him_feed_X9 hown hK hP 0 rfl rfl 0 (by decide) (hts (.fieldLink RX9 9 "OneHandsetModel" "tape" "[I") (List.mem_of_getElem? (i := 3) rfl)) (fun _ h9 => h9) rfl dX9_feed_29 ?_
    refine lv_aload_n hx hb dX9_feed_32 rfl (lv_at hl 0 rfl) ?_
    refine va_get (D := D) (ci := 8) (v := .int tk) (C := RX9) (T := TX9) (N := 17) hx hb hts him_feed_X9 hown hK hP 0 rfl rfl 1 (by decide) (hts (.fieldLink RX9 62 "OneHandsetModel" "taped" "I") (List.mem_of_getElem? (i := 2) rfl)) (fun _ h9 => h9) rfl dX9_feed_33 ?_
    refine lv_iconst (v := 1) hx hb dX9_feed_36 (by decide) ?_
    refine lv_iadd hx hb dX9_feed_37 ?_
    refine lv_iload_n hx hb dX9_feed_38 rfl (lv_at hl 2 rfl) ?_
    refine va_iast hx hb hK hP hD hS 1 0 rfl rfl (by clear hml hsz hr hlocks; have : (120 : Int32).toInt = 120 := (by decide); have := ti_le c_1; have k120 : (120 : Int32).toInt = 120 := (by decide); have k5 : (5 : Int32).toInt = 5 := (by decide); have u5 := ti_ad (x := tk) (y := 5) (by rw [k5]; omega); rw [k5] at u5; have k1 : (1 : Int32).toInt = 1 := (by decide); have u6 := ti_ad (x := tk) (y := 1) (by rw [k1]; omega); rw [k1] at u6; exact vp_in_iff.mpr (by omega)) dX9_feed_39 (fun H locs hP hD hS => ?_)
    obtain ⟨g_3, hP, hD⟩ : ∃ g9 : Nat → Int32, va_P D vwCl [(h0, .inr (8, [.ref a0, .int tk, .ref a1, .int mm, .ref a2, .ref a3, .ref a4, .ref a5, .ref a6, .ref a7, .int wm, .int fa, .int 0, .int se, .ref a8, .ref a9, .ref ab])), (a0, .inl (cI, 120, .inl g9))] H ∧ va_D A [(h0, .inr (8, [.ref a0, .int tk, .ref a1, .int mm, .ref a2, .ref a3, .ref a4, .ref a5, .ref a6, .ref a7, .int wm, .int fa, .int 0, .int se, .ref a8, .ref a9, .ref ab])), (a0, .inl (cI, 120, .inl g9))] := ⟨_, hP, hD⟩
    refine lv_aload_n hx hb dX9_feed_40 rfl (lv_at hl 0 rfl) ?_
    refine va_get (D := D) (ci := 8) (v := .ref a0) (C := RX9) (T := TX9) (N := 17) hx hb hts him_feed_X9 hown hK hP 0 rfl rfl 0 (by decide) (hts (.fieldLink RX9 9 "OneHandsetModel" "tape" "[I") (List.mem_of_getElem? (i := 3) rfl)) (fun _ h9 => h9) rfl dX9_feed_41 ?_
    refine lv_aload_n hx hb dX9_feed_44 rfl (lv_at hl 0 rfl) ?_
    refine va_get (D := D) (ci := 8) (v := .int tk) (C := RX9) (T := TX9) (N := 17) hx hb hts him_feed_X9 hown hK hP 0 rfl rfl 1 (by decide) (hts (.fieldLink RX9 62 "OneHandsetModel" "taped" "I") (List.mem_of_getElem? (i := 2) rfl)) (fun _ h9 => h9) rfl dX9_feed_45 ?_
    refine lv_iconst (v := 2) hx hb dX9_feed_48 (by decide) ?_
    refine lv_iadd hx hb dX9_feed_49 ?_
    refine lv_iload_n hx hb dX9_feed_50 rfl (lv_at hl 3 rfl) ?_
    refine va_iast hx hb hK hP hD hS 1 0 rfl rfl (by clear hml hsz hr hlocks; have : (120 : Int32).toInt = 120 := (by decide); have := ti_le c_1; have k120 : (120 : Int32).toInt = 120 := (by decide); have k5 : (5 : Int32).toInt = 5 := (by decide); have u5 := ti_ad (x := tk) (y := 5) (by rw [k5]; omega); rw [k5] at u5; have k2 : (2 : Int32).toInt = 2 := (by decide); have u6 := ti_ad (x := tk) (y := 2) (by rw [k2]; omega); rw [k2] at u6; exact vp_in_iff.mpr (by omega)) dX9_feed_51 (fun H locs hP hD hS => ?_)
    obtain ⟨g_4, hP, hD⟩ : ∃ g9 : Nat → Int32, va_P D vwCl [(h0, .inr (8, [.ref a0, .int tk, .ref a1, .int mm, .ref a2, .ref a3, .ref a4, .ref a5, .ref a6, .ref a7, .int wm, .int fa, .int 0, .int se, .ref a8, .ref a9, .ref ab])), (a0, .inl (cI, 120, .inl g9))] H ∧ va_D A [(h0, .inr (8, [.ref a0, .int tk, .ref a1, .int mm, .ref a2, .ref a3, .ref a4, .ref a5, .ref a6, .ref a7, .int wm, .int fa, .int 0, .int se, .ref a8, .ref a9, .ref ab])), (a0, .inl (cI, 120, .inl g9))] := ⟨_, hP, hD⟩
    refine lv_aload_n hx hb dX9_feed_52 rfl (lv_at hl 0 rfl) ?_
    refine va_get (D := D) (ci := 8) (v := .ref a0) (C := RX9) (T := TX9) (N := 17) hx hb hts him_feed_X9 hown hK hP 0 rfl rfl 0 (by decide) (hts (.fieldLink RX9 9 "OneHandsetModel" "tape" "[I") (List.mem_of_getElem? (i := 3) rfl)) (fun _ h9 => h9) rfl dX9_feed_53 ?_
    refine lv_aload_n hx hb dX9_feed_56 rfl (lv_at hl 0 rfl) ?_
    refine va_get (D := D) (ci := 8) (v := .int tk) (C := RX9) (T := TX9) (N := 17) hx hb hts him_feed_X9 hown hK hP 0 rfl rfl 1 (by decide) (hts (.fieldLink RX9 62 "OneHandsetModel" "taped" "I") (List.mem_of_getElem? (i := 2) rfl)) (fun _ h9 => h9) rfl dX9_feed_57 ?_
    refine lv_iconst (v := 3) hx hb dX9_feed_60 (by decide) ?_
    refine lv_iadd hx hb dX9_feed_61 ?_
    refine lv_iload hx hb dX9_feed_62 (lv_at hl 4 rfl) ?_
    refine va_iast hx hb hK hP hD hS 1 0 rfl rfl (by clear hml hsz hr hlocks; have : (120 : Int32).toInt = 120 := (by decide); have := ti_le c_1; have k120 : (120 : Int32).toInt = 120 := (by decide); have k5 : (5 : Int32).toInt = 5 := (by decide); have u5 := ti_ad (x := tk) (y := 5) (by rw [k5]; omega); rw [k5] at u5; have k3 : (3 : Int32).toInt = 3 := (by decide); have u6 := ti_ad (x := tk) (y := 3) (by rw [k3]; omega); rw [k3] at u6; exact vp_in_iff.mpr (by omega)) dX9_feed_64 (fun H locs hP hD hS => ?_)
    obtain ⟨g_5, hP, hD⟩ : ∃ g9 : Nat → Int32, va_P D vwCl [(h0, .inr (8, [.ref a0, .int tk, .ref a1, .int mm, .ref a2, .ref a3, .ref a4, .ref a5, .ref a6, .ref a7, .int wm, .int fa, .int 0, .int se, .ref a8, .ref a9, .ref ab])), (a0, .inl (cI, 120, .inl g9))] H ∧ va_D A [(h0, .inr (8, [.ref a0, .int tk, .ref a1, .int mm, .ref a2, .ref a3, .ref a4, .ref a5, .ref a6, .ref a7, .int wm, .int fa, .int 0, .int se, .ref a8, .ref a9, .ref ab])), (a0, .inl (cI, 120, .inl g9))] := ⟨_, hP, hD⟩
    refine lv_aload_n hx hb dX9_feed_65 rfl (lv_at hl 0 rfl) ?_
    refine va_get (D := D) (ci := 8) (v := .ref a0) (C := RX9) (T := TX9) (N := 17) hx hb hts him_feed_X9 hown hK hP 0 rfl rfl 0 (by decide) (hts (.fieldLink RX9 9 "OneHandsetModel" "tape" "[I") (List.mem_of_getElem? (i := 3) rfl)) (fun _ h9 => h9) rfl dX9_feed_66 ?_
    refine lv_aload_n hx hb dX9_feed_69 rfl (lv_at hl 0 rfl) ?_
    refine va_get (D := D) (ci := 8) (v := .int tk) (C := RX9) (T := TX9) (N := 17) hx hb hts him_feed_X9 hown hK hP 0 rfl rfl 1 (by decide) (hts (.fieldLink RX9 62 "OneHandsetModel" "taped" "I") (List.mem_of_getElem? (i := 2) rfl)) (fun _ h9 => h9) rfl dX9_feed_70 ?_
    refine lv_iconst (v := 4) hx hb dX9_feed_73 (by decide) ?_
    refine lv_iadd hx hb dX9_feed_74 ?_
    refine lv_iload hx hb dX9_feed_75 (lv_at hl 5 rfl) ?_
    refine va_iast hx hb hK hP hD hS 1 0 rfl rfl (by clear hml hsz hr hlocks; have : (120 : Int32).toInt = 120 := (by decide); have := ti_le c_1; have k120 : (120 : Int32).toInt = 120 := (by decide); have k5 : (5 : Int32).toInt = 5 := (by decide); have u5 := ti_ad (x := tk) (y := 5) (by rw [k5]; omega); rw [k5] at u5; have k4 : (4 : Int32).toInt = 4 := (by decide); have u6 := ti_ad (x := tk) (y := 4) (by rw [k4]; omega); rw [k4] at u6; exact vp_in_iff.mpr (by omega)) dX9_feed_77 (fun H locs hP hD hS => ?_)
    obtain ⟨g_6, hP, hD⟩ : ∃ g9 : Nat → Int32, va_P D vwCl [(h0, .inr (8, [.ref a0, .int tk, .ref a1, .int mm, .ref a2, .ref a3, .ref a4, .ref a5, .ref a6, .ref a7, .int wm, .int fa, .int 0, .int se, .ref a8, .ref a9, .ref ab])), (a0, .inl (cI, 120, .inl g9))] H ∧ va_D A [(h0, .inr (8, [.ref a0, .int tk, .ref a1, .int mm, .ref a2, .ref a3, .ref a4, .ref a5, .ref a6, .ref a7, .int wm, .int fa, .int 0, .int se, .ref a8, .ref a9, .ref ab])), (a0, .inl (cI, 120, .inl g9))] := ⟨_, hP, hD⟩
    refine lv_aload_n hx hb dX9_feed_78 rfl (lv_at hl 0 rfl) ?_
    refine lv_dup hx hb dX9_feed_79 rfl ?_
    refine va_get (D := D) (ci := 8) (v := .int tk) (C := RX9) (T := TX9) (N := 17) hx hb hts him_feed_X9 hown hK hP 0 rfl rfl 1 (by decide) (hts (.fieldLink RX9 62 "OneHandsetModel" "taped" "I") (List.mem_of_getElem? (i := 2) rfl)) (fun _ h9 => h9) rfl dX9_feed_80 ?_
    refine lv_iconst (v := 5) hx hb dX9_feed_83 (by decide) ?_
    refine lv_iadd hx hb dX9_feed_84 ?_
    refine va_put (D := D) (ci := 8) (v := .int (tk + 5)) (ty := .int) (C := RX9) (T := TX9) (N := 17) hx hb hts him_feed_X9 tyX9 tyX9_ok nmX9 hown hK hP hD hS 0 rfl rfl 1 (by decide) (hts (.fieldLink RX9 62 "OneHandsetModel" "taped" "I") (List.mem_of_getElem? (i := 2) rfl)) (fun _ h9 => h9) rfl (by decide +kernel) rfl rfl (Nat.le_of_ble_eq_true rfl) dX9_feed_85 (fun H locs hP hD hS => ?_)
    have hP : va_P D vwCl [(h0, .inr (8, [.ref a0, .int (tk + 5), .ref a1, .int mm, .ref a2, .ref a3, .ref a4, .ref a5, .ref a6, .ref a7, .int wm, .int fa, .int 0, .int se, .ref a8, .ref a9, .ref ab])), (a0, .inl (cI, 120, .inl g_6))] H := hP
    have hD : va_D A [(h0, .inr (8, [.ref a0, .int (tk + 5), .ref a1, .int mm, .ref a2, .ref a3, .ref a4, .ref a5, .ref a6, .ref a7, .int wm, .int fa, .int 0, .int se, .ref a8, .ref a9, .ref ab])), (a0, .inl (cI, 120, .inl g_6))] := hD
    refine lv_aload_n hx hb dX9_feed_88 rfl (lv_at hl 0 rfl) ?_
    refine va_get (D := D) (ci := 8) (v := .int (tk + 5)) (C := RX9) (T := TX9) (N := 17) hx hb hts him_feed_X9 hown hK hP 0 rfl rfl 1 (by decide) (hts (.fieldLink RX9 62 "OneHandsetModel" "taped" "I") (List.mem_of_getElem? (i := 2) rfl)) (fun _ h9 => h9) rfl dX9_feed_89 ?_
    exact ret_i hx hb hr hlocks rfl (u := (tk + 5, 0, g_6)) (by clear hml hsz hr hlocks; have : (120 : Int32).toInt = 120 := (by decide); have := ti_le c_1; have k120 : (120 : Int32).toInt = 120 := (by decide); have k5 : (5 : Int32).toInt = 5 := (by decide); have u5 := ti_ad (x := tk) (y := 5) (by rw [k5]; omega); rw [k5] at u5; omega) (hP.sub [0, 1] rfl) (hK.sub [] rfl) (hD.sub [0, 1] (by decide) rfl) hS (Nat.le_of_ble_eq_true rfl) (Nat.le_of_ble_eq_true rfl) dX9_feed_92
  refine lv_iconst (v := (-1)) hx hb dX9_feed_16 (by decide) ?_
  exact ret_i hx hb hr hlocks rfl (u := (tk, 0, g0)) hk (hP.sub [0, 1] rfl) (hK.sub [] rfl) (hD.sub [0, 1] (by decide) rfl) hS (Nat.le_of_ble_eq_true rfl) (Nat.le_of_ble_eq_true rfl) dX9_feed_17
