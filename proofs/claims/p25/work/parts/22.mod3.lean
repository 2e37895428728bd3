set_option maxHeartbeats 4000000 in
set_option maxRecDepth 100000 in
theorem m_isKey (l : Launch) (D : va_G) (sz : Nat) (cI : ClassId) (h0 : Nat) (a0 : Nat) (a1 : Nat) (a2 : Nat) (a3 : Nat) (a4 : Nat) (a5 : Nat) (a6 : Nat) (a7 : Nat) (a8 : Nat) (a9 : Nat) (ab : Nat) (tk : Int32) (mm : Int32) (wm : Int32) (fa : Int32) (th : Int32) (se : Int32) (v : Int32) (w : Int32) (hmm : bi mm 0 8) : Ci l yX9_isKey wsX9_isKey ({ frames := 2, cells := 0, slots := 0, locals := 43 } : Room) D [.ref h0, .int v, .int w] [(h0, .inr (8, [.ref a0, .int tk, .ref a1, .int mm, .ref a2, .ref a3, .ref a4, .ref a5, .ref a6, .ref a7, .int wm, .int fa, .int th, .int se, .ref a8, .ref a9, .ref ab]))] [(cI, .int)] sz (fun (r : Int32) => fun (_ : Unit) => r = 0 ∨ (0 ≤ v.toInt ∧ v.toInt < mm.toInt ∧ bi w 0 15)) (fun (_ : Unit) => [(h0, .inr (8, [.ref a0, .int tk, .ref a1, .int mm, .ref a2, .ref a3, .ref a4, .ref a5, .ref a6, .ref a7, .int wm, .int fa, .int th, .int se, .ref a8, .ref a9, .ref ab]))]) (fun (_ : Unit) => []) := by
  refine ct_i (cc := cX9_isKey) (maxL := 3) (ret := (some .boolean)) (by decide) rfl (Nat.le_of_ble_eq_true rfl) ?_
  intro p e s m below meth c A ls H hx hb hr hts hown hml hlocks hin hA hS hP hK hD hNW hl hAe hsz
  have hl : lv_has ls 3 [(0, .ref h0), (1, .int v), (2, .int w)] := hl
  refine lv_aload_n hx hb dX9_isKey_0 rfl (lv_at hl 0 rfl) ?_
  refine lv_iload_n hx hb dX9_isKey_1 rfl (lv_at hl 1 rfl) ?_
  refine go_i (wr := []) (tysr := [(cI, .int)]) hP hD hS hA hK [0] [] [0] rfl rfl (by decide) (by decide) rfl (va_runV (As := [.int v]) (rest := []) ⟨hx, hb, hml, hown, hts⟩ (m_isMake l D H.size cI h0 a0 a1 a2 a3 a4 a5 a6 a7 a8 a9 ab tk mm wm fa th se v ) (cwV 1 hts gX9_isKey_X9_isMake rfl rfl rfl (by decide +kernel) ⟨Nat.le_of_ble_eq_true rfl, Nat.le_of_ble_eq_true rfl⟩) (st_preV (ci := 8) (q0 := 0) hP hD hK hNW [0] [0] rfl rfl (by decide) rfl rfl rfl rfl) rfl rfl hl.1 rfl (lv_room (Nat.le_of_ble_eq_true rfl)) dX9_isKey_2 ⟨(Nat.le_of_ble_eq_true rfl), (Nat.le_of_ble_eq_true rfl)⟩) (fun r_1 u H locs hw hP hD hK hS => ?_)
  have hw : r_1 = wi v 0 (mm - 1) := hw
  subst hw
  have hP : va_P D vwCl [(h0, .inr (8, [.ref a0, .int tk, .ref a1, .int mm, .ref a2, .ref a3, .ref a4, .ref a5, .ref a6, .ref a7, .int wm, .int fa, .int th, .int se, .ref a8, .ref a9, .ref ab]))] H := hP
  have hD : va_D A [(h0, .inr (8, [.ref a0, .int tk, .ref a1, .int mm, .ref a2, .ref a3, .ref a4, .ref a5, .ref a6, .ref a7, .int wm, .int fa, .int th, .int se, .ref a8, .ref a9, .ref ab]))] := hD
  have hK : va_K D vwCl [(cI, .int)] s := hK
  refine lv_if_eq (tgt := 22) hx hb dX9_isKey_5 (by decide) (fun c_2 => ?_) (fun c_2 => ?_)
  · refine lv_iconst (v := 0) hx hb dX9_isKey_22 (by decide) ?_
    exact ret_i hx hb hr hlocks rfl (u := ()) (Or.inl rfl) (hP.sub [0] rfl) (hK.sub [] rfl) (hD.sub [0] (by decide) rfl) hS (Nat.le_of_ble_eq_true rfl) (Nat.le_of_ble_eq_true rfl) dX9_isKey_23
  refine lv_iload_n hx hb dX9_isKey_8 rfl (lv_at hl 2 rfl) ?_
  refine lv_iconst (v := 0) hx hb dX9_isKey_9 (by decide) ?_
  refine lv_bipush (v := 15) hx hb dX9_isKey_10 (by decide) ?_
  refine go_i (wr := [(h0, .inr (8, [.ref a0, .int tk, .ref a1, .int mm, .ref a2, .ref a3, .ref a4, .ref a5, .ref a6, .ref a7, .int wm, .int fa, .int th, .int se, .ref a8, .ref a9, .ref ab]))]) (tysr := [(cI, .int)]) hP hD hS hA hK [] [0] [0] rfl rfl (by decide) (by decide) rfl (va_runS (As := [.int w, .int 0, .int 15]) (rest := []) ⟨hx, hb, hml, hown, hts⟩ (m_in l D H.size w 0 15 ) (va_cwS 3 hts gX9_isKey_X9_in rfl rfl rfl (by decide +kernel) ⟨Nat.le_of_ble_eq_true rfl, Nat.le_of_ble_eq_true rfl⟩) (st_preS hP hD hK hNW [] [] rfl rfl (by decide) rfl) rfl rfl hl.1 rfl (lv_room (Nat.le_of_ble_eq_true rfl)) dX9_isKey_12 ⟨(Nat.le_of_ble_eq_true rfl), (Nat.le_of_ble_eq_true rfl)⟩) (fun r_3 u H locs hw hP hD hK hS => ?_)
  have hw : r_3 = wi w 0 15 := hw
  subst hw
  have hP : va_P D vwCl [(h0, .inr (8, [.ref a0, .int tk, .ref a1, .int mm, .ref a2, .ref a3, .ref a4, .ref a5, .ref a6, .ref a7, .int wm, .int fa, .int th, .int se, .ref a8, .ref a9, .ref ab]))] H := hP
  have hD : va_D A [(h0, .inr (8, [.ref a0, .int tk, .ref a1, .int mm, .ref a2, .ref a3, .ref a4, .ref a5, .ref a6, .ref a7, .int wm, .int fa, .int th, .int se, .ref a8, .ref a9, .ref ab]))] := hD
  have hK : va_K D vwCl [(cI, .int)] s := hK
  refine lv_if_eq (tgt := 22) hx hb dX9_isKey_15 (by decide) (fun c_4 => ?_) (fun c_4 => ?_)
  · refine lv_iconst (v := 0) hx hb dX9_isKey_22 (by decide) ?_
    exact ret_i hx hb hr hlocks rfl (u := ()) (Or.inl rfl) (hP.sub [0] rfl) (hK.sub [] rfl) (hD.sub [0] (by decide) rfl) hS (Nat.le_of_ble_eq_true rfl) (Nat.le_of_ble_eq_true rfl) dX9_isKey_23
  refine lv_iconst (v := 1) hx hb dX9_isKey_18 (by decide) ?_
  refine lv_goto (tgt := 23) hx hb dX9_isKey_19 (by decide) ?_
  exact ret_i hx hb hr hlocks rfl (u := ()) (Or.inr (by clear hml hsz hr hlocks; have : (0 : Int32).toInt = 0 := (by decide); have : (15 : Int32).toInt = 15 := (by decide); have := ti_wi1 c_2; have := ti_wi1 c_4; have u1 := ti_m1 (i := mm) (by omega); omega)) (hP.sub [0] rfl) (hK.sub [] rfl) (hD.sub [0] (by decide) rfl) hS (Nat.le_of_ble_eq_true rfl) (Nat.le_of_ble_eq_true rfl) dX9_isKey_23
set_option maxHeartbeats 4000000 in
set_option maxRecDepth 100000 in
theorem m_flipOf (l : Launch) (D : va_G) (sz : Nat) (cI : ClassId) (h0 : Nat) (a0 : Nat) (a1 : Nat) (a2 : Nat) (a3 : Nat) (a4 : Nat) (a5 : Nat) (a6 : Nat) (a7 : Nat) (a8 : Nat) (a9 : Nat) (ab : Nat) (tk : Int32) (mm : Int32) (wm : Int32) (fa : Int32) (th : Int32) (se : Int32) (g1 : Nat → Int32) (v : Int32) (hv : bi v 0 7) : Ci l yX9_flipOf wsX9_flipOf ({ frames := 1, cells := 0, slots := 0, locals := 22 } : Room) D [.ref h0, .int v] [(h0, .inr (8, [.ref a0, .int tk, .ref a1, .int mm, .ref a2, .ref a3, .ref a4, .ref a5, .ref a6, .ref a7, .int wm, .int fa, .int th, .int se, .ref a8, .ref a9, .ref ab])), (a1, .inl (cI, 80, .inl g1))] [(cI, .int)] sz (fun (r : Int32) => fun (_ : Unit) => True) (fun (_ : Unit) => [(h0, .inr (8, [.ref a0, .int tk, .ref a1, .int mm, .ref a2, .ref a3, .ref a4, .ref a5, .ref a6, .ref a7, .int wm, .int fa, .int th, .int se, .ref a8, .ref a9, .ref ab])), (a1, .inl (cI, 80, .inl g1))]) (fun (_ : Unit) => []) := by
  refine ct_i (cc := cX9_flipOf) (maxL := 2) (ret := (some .int)) (by decide) rfl (Nat.le_of_ble_eq_true rfl) ?_
  intro p e s m below meth c A ls H hx hb hr hts hown hml hlocks hin hA hS hP hK hD hNW hl hAe hsz
  have hl : lv_has ls 2 [(0, .ref h0), (1, .int v)] := hl
  refine lv_aload_n hx hb dX9_flipOf_0 rfl (lv_at hl 0 rfl) ?_
  refine lv_iload_n hx hb dX9_flipOf_1 rfl (lv_at hl 1 rfl) ?_
  refine lv_bipush (v := 8) hx hb dX9_flipOf_2 (by decide) ?_
  refine go_i (wr := []) (tysr := [(cI, .int)]) hP hD hS hA hK [0, 1] [] [0] rfl rfl (by decide) (by decide) rfl (va_runV (As := [.int v, .int 8]) (rest := []) ⟨hx, hb, hml, hown, hts⟩ (m_get l D H.size cI h0 a0 a1 a2 a3 a4 a5 a6 a7 a8 a9 ab tk mm wm fa th se g1 v 8 (by first | assumption | (clear hml hsz hr hlocks; omega) | decide) (by first | assumption | (clear hml hsz hr hlocks; omega) | decide)) (cwV 2 hts gX9_flipOf_X9_get rfl rfl rfl (by decide +kernel) ⟨Nat.le_of_ble_eq_true rfl, Nat.le_of_ble_eq_true rfl⟩) (st_preV (ci := 8) (q0 := 0) hP hD hK hNW [0, 1] [0] rfl rfl (by decide) rfl rfl rfl rfl) rfl rfl hl.1 rfl (lv_room (Nat.le_of_ble_eq_true rfl)) dX9_flipOf_4 ⟨(Nat.le_of_ble_eq_true rfl), (Nat.le_of_ble_eq_true rfl)⟩) (fun r_1 u H locs hw hP hD hK hS => ?_)
  have hw : r_1 = g1 (Int32.toNatClampNeg (10 * v + 8)) := hw
  subst hw
  have hP : va_P D vwCl [(h0, .inr (8, [.ref a0, .int tk, .ref a1, .int mm, .ref a2, .ref a3, .ref a4, .ref a5, .ref a6, .ref a7, .int wm, .int fa, .int th, .int se, .ref a8, .ref a9, .ref ab])), (a1, .inl (cI, 80, .inl g1))] H := hP
  have hD : va_D A [(h0, .inr (8, [.ref a0, .int tk, .ref a1, .int mm, .ref a2, .ref a3, .ref a4, .ref a5, .ref a6, .ref a7, .int wm, .int fa, .int th, .int se, .ref a8, .ref a9, .ref ab])), (a1, .inl (cI, 80, .inl g1))] := hD
  have hK : va_K D vwCl [(cI, .int)] s := hK
  refine lv_iconst (v := (-1)) hx hb dX9_flipOf_7 (by decide) ?_
  refine lv_icmp_ne (tgt := 15) hx hb dX9_flipOf_8 (by decide) (fun c_2 => ?_) (fun c_2 => ?_)
  · refine lv_iconst (v := 1) hx hb dX9_flipOf_15 (by decide) ?_
    refine lv_aload_n hx hb dX9_flipOf_16 rfl (lv_at hl 0 rfl) ?_
    refine lv_iload_n hx hb dX9_flipOf_17 rfl (lv_at hl 1 rfl) ?_
    refine lv_bipush (v := 8) hx hb dX9_flipOf_18 (by decide) ?_
    refine go_i (wr := []) (tysr := [(cI, .int)]) hP hD hS hA hK [0, 1] [] [0] rfl rfl (by decide) (by decide) rfl (va_runV (As := [.int v, .int 8]) (rest := [.int 1]) ⟨hx, hb, hml, hown, hts⟩ (m_get l D H.size cI h0 a0 a1 a2 a3 a4 a5 a6 a7 a8 a9 ab tk mm wm fa th se g1 v 8 (by first | assumption | (clear hml hsz hr hlocks; omega) | decide) (by first | assumption | (clear hml hsz hr hlocks; omega) | decide)) (cwV 2 hts gX9_flipOf_X9_get rfl rfl rfl (by decide +kernel) ⟨Nat.le_of_ble_eq_true rfl, Nat.le_of_ble_eq_true rfl⟩) (st_preV (ci := 8) (q0 := 0) hP hD hK hNW [0, 1] [0] rfl rfl (by decide) rfl rfl rfl rfl) rfl rfl hl.1 rfl (lv_room (Nat.le_of_ble_eq_true rfl)) dX9_flipOf_20 ⟨(Nat.le_of_ble_eq_true rfl), (Nat.le_of_ble_eq_true rfl)⟩) (fun r_3 u H locs hw hP hD hK hS => ?_)
    have hw : r_3 = g1 (Int32.toNatClampNeg (10 * v + 8)) := hw
    subst hw
    have hP : va_P D vwCl [(h0, .inr (8, [.ref a0, .int tk, .ref a1, .int mm, .ref a2, .ref a3, .ref a4, .ref a5, .ref a6, .ref a7, .int wm, .int fa, .int th, .int se, .ref a8, .ref a9, .ref ab])), (a1, .inl (cI, 80, .inl g1))] H := hP
    have hD : va_D A [(h0, .inr (8, [.ref a0, .int tk, .ref a1, .int mm, .ref a2, .ref a3, .ref a4, .ref a5, .ref a6, .ref a7, .int wm, .int fa, .int th, .int se, .ref a8, .ref a9, .ref ab])), (a1, .inl (cI, 80, .inl g1))] := hD
    have hK : va_K D vwCl [(cI, .int)] s := hK
    refine lv_ishl hx hb dX9_flipOf_23 ?_
    refine lv_topi (fun y_4 _ => ?_)
    exact ret_i hx hb hr hlocks rfl (u := ()) trivial (hP.sub [0, 1] rfl) (hK.sub [] rfl) (hD.sub [0, 1] (by decide) rfl) hS (Nat.le_of_ble_eq_true rfl) (Nat.le_of_ble_eq_true rfl) dX9_flipOf_24
  refine lv_iconst (v := 0) hx hb dX9_flipOf_11 (by decide) ?_
  refine lv_goto (tgt := 24) hx hb dX9_flipOf_12 (by decide) ?_
  exact ret_i hx hb hr hlocks rfl (u := ()) trivial (hP.sub [0, 1] rfl) (hK.sub [] rfl) (hD.sub [0, 1] (by decide) rfl) hS (Nat.le_of_ble_eq_true rfl) (Nat.le_of_ble_eq_true rfl) dX9_flipOf_24
theorem him_learn_X9 : ∀ w ∈ wsX90, w ∈ wsX9_learn := mem_pl [59, 60, 61, 62, 63, 64, 65, 66, 67, 68, 69, 70, 71, 72, 73, 74, 75] rfl
set_option maxHeartbeats 4000000 in
set_option maxRecDepth 100000 in
theorem m_learn (l : Launch) (D : va_G) (sz : Nat) (cI : ClassId) (h0 : Nat) (a0 : Nat) (a1 : Nat) (a2 : Nat) (a3 : Nat) (a4 : Nat) (a5 : Nat) (a6 : Nat) (a7 : Nat) (a8 : Nat) (a9 : Nat) (ab : Nat) (tk : Int32) (mm : Int32) (wm : Int32) (fa : Int32) (th : Int32) (se : Int32) (g0 : Nat → Int32) (g1 : Nat → Int32) (g2 : Nat → Int32) (v : Int32) (w : Int32) (hk : bi tk 0 120) (hmm : bi mm 0 8) : Ci l yX9_learn wsX9_learn ({ frames := 6, cells := 0, slots := 0, locals := 142 } : Room) D [.ref h0, .int v, .int w] [(h0, .inr (8, [.ref a0, .int tk, .ref a1, .int mm, .ref a2, .ref a3, .ref a4, .ref a5, .ref a6, .ref a7, .int wm, .int fa, .int th, .int se, .ref a8, .ref a9, .ref ab])), (a0, .inl (cI, 120, .inl g0)), (a1, .inl (cI, 80, .inl g1)), (a2, .inl (cI, 128, .inl g2))] [(cI, .int)] sz (fun (r : Int32) => fun (u9 : Int32 × Int32 × (Nat → Int32)) => match u9 with | (fa2, th2, g22) => True) (fun (u9 : Int32 × Int32 × (Nat → Int32)) => match u9 with | (fa2, th2, g22) => [(h0, .inr (8, [.ref a0, .int tk, .ref a1, .int mm, .ref a2, .ref a3, .ref a4, .ref a5, .ref a6, .ref a7, .int wm, .int fa2, .int th2, .int se, .ref a8, .ref a9, .ref ab])), (a0, .inl (cI, 120, .inl g0)), (a1, .inl (cI, 80, .inl g1)), (a2, .inl (cI, 128, .inl g22))]) (fun (u9 : Int32 × Int32 × (Nat → Int32)) => match u9 with | (fa2, th2, g22) => []) := by
  refine ct_i (cc := cX9_learn) (maxL := 5) (ret := (some .int)) (by decide) rfl (Nat.le_of_ble_eq_true rfl) ?_
  intro p e s m below meth c A ls H hx hb hr hts hown hml hlocks hin hA hS hP hK hD hNW hl hAe hsz
  have hl : lv_has ls 5 [(0, .ref h0), (1, .int v), (2, .int w)] := hl
  refine lv_aload_n hx hb dX9_learn_0 rfl (lv_at hl 0 rfl) ?_
  refine lv_iconst (v := 0) hx hb dX9_learn_1 (by decide) ?_
  refine va_put (D := D) (ci := 8) (v := .int 0) (ty := .int) (C := RX9) (T := TX9) (N := 17) hx hb hts him_learn_X9 tyX9 tyX9_ok nmX9 hown hK hP hD hS 0 rfl rfl 12 (by decide) (hts (.fieldLink RX9 43 "OneHandsetModel" "thrown" "I") (List.mem_of_getElem? (i := 1) rfl)) (fun _ h9 => h9) rfl (by decide +kernel) rfl rfl (Nat.le_of_ble_eq_true rfl) dX9_learn_2 (fun H locs hP hD hS => ?_)
  have hP : va_P D vwCl [(h0, .inr (8, [.ref a0, .int tk, .ref a1, .int mm, .ref a2, .ref a3, .ref a4, .ref a5, .ref a6, .ref a7, .int wm, .int fa, .int 0, .int se, .ref a8, .ref a9, .ref ab])), (a0, .inl (cI, 120, .inl g0)), (a1, .inl (cI, 80, .inl g1)), (a2, .inl (cI, 128, .inl g2))] H := hP
  have hD : va_D A [(h0, .inr (8, [.ref a0, .int tk, .ref a1, .int mm, .ref a2, .ref a3, .ref a4, .ref a5, .ref a6, .ref a7, .int wm, .int fa, .int 0, .int se, .ref a8, .ref a9, .ref ab])), (a0, .inl (cI, 120, .inl g0)), (a1, .inl (cI, 80, .inl g1)), (a2, .inl (cI, 128, .inl g2))] := hD
  refine lv_aload_n hx hb dX9_learn_5 rfl (lv_at hl 0 rfl) ?_
  refine lv_iload_n hx hb dX9_learn_6 rfl (lv_at hl 1 rfl) ?_
  refine lv_iload_n hx hb dX9_learn_7 rfl (lv_at hl 2 rfl) ?_
  refine go_i (wr := [(a0, .inl (cI, 120, .inl g0)), (a1, .inl (cI, 80, .inl g1)), (a2, .inl (cI, 128, .inl g2))]) (tysr := [(cI, .int)]) hP hD hS hA hK [0] [1, 2, 3] [0] rfl rfl (by decide) (by decide) rfl (va_runV (As := [.int v, .int w]) (rest := []) ⟨hx, hb, hml, hown, hts⟩ (m_isKey l D H.size cI h0 a0 a1 a2 a3 a4 a5 a6 a7 a8 a9 ab tk mm wm fa 0 se v w (by first | assumption | (clear hml hsz hr hlocks; omega) | decide)) (cwV 2 hts gX9_learn_X9_isKey rfl rfl rfl (by decide +kernel) ⟨Nat.le_of_ble_eq_true rfl, Nat.le_of_ble_eq_true rfl⟩) (st_preV (ci := 8) (q0 := 0) hP hD hK hNW [0] [0] rfl rfl (by decide) rfl rfl rfl rfl) rfl rfl hl.1 rfl (lv_room (Nat.le_of_ble_eq_true rfl)) dX9_learn_8 ⟨(Nat.le_of_ble_eq_true rfl), (Nat.le_of_ble_eq_true rfl)⟩) (fun r_1 u H locs hw hP hD hK hS => ?_)
  have hw : r_1 = 0 ∨ (0 ≤ v.toInt ∧ v.toInt < mm.toInt ∧ bi w 0 15) := hw
  have hw_2 := hw
  have hP : va_P D vwCl [(a0, .inl (cI, 120, .inl g0)), (a1, .inl (cI, 80, .inl g1)), (a2, .inl (cI, 128, .inl g2)), (h0, .inr (8, [.ref a0, .int tk, .ref a1, .int mm, .ref a2, .ref a3, .ref a4, .ref a5, .ref a6, .ref a7, .int wm, .int fa, .int 0, .int se, .ref a8, .ref a9, .ref ab]))] H := hP
  have hD : va_D A [(a0, .inl (cI, 120, .inl g0)), (a1, .inl (cI, 80, .inl g1)), (a2, .inl (cI, 128, .inl g2)), (h0, .inr (8, [.ref a0, .int tk, .ref a1, .int mm, .ref a2, .ref a3, .ref a4, .ref a5, .ref a6, .ref a7, .int wm, .int fa, .int 0, .int se, .ref a8, .ref a9, .ref ab]))] := hD
  have hK : va_K D vwCl [(cI, .int)] s := hK
  refine lv_if_ne (tgt := 16) hx hb dX9_learn_11 (by decide) (fun c_3 => ?_) (fun c_3 => ?_)
  · have hkx_4 : 0 ≤ v.toInt ∧ v.toInt < mm.toInt ∧ bi w 0 15 := (hw_2).resolve_left c_3
    have hv7_5 : bi v 0 7 := (by omega)
    have hw15_6 : bi w 0 15 := (by omega)
    refine lv_aload_n hx hb dX9_learn_16 rfl (lv_at hl 0 rfl) ?_
    refine lv_iload_n hx hb dX9_learn_17 rfl (lv_at hl 1 rfl) ?_
    refine go_i (wr := [(a2, .inl (cI, 128, .inl g2))]) (tysr := [(cI, .int)]) hP hD hS hA hK [3, 0, 1] [2] [0] rfl rfl (by decide) (by decide) rfl (va_runV (As := [.int v]) (rest := []) ⟨hx, hb, hml, hown, hts⟩ (m_readBy l D H.size cI h0 a0 a1 a2 a3 a4 a5 a6 a7 a8 a9 ab tk mm wm fa 0 se g0 g1 v (by first | assumption | (clear hml hsz hr hlocks; omega) | decide) (by first | assumption | (clear hml hsz hr hlocks; omega) | decide)) (cwV 1 hts gX9_learn_X9_readBy rfl rfl rfl (by decide +kernel) ⟨Nat.le_of_ble_eq_true rfl, Nat.le_of_ble_eq_true rfl⟩) (st_preV (ci := 8) (q0 := 3) hP hD hK hNW [3, 0, 1] [0] rfl rfl (by decide) rfl rfl rfl rfl) rfl rfl hl.1 rfl (lv_room (Nat.le_of_ble_eq_true rfl)) dX9_learn_18 ⟨(Nat.le_of_ble_eq_true rfl), (Nat.le_of_ble_eq_true rfl)⟩) (fun r_7 u H locs hw hP hD hK hS => ?_)
    obtain ⟨fa_8, rfl⟩ : ∃ z, z = u := ⟨_, rfl⟩
    have hP : va_P D vwCl [(a2, .inl (cI, 128, .inl g2)), (h0, .inr (8, [.ref a0, .int tk, .ref a1, .int mm, .ref a2, .ref a3, .ref a4, .ref a5, .ref a6, .ref a7, .int wm, .int fa_8, .int 0, .int se, .ref a8, .ref a9, .ref ab])), (a0, .inl (cI, 120, .inl g0)), (a1, .inl (cI, 80, .inl g1))] H := hP
    have hD : va_D A [(a2, .inl (cI, 128, .inl g2)), (h0, .inr (8, [.ref a0, .int tk, .ref a1, .int mm, .ref a2, .ref a3, .ref a4, .ref a5, .ref a6, .ref a7, .int wm, .int fa_8, .int 0, .int se, .ref a8, .ref a9, .ref ab])), (a0, .inl (cI, 120, .inl g0)), (a1, .inl (cI, 80, .inl g1))] := hD
    have hK : va_K D vwCl [(cI, .int)] s := hK
    refine lv_istore_n (lv' := [(3, .int r_7), (0, .ref h0), (1, .int v), (2, .int w)]) hx hb dX9_learn_21 rfl hl (by decide) rfl (fun ls hl => ?_)
    refine lv_iload_n hx hb dX9_learn_22 rfl (lv_at hl 0 rfl) ?_
    refine lv_iconst (v := (-1)) hx hb dX9_learn_23 (by decide) ?_
    refine lv_icmp_ne (tgt := 29) hx hb dX9_learn_24 (by decide) (fun c_9 => ?_) (fun c_9 => ?_)
    · refine lv_iload_n hx hb dX9_learn_29 rfl (lv_at hl 0 rfl) ?_
      refine lv_aload_n hx hb dX9_learn_30 rfl (lv_at hl 1 rfl) ?_
      refine lv_iload_n hx hb dX9_learn_31 rfl (lv_at hl 2 rfl) ?_
      refine go_i (wr := [(a2, .inl (cI, 128, .inl g2)), (a0, .inl (cI, 120, .inl g0))]) (tysr := [(cI, .int)]) hP hD hS hA hK [1, 3] [0, 2] [0] rfl rfl (by decide) (by decide) rfl (va_runV (As := [.int v]) (rest := [.int r_7]) ⟨hx, hb, hml, hown, hts⟩ (m_flipOf l D H.size cI h0 a0 a1 a2 a3 a4 a5 a6 a7 a8 a9 ab tk mm wm fa_8 0 se g1 v (by first | assumption | (clear hml hsz hr hlocks; omega) | decide)) (cwV 1 hts gX9_learn_X9_flipOf rfl rfl rfl (by decide +kernel) ⟨Nat.le_of_ble_eq_true rfl, Nat.le_of_ble_eq_true rfl⟩) (st_preV (ci := 8) (q0 := 1) hP hD hK hNW [1, 3] [0] rfl rfl (by decide) rfl rfl rfl rfl) rfl rfl hl.1 rfl (lv_room (Nat.le_of_ble_eq_true rfl)) dX9_learn_32 ⟨(Nat.le_of_ble_eq_true rfl), (Nat.le_of_ble_eq_true rfl)⟩) (fun r_10 u H locs hw hP hD hK hS => ?_)
      have hP : va_P D vwCl [(a2, .inl (cI, 128, .inl g2)), (a0, .inl (cI, 120, .inl g0)), (h0, .inr (8, [.ref a0, .int tk, .ref a1, .int mm, .ref a2, .ref a3, .ref a4, .ref a5, .ref a6, .ref a7, .int wm, .int fa_8, .int 0, .int se, .ref a8, .ref a9, .ref ab])), (a1, .inl (cI, 80, .inl g1))] H := hP
      have hD : va_D A [(a2, .inl (cI, 128, .inl g2)), (a0, .inl (cI, 120, .inl g0)), (h0, .inr (8, [.ref a0, .int tk, .ref a1, .int mm, .ref a2, .ref a3, .ref a4, .ref a5, .ref a6, .ref a7, .int wm, .int fa_8, .int 0, .int se, .ref a8, .ref a9, .ref ab])), (a1, .inl (cI, 80, .inl g1))] := hD
      have hK : va_K D vwCl [(cI, .int)] s := hK
      refine lv_iconst (v := (-1)) hx hb dX9_learn_35 (by decide) ?_
      refine lv_ixor hx hb dX9_learn_36 ?_
      refine lv_iand hx hb dX9_learn_37 ?_
      refine lv_istore_n (lv' := [(3, .int (r_7 &&& (r_10 ^^^ (-1)))), (0, .ref h0), (1, .int v), (2, .int w)]) hx hb dX9_learn_38 rfl hl (by decide) rfl (fun ls hl => ?_)
      refine lv_aload_n hx hb dX9_learn_39 rfl (lv_at hl 1 rfl) ?_
      refine va_get (D := D) (ci := 8) (v := .ref a2) (C := RX9) (T := TX9) (N := 17) hx hb hts him_learn_X9 hown hK hP 2 rfl rfl 4 (by decide) (hts (.fieldLink RX9 16 "OneHandsetModel" "keys" "[I") (List.mem_of_getElem? (i := 2) rfl)) (fun _ h9 => h9) rfl dX9_learn_40 ?_
      refine lv_bipush (v := 16) hx hb dX9_learn_43 (by decide) ?_
      refine lv_iload_n hx hb dX9_learn_45 rfl (lv_at hl 2 rfl) ?_
      refine lv_imul hx hb dX9_learn_46 ?_
      refine lv_iload_n hx hb dX9_learn_47 rfl (lv_at hl 3 rfl) ?_
      refine lv_iadd hx hb dX9_learn_48 ?_
      refine va_iald hx hb hK hP 0 0 rfl rfl (by clear hml hsz hr hlocks; have : ((-1) : Int32).toInt = -1 := (by decide); have : (0 : Int32).toInt = 0 := (by decide); have := ti_ne c_3; have := ti_ne c_9; have u3 := ix16 (m := v) (w := w) hv7_5 hw15_6; exact vp_in_iff.mpr (by omega)) dX9_learn_49 ?_
      refine lv_istore (lv' := [(4, .int (g2 (Int32.toNatClampNeg ((16 * v) + w)))), (3, .int (r_7 &&& (r_10 ^^^ (-1)))), (0, .ref h0), (1, .int v), (2, .int w)]) hx hb dX9_learn_50 hl (by decide) rfl (fun ls hl => ?_)
      refine lv_iload hx hb dX9_learn_52 (lv_at hl 0 rfl) ?_
      refine lv_iconst (v := (-1)) hx hb dX9_learn_54 (by decide) ?_
      refine lv_icmp_eq (tgt := 66) hx hb dX9_learn_55 (by decide) (fun c_11 => ?_) (fun c_11 => ?_)
      · refine lv_aload_n hx hb dX9_learn_66 rfl (lv_at hl 2 rfl) ?_
        refine va_get (D := D) (ci := 8) (v := .ref a2) (C := RX9) (T := TX9) (N := 17) hx hb hts him_learn_X9 hown hK hP 2 rfl rfl 4 (by decide) (hts (.fieldLink RX9 16 "OneHandsetModel" "keys" "[I") (List.mem_of_getElem? (i := 2) rfl)) (fun _ h9 => h9) rfl dX9_learn_67 ?_
        refine lv_bipush (v := 16) hx hb dX9_learn_70 (by decide) ?_
        refine lv_iload_n hx hb dX9_learn_72 rfl (lv_at hl 3 rfl) ?_
        refine lv_imul hx hb dX9_learn_73 ?_
        refine lv_iload_n hx hb dX9_learn_74 rfl (lv_at hl 4 rfl) ?_
        refine lv_iadd hx hb dX9_learn_75 ?_
        refine lv_iload_n hx hb dX9_learn_76 rfl (lv_at hl 1 rfl) ?_
        refine va_iast hx hb hK hP hD hS 0 0 rfl rfl (by clear hml hsz hr hlocks; have : ((-1) : Int32).toInt = -1 := (by decide); have : (0 : Int32).toInt = 0 := (by decide); have := ti_ne c_3; have := ti_ne c_9; have := ti_eq c_11; have u3 := ix16 (m := v) (w := w) hv7_5 hw15_6; exact vp_in_iff.mpr (by omega)) dX9_learn_77 (fun H locs hP hD hS => ?_)
        have hP : va_P D vwCl [(a2, .inl (cI, 128, .inl (upd g2 (Int32.toNatClampNeg ((16 * v) + w)) (r_7 &&& (r_10 ^^^ (-1)))))), (a0, .inl (cI, 120, .inl g0)), (h0, .inr (8, [.ref a0, .int tk, .ref a1, .int mm, .ref a2, .ref a3, .ref a4, .ref a5, .ref a6, .ref a7, .int wm, .int fa_8, .int 0, .int se, .ref a8, .ref a9, .ref ab])), (a1, .inl (cI, 80, .inl g1))] H := hP
        have hD : va_D A [(a2, .inl (cI, 128, .inl (upd g2 (Int32.toNatClampNeg ((16 * v) + w)) (r_7 &&& (r_10 ^^^ (-1)))))), (a0, .inl (cI, 120, .inl g0)), (h0, .inr (8, [.ref a0, .int tk, .ref a1, .int mm, .ref a2, .ref a3, .ref a4, .ref a5, .ref a6, .ref a7, .int wm, .int fa_8, .int 0, .int se, .ref a8, .ref a9, .ref ab])), (a1, .inl (cI, 80, .inl g1))] := hD
        refine lv_iload_n hx hb dX9_learn_78 rfl (lv_at hl 1 rfl) ?_
        exact ret_i hx hb hr hlocks rfl (u := (fa_8, 0, upd g2 (Int32.toNatClampNeg ((16 * v) + w)) (r_7 &&& (r_10 ^^^ (-1))))) trivial (hP.sub [2, 1, 3, 0] rfl) (hK.sub [] rfl) (hD.sub [2, 1, 3, 0] (by decide) rfl) hS (Nat.le_of_ble_eq_true rfl) (Nat.le_of_ble_eq_true rfl) dX9_learn_79
      refine lv_iload hx hb dX9_learn_58 (lv_at hl 0 rfl) ?_
      refine lv_iload_n hx hb dX9_learn_60 rfl (lv_at hl 1 rfl) ?_
      refine lv_icmp_eq (tgt := 66) hx hb dX9_learn_61 (by decide) (fun c_12 => ?_) (fun c_12 => ?_)
      · refine lv_aload_n hx hb dX9_learn_66 rfl (lv_at hl 2 rfl) ?_
        refine va_get (D := D) (ci := 8) (v := .ref a2) (C := RX9) (T := TX9) (N := 17) hx hb hts him_learn_X9 hown hK hP 2 rfl rfl 4 (by decide) (hts (.fieldLink RX9 16 "OneHandsetModel" "keys" "[I") (List.mem_of_getElem? (i := 2) rfl)) (fun _ h9 => h9) rfl dX9_learn_67 ?_
        refine lv_bipush (v := 16) hx hb dX9_learn_70 (by decide) ?_
        refine lv_iload_n hx hb dX9_learn_72 rfl (lv_at hl 3 rfl) ?_
        refine lv_imul hx hb dX9_learn_73 ?_
        refine lv_iload_n hx hb dX9_learn_74 rfl (lv_at hl 4 rfl) ?_
        refine lv_iadd hx hb dX9_learn_75 ?_
        refine lv_iload_n hx hb dX9_learn_76 rfl (lv_at hl 1 rfl) ?_
        refine va_iast hx hb hK hP hD hS 0 0 rfl rfl (by clear hml hsz hr hlocks; have : ((-1) : Int32).toInt = -1 := (by decide); have : (0 : Int32).toInt = 0 := (by decide); have := ti_ne c_3; have := ti_ne c_9; have := ti_ne c_11; have := ti_eq c_12; have u3 := ix16 (m := v) (w := w) hv7_5 hw15_6; exact vp_in_iff.mpr (by omega)) dX9_learn_77 (fun H locs hP hD hS => ?_)
        have hP : va_P D vwCl [(a2, .inl (cI, 128, .inl (upd g2 (Int32.toNatClampNeg ((16 * v) + w)) (r_7 &&& (r_10 ^^^ (-1)))))), (a0, .inl (cI, 120, .inl g0)), (h0, .inr (8, [.ref a0, .int tk, .ref a1, .int mm, .ref a2, .ref a3, .ref a4, .ref a5, .ref a6, .ref a7, .int wm, .int fa_8, .int 0, .int se, .ref a8, .ref a9, .ref ab])), (a1, .inl (cI, 80, .inl g1))] H := hP
        have hD : va_D A [(a2, .inl (cI, 128, .inl (upd g2 (Int32.toNatClampNeg ((16 * v) + w)) (r_7 &&& (r_10 ^^^ (-1)))))), (a0, .inl (cI, 120, .inl g0)), (h0, .inr (8, [.ref a0, .int tk, .ref a1, .int mm, .ref a2, .ref a3, .ref a4, .ref a5, .ref a6, .ref a7, .int wm, .int fa_8, .int 0, .int se, .ref a8, .ref a9, .ref ab])), (a1, .inl (cI, 80, .inl g1))] := hD
        refine lv_iload_n hx hb dX9_learn_78 rfl (lv_at hl 1 rfl) ?_
        exact ret_i hx hb hr hlocks rfl (u := (fa_8, 0, upd g2 (Int32.toNatClampNeg ((16 * v) + w)) (r_7 &&& (r_10 ^^^ (-1))))) trivial (hP.sub [2, 1, 3, 0] rfl) (hK.sub [] rfl) (hD.sub [2, 1, 3, 0] (by decide) rfl) hS (Nat.le_of_ble_eq_true rfl) (Nat.le_of_ble_eq_true rfl) dX9_learn_79
      refine lv_iconst (v := (-1)) hx hb dX9_learn_64 (by decide) ?_
      exact ret_i hx hb hr hlocks rfl (u := (fa_8, 0, g2)) trivial (hP.sub [2, 1, 3, 0] rfl) (hK.sub [] rfl) (hD.sub [2, 1, 3, 0] (by decide) rfl) hS (Nat.le_of_ble_eq_true rfl) (Nat.le_of_ble_eq_true rfl) dX9_learn_65
    refine lv_iconst (v := (-1)) hx hb dX9_learn_27 (by decide) ?_
    exact ret_i hx hb hr hlocks rfl (u := (fa_8, 0, g2)) trivial (hP.sub [1, 2, 3, 0] rfl) (hK.sub [] rfl) (hD.sub [1, 2, 3, 0] (by decide) rfl) hS (Nat.le_of_ble_eq_true rfl) (Nat.le_of_ble_eq_true rfl) dX9_learn_28
  refine lv_iconst (v := (-1)) hx hb dX9_learn_14 (by decide) ?_
  exact ret_i hx hb hr hlocks rfl (u := (fa, 0, g2)) trivial (hP.sub [3, 0, 1, 2] rfl) (hK.sub [] rfl) (hD.sub [3, 0, 1, 2] (by decide) rfl) hS (Nat.le_of_ble_eq_true rfl) (Nat.le_of_ble_eq_true rfl) dX9_learn_15
theorem him_forget_X9 : ∀ w ∈ wsX90, w ∈ wsX9_forget := mem_pl [16, 17, 18, 19, 20, 21, 22, 23, 24, 25, 26, 27, 28, 29, 30, 31, 32] rfl
set_option maxHeartbeats 4000000 in
set_option maxRecDepth 100000 in
theorem m_forget (l : Launch) (D : va_G) (sz : Nat) (cI : ClassId) (h0 : Nat) (a0 : Nat) (a1 : Nat) (a2 : Nat) (a3 : Nat) (a4 : Nat) (a5 : Nat) (a6 : Nat) (a7 : Nat) (a8 : Nat) (a9 : Nat) (ab : Nat) (tk : Int32) (mm : Int32) (wm : Int32) (fa : Int32) (th : Int32) (se : Int32) (g2 : Nat → Int32) (v : Int32) (w : Int32) (hmm : bi mm 0 8) : Ci l yX9_forget wsX9_forget ({ frames := 3, cells := 0, slots := 0, locals := 65 } : Room) D [.ref h0, .int v, .int w] [(h0, .inr (8, [.ref a0, .int tk, .ref a1, .int mm, .ref a2, .ref a3, .ref a4, .ref a5, .ref a6, .ref a7, .int wm, .int fa, .int th, .int se, .ref a8, .ref a9, .ref ab])), (a2, .inl (cI, 128, .inl g2))] [(cI, .int)] sz (fun (r : Int32) => fun (u9 : Int32 × (Nat → Int32)) => match u9 with | (th2, g22) => True) (fun (u9 : Int32 × (Nat → Int32)) => match u9 with | (th2, g22) => [(h0, .inr (8, [.ref a0, .int tk, .ref a1, .int mm, .ref a2, .ref a3, .ref a4, .ref a5, .ref a6, .ref a7, .int wm, .int fa, .int th2, .int se, .ref a8, .ref a9, .ref ab])), (a2, .inl (cI, 128, .inl g22))]) (fun (u9 : Int32 × (Nat → Int32)) => match u9 with | (th2, g22) => []) := by
  refine ct_i (cc := cX9_forget) (maxL := 3) (ret := (some .boolean)) (by decide) rfl (Nat.le_of_ble_eq_true rfl) ?_
  intro p e s m below meth c A ls H hx hb hr hts hown hml hlocks hin hA hS hP hK hD hNW hl hAe hsz
  have hl : lv_has ls 3 [(0, .ref h0), (1, .int v), (2, .int w)] := hl
  refine lv_aload_n hx hb dX9_forget_0 rfl (lv_at hl 0 rfl) ?_
  refine lv_iconst (v := 0) hx hb dX9_forget_1 (by decide) ?_
  refine va_put (D := D) (ci := 8) (v := .int 0) (ty := .int) (C := RX9) (T := TX9) (N := 17) hx hb hts him_forget_X9 tyX9 tyX9_ok nmX9 hown hK hP hD hS 0 rfl rfl 12 (by decide) (hts (.fieldLink RX9 43 "OneHandsetModel" "thrown" "I") (List.mem_of_getElem? (i := 1) rfl)) (fun _ h9 => h9) rfl (by decide +kernel) rfl rfl (Nat.le_of_ble_eq_true rfl) dX9_forget_2 (fun H locs hP hD hS => ?_)
  have hP : va_P D vwCl [(h0, .inr (8, [.ref a0, .int tk, .ref a1, .int mm, .ref a2, .ref a3, .ref a4, .ref a5, .ref a6, .ref a7, .int wm, .int fa, .int 0, .int se, .ref a8, .ref a9, .ref ab])), (a2, .inl (cI, 128, .inl g2))] H := hP
  have hD : va_D A [(h0, .inr (8, [.ref a0, .int tk, .ref a1, .int mm, .ref a2, .ref a3, .ref a4, .ref a5, .ref a6, .ref a7, .int wm, .int fa, .int 0, .int se, .ref a8, .ref a9, .ref ab])), (a2, .inl (cI, 128, .inl g2))] := hD
  refine lv_aload_n hx hb dX9_forget_5 rfl (lv_at hl 0 rfl) ?_
  refine lv_iload_n hx hb dX9_forget_6 rfl (lv_at hl 1 rfl) ?_
  refine lv_iload_n hx hb dX9_forget_7 rfl (lv_at hl 2 rfl) ?_
  refine go_i (wr := [(a2, .inl (cI, 128, .inl g2))]) (tysr := [(cI, .int)]) hP hD hS hA hK [0] [1] [0] rfl rfl (by decide) (by decide) rfl (va_runV (As := [.int v, .int w]) (rest := []) ⟨hx, hb, hml, hown, hts⟩ (m_isKey l D H.size cI h0 a0 a1 a2 a3 a4 a5 a6 a7 a8 a9 ab tk mm wm fa 0 se v w (by first | assumption | (clear hml hsz hr hlocks; omega) | decide)) (cwV 2 hts gX9_forget_X9_isKey rfl rfl rfl (by decide +kernel) ⟨Nat.le_of_ble_eq_true rfl, Nat.le_of_ble_eq_true rfl⟩) (st_preV (ci := 8) (q0 := 0) hP hD hK hNW [0] [0] rfl rfl (by decide) rfl rfl rfl rfl) rfl rfl hl.1 rfl (lv_room (Nat.le_of_ble_eq_true rfl)) dX9_forget_8 ⟨(Nat.le_of_ble_eq_true rfl), (Nat.le_of_ble_eq_true rfl)⟩) (fun r_1 u H locs hw hP hD hK hS => ?_)
  have hw : r_1 = 0 ∨ (0 ≤ v.toInt ∧ v.toInt < mm.toInt ∧ bi w 0 15) := hw
  have hw_2 := hw
  have hP : va_P D vwCl [(a2, .inl (cI, 128, .inl g2)), (h0, .inr (8, [.ref a0, .int tk, .ref a1, .int mm, .ref a2, .ref a3, .ref a4, .ref a5, .ref a6, .ref a7, .int wm, .int fa, .int 0, .int se, .ref a8, .ref a9, .ref ab]))] H := hP
  have hD : va_D A [(a2, .inl (cI, 128, .inl g2)), (h0, .inr (8, [.ref a0, .int tk, .ref a1, .int mm, .ref a2, .ref a3, .ref a4, .ref a5, .ref a6, .ref a7, .int wm, .int fa, .int 0, .int se, .ref a8, .ref a9, .ref ab]))] := hD
  have hK : va_K D vwCl [(cI, .int)] s := hK
  refine lv_if_eq (tgt := 29) hx hb dX9_forget_11 (by decide) (fun c_3 => ?_) (fun c_3 => ?_)
  · refine lv_iconst (v := 0) hx hb dX9_forget_29 (by decide) ?_
    exact ret_i hx hb hr hlocks rfl (u := (0, g2)) trivial (hP.sub [1, 0] rfl) (hK.sub [] rfl) (hD.sub [1, 0] (by decide) rfl) hS (Nat.le_of_ble_eq_true rfl) (Nat.le_of_ble_eq_true rfl) dX9_forget_30
  have hkx_4 : 0 ≤ v.toInt ∧ v.toInt < mm.toInt ∧ bi w 0 15 := (hw_2).resolve_left c_3
  have hv7_5 : bi v 0 7 := (by omega)
  have hw15_6 : bi w 0 15 := (by omega)
  refine lv_aload_n hx hb dX9_forget_14 rfl (lv_at hl 0 rfl) ?_
  refine va_get (D := D) (ci := 8) (v := .ref a2) (C := RX9) (T := TX9) (N := 17) hx hb hts him_forget_X9 hown hK hP 1 rfl rfl 4 (by decide) (hts (.fieldLink RX9 16 "OneHandsetModel" "keys" "[I") (List.mem_of_getElem? (i := 2) rfl)) (fun _ h9 => h9) rfl dX9_forget_15 ?_
  refine lv_bipush (v := 16) hx hb dX9_forget_18 (by decide) ?_
  refine lv_iload_n hx hb dX9_forget_20 rfl (lv_at hl 1 rfl) ?_
  refine lv_imul hx hb dX9_forget_21 ?_
  refine lv_iload_n hx hb dX9_forget_22 rfl (lv_at hl 2 rfl) ?_
  refine lv_iadd hx hb dX9_forget_23 ?_
  refine va_iald hx hb hK hP 0 0 rfl rfl (by clear hml hsz hr hlocks; have : (0 : Int32).toInt = 0 := (by decide); have := ti_ne c_3; have u3 := ix16 (m := v) (w := w) hv7_5 hw15_6; exact vp_in_iff.mpr (by omega)) dX9_forget_24 ?_
  refine lv_iconst (v := (-1)) hx hb dX9_forget_25 (by decide) ?_
  refine lv_icmp_ne (tgt := 31) hx hb dX9_forget_26 (by decide) (fun c_7 => ?_) (fun c_7 => ?_)
  · refine lv_aload_n hx hb dX9_forget_31 rfl (lv_at hl 0 rfl) ?_
    refine va_get (D := D) (ci := 8) (v := .ref a2) (C := RX9) (T := TX9) (N := 17) hx hb hts him_forget_X9 hown hK hP 1 rfl rfl 4 (by decide) (hts (.fieldLink RX9 16 "OneHandsetModel" "keys" "[I") (List.mem_of_getElem? (i := 2) rfl)) (fun _ h9 => h9) rfl dX9_forget_32 ?_
    refine lv_bipush (v := 16) hx hb dX9_forget_35 (by decide) ?_
    refine lv_iload_n hx hb dX9_forget_37 rfl (lv_at hl 1 rfl) ?_
    refine lv_imul hx hb dX9_forget_38 ?_
    refine lv_iload_n hx hb dX9_forget_39 rfl (lv_at hl 2 rfl) ?_
    refine lv_iadd hx hb dX9_forget_40 ?_
    refine lv_iconst (v := (-1)) hx hb dX9_forget_41 (by decide) ?_
    refine va_iast hx hb hK hP hD hS 0 0 rfl rfl (by clear hml hsz hr hlocks; have : ((-1) : Int32).toInt = -1 := (by decide); have : (0 : Int32).toInt = 0 := (by decide); have := ti_ne c_3; have := ti_ne c_7; have u3 := ix16 (m := v) (w := w) hv7_5 hw15_6; exact vp_in_iff.mpr (by omega)) dX9_forget_42 (fun H locs hP hD hS => ?_)
    have hP : va_P D vwCl [(a2, .inl (cI, 128, .inl (upd g2 (Int32.toNatClampNeg ((16 * v) + w)) (-1)))), (h0, .inr (8, [.ref a0, .int tk, .ref a1, .int mm, .ref a2, .ref a3, .ref a4, .ref a5, .ref a6, .ref a7, .int wm, .int fa, .int 0, .int se, .ref a8, .ref a9, .ref ab]))] H := hP
    have hD : va_D A [(a2, .inl (cI, 128, .inl (upd g2 (Int32.toNatClampNeg ((16 * v) + w)) (-1)))), (h0, .inr (8, [.ref a0, .int tk, .ref a1, .int mm, .ref a2, .ref a3, .ref a4, .ref a5, .ref a6, .ref a7, .int wm, .int fa, .int 0, .int se, .ref a8, .ref a9, .ref ab]))] := hD
    refine lv_iconst (v := 1) hx hb dX9_forget_43 (by decide) ?_
    exact ret_i hx hb hr hlocks rfl (u := (0, upd g2 (Int32.toNatClampNeg ((16 * v) + w)) (-1))) trivial (hP.sub [1, 0] rfl) (hK.sub [] rfl) (hD.sub [1, 0] (by decide) rfl) hS (Nat.le_of_ble_eq_true rfl) (Nat.le_of_ble_eq_true rfl) dX9_forget_44
  refine lv_iconst (v := 0) hx hb dX9_forget_29 (by decide) ?_
  exact ret_i hx hb hr hlocks rfl (u := (0, g2)) trivial (hP.sub [1, 0] rfl) (hK.sub [] rfl) (hD.sub [1, 0] (by decide) rfl) hS (Nat.le_of_ble_eq_true rfl) (Nat.le_of_ble_eq_true rfl) dX9_forget_30
theorem him_key_X9 : ∀ w ∈ wsX90, w ∈ wsX9_key := mem_pl [16, 17, 18, 19, 20, 21, 22, 23, 24, 25, 26, 27, 28, 29, 30, 31, 32] rfl
set_option maxHeartbeats 4000000 in
set_option maxRecDepth 100000 in
theorem m_key (l : Launch) (D : va_G) (sz : Nat) (cI : ClassId) (h0 : Nat) (a0 : Nat) (a1 : Nat) (a2 : Nat) (a3 : Nat) (a4 : Nat) (a5 : Nat) (a6 : Nat) (a7 : Nat) (a8 : Nat) (a9 : Nat) (ab : Nat) (tk : Int32) (mm : Int32) (wm : Int32) (fa : Int32) (th : Int32) (se : Int32) (g2 : Nat → Int32) (v : Int32) (w : Int32) (hmm : bi mm 0 8) : Ci l yX9_key wsX9_key ({ frames := 3, cells := 0, slots := 0, locals := 65 } : Room) D [.ref h0, .int v, .int w] [(h0, .inr (8, [.ref a0, .int tk, .ref a1, .int mm, .ref a2, .ref a3, .ref a4, .ref a5, .ref a6, .ref a7, .int wm, .int fa, .int th, .int se, .ref a8, .ref a9, .ref ab])), (a2, .inl (cI, 128, .inl g2))] [(cI, .int)] sz (fun (r : Int32) => fun (th2 : Int32) => True) (fun (th2 : Int32) => [(h0, .inr (8, [.ref a0, .int tk, .ref a1, .int mm, .ref a2, .ref a3, .ref a4, .ref a5, .ref a6, .ref a7, .int wm, .int fa, .int th2, .int se, .ref a8, .ref a9, .ref ab])), (a2, .inl (cI, 128, .inl g2))]) (fun (th2 : Int32) => []) := by
  refine ct_i (cc := cX9_key) (maxL := 3) (ret := (some .int)) (by decide) rfl (Nat.le_of_ble_eq_true rfl) ?_
  intro p e s m below meth c A ls H hx hb hr hts hown hml hlocks hin hA hS hP hK hD hNW hl hAe hsz
  have hl : lv_has ls 3 [(0, .ref h0), (1, .int v), (2, .int w)] := hl
  refine lv_aload_n hx hb dX9_key_0 rfl (lv_at hl 0 rfl) ?_
  refine lv_iconst (v := 0) hx hb dX9_key_1 (by decide) ?_
  refine va_put (D := D) (ci := 8) (v := .int 0) (ty := .int) (C := RX9) (T := TX9) (N := 17) hx hb hts him_key_X9 tyX9 tyX9_ok nmX9 hown hK hP hD hS 0 rfl rfl 12 (by decide) (hts (.fieldLink RX9 43 "OneHandsetModel" "thrown" "I") (List.mem_of_getElem? (i := 1) rfl)) (fun _ h9 => h9) rfl (by decide +kernel) rfl rfl (Nat.le_of_ble_eq_true rfl) dX9_key_2 (fun H locs hP hD hS => ?_)
  have hP : va_P D vwCl [(h0, .inr (8, [.ref a0, .int tk, .ref a1, .int mm, .ref a2, .ref a3, .ref a4, .ref a5, .ref a6, .ref a7, .int wm, .int fa, .int 0, .int se, .ref a8, .ref a9, .ref ab])), (a2, .inl (cI, 128, .inl g2))] H := hP
  have hD : va_D A [(h0, .inr (8, [.ref a0, .int tk, .ref a1, .int mm, .ref a2, .ref a3, .ref a4, .ref a5, .ref a6, .ref a7, .int wm, .int fa, .int 0, .int se, .ref a8, .ref a9, .ref ab])), (a2, .inl (cI, 128, .inl g2))] := hD
  refine lv_aload_n hx hb dX9_key_5 rfl (lv_at hl 0 rfl) ?_
  refine lv_iload_n hx hb dX9_key_6 rfl (lv_at hl 1 rfl) ?_
  refine lv_iload_n hx hb dX9_key_7 rfl (lv_at hl 2 rfl) ?_
  refine go_i (wr := [(a2, .inl (cI, 128, .inl g2))]) (tysr := [(cI, .int)]) hP hD hS hA hK [0] [1] [0] rfl rfl (by decide) (by decide) rfl (va_runV (As := [.int v, .int w]) (rest := []) ⟨hx, hb, hml, hown, hts⟩ (m_isKey l D H.size cI h0 a0 a1 a2 a3 a4 a5 a6 a7 a8 a9 ab tk mm wm fa 0 se v w (by first | assumption | (clear hml hsz hr hlocks; omega) | decide)) (cwV 2 hts gX9_key_X9_isKey rfl rfl rfl (by decide +kernel) ⟨Nat.le_of_ble_eq_true rfl, Nat.le_of_ble_eq_true rfl⟩) (st_preV (ci := 8) (q0 := 0) hP hD hK hNW [0] [0] rfl rfl (by decide) rfl rfl rfl rfl) rfl rfl hl.1 rfl (lv_room (Nat.le_of_ble_eq_true rfl)) dX9_key_8 ⟨(Nat.le_of_ble_eq_true rfl), (Nat.le_of_ble_eq_true rfl)⟩) (fun r_1 u H locs hw hP hD hK hS => ?_)
  have hw : r_1 = 0 ∨ (0 ≤ v.toInt ∧ v.toInt < mm.toInt ∧ bi w 0 15) := hw
  have hw_2 := hw
  have hP : va_P D vwCl [(a2, .inl (cI, 128, .inl g2)), (h0, .inr (8, [.ref a0, .int tk, .ref a1, .int mm, .ref a2, .ref a3, .ref a4, .ref a5, .ref a6, .ref a7, .int wm, .int fa, .int 0, .int se, .ref a8, .ref a9, .ref ab]))] H := hP
  have hD : va_D A [(a2, .inl (cI, 128, .inl g2)), (h0, .inr (8, [.ref a0, .int tk, .ref a1, .int mm, .ref a2, .ref a3, .ref a4, .ref a5, .ref a6, .ref a7, .int wm, .int fa, .int 0, .int se, .ref a8, .ref a9, .ref ab]))] := hD
  have hK : va_K D vwCl [(cI, .int)] s := hK
  refine lv_if_eq (tgt := 28) hx hb dX9_key_11 (by decide) (fun c_3 => ?_) (fun c_3 => ?_)
  · refine lv_iconst (v := (-1)) hx hb dX9_key_28 (by decide) ?_
    exact ret_i hx hb hr hlocks rfl (u := 0) trivial (hP.sub [1, 0] rfl) (hK.sub [] rfl) (hD.sub [1, 0] (by decide) rfl) hS (Nat.le_of_ble_eq_true rfl) (Nat.le_of_ble_eq_true rfl) dX9_key_29
  have hkx_4 : 0 ≤ v.toInt ∧ v.toInt < mm.toInt ∧ bi w 0 15 := (hw_2).resolve_left c_3
  have hv7_5 : bi v 0 7 := (by omega)
  have hw15_6 : bi w 0 15 := (by omega)
  refine lv_aload_n hx hb dX9_key_14 rfl (lv_at hl 0 rfl) ?_
  refine va_get (D := D) (ci := 8) (v := .ref a2) (C := RX9) (T := TX9) (N := 17) hx hb hts him_key_X9 hown hK hP 1 rfl rfl 4 (by decide) (hts (.fieldLink RX9 16 "OneHandsetModel" "keys" "[I") (List.mem_of_getElem? (i := 2) rfl)) (fun _ h9 => h9) rfl dX9_key_15 ?_
  refine lv_bipush (v := 16) hx hb dX9_key_18 (by decide) ?_
  refine lv_iload_n hx hb dX9_key_20 rfl (lv_at hl 1 rfl) ?_
  refine lv_imul hx hb dX9_key_21 ?_
  refine lv_iload_n hx hb dX9_key_22 rfl (lv_at hl 2 rfl) ?_
  refine lv_iadd hx hb dX9_key_23 ?_
  refine va_iald hx hb hK hP 0 0 rfl rfl (by clear hml hsz hr hlocks; have : (0 : Int32).toInt = 0 := (by decide); have := ti_ne c_3; have u3 := ix16 (m := v) (w := w) hv7_5 hw15_6; exact vp_in_iff.mpr (by omega)) dX9_key_24 ?_
  refine lv_goto (tgt := 29) hx hb dX9_key_25 (by decide) ?_
  exact ret_i hx hb hr hlocks rfl (u := 0) trivial (hP.sub [1, 0] rfl) (hK.sub [] rfl) (hD.sub [1, 0] (by decide) rfl) hS (Nat.le_of_ble_eq_true rfl) (Nat.le_of_ble_eq_true rfl) dX9_key_29
theorem him_press_X9 : ∀ w ∈ wsX90, w ∈ wsX9_press := mem_pl [42, 43, 44, 45, 46, 47, 48, 49, 50, 51, 52, 53, 54, 55, 56, 57, 58] rfl
set_option maxHeartbeats 4000000 in
set_option maxRecDepth 100000 in
theorem m_press (l : Launch) (D : va_G) (sz : Nat) (cI : ClassId) (h0 : Nat) (a0 : Nat) (a1 : Nat) (a2 : Nat) (a3 : Nat) (a4 : Nat) (a5 : Nat) (a6 : Nat) (a7 : Nat) (a8 : Nat) (a9 : Nat) (ab : Nat) (tk : Int32) (mm : Int32) (wm : Int32) (fa : Int32) (th : Int32) (se : Int32) (g0 : Nat → Int32) (g1 : Nat → Int32) (g2 : Nat → Int32) (v : Int32) (w : Int32) (hk : bi tk 0 120) (hmm : bi mm 0 8) (hmg : MKG g1 mm) : Ci l yX9_press wsX9_press ({ frames := 3, cells := 0, slots := 0, locals := 75 } : Room) D [.ref h0, .int v, .int w] [(h0, .inr (8, [.ref a0, .int tk, .ref a1, .int mm, .ref a2, .ref a3, .ref a4, .ref a5, .ref a6, .ref a7, .int wm, .int fa, .int th, .int se, .ref a8, .ref a9, .ref ab])), (a0, .inl (cI, 120, .inl g0)), (a1, .inl (cI, 80, .inl g1)), (a2, .inl (cI, 128, .inl g2))] [(cI, .int)] sz (fun (r : Int32) => fun (u9 : Int32 × Int32 × (Nat → Int32) × (Nat → Int32)) => match u9 with | (tk2, th2, g02, g12) => bi tk2 0 120 ∧ MKG g12 mm ∧ KP g12 g1) (fun (u9 : Int32 × Int32 × (Nat → Int32) × (Nat → Int32)) => match u9 with | (tk2, th2, g02, g12) => [(h0, .inr (8, [.ref a0, .int tk2, .ref a1, .int mm, .ref a2, .ref a3, .ref a4, .ref a5, .ref a6, .ref a7, .int wm, .int fa, .int th2, .int se, .ref a8, .ref a9, .ref ab])), (a0, .inl (cI, 120, .inl g02)), (a1, .inl (cI, 80, .inl g12)), (a2, .inl (cI, 128, .inl g2))]) (fun (u9 : Int32 × Int32 × (Nat → Int32) × (Nat → Int32)) => match u9 with | (tk2, th2, g02, g12) => []) := by
  refine ct_i (cc := cX9_press) (maxL := 3) (ret := (some .int)) (by decide) rfl (Nat.le_of_ble_eq_true rfl) ?_
  intro p e s m below meth c A ls H hx hb hr hts hown hml hlocks hin hA hS hP hK hD hNW hl hAe hsz
  have hl : lv_has ls 3 [(0, .ref h0), (1, .int v), (2, .int w)] := hl
  refine lv_aload_n hx hb dX9_press_0 rfl (lv_at hl 0 rfl) ?_
  refine lv_iconst (v := 0) hx hb dX9_press_1 (by decide) ?_
  refine va_put (D := D) (ci := 8) (v := .int 0) (ty := .int) (C := RX9) (T := TX9) (N := 17) hx hb hts him_press_X9 tyX9 tyX9_ok nmX9 hown hK hP hD hS 0 rfl rfl 12 (by decide) (hts (.fieldLink RX9 43 "OneHandsetModel" "thrown" "I") (List.mem_of_getElem? (i := 1) rfl)) (fun _ h9 => h9) rfl (by decide +kernel) rfl rfl (Nat.le_of_ble_eq_true rfl) dX9_press_2 (fun H locs hP hD hS => ?_)
  have hP : va_P D vwCl [(h0, .inr (8, [.ref a0, .int tk, .ref a1, .int mm, .ref a2, .ref a3, .ref a4, .ref a5, .ref a6, .ref a7, .int wm, .int fa, .int 0, .int se, .ref a8, .ref a9, .ref ab])), (a0, .inl (cI, 120, .inl g0)), (a1, .inl (cI, 80, .inl g1)), (a2, .inl (cI, 128, .inl g2))] H := hP
  have hD : va_D A [(h0, .inr (8, [.ref a0, .int tk, .ref a1, .int mm, .ref a2, .ref a3, .ref a4, .ref a5, .ref a6, .ref a7, .int wm, .int fa, .int 0, .int se, .ref a8, .ref a9, .ref ab])), (a0, .inl (cI, 120, .inl g0)), (a1, .inl (cI, 80, .inl g1)), (a2, .inl (cI, 128, .inl g2))] := hD
  refine lv_aload_n hx hb dX9_press_5 rfl (lv_at hl 0 rfl) ?_
  refine lv_iload_n hx hb dX9_press_6 rfl (lv_at hl 1 rfl) ?_
  refine lv_iload_n hx hb dX9_press_7 rfl (lv_at hl 2 rfl) ?_
  refine go_i (wr := [(a0, .inl (cI, 120, .inl g0)), (a1, .inl (cI, 80, .inl g1)), (a2, .inl (cI, 128, .inl g2))]) (tysr := [(cI, .int)]) hP hD hS hA hK [0] [1, 2, 3] [0] rfl rfl (by decide) (by decide) rfl (va_runV (As := [.int v, .int w]) (rest := []) ⟨hx, hb, hml, hown, hts⟩ (m_isKey l D H.size cI h0 a0 a1 a2 a3 a4 a5 a6 a7 a8 a9 ab tk mm wm fa 0 se v w (by first | assumption | (clear hml hsz hr hlocks; omega) | decide)) (cwV 2 hts gX9_press_X9_isKey rfl rfl rfl (by decide +kernel) ⟨Nat.le_of_ble_eq_true rfl, Nat.le_of_ble_eq_true rfl⟩) (st_preV (ci := 8) (q0 := 0) hP hD hK hNW [0] [0] rfl rfl (by decide) rfl rfl rfl rfl) rfl rfl hl.1 rfl (lv_room (Nat.le_of_ble_eq_true rfl)) dX9_press_8 ⟨(Nat.le_of_ble_eq_true rfl), (Nat.le_of_ble_eq_true rfl)⟩) (fun r_1 u H locs hw hP hD hK hS => ?_)
  have hw : r_1 = 0 ∨ (0 ≤ v.toInt ∧ v.toInt < mm.toInt ∧ bi w 0 15) := hw
  have hw_2 := hw
  have hP : va_P D vwCl [(a0, .inl (cI, 120, .inl g0)), (a1, .inl (cI, 80, .inl g1)), (a2, .inl (cI, 128, .inl g2)), (h0, .inr (8, [.ref a0, .int tk, .ref a1, .int mm, .ref a2, .ref a3, .ref a4, .ref a5, .ref a6, .ref a7, .int wm, .int fa, .int 0, .int se, .ref a8, .ref a9, .ref ab]))] H := hP
  have hD : va_D A [(a0, .inl (cI, 120, .inl g0)), (a1, .inl (cI, 80, .inl g1)), (a2, .inl (cI, 128, .inl g2)), (h0, .inr (8, [.ref a0, .int tk, .ref a1, .int mm, .ref a2, .ref a3, .ref a4, .ref a5, .ref a6, .ref a7, .int wm, .int fa, .int 0, .int se, .ref a8, .ref a9, .ref ab]))] := hD
  have hK : va_K D vwCl [(cI, .int)] s := hK
  refine lv_if_eq (tgt := 29) hx hb dX9_press_11 (by decide) (fun c_3 => ?_) (fun c_3 => ?_)
  · refine lv_iconst (v := (-1)) hx hb dX9_press_29 (by decide) ?_
    exact ret_i hx hb hr hlocks rfl (u := (tk, 0, g0, g1)) (⟨hk, hmg, fun _ _ => rfl⟩) (hP.sub [3, 0, 1, 2] rfl) (hK.sub [] rfl) (hD.sub [3, 0, 1, 2] (by decide) rfl) hS (Nat.le_of_ble_eq_true rfl) (Nat.le_of_ble_eq_true rfl) dX9_press_30
  have hkx_4 : 0 ≤ v.toInt ∧ v.toInt < mm.toInt ∧ bi w 0 15 := (hw_2).resolve_left c_3
  have hv7_5 : bi v 0 7 := (by omega)
  have hw15_6 : bi w 0 15 := (by omega)
  refine lv_aload_n hx hb dX9_press_14 rfl (lv_at hl 0 rfl) ?_
  refine va_get (D := D) (ci := 8) (v := .ref a2) (C := RX9) (T := TX9) (N := 17) hx hb hts him_press_X9 hown hK hP 3 rfl rfl 4 (by decide) (hts (.fieldLink RX9 16 "OneHandsetModel" "keys" "[I") (List.mem_of_getElem? (i := 2) rfl)) (fun _ h9 => h9) rfl dX9_press_15 ?_
  refine lv_bipush (v := 16) hx hb dX9_press_18 (by decide) ?_
  refine lv_iload_n hx hb dX9_press_20 rfl (lv_at hl 1 rfl) ?_
  refine lv_imul hx hb dX9_press_21 ?_
  refine lv_iload_n hx hb dX9_press_22 rfl (lv_at hl 2 rfl) ?_
  refine lv_iadd hx hb dX9_press_23 ?_
  refine va_iald hx hb hK hP 2 0 rfl rfl (by clear hml hsz hr hlocks; have : (0 : Int32).toInt = 0 := (by decide); have := ti_ne c_3; have u3 := ix16 (m := v) (w := w) hv7_5 hw15_6; exact vp_in_iff.mpr (by omega)) dX9_press_24 ?_
  refine lv_iconst (v := (-1)) hx hb dX9_press_25 (by decide) ?_
  refine lv_icmp_ne (tgt := 31) hx hb dX9_press_26 (by decide) (fun c_7 => ?_) (fun c_7 => ?_)
  · refine lv_aload_n hx hb dX9_press_31 rfl (lv_at hl 0 rfl) ?_
    refine lv_iload_n hx hb dX9_press_32 rfl (lv_at hl 1 rfl) ?_
    refine lv_aload_n hx hb dX9_press_33 rfl (lv_at hl 0 rfl) ?_
    refine va_get (D := D) (ci := 8) (v := .ref a2) (C := RX9) (T := TX9) (N := 17) hx hb hts him_press_X9 hown hK hP 3 rfl rfl 4 (by decide) (hts (.fieldLink RX9 16 "OneHandsetModel" "keys" "[I") (List.mem_of_getElem? (i := 2) rfl)) (fun _ h9 => h9) rfl dX9_press_34 ?_
    refine lv_bipush (v := 16) hx hb dX9_press_37 (by decide) ?_
    refine lv_iload_n hx hb dX9_press_39 rfl (lv_at hl 1 rfl) ?_
    refine lv_imul hx hb dX9_press_40 ?_
    refine lv_iload_n hx hb dX9_press_41 rfl (lv_at hl 2 rfl) ?_
    refine lv_iadd hx hb dX9_press_42 ?_
    refine va_iald hx hb hK hP 2 0 rfl rfl (by clear hml hsz hr hlocks; have : ((-1) : Int32).toInt = -1 := (by decide); have : (0 : Int32).toInt = 0 := (by decide); have := ti_ne c_3; have := ti_ne c_7; have u3 := ix16 (m := v) (w := w) hv7_5 hw15_6; exact vp_in_iff.mpr (by omega)) dX9_press_43 ?_
    refine jn_S 64 (fun st9 H locs ls => ∃ (q_8 : Int32), st9 = [.int q_8, .int (g2 (Int32.toNatClampNeg ((16 * v) + w))), .int v, .ref h0] ∧ (va_P D vwCl [(a0, .inl (cI, 120, .inl g0)), (a1, .inl (cI, 80, .inl g1)), (a2, .inl (cI, 128, .inl g2)), (h0, .inr (8, [.ref a0, .int tk, .ref a1, .int mm, .ref a2, .ref a3, .ref a4, .ref a5, .ref a6, .ref a7, .int wm, .int fa, .int 0, .int se, .ref a8, .ref a9, .ref ab]))] H ∧ va_D A [(a0, .inl (cI, 120, .inl g0)), (a1, .inl (cI, 80, .inl g1)), (a2, .inl (cI, 128, .inl g2)), (h0, .inr (8, [.ref a0, .int tk, .ref a1, .int mm, .ref a2, .ref a3, .ref a4, .ref a5, .ref a6, .ref a7, .int wm, .int fa, .int 0, .int se, .ref a8, .ref a9, .ref ab]))]) ∧ va_S A s.heap H locs ∧ lv_has ls 3 [(0, .ref h0), (1, .int v), (2, .int w)]) ?_ ?_
    · intro st9 H locs ls hI
      obtain ⟨q_8, rfl, ⟨hP, hD⟩, hS, hl⟩ := hI
      refine lv_ior hx hb dX9_press_64 ?_
      refine go_v (wr := [(a2, .inl (cI, 128, .inl g2))]) (tysr := [(cI, .int)]) hP hD hS hA hK [3, 0, 1] [2] [0] rfl rfl (by decide) (by decide) rfl (va_runV (As := [.int v, .int ((g2 (Int32.toNatClampNeg ((16 * v) + w))) ||| q_8)]) (rest := []) ⟨hx, hb, hml, hown, hts⟩ (m_flash l D H.size cI h0 a0 a1 a2 a3 a4 a5 a6 a7 a8 a9 ab tk mm wm fa 0 se g0 g1 v ((g2 (Int32.toNatClampNeg ((16 * v) + w))) ||| q_8) (by first | assumption | (clear hml hsz hr hlocks; omega) | decide) (by first | assumption | (clear hml hsz hr hlocks; omega) | decide) (by first | assumption | (clear hml hsz hr hlocks; omega) | decide)) (cwV 2 hts gX9_press_X9_flash rfl rfl rfl (by decide +kernel) ⟨Nat.le_of_ble_eq_true rfl, Nat.le_of_ble_eq_true rfl⟩) (st_preV (ci := 8) (q0 := 3) hP hD hK hNW [3, 0, 1] [0] rfl rfl (by decide) rfl rfl rfl rfl) rfl rfl hl.1 rfl (lv_room (Nat.le_of_ble_eq_true rfl)) dX9_press_65 ⟨(Nat.le_of_ble_eq_true rfl), (Nat.le_of_ble_eq_true rfl)⟩) (fun u H locs hw hP hD hK hS => ?_)
      obtain ⟨tk_11, g_12⟩ := u
      have hw : bi tk_11 0 120 ∧ FC (g1 (Int32.toNatClampNeg (10 * v + 0))) (g1 (Int32.toNatClampNeg (10 * v + 1))) ((g2 (Int32.toNatClampNeg ((16 * v) + w))) ||| q_8) tk_11 := hw
      have hw_13 := hw
      have hP : va_P D vwCl [(a2, .inl (cI, 128, .inl g2)), (h0, .inr (8, [.ref a0, .int tk_11, .ref a1, .int mm, .ref a2, .ref a3, .ref a4, .ref a5, .ref a6, .ref a7, .int wm, .int fa, .int 0, .int se, .ref a8, .ref a9, .ref ab])), (a0, .inl (cI, 120, .inl g_12)), (a1, .inl (cI, 80, .inl g1))] H := hP
      have hD : va_D A [(a2, .inl (cI, 128, .inl g2)), (h0, .inr (8, [.ref a0, .int tk_11, .ref a1, .int mm, .ref a2, .ref a3, .ref a4, .ref a5, .ref a6, .ref a7, .int wm, .int fa, .int 0, .int se, .ref a8, .ref a9, .ref ab])), (a0, .inl (cI, 120, .inl g_12)), (a1, .inl (cI, 80, .inl g1))] := hD
      have hK : va_K D vwCl [(cI, .int)] s := hK
      refine lv_aload_n hx hb dX9_press_68 rfl (lv_at hl 0 rfl) ?_
      refine lv_iload_n hx hb dX9_press_69 rfl (lv_at hl 1 rfl) ?_
      refine lv_bipush (v := 8) hx hb dX9_press_70 (by decide) ?_
      refine go_i (wr := [(a2, .inl (cI, 128, .inl g2)), (a0, .inl (cI, 120, .inl g_12))]) (tysr := [(cI, .int)]) hP hD hS hA hK [1, 3] [0, 2] [0] rfl rfl (by decide) (by decide) rfl (va_runV (As := [.int v, .int 8]) (rest := []) ⟨hx, hb, hml, hown, hts⟩ (m_get l D H.size cI h0 a0 a1 a2 a3 a4 a5 a6 a7 a8 a9 ab tk_11 mm wm fa 0 se g1 v 8 (by first | assumption | (clear hml hsz hr hlocks; omega) | decide) (by first | assumption | (clear hml hsz hr hlocks; omega) | decide)) (cwV 2 hts gX9_press_X9_get rfl rfl rfl (by decide +kernel) ⟨Nat.le_of_ble_eq_true rfl, Nat.le_of_ble_eq_true rfl⟩) (st_preV (ci := 8) (q0 := 1) hP hD hK hNW [1, 3] [0] rfl rfl (by decide) rfl rfl rfl rfl) rfl rfl hl.1 rfl (lv_room (Nat.le_of_ble_eq_true rfl)) dX9_press_72 ⟨(Nat.le_of_ble_eq_true rfl), (Nat.le_of_ble_eq_true rfl)⟩) (fun r_14 u H locs hw hP hD hK hS => ?_)
      have hw : r_14 = g1 (Int32.toNatClampNeg (10 * v + 8)) := hw
      subst hw
      have hP : va_P D vwCl [(a2, .inl (cI, 128, .inl g2)), (a0, .inl (cI, 120, .inl g_12)), (h0, .inr (8, [.ref a0, .int tk_11, .ref a1, .int mm, .ref a2, .ref a3, .ref a4, .ref a5, .ref a6, .ref a7, .int wm, .int fa, .int 0, .int se, .ref a8, .ref a9, .ref ab])), (a1, .inl (cI, 80, .inl g1))] H := hP
      have hD : va_D A [(a2, .inl (cI, 128, .inl g2)), (a0, .inl (cI, 120, .inl g_12)), (h0, .inr (8, [.ref a0, .int tk_11, .ref a1, .int mm, .ref a2, .ref a3, .ref a4, .ref a5, .ref a6, .ref a7, .int wm, .int fa, .int 0, .int se, .ref a8, .ref a9, .ref ab])), (a1, .inl (cI, 80, .inl g1))] := hD
      have hK : va_K D vwCl [(cI, .int)] s := hK
      refine lv_iconst (v := (-1)) hx hb dX9_press_75 (by decide) ?_
      refine lv_icmp_eq (tgt := 100) hx hb dX9_press_76 (by decide) (fun c_15 => ?_) (fun c_15 => ?_)
      · refine lv_aload_n hx hb dX9_press_100 rfl (lv_at hl 0 rfl) ?_
        refine va_get (D := D) (ci := 8) (v := .int tk_11) (C := RX9) (T := TX9) (N := 17) hx hb hts him_press_X9 hown hK hP 2 rfl rfl 1 (by decide) (hts (.fieldLink RX9 62 "OneHandsetModel" "taped" "I") (List.mem_of_getElem? (i := 4) rfl)) (fun _ h9 => h9) rfl dX9_press_101 ?_
        exact ret_i hx hb hr hlocks rfl (u := (tk_11, 0, g_12, g1)) (⟨(hw_13).1, hmg, fun _ _ => rfl⟩) (hP.sub [2, 1, 3, 0] rfl) (hK.sub [] rfl) (hD.sub [2, 1, 3, 0] (by decide) rfl) hS (Nat.le_of_ble_eq_true rfl) (Nat.le_of_ble_eq_true rfl) dX9_press_104
      refine lv_aload_n hx hb dX9_press_79 rfl (lv_at hl 0 rfl) ?_
      refine va_get (D := D) (ci := 8) (v := .ref a1) (C := RX9) (T := TX9) (N := 17) hx hb hts him_press_X9 hown hK hP 2 rfl rfl 2 (by decide) (hts (.fieldLink RX9 13 "OneHandsetModel" "makes" "[I") (List.mem_of_getElem? (i := 3) rfl)) (fun _ h9 => h9) rfl dX9_press_80 ?_
      refine lv_bipush (v := 10) hx hb dX9_press_83 (by decide) ?_
      refine lv_iload_n hx hb dX9_press_85 rfl (lv_at hl 1 rfl) ?_
      refine lv_imul hx hb dX9_press_86 ?_
      refine lv_bipush (v := 9) hx hb dX9_press_87 (by decide) ?_
      refine lv_iadd hx hb dX9_press_89 ?_
      refine lv_iconst (v := 1) hx hb dX9_press_90 (by decide) ?_
      refine lv_aload_n hx hb dX9_press_91 rfl (lv_at hl 0 rfl) ?_
      refine lv_iload_n hx hb dX9_press_92 rfl (lv_at hl 1 rfl) ?_
      refine lv_bipush (v := 9) hx hb dX9_press_93 (by decide) ?_
      refine go_i (wr := [(a2, .inl (cI, 128, .inl g2)), (a0, .inl (cI, 120, .inl g_12))]) (tysr := [(cI, .int)]) hP hD hS hA hK [2, 3] [0, 1] [0] rfl rfl (by decide) (by decide) rfl (va_runV (As := [.int v, .int 9]) (rest := [.int 1, .int ((10 * v) + 9), .ref a1]) ⟨hx, hb, hml, hown, hts⟩ (m_get l D H.size cI h0 a0 a1 a2 a3 a4 a5 a6 a7 a8 a9 ab tk_11 mm wm fa 0 se g1 v 9 (by first | assumption | (clear hml hsz hr hlocks; omega) | decide) (by first | assumption | (clear hml hsz hr hlocks; omega) | decide)) (cwV 2 hts gX9_press_X9_get rfl rfl rfl (by decide +kernel) ⟨Nat.le_of_ble_eq_true rfl, Nat.le_of_ble_eq_true rfl⟩) (st_preV (ci := 8) (q0 := 2) hP hD hK hNW [2, 3] [0] rfl rfl (by decide) rfl rfl rfl rfl) rfl rfl hl.1 rfl (lv_room (Nat.le_of_ble_eq_true rfl)) dX9_press_95 ⟨(Nat.le_of_ble_eq_true rfl), (Nat.le_of_ble_eq_true rfl)⟩) (fun r_16 u H locs hw hP hD hK hS => ?_)
      have hw : r_16 = g1 (Int32.toNatClampNeg (10 * v + 9)) := hw
      subst hw
      have hP : va_P D vwCl [(a2, .inl (cI, 128, .inl g2)), (a0, .inl (cI, 120, .inl g_12)), (h0, .inr (8, [.ref a0, .int tk_11, .ref a1, .int mm, .ref a2, .ref a3, .ref a4, .ref a5, .ref a6, .ref a7, .int wm, .int fa, .int 0, .int se, .ref a8, .ref a9, .ref ab])), (a1, .inl (cI, 80, .inl g1))] H := hP
      have hD : va_D A [(a2, .inl (cI, 128, .inl g2)), (a0, .inl (cI, 120, .inl g_12)), (h0, .inr (8, [.ref a0, .int tk_11, .ref a1, .int mm, .ref a2, .ref a3, .ref a4, .ref a5, .ref a6, .ref a7, .int wm, .int fa, .int 0, .int se, .ref a8, .ref a9, .ref ab])), (a1, .inl (cI, 80, .inl g1))] := hD
      have hK : va_K D vwCl [(cI, .int)] s := hK
      refine lv_isub hx hb dX9_press_98 ?_
      refine va_iast hx hb hK hP hD hS 3 0 rfl rfl (by clear hml hsz hr hlocks; have : ((-1) : Int32).toInt = -1 := (by decide); have : (0 : Int32).toInt = 0 := (by decide); have := ti_ne c_3; have := ti_ne c_7; have := ti_ne c_15; have k9 : (9 : Int32).toInt = 9 := (by decide); have u3 := ix10 (m := v) (w := 9) (by omega) (by decide); exact vp_in_iff.mpr (by omega)) dX9_press_99 (fun H locs hP hD hS => ?_)
      have hP : va_P D vwCl [(a2, .inl (cI, 128, .inl g2)), (a0, .inl (cI, 120, .inl g_12)), (h0, .inr (8, [.ref a0, .int tk_11, .ref a1, .int mm, .ref a2, .ref a3, .ref a4, .ref a5, .ref a6, .ref a7, .int wm, .int fa, .int 0, .int se, .ref a8, .ref a9, .ref ab])), (a1, .inl (cI, 80, .inl (upd g1 (Int32.toNatClampNeg ((10 * v) + 9)) (1 - (g1 (Int32.toNatClampNeg (10 * v + 9)))))))] H := hP
      have hD : va_D A [(a2, .inl (cI, 128, .inl g2)), (a0, .inl (cI, 120, .inl g_12)), (h0, .inr (8, [.ref a0, .int tk_11, .ref a1, .int mm, .ref a2, .ref a3, .ref a4, .ref a5, .ref a6, .ref a7, .int wm, .int fa, .int 0, .int se, .ref a8, .ref a9, .ref ab])), (a1, .inl (cI, 80, .inl (upd g1 (Int32.toNatClampNeg ((10 * v) + 9)) (1 - (g1 (Int32.toNatClampNeg (10 * v + 9)))))))] := hD
      refine lv_aload_n hx hb dX9_press_100 rfl (lv_at hl 0 rfl) ?_
      refine va_get (D := D) (ci := 8) (v := .int tk_11) (C := RX9) (T := TX9) (N := 17) hx hb hts him_press_X9 hown hK hP 2 rfl rfl 1 (by decide) (hts (.fieldLink RX9 62 "OneHandsetModel" "taped" "I") (List.mem_of_getElem? (i := 4) rfl)) (fun _ h9 => h9) rfl dX9_press_101 ?_
      exact ret_i hx hb hr hlocks rfl (u := (tk_11, 0, g_12, upd g1 (Int32.toNatClampNeg ((10 * v) + 9)) (1 - (g1 (Int32.toNatClampNeg (10 * v + 9)))))) (⟨(hw_13).1, hmg.putI (by clear hml hsz hr hlocks; have : ((-1) : Int32).toInt = -1 := (by decide); have : (0 : Int32).toInt = 0 := (by decide); have := ti_ne c_3; have := ti_ne c_7; have := ti_ne c_15; have k9 : (9 : Int32).toInt = 9 := (by decide); have u3 := ix10 (m := v) (w := 9) (by omega) (by decide); omega) (by clear hml hsz hr hlocks; have : ((-1) : Int32).toInt = -1 := (by decide); have : (0 : Int32).toInt = 0 := (by decide); have := ti_ne c_3; have := ti_ne c_7; have := ti_ne c_15; have k9 : (9 : Int32).toInt = 9 := (by decide); have u3 := ix10 (m := v) (w := 9) (by omega) (by decide); omega), kp_put kp_rf (by clear hml hsz hr hlocks; have : ((-1) : Int32).toInt = -1 := (by decide); have : (0 : Int32).toInt = 0 := (by decide); have := ti_ne c_3; have := ti_ne c_7; have := ti_ne c_15; have k9 : (9 : Int32).toInt = 9 := (by decide); have u3 := ix10 (m := v) (w := 9) (by omega) (by decide); omega) (by clear hml hsz hr hlocks; have : ((-1) : Int32).toInt = -1 := (by decide); have : (0 : Int32).toInt = 0 := (by decide); have := ti_ne c_3; have := ti_ne c_7; have := ti_ne c_15; have k9 : (9 : Int32).toInt = 9 := (by decide); have u3 := ix10 (m := v) (w := 9) (by omega) (by decide); omega)⟩) (hP.sub [2, 1, 3, 0] rfl) (hK.sub [] rfl) (hD.sub [2, 1, 3, 0] (by decide) rfl) hS (Nat.le_of_ble_eq_true rfl) (Nat.le_of_ble_eq_true rfl) dX9_press_104
    · intro hJ_17
      refine lv_aload_n hx hb dX9_press_44 rfl (lv_at hl 0 rfl) ?_
      refine lv_iload_n hx hb dX9_press_45 rfl (lv_at hl 1 rfl) ?_
      refine lv_bipush (v := 9) hx hb dX9_press_46 (by decide) ?_
      refine go_i (wr := [(a0, .inl (cI, 120, .inl g0)), (a2, .inl (cI, 128, .inl g2))]) (tysr := [(cI, .int)]) hP hD hS hA hK [3, 1] [0, 2] [0] rfl rfl (by decide) (by decide) rfl (va_runV (As := [.int v, .int 9]) (rest := [.int (g2 (Int32.toNatClampNeg ((16 * v) + w))), .int v, .ref h0]) ⟨hx, hb, hml, hown, hts⟩ (m_get l D H.size cI h0 a0 a1 a2 a3 a4 a5 a6 a7 a8 a9 ab tk mm wm fa 0 se g1 v 9 (by first | assumption | (clear hml hsz hr hlocks; omega) | decide) (by first | assumption | (clear hml hsz hr hlocks; omega) | decide)) (cwV 2 hts gX9_press_X9_get rfl rfl rfl (by decide +kernel) ⟨Nat.le_of_ble_eq_true rfl, Nat.le_of_ble_eq_true rfl⟩) (st_preV (ci := 8) (q0 := 3) hP hD hK hNW [3, 1] [0] rfl rfl (by decide) rfl rfl rfl rfl) rfl rfl hl.1 rfl (lv_room (Nat.le_of_ble_eq_true rfl)) dX9_press_48 ⟨(Nat.le_of_ble_eq_true rfl), (Nat.le_of_ble_eq_true rfl)⟩) (fun r_18 u H locs hw hP hD hK hS => ?_)
      have hw : r_18 = g1 (Int32.toNatClampNeg (10 * v + 9)) := hw
      subst hw
      have hP : va_P D vwCl [(a0, .inl (cI, 120, .inl g0)), (a2, .inl (cI, 128, .inl g2)), (h0, .inr (8, [.ref a0, .int tk, .ref a1, .int mm, .ref a2, .ref a3, .ref a4, .ref a5, .ref a6, .ref a7, .int wm, .int fa, .int 0, .int se, .ref a8, .ref a9, .ref ab])), (a1, .inl (cI, 80, .inl g1))] H := hP
      have hD : va_D A [(a0, .inl (cI, 120, .inl g0)), (a2, .inl (cI, 128, .inl g2)), (h0, .inr (8, [.ref a0, .int tk, .ref a1, .int mm, .ref a2, .ref a3, .ref a4, .ref a5, .ref a6, .ref a7, .int wm, .int fa, .int 0, .int se, .ref a8, .ref a9, .ref ab])), (a1, .inl (cI, 80, .inl g1))] := hD
      have hK : va_K D vwCl [(cI, .int)] s := hK
      refine lv_iconst (v := 1) hx hb dX9_press_51 (by decide) ?_
      refine lv_icmp_ne (tgt := 63) hx hb dX9_press_52 (by decide) (fun c_19 => ?_) (fun c_19 => ?_)
      · refine lv_iconst (v := 0) hx hb dX9_press_63 (by decide) ?_
        exact hJ_17 _ _ _ _ ⟨0, rfl, ⟨hP.sub [0, 3, 1, 2] rfl, hD.sub [0, 3, 1, 2] (by decide) rfl⟩, hS, lv_sub hl [0, 1, 2] rfl⟩
      refine lv_aload_n hx hb dX9_press_55 rfl (lv_at hl 0 rfl) ?_
      refine lv_iload_n hx hb dX9_press_56 rfl (lv_at hl 1 rfl) ?_
      refine go_i (wr := [(a0, .inl (cI, 120, .inl g0)), (a2, .inl (cI, 128, .inl g2))]) (tysr := [(cI, .int)]) hP hD hS hA hK [2, 3] [0, 1] [0] rfl rfl (by decide) (by decide) rfl (va_runV (As := [.int v]) (rest := [.int (g2 (Int32.toNatClampNeg ((16 * v) + w))), .int v, .ref h0]) ⟨hx, hb, hml, hown, hts⟩ (m_flipOf l D H.size cI h0 a0 a1 a2 a3 a4 a5 a6 a7 a8 a9 ab tk mm wm fa 0 se g1 v (by first | assumption | (clear hml hsz hr hlocks; omega) | decide)) (cwV 1 hts gX9_press_X9_flipOf rfl rfl rfl (by decide +kernel) ⟨Nat.le_of_ble_eq_true rfl, Nat.le_of_ble_eq_true rfl⟩) (st_preV (ci := 8) (q0 := 2) hP hD hK hNW [2, 3] [0] rfl rfl (by decide) rfl rfl rfl rfl) rfl rfl hl.1 rfl (lv_room (Nat.le_of_ble_eq_true rfl)) dX9_press_57 ⟨(Nat.le_of_ble_eq_true rfl), (Nat.le_of_ble_eq_true rfl)⟩) (fun r_20 u H locs hw hP hD hK hS => ?_)
      have hP : va_P D vwCl [(a0, .inl (cI, 120, .inl g0)), (a2, .inl (cI, 128, .inl g2)), (h0, .inr (8, [.ref a0, .int tk, .ref a1, .int mm, .ref a2, .ref a3, .ref a4, .ref a5, .ref a6, .ref a7, .int wm, .int fa, .int 0, .int se, .ref a8, .ref a9, .ref ab])), (a1, .inl (cI, 80, .inl g1))] H := hP
      have hD : va_D A [(a0, .inl (cI, 120, .inl g0)), (a2, .inl (cI, 128, .inl g2)), (h0, .inr (8, [.ref a0, .int tk, .ref a1, .int mm, .ref a2, .ref a3, .ref a4, .ref a5, .ref a6, .ref a7, .int wm, .int fa, .int 0, .int se, .ref a8, .ref a9, .ref ab])), (a1, .inl (cI, 80, .inl g1))] := hD
      have hK : va_K D vwCl [(cI, .int)] s := hK
      refine lv_goto (tgt := 64) hx hb dX9_press_60 (by decide) ?_
      exact hJ_17 _ _ _ _ ⟨r_20, rfl, ⟨hP.sub [0, 3, 1, 2] rfl, hD.sub [0, 3, 1, 2] (by decide) rfl⟩, hS, lv_sub hl [0, 1, 2] rfl⟩
  refine lv_iconst (v := (-1)) hx hb dX9_press_29 (by decide) ?_
  exact ret_i hx hb hr hlocks rfl (u := (tk, 0, g0, g1)) (⟨hk, hmg, fun _ _ => rfl⟩) (hP.sub [3, 0, 1, 2] rfl) (hK.sub [] rfl) (hD.sub [3, 0, 1, 2] (by decide) rfl) hS (Nat.le_of_ble_eq_true rfl) (Nat.le_of_ble_eq_true rfl) dX9_press_30
theorem him_learnt_X9 : ∀ w ∈ wsX90, w ∈ wsX9_learnt := mem_pl [2, 3, 4, 5, 6, 7, 8, 9, 10, 11, 12, 13, 14, 15, 16, 17, 18] rfl
set_option maxHeartbeats 4000000 in
set_option maxRecDepth 100000 in
theorem m_learnt (l : Launch) (D : va_G) (sz : Nat) (cI : ClassId) (h0 : Nat) (a0 : Nat) (a1 : Nat) (a2 : Nat) (a3 : Nat) (a4 : Nat) (a5 : Nat) (a6 : Nat) (a7 : Nat) (a8 : Nat) (a9 : Nat) (ab : Nat) (tk : Int32) (mm : Int32) (wm : Int32) (fa : Int32) (th : Int32) (se : Int32) (g2 : Nat → Int32) (v : Int32) (hv : bi v 0 7) : Ci l yX9_learnt wsX9_learnt ({ frames := 0, cells := 0, slots := 0, locals := 0 } : Room) D [.ref h0, .int v] [(h0, .inr (8, [.ref a0, .int tk, .ref a1, .int mm, .ref a2, .ref a3, .ref a4, .ref a5, .ref a6, .ref a7, .int wm, .int fa, .int th, .int se, .ref a8, .ref a9, .ref ab])), (a2, .inl (cI, 128, .inl g2))] [(cI, .int)] sz (fun (r : Int32) => fun (_ : Unit) => True) (fun (_ : Unit) => [(h0, .inr (8, [.ref a0, .int tk, .ref a1, .int mm, .ref a2, .ref a3, .ref a4, .ref a5, .ref a6, .ref a7, .int wm, .int fa, .int th, .int se, .ref a8, .ref a9, .ref ab])), (a2, .inl (cI, 128, .inl g2))]) (fun (_ : Unit) => []) := by
  refine ct_i (cc := cX9_learnt) (maxL := 4) (ret := (some .int)) (by decide) rfl (Nat.le_of_ble_eq_true rfl) ?_
  intro p e s m below meth c A ls H hx hb hr hts hown hml hlocks hin hA hS hP hK hD hNW hl hAe hsz
  have hl : lv_has ls 4 [(0, .ref h0), (1, .int v)] := hl
  refine lv_iconst (v := 0) hx hb dX9_learnt_0 (by decide) ?_
  refine lv_istore_n (lv' := [(2, .int 0), (0, .ref h0), (1, .int v)]) hx hb dX9_learnt_1 rfl hl (by decide) rfl (fun ls hl => ?_)
  refine lv_iconst (v := 0) hx hb dX9_learnt_2 (by decide) ?_
  refine lv_istore_n (lv' := [(3, .int 0), (2, .int 0), (0, .ref h0), (1, .int v)]) hx hb dX9_learnt_3 rfl hl (by decide) rfl (fun ls hl => ?_)
  refine lp_N (fun n9 H locs ls => ∃ (i2_1 : Int32), ∃ (i_2 : Int32), n9 = (16 - i_2.toInt).toNat ∧ (va_P D vwCl [(h0, .inr (8, [.ref a0, .int tk, .ref a1, .int mm, .ref a2, .ref a3, .ref a4, .ref a5, .ref a6, .ref a7, .int wm, .int fa, .int th, .int se, .ref a8, .ref a9, .ref ab])), (a2, .inl (cI, 128, .inl g2))] H ∧ va_D A [(h0, .inr (8, [.ref a0, .int tk, .ref a1, .int mm, .ref a2, .ref a3, .ref a4, .ref a5, .ref a6, .ref a7, .int wm, .int fa, .int th, .int se, .ref a8, .ref a9, .ref ab])), (a2, .inl (cI, 128, .inl g2))]) ∧ va_S A s.heap H locs ∧ lv_has ls 4 [(3, .int i_2), (2, .int i2_1), (0, .ref h0), (1, .int v)] ∧ (0 ≤ i_2.toInt)) ?_ ⟨0, 0, rfl, ⟨hP, hD⟩, hS, hl, (by decide)⟩
  intro n9 ih_3 H locs ls hI
  obtain ⟨i2_1, i_2, rfl, ⟨hP, hD⟩, hS, hl, hv_4⟩ := hI
  refine lv_iload_n hx hb dX9_learnt_4 rfl (lv_at hl 0 rfl) ?_
  refine lv_bipush (v := 16) hx hb dX9_learnt_5 (by decide) ?_
  refine lv_icmp_ge (tgt := 34) hx hb dX9_learnt_7 (by decide) (fun c_5 => ?_) (fun c_5 => ?_)
  · refine lv_iload_n hx hb dX9_learnt_34 rfl (lv_at hl 1 rfl) ?_
    exact ret_i hx hb hr hlocks rfl (u := ()) trivial (hP.sub [0, 1] rfl) (hK.sub [] rfl) (hD.sub [0, 1] (by decide) rfl) hS (Nat.le_of_ble_eq_true rfl) (Nat.le_of_ble_eq_true rfl) dX9_learnt_35
  refine jn_S 28 (fun st9 H locs ls => ∃ (i2_6 : Int32), st9 = [] ∧ (va_P D vwCl [(h0, .inr (8, [.ref a0, .int tk, .ref a1, .int mm, .ref a2, .ref a3, .ref a4, .ref a5, .ref a6, .ref a7, .int wm, .int fa, .int th, .int se, .ref a8, .ref a9, .ref ab])), (a2, .inl (cI, 128, .inl g2))] H ∧ va_D A [(h0, .inr (8, [.ref a0, .int tk, .ref a1, .int mm, .ref a2, .ref a3, .ref a4, .ref a5, .ref a6, .ref a7, .int wm, .int fa, .int th, .int se, .ref a8, .ref a9, .ref ab])), (a2, .inl (cI, 128, .inl g2))]) ∧ va_S A s.heap H locs ∧ lv_has ls 4 [(3, .int i_2), (2, .int i2_6), (0, .ref h0), (1, .int v)]) ?_ ?_
  · intro st9 H locs ls hI
    obtain ⟨i2_6, rfl, ⟨hP, hD⟩, hS, hl⟩ := hI
    refine lv_iinc (v := i_2 + 1) (lv' := [(3, .int (i_2 + 1)), (2, .int i2_6), (0, .ref h0), (1, .int v)]) hx hb dX9_learnt_28 hl (k := 0) rfl (ii_p1 _) (by decide) rfl (fun ls hl => ?_)
    refine lv_goto (tgt := 4) hx hb dX9_learnt_31 (by decide) ?_
    exact ih_3 _ _ _ _ (by clear hml hsz hr hlocks; have : (16 : Int32).toInt = 16 := (by decide); have := ti_nle c_5; have kn : (16 : Int32).toInt = 16 := (by decide); have u1 := ti_up (i := i_2) (n := 16) (by omega); omega) ⟨i2_6, i_2 + 1, rfl, ⟨hP, hD⟩, hS, lv_sub hl [0, 1, 2, 3] rfl, (by clear hml hsz hr hlocks; have : (16 : Int32).toInt = 16 := (by decide); have := ti_nle c_5; have kn : (16 : Int32).toInt = 16 := (by decide); have u1 := ti_up (i := i_2) (n := 16) (by omega); omega)⟩
  · intro hJ_8
    refine lv_aload_n hx hb dX9_learnt_10 rfl (lv_at hl 2 rfl) ?_
    refine va_get (D := D) (ci := 8) (v := .ref a2) (C := RX9) (T := TX9) (N := 17) hx hb hts him_learnt_X9 hown hK hP 0 rfl rfl 4 (by decide) (hts (.fieldLink RX9 16 "OneHandsetModel" "keys" "[I") (List.mem_of_getElem? (i := 1) rfl)) (fun _ h9 => h9) rfl dX9_learnt_11 ?_
    refine lv_bipush (v := 16) hx hb dX9_learnt_14 (by decide) ?_
    refine lv_iload_n hx hb dX9_learnt_16 rfl (lv_at hl 3 rfl) ?_
    refine lv_imul hx hb dX9_learnt_17 ?_
    refine lv_iload_n hx hb dX9_learnt_18 rfl (lv_at hl 0 rfl) ?_
    refine lv_iadd hx hb dX9_learnt_19 ?_
    refine va_iald hx hb hK hP 1 0 rfl rfl (by clear hml hsz hr hlocks; have : (16 : Int32).toInt = 16 := (by decide); have := ti_nle c_5; have u3 := ix16 (m := v) (w := i_2) hv (by have : (16 : Int32).toInt = 16 := (by decide); have := ti_nle c_5; omega); exact vp_in_iff.mpr (by omega)) dX9_learnt_20 ?_
    refine lv_iconst (v := (-1)) hx hb dX9_learnt_21 (by decide) ?_
    refine lv_icmp_eq (tgt := 28) hx hb dX9_learnt_22 (by decide) (fun c_9 => ?_) (fun c_9 => ?_)
    · exact hJ_8 _ _ _ _ ⟨i2_1, rfl, ⟨hP, hD⟩, hS, lv_sub hl [0, 1, 2, 3] rfl⟩
    refine lv_iinc (v := i2_1 + 1) (lv' := [(2, .int (i2_1 + 1)), (3, .int i_2), (0, .ref h0), (1, .int v)]) hx hb dX9_learnt_25 hl (k := 1) rfl (ii_p1 _) (by decide) rfl (fun ls hl => ?_)
    exact hJ_8 _ _ _ _ ⟨i2_1 + 1, rfl, ⟨hP, hD⟩, hS, lv_sub hl [1, 0, 2, 3] rfl⟩
theorem him_some_X9 : ∀ w ∈ wsX90, w ∈ wsX9_some := mem_pl [2, 3, 4, 5, 6, 7, 8, 9, 10, 11, 12, 13, 14, 15, 16, 17, 18] rfl
set_option maxHeartbeats 4000000 in
set_option maxRecDepth 100000 in
theorem m_some (l : Launch) (D : va_G) (sz : Nat) (cI : ClassId) (h0 : Nat) (a0 : Nat) (a1 : Nat) (a2 : Nat) (a3 : Nat) (a4 : Nat) (a5 : Nat) (a6 : Nat) (a7 : Nat) (a8 : Nat) (a9 : Nat) (ab : Nat) (tk : Int32) (mm : Int32) (wm : Int32) (fa : Int32) (th : Int32) (se : Int32) (g2 : Nat → Int32) (v : Int32) (hv : bi v 0 7) : Ci l yX9_some wsX9_some ({ frames := 0, cells := 0, slots := 0, locals := 0 } : Room) D [.ref h0, .int v] [(h0, .inr (8, [.ref a0, .int tk, .ref a1, .int mm, .ref a2, .ref a3, .ref a4, .ref a5, .ref a6, .ref a7, .int wm, .int fa, .int th, .int se, .ref a8, .ref a9, .ref ab])), (a2, .inl (cI, 128, .inl g2))] [(cI, .int)] sz (fun (r : Int32) => fun (_ : Unit) => True) (fun (_ : Unit) => [(h0, .inr (8, [.ref a0, .int tk, .ref a1, .int mm, .ref a2, .ref a3, .ref a4, .ref a5, .ref a6, .ref a7, .int wm, .int fa, .int th, .int se, .ref a8, .ref a9, .ref ab])), (a2, .inl (cI, 128, .inl g2))]) (fun (_ : Unit) => []) := by
  refine ct_i (cc := cX9_some) (maxL := 4) (ret := (some .int)) (by decide) rfl (Nat.le_of_ble_eq_true rfl) ?_
  intro p e s m below meth c A ls H hx hb hr hts hown hml hlocks hin hA hS hP hK hD hNW hl hAe hsz
  have hl : lv_has ls 4 [(0, .ref h0), (1, .int v)] := hl
  refine lv_iconst (v := (-1)) hx hb dX9_some_0 (by decide) ?_
  refine lv_istore_n (lv' := [(2, .int (-1)), (0, .ref h0), (1, .int v)]) hx hb dX9_some_1 rfl hl (by decide) rfl (fun ls hl => ?_)
  refine lv_iconst (v := 0) hx hb dX9_some_2 (by decide) ?_
  refine lv_istore_n (lv' := [(3, .int 0), (2, .int (-1)), (0, .ref h0), (1, .int v)]) hx hb dX9_some_3 rfl hl (by decide) rfl (fun ls hl => ?_)
  refine lp_N (fun n9 H locs ls => ∃ (i2_1 : Int32), ∃ (i_2 : Int32), n9 = (16 - i_2.toInt).toNat ∧ (va_P D vwCl [(h0, .inr (8, [.ref a0, .int tk, .ref a1, .int mm, .ref a2, .ref a3, .ref a4, .ref a5, .ref a6, .ref a7, .int wm, .int fa, .int th, .int se, .ref a8, .ref a9, .ref ab])), (a2, .inl (cI, 128, .inl g2))] H ∧ va_D A [(h0, .inr (8, [.ref a0, .int tk, .ref a1, .int mm, .ref a2, .ref a3, .ref a4, .ref a5, .ref a6, .ref a7, .int wm, .int fa, .int th, .int se, .ref a8, .ref a9, .ref ab])), (a2, .inl (cI, 128, .inl g2))]) ∧ va_S A s.heap H locs ∧ lv_has ls 4 [(3, .int i_2), (2, .int i2_1), (0, .ref h0), (1, .int v)] ∧ (0 ≤ i_2.toInt)) ?_ ⟨(-1), 0, rfl, ⟨hP, hD⟩, hS, hl, (by decide)⟩
  intro n9 ih_3 H locs ls hI
  obtain ⟨i2_1, i_2, rfl, ⟨hP, hD⟩, hS, hl, hv_4⟩ := hI
  refine lv_iload_n hx hb dX9_some_4 rfl (lv_at hl 0 rfl) ?_
  refine lv_bipush (v := 16) hx hb dX9_some_5 (by decide) ?_
  refine lv_icmp_ge (tgt := 43) hx hb dX9_some_7 (by decide) (fun c_5 => ?_) (fun c_5 => ?_)
  · refine lv_iload_n hx hb dX9_some_43 rfl (lv_at hl 1 rfl) ?_
    exact ret_i hx hb hr hlocks rfl (u := ()) trivial (hP.sub [0, 1] rfl) (hK.sub [] rfl) (hD.sub [0, 1] (by decide) rfl) hS (Nat.le_of_ble_eq_true rfl) (Nat.le_of_ble_eq_true rfl) dX9_some_44
  refine jn_S 37 (fun st9 H locs ls => ∃ (i2_6 : Int32), st9 = [] ∧ (va_P D vwCl [(h0, .inr (8, [.ref a0, .int tk, .ref a1, .int mm, .ref a2, .ref a3, .ref a4, .ref a5, .ref a6, .ref a7, .int wm, .int fa, .int th, .int se, .ref a8, .ref a9, .ref ab])), (a2, .inl (cI, 128, .inl g2))] H ∧ va_D A [(h0, .inr (8, [.ref a0, .int tk, .ref a1, .int mm, .ref a2, .ref a3, .ref a4, .ref a5, .ref a6, .ref a7, .int wm, .int fa, .int th, .int se, .ref a8, .ref a9, .ref ab])), (a2, .inl (cI, 128, .inl g2))]) ∧ va_S A s.heap H locs ∧ lv_has ls 4 [(3, .int i_2), (2, .int i2_6), (0, .ref h0), (1, .int v)]) ?_ ?_
  · intro st9 H locs ls hI
    obtain ⟨i2_6, rfl, ⟨hP, hD⟩, hS, hl⟩ := hI
    refine lv_iinc (v := i_2 + 1) (lv' := [(3, .int (i_2 + 1)), (2, .int i2_6), (0, .ref h0), (1, .int v)]) hx hb dX9_some_37 hl (k := 0) rfl (ii_p1 _) (by decide) rfl (fun ls hl => ?_)
    refine lv_goto (tgt := 4) hx hb dX9_some_40 (by decide) ?_
    exact ih_3 _ _ _ _ (by clear hml hsz hr hlocks; have : (16 : Int32).toInt = 16 := (by decide); have := ti_nle c_5; have kn : (16 : Int32).toInt = 16 := (by decide); have u1 := ti_up (i := i_2) (n := 16) (by omega); omega) ⟨i2_6, i_2 + 1, rfl, ⟨hP, hD⟩, hS, lv_sub hl [0, 1, 2, 3] rfl, (by clear hml hsz hr hlocks; have : (16 : Int32).toInt = 16 := (by decide); have := ti_nle c_5; have kn : (16 : Int32).toInt = 16 := (by decide); have u1 := ti_up (i := i_2) (n := 16) (by omega); omega)⟩
  · intro hJ_8
    refine lv_aload_n hx hb dX9_some_10 rfl (lv_at hl 2 rfl) ?_
    refine va_get (D := D) (ci := 8) (v := .ref a2) (C := RX9) (T := TX9) (N := 17) hx hb hts him_some_X9 hown hK hP 0 rfl rfl 4 (by decide) (hts (.fieldLink RX9 16 "OneHandsetModel" "keys" "[I") (List.mem_of_getElem? (i := 1) rfl)) (fun _ h9 => h9) rfl dX9_some_11 ?_
    refine lv_bipush (v := 16) hx hb dX9_some_14 (by decide) ?_
    refine lv_iload_n hx hb dX9_some_16 rfl (lv_at hl 3 rfl) ?_
    refine lv_imul hx hb dX9_some_17 ?_
    refine lv_iload_n hx hb dX9_some_18 rfl (lv_at hl 0 rfl) ?_
    refine lv_iadd hx hb dX9_some_19 ?_
    refine va_iald hx hb hK hP 1 0 rfl rfl (by clear hml hsz hr hlocks; have : (16 : Int32).toInt = 16 := (by decide); have := ti_nle c_5; have u3 := ix16 (m := v) (w := i_2) hv (by have : (16 : Int32).toInt = 16 := (by decide); have := ti_nle c_5; omega); exact vp_in_iff.mpr (by omega)) dX9_some_20 ?_
    refine lv_iconst (v := (-1)) hx hb dX9_some_21 (by decide) ?_
    refine lv_icmp_eq (tgt := 37) hx hb dX9_some_22 (by decide) (fun c_9 => ?_) (fun c_9 => ?_)
    · exact hJ_8 _ _ _ _ ⟨i2_1, rfl, ⟨hP, hD⟩, hS, lv_sub hl [0, 1, 2, 3] rfl⟩
    refine lv_aload_n hx hb dX9_some_25 rfl (lv_at hl 2 rfl) ?_
    refine va_get (D := D) (ci := 8) (v := .ref a2) (C := RX9) (T := TX9) (N := 17) hx hb hts him_some_X9 hown hK hP 0 rfl rfl 4 (by decide) (hts (.fieldLink RX9 16 "OneHandsetModel" "keys" "[I") (List.mem_of_getElem? (i := 1) rfl)) (fun _ h9 => h9) rfl dX9_some_26 ?_
    refine lv_bipush (v := 16) hx hb dX9_some_29 (by decide) ?_
    refine lv_iload_n hx hb dX9_some_31 rfl (lv_at hl 3 rfl) ?_
    refine lv_imul hx hb dX9_some_32 ?_
    refine lv_iload_n hx hb dX9_some_33 rfl (lv_at hl 0 rfl) ?_
    refine lv_iadd hx hb dX9_some_34 ?_
    refine va_iald hx hb hK hP 1 0 rfl rfl (by clear hml hsz hr hlocks; have : ((-1) : Int32).toInt = -1 := (by decide); have : (16 : Int32).toInt = 16 := (by decide); have := ti_nle c_5; have := ti_ne c_9; have u3 := ix16 (m := v) (w := i_2) hv (by have : ((-1) : Int32).toInt = -1 := (by decide); have : (16 : Int32).toInt = 16 := (by decide); have := ti_nle c_5; have := ti_ne c_9; omega); exact vp_in_iff.mpr (by omega)) dX9_some_35 ?_
    refine lv_istore_n (lv' := [(2, .int (g2 (Int32.toNatClampNeg ((16 * v) + i_2)))), (3, .int i_2), (0, .ref h0), (1, .int v)]) hx hb dX9_some_36 rfl hl (by decide) rfl (fun ls hl => ?_)
    exact hJ_8 _ _ _ _ ⟨g2 (Int32.toNatClampNeg ((16 * v) + i_2)), rfl, ⟨hP, hD⟩, hS, lv_sub hl [1, 0, 2, 3] rfl⟩
theorem him_fixed_X9 : ∀ w ∈ wsX90, w ∈ wsX9_fixed := mem_pl [20, 21, 22, 23, 24, 25, 26, 27, 28, 29, 30, 31, 32, 33, 34, 35, 36] rfl
set_option maxHeartbeats 4000000 in
set_option maxRecDepth 100000 in
theorem m_fixed (l : Launch) (D : va_G) (sz : Nat) (cI : ClassId) (h0 : Nat) (a0 : Nat) (a1 : Nat) (a2 : Nat) (a3 : Nat) (a4 : Nat) (a5 : Nat) (a6 : Nat) (a7 : Nat) (a8 : Nat) (a9 : Nat) (ab : Nat) (tk : Int32) (mm : Int32) (wm : Int32) (fa : Int32) (th : Int32) (se : Int32) (g1 : Nat → Int32) (g2 : Nat → Int32) (v : Int32) (hv : bi v 0 7) : Ci l yX9_fixed wsX9_fixed ({ frames := 2, cells := 0, slots := 0, locals := 43 } : Room) D [.ref h0, .int v] [(h0, .inr (8, [.ref a0, .int tk, .ref a1, .int mm, .ref a2, .ref a3, .ref a4, .ref a5, .ref a6, .ref a7, .int wm, .int fa, .int th, .int se, .ref a8, .ref a9, .ref ab])), (a1, .inl (cI, 80, .inl g1)), (a2, .inl (cI, 128, .inl g2))] [(cI, .int)] sz (fun (r : Int32) => fun (_ : Unit) => True) (fun (_ : Unit) => [(h0, .inr (8, [.ref a0, .int tk, .ref a1, .int mm, .ref a2, .ref a3, .ref a4, .ref a5, .ref a6, .ref a7, .int wm, .int fa, .int th, .int se, .ref a8, .ref a9, .ref ab])), (a1, .inl (cI, 80, .inl g1)), (a2, .inl (cI, 128, .inl g2))]) (fun (_ : Unit) => []) := by
  refine ct_i (cc := cX9_fixed) (maxL := 4) (ret := (some .int)) (by decide) rfl (Nat.le_of_ble_eq_true rfl) ?_
  intro p e s m below meth c A ls H hx hb hr hts hown hml hlocks hin hA hS hP hK hD hNW hl hAe hsz
  have hl : lv_has ls 4 [(0, .ref h0), (1, .int v)] := hl
  refine lv_aload_n hx hb dX9_fixed_0 rfl (lv_at hl 0 rfl) ?_
  refine lv_iload_n hx hb dX9_fixed_1 rfl (lv_at hl 1 rfl) ?_
  refine go_i (wr := [(a1, .inl (cI, 80, .inl g1))]) (tysr := [(cI, .int)]) hP hD hS hA hK [0, 2] [1] [0] rfl rfl (by decide) (by decide) rfl (va_runV (As := [.int v]) (rest := []) ⟨hx, hb, hml, hown, hts⟩ (m_learnt l D H.size cI h0 a0 a1 a2 a3 a4 a5 a6 a7 a8 a9 ab tk mm wm fa th se g2 v (by first | assumption | (clear hml hsz hr hlocks; omega) | decide)) (cwV 1 hts gX9_fixed_X9_learnt rfl rfl rfl (by decide +kernel) ⟨Nat.le_of_ble_eq_true rfl, Nat.le_of_ble_eq_true rfl⟩) (st_preV (ci := 8) (q0 := 0) hP hD hK hNW [0, 2] [0] rfl rfl (by decide) rfl rfl rfl rfl) rfl rfl hl.1 rfl (lv_room (Nat.le_of_ble_eq_true rfl)) dX9_fixed_2 ⟨(Nat.le_of_ble_eq_true rfl), (Nat.le_of_ble_eq_true rfl)⟩) (fun r_1 u H locs hw hP hD hK hS => ?_)
  have hP : va_P D vwCl [(a1, .inl (cI, 80, .inl g1)), (h0, .inr (8, [.ref a0, .int tk, .ref a1, .int mm, .ref a2, .ref a3, .ref a4, .ref a5, .ref a6, .ref a7, .int wm, .int fa, .int th, .int se, .ref a8, .ref a9, .ref ab])), (a2, .inl (cI, 128, .inl g2))] H := hP
  have hD : va_D A [(a1, .inl (cI, 80, .inl g1)), (h0, .inr (8, [.ref a0, .int tk, .ref a1, .int mm, .ref a2, .ref a3, .ref a4, .ref a5, .ref a6, .ref a7, .int wm, .int fa, .int th, .int se, .ref a8, .ref a9, .ref ab])), (a2, .inl (cI, 128, .inl g2))] := hD
  have hK : va_K D vwCl [(cI, .int)] s := hK
  refine jn_S 30 (fun st9 H locs ls => ∃ (q_2 : Int32), st9 = [.int q_2] ∧ (va_P D vwCl [(a1, .inl (cI, 80, .inl g1)), (h0, .inr (8, [.ref a0, .int tk, .ref a1, .int mm, .ref a2, .ref a3, .ref a4, .ref a5, .ref a6, .ref a7, .int wm, .int fa, .int th, .int se, .ref a8, .ref a9, .ref ab])), (a2, .inl (cI, 128, .inl g2))] H ∧ va_D A [(a1, .inl (cI, 80, .inl g1)), (h0, .inr (8, [.ref a0, .int tk, .ref a1, .int mm, .ref a2, .ref a3, .ref a4, .ref a5, .ref a6, .ref a7, .int wm, .int fa, .int th, .int se, .ref a8, .ref a9, .ref ab])), (a2, .inl (cI, 128, .inl g2))]) ∧ va_S A s.heap H locs ∧ lv_has ls 4 [(0, .ref h0), (1, .int v)]) ?_ ?_
  · intro st9 H locs ls hI
    obtain ⟨q_2, rfl, ⟨hP, hD⟩, hS, hl⟩ := hI
    refine lv_istore_n (lv' := [(2, .int q_2), (0, .ref h0), (1, .int v)]) hx hb dX9_fixed_30 rfl hl (by decide) rfl (fun ls hl => ?_)
    refine lv_iconst (v := 0) hx hb dX9_fixed_31 (by decide) ?_
    refine lv_istore_n (lv' := [(3, .int 0), (2, .int q_2), (0, .ref h0), (1, .int v)]) hx hb dX9_fixed_32 rfl hl (by decide) rfl (fun ls hl => ?_)
    refine lp_N (fun n9 H locs ls => ∃ (i2_4 : Int32), ∃ (i_5 : Int32), n9 = (16 - i_5.toInt).toNat ∧ (va_P D vwCl [(a1, .inl (cI, 80, .inl g1)), (h0, .inr (8, [.ref a0, .int tk, .ref a1, .int mm, .ref a2, .ref a3, .ref a4, .ref a5, .ref a6, .ref a7, .int wm, .int fa, .int th, .int se, .ref a8, .ref a9, .ref ab])), (a2, .inl (cI, 128, .inl g2))] H ∧ va_D A [(a1, .inl (cI, 80, .inl g1)), (h0, .inr (8, [.ref a0, .int tk, .ref a1, .int mm, .ref a2, .ref a3, .ref a4, .ref a5, .ref a6, .ref a7, .int wm, .int fa, .int th, .int se, .ref a8, .ref a9, .ref ab])), (a2, .inl (cI, 128, .inl g2))]) ∧ va_S A s.heap H locs ∧ lv_has ls 4 [(3, .int i_5), (2, .int i2_4), (0, .ref h0), (1, .int v)] ∧ (0 ≤ i_5.toInt)) ?_ ⟨q_2, 0, rfl, ⟨hP, hD⟩, hS, hl, (by decide)⟩
    intro n9 ih_6 H locs ls hI
    obtain ⟨i2_4, i_5, rfl, ⟨hP, hD⟩, hS, hl, hv_7⟩ := hI
    refine lv_iload_n hx hb dX9_fixed_33 rfl (lv_at hl 0 rfl) ?_
    refine lv_bipush (v := 16) hx hb dX9_fixed_34 (by decide) ?_
    refine lv_icmp_ge (tgt := 82) hx hb dX9_fixed_36 (by decide) (fun c_8 => ?_) (fun c_8 => ?_)
    · refine lv_iload_n hx hb dX9_fixed_82 rfl (lv_at hl 1 rfl) ?_
      exact ret_i hx hb hr hlocks rfl (u := ()) trivial (hP.sub [1, 0, 2] rfl) (hK.sub [] rfl) (hD.sub [1, 0, 2] (by decide) rfl) hS (Nat.le_of_ble_eq_true rfl) (Nat.le_of_ble_eq_true rfl) dX9_fixed_83
    refine jn_S 76 (fun st9 H locs ls => ∃ (i2_9 : Int32), st9 = [] ∧ (va_P D vwCl [(a1, .inl (cI, 80, .inl g1)), (h0, .inr (8, [.ref a0, .int tk, .ref a1, .int mm, .ref a2, .ref a3, .ref a4, .ref a5, .ref a6, .ref a7, .int wm, .int fa, .int th, .int se, .ref a8, .ref a9, .ref ab])), (a2, .inl (cI, 128, .inl g2))] H ∧ va_D A [(a1, .inl (cI, 80, .inl g1)), (h0, .inr (8, [.ref a0, .int tk, .ref a1, .int mm, .ref a2, .ref a3, .ref a4, .ref a5, .ref a6, .ref a7, .int wm, .int fa, .int th, .int se, .ref a8, .ref a9, .ref ab])), (a2, .inl (cI, 128, .inl g2))]) ∧ va_S A s.heap H locs ∧ lv_has ls 4 [(3, .int i_5), (2, .int i2_9), (0, .ref h0), (1, .int v)]) ?_ ?_
    · intro st9 H locs ls hI
      obtain ⟨i2_9, rfl, ⟨hP, hD⟩, hS, hl⟩ := hI
      refine lv_iinc (v := i_5 + 1) (lv' := [(3, .int (i_5 + 1)), (2, .int i2_9), (0, .ref h0), (1, .int v)]) hx hb dX9_fixed_76 hl (k := 0) rfl (ii_p1 _) (by decide) rfl (fun ls hl => ?_)
      refine lv_goto (tgt := 33) hx hb dX9_fixed_79 (by decide) ?_
      exact ih_6 _ _ _ _ (by clear hml hsz hr hlocks; have : (16 : Int32).toInt = 16 := (by decide); have := ti_nle c_8; have kn : (16 : Int32).toInt = 16 := (by decide); have u1 := ti_up (i := i_5) (n := 16) (by omega); omega) ⟨i2_9, i_5 + 1, rfl, ⟨hP, hD⟩, hS, lv_sub hl [0, 1, 2, 3] rfl, (by clear hml hsz hr hlocks; have : (16 : Int32).toInt = 16 := (by decide); have := ti_nle c_8; have kn : (16 : Int32).toInt = 16 := (by decide); have u1 := ti_up (i := i_5) (n := 16) (by omega); omega)⟩
    · intro hJ_11
      refine lv_aload_n hx hb dX9_fixed_39 rfl (lv_at hl 2 rfl) ?_
      refine va_get (D := D) (ci := 8) (v := .ref a2) (C := RX9) (T := TX9) (N := 17) hx hb hts him_fixed_X9 hown hK hP 1 rfl rfl 4 (by decide) (hts (.fieldLink RX9 16 "OneHandsetModel" "keys" "[I") (List.mem_of_getElem? (i := 1) rfl)) (fun _ h9 => h9) rfl dX9_fixed_40 ?_
      refine lv_bipush (v := 16) hx hb dX9_fixed_43 (by decide) ?_
      refine lv_iload_n hx hb dX9_fixed_45 rfl (lv_at hl 3 rfl) ?_
      refine lv_imul hx hb dX9_fixed_46 ?_
      refine lv_iload_n hx hb dX9_fixed_47 rfl (lv_at hl 0 rfl) ?_
      refine lv_iadd hx hb dX9_fixed_48 ?_
      refine va_iald hx hb hK hP 2 0 rfl rfl (by clear hml hsz hr hlocks; have : (16 : Int32).toInt = 16 := (by decide); have := ti_nle c_8; have u3 := ix16 (m := v) (w := i_5) hv (by have : (16 : Int32).toInt = 16 := (by decide); have := ti_nle c_8; omega); exact vp_in_iff.mpr (by omega)) dX9_fixed_49 ?_
      refine lv_iconst (v := (-1)) hx hb dX9_fixed_50 (by decide) ?_
      refine lv_icmp_eq (tgt := 76) hx hb dX9_fixed_51 (by decide) (fun c_12 => ?_) (fun c_12 => ?_)
      · exact hJ_11 _ _ _ _ ⟨i2_4, rfl, ⟨hP, hD⟩, hS, lv_sub hl [0, 1, 2, 3] rfl⟩
      refine lv_iload_n hx hb dX9_fixed_54 rfl (lv_at hl 1 rfl) ?_
      refine lv_aload_n hx hb dX9_fixed_55 rfl (lv_at hl 2 rfl) ?_
      refine va_get (D := D) (ci := 8) (v := .ref a2) (C := RX9) (T := TX9) (N := 17) hx hb hts him_fixed_X9 hown hK hP 1 rfl rfl 4 (by decide) (hts (.fieldLink RX9 16 "OneHandsetModel" "keys" "[I") (List.mem_of_getElem? (i := 1) rfl)) (fun _ h9 => h9) rfl dX9_fixed_56 ?_
      refine lv_bipush (v := 16) hx hb dX9_fixed_59 (by decide) ?_
      refine lv_iload_n hx hb dX9_fixed_61 rfl (lv_at hl 3 rfl) ?_
      refine lv_imul hx hb dX9_fixed_62 ?_
      refine lv_iload_n hx hb dX9_fixed_63 rfl (lv_at hl 0 rfl) ?_
      refine lv_iadd hx hb dX9_fixed_64 ?_
      refine va_iald hx hb hK hP 2 0 rfl rfl (by clear hml hsz hr hlocks; have : ((-1) : Int32).toInt = -1 := (by decide); have : (16 : Int32).toInt = 16 := (by decide); have := ti_nle c_8; have := ti_ne c_12; have u3 := ix16 (m := v) (w := i_5) hv (by have : ((-1) : Int32).toInt = -1 := (by decide); have : (16 : Int32).toInt = 16 := (by decide); have := ti_nle c_8; have := ti_ne c_12; omega); exact vp_in_iff.mpr (by omega)) dX9_fixed_65 ?_
      refine lv_aload_n hx hb dX9_fixed_66 rfl (lv_at hl 2 rfl) ?_
      refine lv_iload_n hx hb dX9_fixed_67 rfl (lv_at hl 3 rfl) ?_
      refine go_i (wr := [(a1, .inl (cI, 80, .inl g1))]) (tysr := [(cI, .int)]) hP hD hS hA hK [1, 2] [0] [0] rfl rfl (by decide) (by decide) rfl (va_runV (As := [.int v]) (rest := [.int (g2 (Int32.toNatClampNeg ((16 * v) + i_5))), .int i2_4]) ⟨hx, hb, hml, hown, hts⟩ (m_some l D H.size cI h0 a0 a1 a2 a3 a4 a5 a6 a7 a8 a9 ab tk mm wm fa th se g2 v (by first | assumption | (clear hml hsz hr hlocks; omega) | decide)) (cwV 1 hts gX9_fixed_X9_some rfl rfl rfl (by decide +kernel) ⟨Nat.le_of_ble_eq_true rfl, Nat.le_of_ble_eq_true rfl⟩) (st_preV (ci := 8) (q0 := 1) hP hD hK hNW [1, 2] [0] rfl rfl (by decide) rfl rfl rfl rfl) rfl rfl hl.1 rfl (lv_room (Nat.le_of_ble_eq_true rfl)) dX9_fixed_68 ⟨(Nat.le_of_ble_eq_true rfl), (Nat.le_of_ble_eq_true rfl)⟩) (fun r_13 u H locs hw hP hD hK hS => ?_)
      have hP : va_P D vwCl [(a1, .inl (cI, 80, .inl g1)), (h0, .inr (8, [.ref a0, .int tk, .ref a1, .int mm, .ref a2, .ref a3, .ref a4, .ref a5, .ref a6, .ref a7, .int wm, .int fa, .int th, .int se, .ref a8, .ref a9, .ref ab])), (a2, .inl (cI, 128, .inl g2))] H := hP
      have hD : va_D A [(a1, .inl (cI, 80, .inl g1)), (h0, .inr (8, [.ref a0, .int tk, .ref a1, .int mm, .ref a2, .ref a3, .ref a4, .ref a5, .ref a6, .ref a7, .int wm, .int fa, .int th, .int se, .ref a8, .ref a9, .ref ab])), (a2, .inl (cI, 128, .inl g2))] := hD
      have hK : va_K D vwCl [(cI, .int)] s := hK
      refine lv_ixor hx hb dX9_fixed_71 ?_
      refine lv_iconst (v := (-1)) hx hb dX9_fixed_72 (by decide) ?_
      refine lv_ixor hx hb dX9_fixed_73 ?_
      refine lv_iand hx hb dX9_fixed_74 ?_
      refine lv_istore_n (lv' := [(2, .int (i2_4 &&& (((g2 (Int32.toNatClampNeg ((16 * v) + i_5))) ^^^ r_13) ^^^ (-1)))), (3, .int i_5), (0, .ref h0), (1, .int v)]) hx hb dX9_fixed_75 rfl hl (by decide) rfl (fun ls hl => ?_)
      exact hJ_11 _ _ _ _ ⟨i2_4 &&& (((g2 (Int32.toNatClampNeg ((16 * v) + i_5))) ^^^ r_13) ^^^ (-1)), rfl, ⟨hP, hD⟩, hS, lv_sub hl [1, 0, 2, 3] rfl⟩
  · intro hJ_14
    refine lv_if_ne (tgt := 12) hx hb dX9_fixed_5 (by decide) (fun c_15 => ?_) (fun c_15 => ?_)
    · refine lv_iconst (v := 1) hx hb dX9_fixed_12 (by decide) ?_
      refine lv_aload_n hx hb dX9_fixed_13 rfl (lv_at hl 0 rfl) ?_
      refine lv_iload_n hx hb dX9_fixed_14 rfl (lv_at hl 1 rfl) ?_
      refine lv_iconst (v := 1) hx hb dX9_fixed_15 (by decide) ?_
      refine go_i (wr := [(a2, .inl (cI, 128, .inl g2))]) (tysr := [(cI, .int)]) hP hD hS hA hK [1, 0] [2] [0] rfl rfl (by decide) (by decide) rfl (va_runV (As := [.int v, .int 1]) (rest := [.int 1]) ⟨hx, hb, hml, hown, hts⟩ (m_get l D H.size cI h0 a0 a1 a2 a3 a4 a5 a6 a7 a8 a9 ab tk mm wm fa th se g1 v 1 (by first | assumption | (clear hml hsz hr hlocks; omega) | decide) (by first | assumption | (clear hml hsz hr hlocks; omega) | decide)) (cwV 2 hts gX9_fixed_X9_get rfl rfl rfl (by decide +kernel) ⟨Nat.le_of_ble_eq_true rfl, Nat.le_of_ble_eq_true rfl⟩) (st_preV (ci := 8) (q0 := 1) hP hD hK hNW [1, 0] [0] rfl rfl (by decide) rfl rfl rfl rfl) rfl rfl hl.1 rfl (lv_room (Nat.le_of_ble_eq_true rfl)) dX9_fixed_16 ⟨(Nat.le_of_ble_eq_true rfl), (Nat.le_of_ble_eq_true rfl)⟩) (fun r_16 u H locs hw hP hD hK hS => ?_)
      have hw : r_16 = g1 (Int32.toNatClampNeg (10 * v + 1)) := hw
      subst hw
      have hP : va_P D vwCl [(a2, .inl (cI, 128, .inl g2)), (h0, .inr (8, [.ref a0, .int tk, .ref a1, .int mm, .ref a2, .ref a3, .ref a4, .ref a5, .ref a6, .ref a7, .int wm, .int fa, .int th, .int se, .ref a8, .ref a9, .ref ab])), (a1, .inl (cI, 80, .inl g1))] H := hP
      have hD : va_D A [(a2, .inl (cI, 128, .inl g2)), (h0, .inr (8, [.ref a0, .int tk, .ref a1, .int mm, .ref a2, .ref a3, .ref a4, .ref a5, .ref a6, .ref a7, .int wm, .int fa, .int th, .int se, .ref a8, .ref a9, .ref ab])), (a1, .inl (cI, 80, .inl g1))] := hD
      have hK : va_K D vwCl [(cI, .int)] s := hK
      refine lv_ishl hx hb dX9_fixed_19 ?_
      refine lv_iconst (v := 1) hx hb dX9_fixed_20 (by decide) ?_
      refine lv_isub hx hb dX9_fixed_21 ?_
      refine lv_aload_n hx hb dX9_fixed_22 rfl (lv_at hl 0 rfl) ?_
      refine lv_iload_n hx hb dX9_fixed_23 rfl (lv_at hl 1 rfl) ?_
      refine go_i (wr := [(a2, .inl (cI, 128, .inl g2))]) (tysr := [(cI, .int)]) hP hD hS hA hK [1, 2] [0] [0] rfl rfl (by decide) (by decide) rfl (va_runV (As := [.int v]) (rest := [.int ((1 <<< ((g1 (Int32.toNatClampNeg (10 * v + 1))) &&& 31)) - 1)]) ⟨hx, hb, hml, hown, hts⟩ (m_flipOf l D H.size cI h0 a0 a1 a2 a3 a4 a5 a6 a7 a8 a9 ab tk mm wm fa th se g1 v (by first | assumption | (clear hml hsz hr hlocks; omega) | decide)) (cwV 1 hts gX9_fixed_X9_flipOf rfl rfl rfl (by decide +kernel) ⟨Nat.le_of_ble_eq_true rfl, Nat.le_of_ble_eq_true rfl⟩) (st_preV (ci := 8) (q0 := 1) hP hD hK hNW [1, 2] [0] rfl rfl (by decide) rfl rfl rfl rfl) rfl rfl hl.1 rfl (lv_room (Nat.le_of_ble_eq_true rfl)) dX9_fixed_24 ⟨(Nat.le_of_ble_eq_true rfl), (Nat.le_of_ble_eq_true rfl)⟩) (fun r_17 u H locs hw hP hD hK hS => ?_)
      have hP : va_P D vwCl [(a2, .inl (cI, 128, .inl g2)), (h0, .inr (8, [.ref a0, .int tk, .ref a1, .int mm, .ref a2, .ref a3, .ref a4, .ref a5, .ref a6, .ref a7, .int wm, .int fa, .int th, .int se, .ref a8, .ref a9, .ref ab])), (a1, .inl (cI, 80, .inl g1))] H := hP
      have hD : va_D A [(a2, .inl (cI, 128, .inl g2)), (h0, .inr (8, [.ref a0, .int tk, .ref a1, .int mm, .ref a2, .ref a3, .ref a4, .ref a5, .ref a6, .ref a7, .int wm, .int fa, .int th, .int se, .ref a8, .ref a9, .ref ab])), (a1, .inl (cI, 80, .inl g1))] := hD
      have hK : va_K D vwCl [(cI, .int)] s := hK
      refine lv_iconst (v := (-1)) hx hb dX9_fixed_27 (by decide) ?_
      refine lv_ixor hx hb dX9_fixed_28 ?_
      refine lv_iand hx hb dX9_fixed_29 ?_
      exact hJ_14 _ _ _ _ ⟨((1 <<< ((g1 (Int32.toNatClampNeg (10 * v + 1))) &&& 31)) - 1) &&& (r_17 ^^^ (-1)), rfl, ⟨hP.sub [2, 1, 0] rfl, hD.sub [2, 1, 0] (by decide) rfl⟩, hS, lv_sub hl [0, 1] rfl⟩
    refine lv_iconst (v := 0) hx hb dX9_fixed_8 (by decide) ?_
    refine lv_goto (tgt := 30) hx hb dX9_fixed_9 (by decide) ?_
    exact hJ_14 _ _ _ _ ⟨0, rfl, ⟨hP, hD⟩, hS, lv_sub hl [0, 1] rfl⟩
set_option maxHeartbeats 4000000 in
set_option maxRecDepth 100000 in
theorem m_sumOf (l : Launch) (D : va_G) (sz : Nat) (v : Int32) (w : Int32)  : Ci l yX9_sumOf wsX9_sumOf ({ frames := 0, cells := 0, slots := 0, locals := 0 } : Room) D [.int v, .int w] [] [] sz (fun (r : Int32) => fun (_ : Unit) => True) (fun (_ : Unit) => []) (fun (_ : Unit) => []) := by
  refine ct_i (cc := cX9_sumOf) (maxL := 4) (ret := (some .int)) (by decide) rfl (Nat.le_of_ble_eq_true rfl) ?_
  intro p e s m below meth c A ls H hx hb hr hts hown hml hlocks hin hA hS hP hK hD hNW hl hAe hsz
  have hl : lv_has ls 4 [(0, .int v), (1, .int w)] := hl
  refine lv_iconst (v := 0) hx hb dX9_sumOf_0 (by decide) ?_
  refine lv_istore_n (lv' := [(2, .int 0), (0, .int v), (1, .int w)]) hx hb dX9_sumOf_1 rfl hl (by decide) rfl (fun ls hl => ?_)
  refine lv_iload_n hx hb dX9_sumOf_2 rfl (lv_at hl 1 rfl) ?_
  refine lv_iconst (v := 4) hx hb dX9_sumOf_3 (by decide) ?_
  refine lv_ishr hx hb dX9_sumOf_4 ?_
  refine lv_istore_n (lv' := [(3, .int (v >>> (4 &&& 31))), (2, .int 0), (0, .int v), (1, .int w)]) hx hb dX9_sumOf_5 rfl hl (by decide) rfl (fun ls hl => ?_)
  refine lp_N (fun n9 H locs ls => ∃ (i2_1 : Int32), ∃ (i_2 : Int32), n9 = (i_2.toInt).toNat ∧ (va_P D vwCl [] H ∧ va_D A []) ∧ va_S A s.heap H locs ∧ lv_has ls 4 [(3, .int i_2), (2, .int i2_1), (0, .int v), (1, .int w)]) ?_ ⟨0, v >>> (4 &&& 31), rfl, ⟨hP, hD⟩, hS, hl⟩
  intro n9 ih_3 H locs ls hI
  obtain ⟨i2_1, i_2, rfl, ⟨hP, hD⟩, hS, hl⟩ := hI
  refine lv_iload_n hx hb dX9_sumOf_6 rfl (lv_at hl 0 rfl) ?_
  refine lv_if_le (tgt := 41) hx hb dX9_sumOf_7 (by decide) (fun c_5 => ?_) (fun c_5 => ?_)
  · refine lv_iload_n hx hb dX9_sumOf_41 rfl (lv_at hl 1 rfl) ?_
    exact ret_i hx hb hr hlocks rfl (u := ()) trivial (hP.sub [] rfl) (hK.sub [] rfl) (hD.sub [] (by decide) rfl) hS (Nat.le_of_ble_eq_true rfl) (Nat.le_of_ble_eq_true rfl) dX9_sumOf_42
  refine jn_S 33 (fun st9 H locs ls => ∃ (q_6 : Int32), st9 = [.int q_6] ∧ (va_P D vwCl [] H ∧ va_D A []) ∧ va_S A s.heap H locs ∧ lv_has ls 4 [(3, .int i_2), (2, .int i2_1), (0, .int v), (1, .int w)]) ?_ ?_
  · intro st9 H locs ls hI
    obtain ⟨q_6, rfl, ⟨hP, hD⟩, hS, hl⟩ := hI
    refine lv_istore_n (lv' := [(2, .int q_6), (3, .int i_2), (0, .int v), (1, .int w)]) hx hb dX9_sumOf_33 rfl hl (by decide) rfl (fun ls hl => ?_)
    refine lv_iload_n hx hb dX9_sumOf_34 rfl (lv_at hl 1 rfl) ?_
    refine lv_iconst (v := 4) hx hb dX9_sumOf_35 (by decide) ?_
    refine lv_ishr hx hb dX9_sumOf_36 ?_
    refine lv_istore_n (lv' := [(3, .int (i_2 >>> (4 &&& 31))), (2, .int q_6), (0, .int v), (1, .int w)]) hx hb dX9_sumOf_37 rfl hl (by decide) rfl (fun ls hl => ?_)
    refine lv_goto (tgt := 6) hx hb dX9_sumOf_38 (by decide) ?_
    exact ih_3 _ _ _ _ (by clear hml hsz hr hlocks; have : (0 : Int32).toInt = 0 := (by decide); have := ti_nle c_5; have u4 := shr4 (x := i_2) (by omega); omega) ⟨q_6, i_2 >>> (4 &&& 31), rfl, ⟨hP, hD⟩, hS, lv_sub hl [0, 1, 2, 3] rfl⟩
  · intro hJ_8
    refine lv_iload_n hx hb dX9_sumOf_10 rfl (lv_at hl 3 rfl) ?_
    refine lv_iconst (v := 1) hx hb dX9_sumOf_11 (by decide) ?_
    refine lv_icmp_ne (tgt := 27) hx hb dX9_sumOf_12 (by decide) (fun c_9 => ?_) (fun c_9 => ?_)
    · refine lv_iload_n hx hb dX9_sumOf_27 rfl (lv_at hl 1 rfl) ?_
      refine lv_iload_n hx hb dX9_sumOf_28 rfl (lv_at hl 0 rfl) ?_
      refine lv_bipush (v := 15) hx hb dX9_sumOf_29 (by decide) ?_
      refine lv_iand hx hb dX9_sumOf_31 ?_
      refine lv_ixor hx hb dX9_sumOf_32 ?_
      exact hJ_8 _ _ _ _ ⟨i2_1 ^^^ (i_2 &&& 15), rfl, ⟨hP, hD⟩, hS, lv_sub hl [0, 1, 2, 3] rfl⟩
    refine lv_iload_n hx hb dX9_sumOf_15 rfl (lv_at hl 1 rfl) ?_
    refine lv_iload_n hx hb dX9_sumOf_16 rfl (lv_at hl 0 rfl) ?_
    refine lv_bipush (v := 15) hx hb dX9_sumOf_17 (by decide) ?_
    refine lv_iand hx hb dX9_sumOf_19 ?_
    refine lv_iadd hx hb dX9_sumOf_20 ?_
    refine lv_bipush (v := 15) hx hb dX9_sumOf_21 (by decide) ?_
    refine lv_iand hx hb dX9_sumOf_23 ?_
    refine lv_goto (tgt := 33) hx hb dX9_sumOf_24 (by decide) ?_
    exact hJ_8 _ _ _ _ ⟨(i2_1 + (i_2 &&& 15)) &&& 15, rfl, ⟨hP, hD⟩, hS, lv_sub hl [0, 1, 2, 3] rfl⟩
set_option maxHeartbeats 4000000 in
set_option maxRecDepth 100000 in
theorem m_numberOf (l : Launch) (D : va_G) (sz : Nat) (cI : ClassId) (h0 : Nat) (a0 : Nat) (a1 : Nat) (a2 : Nat) (a3 : Nat) (a4 : Nat) (a5 : Nat) (a6 : Nat) (a7 : Nat) (a8 : Nat) (a9 : Nat) (ab : Nat) (tk : Int32) (mm : Int32) (wm : Int32) (fa : Int32) (th : Int32) (se : Int32) (g1 : Nat → Int32) (v : Int32) (w : Int32) (x : Int32) (hv : bi v 0 7) : Ci l yX9_numberOf wsX9_numberOf ({ frames := 1, cells := 0, slots := 0, locals := 23 } : Room) D [.ref h0, .int v, .int w, .int x] [(h0, .inr (8, [.ref a0, .int tk, .ref a1, .int mm, .ref a2, .ref a3, .ref a4, .ref a5, .ref a6, .ref a7, .int wm, .int fa, .int th, .int se, .ref a8, .ref a9, .ref ab])), (a1, .inl (cI, 80, .inl g1))] [(cI, .int)] sz (fun (r : Int32) => fun (_ : Unit) => True) (fun (_ : Unit) => [(h0, .inr (8, [.ref a0, .int tk, .ref a1, .int mm, .ref a2, .ref a3, .ref a4, .ref a5, .ref a6, .ref a7, .int wm, .int fa, .int th, .int se, .ref a8, .ref a9, .ref ab])), (a1, .inl (cI, 80, .inl g1))]) (fun (_ : Unit) => []) := by
  refine ct_i (cc := cX9_numberOf) (maxL := 6) (ret := (some .int)) (by decide) rfl (Nat.le_of_ble_eq_true rfl) ?_
  intro p e s m below meth c A ls H hx hb hr hts hown hml hlocks hin hA hS hP hK hD hNW hl hAe hsz
  have hl : lv_has ls 6 [(0, .ref h0), (1, .int v), (2, .int w), (3, .int x)] := hl
  refine lv_aload_n hx hb dX9_numberOf_0 rfl (lv_at hl 0 rfl) ?_
  refine lv_iload_n hx hb dX9_numberOf_1 rfl (lv_at hl 1 rfl) ?_
  refine lv_iconst (v := 1) hx hb dX9_numberOf_2 (by decide) ?_
  refine go_i (wr := []) (tysr := [(cI, .int)]) hP hD hS hA hK [0, 1] [] [0] rfl rfl (by decide) (by decide) rfl (va_runV (As := [.int v, .int 1]) (rest := []) ⟨hx, hb, hml, hown, hts⟩ (m_get l D H.size cI h0 a0 a1 a2 a3 a4 a5 a6 a7 a8 a9 ab tk mm wm fa th se g1 v 1 (by first | assumption | (clear hml hsz hr hlocks; omega) | decide) (by first | assumption | (clear hml hsz hr hlocks; omega) | decide)) (cwV 2 hts gX9_numberOf_X9_get rfl rfl rfl (by decide +kernel) ⟨Nat.le_of_ble_eq_true rfl, Nat.le_of_ble_eq_true rfl⟩) (st_preV (ci := 8) (q0 := 0) hP hD hK hNW [0, 1] [0] rfl rfl (by decide) rfl rfl rfl rfl) rfl rfl hl.1 rfl (lv_room (Nat.le_of_ble_eq_true rfl)) dX9_numberOf_3 ⟨(Nat.le_of_ble_eq_true rfl), (Nat.le_of_ble_eq_true rfl)⟩) (fun r_1 u H locs hw hP hD hK hS => ?_)
  have hw : r_1 = g1 (Int32.toNatClampNeg (10 * v + 1)) := hw
  subst hw
  have hP : va_P D vwCl [(h0, .inr (8, [.ref a0, .int tk, .ref a1, .int mm, .ref a2, .ref a3, .ref a4, .ref a5, .ref a6, .ref a7, .int wm, .int fa, .int th, .int se, .ref a8, .ref a9, .ref ab])), (a1, .inl (cI, 80, .inl g1))] H := hP
  have hD : va_D A [(h0, .inr (8, [.ref a0, .int tk, .ref a1, .int mm, .ref a2, .ref a3, .ref a4, .ref a5, .ref a6, .ref a7, .int wm, .int fa, .int th, .int se, .ref a8, .ref a9, .ref ab])), (a1, .inl (cI, 80, .inl g1))] := hD
  have hK : va_K D vwCl [(cI, .int)] s := hK
  refine lv_istore (lv' := [(4, .int (g1 (Int32.toNatClampNeg (10 * v + 1)))), (0, .ref h0), (1, .int v), (2, .int w), (3, .int x)]) hx hb dX9_numberOf_6 hl (by decide) rfl (fun ls hl => ?_)
  refine lv_iload hx hb dX9_numberOf_8 (lv_at hl 0 rfl) ?_
  refine lv_iconst (v := 5) hx hb dX9_numberOf_10 (by decide) ?_
  refine lv_icmp_ge (tgt := 16) hx hb dX9_numberOf_11 (by decide) (fun c_2 => ?_) (fun c_2 => ?_)
  · refine lv_iload_n hx hb dX9_numberOf_16 rfl (lv_at hl 4 rfl) ?_
    refine lv_iconst (v := 1) hx hb dX9_numberOf_17 (by decide) ?_
    refine lv_icmp_ne (tgt := 35) hx hb dX9_numberOf_18 (by decide) (fun c_3 => ?_) (fun c_3 => ?_)
    · refine lv_iload_n hx hb dX9_numberOf_35 rfl (lv_at hl 4 rfl) ?_
      refine lv_iconst (v := 2) hx hb dX9_numberOf_36 (by decide) ?_
      refine lv_icmp_ne (tgt := 51) hx hb dX9_numberOf_37 (by decide) (fun c_4 => ?_) (fun c_4 => ?_)
      · refine lv_iload hx hb dX9_numberOf_51 (lv_at hl 0 rfl) ?_
        refine lv_iconst (v := 2) hx hb dX9_numberOf_53 (by decide) ?_
        refine lv_irem hx hb dX9_numberOf_54 (by decide) ?_
        refine lv_topi (fun y_5 _ => ?_)
        refine lv_iconst (v := 1) hx hb dX9_numberOf_55 (by decide) ?_
        refine lv_icmp_eq (tgt := 70) hx hb dX9_numberOf_56 (by decide) (fun c_6 => ?_) (fun c_6 => ?_)
        · refine lv_iconst (v := (-1)) hx hb dX9_numberOf_70 (by decide) ?_
          exact ret_i hx hb hr hlocks rfl (u := ()) trivial (hP.sub [0, 1] rfl) (hK.sub [] rfl) (hD.sub [0, 1] (by decide) rfl) hS (Nat.le_of_ble_eq_true rfl) (Nat.le_of_ble_eq_true rfl) dX9_numberOf_71
        refine lv_aload_n hx hb dX9_numberOf_59 rfl (lv_at hl 1 rfl) ?_
        refine lv_iload_n hx hb dX9_numberOf_60 rfl (lv_at hl 2 rfl) ?_
        refine lv_bipush (v := 8) hx hb dX9_numberOf_61 (by decide) ?_
        refine go_i (wr := []) (tysr := [(cI, .int)]) hP hD hS hA hK [0, 1] [] [0] rfl rfl (by decide) (by decide) rfl (va_runV (As := [.int v, .int 8]) (rest := []) ⟨hx, hb, hml, hown, hts⟩ (m_get l D H.size cI h0 a0 a1 a2 a3 a4 a5 a6 a7 a8 a9 ab tk mm wm fa th se g1 v 8 (by first | assumption | (clear hml hsz hr hlocks; omega) | decide) (by first | assumption | (clear hml hsz hr hlocks; omega) | decide)) (cwV 2 hts gX9_numberOf_X9_get rfl rfl rfl (by decide +kernel) ⟨Nat.le_of_ble_eq_true rfl, Nat.le_of_ble_eq_true rfl⟩) (st_preV (ci := 8) (q0 := 0) hP hD hK hNW [0, 1] [0] rfl rfl (by decide) rfl rfl rfl rfl) rfl rfl hl.1 rfl (lv_room (Nat.le_of_ble_eq_true rfl)) dX9_numberOf_63 ⟨(Nat.le_of_ble_eq_true rfl), (Nat.le_of_ble_eq_true rfl)⟩) (fun r_7 u H locs hw hP hD hK hS => ?_)
        have hw : r_7 = g1 (Int32.toNatClampNeg (10 * v + 8)) := hw
        subst hw
        have hP : va_P D vwCl [(h0, .inr (8, [.ref a0, .int tk, .ref a1, .int mm, .ref a2, .ref a3, .ref a4, .ref a5, .ref a6, .ref a7, .int wm, .int fa, .int th, .int se, .ref a8, .ref a9, .ref ab])), (a1, .inl (cI, 80, .inl g1))] H := hP
        have hD : va_D A [(h0, .inr (8, [.ref a0, .int tk, .ref a1, .int mm, .ref a2, .ref a3, .ref a4, .ref a5, .ref a6, .ref a7, .int wm, .int fa, .int th, .int se, .ref a8, .ref a9, .ref ab])), (a1, .inl (cI, 80, .inl g1))] := hD
        have hK : va_K D vwCl [(cI, .int)] s := hK
        refine lv_iconst (v := (-1)) hx hb dX9_numberOf_66 (by decide) ?_
        refine lv_icmp_eq (tgt := 72) hx hb dX9_numberOf_67 (by decide) (fun c_8 => ?_) (fun c_8 => ?_)
        · refine lv_iconst (v := 1) hx hb dX9_numberOf_72 (by decide) ?_
          refine lv_iload hx hb dX9_numberOf_73 (lv_at hl 0 rfl) ?_
          refine lv_iconst (v := 2) hx hb dX9_numberOf_75 (by decide) ?_
          refine lv_idiv hx hb dX9_numberOf_76 (by decide) ?_
          refine lv_topi (fun y_9 _ => ?_)
          refine lv_ishl hx hb dX9_numberOf_77 ?_
          refine lv_topi (fun y_10 _ => ?_)
          refine lv_iconst (v := 1) hx hb dX9_numberOf_78 (by decide) ?_
          refine lv_isub hx hb dX9_numberOf_79 ?_
          refine lv_topi (fun y_11 _ => ?_)
          refine lv_istore (lv' := [(5, .int y_11), (4, .int (g1 (Int32.toNatClampNeg (10 * v + 1)))), (0, .ref h0), (1, .int v), (2, .int w), (3, .int x)]) hx hb dX9_numberOf_80 hl (by decide) rfl (fun ls hl => ?_)
          refine lv_iload_n hx hb dX9_numberOf_82 rfl (lv_at hl 4 rfl) ?_
          refine lv_iload hx hb dX9_numberOf_83 (lv_at hl 1 rfl) ?_
          refine lv_iconst (v := 2) hx hb dX9_numberOf_85 (by decide) ?_
          refine lv_idiv hx hb dX9_numberOf_86 (by decide) ?_
          refine lv_topi (fun y_12 _ => ?_)
          refine lv_ishr hx hb dX9_numberOf_87 ?_
          refine lv_topi (fun y_13 _ => ?_)
          refine lv_iload_n hx hb dX9_numberOf_88 rfl (lv_at hl 4 rfl) ?_
          refine lv_iload hx hb dX9_numberOf_89 (lv_at hl 0 rfl) ?_
          refine lv_iand hx hb dX9_numberOf_91 ?_
          refine lv_topi (fun y_14 _ => ?_)
          refine lv_ixor hx hb dX9_numberOf_92 ?_
          refine lv_topi (fun y_15 _ => ?_)
          refine lv_iload hx hb dX9_numberOf_93 (lv_at hl 0 rfl) ?_
          refine lv_icmp_ne (tgt := 102) hx hb dX9_numberOf_95 (by decide) (fun c_16 => ?_) (fun c_16 => ?_)
          · refine lv_iconst (v := (-1)) hx hb dX9_numberOf_102 (by decide) ?_
            exact ret_i hx hb hr hlocks rfl (u := ()) trivial (hP.sub [0, 1] rfl) (hK.sub [] rfl) (hD.sub [0, 1] (by decide) rfl) hS (Nat.le_of_ble_eq_true rfl) (Nat.le_of_ble_eq_true rfl) dX9_numberOf_103
          refine lv_iconst (v := 0) hx hb dX9_numberOf_98 (by decide) ?_
          refine lv_goto (tgt := 103) hx hb dX9_numberOf_99 (by decide) ?_
          exact ret_i hx hb hr hlocks rfl (u := ()) trivial (hP.sub [0, 1] rfl) (hK.sub [] rfl) (hD.sub [0, 1] (by decide) rfl) hS (Nat.le_of_ble_eq_true rfl) (Nat.le_of_ble_eq_true rfl) dX9_numberOf_103
        refine lv_iconst (v := (-1)) hx hb dX9_numberOf_70 (by decide) ?_
        exact ret_i hx hb hr hlocks rfl (u := ()) trivial (hP.sub [0, 1] rfl) (hK.sub [] rfl) (hD.sub [0, 1] (by decide) rfl) hS (Nat.le_of_ble_eq_true rfl) (Nat.le_of_ble_eq_true rfl) dX9_numberOf_71
      refine lv_iload_n hx hb dX9_numberOf_40 rfl (lv_at hl 3 rfl) ?_
      refine lv_bipush (v := 15) hx hb dX9_numberOf_41 (by decide) ?_
      refine lv_iand hx hb dX9_numberOf_43 ?_
      refine lv_topi (fun y_17 _ => ?_)
      refine lv_iload_n hx hb dX9_numberOf_44 rfl (lv_at hl 3 rfl) ?_
      refine lv_iconst (v := 2) hx hb dX9_numberOf_45 (by decide) ?_
      refine go_i (wr := [(h0, .inr (8, [.ref a0, .int tk, .ref a1, .int mm, .ref a2, .ref a3, .ref a4, .ref a5, .ref a6, .ref a7, .int wm, .int fa, .int th, .int se, .ref a8, .ref a9, .ref ab])), (a1, .inl (cI, 80, .inl g1))]) (tysr := [(cI, .int)]) hP hD hS hA hK [] [0, 1] [0] rfl rfl (by decide) (by decide) rfl (va_runS (As := [.int w, .int 2]) (rest := [.int y_17]) ⟨hx, hb, hml, hown, hts⟩ (m_sumOf l D H.size w 2 ) (va_cwS 2 hts gX9_numberOf_X9_sumOf rfl rfl rfl (by decide +kernel) ⟨Nat.le_of_ble_eq_true rfl, Nat.le_of_ble_eq_true rfl⟩) (st_preS hP hD hK hNW [] [] rfl rfl (by decide) rfl) rfl rfl hl.1 rfl (lv_room (Nat.le_of_ble_eq_true rfl)) dX9_numberOf_46 ⟨(Nat.le_of_ble_eq_true rfl), (Nat.le_of_ble_eq_true rfl)⟩) (fun r_18 u H locs hw hP hD hK hS => ?_)
      have hP : va_P D vwCl [(h0, .inr (8, [.ref a0, .int tk, .ref a1, .int mm, .ref a2, .ref a3, .ref a4, .ref a5, .ref a6, .ref a7, .int wm, .int fa, .int th, .int se, .ref a8, .ref a9, .ref ab])), (a1, .inl (cI, 80, .inl g1))] H := hP
      have hD : va_D A [(h0, .inr (8, [.ref a0, .int tk, .ref a1, .int mm, .ref a2, .ref a3, .ref a4, .ref a5, .ref a6, .ref a7, .int wm, .int fa, .int th, .int se, .ref a8, .ref a9, .ref ab])), (a1, .inl (cI, 80, .inl g1))] := hD
      have hK : va_K D vwCl [(cI, .int)] s := hK
      refine lv_ixor hx hb dX9_numberOf_49 ?_
      refine lv_topi (fun y_19 _ => ?_)
      exact ret_i hx hb hr hlocks rfl (u := ()) trivial (hP.sub [0, 1] rfl) (hK.sub [] rfl) (hD.sub [0, 1] (by decide) rfl) hS (Nat.le_of_ble_eq_true rfl) (Nat.le_of_ble_eq_true rfl) dX9_numberOf_50
    refine lv_iload_n hx hb dX9_numberOf_21 rfl (lv_at hl 3 rfl) ?_
    refine lv_bipush (v := 15) hx hb dX9_numberOf_22 (by decide) ?_
    refine lv_iand hx hb dX9_numberOf_24 ?_
    refine lv_topi (fun y_20 _ => ?_)
    refine lv_iload_n hx hb dX9_numberOf_25 rfl (lv_at hl 3 rfl) ?_
    refine lv_iconst (v := 1) hx hb dX9_numberOf_26 (by decide) ?_
    refine go_i (wr := [(h0, .inr (8, [.ref a0, .int tk, .ref a1, .int mm, .ref a2, .ref a3, .ref a4, .ref a5, .ref a6, .ref a7, .int wm, .int fa, .int th, .int se, .ref a8, .ref a9, .ref ab])), (a1, .inl (cI, 80, .inl g1))]) (tysr := [(cI, .int)]) hP hD hS hA hK [] [0, 1] [0] rfl rfl (by decide) (by decide) rfl (va_runS (As := [.int w, .int 1]) (rest := [.int y_20]) ⟨hx, hb, hml, hown, hts⟩ (m_sumOf l D H.size w 1 ) (va_cwS 2 hts gX9_numberOf_X9_sumOf rfl rfl rfl (by decide +kernel) ⟨Nat.le_of_ble_eq_true rfl, Nat.le_of_ble_eq_true rfl⟩) (st_preS hP hD hK hNW [] [] rfl rfl (by decide) rfl) rfl rfl hl.1 rfl (lv_room (Nat.le_of_ble_eq_true rfl)) dX9_numberOf_27 ⟨(Nat.le_of_ble_eq_true rfl), (Nat.le_of_ble_eq_true rfl)⟩) (fun r_21 u H locs hw hP hD hK hS => ?_)
    have hP : va_P D vwCl [(h0, .inr (8, [.ref a0, .int tk, .ref a1, .int mm, .ref a2, .ref a3, .ref a4, .ref a5, .ref a6, .ref a7, .int wm, .int fa, .int th, .int se, .ref a8, .ref a9, .ref ab])), (a1, .inl (cI, 80, .inl g1))] H := hP
    have hD : va_D A [(h0, .inr (8, [.ref a0, .int tk, .ref a1, .int mm, .ref a2, .ref a3, .ref a4, .ref a5, .ref a6, .ref a7, .int wm, .int fa, .int th, .int se, .ref a8, .ref a9, .ref ab])), (a1, .inl (cI, 80, .inl g1))] := hD
    have hK : va_K D vwCl [(cI, .int)] s := hK
    refine lv_isub hx hb dX9_numberOf_30 ?_
    refine lv_topi (fun y_22 _ => ?_)
    refine lv_bipush (v := 15) hx hb dX9_numberOf_31 (by decide) ?_
    refine lv_iand hx hb dX9_numberOf_33 ?_
    refine lv_topi (fun y_23 _ => ?_)
    exact ret_i hx hb hr hlocks rfl (u := ()) trivial (hP.sub [0, 1] rfl) (hK.sub [] rfl) (hD.sub [0, 1] (by decide) rfl) hS (Nat.le_of_ble_eq_true rfl) (Nat.le_of_ble_eq_true rfl) dX9_numberOf_34
  refine lv_iconst (v := (-1)) hx hb dX9_numberOf_14 (by decide) ?_
  exact ret_i hx hb hr hlocks rfl (u := ()) trivial (hP.sub [0, 1] rfl) (hK.sub [] rfl) (hD.sub [0, 1] (by decide) rfl) hS (Nat.le_of_ble_eq_true rfl) (Nat.le_of_ble_eq_true rfl) dX9_numberOf_15
theorem him_checkOf_X9 : ∀ w ∈ wsX90, w ∈ wsX9_checkOf := mem_pl [23, 24, 25, 26, 27, 28, 29, 30, 31, 32, 33, 34, 35, 36, 37, 38, 39] rfl
set_option maxHeartbeats 4000000 in
set_option maxRecDepth 100000 in
theorem m_checkOf (l : Launch) (D : va_G) (sz : Nat) (cI : ClassId) (h0 : Nat) (a0 : Nat) (a1 : Nat) (a2 : Nat) (a3 : Nat) (a4 : Nat) (a5 : Nat) (a6 : Nat) (a7 : Nat) (a8 : Nat) (a9 : Nat) (ab : Nat) (tk : Int32) (mm : Int32) (wm : Int32) (fa : Int32) (th : Int32) (se : Int32) (g1 : Nat → Int32) (g2 : Nat → Int32) (v : Int32) (w : Int32) (hv : bi v 0 7) : Ci l yX9_checkOf wsX9_checkOf ({ frames := 2, cells := 0, slots := 0, locals := 48 } : Room) D [.ref h0, .int v, .int w] [(h0, .inr (8, [.ref a0, .int tk, .ref a1, .int mm, .ref a2, .ref a3, .ref a4, .ref a5, .ref a6, .ref a7, .int wm, .int fa, .int th, .int se, .ref a8, .ref a9, .ref ab])), (a1, .inl (cI, 80, .inl g1)), (a2, .inl (cI, 128, .inl g2))] [(cI, .int)] sz (fun (r : Int32) => fun (_ : Unit) => True) (fun (_ : Unit) => [(h0, .inr (8, [.ref a0, .int tk, .ref a1, .int mm, .ref a2, .ref a3, .ref a4, .ref a5, .ref a6, .ref a7, .int wm, .int fa, .int th, .int se, .ref a8, .ref a9, .ref ab])), (a1, .inl (cI, 80, .inl g1)), (a2, .inl (cI, 128, .inl g2))]) (fun (_ : Unit) => []) := by
  refine ct_i (cc := cX9_checkOf) (maxL := 5) (ret := (some .int)) (by decide) rfl (Nat.le_of_ble_eq_true rfl) ?_
  intro p e s m below meth c A ls H hx hb hr hts hown hml hlocks hin hA hS hP hK hD hNW hl hAe hsz
  have hl : lv_has ls 5 [(0, .ref h0), (1, .int v), (2, .int w)] := hl
  refine lv_aload_n hx hb dX9_checkOf_0 rfl (lv_at hl 0 rfl) ?_
  refine lv_iload_n hx hb dX9_checkOf_1 rfl (lv_at hl 1 rfl) ?_
  refine go_i (wr := [(a1, .inl (cI, 80, .inl g1))]) (tysr := [(cI, .int)]) hP hD hS hA hK [0, 2] [1] [0] rfl rfl (by decide) (by decide) rfl (va_runV (As := [.int v]) (rest := []) ⟨hx, hb, hml, hown, hts⟩ (m_learnt l D H.size cI h0 a0 a1 a2 a3 a4 a5 a6 a7 a8 a9 ab tk mm wm fa th se g2 v (by first | assumption | (clear hml hsz hr hlocks; omega) | decide)) (cwV 1 hts gX9_checkOf_X9_learnt rfl rfl rfl (by decide +kernel) ⟨Nat.le_of_ble_eq_true rfl, Nat.le_of_ble_eq_true rfl⟩) (st_preV (ci := 8) (q0 := 0) hP hD hK hNW [0, 2] [0] rfl rfl (by decide) rfl rfl rfl rfl) rfl rfl hl.1 rfl (lv_room (Nat.le_of_ble_eq_true rfl)) dX9_checkOf_2 ⟨(Nat.le_of_ble_eq_true rfl), (Nat.le_of_ble_eq_true rfl)⟩) (fun r_1 u H locs hw hP hD hK hS => ?_)
  have hP : va_P D vwCl [(a1, .inl (cI, 80, .inl g1)), (h0, .inr (8, [.ref a0, .int tk, .ref a1, .int mm, .ref a2, .ref a3, .ref a4, .ref a5, .ref a6, .ref a7, .int wm, .int fa, .int th, .int se, .ref a8, .ref a9, .ref ab])), (a2, .inl (cI, 128, .inl g2))] H := hP
  have hD : va_D A [(a1, .inl (cI, 80, .inl g1)), (h0, .inr (8, [.ref a0, .int tk, .ref a1, .int mm, .ref a2, .ref a3, .ref a4, .ref a5, .ref a6, .ref a7, .int wm, .int fa, .int th, .int se, .ref a8, .ref a9, .ref ab])), (a2, .inl (cI, 128, .inl g2))] := hD
  have hK : va_K D vwCl [(cI, .int)] s := hK
  refine lv_iconst (v := 2) hx hb dX9_checkOf_5 (by decide) ?_
  refine lv_icmp_ge (tgt := 11) hx hb dX9_checkOf_6 (by decide) (fun c_2 => ?_) (fun c_2 => ?_)
  · refine lv_aload_n hx hb dX9_checkOf_11 rfl (lv_at hl 0 rfl) ?_
    refine lv_iload_n hx hb dX9_checkOf_12 rfl (lv_at hl 1 rfl) ?_
    refine lv_aload_n hx hb dX9_checkOf_13 rfl (lv_at hl 0 rfl) ?_
    refine lv_iload_n hx hb dX9_checkOf_14 rfl (lv_at hl 1 rfl) ?_
    refine go_i (wr := [(a1, .inl (cI, 80, .inl g1))]) (tysr := [(cI, .int)]) hP hD hS hA hK [1, 2] [0] [0] rfl rfl (by decide) (by decide) rfl (va_runV (As := [.int v]) (rest := [.int v, .ref h0]) ⟨hx, hb, hml, hown, hts⟩ (m_some l D H.size cI h0 a0 a1 a2 a3 a4 a5 a6 a7 a8 a9 ab tk mm wm fa th se g2 v (by first | assumption | (clear hml hsz hr hlocks; omega) | decide)) (cwV 1 hts gX9_checkOf_X9_some rfl rfl rfl (by decide +kernel) ⟨Nat.le_of_ble_eq_true rfl, Nat.le_of_ble_eq_true rfl⟩) (st_preV (ci := 8) (q0 := 1) hP hD hK hNW [1, 2] [0] rfl rfl (by decide) rfl rfl rfl rfl) rfl rfl hl.1 rfl (lv_room (Nat.le_of_ble_eq_true rfl)) dX9_checkOf_15 ⟨(Nat.le_of_ble_eq_true rfl), (Nat.le_of_ble_eq_true rfl)⟩) (fun r_3 u H locs hw hP hD hK hS => ?_)
    have hP : va_P D vwCl [(a1, .inl (cI, 80, .inl g1)), (h0, .inr (8, [.ref a0, .int tk, .ref a1, .int mm, .ref a2, .ref a3, .ref a4, .ref a5, .ref a6, .ref a7, .int wm, .int fa, .int th, .int se, .ref a8, .ref a9, .ref ab])), (a2, .inl (cI, 128, .inl g2))] H := hP
    have hD : va_D A [(a1, .inl (cI, 80, .inl g1)), (h0, .inr (8, [.ref a0, .int tk, .ref a1, .int mm, .ref a2, .ref a3, .ref a4, .ref a5, .ref a6, .ref a7, .int wm, .int fa, .int th, .int se, .ref a8, .ref a9, .ref ab])), (a2, .inl (cI, 128, .inl g2))] := hD
    have hK : va_K D vwCl [(cI, .int)] s := hK
    refine lv_iload_n hx hb dX9_checkOf_18 rfl (lv_at hl 2 rfl) ?_
    refine go_i (wr := [(a2, .inl (cI, 128, .inl g2))]) (tysr := [(cI, .int)]) hP hD hS hA hK [1, 0] [2] [0] rfl rfl (by decide) (by decide) rfl (va_runV (As := [.int v, .int r_3, .int w]) (rest := []) ⟨hx, hb, hml, hown, hts⟩ (m_numberOf l D H.size cI h0 a0 a1 a2 a3 a4 a5 a6 a7 a8 a9 ab tk mm wm fa th se g1 v r_3 w (by first | assumption | (clear hml hsz hr hlocks; omega) | decide)) (cwV 3 hts gX9_checkOf_X9_numberOf rfl rfl rfl (by decide +kernel) ⟨Nat.le_of_ble_eq_true rfl, Nat.le_of_ble_eq_true rfl⟩) (st_preV (ci := 8) (q0 := 1) hP hD hK hNW [1, 0] [0] rfl rfl (by decide) rfl rfl rfl rfl) rfl rfl hl.1 rfl (lv_room (Nat.le_of_ble_eq_true rfl)) dX9_checkOf_19 ⟨(Nat.le_of_ble_eq_true rfl), (Nat.le_of_ble_eq_true rfl)⟩) (fun r_4 u H locs hw hP hD hK hS => ?_)
    have hP : va_P D vwCl [(a2, .inl (cI, 128, .inl g2)), (h0, .inr (8, [.ref a0, .int tk, .ref a1, .int mm, .ref a2, .ref a3, .ref a4, .ref a5, .ref a6, .ref a7, .int wm, .int fa, .int th, .int se, .ref a8, .ref a9, .ref ab])), (a1, .inl (cI, 80, .inl g1))] H := hP
    have hD : va_D A [(a2, .inl (cI, 128, .inl g2)), (h0, .inr (8, [.ref a0, .int tk, .ref a1, .int mm, .ref a2, .ref a3, .ref a4, .ref a5, .ref a6, .ref a7, .int wm, .int fa, .int th, .int se, .ref a8, .ref a9, .ref ab])), (a1, .inl (cI, 80, .inl g1))] := hD
    have hK : va_K D vwCl [(cI, .int)] s := hK
    refine lv_istore_n (lv' := [(3, .int r_4), (0, .ref h0), (1, .int v), (2, .int w)]) hx hb dX9_checkOf_22 rfl hl (by decide) rfl (fun ls hl => ?_)
    refine lv_iconst (v := 0) hx hb dX9_checkOf_23 (by decide) ?_
    refine lv_istore (lv' := [(4, .int 0), (3, .int r_4), (0, .ref h0), (1, .int v), (2, .int w)]) hx hb dX9_checkOf_24 hl (by decide) rfl (fun ls hl => ?_)
    refine lp_N (fun n9 H locs ls => ∃ (i_5 : Int32), n9 = (16 - i_5.toInt).toNat ∧ (va_P D vwCl [(a2, .inl (cI, 128, .inl g2)), (h0, .inr (8, [.ref a0, .int tk, .ref a1, .int mm, .ref a2, .ref a3, .ref a4, .ref a5, .ref a6, .ref a7, .int wm, .int fa, .int th, .int se, .ref a8, .ref a9, .ref ab])), (a1, .inl (cI, 80, .inl g1))] H ∧ va_D A [(a2, .inl (cI, 128, .inl g2)), (h0, .inr (8, [.ref a0, .int tk, .ref a1, .int mm, .ref a2, .ref a3, .ref a4, .ref a5, .ref a6, .ref a7, .int wm, .int fa, .int th, .int se, .ref a8, .ref a9, .ref ab])), (a1, .inl (cI, 80, .inl g1))]) ∧ va_S A s.heap H locs ∧ lv_has ls 5 [(4, .int i_5), (3, .int r_4), (0, .ref h0), (1, .int v), (2, .int w)] ∧ (0 ≤ i_5.toInt)) ?_ ⟨0, rfl, ⟨hP, hD⟩, hS, hl, (by decide)⟩
    intro n9 ih_6 H locs ls hI
    obtain ⟨i_5, rfl, ⟨hP, hD⟩, hS, hl, hv_7⟩ := hI
    refine lv_iload hx hb dX9_checkOf_26 (lv_at hl 0 rfl) ?_
    refine lv_bipush (v := 16) hx hb dX9_checkOf_28 (by decide) ?_
    refine lv_icmp_ge (tgt := 79) hx hb dX9_checkOf_30 (by decide) (fun c_8 => ?_) (fun c_8 => ?_)
    · refine lv_iload_n hx hb dX9_checkOf_79 rfl (lv_at hl 1 rfl) ?_
      exact ret_i hx hb hr hlocks rfl (u := ()) trivial (hP.sub [1, 2, 0] rfl) (hK.sub [] rfl) (hD.sub [1, 2, 0] (by decide) rfl) hS (Nat.le_of_ble_eq_true rfl) (Nat.le_of_ble_eq_true rfl) dX9_checkOf_80
    refine jn_S 73 (fun st9 H locs ls => st9 = [] ∧ (va_P D vwCl [(a2, .inl (cI, 128, .inl g2)), (h0, .inr (8, [.ref a0, .int tk, .ref a1, .int mm, .ref a2, .ref a3, .ref a4, .ref a5, .ref a6, .ref a7, .int wm, .int fa, .int th, .int se, .ref a8, .ref a9, .ref ab])), (a1, .inl (cI, 80, .inl g1))] H ∧ va_D A [(a2, .inl (cI, 128, .inl g2)), (h0, .inr (8, [.ref a0, .int tk, .ref a1, .int mm, .ref a2, .ref a3, .ref a4, .ref a5, .ref a6, .ref a7, .int wm, .int fa, .int th, .int se, .ref a8, .ref a9, .ref ab])), (a1, .inl (cI, 80, .inl g1))]) ∧ va_S A s.heap H locs ∧ lv_has ls 5 [(4, .int i_5), (3, .int r_4), (0, .ref h0), (1, .int v), (2, .int w)]) ?_ ?_
    · intro st9 H locs ls hI
      obtain ⟨rfl, ⟨hP, hD⟩, hS, hl⟩ := hI
      refine lv_iinc (v := i_5 + 1) (lv' := [(4, .int (i_5 + 1)), (3, .int r_4), (0, .ref h0), (1, .int v), (2, .int w)]) hx hb dX9_checkOf_73 hl (k := 0) rfl (ii_p1 _) (by decide) rfl (fun ls hl => ?_)
      refine lv_goto (tgt := 26) hx hb dX9_checkOf_76 (by decide) ?_
      exact ih_6 _ _ _ _ (by clear hml hsz hr hlocks; have : (2 : Int32).toInt = 2 := (by decide); have : (16 : Int32).toInt = 16 := (by decide); have := ti_le c_2; have := ti_nle c_8; have kn : (16 : Int32).toInt = 16 := (by decide); have u1 := ti_up (i := i_5) (n := 16) (by omega); omega) ⟨i_5 + 1, rfl, ⟨hP, hD⟩, hS, lv_sub hl [0, 1, 2, 3, 4] rfl, (by clear hml hsz hr hlocks; have : (2 : Int32).toInt = 2 := (by decide); have : (16 : Int32).toInt = 16 := (by decide); have := ti_le c_2; have := ti_nle c_8; have kn : (16 : Int32).toInt = 16 := (by decide); have u1 := ti_up (i := i_5) (n := 16) (by omega); omega)⟩
    · intro hJ_10
      refine lv_aload_n hx hb dX9_checkOf_33 rfl (lv_at hl 2 rfl) ?_
      refine va_get (D := D) (ci := 8) (v := .ref a2) (C := RX9) (T := TX9) (N := 17) hx hb hts him_checkOf_X9 hown hK hP 1 rfl rfl 4 (by decide) (hts (.fieldLink RX9 16 "OneHandsetModel" "keys" "[I") (List.mem_of_getElem? (i := 1) rfl)) (fun _ h9 => h9) rfl dX9_checkOf_34 ?_
      refine lv_bipush (v := 16) hx hb dX9_checkOf_37 (by decide) ?_
      refine lv_iload_n hx hb dX9_checkOf_39 rfl (lv_at hl 3 rfl) ?_
      refine lv_imul hx hb dX9_checkOf_40 ?_
      refine lv_iload hx hb dX9_checkOf_41 (lv_at hl 0 rfl) ?_
      refine lv_iadd hx hb dX9_checkOf_43 ?_
      refine va_iald hx hb hK hP 0 0 rfl rfl (by clear hml hsz hr hlocks; have : (2 : Int32).toInt = 2 := (by decide); have : (16 : Int32).toInt = 16 := (by decide); have := ti_le c_2; have := ti_nle c_8; have u3 := ix16 (m := v) (w := i_5) hv (by have : (2 : Int32).toInt = 2 := (by decide); have : (16 : Int32).toInt = 16 := (by decide); have := ti_le c_2; have := ti_nle c_8; omega); exact vp_in_iff.mpr (by omega)) dX9_checkOf_44 ?_
      refine lv_iconst (v := (-1)) hx hb dX9_checkOf_45 (by decide) ?_
      refine lv_icmp_eq (tgt := 73) hx hb dX9_checkOf_46 (by decide) (fun c_11 => ?_) (fun c_11 => ?_)
      · exact hJ_10 _ _ _ _ ⟨rfl, ⟨hP, hD⟩, hS, lv_sub hl [0, 1, 2, 3, 4] rfl⟩
      refine lv_aload_n hx hb dX9_checkOf_49 rfl (lv_at hl 2 rfl) ?_
      refine lv_iload_n hx hb dX9_checkOf_50 rfl (lv_at hl 3 rfl) ?_
      refine lv_aload_n hx hb dX9_checkOf_51 rfl (lv_at hl 2 rfl) ?_
      refine va_get (D := D) (ci := 8) (v := .ref a2) (C := RX9) (T := TX9) (N := 17) hx hb hts him_checkOf_X9 hown hK hP 1 rfl rfl 4 (by decide) (hts (.fieldLink RX9 16 "OneHandsetModel" "keys" "[I") (List.mem_of_getElem? (i := 1) rfl)) (fun _ h9 => h9) rfl dX9_checkOf_52 ?_
      refine lv_bipush (v := 16) hx hb dX9_checkOf_55 (by decide) ?_
      refine lv_iload_n hx hb dX9_checkOf_57 rfl (lv_at hl 3 rfl) ?_
      refine lv_imul hx hb dX9_checkOf_58 ?_
      refine lv_iload hx hb dX9_checkOf_59 (lv_at hl 0 rfl) ?_
      refine lv_iadd hx hb dX9_checkOf_61 ?_
      refine va_iald hx hb hK hP 0 0 rfl rfl (by clear hml hsz hr hlocks; have : ((-1) : Int32).toInt = -1 := (by decide); have : (2 : Int32).toInt = 2 := (by decide); have : (16 : Int32).toInt = 16 := (by decide); have := ti_le c_2; have := ti_nle c_8; have := ti_ne c_11; have u3 := ix16 (m := v) (w := i_5) hv (by have : ((-1) : Int32).toInt = -1 := (by decide); have : (2 : Int32).toInt = 2 := (by decide); have : (16 : Int32).toInt = 16 := (by decide); have := ti_le c_2; have := ti_nle c_8; have := ti_ne c_11; omega); exact vp_in_iff.mpr (by omega)) dX9_checkOf_62 ?_
      refine lv_iload_n hx hb dX9_checkOf_63 rfl (lv_at hl 4 rfl) ?_
      refine go_i (wr := [(a2, .inl (cI, 128, .inl g2))]) (tysr := [(cI, .int)]) hP hD hS hA hK [1, 2] [0] [0] rfl rfl (by decide) (by decide) rfl (va_runV (As := [.int v, .int (g2 (Int32.toNatClampNeg ((16 * v) + i_5))), .int w]) (rest := []) ⟨hx, hb, hml, hown, hts⟩ (m_numberOf l D H.size cI h0 a0 a1 a2 a3 a4 a5 a6 a7 a8 a9 ab tk mm wm fa th se g1 v (g2 (Int32.toNatClampNeg ((16 * v) + i_5))) w (by first | assumption | (clear hml hsz hr hlocks; omega) | decide)) (cwV 3 hts gX9_checkOf_X9_numberOf rfl rfl rfl (by decide +kernel) ⟨Nat.le_of_ble_eq_true rfl, Nat.le_of_ble_eq_true rfl⟩) (st_preV (ci := 8) (q0 := 1) hP hD hK hNW [1, 2] [0] rfl rfl (by decide) rfl rfl rfl rfl) rfl rfl hl.1 rfl (lv_room (Nat.le_of_ble_eq_true rfl)) dX9_checkOf_64 ⟨(Nat.le_of_ble_eq_true rfl), (Nat.le_of_ble_eq_true rfl)⟩) (fun r_12 u H locs hw hP hD hK hS => ?_)
      have hP : va_P D vwCl [(a2, .inl (cI, 128, .inl g2)), (h0, .inr (8, [.ref a0, .int tk, .ref a1, .int mm, .ref a2, .ref a3, .ref a4, .ref a5, .ref a6, .ref a7, .int wm, .int fa, .int th, .int se, .ref a8, .ref a9, .ref ab])), (a1, .inl (cI, 80, .inl g1))] H := hP
      have hD : va_D A [(a2, .inl (cI, 128, .inl g2)), (h0, .inr (8, [.ref a0, .int tk, .ref a1, .int mm, .ref a2, .ref a3, .ref a4, .ref a5, .ref a6, .ref a7, .int wm, .int fa, .int th, .int se, .ref a8, .ref a9, .ref ab])), (a1, .inl (cI, 80, .inl g1))] := hD
      have hK : va_K D vwCl [(cI, .int)] s := hK
      refine lv_iload_n hx hb dX9_checkOf_67 rfl (lv_at hl 1 rfl) ?_
      refine lv_icmp_eq (tgt := 73) hx hb dX9_checkOf_68 (by decide) (fun c_13 => ?_) (fun c_13 => ?_)
      · exact hJ_10 _ _ _ _ ⟨rfl, ⟨hP, hD⟩, hS, lv_sub hl [0, 1, 2, 3, 4] rfl⟩
      refine lv_iconst (v := (-1)) hx hb dX9_checkOf_71 (by decide) ?_
      exact ret_i hx hb hr hlocks rfl (u := ()) trivial (hP.sub [1, 2, 0] rfl) (hK.sub [] rfl) (hD.sub [1, 2, 0] (by decide) rfl) hS (Nat.le_of_ble_eq_true rfl) (Nat.le_of_ble_eq_true rfl) dX9_checkOf_72
  refine lv_iconst (v := (-1)) hx hb dX9_checkOf_9 (by decide) ?_
  exact ret_i hx hb hr hlocks rfl (u := ()) trivial (hP.sub [1, 0, 2] rfl) (hK.sub [] rfl) (hD.sub [1, 0, 2] (by decide) rfl) hS (Nat.le_of_ble_eq_true rfl) (Nat.le_of_ble_eq_true rfl) dX9_checkOf_10
set_option maxHeartbeats 4000000 in
set_option maxRecDepth 100000 in
theorem m_isForeseen (l : Launch) (D : va_G) (sz : Nat) (cI : ClassId) (h0 : Nat) (a0 : Nat) (a1 : Nat) (a2 : Nat) (a3 : Nat) (a4 : Nat) (a5 : Nat) (a6 : Nat) (a7 : Nat) (a8 : Nat) (a9 : Nat) (ab : Nat) (tk : Int32) (mm : Int32) (wm : Int32) (fa : Int32) (th : Int32) (se : Int32) (g1 : Nat → Int32) (g2 : Nat → Int32) (v : Int32) (w : Int32) (hv : bi v 0 7) : Ci l yX9_isForeseen wsX9_isForeseen ({ frames := 3, cells := 0, slots := 0, locals := 72 } : Room) D [.ref h0, .int v, .int w] [(h0, .inr (8, [.ref a0, .int tk, .ref a1, .int mm, .ref a2, .ref a3, .ref a4, .ref a5, .ref a6, .ref a7, .int wm, .int fa, .int th, .int se, .ref a8, .ref a9, .ref ab])), (a1, .inl (cI, 80, .inl g1)), (a2, .inl (cI, 128, .inl g2))] [(cI, .int)] sz (fun (r : Int32) => fun (_ : Unit) => True) (fun (_ : Unit) => [(h0, .inr (8, [.ref a0, .int tk, .ref a1, .int mm, .ref a2, .ref a3, .ref a4, .ref a5, .ref a6, .ref a7, .int wm, .int fa, .int th, .int se, .ref a8, .ref a9, .ref ab])), (a1, .inl (cI, 80, .inl g1)), (a2, .inl (cI, 128, .inl g2))]) (fun (_ : Unit) => []) := by
  refine ct_i (cc := cX9_isForeseen) (maxL := 4) (ret := (some .boolean)) (by decide) rfl (Nat.le_of_ble_eq_true rfl) ?_
  intro p e s m below meth c A ls H hx hb hr hts hown hml hlocks hin hA hS hP hK hD hNW hl hAe hsz
  have hl : lv_has ls 4 [(0, .ref h0), (1, .int v), (2, .int w)] := hl
  refine lv_iconst (v := 1) hx hb dX9_isForeseen_0 (by decide) ?_
  refine lv_istore_n (lv' := [(3, .int 1), (0, .ref h0), (1, .int v), (2, .int w)]) hx hb dX9_isForeseen_1 rfl hl (by decide) rfl (fun ls hl => ?_)
  refine lp_N (fun n9 H locs ls => ∃ (i_1 : Int32), n9 = (4 - i_1.toInt).toNat ∧ (va_P D vwCl [(h0, .inr (8, [.ref a0, .int tk, .ref a1, .int mm, .ref a2, .ref a3, .ref a4, .ref a5, .ref a6, .ref a7, .int wm, .int fa, .int th, .int se, .ref a8, .ref a9, .ref ab])), (a1, .inl (cI, 80, .inl g1)), (a2, .inl (cI, 128, .inl g2))] H ∧ va_D A [(h0, .inr (8, [.ref a0, .int tk, .ref a1, .int mm, .ref a2, .ref a3, .ref a4, .ref a5, .ref a6, .ref a7, .int wm, .int fa, .int th, .int se, .ref a8, .ref a9, .ref ab])), (a1, .inl (cI, 80, .inl g1)), (a2, .inl (cI, 128, .inl g2))]) ∧ va_S A s.heap H locs ∧ lv_has ls 4 [(3, .int i_1), (0, .ref h0), (1, .int v), (2, .int w)] ∧ (1 ≤ i_1.toInt)) ?_ ⟨1, rfl, ⟨hP, hD⟩, hS, hl, (by decide)⟩
  intro n9 ih_2 H locs ls hI
  obtain ⟨i_1, rfl, ⟨hP, hD⟩, hS, hl, hv_3⟩ := hI
  refine lv_iload_n hx hb dX9_isForeseen_2 rfl (lv_at hl 0 rfl) ?_
  refine lv_iconst (v := 4) hx hb dX9_isForeseen_3 (by decide) ?_
  refine lv_icmp_ge (tgt := 41) hx hb dX9_isForeseen_4 (by decide) (fun c_4 => ?_) (fun c_4 => ?_)
  · refine lv_iconst (v := 1) hx hb dX9_isForeseen_41 (by decide) ?_
    exact ret_i hx hb hr hlocks rfl (u := ()) trivial (hP.sub [0, 1, 2] rfl) (hK.sub [] rfl) (hD.sub [0, 1, 2] (by decide) rfl) hS (Nat.le_of_ble_eq_true rfl) (Nat.le_of_ble_eq_true rfl) dX9_isForeseen_42
  refine jn_S 35 (fun st9 H locs ls => st9 = [] ∧ (va_P D vwCl [(h0, .inr (8, [.ref a0, .int tk, .ref a1, .int mm, .ref a2, .ref a3, .ref a4, .ref a5, .ref a6, .ref a7, .int wm, .int fa, .int th, .int se, .ref a8, .ref a9, .ref ab])), (a1, .inl (cI, 80, .inl g1)), (a2, .inl (cI, 128, .inl g2))] H ∧ va_D A [(h0, .inr (8, [.ref a0, .int tk, .ref a1, .int mm, .ref a2, .ref a3, .ref a4, .ref a5, .ref a6, .ref a7, .int wm, .int fa, .int th, .int se, .ref a8, .ref a9, .ref ab])), (a1, .inl (cI, 80, .inl g1)), (a2, .inl (cI, 128, .inl g2))]) ∧ va_S A s.heap H locs ∧ lv_has ls 4 [(3, .int i_1), (0, .ref h0), (1, .int v), (2, .int w)]) ?_ ?_
  · intro st9 H locs ls hI
    obtain ⟨rfl, ⟨hP, hD⟩, hS, hl⟩ := hI
    refine lv_iinc (v := i_1 + 1) (lv' := [(3, .int (i_1 + 1)), (0, .ref h0), (1, .int v), (2, .int w)]) hx hb dX9_isForeseen_35 hl (k := 0) rfl (ii_p1 _) (by decide) rfl (fun ls hl => ?_)
    refine lv_goto (tgt := 2) hx hb dX9_isForeseen_38 (by decide) ?_
    exact ih_2 _ _ _ _ (by clear hml hsz hr hlocks; have : (4 : Int32).toInt = 4 := (by decide); have := ti_nle c_4; have kn : (4 : Int32).toInt = 4 := (by decide); have u1 := ti_up (i := i_1) (n := 4) (by omega); omega) ⟨i_1 + 1, rfl, ⟨hP, hD⟩, hS, lv_sub hl [0, 1, 2, 3] rfl, (by clear hml hsz hr hlocks; have : (4 : Int32).toInt = 4 := (by decide); have := ti_nle c_4; have kn : (4 : Int32).toInt = 4 := (by decide); have u1 := ti_up (i := i_1) (n := 4) (by omega); omega)⟩
  · intro hJ_6
    refine lv_aload_n hx hb dX9_isForeseen_7 rfl (lv_at hl 1 rfl) ?_
    refine lv_iload_n hx hb dX9_isForeseen_8 rfl (lv_at hl 2 rfl) ?_
    refine lv_iload_n hx hb dX9_isForeseen_9 rfl (lv_at hl 0 rfl) ?_
    refine go_i (wr := []) (tysr := [(cI, .int)]) hP hD hS hA hK [0, 1, 2] [] [0] rfl rfl (by decide) (by decide) rfl (va_runV (As := [.int v, .int i_1]) (rest := []) ⟨hx, hb, hml, hown, hts⟩ (m_checkOf l D H.size cI h0 a0 a1 a2 a3 a4 a5 a6 a7 a8 a9 ab tk mm wm fa th se g1 g2 v i_1 (by first | assumption | (clear hml hsz hr hlocks; omega) | decide)) (cwV 2 hts gX9_isForeseen_X9_checkOf rfl rfl rfl (by decide +kernel) ⟨Nat.le_of_ble_eq_true rfl, Nat.le_of_ble_eq_true rfl⟩) (st_preV (ci := 8) (q0 := 0) hP hD hK hNW [0, 1, 2] [0] rfl rfl (by decide) rfl rfl rfl rfl) rfl rfl hl.1 rfl (lv_room (Nat.le_of_ble_eq_true rfl)) dX9_isForeseen_10 ⟨(Nat.le_of_ble_eq_true rfl), (Nat.le_of_ble_eq_true rfl)⟩) (fun r_7 u H locs hw hP hD hK hS => ?_)
    have hP : va_P D vwCl [(h0, .inr (8, [.ref a0, .int tk, .ref a1, .int mm, .ref a2, .ref a3, .ref a4, .ref a5, .ref a6, .ref a7, .int wm, .int fa, .int th, .int se, .ref a8, .ref a9, .ref ab])), (a1, .inl (cI, 80, .inl g1)), (a2, .inl (cI, 128, .inl g2))] H := hP
    have hD : va_D A [(h0, .inr (8, [.ref a0, .int tk, .ref a1, .int mm, .ref a2, .ref a3, .ref a4, .ref a5, .ref a6, .ref a7, .int wm, .int fa, .int th, .int se, .ref a8, .ref a9, .ref ab])), (a1, .inl (cI, 80, .inl g1)), (a2, .inl (cI, 128, .inl g2))] := hD
    have hK : va_K D vwCl [(cI, .int)] s := hK
    refine lv_iconst (v := (-1)) hx hb dX9_isForeseen_13 (by decide) ?_
    refine lv_icmp_eq (tgt := 35) hx hb dX9_isForeseen_14 (by decide) (fun c_8 => ?_) (fun c_8 => ?_)
    · exact hJ_6 _ _ _ _ ⟨rfl, ⟨hP, hD⟩, hS, lv_sub hl [0, 1, 2, 3] rfl⟩
    refine lv_aload_n hx hb dX9_isForeseen_17 rfl (lv_at hl 1 rfl) ?_
    refine lv_iload_n hx hb dX9_isForeseen_18 rfl (lv_at hl 2 rfl) ?_
    refine lv_iload_n hx hb dX9_isForeseen_19 rfl (lv_at hl 3 rfl) ?_
    refine lv_iload_n hx hb dX9_isForeseen_20 rfl (lv_at hl 0 rfl) ?_
    refine go_i (wr := [(a2, .inl (cI, 128, .inl g2))]) (tysr := [(cI, .int)]) hP hD hS hA hK [0, 1] [2] [0] rfl rfl (by decide) (by decide) rfl (va_runV (As := [.int v, .int w, .int i_1]) (rest := []) ⟨hx, hb, hml, hown, hts⟩ (m_numberOf l D H.size cI h0 a0 a1 a2 a3 a4 a5 a6 a7 a8 a9 ab tk mm wm fa th se g1 v w i_1 (by first | assumption | (clear hml hsz hr hlocks; omega) | decide)) (cwV 3 hts gX9_isForeseen_X9_numberOf rfl rfl rfl (by decide +kernel) ⟨Nat.le_of_ble_eq_true rfl, Nat.le_of_ble_eq_true rfl⟩) (st_preV (ci := 8) (q0 := 0) hP hD hK hNW [0, 1] [0] rfl rfl (by decide) rfl rfl rfl rfl) rfl rfl hl.1 rfl (lv_room (Nat.le_of_ble_eq_true rfl)) dX9_isForeseen_21 ⟨(Nat.le_of_ble_eq_true rfl), (Nat.le_of_ble_eq_true rfl)⟩) (fun r_9 u H locs hw hP hD hK hS => ?_)
    have hP : va_P D vwCl [(a2, .inl (cI, 128, .inl g2)), (h0, .inr (8, [.ref a0, .int tk, .ref a1, .int mm, .ref a2, .ref a3, .ref a4, .ref a5, .ref a6, .ref a7, .int wm, .int fa, .int th, .int se, .ref a8, .ref a9, .ref ab])), (a1, .inl (cI, 80, .inl g1))] H := hP
    have hD : va_D A [(a2, .inl (cI, 128, .inl g2)), (h0, .inr (8, [.ref a0, .int tk, .ref a1, .int mm, .ref a2, .ref a3, .ref a4, .ref a5, .ref a6, .ref a7, .int wm, .int fa, .int th, .int se, .ref a8, .ref a9, .ref ab])), (a1, .inl (cI, 80, .inl g1))] := hD
    have hK : va_K D vwCl [(cI, .int)] s := hK
    refine lv_aload_n hx hb dX9_isForeseen_24 rfl (lv_at hl 1 rfl) ?_
    refine lv_iload_n hx hb dX9_isForeseen_25 rfl (lv_at hl 2 rfl) ?_
    refine lv_iload_n hx hb dX9_isForeseen_26 rfl (lv_at hl 0 rfl) ?_
    refine go_i (wr := []) (tysr := [(cI, .int)]) hP hD hS hA hK [1, 2, 0] [] [0] rfl rfl (by decide) (by decide) rfl (va_runV (As := [.int v, .int i_1]) (rest := [.int r_9]) ⟨hx, hb, hml, hown, hts⟩ (m_checkOf l D H.size cI h0 a0 a1 a2 a3 a4 a5 a6 a7 a8 a9 ab tk mm wm fa th se g1 g2 v i_1 (by first | assumption | (clear hml hsz hr hlocks; omega) | decide)) (cwV 2 hts gX9_isForeseen_X9_checkOf rfl rfl rfl (by decide +kernel) ⟨Nat.le_of_ble_eq_true rfl, Nat.le_of_ble_eq_true rfl⟩) (st_preV (ci := 8) (q0 := 1) hP hD hK hNW [1, 2, 0] [0] rfl rfl (by decide) rfl rfl rfl rfl) rfl rfl hl.1 rfl (lv_room (Nat.le_of_ble_eq_true rfl)) dX9_isForeseen_27 ⟨(Nat.le_of_ble_eq_true rfl), (Nat.le_of_ble_eq_true rfl)⟩) (fun r_10 u H locs hw hP hD hK hS => ?_)
    have hP : va_P D vwCl [(h0, .inr (8, [.ref a0, .int tk, .ref a1, .int mm, .ref a2, .ref a3, .ref a4, .ref a5, .ref a6, .ref a7, .int wm, .int fa, .int th, .int se, .ref a8, .ref a9, .ref ab])), (a1, .inl (cI, 80, .inl g1)), (a2, .inl (cI, 128, .inl g2))] H := hP
    have hD : va_D A [(h0, .inr (8, [.ref a0, .int tk, .ref a1, .int mm, .ref a2, .ref a3, .ref a4, .ref a5, .ref a6, .ref a7, .int wm, .int fa, .int th, .int se, .ref a8, .ref a9, .ref ab])), (a1, .inl (cI, 80, .inl g1)), (a2, .inl (cI, 128, .inl g2))] := hD
    have hK : va_K D vwCl [(cI, .int)] s := hK
    refine lv_icmp_eq (tgt := 35) hx hb dX9_isForeseen_30 (by decide) (fun c_11 => ?_) (fun c_11 => ?_)
    · exact hJ_6 _ _ _ _ ⟨rfl, ⟨hP, hD⟩, hS, lv_sub hl [0, 1, 2, 3] rfl⟩
    refine lv_iconst (v := 0) hx hb dX9_isForeseen_33 (by decide) ?_
    exact ret_i hx hb hr hlocks rfl (u := ()) trivial (hP.sub [0, 1, 2] rfl) (hK.sub [] rfl) (hD.sub [0, 1, 2] (by decide) rfl) hS (Nat.le_of_ble_eq_true rfl) (Nat.le_of_ble_eq_true rfl) dX9_isForeseen_34
set_option maxHeartbeats 4000000 in
set_option maxRecDepth 100000 in
theorem m_canForesee (l : Launch) (D : va_G) (sz : Nat) (cI : ClassId) (h0 : Nat) (a0 : Nat) (a1 : Nat) (a2 : Nat) (a3 : Nat) (a4 : Nat) (a5 : Nat) (a6 : Nat) (a7 : Nat) (a8 : Nat) (a9 : Nat) (ab : Nat) (tk : Int32) (mm : Int32) (wm : Int32) (fa : Int32) (th : Int32) (se : Int32) (g1 : Nat → Int32) (g2 : Nat → Int32) (v : Int32) (hmm : bi mm 0 8) : Ci l yX9_canForesee wsX9_canForesee ({ frames := 3, cells := 0, slots := 0, locals := 66 } : Room) D [.ref h0, .int v] [(h0, .inr (8, [.ref a0, .int tk, .ref a1, .int mm, .ref a2, .ref a3, .ref a4, .ref a5, .ref a6, .ref a7, .int wm, .int fa, .int th, .int se, .ref a8, .ref a9, .ref ab])), (a1, .inl (cI, 80, .inl g1)), (a2, .inl (cI, 128, .inl g2))] [(cI, .int)] sz (fun (r : Int32) => fun (_ : Unit) => r = 0 ∨ (0 ≤ v.toInt ∧ v.toInt < mm.toInt)) (fun (_ : Unit) => [(h0, .inr (8, [.ref a0, .int tk, .ref a1, .int mm, .ref a2, .ref a3, .ref a4, .ref a5, .ref a6, .ref a7, .int wm, .int fa, .int th, .int se, .ref a8, .ref a9, .ref ab])), (a1, .inl (cI, 80, .inl g1)), (a2, .inl (cI, 128, .inl g2))]) (fun (_ : Unit) => []) := by
  refine ct_i (cc := cX9_canForesee) (maxL := 2) (ret := (some .boolean)) (by decide) rfl (Nat.le_of_ble_eq_true rfl) ?_
  intro p e s m below meth c A ls H hx hb hr hts hown hml hlocks hin hA hS hP hK hD hNW hl hAe hsz
  have hl : lv_has ls 2 [(0, .ref h0), (1, .int v)] := hl
  refine lv_aload_n hx hb dX9_canForesee_0 rfl (lv_at hl 0 rfl) ?_
  refine lv_iload_n hx hb dX9_canForesee_1 rfl (lv_at hl 1 rfl) ?_
  refine go_i (wr := [(a1, .inl (cI, 80, .inl g1)), (a2, .inl (cI, 128, .inl g2))]) (tysr := [(cI, .int)]) hP hD hS hA hK [0] [1, 2] [0] rfl rfl (by decide) (by decide) rfl (va_runV (As := [.int v]) (rest := []) ⟨hx, hb, hml, hown, hts⟩ (m_isMake l D H.size cI h0 a0 a1 a2 a3 a4 a5 a6 a7 a8 a9 ab tk mm wm fa th se v ) (cwV 1 hts gX9_canForesee_X9_isMake rfl rfl rfl (by decide +kernel) ⟨Nat.le_of_ble_eq_true rfl, Nat.le_of_ble_eq_true rfl⟩) (st_preV (ci := 8) (q0 := 0) hP hD hK hNW [0] [0] rfl rfl (by decide) rfl rfl rfl rfl) rfl rfl hl.1 rfl (lv_room (Nat.le_of_ble_eq_true rfl)) dX9_canForesee_2 ⟨(Nat.le_of_ble_eq_true rfl), (Nat.le_of_ble_eq_true rfl)⟩) (fun r_1 u H locs hw hP hD hK hS => ?_)
  have hw : r_1 = wi v 0 (mm - 1) := hw
  subst hw
  have hP : va_P D vwCl [(a1, .inl (cI, 80, .inl g1)), (a2, .inl (cI, 128, .inl g2)), (h0, .inr (8, [.ref a0, .int tk, .ref a1, .int mm, .ref a2, .ref a3, .ref a4, .ref a5, .ref a6, .ref a7, .int wm, .int fa, .int th, .int se, .ref a8, .ref a9, .ref ab]))] H := hP
  have hD : va_D A [(a1, .inl (cI, 80, .inl g1)), (a2, .inl (cI, 128, .inl g2)), (h0, .inr (8, [.ref a0, .int tk, .ref a1, .int mm, .ref a2, .ref a3, .ref a4, .ref a5, .ref a6, .ref a7, .int wm, .int fa, .int th, .int se, .ref a8, .ref a9, .ref ab]))] := hD
  have hK : va_K D vwCl [(cI, .int)] s := hK
  refine lv_if_eq (tgt := 54) hx hb dX9_canForesee_5 (by decide) (fun c_2 => ?_) (fun c_2 => ?_)
  · refine lv_iconst (v := 0) hx hb dX9_canForesee_54 (by decide) ?_
    exact ret_i hx hb hr hlocks rfl (u := ()) (Or.inl rfl) (hP.sub [2, 0, 1] rfl) (hK.sub [] rfl) (hD.sub [2, 0, 1] (by decide) rfl) hS (Nat.le_of_ble_eq_true rfl) (Nat.le_of_ble_eq_true rfl) dX9_canForesee_55
  have hv7_3 : bi v 0 7 := (by clear hml hsz hr hlocks; have : (0 : Int32).toInt = 0 := (by decide); have := ti_wi1 c_2; have u1 := ti_m1 (i := mm) (by omega); omega)
  have hvm_4 : v.toInt < mm.toInt := (by clear hml hsz hr hlocks; have : (0 : Int32).toInt = 0 := (by decide); have := ti_wi1 c_2; have u1 := ti_m1 (i := mm) (by omega); omega)
  refine lv_aload_n hx hb dX9_canForesee_8 rfl (lv_at hl 0 rfl) ?_
  refine lv_iload_n hx hb dX9_canForesee_9 rfl (lv_at hl 1 rfl) ?_
  refine go_i (wr := [(a1, .inl (cI, 80, .inl g1))]) (tysr := [(cI, .int)]) hP hD hS hA hK [2, 1] [0] [0] rfl rfl (by decide) (by decide) rfl (va_runV (As := [.int v]) (rest := []) ⟨hx, hb, hml, hown, hts⟩ (m_learnt l D H.size cI h0 a0 a1 a2 a3 a4 a5 a6 a7 a8 a9 ab tk mm wm fa th se g2 v (by first | assumption | (clear hml hsz hr hlocks; omega) | decide)) (cwV 1 hts gX9_canForesee_X9_learnt rfl rfl rfl (by decide +kernel) ⟨Nat.le_of_ble_eq_true rfl, Nat.le_of_ble_eq_true rfl⟩) (st_preV (ci := 8) (q0 := 2) hP hD hK hNW [2, 1] [0] rfl rfl (by decide) rfl rfl rfl rfl) rfl rfl hl.1 rfl (lv_room (Nat.le_of_ble_eq_true rfl)) dX9_canForesee_10 ⟨(Nat.le_of_ble_eq_true rfl), (Nat.le_of_ble_eq_true rfl)⟩) (fun r_5 u H locs hw hP hD hK hS => ?_)
  have hP : va_P D vwCl [(a1, .inl (cI, 80, .inl g1)), (h0, .inr (8, [.ref a0, .int tk, .ref a1, .int mm, .ref a2, .ref a3, .ref a4, .ref a5, .ref a6, .ref a7, .int wm, .int fa, .int th, .int se, .ref a8, .ref a9, .ref ab])), (a2, .inl (cI, 128, .inl g2))] H := hP
  have hD : va_D A [(a1, .inl (cI, 80, .inl g1)), (h0, .inr (8, [.ref a0, .int tk, .ref a1, .int mm, .ref a2, .ref a3, .ref a4, .ref a5, .ref a6, .ref a7, .int wm, .int fa, .int th, .int se, .ref a8, .ref a9, .ref ab])), (a2, .inl (cI, 128, .inl g2))] := hD
  have hK : va_K D vwCl [(cI, .int)] s := hK
  refine lv_if_le (tgt := 54) hx hb dX9_canForesee_13 (by decide) (fun c_6 => ?_) (fun c_6 => ?_)
  · refine lv_iconst (v := 0) hx hb dX9_canForesee_54 (by decide) ?_
    exact ret_i hx hb hr hlocks rfl (u := ()) (Or.inl rfl) (hP.sub [1, 0, 2] rfl) (hK.sub [] rfl) (hD.sub [1, 0, 2] (by decide) rfl) hS (Nat.le_of_ble_eq_true rfl) (Nat.le_of_ble_eq_true rfl) dX9_canForesee_55
  refine lv_iconst (v := 1) hx hb dX9_canForesee_16 (by decide) ?_
  refine lv_aload_n hx hb dX9_canForesee_17 rfl (lv_at hl 0 rfl) ?_
  refine lv_iload_n hx hb dX9_canForesee_18 rfl (lv_at hl 1 rfl) ?_
  refine lv_iconst (v := 1) hx hb dX9_canForesee_19 (by decide) ?_
  refine go_i (wr := [(a2, .inl (cI, 128, .inl g2))]) (tysr := [(cI, .int)]) hP hD hS hA hK [1, 0] [2] [0] rfl rfl (by decide) (by decide) rfl (va_runV (As := [.int v, .int 1]) (rest := [.int 1]) ⟨hx, hb, hml, hown, hts⟩ (m_get l D H.size cI h0 a0 a1 a2 a3 a4 a5 a6 a7 a8 a9 ab tk mm wm fa th se g1 v 1 (by first | assumption | (clear hml hsz hr hlocks; omega) | decide) (by first | assumption | (clear hml hsz hr hlocks; omega) | decide)) (cwV 2 hts gX9_canForesee_X9_get rfl rfl rfl (by decide +kernel) ⟨Nat.le_of_ble_eq_true rfl, Nat.le_of_ble_eq_true rfl⟩) (st_preV (ci := 8) (q0 := 1) hP hD hK hNW [1, 0] [0] rfl rfl (by decide) rfl rfl rfl rfl) rfl rfl hl.1 rfl (lv_room (Nat.le_of_ble_eq_true rfl)) dX9_canForesee_20 ⟨(Nat.le_of_ble_eq_true rfl), (Nat.le_of_ble_eq_true rfl)⟩) (fun r_7 u H locs hw hP hD hK hS => ?_)
  have hw : r_7 = g1 (Int32.toNatClampNeg (10 * v + 1)) := hw
  subst hw
  have hP : va_P D vwCl [(a2, .inl (cI, 128, .inl g2)), (h0, .inr (8, [.ref a0, .int tk, .ref a1, .int mm, .ref a2, .ref a3, .ref a4, .ref a5, .ref a6, .ref a7, .int wm, .int fa, .int th, .int se, .ref a8, .ref a9, .ref ab])), (a1, .inl (cI, 80, .inl g1))] H := hP
  have hD : va_D A [(a2, .inl (cI, 128, .inl g2)), (h0, .inr (8, [.ref a0, .int tk, .ref a1, .int mm, .ref a2, .ref a3, .ref a4, .ref a5, .ref a6, .ref a7, .int wm, .int fa, .int th, .int se, .ref a8, .ref a9, .ref ab])), (a1, .inl (cI, 80, .inl g1))] := hD
  have hK : va_K D vwCl [(cI, .int)] s := hK
  refine lv_ishl hx hb dX9_canForesee_23 ?_
  refine lv_topi (fun y_8 _ => ?_)
  refine lv_iconst (v := 1) hx hb dX9_canForesee_24 (by decide) ?_
  refine lv_isub hx hb dX9_canForesee_25 ?_
  refine lv_topi (fun y_9 _ => ?_)
  refine lv_aload_n hx hb dX9_canForesee_26 rfl (lv_at hl 0 rfl) ?_
  refine lv_iload_n hx hb dX9_canForesee_27 rfl (lv_at hl 1 rfl) ?_
  refine go_i (wr := [(a2, .inl (cI, 128, .inl g2))]) (tysr := [(cI, .int)]) hP hD hS hA hK [1, 2] [0] [0] rfl rfl (by decide) (by decide) rfl (va_runV (As := [.int v]) (rest := [.int y_9]) ⟨hx, hb, hml, hown, hts⟩ (m_flipOf l D H.size cI h0 a0 a1 a2 a3 a4 a5 a6 a7 a8 a9 ab tk mm wm fa th se g1 v (by first | assumption | (clear hml hsz hr hlocks; omega) | decide)) (cwV 1 hts gX9_canForesee_X9_flipOf rfl rfl rfl (by decide +kernel) ⟨Nat.le_of_ble_eq_true rfl, Nat.le_of_ble_eq_true rfl⟩) (st_preV (ci := 8) (q0 := 1) hP hD hK hNW [1, 2] [0] rfl rfl (by decide) rfl rfl rfl rfl) rfl rfl hl.1 rfl (lv_room (Nat.le_of_ble_eq_true rfl)) dX9_canForesee_28 ⟨(Nat.le_of_ble_eq_true rfl), (Nat.le_of_ble_eq_true rfl)⟩) (fun r_10 u H locs hw hP hD hK hS => ?_)
  have hP : va_P D vwCl [(a2, .inl (cI, 128, .inl g2)), (h0, .inr (8, [.ref a0, .int tk, .ref a1, .int mm, .ref a2, .ref a3, .ref a4, .ref a5, .ref a6, .ref a7, .int wm, .int fa, .int th, .int se, .ref a8, .ref a9, .ref ab])), (a1, .inl (cI, 80, .inl g1))] H := hP
  have hD : va_D A [(a2, .inl (cI, 128, .inl g2)), (h0, .inr (8, [.ref a0, .int tk, .ref a1, .int mm, .ref a2, .ref a3, .ref a4, .ref a5, .ref a6, .ref a7, .int wm, .int fa, .int th, .int se, .ref a8, .ref a9, .ref ab])), (a1, .inl (cI, 80, .inl g1))] := hD
  have hK : va_K D vwCl [(cI, .int)] s := hK
  refine lv_iconst (v := (-1)) hx hb dX9_canForesee_31 (by decide) ?_
  refine lv_ixor hx hb dX9_canForesee_32 ?_
  refine lv_topi (fun y_11 _ => ?_)
  refine lv_iand hx hb dX9_canForesee_33 ?_
  refine lv_topi (fun y_12 _ => ?_)
  refine lv_aload_n hx hb dX9_canForesee_34 rfl (lv_at hl 0 rfl) ?_
  refine lv_iload_n hx hb dX9_canForesee_35 rfl (lv_at hl 1 rfl) ?_
  refine go_i (wr := []) (tysr := [(cI, .int)]) hP hD hS hA hK [1, 2, 0] [] [0] rfl rfl (by decide) (by decide) rfl (va_runV (As := [.int v]) (rest := [.int y_12]) ⟨hx, hb, hml, hown, hts⟩ (m_fixed l D H.size cI h0 a0 a1 a2 a3 a4 a5 a6 a7 a8 a9 ab tk mm wm fa th se g1 g2 v (by first | assumption | (clear hml hsz hr hlocks; omega) | decide)) (cwV 1 hts gX9_canForesee_X9_fixed rfl rfl rfl (by decide +kernel) ⟨Nat.le_of_ble_eq_true rfl, Nat.le_of_ble_eq_true rfl⟩) (st_preV (ci := 8) (q0 := 1) hP hD hK hNW [1, 2, 0] [0] rfl rfl (by decide) rfl rfl rfl rfl) rfl rfl hl.1 rfl (lv_room (Nat.le_of_ble_eq_true rfl)) dX9_canForesee_36 ⟨(Nat.le_of_ble_eq_true rfl), (Nat.le_of_ble_eq_true rfl)⟩) (fun r_13 u H locs hw hP hD hK hS => ?_)
  have hP : va_P D vwCl [(h0, .inr (8, [.ref a0, .int tk, .ref a1, .int mm, .ref a2, .ref a3, .ref a4, .ref a5, .ref a6, .ref a7, .int wm, .int fa, .int th, .int se, .ref a8, .ref a9, .ref ab])), (a1, .inl (cI, 80, .inl g1)), (a2, .inl (cI, 128, .inl g2))] H := hP
  have hD : va_D A [(h0, .inr (8, [.ref a0, .int tk, .ref a1, .int mm, .ref a2, .ref a3, .ref a4, .ref a5, .ref a6, .ref a7, .int wm, .int fa, .int th, .int se, .ref a8, .ref a9, .ref ab])), (a1, .inl (cI, 80, .inl g1)), (a2, .inl (cI, 128, .inl g2))] := hD
  have hK : va_K D vwCl [(cI, .int)] s := hK
  refine lv_iconst (v := (-1)) hx hb dX9_canForesee_39 (by decide) ?_
  refine lv_ixor hx hb dX9_canForesee_40 ?_
  refine lv_topi (fun y_14 _ => ?_)
  refine lv_iand hx hb dX9_canForesee_41 ?_
  refine lv_topi (fun y_15 _ => ?_)
  refine go_i (wr := [(h0, .inr (8, [.ref a0, .int tk, .ref a1, .int mm, .ref a2, .ref a3, .ref a4, .ref a5, .ref a6, .ref a7, .int wm, .int fa, .int th, .int se, .ref a8, .ref a9, .ref ab])), (a1, .inl (cI, 80, .inl g1)), (a2, .inl (cI, 128, .inl g2))]) (tysr := [(cI, .int)]) hP hD hS hA hK [] [0, 1, 2] [0] rfl rfl (by decide) (by decide) rfl (va_runS (As := [.int y_15]) (rest := []) ⟨hx, hb, hml, hown, hts⟩ (g_bitCount l D H.size y_15 ) (va_cwS 1 hts gX9_canForesee_J6_bitCount_0f7a4 rfl rfl rfl (by decide +kernel) ⟨Nat.le_of_ble_eq_true rfl, Nat.le_of_ble_eq_true rfl⟩) (st_preS hP hD hK hNW [] [] rfl rfl (by decide) rfl) rfl rfl hl.1 rfl (lv_room (Nat.le_of_ble_eq_true rfl)) dX9_canForesee_42 ⟨(Nat.le_of_ble_eq_true rfl), (Nat.le_of_ble_eq_true rfl)⟩) (fun r_16 u H locs hw hP hD hK hS => ?_)
  have hP : va_P D vwCl [(h0, .inr (8, [.ref a0, .int tk, .ref a1, .int mm, .ref a2, .ref a3, .ref a4, .ref a5, .ref a6, .ref a7, .int wm, .int fa, .int th, .int se, .ref a8, .ref a9, .ref ab])), (a1, .inl (cI, 80, .inl g1)), (a2, .inl (cI, 128, .inl g2))] H := hP
  have hD : va_D A [(h0, .inr (8, [.ref a0, .int tk, .ref a1, .int mm, .ref a2, .ref a3, .ref a4, .ref a5, .ref a6, .ref a7, .int wm, .int fa, .int th, .int se, .ref a8, .ref a9, .ref ab])), (a1, .inl (cI, 80, .inl g1)), (a2, .inl (cI, 128, .inl g2))] := hD
  have hK : va_K D vwCl [(cI, .int)] s := hK
  refine lv_bipush (v := 14) hx hb dX9_canForesee_45 (by decide) ?_
  refine lv_icmp_gt (tgt := 54) hx hb dX9_canForesee_47 (by decide) (fun c_17 => ?_) (fun c_17 => ?_)
  · refine lv_iconst (v := 0) hx hb dX9_canForesee_54 (by decide) ?_
    exact ret_i hx hb hr hlocks rfl (u := ()) (Or.inl rfl) (hP.sub [0, 1, 2] rfl) (hK.sub [] rfl) (hD.sub [0, 1, 2] (by decide) rfl) hS (Nat.le_of_ble_eq_true rfl) (Nat.le_of_ble_eq_true rfl) dX9_canForesee_55
  refine lv_iconst (v := 1) hx hb dX9_canForesee_50 (by decide) ?_
  refine lv_goto (tgt := 55) hx hb dX9_canForesee_51 (by decide) ?_
  exact ret_i hx hb hr hlocks rfl (u := ()) (Or.inr (by clear hml hsz hr hlocks; have : (0 : Int32).toInt = 0 := (by decide); have : (14 : Int32).toInt = 14 := (by decide); have := ti_wi1 c_2; have := ti_nle c_6; have := ti_nlt c_17; have u1 := ti_m1 (i := mm) (by omega); omega)) (hP.sub [0, 1, 2] rfl) (hK.sub [] rfl) (hD.sub [0, 1, 2] (by decide) rfl) hS (Nat.le_of_ble_eq_true rfl) (Nat.le_of_ble_eq_true rfl) dX9_canForesee_55
