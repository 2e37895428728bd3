theorem him_behind_X9 : ∀ w ∈ wsX90, w ∈ wsX9_behind := mem_pl [3, 4, 5, 6, 7, 8, 9, 10, 11, 12, 13, 14, 15, 16, 17, 18, 19] rfl
set_option maxHeartbeats 4000000 in
set_option maxRecDepth 100000 in
theorem m_behind (l : Launch) (D : va_G) (sz : Nat) (cI : ClassId) (h0 : Nat) (a0 : Nat) (a1 : Nat) (a2 : Nat) (a3 : Nat) (a4 : Nat) (a5 : Nat) (a6 : Nat) (a7 : Nat) (a8 : Nat) (a9 : Nat) (ab : Nat) (tk : Int32) (mm : Int32) (wm : Int32) (fa : Int32) (th : Int32) (se : Int32) (g3 : Nat → Int32) (g5 : Nat → Int32) (v : Int32) (w : Int32) (x : Int32) (hbv : bi v 0 3) (hx3 : bi x 0 3) (hg3 : ∀ j, j < 4 → bi (g3 j) 1 8) (hg5 : ∀ j, bi (g5 j) 0 7) : Ci l yX9_behind wsX9_behind ({ frames := 0, cells := 0, slots := 0, locals := 0 } : Room) D [.ref h0, .int v, .int w, .int x] [(h0, .inr (8, [.ref a0, .int tk, .ref a1, .int mm, .ref a2, .ref a3, .ref a4, .ref a5, .ref a6, .ref a7, .int wm, .int fa, .int th, .int se, .ref a8, .ref a9, .ref ab])), (a3, .inl (cI, 4, .inl g3)), (a5, .inl (cI, 128, .inl g5))] [(cI, .int)] sz (fun (r : Int32) => fun (_ : Unit) => bi r 0 255) (fun (_ : Unit) => [(h0, .inr (8, [.ref a0, .int tk, .ref a1, .int mm, .ref a2, .ref a3, .ref a4, .ref a5, .ref a6, .ref a7, .int wm, .int fa, .int th, .int se, .ref a8, .ref a9, .ref ab])), (a3, .inl (cI, 4, .inl g3)), (a5, .inl (cI, 128, .inl g5))]) (fun (_ : Unit) => []) := by
  refine ct_i (cc := cX9_behind) (maxL := 6) (ret := (some .int)) (by decide) rfl (Nat.le_of_ble_eq_true rfl) ?_
  intro p e s m below meth c A ls H hx hb hr hts hown hml hlocks hin hA hS hP hK hD hNW hl hAe hsz
  have hl : lv_has ls 6 [(0, .ref h0), (1, .int v), (2, .int w), (3, .int x)] := hl
  have hs8_1 : bi (g3 (Int32.toNatClampNeg v)) 1 8 := hg3 _ (c4 hbv)
  refine lv_iconst (v := 0) hx hb dX9_behind_0 (by decide) ?_
  refine lv_istore (lv' := [(4, .int 0), (0, .ref h0), (1, .int v), (2, .int w), (3, .int x)]) hx hb dX9_behind_1 hl (by decide) rfl (fun ls hl => ?_)
  refine lv_iconst (v := 0) hx hb dX9_behind_3 (by decide) ?_
  refine lv_istore (lv' := [(5, .int 0), (4, .int 0), (0, .ref h0), (1, .int v), (2, .int w), (3, .int x)]) hx hb dX9_behind_4 hl (by decide) rfl (fun ls hl => ?_)
  refine lp_N (fun n9 H locs ls => ∃ (q_2 : Int32), ∃ (i_3 : Int32), n9 = ((g3 (Int32.toNatClampNeg v)).toInt - i_3.toInt).toNat ∧ (va_P D vwCl [(h0, .inr (8, [.ref a0, .int tk, .ref a1, .int mm, .ref a2, .ref a3, .ref a4, .ref a5, .ref a6, .ref a7, .int wm, .int fa, .int th, .int se, .ref a8, .ref a9, .ref ab])), (a3, .inl (cI, 4, .inl g3)), (a5, .inl (cI, 128, .inl g5))] H ∧ va_D A [(h0, .inr (8, [.ref a0, .int tk, .ref a1, .int mm, .ref a2, .ref a3, .ref a4, .ref a5, .ref a6, .ref a7, .int wm, .int fa, .int th, .int se, .ref a8, .ref a9, .ref ab])), (a3, .inl (cI, 4, .inl g3)), (a5, .inl (cI, 128, .inl g5))]) ∧ va_S A s.heap H locs ∧ lv_has ls 6 [(5, .int i_3), (4, .int q_2), (0, .ref h0), (1, .int v), (2, .int w), (3, .int x)] ∧ (0 ≤ i_3.toInt ∧ bi q_2 0 255)) ?_ ⟨0, 0, rfl, ⟨hP, hD⟩, hS, hl, ⟨by decide, by decide⟩⟩
  intro n9 ih_4 H locs ls hI
  obtain ⟨q_2, i_3, rfl, ⟨hP, hD⟩, hS, hl, hv_5⟩ := hI
  refine lv_iload hx hb dX9_behind_6 (lv_at hl 0 rfl) ?_
  refine lv_aload_n hx hb dX9_behind_8 rfl (lv_at hl 2 rfl) ?_
  refine va_get (D := D) (ci := 8) (v := .ref a3) (C := RX9) (T := TX9) (N := 17) hx hb hts him_behind_X9 hown hK hP 0 rfl rfl 5 (by decide) (hts (.fieldLink RX9 19 "OneHandsetModel" "states" "[I") (List.mem_of_getElem? (i := 1) rfl)) (fun _ h9 => h9) rfl dX9_behind_9 ?_
  refine lv_iload_n hx hb dX9_behind_12 rfl (lv_at hl 3 rfl) ?_
  refine va_iald hx hb hK hP 1 0 rfl rfl (vp_in_iff.mpr (by have u0 := hbv; clear hml hsz hr hlocks; omega)) dX9_behind_13 ?_
  refine lv_icmp_ge (tgt := 56) hx hb dX9_behind_14 (by decide) (fun c_6 => ?_) (fun c_6 => ?_)
  · refine lv_iload hx hb dX9_behind_56 (lv_at hl 1 rfl) ?_
    exact ret_i hx hb hr hlocks rfl (u := ()) ((hv_5).2) (hP.sub [0, 1, 2] rfl) (hK.sub [] rfl) (hD.sub [0, 1, 2] (by decide) rfl) hS (Nat.le_of_ble_eq_true rfl) (Nat.le_of_ble_eq_true rfl) dX9_behind_58
  refine jn_S 50 (fun st9 H locs ls => ∃ (q_7 : Int32), st9 = [] ∧ (va_P D vwCl [(h0, .inr (8, [.ref a0, .int tk, .ref a1, .int mm, .ref a2, .ref a3, .ref a4, .ref a5, .ref a6, .ref a7, .int wm, .int fa, .int th, .int se, .ref a8, .ref a9, .ref ab])), (a3, .inl (cI, 4, .inl g3)), (a5, .inl (cI, 128, .inl g5))] H ∧ va_D A [(h0, .inr (8, [.ref a0, .int tk, .ref a1, .int mm, .ref a2, .ref a3, .ref a4, .ref a5, .ref a6, .ref a7, .int wm, .int fa, .int th, .int se, .ref a8, .ref a9, .ref ab])), (a3, .inl (cI, 4, .inl g3)), (a5, .inl (cI, 128, .inl g5))]) ∧ va_S A s.heap H locs ∧ lv_has ls 6 [(5, .int i_3), (4, .int q_7), (0, .ref h0), (1, .int v), (2, .int w), (3, .int x)] ∧ (bi q_7 0 255)) ?_ ?_
  · intro st9 H locs ls hI
    obtain ⟨q_7, rfl, ⟨hP, hD⟩, hS, hl, hv_8⟩ := hI
    refine lv_iinc (v := i_3 + 1) (lv' := [(5, .int (i_3 + 1)), (4, .int q_7), (0, .ref h0), (1, .int v), (2, .int w), (3, .int x)]) hx hb dX9_behind_50 hl (k := 0) rfl (ii_p1 _) (by decide) rfl (fun ls hl => ?_)
    refine lv_goto (tgt := 6) hx hb dX9_behind_53 (by decide) ?_
    exact ih_4 _ _ _ _ (by clear hml hsz hr hlocks; have := ti_nle c_6; have u1 := ti_up (i := i_3) (n := (g3 (Int32.toNatClampNeg v))) (by omega); omega) ⟨q_7, i_3 + 1, rfl, ⟨hP, hD⟩, hS, lv_sub hl [0, 1, 2, 3, 4, 5] rfl, ⟨(by clear hml hsz hr hlocks; have := ti_nle c_6; have u1 := ti_up (i := i_3) (n := (g3 (Int32.toNatClampNeg v))) (by omega); omega), hv_8⟩⟩
  · intro hJ_9
    refine lv_iload_n hx hb dX9_behind_17 rfl (lv_at hl 4 rfl) ?_
    refine lv_iload hx hb dX9_behind_18 (lv_at hl 0 rfl) ?_
    refine lv_ishr hx hb dX9_behind_20 ?_
    refine lv_iconst (v := 1) hx hb dX9_behind_21 (by decide) ?_
    refine lv_iand hx hb dX9_behind_22 ?_
    refine lv_iconst (v := 1) hx hb dX9_behind_23 (by decide) ?_
    refine lv_icmp_ne (tgt := 50) hx hb dX9_behind_24 (by decide) (fun c_10 => ?_) (fun c_10 => ?_)
    · exact hJ_9 _ _ _ _ ⟨q_2, rfl, ⟨hP, hD⟩, hS, lv_sub hl [0, 1, 2, 3, 4, 5] rfl, (by first | assumption | (clear hml hsz hr hlocks; omega))⟩
    refine lv_iload hx hb dX9_behind_27 (lv_at hl 1 rfl) ?_
    refine lv_iconst (v := 1) hx hb dX9_behind_29 (by decide) ?_
    refine lv_aload_n hx hb dX9_behind_30 rfl (lv_at hl 2 rfl) ?_
    refine va_get (D := D) (ci := 8) (v := .ref a5) (C := RX9) (T := TX9) (N := 17) hx hb hts him_behind_X9 hown hK hP 0 rfl rfl 7 (by decide) (hts (.fieldLink RX9 25 "OneHandsetModel" "leads" "[I") (List.mem_of_getElem? (i := 2) rfl)) (fun _ h9 => h9) rfl dX9_behind_31 ?_
    refine lv_bipush (v := 32) hx hb dX9_behind_34 (by decide) ?_
    refine lv_iload_n hx hb dX9_behind_36 rfl (lv_at hl 3 rfl) ?_
    refine lv_imul hx hb dX9_behind_37 ?_
    refine lv_iconst (v := 4) hx hb dX9_behind_38 (by decide) ?_
    refine lv_iload hx hb dX9_behind_39 (lv_at hl 0 rfl) ?_
    refine lv_imul hx hb dX9_behind_41 ?_
    refine lv_iadd hx hb dX9_behind_42 ?_
    refine lv_iload_n hx hb dX9_behind_43 rfl (lv_at hl 5 rfl) ?_
    refine lv_iadd hx hb dX9_behind_44 ?_
    refine va_iald hx hb hK hP 2 0 rfl rfl (by clear hml hsz hr hlocks; have : (1 : Int32).toInt = 1 := (by decide); have := ti_nle c_6; have := ti_eq c_10; have u3 := ix324 (m := v) (x := i_3) (y := x) hbv (by have : (1 : Int32).toInt = 1 := (by decide); have := ti_nle c_6; have := ti_eq c_10; omega) hx3; exact vp_in_iff.mpr (by omega)) dX9_behind_45 ?_
    refine lv_ishl hx hb dX9_behind_46 ?_
    refine lv_ior hx hb dX9_behind_47 ?_
    refine lv_istore (lv' := [(4, .int (q_2 ||| (1 <<< ((g5 (Int32.toNatClampNeg (((32 * v) + (4 * i_3)) + x))) &&& 31)))), (5, .int i_3), (0, .ref h0), (1, .int v), (2, .int w), (3, .int x)]) hx hb dX9_behind_48 hl (by decide) rfl (fun ls hl => ?_)
    exact hJ_9 _ _ _ _ ⟨q_2 ||| (1 <<< ((g5 (Int32.toNatClampNeg (((32 * v) + (4 * i_3)) + x))) &&& 31)), rfl, ⟨hP, hD⟩, hS, lv_sub hl [1, 0, 2, 3, 4, 5] rfl, (or_bi (by first | assumption | (clear hml hsz hr hlocks; omega)) (hg5 _))⟩
theorem him_isSet_X9 : ∀ w ∈ wsX90, w ∈ wsX9_isSet := mem_pl [6, 7, 8, 9, 10, 11, 12, 13, 14, 15, 16, 17, 18, 19, 20, 21, 22] rfl
set_option maxHeartbeats 4000000 in
set_option maxRecDepth 100000 in
theorem m_isSet (l : Launch) (D : va_G) (sz : Nat) (cI : ClassId) (h0 : Nat) (a0 : Nat) (a1 : Nat) (a2 : Nat) (a3 : Nat) (a4 : Nat) (a5 : Nat) (a6 : Nat) (a7 : Nat) (a8 : Nat) (a9 : Nat) (ab : Nat) (tk : Int32) (mm : Int32) (wm : Int32) (fa : Int32) (th : Int32) (se : Int32) (g3 : Nat → Int32) (v : Int32) (w : Int32) (hbv : bi v 0 3) : Ci l yX9_isSet wsX9_isSet ({ frames := 1, cells := 0, slots := 0, locals := 22 } : Room) D [.ref h0, .int v, .int w] [(h0, .inr (8, [.ref a0, .int tk, .ref a1, .int mm, .ref a2, .ref a3, .ref a4, .ref a5, .ref a6, .ref a7, .int wm, .int fa, .int th, .int se, .ref a8, .ref a9, .ref ab])), (a3, .inl (cI, 4, .inl g3))] [(cI, .int)] sz (fun (r : Int32) => fun (_ : Unit) => r = wi w 1 (lb (g3 (Int32.toNatClampNeg v)))) (fun (_ : Unit) => [(h0, .inr (8, [.ref a0, .int tk, .ref a1, .int mm, .ref a2, .ref a3, .ref a4, .ref a5, .ref a6, .ref a7, .int wm, .int fa, .int th, .int se, .ref a8, .ref a9, .ref ab])), (a3, .inl (cI, 4, .inl g3))]) (fun (_ : Unit) => []) := by
  refine ct_i (cc := cX9_isSet) (maxL := 3) (ret := (some .boolean)) (by decide) rfl (Nat.le_of_ble_eq_true rfl) ?_
  intro p e s m below meth c A ls H hx hb hr hts hown hml hlocks hin hA hS hP hK hD hNW hl hAe hsz
  have hl : lv_has ls 3 [(0, .ref h0), (1, .int v), (2, .int w)] := hl
  refine lv_iload_n hx hb dX9_isSet_0 rfl (lv_at hl 2 rfl) ?_
  refine lv_iconst (v := 1) hx hb dX9_isSet_1 (by decide) ?_
  refine lv_iconst (v := 1) hx hb dX9_isSet_2 (by decide) ?_
  refine lv_aload_n hx hb dX9_isSet_3 rfl (lv_at hl 0 rfl) ?_
  refine va_get (D := D) (ci := 8) (v := .ref a3) (C := RX9) (T := TX9) (N := 17) hx hb hts him_isSet_X9 hown hK hP 0 rfl rfl 5 (by decide) (hts (.fieldLink RX9 19 "OneHandsetModel" "states" "[I") (List.mem_of_getElem? (i := 1) rfl)) (fun _ h9 => h9) rfl dX9_isSet_4 ?_
  refine lv_iload_n hx hb dX9_isSet_7 rfl (lv_at hl 1 rfl) ?_
  refine va_iald hx hb hK hP 1 0 rfl rfl (vp_in_iff.mpr (by have u0 := hbv; clear hml hsz hr hlocks; omega)) dX9_isSet_8 ?_
  refine lv_ishl hx hb dX9_isSet_9 ?_
  refine lv_iconst (v := 1) hx hb dX9_isSet_10 (by decide) ?_
  refine lv_isub hx hb dX9_isSet_11 ?_
  refine go_i (wr := [(h0, .inr (8, [.ref a0, .int tk, .ref a1, .int mm, .ref a2, .ref a3, .ref a4, .ref a5, .ref a6, .ref a7, .int wm, .int fa, .int th, .int se, .ref a8, .ref a9, .ref ab])), (a3, .inl (cI, 4, .inl g3))]) (tysr := [(cI, .int)]) hP hD hS hA hK [] [0, 1] [0] rfl rfl (by decide) (by decide) rfl (va_runS (As := [.int w, .int 1, .int ((1 <<< ((g3 (Int32.toNatClampNeg v)) &&& 31)) - 1)]) (rest := []) ⟨hx, hb, hml, hown, hts⟩ (m_in l D H.size w 1 ((1 <<< ((g3 (Int32.toNatClampNeg v)) &&& 31)) - 1) ) (va_cwS 3 hts gX9_isSet_X9_in rfl rfl rfl (by decide +kernel) ⟨Nat.le_of_ble_eq_true rfl, Nat.le_of_ble_eq_true rfl⟩) (st_preS hP hD hK hNW [] [] rfl rfl (by decide) rfl) rfl rfl hl.1 rfl (lv_room (Nat.le_of_ble_eq_true rfl)) dX9_isSet_12 ⟨(Nat.le_of_ble_eq_true rfl), (Nat.le_of_ble_eq_true rfl)⟩) (fun r_1 u H locs hw hP hD hK hS => ?_)
  have hw : r_1 = wi w 1 ((1 <<< ((g3 (Int32.toNatClampNeg v)) &&& 31)) - 1) := hw
  subst hw
  have hP : va_P D vwCl [(h0, .inr (8, [.ref a0, .int tk, .ref a1, .int mm, .ref a2, .ref a3, .ref a4, .ref a5, .ref a6, .ref a7, .int wm, .int fa, .int th, .int se, .ref a8, .ref a9, .ref ab])), (a3, .inl (cI, 4, .inl g3))] H := hP
  have hD : va_D A [(h0, .inr (8, [.ref a0, .int tk, .ref a1, .int mm, .ref a2, .ref a3, .ref a4, .ref a5, .ref a6, .ref a7, .int wm, .int fa, .int th, .int se, .ref a8, .ref a9, .ref ab])), (a3, .inl (cI, 4, .inl g3))] := hD
  have hK : va_K D vwCl [(cI, .int)] s := hK
  exact ret_i hx hb hr hlocks (wi_nar _ _ _) (u := ()) rfl (hP.sub [0, 1] rfl) (hK.sub [] rfl) (hD.sub [0, 1] (by decide) rfl) hS (Nat.le_of_ble_eq_true rfl) (Nat.le_of_ble_eq_true rfl) dX9_isSet_15
theorem him_box_X9 : ∀ w ∈ wsX90, w ∈ wsX9_box := mem_pl [13, 14, 15, 16, 17, 18, 19, 20, 21, 22, 23, 24, 25, 26, 27, 28, 29] rfl
set_option maxHeartbeats 4000000 in
set_option maxRecDepth 100000 in
theorem m_box (l : Launch) (D : va_G) (sz : Nat) (cI : ClassId) (h0 : Nat) (a0 : Nat) (a1 : Nat) (a2 : Nat) (a3 : Nat) (a4 : Nat) (a5 : Nat) (a6 : Nat) (a7 : Nat) (a8 : Nat) (a9 : Nat) (ab : Nat) (tk : Int32) (mm : Int32) (wm : Int32) (fa : Int32) (th : Int32) (se : Int32) (g3 : Nat → Int32) (g4 : Nat → Int32) (g5 : Nat → Int32) (g6 : Nat → Int32) (v : Int32) (w : Int32) (x : Int32) (hg3 : ∀ j, j < 4 → bi (g3 j) 1 8) (hg4 : ∀ j, j < 4 → bi (g4 j) 1 4) (hg5 : ∀ j, bi (g5 j) 0 7) (hg6 : ∀ j, j < 4 → bi (g6 j) 0 255) : Ci l yX9_box wsX9_box ({ frames := 2, cells := 0, slots := 0, locals := 42 } : Room) D [.ref h0, .int v, .int w, .int x] [(h0, .inr (8, [.ref a0, .int tk, .ref a1, .int mm, .ref a2, .ref a3, .ref a4, .ref a5, .ref a6, .ref a7, .int wm, .int fa, .int th, .int se, .ref a8, .ref a9, .ref ab])), (a3, .inl (cI, 4, .inl g3)), (a4, .inl (cI, 4, .inl g4)), (a5, .inl (cI, 128, .inl g5)), (a6, .inl (cI, 4, .inl g6))] [(cI, .int)] sz (fun (r : Int32) => fun (u9 : Int32 × (Nat → Int32) × (Nat → Int32) × (Nat → Int32) × (Nat → Int32)) => match u9 with | (th2, g32, g42, g52, g62) => (∀ j, j < 4 → bi (g32 j) 1 8) ∧ (∀ j, j < 4 → bi (g42 j) 1 4) ∧ (∀ j, bi (g52 j) 0 7) ∧ (∀ j, j < 4 → bi (g62 j) 0 255)) (fun (u9 : Int32 × (Nat → Int32) × (Nat → Int32) × (Nat → Int32) × (Nat → Int32)) => match u9 with | (th2, g32, g42, g52, g62) => [(h0, .inr (8, [.ref a0, .int tk, .ref a1, .int mm, .ref a2, .ref a3, .ref a4, .ref a5, .ref a6, .ref a7, .int wm, .int fa, .int th2, .int se, .ref a8, .ref a9, .ref ab])), (a3, .inl (cI, 4, .inl g32)), (a4, .inl (cI, 4, .inl g42)), (a5, .inl (cI, 128, .inl g52)), (a6, .inl (cI, 4, .inl g62))]) (fun (u9 : Int32 × (Nat → Int32) × (Nat → Int32) × (Nat → Int32) × (Nat → Int32)) => match u9 with | (th2, g32, g42, g52, g62) => []) := by
  refine ct_i (cc := cX9_box) (maxL := 5) (ret := (some .boolean)) (by decide) rfl (Nat.le_of_ble_eq_true rfl) ?_
  intro p e s m below meth c A ls H hx hb hr hts hown hml hlocks hin hA hS hP hK hD hNW hl hAe hsz
  have hl : lv_has ls 5 [(0, .ref h0), (1, .int v), (2, .int w), (3, .int x)] := hl
  refine lv_aload_n hx hb dX9_box_0 rfl (lv_at hl 0 rfl) ?_
  refine lv_iconst (v := 0) hx hb dX9_box_1 (by decide) ?_
  refine va_put (D := D) (ci := 8) (v := .int 0) (ty := .int) (C := RX9) (T := TX9) (N := 17) hx hb hts him_box_X9 tyX9 tyX9_ok nmX9 hown hK hP hD hS 0 rfl rfl 12 (by decide) (hts (.fieldLink RX9 43 "OneHandsetModel" "thrown" "I") (List.mem_of_getElem? (i := 1) rfl)) (fun _ h9 => h9) rfl (by decide +kernel) rfl rfl (Nat.le_of_ble_eq_true rfl) dX9_box_2 (fun H locs hP hD hS => ?_)
  have hP : va_P D vwCl [(h0, .inr (8, [.ref a0, .int tk, .ref a1, .int mm, .ref a2, .ref a3, .ref a4, .ref a5, .ref a6, .ref a7, .int wm, .int fa, .int 0, .int se, .ref a8, .ref a9, .ref ab])), (a3, .inl (cI, 4, .inl g3)), (a4, .inl (cI, 4, .inl g4)), (a5, .inl (cI, 128, .inl g5)), (a6, .inl (cI, 4, .inl g6))] H := hP
  have hD : va_D A [(h0, .inr (8, [.ref a0, .int tk, .ref a1, .int mm, .ref a2, .ref a3, .ref a4, .ref a5, .ref a6, .ref a7, .int wm, .int fa, .int 0, .int se, .ref a8, .ref a9, .ref ab])), (a3, .inl (cI, 4, .inl g3)), (a4, .inl (cI, 4, .inl g4)), (a5, .inl (cI, 128, .inl g5)), (a6, .inl (cI, 4, .inl g6))] := hD
  refine lv_iload_n hx hb dX9_box_5 rfl (lv_at hl 1 rfl) ?_
  refine go_i (wr := [(h0, .inr (8, [.ref a0, .int tk, .ref a1, .int mm, .ref a2, .ref a3, .ref a4, .ref a5, .ref a6, .ref a7, .int wm, .int fa, .int 0, .int se, .ref a8, .ref a9, .ref ab])), (a3, .inl (cI, 4, .inl g3)), (a4, .inl (cI, 4, .inl g4)), (a5, .inl (cI, 128, .inl g5)), (a6, .inl (cI, 4, .inl g6))]) (tysr := [(cI, .int)]) hP hD hS hA hK [] [0, 1, 2, 3, 4] [0] rfl rfl (by decide) (by decide) rfl (va_runS (As := [.int v]) (rest := []) ⟨hx, hb, hml, hown, hts⟩ (m_isBox l D H.size v ) (va_cwS 1 hts gX9_box_X9_isBox rfl rfl rfl (by decide +kernel) ⟨Nat.le_of_ble_eq_true rfl, Nat.le_of_ble_eq_true rfl⟩) (st_preS hP hD hK hNW [] [] rfl rfl (by decide) rfl) rfl rfl hl.1 rfl (lv_room (Nat.le_of_ble_eq_true rfl)) dX9_box_6 ⟨(Nat.le_of_ble_eq_true rfl), (Nat.le_of_ble_eq_true rfl)⟩) (fun r_1 u H locs hw hP hD hK hS => ?_)
  have hw : r_1 = wi v 0 3 := hw
  subst hw
  have hP : va_P D vwCl [(h0, .inr (8, [.ref a0, .int tk, .ref a1, .int mm, .ref a2, .ref a3, .ref a4, .ref a5, .ref a6, .ref a7, .int wm, .int fa, .int 0, .int se, .ref a8, .ref a9, .ref ab])), (a3, .inl (cI, 4, .inl g3)), (a4, .inl (cI, 4, .inl g4)), (a5, .inl (cI, 128, .inl g5)), (a6, .inl (cI, 4, .inl g6))] H := hP
  have hD : va_D A [(h0, .inr (8, [.ref a0, .int tk, .ref a1, .int mm, .ref a2, .ref a3, .ref a4, .ref a5, .ref a6, .ref a7, .int wm, .int fa, .int 0, .int se, .ref a8, .ref a9, .ref ab])), (a3, .inl (cI, 4, .inl g3)), (a4, .inl (cI, 4, .inl g4)), (a5, .inl (cI, 128, .inl g5)), (a6, .inl (cI, 4, .inl g6))] := hD
  have hK : va_K D vwCl [(cI, .int)] s := hK
  refine lv_if_eq (tgt := 31) hx hb dX9_box_9 (by decide) (fun c_2 => ?_) (fun c_2 => ?_)
  · refine lv_iconst (v := 0) hx hb dX9_box_31 (by decide) ?_
    exact ret_i hx hb hr hlocks rfl (u := (0, g3, g4, g5, g6)) (⟨hg3, hg4, hg5, hg6⟩) (hP.sub [0, 1, 2, 3, 4] rfl) (hK.sub [] rfl) (hD.sub [0, 1, 2, 3, 4] (by decide) rfl) hS (Nat.le_of_ble_eq_true rfl) (Nat.le_of_ble_eq_true rfl) dX9_box_32
  refine lv_iload_n hx hb dX9_box_12 rfl (lv_at hl 2 rfl) ?_
  refine lv_iconst (v := 1) hx hb dX9_box_13 (by decide) ?_
  refine lv_bipush (v := 8) hx hb dX9_box_14 (by decide) ?_
  refine go_i (wr := [(h0, .inr (8, [.ref a0, .int tk, .ref a1, .int mm, .ref a2, .ref a3, .ref a4, .ref a5, .ref a6, .ref a7, .int wm, .int fa, .int 0, .int se, .ref a8, .ref a9, .ref ab])), (a3, .inl (cI, 4, .inl g3)), (a4, .inl (cI, 4, .inl g4)), (a5, .inl (cI, 128, .inl g5)), (a6, .inl (cI, 4, .inl g6))]) (tysr := [(cI, .int)]) hP hD hS hA hK [] [0, 1, 2, 3, 4] [0] rfl rfl (by decide) (by decide) rfl (va_runS (As := [.int w, .int 1, .int 8]) (rest := []) ⟨hx, hb, hml, hown, hts⟩ (m_in l D H.size w 1 8 ) (va_cwS 3 hts gX9_box_X9_in rfl rfl rfl (by decide +kernel) ⟨Nat.le_of_ble_eq_true rfl, Nat.le_of_ble_eq_true rfl⟩) (st_preS hP hD hK hNW [] [] rfl rfl (by decide) rfl) rfl rfl hl.1 rfl (lv_room (Nat.le_of_ble_eq_true rfl)) dX9_box_16 ⟨(Nat.le_of_ble_eq_true rfl), (Nat.le_of_ble_eq_true rfl)⟩) (fun r_3 u H locs hw hP hD hK hS => ?_)
  have hw : r_3 = wi w 1 8 := hw
  subst hw
  have hP : va_P D vwCl [(h0, .inr (8, [.ref a0, .int tk, .ref a1, .int mm, .ref a2, .ref a3, .ref a4, .ref a5, .ref a6, .ref a7, .int wm, .int fa, .int 0, .int se, .ref a8, .ref a9, .ref ab])), (a3, .inl (cI, 4, .inl g3)), (a4, .inl (cI, 4, .inl g4)), (a5, .inl (cI, 128, .inl g5)), (a6, .inl (cI, 4, .inl g6))] H := hP
  have hD : va_D A [(h0, .inr (8, [.ref a0, .int tk, .ref a1, .int mm, .ref a2, .ref a3, .ref a4, .ref a5, .ref a6, .ref a7, .int wm, .int fa, .int 0, .int se, .ref a8, .ref a9, .ref ab])), (a3, .inl (cI, 4, .inl g3)), (a4, .inl (cI, 4, .inl g4)), (a5, .inl (cI, 128, .inl g5)), (a6, .inl (cI, 4, .inl g6))] := hD
  have hK : va_K D vwCl [(cI, .int)] s := hK
  refine lv_if_eq (tgt := 31) hx hb dX9_box_19 (by decide) (fun c_4 => ?_) (fun c_4 => ?_)
  · refine lv_iconst (v := 0) hx hb dX9_box_31 (by decide) ?_
    exact ret_i hx hb hr hlocks rfl (u := (0, g3, g4, g5, g6)) (⟨hg3, hg4, hg5, hg6⟩) (hP.sub [0, 1, 2, 3, 4] rfl) (hK.sub [] rfl) (hD.sub [0, 1, 2, 3, 4] (by decide) rfl) hS (Nat.le_of_ble_eq_true rfl) (Nat.le_of_ble_eq_true rfl) dX9_box_32
  refine lv_iload_n hx hb dX9_box_22 rfl (lv_at hl 3 rfl) ?_
  refine lv_iconst (v := 1) hx hb dX9_box_23 (by decide) ?_
  refine lv_iconst (v := 4) hx hb dX9_box_24 (by decide) ?_
  refine go_i (wr := [(h0, .inr (8, [.ref a0, .int tk, .ref a1, .int mm, .ref a2, .ref a3, .ref a4, .ref a5, .ref a6, .ref a7, .int wm, .int fa, .int 0, .int se, .ref a8, .ref a9, .ref ab])), (a3, .inl (cI, 4, .inl g3)), (a4, .inl (cI, 4, .inl g4)), (a5, .inl (cI, 128, .inl g5)), (a6, .inl (cI, 4, .inl g6))]) (tysr := [(cI, .int)]) hP hD hS hA hK [] [0, 1, 2, 3, 4] [0] rfl rfl (by decide) (by decide) rfl (va_runS (As := [.int x, .int 1, .int 4]) (rest := []) ⟨hx, hb, hml, hown, hts⟩ (m_in l D H.size x 1 4 ) (va_cwS 3 hts gX9_box_X9_in rfl rfl rfl (by decide +kernel) ⟨Nat.le_of_ble_eq_true rfl, Nat.le_of_ble_eq_true rfl⟩) (st_preS hP hD hK hNW [] [] rfl rfl (by decide) rfl) rfl rfl hl.1 rfl (lv_room (Nat.le_of_ble_eq_true rfl)) dX9_box_25 ⟨(Nat.le_of_ble_eq_true rfl), (Nat.le_of_ble_eq_true rfl)⟩) (fun r_5 u H locs hw hP hD hK hS => ?_)
  have hw : r_5 = wi x 1 4 := hw
  subst hw
  have hP : va_P D vwCl [(h0, .inr (8, [.ref a0, .int tk, .ref a1, .int mm, .ref a2, .ref a3, .ref a4, .ref a5, .ref a6, .ref a7, .int wm, .int fa, .int 0, .int se, .ref a8, .ref a9, .ref ab])), (a3, .inl (cI, 4, .inl g3)), (a4, .inl (cI, 4, .inl g4)), (a5, .inl (cI, 128, .inl g5)), (a6, .inl (cI, 4, .inl g6))] H := hP
  have hD : va_D A [(h0, .inr (8, [.ref a0, .int tk, .ref a1, .int mm, .ref a2, .ref a3, .ref a4, .ref a5, .ref a6, .ref a7, .int wm, .int fa, .int 0, .int se, .ref a8, .ref a9, .ref ab])), (a3, .inl (cI, 4, .inl g3)), (a4, .inl (cI, 4, .inl g4)), (a5, .inl (cI, 128, .inl g5)), (a6, .inl (cI, 4, .inl g6))] := hD
  have hK : va_K D vwCl [(cI, .int)] s := hK
  refine lv_if_ne (tgt := 33) hx hb dX9_box_28 (by decide) (fun c_6 => ?_) (fun c_6 => ?_)
  · have hv3_7 : bi v 0 3 := (by clear hml hsz hr hlocks; have : (0 : Int32).toInt = 0 := (by decide); have : (1 : Int32).toInt = 1 := (by decide); have : (3 : Int32).toInt = 3 := (by decide); have : (4 : Int32).toInt = 4 := (by decide); have : (8 : Int32).toInt = 8 := (by decide); have := ti_wi1 c_2; have := ti_wi1 c_4; have := ti_wi1 c_6; have k0 : (0 : Int32).toInt = 0 := (by decide); have k3 : (3 : Int32).toInt = 3 := (by decide); omega)
    have hw8_8 : bi w 1 8 := (by clear hml hsz hr hlocks; have : (0 : Int32).toInt = 0 := (by decide); have : (1 : Int32).toInt = 1 := (by decide); have : (3 : Int32).toInt = 3 := (by decide); have : (4 : Int32).toInt = 4 := (by decide); have : (8 : Int32).toInt = 8 := (by decide); have := ti_wi1 c_2; have := ti_wi1 c_4; have := ti_wi1 c_6; have k1 : (1 : Int32).toInt = 1 := (by decide); have k8 : (8 : Int32).toInt = 8 := (by decide); omega)
    have hx4_9 : bi x 1 4 := (by clear hml hsz hr hlocks; have : (0 : Int32).toInt = 0 := (by decide); have : (1 : Int32).toInt = 1 := (by decide); have : (3 : Int32).toInt = 3 := (by decide); have : (4 : Int32).toInt = 4 := (by decide); have : (8 : Int32).toInt = 8 := (by decide); have := ti_wi1 c_2; have := ti_wi1 c_4; have := ti_wi1 c_6; have k1 : (1 : Int32).toInt = 1 := (by decide); have k4 : (4 : Int32).toInt = 4 := (by decide); omega)
    refine lv_aload_n hx hb dX9_box_33 rfl (lv_at hl 0 rfl) ?_
    refine va_get (D := D) (ci := 8) (v := .ref a3) (C := RX9) (T := TX9) (N := 17) hx hb hts him_box_X9 hown hK hP 0 rfl rfl 5 (by decide) (hts (.fieldLink RX9 19 "OneHandsetModel" "states" "[I") (List.mem_of_getElem? (i := 2) rfl)) (fun _ h9 => h9) rfl dX9_box_34 ?_
    refine lv_iload_n hx hb dX9_box_37 rfl (lv_at hl 1 rfl) ?_
    refine lv_iload_n hx hb dX9_box_38 rfl (lv_at hl 2 rfl) ?_
    refine va_iast hx hb hK hP hD hS 1 0 rfl rfl (vp_in_iff.mpr (by have u0 := hv3_7; clear hml hsz hr hlocks; omega)) dX9_box_39 (fun H locs hP hD hS => ?_)
    have hP : va_P D vwCl [(h0, .inr (8, [.ref a0, .int tk, .ref a1, .int mm, .ref a2, .ref a3, .ref a4, .ref a5, .ref a6, .ref a7, .int wm, .int fa, .int 0, .int se, .ref a8, .ref a9, .ref ab])), (a3, .inl (cI, 4, .inl (upd g3 (Int32.toNatClampNeg v) w))), (a4, .inl (cI, 4, .inl g4)), (a5, .inl (cI, 128, .inl g5)), (a6, .inl (cI, 4, .inl g6))] H := hP
    have hD : va_D A [(h0, .inr (8, [.ref a0, .int tk, .ref a1, .int mm, .ref a2, .ref a3, .ref a4, .ref a5, .ref a6, .ref a7, .int wm, .int fa, .int 0, .int se, .ref a8, .ref a9, .ref ab])), (a3, .inl (cI, 4, .inl (upd g3 (Int32.toNatClampNeg v) w))), (a4, .inl (cI, 4, .inl g4)), (a5, .inl (cI, 128, .inl g5)), (a6, .inl (cI, 4, .inl g6))] := hD
    refine lv_aload_n hx hb dX9_box_40 rfl (lv_at hl 0 rfl) ?_
    refine va_get (D := D) (ci := 8) (v := .ref a4) (C := RX9) (T := TX9) (N := 17) hx hb hts him_box_X9 hown hK hP 0 rfl rfl 6 (by decide) (hts (.fieldLink RX9 22 "OneHandsetModel" "buttons" "[I") (List.mem_of_getElem? (i := 3) rfl)) (fun _ h9 => h9) rfl dX9_box_41 ?_
    refine lv_iload_n hx hb dX9_box_44 rfl (lv_at hl 1 rfl) ?_
    refine lv_iload_n hx hb dX9_box_45 rfl (lv_at hl 3 rfl) ?_
    refine va_iast hx hb hK hP hD hS 2 0 rfl rfl (vp_in_iff.mpr (by have u0 := hv3_7; clear hml hsz hr hlocks; omega)) dX9_box_46 (fun H locs hP hD hS => ?_)
    have hP : va_P D vwCl [(h0, .inr (8, [.ref a0, .int tk, .ref a1, .int mm, .ref a2, .ref a3, .ref a4, .ref a5, .ref a6, .ref a7, .int wm, .int fa, .int 0, .int se, .ref a8, .ref a9, .ref ab])), (a3, .inl (cI, 4, .inl (upd g3 (Int32.toNatClampNeg v) w))), (a4, .inl (cI, 4, .inl (upd g4 (Int32.toNatClampNeg v) x))), (a5, .inl (cI, 128, .inl g5)), (a6, .inl (cI, 4, .inl g6))] H := hP
    have hD : va_D A [(h0, .inr (8, [.ref a0, .int tk, .ref a1, .int mm, .ref a2, .ref a3, .ref a4, .ref a5, .ref a6, .ref a7, .int wm, .int fa, .int 0, .int se, .ref a8, .ref a9, .ref ab])), (a3, .inl (cI, 4, .inl (upd g3 (Int32.toNatClampNeg v) w))), (a4, .inl (cI, 4, .inl (upd g4 (Int32.toNatClampNeg v) x))), (a5, .inl (cI, 128, .inl g5)), (a6, .inl (cI, 4, .inl g6))] := hD
    refine lv_iconst (v := 0) hx hb dX9_box_47 (by decide) ?_
    refine lv_istore (lv' := [(4, .int 0), (0, .ref h0), (1, .int v), (2, .int w), (3, .int x)]) hx hb dX9_box_48 hl (by decide) rfl (fun ls hl => ?_)
    refine lp_N (fun n9 H locs ls => ∃ (g_10 : Nat → Int32), ∃ (i_11 : Int32), n9 = (32 - i_11.toInt).toNat ∧ (va_P D vwCl [(h0, .inr (8, [.ref a0, .int tk, .ref a1, .int mm, .ref a2, .ref a3, .ref a4, .ref a5, .ref a6, .ref a7, .int wm, .int fa, .int 0, .int se, .ref a8, .ref a9, .ref ab])), (a3, .inl (cI, 4, .inl (upd g3 (Int32.toNatClampNeg v) w))), (a4, .inl (cI, 4, .inl (upd g4 (Int32.toNatClampNeg v) x))), (a5, .inl (cI, 128, .inl g_10)), (a6, .inl (cI, 4, .inl g6))] H ∧ va_D A [(h0, .inr (8, [.ref a0, .int tk, .ref a1, .int mm, .ref a2, .ref a3, .ref a4, .ref a5, .ref a6, .ref a7, .int wm, .int fa, .int 0, .int se, .ref a8, .ref a9, .ref ab])), (a3, .inl (cI, 4, .inl (upd g3 (Int32.toNatClampNeg v) w))), (a4, .inl (cI, 4, .inl (upd g4 (Int32.toNatClampNeg v) x))), (a5, .inl (cI, 128, .inl g_10)), (a6, .inl (cI, 4, .inl g6))]) ∧ va_S A s.heap H locs ∧ lv_has ls 5 [(4, .int i_11), (0, .ref h0), (1, .int v), (2, .int w), (3, .int x)] ∧ ((∀ j, bi (g_10 j) 0 7) ∧ 0 ≤ i_11.toInt)) ?_ ⟨g5, 0, rfl, ⟨hP, hD⟩, hS, hl, ⟨hg5, by decide⟩⟩
    intro n9 ih_12 H locs ls hI
    obtain ⟨g_10, i_11, rfl, ⟨hP, hD⟩, hS, hl, hv_13⟩ := hI
    refine lv_iload hx hb dX9_box_50 (lv_at hl 0 rfl) ?_
    refine lv_bipush (v := 32) hx hb dX9_box_52 (by decide) ?_
    refine lv_icmp_ge (tgt := 76) hx hb dX9_box_54 (by decide) (fun c_14 => ?_) (fun c_14 => ?_)
    · refine lv_aload_n hx hb dX9_box_76 rfl (lv_at hl 1 rfl) ?_
      refine va_get (D := D) (ci := 8) (v := .ref a6) (C := RX9) (T := TX9) (N := 17) hx hb hts him_box_X9 hown hK hP 0 rfl rfl 8 (by decide) (hts (.fieldLink RX9 28 "OneHandsetModel" "sets" "[I") (List.mem_of_getElem? (i := 5) rfl)) (fun _ h9 => h9) rfl dX9_box_77 ?_
      refine lv_iload_n hx hb dX9_box_80 rfl (lv_at hl 2 rfl) ?_
      refine lv_iconst (v := 1) hx hb dX9_box_81 (by decide) ?_
      refine lv_iload_n hx hb dX9_box_82 rfl (lv_at hl 3 rfl) ?_
      refine lv_ishl hx hb dX9_box_83 ?_
      refine lv_iconst (v := 1) hx hb dX9_box_84 (by decide) ?_
      refine lv_isub hx hb dX9_box_85 ?_
      refine va_iast hx hb hK hP hD hS 4 0 rfl rfl (vp_in_iff.mpr (by have u0 := hv3_7; clear hml hsz hr hlocks; omega)) dX9_box_86 (fun H locs hP hD hS => ?_)
      have hP : va_P D vwCl [(h0, .inr (8, [.ref a0, .int tk, .ref a1, .int mm, .ref a2, .ref a3, .ref a4, .ref a5, .ref a6, .ref a7, .int wm, .int fa, .int 0, .int se, .ref a8, .ref a9, .ref ab])), (a3, .inl (cI, 4, .inl (upd g3 (Int32.toNatClampNeg v) w))), (a4, .inl (cI, 4, .inl (upd g4 (Int32.toNatClampNeg v) x))), (a5, .inl (cI, 128, .inl g_10)), (a6, .inl (cI, 4, .inl (upd g6 (Int32.toNatClampNeg v) ((1 <<< (w &&& 31)) - 1))))] H := hP
      have hD : va_D A [(h0, .inr (8, [.ref a0, .int tk, .ref a1, .int mm, .ref a2, .ref a3, .ref a4, .ref a5, .ref a6, .ref a7, .int wm, .int fa, .int 0, .int se, .ref a8, .ref a9, .ref ab])), (a3, .inl (cI, 4, .inl (upd g3 (Int32.toNatClampNeg v) w))), (a4, .inl (cI, 4, .inl (upd g4 (Int32.toNatClampNeg v) x))), (a5, .inl (cI, 128, .inl g_10)), (a6, .inl (cI, 4, .inl (upd g6 (Int32.toNatClampNeg v) ((1 <<< (w &&& 31)) - 1))))] := hD
      refine lv_iconst (v := 1) hx hb dX9_box_87 (by decide) ?_
      exact ret_i hx hb hr hlocks rfl (u := (0, upd g3 (Int32.toNatClampNeg v) w, upd g4 (Int32.toNatClampNeg v) x, g_10, upd g6 (Int32.toNatClampNeg v) ((1 <<< (w &&& 31)) - 1))) (⟨all_upn hg3 hw8_8, all_upn hg4 hx4_9, (hv_13).1, all_upn hg6 (lb_b0 hw8_8)⟩) (hP.sub [0, 1, 2, 3, 4] rfl) (hK.sub [] rfl) (hD.sub [0, 1, 2, 3, 4] (by decide) rfl) hS (Nat.le_of_ble_eq_true rfl) (Nat.le_of_ble_eq_true rfl) dX9_box_88
    refine lv_aload_n hx hb dX9_box_57 rfl (lv_at hl 1 rfl) ?_
    refine va_get (D := D) (ci := 8) (v := .ref a5) (C := RX9) (T := TX9) (N := 17) hx hb hts him_box_X9 hown hK hP 0 rfl rfl 7 (by decide) (hts (.fieldLink RX9 25 "OneHandsetModel" "leads" "[I") (List.mem_of_getElem? (i := 4) rfl)) (fun _ h9 => h9) rfl dX9_box_58 ?_
    refine lv_bipush (v := 32) hx hb dX9_box_61 (by decide) ?_
    refine lv_iload_n hx hb dX9_box_63 rfl (lv_at hl 2 rfl) ?_
    refine lv_imul hx hb dX9_box_64 ?_
    refine lv_iload hx hb dX9_box_65 (lv_at hl 0 rfl) ?_
    refine lv_iadd hx hb dX9_box_67 ?_
    refine lv_iconst (v := 0) hx hb dX9_box_68 (by decide) ?_
    refine va_iast hx hb hK hP hD hS 3 0 rfl rfl (by clear hml hsz hr hlocks; have : (0 : Int32).toInt = 0 := (by decide); have : (1 : Int32).toInt = 1 := (by decide); have : (3 : Int32).toInt = 3 := (by decide); have : (4 : Int32).toInt = 4 := (by decide); have : (8 : Int32).toInt = 8 := (by decide); have : (32 : Int32).toInt = 32 := (by decide); have := ti_wi1 c_2; have := ti_wi1 c_4; have := ti_wi1 c_6; have := ti_nle c_14; have u3 := ix32 (m := v) (w := i_11) hv3_7 (by have : (0 : Int32).toInt = 0 := (by decide); have : (1 : Int32).toInt = 1 := (by decide); have : (3 : Int32).toInt = 3 := (by decide); have : (4 : Int32).toInt = 4 := (by decide); have : (8 : Int32).toInt = 8 := (by decide); have : (32 : Int32).toInt = 32 := (by decide); have := ti_wi1 c_2; have := ti_wi1 c_4; have := ti_wi1 c_6; have := ti_nle c_14; have k32 : (32 : Int32).toInt = 32 := (by decide); omega); exact vp_in_iff.mpr (by omega)) dX9_box_69 (fun H locs hP hD hS => ?_)
    have hP : va_P D vwCl [(h0, .inr (8, [.ref a0, .int tk, .ref a1, .int mm, .ref a2, .ref a3, .ref a4, .ref a5, .ref a6, .ref a7, .int wm, .int fa, .int 0, .int se, .ref a8, .ref a9, .ref ab])), (a3, .inl (cI, 4, .inl (upd g3 (Int32.toNatClampNeg v) w))), (a4, .inl (cI, 4, .inl (upd g4 (Int32.toNatClampNeg v) x))), (a5, .inl (cI, 128, .inl (upd g_10 (Int32.toNatClampNeg ((32 * v) + i_11)) 0))), (a6, .inl (cI, 4, .inl g6))] H := hP
    have hD : va_D A [(h0, .inr (8, [.ref a0, .int tk, .ref a1, .int mm, .ref a2, .ref a3, .ref a4, .ref a5, .ref a6, .ref a7, .int wm, .int fa, .int 0, .int se, .ref a8, .ref a9, .ref ab])), (a3, .inl (cI, 4, .inl (upd g3 (Int32.toNatClampNeg v) w))), (a4, .inl (cI, 4, .inl (upd g4 (Int32.toNatClampNeg v) x))), (a5, .inl (cI, 128, .inl (upd g_10 (Int32.toNatClampNeg ((32 * v) + i_11)) 0))), (a6, .inl (cI, 4, .inl g6))] := hD
    refine lv_iinc (v := i_11 + 1) (lv' := [(4, .int (i_11 + 1)), (0, .ref h0), (1, .int v), (2, .int w), (3, .int x)]) hx hb dX9_box_70 hl (k := 0) rfl (ii_p1 _) (by decide) rfl (fun ls hl => ?_)
    refine lv_goto (tgt := 50) hx hb dX9_box_73 (by decide) ?_
    exact ih_12 _ _ _ _ (by clear hml hsz hr hlocks; have : (0 : Int32).toInt = 0 := (by decide); have : (1 : Int32).toInt = 1 := (by decide); have : (3 : Int32).toInt = 3 := (by decide); have : (4 : Int32).toInt = 4 := (by decide); have : (8 : Int32).toInt = 8 := (by decide); have : (32 : Int32).toInt = 32 := (by decide); have := ti_wi1 c_2; have := ti_wi1 c_4; have := ti_wi1 c_6; have := ti_nle c_14; have kn : (32 : Int32).toInt = 32 := (by decide); have u1 := ti_up (i := i_11) (n := 32) (by omega); omega) ⟨upd g_10 (Int32.toNatClampNeg ((32 * v) + i_11)) 0, i_11 + 1, rfl, ⟨hP, hD⟩, hS, lv_sub hl [0, 1, 2, 3, 4] rfl, ⟨all_upd (hv_13).1 (by decide), (by clear hml hsz hr hlocks; have : (0 : Int32).toInt = 0 := (by decide); have : (1 : Int32).toInt = 1 := (by decide); have : (3 : Int32).toInt = 3 := (by decide); have : (4 : Int32).toInt = 4 := (by decide); have : (8 : Int32).toInt = 8 := (by decide); have : (32 : Int32).toInt = 32 := (by decide); have := ti_wi1 c_2; have := ti_wi1 c_4; have := ti_wi1 c_6; have := ti_nle c_14; have kn : (32 : Int32).toInt = 32 := (by decide); have u1 := ti_up (i := i_11) (n := 32) (by omega); omega)⟩⟩
  refine lv_iconst (v := 0) hx hb dX9_box_31 (by decide) ?_
  exact ret_i hx hb hr hlocks rfl (u := (0, g3, g4, g5, g6)) (⟨hg3, hg4, hg5, hg6⟩) (hP.sub [0, 1, 2, 3, 4] rfl) (hK.sub [] rfl) (hD.sub [0, 1, 2, 3, 4] (by decide) rfl) hS (Nat.le_of_ble_eq_true rfl) (Nat.le_of_ble_eq_true rfl) dX9_box_32
theorem him_lead_X9 : ∀ w ∈ wsX90, w ∈ wsX9_lead := mem_pl [12, 13, 14, 15, 16, 17, 18, 19, 20, 21, 22, 23, 24, 25, 26, 27, 28] rfl
set_option maxHeartbeats 4000000 in
set_option maxRecDepth 100000 in
theorem m_lead (l : Launch) (D : va_G) (sz : Nat) (cI : ClassId) (h0 : Nat) (a0 : Nat) (a1 : Nat) (a2 : Nat) (a3 : Nat) (a4 : Nat) (a5 : Nat) (a6 : Nat) (a7 : Nat) (a8 : Nat) (a9 : Nat) (ab : Nat) (tk : Int32) (mm : Int32) (wm : Int32) (fa : Int32) (th : Int32) (se : Int32) (g3 : Nat → Int32) (g4 : Nat → Int32) (g5 : Nat → Int32) (v : Int32) (w : Int32) (x : Int32) (y : Int32) (hg3 : ∀ j, j < 4 → bi (g3 j) 1 8) (hg4 : ∀ j, j < 4 → bi (g4 j) 1 4) (hg5 : ∀ j, bi (g5 j) 0 7) : Ci l yX9_lead wsX9_lead ({ frames := 2, cells := 0, slots := 0, locals := 42 } : Room) D [.ref h0, .int v, .int w, .int x, .int y] [(h0, .inr (8, [.ref a0, .int tk, .ref a1, .int mm, .ref a2, .ref a3, .ref a4, .ref a5, .ref a6, .ref a7, .int wm, .int fa, .int th, .int se, .ref a8, .ref a9, .ref ab])), (a3, .inl (cI, 4, .inl g3)), (a4, .inl (cI, 4, .inl g4)), (a5, .inl (cI, 128, .inl g5))] [(cI, .int)] sz (fun (r : Int32) => fun (u9 : Int32 × (Nat → Int32)) => match u9 with | (th2, g52) => ∀ j, bi (g52 j) 0 7) (fun (u9 : Int32 × (Nat → Int32)) => match u9 with | (th2, g52) => [(h0, .inr (8, [.ref a0, .int tk, .ref a1, .int mm, .ref a2, .ref a3, .ref a4, .ref a5, .ref a6, .ref a7, .int wm, .int fa, .int th2, .int se, .ref a8, .ref a9, .ref ab])), (a3, .inl (cI, 4, .inl g3)), (a4, .inl (cI, 4, .inl g4)), (a5, .inl (cI, 128, .inl g52))]) (fun (u9 : Int32 × (Nat → Int32)) => match u9 with | (th2, g52) => []) := by
  refine ct_i (cc := cX9_lead) (maxL := 5) (ret := (some .boolean)) (by decide) rfl (Nat.le_of_ble_eq_true rfl) ?_
  intro p e s m below meth c A ls H hx hb hr hts hown hml hlocks hin hA hS hP hK hD hNW hl hAe hsz
  have hl : lv_has ls 5 [(0, .ref h0), (1, .int v), (2, .int w), (3, .int x), (4, .int y)] := hl
  refine lv_aload_n hx hb dX9_lead_0 rfl (lv_at hl 0 rfl) ?_
  refine lv_iconst (v := 0) hx hb dX9_lead_1 (by decide) ?_
  refine va_put (D := D) (ci := 8) (v := .int 0) (ty := .int) (C := RX9) (T := TX9) (N := 17) hx hb hts him_lead_X9 tyX9 tyX9_ok nmX9 hown hK hP hD hS 0 rfl rfl 12 (by decide) (hts (.fieldLink RX9 43 "OneHandsetModel" "thrown" "I") (List.mem_of_getElem? (i := 1) rfl)) (fun _ h9 => h9) rfl (by decide +kernel) rfl rfl (Nat.le_of_ble_eq_true rfl) dX9_lead_2 (fun H locs hP hD hS => ?_)
  have hP : va_P D vwCl [(h0, .inr (8, [.ref a0, .int tk, .ref a1, .int mm, .ref a2, .ref a3, .ref a4, .ref a5, .ref a6, .ref a7, .int wm, .int fa, .int 0, .int se, .ref a8, .ref a9, .ref ab])), (a3, .inl (cI, 4, .inl g3)), (a4, .inl (cI, 4, .inl g4)), (a5, .inl (cI, 128, .inl g5))] H := hP
  have hD : va_D A [(h0, .inr (8, [.ref a0, .int tk, .ref a1, .int mm, .ref a2, .ref a3, .ref a4, .ref a5, .ref a6, .ref a7, .int wm, .int fa, .int 0, .int se, .ref a8, .ref a9, .ref ab])), (a3, .inl (cI, 4, .inl g3)), (a4, .inl (cI, 4, .inl g4)), (a5, .inl (cI, 128, .inl g5))] := hD
  refine lv_iload_n hx hb dX9_lead_5 rfl (lv_at hl 1 rfl) ?_
  refine go_i (wr := [(h0, .inr (8, [.ref a0, .int tk, .ref a1, .int mm, .ref a2, .ref a3, .ref a4, .ref a5, .ref a6, .ref a7, .int wm, .int fa, .int 0, .int se, .ref a8, .ref a9, .ref ab])), (a3, .inl (cI, 4, .inl g3)), (a4, .inl (cI, 4, .inl g4)), (a5, .inl (cI, 128, .inl g5))]) (tysr := [(cI, .int)]) hP hD hS hA hK [] [0, 1, 2, 3] [0] rfl rfl (by decide) (by decide) rfl (va_runS (As := [.int v]) (rest := []) ⟨hx, hb, hml, hown, hts⟩ (m_isBox l D H.size v ) (va_cwS 1 hts gX9_lead_X9_isBox rfl rfl rfl (by decide +kernel) ⟨Nat.le_of_ble_eq_true rfl, Nat.le_of_ble_eq_true rfl⟩) (st_preS hP hD hK hNW [] [] rfl rfl (by decide) rfl) rfl rfl hl.1 rfl (lv_room (Nat.le_of_ble_eq_true rfl)) dX9_lead_6 ⟨(Nat.le_of_ble_eq_true rfl), (Nat.le_of_ble_eq_true rfl)⟩) (fun r_1 u H locs hw hP hD hK hS => ?_)
  have hw : r_1 = wi v 0 3 := hw
  subst hw
  have hP : va_P D vwCl [(h0, .inr (8, [.ref a0, .int tk, .ref a1, .int mm, .ref a2, .ref a3, .ref a4, .ref a5, .ref a6, .ref a7, .int wm, .int fa, .int 0, .int se, .ref a8, .ref a9, .ref ab])), (a3, .inl (cI, 4, .inl g3)), (a4, .inl (cI, 4, .inl g4)), (a5, .inl (cI, 128, .inl g5))] H := hP
  have hD : va_D A [(h0, .inr (8, [.ref a0, .int tk, .ref a1, .int mm, .ref a2, .ref a3, .ref a4, .ref a5, .ref a6, .ref a7, .int wm, .int fa, .int 0, .int se, .ref a8, .ref a9, .ref ab])), (a3, .inl (cI, 4, .inl g3)), (a4, .inl (cI, 4, .inl g4)), (a5, .inl (cI, 128, .inl g5))] := hD
  have hK : va_K D vwCl [(cI, .int)] s := hK
  refine lv_if_eq (tgt := 61) hx hb dX9_lead_9 (by decide) (fun c_2 => ?_) (fun c_2 => ?_)
  · refine lv_iconst (v := 0) hx hb dX9_lead_61 (by decide) ?_
    exact ret_i hx hb hr hlocks rfl (u := (0, g5)) hg5 (hP.sub [0, 1, 2, 3] rfl) (hK.sub [] rfl) (hD.sub [0, 1, 2, 3] (by decide) rfl) hS (Nat.le_of_ble_eq_true rfl) (Nat.le_of_ble_eq_true rfl) dX9_lead_62
  have hv3_3 : bi v 0 3 := (by clear hml hsz hr hlocks; have : (0 : Int32).toInt = 0 := (by decide); have : (3 : Int32).toInt = 3 := (by decide); have := ti_wi1 c_2; have k0 : (0 : Int32).toInt = 0 := (by decide); have k3 : (3 : Int32).toInt = 3 := (by decide); omega)
  have hs8_4 : bi (g3 (Int32.toNatClampNeg v)) 1 8 := hg3 _ (c4 hv3_3)
  have hb4_5 : bi (g4 (Int32.toNatClampNeg v)) 1 4 := hg4 _ (c4 hv3_3)
  refine lv_iload_n hx hb dX9_lead_12 rfl (lv_at hl 2 rfl) ?_
  refine lv_iconst (v := 0) hx hb dX9_lead_13 (by decide) ?_
  refine lv_aload_n hx hb dX9_lead_14 rfl (lv_at hl 0 rfl) ?_
  refine va_get (D := D) (ci := 8) (v := .ref a3) (C := RX9) (T := TX9) (N := 17) hx hb hts him_lead_X9 hown hK hP 0 rfl rfl 5 (by decide) (hts (.fieldLink RX9 19 "OneHandsetModel" "states" "[I") (List.mem_of_getElem? (i := 2) rfl)) (fun _ h9 => h9) rfl dX9_lead_15 ?_
  refine lv_iload_n hx hb dX9_lead_18 rfl (lv_at hl 1 rfl) ?_
  refine va_iald hx hb hK hP 1 0 rfl rfl (vp_in_iff.mpr (by have u0 := hv3_3; clear hml hsz hr hlocks; omega)) dX9_lead_19 ?_
  refine lv_iconst (v := 1) hx hb dX9_lead_20 (by decide) ?_
  refine lv_isub hx hb dX9_lead_21 ?_
  refine go_i (wr := [(h0, .inr (8, [.ref a0, .int tk, .ref a1, .int mm, .ref a2, .ref a3, .ref a4, .ref a5, .ref a6, .ref a7, .int wm, .int fa, .int 0, .int se, .ref a8, .ref a9, .ref ab])), (a3, .inl (cI, 4, .inl g3)), (a4, .inl (cI, 4, .inl g4)), (a5, .inl (cI, 128, .inl g5))]) (tysr := [(cI, .int)]) hP hD hS hA hK [] [0, 1, 2, 3] [0] rfl rfl (by decide) (by decide) rfl (va_runS (As := [.int w, .int 0, .int ((g3 (Int32.toNatClampNeg v)) - 1)]) (rest := []) ⟨hx, hb, hml, hown, hts⟩ (m_in l D H.size w 0 ((g3 (Int32.toNatClampNeg v)) - 1) ) (va_cwS 3 hts gX9_lead_X9_in rfl rfl rfl (by decide +kernel) ⟨Nat.le_of_ble_eq_true rfl, Nat.le_of_ble_eq_true rfl⟩) (st_preS hP hD hK hNW [] [] rfl rfl (by decide) rfl) rfl rfl hl.1 rfl (lv_room (Nat.le_of_ble_eq_true rfl)) dX9_lead_22 ⟨(Nat.le_of_ble_eq_true rfl), (Nat.le_of_ble_eq_true rfl)⟩) (fun r_6 u H locs hw hP hD hK hS => ?_)
  have hw : r_6 = wi w 0 ((g3 (Int32.toNatClampNeg v)) - 1) := hw
  subst hw
  have hP : va_P D vwCl [(h0, .inr (8, [.ref a0, .int tk, .ref a1, .int mm, .ref a2, .ref a3, .ref a4, .ref a5, .ref a6, .ref a7, .int wm, .int fa, .int 0, .int se, .ref a8, .ref a9, .ref ab])), (a3, .inl (cI, 4, .inl g3)), (a4, .inl (cI, 4, .inl g4)), (a5, .inl (cI, 128, .inl g5))] H := hP
  have hD : va_D A [(h0, .inr (8, [.ref a0, .int tk, .ref a1, .int mm, .ref a2, .ref a3, .ref a4, .ref a5, .ref a6, .ref a7, .int wm, .int fa, .int 0, .int se, .ref a8, .ref a9, .ref ab])), (a3, .inl (cI, 4, .inl g3)), (a4, .inl (cI, 4, .inl g4)), (a5, .inl (cI, 128, .inl g5))] := hD
  have hK : va_K D vwCl [(cI, .int)] s := hK
  refine lv_if_eq (tgt := 61) hx hb dX9_lead_25 (by decide) (fun c_7 => ?_) (fun c_7 => ?_)
  · refine lv_iconst (v := 0) hx hb dX9_lead_61 (by decide) ?_
    exact ret_i hx hb hr hlocks rfl (u := (0, g5)) hg5 (hP.sub [0, 1, 2, 3] rfl) (hK.sub [] rfl) (hD.sub [0, 1, 2, 3] (by decide) rfl) hS (Nat.le_of_ble_eq_true rfl) (Nat.le_of_ble_eq_true rfl) dX9_lead_62
  refine lv_iload_n hx hb dX9_lead_28 rfl (lv_at hl 3 rfl) ?_
  refine lv_iconst (v := 0) hx hb dX9_lead_29 (by decide) ?_
  refine lv_aload_n hx hb dX9_lead_30 rfl (lv_at hl 0 rfl) ?_
  refine va_get (D := D) (ci := 8) (v := .ref a4) (C := RX9) (T := TX9) (N := 17) hx hb hts him_lead_X9 hown hK hP 0 rfl rfl 6 (by decide) (hts (.fieldLink RX9 22 "OneHandsetModel" "buttons" "[I") (List.mem_of_getElem? (i := 3) rfl)) (fun _ h9 => h9) rfl dX9_lead_31 ?_
  refine lv_iload_n hx hb dX9_lead_34 rfl (lv_at hl 1 rfl) ?_
  refine va_iald hx hb hK hP 2 0 rfl rfl (vp_in_iff.mpr (by have u0 := hv3_3; clear hml hsz hr hlocks; omega)) dX9_lead_35 ?_
  refine lv_iconst (v := 1) hx hb dX9_lead_36 (by decide) ?_
  refine lv_isub hx hb dX9_lead_37 ?_
  refine go_i (wr := [(h0, .inr (8, [.ref a0, .int tk, .ref a1, .int mm, .ref a2, .ref a3, .ref a4, .ref a5, .ref a6, .ref a7, .int wm, .int fa, .int 0, .int se, .ref a8, .ref a9, .ref ab])), (a3, .inl (cI, 4, .inl g3)), (a4, .inl (cI, 4, .inl g4)), (a5, .inl (cI, 128, .inl g5))]) (tysr := [(cI, .int)]) hP hD hS hA hK [] [0, 1, 2, 3] [0] rfl rfl (by decide) (by decide) rfl (va_runS (As := [.int x, .int 0, .int ((g4 (Int32.toNatClampNeg v)) - 1)]) (rest := []) ⟨hx, hb, hml, hown, hts⟩ (m_in l D H.size x 0 ((g4 (Int32.toNatClampNeg v)) - 1) ) (va_cwS 3 hts gX9_lead_X9_in rfl rfl rfl (by decide +kernel) ⟨Nat.le_of_ble_eq_true rfl, Nat.le_of_ble_eq_true rfl⟩) (st_preS hP hD hK hNW [] [] rfl rfl (by decide) rfl) rfl rfl hl.1 rfl (lv_room (Nat.le_of_ble_eq_true rfl)) dX9_lead_38 ⟨(Nat.le_of_ble_eq_true rfl), (Nat.le_of_ble_eq_true rfl)⟩) (fun r_8 u H locs hw hP hD hK hS => ?_)
  have hw : r_8 = wi x 0 ((g4 (Int32.toNatClampNeg v)) - 1) := hw
  subst hw
  have hP : va_P D vwCl [(h0, .inr (8, [.ref a0, .int tk, .ref a1, .int mm, .ref a2, .ref a3, .ref a4, .ref a5, .ref a6, .ref a7, .int wm, .int fa, .int 0, .int se, .ref a8, .ref a9, .ref ab])), (a3, .inl (cI, 4, .inl g3)), (a4, .inl (cI, 4, .inl g4)), (a5, .inl (cI, 128, .inl g5))] H := hP
  have hD : va_D A [(h0, .inr (8, [.ref a0, .int tk, .ref a1, .int mm, .ref a2, .ref a3, .ref a4, .ref a5, .ref a6, .ref a7, .int wm, .int fa, .int 0, .int se, .ref a8, .ref a9, .ref ab])), (a3, .inl (cI, 4, .inl g3)), (a4, .inl (cI, 4, .inl g4)), (a5, .inl (cI, 128, .inl g5))] := hD
  have hK : va_K D vwCl [(cI, .int)] s := hK
  refine lv_if_eq (tgt := 61) hx hb dX9_lead_41 (by decide) (fun c_9 => ?_) (fun c_9 => ?_)
  · refine lv_iconst (v := 0) hx hb dX9_lead_61 (by decide) ?_
    exact ret_i hx hb hr hlocks rfl (u := (0, g5)) hg5 (hP.sub [0, 1, 2, 3] rfl) (hK.sub [] rfl) (hD.sub [0, 1, 2, 3] (by decide) rfl) hS (Nat.le_of_ble_eq_true rfl) (Nat.le_of_ble_eq_true rfl) dX9_lead_62
  refine lv_iload hx hb dX9_lead_44 (lv_at hl 4 rfl) ?_
  refine lv_iconst (v := 0) hx hb dX9_lead_46 (by decide) ?_
  refine lv_aload_n hx hb dX9_lead_47 rfl (lv_at hl 0 rfl) ?_
  refine va_get (D := D) (ci := 8) (v := .ref a3) (C := RX9) (T := TX9) (N := 17) hx hb hts him_lead_X9 hown hK hP 0 rfl rfl 5 (by decide) (hts (.fieldLink RX9 19 "OneHandsetModel" "states" "[I") (List.mem_of_getElem? (i := 2) rfl)) (fun _ h9 => h9) rfl dX9_lead_48 ?_
  refine lv_iload_n hx hb dX9_lead_51 rfl (lv_at hl 1 rfl) ?_
  refine va_iald hx hb hK hP 1 0 rfl rfl (vp_in_iff.mpr (by have u0 := hv3_3; clear hml hsz hr hlocks; omega)) dX9_lead_52 ?_
  refine lv_iconst (v := 1) hx hb dX9_lead_53 (by decide) ?_
  refine lv_isub hx hb dX9_lead_54 ?_
  refine go_i (wr := [(h0, .inr (8, [.ref a0, .int tk, .ref a1, .int mm, .ref a2, .ref a3, .ref a4, .ref a5, .ref a6, .ref a7, .int wm, .int fa, .int 0, .int se, .ref a8, .ref a9, .ref ab])), (a3, .inl (cI, 4, .inl g3)), (a4, .inl (cI, 4, .inl g4)), (a5, .inl (cI, 128, .inl g5))]) (tysr := [(cI, .int)]) hP hD hS hA hK [] [0, 1, 2, 3] [0] rfl rfl (by decide) (by decide) rfl (va_runS (As := [.int y, .int 0, .int ((g3 (Int32.toNatClampNeg v)) - 1)]) (rest := []) ⟨hx, hb, hml, hown, hts⟩ (m_in l D H.size y 0 ((g3 (Int32.toNatClampNeg v)) - 1) ) (va_cwS 3 hts gX9_lead_X9_in rfl rfl rfl (by decide +kernel) ⟨Nat.le_of_ble_eq_true rfl, Nat.le_of_ble_eq_true rfl⟩) (st_preS hP hD hK hNW [] [] rfl rfl (by decide) rfl) rfl rfl hl.1 rfl (lv_room (Nat.le_of_ble_eq_true rfl)) dX9_lead_55 ⟨(Nat.le_of_ble_eq_true rfl), (Nat.le_of_ble_eq_true rfl)⟩) (fun r_10 u H locs hw hP hD hK hS => ?_)
  have hw : r_10 = wi y 0 ((g3 (Int32.toNatClampNeg v)) - 1) := hw
  subst hw
  have hP : va_P D vwCl [(h0, .inr (8, [.ref a0, .int tk, .ref a1, .int mm, .ref a2, .ref a3, .ref a4, .ref a5, .ref a6, .ref a7, .int wm, .int fa, .int 0, .int se, .ref a8, .ref a9, .ref ab])), (a3, .inl (cI, 4, .inl g3)), (a4, .inl (cI, 4, .inl g4)), (a5, .inl (cI, 128, .inl g5))] H := hP
  have hD : va_D A [(h0, .inr (8, [.ref a0, .int tk, .ref a1, .int mm, .ref a2, .ref a3, .ref a4, .ref a5, .ref a6, .ref a7, .int wm, .int fa, .int 0, .int se, .ref a8, .ref a9, .ref ab])), (a3, .inl (cI, 4, .inl g3)), (a4, .inl (cI, 4, .inl g4)), (a5, .inl (cI, 128, .inl g5))] := hD
  have hK : va_K D vwCl [(cI, .int)] s := hK
  refine lv_if_ne (tgt := 63) hx hb dX9_lead_58 (by decide) (fun c_11 => ?_) (fun c_11 => ?_)
  · have hw7_12 : bi w 0 7 := (by clear hml hsz hr hlocks; have : (0 : Int32).toInt = 0 := (by decide); have : (3 : Int32).toInt = 3 := (by decide); have := ti_wi1 c_2; have := ti_wi1 c_7; have := ti_wi1 c_9; have := ti_wi1 c_11; have k0 : (0 : Int32).toInt = 0 := (by decide); have u8 := ti_m1 (i := g3 (Int32.toNatClampNeg v)) (by omega); omega)
    have hx3_13 : bi x 0 3 := (by clear hml hsz hr hlocks; have : (0 : Int32).toInt = 0 := (by decide); have : (3 : Int32).toInt = 3 := (by decide); have := ti_wi1 c_2; have := ti_wi1 c_7; have := ti_wi1 c_9; have := ti_wi1 c_11; have k0 : (0 : Int32).toInt = 0 := (by decide); have u9 := ti_m1 (i := g4 (Int32.toNatClampNeg v)) (by omega); omega)
    have hy7_14 : bi y 0 7 := (by clear hml hsz hr hlocks; have : (0 : Int32).toInt = 0 := (by decide); have : (3 : Int32).toInt = 3 := (by decide); have := ti_wi1 c_2; have := ti_wi1 c_7; have := ti_wi1 c_9; have := ti_wi1 c_11; have k0 : (0 : Int32).toInt = 0 := (by decide); have u8 := ti_m1 (i := g3 (Int32.toNatClampNeg v)) (by omega); omega)
    refine lv_aload_n hx hb dX9_lead_63 rfl (lv_at hl 0 rfl) ?_
    refine va_get (D := D) (ci := 8) (v := .ref a5) (C := RX9) (T := TX9) (N := 17) hx hb hts him_lead_X9 hown hK hP 0 rfl rfl 7 (by decide) (hts (.fieldLink RX9 25 "OneHandsetModel" "leads" "[I") (List.mem_of_getElem? (i := 4) rfl)) (fun _ h9 => h9) rfl dX9_lead_64 ?_
    refine lv_bipush (v := 32) hx hb dX9_lead_67 (by decide) ?_
    refine lv_iload_n hx hb dX9_lead_69 rfl (lv_at hl 1 rfl) ?_
    refine lv_imul hx hb dX9_lead_70 ?_
    refine lv_iconst (v := 4) hx hb dX9_lead_71 (by decide) ?_
    refine lv_iload_n hx hb dX9_lead_72 rfl (lv_at hl 2 rfl) ?_
    refine lv_imul hx hb dX9_lead_73 ?_
    refine lv_iadd hx hb dX9_lead_74 ?_
    refine lv_iload_n hx hb dX9_lead_75 rfl (lv_at hl 3 rfl) ?_
    refine lv_iadd hx hb dX9_lead_76 ?_
    refine lv_iload hx hb dX9_lead_77 (lv_at hl 4 rfl) ?_
    refine va_iast hx hb hK hP hD hS 3 0 rfl rfl (by clear hml hsz hr hlocks; have : (0 : Int32).toInt = 0 := (by decide); have : (3 : Int32).toInt = 3 := (by decide); have := ti_wi1 c_2; have := ti_wi1 c_7; have := ti_wi1 c_9; have := ti_wi1 c_11; have u3 := ix324 hv3_3 hw7_12 hx3_13; exact vp_in_iff.mpr (by omega)) dX9_lead_79 (fun H locs hP hD hS => ?_)
    have hP : va_P D vwCl [(h0, .inr (8, [.ref a0, .int tk, .ref a1, .int mm, .ref a2, .ref a3, .ref a4, .ref a5, .ref a6, .ref a7, .int wm, .int fa, .int 0, .int se, .ref a8, .ref a9, .ref ab])), (a3, .inl (cI, 4, .inl g3)), (a4, .inl (cI, 4, .inl g4)), (a5, .inl (cI, 128, .inl (upd g5 (Int32.toNatClampNeg (((32 * v) + (4 * w)) + x)) y)))] H := hP
    have hD : va_D A [(h0, .inr (8, [.ref a0, .int tk, .ref a1, .int mm, .ref a2, .ref a3, .ref a4, .ref a5, .ref a6, .ref a7, .int wm, .int fa, .int 0, .int se, .ref a8, .ref a9, .ref ab])), (a3, .inl (cI, 4, .inl g3)), (a4, .inl (cI, 4, .inl g4)), (a5, .inl (cI, 128, .inl (upd g5 (Int32.toNatClampNeg (((32 * v) + (4 * w)) + x)) y)))] := hD
    refine lv_iconst (v := 1) hx hb dX9_lead_80 (by decide) ?_
    exact ret_i hx hb hr hlocks rfl (u := (0, upd g5 (Int32.toNatClampNeg (((32 * v) + (4 * w)) + x)) y)) (all_upd hg5 hy7_14) (hP.sub [0, 1, 2, 3] rfl) (hK.sub [] rfl) (hD.sub [0, 1, 2, 3] (by decide) rfl) hS (Nat.le_of_ble_eq_true rfl) (Nat.le_of_ble_eq_true rfl) dX9_lead_81
  refine lv_iconst (v := 0) hx hb dX9_lead_61 (by decide) ?_
  exact ret_i hx hb hr hlocks rfl (u := (0, g5)) hg5 (hP.sub [0, 1, 2, 3] rfl) (hK.sub [] rfl) (hD.sub [0, 1, 2, 3] (by decide) rfl) hS (Nat.le_of_ble_eq_true rfl) (Nat.le_of_ble_eq_true rfl) dX9_lead_62
theorem him_maybe_X9 : ∀ w ∈ wsX90, w ∈ wsX9_maybe := mem_pl [15, 16, 17, 18, 19, 20, 21, 22, 23, 24, 25, 26, 27, 28, 29, 30, 31] rfl
set_option maxHeartbeats 4000000 in
set_option maxRecDepth 100000 in
theorem m_maybe (l : Launch) (D : va_G) (sz : Nat) (cI : ClassId) (h0 : Nat) (a0 : Nat) (a1 : Nat) (a2 : Nat) (a3 : Nat) (a4 : Nat) (a5 : Nat) (a6 : Nat) (a7 : Nat) (a8 : Nat) (a9 : Nat) (ab : Nat) (tk : Int32) (mm : Int32) (wm : Int32) (fa : Int32) (th : Int32) (se : Int32) (g3 : Nat → Int32) (g6 : Nat → Int32) (v : Int32) (w : Int32) (hg3 : ∀ j, j < 4 → bi (g3 j) 1 8) (hg6 : ∀ j, j < 4 → bi (g6 j) 0 255) : Ci l yX9_maybe wsX9_maybe ({ frames := 2, cells := 0, slots := 0, locals := 44 } : Room) D [.ref h0, .int v, .int w] [(h0, .inr (8, [.ref a0, .int tk, .ref a1, .int mm, .ref a2, .ref a3, .ref a4, .ref a5, .ref a6, .ref a7, .int wm, .int fa, .int th, .int se, .ref a8, .ref a9, .ref ab])), (a3, .inl (cI, 4, .inl g3)), (a6, .inl (cI, 4, .inl g6))] [(cI, .int)] sz (fun (r : Int32) => fun (u9 : Int32 × (Nat → Int32)) => match u9 with | (th2, g62) => ∀ j, j < 4 → bi (g62 j) 0 255) (fun (u9 : Int32 × (Nat → Int32)) => match u9 with | (th2, g62) => [(h0, .inr (8, [.ref a0, .int tk, .ref a1, .int mm, .ref a2, .ref a3, .ref a4, .ref a5, .ref a6, .ref a7, .int wm, .int fa, .int th2, .int se, .ref a8, .ref a9, .ref ab])), (a3, .inl (cI, 4, .inl g3)), (a6, .inl (cI, 4, .inl g62))]) (fun (u9 : Int32 × (Nat → Int32)) => match u9 with | (th2, g62) => []) := by
  refine ct_i (cc := cX9_maybe) (maxL := 3) (ret := (some .boolean)) (by decide) rfl (Nat.le_of_ble_eq_true rfl) ?_
  intro p e s m below meth c A ls H hx hb hr hts hown hml hlocks hin hA hS hP hK hD hNW hl hAe hsz
  have hl : lv_has ls 3 [(0, .ref h0), (1, .int v), (2, .int w)] := hl
  refine lv_aload_n hx hb dX9_maybe_0 rfl (lv_at hl 0 rfl) ?_
  refine lv_iconst (v := 0) hx hb dX9_maybe_1 (by decide) ?_
  refine va_put (D := D) (ci := 8) (v := .int 0) (ty := .int) (C := RX9) (T := TX9) (N := 17) hx hb hts him_maybe_X9 tyX9 tyX9_ok nmX9 hown hK hP hD hS 0 rfl rfl 12 (by decide) (hts (.fieldLink RX9 43 "OneHandsetModel" "thrown" "I") (List.mem_of_getElem? (i := 1) rfl)) (fun _ h9 => h9) rfl (by decide +kernel) rfl rfl (Nat.le_of_ble_eq_true rfl) dX9_maybe_2 (fun H locs hP hD hS => ?_)
  have hP : va_P D vwCl [(h0, .inr (8, [.ref a0, .int tk, .ref a1, .int mm, .ref a2, .ref a3, .ref a4, .ref a5, .ref a6, .ref a7, .int wm, .int fa, .int 0, .int se, .ref a8, .ref a9, .ref ab])), (a3, .inl (cI, 4, .inl g3)), (a6, .inl (cI, 4, .inl g6))] H := hP
  have hD : va_D A [(h0, .inr (8, [.ref a0, .int tk, .ref a1, .int mm, .ref a2, .ref a3, .ref a4, .ref a5, .ref a6, .ref a7, .int wm, .int fa, .int 0, .int se, .ref a8, .ref a9, .ref ab])), (a3, .inl (cI, 4, .inl g3)), (a6, .inl (cI, 4, .inl g6))] := hD
  refine lv_iload_n hx hb dX9_maybe_5 rfl (lv_at hl 1 rfl) ?_
  refine go_i (wr := [(h0, .inr (8, [.ref a0, .int tk, .ref a1, .int mm, .ref a2, .ref a3, .ref a4, .ref a5, .ref a6, .ref a7, .int wm, .int fa, .int 0, .int se, .ref a8, .ref a9, .ref ab])), (a3, .inl (cI, 4, .inl g3)), (a6, .inl (cI, 4, .inl g6))]) (tysr := [(cI, .int)]) hP hD hS hA hK [] [0, 1, 2] [0] rfl rfl (by decide) (by decide) rfl (va_runS (As := [.int v]) (rest := []) ⟨hx, hb, hml, hown, hts⟩ (m_isBox l D H.size v ) (va_cwS 1 hts gX9_maybe_X9_isBox rfl rfl rfl (by decide +kernel) ⟨Nat.le_of_ble_eq_true rfl, Nat.le_of_ble_eq_true rfl⟩) (st_preS hP hD hK hNW [] [] rfl rfl (by decide) rfl) rfl rfl hl.1 rfl (lv_room (Nat.le_of_ble_eq_true rfl)) dX9_maybe_6 ⟨(Nat.le_of_ble_eq_true rfl), (Nat.le_of_ble_eq_true rfl)⟩) (fun r_1 u H locs hw hP hD hK hS => ?_)
  have hw : r_1 = wi v 0 3 := hw
  subst hw
  have hP : va_P D vwCl [(h0, .inr (8, [.ref a0, .int tk, .ref a1, .int mm, .ref a2, .ref a3, .ref a4, .ref a5, .ref a6, .ref a7, .int wm, .int fa, .int 0, .int se, .ref a8, .ref a9, .ref ab])), (a3, .inl (cI, 4, .inl g3)), (a6, .inl (cI, 4, .inl g6))] H := hP
  have hD : va_D A [(h0, .inr (8, [.ref a0, .int tk, .ref a1, .int mm, .ref a2, .ref a3, .ref a4, .ref a5, .ref a6, .ref a7, .int wm, .int fa, .int 0, .int se, .ref a8, .ref a9, .ref ab])), (a3, .inl (cI, 4, .inl g3)), (a6, .inl (cI, 4, .inl g6))] := hD
  have hK : va_K D vwCl [(cI, .int)] s := hK
  refine lv_if_eq (tgt := 21) hx hb dX9_maybe_9 (by decide) (fun c_2 => ?_) (fun c_2 => ?_)
  · refine lv_iconst (v := 0) hx hb dX9_maybe_21 (by decide) ?_
    exact ret_i hx hb hr hlocks rfl (u := (0, g6)) hg6 (hP.sub [0, 1, 2] rfl) (hK.sub [] rfl) (hD.sub [0, 1, 2] (by decide) rfl) hS (Nat.le_of_ble_eq_true rfl) (Nat.le_of_ble_eq_true rfl) dX9_maybe_22
  have hv3_3 : bi v 0 3 := (by clear hml hsz hr hlocks; have : (0 : Int32).toInt = 0 := (by decide); have : (3 : Int32).toInt = 3 := (by decide); have := ti_wi1 c_2; have k0 : (0 : Int32).toInt = 0 := (by decide); have k3 : (3 : Int32).toInt = 3 := (by decide); omega)
  have hs8_4 : bi (g3 (Int32.toNatClampNeg v)) 1 8 := hg3 _ (c4 hv3_3)
  refine lv_aload_n hx hb dX9_maybe_12 rfl (lv_at hl 0 rfl) ?_
  refine lv_iload_n hx hb dX9_maybe_13 rfl (lv_at hl 1 rfl) ?_
  refine lv_iload_n hx hb dX9_maybe_14 rfl (lv_at hl 2 rfl) ?_
  refine go_i (wr := [(a6, .inl (cI, 4, .inl g6))]) (tysr := [(cI, .int)]) hP hD hS hA hK [0, 1] [2] [0] rfl rfl (by decide) (by decide) rfl (va_runV (As := [.int v, .int w]) (rest := []) ⟨hx, hb, hml, hown, hts⟩ (m_isSet l D H.size cI h0 a0 a1 a2 a3 a4 a5 a6 a7 a8 a9 ab tk mm wm fa 0 se g3 v w hv3_3) (cwV 2 hts gX9_maybe_X9_isSet rfl rfl rfl (by decide +kernel) ⟨Nat.le_of_ble_eq_true rfl, Nat.le_of_ble_eq_true rfl⟩) (st_preV (ci := 8) (q0 := 0) hP hD hK hNW [0, 1] [0] rfl rfl (by decide) rfl rfl rfl rfl) rfl rfl hl.1 rfl (lv_room (Nat.le_of_ble_eq_true rfl)) dX9_maybe_15 ⟨(Nat.le_of_ble_eq_true rfl), (Nat.le_of_ble_eq_true rfl)⟩) (fun r_5 u H locs hw hP hD hK hS => ?_)
  have hw : r_5 = wi w 1 (lb (g3 (Int32.toNatClampNeg v))) := hw
  subst hw
  have hP : va_P D vwCl [(a6, .inl (cI, 4, .inl g6)), (h0, .inr (8, [.ref a0, .int tk, .ref a1, .int mm, .ref a2, .ref a3, .ref a4, .ref a5, .ref a6, .ref a7, .int wm, .int fa, .int 0, .int se, .ref a8, .ref a9, .ref ab])), (a3, .inl (cI, 4, .inl g3))] H := hP
  have hD : va_D A [(a6, .inl (cI, 4, .inl g6)), (h0, .inr (8, [.ref a0, .int tk, .ref a1, .int mm, .ref a2, .ref a3, .ref a4, .ref a5, .ref a6, .ref a7, .int wm, .int fa, .int 0, .int se, .ref a8, .ref a9, .ref ab])), (a3, .inl (cI, 4, .inl g3))] := hD
  have hK : va_K D vwCl [(cI, .int)] s := hK
  refine lv_if_ne (tgt := 23) hx hb dX9_maybe_18 (by decide) (fun c_6 => ?_) (fun c_6 => ?_)
  · have hw2_7 : bi w 0 255 := (by clear hml hsz hr hlocks; have : (0 : Int32).toInt = 0 := (by decide); have : (3 : Int32).toInt = 3 := (by decide); have := ti_wi1 c_2; have := ti_wi1 c_6; have k1 : (1 : Int32).toInt = 1 := (by decide); have u8 := lb_bi hs8_4; omega)
    refine lv_aload_n hx hb dX9_maybe_23 rfl (lv_at hl 0 rfl) ?_
    refine va_get (D := D) (ci := 8) (v := .ref a6) (C := RX9) (T := TX9) (N := 17) hx hb hts him_maybe_X9 hown hK hP 1 rfl rfl 8 (by decide) (hts (.fieldLink RX9 28 "OneHandsetModel" "sets" "[I") (List.mem_of_getElem? (i := 2) rfl)) (fun _ h9 => h9) rfl dX9_maybe_24 ?_
    refine lv_iload_n hx hb dX9_maybe_27 rfl (lv_at hl 1 rfl) ?_
    refine lv_iload_n hx hb dX9_maybe_28 rfl (lv_at hl 2 rfl) ?_
    refine va_iast hx hb hK hP hD hS 0 0 rfl rfl (vp_in_iff.mpr (by have u0 := hv3_3; clear hml hsz hr hlocks; omega)) dX9_maybe_29 (fun H locs hP hD hS => ?_)
    have hP : va_P D vwCl [(a6, .inl (cI, 4, .inl (upd g6 (Int32.toNatClampNeg v) w))), (h0, .inr (8, [.ref a0, .int tk, .ref a1, .int mm, .ref a2, .ref a3, .ref a4, .ref a5, .ref a6, .ref a7, .int wm, .int fa, .int 0, .int se, .ref a8, .ref a9, .ref ab])), (a3, .inl (cI, 4, .inl g3))] H := hP
    have hD : va_D A [(a6, .inl (cI, 4, .inl (upd g6 (Int32.toNatClampNeg v) w))), (h0, .inr (8, [.ref a0, .int tk, .ref a1, .int mm, .ref a2, .ref a3, .ref a4, .ref a5, .ref a6, .ref a7, .int wm, .int fa, .int 0, .int se, .ref a8, .ref a9, .ref ab])), (a3, .inl (cI, 4, .inl g3))] := hD
    refine lv_iconst (v := 1) hx hb dX9_maybe_30 (by decide) ?_
    exact ret_i hx hb hr hlocks rfl (u := (0, upd g6 (Int32.toNatClampNeg v) w)) (all_upn hg6 hw2_7) (hP.sub [1, 2, 0] rfl) (hK.sub [] rfl) (hD.sub [1, 2, 0] (by decide) rfl) hS (Nat.le_of_ble_eq_true rfl) (Nat.le_of_ble_eq_true rfl) dX9_maybe_31
  refine lv_iconst (v := 0) hx hb dX9_maybe_21 (by decide) ?_
  exact ret_i hx hb hr hlocks rfl (u := (0, g6)) hg6 (hP.sub [1, 2, 0] rfl) (hK.sub [] rfl) (hD.sub [1, 2, 0] (by decide) rfl) hS (Nat.le_of_ble_eq_true rfl) (Nat.le_of_ble_eq_true rfl) dX9_maybe_22
theorem him_push_X9 : ∀ w ∈ wsX90, w ∈ wsX9_push := mem_pl [17, 18, 19, 20, 21, 22, 23, 24, 25, 26, 27, 28, 29, 30, 31, 32, 33] rfl
set_option maxHeartbeats 4000000 in
set_option maxRecDepth 100000 in
theorem m_push (l : Launch) (D : va_G) (sz : Nat) (cI : ClassId) (h0 : Nat) (a0 : Nat) (a1 : Nat) (a2 : Nat) (a3 : Nat) (a4 : Nat) (a5 : Nat) (a6 : Nat) (a7 : Nat) (a8 : Nat) (a9 : Nat) (ab : Nat) (tk : Int32) (mm : Int32) (wm : Int32) (fa : Int32) (th : Int32) (se : Int32) (g3 : Nat → Int32) (g4 : Nat → Int32) (g5 : Nat → Int32) (g6 : Nat → Int32) (v : Int32) (w : Int32) (hg3 : ∀ j, j < 4 → bi (g3 j) 1 8) (hg4 : ∀ j, j < 4 → bi (g4 j) 1 4) (hg5 : ∀ j, bi (g5 j) 0 7) (hg6 : ∀ j, j < 4 → bi (g6 j) 0 255) : Ci l yX9_push wsX9_push ({ frames := 2, cells := 0, slots := 0, locals := 42 } : Room) D [.ref h0, .int v, .int w] [(h0, .inr (8, [.ref a0, .int tk, .ref a1, .int mm, .ref a2, .ref a3, .ref a4, .ref a5, .ref a6, .ref a7, .int wm, .int fa, .int th, .int se, .ref a8, .ref a9, .ref ab])), (a3, .inl (cI, 4, .inl g3)), (a4, .inl (cI, 4, .inl g4)), (a5, .inl (cI, 128, .inl g5)), (a6, .inl (cI, 4, .inl g6))] [(cI, .int)] sz (fun (r : Int32) => fun (u9 : Int32 × (Nat → Int32)) => match u9 with | (th2, g62) => ∀ j, j < 4 → bi (g62 j) 0 255) (fun (u9 : Int32 × (Nat → Int32)) => match u9 with | (th2, g62) => [(h0, .inr (8, [.ref a0, .int tk, .ref a1, .int mm, .ref a2, .ref a3, .ref a4, .ref a5, .ref a6, .ref a7, .int wm, .int fa, .int th2, .int se, .ref a8, .ref a9, .ref ab])), (a3, .inl (cI, 4, .inl g3)), (a4, .inl (cI, 4, .inl g4)), (a5, .inl (cI, 128, .inl g5)), (a6, .inl (cI, 4, .inl g62))]) (fun (u9 : Int32 × (Nat → Int32)) => match u9 with | (th2, g62) => []) := by
  refine ct_i (cc := cX9_push) (maxL := 3) (ret := (some .int)) (by decide) rfl (Nat.le_of_ble_eq_true rfl) ?_
  intro p e s m below meth c A ls H hx hb hr hts hown hml hlocks hin hA hS hP hK hD hNW hl hAe hsz
  have hl : lv_has ls 3 [(0, .ref h0), (1, .int v), (2, .int w)] := hl
  refine lv_aload_n hx hb dX9_push_0 rfl (lv_at hl 0 rfl) ?_
  refine lv_iconst (v := 0) hx hb dX9_push_1 (by decide) ?_
  refine va_put (D := D) (ci := 8) (v := .int 0) (ty := .int) (C := RX9) (T := TX9) (N := 17) hx hb hts him_push_X9 tyX9 tyX9_ok nmX9 hown hK hP hD hS 0 rfl rfl 12 (by decide) (hts (.fieldLink RX9 43 "OneHandsetModel" "thrown" "I") (List.mem_of_getElem? (i := 1) rfl)) (fun _ h9 => h9) rfl (by decide +kernel) rfl rfl (Nat.le_of_ble_eq_true rfl) dX9_push_2 (fun H locs hP hD hS => ?_)
  have hP : va_P D vwCl [(h0, .inr (8, [.ref a0, .int tk, .ref a1, .int mm, .ref a2, .ref a3, .ref a4, .ref a5, .ref a6, .ref a7, .int wm, .int fa, .int 0, .int se, .ref a8, .ref a9, .ref ab])), (a3, .inl (cI, 4, .inl g3)), (a4, .inl (cI, 4, .inl g4)), (a5, .inl (cI, 128, .inl g5)), (a6, .inl (cI, 4, .inl g6))] H := hP
  have hD : va_D A [(h0, .inr (8, [.ref a0, .int tk, .ref a1, .int mm, .ref a2, .ref a3, .ref a4, .ref a5, .ref a6, .ref a7, .int wm, .int fa, .int 0, .int se, .ref a8, .ref a9, .ref ab])), (a3, .inl (cI, 4, .inl g3)), (a4, .inl (cI, 4, .inl g4)), (a5, .inl (cI, 128, .inl g5)), (a6, .inl (cI, 4, .inl g6))] := hD
  refine lv_iload_n hx hb dX9_push_5 rfl (lv_at hl 1 rfl) ?_
  refine go_i (wr := [(h0, .inr (8, [.ref a0, .int tk, .ref a1, .int mm, .ref a2, .ref a3, .ref a4, .ref a5, .ref a6, .ref a7, .int wm, .int fa, .int 0, .int se, .ref a8, .ref a9, .ref ab])), (a3, .inl (cI, 4, .inl g3)), (a4, .inl (cI, 4, .inl g4)), (a5, .inl (cI, 128, .inl g5)), (a6, .inl (cI, 4, .inl g6))]) (tysr := [(cI, .int)]) hP hD hS hA hK [] [0, 1, 2, 3, 4] [0] rfl rfl (by decide) (by decide) rfl (va_runS (As := [.int v]) (rest := []) ⟨hx, hb, hml, hown, hts⟩ (m_isBox l D H.size v ) (va_cwS 1 hts gX9_push_X9_isBox rfl rfl rfl (by decide +kernel) ⟨Nat.le_of_ble_eq_true rfl, Nat.le_of_ble_eq_true rfl⟩) (st_preS hP hD hK hNW [] [] rfl rfl (by decide) rfl) rfl rfl hl.1 rfl (lv_room (Nat.le_of_ble_eq_true rfl)) dX9_push_6 ⟨(Nat.le_of_ble_eq_true rfl), (Nat.le_of_ble_eq_true rfl)⟩) (fun r_1 u H locs hw hP hD hK hS => ?_)
  have hw : r_1 = wi v 0 3 := hw
  subst hw
  have hP : va_P D vwCl [(h0, .inr (8, [.ref a0, .int tk, .ref a1, .int mm, .ref a2, .ref a3, .ref a4, .ref a5, .ref a6, .ref a7, .int wm, .int fa, .int 0, .int se, .ref a8, .ref a9, .ref ab])), (a3, .inl (cI, 4, .inl g3)), (a4, .inl (cI, 4, .inl g4)), (a5, .inl (cI, 128, .inl g5)), (a6, .inl (cI, 4, .inl g6))] H := hP
  have hD : va_D A [(h0, .inr (8, [.ref a0, .int tk, .ref a1, .int mm, .ref a2, .ref a3, .ref a4, .ref a5, .ref a6, .ref a7, .int wm, .int fa, .int 0, .int se, .ref a8, .ref a9, .ref ab])), (a3, .inl (cI, 4, .inl g3)), (a4, .inl (cI, 4, .inl g4)), (a5, .inl (cI, 128, .inl g5)), (a6, .inl (cI, 4, .inl g6))] := hD
  have hK : va_K D vwCl [(cI, .int)] s := hK
  refine lv_if_eq (tgt := 28) hx hb dX9_push_9 (by decide) (fun c_2 => ?_) (fun c_2 => ?_)
  · refine lv_iconst (v := (-1)) hx hb dX9_push_28 (by decide) ?_
    exact ret_i hx hb hr hlocks rfl (u := (0, g6)) hg6 (hP.sub [0, 1, 2, 3, 4] rfl) (hK.sub [] rfl) (hD.sub [0, 1, 2, 3, 4] (by decide) rfl) hS (Nat.le_of_ble_eq_true rfl) (Nat.le_of_ble_eq_true rfl) dX9_push_29
  have hv3_3 : bi v 0 3 := (by clear hml hsz hr hlocks; have : (0 : Int32).toInt = 0 := (by decide); have : (3 : Int32).toInt = 3 := (by decide); have := ti_wi1 c_2; have k0 : (0 : Int32).toInt = 0 := (by decide); have k3 : (3 : Int32).toInt = 3 := (by decide); omega)
  have hs8_4 : bi (g3 (Int32.toNatClampNeg v)) 1 8 := hg3 _ (c4 hv3_3)
  have hb4_5 : bi (g4 (Int32.toNatClampNeg v)) 1 4 := hg4 _ (c4 hv3_3)
  refine lv_iload_n hx hb dX9_push_12 rfl (lv_at hl 2 rfl) ?_
  refine lv_iconst (v := 0) hx hb dX9_push_13 (by decide) ?_
  refine lv_aload_n hx hb dX9_push_14 rfl (lv_at hl 0 rfl) ?_
  refine va_get (D := D) (ci := 8) (v := .ref a4) (C := RX9) (T := TX9) (N := 17) hx hb hts him_push_X9 hown hK hP 0 rfl rfl 6 (by decide) (hts (.fieldLink RX9 22 "OneHandsetModel" "buttons" "[I") (List.mem_of_getElem? (i := 2) rfl)) (fun _ h9 => h9) rfl dX9_push_15 ?_
  refine lv_iload_n hx hb dX9_push_18 rfl (lv_at hl 1 rfl) ?_
  refine va_iald hx hb hK hP 2 0 rfl rfl (vp_in_iff.mpr (by have u0 := hv3_3; clear hml hsz hr hlocks; omega)) dX9_push_19 ?_
  refine lv_iconst (v := 1) hx hb dX9_push_20 (by decide) ?_
  refine lv_isub hx hb dX9_push_21 ?_
  refine go_i (wr := [(h0, .inr (8, [.ref a0, .int tk, .ref a1, .int mm, .ref a2, .ref a3, .ref a4, .ref a5, .ref a6, .ref a7, .int wm, .int fa, .int 0, .int se, .ref a8, .ref a9, .ref ab])), (a3, .inl (cI, 4, .inl g3)), (a4, .inl (cI, 4, .inl g4)), (a5, .inl (cI, 128, .inl g5)), (a6, .inl (cI, 4, .inl g6))]) (tysr := [(cI, .int)]) hP hD hS hA hK [] [0, 1, 2, 3, 4] [0] rfl rfl (by decide) (by decide) rfl (va_runS (As := [.int w, .int 0, .int ((g4 (Int32.toNatClampNeg v)) - 1)]) (rest := []) ⟨hx, hb, hml, hown, hts⟩ (m_in l D H.size w 0 ((g4 (Int32.toNatClampNeg v)) - 1) ) (va_cwS 3 hts gX9_push_X9_in rfl rfl rfl (by decide +kernel) ⟨Nat.le_of_ble_eq_true rfl, Nat.le_of_ble_eq_true rfl⟩) (st_preS hP hD hK hNW [] [] rfl rfl (by decide) rfl) rfl rfl hl.1 rfl (lv_room (Nat.le_of_ble_eq_true rfl)) dX9_push_22 ⟨(Nat.le_of_ble_eq_true rfl), (Nat.le_of_ble_eq_true rfl)⟩) (fun r_6 u H locs hw hP hD hK hS => ?_)
  have hw : r_6 = wi w 0 ((g4 (Int32.toNatClampNeg v)) - 1) := hw
  subst hw
  have hP : va_P D vwCl [(h0, .inr (8, [.ref a0, .int tk, .ref a1, .int mm, .ref a2, .ref a3, .ref a4, .ref a5, .ref a6, .ref a7, .int wm, .int fa, .int 0, .int se, .ref a8, .ref a9, .ref ab])), (a3, .inl (cI, 4, .inl g3)), (a4, .inl (cI, 4, .inl g4)), (a5, .inl (cI, 128, .inl g5)), (a6, .inl (cI, 4, .inl g6))] H := hP
  have hD : va_D A [(h0, .inr (8, [.ref a0, .int tk, .ref a1, .int mm, .ref a2, .ref a3, .ref a4, .ref a5, .ref a6, .ref a7, .int wm, .int fa, .int 0, .int se, .ref a8, .ref a9, .ref ab])), (a3, .inl (cI, 4, .inl g3)), (a4, .inl (cI, 4, .inl g4)), (a5, .inl (cI, 128, .inl g5)), (a6, .inl (cI, 4, .inl g6))] := hD
  have hK : va_K D vwCl [(cI, .int)] s := hK
  refine lv_if_ne (tgt := 30) hx hb dX9_push_25 (by decide) (fun c_7 => ?_) (fun c_7 => ?_)
  · have hw3_8 : bi w 0 3 := (by clear hml hsz hr hlocks; have : (0 : Int32).toInt = 0 := (by decide); have : (3 : Int32).toInt = 3 := (by decide); have := ti_wi1 c_2; have := ti_wi1 c_7; have k0 : (0 : Int32).toInt = 0 := (by decide); have u9 := ti_m1 (i := g4 (Int32.toNatClampNeg v)) (by omega); omega)
    refine lv_aload_n hx hb dX9_push_30 rfl (lv_at hl 0 rfl) ?_
    refine va_get (D := D) (ci := 8) (v := .ref a6) (C := RX9) (T := TX9) (N := 17) hx hb hts him_push_X9 hown hK hP 0 rfl rfl 8 (by decide) (hts (.fieldLink RX9 28 "OneHandsetModel" "sets" "[I") (List.mem_of_getElem? (i := 3) rfl)) (fun _ h9 => h9) rfl dX9_push_31 ?_
    refine lv_iload_n hx hb dX9_push_34 rfl (lv_at hl 1 rfl) ?_
    refine lv_aload_n hx hb dX9_push_35 rfl (lv_at hl 0 rfl) ?_
    refine lv_iload_n hx hb dX9_push_36 rfl (lv_at hl 1 rfl) ?_
    refine lv_aload_n hx hb dX9_push_37 rfl (lv_at hl 0 rfl) ?_
    refine va_get (D := D) (ci := 8) (v := .ref a6) (C := RX9) (T := TX9) (N := 17) hx hb hts him_push_X9 hown hK hP 0 rfl rfl 8 (by decide) (hts (.fieldLink RX9 28 "OneHandsetModel" "sets" "[I") (List.mem_of_getElem? (i := 3) rfl)) (fun _ h9 => h9) rfl dX9_push_38 ?_
    refine lv_iload_n hx hb dX9_push_41 rfl (lv_at hl 1 rfl) ?_
    refine va_iald hx hb hK hP 4 0 rfl rfl (vp_in_iff.mpr (by have u0 := hv3_3; clear hml hsz hr hlocks; omega)) dX9_push_42 ?_
    refine lv_iload_n hx hb dX9_push_43 rfl (lv_at hl 2 rfl) ?_
    refine go_i (wr := [(a4, .inl (cI, 4, .inl g4)), (a6, .inl (cI, 4, .inl g6))]) (tysr := [(cI, .int)]) hP hD hS hA hK [0, 1, 3] [2, 4] [0] rfl rfl (by decide) (by decide) rfl (va_runV (As := [.int v, .int (g6 (Int32.toNatClampNeg v)), .int w]) (rest := [.int v, .ref a6]) ⟨hx, hb, hml, hown, hts⟩ (m_behind l D H.size cI h0 a0 a1 a2 a3 a4 a5 a6 a7 a8 a9 ab tk mm wm fa 0 se g3 g5 v (g6 (Int32.toNatClampNeg v)) w hv3_3 hw3_8 hg3 hg5) (cwV 3 hts gX9_push_X9_behind rfl rfl rfl (by decide +kernel) ⟨Nat.le_of_ble_eq_true rfl, Nat.le_of_ble_eq_true rfl⟩) (st_preV (ci := 8) (q0 := 0) hP hD hK hNW [0, 1, 3] [0] rfl rfl (by decide) rfl rfl rfl rfl) rfl rfl hl.1 rfl (lv_room (Nat.le_of_ble_eq_true rfl)) dX9_push_44 ⟨(Nat.le_of_ble_eq_true rfl), (Nat.le_of_ble_eq_true rfl)⟩) (fun r_9 u H locs hw hP hD hK hS => ?_)
    have hw : bi r_9 0 255 := hw
    have hw_10 := hw
    have hP : va_P D vwCl [(a4, .inl (cI, 4, .inl g4)), (a6, .inl (cI, 4, .inl g6)), (h0, .inr (8, [.ref a0, .int tk, .ref a1, .int mm, .ref a2, .ref a3, .ref a4, .ref a5, .ref a6, .ref a7, .int wm, .int fa, .int 0, .int se, .ref a8, .ref a9, .ref ab])), (a3, .inl (cI, 4, .inl g3)), (a5, .inl (cI, 128, .inl g5))] H := hP
    have hD : va_D A [(a4, .inl (cI, 4, .inl g4)), (a6, .inl (cI, 4, .inl g6)), (h0, .inr (8, [.ref a0, .int tk, .ref a1, .int mm, .ref a2, .ref a3, .ref a4, .ref a5, .ref a6, .ref a7, .int wm, .int fa, .int 0, .int se, .ref a8, .ref a9, .ref ab])), (a3, .inl (cI, 4, .inl g3)), (a5, .inl (cI, 128, .inl g5))] := hD
    have hK : va_K D vwCl [(cI, .int)] s := hK
    refine va_iast hx hb hK hP hD hS 1 0 rfl rfl (vp_in_iff.mpr (by have u0 := hv3_3; clear hml hsz hr hlocks; omega)) dX9_push_47 (fun H locs hP hD hS => ?_)
    have hP : va_P D vwCl [(a4, .inl (cI, 4, .inl g4)), (a6, .inl (cI, 4, .inl (upd g6 (Int32.toNatClampNeg v) r_9))), (h0, .inr (8, [.ref a0, .int tk, .ref a1, .int mm, .ref a2, .ref a3, .ref a4, .ref a5, .ref a6, .ref a7, .int wm, .int fa, .int 0, .int se, .ref a8, .ref a9, .ref ab])), (a3, .inl (cI, 4, .inl g3)), (a5, .inl (cI, 128, .inl g5))] H := hP
    have hD : va_D A [(a4, .inl (cI, 4, .inl g4)), (a6, .inl (cI, 4, .inl (upd g6 (Int32.toNatClampNeg v) r_9))), (h0, .inr (8, [.ref a0, .int tk, .ref a1, .int mm, .ref a2, .ref a3, .ref a4, .ref a5, .ref a6, .ref a7, .int wm, .int fa, .int 0, .int se, .ref a8, .ref a9, .ref ab])), (a3, .inl (cI, 4, .inl g3)), (a5, .inl (cI, 128, .inl g5))] := hD
    refine lv_aload_n hx hb dX9_push_48 rfl (lv_at hl 0 rfl) ?_
    refine va_get (D := D) (ci := 8) (v := .ref a6) (C := RX9) (T := TX9) (N := 17) hx hb hts him_push_X9 hown hK hP 2 rfl rfl 8 (by decide) (hts (.fieldLink RX9 28 "OneHandsetModel" "sets" "[I") (List.mem_of_getElem? (i := 3) rfl)) (fun _ h9 => h9) rfl dX9_push_49 ?_
    refine lv_iload_n hx hb dX9_push_52 rfl (lv_at hl 1 rfl) ?_
    refine va_iald hx hb hK hP 1 0 rfl rfl (vp_in_iff.mpr (by have u0 := hv3_3; clear hml hsz hr hlocks; omega)) dX9_push_53 ?_
    exact ret_i hx hb hr hlocks rfl (u := (0, upd g6 (Int32.toNatClampNeg v) r_9)) (all_upn hg6 hw_10) (hP.sub [2, 3, 0, 4, 1] rfl) (hK.sub [] rfl) (hD.sub [2, 3, 0, 4, 1] (by decide) rfl) hS (Nat.le_of_ble_eq_true rfl) (Nat.le_of_ble_eq_true rfl) dX9_push_54
  refine lv_iconst (v := (-1)) hx hb dX9_push_28 (by decide) ?_
  exact ret_i hx hb hr hlocks rfl (u := (0, g6)) hg6 (hP.sub [0, 1, 2, 3, 4] rfl) (hK.sub [] rfl) (hD.sub [0, 1, 2, 3, 4] (by decide) rfl) hS (Nat.le_of_ble_eq_true rfl) (Nat.le_of_ble_eq_true rfl) dX9_push_29
theorem him_told_X9 : ∀ w ∈ wsX90, w ∈ wsX9_told := mem_pl [12, 13, 14, 15, 16, 17, 18, 19, 20, 21, 22, 23, 24, 25, 26, 27, 28] rfl
set_option maxHeartbeats 4000000 in
set_option maxRecDepth 100000 in
theorem m_told (l : Launch) (D : va_G) (sz : Nat) (cI : ClassId) (h0 : Nat) (a0 : Nat) (a1 : Nat) (a2 : Nat) (a3 : Nat) (a4 : Nat) (a5 : Nat) (a6 : Nat) (a7 : Nat) (a8 : Nat) (a9 : Nat) (ab : Nat) (tk : Int32) (mm : Int32) (wm : Int32) (fa : Int32) (th : Int32) (se : Int32) (g3 : Nat → Int32) (g4 : Nat → Int32) (g6 : Nat → Int32) (v : Int32) (w : Int32)  : Ci l yX9_told wsX9_told ({ frames := 2, cells := 0, slots := 0, locals := 42 } : Room) D [.ref h0, .int v, .int w] [(h0, .inr (8, [.ref a0, .int tk, .ref a1, .int mm, .ref a2, .ref a3, .ref a4, .ref a5, .ref a6, .ref a7, .int wm, .int fa, .int th, .int se, .ref a8, .ref a9, .ref ab])), (a3, .inl (cI, 4, .inl g3)), (a4, .inl (cI, 4, .inl g4)), (a6, .inl (cI, 4, .inl g6))] [(cI, .int)] sz (fun (r : Int32) => fun (th2 : Int32) => True) (fun (th2 : Int32) => [(h0, .inr (8, [.ref a0, .int tk, .ref a1, .int mm, .ref a2, .ref a3, .ref a4, .ref a5, .ref a6, .ref a7, .int wm, .int fa, .int th2, .int se, .ref a8, .ref a9, .ref ab])), (a3, .inl (cI, 4, .inl g3)), (a4, .inl (cI, 4, .inl g4)), (a6, .inl (cI, 4, .inl g6))]) (fun (th2 : Int32) => []) := by
  refine ct_i (cc := cX9_told) (maxL := 3) (ret := (some .int)) (by decide) rfl (Nat.le_of_ble_eq_true rfl) ?_
  intro p e s m below meth c A ls H hx hb hr hts hown hml hlocks hin hA hS hP hK hD hNW hl hAe hsz
  have hl : lv_has ls 3 [(0, .ref h0), (1, .int v), (2, .int w)] := hl
  refine lv_aload_n hx hb dX9_told_0 rfl (lv_at hl 0 rfl) ?_
  refine lv_iconst (v := 0) hx hb dX9_told_1 (by decide) ?_
  refine va_put (D := D) (ci := 8) (v := .int 0) (ty := .int) (C := RX9) (T := TX9) (N := 17) hx hb hts him_told_X9 tyX9 tyX9_ok nmX9 hown hK hP hD hS 0 rfl rfl 12 (by decide) (hts (.fieldLink RX9 43 "OneHandsetModel" "thrown" "I") (List.mem_of_getElem? (i := 1) rfl)) (fun _ h9 => h9) rfl (by decide +kernel) rfl rfl (Nat.le_of_ble_eq_true rfl) dX9_told_2 (fun H locs hP hD hS => ?_)
  have hP : va_P D vwCl [(h0, .inr (8, [.ref a0, .int tk, .ref a1, .int mm, .ref a2, .ref a3, .ref a4, .ref a5, .ref a6, .ref a7, .int wm, .int fa, .int 0, .int se, .ref a8, .ref a9, .ref ab])), (a3, .inl (cI, 4, .inl g3)), (a4, .inl (cI, 4, .inl g4)), (a6, .inl (cI, 4, .inl g6))] H := hP
  have hD : va_D A [(h0, .inr (8, [.ref a0, .int tk, .ref a1, .int mm, .ref a2, .ref a3, .ref a4, .ref a5, .ref a6, .ref a7, .int wm, .int fa, .int 0, .int se, .ref a8, .ref a9, .ref ab])), (a3, .inl (cI, 4, .inl g3)), (a4, .inl (cI, 4, .inl g4)), (a6, .inl (cI, 4, .inl g6))] := hD
  refine lv_iload_n hx hb dX9_told_5 rfl (lv_at hl 1 rfl) ?_
  refine go_i (wr := [(h0, .inr (8, [.ref a0, .int tk, .ref a1, .int mm, .ref a2, .ref a3, .ref a4, .ref a5, .ref a6, .ref a7, .int wm, .int fa, .int 0, .int se, .ref a8, .ref a9, .ref ab])), (a3, .inl (cI, 4, .inl g3)), (a4, .inl (cI, 4, .inl g4)), (a6, .inl (cI, 4, .inl g6))]) (tysr := [(cI, .int)]) hP hD hS hA hK [] [0, 1, 2, 3] [0] rfl rfl (by decide) (by decide) rfl (va_runS (As := [.int v]) (rest := []) ⟨hx, hb, hml, hown, hts⟩ (m_isBox l D H.size v ) (va_cwS 1 hts gX9_told_X9_isBox rfl rfl rfl (by decide +kernel) ⟨Nat.le_of_ble_eq_true rfl, Nat.le_of_ble_eq_true rfl⟩) (st_preS hP hD hK hNW [] [] rfl rfl (by decide) rfl) rfl rfl hl.1 rfl (lv_room (Nat.le_of_ble_eq_true rfl)) dX9_told_6 ⟨(Nat.le_of_ble_eq_true rfl), (Nat.le_of_ble_eq_true rfl)⟩) (fun r_1 u H locs hw hP hD hK hS => ?_)
  have hw : r_1 = wi v 0 3 := hw
  subst hw
  have hP : va_P D vwCl [(h0, .inr (8, [.ref a0, .int tk, .ref a1, .int mm, .ref a2, .ref a3, .ref a4, .ref a5, .ref a6, .ref a7, .int wm, .int fa, .int 0, .int se, .ref a8, .ref a9, .ref ab])), (a3, .inl (cI, 4, .inl g3)), (a4, .inl (cI, 4, .inl g4)), (a6, .inl (cI, 4, .inl g6))] H := hP
  have hD : va_D A [(h0, .inr (8, [.ref a0, .int tk, .ref a1, .int mm, .ref a2, .ref a3, .ref a4, .ref a5, .ref a6, .ref a7, .int wm, .int fa, .int 0, .int se, .ref a8, .ref a9, .ref ab])), (a3, .inl (cI, 4, .inl g3)), (a4, .inl (cI, 4, .inl g4)), (a6, .inl (cI, 4, .inl g6))] := hD
  have hK : va_K D vwCl [(cI, .int)] s := hK
  refine lv_if_ne (tgt := 14) hx hb dX9_told_9 (by decide) (fun c_2 => ?_) (fun c_2 => ?_)
  · have hv3_3 : bi v 0 3 := (by clear hml hsz hr hlocks; have : (0 : Int32).toInt = 0 := (by decide); have : (3 : Int32).toInt = 3 := (by decide); have := ti_wi1 c_2; have k0 : (0 : Int32).toInt = 0 := (by decide); have k3 : (3 : Int32).toInt = 3 := (by decide); omega)
    refine lv_iload_n hx hb dX9_told_14 rfl (lv_at hl 2 rfl) ?_
    refine lv_if_ne (tgt := 27) hx hb dX9_told_15 (by decide) (fun c_4 => ?_) (fun c_4 => ?_)
    · refine lv_iload_n hx hb dX9_told_27 rfl (lv_at hl 2 rfl) ?_
      refine lv_iconst (v := 1) hx hb dX9_told_28 (by decide) ?_
      refine lv_icmp_ne (tgt := 41) hx hb dX9_told_29 (by decide) (fun c_5 => ?_) (fun c_5 => ?_)
      · refine lv_iload_n hx hb dX9_told_41 rfl (lv_at hl 2 rfl) ?_
        refine lv_iconst (v := 2) hx hb dX9_told_42 (by decide) ?_
        refine lv_icmp_ne (tgt := 55) hx hb dX9_told_43 (by decide) (fun c_6 => ?_) (fun c_6 => ?_)
        · refine lv_iconst (v := (-1)) hx hb dX9_told_55 (by decide) ?_
          exact ret_i hx hb hr hlocks rfl (u := 0) trivial (hP.sub [0, 1, 2, 3] rfl) (hK.sub [] rfl) (hD.sub [0, 1, 2, 3] (by decide) rfl) hS (Nat.le_of_ble_eq_true rfl) (Nat.le_of_ble_eq_true rfl) dX9_told_56
        refine lv_aload_n hx hb dX9_told_46 rfl (lv_at hl 0 rfl) ?_
        refine va_get (D := D) (ci := 8) (v := .ref a6) (C := RX9) (T := TX9) (N := 17) hx hb hts him_told_X9 hown hK hP 0 rfl rfl 8 (by decide) (hts (.fieldLink RX9 28 "OneHandsetModel" "sets" "[I") (List.mem_of_getElem? (i := 4) rfl)) (fun _ h9 => h9) rfl dX9_told_47 ?_
        refine lv_iload_n hx hb dX9_told_50 rfl (lv_at hl 1 rfl) ?_
        refine va_iald hx hb hK hP 3 0 rfl rfl (vp_in_iff.mpr (by have u0 := hv3_3; clear hml hsz hr hlocks; omega)) dX9_told_51 ?_
        refine lv_goto (tgt := 56) hx hb dX9_told_52 (by decide) ?_
        exact ret_i hx hb hr hlocks rfl (u := 0) trivial (hP.sub [0, 1, 2, 3] rfl) (hK.sub [] rfl) (hD.sub [0, 1, 2, 3] (by decide) rfl) hS (Nat.le_of_ble_eq_true rfl) (Nat.le_of_ble_eq_true rfl) dX9_told_56
      refine lv_aload_n hx hb dX9_told_32 rfl (lv_at hl 0 rfl) ?_
      refine va_get (D := D) (ci := 8) (v := .ref a4) (C := RX9) (T := TX9) (N := 17) hx hb hts him_told_X9 hown hK hP 0 rfl rfl 6 (by decide) (hts (.fieldLink RX9 22 "OneHandsetModel" "buttons" "[I") (List.mem_of_getElem? (i := 3) rfl)) (fun _ h9 => h9) rfl dX9_told_33 ?_
      refine lv_iload_n hx hb dX9_told_36 rfl (lv_at hl 1 rfl) ?_
      refine va_iald hx hb hK hP 2 0 rfl rfl (vp_in_iff.mpr (by have u0 := hv3_3; clear hml hsz hr hlocks; omega)) dX9_told_37 ?_
      refine lv_goto (tgt := 56) hx hb dX9_told_38 (by decide) ?_
      exact ret_i hx hb hr hlocks rfl (u := 0) trivial (hP.sub [0, 1, 2, 3] rfl) (hK.sub [] rfl) (hD.sub [0, 1, 2, 3] (by decide) rfl) hS (Nat.le_of_ble_eq_true rfl) (Nat.le_of_ble_eq_true rfl) dX9_told_56
    refine lv_aload_n hx hb dX9_told_18 rfl (lv_at hl 0 rfl) ?_
    refine va_get (D := D) (ci := 8) (v := .ref a3) (C := RX9) (T := TX9) (N := 17) hx hb hts him_told_X9 hown hK hP 0 rfl rfl 5 (by decide) (hts (.fieldLink RX9 19 "OneHandsetModel" "states" "[I") (List.mem_of_getElem? (i := 2) rfl)) (fun _ h9 => h9) rfl dX9_told_19 ?_
    refine lv_iload_n hx hb dX9_told_22 rfl (lv_at hl 1 rfl) ?_
    refine va_iald hx hb hK hP 1 0 rfl rfl (vp_in_iff.mpr (by have u0 := hv3_3; clear hml hsz hr hlocks; omega)) dX9_told_23 ?_
    refine lv_goto (tgt := 56) hx hb dX9_told_24 (by decide) ?_
    exact ret_i hx hb hr hlocks rfl (u := 0) trivial (hP.sub [0, 1, 2, 3] rfl) (hK.sub [] rfl) (hD.sub [0, 1, 2, 3] (by decide) rfl) hS (Nat.le_of_ble_eq_true rfl) (Nat.le_of_ble_eq_true rfl) dX9_told_56
  refine lv_iconst (v := (-1)) hx hb dX9_told_12 (by decide) ?_
  exact ret_i hx hb hr hlocks rfl (u := 0) trivial (hP.sub [0, 1, 2, 3] rfl) (hK.sub [] rfl) (hD.sub [0, 1, 2, 3] (by decide) rfl) hS (Nat.le_of_ble_eq_true rfl) (Nat.le_of_ble_eq_true rfl) dX9_told_13
theorem him_button_X9 : ∀ w ∈ wsX90, w ∈ wsX9_button := mem_pl [8, 9, 10, 11, 12, 13, 14, 15, 16, 17, 18, 19, 20, 21, 22, 23, 24] rfl
set_option maxHeartbeats 4000000 in
set_option maxRecDepth 100000 in
theorem m_button (l : Launch) (D : va_G) (sz : Nat) (cI : ClassId) (h0 : Nat) (a0 : Nat) (a1 : Nat) (a2 : Nat) (a3 : Nat) (a4 : Nat) (a5 : Nat) (a6 : Nat) (a7 : Nat) (a8 : Nat) (a9 : Nat) (ab : Nat) (tk : Int32) (mm : Int32) (wm : Int32) (fa : Int32) (th : Int32) (se : Int32) (g7 : Nat → Int32) (v : Int32) (hwm : bi wm 0 256) : Ci l yX9_button wsX9_button ({ frames := 1, cells := 0, slots := 0, locals := 22 } : Room) D [.ref h0, .int v] [(h0, .inr (8, [.ref a0, .int tk, .ref a1, .int mm, .ref a2, .ref a3, .ref a4, .ref a5, .ref a6, .ref a7, .int wm, .int fa, .int th, .int se, .ref a8, .ref a9, .ref ab])), (a7, .inl (cI, 256, .inl g7))] [(cI, .int)] sz (fun (r : Int32) => fun (th2 : Int32) => True) (fun (th2 : Int32) => [(h0, .inr (8, [.ref a0, .int tk, .ref a1, .int mm, .ref a2, .ref a3, .ref a4, .ref a5, .ref a6, .ref a7, .int wm, .int fa, .int th2, .int se, .ref a8, .ref a9, .ref ab])), (a7, .inl (cI, 256, .inl g7))]) (fun (th2 : Int32) => []) := by
  refine ct_i (cc := cX9_button) (maxL := 2) (ret := (some .int)) (by decide) rfl (Nat.le_of_ble_eq_true rfl) ?_
  intro p e s m below meth c A ls H hx hb hr hts hown hml hlocks hin hA hS hP hK hD hNW hl hAe hsz
  have hl : lv_has ls 2 [(0, .ref h0), (1, .int v)] := hl
  refine lv_aload_n hx hb dX9_button_0 rfl (lv_at hl 0 rfl) ?_
  refine lv_iconst (v := 0) hx hb dX9_button_1 (by decide) ?_
  refine va_put (D := D) (ci := 8) (v := .int 0) (ty := .int) (C := RX9) (T := TX9) (N := 17) hx hb hts him_button_X9 tyX9 tyX9_ok nmX9 hown hK hP hD hS 0 rfl rfl 12 (by decide) (hts (.fieldLink RX9 43 "OneHandsetModel" "thrown" "I") (List.mem_of_getElem? (i := 1) rfl)) (fun _ h9 => h9) rfl (by decide +kernel) rfl rfl (Nat.le_of_ble_eq_true rfl) dX9_button_2 (fun H locs hP hD hS => ?_)
  have hP : va_P D vwCl [(h0, .inr (8, [.ref a0, .int tk, .ref a1, .int mm, .ref a2, .ref a3, .ref a4, .ref a5, .ref a6, .ref a7, .int wm, .int fa, .int 0, .int se, .ref a8, .ref a9, .ref ab])), (a7, .inl (cI, 256, .inl g7))] H := hP
  have hD : va_D A [(h0, .inr (8, [.ref a0, .int tk, .ref a1, .int mm, .ref a2, .ref a3, .ref a4, .ref a5, .ref a6, .ref a7, .int wm, .int fa, .int 0, .int se, .ref a8, .ref a9, .ref ab])), (a7, .inl (cI, 256, .inl g7))] := hD
  refine lv_iload_n hx hb dX9_button_5 rfl (lv_at hl 1 rfl) ?_
  refine lv_iconst (v := 0) hx hb dX9_button_6 (by decide) ?_
  refine lv_aload_n hx hb dX9_button_7 rfl (lv_at hl 0 rfl) ?_
  refine va_get (D := D) (ci := 8) (v := .int wm) (C := RX9) (T := TX9) (N := 17) hx hb hts him_button_X9 hown hK hP 0 rfl rfl 10 (by decide) (hts (.fieldLink RX9 168 "OneHandsetModel" "wayMany" "I") (List.mem_of_getElem? (i := 2) rfl)) (fun _ h9 => h9) rfl dX9_button_8 ?_
  refine lv_iconst (v := 1) hx hb dX9_button_11 (by decide) ?_
  refine lv_isub hx hb dX9_button_12 ?_
  refine go_i (wr := [(h0, .inr (8, [.ref a0, .int tk, .ref a1, .int mm, .ref a2, .ref a3, .ref a4, .ref a5, .ref a6, .ref a7, .int wm, .int fa, .int 0, .int se, .ref a8, .ref a9, .ref ab])), (a7, .inl (cI, 256, .inl g7))]) (tysr := [(cI, .int)]) hP hD hS hA hK [] [0, 1] [0] rfl rfl (by decide) (by decide) rfl (va_runS (As := [.int v, .int 0, .int (wm - 1)]) (rest := []) ⟨hx, hb, hml, hown, hts⟩ (m_in l D H.size v 0 (wm - 1) ) (va_cwS 3 hts gX9_button_X9_in rfl rfl rfl (by decide +kernel) ⟨Nat.le_of_ble_eq_true rfl, Nat.le_of_ble_eq_true rfl⟩) (st_preS hP hD hK hNW [] [] rfl rfl (by decide) rfl) rfl rfl hl.1 rfl (lv_room (Nat.le_of_ble_eq_true rfl)) dX9_button_13 ⟨(Nat.le_of_ble_eq_true rfl), (Nat.le_of_ble_eq_true rfl)⟩) (fun r_1 u H locs hw hP hD hK hS => ?_)
  have hw : r_1 = wi v 0 (wm - 1) := hw
  subst hw
  have hP : va_P D vwCl [(h0, .inr (8, [.ref a0, .int tk, .ref a1, .int mm, .ref a2, .ref a3, .ref a4, .ref a5, .ref a6, .ref a7, .int wm, .int fa, .int 0, .int se, .ref a8, .ref a9, .ref ab])), (a7, .inl (cI, 256, .inl g7))] H := hP
  have hD : va_D A [(h0, .inr (8, [.ref a0, .int tk, .ref a1, .int mm, .ref a2, .ref a3, .ref a4, .ref a5, .ref a6, .ref a7, .int wm, .int fa, .int 0, .int se, .ref a8, .ref a9, .ref ab])), (a7, .inl (cI, 256, .inl g7))] := hD
  have hK : va_K D vwCl [(cI, .int)] s := hK
  refine lv_if_eq (tgt := 28) hx hb dX9_button_16 (by decide) (fun c_2 => ?_) (fun c_2 => ?_)
  · refine lv_iconst (v := (-1)) hx hb dX9_button_28 (by decide) ?_
    exact ret_i hx hb hr hlocks rfl (u := 0) trivial (hP.sub [0, 1] rfl) (hK.sub [] rfl) (hD.sub [0, 1] (by decide) rfl) hS (Nat.le_of_ble_eq_true rfl) (Nat.le_of_ble_eq_true rfl) dX9_button_29
  refine lv_aload_n hx hb dX9_button_19 rfl (lv_at hl 0 rfl) ?_
  refine va_get (D := D) (ci := 8) (v := .ref a7) (C := RX9) (T := TX9) (N := 17) hx hb hts him_button_X9 hown hK hP 0 rfl rfl 9 (by decide) (hts (.fieldLink RX9 31 "OneHandsetModel" "way" "[I") (List.mem_of_getElem? (i := 3) rfl)) (fun _ h9 => h9) rfl dX9_button_20 ?_
  refine lv_iload_n hx hb dX9_button_23 rfl (lv_at hl 1 rfl) ?_
  refine va_iald hx hb hK hP 1 0 rfl rfl (by clear hml hsz hr hlocks; have : (0 : Int32).toInt = 0 := (by decide); have := ti_wi1 c_2; have u1 := ti_m1 (i := wm) (by omega); exact vp_in_iff.mpr (by omega)) dX9_button_24 ?_
  refine lv_goto (tgt := 29) hx hb dX9_button_25 (by decide) ?_
  exact ret_i hx hb hr hlocks rfl (u := 0) trivial (hP.sub [0, 1] rfl) (hK.sub [] rfl) (hD.sub [0, 1] (by decide) rfl) hS (Nat.le_of_ble_eq_true rfl) (Nat.le_of_ble_eq_true rfl) dX9_button_29
theorem him_tell_X9 : ∀ w ∈ wsX90, w ∈ wsX9_tell := mem_pl [6, 7, 8, 9, 10, 11, 12, 13, 14, 15, 16, 17, 18, 19, 20, 21, 22] rfl
set_option maxHeartbeats 4000000 in
set_option maxRecDepth 100000 in
theorem m_tell (l : Launch) (D : va_G) (sz : Nat) (cI : ClassId) (h0 : Nat) (a0 : Nat) (a1 : Nat) (a2 : Nat) (a3 : Nat) (a4 : Nat) (a5 : Nat) (a6 : Nat) (a7 : Nat) (a8 : Nat) (a9 : Nat) (ab : Nat) (tk : Int32) (mm : Int32) (wm : Int32) (fa : Int32) (th : Int32) (se : Int32) (g6 : Nat → Int32) (g7 : Nat → Int32) (g9 : Nat → Int32) (gb : Nat → Int32) (d : Nat → Nat) (v : Int32) (w : Int32) (hbv : bi v 0 3) (hdk : DK g9 (g6 (Int32.toNatClampNeg v)) d) (his : IS g9 w) (hd : d (Int32.toNatClampNeg w) < 256) : Ci l yX9_tell wsX9_tell ({ frames := 0, cells := 0, slots := 0, locals := 0 } : Room) D [.ref h0, .int v, .int w] [(h0, .inr (8, [.ref a0, .int tk, .ref a1, .int mm, .ref a2, .ref a3, .ref a4, .ref a5, .ref a6, .ref a7, .int wm, .int fa, .int th, .int se, .ref a8, .ref a9, .ref ab])), (a6, .inl (cI, 4, .inl g6)), (a7, .inl (cI, 256, .inl g7)), (a9, .inl (cI, 256, .inl g9)), (ab, .inl (cI, 256, .inl gb))] [(cI, .int)] sz (fun (r : Int32) => fun (u9 : Int32 × (Nat → Int32)) => match u9 with | (wm2, g72) => bi wm2 0 256) (fun (u9 : Int32 × (Nat → Int32)) => match u9 with | (wm2, g72) => [(h0, .inr (8, [.ref a0, .int tk, .ref a1, .int mm, .ref a2, .ref a3, .ref a4, .ref a5, .ref a6, .ref a7, .int wm2, .int fa, .int th, .int se, .ref a8, .ref a9, .ref ab])), (a6, .inl (cI, 4, .inl g6)), (a7, .inl (cI, 256, .inl g72)), (a9, .inl (cI, 256, .inl g9)), (ab, .inl (cI, 256, .inl gb))]) (fun (u9 : Int32 × (Nat → Int32)) => match u9 with | (wm2, g72) => []) := by
  refine ct_i (cc := cX9_tell) (maxL := 5) (ret := (some .int)) (by decide) rfl (Nat.le_of_ble_eq_true rfl) ?_
  intro p e s m below meth c A ls H hx hb hr hts hown hml hlocks hin hA hS hP hK hD hNW hl hAe hsz
  have hl : lv_has ls 5 [(0, .ref h0), (1, .int v), (2, .int w)] := hl
  refine lv_iconst (v := 0) hx hb dX9_tell_0 (by decide) ?_
  refine lv_istore_n (lv' := [(3, .int 0), (0, .ref h0), (1, .int v), (2, .int w)]) hx hb dX9_tell_1 rfl hl (by decide) rfl (fun ls hl => ?_)
  refine lv_iload_n hx hb dX9_tell_2 rfl (lv_at hl 3 rfl) ?_
  refine lv_istore (lv' := [(4, .int w), (3, .int 0), (0, .ref h0), (1, .int v), (2, .int w)]) hx hb dX9_tell_3 hl (by decide) rfl (fun ls hl => ?_)
  refine lp_N (fun n9 H locs ls => ∃ (n_1 : Int32), ∃ (y_2 : Int32), n9 = d (Int32.toNatClampNeg y_2) ∧ (va_P D vwCl [(h0, .inr (8, [.ref a0, .int tk, .ref a1, .int mm, .ref a2, .ref a3, .ref a4, .ref a5, .ref a6, .ref a7, .int wm, .int fa, .int th, .int se, .ref a8, .ref a9, .ref ab])), (a6, .inl (cI, 4, .inl g6)), (a7, .inl (cI, 256, .inl g7)), (a9, .inl (cI, 256, .inl g9)), (ab, .inl (cI, 256, .inl gb))] H ∧ va_D A [(h0, .inr (8, [.ref a0, .int tk, .ref a1, .int mm, .ref a2, .ref a3, .ref a4, .ref a5, .ref a6, .ref a7, .int wm, .int fa, .int th, .int se, .ref a8, .ref a9, .ref ab])), (a6, .inl (cI, 4, .inl g6)), (a7, .inl (cI, 256, .inl g7)), (a9, .inl (cI, 256, .inl g9)), (ab, .inl (cI, 256, .inl gb))]) ∧ va_S A s.heap H locs ∧ lv_has ls 5 [(4, .int y_2), (3, .int n_1), (0, .ref h0), (1, .int v), (2, .int w)] ∧ (IS g9 y_2 ∧ 0 ≤ n_1.toInt ∧ n_1.toInt + d (Int32.toNatClampNeg y_2) = d (Int32.toNatClampNeg w))) ?_ ⟨0, w, rfl, ⟨hP, hD⟩, hS, hl, ⟨his, by decide, (by have k0 : (0 : Int32).toInt = 0 := (by decide); clear hml hsz hr hlocks; omega)⟩⟩
  intro n9 ih_3 H locs ls hI
  obtain ⟨n_1, y_2, rfl, ⟨hP, hD⟩, hS, hl, hv_4⟩ := hI
  refine lv_iload hx hb dX9_tell_5 (lv_at hl 0 rfl) ?_
  refine lv_aload_n hx hb dX9_tell_7 rfl (lv_at hl 2 rfl) ?_
  refine va_get (D := D) (ci := 8) (v := .ref a6) (C := RX9) (T := TX9) (N := 17) hx hb hts him_tell_X9 hown hK hP 0 rfl rfl 8 (by decide) (hts (.fieldLink RX9 28 "OneHandsetModel" "sets" "[I") (List.mem_of_getElem? (i := 1) rfl)) (fun _ h9 => h9) rfl dX9_tell_8 ?_
  refine lv_iload_n hx hb dX9_tell_11 rfl (lv_at hl 3 rfl) ?_
  refine va_iald hx hb hK hP 1 0 rfl rfl (vp_in_iff.mpr (by have u0 := hbv; clear hml hsz hr hlocks; omega)) dX9_tell_12 ?_
  refine lv_icmp_eq (tgt := 31) hx hb dX9_tell_13 (by decide) (fun c_5 => ?_) (fun c_5 => ?_)
  · have hn_6 : (n_1).toInt = d (Int32.toNatClampNeg w) := (by have h3 := hdk.2.1; rw [← c_5] at h3; have h4 := hv_4; clear hml hsz hr hlocks; omega)
    have hwm2_7 : bi n_1 0 256 := (by have h4 := hn_6; clear hml hsz hr hlocks; omega)
    refine lv_aload_n hx hb dX9_tell_31 rfl (lv_at hl 2 rfl) ?_
    refine lv_iload_n hx hb dX9_tell_32 rfl (lv_at hl 1 rfl) ?_
    refine va_put (D := D) (ci := 8) (v := .int n_1) (ty := .int) (C := RX9) (T := TX9) (N := 17) hx hb hts him_tell_X9 tyX9 tyX9_ok nmX9 hown hK hP hD hS 0 rfl rfl 10 (by decide) (hts (.fieldLink RX9 168 "OneHandsetModel" "wayMany" "I") (List.mem_of_getElem? (i := 3) rfl)) (fun _ h9 => h9) rfl (by decide +kernel) rfl rfl (Nat.le_of_ble_eq_true rfl) dX9_tell_33 (fun H locs hP hD hS => ?_)
    have hP : va_P D vwCl [(h0, .inr (8, [.ref a0, .int tk, .ref a1, .int mm, .ref a2, .ref a3, .ref a4, .ref a5, .ref a6, .ref a7, .int n_1, .int fa, .int th, .int se, .ref a8, .ref a9, .ref ab])), (a6, .inl (cI, 4, .inl g6)), (a7, .inl (cI, 256, .inl g7)), (a9, .inl (cI, 256, .inl g9)), (ab, .inl (cI, 256, .inl gb))] H := hP
    have hD : va_D A [(h0, .inr (8, [.ref a0, .int tk, .ref a1, .int mm, .ref a2, .ref a3, .ref a4, .ref a5, .ref a6, .ref a7, .int n_1, .int fa, .int th, .int se, .ref a8, .ref a9, .ref ab])), (a6, .inl (cI, 4, .inl g6)), (a7, .inl (cI, 256, .inl g7)), (a9, .inl (cI, 256, .inl g9)), (ab, .inl (cI, 256, .inl gb))] := hD
    refine lv_iload_n hx hb dX9_tell_36 rfl (lv_at hl 4 rfl) ?_
    refine lv_istore (lv' := [(4, .int w), (3, .int n_1), (0, .ref h0), (1, .int v), (2, .int w)]) hx hb dX9_tell_37 hl (by decide) rfl (fun ls hl => ?_)
    refine lp_N (fun n9 H locs ls => ∃ (g_8 : Nat → Int32), ∃ (n_9 : Int32), ∃ (y_10 : Int32), n9 = d (Int32.toNatClampNeg y_10) ∧ (va_P D vwCl [(h0, .inr (8, [.ref a0, .int tk, .ref a1, .int mm, .ref a2, .ref a3, .ref a4, .ref a5, .ref a6, .ref a7, .int n_1, .int fa, .int th, .int se, .ref a8, .ref a9, .ref ab])), (a6, .inl (cI, 4, .inl g6)), (a7, .inl (cI, 256, .inl g_8)), (a9, .inl (cI, 256, .inl g9)), (ab, .inl (cI, 256, .inl gb))] H ∧ va_D A [(h0, .inr (8, [.ref a0, .int tk, .ref a1, .int mm, .ref a2, .ref a3, .ref a4, .ref a5, .ref a6, .ref a7, .int n_1, .int fa, .int th, .int se, .ref a8, .ref a9, .ref ab])), (a6, .inl (cI, 4, .inl g6)), (a7, .inl (cI, 256, .inl g_8)), (a9, .inl (cI, 256, .inl g9)), (ab, .inl (cI, 256, .inl gb))]) ∧ va_S A s.heap H locs ∧ lv_has ls 5 [(4, .int y_10), (3, .int n_9), (0, .ref h0), (1, .int v), (2, .int w)] ∧ (IS g9 y_10 ∧ n_9.toInt = d (Int32.toNatClampNeg y_10) ∧ d (Int32.toNatClampNeg y_10) < 256)) ?_ ⟨g7, n_1, w, rfl, ⟨hP, hD⟩, hS, hl, ⟨his, hn_6, hd⟩⟩
    intro n9 ih_11 H locs ls hI
    obtain ⟨g_8, n_9, y_10, rfl, ⟨hP, hD⟩, hS, hl, hv_12⟩ := hI
    refine lv_iload hx hb dX9_tell_39 (lv_at hl 0 rfl) ?_
    refine lv_aload_n hx hb dX9_tell_41 rfl (lv_at hl 2 rfl) ?_
    refine va_get (D := D) (ci := 8) (v := .ref a6) (C := RX9) (T := TX9) (N := 17) hx hb hts him_tell_X9 hown hK hP 0 rfl rfl 8 (by decide) (hts (.fieldLink RX9 28 "OneHandsetModel" "sets" "[I") (List.mem_of_getElem? (i := 1) rfl)) (fun _ h9 => h9) rfl dX9_tell_42 ?_
    refine lv_iload_n hx hb dX9_tell_45 rfl (lv_at hl 3 rfl) ?_
    refine va_iald hx hb hK hP 1 0 rfl rfl (vp_in_iff.mpr (by have u0 := hbv; clear hml hsz hr hlocks; omega)) dX9_tell_46 ?_
    refine lv_icmp_eq (tgt := 78) hx hb dX9_tell_47 (by decide) (fun c_13 => ?_) (fun c_13 => ?_)
    · refine lv_aload_n hx hb dX9_tell_78 rfl (lv_at hl 2 rfl) ?_
      refine va_get (D := D) (ci := 8) (v := .int n_1) (C := RX9) (T := TX9) (N := 17) hx hb hts him_tell_X9 hown hK hP 0 rfl rfl 10 (by decide) (hts (.fieldLink RX9 168 "OneHandsetModel" "wayMany" "I") (List.mem_of_getElem? (i := 3) rfl)) (fun _ h9 => h9) rfl dX9_tell_79 ?_
      exact ret_i hx hb hr hlocks rfl (u := (n_1, g_8)) hwm2_7 (hP.sub [0, 1, 2, 3, 4] rfl) (hK.sub [] rfl) (hD.sub [0, 1, 2, 3, 4] (by decide) rfl) hS (Nat.le_of_ble_eq_true rfl) (Nat.le_of_ble_eq_true rfl) dX9_tell_82
    have hnx_14 : IS g9 (g9 (Int32.toNatClampNeg y_10)) ∧ d (Int32.toNatClampNeg (g9 (Int32.toNatClampNeg y_10))) + 1 = d (Int32.toNatClampNeg y_10) := DK.nx hdk (hv_12).1 c_13
    refine lv_iinc (v := n_9 + (-1)) (lv' := [(3, .int (n_9 + (-1))), (4, .int y_10), (0, .ref h0), (1, .int v), (2, .int w)]) hx hb dX9_tell_50 hl (k := 1) rfl (ii_m1 _) (by decide) rfl (fun ls hl => ?_)
    refine lv_aload_n hx hb dX9_tell_53 rfl (lv_at hl 2 rfl) ?_
    refine va_get (D := D) (ci := 8) (v := .ref a7) (C := RX9) (T := TX9) (N := 17) hx hb hts him_tell_X9 hown hK hP 0 rfl rfl 9 (by decide) (hts (.fieldLink RX9 31 "OneHandsetModel" "way" "[I") (List.mem_of_getElem? (i := 4) rfl)) (fun _ h9 => h9) rfl dX9_tell_54 ?_
    refine lv_iload_n hx hb dX9_tell_57 rfl (lv_at hl 0 rfl) ?_
    refine lv_aload_n hx hb dX9_tell_58 rfl (lv_at hl 2 rfl) ?_
    refine va_get (D := D) (ci := 8) (v := .ref ab) (C := RX9) (T := TX9) (N := 17) hx hb hts him_tell_X9 hown hK hP 0 rfl rfl 16 (by decide) (hts (.fieldLink RX9 40 "OneHandsetModel" "by" "[I") (List.mem_of_getElem? (i := 5) rfl)) (fun _ h9 => h9) rfl dX9_tell_59 ?_
    refine lv_iload hx hb dX9_tell_62 (lv_at hl 1 rfl) ?_
    refine va_iald hx hb hK hP 4 0 rfl rfl (hv_12).1.vin dX9_tell_64 ?_
    refine va_iast hx hb hK hP hD hS 2 0 rfl rfl (vp_in_iff.mpr (by have h3 := hv_12; have h4 := hnx_14; have u1 := ti_am1s (i := n_9) (by clear hml hsz hr hlocks; omega); clear hml hsz hr hlocks; omega)) dX9_tell_65 (fun H locs hP hD hS => ?_)
    obtain ⟨g_15, hP, hD⟩ : ∃ gz9 : Nat → Int32, va_P D vwCl [(h0, .inr (8, [.ref a0, .int tk, .ref a1, .int mm, .ref a2, .ref a3, .ref a4, .ref a5, .ref a6, .ref a7, .int n_1, .int fa, .int th, .int se, .ref a8, .ref a9, .ref ab])), (a6, .inl (cI, 4, .inl g6)), (a7, .inl (cI, 256, .inl gz9)), (a9, .inl (cI, 256, .inl g9)), (ab, .inl (cI, 256, .inl gb))] H ∧ va_D A [(h0, .inr (8, [.ref a0, .int tk, .ref a1, .int mm, .ref a2, .ref a3, .ref a4, .ref a5, .ref a6, .ref a7, .int n_1, .int fa, .int th, .int se, .ref a8, .ref a9, .ref ab])), (a6, .inl (cI, 4, .inl g6)), (a7, .inl (cI, 256, .inl gz9)), (a9, .inl (cI, 256, .inl g9)), (ab, .inl (cI, 256, .inl gb))] := ⟨_, hP, hD⟩
    refine lv_aload_n hx hb dX9_tell_66 rfl (lv_at hl 2 rfl) ?_
    refine va_get (D := D) (ci := 8) (v := .ref a9) (C := RX9) (T := TX9) (N := 17) hx hb hts him_tell_X9 hown hK hP 0 rfl rfl 15 (by decide) (hts (.fieldLink RX9 37 "OneHandsetModel" "from" "[I") (List.mem_of_getElem? (i := 2) rfl)) (fun _ h9 => h9) rfl dX9_tell_67 ?_
    refine lv_iload hx hb dX9_tell_70 (lv_at hl 1 rfl) ?_
    refine va_iald hx hb hK hP 3 0 rfl rfl (hv_12).1.vin dX9_tell_72 ?_
    refine lv_istore (lv' := [(4, .int (g9 (Int32.toNatClampNeg y_10))), (3, .int (n_9 + (-1))), (0, .ref h0), (1, .int v), (2, .int w)]) hx hb dX9_tell_73 hl (by decide) rfl (fun ls hl => ?_)
    refine lv_goto (tgt := 39) hx hb dX9_tell_75 (by decide) ?_
    exact ih_11 _ _ _ _ (by have h4 := hnx_14; clear hml hsz hr hlocks; omega) ⟨g_15, n_9 + (-1), g9 (Int32.toNatClampNeg y_10), rfl, ⟨hP, hD⟩, hS, lv_sub hl [0, 1, 2, 3, 4] rfl, ⟨(hnx_14).1, (by have h3 := hv_12; have h4 := hnx_14; have u1 := ti_am1s (i := n_9) (by clear hml hsz hr hlocks; omega); clear hml hsz hr hlocks; omega), (by have h3 := hv_12; have h4 := hnx_14; have u1 := ti_am1s (i := n_9) (by clear hml hsz hr hlocks; omega); clear hml hsz hr hlocks; omega)⟩⟩
  have hnx_16 : IS g9 (g9 (Int32.toNatClampNeg y_2)) ∧ d (Int32.toNatClampNeg (g9 (Int32.toNatClampNeg y_2))) + 1 = d (Int32.toNatClampNeg y_2) := DK.nx hdk (hv_4).1 c_5
  refine lv_iinc (v := n_1 + 1) (lv' := [(3, .int (n_1 + 1)), (4, .int y_2), (0, .ref h0), (1, .int v), (2, .int w)]) hx hb dX9_tell_16 hl (k := 1) rfl (ii_p1 _) (by decide) rfl (fun ls hl => ?_)
  refine lv_aload_n hx hb dX9_tell_19 rfl (lv_at hl 2 rfl) ?_
  refine va_get (D := D) (ci := 8) (v := .ref a9) (C := RX9) (T := TX9) (N := 17) hx hb hts him_tell_X9 hown hK hP 0 rfl rfl 15 (by decide) (hts (.fieldLink RX9 37 "OneHandsetModel" "from" "[I") (List.mem_of_getElem? (i := 2) rfl)) (fun _ h9 => h9) rfl dX9_tell_20 ?_
  refine lv_iload hx hb dX9_tell_23 (lv_at hl 1 rfl) ?_
  refine va_iald hx hb hK hP 3 0 rfl rfl (hv_4).1.vin dX9_tell_25 ?_
  refine lv_istore (lv' := [(4, .int (g9 (Int32.toNatClampNeg y_2))), (3, .int (n_1 + 1)), (0, .ref h0), (1, .int v), (2, .int w)]) hx hb dX9_tell_26 hl (by decide) rfl (fun ls hl => ?_)
  refine lv_goto (tgt := 5) hx hb dX9_tell_28 (by decide) ?_
  exact ih_3 _ _ _ _ (by have h4 := hnx_16; clear hml hsz hr hlocks; omega) ⟨n_1 + 1, g9 (Int32.toNatClampNeg y_2), rfl, ⟨hP, hD⟩, hS, lv_sub hl [0, 1, 2, 3, 4] rfl, ⟨(hnx_16).1, (by have h3 := hv_4; have h4 := hnx_16; have k400 : (400 : Int32).toInt = 400 := (by decide); have u1 := ti_up (i := n_1) (n := 400) (by clear hml hsz hr hlocks; omega); clear hml hsz hr hlocks; omega), (by have h3 := hv_4; have h4 := hnx_16; have k400 : (400 : Int32).toInt = 400 := (by decide); have u1 := ti_up (i := n_1) (n := 400) (by clear hml hsz hr hlocks; omega); clear hml hsz hr hlocks; omega)⟩⟩
theorem him_way_X9 : ∀ w ∈ wsX90, w ∈ wsX9_way := mem_pl [30, 31, 32, 33, 34, 35, 36, 37, 38, 39, 40, 41, 42, 43, 44, 45, 46] rfl
set_option maxHeartbeats 4000000 in
set_option maxRecDepth 100000 in
theorem m_way (l : Launch) (D : va_G) (sz : Nat) (cI : ClassId) (h0 : Nat) (a0 : Nat) (a1 : Nat) (a2 : Nat) (a3 : Nat) (a4 : Nat) (a5 : Nat) (a6 : Nat) (a7 : Nat) (a8 : Nat) (a9 : Nat) (ab : Nat) (tk : Int32) (mm : Int32) (wm : Int32) (fa : Int32) (th : Int32) (se : Int32) (g3 : Nat → Int32) (g4 : Nat → Int32) (g5 : Nat → Int32) (g6 : Nat → Int32) (g7 : Nat → Int32) (g8 : Nat → Int32) (g9 : Nat → Int32) (gb : Nat → Int32) (v : Int32) (w : Int32) (hg3 : ∀ j, j < 4 → bi (g3 j) 1 8) (hg4 : ∀ j, j < 4 → bi (g4 j) 1 4) (hg5 : ∀ j, bi (g5 j) 0 7) (hg6 : ∀ j, j < 4 → bi (g6 j) 0 255) (hwm : bi wm 0 256) : Ci l yX9_way wsX9_way ({ frames := 2, cells := 0, slots := 0, locals := 44 } : Room) D [.ref h0, .int v, .int w] [(h0, .inr (8, [.ref a0, .int tk, .ref a1, .int mm, .ref a2, .ref a3, .ref a4, .ref a5, .ref a6, .ref a7, .int wm, .int fa, .int th, .int se, .ref a8, .ref a9, .ref ab])), (a3, .inl (cI, 4, .inl g3)), (a4, .inl (cI, 4, .inl g4)), (a5, .inl (cI, 128, .inl g5)), (a6, .inl (cI, 4, .inl g6)), (a7, .inl (cI, 256, .inl g7)), (a8, .inl (cI, 256, .inl g8)), (a9, .inl (cI, 256, .inl g9)), (ab, .inl (cI, 256, .inl gb))] [(cI, .int)] sz (fun (r : Int32) => fun (u9 : Int32 × Int32 × (Nat → Int32) × (Nat → Int32) × (Nat → Int32) × (Nat → Int32)) => match u9 with | (wm2, th2, g72, g82, g92, gb2) => bi wm2 0 256) (fun (u9 : Int32 × Int32 × (Nat → Int32) × (Nat → Int32) × (Nat → Int32) × (Nat → Int32)) => match u9 with | (wm2, th2, g72, g82, g92, gb2) => [(h0, .inr (8, [.ref a0, .int tk, .ref a1, .int mm, .ref a2, .ref a3, .ref a4, .ref a5, .ref a6, .ref a7, .int wm2, .int fa, .int th2, .int se, .ref a8, .ref a9, .ref ab])), (a3, .inl (cI, 4, .inl g3)), (a4, .inl (cI, 4, .inl g4)), (a5, .inl (cI, 128, .inl g5)), (a6, .inl (cI, 4, .inl g6)), (a7, .inl (cI, 256, .inl g72)), (a8, .inl (cI, 256, .inl g82)), (a9, .inl (cI, 256, .inl g92)), (ab, .inl (cI, 256, .inl gb2))]) (fun (u9 : Int32 × Int32 × (Nat → Int32) × (Nat → Int32) × (Nat → Int32) × (Nat → Int32)) => match u9 with | (wm2, th2, g72, g82, g92, gb2) => []) := by
  refine ct_i (cc := cX9_way) (maxL := 8) (ret := (some .int)) (by decide) rfl (Nat.le_of_ble_eq_true rfl) ?_
  intro p e s m below meth c A ls H hx hb hr hts hown hml hlocks hin hA hS hP hK hD hNW hl hAe hsz
  have hl : lv_has ls 8 [(0, .ref h0), (1, .int v), (2, .int w)] := hl
  refine lv_aload_n hx hb dX9_way_0 rfl (lv_at hl 0 rfl) ?_
  refine lv_iconst (v := 0) hx hb dX9_way_1 (by decide) ?_
  refine va_put (D := D) (ci := 8) (v := .int 0) (ty := .int) (C := RX9) (T := TX9) (N := 17) hx hb hts him_way_X9 tyX9 tyX9_ok nmX9 hown hK hP hD hS 0 rfl rfl 12 (by decide) (hts (.fieldLink RX9 43 "OneHandsetModel" "thrown" "I") (List.mem_of_getElem? (i := 1) rfl)) (fun _ h9 => h9) rfl (by decide +kernel) rfl rfl (Nat.le_of_ble_eq_true rfl) dX9_way_2 (fun H locs hP hD hS => ?_)
  have hP : va_P D vwCl [(h0, .inr (8, [.ref a0, .int tk, .ref a1, .int mm, .ref a2, .ref a3, .ref a4, .ref a5, .ref a6, .ref a7, .int wm, .int fa, .int 0, .int se, .ref a8, .ref a9, .ref ab])), (a3, .inl (cI, 4, .inl g3)), (a4, .inl (cI, 4, .inl g4)), (a5, .inl (cI, 128, .inl g5)), (a6, .inl (cI, 4, .inl g6)), (a7, .inl (cI, 256, .inl g7)), (a8, .inl (cI, 256, .inl g8)), (a9, .inl (cI, 256, .inl g9)), (ab, .inl (cI, 256, .inl gb))] H := hP
  have hD : va_D A [(h0, .inr (8, [.ref a0, .int tk, .ref a1, .int mm, .ref a2, .ref a3, .ref a4, .ref a5, .ref a6, .ref a7, .int wm, .int fa, .int 0, .int se, .ref a8, .ref a9, .ref ab])), (a3, .inl (cI, 4, .inl g3)), (a4, .inl (cI, 4, .inl g4)), (a5, .inl (cI, 128, .inl g5)), (a6, .inl (cI, 4, .inl g6)), (a7, .inl (cI, 256, .inl g7)), (a8, .inl (cI, 256, .inl g8)), (a9, .inl (cI, 256, .inl g9)), (ab, .inl (cI, 256, .inl gb))] := hD
  refine lv_iload_n hx hb dX9_way_5 rfl (lv_at hl 1 rfl) ?_
  refine go_i (wr := [(h0, .inr (8, [.ref a0, .int tk, .ref a1, .int mm, .ref a2, .ref a3, .ref a4, .ref a5, .ref a6, .ref a7, .int wm, .int fa, .int 0, .int se, .ref a8, .ref a9, .ref ab])), (a3, .inl (cI, 4, .inl g3)), (a4, .inl (cI, 4, .inl g4)), (a5, .inl (cI, 128, .inl g5)), (a6, .inl (cI, 4, .inl g6)), (a7, .inl (cI, 256, .inl g7)), (a8, .inl (cI, 256, .inl g8)), (a9, .inl (cI, 256, .inl g9)), (ab, .inl (cI, 256, .inl gb))]) (tysr := [(cI, .int)]) hP hD hS hA hK [] [0, 1, 2, 3, 4, 5, 6, 7, 8] [0] rfl rfl (by decide) (by decide) rfl (va_runS (As := [.int v]) (rest := []) ⟨hx, hb, hml, hown, hts⟩ (m_isBox l D H.size v ) (va_cwS 1 hts gX9_way_X9_isBox rfl rfl rfl (by decide +kernel) ⟨Nat.le_of_ble_eq_true rfl, Nat.le_of_ble_eq_true rfl⟩) (st_preS hP hD hK hNW [] [] rfl rfl (by decide) rfl) rfl rfl hl.1 rfl (lv_room (Nat.le_of_ble_eq_true rfl)) dX9_way_6 ⟨(Nat.le_of_ble_eq_true rfl), (Nat.le_of_ble_eq_true rfl)⟩) (fun r_1 u H locs hw hP hD hK hS => ?_)
  have hw : r_1 = wi v 0 3 := hw
  subst hw
  have hP : va_P D vwCl [(h0, .inr (8, [.ref a0, .int tk, .ref a1, .int mm, .ref a2, .ref a3, .ref a4, .ref a5, .ref a6, .ref a7, .int wm, .int fa, .int 0, .int se, .ref a8, .ref a9, .ref ab])), (a3, .inl (cI, 4, .inl g3)), (a4, .inl (cI, 4, .inl g4)), (a5, .inl (cI, 128, .inl g5)), (a6, .inl (cI, 4, .inl g6)), (a7, .inl (cI, 256, .inl g7)), (a8, .inl (cI, 256, .inl g8)), (a9, .inl (cI, 256, .inl g9)), (ab, .inl (cI, 256, .inl gb))] H := hP
  have hD : va_D A [(h0, .inr (8, [.ref a0, .int tk, .ref a1, .int mm, .ref a2, .ref a3, .ref a4, .ref a5, .ref a6, .ref a7, .int wm, .int fa, .int 0, .int se, .ref a8, .ref a9, .ref ab])), (a3, .inl (cI, 4, .inl g3)), (a4, .inl (cI, 4, .inl g4)), (a5, .inl (cI, 128, .inl g5)), (a6, .inl (cI, 4, .inl g6)), (a7, .inl (cI, 256, .inl g7)), (a8, .inl (cI, 256, .inl g8)), (a9, .inl (cI, 256, .inl g9)), (ab, .inl (cI, 256, .inl gb))] := hD
  have hK : va_K D vwCl [(cI, .int)] s := hK
  refine lv_if_eq (tgt := 21) hx hb dX9_way_9 (by decide) (fun c_2 => ?_) (fun c_2 => ?_)
  · refine lv_iconst (v := (-1)) hx hb dX9_way_21 (by decide) ?_
    exact ret_i hx hb hr hlocks rfl (u := (wm, 0, g7, g8, g9, gb)) hwm (hP.sub [0, 1, 2, 3, 4, 5, 6, 7, 8] rfl) (hK.sub [] rfl) (hD.sub [0, 1, 2, 3, 4, 5, 6, 7, 8] (by decide) rfl) hS (Nat.le_of_ble_eq_true rfl) (Nat.le_of_ble_eq_true rfl) dX9_way_22
  have hv3_3 : bi v 0 3 := (by clear hml hsz hr hlocks; have : (0 : Int32).toInt = 0 := (by decide); have : (3 : Int32).toInt = 3 := (by decide); have := ti_wi1 c_2; have k0 : (0 : Int32).toInt = 0 := (by decide); have k3 : (3 : Int32).toInt = 3 := (by decide); omega)
  have hs8_4 : bi (g3 (Int32.toNatClampNeg v)) 1 8 := hg3 _ (c4 hv3_3)
  have hb4_5 : bi (g4 (Int32.toNatClampNeg v)) 1 4 := hg4 _ (c4 hv3_3)
  have hm2_6 : bi (g6 (Int32.toNatClampNeg v)) 0 255 := hg6 _ (c4 hv3_3)
  refine lv_aload_n hx hb dX9_way_12 rfl (lv_at hl 0 rfl) ?_
  refine lv_iload_n hx hb dX9_way_13 rfl (lv_at hl 1 rfl) ?_
  refine lv_iload_n hx hb dX9_way_14 rfl (lv_at hl 2 rfl) ?_
  refine go_i (wr := [(a4, .inl (cI, 4, .inl g4)), (a5, .inl (cI, 128, .inl g5)), (a6, .inl (cI, 4, .inl g6)), (a7, .inl (cI, 256, .inl g7)), (a8, .inl (cI, 256, .inl g8)), (a9, .inl (cI, 256, .inl g9)), (ab, .inl (cI, 256, .inl gb))]) (tysr := [(cI, .int)]) hP hD hS hA hK [0, 1] [2, 3, 4, 5, 6, 7, 8] [0] rfl rfl (by decide) (by decide) rfl (va_runV (As := [.int v, .int w]) (rest := []) ⟨hx, hb, hml, hown, hts⟩ (m_isSet l D H.size cI h0 a0 a1 a2 a3 a4 a5 a6 a7 a8 a9 ab tk mm wm fa 0 se g3 v w hv3_3) (cwV 2 hts gX9_way_X9_isSet rfl rfl rfl (by decide +kernel) ⟨Nat.le_of_ble_eq_true rfl, Nat.le_of_ble_eq_true rfl⟩) (st_preV (ci := 8) (q0 := 0) hP hD hK hNW [0, 1] [0] rfl rfl (by decide) rfl rfl rfl rfl) rfl rfl hl.1 rfl (lv_room (Nat.le_of_ble_eq_true rfl)) dX9_way_15 ⟨(Nat.le_of_ble_eq_true rfl), (Nat.le_of_ble_eq_true rfl)⟩) (fun r_7 u H locs hw hP hD hK hS => ?_)
  have hw : r_7 = wi w 1 (lb (g3 (Int32.toNatClampNeg v))) := hw
  subst hw
  have hP : va_P D vwCl [(a4, .inl (cI, 4, .inl g4)), (a5, .inl (cI, 128, .inl g5)), (a6, .inl (cI, 4, .inl g6)), (a7, .inl (cI, 256, .inl g7)), (a8, .inl (cI, 256, .inl g8)), (a9, .inl (cI, 256, .inl g9)), (ab, .inl (cI, 256, .inl gb)), (h0, .inr (8, [.ref a0, .int tk, .ref a1, .int mm, .ref a2, .ref a3, .ref a4, .ref a5, .ref a6, .ref a7, .int wm, .int fa, .int 0, .int se, .ref a8, .ref a9, .ref ab])), (a3, .inl (cI, 4, .inl g3))] H := hP
  have hD : va_D A [(a4, .inl (cI, 4, .inl g4)), (a5, .inl (cI, 128, .inl g5)), (a6, .inl (cI, 4, .inl g6)), (a7, .inl (cI, 256, .inl g7)), (a8, .inl (cI, 256, .inl g8)), (a9, .inl (cI, 256, .inl g9)), (ab, .inl (cI, 256, .inl gb)), (h0, .inr (8, [.ref a0, .int tk, .ref a1, .int mm, .ref a2, .ref a3, .ref a4, .ref a5, .ref a6, .ref a7, .int wm, .int fa, .int 0, .int se, .ref a8, .ref a9, .ref ab])), (a3, .inl (cI, 4, .inl g3))] := hD
  have hK : va_K D vwCl [(cI, .int)] s := hK
  refine lv_if_ne (tgt := 23) hx hb dX9_way_18 (by decide) (fun c_8 => ?_) (fun c_8 => ?_)
  · refine lv_iconst (v := 0) hx hb dX9_way_23 (by decide) ?_
    refine lv_istore_n (lv' := [(3, .int 0), (0, .ref h0), (1, .int v), (2, .int w)]) hx hb dX9_way_24 rfl hl (by decide) rfl (fun ls hl => ?_)
    refine lp_N (fun n9 H locs ls => ∃ (g_9 : Nat → Int32), ∃ (i_10 : Int32), n9 = (256 - i_10.toInt).toNat ∧ (va_P D vwCl [(a4, .inl (cI, 4, .inl g4)), (a5, .inl (cI, 128, .inl g5)), (a6, .inl (cI, 4, .inl g6)), (a7, .inl (cI, 256, .inl g7)), (a8, .inl (cI, 256, .inl g8)), (a9, .inl (cI, 256, .inl g_9)), (ab, .inl (cI, 256, .inl gb)), (h0, .inr (8, [.ref a0, .int tk, .ref a1, .int mm, .ref a2, .ref a3, .ref a4, .ref a5, .ref a6, .ref a7, .int wm, .int fa, .int 0, .int se, .ref a8, .ref a9, .ref ab])), (a3, .inl (cI, 4, .inl g3))] H ∧ va_D A [(a4, .inl (cI, 4, .inl g4)), (a5, .inl (cI, 128, .inl g5)), (a6, .inl (cI, 4, .inl g6)), (a7, .inl (cI, 256, .inl g7)), (a8, .inl (cI, 256, .inl g8)), (a9, .inl (cI, 256, .inl g_9)), (ab, .inl (cI, 256, .inl gb)), (h0, .inr (8, [.ref a0, .int tk, .ref a1, .int mm, .ref a2, .ref a3, .ref a4, .ref a5, .ref a6, .ref a7, .int wm, .int fa, .int 0, .int se, .ref a8, .ref a9, .ref ab])), (a3, .inl (cI, 4, .inl g3))]) ∧ va_S A s.heap H locs ∧ lv_has ls 8 [(3, .int i_10), (0, .ref h0), (1, .int v), (2, .int w)] ∧ (0 ≤ i_10.toInt ∧ i_10.toInt ≤ 256 ∧ ∀ j : Nat, (j : Int) < i_10.toInt → g_9 j = -1)) ?_ ⟨g9, 0, rfl, ⟨hP, hD⟩, hS, hl, ⟨by decide, by decide, fun j hj => absurd hj (by have k0 : (0 : Int32).toInt = 0 := (by decide); rw [k0]; omega)⟩⟩
    intro n9 ih_11 H locs ls hI
    obtain ⟨g_9, i_10, rfl, ⟨hP, hD⟩, hS, hl, hv_12⟩ := hI
    refine lv_iload_n hx hb dX9_way_25 rfl (lv_at hl 0 rfl) ?_
    refine lv_sipush (v := 256) hx hb dX9_way_26 (by decide) ?_
    refine lv_icmp_ge (tgt := 45) hx hb dX9_way_29 (by decide) (fun c_13 => ?_) (fun c_13 => ?_)
    · have hf_14 : ∀ j, j < 256 → g_9 j = -1 := fun j hj => (hv_12).2.2 j (by clear hml hsz hr hlocks; have : (0 : Int32).toInt = 0 := (by decide); have : (3 : Int32).toInt = 3 := (by decide); have : (256 : Int32).toInt = 256 := (by decide); have := ti_wi1 c_2; have := ti_wi1 c_8; have := ti_le c_13; have k256 : (256 : Int32).toInt = 256 := (by decide); omega)
      refine lv_aload_n hx hb dX9_way_45 rfl (lv_at hl 1 rfl) ?_
      refine va_get (D := D) (ci := 8) (v := .ref a8) (C := RX9) (T := TX9) (N := 17) hx hb hts him_way_X9 hown hK hP 7 rfl rfl 14 (by decide) (hts (.fieldLink RX9 34 "OneHandsetModel" "queue" "[I") (List.mem_of_getElem? (i := 3) rfl)) (fun _ h9 => h9) rfl dX9_way_46 ?_
      refine lv_iconst (v := 0) hx hb dX9_way_49 (by decide) ?_
      refine lv_aload_n hx hb dX9_way_50 rfl (lv_at hl 1 rfl) ?_
      refine va_get (D := D) (ci := 8) (v := .ref a6) (C := RX9) (T := TX9) (N := 17) hx hb hts him_way_X9 hown hK hP 7 rfl rfl 8 (by decide) (hts (.fieldLink RX9 28 "OneHandsetModel" "sets" "[I") (List.mem_of_getElem? (i := 4) rfl)) (fun _ h9 => h9) rfl dX9_way_51 ?_
      refine lv_iload_n hx hb dX9_way_54 rfl (lv_at hl 2 rfl) ?_
      refine va_iald hx hb hK hP 2 0 rfl rfl (vp_in_iff.mpr (by have u0 := hv3_3; clear hml hsz hr hlocks; omega)) dX9_way_55 ?_
      refine va_iast hx hb hK hP hD hS 4 0 rfl rfl (vin (by decide)) dX9_way_56 (fun H locs hP hD hS => ?_)
      have hP : va_P D vwCl [(a4, .inl (cI, 4, .inl g4)), (a5, .inl (cI, 128, .inl g5)), (a6, .inl (cI, 4, .inl g6)), (a7, .inl (cI, 256, .inl g7)), (a8, .inl (cI, 256, .inl (upd g8 0 (g6 (Int32.toNatClampNeg v))))), (a9, .inl (cI, 256, .inl g_9)), (ab, .inl (cI, 256, .inl gb)), (h0, .inr (8, [.ref a0, .int tk, .ref a1, .int mm, .ref a2, .ref a3, .ref a4, .ref a5, .ref a6, .ref a7, .int wm, .int fa, .int 0, .int se, .ref a8, .ref a9, .ref ab])), (a3, .inl (cI, 4, .inl g3))] H := hP
      have hD : va_D A [(a4, .inl (cI, 4, .inl g4)), (a5, .inl (cI, 128, .inl g5)), (a6, .inl (cI, 4, .inl g6)), (a7, .inl (cI, 256, .inl g7)), (a8, .inl (cI, 256, .inl (upd g8 0 (g6 (Int32.toNatClampNeg v))))), (a9, .inl (cI, 256, .inl g_9)), (ab, .inl (cI, 256, .inl gb)), (h0, .inr (8, [.ref a0, .int tk, .ref a1, .int mm, .ref a2, .ref a3, .ref a4, .ref a5, .ref a6, .ref a7, .int wm, .int fa, .int 0, .int se, .ref a8, .ref a9, .ref ab])), (a3, .inl (cI, 4, .inl g3))] := hD
      refine lv_aload_n hx hb dX9_way_57 rfl (lv_at hl 1 rfl) ?_
      refine va_get (D := D) (ci := 8) (v := .ref a9) (C := RX9) (T := TX9) (N := 17) hx hb hts him_way_X9 hown hK hP 7 rfl rfl 15 (by decide) (hts (.fieldLink RX9 37 "OneHandsetModel" "from" "[I") (List.mem_of_getElem? (i := 2) rfl)) (fun _ h9 => h9) rfl dX9_way_58 ?_
      refine lv_aload_n hx hb dX9_way_61 rfl (lv_at hl 1 rfl) ?_
      refine va_get (D := D) (ci := 8) (v := .ref a6) (C := RX9) (T := TX9) (N := 17) hx hb hts him_way_X9 hown hK hP 7 rfl rfl 8 (by decide) (hts (.fieldLink RX9 28 "OneHandsetModel" "sets" "[I") (List.mem_of_getElem? (i := 4) rfl)) (fun _ h9 => h9) rfl dX9_way_62 ?_
      refine lv_iload_n hx hb dX9_way_65 rfl (lv_at hl 2 rfl) ?_
      refine va_iald hx hb hK hP 2 0 rfl rfl (vp_in_iff.mpr (by have u0 := hv3_3; clear hml hsz hr hlocks; omega)) dX9_way_66 ?_
      refine lv_aload_n hx hb dX9_way_67 rfl (lv_at hl 1 rfl) ?_
      refine va_get (D := D) (ci := 8) (v := .ref a6) (C := RX9) (T := TX9) (N := 17) hx hb hts him_way_X9 hown hK hP 7 rfl rfl 8 (by decide) (hts (.fieldLink RX9 28 "OneHandsetModel" "sets" "[I") (List.mem_of_getElem? (i := 4) rfl)) (fun _ h9 => h9) rfl dX9_way_68 ?_
      refine lv_iload_n hx hb dX9_way_71 rfl (lv_at hl 2 rfl) ?_
      refine va_iald hx hb hK hP 2 0 rfl rfl (vp_in_iff.mpr (by have u0 := hv3_3; clear hml hsz hr hlocks; omega)) dX9_way_72 ?_
      refine va_iast hx hb hK hP hD hS 5 0 rfl rfl (vp_in_iff.mpr (by have u7 := hm2_6; clear hml hsz hr hlocks; omega)) dX9_way_73 (fun H locs hP hD hS => ?_)
      have hP : va_P D vwCl [(a4, .inl (cI, 4, .inl g4)), (a5, .inl (cI, 128, .inl g5)), (a6, .inl (cI, 4, .inl g6)), (a7, .inl (cI, 256, .inl g7)), (a8, .inl (cI, 256, .inl (upd g8 0 (g6 (Int32.toNatClampNeg v))))), (a9, .inl (cI, 256, .inl (upd g_9 (Int32.toNatClampNeg (g6 (Int32.toNatClampNeg v))) (g6 (Int32.toNatClampNeg v))))), (ab, .inl (cI, 256, .inl gb)), (h0, .inr (8, [.ref a0, .int tk, .ref a1, .int mm, .ref a2, .ref a3, .ref a4, .ref a5, .ref a6, .ref a7, .int wm, .int fa, .int 0, .int se, .ref a8, .ref a9, .ref ab])), (a3, .inl (cI, 4, .inl g3))] H := hP
      have hD : va_D A [(a4, .inl (cI, 4, .inl g4)), (a5, .inl (cI, 128, .inl g5)), (a6, .inl (cI, 4, .inl g6)), (a7, .inl (cI, 256, .inl g7)), (a8, .inl (cI, 256, .inl (upd g8 0 (g6 (Int32.toNatClampNeg v))))), (a9, .inl (cI, 256, .inl (upd g_9 (Int32.toNatClampNeg (g6 (Int32.toNatClampNeg v))) (g6 (Int32.toNatClampNeg v))))), (ab, .inl (cI, 256, .inl gb)), (h0, .inr (8, [.ref a0, .int tk, .ref a1, .int mm, .ref a2, .ref a3, .ref a4, .ref a5, .ref a6, .ref a7, .int wm, .int fa, .int 0, .int se, .ref a8, .ref a9, .ref ab])), (a3, .inl (cI, 4, .inl g3))] := hD
      have hwi_15 : WI (upd g8 0 (g6 (Int32.toNatClampNeg v))) (upd g_9 (Int32.toNatClampNeg (g6 (Int32.toNatClampNeg v))) (g6 (Int32.toNatClampNeg v))) (fun _ => 0) (g6 (Int32.toNatClampNeg v)) 1 := WI.start hm2_6 hf_14
      refine lv_iconst (v := 1) hx hb dX9_way_74 (by decide) ?_
      refine lv_istore_n (lv' := [(3, .int 1), (0, .ref h0), (1, .int v), (2, .int w)]) hx hb dX9_way_75 rfl hl (by decide) rfl (fun ls hl => ?_)
      refine lv_iconst (v := 0) hx hb dX9_way_76 (by decide) ?_
      refine lv_istore (lv' := [(4, .int 0), (3, .int 1), (0, .ref h0), (1, .int v), (2, .int w)]) hx hb dX9_way_77 hl (by decide) rfl (fun ls hl => ?_)
      refine lp_N (fun n9 H locs ls => ∃ (q_16 : Nat → Int32), ∃ (f_17 : Nat → Int32), ∃ (k_18 : Nat → Int32), ∃ (t_19 : Int32), ∃ (i_20 : Int32), ∃ (d_21 : Nat → Nat), n9 = (256 - i_20.toInt).toNat ∧ (va_P D vwCl [(a4, .inl (cI, 4, .inl g4)), (a5, .inl (cI, 128, .inl g5)), (a6, .inl (cI, 4, .inl g6)), (a7, .inl (cI, 256, .inl g7)), (a8, .inl (cI, 256, .inl q_16)), (a9, .inl (cI, 256, .inl f_17)), (ab, .inl (cI, 256, .inl k_18)), (h0, .inr (8, [.ref a0, .int tk, .ref a1, .int mm, .ref a2, .ref a3, .ref a4, .ref a5, .ref a6, .ref a7, .int wm, .int fa, .int 0, .int se, .ref a8, .ref a9, .ref ab])), (a3, .inl (cI, 4, .inl g3))] H ∧ va_D A [(a4, .inl (cI, 4, .inl g4)), (a5, .inl (cI, 128, .inl g5)), (a6, .inl (cI, 4, .inl g6)), (a7, .inl (cI, 256, .inl g7)), (a8, .inl (cI, 256, .inl q_16)), (a9, .inl (cI, 256, .inl f_17)), (ab, .inl (cI, 256, .inl k_18)), (h0, .inr (8, [.ref a0, .int tk, .ref a1, .int mm, .ref a2, .ref a3, .ref a4, .ref a5, .ref a6, .ref a7, .int wm, .int fa, .int 0, .int se, .ref a8, .ref a9, .ref ab])), (a3, .inl (cI, 4, .inl g3))]) ∧ va_S A s.heap H locs ∧ lv_has ls 8 [(4, .int i_20), (3, .int t_19), (0, .ref h0), (1, .int v), (2, .int w)] ∧ (WI q_16 f_17 d_21 (g6 (Int32.toNatClampNeg v)) t_19 ∧ 0 ≤ i_20.toInt)) ?_ ⟨upd g8 0 (g6 (Int32.toNatClampNeg v)), upd g_9 (Int32.toNatClampNeg (g6 (Int32.toNatClampNeg v))) (g6 (Int32.toNatClampNeg v)), gb, 1, 0, fun _ => 0, rfl, ⟨hP, hD⟩, hS, hl, ⟨hwi_15, by decide⟩⟩
      intro n9 ih_22 H locs ls hI
      obtain ⟨q_16, f_17, k_18, t_19, i_20, d_21, rfl, ⟨hP, hD⟩, hS, hl, hv_23⟩ := hI
      refine lv_iload hx hb dX9_way_79 (lv_at hl 0 rfl) ?_
      refine lv_iload_n hx hb dX9_way_81 rfl (lv_at hl 1 rfl) ?_
      refine lv_icmp_ge (tgt := 191) hx hb dX9_way_82 (by decide) (fun c_24 => ?_) (fun c_24 => ?_)
      · refine lv_bipush (v := (-2)) hx hb dX9_way_191 (by decide) ?_
        exact ret_i hx hb hr hlocks rfl (u := (wm, 0, g7, q_16, f_17, k_18)) hwm (hP.sub [7, 8, 0, 1, 2, 3, 4, 5, 6] rfl) (hK.sub [] rfl) (hD.sub [7, 8, 0, 1, 2, 3, 4, 5, 6] (by decide) rfl) hS (Nat.le_of_ble_eq_true rfl) (Nat.le_of_ble_eq_true rfl) dX9_way_193
      refine lv_aload_n hx hb dX9_way_85 rfl (lv_at hl 2 rfl) ?_
      refine va_get (D := D) (ci := 8) (v := .ref a8) (C := RX9) (T := TX9) (N := 17) hx hb hts him_way_X9 hown hK hP 7 rfl rfl 14 (by decide) (hts (.fieldLink RX9 34 "OneHandsetModel" "queue" "[I") (List.mem_of_getElem? (i := 3) rfl)) (fun _ h9 => h9) rfl dX9_way_86 ?_
      refine lv_iload hx hb dX9_way_89 (lv_at hl 0 rfl) ?_
      refine va_iald hx hb hK hP 4 0 rfl rfl (by clear hml hsz hr hlocks; have : (0 : Int32).toInt = 0 := (by decide); have : (3 : Int32).toInt = 3 := (by decide); have : (256 : Int32).toInt = 256 := (by decide); have := ti_wi1 c_2; have := ti_wi1 c_8; have := ti_le c_13; have := ti_nle c_24; have u7 := (hv_23).1.le; exact vp_in_iff.mpr (by omega)) dX9_way_91 ?_
      refine lv_istore (lv' := [(5, .int (q_16 (Int32.toNatClampNeg i_20))), (4, .int i_20), (3, .int t_19), (0, .ref h0), (1, .int v), (2, .int w)]) hx hb dX9_way_92 hl (by decide) rfl (fun ls hl => ?_)
      have hset_25 : IS f_17 (q_16 (Int32.toNatClampNeg i_20)) ∧ (d_21 (Int32.toNatClampNeg (q_16 (Int32.toNatClampNeg i_20))) : Int) ≤ i_20.toInt := WI.at (hv_23).1 (hv_23).2 (by clear hml hsz hr hlocks; have : (0 : Int32).toInt = 0 := (by decide); have : (3 : Int32).toInt = 3 := (by decide); have : (256 : Int32).toInt = 256 := (by decide); have := ti_wi1 c_2; have := ti_wi1 c_8; have := ti_le c_13; have := ti_nle c_24; omega)
      refine lv_iload hx hb dX9_way_94 (lv_at hl 0 rfl) ?_
      refine lv_iload_n hx hb dX9_way_96 rfl (lv_at hl 5 rfl) ?_
      refine lv_iconst (v := (-1)) hx hb dX9_way_97 (by decide) ?_
      refine lv_ixor hx hb dX9_way_98 ?_
      refine lv_iand hx hb dX9_way_99 ?_
      refine lv_if_ne (tgt := 111) hx hb dX9_way_100 (by decide) (fun c_26 => ?_) (fun c_26 => ?_)
      · refine lv_iconst (v := 0) hx hb dX9_way_111 (by decide) ?_
        refine lv_istore (lv' := [(6, .int 0), (5, .int (q_16 (Int32.toNatClampNeg i_20))), (4, .int i_20), (3, .int t_19), (0, .ref h0), (1, .int v), (2, .int w)]) hx hb dX9_way_112 hl (by decide) rfl (fun ls hl => ?_)
        refine lp_N (fun n9 H locs ls => ∃ (q_27 : Nat → Int32), ∃ (f_28 : Nat → Int32), ∃ (k_29 : Nat → Int32), ∃ (t_30 : Int32), ∃ (j_31 : Int32), ∃ (d_32 : Nat → Nat), n9 = ((g4 (Int32.toNatClampNeg v)).toInt - j_31.toInt).toNat ∧ (va_P D vwCl [(a4, .inl (cI, 4, .inl g4)), (a5, .inl (cI, 128, .inl g5)), (a6, .inl (cI, 4, .inl g6)), (a7, .inl (cI, 256, .inl g7)), (a8, .inl (cI, 256, .inl q_27)), (a9, .inl (cI, 256, .inl f_28)), (ab, .inl (cI, 256, .inl k_29)), (h0, .inr (8, [.ref a0, .int tk, .ref a1, .int mm, .ref a2, .ref a3, .ref a4, .ref a5, .ref a6, .ref a7, .int wm, .int fa, .int 0, .int se, .ref a8, .ref a9, .ref ab])), (a3, .inl (cI, 4, .inl g3))] H ∧ va_D A [(a4, .inl (cI, 4, .inl g4)), (a5, .inl (cI, 128, .inl g5)), (a6, .inl (cI, 4, .inl g6)), (a7, .inl (cI, 256, .inl g7)), (a8, .inl (cI, 256, .inl q_27)), (a9, .inl (cI, 256, .inl f_28)), (ab, .inl (cI, 256, .inl k_29)), (h0, .inr (8, [.ref a0, .int tk, .ref a1, .int mm, .ref a2, .ref a3, .ref a4, .ref a5, .ref a6, .ref a7, .int wm, .int fa, .int 0, .int se, .ref a8, .ref a9, .ref ab])), (a3, .inl (cI, 4, .inl g3))]) ∧ va_S A s.heap H locs ∧ lv_has ls 8 [(6, .int j_31), (5, .int (q_16 (Int32.toNatClampNeg i_20))), (4, .int i_20), (3, .int t_30), (0, .ref h0), (1, .int v), (2, .int w)] ∧ (WJ q_27 f_28 d_32 (g6 (Int32.toNatClampNeg v)) t_30 (q_16 (Int32.toNatClampNeg i_20)) i_20 ∧ 0 ≤ j_31.toInt)) ?_ ⟨q_16, f_17, k_18, t_19, 0, d_21, rfl, ⟨hP, hD⟩, hS, hl, ⟨⟨(hv_23).1, (hset_25).1, (hset_25).2, (by clear hml hsz hr hlocks; have : (0 : Int32).toInt = 0 := (by decide); have : (3 : Int32).toInt = 3 := (by decide); have : (256 : Int32).toInt = 256 := (by decide); have := ti_wi1 c_2; have := ti_wi1 c_8; have := ti_le c_13; have := ti_nle c_24; have := ti_ne c_26; omega)⟩, by decide⟩⟩
        intro n9 ih_33 H locs ls hI
        obtain ⟨q_27, f_28, k_29, t_30, j_31, d_32, rfl, ⟨hP, hD⟩, hS, hl, hv_34⟩ := hI
        refine lv_iload hx hb dX9_way_114 (lv_at hl 0 rfl) ?_
        refine lv_aload_n hx hb dX9_way_116 rfl (lv_at hl 4 rfl) ?_
        refine va_get (D := D) (ci := 8) (v := .ref a4) (C := RX9) (T := TX9) (N := 17) hx hb hts him_way_X9 hown hK hP 7 rfl rfl 6 (by decide) (hts (.fieldLink RX9 22 "OneHandsetModel" "buttons" "[I") (List.mem_of_getElem? (i := 5) rfl)) (fun _ h9 => h9) rfl dX9_way_117 ?_
        refine lv_iload_n hx hb dX9_way_120 rfl (lv_at hl 5 rfl) ?_
        refine va_iald hx hb hK hP 0 0 rfl rfl (vp_in_iff.mpr (by have u0 := hv3_3; clear hml hsz hr hlocks; omega)) dX9_way_121 ?_
        refine lv_icmp_ge (tgt := 185) hx hb dX9_way_122 (by decide) (fun c_35 => ?_) (fun c_35 => ?_)
        · refine lv_iinc (v := i_20 + 1) (lv' := [(4, .int (i_20 + 1)), (6, .int j_31), (5, .int (q_16 (Int32.toNatClampNeg i_20))), (3, .int t_30), (0, .ref h0), (1, .int v), (2, .int w)]) hx hb dX9_way_185 hl (k := 2) rfl (ii_p1 _) (by decide) rfl (fun ls hl => ?_)
          refine lv_goto (tgt := 79) hx hb dX9_way_188 (by decide) ?_
          exact ih_22 _ _ _ _ (by clear hml hsz hr hlocks; have : (0 : Int32).toInt = 0 := (by decide); have : (3 : Int32).toInt = 3 := (by decide); have : (256 : Int32).toInt = 256 := (by decide); have := ti_wi1 c_2; have := ti_wi1 c_8; have := ti_le c_13; have := ti_nle c_24; have := ti_ne c_26; have := ti_le c_35; have kn : (256 : Int32).toInt = 256 := (by decide); have u7 := (hv_34).1.1.le; have u8 := (hv_34).1.2.2.2; have u1 := ti_up (i := i_20) (n := 256) (by omega); omega) ⟨q_27, f_28, k_29, t_30, i_20 + 1, d_32, rfl, ⟨hP, hD⟩, hS, lv_sub hl [0, 3, 4, 5, 6] rfl, ⟨(hv_34).1.1, (by clear hml hsz hr hlocks; have : (0 : Int32).toInt = 0 := (by decide); have : (3 : Int32).toInt = 3 := (by decide); have : (256 : Int32).toInt = 256 := (by decide); have := ti_wi1 c_2; have := ti_wi1 c_8; have := ti_le c_13; have := ti_nle c_24; have := ti_ne c_26; have := ti_le c_35; have kn : (256 : Int32).toInt = 256 := (by decide); have u7 := (hv_34).1.1.le; have u8 := (hv_34).1.2.2.2; have u1 := ti_up (i := i_20) (n := 256) (by omega); omega)⟩⟩
        refine lv_aload_n hx hb dX9_way_125 rfl (lv_at hl 4 rfl) ?_
        refine lv_iload_n hx hb dX9_way_126 rfl (lv_at hl 5 rfl) ?_
        refine lv_iload hx hb dX9_way_127 (lv_at hl 1 rfl) ?_
        refine lv_iload hx hb dX9_way_129 (lv_at hl 0 rfl) ?_
        refine go_i (wr := [(a4, .inl (cI, 4, .inl g4)), (a6, .inl (cI, 4, .inl g6)), (a7, .inl (cI, 256, .inl g7)), (a8, .inl (cI, 256, .inl q_27)), (a9, .inl (cI, 256, .inl f_28)), (ab, .inl (cI, 256, .inl k_29))]) (tysr := [(cI, .int)]) hP hD hS hA hK [7, 8, 1] [0, 2, 3, 4, 5, 6] [0] rfl rfl (by decide) (by decide) rfl (va_runV (As := [.int v, .int (q_16 (Int32.toNatClampNeg i_20)), .int j_31]) (rest := []) ⟨hx, hb, hml, hown, hts⟩ (m_behind l D H.size cI h0 a0 a1 a2 a3 a4 a5 a6 a7 a8 a9 ab tk mm wm fa 0 se g3 g5 v (q_16 (Int32.toNatClampNeg i_20)) j_31 hv3_3 (by clear hml hsz hr hlocks; have : (0 : Int32).toInt = 0 := (by decide); have : (3 : Int32).toInt = 3 := (by decide); have : (256 : Int32).toInt = 256 := (by decide); have := ti_wi1 c_2; have := ti_wi1 c_8; have := ti_le c_13; have := ti_nle c_24; have := ti_ne c_26; have := ti_nle c_35; have u7 := hb4_5; omega) hg3 hg5) (cwV 3 hts gX9_way_X9_behind rfl rfl rfl (by decide +kernel) ⟨Nat.le_of_ble_eq_true rfl, Nat.le_of_ble_eq_true rfl⟩) (st_preV (ci := 8) (q0 := 7) hP hD hK hNW [7, 8, 1] [0] rfl rfl (by decide) rfl rfl rfl rfl) rfl rfl hl.1 rfl (lv_room (Nat.le_of_ble_eq_true rfl)) dX9_way_131 ⟨(Nat.le_of_ble_eq_true rfl), (Nat.le_of_ble_eq_true rfl)⟩) (fun r_36 u H locs hw hP hD hK hS => ?_)
        have hw : bi r_36 0 255 := hw
        have hw_37 := hw
        have hP : va_P D vwCl [(a4, .inl (cI, 4, .inl g4)), (a6, .inl (cI, 4, .inl g6)), (a7, .inl (cI, 256, .inl g7)), (a8, .inl (cI, 256, .inl q_27)), (a9, .inl (cI, 256, .inl f_28)), (ab, .inl (cI, 256, .inl k_29)), (h0, .inr (8, [.ref a0, .int tk, .ref a1, .int mm, .ref a2, .ref a3, .ref a4, .ref a5, .ref a6, .ref a7, .int wm, .int fa, .int 0, .int se, .ref a8, .ref a9, .ref ab])), (a3, .inl (cI, 4, .inl g3)), (a5, .inl (cI, 128, .inl g5))] H := hP
        have hD : va_D A [(a4, .inl (cI, 4, .inl g4)), (a6, .inl (cI, 4, .inl g6)), (a7, .inl (cI, 256, .inl g7)), (a8, .inl (cI, 256, .inl q_27)), (a9, .inl (cI, 256, .inl f_28)), (ab, .inl (cI, 256, .inl k_29)), (h0, .inr (8, [.ref a0, .int tk, .ref a1, .int mm, .ref a2, .ref a3, .ref a4, .ref a5, .ref a6, .ref a7, .int wm, .int fa, .int 0, .int se, .ref a8, .ref a9, .ref ab])), (a3, .inl (cI, 4, .inl g3)), (a5, .inl (cI, 128, .inl g5))] := hD
        have hK : va_K D vwCl [(cI, .int)] s := hK
        refine lv_istore (lv' := [(7, .int r_36), (6, .int j_31), (5, .int (q_16 (Int32.toNatClampNeg i_20))), (4, .int i_20), (3, .int t_30), (0, .ref h0), (1, .int v), (2, .int w)]) hx hb dX9_way_134 hl (by decide) rfl (fun ls hl => ?_)
        refine jn_S 179 (fun st9 H locs ls => ∃ (q_38 : Nat → Int32), ∃ (f_39 : Nat → Int32), ∃ (k_40 : Nat → Int32), ∃ (t_41 : Int32), ∃ (d_42 : Nat → Nat), st9 = [] ∧ (va_P D vwCl [(a4, .inl (cI, 4, .inl g4)), (a6, .inl (cI, 4, .inl g6)), (a7, .inl (cI, 256, .inl g7)), (a8, .inl (cI, 256, .inl q_38)), (a9, .inl (cI, 256, .inl f_39)), (ab, .inl (cI, 256, .inl k_40)), (h0, .inr (8, [.ref a0, .int tk, .ref a1, .int mm, .ref a2, .ref a3, .ref a4, .ref a5, .ref a6, .ref a7, .int wm, .int fa, .int 0, .int se, .ref a8, .ref a9, .ref ab])), (a3, .inl (cI, 4, .inl g3)), (a5, .inl (cI, 128, .inl g5))] H ∧ va_D A [(a4, .inl (cI, 4, .inl g4)), (a6, .inl (cI, 4, .inl g6)), (a7, .inl (cI, 256, .inl g7)), (a8, .inl (cI, 256, .inl q_38)), (a9, .inl (cI, 256, .inl f_39)), (ab, .inl (cI, 256, .inl k_40)), (h0, .inr (8, [.ref a0, .int tk, .ref a1, .int mm, .ref a2, .ref a3, .ref a4, .ref a5, .ref a6, .ref a7, .int wm, .int fa, .int 0, .int se, .ref a8, .ref a9, .ref ab])), (a3, .inl (cI, 4, .inl g3)), (a5, .inl (cI, 128, .inl g5))]) ∧ va_S A s.heap H locs ∧ lv_has ls 8 [(7, .int r_36), (6, .int j_31), (5, .int (q_16 (Int32.toNatClampNeg i_20))), (4, .int i_20), (3, .int t_41), (0, .ref h0), (1, .int v), (2, .int w)] ∧ (WJ q_38 f_39 d_42 (g6 (Int32.toNatClampNeg v)) t_41 (q_16 (Int32.toNatClampNeg i_20)) i_20)) ?_ ?_
        · intro st9 H locs ls hI
          obtain ⟨q_38, f_39, k_40, t_41, d_42, rfl, ⟨hP, hD⟩, hS, hl, hv_43⟩ := hI
          refine lv_iinc (v := j_31 + 1) (lv' := [(6, .int (j_31 + 1)), (7, .int r_36), (5, .int (q_16 (Int32.toNatClampNeg i_20))), (4, .int i_20), (3, .int t_41), (0, .ref h0), (1, .int v), (2, .int w)]) hx hb dX9_way_179 hl (k := 1) rfl (ii_p1 _) (by decide) rfl (fun ls hl => ?_)
          refine lv_goto (tgt := 114) hx hb dX9_way_182 (by decide) ?_
          exact ih_33 _ _ _ _ (by clear hml hsz hr hlocks; have : (0 : Int32).toInt = 0 := (by decide); have : (3 : Int32).toInt = 3 := (by decide); have : (256 : Int32).toInt = 256 := (by decide); have := ti_wi1 c_2; have := ti_wi1 c_8; have := ti_le c_13; have := ti_nle c_24; have := ti_ne c_26; have := ti_nle c_35; have u1 := ti_up (i := j_31) (n := (g4 (Int32.toNatClampNeg v))) (by omega); omega) ⟨q_38, f_39, k_40, t_41, j_31 + 1, d_42, rfl, ⟨hP.sub [0, 8, 1, 2, 3, 4, 5, 6, 7] rfl, hD.sub [0, 8, 1, 2, 3, 4, 5, 6, 7] (by decide) rfl⟩, hS, lv_sub hl [0, 2, 3, 4, 5, 6, 7] rfl, ⟨hv_43, (by clear hml hsz hr hlocks; have : (0 : Int32).toInt = 0 := (by decide); have : (3 : Int32).toInt = 3 := (by decide); have : (256 : Int32).toInt = 256 := (by decide); have := ti_wi1 c_2; have := ti_wi1 c_8; have := ti_le c_13; have := ti_nle c_24; have := ti_ne c_26; have := ti_nle c_35; have u1 := ti_up (i := j_31) (n := (g4 (Int32.toNatClampNeg v))) (by omega); omega)⟩⟩
        · intro hJ_44
          refine lv_aload_n hx hb dX9_way_136 rfl (lv_at hl 5 rfl) ?_
          refine va_get (D := D) (ci := 8) (v := .ref a9) (C := RX9) (T := TX9) (N := 17) hx hb hts him_way_X9 hown hK hP 6 rfl rfl 15 (by decide) (hts (.fieldLink RX9 37 "OneHandsetModel" "from" "[I") (List.mem_of_getElem? (i := 2) rfl)) (fun _ h9 => h9) rfl dX9_way_137 ?_
          refine lv_iload hx hb dX9_way_140 (lv_at hl 0 rfl) ?_
          refine va_iald hx hb hK hP 4 0 rfl rfl (vp_in_iff.mpr (by have u7 := hw_37; clear hml hsz hr hlocks; omega)) dX9_way_142 ?_
          refine lv_iconst (v := (-1)) hx hb dX9_way_143 (by decide) ?_
          refine lv_icmp_eq (tgt := 150) hx hb dX9_way_144 (by decide) (fun c_45 => ?_) (fun c_45 => ?_)
          · refine lv_aload_n hx hb dX9_way_150 rfl (lv_at hl 5 rfl) ?_
            refine va_get (D := D) (ci := 8) (v := .ref a9) (C := RX9) (T := TX9) (N := 17) hx hb hts him_way_X9 hown hK hP 6 rfl rfl 15 (by decide) (hts (.fieldLink RX9 37 "OneHandsetModel" "from" "[I") (List.mem_of_getElem? (i := 2) rfl)) (fun _ h9 => h9) rfl dX9_way_151 ?_
            refine lv_iload hx hb dX9_way_154 (lv_at hl 0 rfl) ?_
            refine lv_iload hx hb dX9_way_156 (lv_at hl 2 rfl) ?_
            refine va_iast hx hb hK hP hD hS 4 0 rfl rfl (vp_in_iff.mpr (by have u7 := hw_37; clear hml hsz hr hlocks; omega)) dX9_way_158 (fun H locs hP hD hS => ?_)
            have hP : va_P D vwCl [(a4, .inl (cI, 4, .inl g4)), (a6, .inl (cI, 4, .inl g6)), (a7, .inl (cI, 256, .inl g7)), (a8, .inl (cI, 256, .inl q_27)), (a9, .inl (cI, 256, .inl (upd f_28 (Int32.toNatClampNeg r_36) (q_16 (Int32.toNatClampNeg i_20))))), (ab, .inl (cI, 256, .inl k_29)), (h0, .inr (8, [.ref a0, .int tk, .ref a1, .int mm, .ref a2, .ref a3, .ref a4, .ref a5, .ref a6, .ref a7, .int wm, .int fa, .int 0, .int se, .ref a8, .ref a9, .ref ab])), (a3, .inl (cI, 4, .inl g3)), (a5, .inl (cI, 128, .inl g5))] H := hP
            have hD : va_D A [(a4, .inl (cI, 4, .inl g4)), (a6, .inl (cI, 4, .inl g6)), (a7, .inl (cI, 256, .inl g7)), (a8, .inl (cI, 256, .inl q_27)), (a9, .inl (cI, 256, .inl (upd f_28 (Int32.toNatClampNeg r_36) (q_16 (Int32.toNatClampNeg i_20))))), (ab, .inl (cI, 256, .inl k_29)), (h0, .inr (8, [.ref a0, .int tk, .ref a1, .int mm, .ref a2, .ref a3, .ref a4, .ref a5, .ref a6, .ref a7, .int wm, .int fa, .int 0, .int se, .ref a8, .ref a9, .ref ab])), (a3, .inl (cI, 4, .inl g3)), (a5, .inl (cI, 128, .inl g5))] := hD
            refine lv_aload_n hx hb dX9_way_159 rfl (lv_at hl 5 rfl) ?_
            refine va_get (D := D) (ci := 8) (v := .ref ab) (C := RX9) (T := TX9) (N := 17) hx hb hts him_way_X9 hown hK hP 6 rfl rfl 16 (by decide) (hts (.fieldLink RX9 40 "OneHandsetModel" "by" "[I") (List.mem_of_getElem? (i := 6) rfl)) (fun _ h9 => h9) rfl dX9_way_160 ?_
            refine lv_iload hx hb dX9_way_163 (lv_at hl 0 rfl) ?_
            refine lv_iload hx hb dX9_way_165 (lv_at hl 1 rfl) ?_
            refine va_iast hx hb hK hP hD hS 5 0 rfl rfl (vp_in_iff.mpr (by have u7 := hw_37; clear hml hsz hr hlocks; omega)) dX9_way_167 (fun H locs hP hD hS => ?_)
            have hP : va_P D vwCl [(a4, .inl (cI, 4, .inl g4)), (a6, .inl (cI, 4, .inl g6)), (a7, .inl (cI, 256, .inl g7)), (a8, .inl (cI, 256, .inl q_27)), (a9, .inl (cI, 256, .inl (upd f_28 (Int32.toNatClampNeg r_36) (q_16 (Int32.toNatClampNeg i_20))))), (ab, .inl (cI, 256, .inl (upd k_29 (Int32.toNatClampNeg r_36) j_31))), (h0, .inr (8, [.ref a0, .int tk, .ref a1, .int mm, .ref a2, .ref a3, .ref a4, .ref a5, .ref a6, .ref a7, .int wm, .int fa, .int 0, .int se, .ref a8, .ref a9, .ref ab])), (a3, .inl (cI, 4, .inl g3)), (a5, .inl (cI, 128, .inl g5))] H := hP
            have hD : va_D A [(a4, .inl (cI, 4, .inl g4)), (a6, .inl (cI, 4, .inl g6)), (a7, .inl (cI, 256, .inl g7)), (a8, .inl (cI, 256, .inl q_27)), (a9, .inl (cI, 256, .inl (upd f_28 (Int32.toNatClampNeg r_36) (q_16 (Int32.toNatClampNeg i_20))))), (ab, .inl (cI, 256, .inl (upd k_29 (Int32.toNatClampNeg r_36) j_31))), (h0, .inr (8, [.ref a0, .int tk, .ref a1, .int mm, .ref a2, .ref a3, .ref a4, .ref a5, .ref a6, .ref a7, .int wm, .int fa, .int 0, .int se, .ref a8, .ref a9, .ref ab])), (a3, .inl (cI, 4, .inl g3)), (a5, .inl (cI, 128, .inl g5))] := hD
            refine lv_aload_n hx hb dX9_way_168 rfl (lv_at hl 5 rfl) ?_
            refine va_get (D := D) (ci := 8) (v := .ref a8) (C := RX9) (T := TX9) (N := 17) hx hb hts him_way_X9 hown hK hP 6 rfl rfl 14 (by decide) (hts (.fieldLink RX9 34 "OneHandsetModel" "queue" "[I") (List.mem_of_getElem? (i := 3) rfl)) (fun _ h9 => h9) rfl dX9_way_169 ?_
            refine lv_iload_n hx hb dX9_way_172 rfl (lv_at hl 4 rfl) ?_
            refine lv_iload hx hb dX9_way_173 (lv_at hl 0 rfl) ?_
            refine va_iast hx hb hK hP hD hS 3 0 rfl rfl (vp_in_iff.mpr (by have u7 := WI.lt (hv_34).1.1 hw_37 c_45; clear hml hsz hr hlocks; omega)) dX9_way_175 (fun H locs hP hD hS => ?_)
            have hP : va_P D vwCl [(a4, .inl (cI, 4, .inl g4)), (a6, .inl (cI, 4, .inl g6)), (a7, .inl (cI, 256, .inl g7)), (a8, .inl (cI, 256, .inl (upd q_27 (Int32.toNatClampNeg t_30) r_36))), (a9, .inl (cI, 256, .inl (upd f_28 (Int32.toNatClampNeg r_36) (q_16 (Int32.toNatClampNeg i_20))))), (ab, .inl (cI, 256, .inl (upd k_29 (Int32.toNatClampNeg r_36) j_31))), (h0, .inr (8, [.ref a0, .int tk, .ref a1, .int mm, .ref a2, .ref a3, .ref a4, .ref a5, .ref a6, .ref a7, .int wm, .int fa, .int 0, .int se, .ref a8, .ref a9, .ref ab])), (a3, .inl (cI, 4, .inl g3)), (a5, .inl (cI, 128, .inl g5))] H := hP
            have hD : va_D A [(a4, .inl (cI, 4, .inl g4)), (a6, .inl (cI, 4, .inl g6)), (a7, .inl (cI, 256, .inl g7)), (a8, .inl (cI, 256, .inl (upd q_27 (Int32.toNatClampNeg t_30) r_36))), (a9, .inl (cI, 256, .inl (upd f_28 (Int32.toNatClampNeg r_36) (q_16 (Int32.toNatClampNeg i_20))))), (ab, .inl (cI, 256, .inl (upd k_29 (Int32.toNatClampNeg r_36) j_31))), (h0, .inr (8, [.ref a0, .int tk, .ref a1, .int mm, .ref a2, .ref a3, .ref a4, .ref a5, .ref a6, .ref a7, .int wm, .int fa, .int 0, .int se, .ref a8, .ref a9, .ref ab])), (a3, .inl (cI, 4, .inl g3)), (a5, .inl (cI, 128, .inl g5))] := hD
            refine lv_iinc (v := t_30 + 1) (lv' := [(3, .int (t_30 + 1)), (7, .int r_36), (6, .int j_31), (5, .int (q_16 (Int32.toNatClampNeg i_20))), (4, .int i_20), (0, .ref h0), (1, .int v), (2, .int w)]) hx hb dX9_way_176 hl (k := 4) rfl (ii_p1 _) (by decide) rfl (fun ls hl => ?_)
            exact hJ_44 _ _ _ _ ⟨upd q_27 (Int32.toNatClampNeg t_30) r_36, upd f_28 (Int32.toNatClampNeg r_36) (q_16 (Int32.toNatClampNeg i_20)), upd k_29 (Int32.toNatClampNeg r_36) j_31, t_30 + 1, upn d_32 (Int32.toNatClampNeg r_36) (d_32 (Int32.toNatClampNeg (q_16 (Int32.toNatClampNeg i_20))) + 1), rfl, ⟨hP, hD⟩, hS, lv_sub hl [1, 2, 3, 4, 0, 5, 6, 7] rfl, (WJ.push (hv_34).1 hw_37 c_45)⟩
          refine lv_goto (tgt := 179) hx hb dX9_way_147 (by decide) ?_
          exact hJ_44 _ _ _ _ ⟨q_27, f_28, k_29, t_30, d_32, rfl, ⟨hP, hD⟩, hS, lv_sub hl [0, 1, 2, 3, 4, 5, 6, 7] rfl, (hv_34).1⟩
      refine lv_aload_n hx hb dX9_way_103 rfl (lv_at hl 3 rfl) ?_
      refine lv_iload_n hx hb dX9_way_104 rfl (lv_at hl 4 rfl) ?_
      refine lv_iload hx hb dX9_way_105 (lv_at hl 0 rfl) ?_
      refine go_i (wr := [(a4, .inl (cI, 4, .inl g4)), (a5, .inl (cI, 128, .inl g5)), (a8, .inl (cI, 256, .inl q_16)), (a3, .inl (cI, 4, .inl g3))]) (tysr := [(cI, .int)]) hP hD hS hA hK [7, 2, 3, 5, 6] [0, 1, 4, 8] [0] rfl rfl (by decide) (by decide) rfl (va_runV (As := [.int v, .int (q_16 (Int32.toNatClampNeg i_20))]) (rest := []) ⟨hx, hb, hml, hown, hts⟩ (m_tell l D H.size cI h0 a0 a1 a2 a3 a4 a5 a6 a7 a8 a9 ab tk mm wm fa 0 se g6 g7 f_17 k_18 d_21 v (q_16 (Int32.toNatClampNeg i_20)) hv3_3 (hv_23).1.1 (hset_25).1 (by clear hml hsz hr hlocks; have : (0 : Int32).toInt = 0 := (by decide); have : (3 : Int32).toInt = 3 := (by decide); have : (256 : Int32).toInt = 256 := (by decide); have := ti_wi1 c_2; have := ti_wi1 c_8; have := ti_le c_13; have := ti_nle c_24; have := ti_eq c_26; have u7 := (hv_23).1.le; have u8 := (hset_25).2; omega)) (cwV 2 hts gX9_way_X9_tell rfl rfl rfl (by decide +kernel) ⟨Nat.le_of_ble_eq_true rfl, Nat.le_of_ble_eq_true rfl⟩) (st_preV (ci := 8) (q0 := 7) hP hD hK hNW [7, 2, 3, 5, 6] [0] rfl rfl (by decide) rfl rfl rfl rfl) rfl rfl hl.1 rfl (lv_room (Nat.le_of_ble_eq_true rfl)) dX9_way_107 ⟨(Nat.le_of_ble_eq_true rfl), (Nat.le_of_ble_eq_true rfl)⟩) (fun r_46 u H locs hw hP hD hK hS => ?_)
      obtain ⟨wm_47, g_48⟩ := u
      have hw : bi wm_47 0 256 := hw
      have hw_49 := hw
      have hP : va_P D vwCl [(a4, .inl (cI, 4, .inl g4)), (a5, .inl (cI, 128, .inl g5)), (a8, .inl (cI, 256, .inl q_16)), (a3, .inl (cI, 4, .inl g3)), (h0, .inr (8, [.ref a0, .int tk, .ref a1, .int mm, .ref a2, .ref a3, .ref a4, .ref a5, .ref a6, .ref a7, .int wm_47, .int fa, .int 0, .int se, .ref a8, .ref a9, .ref ab])), (a6, .inl (cI, 4, .inl g6)), (a7, .inl (cI, 256, .inl g_48)), (a9, .inl (cI, 256, .inl f_17)), (ab, .inl (cI, 256, .inl k_18))] H := hP
      have hD : va_D A [(a4, .inl (cI, 4, .inl g4)), (a5, .inl (cI, 128, .inl g5)), (a8, .inl (cI, 256, .inl q_16)), (a3, .inl (cI, 4, .inl g3)), (h0, .inr (8, [.ref a0, .int tk, .ref a1, .int mm, .ref a2, .ref a3, .ref a4, .ref a5, .ref a6, .ref a7, .int wm_47, .int fa, .int 0, .int se, .ref a8, .ref a9, .ref ab])), (a6, .inl (cI, 4, .inl g6)), (a7, .inl (cI, 256, .inl g_48)), (a9, .inl (cI, 256, .inl f_17)), (ab, .inl (cI, 256, .inl k_18))] := hD
      have hK : va_K D vwCl [(cI, .int)] s := hK
      exact ret_i hx hb hr hlocks rfl (u := (wm_47, 0, g_48, q_16, f_17, k_18)) hw_49 (hP.sub [4, 3, 0, 1, 5, 6, 2, 7, 8] rfl) (hK.sub [] rfl) (hD.sub [4, 3, 0, 1, 5, 6, 2, 7, 8] (by decide) rfl) hS (Nat.le_of_ble_eq_true rfl) (Nat.le_of_ble_eq_true rfl) dX9_way_110
    refine lv_aload_n hx hb dX9_way_32 rfl (lv_at hl 1 rfl) ?_
    refine va_get (D := D) (ci := 8) (v := .ref a9) (C := RX9) (T := TX9) (N := 17) hx hb hts him_way_X9 hown hK hP 7 rfl rfl 15 (by decide) (hts (.fieldLink RX9 37 "OneHandsetModel" "from" "[I") (List.mem_of_getElem? (i := 2) rfl)) (fun _ h9 => h9) rfl dX9_way_33 ?_
    refine lv_iload_n hx hb dX9_way_36 rfl (lv_at hl 0 rfl) ?_
    refine lv_iconst (v := (-1)) hx hb dX9_way_37 (by decide) ?_
    refine va_iast hx hb hK hP hD hS 5 0 rfl rfl (by clear hml hsz hr hlocks; have : (0 : Int32).toInt = 0 := (by decide); have : (3 : Int32).toInt = 3 := (by decide); have : (256 : Int32).toInt = 256 := (by decide); have := ti_wi1 c_2; have := ti_wi1 c_8; have := ti_nle c_13; have k256 : (256 : Int32).toInt = 256 := (by decide); exact vp_in_iff.mpr (by omega)) dX9_way_38 (fun H locs hP hD hS => ?_)
    have hP : va_P D vwCl [(a4, .inl (cI, 4, .inl g4)), (a5, .inl (cI, 128, .inl g5)), (a6, .inl (cI, 4, .inl g6)), (a7, .inl (cI, 256, .inl g7)), (a8, .inl (cI, 256, .inl g8)), (a9, .inl (cI, 256, .inl (upd g_9 (Int32.toNatClampNeg i_10) (-1)))), (ab, .inl (cI, 256, .inl gb)), (h0, .inr (8, [.ref a0, .int tk, .ref a1, .int mm, .ref a2, .ref a3, .ref a4, .ref a5, .ref a6, .ref a7, .int wm, .int fa, .int 0, .int se, .ref a8, .ref a9, .ref ab])), (a3, .inl (cI, 4, .inl g3))] H := hP
    have hD : va_D A [(a4, .inl (cI, 4, .inl g4)), (a5, .inl (cI, 128, .inl g5)), (a6, .inl (cI, 4, .inl g6)), (a7, .inl (cI, 256, .inl g7)), (a8, .inl (cI, 256, .inl g8)), (a9, .inl (cI, 256, .inl (upd g_9 (Int32.toNatClampNeg i_10) (-1)))), (ab, .inl (cI, 256, .inl gb)), (h0, .inr (8, [.ref a0, .int tk, .ref a1, .int mm, .ref a2, .ref a3, .ref a4, .ref a5, .ref a6, .ref a7, .int wm, .int fa, .int 0, .int se, .ref a8, .ref a9, .ref ab])), (a3, .inl (cI, 4, .inl g3))] := hD
    refine lv_iinc (v := i_10 + 1) (lv' := [(3, .int (i_10 + 1)), (0, .ref h0), (1, .int v), (2, .int w)]) hx hb dX9_way_39 hl (k := 0) rfl (ii_p1 _) (by decide) rfl (fun ls hl => ?_)
    refine lv_goto (tgt := 25) hx hb dX9_way_42 (by decide) ?_
    exact ih_11 _ _ _ _ (by clear hml hsz hr hlocks; have : (0 : Int32).toInt = 0 := (by decide); have : (3 : Int32).toInt = 3 := (by decide); have : (256 : Int32).toInt = 256 := (by decide); have := ti_wi1 c_2; have := ti_wi1 c_8; have := ti_nle c_13; have kn : (256 : Int32).toInt = 256 := (by decide); have u1 := ti_up (i := i_10) (n := 256) (by omega); omega) ⟨upd g_9 (Int32.toNatClampNeg i_10) (-1), i_10 + 1, rfl, ⟨hP, hD⟩, hS, lv_sub hl [0, 1, 2, 3] rfl, ⟨(by clear hml hsz hr hlocks; have : (0 : Int32).toInt = 0 := (by decide); have : (3 : Int32).toInt = 3 := (by decide); have : (256 : Int32).toInt = 256 := (by decide); have := ti_wi1 c_2; have := ti_wi1 c_8; have := ti_nle c_13; have kn : (256 : Int32).toInt = 256 := (by decide); have u1 := ti_up (i := i_10) (n := 256) (by omega); omega), (by clear hml hsz hr hlocks; have : (0 : Int32).toInt = 0 := (by decide); have : (3 : Int32).toInt = 3 := (by decide); have : (256 : Int32).toInt = 256 := (by decide); have := ti_wi1 c_2; have := ti_wi1 c_8; have := ti_nle c_13; have kn : (256 : Int32).toInt = 256 := (by decide); have u1 := ti_up (i := i_10) (n := 256) (by omega); omega), fr_up (hv_12).2.2 (by clear hml hsz hr hlocks; have : (0 : Int32).toInt = 0 := (by decide); have : (3 : Int32).toInt = 3 := (by decide); have : (256 : Int32).toInt = 256 := (by decide); have := ti_wi1 c_2; have := ti_wi1 c_8; have := ti_nle c_13; have k256 : (256 : Int32).toInt = 256 := (by decide); omega)⟩⟩
  refine lv_iconst (v := (-1)) hx hb dX9_way_21 (by decide) ?_
  exact ret_i hx hb hr hlocks rfl (u := (wm, 0, g7, g8, g9, gb)) hwm (hP.sub [7, 8, 0, 1, 2, 3, 4, 5, 6] rfl) (hK.sub [] rfl) (hD.sub [7, 8, 0, 1, 2, 3, 4, 5, 6] (by decide) rfl) hS (Nat.le_of_ble_eq_true rfl) (Nat.le_of_ble_eq_true rfl) dX9_way_22
