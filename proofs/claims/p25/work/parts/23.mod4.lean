theorem him_go_X9 : ∀ w ∈ wsX90, w ∈ wsX9_go := mem_pl [40, 41, 42, 43, 44, 45, 46, 47, 48, 49, 50, 51, 52, 53, 54, 55, 56] rfl
set_option maxHeartbeats 4000000 in
set_option maxRecDepth 100000 in
theorem m_go (l : Launch) (D : va_G) (sz : Nat) (cI : ClassId) (h0 : Nat) (a0 : Nat) (a1 : Nat) (a2 : Nat) (a3 : Nat) (a4 : Nat) (a5 : Nat) (a6 : Nat) (a7 : Nat) (a8 : Nat) (a9 : Nat) (ab : Nat) (tk : Int32) (mm : Int32) (wm : Int32) (fa : Int32) (th : Int32) (se : Int32) (g1 : Nat → Int32) (g2 : Nat → Int32) (v : Int32) (w : Int32) (hv : bi v 0 7) : Ci l yX9_go wsX9_go ({ frames := 4, cells := 0, slots := 0, locals := 95 } : Room) D [.ref h0, .int v, .int w] [(h0, .inr (8, [.ref a0, .int tk, .ref a1, .int mm, .ref a2, .ref a3, .ref a4, .ref a5, .ref a6, .ref a7, .int wm, .int fa, .int th, .int se, .ref a8, .ref a9, .ref ab])), (a1, .inl (cI, 80, .inl g1)), (a2, .inl (cI, 128, .inl g2))] [(cI, .int)] sz (fun (r : Int32) => fun (se2 : Int32) => True) (fun (se2 : Int32) => [(h0, .inr (8, [.ref a0, .int tk, .ref a1, .int mm, .ref a2, .ref a3, .ref a4, .ref a5, .ref a6, .ref a7, .int wm, .int fa, .int th, .int se2, .ref a8, .ref a9, .ref ab])), (a1, .inl (cI, 80, .inl g1)), (a2, .inl (cI, 128, .inl g2))]) (fun (se2 : Int32) => []) := by
  refine ct_i (cc := cX9_go) (maxL := 8) (ret := (some .int)) (by decide) rfl (Nat.le_of_ble_eq_true rfl) ?_
  intro p e s m below meth c A ls H hx hb hr hts hown hml hlocks hin hA hS hP hK hD hNW hl hAe hsz
  have hl : lv_has ls 8 [(0, .ref h0), (1, .int v), (2, .int w)] := hl
  refine jn_S 26 (fun st9 H locs ls => ∃ (q_1 : Int32), st9 = [.int q_1] ∧ (va_P D vwCl [(h0, .inr (8, [.ref a0, .int tk, .ref a1, .int mm, .ref a2, .ref a3, .ref a4, .ref a5, .ref a6, .ref a7, .int wm, .int fa, .int th, .int se, .ref a8, .ref a9, .ref ab])), (a1, .inl (cI, 80, .inl g1)), (a2, .inl (cI, 128, .inl g2))] H ∧ va_D A [(h0, .inr (8, [.ref a0, .int tk, .ref a1, .int mm, .ref a2, .ref a3, .ref a4, .ref a5, .ref a6, .ref a7, .int wm, .int fa, .int th, .int se, .ref a8, .ref a9, .ref ab])), (a1, .inl (cI, 80, .inl g1)), (a2, .inl (cI, 128, .inl g2))]) ∧ va_S A s.heap H locs ∧ lv_has ls 8 [(0, .ref h0), (1, .int v), (2, .int w)]) ?_ ?_
  · intro st9 H locs ls hI
    obtain ⟨q_1, rfl, ⟨hP, hD⟩, hS, hl⟩ := hI
    refine lv_istore_n (lv' := [(3, .int q_1), (0, .ref h0), (1, .int v), (2, .int w)]) hx hb dX9_go_26 rfl hl (by decide) rfl (fun ls hl => ?_)
    refine jn_S 38 (fun st9 H locs ls => ∃ (q_3 : Int32), st9 = [.int q_3] ∧ (va_P D vwCl [(h0, .inr (8, [.ref a0, .int tk, .ref a1, .int mm, .ref a2, .ref a3, .ref a4, .ref a5, .ref a6, .ref a7, .int wm, .int fa, .int th, .int se, .ref a8, .ref a9, .ref ab])), (a1, .inl (cI, 80, .inl g1)), (a2, .inl (cI, 128, .inl g2))] H ∧ va_D A [(h0, .inr (8, [.ref a0, .int tk, .ref a1, .int mm, .ref a2, .ref a3, .ref a4, .ref a5, .ref a6, .ref a7, .int wm, .int fa, .int th, .int se, .ref a8, .ref a9, .ref ab])), (a1, .inl (cI, 80, .inl g1)), (a2, .inl (cI, 128, .inl g2))]) ∧ va_S A s.heap H locs ∧ lv_has ls 8 [(3, .int q_1), (0, .ref h0), (1, .int v), (2, .int w)]) ?_ ?_
    · intro st9 H locs ls hI
      obtain ⟨q_3, rfl, ⟨hP, hD⟩, hS, hl⟩ := hI
      refine lv_istore (lv' := [(4, .int q_3), (3, .int q_1), (0, .ref h0), (1, .int v), (2, .int w)]) hx hb dX9_go_38 hl (by decide) rfl (fun ls hl => ?_)
      refine lv_iconst (v := 0) hx hb dX9_go_40 (by decide) ?_
      refine lv_istore (lv' := [(5, .int 0), (4, .int q_3), (3, .int q_1), (0, .ref h0), (1, .int v), (2, .int w)]) hx hb dX9_go_41 hl (by decide) rfl (fun ls hl => ?_)
      refine lv_iconst (v := 0) hx hb dX9_go_43 (by decide) ?_
      refine lv_istore (lv' := [(6, .int 0), (5, .int 0), (4, .int q_3), (3, .int q_1), (0, .ref h0), (1, .int v), (2, .int w)]) hx hb dX9_go_44 hl (by decide) rfl (fun ls hl => ?_)
      refine lv_aload_n hx hb dX9_go_46 rfl (lv_at hl 4 rfl) ?_
      refine lv_iconst (v := (-1)) hx hb dX9_go_47 (by decide) ?_
      refine va_put (D := D) (ci := 8) (v := .int (-1)) (ty := .int) (C := RX9) (T := TX9) (N := 17) hx hb hts him_go_X9 tyX9 tyX9_ok nmX9 hown hK hP hD hS 0 rfl rfl 13 (by decide) (hts (.fieldLink RX9 142 "OneHandsetModel" "seen" "I") (List.mem_of_getElem? (i := 1) rfl)) (fun _ h9 => h9) rfl (by decide +kernel) rfl rfl (Nat.le_of_ble_eq_true rfl) dX9_go_48 (fun H locs hP hD hS => ?_)
      have hP : va_P D vwCl [(h0, .inr (8, [.ref a0, .int tk, .ref a1, .int mm, .ref a2, .ref a3, .ref a4, .ref a5, .ref a6, .ref a7, .int wm, .int fa, .int th, .int (-1), .ref a8, .ref a9, .ref ab])), (a1, .inl (cI, 80, .inl g1)), (a2, .inl (cI, 128, .inl g2))] H := hP
      have hD : va_D A [(h0, .inr (8, [.ref a0, .int tk, .ref a1, .int mm, .ref a2, .ref a3, .ref a4, .ref a5, .ref a6, .ref a7, .int wm, .int fa, .int th, .int (-1), .ref a8, .ref a9, .ref ab])), (a1, .inl (cI, 80, .inl g1)), (a2, .inl (cI, 128, .inl g2))] := hD
      refine lv_iconst (v := 1) hx hb dX9_go_51 (by decide) ?_
      refine lv_istore (lv' := [(7, .int 1), (6, .int 0), (5, .int 0), (4, .int q_3), (3, .int q_1), (0, .ref h0), (1, .int v), (2, .int w)]) hx hb dX9_go_52 hl (by decide) rfl (fun ls hl => ?_)
      refine lp_N (fun n9 H locs ls => ∃ (z_5 : Int32), ∃ (i6_6 : Int32), ∃ (x_7 : Int32), ∃ (w9_8 : Int32), n9 = (if w9_8 = 0 then 0 else (q_1 - x_7).toBitVec.toNat + 1) ∧ (va_P D vwCl [(h0, .inr (8, [.ref a0, .int tk, .ref a1, .int mm, .ref a2, .ref a3, .ref a4, .ref a5, .ref a6, .ref a7, .int wm, .int fa, .int th, .int z_5, .ref a8, .ref a9, .ref ab])), (a1, .inl (cI, 80, .inl g1)), (a2, .inl (cI, 128, .inl g2))] H ∧ va_D A [(h0, .inr (8, [.ref a0, .int tk, .ref a1, .int mm, .ref a2, .ref a3, .ref a4, .ref a5, .ref a6, .ref a7, .int wm, .int fa, .int th, .int z_5, .ref a8, .ref a9, .ref ab])), (a1, .inl (cI, 80, .inl g1)), (a2, .inl (cI, 128, .inl g2))]) ∧ va_S A s.heap H locs ∧ lv_has ls 8 [(7, .int w9_8), (6, .int i6_6), (5, .int x_7), (4, .int q_3), (3, .int q_1), (0, .ref h0), (1, .int v), (2, .int w)]) ?_ ⟨(-1), 0, 0, 1, rfl, ⟨hP, hD⟩, hS, hl⟩
      intro n9 ih_9 H locs ls hI
      obtain ⟨z_5, i6_6, x_7, w9_8, rfl, ⟨hP, hD⟩, hS, hl⟩ := hI
      refine lv_iload hx hb dX9_go_54 (lv_at hl 0 rfl) ?_
      refine lv_if_eq (tgt := 120) hx hb dX9_go_56 (by decide) (fun c_11 => ?_) (fun c_11 => ?_)
      · refine lv_iload hx hb dX9_go_120 (lv_at hl 1 rfl) ?_
        exact ret_i hx hb hr hlocks rfl (u := z_5) trivial (hP.sub [0, 1, 2] rfl) (hK.sub [] rfl) (hD.sub [0, 1, 2] (by decide) rfl) hS (Nat.le_of_ble_eq_true rfl) (Nat.le_of_ble_eq_true rfl) dX9_go_122
      refine jn_S 90 (fun st9 H locs ls => ∃ (z_12 : Int32), ∃ (i6_13 : Int32), st9 = [] ∧ (va_P D vwCl [(h0, .inr (8, [.ref a0, .int tk, .ref a1, .int mm, .ref a2, .ref a3, .ref a4, .ref a5, .ref a6, .ref a7, .int wm, .int fa, .int th, .int z_12, .ref a8, .ref a9, .ref ab])), (a1, .inl (cI, 80, .inl g1)), (a2, .inl (cI, 128, .inl g2))] H ∧ va_D A [(h0, .inr (8, [.ref a0, .int tk, .ref a1, .int mm, .ref a2, .ref a3, .ref a4, .ref a5, .ref a6, .ref a7, .int wm, .int fa, .int th, .int z_12, .ref a8, .ref a9, .ref ab])), (a1, .inl (cI, 80, .inl g1)), (a2, .inl (cI, 128, .inl g2))]) ∧ va_S A s.heap H locs ∧ lv_has ls 8 [(7, .int w9_8), (6, .int i6_13), (5, .int x_7), (4, .int q_3), (3, .int q_1), (0, .ref h0), (1, .int v), (2, .int w)]) ?_ ?_
      · intro st9 H locs ls hI
        obtain ⟨z_12, i6_13, rfl, ⟨hP, hD⟩, hS, hl⟩ := hI
        refine jn_S 107 (fun st9 H locs ls => ∃ (q_15 : Int32), st9 = [.int q_15] ∧ (va_P D vwCl [(h0, .inr (8, [.ref a0, .int tk, .ref a1, .int mm, .ref a2, .ref a3, .ref a4, .ref a5, .ref a6, .ref a7, .int wm, .int fa, .int th, .int z_12, .ref a8, .ref a9, .ref ab])), (a1, .inl (cI, 80, .inl g1)), (a2, .inl (cI, 128, .inl g2))] H ∧ va_D A [(h0, .inr (8, [.ref a0, .int tk, .ref a1, .int mm, .ref a2, .ref a3, .ref a4, .ref a5, .ref a6, .ref a7, .int wm, .int fa, .int th, .int z_12, .ref a8, .ref a9, .ref ab])), (a1, .inl (cI, 80, .inl g1)), (a2, .inl (cI, 128, .inl g2))]) ∧ va_S A s.heap H locs ∧ lv_has ls 8 [(7, .int w9_8), (6, .int i6_13), (5, .int x_7), (4, .int q_3), (3, .int q_1), (0, .ref h0), (1, .int v), (2, .int w)] ∧ (q_15 = 0 ∨ ¬ x_7 = q_1)) ?_ ?_
        · intro st9 H locs ls hI
          obtain ⟨q_15, rfl, ⟨hP, hD⟩, hS, hl, hv_16⟩ := hI
          refine lv_istore (lv' := [(7, .int q_15), (6, .int i6_13), (5, .int x_7), (4, .int q_3), (3, .int q_1), (0, .ref h0), (1, .int v), (2, .int w)]) hx hb dX9_go_107 hl (by decide) rfl (fun ls hl => ?_)
          refine lv_iload hx hb dX9_go_109 (lv_at hl 2 rfl) ?_
          refine lv_iload_n hx hb dX9_go_111 rfl (lv_at hl 4 rfl) ?_
          refine lv_isub hx hb dX9_go_112 ?_
          refine lv_iload_n hx hb dX9_go_113 rfl (lv_at hl 4 rfl) ?_
          refine lv_iand hx hb dX9_go_114 ?_
          refine lv_istore (lv' := [(5, .int ((x_7 - q_1) &&& q_1)), (7, .int q_15), (6, .int i6_13), (4, .int q_3), (3, .int q_1), (0, .ref h0), (1, .int v), (2, .int w)]) hx hb dX9_go_115 hl (by decide) rfl (fun ls hl => ?_)
          refine lv_goto (tgt := 54) hx hb dX9_go_117 (by decide) ?_
          exact ih_9 _ _ _ _ (go_dec c_11 hv_16) ⟨z_12, i6_13, (x_7 - q_1) &&& q_1, q_15, rfl, ⟨hP, hD⟩, hS, lv_sub hl [1, 2, 0, 3, 4, 5, 6, 7] rfl⟩
        · intro hJ_17
          refine lv_iload hx hb dX9_go_90 (lv_at hl 2 rfl) ?_
          refine lv_iload_n hx hb dX9_go_92 rfl (lv_at hl 4 rfl) ?_
          refine lv_icmp_eq (tgt := 106) hx hb dX9_go_93 (by decide) (fun c_18 => ?_) (fun c_18 => ?_)
          · refine lv_iconst (v := 0) hx hb dX9_go_106 (by decide) ?_
            exact hJ_17 _ _ _ _ ⟨0, rfl, ⟨hP, hD⟩, hS, lv_sub hl [0, 1, 2, 3, 4, 5, 6, 7] rfl, (Or.inl rfl)⟩
          refine lv_iload hx hb dX9_go_96 (lv_at hl 1 rfl) ?_
          refine lv_iload_n hx hb dX9_go_98 rfl (lv_at hl 7 rfl) ?_
          refine lv_icmp_gt (tgt := 106) hx hb dX9_go_99 (by decide) (fun c_19 => ?_) (fun c_19 => ?_)
          · refine lv_iconst (v := 0) hx hb dX9_go_106 (by decide) ?_
            exact hJ_17 _ _ _ _ ⟨0, rfl, ⟨hP, hD⟩, hS, lv_sub hl [0, 1, 2, 3, 4, 5, 6, 7] rfl, (Or.inl rfl)⟩
          refine lv_iconst (v := 1) hx hb dX9_go_102 (by decide) ?_
          refine lv_goto (tgt := 107) hx hb dX9_go_103 (by decide) ?_
          exact hJ_17 _ _ _ _ ⟨1, rfl, ⟨hP, hD⟩, hS, lv_sub hl [0, 1, 2, 3, 4, 5, 6, 7] rfl, (Or.inr c_18)⟩
      · intro hJ_20
        refine lv_aload_n hx hb dX9_go_59 rfl (lv_at hl 5 rfl) ?_
        refine lv_iload_n hx hb dX9_go_60 rfl (lv_at hl 6 rfl) ?_
        refine lv_iload hx hb dX9_go_61 (lv_at hl 3 rfl) ?_
        refine lv_iload hx hb dX9_go_63 (lv_at hl 2 rfl) ?_
        refine lv_ior hx hb dX9_go_65 ?_
        refine go_i (wr := []) (tysr := [(cI, .int)]) hP hD hS hA hK [0, 1, 2] [] [0] rfl rfl (by decide) (by decide) rfl (va_runV (As := [.int v, .int (q_3 ||| x_7)]) (rest := []) ⟨hx, hb, hml, hown, hts⟩ (m_isForeseen l D H.size cI h0 a0 a1 a2 a3 a4 a5 a6 a7 a8 a9 ab tk mm wm fa th z_5 g1 g2 v (q_3 ||| x_7) (by first | assumption | (clear hml hsz hr hlocks; omega) | decide)) (cwV 2 hts gX9_go_X9_isForeseen rfl rfl rfl (by decide +kernel) ⟨Nat.le_of_ble_eq_true rfl, Nat.le_of_ble_eq_true rfl⟩) (st_preV (ci := 8) (q0 := 0) hP hD hK hNW [0, 1, 2] [0] rfl rfl (by decide) rfl rfl rfl rfl) rfl rfl hl.1 rfl (lv_room (Nat.le_of_ble_eq_true rfl)) dX9_go_66 ⟨(Nat.le_of_ble_eq_true rfl), (Nat.le_of_ble_eq_true rfl)⟩) (fun r_21 u H locs hw hP hD hK hS => ?_)
        have hP : va_P D vwCl [(h0, .inr (8, [.ref a0, .int tk, .ref a1, .int mm, .ref a2, .ref a3, .ref a4, .ref a5, .ref a6, .ref a7, .int wm, .int fa, .int th, .int z_5, .ref a8, .ref a9, .ref ab])), (a1, .inl (cI, 80, .inl g1)), (a2, .inl (cI, 128, .inl g2))] H := hP
        have hD : va_D A [(h0, .inr (8, [.ref a0, .int tk, .ref a1, .int mm, .ref a2, .ref a3, .ref a4, .ref a5, .ref a6, .ref a7, .int wm, .int fa, .int th, .int z_5, .ref a8, .ref a9, .ref ab])), (a1, .inl (cI, 80, .inl g1)), (a2, .inl (cI, 128, .inl g2))] := hD
        have hK : va_K D vwCl [(cI, .int)] s := hK
        refine lv_if_eq (tgt := 90) hx hb dX9_go_69 (by decide) (fun c_22 => ?_) (fun c_22 => ?_)
        · exact hJ_20 _ _ _ _ ⟨z_5, i6_6, rfl, ⟨hP, hD⟩, hS, lv_sub hl [0, 1, 2, 3, 4, 5, 6, 7] rfl⟩
        refine lv_iload hx hb dX9_go_72 (lv_at hl 1 rfl) ?_
        refine lv_iload_n hx hb dX9_go_74 rfl (lv_at hl 7 rfl) ?_
        refine lv_icmp_ne (tgt := 87) hx hb dX9_go_75 (by decide) (fun c_23 => ?_) (fun c_23 => ?_)
        · refine lv_iinc (v := i6_6 + 1) (lv' := [(6, .int (i6_6 + 1)), (7, .int w9_8), (5, .int x_7), (4, .int q_3), (3, .int q_1), (0, .ref h0), (1, .int v), (2, .int w)]) hx hb dX9_go_87 hl (k := 1) rfl (ii_p1 _) (by decide) rfl (fun ls hl => ?_)
          exact hJ_20 _ _ _ _ ⟨z_5, i6_6 + 1, rfl, ⟨hP, hD⟩, hS, lv_sub hl [1, 0, 2, 3, 4, 5, 6, 7] rfl⟩
        refine lv_aload_n hx hb dX9_go_78 rfl (lv_at hl 5 rfl) ?_
        refine lv_iload hx hb dX9_go_79 (lv_at hl 3 rfl) ?_
        refine lv_iload hx hb dX9_go_81 (lv_at hl 2 rfl) ?_
        refine lv_ior hx hb dX9_go_83 ?_
        refine va_put (D := D) (ci := 8) (v := .int (q_3 ||| x_7)) (ty := .int) (C := RX9) (T := TX9) (N := 17) hx hb hts him_go_X9 tyX9 tyX9_ok nmX9 hown hK hP hD hS 0 rfl rfl 13 (by decide) (hts (.fieldLink RX9 142 "OneHandsetModel" "seen" "I") (List.mem_of_getElem? (i := 1) rfl)) (fun _ h9 => h9) rfl (by decide +kernel) rfl rfl (Nat.le_of_ble_eq_true rfl) dX9_go_84 (fun H locs hP hD hS => ?_)
        have hP : va_P D vwCl [(h0, .inr (8, [.ref a0, .int tk, .ref a1, .int mm, .ref a2, .ref a3, .ref a4, .ref a5, .ref a6, .ref a7, .int wm, .int fa, .int th, .int (q_3 ||| x_7), .ref a8, .ref a9, .ref ab])), (a1, .inl (cI, 80, .inl g1)), (a2, .inl (cI, 128, .inl g2))] H := hP
        have hD : va_D A [(h0, .inr (8, [.ref a0, .int tk, .ref a1, .int mm, .ref a2, .ref a3, .ref a4, .ref a5, .ref a6, .ref a7, .int wm, .int fa, .int th, .int (q_3 ||| x_7), .ref a8, .ref a9, .ref ab])), (a1, .inl (cI, 80, .inl g1)), (a2, .inl (cI, 128, .inl g2))] := hD
        refine lv_iinc (v := i6_6 + 1) (lv' := [(6, .int (i6_6 + 1)), (7, .int w9_8), (5, .int x_7), (4, .int q_3), (3, .int q_1), (0, .ref h0), (1, .int v), (2, .int w)]) hx hb dX9_go_87 hl (k := 1) rfl (ii_p1 _) (by decide) rfl (fun ls hl => ?_)
        exact hJ_20 _ _ _ _ ⟨q_3 ||| x_7, i6_6 + 1, rfl, ⟨hP, hD⟩, hS, lv_sub hl [1, 0, 2, 3, 4, 5, 6, 7] rfl⟩
    · intro hJ_24
      refine lv_aload_n hx hb dX9_go_27 rfl (lv_at hl 1 rfl) ?_
      refine lv_iload_n hx hb dX9_go_28 rfl (lv_at hl 2 rfl) ?_
      refine go_i (wr := [(a1, .inl (cI, 80, .inl g1))]) (tysr := [(cI, .int)]) hP hD hS hA hK [0, 2] [1] [0] rfl rfl (by decide) (by decide) rfl (va_runV (As := [.int v]) (rest := []) ⟨hx, hb, hml, hown, hts⟩ (m_some l D H.size cI h0 a0 a1 a2 a3 a4 a5 a6 a7 a8 a9 ab tk mm wm fa th se g2 v (by first | assumption | (clear hml hsz hr hlocks; omega) | decide)) (cwV 1 hts gX9_go_X9_some rfl rfl rfl (by decide +kernel) ⟨Nat.le_of_ble_eq_true rfl, Nat.le_of_ble_eq_true rfl⟩) (st_preV (ci := 8) (q0 := 0) hP hD hK hNW [0, 2] [0] rfl rfl (by decide) rfl rfl rfl rfl) rfl rfl hl.1 rfl (lv_room (Nat.le_of_ble_eq_true rfl)) dX9_go_29 ⟨(Nat.le_of_ble_eq_true rfl), (Nat.le_of_ble_eq_true rfl)⟩) (fun r_25 u H locs hw hP hD hK hS => ?_)
      have hP : va_P D vwCl [(a1, .inl (cI, 80, .inl g1)), (h0, .inr (8, [.ref a0, .int tk, .ref a1, .int mm, .ref a2, .ref a3, .ref a4, .ref a5, .ref a6, .ref a7, .int wm, .int fa, .int th, .int se, .ref a8, .ref a9, .ref ab])), (a2, .inl (cI, 128, .inl g2))] H := hP
      have hD : va_D A [(a1, .inl (cI, 80, .inl g1)), (h0, .inr (8, [.ref a0, .int tk, .ref a1, .int mm, .ref a2, .ref a3, .ref a4, .ref a5, .ref a6, .ref a7, .int wm, .int fa, .int th, .int se, .ref a8, .ref a9, .ref ab])), (a2, .inl (cI, 128, .inl g2))] := hD
      have hK : va_K D vwCl [(cI, .int)] s := hK
      refine lv_aload_n hx hb dX9_go_32 rfl (lv_at hl 1 rfl) ?_
      refine lv_iload_n hx hb dX9_go_33 rfl (lv_at hl 2 rfl) ?_
      refine go_i (wr := []) (tysr := [(cI, .int)]) hP hD hS hA hK [1, 0, 2] [] [0] rfl rfl (by decide) (by decide) rfl (va_runV (As := [.int v]) (rest := [.int r_25]) ⟨hx, hb, hml, hown, hts⟩ (m_fixed l D H.size cI h0 a0 a1 a2 a3 a4 a5 a6 a7 a8 a9 ab tk mm wm fa th se g1 g2 v (by first | assumption | (clear hml hsz hr hlocks; omega) | decide)) (cwV 1 hts gX9_go_X9_fixed rfl rfl rfl (by decide +kernel) ⟨Nat.le_of_ble_eq_true rfl, Nat.le_of_ble_eq_true rfl⟩) (st_preV (ci := 8) (q0 := 1) hP hD hK hNW [1, 0, 2] [0] rfl rfl (by decide) rfl rfl rfl rfl) rfl rfl hl.1 rfl (lv_room (Nat.le_of_ble_eq_true rfl)) dX9_go_34 ⟨(Nat.le_of_ble_eq_true rfl), (Nat.le_of_ble_eq_true rfl)⟩) (fun r_26 u H locs hw hP hD hK hS => ?_)
      have hP : va_P D vwCl [(h0, .inr (8, [.ref a0, .int tk, .ref a1, .int mm, .ref a2, .ref a3, .ref a4, .ref a5, .ref a6, .ref a7, .int wm, .int fa, .int th, .int se, .ref a8, .ref a9, .ref ab])), (a1, .inl (cI, 80, .inl g1)), (a2, .inl (cI, 128, .inl g2))] H := hP
      have hD : va_D A [(h0, .inr (8, [.ref a0, .int tk, .ref a1, .int mm, .ref a2, .ref a3, .ref a4, .ref a5, .ref a6, .ref a7, .int wm, .int fa, .int th, .int se, .ref a8, .ref a9, .ref ab])), (a1, .inl (cI, 80, .inl g1)), (a2, .inl (cI, 128, .inl g2))] := hD
      have hK : va_K D vwCl [(cI, .int)] s := hK
      refine lv_iand hx hb dX9_go_37 ?_
      exact hJ_24 _ _ _ _ ⟨r_25 &&& r_26, rfl, ⟨hP, hD⟩, hS, lv_sub hl [0, 1, 2, 3] rfl⟩
  · intro hJ_27
    refine lv_iconst (v := 1) hx hb dX9_go_0 (by decide) ?_
    refine lv_aload_n hx hb dX9_go_1 rfl (lv_at hl 0 rfl) ?_
    refine lv_iload_n hx hb dX9_go_2 rfl (lv_at hl 1 rfl) ?_
    refine lv_iconst (v := 1) hx hb dX9_go_3 (by decide) ?_
    refine go_i (wr := [(a2, .inl (cI, 128, .inl g2))]) (tysr := [(cI, .int)]) hP hD hS hA hK [0, 1] [2] [0] rfl rfl (by decide) (by decide) rfl (va_runV (As := [.int v, .int 1]) (rest := [.int 1]) ⟨hx, hb, hml, hown, hts⟩ (m_get l D H.size cI h0 a0 a1 a2 a3 a4 a5 a6 a7 a8 a9 ab tk mm wm fa th se g1 v 1 (by first | assumption | (clear hml hsz hr hlocks; omega) | decide) (by first | assumption | (clear hml hsz hr hlocks; omega) | decide)) (cwV 2 hts gX9_go_X9_get rfl rfl rfl (by decide +kernel) ⟨Nat.le_of_ble_eq_true rfl, Nat.le_of_ble_eq_true rfl⟩) (st_preV (ci := 8) (q0 := 0) hP hD hK hNW [0, 1] [0] rfl rfl (by decide) rfl rfl rfl rfl) rfl rfl hl.1 rfl (lv_room (Nat.le_of_ble_eq_true rfl)) dX9_go_4 ⟨(Nat.le_of_ble_eq_true rfl), (Nat.le_of_ble_eq_true rfl)⟩) (fun r_28 u H locs hw hP hD hK hS => ?_)
    have hw : r_28 = g1 (Int32.toNatClampNeg (10 * v + 1)) := hw
    subst hw
    have hP : va_P D vwCl [(a2, .inl (cI, 128, .inl g2)), (h0, .inr (8, [.ref a0, .int tk, .ref a1, .int mm, .ref a2, .ref a3, .ref a4, .ref a5, .ref a6, .ref a7, .int wm, .int fa, .int th, .int se, .ref a8, .ref a9, .ref ab])), (a1, .inl (cI, 80, .inl g1))] H := hP
    have hD : va_D A [(a2, .inl (cI, 128, .inl g2)), (h0, .inr (8, [.ref a0, .int tk, .ref a1, .int mm, .ref a2, .ref a3, .ref a4, .ref a5, .ref a6, .ref a7, .int wm, .int fa, .int th, .int se, .ref a8, .ref a9, .ref ab])), (a1, .inl (cI, 80, .inl g1))] := hD
    have hK : va_K D vwCl [(cI, .int)] s := hK
    refine lv_ishl hx hb dX9_go_7 ?_
    refine lv_iconst (v := 1) hx hb dX9_go_8 (by decide) ?_
    refine lv_isub hx hb dX9_go_9 ?_
    refine lv_aload_n hx hb dX9_go_10 rfl (lv_at hl 0 rfl) ?_
    refine lv_iload_n hx hb dX9_go_11 rfl (lv_at hl 1 rfl) ?_
    refine go_i (wr := [(a2, .inl (cI, 128, .inl g2))]) (tysr := [(cI, .int)]) hP hD hS hA hK [1, 2] [0] [0] rfl rfl (by decide) (by decide) rfl (va_runV (As := [.int v]) (rest := [.int ((1 <<< ((g1 (Int32.toNatClampNeg (10 * v + 1))) &&& 31)) - 1)]) ⟨hx, hb, hml, hown, hts⟩ (m_flipOf l D H.size cI h0 a0 a1 a2 a3 a4 a5 a6 a7 a8 a9 ab tk mm wm fa th se g1 v (by first | assumption | (clear hml hsz hr hlocks; omega) | decide)) (cwV 1 hts gX9_go_X9_flipOf rfl rfl rfl (by decide +kernel) ⟨Nat.le_of_ble_eq_true rfl, Nat.le_of_ble_eq_true rfl⟩) (st_preV (ci := 8) (q0 := 1) hP hD hK hNW [1, 2] [0] rfl rfl (by decide) rfl rfl rfl rfl) rfl rfl hl.1 rfl (lv_room (Nat.le_of_ble_eq_true rfl)) dX9_go_12 ⟨(Nat.le_of_ble_eq_true rfl), (Nat.le_of_ble_eq_true rfl)⟩) (fun r_29 u H locs hw hP hD hK hS => ?_)
    have hP : va_P D vwCl [(a2, .inl (cI, 128, .inl g2)), (h0, .inr (8, [.ref a0, .int tk, .ref a1, .int mm, .ref a2, .ref a3, .ref a4, .ref a5, .ref a6, .ref a7, .int wm, .int fa, .int th, .int se, .ref a8, .ref a9, .ref ab])), (a1, .inl (cI, 80, .inl g1))] H := hP
    have hD : va_D A [(a2, .inl (cI, 128, .inl g2)), (h0, .inr (8, [.ref a0, .int tk, .ref a1, .int mm, .ref a2, .ref a3, .ref a4, .ref a5, .ref a6, .ref a7, .int wm, .int fa, .int th, .int se, .ref a8, .ref a9, .ref ab])), (a1, .inl (cI, 80, .inl g1))] := hD
    have hK : va_K D vwCl [(cI, .int)] s := hK
    refine lv_iconst (v := (-1)) hx hb dX9_go_15 (by decide) ?_
    refine lv_ixor hx hb dX9_go_16 ?_
    refine lv_iand hx hb dX9_go_17 ?_
    refine lv_aload_n hx hb dX9_go_18 rfl (lv_at hl 0 rfl) ?_
    refine lv_iload_n hx hb dX9_go_19 rfl (lv_at hl 1 rfl) ?_
    refine go_i (wr := []) (tysr := [(cI, .int)]) hP hD hS hA hK [1, 2, 0] [] [0] rfl rfl (by decide) (by decide) rfl (va_runV (As := [.int v]) (rest := [.int (((1 <<< ((g1 (Int32.toNatClampNeg (10 * v + 1))) &&& 31)) - 1) &&& (r_29 ^^^ (-1)))]) ⟨hx, hb, hml, hown, hts⟩ (m_fixed l D H.size cI h0 a0 a1 a2 a3 a4 a5 a6 a7 a8 a9 ab tk mm wm fa th se g1 g2 v (by first | assumption | (clear hml hsz hr hlocks; omega) | decide)) (cwV 1 hts gX9_go_X9_fixed rfl rfl rfl (by decide +kernel) ⟨Nat.le_of_ble_eq_true rfl, Nat.le_of_ble_eq_true rfl⟩) (st_preV (ci := 8) (q0 := 1) hP hD hK hNW [1, 2, 0] [0] rfl rfl (by decide) rfl rfl rfl rfl) rfl rfl hl.1 rfl (lv_room (Nat.le_of_ble_eq_true rfl)) dX9_go_20 ⟨(Nat.le_of_ble_eq_true rfl), (Nat.le_of_ble_eq_true rfl)⟩) (fun r_30 u H locs hw hP hD hK hS => ?_)
    have hP : va_P D vwCl [(h0, .inr (8, [.ref a0, .int tk, .ref a1, .int mm, .ref a2, .ref a3, .ref a4, .ref a5, .ref a6, .ref a7, .int wm, .int fa, .int th, .int se, .ref a8, .ref a9, .ref ab])), (a1, .inl (cI, 80, .inl g1)), (a2, .inl (cI, 128, .inl g2))] H := hP
    have hD : va_D A [(h0, .inr (8, [.ref a0, .int tk, .ref a1, .int mm, .ref a2, .ref a3, .ref a4, .ref a5, .ref a6, .ref a7, .int wm, .int fa, .int th, .int se, .ref a8, .ref a9, .ref ab])), (a1, .inl (cI, 80, .inl g1)), (a2, .inl (cI, 128, .inl g2))] := hD
    have hK : va_K D vwCl [(cI, .int)] s := hK
    refine lv_iconst (v := (-1)) hx hb dX9_go_23 (by decide) ?_
    refine lv_ixor hx hb dX9_go_24 ?_
    refine lv_iand hx hb dX9_go_25 ?_
    exact hJ_27 _ _ _ _ ⟨(((1 <<< ((g1 (Int32.toNatClampNeg (10 * v + 1))) &&& 31)) - 1) &&& (r_29 ^^^ (-1))) &&& (r_30 ^^^ (-1)), rfl, ⟨hP, hD⟩, hS, lv_sub hl [0, 1, 2] rfl⟩
theorem him_many_X9 : ∀ w ∈ wsX90, w ∈ wsX9_many := mem_pl [65, 66, 67, 68, 69, 70, 71, 72, 73, 74, 75, 76, 77, 78, 79, 80, 81] rfl
set_option maxHeartbeats 4000000 in
set_option maxRecDepth 100000 in
theorem m_many (l : Launch) (D : va_G) (sz : Nat) (cI : ClassId) (h0 : Nat) (a0 : Nat) (a1 : Nat) (a2 : Nat) (a3 : Nat) (a4 : Nat) (a5 : Nat) (a6 : Nat) (a7 : Nat) (a8 : Nat) (a9 : Nat) (ab : Nat) (tk : Int32) (mm : Int32) (wm : Int32) (fa : Int32) (th : Int32) (se : Int32) (g1 : Nat → Int32) (g2 : Nat → Int32) (v : Int32) (hmm : bi mm 0 8) : Ci l yX9_many wsX9_many ({ frames := 5, cells := 0, slots := 0, locals := 122 } : Room) D [.ref h0, .int v] [(h0, .inr (8, [.ref a0, .int tk, .ref a1, .int mm, .ref a2, .ref a3, .ref a4, .ref a5, .ref a6, .ref a7, .int wm, .int fa, .int th, .int se, .ref a8, .ref a9, .ref ab])), (a1, .inl (cI, 80, .inl g1)), (a2, .inl (cI, 128, .inl g2))] [(cI, .int)] sz (fun (r : Int32) => fun (u9 : Int32 × Int32) => match u9 with | (th2, se2) => True) (fun (u9 : Int32 × Int32) => match u9 with | (th2, se2) => [(h0, .inr (8, [.ref a0, .int tk, .ref a1, .int mm, .ref a2, .ref a3, .ref a4, .ref a5, .ref a6, .ref a7, .int wm, .int fa, .int th2, .int se2, .ref a8, .ref a9, .ref ab])), (a1, .inl (cI, 80, .inl g1)), (a2, .inl (cI, 128, .inl g2))]) (fun (u9 : Int32 × Int32) => match u9 with | (th2, se2) => []) := by
  refine ct_i (cc := cX9_many) (maxL := 2) (ret := (some .int)) (by decide) rfl (Nat.le_of_ble_eq_true rfl) ?_
  intro p e s m below meth c A ls H hx hb hr hts hown hml hlocks hin hA hS hP hK hD hNW hl hAe hsz
  have hl : lv_has ls 2 [(0, .ref h0), (1, .int v)] := hl
  refine lv_aload_n hx hb dX9_many_0 rfl (lv_at hl 0 rfl) ?_
  refine lv_iconst (v := 0) hx hb dX9_many_1 (by decide) ?_
  refine va_put (D := D) (ci := 8) (v := .int 0) (ty := .int) (C := RX9) (T := TX9) (N := 17) hx hb hts him_many_X9 tyX9 tyX9_ok nmX9 hown hK hP hD hS 0 rfl rfl 12 (by decide) (hts (.fieldLink RX9 43 "OneHandsetModel" "thrown" "I") (List.mem_of_getElem? (i := 1) rfl)) (fun _ h9 => h9) rfl (by decide +kernel) rfl rfl (Nat.le_of_ble_eq_true rfl) dX9_many_2 (fun H locs hP hD hS => ?_)
  have hP : va_P D vwCl [(h0, .inr (8, [.ref a0, .int tk, .ref a1, .int mm, .ref a2, .ref a3, .ref a4, .ref a5, .ref a6, .ref a7, .int wm, .int fa, .int 0, .int se, .ref a8, .ref a9, .ref ab])), (a1, .inl (cI, 80, .inl g1)), (a2, .inl (cI, 128, .inl g2))] H := hP
  have hD : va_D A [(h0, .inr (8, [.ref a0, .int tk, .ref a1, .int mm, .ref a2, .ref a3, .ref a4, .ref a5, .ref a6, .ref a7, .int wm, .int fa, .int 0, .int se, .ref a8, .ref a9, .ref ab])), (a1, .inl (cI, 80, .inl g1)), (a2, .inl (cI, 128, .inl g2))] := hD
  refine lv_aload_n hx hb dX9_many_5 rfl (lv_at hl 0 rfl) ?_
  refine lv_iload_n hx hb dX9_many_6 rfl (lv_at hl 1 rfl) ?_
  refine go_i (wr := []) (tysr := [(cI, .int)]) hP hD hS hA hK [0, 1, 2] [] [0] rfl rfl (by decide) (by decide) rfl (va_runV (As := [.int v]) (rest := []) ⟨hx, hb, hml, hown, hts⟩ (m_canForesee l D H.size cI h0 a0 a1 a2 a3 a4 a5 a6 a7 a8 a9 ab tk mm wm fa 0 se g1 g2 v (by first | assumption | (clear hml hsz hr hlocks; omega) | decide)) (cwV 1 hts gX9_many_X9_canForesee rfl rfl rfl (by decide +kernel) ⟨Nat.le_of_ble_eq_true rfl, Nat.le_of_ble_eq_true rfl⟩) (st_preV (ci := 8) (q0 := 0) hP hD hK hNW [0, 1, 2] [0] rfl rfl (by decide) rfl rfl rfl rfl) rfl rfl hl.1 rfl (lv_room (Nat.le_of_ble_eq_true rfl)) dX9_many_7 ⟨(Nat.le_of_ble_eq_true rfl), (Nat.le_of_ble_eq_true rfl)⟩) (fun r_1 u H locs hw hP hD hK hS => ?_)
  have hw : r_1 = 0 ∨ (0 ≤ v.toInt ∧ v.toInt < mm.toInt) := hw
  have hw_2 := hw
  have hP : va_P D vwCl [(h0, .inr (8, [.ref a0, .int tk, .ref a1, .int mm, .ref a2, .ref a3, .ref a4, .ref a5, .ref a6, .ref a7, .int wm, .int fa, .int 0, .int se, .ref a8, .ref a9, .ref ab])), (a1, .inl (cI, 80, .inl g1)), (a2, .inl (cI, 128, .inl g2))] H := hP
  have hD : va_D A [(h0, .inr (8, [.ref a0, .int tk, .ref a1, .int mm, .ref a2, .ref a3, .ref a4, .ref a5, .ref a6, .ref a7, .int wm, .int fa, .int 0, .int se, .ref a8, .ref a9, .ref ab])), (a1, .inl (cI, 80, .inl g1)), (a2, .inl (cI, 128, .inl g2))] := hD
  have hK : va_K D vwCl [(cI, .int)] s := hK
  refine lv_if_eq (tgt := 23) hx hb dX9_many_10 (by decide) (fun c_3 => ?_) (fun c_3 => ?_)
  · refine lv_iconst (v := (-1)) hx hb dX9_many_23 (by decide) ?_
    exact ret_i hx hb hr hlocks rfl (u := (0, se)) trivial (hP.sub [0, 1, 2] rfl) (hK.sub [] rfl) (hD.sub [0, 1, 2] (by decide) rfl) hS (Nat.le_of_ble_eq_true rfl) (Nat.le_of_ble_eq_true rfl) dX9_many_24
  have hc0_4 : 0 ≤ v.toInt ∧ v.toInt < mm.toInt := (hw_2).resolve_left c_3
  refine lv_aload_n hx hb dX9_many_13 rfl (lv_at hl 0 rfl) ?_
  refine lv_iload_n hx hb dX9_many_14 rfl (lv_at hl 1 rfl) ?_
  refine lv_ldc hx hb hown (hts _ (List.mem_of_getElem? (i := 2) rfl)) dX9_many_15 ?_
  refine lv_topi (fun y_5 _ => ?_)
  refine go_i (wr := []) (tysr := [(cI, .int)]) hP hD hS hA hK [0, 1, 2] [] [0] rfl rfl (by decide) (by decide) rfl (va_runV (As := [.int v, .int y_5]) (rest := []) ⟨hx, hb, hml, hown, hts⟩ (m_go l D H.size cI h0 a0 a1 a2 a3 a4 a5 a6 a7 a8 a9 ab tk mm wm fa 0 se g1 g2 v y_5 (by first | assumption | (clear hml hsz hr hlocks; omega) | decide)) (cwV 2 hts gX9_many_X9_go rfl rfl rfl (by decide +kernel) ⟨Nat.le_of_ble_eq_true rfl, Nat.le_of_ble_eq_true rfl⟩) (st_preV (ci := 8) (q0 := 0) hP hD hK hNW [0, 1, 2] [0] rfl rfl (by decide) rfl rfl rfl rfl) rfl rfl hl.1 rfl (lv_room (Nat.le_of_ble_eq_true rfl)) dX9_many_17 ⟨(Nat.le_of_ble_eq_true rfl), (Nat.le_of_ble_eq_true rfl)⟩) (fun r_6 u H locs hw hP hD hK hS => ?_)
  obtain ⟨se_7, rfl⟩ : ∃ z, z = u := ⟨_, rfl⟩
  have hP : va_P D vwCl [(h0, .inr (8, [.ref a0, .int tk, .ref a1, .int mm, .ref a2, .ref a3, .ref a4, .ref a5, .ref a6, .ref a7, .int wm, .int fa, .int 0, .int se_7, .ref a8, .ref a9, .ref ab])), (a1, .inl (cI, 80, .inl g1)), (a2, .inl (cI, 128, .inl g2))] H := hP
  have hD : va_D A [(h0, .inr (8, [.ref a0, .int tk, .ref a1, .int mm, .ref a2, .ref a3, .ref a4, .ref a5, .ref a6, .ref a7, .int wm, .int fa, .int 0, .int se_7, .ref a8, .ref a9, .ref ab])), (a1, .inl (cI, 80, .inl g1)), (a2, .inl (cI, 128, .inl g2))] := hD
  have hK : va_K D vwCl [(cI, .int)] s := hK
  refine lv_goto (tgt := 24) hx hb dX9_many_20 (by decide) ?_
  exact ret_i hx hb hr hlocks rfl (u := (0, se_7)) trivial (hP.sub [0, 1, 2] rfl) (hK.sub [] rfl) (hD.sub [0, 1, 2] (by decide) rfl) hS (Nat.le_of_ble_eq_true rfl) (Nat.le_of_ble_eq_true rfl) dX9_many_24
theorem him_foreseen_X9 : ∀ w ∈ wsX90, w ∈ wsX9_foreseen := mem_pl [65, 66, 67, 68, 69, 70, 71, 72, 73, 74, 75, 76, 77, 78, 79, 80, 81] rfl
set_option maxHeartbeats 4000000 in
set_option maxRecDepth 100000 in
theorem m_foreseen (l : Launch) (D : va_G) (sz : Nat) (cI : ClassId) (h0 : Nat) (a0 : Nat) (a1 : Nat) (a2 : Nat) (a3 : Nat) (a4 : Nat) (a5 : Nat) (a6 : Nat) (a7 : Nat) (a8 : Nat) (a9 : Nat) (ab : Nat) (tk : Int32) (mm : Int32) (wm : Int32) (fa : Int32) (th : Int32) (se : Int32) (g1 : Nat → Int32) (g2 : Nat → Int32) (v : Int32) (w : Int32) (hmm : bi mm 0 8) : Ci l yX9_foreseen wsX9_foreseen ({ frames := 5, cells := 0, slots := 0, locals := 122 } : Room) D [.ref h0, .int v, .int w] [(h0, .inr (8, [.ref a0, .int tk, .ref a1, .int mm, .ref a2, .ref a3, .ref a4, .ref a5, .ref a6, .ref a7, .int wm, .int fa, .int th, .int se, .ref a8, .ref a9, .ref ab])), (a1, .inl (cI, 80, .inl g1)), (a2, .inl (cI, 128, .inl g2))] [(cI, .int)] sz (fun (r : Int32) => fun (u9 : Int32 × Int32) => match u9 with | (th2, se2) => True) (fun (u9 : Int32 × Int32) => match u9 with | (th2, se2) => [(h0, .inr (8, [.ref a0, .int tk, .ref a1, .int mm, .ref a2, .ref a3, .ref a4, .ref a5, .ref a6, .ref a7, .int wm, .int fa, .int th2, .int se2, .ref a8, .ref a9, .ref ab])), (a1, .inl (cI, 80, .inl g1)), (a2, .inl (cI, 128, .inl g2))]) (fun (u9 : Int32 × Int32) => match u9 with | (th2, se2) => []) := by
  refine ct_i (cc := cX9_foreseen) (maxL := 3) (ret := (some .int)) (by decide) rfl (Nat.le_of_ble_eq_true rfl) ?_
  intro p e s m below meth c A ls H hx hb hr hts hown hml hlocks hin hA hS hP hK hD hNW hl hAe hsz
  have hl : lv_has ls 3 [(0, .ref h0), (1, .int v), (2, .int w)] := hl
  refine lv_aload_n hx hb dX9_foreseen_0 rfl (lv_at hl 0 rfl) ?_
  refine lv_iconst (v := 0) hx hb dX9_foreseen_1 (by decide) ?_
  refine va_put (D := D) (ci := 8) (v := .int 0) (ty := .int) (C := RX9) (T := TX9) (N := 17) hx hb hts him_foreseen_X9 tyX9 tyX9_ok nmX9 hown hK hP hD hS 0 rfl rfl 12 (by decide) (hts (.fieldLink RX9 43 "OneHandsetModel" "thrown" "I") (List.mem_of_getElem? (i := 1) rfl)) (fun _ h9 => h9) rfl (by decide +kernel) rfl rfl (Nat.le_of_ble_eq_true rfl) dX9_foreseen_2 (fun H locs hP hD hS => ?_)
  have hP : va_P D vwCl [(h0, .inr (8, [.ref a0, .int tk, .ref a1, .int mm, .ref a2, .ref a3, .ref a4, .ref a5, .ref a6, .ref a7, .int wm, .int fa, .int 0, .int se, .ref a8, .ref a9, .ref ab])), (a1, .inl (cI, 80, .inl g1)), (a2, .inl (cI, 128, .inl g2))] H := hP
  have hD : va_D A [(h0, .inr (8, [.ref a0, .int tk, .ref a1, .int mm, .ref a2, .ref a3, .ref a4, .ref a5, .ref a6, .ref a7, .int wm, .int fa, .int 0, .int se, .ref a8, .ref a9, .ref ab])), (a1, .inl (cI, 80, .inl g1)), (a2, .inl (cI, 128, .inl g2))] := hD
  refine lv_aload_n hx hb dX9_foreseen_5 rfl (lv_at hl 0 rfl) ?_
  refine lv_iload_n hx hb dX9_foreseen_6 rfl (lv_at hl 1 rfl) ?_
  refine go_i (wr := []) (tysr := [(cI, .int)]) hP hD hS hA hK [0, 1, 2] [] [0] rfl rfl (by decide) (by decide) rfl (va_runV (As := [.int v]) (rest := []) ⟨hx, hb, hml, hown, hts⟩ (m_canForesee l D H.size cI h0 a0 a1 a2 a3 a4 a5 a6 a7 a8 a9 ab tk mm wm fa 0 se g1 g2 v (by first | assumption | (clear hml hsz hr hlocks; omega) | decide)) (cwV 1 hts gX9_foreseen_X9_canForesee rfl rfl rfl (by decide +kernel) ⟨Nat.le_of_ble_eq_true rfl, Nat.le_of_ble_eq_true rfl⟩) (st_preV (ci := 8) (q0 := 0) hP hD hK hNW [0, 1, 2] [0] rfl rfl (by decide) rfl rfl rfl rfl) rfl rfl hl.1 rfl (lv_room (Nat.le_of_ble_eq_true rfl)) dX9_foreseen_7 ⟨(Nat.le_of_ble_eq_true rfl), (Nat.le_of_ble_eq_true rfl)⟩) (fun r_1 u H locs hw hP hD hK hS => ?_)
  have hw : r_1 = 0 ∨ (0 ≤ v.toInt ∧ v.toInt < mm.toInt) := hw
  have hw_2 := hw
  have hP : va_P D vwCl [(h0, .inr (8, [.ref a0, .int tk, .ref a1, .int mm, .ref a2, .ref a3, .ref a4, .ref a5, .ref a6, .ref a7, .int wm, .int fa, .int 0, .int se, .ref a8, .ref a9, .ref ab])), (a1, .inl (cI, 80, .inl g1)), (a2, .inl (cI, 128, .inl g2))] H := hP
  have hD : va_D A [(h0, .inr (8, [.ref a0, .int tk, .ref a1, .int mm, .ref a2, .ref a3, .ref a4, .ref a5, .ref a6, .ref a7, .int wm, .int fa, .int 0, .int se, .ref a8, .ref a9, .ref ab])), (a1, .inl (cI, 80, .inl g1)), (a2, .inl (cI, 128, .inl g2))] := hD
  have hK : va_K D vwCl [(cI, .int)] s := hK
  refine lv_if_eq (tgt := 23) hx hb dX9_foreseen_10 (by decide) (fun c_3 => ?_) (fun c_3 => ?_)
  · refine lv_iconst (v := (-1)) hx hb dX9_foreseen_23 (by decide) ?_
    exact ret_i hx hb hr hlocks rfl (u := (0, se)) trivial (hP.sub [0, 1, 2] rfl) (hK.sub [] rfl) (hD.sub [0, 1, 2] (by decide) rfl) hS (Nat.le_of_ble_eq_true rfl) (Nat.le_of_ble_eq_true rfl) dX9_foreseen_24
  have hc0_4 : 0 ≤ v.toInt ∧ v.toInt < mm.toInt := (hw_2).resolve_left c_3
  refine lv_iload_n hx hb dX9_foreseen_13 rfl (lv_at hl 2 rfl) ?_
  refine lv_if_lt (tgt := 23) hx hb dX9_foreseen_14 (by decide) (fun c_5 => ?_) (fun c_5 => ?_)
  · refine lv_iconst (v := (-1)) hx hb dX9_foreseen_23 (by decide) ?_
    exact ret_i hx hb hr hlocks rfl (u := (0, se)) trivial (hP.sub [0, 1, 2] rfl) (hK.sub [] rfl) (hD.sub [0, 1, 2] (by decide) rfl) hS (Nat.le_of_ble_eq_true rfl) (Nat.le_of_ble_eq_true rfl) dX9_foreseen_24
  refine lv_iload_n hx hb dX9_foreseen_17 rfl (lv_at hl 2 rfl) ?_
  refine lv_ldc hx hb hown (hts _ (List.mem_of_getElem? (i := 2) rfl)) dX9_foreseen_18 ?_
  refine lv_topi (fun y_6 _ => ?_)
  refine lv_icmp_le (tgt := 25) hx hb dX9_foreseen_20 (by decide) (fun c_7 => ?_) (fun c_7 => ?_)
  · refine lv_aload_n hx hb dX9_foreseen_25 rfl (lv_at hl 0 rfl) ?_
    refine lv_iload_n hx hb dX9_foreseen_26 rfl (lv_at hl 1 rfl) ?_
    refine lv_iload_n hx hb dX9_foreseen_27 rfl (lv_at hl 2 rfl) ?_
    refine go_i (wr := []) (tysr := [(cI, .int)]) hP hD hS hA hK [0, 1, 2] [] [0] rfl rfl (by decide) (by decide) rfl (va_runV (As := [.int v, .int w]) (rest := []) ⟨hx, hb, hml, hown, hts⟩ (m_go l D H.size cI h0 a0 a1 a2 a3 a4 a5 a6 a7 a8 a9 ab tk mm wm fa 0 se g1 g2 v w (by first | assumption | (clear hml hsz hr hlocks; omega) | decide)) (cwV 2 hts gX9_foreseen_X9_go rfl rfl rfl (by decide +kernel) ⟨Nat.le_of_ble_eq_true rfl, Nat.le_of_ble_eq_true rfl⟩) (st_preV (ci := 8) (q0 := 0) hP hD hK hNW [0, 1, 2] [0] rfl rfl (by decide) rfl rfl rfl rfl) rfl rfl hl.1 rfl (lv_room (Nat.le_of_ble_eq_true rfl)) dX9_foreseen_28 ⟨(Nat.le_of_ble_eq_true rfl), (Nat.le_of_ble_eq_true rfl)⟩) (fun r_8 u H locs hw hP hD hK hS => ?_)
    obtain ⟨se_9, rfl⟩ : ∃ z, z = u := ⟨_, rfl⟩
    have hP : va_P D vwCl [(h0, .inr (8, [.ref a0, .int tk, .ref a1, .int mm, .ref a2, .ref a3, .ref a4, .ref a5, .ref a6, .ref a7, .int wm, .int fa, .int 0, .int se_9, .ref a8, .ref a9, .ref ab])), (a1, .inl (cI, 80, .inl g1)), (a2, .inl (cI, 128, .inl g2))] H := hP
    have hD : va_D A [(h0, .inr (8, [.ref a0, .int tk, .ref a1, .int mm, .ref a2, .ref a3, .ref a4, .ref a5, .ref a6, .ref a7, .int wm, .int fa, .int 0, .int se_9, .ref a8, .ref a9, .ref ab])), (a1, .inl (cI, 80, .inl g1)), (a2, .inl (cI, 128, .inl g2))] := hD
    have hK : va_K D vwCl [(cI, .int)] s := hK
    refine lv_pop hx hb dX9_foreseen_31 rfl ?_
    refine lv_aload_n hx hb dX9_foreseen_32 rfl (lv_at hl 0 rfl) ?_
    refine va_get (D := D) (ci := 8) (v := .int se_9) (C := RX9) (T := TX9) (N := 17) hx hb hts him_foreseen_X9 hown hK hP 0 rfl rfl 13 (by decide) (hts (.fieldLink RX9 142 "OneHandsetModel" "seen" "I") (List.mem_of_getElem? (i := 3) rfl)) (fun _ h9 => h9) rfl dX9_foreseen_33 ?_
    exact ret_i hx hb hr hlocks rfl (u := (0, se_9)) trivial (hP.sub [0, 1, 2] rfl) (hK.sub [] rfl) (hD.sub [0, 1, 2] (by decide) rfl) hS (Nat.le_of_ble_eq_true rfl) (Nat.le_of_ble_eq_true rfl) dX9_foreseen_36
  refine lv_iconst (v := (-1)) hx hb dX9_foreseen_23 (by decide) ?_
  exact ret_i hx hb hr hlocks rfl (u := (0, se)) trivial (hP.sub [0, 1, 2] rfl) (hK.sub [] rfl) (hD.sub [0, 1, 2] (by decide) rfl) hS (Nat.le_of_ble_eq_true rfl) (Nat.le_of_ble_eq_true rfl) dX9_foreseen_24
theorem him_both_X9 : ∀ w ∈ wsX90, w ∈ wsX9_both := mem_pl [59, 60, 61, 62, 63, 64, 65, 66, 67, 68, 69, 70, 71, 72, 73, 74, 75] rfl
set_option maxHeartbeats 4000000 in
set_option maxRecDepth 100000 in
theorem m_both (l : Launch) (D : va_G) (sz : Nat) (cI : ClassId) (h0 : Nat) (a0 : Nat) (a1 : Nat) (a2 : Nat) (a3 : Nat) (a4 : Nat) (a5 : Nat) (a6 : Nat) (a7 : Nat) (a8 : Nat) (a9 : Nat) (ab : Nat) (tk : Int32) (mm : Int32) (wm : Int32) (fa : Int32) (th : Int32) (se : Int32) (g1 : Nat → Int32) (g2 : Nat → Int32) (v : Int32) (w : Int32) (hmm : bi mm 0 8) : Ci l yX9_both wsX9_both ({ frames := 4, cells := 0, slots := 0, locals := 95 } : Room) D [.ref h0, .int v, .int w] [(h0, .inr (8, [.ref a0, .int tk, .ref a1, .int mm, .ref a2, .ref a3, .ref a4, .ref a5, .ref a6, .ref a7, .int wm, .int fa, .int th, .int se, .ref a8, .ref a9, .ref ab])), (a1, .inl (cI, 80, .inl g1)), (a2, .inl (cI, 128, .inl g2))] [(cI, .int)] sz (fun (r : Int32) => fun (th2 : Int32) => True) (fun (th2 : Int32) => [(h0, .inr (8, [.ref a0, .int tk, .ref a1, .int mm, .ref a2, .ref a3, .ref a4, .ref a5, .ref a6, .ref a7, .int wm, .int fa, .int th2, .int se, .ref a8, .ref a9, .ref ab])), (a1, .inl (cI, 80, .inl g1)), (a2, .inl (cI, 128, .inl g2))]) (fun (th2 : Int32) => []) := by
  refine ct_i (cc := cX9_both) (maxL := 9) (ret := (some .int)) (by decide) rfl (Nat.le_of_ble_eq_true rfl) ?_
  intro p e s m below meth c A ls H hx hb hr hts hown hml hlocks hin hA hS hP hK hD hNW hl hAe hsz
  have hl : lv_has ls 9 [(0, .ref h0), (1, .int v), (2, .int w)] := hl
  refine lv_aload_n hx hb dX9_both_0 rfl (lv_at hl 0 rfl) ?_
  refine lv_iconst (v := 0) hx hb dX9_both_1 (by decide) ?_
  refine va_put (D := D) (ci := 8) (v := .int 0) (ty := .int) (C := RX9) (T := TX9) (N := 17) hx hb hts him_both_X9 tyX9 tyX9_ok nmX9 hown hK hP hD hS 0 rfl rfl 12 (by decide) (hts (.fieldLink RX9 43 "OneHandsetModel" "thrown" "I") (List.mem_of_getElem? (i := 1) rfl)) (fun _ h9 => h9) rfl (by decide +kernel) rfl rfl (Nat.le_of_ble_eq_true rfl) dX9_both_2 (fun H locs hP hD hS => ?_)
  have hP : va_P D vwCl [(h0, .inr (8, [.ref a0, .int tk, .ref a1, .int mm, .ref a2, .ref a3, .ref a4, .ref a5, .ref a6, .ref a7, .int wm, .int fa, .int 0, .int se, .ref a8, .ref a9, .ref ab])), (a1, .inl (cI, 80, .inl g1)), (a2, .inl (cI, 128, .inl g2))] H := hP
  have hD : va_D A [(h0, .inr (8, [.ref a0, .int tk, .ref a1, .int mm, .ref a2, .ref a3, .ref a4, .ref a5, .ref a6, .ref a7, .int wm, .int fa, .int 0, .int se, .ref a8, .ref a9, .ref ab])), (a1, .inl (cI, 80, .inl g1)), (a2, .inl (cI, 128, .inl g2))] := hD
  refine lv_aload_n hx hb dX9_both_5 rfl (lv_at hl 0 rfl) ?_
  refine lv_iload_n hx hb dX9_both_6 rfl (lv_at hl 1 rfl) ?_
  refine go_i (wr := []) (tysr := [(cI, .int)]) hP hD hS hA hK [0, 1, 2] [] [0] rfl rfl (by decide) (by decide) rfl (va_runV (As := [.int v]) (rest := []) ⟨hx, hb, hml, hown, hts⟩ (m_canForesee l D H.size cI h0 a0 a1 a2 a3 a4 a5 a6 a7 a8 a9 ab tk mm wm fa 0 se g1 g2 v (by first | assumption | (clear hml hsz hr hlocks; omega) | decide)) (cwV 1 hts gX9_both_X9_canForesee rfl rfl rfl (by decide +kernel) ⟨Nat.le_of_ble_eq_true rfl, Nat.le_of_ble_eq_true rfl⟩) (st_preV (ci := 8) (q0 := 0) hP hD hK hNW [0, 1, 2] [0] rfl rfl (by decide) rfl rfl rfl rfl) rfl rfl hl.1 rfl (lv_room (Nat.le_of_ble_eq_true rfl)) dX9_both_7 ⟨(Nat.le_of_ble_eq_true rfl), (Nat.le_of_ble_eq_true rfl)⟩) (fun r_1 u H locs hw hP hD hK hS => ?_)
  have hw : r_1 = 0 ∨ (0 ≤ v.toInt ∧ v.toInt < mm.toInt) := hw
  have hw_2 := hw
  have hP : va_P D vwCl [(h0, .inr (8, [.ref a0, .int tk, .ref a1, .int mm, .ref a2, .ref a3, .ref a4, .ref a5, .ref a6, .ref a7, .int wm, .int fa, .int 0, .int se, .ref a8, .ref a9, .ref ab])), (a1, .inl (cI, 80, .inl g1)), (a2, .inl (cI, 128, .inl g2))] H := hP
  have hD : va_D A [(h0, .inr (8, [.ref a0, .int tk, .ref a1, .int mm, .ref a2, .ref a3, .ref a4, .ref a5, .ref a6, .ref a7, .int wm, .int fa, .int 0, .int se, .ref a8, .ref a9, .ref ab])), (a1, .inl (cI, 80, .inl g1)), (a2, .inl (cI, 128, .inl g2))] := hD
  have hK : va_K D vwCl [(cI, .int)] s := hK
  refine lv_if_eq (tgt := 36) hx hb dX9_both_10 (by decide) (fun c_3 => ?_) (fun c_3 => ?_)
  · refine lv_iconst (v := (-1)) hx hb dX9_both_36 (by decide) ?_
    exact ret_i hx hb hr hlocks rfl (u := 0) trivial (hP.sub [0, 1, 2] rfl) (hK.sub [] rfl) (hD.sub [0, 1, 2] (by decide) rfl) hS (Nat.le_of_ble_eq_true rfl) (Nat.le_of_ble_eq_true rfl) dX9_both_37
  have hc0_4 : 0 ≤ v.toInt ∧ v.toInt < mm.toInt := (hw_2).resolve_left c_3
  refine lv_aload_n hx hb dX9_both_13 rfl (lv_at hl 0 rfl) ?_
  refine lv_iload_n hx hb dX9_both_14 rfl (lv_at hl 2 rfl) ?_
  refine go_i (wr := []) (tysr := [(cI, .int)]) hP hD hS hA hK [0, 1, 2] [] [0] rfl rfl (by decide) (by decide) rfl (va_runV (As := [.int w]) (rest := []) ⟨hx, hb, hml, hown, hts⟩ (m_canForesee l D H.size cI h0 a0 a1 a2 a3 a4 a5 a6 a7 a8 a9 ab tk mm wm fa 0 se g1 g2 w (by first | assumption | (clear hml hsz hr hlocks; omega) | decide)) (cwV 1 hts gX9_both_X9_canForesee rfl rfl rfl (by decide +kernel) ⟨Nat.le_of_ble_eq_true rfl, Nat.le_of_ble_eq_true rfl⟩) (st_preV (ci := 8) (q0 := 0) hP hD hK hNW [0, 1, 2] [0] rfl rfl (by decide) rfl rfl rfl rfl) rfl rfl hl.1 rfl (lv_room (Nat.le_of_ble_eq_true rfl)) dX9_both_15 ⟨(Nat.le_of_ble_eq_true rfl), (Nat.le_of_ble_eq_true rfl)⟩) (fun r_5 u H locs hw hP hD hK hS => ?_)
  have hw : r_5 = 0 ∨ (0 ≤ w.toInt ∧ w.toInt < mm.toInt) := hw
  have hw_6 := hw
  have hP : va_P D vwCl [(h0, .inr (8, [.ref a0, .int tk, .ref a1, .int mm, .ref a2, .ref a3, .ref a4, .ref a5, .ref a6, .ref a7, .int wm, .int fa, .int 0, .int se, .ref a8, .ref a9, .ref ab])), (a1, .inl (cI, 80, .inl g1)), (a2, .inl (cI, 128, .inl g2))] H := hP
  have hD : va_D A [(h0, .inr (8, [.ref a0, .int tk, .ref a1, .int mm, .ref a2, .ref a3, .ref a4, .ref a5, .ref a6, .ref a7, .int wm, .int fa, .int 0, .int se, .ref a8, .ref a9, .ref ab])), (a1, .inl (cI, 80, .inl g1)), (a2, .inl (cI, 128, .inl g2))] := hD
  have hK : va_K D vwCl [(cI, .int)] s := hK
  refine lv_if_eq (tgt := 36) hx hb dX9_both_18 (by decide) (fun c_7 => ?_) (fun c_7 => ?_)
  · refine lv_iconst (v := (-1)) hx hb dX9_both_36 (by decide) ?_
    exact ret_i hx hb hr hlocks rfl (u := 0) trivial (hP.sub [0, 1, 2] rfl) (hK.sub [] rfl) (hD.sub [0, 1, 2] (by decide) rfl) hS (Nat.le_of_ble_eq_true rfl) (Nat.le_of_ble_eq_true rfl) dX9_both_37
  have hc1_8 : 0 ≤ w.toInt ∧ w.toInt < mm.toInt := (hw_6).resolve_left c_7
  refine lv_aload_n hx hb dX9_both_21 rfl (lv_at hl 0 rfl) ?_
  refine lv_iload_n hx hb dX9_both_22 rfl (lv_at hl 1 rfl) ?_
  refine lv_iconst (v := 1) hx hb dX9_both_23 (by decide) ?_
  refine go_i (wr := [(a2, .inl (cI, 128, .inl g2))]) (tysr := [(cI, .int)]) hP hD hS hA hK [0, 1] [2] [0] rfl rfl (by decide) (by decide) rfl (va_runV (As := [.int v, .int 1]) (rest := []) ⟨hx, hb, hml, hown, hts⟩ (m_get l D H.size cI h0 a0 a1 a2 a3 a4 a5 a6 a7 a8 a9 ab tk mm wm fa 0 se g1 v 1 (by first | assumption | (clear hml hsz hr hlocks; omega) | decide) (by first | assumption | (clear hml hsz hr hlocks; omega) | decide)) (cwV 2 hts gX9_both_X9_get rfl rfl rfl (by decide +kernel) ⟨Nat.le_of_ble_eq_true rfl, Nat.le_of_ble_eq_true rfl⟩) (st_preV (ci := 8) (q0 := 0) hP hD hK hNW [0, 1] [0] rfl rfl (by decide) rfl rfl rfl rfl) rfl rfl hl.1 rfl (lv_room (Nat.le_of_ble_eq_true rfl)) dX9_both_24 ⟨(Nat.le_of_ble_eq_true rfl), (Nat.le_of_ble_eq_true rfl)⟩) (fun r_9 u H locs hw hP hD hK hS => ?_)
  have hw : r_9 = g1 (Int32.toNatClampNeg (10 * v + 1)) := hw
  subst hw
  have hP : va_P D vwCl [(a2, .inl (cI, 128, .inl g2)), (h0, .inr (8, [.ref a0, .int tk, .ref a1, .int mm, .ref a2, .ref a3, .ref a4, .ref a5, .ref a6, .ref a7, .int wm, .int fa, .int 0, .int se, .ref a8, .ref a9, .ref ab])), (a1, .inl (cI, 80, .inl g1))] H := hP
  have hD : va_D A [(a2, .inl (cI, 128, .inl g2)), (h0, .inr (8, [.ref a0, .int tk, .ref a1, .int mm, .ref a2, .ref a3, .ref a4, .ref a5, .ref a6, .ref a7, .int wm, .int fa, .int 0, .int se, .ref a8, .ref a9, .ref ab])), (a1, .inl (cI, 80, .inl g1))] := hD
  have hK : va_K D vwCl [(cI, .int)] s := hK
  refine lv_aload_n hx hb dX9_both_27 rfl (lv_at hl 0 rfl) ?_
  refine lv_iload_n hx hb dX9_both_28 rfl (lv_at hl 2 rfl) ?_
  refine lv_iconst (v := 1) hx hb dX9_both_29 (by decide) ?_
  refine go_i (wr := [(a2, .inl (cI, 128, .inl g2))]) (tysr := [(cI, .int)]) hP hD hS hA hK [1, 2] [0] [0] rfl rfl (by decide) (by decide) rfl (va_runV (As := [.int w, .int 1]) (rest := [.int (g1 (Int32.toNatClampNeg (10 * v + 1)))]) ⟨hx, hb, hml, hown, hts⟩ (m_get l D H.size cI h0 a0 a1 a2 a3 a4 a5 a6 a7 a8 a9 ab tk mm wm fa 0 se g1 w 1 (by first | assumption | (clear hml hsz hr hlocks; omega) | decide) (by first | assumption | (clear hml hsz hr hlocks; omega) | decide)) (cwV 2 hts gX9_both_X9_get rfl rfl rfl (by decide +kernel) ⟨Nat.le_of_ble_eq_true rfl, Nat.le_of_ble_eq_true rfl⟩) (st_preV (ci := 8) (q0 := 1) hP hD hK hNW [1, 2] [0] rfl rfl (by decide) rfl rfl rfl rfl) rfl rfl hl.1 rfl (lv_room (Nat.le_of_ble_eq_true rfl)) dX9_both_30 ⟨(Nat.le_of_ble_eq_true rfl), (Nat.le_of_ble_eq_true rfl)⟩) (fun r_10 u H locs hw hP hD hK hS => ?_)
  have hw : r_10 = g1 (Int32.toNatClampNeg (10 * w + 1)) := hw
  subst hw
  have hP : va_P D vwCl [(a2, .inl (cI, 128, .inl g2)), (h0, .inr (8, [.ref a0, .int tk, .ref a1, .int mm, .ref a2, .ref a3, .ref a4, .ref a5, .ref a6, .ref a7, .int wm, .int fa, .int 0, .int se, .ref a8, .ref a9, .ref ab])), (a1, .inl (cI, 80, .inl g1))] H := hP
  have hD : va_D A [(a2, .inl (cI, 128, .inl g2)), (h0, .inr (8, [.ref a0, .int tk, .ref a1, .int mm, .ref a2, .ref a3, .ref a4, .ref a5, .ref a6, .ref a7, .int wm, .int fa, .int 0, .int se, .ref a8, .ref a9, .ref ab])), (a1, .inl (cI, 80, .inl g1))] := hD
  have hK : va_K D vwCl [(cI, .int)] s := hK
  refine lv_icmp_eq (tgt := 38) hx hb dX9_both_33 (by decide) (fun c_11 => ?_) (fun c_11 => ?_)
  · refine jn_S 64 (fun st9 H locs ls => ∃ (q_12 : Int32), st9 = [.int q_12] ∧ (va_P D vwCl [(a2, .inl (cI, 128, .inl g2)), (h0, .inr (8, [.ref a0, .int tk, .ref a1, .int mm, .ref a2, .ref a3, .ref a4, .ref a5, .ref a6, .ref a7, .int wm, .int fa, .int 0, .int se, .ref a8, .ref a9, .ref ab])), (a1, .inl (cI, 80, .inl g1))] H ∧ va_D A [(a2, .inl (cI, 128, .inl g2)), (h0, .inr (8, [.ref a0, .int tk, .ref a1, .int mm, .ref a2, .ref a3, .ref a4, .ref a5, .ref a6, .ref a7, .int wm, .int fa, .int 0, .int se, .ref a8, .ref a9, .ref ab])), (a1, .inl (cI, 80, .inl g1))]) ∧ va_S A s.heap H locs ∧ lv_has ls 9 [(0, .ref h0), (1, .int v), (2, .int w)]) ?_ ?_
    · intro st9 H locs ls hI
      obtain ⟨q_12, rfl, ⟨hP, hD⟩, hS, hl⟩ := hI
      refine lv_istore_n (lv' := [(3, .int q_12), (0, .ref h0), (1, .int v), (2, .int w)]) hx hb dX9_both_64 rfl hl (by decide) rfl (fun ls hl => ?_)
      refine jn_S 76 (fun st9 H locs ls => ∃ (q_14 : Int32), st9 = [.int q_14] ∧ (va_P D vwCl [(a2, .inl (cI, 128, .inl g2)), (h0, .inr (8, [.ref a0, .int tk, .ref a1, .int mm, .ref a2, .ref a3, .ref a4, .ref a5, .ref a6, .ref a7, .int wm, .int fa, .int 0, .int se, .ref a8, .ref a9, .ref ab])), (a1, .inl (cI, 80, .inl g1))] H ∧ va_D A [(a2, .inl (cI, 128, .inl g2)), (h0, .inr (8, [.ref a0, .int tk, .ref a1, .int mm, .ref a2, .ref a3, .ref a4, .ref a5, .ref a6, .ref a7, .int wm, .int fa, .int 0, .int se, .ref a8, .ref a9, .ref ab])), (a1, .inl (cI, 80, .inl g1))]) ∧ va_S A s.heap H locs ∧ lv_has ls 9 [(3, .int q_12), (0, .ref h0), (1, .int v), (2, .int w)]) ?_ ?_
      · intro st9 H locs ls hI
        obtain ⟨q_14, rfl, ⟨hP, hD⟩, hS, hl⟩ := hI
        refine lv_istore (lv' := [(4, .int q_14), (3, .int q_12), (0, .ref h0), (1, .int v), (2, .int w)]) hx hb dX9_both_76 hl (by decide) rfl (fun ls hl => ?_)
        refine lv_iconst (v := 0) hx hb dX9_both_78 (by decide) ?_
        refine lv_istore (lv' := [(5, .int 0), (4, .int q_14), (3, .int q_12), (0, .ref h0), (1, .int v), (2, .int w)]) hx hb dX9_both_79 hl (by decide) rfl (fun ls hl => ?_)
        refine lv_iconst (v := 1) hx hb dX9_both_81 (by decide) ?_
        refine lv_istore (lv' := [(6, .int 1), (5, .int 0), (4, .int q_14), (3, .int q_12), (0, .ref h0), (1, .int v), (2, .int w)]) hx hb dX9_both_82 hl (by decide) rfl (fun ls hl => ?_)
        refine lp_N (fun n9 H locs ls => ∃ (x_16 : Int32), ∃ (w9_17 : Int32), n9 = (if w9_17 = 0 then 0 else (q_12 - x_16).toBitVec.toNat + 1) ∧ (va_P D vwCl [(a2, .inl (cI, 128, .inl g2)), (h0, .inr (8, [.ref a0, .int tk, .ref a1, .int mm, .ref a2, .ref a3, .ref a4, .ref a5, .ref a6, .ref a7, .int wm, .int fa, .int 0, .int se, .ref a8, .ref a9, .ref ab])), (a1, .inl (cI, 80, .inl g1))] H ∧ va_D A [(a2, .inl (cI, 128, .inl g2)), (h0, .inr (8, [.ref a0, .int tk, .ref a1, .int mm, .ref a2, .ref a3, .ref a4, .ref a5, .ref a6, .ref a7, .int wm, .int fa, .int 0, .int se, .ref a8, .ref a9, .ref ab])), (a1, .inl (cI, 80, .inl g1))]) ∧ va_S A s.heap H locs ∧ lv_has ls 9 [(6, .int w9_17), (5, .int x_16), (4, .int q_14), (3, .int q_12), (0, .ref h0), (1, .int v), (2, .int w)]) ?_ ⟨0, 1, rfl, ⟨hP, hD⟩, hS, hl⟩
        intro n9 ih_18 H locs ls hI
        obtain ⟨x_16, w9_17, rfl, ⟨hP, hD⟩, hS, hl⟩ := hI
        refine lv_iload hx hb dX9_both_84 (lv_at hl 0 rfl) ?_
        refine lv_if_eq (tgt := 183) hx hb dX9_both_86 (by decide) (fun c_20 => ?_) (fun c_20 => ?_)
        · refine lv_bipush (v := (-2)) hx hb dX9_both_183 (by decide) ?_
          exact ret_i hx hb hr hlocks rfl (u := 0) trivial (hP.sub [1, 2, 0] rfl) (hK.sub [] rfl) (hD.sub [1, 2, 0] (by decide) rfl) hS (Nat.le_of_ble_eq_true rfl) (Nat.le_of_ble_eq_true rfl) dX9_both_185
        refine lv_iload hx hb dX9_both_89 (lv_at hl 2 rfl) ?_
        refine lv_iload hx hb dX9_both_91 (lv_at hl 1 rfl) ?_
        refine lv_ior hx hb dX9_both_93 ?_
        refine lv_istore (lv' := [(7, .int (q_14 ||| x_16)), (6, .int w9_17), (5, .int x_16), (4, .int q_14), (3, .int q_12), (0, .ref h0), (1, .int v), (2, .int w)]) hx hb dX9_both_94 hl (by decide) rfl (fun ls hl => ?_)
        refine jn_S 129 (fun st9 H locs ls => ∃ (q_21 : Int32), st9 = [.int q_21] ∧ (va_P D vwCl [(a2, .inl (cI, 128, .inl g2)), (h0, .inr (8, [.ref a0, .int tk, .ref a1, .int mm, .ref a2, .ref a3, .ref a4, .ref a5, .ref a6, .ref a7, .int wm, .int fa, .int 0, .int se, .ref a8, .ref a9, .ref ab])), (a1, .inl (cI, 80, .inl g1))] H ∧ va_D A [(a2, .inl (cI, 128, .inl g2)), (h0, .inr (8, [.ref a0, .int tk, .ref a1, .int mm, .ref a2, .ref a3, .ref a4, .ref a5, .ref a6, .ref a7, .int wm, .int fa, .int 0, .int se, .ref a8, .ref a9, .ref ab])), (a1, .inl (cI, 80, .inl g1))]) ∧ va_S A s.heap H locs ∧ lv_has ls 9 [(7, .int (q_14 ||| x_16)), (6, .int w9_17), (5, .int x_16), (4, .int q_14), (3, .int q_12), (0, .ref h0), (1, .int v), (2, .int w)]) ?_ ?_
        · intro st9 H locs ls hI
          obtain ⟨q_21, rfl, ⟨hP, hD⟩, hS, hl⟩ := hI
          refine lv_istore (lv' := [(8, .int q_21), (7, .int (q_14 ||| x_16)), (6, .int w9_17), (5, .int x_16), (4, .int q_14), (3, .int q_12), (0, .ref h0), (1, .int v), (2, .int w)]) hx hb dX9_both_129 hl (by decide) rfl (fun ls hl => ?_)
          refine jn_S 159 (fun st9 H locs ls => st9 = [] ∧ (va_P D vwCl [(a2, .inl (cI, 128, .inl g2)), (h0, .inr (8, [.ref a0, .int tk, .ref a1, .int mm, .ref a2, .ref a3, .ref a4, .ref a5, .ref a6, .ref a7, .int wm, .int fa, .int 0, .int se, .ref a8, .ref a9, .ref ab])), (a1, .inl (cI, 80, .inl g1))] H ∧ va_D A [(a2, .inl (cI, 128, .inl g2)), (h0, .inr (8, [.ref a0, .int tk, .ref a1, .int mm, .ref a2, .ref a3, .ref a4, .ref a5, .ref a6, .ref a7, .int wm, .int fa, .int 0, .int se, .ref a8, .ref a9, .ref ab])), (a1, .inl (cI, 80, .inl g1))]) ∧ va_S A s.heap H locs ∧ lv_has ls 9 [(8, .int q_21), (7, .int (q_14 ||| x_16)), (6, .int w9_17), (5, .int x_16), (4, .int q_14), (3, .int q_12), (0, .ref h0), (1, .int v), (2, .int w)]) ?_ ?_
          · intro st9 H locs ls hI
            obtain ⟨rfl, ⟨hP, hD⟩, hS, hl⟩ := hI
            refine jn_S 170 (fun st9 H locs ls => ∃ (q_24 : Int32), st9 = [.int q_24] ∧ (va_P D vwCl [(a2, .inl (cI, 128, .inl g2)), (h0, .inr (8, [.ref a0, .int tk, .ref a1, .int mm, .ref a2, .ref a3, .ref a4, .ref a5, .ref a6, .ref a7, .int wm, .int fa, .int 0, .int se, .ref a8, .ref a9, .ref ab])), (a1, .inl (cI, 80, .inl g1))] H ∧ va_D A [(a2, .inl (cI, 128, .inl g2)), (h0, .inr (8, [.ref a0, .int tk, .ref a1, .int mm, .ref a2, .ref a3, .ref a4, .ref a5, .ref a6, .ref a7, .int wm, .int fa, .int 0, .int se, .ref a8, .ref a9, .ref ab])), (a1, .inl (cI, 80, .inl g1))]) ∧ va_S A s.heap H locs ∧ lv_has ls 9 [(8, .int q_21), (7, .int (q_14 ||| x_16)), (6, .int w9_17), (5, .int x_16), (4, .int q_14), (3, .int q_12), (0, .ref h0), (1, .int v), (2, .int w)] ∧ (q_24 = 0 ∨ ¬ x_16 = q_12)) ?_ ?_
            · intro st9 H locs ls hI
              obtain ⟨q_24, rfl, ⟨hP, hD⟩, hS, hl, hv_25⟩ := hI
              refine lv_istore (lv' := [(6, .int q_24), (8, .int q_21), (7, .int (q_14 ||| x_16)), (5, .int x_16), (4, .int q_14), (3, .int q_12), (0, .ref h0), (1, .int v), (2, .int w)]) hx hb dX9_both_170 hl (by decide) rfl (fun ls hl => ?_)
              refine lv_iload hx hb dX9_both_172 (lv_at hl 3 rfl) ?_
              refine lv_iload_n hx hb dX9_both_174 rfl (lv_at hl 5 rfl) ?_
              refine lv_isub hx hb dX9_both_175 ?_
              refine lv_iload_n hx hb dX9_both_176 rfl (lv_at hl 5 rfl) ?_
              refine lv_iand hx hb dX9_both_177 ?_
              refine lv_istore (lv' := [(5, .int ((x_16 - q_12) &&& q_12)), (6, .int q_24), (8, .int q_21), (7, .int (q_14 ||| x_16)), (4, .int q_14), (3, .int q_12), (0, .ref h0), (1, .int v), (2, .int w)]) hx hb dX9_both_178 hl (by decide) rfl (fun ls hl => ?_)
              refine lv_goto (tgt := 84) hx hb dX9_both_180 (by decide) ?_
              exact ih_18 _ _ _ _ (go_dec c_20 hv_25) ⟨(x_16 - q_12) &&& q_12, q_24, rfl, ⟨hP, hD⟩, hS, lv_sub hl [1, 0, 4, 5, 6, 7, 8] rfl⟩
            · intro hJ_26
              refine lv_iload hx hb dX9_both_159 (lv_at hl 3 rfl) ?_
              refine lv_iload_n hx hb dX9_both_161 rfl (lv_at hl 5 rfl) ?_
              refine lv_icmp_eq (tgt := 169) hx hb dX9_both_162 (by decide) (fun c_27 => ?_) (fun c_27 => ?_)
              · refine lv_iconst (v := 0) hx hb dX9_both_169 (by decide) ?_
                exact hJ_26 _ _ _ _ ⟨0, rfl, ⟨hP, hD⟩, hS, lv_sub hl [0, 1, 2, 3, 4, 5, 6, 7, 8] rfl, (Or.inl rfl)⟩
              refine lv_iconst (v := 1) hx hb dX9_both_165 (by decide) ?_
              refine lv_goto (tgt := 170) hx hb dX9_both_166 (by decide) ?_
              exact hJ_26 _ _ _ _ ⟨1, rfl, ⟨hP, hD⟩, hS, lv_sub hl [0, 1, 2, 3, 4, 5, 6, 7, 8] rfl, (Or.inr c_27)⟩
          · intro hJ_28
            refine lv_iload hx hb dX9_both_131 (lv_at hl 0 rfl) ?_
            refine lv_if_eq (tgt := 159) hx hb dX9_both_133 (by decide) (fun c_29 => ?_) (fun c_29 => ?_)
            · exact hJ_28 _ _ _ _ ⟨rfl, ⟨hP, hD⟩, hS, lv_sub hl [0, 1, 2, 3, 4, 5, 6, 7, 8] rfl⟩
            refine lv_aload_n hx hb dX9_both_136 rfl (lv_at hl 6 rfl) ?_
            refine lv_iload_n hx hb dX9_both_137 rfl (lv_at hl 7 rfl) ?_
            refine lv_iload hx hb dX9_both_138 (lv_at hl 1 rfl) ?_
            refine go_i (wr := []) (tysr := [(cI, .int)]) hP hD hS hA hK [1, 2, 0] [] [0] rfl rfl (by decide) (by decide) rfl (va_runV (As := [.int v, .int (q_14 ||| x_16)]) (rest := []) ⟨hx, hb, hml, hown, hts⟩ (m_isForeseen l D H.size cI h0 a0 a1 a2 a3 a4 a5 a6 a7 a8 a9 ab tk mm wm fa 0 se g1 g2 v (q_14 ||| x_16) (by first | assumption | (clear hml hsz hr hlocks; omega) | decide)) (cwV 2 hts gX9_both_X9_isForeseen rfl rfl rfl (by decide +kernel) ⟨Nat.le_of_ble_eq_true rfl, Nat.le_of_ble_eq_true rfl⟩) (st_preV (ci := 8) (q0 := 1) hP hD hK hNW [1, 2, 0] [0] rfl rfl (by decide) rfl rfl rfl rfl) rfl rfl hl.1 rfl (lv_room (Nat.le_of_ble_eq_true rfl)) dX9_both_140 ⟨(Nat.le_of_ble_eq_true rfl), (Nat.le_of_ble_eq_true rfl)⟩) (fun r_30 u H locs hw hP hD hK hS => ?_)
            have hP : va_P D vwCl [(h0, .inr (8, [.ref a0, .int tk, .ref a1, .int mm, .ref a2, .ref a3, .ref a4, .ref a5, .ref a6, .ref a7, .int wm, .int fa, .int 0, .int se, .ref a8, .ref a9, .ref ab])), (a1, .inl (cI, 80, .inl g1)), (a2, .inl (cI, 128, .inl g2))] H := hP
            have hD : va_D A [(h0, .inr (8, [.ref a0, .int tk, .ref a1, .int mm, .ref a2, .ref a3, .ref a4, .ref a5, .ref a6, .ref a7, .int wm, .int fa, .int 0, .int se, .ref a8, .ref a9, .ref ab])), (a1, .inl (cI, 80, .inl g1)), (a2, .inl (cI, 128, .inl g2))] := hD
            have hK : va_K D vwCl [(cI, .int)] s := hK
            refine lv_if_eq (tgt := 159) hx hb dX9_both_143 (by decide) (fun c_31 => ?_) (fun c_31 => ?_)
            · exact hJ_28 _ _ _ _ ⟨rfl, ⟨hP.sub [2, 0, 1] rfl, hD.sub [2, 0, 1] (by decide) rfl⟩, hS, lv_sub hl [0, 1, 2, 3, 4, 5, 6, 7, 8] rfl⟩
            refine lv_aload_n hx hb dX9_both_146 rfl (lv_at hl 6 rfl) ?_
            refine lv_iload_n hx hb dX9_both_147 rfl (lv_at hl 8 rfl) ?_
            refine lv_iload hx hb dX9_both_148 (lv_at hl 1 rfl) ?_
            refine go_i (wr := []) (tysr := [(cI, .int)]) hP hD hS hA hK [0, 1, 2] [] [0] rfl rfl (by decide) (by decide) rfl (va_runV (As := [.int w, .int (q_14 ||| x_16)]) (rest := []) ⟨hx, hb, hml, hown, hts⟩ (m_isForeseen l D H.size cI h0 a0 a1 a2 a3 a4 a5 a6 a7 a8 a9 ab tk mm wm fa 0 se g1 g2 w (q_14 ||| x_16) (by first | assumption | (clear hml hsz hr hlocks; omega) | decide)) (cwV 2 hts gX9_both_X9_isForeseen rfl rfl rfl (by decide +kernel) ⟨Nat.le_of_ble_eq_true rfl, Nat.le_of_ble_eq_true rfl⟩) (st_preV (ci := 8) (q0 := 0) hP hD hK hNW [0, 1, 2] [0] rfl rfl (by decide) rfl rfl rfl rfl) rfl rfl hl.1 rfl (lv_room (Nat.le_of_ble_eq_true rfl)) dX9_both_150 ⟨(Nat.le_of_ble_eq_true rfl), (Nat.le_of_ble_eq_true rfl)⟩) (fun r_32 u H locs hw hP hD hK hS => ?_)
            have hP : va_P D vwCl [(h0, .inr (8, [.ref a0, .int tk, .ref a1, .int mm, .ref a2, .ref a3, .ref a4, .ref a5, .ref a6, .ref a7, .int wm, .int fa, .int 0, .int se, .ref a8, .ref a9, .ref ab])), (a1, .inl (cI, 80, .inl g1)), (a2, .inl (cI, 128, .inl g2))] H := hP
            have hD : va_D A [(h0, .inr (8, [.ref a0, .int tk, .ref a1, .int mm, .ref a2, .ref a3, .ref a4, .ref a5, .ref a6, .ref a7, .int wm, .int fa, .int 0, .int se, .ref a8, .ref a9, .ref ab])), (a1, .inl (cI, 80, .inl g1)), (a2, .inl (cI, 128, .inl g2))] := hD
            have hK : va_K D vwCl [(cI, .int)] s := hK
            refine lv_if_eq (tgt := 159) hx hb dX9_both_153 (by decide) (fun c_33 => ?_) (fun c_33 => ?_)
            · exact hJ_28 _ _ _ _ ⟨rfl, ⟨hP.sub [2, 0, 1] rfl, hD.sub [2, 0, 1] (by decide) rfl⟩, hS, lv_sub hl [0, 1, 2, 3, 4, 5, 6, 7, 8] rfl⟩
            refine lv_iload hx hb dX9_both_156 (lv_at hl 1 rfl) ?_
            exact ret_i hx hb hr hlocks rfl (u := 0) trivial (hP.sub [0, 1, 2] rfl) (hK.sub [] rfl) (hD.sub [0, 1, 2] (by decide) rfl) hS (Nat.le_of_ble_eq_true rfl) (Nat.le_of_ble_eq_true rfl) dX9_both_158
        · intro hJ_34
          refine lv_iload hx hb dX9_both_96 (lv_at hl 0 rfl) ?_
          refine lv_aload_n hx hb dX9_both_98 rfl (lv_at hl 5 rfl) ?_
          refine lv_iload_n hx hb dX9_both_99 rfl (lv_at hl 7 rfl) ?_
          refine go_i (wr := [(a2, .inl (cI, 128, .inl g2))]) (tysr := [(cI, .int)]) hP hD hS hA hK [1, 2] [0] [0] rfl rfl (by decide) (by decide) rfl (va_runV (As := [.int w]) (rest := [.int (q_14 ||| x_16)]) ⟨hx, hb, hml, hown, hts⟩ (m_flipOf l D H.size cI h0 a0 a1 a2 a3 a4 a5 a6 a7 a8 a9 ab tk mm wm fa 0 se g1 w (by first | assumption | (clear hml hsz hr hlocks; omega) | decide)) (cwV 1 hts gX9_both_X9_flipOf rfl rfl rfl (by decide +kernel) ⟨Nat.le_of_ble_eq_true rfl, Nat.le_of_ble_eq_true rfl⟩) (st_preV (ci := 8) (q0 := 1) hP hD hK hNW [1, 2] [0] rfl rfl (by decide) rfl rfl rfl rfl) rfl rfl hl.1 rfl (lv_room (Nat.le_of_ble_eq_true rfl)) dX9_both_100 ⟨(Nat.le_of_ble_eq_true rfl), (Nat.le_of_ble_eq_true rfl)⟩) (fun r_35 u H locs hw hP hD hK hS => ?_)
          have hP : va_P D vwCl [(a2, .inl (cI, 128, .inl g2)), (h0, .inr (8, [.ref a0, .int tk, .ref a1, .int mm, .ref a2, .ref a3, .ref a4, .ref a5, .ref a6, .ref a7, .int wm, .int fa, .int 0, .int se, .ref a8, .ref a9, .ref ab])), (a1, .inl (cI, 80, .inl g1))] H := hP
          have hD : va_D A [(a2, .inl (cI, 128, .inl g2)), (h0, .inr (8, [.ref a0, .int tk, .ref a1, .int mm, .ref a2, .ref a3, .ref a4, .ref a5, .ref a6, .ref a7, .int wm, .int fa, .int 0, .int se, .ref a8, .ref a9, .ref ab])), (a1, .inl (cI, 80, .inl g1))] := hD
          have hK : va_K D vwCl [(cI, .int)] s := hK
          refine lv_iand hx hb dX9_both_103 ?_
          refine lv_if_ne (tgt := 128) hx hb dX9_both_104 (by decide) (fun c_36 => ?_) (fun c_36 => ?_)
          · refine lv_iconst (v := 0) hx hb dX9_both_128 (by decide) ?_
            exact hJ_34 _ _ _ _ ⟨0, rfl, ⟨hP, hD⟩, hS, lv_sub hl [0, 1, 2, 3, 4, 5, 6, 7] rfl⟩
          refine lv_iload hx hb dX9_both_107 (lv_at hl 0 rfl) ?_
          refine lv_aload_n hx hb dX9_both_109 rfl (lv_at hl 5 rfl) ?_
          refine lv_iload_n hx hb dX9_both_110 rfl (lv_at hl 7 rfl) ?_
          refine go_i (wr := [(a1, .inl (cI, 80, .inl g1))]) (tysr := [(cI, .int)]) hP hD hS hA hK [1, 0] [2] [0] rfl rfl (by decide) (by decide) rfl (va_runV (As := [.int w]) (rest := [.int (q_14 ||| x_16)]) ⟨hx, hb, hml, hown, hts⟩ (m_some l D H.size cI h0 a0 a1 a2 a3 a4 a5 a6 a7 a8 a9 ab tk mm wm fa 0 se g2 w (by first | assumption | (clear hml hsz hr hlocks; omega) | decide)) (cwV 1 hts gX9_both_X9_some rfl rfl rfl (by decide +kernel) ⟨Nat.le_of_ble_eq_true rfl, Nat.le_of_ble_eq_true rfl⟩) (st_preV (ci := 8) (q0 := 1) hP hD hK hNW [1, 0] [0] rfl rfl (by decide) rfl rfl rfl rfl) rfl rfl hl.1 rfl (lv_room (Nat.le_of_ble_eq_true rfl)) dX9_both_111 ⟨(Nat.le_of_ble_eq_true rfl), (Nat.le_of_ble_eq_true rfl)⟩) (fun r_37 u H locs hw hP hD hK hS => ?_)
          have hP : va_P D vwCl [(a1, .inl (cI, 80, .inl g1)), (h0, .inr (8, [.ref a0, .int tk, .ref a1, .int mm, .ref a2, .ref a3, .ref a4, .ref a5, .ref a6, .ref a7, .int wm, .int fa, .int 0, .int se, .ref a8, .ref a9, .ref ab])), (a2, .inl (cI, 128, .inl g2))] H := hP
          have hD : va_D A [(a1, .inl (cI, 80, .inl g1)), (h0, .inr (8, [.ref a0, .int tk, .ref a1, .int mm, .ref a2, .ref a3, .ref a4, .ref a5, .ref a6, .ref a7, .int wm, .int fa, .int 0, .int se, .ref a8, .ref a9, .ref ab])), (a2, .inl (cI, 128, .inl g2))] := hD
          have hK : va_K D vwCl [(cI, .int)] s := hK
          refine lv_ixor hx hb dX9_both_114 ?_
          refine lv_aload_n hx hb dX9_both_115 rfl (lv_at hl 5 rfl) ?_
          refine lv_iload_n hx hb dX9_both_116 rfl (lv_at hl 7 rfl) ?_
          refine go_i (wr := []) (tysr := [(cI, .int)]) hP hD hS hA hK [1, 0, 2] [] [0] rfl rfl (by decide) (by decide) rfl (va_runV (As := [.int w]) (rest := [.int ((q_14 ||| x_16) ^^^ r_37)]) ⟨hx, hb, hml, hown, hts⟩ (m_fixed l D H.size cI h0 a0 a1 a2 a3 a4 a5 a6 a7 a8 a9 ab tk mm wm fa 0 se g1 g2 w (by first | assumption | (clear hml hsz hr hlocks; omega) | decide)) (cwV 1 hts gX9_both_X9_fixed rfl rfl rfl (by decide +kernel) ⟨Nat.le_of_ble_eq_true rfl, Nat.le_of_ble_eq_true rfl⟩) (st_preV (ci := 8) (q0 := 1) hP hD hK hNW [1, 0, 2] [0] rfl rfl (by decide) rfl rfl rfl rfl) rfl rfl hl.1 rfl (lv_room (Nat.le_of_ble_eq_true rfl)) dX9_both_117 ⟨(Nat.le_of_ble_eq_true rfl), (Nat.le_of_ble_eq_true rfl)⟩) (fun r_38 u H locs hw hP hD hK hS => ?_)
          have hP : va_P D vwCl [(h0, .inr (8, [.ref a0, .int tk, .ref a1, .int mm, .ref a2, .ref a3, .ref a4, .ref a5, .ref a6, .ref a7, .int wm, .int fa, .int 0, .int se, .ref a8, .ref a9, .ref ab])), (a1, .inl (cI, 80, .inl g1)), (a2, .inl (cI, 128, .inl g2))] H := hP
          have hD : va_D A [(h0, .inr (8, [.ref a0, .int tk, .ref a1, .int mm, .ref a2, .ref a3, .ref a4, .ref a5, .ref a6, .ref a7, .int wm, .int fa, .int 0, .int se, .ref a8, .ref a9, .ref ab])), (a1, .inl (cI, 80, .inl g1)), (a2, .inl (cI, 128, .inl g2))] := hD
          have hK : va_K D vwCl [(cI, .int)] s := hK
          refine lv_iand hx hb dX9_both_120 ?_
          refine lv_if_ne (tgt := 128) hx hb dX9_both_121 (by decide) (fun c_39 => ?_) (fun c_39 => ?_)
          · refine lv_iconst (v := 0) hx hb dX9_both_128 (by decide) ?_
            exact hJ_34 _ _ _ _ ⟨0, rfl, ⟨hP.sub [2, 0, 1] rfl, hD.sub [2, 0, 1] (by decide) rfl⟩, hS, lv_sub hl [0, 1, 2, 3, 4, 5, 6, 7] rfl⟩
          refine lv_iconst (v := 1) hx hb dX9_both_124 (by decide) ?_
          refine lv_goto (tgt := 129) hx hb dX9_both_125 (by decide) ?_
          exact hJ_34 _ _ _ _ ⟨1, rfl, ⟨hP.sub [2, 0, 1] rfl, hD.sub [2, 0, 1] (by decide) rfl⟩, hS, lv_sub hl [0, 1, 2, 3, 4, 5, 6, 7] rfl⟩
      · intro hJ_40
        refine lv_aload_n hx hb dX9_both_65 rfl (lv_at hl 1 rfl) ?_
        refine lv_iload_n hx hb dX9_both_66 rfl (lv_at hl 2 rfl) ?_
        refine go_i (wr := [(a1, .inl (cI, 80, .inl g1))]) (tysr := [(cI, .int)]) hP hD hS hA hK [1, 0] [2] [0] rfl rfl (by decide) (by decide) rfl (va_runV (As := [.int v]) (rest := []) ⟨hx, hb, hml, hown, hts⟩ (m_some l D H.size cI h0 a0 a1 a2 a3 a4 a5 a6 a7 a8 a9 ab tk mm wm fa 0 se g2 v (by first | assumption | (clear hml hsz hr hlocks; omega) | decide)) (cwV 1 hts gX9_both_X9_some rfl rfl rfl (by decide +kernel) ⟨Nat.le_of_ble_eq_true rfl, Nat.le_of_ble_eq_true rfl⟩) (st_preV (ci := 8) (q0 := 1) hP hD hK hNW [1, 0] [0] rfl rfl (by decide) rfl rfl rfl rfl) rfl rfl hl.1 rfl (lv_room (Nat.le_of_ble_eq_true rfl)) dX9_both_67 ⟨(Nat.le_of_ble_eq_true rfl), (Nat.le_of_ble_eq_true rfl)⟩) (fun r_41 u H locs hw hP hD hK hS => ?_)
        have hP : va_P D vwCl [(a1, .inl (cI, 80, .inl g1)), (h0, .inr (8, [.ref a0, .int tk, .ref a1, .int mm, .ref a2, .ref a3, .ref a4, .ref a5, .ref a6, .ref a7, .int wm, .int fa, .int 0, .int se, .ref a8, .ref a9, .ref ab])), (a2, .inl (cI, 128, .inl g2))] H := hP
        have hD : va_D A [(a1, .inl (cI, 80, .inl g1)), (h0, .inr (8, [.ref a0, .int tk, .ref a1, .int mm, .ref a2, .ref a3, .ref a4, .ref a5, .ref a6, .ref a7, .int wm, .int fa, .int 0, .int se, .ref a8, .ref a9, .ref ab])), (a2, .inl (cI, 128, .inl g2))] := hD
        have hK : va_K D vwCl [(cI, .int)] s := hK
        refine lv_aload_n hx hb dX9_both_70 rfl (lv_at hl 1 rfl) ?_
        refine lv_iload_n hx hb dX9_both_71 rfl (lv_at hl 2 rfl) ?_
        refine go_i (wr := []) (tysr := [(cI, .int)]) hP hD hS hA hK [1, 0, 2] [] [0] rfl rfl (by decide) (by decide) rfl (va_runV (As := [.int v]) (rest := [.int r_41]) ⟨hx, hb, hml, hown, hts⟩ (m_fixed l D H.size cI h0 a0 a1 a2 a3 a4 a5 a6 a7 a8 a9 ab tk mm wm fa 0 se g1 g2 v (by first | assumption | (clear hml hsz hr hlocks; omega) | decide)) (cwV 1 hts gX9_both_X9_fixed rfl rfl rfl (by decide +kernel) ⟨Nat.le_of_ble_eq_true rfl, Nat.le_of_ble_eq_true rfl⟩) (st_preV (ci := 8) (q0 := 1) hP hD hK hNW [1, 0, 2] [0] rfl rfl (by decide) rfl rfl rfl rfl) rfl rfl hl.1 rfl (lv_room (Nat.le_of_ble_eq_true rfl)) dX9_both_72 ⟨(Nat.le_of_ble_eq_true rfl), (Nat.le_of_ble_eq_true rfl)⟩) (fun r_42 u H locs hw hP hD hK hS => ?_)
        have hP : va_P D vwCl [(h0, .inr (8, [.ref a0, .int tk, .ref a1, .int mm, .ref a2, .ref a3, .ref a4, .ref a5, .ref a6, .ref a7, .int wm, .int fa, .int 0, .int se, .ref a8, .ref a9, .ref ab])), (a1, .inl (cI, 80, .inl g1)), (a2, .inl (cI, 128, .inl g2))] H := hP
        have hD : va_D A [(h0, .inr (8, [.ref a0, .int tk, .ref a1, .int mm, .ref a2, .ref a3, .ref a4, .ref a5, .ref a6, .ref a7, .int wm, .int fa, .int 0, .int se, .ref a8, .ref a9, .ref ab])), (a1, .inl (cI, 80, .inl g1)), (a2, .inl (cI, 128, .inl g2))] := hD
        have hK : va_K D vwCl [(cI, .int)] s := hK
        refine lv_iand hx hb dX9_both_75 ?_
        exact hJ_40 _ _ _ _ ⟨r_41 &&& r_42, rfl, ⟨hP.sub [2, 0, 1] rfl, hD.sub [2, 0, 1] (by decide) rfl⟩, hS, lv_sub hl [0, 1, 2, 3] rfl⟩
    · intro hJ_43
      refine lv_iconst (v := 1) hx hb dX9_both_38 (by decide) ?_
      refine lv_aload_n hx hb dX9_both_39 rfl (lv_at hl 0 rfl) ?_
      refine lv_iload_n hx hb dX9_both_40 rfl (lv_at hl 1 rfl) ?_
      refine lv_iconst (v := 1) hx hb dX9_both_41 (by decide) ?_
      refine go_i (wr := [(a2, .inl (cI, 128, .inl g2))]) (tysr := [(cI, .int)]) hP hD hS hA hK [1, 2] [0] [0] rfl rfl (by decide) (by decide) rfl (va_runV (As := [.int v, .int 1]) (rest := [.int 1]) ⟨hx, hb, hml, hown, hts⟩ (m_get l D H.size cI h0 a0 a1 a2 a3 a4 a5 a6 a7 a8 a9 ab tk mm wm fa 0 se g1 v 1 (by first | assumption | (clear hml hsz hr hlocks; omega) | decide) (by first | assumption | (clear hml hsz hr hlocks; omega) | decide)) (cwV 2 hts gX9_both_X9_get rfl rfl rfl (by decide +kernel) ⟨Nat.le_of_ble_eq_true rfl, Nat.le_of_ble_eq_true rfl⟩) (st_preV (ci := 8) (q0 := 1) hP hD hK hNW [1, 2] [0] rfl rfl (by decide) rfl rfl rfl rfl) rfl rfl hl.1 rfl (lv_room (Nat.le_of_ble_eq_true rfl)) dX9_both_42 ⟨(Nat.le_of_ble_eq_true rfl), (Nat.le_of_ble_eq_true rfl)⟩) (fun r_44 u H locs hw hP hD hK hS => ?_)
      have hw : r_44 = g1 (Int32.toNatClampNeg (10 * v + 1)) := hw
      subst hw
      have hP : va_P D vwCl [(a2, .inl (cI, 128, .inl g2)), (h0, .inr (8, [.ref a0, .int tk, .ref a1, .int mm, .ref a2, .ref a3, .ref a4, .ref a5, .ref a6, .ref a7, .int wm, .int fa, .int 0, .int se, .ref a8, .ref a9, .ref ab])), (a1, .inl (cI, 80, .inl g1))] H := hP
      have hD : va_D A [(a2, .inl (cI, 128, .inl g2)), (h0, .inr (8, [.ref a0, .int tk, .ref a1, .int mm, .ref a2, .ref a3, .ref a4, .ref a5, .ref a6, .ref a7, .int wm, .int fa, .int 0, .int se, .ref a8, .ref a9, .ref ab])), (a1, .inl (cI, 80, .inl g1))] := hD
      have hK : va_K D vwCl [(cI, .int)] s := hK
      refine lv_ishl hx hb dX9_both_45 ?_
      refine lv_iconst (v := 1) hx hb dX9_both_46 (by decide) ?_
      refine lv_isub hx hb dX9_both_47 ?_
      refine lv_aload_n hx hb dX9_both_48 rfl (lv_at hl 0 rfl) ?_
      refine lv_iload_n hx hb dX9_both_49 rfl (lv_at hl 1 rfl) ?_
      refine go_i (wr := [(a2, .inl (cI, 128, .inl g2))]) (tysr := [(cI, .int)]) hP hD hS hA hK [1, 2] [0] [0] rfl rfl (by decide) (by decide) rfl (va_runV (As := [.int v]) (rest := [.int ((1 <<< ((g1 (Int32.toNatClampNeg (10 * v + 1))) &&& 31)) - 1)]) ⟨hx, hb, hml, hown, hts⟩ (m_flipOf l D H.size cI h0 a0 a1 a2 a3 a4 a5 a6 a7 a8 a9 ab tk mm wm fa 0 se g1 v (by first | assumption | (clear hml hsz hr hlocks; omega) | decide)) (cwV 1 hts gX9_both_X9_flipOf rfl rfl rfl (by decide +kernel) ⟨Nat.le_of_ble_eq_true rfl, Nat.le_of_ble_eq_true rfl⟩) (st_preV (ci := 8) (q0 := 1) hP hD hK hNW [1, 2] [0] rfl rfl (by decide) rfl rfl rfl rfl) rfl rfl hl.1 rfl (lv_room (Nat.le_of_ble_eq_true rfl)) dX9_both_50 ⟨(Nat.le_of_ble_eq_true rfl), (Nat.le_of_ble_eq_true rfl)⟩) (fun r_45 u H locs hw hP hD hK hS => ?_)
      have hP : va_P D vwCl [(a2, .inl (cI, 128, .inl g2)), (h0, .inr (8, [.ref a0, .int tk, .ref a1, .int mm, .ref a2, .ref a3, .ref a4, .ref a5, .ref a6, .ref a7, .int wm, .int fa, .int 0, .int se, .ref a8, .ref a9, .ref ab])), (a1, .inl (cI, 80, .inl g1))] H := hP
      have hD : va_D A [(a2, .inl (cI, 128, .inl g2)), (h0, .inr (8, [.ref a0, .int tk, .ref a1, .int mm, .ref a2, .ref a3, .ref a4, .ref a5, .ref a6, .ref a7, .int wm, .int fa, .int 0, .int se, .ref a8, .ref a9, .ref ab])), (a1, .inl (cI, 80, .inl g1))] := hD
      have hK : va_K D vwCl [(cI, .int)] s := hK
      refine lv_iconst (v := (-1)) hx hb dX9_both_53 (by decide) ?_
      refine lv_ixor hx hb dX9_both_54 ?_
      refine lv_iand hx hb dX9_both_55 ?_
      refine lv_aload_n hx hb dX9_both_56 rfl (lv_at hl 0 rfl) ?_
      refine lv_iload_n hx hb dX9_both_57 rfl (lv_at hl 1 rfl) ?_
      refine go_i (wr := []) (tysr := [(cI, .int)]) hP hD hS hA hK [1, 2, 0] [] [0] rfl rfl (by decide) (by decide) rfl (va_runV (As := [.int v]) (rest := [.int (((1 <<< ((g1 (Int32.toNatClampNeg (10 * v + 1))) &&& 31)) - 1) &&& (r_45 ^^^ (-1)))]) ⟨hx, hb, hml, hown, hts⟩ (m_fixed l D H.size cI h0 a0 a1 a2 a3 a4 a5 a6 a7 a8 a9 ab tk mm wm fa 0 se g1 g2 v (by first | assumption | (clear hml hsz hr hlocks; omega) | decide)) (cwV 1 hts gX9_both_X9_fixed rfl rfl rfl (by decide +kernel) ⟨Nat.le_of_ble_eq_true rfl, Nat.le_of_ble_eq_true rfl⟩) (st_preV (ci := 8) (q0 := 1) hP hD hK hNW [1, 2, 0] [0] rfl rfl (by decide) rfl rfl rfl rfl) rfl rfl hl.1 rfl (lv_room (Nat.le_of_ble_eq_true rfl)) dX9_both_58 ⟨(Nat.le_of_ble_eq_true rfl), (Nat.le_of_ble_eq_true rfl)⟩) (fun r_46 u H locs hw hP hD hK hS => ?_)
      have hP : va_P D vwCl [(h0, .inr (8, [.ref a0, .int tk, .ref a1, .int mm, .ref a2, .ref a3, .ref a4, .ref a5, .ref a6, .ref a7, .int wm, .int fa, .int 0, .int se, .ref a8, .ref a9, .ref ab])), (a1, .inl (cI, 80, .inl g1)), (a2, .inl (cI, 128, .inl g2))] H := hP
      have hD : va_D A [(h0, .inr (8, [.ref a0, .int tk, .ref a1, .int mm, .ref a2, .ref a3, .ref a4, .ref a5, .ref a6, .ref a7, .int wm, .int fa, .int 0, .int se, .ref a8, .ref a9, .ref ab])), (a1, .inl (cI, 80, .inl g1)), (a2, .inl (cI, 128, .inl g2))] := hD
      have hK : va_K D vwCl [(cI, .int)] s := hK
      refine lv_iconst (v := (-1)) hx hb dX9_both_61 (by decide) ?_
      refine lv_ixor hx hb dX9_both_62 ?_
      refine lv_iand hx hb dX9_both_63 ?_
      exact hJ_43 _ _ _ _ ⟨(((1 <<< ((g1 (Int32.toNatClampNeg (10 * v + 1))) &&& 31)) - 1) &&& (r_45 ^^^ (-1))) &&& (r_46 ^^^ (-1)), rfl, ⟨hP.sub [2, 0, 1] rfl, hD.sub [2, 0, 1] (by decide) rfl⟩, hS, lv_sub hl [0, 1, 2] rfl⟩
  refine lv_iconst (v := (-1)) hx hb dX9_both_36 (by decide) ?_
  exact ret_i hx hb hr hlocks rfl (u := 0) trivial (hP.sub [1, 2, 0] rfl) (hK.sub [] rfl) (hD.sub [1, 2, 0] (by decide) rfl) hS (Nat.le_of_ble_eq_true rfl) (Nat.le_of_ble_eq_true rfl) dX9_both_37
theorem him_of_X9 : ∀ w ∈ wsX90, w ∈ wsX9_of := mem_pl [33, 34, 35, 36, 37, 38, 39, 40, 41, 42, 43, 44, 45, 46, 47, 48, 49] rfl
set_option maxHeartbeats 4000000 in
set_option maxRecDepth 100000 in
theorem m_of (l : Launch) (D : va_G) (sz : Nat) (cI : ClassId) (h0 : Nat) (a0 : Nat) (a1 : Nat) (a2 : Nat) (a3 : Nat) (a4 : Nat) (a5 : Nat) (a6 : Nat) (a7 : Nat) (a8 : Nat) (a9 : Nat) (ab : Nat) (tk : Int32) (mm : Int32) (wm : Int32) (fa : Int32) (th : Int32) (se : Int32) (g1 : Nat → Int32) (g2 : Nat → Int32) (v : Int32) (w : Int32) (hmm : bi mm 0 8) : Ci l yX9_of wsX9_of ({ frames := 3, cells := 0, slots := 0, locals := 66 } : Room) D [.ref h0, .int v, .int w] [(h0, .inr (8, [.ref a0, .int tk, .ref a1, .int mm, .ref a2, .ref a3, .ref a4, .ref a5, .ref a6, .ref a7, .int wm, .int fa, .int th, .int se, .ref a8, .ref a9, .ref ab])), (a1, .inl (cI, 80, .inl g1)), (a2, .inl (cI, 128, .inl g2))] [(cI, .int)] sz (fun (r : Int32) => fun (th2 : Int32) => True) (fun (th2 : Int32) => [(h0, .inr (8, [.ref a0, .int tk, .ref a1, .int mm, .ref a2, .ref a3, .ref a4, .ref a5, .ref a6, .ref a7, .int wm, .int fa, .int th2, .int se, .ref a8, .ref a9, .ref ab])), (a1, .inl (cI, 80, .inl g1)), (a2, .inl (cI, 128, .inl g2))]) (fun (th2 : Int32) => []) := by
  refine ct_i (cc := cX9_of) (maxL := 3) (ret := (some .int)) (by decide) rfl (Nat.le_of_ble_eq_true rfl) ?_
  intro p e s m below meth c A ls H hx hb hr hts hown hml hlocks hin hA hS hP hK hD hNW hl hAe hsz
  have hl : lv_has ls 3 [(0, .ref h0), (1, .int v), (2, .int w)] := hl
  refine lv_aload_n hx hb dX9_of_0 rfl (lv_at hl 0 rfl) ?_
  refine lv_iconst (v := 0) hx hb dX9_of_1 (by decide) ?_
  refine va_put (D := D) (ci := 8) (v := .int 0) (ty := .int) (C := RX9) (T := TX9) (N := 17) hx hb hts him_of_X9 tyX9 tyX9_ok nmX9 hown hK hP hD hS 0 rfl rfl 12 (by decide) (hts (.fieldLink RX9 43 "OneHandsetModel" "thrown" "I") (List.mem_of_getElem? (i := 1) rfl)) (fun _ h9 => h9) rfl (by decide +kernel) rfl rfl (Nat.le_of_ble_eq_true rfl) dX9_of_2 (fun H locs hP hD hS => ?_)
  have hP : va_P D vwCl [(h0, .inr (8, [.ref a0, .int tk, .ref a1, .int mm, .ref a2, .ref a3, .ref a4, .ref a5, .ref a6, .ref a7, .int wm, .int fa, .int 0, .int se, .ref a8, .ref a9, .ref ab])), (a1, .inl (cI, 80, .inl g1)), (a2, .inl (cI, 128, .inl g2))] H := hP
  have hD : va_D A [(h0, .inr (8, [.ref a0, .int tk, .ref a1, .int mm, .ref a2, .ref a3, .ref a4, .ref a5, .ref a6, .ref a7, .int wm, .int fa, .int 0, .int se, .ref a8, .ref a9, .ref ab])), (a1, .inl (cI, 80, .inl g1)), (a2, .inl (cI, 128, .inl g2))] := hD
  refine lv_aload_n hx hb dX9_of_5 rfl (lv_at hl 0 rfl) ?_
  refine lv_iload_n hx hb dX9_of_6 rfl (lv_at hl 1 rfl) ?_
  refine go_i (wr := [(a1, .inl (cI, 80, .inl g1)), (a2, .inl (cI, 128, .inl g2))]) (tysr := [(cI, .int)]) hP hD hS hA hK [0] [1, 2] [0] rfl rfl (by decide) (by decide) rfl (va_runV (As := [.int v]) (rest := []) ⟨hx, hb, hml, hown, hts⟩ (m_isMake l D H.size cI h0 a0 a1 a2 a3 a4 a5 a6 a7 a8 a9 ab tk mm wm fa 0 se v ) (cwV 1 hts gX9_of_X9_isMake rfl rfl rfl (by decide +kernel) ⟨Nat.le_of_ble_eq_true rfl, Nat.le_of_ble_eq_true rfl⟩) (st_preV (ci := 8) (q0 := 0) hP hD hK hNW [0] [0] rfl rfl (by decide) rfl rfl rfl rfl) rfl rfl hl.1 rfl (lv_room (Nat.le_of_ble_eq_true rfl)) dX9_of_7 ⟨(Nat.le_of_ble_eq_true rfl), (Nat.le_of_ble_eq_true rfl)⟩) (fun r_1 u H locs hw hP hD hK hS => ?_)
  have hw : r_1 = wi v 0 (mm - 1) := hw
  subst hw
  have hP : va_P D vwCl [(a1, .inl (cI, 80, .inl g1)), (a2, .inl (cI, 128, .inl g2)), (h0, .inr (8, [.ref a0, .int tk, .ref a1, .int mm, .ref a2, .ref a3, .ref a4, .ref a5, .ref a6, .ref a7, .int wm, .int fa, .int 0, .int se, .ref a8, .ref a9, .ref ab]))] H := hP
  have hD : va_D A [(a1, .inl (cI, 80, .inl g1)), (a2, .inl (cI, 128, .inl g2)), (h0, .inr (8, [.ref a0, .int tk, .ref a1, .int mm, .ref a2, .ref a3, .ref a4, .ref a5, .ref a6, .ref a7, .int wm, .int fa, .int 0, .int se, .ref a8, .ref a9, .ref ab]))] := hD
  have hK : va_K D vwCl [(cI, .int)] s := hK
  refine lv_if_ne (tgt := 15) hx hb dX9_of_10 (by decide) (fun c_2 => ?_) (fun c_2 => ?_)
  · have hv7_3 : bi v 0 7 := (by clear hml hsz hr hlocks; have : (0 : Int32).toInt = 0 := (by decide); have := ti_wi1 c_2; have u1 := ti_m1 (i := mm) (by omega); omega)
    have hvm_4 : v.toInt < mm.toInt := (by clear hml hsz hr hlocks; have : (0 : Int32).toInt = 0 := (by decide); have := ti_wi1 c_2; have u1 := ti_m1 (i := mm) (by omega); omega)
    refine lv_iload_n hx hb dX9_of_15 rfl (lv_at hl 2 rfl) ?_
    rcases tsw (n := 7) (by decide) (by decide) w with h_5 | h_5
    · obtain ⟨k_9, hk_9, e_9⟩ := h_5
      rcases (show k_9 = 0 ∨ k_9 = 1 ∨ k_9 = 2 ∨ k_9 = 3 ∨ k_9 = 4 ∨ k_9 = 5 ∨ k_9 = 6 by omega) with rfl | rfl | rfl | rfl | rfl | rfl | rfl
      · have c_6 : w = (0 : Int32) := e_9
        refine W.eq (g2 := F0 m 16 ls [.int 0]) (by rw [c_6]) ?_
        refine lv_tableIn (off := 44) (tgt := 60) hx hb dX9_of_16 (by decide) (by decide) rfl (by decide) ?_
        refine lv_aload_n hx hb dX9_of_60 rfl (lv_at hl 0 rfl) ?_
        refine lv_iload_n hx hb dX9_of_61 rfl (lv_at hl 1 rfl) ?_
        refine lv_iconst (v := 0) hx hb dX9_of_62 (by decide) ?_
        refine go_i (wr := [(a2, .inl (cI, 128, .inl g2))]) (tysr := [(cI, .int)]) hP hD hS hA hK [2, 0] [1] [0] rfl rfl (by decide) (by decide) rfl (va_runV (As := [.int v, .int 0]) (rest := []) ⟨hx, hb, hml, hown, hts⟩ (m_get l D H.size cI h0 a0 a1 a2 a3 a4 a5 a6 a7 a8 a9 ab tk mm wm fa 0 se g1 v 0 (by first | assumption | (clear hml hsz hr hlocks; omega) | decide) (by first | assumption | (clear hml hsz hr hlocks; omega) | decide)) (cwV 2 hts gX9_of_X9_get rfl rfl rfl (by decide +kernel) ⟨Nat.le_of_ble_eq_true rfl, Nat.le_of_ble_eq_true rfl⟩) (st_preV (ci := 8) (q0 := 2) hP hD hK hNW [2, 0] [0] rfl rfl (by decide) rfl rfl rfl rfl) rfl rfl hl.1 rfl (lv_room (Nat.le_of_ble_eq_true rfl)) dX9_of_63 ⟨(Nat.le_of_ble_eq_true rfl), (Nat.le_of_ble_eq_true rfl)⟩) (fun r_7 u H locs hw hP hD hK hS => ?_)
        have hw : r_7 = g1 (Int32.toNatClampNeg (10 * v + 0)) := hw
        subst hw
        have hP : va_P D vwCl [(a2, .inl (cI, 128, .inl g2)), (h0, .inr (8, [.ref a0, .int tk, .ref a1, .int mm, .ref a2, .ref a3, .ref a4, .ref a5, .ref a6, .ref a7, .int wm, .int fa, .int 0, .int se, .ref a8, .ref a9, .ref ab])), (a1, .inl (cI, 80, .inl g1))] H := hP
        have hD : va_D A [(a2, .inl (cI, 128, .inl g2)), (h0, .inr (8, [.ref a0, .int tk, .ref a1, .int mm, .ref a2, .ref a3, .ref a4, .ref a5, .ref a6, .ref a7, .int wm, .int fa, .int 0, .int se, .ref a8, .ref a9, .ref ab])), (a1, .inl (cI, 80, .inl g1))] := hD
        have hK : va_K D vwCl [(cI, .int)] s := hK
        exact ret_i hx hb hr hlocks rfl (u := 0) trivial (hP.sub [1, 2, 0] rfl) (hK.sub [] rfl) (hD.sub [1, 2, 0] (by decide) rfl) hS (Nat.le_of_ble_eq_true rfl) (Nat.le_of_ble_eq_true rfl) dX9_of_66
      · have c_8 : w = (1 : Int32) := e_9
        refine W.eq (g2 := F0 m 16 ls [.int 1]) (by rw [c_8]) ?_
        refine lv_tableIn (off := 51) (tgt := 67) hx hb dX9_of_16 (by decide) (by decide) rfl (by decide) ?_
        refine lv_aload_n hx hb dX9_of_67 rfl (lv_at hl 0 rfl) ?_
        refine lv_iload_n hx hb dX9_of_68 rfl (lv_at hl 1 rfl) ?_
        refine lv_iconst (v := 1) hx hb dX9_of_69 (by decide) ?_
        refine go_i (wr := [(a2, .inl (cI, 128, .inl g2))]) (tysr := [(cI, .int)]) hP hD hS hA hK [2, 0] [1] [0] rfl rfl (by decide) (by decide) rfl (va_runV (As := [.int v, .int 1]) (rest := []) ⟨hx, hb, hml, hown, hts⟩ (m_get l D H.size cI h0 a0 a1 a2 a3 a4 a5 a6 a7 a8 a9 ab tk mm wm fa 0 se g1 v 1 (by first | assumption | (clear hml hsz hr hlocks; omega) | decide) (by first | assumption | (clear hml hsz hr hlocks; omega) | decide)) (cwV 2 hts gX9_of_X9_get rfl rfl rfl (by decide +kernel) ⟨Nat.le_of_ble_eq_true rfl, Nat.le_of_ble_eq_true rfl⟩) (st_preV (ci := 8) (q0 := 2) hP hD hK hNW [2, 0] [0] rfl rfl (by decide) rfl rfl rfl rfl) rfl rfl hl.1 rfl (lv_room (Nat.le_of_ble_eq_true rfl)) dX9_of_70 ⟨(Nat.le_of_ble_eq_true rfl), (Nat.le_of_ble_eq_true rfl)⟩) (fun r_9 u H locs hw hP hD hK hS => ?_)
        have hw : r_9 = g1 (Int32.toNatClampNeg (10 * v + 1)) := hw
        subst hw
        have hP : va_P D vwCl [(a2, .inl (cI, 128, .inl g2)), (h0, .inr (8, [.ref a0, .int tk, .ref a1, .int mm, .ref a2, .ref a3, .ref a4, .ref a5, .ref a6, .ref a7, .int wm, .int fa, .int 0, .int se, .ref a8, .ref a9, .ref ab])), (a1, .inl (cI, 80, .inl g1))] H := hP
        have hD : va_D A [(a2, .inl (cI, 128, .inl g2)), (h0, .inr (8, [.ref a0, .int tk, .ref a1, .int mm, .ref a2, .ref a3, .ref a4, .ref a5, .ref a6, .ref a7, .int wm, .int fa, .int 0, .int se, .ref a8, .ref a9, .ref ab])), (a1, .inl (cI, 80, .inl g1))] := hD
        have hK : va_K D vwCl [(cI, .int)] s := hK
        exact ret_i hx hb hr hlocks rfl (u := 0) trivial (hP.sub [1, 2, 0] rfl) (hK.sub [] rfl) (hD.sub [1, 2, 0] (by decide) rfl) hS (Nat.le_of_ble_eq_true rfl) (Nat.le_of_ble_eq_true rfl) dX9_of_73
      · have c_10 : w = (2 : Int32) := e_9
        refine W.eq (g2 := F0 m 16 ls [.int 2]) (by rw [c_10]) ?_
        refine lv_tableIn (off := 58) (tgt := 74) hx hb dX9_of_16 (by decide) (by decide) rfl (by decide) ?_
        refine lv_aload_n hx hb dX9_of_74 rfl (lv_at hl 0 rfl) ?_
        refine lv_iload_n hx hb dX9_of_75 rfl (lv_at hl 1 rfl) ?_
        refine lv_bipush (v := 7) hx hb dX9_of_76 (by decide) ?_
        refine go_i (wr := [(a2, .inl (cI, 128, .inl g2))]) (tysr := [(cI, .int)]) hP hD hS hA hK [2, 0] [1] [0] rfl rfl (by decide) (by decide) rfl (va_runV (As := [.int v, .int 7]) (rest := []) ⟨hx, hb, hml, hown, hts⟩ (m_get l D H.size cI h0 a0 a1 a2 a3 a4 a5 a6 a7 a8 a9 ab tk mm wm fa 0 se g1 v 7 (by first | assumption | (clear hml hsz hr hlocks; omega) | decide) (by first | assumption | (clear hml hsz hr hlocks; omega) | decide)) (cwV 2 hts gX9_of_X9_get rfl rfl rfl (by decide +kernel) ⟨Nat.le_of_ble_eq_true rfl, Nat.le_of_ble_eq_true rfl⟩) (st_preV (ci := 8) (q0 := 2) hP hD hK hNW [2, 0] [0] rfl rfl (by decide) rfl rfl rfl rfl) rfl rfl hl.1 rfl (lv_room (Nat.le_of_ble_eq_true rfl)) dX9_of_78 ⟨(Nat.le_of_ble_eq_true rfl), (Nat.le_of_ble_eq_true rfl)⟩) (fun r_11 u H locs hw hP hD hK hS => ?_)
        have hw : r_11 = g1 (Int32.toNatClampNeg (10 * v + 7)) := hw
        subst hw
        have hP : va_P D vwCl [(a2, .inl (cI, 128, .inl g2)), (h0, .inr (8, [.ref a0, .int tk, .ref a1, .int mm, .ref a2, .ref a3, .ref a4, .ref a5, .ref a6, .ref a7, .int wm, .int fa, .int 0, .int se, .ref a8, .ref a9, .ref ab])), (a1, .inl (cI, 80, .inl g1))] H := hP
        have hD : va_D A [(a2, .inl (cI, 128, .inl g2)), (h0, .inr (8, [.ref a0, .int tk, .ref a1, .int mm, .ref a2, .ref a3, .ref a4, .ref a5, .ref a6, .ref a7, .int wm, .int fa, .int 0, .int se, .ref a8, .ref a9, .ref ab])), (a1, .inl (cI, 80, .inl g1))] := hD
        have hK : va_K D vwCl [(cI, .int)] s := hK
        exact ret_i hx hb hr hlocks rfl (u := 0) trivial (hP.sub [1, 2, 0] rfl) (hK.sub [] rfl) (hD.sub [1, 2, 0] (by decide) rfl) hS (Nat.le_of_ble_eq_true rfl) (Nat.le_of_ble_eq_true rfl) dX9_of_81
      · have c_12 : w = (3 : Int32) := e_9
        refine W.eq (g2 := F0 m 16 ls [.int 3]) (by rw [c_12]) ?_
        refine lv_tableIn (off := 66) (tgt := 82) hx hb dX9_of_16 (by decide) (by decide) rfl (by decide) ?_
        refine lv_aload_n hx hb dX9_of_82 rfl (lv_at hl 0 rfl) ?_
        refine lv_iload_n hx hb dX9_of_83 rfl (lv_at hl 1 rfl) ?_
        refine lv_bipush (v := 8) hx hb dX9_of_84 (by decide) ?_
        refine go_i (wr := [(a2, .inl (cI, 128, .inl g2))]) (tysr := [(cI, .int)]) hP hD hS hA hK [2, 0] [1] [0] rfl rfl (by decide) (by decide) rfl (va_runV (As := [.int v, .int 8]) (rest := []) ⟨hx, hb, hml, hown, hts⟩ (m_get l D H.size cI h0 a0 a1 a2 a3 a4 a5 a6 a7 a8 a9 ab tk mm wm fa 0 se g1 v 8 (by first | assumption | (clear hml hsz hr hlocks; omega) | decide) (by first | assumption | (clear hml hsz hr hlocks; omega) | decide)) (cwV 2 hts gX9_of_X9_get rfl rfl rfl (by decide +kernel) ⟨Nat.le_of_ble_eq_true rfl, Nat.le_of_ble_eq_true rfl⟩) (st_preV (ci := 8) (q0 := 2) hP hD hK hNW [2, 0] [0] rfl rfl (by decide) rfl rfl rfl rfl) rfl rfl hl.1 rfl (lv_room (Nat.le_of_ble_eq_true rfl)) dX9_of_86 ⟨(Nat.le_of_ble_eq_true rfl), (Nat.le_of_ble_eq_true rfl)⟩) (fun r_13 u H locs hw hP hD hK hS => ?_)
        have hw : r_13 = g1 (Int32.toNatClampNeg (10 * v + 8)) := hw
        subst hw
        have hP : va_P D vwCl [(a2, .inl (cI, 128, .inl g2)), (h0, .inr (8, [.ref a0, .int tk, .ref a1, .int mm, .ref a2, .ref a3, .ref a4, .ref a5, .ref a6, .ref a7, .int wm, .int fa, .int 0, .int se, .ref a8, .ref a9, .ref ab])), (a1, .inl (cI, 80, .inl g1))] H := hP
        have hD : va_D A [(a2, .inl (cI, 128, .inl g2)), (h0, .inr (8, [.ref a0, .int tk, .ref a1, .int mm, .ref a2, .ref a3, .ref a4, .ref a5, .ref a6, .ref a7, .int wm, .int fa, .int 0, .int se, .ref a8, .ref a9, .ref ab])), (a1, .inl (cI, 80, .inl g1))] := hD
        have hK : va_K D vwCl [(cI, .int)] s := hK
        exact ret_i hx hb hr hlocks rfl (u := 0) trivial (hP.sub [1, 2, 0] rfl) (hK.sub [] rfl) (hD.sub [1, 2, 0] (by decide) rfl) hS (Nat.le_of_ble_eq_true rfl) (Nat.le_of_ble_eq_true rfl) dX9_of_89
      · have c_14 : w = (4 : Int32) := e_9
        refine W.eq (g2 := F0 m 16 ls [.int 4]) (by rw [c_14]) ?_
        refine lv_tableIn (off := 74) (tgt := 90) hx hb dX9_of_16 (by decide) (by decide) rfl (by decide) ?_
        refine lv_aload_n hx hb dX9_of_90 rfl (lv_at hl 0 rfl) ?_
        refine lv_iload_n hx hb dX9_of_91 rfl (lv_at hl 1 rfl) ?_
        refine go_i (wr := [(a1, .inl (cI, 80, .inl g1))]) (tysr := [(cI, .int)]) hP hD hS hA hK [2, 1] [0] [0] rfl rfl (by decide) (by decide) rfl (va_runV (As := [.int v]) (rest := []) ⟨hx, hb, hml, hown, hts⟩ (m_learnt l D H.size cI h0 a0 a1 a2 a3 a4 a5 a6 a7 a8 a9 ab tk mm wm fa 0 se g2 v (by first | assumption | (clear hml hsz hr hlocks; omega) | decide)) (cwV 1 hts gX9_of_X9_learnt rfl rfl rfl (by decide +kernel) ⟨Nat.le_of_ble_eq_true rfl, Nat.le_of_ble_eq_true rfl⟩) (st_preV (ci := 8) (q0 := 2) hP hD hK hNW [2, 1] [0] rfl rfl (by decide) rfl rfl rfl rfl) rfl rfl hl.1 rfl (lv_room (Nat.le_of_ble_eq_true rfl)) dX9_of_92 ⟨(Nat.le_of_ble_eq_true rfl), (Nat.le_of_ble_eq_true rfl)⟩) (fun r_15 u H locs hw hP hD hK hS => ?_)
        have hP : va_P D vwCl [(a1, .inl (cI, 80, .inl g1)), (h0, .inr (8, [.ref a0, .int tk, .ref a1, .int mm, .ref a2, .ref a3, .ref a4, .ref a5, .ref a6, .ref a7, .int wm, .int fa, .int 0, .int se, .ref a8, .ref a9, .ref ab])), (a2, .inl (cI, 128, .inl g2))] H := hP
        have hD : va_D A [(a1, .inl (cI, 80, .inl g1)), (h0, .inr (8, [.ref a0, .int tk, .ref a1, .int mm, .ref a2, .ref a3, .ref a4, .ref a5, .ref a6, .ref a7, .int wm, .int fa, .int 0, .int se, .ref a8, .ref a9, .ref ab])), (a2, .inl (cI, 128, .inl g2))] := hD
        have hK : va_K D vwCl [(cI, .int)] s := hK
        exact ret_i hx hb hr hlocks rfl (u := 0) trivial (hP.sub [1, 0, 2] rfl) (hK.sub [] rfl) (hD.sub [1, 0, 2] (by decide) rfl) hS (Nat.le_of_ble_eq_true rfl) (Nat.le_of_ble_eq_true rfl) dX9_of_95
      · have c_16 : w = (5 : Int32) := e_9
        refine W.eq (g2 := F0 m 16 ls [.int 5]) (by rw [c_16]) ?_
        refine lv_tableIn (off := 80) (tgt := 96) hx hb dX9_of_16 (by decide) (by decide) rfl (by decide) ?_
        refine lv_aload_n hx hb dX9_of_96 rfl (lv_at hl 0 rfl) ?_
        refine lv_iload_n hx hb dX9_of_97 rfl (lv_at hl 1 rfl) ?_
        refine go_i (wr := []) (tysr := [(cI, .int)]) hP hD hS hA hK [2, 0, 1] [] [0] rfl rfl (by decide) (by decide) rfl (va_runV (As := [.int v]) (rest := []) ⟨hx, hb, hml, hown, hts⟩ (m_fixed l D H.size cI h0 a0 a1 a2 a3 a4 a5 a6 a7 a8 a9 ab tk mm wm fa 0 se g1 g2 v (by first | assumption | (clear hml hsz hr hlocks; omega) | decide)) (cwV 1 hts gX9_of_X9_fixed rfl rfl rfl (by decide +kernel) ⟨Nat.le_of_ble_eq_true rfl, Nat.le_of_ble_eq_true rfl⟩) (st_preV (ci := 8) (q0 := 2) hP hD hK hNW [2, 0, 1] [0] rfl rfl (by decide) rfl rfl rfl rfl) rfl rfl hl.1 rfl (lv_room (Nat.le_of_ble_eq_true rfl)) dX9_of_98 ⟨(Nat.le_of_ble_eq_true rfl), (Nat.le_of_ble_eq_true rfl)⟩) (fun r_17 u H locs hw hP hD hK hS => ?_)
        have hP : va_P D vwCl [(h0, .inr (8, [.ref a0, .int tk, .ref a1, .int mm, .ref a2, .ref a3, .ref a4, .ref a5, .ref a6, .ref a7, .int wm, .int fa, .int 0, .int se, .ref a8, .ref a9, .ref ab])), (a1, .inl (cI, 80, .inl g1)), (a2, .inl (cI, 128, .inl g2))] H := hP
        have hD : va_D A [(h0, .inr (8, [.ref a0, .int tk, .ref a1, .int mm, .ref a2, .ref a3, .ref a4, .ref a5, .ref a6, .ref a7, .int wm, .int fa, .int 0, .int se, .ref a8, .ref a9, .ref ab])), (a1, .inl (cI, 80, .inl g1)), (a2, .inl (cI, 128, .inl g2))] := hD
        have hK : va_K D vwCl [(cI, .int)] s := hK
        exact ret_i hx hb hr hlocks rfl (u := 0) trivial (hP.sub [0, 1, 2] rfl) (hK.sub [] rfl) (hD.sub [0, 1, 2] (by decide) rfl) hS (Nat.le_of_ble_eq_true rfl) (Nat.le_of_ble_eq_true rfl) dX9_of_101
      · have c_18 : w = (6 : Int32) := e_9
        refine W.eq (g2 := F0 m 16 ls [.int 6]) (by rw [c_18]) ?_
        refine lv_tableIn (off := 86) (tgt := 102) hx hb dX9_of_16 (by decide) (by decide) rfl (by decide) ?_
        refine lv_aload_n hx hb dX9_of_102 rfl (lv_at hl 0 rfl) ?_
        refine lv_iload_n hx hb dX9_of_103 rfl (lv_at hl 1 rfl) ?_
        refine lv_bipush (v := 9) hx hb dX9_of_104 (by decide) ?_
        refine go_i (wr := [(a2, .inl (cI, 128, .inl g2))]) (tysr := [(cI, .int)]) hP hD hS hA hK [2, 0] [1] [0] rfl rfl (by decide) (by decide) rfl (va_runV (As := [.int v, .int 9]) (rest := []) ⟨hx, hb, hml, hown, hts⟩ (m_get l D H.size cI h0 a0 a1 a2 a3 a4 a5 a6 a7 a8 a9 ab tk mm wm fa 0 se g1 v 9 (by first | assumption | (clear hml hsz hr hlocks; omega) | decide) (by first | assumption | (clear hml hsz hr hlocks; omega) | decide)) (cwV 2 hts gX9_of_X9_get rfl rfl rfl (by decide +kernel) ⟨Nat.le_of_ble_eq_true rfl, Nat.le_of_ble_eq_true rfl⟩) (st_preV (ci := 8) (q0 := 2) hP hD hK hNW [2, 0] [0] rfl rfl (by decide) rfl rfl rfl rfl) rfl rfl hl.1 rfl (lv_room (Nat.le_of_ble_eq_true rfl)) dX9_of_106 ⟨(Nat.le_of_ble_eq_true rfl), (Nat.le_of_ble_eq_true rfl)⟩) (fun r_19 u H locs hw hP hD hK hS => ?_)
        have hw : r_19 = g1 (Int32.toNatClampNeg (10 * v + 9)) := hw
        subst hw
        have hP : va_P D vwCl [(a2, .inl (cI, 128, .inl g2)), (h0, .inr (8, [.ref a0, .int tk, .ref a1, .int mm, .ref a2, .ref a3, .ref a4, .ref a5, .ref a6, .ref a7, .int wm, .int fa, .int 0, .int se, .ref a8, .ref a9, .ref ab])), (a1, .inl (cI, 80, .inl g1))] H := hP
        have hD : va_D A [(a2, .inl (cI, 128, .inl g2)), (h0, .inr (8, [.ref a0, .int tk, .ref a1, .int mm, .ref a2, .ref a3, .ref a4, .ref a5, .ref a6, .ref a7, .int wm, .int fa, .int 0, .int se, .ref a8, .ref a9, .ref ab])), (a1, .inl (cI, 80, .inl g1))] := hD
        have hK : va_K D vwCl [(cI, .int)] s := hK
        exact ret_i hx hb hr hlocks rfl (u := 0) trivial (hP.sub [1, 2, 0] rfl) (hK.sub [] rfl) (hD.sub [1, 2, 0] (by decide) rfl) hS (Nat.le_of_ble_eq_true rfl) (Nat.le_of_ble_eq_true rfl) dX9_of_109
    refine lv_tableOut (tgt := 110) hx hb dX9_of_16 h_5 (by decide) ?_
    have c_21 : ¬ w = (0 : Int32) := tsw_ne (n := 7) (k := 0) (by decide) (by decide) h_5
    have c_22 : ¬ w = (1 : Int32) := tsw_ne (n := 7) (k := 1) (by decide) (by decide) h_5
    have c_23 : ¬ w = (2 : Int32) := tsw_ne (n := 7) (k := 2) (by decide) (by decide) h_5
    have c_24 : ¬ w = (3 : Int32) := tsw_ne (n := 7) (k := 3) (by decide) (by decide) h_5
    have c_25 : ¬ w = (4 : Int32) := tsw_ne (n := 7) (k := 4) (by decide) (by decide) h_5
    have c_26 : ¬ w = (5 : Int32) := tsw_ne (n := 7) (k := 5) (by decide) (by decide) h_5
    have c_27 : ¬ w = (6 : Int32) := tsw_ne (n := 7) (k := 6) (by decide) (by decide) h_5
    refine lv_iconst (v := (-1)) hx hb dX9_of_110 (by decide) ?_
    exact ret_i hx hb hr hlocks rfl (u := 0) trivial (hP.sub [2, 0, 1] rfl) (hK.sub [] rfl) (hD.sub [2, 0, 1] (by decide) rfl) hS (Nat.le_of_ble_eq_true rfl) (Nat.le_of_ble_eq_true rfl) dX9_of_111
  refine lv_iconst (v := (-1)) hx hb dX9_of_13 (by decide) ?_
  exact ret_i hx hb hr hlocks rfl (u := 0) trivial (hP.sub [2, 0, 1] rfl) (hK.sub [] rfl) (hD.sub [2, 0, 1] (by decide) rfl) hS (Nat.le_of_ble_eq_true rfl) (Nat.le_of_ble_eq_true rfl) dX9_of_14
theorem him_check_X9 : ∀ w ∈ wsX90, w ∈ wsX9_check := mem_pl [36, 37, 38, 39, 40, 41, 42, 43, 44, 45, 46, 47, 48, 49, 50, 51, 52] rfl
set_option maxHeartbeats 4000000 in
set_option maxRecDepth 100000 in
theorem m_check (l : Launch) (D : va_G) (sz : Nat) (cI : ClassId) (h0 : Nat) (a0 : Nat) (a1 : Nat) (a2 : Nat) (a3 : Nat) (a4 : Nat) (a5 : Nat) (a6 : Nat) (a7 : Nat) (a8 : Nat) (a9 : Nat) (ab : Nat) (tk : Int32) (mm : Int32) (wm : Int32) (fa : Int32) (th : Int32) (se : Int32) (g1 : Nat → Int32) (g2 : Nat → Int32) (v : Int32) (w : Int32) (hmm : bi mm 0 8) : Ci l yX9_check wsX9_check ({ frames := 3, cells := 0, slots := 0, locals := 72 } : Room) D [.ref h0, .int v, .int w] [(h0, .inr (8, [.ref a0, .int tk, .ref a1, .int mm, .ref a2, .ref a3, .ref a4, .ref a5, .ref a6, .ref a7, .int wm, .int fa, .int th, .int se, .ref a8, .ref a9, .ref ab])), (a1, .inl (cI, 80, .inl g1)), (a2, .inl (cI, 128, .inl g2))] [(cI, .int)] sz (fun (r : Int32) => fun (th2 : Int32) => True) (fun (th2 : Int32) => [(h0, .inr (8, [.ref a0, .int tk, .ref a1, .int mm, .ref a2, .ref a3, .ref a4, .ref a5, .ref a6, .ref a7, .int wm, .int fa, .int th2, .int se, .ref a8, .ref a9, .ref ab])), (a1, .inl (cI, 80, .inl g1)), (a2, .inl (cI, 128, .inl g2))]) (fun (th2 : Int32) => []) := by
  refine ct_i (cc := cX9_check) (maxL := 3) (ret := (some .int)) (by decide) rfl (Nat.le_of_ble_eq_true rfl) ?_
  intro p e s m below meth c A ls H hx hb hr hts hown hml hlocks hin hA hS hP hK hD hNW hl hAe hsz
  have hl : lv_has ls 3 [(0, .ref h0), (1, .int v), (2, .int w)] := hl
  refine lv_aload_n hx hb dX9_check_0 rfl (lv_at hl 0 rfl) ?_
  refine lv_iconst (v := 0) hx hb dX9_check_1 (by decide) ?_
  refine va_put (D := D) (ci := 8) (v := .int 0) (ty := .int) (C := RX9) (T := TX9) (N := 17) hx hb hts him_check_X9 tyX9 tyX9_ok nmX9 hown hK hP hD hS 0 rfl rfl 12 (by decide) (hts (.fieldLink RX9 43 "OneHandsetModel" "thrown" "I") (List.mem_of_getElem? (i := 1) rfl)) (fun _ h9 => h9) rfl (by decide +kernel) rfl rfl (Nat.le_of_ble_eq_true rfl) dX9_check_2 (fun H locs hP hD hS => ?_)
  have hP : va_P D vwCl [(h0, .inr (8, [.ref a0, .int tk, .ref a1, .int mm, .ref a2, .ref a3, .ref a4, .ref a5, .ref a6, .ref a7, .int wm, .int fa, .int 0, .int se, .ref a8, .ref a9, .ref ab])), (a1, .inl (cI, 80, .inl g1)), (a2, .inl (cI, 128, .inl g2))] H := hP
  have hD : va_D A [(h0, .inr (8, [.ref a0, .int tk, .ref a1, .int mm, .ref a2, .ref a3, .ref a4, .ref a5, .ref a6, .ref a7, .int wm, .int fa, .int 0, .int se, .ref a8, .ref a9, .ref ab])), (a1, .inl (cI, 80, .inl g1)), (a2, .inl (cI, 128, .inl g2))] := hD
  refine lv_aload_n hx hb dX9_check_5 rfl (lv_at hl 0 rfl) ?_
  refine lv_iload_n hx hb dX9_check_6 rfl (lv_at hl 1 rfl) ?_
  refine go_i (wr := [(a1, .inl (cI, 80, .inl g1)), (a2, .inl (cI, 128, .inl g2))]) (tysr := [(cI, .int)]) hP hD hS hA hK [0] [1, 2] [0] rfl rfl (by decide) (by decide) rfl (va_runV (As := [.int v]) (rest := []) ⟨hx, hb, hml, hown, hts⟩ (m_isMake l D H.size cI h0 a0 a1 a2 a3 a4 a5 a6 a7 a8 a9 ab tk mm wm fa 0 se v ) (cwV 1 hts gX9_check_X9_isMake rfl rfl rfl (by decide +kernel) ⟨Nat.le_of_ble_eq_true rfl, Nat.le_of_ble_eq_true rfl⟩) (st_preV (ci := 8) (q0 := 0) hP hD hK hNW [0] [0] rfl rfl (by decide) rfl rfl rfl rfl) rfl rfl hl.1 rfl (lv_room (Nat.le_of_ble_eq_true rfl)) dX9_check_7 ⟨(Nat.le_of_ble_eq_true rfl), (Nat.le_of_ble_eq_true rfl)⟩) (fun r_1 u H locs hw hP hD hK hS => ?_)
  have hw : r_1 = wi v 0 (mm - 1) := hw
  subst hw
  have hP : va_P D vwCl [(a1, .inl (cI, 80, .inl g1)), (a2, .inl (cI, 128, .inl g2)), (h0, .inr (8, [.ref a0, .int tk, .ref a1, .int mm, .ref a2, .ref a3, .ref a4, .ref a5, .ref a6, .ref a7, .int wm, .int fa, .int 0, .int se, .ref a8, .ref a9, .ref ab]))] H := hP
  have hD : va_D A [(a1, .inl (cI, 80, .inl g1)), (a2, .inl (cI, 128, .inl g2)), (h0, .inr (8, [.ref a0, .int tk, .ref a1, .int mm, .ref a2, .ref a3, .ref a4, .ref a5, .ref a6, .ref a7, .int wm, .int fa, .int 0, .int se, .ref a8, .ref a9, .ref ab]))] := hD
  have hK : va_K D vwCl [(cI, .int)] s := hK
  refine lv_if_eq (tgt := 31) hx hb dX9_check_10 (by decide) (fun c_2 => ?_) (fun c_2 => ?_)
  · refine lv_iconst (v := (-1)) hx hb dX9_check_31 (by decide) ?_
    exact ret_i hx hb hr hlocks rfl (u := 0) trivial (hP.sub [2, 0, 1] rfl) (hK.sub [] rfl) (hD.sub [2, 0, 1] (by decide) rfl) hS (Nat.le_of_ble_eq_true rfl) (Nat.le_of_ble_eq_true rfl) dX9_check_32
  have hv7_3 : bi v 0 7 := (by clear hml hsz hr hlocks; have : (0 : Int32).toInt = 0 := (by decide); have := ti_wi1 c_2; have u1 := ti_m1 (i := mm) (by omega); omega)
  have hvm_4 : v.toInt < mm.toInt := (by clear hml hsz hr hlocks; have : (0 : Int32).toInt = 0 := (by decide); have := ti_wi1 c_2; have u1 := ti_m1 (i := mm) (by omega); omega)
  refine lv_iload_n hx hb dX9_check_13 rfl (lv_at hl 2 rfl) ?_
  refine lv_iconst (v := 1) hx hb dX9_check_14 (by decide) ?_
  refine lv_iconst (v := 3) hx hb dX9_check_15 (by decide) ?_
  refine go_i (wr := [(a1, .inl (cI, 80, .inl g1)), (a2, .inl (cI, 128, .inl g2)), (h0, .inr (8, [.ref a0, .int tk, .ref a1, .int mm, .ref a2, .ref a3, .ref a4, .ref a5, .ref a6, .ref a7, .int wm, .int fa, .int 0, .int se, .ref a8, .ref a9, .ref ab]))]) (tysr := [(cI, .int)]) hP hD hS hA hK [] [0, 1, 2] [0] rfl rfl (by decide) (by decide) rfl (va_runS (As := [.int w, .int 1, .int 3]) (rest := []) ⟨hx, hb, hml, hown, hts⟩ (m_in l D H.size w 1 3 ) (va_cwS 3 hts gX9_check_X9_in rfl rfl rfl (by decide +kernel) ⟨Nat.le_of_ble_eq_true rfl, Nat.le_of_ble_eq_true rfl⟩) (st_preS hP hD hK hNW [] [] rfl rfl (by decide) rfl) rfl rfl hl.1 rfl (lv_room (Nat.le_of_ble_eq_true rfl)) dX9_check_16 ⟨(Nat.le_of_ble_eq_true rfl), (Nat.le_of_ble_eq_true rfl)⟩) (fun r_5 u H locs hw hP hD hK hS => ?_)
  have hw : r_5 = wi w 1 3 := hw
  subst hw
  have hP : va_P D vwCl [(a1, .inl (cI, 80, .inl g1)), (a2, .inl (cI, 128, .inl g2)), (h0, .inr (8, [.ref a0, .int tk, .ref a1, .int mm, .ref a2, .ref a3, .ref a4, .ref a5, .ref a6, .ref a7, .int wm, .int fa, .int 0, .int se, .ref a8, .ref a9, .ref ab]))] H := hP
  have hD : va_D A [(a1, .inl (cI, 80, .inl g1)), (a2, .inl (cI, 128, .inl g2)), (h0, .inr (8, [.ref a0, .int tk, .ref a1, .int mm, .ref a2, .ref a3, .ref a4, .ref a5, .ref a6, .ref a7, .int wm, .int fa, .int 0, .int se, .ref a8, .ref a9, .ref ab]))] := hD
  have hK : va_K D vwCl [(cI, .int)] s := hK
  refine lv_if_eq (tgt := 31) hx hb dX9_check_19 (by decide) (fun c_6 => ?_) (fun c_6 => ?_)
  · refine lv_iconst (v := (-1)) hx hb dX9_check_31 (by decide) ?_
    exact ret_i hx hb hr hlocks rfl (u := 0) trivial (hP.sub [2, 0, 1] rfl) (hK.sub [] rfl) (hD.sub [2, 0, 1] (by decide) rfl) hS (Nat.le_of_ble_eq_true rfl) (Nat.le_of_ble_eq_true rfl) dX9_check_32
  refine lv_aload_n hx hb dX9_check_22 rfl (lv_at hl 0 rfl) ?_
  refine lv_iload_n hx hb dX9_check_23 rfl (lv_at hl 1 rfl) ?_
  refine lv_iload_n hx hb dX9_check_24 rfl (lv_at hl 2 rfl) ?_
  refine go_i (wr := []) (tysr := [(cI, .int)]) hP hD hS hA hK [2, 0, 1] [] [0] rfl rfl (by decide) (by decide) rfl (va_runV (As := [.int v, .int w]) (rest := []) ⟨hx, hb, hml, hown, hts⟩ (m_checkOf l D H.size cI h0 a0 a1 a2 a3 a4 a5 a6 a7 a8 a9 ab tk mm wm fa 0 se g1 g2 v w (by first | assumption | (clear hml hsz hr hlocks; omega) | decide)) (cwV 2 hts gX9_check_X9_checkOf rfl rfl rfl (by decide +kernel) ⟨Nat.le_of_ble_eq_true rfl, Nat.le_of_ble_eq_true rfl⟩) (st_preV (ci := 8) (q0 := 2) hP hD hK hNW [2, 0, 1] [0] rfl rfl (by decide) rfl rfl rfl rfl) rfl rfl hl.1 rfl (lv_room (Nat.le_of_ble_eq_true rfl)) dX9_check_25 ⟨(Nat.le_of_ble_eq_true rfl), (Nat.le_of_ble_eq_true rfl)⟩) (fun r_7 u H locs hw hP hD hK hS => ?_)
  have hP : va_P D vwCl [(h0, .inr (8, [.ref a0, .int tk, .ref a1, .int mm, .ref a2, .ref a3, .ref a4, .ref a5, .ref a6, .ref a7, .int wm, .int fa, .int 0, .int se, .ref a8, .ref a9, .ref ab])), (a1, .inl (cI, 80, .inl g1)), (a2, .inl (cI, 128, .inl g2))] H := hP
  have hD : va_D A [(h0, .inr (8, [.ref a0, .int tk, .ref a1, .int mm, .ref a2, .ref a3, .ref a4, .ref a5, .ref a6, .ref a7, .int wm, .int fa, .int 0, .int se, .ref a8, .ref a9, .ref ab])), (a1, .inl (cI, 80, .inl g1)), (a2, .inl (cI, 128, .inl g2))] := hD
  have hK : va_K D vwCl [(cI, .int)] s := hK
  refine lv_goto (tgt := 32) hx hb dX9_check_28 (by decide) ?_
  exact ret_i hx hb hr hlocks rfl (u := 0) trivial (hP.sub [0, 1, 2] rfl) (hK.sub [] rfl) (hD.sub [0, 1, 2] (by decide) rfl) hS (Nat.le_of_ble_eq_true rfl) (Nat.le_of_ble_eq_true rfl) dX9_check_32
