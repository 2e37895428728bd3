set_option maxHeartbeats 4000000 in
set_option maxRecDepth 100000 in
theorem c_X8_within (l : Launch) (D : va_G) (sz : Nat) (v : Int32) (lo : Int32) (hi : Int32)  : Ci l yX8_within wsX8_within ({ frames := 0, cells := 0, slots := 0, locals := 0 } : Room) D [.int v, .int lo, .int hi] [] [] sz (fun (r : Int32) => fun (_ : Unit) => r = wi v lo hi) (fun (_ : Unit) => []) (fun (_ : Unit) => []) := by
  refine ct_i (cc := cX8_within) (maxL := 3) (ret := (some .boolean)) (by decide) rfl (Nat.le_of_ble_eq_true rfl) ?_
  intro p e s m below meth c A ls H hx hb hr hts hown hml hlocks hin hA hS hP hK hD hNW hl hAe hsz
  have hl : lv_has ls 3 [(0, .int v), (1, .int lo), (2, .int hi)] := hl
  refine lv_iload_n hx hb dX8_within_0 rfl (lv_at hl 0 rfl) ?_
  refine lv_iload_n hx hb dX8_within_1 rfl (lv_at hl 1 rfl) ?_
  refine lv_icmp_lt (tgt := 14) hx hb dX8_within_2 (by decide) (fun c_1 => ?_) (fun c_1 => ?_)
  · refine lv_iconst (v := 0) hx hb dX8_within_14 (by decide) ?_
    exact ret_i hx hb hr hlocks rfl (u := ()) (by simp [wi, c_1]) (hP.sub [] rfl) (hK.sub [] rfl) (hD.sub [] (by decide) rfl) hS (Nat.le_of_ble_eq_true rfl) (Nat.le_of_ble_eq_true rfl) dX8_within_15
  refine lv_iload_n hx hb dX8_within_5 rfl (lv_at hl 0 rfl) ?_
  refine lv_iload_n hx hb dX8_within_6 rfl (lv_at hl 2 rfl) ?_
  refine lv_icmp_gt (tgt := 14) hx hb dX8_within_7 (by decide) (fun c_2 => ?_) (fun c_2 => ?_)
  · refine lv_iconst (v := 0) hx hb dX8_within_14 (by decide) ?_
    exact ret_i hx hb hr hlocks rfl (u := ()) (by simp [wi, c_1, c_2]) (hP.sub [] rfl) (hK.sub [] rfl) (hD.sub [] (by decide) rfl) hS (Nat.le_of_ble_eq_true rfl) (Nat.le_of_ble_eq_true rfl) dX8_within_15
  refine lv_iconst (v := 1) hx hb dX8_within_10 (by decide) ?_
  refine lv_goto (tgt := 15) hx hb dX8_within_11 (by decide) ?_
  exact ret_i hx hb hr hlocks rfl (u := ()) (by simp [wi, c_1, c_2]) (hP.sub [] rfl) (hK.sub [] rfl) (hD.sub [] (by decide) rfl) hS (Nat.le_of_ble_eq_true rfl) (Nat.le_of_ble_eq_true rfl) dX8_within_15
set_option maxHeartbeats 4000000 in
set_option maxRecDepth 100000 in
theorem c_X8_isNumber (l : Launch) (D : va_G) (sz : Nat) (v : Int32)  : Ci l yX8_isNumber wsX8_isNumber ({ frames := 1, cells := 0, slots := 0, locals := 22 } : Room) D [.int v] [] [] sz (fun (r : Int32) => fun (_ : Unit) => r = wi v 1 9999) (fun (_ : Unit) => []) (fun (_ : Unit) => []) := by
  refine ct_i (cc := cX8_isNumber) (maxL := 1) (ret := (some .boolean)) (by decide) rfl (Nat.le_of_ble_eq_true rfl) ?_
  intro p e s m below meth c A ls H hx hb hr hts hown hml hlocks hin hA hS hP hK hD hNW hl hAe hsz
  have hl : lv_has ls 1 [(0, .int v)] := hl
  refine lv_iload_n hx hb dX8_isNumber_0 rfl (lv_at hl 0 rfl) ?_
  refine lv_iconst (v := 1) hx hb dX8_isNumber_1 (by decide) ?_
  refine lv_sipush (v := 9999) hx hb dX8_isNumber_2 (by decide) ?_
  refine go_i (wr := []) (tysr := []) hP hD hS hA hK [] [] [] rfl rfl (by decide) (by decide) rfl (va_runS (As := [.int v, .int 1, .int 9999]) (rest := []) ⟨hx, hb, hml, hown, hts⟩ (c_X8_within l D H.size v 1 9999 ) (va_cwS 3 hts gX8_isNumber_X8_within rfl rfl rfl (by decide +kernel) ⟨Nat.le_of_ble_eq_true rfl, Nat.le_of_ble_eq_true rfl⟩) (st_preS hP hD hK hNW [] [] rfl rfl (by decide) rfl) rfl rfl hl.1 rfl (lv_room (Nat.le_of_ble_eq_true rfl)) dX8_isNumber_5 ⟨(Nat.le_of_ble_eq_true rfl), (Nat.le_of_ble_eq_true rfl)⟩) (fun r_1 u H locs hw hP hD hK hS => ?_)
  have hw : r_1 = wi v 1 9999 := hw
  subst hw
  have hP : va_P D vwCl [] H := hP
  have hD : va_D A [] := hD
  have hK : va_K D vwCl [] s := hK
  exact ret_i hx hb hr hlocks (wi_nar _ _ _) (u := ()) rfl (hP.sub [] rfl) (hK.sub [] rfl) (hD.sub [] (by decide) rfl) hS (Nat.le_of_ble_eq_true rfl) (Nat.le_of_ble_eq_true rfl) dX8_isNumber_8
set_option maxHeartbeats 4000000 in
set_option maxRecDepth 100000 in
theorem c_X8_lowBits (l : Launch) (D : va_G) (sz : Nat) (n : Int32)  : Ci l yX8_lowBits wsX8_lowBits ({ frames := 0, cells := 0, slots := 0, locals := 0 } : Room) D [.int n] [] [] sz (fun (r : Int32) => fun (_ : Unit) => r = lb n) (fun (_ : Unit) => []) (fun (_ : Unit) => []) := by
  refine ct_i (cc := cX8_lowBits) (maxL := 1) (ret := (some .int)) (by decide) rfl (Nat.le_of_ble_eq_true rfl) ?_
  intro p e s m below meth c A ls H hx hb hr hts hown hml hlocks hin hA hS hP hK hD hNW hl hAe hsz
  have hl : lv_has ls 1 [(0, .int n)] := hl
  refine lv_iconst (v := 1) hx hb dX8_lowBits_0 (by decide) ?_
  refine lv_iload_n hx hb dX8_lowBits_1 rfl (lv_at hl 0 rfl) ?_
  refine lv_ishl hx hb dX8_lowBits_2 ?_
  refine lv_iconst (v := 1) hx hb dX8_lowBits_3 (by decide) ?_
  refine lv_isub hx hb dX8_lowBits_4 ?_
  exact ret_i hx hb hr hlocks rfl (u := ()) rfl (hP.sub [] rfl) (hK.sub [] rfl) (hD.sub [] (by decide) rfl) hS (Nat.le_of_ble_eq_true rfl) (Nat.le_of_ble_eq_true rfl) dX8_lowBits_5
set_option maxHeartbeats 4000000 in
set_option maxRecDepth 100000 in
theorem c_J7_fill_53178 (l : Launch) (D : va_G) (sz : Nat) (a : Nat) (cA : ClassId) (N : Nat) (f : Nat → Int32) (v : Int32) (hN : N < 2 ^ 31) : Cv l yJ7_fill_53178 wsJ7_fill_53178 ({ frames := 0, cells := 0, slots := 0, locals := 0 } : Room) D [.ref a, .int v] [(a, .inl (cA, N, .inl f))] [(cA, .int)] sz (fun (_ : Unit) => True) (fun (_ : Unit) => [(a, .inl (cA, N, .inl (fl f v N)))]) (fun (_ : Unit) => [(cA, .int)]) := by
  refine ct_v (cc := cJ7_fill_53178) (maxL := 4) (ret := none) (by decide) rfl (Nat.le_of_ble_eq_true rfl) ?_
  intro p e s m below meth c A ls H hx hb hr hts hown hml hlocks hin hA hS hP hK hD hNW hl hAe hsz
  have hl : lv_has ls 4 [(0, .ref a), (1, .int v)] := hl
  refine lv_iconst (v := 0) hx hb dJ7_fill_53178_0 (by decide) ?_
  refine lv_istore_n (lv' := [(2, .int 0), (0, .ref a), (1, .int v)]) hx hb dJ7_fill_53178_1 rfl hl (by decide) rfl (fun ls hl => ?_)
  refine lv_aload_n hx hb dJ7_fill_53178_2 rfl (lv_at hl 1 rfl) ?_
  refine va_alen (v := nI N) hx hb hK hP 0 0 rfl rfl rfl dJ7_fill_53178_3 ?_
  refine lv_istore_n (lv' := [(3, .int (nI N)), (2, .int 0), (0, .ref a), (1, .int v)]) hx hb dJ7_fill_53178_4 rfl hl (by decide) rfl (fun ls hl => ?_)
  have LOOP : ∀ (n i : Nat), i ≤ N → N < i + n → ∀ (H : Heap) (locs : List Loc), va_P D vwCl [(a, .inl (cA, N, .inl (fl f v i)))] H → va_D A [(a, .inl (cA, N, .inl (fl f v i)))] → va_S A s.heap H locs → ∀ (ls : Array Slot), lv_has ls 4 [(3, .int (nI N)), (2, .int (nI i)), (0, .ref a), (1, .int v)] → W p l e ({ frames := 0, cells := 0, slots := 0, locals := 0 } : Room) s m #[.ref a, .int v] below meth c H locs 0 0 (MQ below (va_Qv (S := Unit) (fun _ => True) (st_B D A (fun _ => [(a, .inl (cA, N, .inl (fl f v N)))]) (fun _ => [(cA, .int)])) A) #[.ref a, .int v] s 0 0 A) (F0 m 5 ls []) := by
    intro n
    induction n with
    | zero => intro i h1 h2; exact absurd h2 (by omega)
    | succ n ih =>
      intro i hi1 hi2 H locs hP hD hS ls hl
      refine lv_iload_n hx hb dJ7_fill_53178_5 rfl (lv_at hl 1 rfl) ?_
      refine lv_iload_n hx hb dJ7_fill_53178_6 rfl (lv_at hl 0 rfl) ?_
      refine lv_icmp_ge (tgt := 20) hx hb dJ7_fill_53178_7 (by decide) (fun c_1 => ?_) (fun c_1 => ?_)
      · have hiN : i = N := by
          rcases Nat.lt_or_ge i N with q | q
          · exact absurd c_1 (nI_ge q hN)
          · omega
        subst hiN
        exact ret_v hx hb hr hlocks (u := ()) trivial (hP.sub [0] rfl) (hK.sub [0] rfl) (hD.sub [0] (by decide) rfl) hS (Nat.le_of_ble_eq_true rfl) (Nat.le_of_ble_eq_true rfl) dJ7_fill_53178_20
      refine lv_aload_n hx hb dJ7_fill_53178_10 rfl (lv_at hl 2 rfl) ?_
      refine lv_iload_n hx hb dJ7_fill_53178_11 rfl (lv_at hl 1 rfl) ?_
      refine lv_iload_n hx hb dJ7_fill_53178_12 rfl (lv_at hl 3 rfl) ?_
      have hlt : i < N := by
        rcases Nat.lt_or_ge i N with q | q
        · exact q
        · exact absurd (nI_le q (by omega)) c_1
      refine va_iast hx hb hK hP hD hS 0 0 rfl rfl (vp_in_nI hlt hN) dJ7_fill_53178_13 (fun H locs hP hD hS => ?_)
      have hP : va_P D vwCl [(a, .inl (cA, N, .inl (fl f v (i + 1))))] H := by rw [← fl_up]; rw [nI_clamp (by omega : i < 2 ^ 31)] at hP; exact hP
      have hD : va_D A [(a, .inl (cA, N, .inl (fl f v (i + 1))))] := by rw [← fl_up]; rw [nI_clamp (by omega : i < 2 ^ 31)] at hD; exact hD
      refine lv_iinc (v := nI (i + 1)) (lv' := [(2, .int (nI (i + 1))), (3, .int (nI N)), (0, .ref a), (1, .int v)]) hx hb dJ7_fill_53178_14 hl (k := 1) rfl (nI_1 i) (by decide) rfl (fun ls hl => ?_)
      refine lv_goto (tgt := 5) hx hb dJ7_fill_53178_17 (by decide) ?_
      exact ih (i + 1) hlt (by omega) _ _ hP hD hS ls (lv_sub hl [1, 0, 2, 3] rfl)
  exact LOOP (N + 1) 0 (Nat.zero_le _) (by omega) _ _ (fl_0 f v ▸ hP) (fl_0 f v ▸ hD) hS ls hl
