theorem hiX8_time_X8 : ∀ w ∈ wsX80, w ∈ wsX8_time := mem_pl [15, 16, 17, 18, 19] rfl
theorem hiX8_time_X7 : ∀ w ∈ wsX70, w ∈ wsX8_time := mem_pl [20, 21] rfl
set_option maxHeartbeats 4000000 in
set_option maxRecDepth 100000 in
theorem g_time (l : Launch) (hl9 : l.stackTraces = false) (D : va_G) (sz : Nat) (cI : ClassId) (h0 tp mka bx rt ta : Nat) (mc tk : Int32) (tf : Nat → Int32) (v : Int32) (hk : bi tk 0 120) : vx_Met l yX8_time wsX8_time ({ frames := 6, cells := 1, slots := 6, locals := 120 } : Room) (tm_Pc D [.ref h0, .int v] [(h0, .inr (7, [.ref tp, .ref mka, .int mc, .ref bx, .ref rt])), (tp, .inr (6, [.ref ta, .int tk])), (ta, .inl (cI, 120, .inl tf))] [(cI, .int)] sz) (va_Qi (fun (_ : Int32) (_ : Unit) => True) (st_B D (va_A [(h0, .inr (7, [.ref tp, .ref mka, .int mc, .ref bx, .ref rt])), (tp, .inr (6, [.ref ta, .int tk])), (ta, .inl (cI, 120, .inl tf))] sz) (fun _ => [(h0, .inr (7, [.ref tp, .ref mka, .int mc, .ref bx, .ref rt])), (tp, .inr (6, [.ref ta, .int tk])), (ta, .inl (cI, 120, .inl tf))]) (fun _ => [])) (va_A [(h0, .inr (7, [.ref tp, .ref mka, .int mc, .ref bx, .ref rt])), (tp, .inr (6, [.ref ta, .int tk])), (ta, .inl (cI, 120, .inl tf))] sz)) (vx_X (fun _ : Unit => True) (fun E _ t => E = "java/util/NoSuchElementException" ∧ va_P D vwCl [(h0, .inr (7, [.ref tp, .ref mka, .int mc, .ref bx, .ref rt])), (tp, .inr (6, [.ref ta, .int tk])), (ta, .inl (cI, 120, .inl tf))] t.heap ∧ va_D (va_A [(h0, .inr (7, [.ref tp, .ref mka, .int mc, .ref bx, .ref rt])), (tp, .inr (6, [.ref ta, .int tk])), (ta, .inl (cI, 120, .inl tf))] sz) [(h0, .inr (7, [.ref tp, .ref mka, .int mc, .ref bx, .ref rt])), (tp, .inr (6, [.ref ta, .int tk])), (ta, .inl (cI, 120, .inl tf))]) (va_A [(h0, .inr (7, [.ref tp, .ref mka, .int mc, .ref bx, .ref rt])), (tp, .inr (6, [.ref ta, .int tk])), (ta, .inl (cI, 120, .inl tf))] sz)) 1 6 (va_A [(h0, .inr (7, [.ref tp, .ref mka, .int mc, .ref bx, .ref rt])), (tp, .inr (6, [.ref ta, .int tk])), (ta, .inl (cI, 120, .inl tf))] sz) := by
  refine vx_ofW (cc := cX8_time) (maxL := 2) (ret := (some .int)) (by decide) rfl ?_
  intro p e s m args below meth c s₁ B hml htab hv
  obtain ⟨rfl, ⟨hsz, hP, hK, hD0, hNW⟩, hTW, hZ⟩ := hv
  have hx := B.exec
  have hb := B.bytes
  have hr := B.returns
  have hts := atoms_spec (ws := wsX8_time) B.pre
  have hown : s.vm.findClass RX8 = some m.cls := findClass_of_methodNamed B.named
  have hlocks := B.notSynchronized
  subst hsz
  have hD := hD0.self (sz := s.heap.size)
  have hA : ∀ q : Nat, s.heap.size ≤ q → va_A [(h0, .inr (7, [.ref tp, .ref mka, .int mc, .ref bx, .ref rt])), (tp, .inr (6, [.ref ta, .int tk])), (ta, .inl (cI, 120, .inl tf))] s.heap.size q := fun q h => Or.inr h
  generalize va_A [(h0, .inr (7, [.ref tp, .ref mka, .int mc, .ref bx, .ref rt])), (tp, .inr (6, [.ref ta, .int tk])), (ta, .inl (cI, 120, .inl tf))] s.heap.size = A at hD hZ hA ⊢
  have hat := vx_hat (fun w h => hts w (List.mem_cons_of_mem _ (List.mem_append_right _ h))) tm_ng (vx_c (va_Nw.use rfl hTW.1) (vx_c (va_Nw.use rfl hTW.2.1) (vx_c (va_Nw.use rfl hTW.2.2.1) (vx_c (va_Nw.use rfl hTW.2.2.2) vx_n))))
  have hS : va_S A s.heap s.heap [] := va_S.rf
  have hl := lv_entry ([.ref h0, .int v]) (n := 2) (Nat.le_of_ble_eq_true rfl)
  rw [lg_entry_eq]
  generalize (lg_sl ([.ref h0, .int v]) ++ List.replicate (2 - (lg_sl ([.ref h0, .int v])).length) Slot.unset).toArray = ls at hl ⊢
  have hl : lv_has ls 2 [(0, .ref h0), (1, .int v)] := hl
  obtain ⟨H, hH⟩ : ∃ H : Heap, H = s.heap := ⟨_, rfl⟩
  rw [← hH] at hP
  have hS : va_S A s.heap H [] := by rw [hH]; exact hS
  refine (show W p l e ({ frames := 6, cells := 1, slots := 6, locals := 120 } : Room) s m _ below meth c H [] 0 0 _ (F0 m 0 ls []) → _ from fun h => by rw [hH] at h; exact h) ?_
  refine lv_iload_n hx hb dX8_time_0 rfl (lv_at hl 1 rfl) ?_
  refine lv_iconst (v := 0) hx hb dX8_time_1 (by decide) ?_
  refine lv_aload_n hx hb dX8_time_2 rfl (lv_at hl 0 rfl) ?_
  refine va_get (D := D) (ci := 7) (v := .ref tp) (C := RX8) (T := TX8) (N := 5) hx hb hts hiX8_time_X8 hown hK hP 0 rfl rfl 0 (by decide) (hts (.fieldLink RX8 12 "OneHandset" "tape" "LOneHandset$Tape;") (List.mem_of_getElem? (i := 3) rfl)) (fun _ h9 => h9) rfl dX8_time_3 ?_
  refine va_getN (D := D) (ci := 6) (v := .int tk) (C := RX7) (T := TX7) (N := 2) hx hb hts hiX8_time_X7 hown hK hP 1 rfl rfl 1 (by decide) (va_Nw.use rfl (hNW.1 ("OneHandset", 81, "OneHandset$Tape", "size", "I", "OneHandset") (List.mem_of_getElem? (l := nw_F) (i := 1) rfl))) (fun _ h9 => h9) rfl dX8_time_6 ?_
  refine lv_iconst (v := 1) hx hb dX8_time_9 (by decide) ?_
  refine lv_isub hx hb dX8_time_10 ?_
  refine go_i (wr := [(h0, .inr (7, [.ref tp, .ref mka, .int mc, .ref bx, .ref rt])), (tp, .inr (6, [.ref ta, .int tk])), (ta, .inl (cI, 120, .inl tf))]) (tysr := [(cI, .int)]) hP hD hS hA hK [] [0, 1, 2] [0] rfl rfl (by decide) (by decide) rfl (va_runS (As := [.int v, .int 0, .int (tk - 1)]) (rest := []) ⟨hx, hb, hml, hown, hts⟩ (c_X8_within l D H.size v 0 (tk - 1) ) (va_cwS 3 hts gX8_time_X8_within rfl rfl rfl (by decide +kernel) ⟨Nat.le_of_ble_eq_true rfl, Nat.le_of_ble_eq_true rfl⟩) (st_preS hP hD hK hNW [] [] rfl rfl (by decide) rfl) rfl rfl hl.1 rfl (lv_room (Nat.le_of_ble_eq_true rfl)) dX8_time_11 ⟨(Nat.le_of_ble_eq_true rfl), (Nat.le_of_ble_eq_true rfl)⟩) (fun r_1 u H locs hw hP hD hK hS => ?_)
  have hw : r_1 = wi v 0 (tk - 1) := hw
  subst hw
  have hP : va_P D vwCl [(h0, .inr (7, [.ref tp, .ref mka, .int mc, .ref bx, .ref rt])), (tp, .inr (6, [.ref ta, .int tk])), (ta, .inl (cI, 120, .inl tf))] H := hP
  have hD : va_D A [(h0, .inr (7, [.ref tp, .ref mka, .int mc, .ref bx, .ref rt])), (tp, .inr (6, [.ref ta, .int tk])), (ta, .inl (cI, 120, .inl tf))] := hD
  have hK : va_K D vwCl [(cI, .int)] s := hK
  refine lv_if_ne (tgt := 25) hx hb dX8_time_14 (by decide) (fun c_2 => ?_) (fun c_2 => ?_)
  · refine lv_aload_n hx hb dX8_time_25 rfl (lv_at hl 0 rfl) ?_
    refine va_get (D := D) (ci := 7) (v := .ref tp) (C := RX8) (T := TX8) (N := 5) hx hb hts hiX8_time_X8 hown hK hP 0 rfl rfl 0 (by decide) (hts (.fieldLink RX8 12 "OneHandset" "tape" "LOneHandset$Tape;") (List.mem_of_getElem? (i := 3) rfl)) (fun _ h9 => h9) rfl dX8_time_26 ?_
    refine lv_iload_n hx hb dX8_time_29 rfl (lv_at hl 1 rfl) ?_
    refine go_i (wr := [(h0, .inr (7, [.ref tp, .ref mka, .int mc, .ref bx, .ref rt]))]) (tysr := [(cI, .int)]) hP hD hS hA hK [1, 2] [0] [0] rfl rfl (by decide) (by decide) rfl (va_runV (As := [.int v]) (rest := []) ⟨hx, hb, hml, hown, hts⟩ (g_at l D H.size tp ta cI tk tf v hk) (cwV 1 hts gX8_time_X7_at rfl rfl rfl (by decide +kernel) ⟨Nat.le_of_ble_eq_true rfl, Nat.le_of_ble_eq_true rfl⟩) (st_preV (ci := 6) (q0 := 1) hP hD hK hNW [1, 2] [0] rfl rfl (by decide) rfl rfl rfl rfl) rfl rfl hl.1 rfl (lv_room (Nat.le_of_ble_eq_true rfl)) dX8_time_30 ⟨(Nat.le_of_ble_eq_true rfl), (Nat.le_of_ble_eq_true rfl)⟩) (fun r_3 u H locs hw hP hD hK hS => ?_)
    have hP : va_P D vwCl [(h0, .inr (7, [.ref tp, .ref mka, .int mc, .ref bx, .ref rt])), (tp, .inr (6, [.ref ta, .int tk])), (ta, .inl (cI, 120, .inl tf))] H := hP
    have hD : va_D A [(h0, .inr (7, [.ref tp, .ref mka, .int mc, .ref bx, .ref rt])), (tp, .inr (6, [.ref ta, .int tk])), (ta, .inl (cI, 120, .inl tf))] := hD
    have hK : va_K D vwCl [(cI, .int)] s := hK
    refine vx_ret ?_
    exact ret_i hx hb hr hlocks rfl (u := ()) trivial (hP.sub [0, 1, 2] rfl) (hK.sub [] rfl) (hD.sub [0, 1, 2] (by decide) rfl) hS (Nat.le_of_ble_eq_true rfl) (Nat.le_of_ble_eq_true rfl) dX8_time_33
  exact vx_throw0 (ik := 95) (ic := 97) (own := RX8) (cls := "java/util/NoSuchElementException") (names := ["java/lang/RuntimeException", "java/lang/Exception"]) (A := A) hx hb hl9 hown (by decide +kernel) (by decide +kernel) (hts (.classLink RX8 95 "java/util/NoSuchElementException") (List.mem_of_getElem? (i := 1) rfl)) (hts (.initialized "java/util/NoSuchElementException") (List.mem_of_getElem? (i := 2) rfl)) hat tm_ot hZ.1 hZ.2 hS (hl.1.trans hml.symm) dX8_time_17 dX8_time_20 dX8_time_21 dX8_time_24 (fun x h => absurd h (fun h => htab x h)) (Nat.le_of_ble_eq_true rfl) (Nat.le_of_ble_eq_true rfl) (Nat.le_of_ble_eq_true rfl) (Nat.le_of_ble_eq_true rfl) hlocks (fun t hvm hz hq => ⟨(), trivial, ⟨rfl, hP.kept (fun k9 q9 h9 => hq q9.1 ((hP k9 q9 h9).lt)), hD⟩, Nat.le_trans hS.1 hz, fun q h1 h2 => (hq q (Nat.lt_of_lt_of_le h1 hS.1)).trans (hS.2.1 q h1 h2)⟩) hS.2.2 (Nat.le_of_ble_eq_true rfl) (Nat.le_of_ble_eq_true rfl)
set_option maxHeartbeats 4000000 in
set_option maxRecDepth 100000 in
theorem g_ltime (l : Launch) (hl9 : l.stackTraces = false) (D : va_G) (sz : Nat) (cI cL : ClassId) (h0 tp mka bx rt ta o0 : Nat) (mc tk : Int32) (tf : Nat → Int32) (og : Nat → Int64) (v : Int32) (hk : bi tk 0 120) : Met l yL_time wsL_time ({ frames := 7, cells := 1, slots := 6, locals := 150 } : Room) (tm_Pc D [.ref h0, .int v, .ref o0] [(o0, .inl (cL, 1, .inr (.inl og))), (h0, .inr (7, [.ref tp, .ref mka, .int mc, .ref bx, .ref rt])), (tp, .inr (6, [.ref ta, .int tk])), (ta, .inl (cI, 120, .inl tf))] [(cI, .int), (cL, .long)] sz) (va_Qi (fun (r : Int32) (_ : Nat → Int64) => True) (st_B D (va_A [(o0, .inl (cL, 1, .inr (.inl og))), (h0, .inr (7, [.ref tp, .ref mka, .int mc, .ref bx, .ref rt])), (tp, .inr (6, [.ref ta, .int tk])), (ta, .inl (cI, 120, .inl tf))] sz) (fun (og2 : Nat → Int64) => [(o0, .inl (cL, 1, .inr (.inl og2))), (h0, .inr (7, [.ref tp, .ref mka, .int mc, .ref bx, .ref rt])), (tp, .inr (6, [.ref ta, .int tk])), (ta, .inl (cI, 120, .inl tf))]) (fun _ => [])) (va_A [(o0, .inl (cL, 1, .inr (.inl og))), (h0, .inr (7, [.ref tp, .ref mka, .int mc, .ref bx, .ref rt])), (tp, .inr (6, [.ref ta, .int tk])), (ta, .inl (cI, 120, .inl tf))] sz)) 1 6 (va_A [(o0, .inl (cL, 1, .inr (.inl og))), (h0, .inr (7, [.ref tp, .ref mka, .int mc, .ref bx, .ref rt])), (tp, .inr (6, [.ref ta, .int tk])), (ta, .inl (cI, 120, .inl tf))] sz) := by
  refine va_MetW (cc := cL_time) (maxL := 4) (ret := (some .int)) (hh := [(0, 9, 12, 13)]) (by decide) rfl ?_
  intro p e s m args below meth c s₁ B hml hv
  obtain ⟨rfl, ⟨hsz, hP, hK, hD0, hNW⟩, hTW, hZ⟩ := hv
  have hx := B.exec
  have hb := B.bytes
  have hr := B.returns
  have hts := atoms_spec (ws := wsL_time) B.pre
  have hown : s.vm.findClass RL = some m.cls := findClass_of_methodNamed B.named
  have hlocks := B.notSynchronized
  have htb := vx_table (x := yL_time) B (hts (.codeWith yL_time cL_time 4 (some .int) [(0, 9, 12, 13)]) List.mem_cons_self)
  subst hsz
  have hD := hD0.self (sz := s.heap.size)
  have hA : ∀ q : Nat, s.heap.size ≤ q → va_A [(o0, .inl (cL, 1, .inr (.inl og))), (h0, .inr (7, [.ref tp, .ref mka, .int mc, .ref bx, .ref rt])), (tp, .inr (6, [.ref ta, .int tk])), (ta, .inl (cI, 120, .inl tf))] s.heap.size q := fun q h => Or.inr h
  generalize va_A [(o0, .inl (cL, 1, .inr (.inl og))), (h0, .inr (7, [.ref tp, .ref mka, .int mc, .ref bx, .ref rt])), (tp, .inr (6, [.ref ta, .int tk])), (ta, .inl (cI, 120, .inl tf))] s.heap.size = A at hD hZ hA ⊢
  have hS : va_S A s.heap s.heap [] := va_S.rf
  have hl := lv_entry ([.ref h0, .int v, .ref o0]) (n := 4) (Nat.le_of_ble_eq_true rfl)
  rw [lg_entry_eq]
  generalize (lg_sl ([.ref h0, .int v, .ref o0]) ++ List.replicate (4 - (lg_sl ([.ref h0, .int v, .ref o0])).length) Slot.unset).toArray = ls at hl ⊢
  have hl : lv_has ls 4 [(0, .ref h0), (1, .int v), (2, .ref o0)] := hl
  obtain ⟨H, hH⟩ : ∃ H : Heap, H = s.heap := ⟨_, rfl⟩
  rw [← hH] at hP
  have hS : va_S A s.heap H [] := by rw [hH]; exact hS
  refine (show W p l e ({ frames := 7, cells := 1, slots := 6, locals := 150 } : Room) s m _ below meth c H [] 0 0 _ (F0 m 0 ls []) → _ from fun h => by rw [hH] at h; exact h) ?_
  have hJ : ∀ {H1 : Heap}, H.size ≤ H1.size → (∀ q : Nat, q < H.size → ¬ va_A [(h0, .inr (7, [.ref tp, .ref mka, .int mc, .ref bx, .ref rt])), (tp, .inr (6, [.ref ta, .int tk])), (ta, .inl (cI, 120, .inl tf))] H.size q → H1[q]? = H[q]?) → va_P D vwCl [(h0, .inr (7, [.ref tp, .ref mka, .int mc, .ref bx, .ref rt])), (tp, .inr (6, [.ref ta, .int tk])), (ta, .inl (cI, 120, .inl tf))] H1 → va_D (va_A [(h0, .inr (7, [.ref tp, .ref mka, .int mc, .ref bx, .ref rt])), (tp, .inr (6, [.ref ta, .int tk])), (ta, .inl (cI, 120, .inl tf))] H.size) [(h0, .inr (7, [.ref tp, .ref mka, .int mc, .ref bx, .ref rt])), (tp, .inr (6, [.ref ta, .int tk])), (ta, .inl (cI, 120, .inl tf))] → va_P D vwCl [(o0, .inl (cL, 1, .inr (.inl og))), (h0, .inr (7, [.ref tp, .ref mka, .int mc, .ref bx, .ref rt])), (tp, .inr (6, [.ref ta, .int tk])), (ta, .inl (cI, 120, .inl tf))] H1 ∧ va_D A [(o0, .inl (cL, 1, .inr (.inl og))), (h0, .inr (7, [.ref tp, .ref mka, .int mc, .ref bx, .ref rt])), (tp, .inr (6, [.ref ta, .int tk])), (ta, .inl (cI, 120, .inl tf))] := by
    intro H1 hz hk1 hP1 hD1
    obtain ⟨h1, h2⟩ := fr_join (wr := [(o0, .inl (cL, 1, .inr (.inl og)))]) (w' := [(o0, .inl (cL, 1, .inr (.inl og))), (h0, .inr (7, [.ref tp, .ref mka, .int mc, .ref bx, .ref rt])), (tp, .inr (6, [.ref ta, .int tk])), (ta, .inl (cI, 120, .inl tf))]) (pm (fun a9 => by simp only [cn_cons, cn_app, cn_nil]; omega)) hP hD hz hk1 hP1 hD1 (pm (fun a9 => by simp only [cn_cons, cn_app, cn_nil]; omega))
    exact ⟨h1, h2.weaken (fun k q _ h => fr_A hD hA hS.1 h)⟩
  refine lv_aload_n hx hb dL_time_0 rfl (lv_at hl 2 rfl) ?_
  refine lv_iconst (v := 0) hx hb dL_time_1 (by decide) ?_
  refine lv_aload_n hx hb dL_time_2 rfl (lv_at hl 0 rfl) ?_
  refine lv_iload_n hx hb dL_time_3 rfl (lv_at hl 1 rfl) ?_
  have hF := va_free (wc := [(h0, .inr (7, [.ref tp, .ref mka, .int mc, .ref bx, .ref rt])), (tp, .inr (6, [.ref ta, .int tk])), (ta, .inl (cI, 120, .inl tf))]) hD hS hA [1, 2, 3] rfl
  refine vx_calli (vx_runV (As := [.int v]) (rest := [.int 0, .ref o0]) ⟨hx, hb, hml, hown, hts⟩ (g_time l hl9 D H.size cI h0 tp mka bx rt ta mc tk tf v hk) (cwV 1 hts gL_time_X8_time rfl rfl rfl (by decide +kernel) ⟨Nat.le_of_ble_eq_true rfl, Nat.le_of_ble_eq_true rfl⟩) ⟨tm_blind, va_recv hK hP (ci := 7) (q0 := 1) rfl rfl, (tm_preS hP hD hK hNW hTW hZ hS hA [1, 2, 3] [0] rfl rfl (by decide) rfl).2⟩ rfl rfl hl.1 rfl (lv_room (Nat.le_of_ble_eq_true rfl)) dL_time_4 ⟨Nat.le_of_ble_eq_true rfl, Nat.le_of_ble_eq_true rfl⟩) hS (fun q _ h => hF q h) hF (fun q _ h => hF q h) (fun E ce q9 u t H1 locs1 ht hvm _ hE hz1 hk1 hS hcell hv9 hcl => ?_) (fun r u t H1 locs1 ht _ _ hB hz1 hk1 hS => ?_)
  · obtain ⟨hE, hP1, hD1⟩ := hE
    subst hE
    rw [ht] at hP1
    obtain ⟨hP, hD⟩ := hJ hz1 hk1 hP1 hD1
    refine vx_catch (name := "java/util/NoSuchElementException") hown [] ⟨0, 9, 12, 13⟩ [] htb (fun z h => absurd h List.not_mem_nil) (by decide) (by decide) (hts (.classLink RL 13 "java/util/NoSuchElementException") (List.mem_of_getElem? (i := 1) rfl)) (va_Nw.use rfl hTW.2.2.2) hcell hv9 hcl ?_
    refine lv_astore_n (lv' := [(3, .ref q9), (0, .ref h0), (1, .int v), (2, .ref o0)]) hx hb dL_time_12 rfl hl (by decide) rfl (fun ls hl => ?_)
    refine lv_iconst (v := 1) hx hb dL_time_13 (by decide) ?_
    exact ret_i hx hb hr hlocks rfl (u := og) trivial hP (hK.sub [] rfl) hD hS (Nat.le_of_ble_eq_true rfl) (Nat.le_of_ble_eq_true rfl) dL_time_14
  · obtain ⟨hP1, hK1, hD1⟩ := hB
    rw [ht] at hP1
    obtain ⟨hP, hD⟩ := hJ hz1 hk1 hP1 hD1
    refine lv_i2l hx hb dL_time_7 rfl ?_
    refine va_last hx hb hK hP hD hS 0 1 rfl rfl (vin (by decide)) dL_time_8 (fun H locs hP hD hS => ?_)
    refine lv_goto (tgt := 15) hx hb dL_time_9 (by decide) ?_
    refine lv_iconst (v := 0) hx hb dL_time_15 (by decide) ?_
    exact ret_i hx hb hr hlocks rfl (u := _) trivial hP (hK.sub [] rfl) hD hS (Nat.le_of_ble_eq_true rfl) (Nat.le_of_ble_eq_true rfl) dL_time_16
