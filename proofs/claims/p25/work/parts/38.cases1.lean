set_option maxHeartbeats 4000000 in
set_option maxRecDepth 100000 in
theorem law_c9 {p : Program} {e : Env} {s : State} {m : MethodId} {below : List Frame} {meth : Method} {c : Code} (l : Launch) {b L : Nat} {xs : Nat → Int32} (D : va_G) (A : Nat → Prop) (hx : p.tables.exec = Jvm.exec) (hb : c.code = cL_law) (hr : meth.sig.returnType = ret) (hts : ∀ w ∈ wsL_law, w.before #[Value.ref b] s = true) (hown : s.vm.findClass RL = some m.cls) (hml : c.maxLocals = 7) (hlocks : meth.locks = false) (hA : ∀ q, s.heap.size ≤ q → A q) (hAq : ∀ q, A q → s.heap.size ≤ q) (hbA : ¬ A b) (hX : va_X b L xs s s.heap) (hbl : b < s.heap.size) (hNW : NW s) (hl9 : l.stackTraces = false) (hTW : TW s) (hZ : ZZ A s s.heap) (hL : L ≤ 4096) (cI cM cB cL : ClassId) (xh mh o0 : Nat) (hK : va_K D vwCl [(cI, .int), (cM, .object "OneHandset$Make"), (cB, .object "OneHandset$Box"), (cL, .long)] s) (i : Int32) (h0i : 0 ≤ i.toInt) (h8i : i.toInt + 8 ≤ L) (z : ZT) (wx wm : va_W) (og : Nat → Int64) (hXO : XOK cI cM cB xh z wx) (hMO : MOK cI mh z wm) (H : Heap) (locs : List Loc) (cells slots : Nat) (hP : va_P D vwCl (wx ++ (wm ++ [(o0, .inl (cL, 1, .inr (.inl og)))])) H) (hD : va_D A (wx ++ (wm ++ [(o0, .inl (cL, 1, .inr (.inl og)))]))) (hS : va_S A s.heap H locs) (hcl : cells + 100 ≤ 601024) (hsl : slots + 1000 ≤ 7293034) (ls : Array Slot) (hl : lv_has ls 7 [(4, .int i), (3, .ref o0), (2, .ref mh), (1, .ref xh), (0, .ref b)]) (hE : ∀ (z : ZT) (wx wm : va_W) (og : Nat → Int64) (H : Heap) (locs : List Loc) (ls : Array Slot) (cells2 slots2 : Nat), cells2 ≤ cells + 20 → slots2 ≤ slots + 200 → XOK cI cM cB xh z wx → MOK cI mh z wm → va_P D vwCl (wx ++ (wm ++ [(o0, .inl (cL, 1, .inr (.inl og)))])) H → va_D A (wx ++ (wm ++ [(o0, .inl (cL, 1, .inr (.inl og)))])) → va_S A s.heap H locs → lv_has ls 7 [(4, .int i), (3, .ref o0), (2, .ref mh), (1, .ref xh), (0, .ref b)] → W p l e room_1 s m #[Value.ref b] below meth c H locs cells2 slots2 (lw_Z below #[Value.ref b] s) (F0 m 1165 ls [])) : W p l e room_1 s m #[Value.ref b] below meth c H locs cells slots (lw_Z below #[Value.ref b] s) (F0 m 536 ls []) := by
  refine lv_aload_n hx hb dL_law_536 rfl (lv_at hl 3 rfl) ?_
  refine lv_aload_n hx hb dL_law_537 rfl (lv_at hl 4 rfl) ?_
  refine lv_iload hx hb dL_law_538 (lv_at hl 0 rfl) ?_
  refine lv_iconst (v := 1) hx hb dL_law_540 (by decide) ?_
  refine lv_iadd hx hb dL_law_541 ?_
  refine va_sld hx hb hX hbl hbA hS (sx_in 1 (by decide) (by decide) h0i h8i hL) dL_law_542 ?_
  refine lv_aload_n hx hb dL_law_543 rfl (lv_at hl 4 rfl) ?_
  refine lv_iload hx hb dL_law_544 (lv_at hl 0 rfl) ?_
  refine lv_iconst (v := 2) hx hb dL_law_546 (by decide) ?_
  refine lv_iadd hx hb dL_law_547 ?_
  refine va_sld hx hb hX hbl hbA hS (sx_in 2 (by decide) (by decide) h0i h8i hL) dL_law_548 ?_
  obtain ⟨fs_1, hc_2⟩ := (hXO).cell
  refine go_iW (wc := wx) (wr := wm ++ [(o0, .inl (cL, 1, .inr (.inl og)))]) hP hD hS hA (pm (fun a9 => by simp only [cn_cons, cn_app, cn_nil] <;> omega)) (va_runV (As := [.int (xs (Int32.toNatClampNeg (i + 1))), .int (xs (Int32.toNatClampNeg (i + 2)))]) (rest := []) ⟨hx, hb, hml, hown, hts⟩ (TX_learn l D H.size cI cM cB xh z wx hXO (xs (Int32.toNatClampNeg (i + 1))) (xs (Int32.toNatClampNeg (i + 2)))) (cwV 2 hts gL_law_X8_learn rfl rfl rfl (by decide +kernel) ⟨Nat.le_of_ble_eq_true rfl, Nat.le_of_ble_eq_true rfl⟩) (st_preVW (wr := wm ++ [(o0, .inl (cL, 1, .inr (.inl og)))]) (ci := 7) (q0 := 0) hP (pm (fun a9 => by simp only [cn_cons, cn_app, cn_nil] <;> omega)) hD hK hNW [0, 1, 2] rfl rfl rfl hc_2) rfl rfl hl.1 rfl (lv_room (Nat.le_of_ble_eq_true rfl)) dL_law_549 ⟨(by show cells + 0 ≤ 601024; omega), (by show slots + 0 ≤ 7293034; omega)⟩) (fun r_5 z_3 H locs hw_4 hP hD hS => ?_)
  have hP : va_P D vwCl (z_3 ++ (wm ++ [(o0, .inl (cL, 1, .inr (.inl og)))])) H := hP.perm (pm (fun a9 => by simp only [cn_cons, cn_app, cn_nil] <;> omega))
  have hD : va_D A (z_3 ++ (wm ++ [(o0, .inl (cL, 1, .inr (.inl og)))])) := hD.perm (pm (fun a9 => by simp only [cn_cons, cn_app, cn_nil] <;> omega))
  refine lv_pop hx hb dL_law_552 rfl ?_
  refine lv_aload_n hx hb dL_law_553 rfl (lv_at hl 2 rfl) ?_
  refine lv_aload_n hx hb dL_law_554 rfl (lv_at hl 4 rfl) ?_
  refine lv_iload hx hb dL_law_555 (lv_at hl 0 rfl) ?_
  refine lv_iconst (v := 1) hx hb dL_law_557 (by decide) ?_
  refine lv_iadd hx hb dL_law_558 ?_
  refine va_sld hx hb hX hbl hbA hS (sx_in 1 (by decide) (by decide) h0i h8i hL) dL_law_559 ?_
  refine lv_aload_n hx hb dL_law_560 rfl (lv_at hl 4 rfl) ?_
  refine lv_iload hx hb dL_law_561 (lv_at hl 0 rfl) ?_
  refine lv_iconst (v := 2) hx hb dL_law_563 (by decide) ?_
  refine lv_iadd hx hb dL_law_564 ?_
  refine va_sld hx hb hX hbl hbA hS (sx_in 2 (by decide) (by decide) h0i h8i hL) dL_law_565 ?_
  obtain ⟨fs_6, hc_7⟩ := (hMO).cell
  refine go_iW (wc := wm) (wr := z_3 ++ [(o0, .inl (cL, 1, .inr (.inl og)))]) hP hD hS hA (pm (fun a9 => by simp only [cn_cons, cn_app, cn_nil] <;> omega)) (va_runV (As := [.int (xs (Int32.toNatClampNeg (i + 1))), .int (xs (Int32.toNatClampNeg (i + 2)))]) (rest := []) ⟨hx, hb, hml, hown, hts⟩ (TM_learn l D H.size cI mh z wm hMO (xs (Int32.toNatClampNeg (i + 1))) (xs (Int32.toNatClampNeg (i + 2)))) (cwV 2 hts gL_law_X9_learn rfl rfl rfl (by decide +kernel) ⟨Nat.le_of_ble_eq_true rfl, Nat.le_of_ble_eq_true rfl⟩) (st_preVW (wr := z_3 ++ [(o0, .inl (cL, 1, .inr (.inl og)))]) (ci := 8) (q0 := 0) hP (pm (fun a9 => by simp only [cn_cons, cn_app, cn_nil] <;> omega)) hD hK hNW [0] rfl rfl rfl hc_7) rfl rfl hl.1 rfl (lv_room (Nat.le_of_ble_eq_true rfl)) dL_law_566 ⟨(by show cells + 0 ≤ 601024; omega), (by show slots + 0 ≤ 7293034; omega)⟩) (fun r_10 z_8 H locs hw_9 hP hD hS => ?_)
  have hP : va_P D vwCl (z_3 ++ (z_8 ++ [(o0, .inl (cL, 1, .inr (.inl og)))])) H := hP.perm (pm (fun a9 => by simp only [cn_cons, cn_app, cn_nil] <;> omega))
  have hD : va_D A (z_3 ++ (z_8 ++ [(o0, .inl (cL, 1, .inr (.inl og)))])) := hD.perm (pm (fun a9 => by simp only [cn_cons, cn_app, cn_nil] <;> omega))
  refine lv_pop hx hb dL_law_569 rfl ?_
  refine lv_goto (tgt := 1165) hx hb dL_law_570 (by decide) ?_
  exact hE z z_3 z_8 og _ _ _ _ _ (by show cells + 0 ≤ cells + 20; omega) (by show slots + 0 ≤ slots + 200; omega) hw_4 hw_9 hP hD hS (lv_sub hl [0, 1, 2, 3, 4] rfl)

set_option maxHeartbeats 4000000 in
set_option maxRecDepth 100000 in
theorem law_c10 {p : Program} {e : Env} {s : State} {m : MethodId} {below : List Frame} {meth : Method} {c : Code} (l : Launch) {b L : Nat} {xs : Nat → Int32} (D : va_G) (A : Nat → Prop) (hx : p.tables.exec = Jvm.exec) (hb : c.code = cL_law) (hr : meth.sig.returnType = ret) (hts : ∀ w ∈ wsL_law, w.before #[Value.ref b] s = true) (hown : s.vm.findClass RL = some m.cls) (hml : c.maxLocals = 7) (hlocks : meth.locks = false) (hA : ∀ q, s.heap.size ≤ q → A q) (hAq : ∀ q, A q → s.heap.size ≤ q) (hbA : ¬ A b) (hX : va_X b L xs s s.heap) (hbl : b < s.heap.size) (hNW : NW s) (hl9 : l.stackTraces = false) (hTW : TW s) (hZ : ZZ A s s.heap) (hL : L ≤ 4096) (cI cM cB cL : ClassId) (xh mh o0 : Nat) (hK : va_K D vwCl [(cI, .int), (cM, .object "OneHandset$Make"), (cB, .object "OneHandset$Box"), (cL, .long)] s) (i : Int32) (h0i : 0 ≤ i.toInt) (h8i : i.toInt + 8 ≤ L) (z : ZT) (wx wm : va_W) (og : Nat → Int64) (hXO : XOK cI cM cB xh z wx) (hMO : MOK cI mh z wm) (H : Heap) (locs : List Loc) (cells slots : Nat) (hP : va_P D vwCl (wx ++ (wm ++ [(o0, .inl (cL, 1, .inr (.inl og)))])) H) (hD : va_D A (wx ++ (wm ++ [(o0, .inl (cL, 1, .inr (.inl og)))]))) (hS : va_S A s.heap H locs) (hcl : cells + 100 ≤ 601024) (hsl : slots + 1000 ≤ 7293034) (ls : Array Slot) (hl : lv_has ls 7 [(4, .int i), (3, .ref o0), (2, .ref mh), (1, .ref xh), (0, .ref b)]) (hE : ∀ (z : ZT) (wx wm : va_W) (og : Nat → Int64) (H : Heap) (locs : List Loc) (ls : Array Slot) (cells2 slots2 : Nat), cells2 ≤ cells + 20 → slots2 ≤ slots + 200 → XOK cI cM cB xh z wx → MOK cI mh z wm → va_P D vwCl (wx ++ (wm ++ [(o0, .inl (cL, 1, .inr (.inl og)))])) H → va_D A (wx ++ (wm ++ [(o0, .inl (cL, 1, .inr (.inl og)))])) → va_S A s.heap H locs → lv_has ls 7 [(4, .int i), (3, .ref o0), (2, .ref mh), (1, .ref xh), (0, .ref b)] → W p l e room_1 s m #[Value.ref b] below meth c H locs cells2 slots2 (lw_Z below #[Value.ref b] s) (F0 m 1165 ls [])) : W p l e room_1 s m #[Value.ref b] below meth c H locs cells slots (lw_Z below #[Value.ref b] s) (F0 m 573 ls []) := by
  refine lv_aload_n hx hb dL_law_573 rfl (lv_at hl 3 rfl) ?_
  refine lv_aload_n hx hb dL_law_574 rfl (lv_at hl 4 rfl) ?_
  refine lv_iload hx hb dL_law_575 (lv_at hl 0 rfl) ?_
  refine lv_iconst (v := 1) hx hb dL_law_577 (by decide) ?_
  refine lv_iadd hx hb dL_law_578 ?_
  refine va_sld hx hb hX hbl hbA hS (sx_in 1 (by decide) (by decide) h0i h8i hL) dL_law_579 ?_
  refine lv_aload_n hx hb dL_law_580 rfl (lv_at hl 4 rfl) ?_
  refine lv_iload hx hb dL_law_581 (lv_at hl 0 rfl) ?_
  refine lv_iconst (v := 2) hx hb dL_law_583 (by decide) ?_
  refine lv_iadd hx hb dL_law_584 ?_
  refine va_sld hx hb hX hbl hbA hS (sx_in 2 (by decide) (by decide) h0i h8i hL) dL_law_585 ?_
  obtain ⟨fs_1, hc_2⟩ := (hXO).cell
  refine go_iW (wc := wx) (wr := wm ++ [(o0, .inl (cL, 1, .inr (.inl og)))]) hP hD hS hA (pm (fun a9 => by simp only [cn_cons, cn_app, cn_nil] <;> omega)) (va_runV (As := [.int (xs (Int32.toNatClampNeg (i + 1))), .int (xs (Int32.toNatClampNeg (i + 2)))]) (rest := []) ⟨hx, hb, hml, hown, hts⟩ (TX_forget l D H.size cI cM cB xh z wx hXO (xs (Int32.toNatClampNeg (i + 1))) (xs (Int32.toNatClampNeg (i + 2)))) (cwV 2 hts gL_law_X8_forget rfl rfl rfl (by decide +kernel) ⟨Nat.le_of_ble_eq_true rfl, Nat.le_of_ble_eq_true rfl⟩) (st_preVW (wr := wm ++ [(o0, .inl (cL, 1, .inr (.inl og)))]) (ci := 7) (q0 := 0) hP (pm (fun a9 => by simp only [cn_cons, cn_app, cn_nil] <;> omega)) hD hK hNW [0, 1, 2] rfl rfl rfl hc_2) rfl rfl hl.1 rfl (lv_room (Nat.le_of_ble_eq_true rfl)) dL_law_586 ⟨(by show cells + 0 ≤ 601024; omega), (by show slots + 0 ≤ 7293034; omega)⟩) (fun r_5 z_3 H locs hw_4 hP hD hS => ?_)
  have hP : va_P D vwCl (z_3 ++ (wm ++ [(o0, .inl (cL, 1, .inr (.inl og)))])) H := hP.perm (pm (fun a9 => by simp only [cn_cons, cn_app, cn_nil] <;> omega))
  have hD : va_D A (z_3 ++ (wm ++ [(o0, .inl (cL, 1, .inr (.inl og)))])) := hD.perm (pm (fun a9 => by simp only [cn_cons, cn_app, cn_nil] <;> omega))
  refine lv_pop hx hb dL_law_589 rfl ?_
  refine lv_aload_n hx hb dL_law_590 rfl (lv_at hl 2 rfl) ?_
  refine lv_aload_n hx hb dL_law_591 rfl (lv_at hl 4 rfl) ?_
  refine lv_iload hx hb dL_law_592 (lv_at hl 0 rfl) ?_
  refine lv_iconst (v := 1) hx hb dL_law_594 (by decide) ?_
  refine lv_iadd hx hb dL_law_595 ?_
  refine va_sld hx hb hX hbl hbA hS (sx_in 1 (by decide) (by decide) h0i h8i hL) dL_law_596 ?_
  refine lv_aload_n hx hb dL_law_597 rfl (lv_at hl 4 rfl) ?_
  refine lv_iload hx hb dL_law_598 (lv_at hl 0 rfl) ?_
  refine lv_iconst (v := 2) hx hb dL_law_600 (by decide) ?_
  refine lv_iadd hx hb dL_law_601 ?_
  refine va_sld hx hb hX hbl hbA hS (sx_in 2 (by decide) (by decide) h0i h8i hL) dL_law_602 ?_
  obtain ⟨fs_6, hc_7⟩ := (hMO).cell
  refine go_iW (wc := wm) (wr := z_3 ++ [(o0, .inl (cL, 1, .inr (.inl og)))]) hP hD hS hA (pm (fun a9 => by simp only [cn_cons, cn_app, cn_nil] <;> omega)) (va_runV (As := [.int (xs (Int32.toNatClampNeg (i + 1))), .int (xs (Int32.toNatClampNeg (i + 2)))]) (rest := []) ⟨hx, hb, hml, hown, hts⟩ (TM_forget l D H.size cI mh z wm hMO (xs (Int32.toNatClampNeg (i + 1))) (xs (Int32.toNatClampNeg (i + 2)))) (cwV 2 hts gL_law_X9_forget rfl rfl rfl (by decide +kernel) ⟨Nat.le_of_ble_eq_true rfl, Nat.le_of_ble_eq_true rfl⟩) (st_preVW (wr := z_3 ++ [(o0, .inl (cL, 1, .inr (.inl og)))]) (ci := 8) (q0 := 0) hP (pm (fun a9 => by simp only [cn_cons, cn_app, cn_nil] <;> omega)) hD hK hNW [0] rfl rfl rfl hc_7) rfl rfl hl.1 rfl (lv_room (Nat.le_of_ble_eq_true rfl)) dL_law_603 ⟨(by show cells + 0 ≤ 601024; omega), (by show slots + 0 ≤ 7293034; omega)⟩) (fun r_10 z_8 H locs hw_9 hP hD hS => ?_)
  have hP : va_P D vwCl (z_3 ++ (z_8 ++ [(o0, .inl (cL, 1, .inr (.inl og)))])) H := hP.perm (pm (fun a9 => by simp only [cn_cons, cn_app, cn_nil] <;> omega))
  have hD : va_D A (z_3 ++ (z_8 ++ [(o0, .inl (cL, 1, .inr (.inl og)))])) := hD.perm (pm (fun a9 => by simp only [cn_cons, cn_app, cn_nil] <;> omega))
  refine lv_pop hx hb dL_law_606 rfl ?_
  refine lv_goto (tgt := 1165) hx hb dL_law_607 (by decide) ?_
  exact hE z z_3 z_8 og _ _ _ _ _ (by show cells + 0 ≤ cells + 20; omega) (by show slots + 0 ≤ slots + 200; omega) hw_4 hw_9 hP hD hS (lv_sub hl [0, 1, 2, 3, 4] rfl)

set_option maxHeartbeats 4000000 in
set_option maxRecDepth 100000 in
theorem law_c11 {p : Program} {e : Env} {s : State} {m : MethodId} {below : List Frame} {meth : Method} {c : Code} (l : Launch) {b L : Nat} {xs : Nat → Int32} (D : va_G) (A : Nat → Prop) (hx : p.tables.exec = Jvm.exec) (hb : c.code = cL_law) (hr : meth.sig.returnType = ret) (hts : ∀ w ∈ wsL_law, w.before #[Value.ref b] s = true) (hown : s.vm.findClass RL = some m.cls) (hml : c.maxLocals = 7) (hlocks : meth.locks = false) (hA : ∀ q, s.heap.size ≤ q → A q) (hAq : ∀ q, A q → s.heap.size ≤ q) (hbA : ¬ A b) (hX : va_X b L xs s s.heap) (hbl : b < s.heap.size) (hNW : NW s) (hl9 : l.stackTraces = false) (hTW : TW s) (hZ : ZZ A s s.heap) (hL : L ≤ 4096) (cI cM cB cL : ClassId) (xh mh o0 : Nat) (hK : va_K D vwCl [(cI, .int), (cM, .object "OneHandset$Make"), (cB, .object "OneHandset$Box"), (cL, .long)] s) (i : Int32) (h0i : 0 ≤ i.toInt) (h8i : i.toInt + 8 ≤ L) (z : ZT) (wx wm : va_W) (og : Nat → Int64) (hXO : XOK cI cM cB xh z wx) (hMO : MOK cI mh z wm) (H : Heap) (locs : List Loc) (cells slots : Nat) (hP : va_P D vwCl (wx ++ (wm ++ [(o0, .inl (cL, 1, .inr (.inl og)))])) H) (hD : va_D A (wx ++ (wm ++ [(o0, .inl (cL, 1, .inr (.inl og)))]))) (hS : va_S A s.heap H locs) (hcl : cells + 100 ≤ 601024) (hsl : slots + 1000 ≤ 7293034) (ls : Array Slot) (hl : lv_has ls 7 [(4, .int i), (3, .ref o0), (2, .ref mh), (1, .ref xh), (0, .ref b)]) (hE : ∀ (z : ZT) (wx wm : va_W) (og : Nat → Int64) (H : Heap) (locs : List Loc) (ls : Array Slot) (cells2 slots2 : Nat), cells2 ≤ cells + 20 → slots2 ≤ slots + 200 → XOK cI cM cB xh z wx → MOK cI mh z wm → va_P D vwCl (wx ++ (wm ++ [(o0, .inl (cL, 1, .inr (.inl og)))])) H → va_D A (wx ++ (wm ++ [(o0, .inl (cL, 1, .inr (.inl og)))])) → va_S A s.heap H locs → lv_has ls 7 [(4, .int i), (3, .ref o0), (2, .ref mh), (1, .ref xh), (0, .ref b)] → W p l e room_1 s m #[Value.ref b] below meth c H locs cells2 slots2 (lw_Z below #[Value.ref b] s) (F0 m 1165 ls [])) : W p l e room_1 s m #[Value.ref b] below meth c H locs cells slots (lw_Z below #[Value.ref b] s) (F0 m 610 ls []) := by
  refine lv_aload_n hx hb dL_law_610 rfl (lv_at hl 3 rfl) ?_
  refine lv_aload_n hx hb dL_law_611 rfl (lv_at hl 4 rfl) ?_
  refine lv_iload hx hb dL_law_612 (lv_at hl 0 rfl) ?_
  refine lv_iconst (v := 1) hx hb dL_law_614 (by decide) ?_
  refine lv_iadd hx hb dL_law_615 ?_
  refine va_sld hx hb hX hbl hbA hS (sx_in 1 (by decide) (by decide) h0i h8i hL) dL_law_616 ?_
  refine lv_aload_n hx hb dL_law_617 rfl (lv_at hl 4 rfl) ?_
  refine lv_iload hx hb dL_law_618 (lv_at hl 0 rfl) ?_
  refine lv_iconst (v := 2) hx hb dL_law_620 (by decide) ?_
  refine lv_iadd hx hb dL_law_621 ?_
  refine va_sld hx hb hX hbl hbA hS (sx_in 2 (by decide) (by decide) h0i h8i hL) dL_law_622 ?_
  obtain ⟨fs_1, hc_2⟩ := (hXO).cell
  refine go_iW (wc := wx) (wr := wm ++ [(o0, .inl (cL, 1, .inr (.inl og)))]) hP hD hS hA (pm (fun a9 => by simp only [cn_cons, cn_app, cn_nil] <;> omega)) (va_runV (As := [.int (xs (Int32.toNatClampNeg (i + 1))), .int (xs (Int32.toNatClampNeg (i + 2)))]) (rest := []) ⟨hx, hb, hml, hown, hts⟩ (TX_key l D H.size cI cM cB xh z wx hXO (xs (Int32.toNatClampNeg (i + 1))) (xs (Int32.toNatClampNeg (i + 2)))) (cwV 2 hts gL_law_X8_key rfl rfl rfl (by decide +kernel) ⟨Nat.le_of_ble_eq_true rfl, Nat.le_of_ble_eq_true rfl⟩) (st_preVW (wr := wm ++ [(o0, .inl (cL, 1, .inr (.inl og)))]) (ci := 7) (q0 := 0) hP (pm (fun a9 => by simp only [cn_cons, cn_app, cn_nil] <;> omega)) hD hK hNW [0, 1, 2] rfl rfl rfl hc_2) rfl rfl hl.1 rfl (lv_room (Nat.le_of_ble_eq_true rfl)) dL_law_623 ⟨(by show cells + 0 ≤ 601024; omega), (by show slots + 0 ≤ 7293034; omega)⟩) (fun r_5 z_3 H locs hw_4 hP hD hS => ?_)
  have hP : va_P D vwCl (z_3 ++ (wm ++ [(o0, .inl (cL, 1, .inr (.inl og)))])) H := hP.perm (pm (fun a9 => by simp only [cn_cons, cn_app, cn_nil] <;> omega))
  have hD : va_D A (z_3 ++ (wm ++ [(o0, .inl (cL, 1, .inr (.inl og)))])) := hD.perm (pm (fun a9 => by simp only [cn_cons, cn_app, cn_nil] <;> omega))
  refine lv_pop hx hb dL_law_626 rfl ?_
  refine lv_aload_n hx hb dL_law_627 rfl (lv_at hl 2 rfl) ?_
  refine lv_aload_n hx hb dL_law_628 rfl (lv_at hl 4 rfl) ?_
  refine lv_iload hx hb dL_law_629 (lv_at hl 0 rfl) ?_
  refine lv_iconst (v := 1) hx hb dL_law_631 (by decide) ?_
  refine lv_iadd hx hb dL_law_632 ?_
  refine va_sld hx hb hX hbl hbA hS (sx_in 1 (by decide) (by decide) h0i h8i hL) dL_law_633 ?_
  refine lv_aload_n hx hb dL_law_634 rfl (lv_at hl 4 rfl) ?_
  refine lv_iload hx hb dL_law_635 (lv_at hl 0 rfl) ?_
  refine lv_iconst (v := 2) hx hb dL_law_637 (by decide) ?_
  refine lv_iadd hx hb dL_law_638 ?_
  refine va_sld hx hb hX hbl hbA hS (sx_in 2 (by decide) (by decide) h0i h8i hL) dL_law_639 ?_
  obtain ⟨fs_6, hc_7⟩ := (hMO).cell
  refine go_iW (wc := wm) (wr := z_3 ++ [(o0, .inl (cL, 1, .inr (.inl og)))]) hP hD hS hA (pm (fun a9 => by simp only [cn_cons, cn_app, cn_nil] <;> omega)) (va_runV (As := [.int (xs (Int32.toNatClampNeg (i + 1))), .int (xs (Int32.toNatClampNeg (i + 2)))]) (rest := []) ⟨hx, hb, hml, hown, hts⟩ (TM_key l D H.size cI mh z wm hMO (xs (Int32.toNatClampNeg (i + 1))) (xs (Int32.toNatClampNeg (i + 2)))) (cwV 2 hts gL_law_X9_key rfl rfl rfl (by decide +kernel) ⟨Nat.le_of_ble_eq_true rfl, Nat.le_of_ble_eq_true rfl⟩) (st_preVW (wr := z_3 ++ [(o0, .inl (cL, 1, .inr (.inl og)))]) (ci := 8) (q0 := 0) hP (pm (fun a9 => by simp only [cn_cons, cn_app, cn_nil] <;> omega)) hD hK hNW [0] rfl rfl rfl hc_7) rfl rfl hl.1 rfl (lv_room (Nat.le_of_ble_eq_true rfl)) dL_law_640 ⟨(by show cells + 0 ≤ 601024; omega), (by show slots + 0 ≤ 7293034; omega)⟩) (fun r_10 z_8 H locs hw_9 hP hD hS => ?_)
  have hP : va_P D vwCl (z_3 ++ (z_8 ++ [(o0, .inl (cL, 1, .inr (.inl og)))])) H := hP.perm (pm (fun a9 => by simp only [cn_cons, cn_app, cn_nil] <;> omega))
  have hD : va_D A (z_3 ++ (z_8 ++ [(o0, .inl (cL, 1, .inr (.inl og)))])) := hD.perm (pm (fun a9 => by simp only [cn_cons, cn_app, cn_nil] <;> omega))
  refine lv_pop hx hb dL_law_643 rfl ?_
  refine lv_goto (tgt := 1165) hx hb dL_law_644 (by decide) ?_
  exact hE z z_3 z_8 og _ _ _ _ _ (by show cells + 0 ≤ cells + 20; omega) (by show slots + 0 ≤ slots + 200; omega) hw_4 hw_9 hP hD hS (lv_sub hl [0, 1, 2, 3, 4] rfl)

set_option maxHeartbeats 4000000 in
set_option maxRecDepth 100000 in
theorem law_c12 {p : Program} {e : Env} {s : State} {m : MethodId} {below : List Frame} {meth : Method} {c : Code} (l : Launch) {b L : Nat} {xs : Nat → Int32} (D : va_G) (A : Nat → Prop) (hx : p.tables.exec = Jvm.exec) (hb : c.code = cL_law) (hr : meth.sig.returnType = ret) (hts : ∀ w ∈ wsL_law, w.before #[Value.ref b] s = true) (hown : s.vm.findClass RL = some m.cls) (hml : c.maxLocals = 7) (hlocks : meth.locks = false) (hA : ∀ q, s.heap.size ≤ q → A q) (hAq : ∀ q, A q → s.heap.size ≤ q) (hbA : ¬ A b) (hX : va_X b L xs s s.heap) (hbl : b < s.heap.size) (hNW : NW s) (hl9 : l.stackTraces = false) (hTW : TW s) (hZ : ZZ A s s.heap) (hL : L ≤ 4096) (cI cM cB cL : ClassId) (xh mh o0 : Nat) (hK : va_K D vwCl [(cI, .int), (cM, .object "OneHandset$Make"), (cB, .object "OneHandset$Box"), (cL, .long)] s) (i : Int32) (h0i : 0 ≤ i.toInt) (h8i : i.toInt + 8 ≤ L) (z : ZT) (wx wm : va_W) (og : Nat → Int64) (hXO : XOK cI cM cB xh z wx) (hMO : MOK cI mh z wm) (H : Heap) (locs : List Loc) (cells slots : Nat) (hP : va_P D vwCl (wx ++ (wm ++ [(o0, .inl (cL, 1, .inr (.inl og)))])) H) (hD : va_D A (wx ++ (wm ++ [(o0, .inl (cL, 1, .inr (.inl og)))]))) (hS : va_S A s.heap H locs) (hcl : cells + 100 ≤ 601024) (hsl : slots + 1000 ≤ 7293034) (ls : Array Slot) (hl : lv_has ls 7 [(4, .int i), (3, .ref o0), (2, .ref mh), (1, .ref xh), (0, .ref b)]) (hE : ∀ (z : ZT) (wx wm : va_W) (og : Nat → Int64) (H : Heap) (locs : List Loc) (ls : Array Slot) (cells2 slots2 : Nat), cells2 ≤ cells + 20 → slots2 ≤ slots + 200 → XOK cI cM cB xh z wx → MOK cI mh z wm → va_P D vwCl (wx ++ (wm ++ [(o0, .inl (cL, 1, .inr (.inl og)))])) H → va_D A (wx ++ (wm ++ [(o0, .inl (cL, 1, .inr (.inl og)))])) → va_S A s.heap H locs → lv_has ls 7 [(4, .int i), (3, .ref o0), (2, .ref mh), (1, .ref xh), (0, .ref b)] → W p l e room_1 s m #[Value.ref b] below meth c H locs cells2 slots2 (lw_Z below #[Value.ref b] s) (F0 m 1165 ls [])) : W p l e room_1 s m #[Value.ref b] below meth c H locs cells slots (lw_Z below #[Value.ref b] s) (F0 m 647 ls []) := by
  refine lv_aload_n hx hb dL_law_647 rfl (lv_at hl 3 rfl) ?_
  refine lv_aload_n hx hb dL_law_648 rfl (lv_at hl 4 rfl) ?_
  refine lv_iload hx hb dL_law_649 (lv_at hl 0 rfl) ?_
  refine lv_iconst (v := 1) hx hb dL_law_651 (by decide) ?_
  refine lv_iadd hx hb dL_law_652 ?_
  refine va_sld hx hb hX hbl hbA hS (sx_in 1 (by decide) (by decide) h0i h8i hL) dL_law_653 ?_
  refine lv_aload_n hx hb dL_law_654 rfl (lv_at hl 4 rfl) ?_
  refine lv_iload hx hb dL_law_655 (lv_at hl 0 rfl) ?_
  refine lv_iconst (v := 2) hx hb dL_law_657 (by decide) ?_
  refine lv_iadd hx hb dL_law_658 ?_
  refine va_sld hx hb hX hbl hbA hS (sx_in 2 (by decide) (by decide) h0i h8i hL) dL_law_659 ?_
  obtain ⟨fs_1, hc_2⟩ := (hXO).cell
  refine go_iW (wc := wx) (wr := wm ++ [(o0, .inl (cL, 1, .inr (.inl og)))]) hP hD hS hA (pm (fun a9 => by simp only [cn_cons, cn_app, cn_nil] <;> omega)) (va_runV (As := [.int (xs (Int32.toNatClampNeg (i + 1))), .int (xs (Int32.toNatClampNeg (i + 2)))]) (rest := []) ⟨hx, hb, hml, hown, hts⟩ (TX_press l D H.size cI cM cB xh z wx hXO (xs (Int32.toNatClampNeg (i + 1))) (xs (Int32.toNatClampNeg (i + 2)))) (cwV 2 hts gL_law_X8_press rfl rfl rfl (by decide +kernel) ⟨Nat.le_of_ble_eq_true rfl, Nat.le_of_ble_eq_true rfl⟩) (st_preVW (wr := wm ++ [(o0, .inl (cL, 1, .inr (.inl og)))]) (ci := 7) (q0 := 0) hP (pm (fun a9 => by simp only [cn_cons, cn_app, cn_nil] <;> omega)) hD hK hNW [0, 1, 2] rfl rfl rfl hc_2) rfl rfl hl.1 rfl (lv_room (Nat.le_of_ble_eq_true rfl)) dL_law_660 ⟨(by show cells + 0 ≤ 601024; omega), (by show slots + 0 ≤ 7293034; omega)⟩) (fun r_5 z_3 H locs hw_4 hP hD hS => ?_)
  have hP : va_P D vwCl (z_3 ++ (wm ++ [(o0, .inl (cL, 1, .inr (.inl og)))])) H := hP.perm (pm (fun a9 => by simp only [cn_cons, cn_app, cn_nil] <;> omega))
  have hD : va_D A (z_3 ++ (wm ++ [(o0, .inl (cL, 1, .inr (.inl og)))])) := hD.perm (pm (fun a9 => by simp only [cn_cons, cn_app, cn_nil] <;> omega))
  refine lv_pop hx hb dL_law_663 rfl ?_
  refine lv_aload_n hx hb dL_law_664 rfl (lv_at hl 2 rfl) ?_
  refine lv_aload_n hx hb dL_law_665 rfl (lv_at hl 4 rfl) ?_
  refine lv_iload hx hb dL_law_666 (lv_at hl 0 rfl) ?_
  refine lv_iconst (v := 1) hx hb dL_law_668 (by decide) ?_
  refine lv_iadd hx hb dL_law_669 ?_
  refine va_sld hx hb hX hbl hbA hS (sx_in 1 (by decide) (by decide) h0i h8i hL) dL_law_670 ?_
  refine lv_aload_n hx hb dL_law_671 rfl (lv_at hl 4 rfl) ?_
  refine lv_iload hx hb dL_law_672 (lv_at hl 0 rfl) ?_
  refine lv_iconst (v := 2) hx hb dL_law_674 (by decide) ?_
  refine lv_iadd hx hb dL_law_675 ?_
  refine va_sld hx hb hX hbl hbA hS (sx_in 2 (by decide) (by decide) h0i h8i hL) dL_law_676 ?_
  obtain ⟨fs_6, hc_7⟩ := (hMO).cell
  refine go_iW (wc := wm) (wr := z_3 ++ [(o0, .inl (cL, 1, .inr (.inl og)))]) hP hD hS hA (pm (fun a9 => by simp only [cn_cons, cn_app, cn_nil] <;> omega)) (va_runV (As := [.int (xs (Int32.toNatClampNeg (i + 1))), .int (xs (Int32.toNatClampNeg (i + 2)))]) (rest := []) ⟨hx, hb, hml, hown, hts⟩ (TM_press l D H.size cI mh z wm hMO (xs (Int32.toNatClampNeg (i + 1))) (xs (Int32.toNatClampNeg (i + 2)))) (cwV 2 hts gL_law_X9_press rfl rfl rfl (by decide +kernel) ⟨Nat.le_of_ble_eq_true rfl, Nat.le_of_ble_eq_true rfl⟩) (st_preVW (wr := z_3 ++ [(o0, .inl (cL, 1, .inr (.inl og)))]) (ci := 8) (q0 := 0) hP (pm (fun a9 => by simp only [cn_cons, cn_app, cn_nil] <;> omega)) hD hK hNW [0] rfl rfl rfl hc_7) rfl rfl hl.1 rfl (lv_room (Nat.le_of_ble_eq_true rfl)) dL_law_677 ⟨(by show cells + 0 ≤ 601024; omega), (by show slots + 0 ≤ 7293034; omega)⟩) (fun r_10 z_8 H locs hw_9 hP hD hS => ?_)
  have hP : va_P D vwCl (z_3 ++ (z_8 ++ [(o0, .inl (cL, 1, .inr (.inl og)))])) H := hP.perm (pm (fun a9 => by simp only [cn_cons, cn_app, cn_nil] <;> omega))
  have hD : va_D A (z_3 ++ (z_8 ++ [(o0, .inl (cL, 1, .inr (.inl og)))])) := hD.perm (pm (fun a9 => by simp only [cn_cons, cn_app, cn_nil] <;> omega))
  refine lv_pop hx hb dL_law_680 rfl ?_
  refine lv_goto (tgt := 1165) hx hb dL_law_681 (by decide) ?_
  exact hE z z_3 z_8 og _ _ _ _ _ (by show cells + 0 ≤ cells + 20; omega) (by show slots + 0 ≤ slots + 200; omega) hw_4 hw_9 hP hD hS (lv_sub hl [0, 1, 2, 3, 4] rfl)

set_option maxHeartbeats 4000000 in
set_option maxRecDepth 100000 in
theorem law_c13 {p : Program} {e : Env} {s : State} {m : MethodId} {below : List Frame} {meth : Method} {c : Code} (l : Launch) {b L : Nat} {xs : Nat → Int32} (D : va_G) (A : Nat → Prop) (hx : p.tables.exec = Jvm.exec) (hb : c.code = cL_law) (hr : meth.sig.returnType = ret) (hts : ∀ w ∈ wsL_law, w.before #[Value.ref b] s = true) (hown : s.vm.findClass RL = some m.cls) (hml : c.maxLocals = 7) (hlocks : meth.locks = false) (hA : ∀ q, s.heap.size ≤ q → A q) (hAq : ∀ q, A q → s.heap.size ≤ q) (hbA : ¬ A b) (hX : va_X b L xs s s.heap) (hbl : b < s.heap.size) (hNW : NW s) (hl9 : l.stackTraces = false) (hTW : TW s) (hZ : ZZ A s s.heap) (hL : L ≤ 4096) (cI cM cB cL : ClassId) (xh mh o0 : Nat) (hK : va_K D vwCl [(cI, .int), (cM, .object "OneHandset$Make"), (cB, .object "OneHandset$Box"), (cL, .long)] s) (i : Int32) (h0i : 0 ≤ i.toInt) (h8i : i.toInt + 8 ≤ L) (z : ZT) (wx wm : va_W) (og : Nat → Int64) (hXO : XOK cI cM cB xh z wx) (hMO : MOK cI mh z wm) (H : Heap) (locs : List Loc) (cells slots : Nat) (hP : va_P D vwCl (wx ++ (wm ++ [(o0, .inl (cL, 1, .inr (.inl og)))])) H) (hD : va_D A (wx ++ (wm ++ [(o0, .inl (cL, 1, .inr (.inl og)))]))) (hS : va_S A s.heap H locs) (hcl : cells + 100 ≤ 601024) (hsl : slots + 1000 ≤ 7293034) (ls : Array Slot) (hl : lv_has ls 7 [(4, .int i), (3, .ref o0), (2, .ref mh), (1, .ref xh), (0, .ref b)]) (hE : ∀ (z : ZT) (wx wm : va_W) (og : Nat → Int64) (H : Heap) (locs : List Loc) (ls : Array Slot) (cells2 slots2 : Nat), cells2 ≤ cells + 20 → slots2 ≤ slots + 200 → XOK cI cM cB xh z wx → MOK cI mh z wm → va_P D vwCl (wx ++ (wm ++ [(o0, .inl (cL, 1, .inr (.inl og)))])) H → va_D A (wx ++ (wm ++ [(o0, .inl (cL, 1, .inr (.inl og)))])) → va_S A s.heap H locs → lv_has ls 7 [(4, .int i), (3, .ref o0), (2, .ref mh), (1, .ref xh), (0, .ref b)] → W p l e room_1 s m #[Value.ref b] below meth c H locs cells2 slots2 (lw_Z below #[Value.ref b] s) (F0 m 1165 ls [])) : W p l e room_1 s m #[Value.ref b] below meth c H locs cells slots (lw_Z below #[Value.ref b] s) (F0 m 684 ls []) := by
  refine lv_aload_n hx hb dL_law_684 rfl (lv_at hl 3 rfl) ?_
  refine lv_aload_n hx hb dL_law_685 rfl (lv_at hl 4 rfl) ?_
  refine lv_iload hx hb dL_law_686 (lv_at hl 0 rfl) ?_
  refine lv_iconst (v := 1) hx hb dL_law_688 (by decide) ?_
  refine lv_iadd hx hb dL_law_689 ?_
  refine va_sld hx hb hX hbl hbA hS (sx_in 1 (by decide) (by decide) h0i h8i hL) dL_law_690 ?_
  refine lv_aload_n hx hb dL_law_691 rfl (lv_at hl 4 rfl) ?_
  refine lv_iload hx hb dL_law_692 (lv_at hl 0 rfl) ?_
  refine lv_iconst (v := 2) hx hb dL_law_694 (by decide) ?_
  refine lv_iadd hx hb dL_law_695 ?_
  refine va_sld hx hb hX hbl hbA hS (sx_in 2 (by decide) (by decide) h0i h8i hL) dL_law_696 ?_
  obtain ⟨fs_1, hc_2⟩ := (hXO).cell
  refine go_iW (wc := wx) (wr := wm ++ [(o0, .inl (cL, 1, .inr (.inl og)))]) hP hD hS hA (pm (fun a9 => by simp only [cn_cons, cn_app, cn_nil] <;> omega)) (va_runV (As := [.int (xs (Int32.toNatClampNeg (i + 1))), .int (xs (Int32.toNatClampNeg (i + 2)))]) (rest := []) ⟨hx, hb, hml, hown, hts⟩ (TX_of l D H.size cI cM cB xh z wx hXO (xs (Int32.toNatClampNeg (i + 1))) (xs (Int32.toNatClampNeg (i + 2)))) (cwV 2 hts gL_law_X8_of rfl rfl rfl (by decide +kernel) ⟨Nat.le_of_ble_eq_true rfl, Nat.le_of_ble_eq_true rfl⟩) (st_preVW (wr := wm ++ [(o0, .inl (cL, 1, .inr (.inl og)))]) (ci := 7) (q0 := 0) hP (pm (fun a9 => by simp only [cn_cons, cn_app, cn_nil] <;> omega)) hD hK hNW [0, 1, 2] rfl rfl rfl hc_2) rfl rfl hl.1 rfl (lv_room (Nat.le_of_ble_eq_true rfl)) dL_law_697 ⟨(by show cells + 0 ≤ 601024; omega), (by show slots + 0 ≤ 7293034; omega)⟩) (fun r_5 z_3 H locs hw_4 hP hD hS => ?_)
  have hP : va_P D vwCl (z_3 ++ (wm ++ [(o0, .inl (cL, 1, .inr (.inl og)))])) H := hP.perm (pm (fun a9 => by simp only [cn_cons, cn_app, cn_nil] <;> omega))
  have hD : va_D A (z_3 ++ (wm ++ [(o0, .inl (cL, 1, .inr (.inl og)))])) := hD.perm (pm (fun a9 => by simp only [cn_cons, cn_app, cn_nil] <;> omega))
  refine lv_pop hx hb dL_law_700 rfl ?_
  refine lv_aload_n hx hb dL_law_701 rfl (lv_at hl 2 rfl) ?_
  refine lv_aload_n hx hb dL_law_702 rfl (lv_at hl 4 rfl) ?_
  refine lv_iload hx hb dL_law_703 (lv_at hl 0 rfl) ?_
  refine lv_iconst (v := 1) hx hb dL_law_705 (by decide) ?_
  refine lv_iadd hx hb dL_law_706 ?_
  refine va_sld hx hb hX hbl hbA hS (sx_in 1 (by decide) (by decide) h0i h8i hL) dL_law_707 ?_
  refine lv_aload_n hx hb dL_law_708 rfl (lv_at hl 4 rfl) ?_
  refine lv_iload hx hb dL_law_709 (lv_at hl 0 rfl) ?_
  refine lv_iconst (v := 2) hx hb dL_law_711 (by decide) ?_
  refine lv_iadd hx hb dL_law_712 ?_
  refine va_sld hx hb hX hbl hbA hS (sx_in 2 (by decide) (by decide) h0i h8i hL) dL_law_713 ?_
  obtain ⟨fs_6, hc_7⟩ := (hMO).cell
  refine go_iW (wc := wm) (wr := z_3 ++ [(o0, .inl (cL, 1, .inr (.inl og)))]) hP hD hS hA (pm (fun a9 => by simp only [cn_cons, cn_app, cn_nil] <;> omega)) (va_runV (As := [.int (xs (Int32.toNatClampNeg (i + 1))), .int (xs (Int32.toNatClampNeg (i + 2)))]) (rest := []) ⟨hx, hb, hml, hown, hts⟩ (TM_of l D H.size cI mh z wm hMO (xs (Int32.toNatClampNeg (i + 1))) (xs (Int32.toNatClampNeg (i + 2)))) (cwV 2 hts gL_law_X9_of rfl rfl rfl (by decide +kernel) ⟨Nat.le_of_ble_eq_true rfl, Nat.le_of_ble_eq_true rfl⟩) (st_preVW (wr := z_3 ++ [(o0, .inl (cL, 1, .inr (.inl og)))]) (ci := 8) (q0 := 0) hP (pm (fun a9 => by simp only [cn_cons, cn_app, cn_nil] <;> omega)) hD hK hNW [0] rfl rfl rfl hc_7) rfl rfl hl.1 rfl (lv_room (Nat.le_of_ble_eq_true rfl)) dL_law_714 ⟨(by show cells + 0 ≤ 601024; omega), (by show slots + 0 ≤ 7293034; omega)⟩) (fun r_10 z_8 H locs hw_9 hP hD hS => ?_)
  have hP : va_P D vwCl (z_3 ++ (z_8 ++ [(o0, .inl (cL, 1, .inr (.inl og)))])) H := hP.perm (pm (fun a9 => by simp only [cn_cons, cn_app, cn_nil] <;> omega))
  have hD : va_D A (z_3 ++ (z_8 ++ [(o0, .inl (cL, 1, .inr (.inl og)))])) := hD.perm (pm (fun a9 => by simp only [cn_cons, cn_app, cn_nil] <;> omega))
  refine lv_pop hx hb dL_law_717 rfl ?_
  refine lv_goto (tgt := 1165) hx hb dL_law_718 (by decide) ?_
  exact hE z z_3 z_8 og _ _ _ _ _ (by show cells + 0 ≤ cells + 20; omega) (by show slots + 0 ≤ slots + 200; omega) hw_4 hw_9 hP hD hS (lv_sub hl [0, 1, 2, 3, 4] rfl)

set_option maxHeartbeats 4000000 in
set_option maxRecDepth 100000 in
theorem law_c14 {p : Program} {e : Env} {s : State} {m : MethodId} {below : List Frame} {meth : Method} {c : Code} (l : Launch) {b L : Nat} {xs : Nat → Int32} (D : va_G) (A : Nat → Prop) (hx : p.tables.exec = Jvm.exec) (hb : c.code = cL_law) (hr : meth.sig.returnType = ret) (hts : ∀ w ∈ wsL_law, w.before #[Value.ref b] s = true) (hown : s.vm.findClass RL = some m.cls) (hml : c.maxLocals = 7) (hlocks : meth.locks = false) (hA : ∀ q, s.heap.size ≤ q → A q) (hAq : ∀ q, A q → s.heap.size ≤ q) (hbA : ¬ A b) (hX : va_X b L xs s s.heap) (hbl : b < s.heap.size) (hNW : NW s) (hl9 : l.stackTraces = false) (hTW : TW s) (hZ : ZZ A s s.heap) (hL : L ≤ 4096) (cI cM cB cL : ClassId) (xh mh o0 : Nat) (hK : va_K D vwCl [(cI, .int), (cM, .object "OneHandset$Make"), (cB, .object "OneHandset$Box"), (cL, .long)] s) (i : Int32) (h0i : 0 ≤ i.toInt) (h8i : i.toInt + 8 ≤ L) (z : ZT) (wx wm : va_W) (og : Nat → Int64) (hXO : XOK cI cM cB xh z wx) (hMO : MOK cI mh z wm) (H : Heap) (locs : List Loc) (cells slots : Nat) (hP : va_P D vwCl (wx ++ (wm ++ [(o0, .inl (cL, 1, .inr (.inl og)))])) H) (hD : va_D A (wx ++ (wm ++ [(o0, .inl (cL, 1, .inr (.inl og)))]))) (hS : va_S A s.heap H locs) (hcl : cells + 100 ≤ 601024) (hsl : slots + 1000 ≤ 7293034) (ls : Array Slot) (hl : lv_has ls 7 [(4, .int i), (3, .ref o0), (2, .ref mh), (1, .ref xh), (0, .ref b)]) (hE : ∀ (z : ZT) (wx wm : va_W) (og : Nat → Int64) (H : Heap) (locs : List Loc) (ls : Array Slot) (cells2 slots2 : Nat), cells2 ≤ cells + 20 → slots2 ≤ slots + 200 → XOK cI cM cB xh z wx → MOK cI mh z wm → va_P D vwCl (wx ++ (wm ++ [(o0, .inl (cL, 1, .inr (.inl og)))])) H → va_D A (wx ++ (wm ++ [(o0, .inl (cL, 1, .inr (.inl og)))])) → va_S A s.heap H locs → lv_has ls 7 [(4, .int i), (3, .ref o0), (2, .ref mh), (1, .ref xh), (0, .ref b)] → W p l e room_1 s m #[Value.ref b] below meth c H locs cells2 slots2 (lw_Z below #[Value.ref b] s) (F0 m 1165 ls [])) : W p l e room_1 s m #[Value.ref b] below meth c H locs cells slots (lw_Z below #[Value.ref b] s) (F0 m 721 ls []) := by
  refine lv_aload_n hx hb dL_law_721 rfl (lv_at hl 3 rfl) ?_
  refine lv_aload_n hx hb dL_law_722 rfl (lv_at hl 4 rfl) ?_
  refine lv_iload hx hb dL_law_723 (lv_at hl 0 rfl) ?_
  refine lv_iconst (v := 1) hx hb dL_law_725 (by decide) ?_
  refine lv_iadd hx hb dL_law_726 ?_
  refine va_sld hx hb hX hbl hbA hS (sx_in 1 (by decide) (by decide) h0i h8i hL) dL_law_727 ?_
  refine lv_aload_n hx hb dL_law_728 rfl (lv_at hl 4 rfl) ?_
  refine lv_iload hx hb dL_law_729 (lv_at hl 0 rfl) ?_
  refine lv_iconst (v := 2) hx hb dL_law_731 (by decide) ?_
  refine lv_iadd hx hb dL_law_732 ?_
  refine va_sld hx hb hX hbl hbA hS (sx_in 2 (by decide) (by decide) h0i h8i hL) dL_law_733 ?_
  obtain ⟨fs_1, hc_2⟩ := (hXO).cell
  refine go_iW (wc := wx) (wr := wm ++ [(o0, .inl (cL, 1, .inr (.inl og)))]) hP hD hS hA (pm (fun a9 => by simp only [cn_cons, cn_app, cn_nil] <;> omega)) (va_runV (As := [.int (xs (Int32.toNatClampNeg (i + 1))), .int (xs (Int32.toNatClampNeg (i + 2)))]) (rest := []) ⟨hx, hb, hml, hown, hts⟩ (TX_check l D H.size cI cM cB xh z wx hXO (xs (Int32.toNatClampNeg (i + 1))) (xs (Int32.toNatClampNeg (i + 2)))) (cwV 2 hts gL_law_X8_check rfl rfl rfl (by decide +kernel) ⟨Nat.le_of_ble_eq_true rfl, Nat.le_of_ble_eq_true rfl⟩) (st_preVW (wr := wm ++ [(o0, .inl (cL, 1, .inr (.inl og)))]) (ci := 7) (q0 := 0) hP (pm (fun a9 => by simp only [cn_cons, cn_app, cn_nil] <;> omega)) hD hK hNW [0, 1, 2] rfl rfl rfl hc_2) rfl rfl hl.1 rfl (lv_room (Nat.le_of_ble_eq_true rfl)) dL_law_734 ⟨(by show cells + 0 ≤ 601024; omega), (by show slots + 0 ≤ 7293034; omega)⟩) (fun r_5 z_3 H locs hw_4 hP hD hS => ?_)
  have hP : va_P D vwCl (z_3 ++ (wm ++ [(o0, .inl (cL, 1, .inr (.inl og)))])) H := hP.perm (pm (fun a9 => by simp only [cn_cons, cn_app, cn_nil] <;> omega))
  have hD : va_D A (z_3 ++ (wm ++ [(o0, .inl (cL, 1, .inr (.inl og)))])) := hD.perm (pm (fun a9 => by simp only [cn_cons, cn_app, cn_nil] <;> omega))
  refine lv_pop hx hb dL_law_737 rfl ?_
  refine lv_aload_n hx hb dL_law_738 rfl (lv_at hl 2 rfl) ?_
  refine lv_aload_n hx hb dL_law_739 rfl (lv_at hl 4 rfl) ?_
  refine lv_iload hx hb dL_law_740 (lv_at hl 0 rfl) ?_
  refine lv_iconst (v := 1) hx hb dL_law_742 (by decide) ?_
  refine lv_iadd hx hb dL_law_743 ?_
  refine va_sld hx hb hX hbl hbA hS (sx_in 1 (by decide) (by decide) h0i h8i hL) dL_law_744 ?_
  refine lv_aload_n hx hb dL_law_745 rfl (lv_at hl 4 rfl) ?_
  refine lv_iload hx hb dL_law_746 (lv_at hl 0 rfl) ?_
  refine lv_iconst (v := 2) hx hb dL_law_748 (by decide) ?_
  refine lv_iadd hx hb dL_law_749 ?_
  refine va_sld hx hb hX hbl hbA hS (sx_in 2 (by decide) (by decide) h0i h8i hL) dL_law_750 ?_
  obtain ⟨fs_6, hc_7⟩ := (hMO).cell
  refine go_iW (wc := wm) (wr := z_3 ++ [(o0, .inl (cL, 1, .inr (.inl og)))]) hP hD hS hA (pm (fun a9 => by simp only [cn_cons, cn_app, cn_nil] <;> omega)) (va_runV (As := [.int (xs (Int32.toNatClampNeg (i + 1))), .int (xs (Int32.toNatClampNeg (i + 2)))]) (rest := []) ⟨hx, hb, hml, hown, hts⟩ (TM_check l D H.size cI mh z wm hMO (xs (Int32.toNatClampNeg (i + 1))) (xs (Int32.toNatClampNeg (i + 2)))) (cwV 2 hts gL_law_X9_check rfl rfl rfl (by decide +kernel) ⟨Nat.le_of_ble_eq_true rfl, Nat.le_of_ble_eq_true rfl⟩) (st_preVW (wr := z_3 ++ [(o0, .inl (cL, 1, .inr (.inl og)))]) (ci := 8) (q0 := 0) hP (pm (fun a9 => by simp only [cn_cons, cn_app, cn_nil] <;> omega)) hD hK hNW [0] rfl rfl rfl hc_7) rfl rfl hl.1 rfl (lv_room (Nat.le_of_ble_eq_true rfl)) dL_law_751 ⟨(by show cells + 0 ≤ 601024; omega), (by show slots + 0 ≤ 7293034; omega)⟩) (fun r_10 z_8 H locs hw_9 hP hD hS => ?_)
  have hP : va_P D vwCl (z_3 ++ (z_8 ++ [(o0, .inl (cL, 1, .inr (.inl og)))])) H := hP.perm (pm (fun a9 => by simp only [cn_cons, cn_app, cn_nil] <;> omega))
  have hD : va_D A (z_3 ++ (z_8 ++ [(o0, .inl (cL, 1, .inr (.inl og)))])) := hD.perm (pm (fun a9 => by simp only [cn_cons, cn_app, cn_nil] <;> omega))
  refine lv_pop hx hb dL_law_754 rfl ?_
  refine lv_goto (tgt := 1165) hx hb dL_law_755 (by decide) ?_
  exact hE z z_3 z_8 og _ _ _ _ _ (by show cells + 0 ≤ cells + 20; omega) (by show slots + 0 ≤ slots + 200; omega) hw_4 hw_9 hP hD hS (lv_sub hl [0, 1, 2, 3, 4] rfl)

set_option maxHeartbeats 4000000 in
set_option maxRecDepth 100000 in
theorem law_c15 {p : Program} {e : Env} {s : State} {m : MethodId} {below : List Frame} {meth : Method} {c : Code} (l : Launch) {b L : Nat} {xs : Nat → Int32} (D : va_G) (A : Nat → Prop) (hx : p.tables.exec = Jvm.exec) (hb : c.code = cL_law) (hr : meth.sig.returnType = ret) (hts : ∀ w ∈ wsL_law, w.before #[Value.ref b] s = true) (hown : s.vm.findClass RL = some m.cls) (hml : c.maxLocals = 7) (hlocks : meth.locks = false) (hA : ∀ q, s.heap.size ≤ q → A q) (hAq : ∀ q, A q → s.heap.size ≤ q) (hbA : ¬ A b) (hX : va_X b L xs s s.heap) (hbl : b < s.heap.size) (hNW : NW s) (hl9 : l.stackTraces = false) (hTW : TW s) (hZ : ZZ A s s.heap) (hL : L ≤ 4096) (cI cM cB cL : ClassId) (xh mh o0 : Nat) (hK : va_K D vwCl [(cI, .int), (cM, .object "OneHandset$Make"), (cB, .object "OneHandset$Box"), (cL, .long)] s) (i : Int32) (h0i : 0 ≤ i.toInt) (h8i : i.toInt + 8 ≤ L) (z : ZT) (wx wm : va_W) (og : Nat → Int64) (hXO : XOK cI cM cB xh z wx) (hMO : MOK cI mh z wm) (H : Heap) (locs : List Loc) (cells slots : Nat) (hP : va_P D vwCl (wx ++ (wm ++ [(o0, .inl (cL, 1, .inr (.inl og)))])) H) (hD : va_D A (wx ++ (wm ++ [(o0, .inl (cL, 1, .inr (.inl og)))]))) (hS : va_S A s.heap H locs) (hcl : cells + 100 ≤ 601024) (hsl : slots + 1000 ≤ 7293034) (ls : Array Slot) (hl : lv_has ls 7 [(4, .int i), (3, .ref o0), (2, .ref mh), (1, .ref xh), (0, .ref b)]) (hE : ∀ (z : ZT) (wx wm : va_W) (og : Nat → Int64) (H : Heap) (locs : List Loc) (ls : Array Slot) (cells2 slots2 : Nat), cells2 ≤ cells + 20 → slots2 ≤ slots + 200 → XOK cI cM cB xh z wx → MOK cI mh z wm → va_P D vwCl (wx ++ (wm ++ [(o0, .inl (cL, 1, .inr (.inl og)))])) H → va_D A (wx ++ (wm ++ [(o0, .inl (cL, 1, .inr (.inl og)))])) → va_S A s.heap H locs → lv_has ls 7 [(4, .int i), (3, .ref o0), (2, .ref mh), (1, .ref xh), (0, .ref b)] → W p l e room_1 s m #[Value.ref b] below meth c H locs cells2 slots2 (lw_Z below #[Value.ref b] s) (F0 m 1165 ls [])) : W p l e room_1 s m #[Value.ref b] below meth c H locs cells slots (lw_Z below #[Value.ref b] s) (F0 m 758 ls []) := by
  refine lv_aload_n hx hb dL_law_758 rfl (lv_at hl 3 rfl) ?_
  refine lv_aload_n hx hb dL_law_759 rfl (lv_at hl 4 rfl) ?_
  refine lv_iload hx hb dL_law_760 (lv_at hl 0 rfl) ?_
  refine lv_iconst (v := 1) hx hb dL_law_762 (by decide) ?_
  refine lv_iadd hx hb dL_law_763 ?_
  refine va_sld hx hb hX hbl hbA hS (sx_in 1 (by decide) (by decide) h0i h8i hL) dL_law_764 ?_
  obtain ⟨fs_1, hc_2⟩ := (hXO).cell
  refine go_iW (wc := wx) (wr := wm ++ [(o0, .inl (cL, 1, .inr (.inl og)))]) hP hD hS hA (pm (fun a9 => by simp only [cn_cons, cn_app, cn_nil] <;> omega)) (va_runV (As := [.int (xs (Int32.toNatClampNeg (i + 1)))]) (rest := []) ⟨hx, hb, hml, hown, hts⟩ (TX_many l D H.size cI cM cB xh z wx hXO (xs (Int32.toNatClampNeg (i + 1)))) (cwV 1 hts gL_law_X8_many rfl rfl rfl (by decide +kernel) ⟨Nat.le_of_ble_eq_true rfl, Nat.le_of_ble_eq_true rfl⟩) (st_preVW (wr := wm ++ [(o0, .inl (cL, 1, .inr (.inl og)))]) (ci := 7) (q0 := 0) hP (pm (fun a9 => by simp only [cn_cons, cn_app, cn_nil] <;> omega)) hD hK hNW [0, 1, 2] rfl rfl rfl hc_2) rfl rfl hl.1 rfl (lv_room (Nat.le_of_ble_eq_true rfl)) dL_law_765 ⟨(by show cells + 0 ≤ 601024; omega), (by show slots + 0 ≤ 7293034; omega)⟩) (fun r_5 z_3 H locs hw_4 hP hD hS => ?_)
  have hP : va_P D vwCl (z_3 ++ (wm ++ [(o0, .inl (cL, 1, .inr (.inl og)))])) H := hP.perm (pm (fun a9 => by simp only [cn_cons, cn_app, cn_nil] <;> omega))
  have hD : va_D A (z_3 ++ (wm ++ [(o0, .inl (cL, 1, .inr (.inl og)))])) := hD.perm (pm (fun a9 => by simp only [cn_cons, cn_app, cn_nil] <;> omega))
  refine lv_pop hx hb dL_law_768 rfl ?_
  refine lv_aload_n hx hb dL_law_769 rfl (lv_at hl 2 rfl) ?_
  refine lv_aload_n hx hb dL_law_770 rfl (lv_at hl 4 rfl) ?_
  refine lv_iload hx hb dL_law_771 (lv_at hl 0 rfl) ?_
  refine lv_iconst (v := 1) hx hb dL_law_773 (by decide) ?_
  refine lv_iadd hx hb dL_law_774 ?_
  refine va_sld hx hb hX hbl hbA hS (sx_in 1 (by decide) (by decide) h0i h8i hL) dL_law_775 ?_
  obtain ⟨fs_6, hc_7⟩ := (hMO).cell
  refine go_iW (wc := wm) (wr := z_3 ++ [(o0, .inl (cL, 1, .inr (.inl og)))]) hP hD hS hA (pm (fun a9 => by simp only [cn_cons, cn_app, cn_nil] <;> omega)) (va_runV (As := [.int (xs (Int32.toNatClampNeg (i + 1)))]) (rest := []) ⟨hx, hb, hml, hown, hts⟩ (TM_many l D H.size cI mh z wm hMO (xs (Int32.toNatClampNeg (i + 1)))) (cwV 1 hts gL_law_X9_many rfl rfl rfl (by decide +kernel) ⟨Nat.le_of_ble_eq_true rfl, Nat.le_of_ble_eq_true rfl⟩) (st_preVW (wr := z_3 ++ [(o0, .inl (cL, 1, .inr (.inl og)))]) (ci := 8) (q0 := 0) hP (pm (fun a9 => by simp only [cn_cons, cn_app, cn_nil] <;> omega)) hD hK hNW [0] rfl rfl rfl hc_7) rfl rfl hl.1 rfl (lv_room (Nat.le_of_ble_eq_true rfl)) dL_law_776 ⟨(by show cells + 0 ≤ 601024; omega), (by show slots + 0 ≤ 7293034; omega)⟩) (fun r_10 z_8 H locs hw_9 hP hD hS => ?_)
  have hP : va_P D vwCl (z_3 ++ (z_8 ++ [(o0, .inl (cL, 1, .inr (.inl og)))])) H := hP.perm (pm (fun a9 => by simp only [cn_cons, cn_app, cn_nil] <;> omega))
  have hD : va_D A (z_3 ++ (z_8 ++ [(o0, .inl (cL, 1, .inr (.inl og)))])) := hD.perm (pm (fun a9 => by simp only [cn_cons, cn_app, cn_nil] <;> omega))
  refine lv_pop hx hb dL_law_779 rfl ?_
  refine lv_goto (tgt := 1165) hx hb dL_law_780 (by decide) ?_
  exact hE z z_3 z_8 og _ _ _ _ _ (by show cells + 0 ≤ cells + 20; omega) (by show slots + 0 ≤ slots + 200; omega) hw_4 hw_9 hP hD hS (lv_sub hl [0, 1, 2, 3, 4] rfl)

set_option maxHeartbeats 4000000 in
set_option maxRecDepth 100000 in
theorem law_c16 {p : Program} {e : Env} {s : State} {m : MethodId} {below : List Frame} {meth : Method} {c : Code} (l : Launch) {b L : Nat} {xs : Nat → Int32} (D : va_G) (A : Nat → Prop) (hx : p.tables.exec = Jvm.exec) (hb : c.code = cL_law) (hr : meth.sig.returnType = ret) (hts : ∀ w ∈ wsL_law, w.before #[Value.ref b] s = true) (hown : s.vm.findClass RL = some m.cls) (hml : c.maxLocals = 7) (hlocks : meth.locks = false) (hA : ∀ q, s.heap.size ≤ q → A q) (hAq : ∀ q, A q → s.heap.size ≤ q) (hbA : ¬ A b) (hX : va_X b L xs s s.heap) (hbl : b < s.heap.size) (hNW : NW s) (hl9 : l.stackTraces = false) (hTW : TW s) (hZ : ZZ A s s.heap) (hL : L ≤ 4096) (cI cM cB cL : ClassId) (xh mh o0 : Nat) (hK : va_K D vwCl [(cI, .int), (cM, .object "OneHandset$Make"), (cB, .object "OneHandset$Box"), (cL, .long)] s) (i : Int32) (h0i : 0 ≤ i.toInt) (h8i : i.toInt + 8 ≤ L) (z : ZT) (wx wm : va_W) (og : Nat → Int64) (hXO : XOK cI cM cB xh z wx) (hMO : MOK cI mh z wm) (H : Heap) (locs : List Loc) (cells slots : Nat) (hP : va_P D vwCl (wx ++ (wm ++ [(o0, .inl (cL, 1, .inr (.inl og)))])) H) (hD : va_D A (wx ++ (wm ++ [(o0, .inl (cL, 1, .inr (.inl og)))]))) (hS : va_S A s.heap H locs) (hcl : cells + 100 ≤ 601024) (hsl : slots + 1000 ≤ 7293034) (ls : Array Slot) (hl : lv_has ls 7 [(4, .int i), (3, .ref o0), (2, .ref mh), (1, .ref xh), (0, .ref b)]) (hE : ∀ (z : ZT) (wx wm : va_W) (og : Nat → Int64) (H : Heap) (locs : List Loc) (ls : Array Slot) (cells2 slots2 : Nat), cells2 ≤ cells + 20 → slots2 ≤ slots + 200 → XOK cI cM cB xh z wx → MOK cI mh z wm → va_P D vwCl (wx ++ (wm ++ [(o0, .inl (cL, 1, .inr (.inl og)))])) H → va_D A (wx ++ (wm ++ [(o0, .inl (cL, 1, .inr (.inl og)))])) → va_S A s.heap H locs → lv_has ls 7 [(4, .int i), (3, .ref o0), (2, .ref mh), (1, .ref xh), (0, .ref b)] → W p l e room_1 s m #[Value.ref b] below meth c H locs cells2 slots2 (lw_Z below #[Value.ref b] s) (F0 m 1165 ls [])) : W p l e room_1 s m #[Value.ref b] below meth c H locs cells slots (lw_Z below #[Value.ref b] s) (F0 m 783 ls []) := by
  refine lv_aload_n hx hb dL_law_783 rfl (lv_at hl 3 rfl) ?_
  refine lv_aload_n hx hb dL_law_784 rfl (lv_at hl 4 rfl) ?_
  refine lv_iload hx hb dL_law_785 (lv_at hl 0 rfl) ?_
  refine lv_iconst (v := 1) hx hb dL_law_787 (by decide) ?_
  refine lv_iadd hx hb dL_law_788 ?_
  refine va_sld hx hb hX hbl hbA hS (sx_in 1 (by decide) (by decide) h0i h8i hL) dL_law_789 ?_
  refine lv_aload_n hx hb dL_law_790 rfl (lv_at hl 4 rfl) ?_
  refine lv_iload hx hb dL_law_791 (lv_at hl 0 rfl) ?_
  refine lv_iconst (v := 2) hx hb dL_law_793 (by decide) ?_
  refine lv_iadd hx hb dL_law_794 ?_
  refine va_sld hx hb hX hbl hbA hS (sx_in 2 (by decide) (by decide) h0i h8i hL) dL_law_795 ?_
  obtain ⟨fs_1, hc_2⟩ := (hXO).cell
  refine go_iW (wc := wx) (wr := wm ++ [(o0, .inl (cL, 1, .inr (.inl og)))]) hP hD hS hA (pm (fun a9 => by simp only [cn_cons, cn_app, cn_nil] <;> omega)) (va_runV (As := [.int (xs (Int32.toNatClampNeg (i + 1))), .int (xs (Int32.toNatClampNeg (i + 2)))]) (rest := []) ⟨hx, hb, hml, hown, hts⟩ (TX_foreseen l D H.size cI cM cB xh z wx hXO (xs (Int32.toNatClampNeg (i + 1))) (xs (Int32.toNatClampNeg (i + 2)))) (cwV 2 hts gL_law_X8_foreseen rfl rfl rfl (by decide +kernel) ⟨Nat.le_of_ble_eq_true rfl, Nat.le_of_ble_eq_true rfl⟩) (st_preVW (wr := wm ++ [(o0, .inl (cL, 1, .inr (.inl og)))]) (ci := 7) (q0 := 0) hP (pm (fun a9 => by simp only [cn_cons, cn_app, cn_nil] <;> omega)) hD hK hNW [0, 1, 2] rfl rfl rfl hc_2) rfl rfl hl.1 rfl (lv_room (Nat.le_of_ble_eq_true rfl)) dL_law_796 ⟨(by show cells + 0 ≤ 601024; omega), (by show slots + 0 ≤ 7293034; omega)⟩) (fun r_5 z_3 H locs hw_4 hP hD hS => ?_)
  have hP : va_P D vwCl (z_3 ++ (wm ++ [(o0, .inl (cL, 1, .inr (.inl og)))])) H := hP.perm (pm (fun a9 => by simp only [cn_cons, cn_app, cn_nil] <;> omega))
  have hD : va_D A (z_3 ++ (wm ++ [(o0, .inl (cL, 1, .inr (.inl og)))])) := hD.perm (pm (fun a9 => by simp only [cn_cons, cn_app, cn_nil] <;> omega))
  refine lv_pop hx hb dL_law_799 rfl ?_
  refine lv_aload_n hx hb dL_law_800 rfl (lv_at hl 2 rfl) ?_
  refine lv_aload_n hx hb dL_law_801 rfl (lv_at hl 4 rfl) ?_
  refine lv_iload hx hb dL_law_802 (lv_at hl 0 rfl) ?_
  refine lv_iconst (v := 1) hx hb dL_law_804 (by decide) ?_
  refine lv_iadd hx hb dL_law_805 ?_
  refine va_sld hx hb hX hbl hbA hS (sx_in 1 (by decide) (by decide) h0i h8i hL) dL_law_806 ?_
  refine lv_aload_n hx hb dL_law_807 rfl (lv_at hl 4 rfl) ?_
  refine lv_iload hx hb dL_law_808 (lv_at hl 0 rfl) ?_
  refine lv_iconst (v := 2) hx hb dL_law_810 (by decide) ?_
  refine lv_iadd hx hb dL_law_811 ?_
  refine va_sld hx hb hX hbl hbA hS (sx_in 2 (by decide) (by decide) h0i h8i hL) dL_law_812 ?_
  obtain ⟨fs_6, hc_7⟩ := (hMO).cell
  refine go_iW (wc := wm) (wr := z_3 ++ [(o0, .inl (cL, 1, .inr (.inl og)))]) hP hD hS hA (pm (fun a9 => by simp only [cn_cons, cn_app, cn_nil] <;> omega)) (va_runV (As := [.int (xs (Int32.toNatClampNeg (i + 1))), .int (xs (Int32.toNatClampNeg (i + 2)))]) (rest := []) ⟨hx, hb, hml, hown, hts⟩ (TM_foreseen l D H.size cI mh z wm hMO (xs (Int32.toNatClampNeg (i + 1))) (xs (Int32.toNatClampNeg (i + 2)))) (cwV 2 hts gL_law_X9_foreseen rfl rfl rfl (by decide +kernel) ⟨Nat.le_of_ble_eq_true rfl, Nat.le_of_ble_eq_true rfl⟩) (st_preVW (wr := z_3 ++ [(o0, .inl (cL, 1, .inr (.inl og)))]) (ci := 8) (q0 := 0) hP (pm (fun a9 => by simp only [cn_cons, cn_app, cn_nil] <;> omega)) hD hK hNW [0] rfl rfl rfl hc_7) rfl rfl hl.1 rfl (lv_room (Nat.le_of_ble_eq_true rfl)) dL_law_813 ⟨(by show cells + 0 ≤ 601024; omega), (by show slots + 0 ≤ 7293034; omega)⟩) (fun r_10 z_8 H locs hw_9 hP hD hS => ?_)
  have hP : va_P D vwCl (z_3 ++ (z_8 ++ [(o0, .inl (cL, 1, .inr (.inl og)))])) H := hP.perm (pm (fun a9 => by simp only [cn_cons, cn_app, cn_nil] <;> omega))
  have hD : va_D A (z_3 ++ (z_8 ++ [(o0, .inl (cL, 1, .inr (.inl og)))])) := hD.perm (pm (fun a9 => by simp only [cn_cons, cn_app, cn_nil] <;> omega))
  refine lv_pop hx hb dL_law_816 rfl ?_
  refine lv_goto (tgt := 1165) hx hb dL_law_817 (by decide) ?_
  exact hE z z_3 z_8 og _ _ _ _ _ (by show cells + 0 ≤ cells + 20; omega) (by show slots + 0 ≤ slots + 200; omega) hw_4 hw_9 hP hD hS (lv_sub hl [0, 1, 2, 3, 4] rfl)

set_option maxHeartbeats 4000000 in
set_option maxRecDepth 100000 in
theorem law_c17 {p : Program} {e : Env} {s : State} {m : MethodId} {below : List Frame} {meth : Method} {c : Code} (l : Launch) {b L : Nat} {xs : Nat → Int32} (D : va_G) (A : Nat → Prop) (hx : p.tables.exec = Jvm.exec) (hb : c.code = cL_law) (hr : meth.sig.returnType = ret) (hts : ∀ w ∈ wsL_law, w.before #[Value.ref b] s = true) (hown : s.vm.findClass RL = some m.cls) (hml : c.maxLocals = 7) (hlocks : meth.locks = false) (hA : ∀ q, s.heap.size ≤ q → A q) (hAq : ∀ q, A q → s.heap.size ≤ q) (hbA : ¬ A b) (hX : va_X b L xs s s.heap) (hbl : b < s.heap.size) (hNW : NW s) (hl9 : l.stackTraces = false) (hTW : TW s) (hZ : ZZ A s s.heap) (hL : L ≤ 4096) (cI cM cB cL : ClassId) (xh mh o0 : Nat) (hK : va_K D vwCl [(cI, .int), (cM, .object "OneHandset$Make"), (cB, .object "OneHandset$Box"), (cL, .long)] s) (i : Int32) (h0i : 0 ≤ i.toInt) (h8i : i.toInt + 8 ≤ L) (z : ZT) (wx wm : va_W) (og : Nat → Int64) (hXO : XOK cI cM cB xh z wx) (hMO : MOK cI mh z wm) (H : Heap) (locs : List Loc) (cells slots : Nat) (hP : va_P D vwCl (wx ++ (wm ++ [(o0, .inl (cL, 1, .inr (.inl og)))])) H) (hD : va_D A (wx ++ (wm ++ [(o0, .inl (cL, 1, .inr (.inl og)))]))) (hS : va_S A s.heap H locs) (hcl : cells + 100 ≤ 601024) (hsl : slots + 1000 ≤ 7293034) (ls : Array Slot) (hl : lv_has ls 7 [(4, .int i), (3, .ref o0), (2, .ref mh), (1, .ref xh), (0, .ref b)]) (hE : ∀ (z : ZT) (wx wm : va_W) (og : Nat → Int64) (H : Heap) (locs : List Loc) (ls : Array Slot) (cells2 slots2 : Nat), cells2 ≤ cells + 20 → slots2 ≤ slots + 200 → XOK cI cM cB xh z wx → MOK cI mh z wm → va_P D vwCl (wx ++ (wm ++ [(o0, .inl (cL, 1, .inr (.inl og)))])) H → va_D A (wx ++ (wm ++ [(o0, .inl (cL, 1, .inr (.inl og)))])) → va_S A s.heap H locs → lv_has ls 7 [(4, .int i), (3, .ref o0), (2, .ref mh), (1, .ref xh), (0, .ref b)] → W p l e room_1 s m #[Value.ref b] below meth c H locs cells2 slots2 (lw_Z below #[Value.ref b] s) (F0 m 1165 ls [])) : W p l e room_1 s m #[Value.ref b] below meth c H locs cells slots (lw_Z below #[Value.ref b] s) (F0 m 820 ls []) := by
  refine lv_aload_n hx hb dL_law_820 rfl (lv_at hl 3 rfl) ?_
  refine lv_aload_n hx hb dL_law_821 rfl (lv_at hl 4 rfl) ?_
  refine lv_iload hx hb dL_law_822 (lv_at hl 0 rfl) ?_
  refine lv_iconst (v := 1) hx hb dL_law_824 (by decide) ?_
  refine lv_iadd hx hb dL_law_825 ?_
  refine va_sld hx hb hX hbl hbA hS (sx_in 1 (by decide) (by decide) h0i h8i hL) dL_law_826 ?_
  refine lv_aload_n hx hb dL_law_827 rfl (lv_at hl 4 rfl) ?_
  refine lv_iload hx hb dL_law_828 (lv_at hl 0 rfl) ?_
  refine lv_iconst (v := 2) hx hb dL_law_830 (by decide) ?_
  refine lv_iadd hx hb dL_law_831 ?_
  refine va_sld hx hb hX hbl hbA hS (sx_in 2 (by decide) (by decide) h0i h8i hL) dL_law_832 ?_
  obtain ⟨fs_1, hc_2⟩ := (hXO).cell
  refine go_iW (wc := wx) (wr := wm ++ [(o0, .inl (cL, 1, .inr (.inl og)))]) hP hD hS hA (pm (fun a9 => by simp only [cn_cons, cn_app, cn_nil] <;> omega)) (va_runV (As := [.int (xs (Int32.toNatClampNeg (i + 1))), .int (xs (Int32.toNatClampNeg (i + 2)))]) (rest := []) ⟨hx, hb, hml, hown, hts⟩ (TX_both l D H.size cI cM cB xh z wx hXO (xs (Int32.toNatClampNeg (i + 1))) (xs (Int32.toNatClampNeg (i + 2)))) (cwV 2 hts gL_law_X8_both rfl rfl rfl (by decide +kernel) ⟨Nat.le_of_ble_eq_true rfl, Nat.le_of_ble_eq_true rfl⟩) (st_preVW (wr := wm ++ [(o0, .inl (cL, 1, .inr (.inl og)))]) (ci := 7) (q0 := 0) hP (pm (fun a9 => by simp only [cn_cons, cn_app, cn_nil] <;> omega)) hD hK hNW [0, 1, 2] rfl rfl rfl hc_2) rfl rfl hl.1 rfl (lv_room (Nat.le_of_ble_eq_true rfl)) dL_law_833 ⟨(by show cells + 0 ≤ 601024; omega), (by show slots + 0 ≤ 7293034; omega)⟩) (fun r_5 z_3 H locs hw_4 hP hD hS => ?_)
  have hP : va_P D vwCl (z_3 ++ (wm ++ [(o0, .inl (cL, 1, .inr (.inl og)))])) H := hP.perm (pm (fun a9 => by simp only [cn_cons, cn_app, cn_nil] <;> omega))
  have hD : va_D A (z_3 ++ (wm ++ [(o0, .inl (cL, 1, .inr (.inl og)))])) := hD.perm (pm (fun a9 => by simp only [cn_cons, cn_app, cn_nil] <;> omega))
  refine lv_pop hx hb dL_law_836 rfl ?_
  refine lv_aload_n hx hb dL_law_837 rfl (lv_at hl 2 rfl) ?_
  refine lv_aload_n hx hb dL_law_838 rfl (lv_at hl 4 rfl) ?_
  refine lv_iload hx hb dL_law_839 (lv_at hl 0 rfl) ?_
  refine lv_iconst (v := 1) hx hb dL_law_841 (by decide) ?_
  refine lv_iadd hx hb dL_law_842 ?_
  refine va_sld hx hb hX hbl hbA hS (sx_in 1 (by decide) (by decide) h0i h8i hL) dL_law_843 ?_
  refine lv_aload_n hx hb dL_law_844 rfl (lv_at hl 4 rfl) ?_
  refine lv_iload hx hb dL_law_845 (lv_at hl 0 rfl) ?_
  refine lv_iconst (v := 2) hx hb dL_law_847 (by decide) ?_
  refine lv_iadd hx hb dL_law_848 ?_
  refine va_sld hx hb hX hbl hbA hS (sx_in 2 (by decide) (by decide) h0i h8i hL) dL_law_849 ?_
  obtain ⟨fs_6, hc_7⟩ := (hMO).cell
  refine go_iW (wc := wm) (wr := z_3 ++ [(o0, .inl (cL, 1, .inr (.inl og)))]) hP hD hS hA (pm (fun a9 => by simp only [cn_cons, cn_app, cn_nil] <;> omega)) (va_runV (As := [.int (xs (Int32.toNatClampNeg (i + 1))), .int (xs (Int32.toNatClampNeg (i + 2)))]) (rest := []) ⟨hx, hb, hml, hown, hts⟩ (TM_both l D H.size cI mh z wm hMO (xs (Int32.toNatClampNeg (i + 1))) (xs (Int32.toNatClampNeg (i + 2)))) (cwV 2 hts gL_law_X9_both rfl rfl rfl (by decide +kernel) ⟨Nat.le_of_ble_eq_true rfl, Nat.le_of_ble_eq_true rfl⟩) (st_preVW (wr := z_3 ++ [(o0, .inl (cL, 1, .inr (.inl og)))]) (ci := 8) (q0 := 0) hP (pm (fun a9 => by simp only [cn_cons, cn_app, cn_nil] <;> omega)) hD hK hNW [0] rfl rfl rfl hc_7) rfl rfl hl.1 rfl (lv_room (Nat.le_of_ble_eq_true rfl)) dL_law_850 ⟨(by show cells + 0 ≤ 601024; omega), (by show slots + 0 ≤ 7293034; omega)⟩) (fun r_10 z_8 H locs hw_9 hP hD hS => ?_)
  have hP : va_P D vwCl (z_3 ++ (z_8 ++ [(o0, .inl (cL, 1, .inr (.inl og)))])) H := hP.perm (pm (fun a9 => by simp only [cn_cons, cn_app, cn_nil] <;> omega))
  have hD : va_D A (z_3 ++ (z_8 ++ [(o0, .inl (cL, 1, .inr (.inl og)))])) := hD.perm (pm (fun a9 => by simp only [cn_cons, cn_app, cn_nil] <;> omega))
  refine lv_pop hx hb dL_law_853 rfl ?_
  refine lv_goto (tgt := 1165) hx hb dL_law_854 (by decide) ?_
  exact hE z z_3 z_8 og _ _ _ _ _ (by show cells + 0 ≤ cells + 20; omega) (by show slots + 0 ≤ slots + 200; omega) hw_4 hw_9 hP hD hS (lv_sub hl [0, 1, 2, 3, 4] rfl)

