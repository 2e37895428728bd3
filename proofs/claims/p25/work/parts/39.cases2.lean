set_option maxHeartbeats 4000000 in
set_option maxRecDepth 100000 in
theorem law_c18 {p : Program} {e : Env} {s : State} {m : MethodId} {below : List Frame} {meth : Method} {c : Code} (l : Launch) {b L : Nat} {xs : Nat → Int32} (D : va_G) (A : Nat → Prop) (hx : p.tables.exec = Jvm.exec) (hb : c.code = cL_law) (hr : meth.sig.returnType = ret) (hts : ∀ w ∈ wsL_law, w.before #[Value.ref b] s = true) (hown : s.vm.findClass RL = some m.cls) (hml : c.maxLocals = 7) (hlocks : meth.locks = false) (hA : ∀ q, s.heap.size ≤ q → A q) (hAq : ∀ q, A q → s.heap.size ≤ q) (hbA : ¬ A b) (hX : va_X b L xs s s.heap) (hbl : b < s.heap.size) (hNW : NW s) (hl9 : l.stackTraces = false) (hTW : TW s) (hZ : ZZ A s s.heap) (hL : L ≤ 4096) (cI cM cB cL : ClassId) (xh mh o0 : Nat) (hK : va_K D vwCl [(cI, .int), (cM, .object "OneHandset$Make"), (cB, .object "OneHandset$Box"), (cL, .long)] s) (i : Int32) (h0i : 0 ≤ i.toInt) (h8i : i.toInt + 8 ≤ L) (z : ZT) (wx wm : va_W) (og : Nat → Int64) (hXO : XOK cI cM cB xh z wx) (hMO : MOK cI mh z wm) (H : Heap) (locs : List Loc) (cells slots : Nat) (hP : va_P D vwCl (wx ++ (wm ++ [(o0, .inl (cL, 1, .inr (.inl og)))])) H) (hD : va_D A (wx ++ (wm ++ [(o0, .inl (cL, 1, .inr (.inl og)))]))) (hS : va_S A s.heap H locs) (hcl : cells + 100 ≤ 601024) (hsl : slots + 1000 ≤ 7293034) (ls : Array Slot) (hl : lv_has ls 7 [(4, .int i), (3, .ref o0), (2, .ref mh), (1, .ref xh), (0, .ref b)]) (hE : ∀ (z : ZT) (wx wm : va_W) (og : Nat → Int64) (H : Heap) (locs : List Loc) (ls : Array Slot) (cells2 slots2 : Nat), cells2 ≤ cells + 20 → slots2 ≤ slots + 200 → XOK cI cM cB xh z wx → MOK cI mh z wm → va_P D vwCl (wx ++ (wm ++ [(o0, .inl (cL, 1, .inr (.inl og)))])) H → va_D A (wx ++ (wm ++ [(o0, .inl (cL, 1, .inr (.inl og)))])) → va_S A s.heap H locs → lv_has ls 7 [(4, .int i), (3, .ref o0), (2, .ref mh), (1, .ref xh), (0, .ref b)] → W p l e room_1 s m #[Value.ref b] below meth c H locs cells2 slots2 (lw_Z below #[Value.ref b] s) (F0 m 1165 ls [])) : W p l e room_1 s m #[Value.ref b] below meth c H locs cells slots (lw_Z below #[Value.ref b] s) (F0 m 857 ls []) := by
  refine lv_aload_n hx hb dL_law_857 rfl (lv_at hl 3 rfl) ?_
  refine lv_aload_n hx hb dL_law_858 rfl (lv_at hl 4 rfl) ?_
  refine lv_iload hx hb dL_law_859 (lv_at hl 0 rfl) ?_
  refine lv_iconst (v := 1) hx hb dL_law_861 (by decide) ?_
  refine lv_iadd hx hb dL_law_862 ?_
  refine va_sld hx hb hX hbl hbA hS (sx_in 1 (by decide) (by decide) h0i h8i hL) dL_law_863 ?_
  refine lv_aload_n hx hb dL_law_864 rfl (lv_at hl 4 rfl) ?_
  refine lv_iload hx hb dL_law_865 (lv_at hl 0 rfl) ?_
  refine lv_iconst (v := 2) hx hb dL_law_867 (by decide) ?_
  refine lv_iadd hx hb dL_law_868 ?_
  refine va_sld hx hb hX hbl hbA hS (sx_in 2 (by decide) (by decide) h0i h8i hL) dL_law_869 ?_
  refine lv_aload_n hx hb dL_law_870 rfl (lv_at hl 4 rfl) ?_
  refine lv_iload hx hb dL_law_871 (lv_at hl 0 rfl) ?_
  refine lv_iconst (v := 3) hx hb dL_law_873 (by decide) ?_
  refine lv_iadd hx hb dL_law_874 ?_
  refine va_sld hx hb hX hbl hbA hS (sx_in 3 (by decide) (by decide) h0i h8i hL) dL_law_875 ?_
  obtain ⟨fs_1, hc_2⟩ := (hXO).cell
  refine go_iW (wc := wx) (wr := wm ++ [(o0, .inl (cL, 1, .inr (.inl og)))]) hP hD hS hA (pm (fun a9 => by simp only [cn_cons, cn_app, cn_nil] <;> omega)) (va_runV (As := [.int (xs (Int32.toNatClampNeg (i + 1))), .int (xs (Int32.toNatClampNeg (i + 2))), .int (xs (Int32.toNatClampNeg (i + 3)))]) (rest := []) ⟨hx, hb, hml, hown, hts⟩ (TX_box l D H.size cI cM cB xh z wx hXO (xs (Int32.toNatClampNeg (i + 1))) (xs (Int32.toNatClampNeg (i + 2))) (xs (Int32.toNatClampNeg (i + 3)))) (cwV 3 hts gL_law_X8_box rfl rfl rfl (by decide +kernel) ⟨Nat.le_of_ble_eq_true rfl, Nat.le_of_ble_eq_true rfl⟩) (st_preVW (wr := wm ++ [(o0, .inl (cL, 1, .inr (.inl og)))]) (ci := 7) (q0 := 0) hP (pm (fun a9 => by simp only [cn_cons, cn_app, cn_nil] <;> omega)) hD hK hNW [0, 1, 2] rfl rfl rfl hc_2) rfl rfl hl.1 rfl (lv_room (Nat.le_of_ble_eq_true rfl)) dL_law_876 ⟨(by show cells + 0 ≤ 601024; omega), (by show slots + 0 ≤ 7293034; omega)⟩) (fun r_5 z_3 H locs hw_4 hP hD hS => ?_)
  obtain ⟨hst_7, ho_6⟩ := hw_4
  have hP : va_P D vwCl (z_3 ++ (wm ++ [(o0, .inl (cL, 1, .inr (.inl og)))])) H := hP.perm (pm (fun a9 => by simp only [cn_cons, cn_app, cn_nil] <;> omega))
  have hD : va_D A (z_3 ++ (wm ++ [(o0, .inl (cL, 1, .inr (.inl og)))])) := hD.perm (pm (fun a9 => by simp only [cn_cons, cn_app, cn_nil] <;> omega))
  refine lv_pop hx hb dL_law_879 rfl ?_
  refine lv_aload_n hx hb dL_law_880 rfl (lv_at hl 2 rfl) ?_
  refine lv_aload_n hx hb dL_law_881 rfl (lv_at hl 4 rfl) ?_
  refine lv_iload hx hb dL_law_882 (lv_at hl 0 rfl) ?_
  refine lv_iconst (v := 1) hx hb dL_law_884 (by decide) ?_
  refine lv_iadd hx hb dL_law_885 ?_
  refine va_sld hx hb hX hbl hbA hS (sx_in 1 (by decide) (by decide) h0i h8i hL) dL_law_886 ?_
  refine lv_aload_n hx hb dL_law_887 rfl (lv_at hl 4 rfl) ?_
  refine lv_iload hx hb dL_law_888 (lv_at hl 0 rfl) ?_
  refine lv_iconst (v := 2) hx hb dL_law_890 (by decide) ?_
  refine lv_iadd hx hb dL_law_891 ?_
  refine va_sld hx hb hX hbl hbA hS (sx_in 2 (by decide) (by decide) h0i h8i hL) dL_law_892 ?_
  refine lv_aload_n hx hb dL_law_893 rfl (lv_at hl 4 rfl) ?_
  refine lv_iload hx hb dL_law_894 (lv_at hl 0 rfl) ?_
  refine lv_iconst (v := 3) hx hb dL_law_896 (by decide) ?_
  refine lv_iadd hx hb dL_law_897 ?_
  refine va_sld hx hb hX hbl hbA hS (sx_in 3 (by decide) (by decide) h0i h8i hL) dL_law_898 ?_
  obtain ⟨fs_8, hc_9⟩ := (hMO).cell
  refine go_iW (wc := wm) (wr := z_3 ++ [(o0, .inl (cL, 1, .inr (.inl og)))]) hP hD hS hA (pm (fun a9 => by simp only [cn_cons, cn_app, cn_nil] <;> omega)) (va_runV (As := [.int (xs (Int32.toNatClampNeg (i + 1))), .int (xs (Int32.toNatClampNeg (i + 2))), .int (xs (Int32.toNatClampNeg (i + 3)))]) (rest := []) ⟨hx, hb, hml, hown, hts⟩ (TM_box l D H.size cI mh z wm hMO (xs (Int32.toNatClampNeg (i + 1))) (xs (Int32.toNatClampNeg (i + 2))) (xs (Int32.toNatClampNeg (i + 3)))) (cwV 3 hts gL_law_X9_box rfl rfl rfl (by decide +kernel) ⟨Nat.le_of_ble_eq_true rfl, Nat.le_of_ble_eq_true rfl⟩) (st_preVW (wr := z_3 ++ [(o0, .inl (cL, 1, .inr (.inl og)))]) (ci := 8) (q0 := 0) hP (pm (fun a9 => by simp only [cn_cons, cn_app, cn_nil] <;> omega)) hD hK hNW [0] rfl rfl rfl hc_9) rfl rfl hl.1 rfl (lv_room (Nat.le_of_ble_eq_true rfl)) dL_law_899 ⟨(by show cells + 0 ≤ 601024; omega), (by show slots + 0 ≤ 7293034; omega)⟩) (fun r_12 z_10 H locs hw_11 hP hD hS => ?_)
  obtain ⟨hst_14, ho_13⟩ := hw_11
  have hP : va_P D vwCl (z_3 ++ (z_10 ++ [(o0, .inl (cL, 1, .inr (.inl og)))])) H := hP.perm (pm (fun a9 => by simp only [cn_cons, cn_app, cn_nil] <;> omega))
  have hD : va_D A (z_3 ++ (z_10 ++ [(o0, .inl (cL, 1, .inr (.inl og)))])) := hD.perm (pm (fun a9 => by simp only [cn_cons, cn_app, cn_nil] <;> omega))
  refine lv_pop hx hb dL_law_902 rfl ?_
  refine lv_goto (tgt := 1165) hx hb dL_law_903 (by decide) ?_
  exact hE ((fbx z (xs (Int32.toNatClampNeg (i + 1))) (xs (Int32.toNatClampNeg (i + 2))) (xs (Int32.toNatClampNeg (i + 3)))).2) z_3 z_10 og _ _ _ _ _ (by show cells + 0 ≤ cells + 20; omega) (by show slots + 0 ≤ slots + 200; omega) ho_6 ho_13 hP hD hS (lv_sub hl [0, 1, 2, 3, 4] rfl)

set_option maxHeartbeats 4000000 in
set_option maxRecDepth 100000 in
theorem law_c19 {p : Program} {e : Env} {s : State} {m : MethodId} {below : List Frame} {meth : Method} {c : Code} (l : Launch) {b L : Nat} {xs : Nat → Int32} (D : va_G) (A : Nat → Prop) (hx : p.tables.exec = Jvm.exec) (hb : c.code = cL_law) (hr : meth.sig.returnType = ret) (hts : ∀ w ∈ wsL_law, w.before #[Value.ref b] s = true) (hown : s.vm.findClass RL = some m.cls) (hml : c.maxLocals = 7) (hlocks : meth.locks = false) (hA : ∀ q, s.heap.size ≤ q → A q) (hAq : ∀ q, A q → s.heap.size ≤ q) (hbA : ¬ A b) (hX : va_X b L xs s s.heap) (hbl : b < s.heap.size) (hNW : NW s) (hl9 : l.stackTraces = false) (hTW : TW s) (hZ : ZZ A s s.heap) (hL : L ≤ 4096) (cI cM cB cL : ClassId) (xh mh o0 : Nat) (hK : va_K D vwCl [(cI, .int), (cM, .object "OneHandset$Make"), (cB, .object "OneHandset$Box"), (cL, .long)] s) (i : Int32) (h0i : 0 ≤ i.toInt) (h8i : i.toInt + 8 ≤ L) (z : ZT) (wx wm : va_W) (og : Nat → Int64) (hXO : XOK cI cM cB xh z wx) (hMO : MOK cI mh z wm) (H : Heap) (locs : List Loc) (cells slots : Nat) (hP : va_P D vwCl (wx ++ (wm ++ [(o0, .inl (cL, 1, .inr (.inl og)))])) H) (hD : va_D A (wx ++ (wm ++ [(o0, .inl (cL, 1, .inr (.inl og)))]))) (hS : va_S A s.heap H locs) (hcl : cells + 100 ≤ 601024) (hsl : slots + 1000 ≤ 7293034) (ls : Array Slot) (hl : lv_has ls 7 [(4, .int i), (3, .ref o0), (2, .ref mh), (1, .ref xh), (0, .ref b)]) (hE : ∀ (z : ZT) (wx wm : va_W) (og : Nat → Int64) (H : Heap) (locs : List Loc) (ls : Array Slot) (cells2 slots2 : Nat), cells2 ≤ cells + 20 → slots2 ≤ slots + 200 → XOK cI cM cB xh z wx → MOK cI mh z wm → va_P D vwCl (wx ++ (wm ++ [(o0, .inl (cL, 1, .inr (.inl og)))])) H → va_D A (wx ++ (wm ++ [(o0, .inl (cL, 1, .inr (.inl og)))])) → va_S A s.heap H locs → lv_has ls 7 [(4, .int i), (3, .ref o0), (2, .ref mh), (1, .ref xh), (0, .ref b)] → W p l e room_1 s m #[Value.ref b] below meth c H locs cells2 slots2 (lw_Z below #[Value.ref b] s) (F0 m 1165 ls [])) : W p l e room_1 s m #[Value.ref b] below meth c H locs cells slots (lw_Z below #[Value.ref b] s) (F0 m 906 ls []) := by
  refine lv_aload_n hx hb dL_law_906 rfl (lv_at hl 3 rfl) ?_
  refine lv_aload_n hx hb dL_law_907 rfl (lv_at hl 4 rfl) ?_
  refine lv_iload hx hb dL_law_908 (lv_at hl 0 rfl) ?_
  refine lv_iconst (v := 1) hx hb dL_law_910 (by decide) ?_
  refine lv_iadd hx hb dL_law_911 ?_
  refine va_sld hx hb hX hbl hbA hS (sx_in 1 (by decide) (by decide) h0i h8i hL) dL_law_912 ?_
  refine lv_aload_n hx hb dL_law_913 rfl (lv_at hl 4 rfl) ?_
  refine lv_iload hx hb dL_law_914 (lv_at hl 0 rfl) ?_
  refine lv_iconst (v := 2) hx hb dL_law_916 (by decide) ?_
  refine lv_iadd hx hb dL_law_917 ?_
  refine va_sld hx hb hX hbl hbA hS (sx_in 2 (by decide) (by decide) h0i h8i hL) dL_law_918 ?_
  refine lv_aload_n hx hb dL_law_919 rfl (lv_at hl 4 rfl) ?_
  refine lv_iload hx hb dL_law_920 (lv_at hl 0 rfl) ?_
  refine lv_iconst (v := 3) hx hb dL_law_922 (by decide) ?_
  refine lv_iadd hx hb dL_law_923 ?_
  refine va_sld hx hb hX hbl hbA hS (sx_in 3 (by decide) (by decide) h0i h8i hL) dL_law_924 ?_
  refine lv_aload_n hx hb dL_law_925 rfl (lv_at hl 4 rfl) ?_
  refine lv_iload hx hb dL_law_926 (lv_at hl 0 rfl) ?_
  refine lv_iconst (v := 4) hx hb dL_law_928 (by decide) ?_
  refine lv_iadd hx hb dL_law_929 ?_
  refine va_sld hx hb hX hbl hbA hS (sx_in 4 (by decide) (by decide) h0i h8i hL) dL_law_930 ?_
  obtain ⟨fs_1, hc_2⟩ := (hXO).cell
  refine go_iW (wc := wx) (wr := wm ++ [(o0, .inl (cL, 1, .inr (.inl og)))]) hP hD hS hA (pm (fun a9 => by simp only [cn_cons, cn_app, cn_nil] <;> omega)) (va_runV (As := [.int (xs (Int32.toNatClampNeg (i + 1))), .int (xs (Int32.toNatClampNeg (i + 2))), .int (xs (Int32.toNatClampNeg (i + 3))), .int (xs (Int32.toNatClampNeg (i + 4)))]) (rest := []) ⟨hx, hb, hml, hown, hts⟩ (TX_lead l D H.size cI cM cB xh z wx hXO (xs (Int32.toNatClampNeg (i + 1))) (xs (Int32.toNatClampNeg (i + 2))) (xs (Int32.toNatClampNeg (i + 3))) (xs (Int32.toNatClampNeg (i + 4)))) (cwV 4 hts gL_law_X8_lead rfl rfl rfl (by decide +kernel) ⟨Nat.le_of_ble_eq_true rfl, Nat.le_of_ble_eq_true rfl⟩) (st_preVW (wr := wm ++ [(o0, .inl (cL, 1, .inr (.inl og)))]) (ci := 7) (q0 := 0) hP (pm (fun a9 => by simp only [cn_cons, cn_app, cn_nil] <;> omega)) hD hK hNW [0, 1, 2] rfl rfl rfl hc_2) rfl rfl hl.1 rfl (lv_room (Nat.le_of_ble_eq_true rfl)) dL_law_931 ⟨(by show cells + 0 ≤ 601024; omega), (by show slots + 0 ≤ 7293034; omega)⟩) (fun r_5 z_3 H locs hw_4 hP hD hS => ?_)
  obtain ⟨hst_7, ho_6⟩ := hw_4
  have hP : va_P D vwCl (z_3 ++ (wm ++ [(o0, .inl (cL, 1, .inr (.inl og)))])) H := hP.perm (pm (fun a9 => by simp only [cn_cons, cn_app, cn_nil] <;> omega))
  have hD : va_D A (z_3 ++ (wm ++ [(o0, .inl (cL, 1, .inr (.inl og)))])) := hD.perm (pm (fun a9 => by simp only [cn_cons, cn_app, cn_nil] <;> omega))
  refine lv_pop hx hb dL_law_934 rfl ?_
  refine lv_aload_n hx hb dL_law_935 rfl (lv_at hl 2 rfl) ?_
  refine lv_aload_n hx hb dL_law_936 rfl (lv_at hl 4 rfl) ?_
  refine lv_iload hx hb dL_law_937 (lv_at hl 0 rfl) ?_
  refine lv_iconst (v := 1) hx hb dL_law_939 (by decide) ?_
  refine lv_iadd hx hb dL_law_940 ?_
  refine va_sld hx hb hX hbl hbA hS (sx_in 1 (by decide) (by decide) h0i h8i hL) dL_law_941 ?_
  refine lv_aload_n hx hb dL_law_942 rfl (lv_at hl 4 rfl) ?_
  refine lv_iload hx hb dL_law_943 (lv_at hl 0 rfl) ?_
  refine lv_iconst (v := 2) hx hb dL_law_945 (by decide) ?_
  refine lv_iadd hx hb dL_law_946 ?_
  refine va_sld hx hb hX hbl hbA hS (sx_in 2 (by decide) (by decide) h0i h8i hL) dL_law_947 ?_
  refine lv_aload_n hx hb dL_law_948 rfl (lv_at hl 4 rfl) ?_
  refine lv_iload hx hb dL_law_949 (lv_at hl 0 rfl) ?_
  refine lv_iconst (v := 3) hx hb dL_law_951 (by decide) ?_
  refine lv_iadd hx hb dL_law_952 ?_
  refine va_sld hx hb hX hbl hbA hS (sx_in 3 (by decide) (by decide) h0i h8i hL) dL_law_953 ?_
  refine lv_aload_n hx hb dL_law_954 rfl (lv_at hl 4 rfl) ?_
  refine lv_iload hx hb dL_law_955 (lv_at hl 0 rfl) ?_
  refine lv_iconst (v := 4) hx hb dL_law_957 (by decide) ?_
  refine lv_iadd hx hb dL_law_958 ?_
  refine va_sld hx hb hX hbl hbA hS (sx_in 4 (by decide) (by decide) h0i h8i hL) dL_law_959 ?_
  obtain ⟨fs_8, hc_9⟩ := (hMO).cell
  refine go_iW (wc := wm) (wr := z_3 ++ [(o0, .inl (cL, 1, .inr (.inl og)))]) hP hD hS hA (pm (fun a9 => by simp only [cn_cons, cn_app, cn_nil] <;> omega)) (va_runV (As := [.int (xs (Int32.toNatClampNeg (i + 1))), .int (xs (Int32.toNatClampNeg (i + 2))), .int (xs (Int32.toNatClampNeg (i + 3))), .int (xs (Int32.toNatClampNeg (i + 4)))]) (rest := []) ⟨hx, hb, hml, hown, hts⟩ (TM_lead l D H.size cI mh z wm hMO (xs (Int32.toNatClampNeg (i + 1))) (xs (Int32.toNatClampNeg (i + 2))) (xs (Int32.toNatClampNeg (i + 3))) (xs (Int32.toNatClampNeg (i + 4)))) (cwV 4 hts gL_law_X9_lead rfl rfl rfl (by decide +kernel) ⟨Nat.le_of_ble_eq_true rfl, Nat.le_of_ble_eq_true rfl⟩) (st_preVW (wr := z_3 ++ [(o0, .inl (cL, 1, .inr (.inl og)))]) (ci := 8) (q0 := 0) hP (pm (fun a9 => by simp only [cn_cons, cn_app, cn_nil] <;> omega)) hD hK hNW [0] rfl rfl rfl hc_9) rfl rfl hl.1 rfl (lv_room (Nat.le_of_ble_eq_true rfl)) dL_law_960 ⟨(by show cells + 0 ≤ 601024; omega), (by show slots + 0 ≤ 7293034; omega)⟩) (fun r_12 z_10 H locs hw_11 hP hD hS => ?_)
  obtain ⟨hst_14, ho_13⟩ := hw_11
  have hP : va_P D vwCl (z_3 ++ (z_10 ++ [(o0, .inl (cL, 1, .inr (.inl og)))])) H := hP.perm (pm (fun a9 => by simp only [cn_cons, cn_app, cn_nil] <;> omega))
  have hD : va_D A (z_3 ++ (z_10 ++ [(o0, .inl (cL, 1, .inr (.inl og)))])) := hD.perm (pm (fun a9 => by simp only [cn_cons, cn_app, cn_nil] <;> omega))
  refine lv_pop hx hb dL_law_963 rfl ?_
  refine lv_goto (tgt := 1165) hx hb dL_law_964 (by decide) ?_
  exact hE ((fld z (xs (Int32.toNatClampNeg (i + 1))) (xs (Int32.toNatClampNeg (i + 2))) (xs (Int32.toNatClampNeg (i + 3))) (xs (Int32.toNatClampNeg (i + 4)))).2) z_3 z_10 og _ _ _ _ _ (by show cells + 0 ≤ cells + 20; omega) (by show slots + 0 ≤ slots + 200; omega) ho_6 ho_13 hP hD hS (lv_sub hl [0, 1, 2, 3, 4] rfl)

set_option maxHeartbeats 4000000 in
set_option maxRecDepth 100000 in
theorem law_c20 {p : Program} {e : Env} {s : State} {m : MethodId} {below : List Frame} {meth : Method} {c : Code} (l : Launch) {b L : Nat} {xs : Nat → Int32} (D : va_G) (A : Nat → Prop) (hx : p.tables.exec = Jvm.exec) (hb : c.code = cL_law) (hr : meth.sig.returnType = ret) (hts : ∀ w ∈ wsL_law, w.before #[Value.ref b] s = true) (hown : s.vm.findClass RL = some m.cls) (hml : c.maxLocals = 7) (hlocks : meth.locks = false) (hA : ∀ q, s.heap.size ≤ q → A q) (hAq : ∀ q, A q → s.heap.size ≤ q) (hbA : ¬ A b) (hX : va_X b L xs s s.heap) (hbl : b < s.heap.size) (hNW : NW s) (hl9 : l.stackTraces = false) (hTW : TW s) (hZ : ZZ A s s.heap) (hL : L ≤ 4096) (cI cM cB cL : ClassId) (xh mh o0 : Nat) (hK : va_K D vwCl [(cI, .int), (cM, .object "OneHandset$Make"), (cB, .object "OneHandset$Box"), (cL, .long)] s) (i : Int32) (h0i : 0 ≤ i.toInt) (h8i : i.toInt + 8 ≤ L) (z : ZT) (wx wm : va_W) (og : Nat → Int64) (hXO : XOK cI cM cB xh z wx) (hMO : MOK cI mh z wm) (H : Heap) (locs : List Loc) (cells slots : Nat) (hP : va_P D vwCl (wx ++ (wm ++ [(o0, .inl (cL, 1, .inr (.inl og)))])) H) (hD : va_D A (wx ++ (wm ++ [(o0, .inl (cL, 1, .inr (.inl og)))]))) (hS : va_S A s.heap H locs) (hcl : cells + 100 ≤ 601024) (hsl : slots + 1000 ≤ 7293034) (ls : Array Slot) (hl : lv_has ls 7 [(4, .int i), (3, .ref o0), (2, .ref mh), (1, .ref xh), (0, .ref b)]) (hE : ∀ (z : ZT) (wx wm : va_W) (og : Nat → Int64) (H : Heap) (locs : List Loc) (ls : Array Slot) (cells2 slots2 : Nat), cells2 ≤ cells + 20 → slots2 ≤ slots + 200 → XOK cI cM cB xh z wx → MOK cI mh z wm → va_P D vwCl (wx ++ (wm ++ [(o0, .inl (cL, 1, .inr (.inl og)))])) H → va_D A (wx ++ (wm ++ [(o0, .inl (cL, 1, .inr (.inl og)))])) → va_S A s.heap H locs → lv_has ls 7 [(4, .int i), (3, .ref o0), (2, .ref mh), (1, .ref xh), (0, .ref b)] → W p l e room_1 s m #[Value.ref b] below meth c H locs cells2 slots2 (lw_Z below #[Value.ref b] s) (F0 m 1165 ls [])) : W p l e room_1 s m #[Value.ref b] below meth c H locs cells slots (lw_Z below #[Value.ref b] s) (F0 m 967 ls []) := by
  refine lv_aload_n hx hb dL_law_967 rfl (lv_at hl 3 rfl) ?_
  refine lv_aload_n hx hb dL_law_968 rfl (lv_at hl 4 rfl) ?_
  refine lv_iload hx hb dL_law_969 (lv_at hl 0 rfl) ?_
  refine lv_iconst (v := 1) hx hb dL_law_971 (by decide) ?_
  refine lv_iadd hx hb dL_law_972 ?_
  refine va_sld hx hb hX hbl hbA hS (sx_in 1 (by decide) (by decide) h0i h8i hL) dL_law_973 ?_
  refine lv_aload_n hx hb dL_law_974 rfl (lv_at hl 4 rfl) ?_
  refine lv_iload hx hb dL_law_975 (lv_at hl 0 rfl) ?_
  refine lv_iconst (v := 2) hx hb dL_law_977 (by decide) ?_
  refine lv_iadd hx hb dL_law_978 ?_
  refine va_sld hx hb hX hbl hbA hS (sx_in 2 (by decide) (by decide) h0i h8i hL) dL_law_979 ?_
  obtain ⟨fs_1, hc_2⟩ := (hXO).cell
  refine go_iW (wc := wx) (wr := wm ++ [(o0, .inl (cL, 1, .inr (.inl og)))]) hP hD hS hA (pm (fun a9 => by simp only [cn_cons, cn_app, cn_nil] <;> omega)) (va_runV (As := [.int (xs (Int32.toNatClampNeg (i + 1))), .int (xs (Int32.toNatClampNeg (i + 2)))]) (rest := []) ⟨hx, hb, hml, hown, hts⟩ (TX_maybe l D H.size cI cM cB xh z wx hXO (xs (Int32.toNatClampNeg (i + 1))) (xs (Int32.toNatClampNeg (i + 2)))) (cwV 2 hts gL_law_X8_maybe rfl rfl rfl (by decide +kernel) ⟨Nat.le_of_ble_eq_true rfl, Nat.le_of_ble_eq_true rfl⟩) (st_preVW (wr := wm ++ [(o0, .inl (cL, 1, .inr (.inl og)))]) (ci := 7) (q0 := 0) hP (pm (fun a9 => by simp only [cn_cons, cn_app, cn_nil] <;> omega)) hD hK hNW [0, 1, 2] rfl rfl rfl hc_2) rfl rfl hl.1 rfl (lv_room (Nat.le_of_ble_eq_true rfl)) dL_law_980 ⟨(by show cells + 0 ≤ 601024; omega), (by show slots + 0 ≤ 7293034; omega)⟩) (fun r_5 z_3 H locs hw_4 hP hD hS => ?_)
  obtain ⟨hst_7, ho_6⟩ := hw_4
  have hP : va_P D vwCl (z_3 ++ (wm ++ [(o0, .inl (cL, 1, .inr (.inl og)))])) H := hP.perm (pm (fun a9 => by simp only [cn_cons, cn_app, cn_nil] <;> omega))
  have hD : va_D A (z_3 ++ (wm ++ [(o0, .inl (cL, 1, .inr (.inl og)))])) := hD.perm (pm (fun a9 => by simp only [cn_cons, cn_app, cn_nil] <;> omega))
  refine lv_pop hx hb dL_law_983 rfl ?_
  refine lv_aload_n hx hb dL_law_984 rfl (lv_at hl 2 rfl) ?_
  refine lv_aload_n hx hb dL_law_985 rfl (lv_at hl 4 rfl) ?_
  refine lv_iload hx hb dL_law_986 (lv_at hl 0 rfl) ?_
  refine lv_iconst (v := 1) hx hb dL_law_988 (by decide) ?_
  refine lv_iadd hx hb dL_law_989 ?_
  refine va_sld hx hb hX hbl hbA hS (sx_in 1 (by decide) (by decide) h0i h8i hL) dL_law_990 ?_
  refine lv_aload_n hx hb dL_law_991 rfl (lv_at hl 4 rfl) ?_
  refine lv_iload hx hb dL_law_992 (lv_at hl 0 rfl) ?_
  refine lv_iconst (v := 2) hx hb dL_law_994 (by decide) ?_
  refine lv_iadd hx hb dL_law_995 ?_
  refine va_sld hx hb hX hbl hbA hS (sx_in 2 (by decide) (by decide) h0i h8i hL) dL_law_996 ?_
  obtain ⟨fs_8, hc_9⟩ := (hMO).cell
  refine go_iW (wc := wm) (wr := z_3 ++ [(o0, .inl (cL, 1, .inr (.inl og)))]) hP hD hS hA (pm (fun a9 => by simp only [cn_cons, cn_app, cn_nil] <;> omega)) (va_runV (As := [.int (xs (Int32.toNatClampNeg (i + 1))), .int (xs (Int32.toNatClampNeg (i + 2)))]) (rest := []) ⟨hx, hb, hml, hown, hts⟩ (TM_maybe l D H.size cI mh z wm hMO (xs (Int32.toNatClampNeg (i + 1))) (xs (Int32.toNatClampNeg (i + 2)))) (cwV 2 hts gL_law_X9_maybe rfl rfl rfl (by decide +kernel) ⟨Nat.le_of_ble_eq_true rfl, Nat.le_of_ble_eq_true rfl⟩) (st_preVW (wr := z_3 ++ [(o0, .inl (cL, 1, .inr (.inl og)))]) (ci := 8) (q0 := 0) hP (pm (fun a9 => by simp only [cn_cons, cn_app, cn_nil] <;> omega)) hD hK hNW [0] rfl rfl rfl hc_9) rfl rfl hl.1 rfl (lv_room (Nat.le_of_ble_eq_true rfl)) dL_law_997 ⟨(by show cells + 0 ≤ 601024; omega), (by show slots + 0 ≤ 7293034; omega)⟩) (fun r_12 z_10 H locs hw_11 hP hD hS => ?_)
  obtain ⟨hst_14, ho_13⟩ := hw_11
  have hP : va_P D vwCl (z_3 ++ (z_10 ++ [(o0, .inl (cL, 1, .inr (.inl og)))])) H := hP.perm (pm (fun a9 => by simp only [cn_cons, cn_app, cn_nil] <;> omega))
  have hD : va_D A (z_3 ++ (z_10 ++ [(o0, .inl (cL, 1, .inr (.inl og)))])) := hD.perm (pm (fun a9 => by simp only [cn_cons, cn_app, cn_nil] <;> omega))
  refine lv_pop hx hb dL_law_1000 rfl ?_
  refine lv_goto (tgt := 1165) hx hb dL_law_1001 (by decide) ?_
  exact hE ((fmy z (xs (Int32.toNatClampNeg (i + 1))) (xs (Int32.toNatClampNeg (i + 2)))).2) z_3 z_10 og _ _ _ _ _ (by show cells + 0 ≤ cells + 20; omega) (by show slots + 0 ≤ slots + 200; omega) ho_6 ho_13 hP hD hS (lv_sub hl [0, 1, 2, 3, 4] rfl)

set_option maxHeartbeats 4000000 in
set_option maxRecDepth 100000 in
theorem law_c21 {p : Program} {e : Env} {s : State} {m : MethodId} {below : List Frame} {meth : Method} {c : Code} (l : Launch) {b L : Nat} {xs : Nat → Int32} (D : va_G) (A : Nat → Prop) (hx : p.tables.exec = Jvm.exec) (hb : c.code = cL_law) (hr : meth.sig.returnType = ret) (hts : ∀ w ∈ wsL_law, w.before #[Value.ref b] s = true) (hown : s.vm.findClass RL = some m.cls) (hml : c.maxLocals = 7) (hlocks : meth.locks = false) (hA : ∀ q, s.heap.size ≤ q → A q) (hAq : ∀ q, A q → s.heap.size ≤ q) (hbA : ¬ A b) (hX : va_X b L xs s s.heap) (hbl : b < s.heap.size) (hNW : NW s) (hl9 : l.stackTraces = false) (hTW : TW s) (hZ : ZZ A s s.heap) (hL : L ≤ 4096) (cI cM cB cL : ClassId) (xh mh o0 : Nat) (hK : va_K D vwCl [(cI, .int), (cM, .object "OneHandset$Make"), (cB, .object "OneHandset$Box"), (cL, .long)] s) (i : Int32) (h0i : 0 ≤ i.toInt) (h8i : i.toInt + 8 ≤ L) (z : ZT) (wx wm : va_W) (og : Nat → Int64) (hXO : XOK cI cM cB xh z wx) (hMO : MOK cI mh z wm) (H : Heap) (locs : List Loc) (cells slots : Nat) (hP : va_P D vwCl (wx ++ (wm ++ [(o0, .inl (cL, 1, .inr (.inl og)))])) H) (hD : va_D A (wx ++ (wm ++ [(o0, .inl (cL, 1, .inr (.inl og)))]))) (hS : va_S A s.heap H locs) (hcl : cells + 100 ≤ 601024) (hsl : slots + 1000 ≤ 7293034) (ls : Array Slot) (hl : lv_has ls 7 [(4, .int i), (3, .ref o0), (2, .ref mh), (1, .ref xh), (0, .ref b)]) (hE : ∀ (z : ZT) (wx wm : va_W) (og : Nat → Int64) (H : Heap) (locs : List Loc) (ls : Array Slot) (cells2 slots2 : Nat), cells2 ≤ cells + 20 → slots2 ≤ slots + 200 → XOK cI cM cB xh z wx → MOK cI mh z wm → va_P D vwCl (wx ++ (wm ++ [(o0, .inl (cL, 1, .inr (.inl og)))])) H → va_D A (wx ++ (wm ++ [(o0, .inl (cL, 1, .inr (.inl og)))])) → va_S A s.heap H locs → lv_has ls 7 [(4, .int i), (3, .ref o0), (2, .ref mh), (1, .ref xh), (0, .ref b)] → W p l e room_1 s m #[Value.ref b] below meth c H locs cells2 slots2 (lw_Z below #[Value.ref b] s) (F0 m 1165 ls [])) : W p l e room_1 s m #[Value.ref b] below meth c H locs cells slots (lw_Z below #[Value.ref b] s) (F0 m 1004 ls []) := by
  refine lv_aload_n hx hb dL_law_1004 rfl (lv_at hl 3 rfl) ?_
  refine lv_aload_n hx hb dL_law_1005 rfl (lv_at hl 4 rfl) ?_
  refine lv_iload hx hb dL_law_1006 (lv_at hl 0 rfl) ?_
  refine lv_iconst (v := 1) hx hb dL_law_1008 (by decide) ?_
  refine lv_iadd hx hb dL_law_1009 ?_
  refine va_sld hx hb hX hbl hbA hS (sx_in 1 (by decide) (by decide) h0i h8i hL) dL_law_1010 ?_
  refine lv_aload_n hx hb dL_law_1011 rfl (lv_at hl 4 rfl) ?_
  refine lv_iload hx hb dL_law_1012 (lv_at hl 0 rfl) ?_
  refine lv_iconst (v := 2) hx hb dL_law_1014 (by decide) ?_
  refine lv_iadd hx hb dL_law_1015 ?_
  refine va_sld hx hb hX hbl hbA hS (sx_in 2 (by decide) (by decide) h0i h8i hL) dL_law_1016 ?_
  obtain ⟨fs_1, hc_2⟩ := (hXO).cell
  refine go_iW (wc := wx) (wr := wm ++ [(o0, .inl (cL, 1, .inr (.inl og)))]) hP hD hS hA (pm (fun a9 => by simp only [cn_cons, cn_app, cn_nil] <;> omega)) (va_runV (As := [.int (xs (Int32.toNatClampNeg (i + 1))), .int (xs (Int32.toNatClampNeg (i + 2)))]) (rest := []) ⟨hx, hb, hml, hown, hts⟩ (TX_push l D H.size cI cM cB xh z wx hXO (xs (Int32.toNatClampNeg (i + 1))) (xs (Int32.toNatClampNeg (i + 2)))) (cwV 2 hts gL_law_X8_push rfl rfl rfl (by decide +kernel) ⟨Nat.le_of_ble_eq_true rfl, Nat.le_of_ble_eq_true rfl⟩) (st_preVW (wr := wm ++ [(o0, .inl (cL, 1, .inr (.inl og)))]) (ci := 7) (q0 := 0) hP (pm (fun a9 => by simp only [cn_cons, cn_app, cn_nil] <;> omega)) hD hK hNW [0, 1, 2] rfl rfl rfl hc_2) rfl rfl hl.1 rfl (lv_room (Nat.le_of_ble_eq_true rfl)) dL_law_1017 ⟨(by show cells + 0 ≤ 601024; omega), (by show slots + 0 ≤ 7293034; omega)⟩) (fun r_5 z_3 H locs hw_4 hP hD hS => ?_)
  obtain ⟨hst_7, ho_6⟩ := hw_4
  have hP : va_P D vwCl (z_3 ++ (wm ++ [(o0, .inl (cL, 1, .inr (.inl og)))])) H := hP.perm (pm (fun a9 => by simp only [cn_cons, cn_app, cn_nil] <;> omega))
  have hD : va_D A (z_3 ++ (wm ++ [(o0, .inl (cL, 1, .inr (.inl og)))])) := hD.perm (pm (fun a9 => by simp only [cn_cons, cn_app, cn_nil] <;> omega))
  refine lv_pop hx hb dL_law_1020 rfl ?_
  refine lv_aload_n hx hb dL_law_1021 rfl (lv_at hl 2 rfl) ?_
  refine lv_aload_n hx hb dL_law_1022 rfl (lv_at hl 4 rfl) ?_
  refine lv_iload hx hb dL_law_1023 (lv_at hl 0 rfl) ?_
  refine lv_iconst (v := 1) hx hb dL_law_1025 (by decide) ?_
  refine lv_iadd hx hb dL_law_1026 ?_
  refine va_sld hx hb hX hbl hbA hS (sx_in 1 (by decide) (by decide) h0i h8i hL) dL_law_1027 ?_
  refine lv_aload_n hx hb dL_law_1028 rfl (lv_at hl 4 rfl) ?_
  refine lv_iload hx hb dL_law_1029 (lv_at hl 0 rfl) ?_
  refine lv_iconst (v := 2) hx hb dL_law_1031 (by decide) ?_
  refine lv_iadd hx hb dL_law_1032 ?_
  refine va_sld hx hb hX hbl hbA hS (sx_in 2 (by decide) (by decide) h0i h8i hL) dL_law_1033 ?_
  obtain ⟨fs_8, hc_9⟩ := (hMO).cell
  refine go_iW (wc := wm) (wr := z_3 ++ [(o0, .inl (cL, 1, .inr (.inl og)))]) hP hD hS hA (pm (fun a9 => by simp only [cn_cons, cn_app, cn_nil] <;> omega)) (va_runV (As := [.int (xs (Int32.toNatClampNeg (i + 1))), .int (xs (Int32.toNatClampNeg (i + 2)))]) (rest := []) ⟨hx, hb, hml, hown, hts⟩ (TM_push l D H.size cI mh z wm hMO (xs (Int32.toNatClampNeg (i + 1))) (xs (Int32.toNatClampNeg (i + 2)))) (cwV 2 hts gL_law_X9_push rfl rfl rfl (by decide +kernel) ⟨Nat.le_of_ble_eq_true rfl, Nat.le_of_ble_eq_true rfl⟩) (st_preVW (wr := z_3 ++ [(o0, .inl (cL, 1, .inr (.inl og)))]) (ci := 8) (q0 := 0) hP (pm (fun a9 => by simp only [cn_cons, cn_app, cn_nil] <;> omega)) hD hK hNW [0] rfl rfl rfl hc_9) rfl rfl hl.1 rfl (lv_room (Nat.le_of_ble_eq_true rfl)) dL_law_1034 ⟨(by show cells + 0 ≤ 601024; omega), (by show slots + 0 ≤ 7293034; omega)⟩) (fun r_12 z_10 H locs hw_11 hP hD hS => ?_)
  obtain ⟨hst_14, ho_13⟩ := hw_11
  have hP : va_P D vwCl (z_3 ++ (z_10 ++ [(o0, .inl (cL, 1, .inr (.inl og)))])) H := hP.perm (pm (fun a9 => by simp only [cn_cons, cn_app, cn_nil] <;> omega))
  have hD : va_D A (z_3 ++ (z_10 ++ [(o0, .inl (cL, 1, .inr (.inl og)))])) := hD.perm (pm (fun a9 => by simp only [cn_cons, cn_app, cn_nil] <;> omega))
  refine lv_pop hx hb dL_law_1037 rfl ?_
  refine lv_goto (tgt := 1165) hx hb dL_law_1038 (by decide) ?_
  exact hE ((fpu z (xs (Int32.toNatClampNeg (i + 1))) (xs (Int32.toNatClampNeg (i + 2)))).2) z_3 z_10 og _ _ _ _ _ (by show cells + 0 ≤ cells + 20; omega) (by show slots + 0 ≤ slots + 200; omega) ho_6 ho_13 hP hD hS (lv_sub hl [0, 1, 2, 3, 4] rfl)

set_option maxHeartbeats 4000000 in
set_option maxRecDepth 100000 in
theorem law_c22 {p : Program} {e : Env} {s : State} {m : MethodId} {below : List Frame} {meth : Method} {c : Code} (l : Launch) {b L : Nat} {xs : Nat → Int32} (D : va_G) (A : Nat → Prop) (hx : p.tables.exec = Jvm.exec) (hb : c.code = cL_law) (hr : meth.sig.returnType = ret) (hts : ∀ w ∈ wsL_law, w.before #[Value.ref b] s = true) (hown : s.vm.findClass RL = some m.cls) (hml : c.maxLocals = 7) (hlocks : meth.locks = false) (hA : ∀ q, s.heap.size ≤ q → A q) (hAq : ∀ q, A q → s.heap.size ≤ q) (hbA : ¬ A b) (hX : va_X b L xs s s.heap) (hbl : b < s.heap.size) (hNW : NW s) (hl9 : l.stackTraces = false) (hTW : TW s) (hZ : ZZ A s s.heap) (hL : L ≤ 4096) (cI cM cB cL : ClassId) (xh mh o0 : Nat) (hK : va_K D vwCl [(cI, .int), (cM, .object "OneHandset$Make"), (cB, .object "OneHandset$Box"), (cL, .long)] s) (i : Int32) (h0i : 0 ≤ i.toInt) (h8i : i.toInt + 8 ≤ L) (z : ZT) (wx wm : va_W) (og : Nat → Int64) (hXO : XOK cI cM cB xh z wx) (hMO : MOK cI mh z wm) (H : Heap) (locs : List Loc) (cells slots : Nat) (hP : va_P D vwCl (wx ++ (wm ++ [(o0, .inl (cL, 1, .inr (.inl og)))])) H) (hD : va_D A (wx ++ (wm ++ [(o0, .inl (cL, 1, .inr (.inl og)))]))) (hS : va_S A s.heap H locs) (hcl : cells + 100 ≤ 601024) (hsl : slots + 1000 ≤ 7293034) (ls : Array Slot) (hl : lv_has ls 7 [(4, .int i), (3, .ref o0), (2, .ref mh), (1, .ref xh), (0, .ref b)]) (hE : ∀ (z : ZT) (wx wm : va_W) (og : Nat → Int64) (H : Heap) (locs : List Loc) (ls : Array Slot) (cells2 slots2 : Nat), cells2 ≤ cells + 20 → slots2 ≤ slots + 200 → XOK cI cM cB xh z wx → MOK cI mh z wm → va_P D vwCl (wx ++ (wm ++ [(o0, .inl (cL, 1, .inr (.inl og)))])) H → va_D A (wx ++ (wm ++ [(o0, .inl (cL, 1, .inr (.inl og)))])) → va_S A s.heap H locs → lv_has ls 7 [(4, .int i), (3, .ref o0), (2, .ref mh), (1, .ref xh), (0, .ref b)] → W p l e room_1 s m #[Value.ref b] below meth c H locs cells2 slots2 (lw_Z below #[Value.ref b] s) (F0 m 1165 ls [])) : W p l e room_1 s m #[Value.ref b] below meth c H locs cells slots (lw_Z below #[Value.ref b] s) (F0 m 1041 ls []) := by
  refine lv_aload_n hx hb dL_law_1041 rfl (lv_at hl 3 rfl) ?_
  refine lv_aload_n hx hb dL_law_1042 rfl (lv_at hl 4 rfl) ?_
  refine lv_iload hx hb dL_law_1043 (lv_at hl 0 rfl) ?_
  refine lv_iconst (v := 1) hx hb dL_law_1045 (by decide) ?_
  refine lv_iadd hx hb dL_law_1046 ?_
  refine va_sld hx hb hX hbl hbA hS (sx_in 1 (by decide) (by decide) h0i h8i hL) dL_law_1047 ?_
  refine lv_aload_n hx hb dL_law_1048 rfl (lv_at hl 4 rfl) ?_
  refine lv_iload hx hb dL_law_1049 (lv_at hl 0 rfl) ?_
  refine lv_iconst (v := 2) hx hb dL_law_1051 (by decide) ?_
  refine lv_iadd hx hb dL_law_1052 ?_
  refine va_sld hx hb hX hbl hbA hS (sx_in 2 (by decide) (by decide) h0i h8i hL) dL_law_1053 ?_
  obtain ⟨fs_1, hc_2⟩ := (hXO).cell
  refine go_iW (wc := wx) (wr := wm ++ [(o0, .inl (cL, 1, .inr (.inl og)))]) hP hD hS hA (pm (fun a9 => by simp only [cn_cons, cn_app, cn_nil] <;> omega)) (va_runV (As := [.int (xs (Int32.toNatClampNeg (i + 1))), .int (xs (Int32.toNatClampNeg (i + 2)))]) (rest := []) ⟨hx, hb, hml, hown, hts⟩ (TX_way l D H.size cI cM cB xh z wx hXO (xs (Int32.toNatClampNeg (i + 1))) (xs (Int32.toNatClampNeg (i + 2)))) (cwV 2 hts gL_law_X8_way rfl rfl rfl (by decide +kernel) ⟨Nat.le_of_ble_eq_true rfl, Nat.le_of_ble_eq_true rfl⟩) (st_preVW (wr := wm ++ [(o0, .inl (cL, 1, .inr (.inl og)))]) (ci := 7) (q0 := 0) hP (pm (fun a9 => by simp only [cn_cons, cn_app, cn_nil] <;> omega)) hD hK hNW [0, 1, 2] rfl rfl rfl hc_2) rfl rfl hl.1 rfl (lv_room (Nat.le_of_ble_eq_true rfl)) dL_law_1054 ⟨(by show cells + 0 ≤ 601024; omega), (by show slots + 0 ≤ 7293034; omega)⟩) (fun r_5 z_3 H locs hw_4 hP hD hS => ?_)
  obtain ⟨hst_7, ho_6⟩ := hw_4
  have hP : va_P D vwCl (z_3 ++ (wm ++ [(o0, .inl (cL, 1, .inr (.inl og)))])) H := hP.perm (pm (fun a9 => by simp only [cn_cons, cn_app, cn_nil] <;> omega))
  have hD : va_D A (z_3 ++ (wm ++ [(o0, .inl (cL, 1, .inr (.inl og)))])) := hD.perm (pm (fun a9 => by simp only [cn_cons, cn_app, cn_nil] <;> omega))
  refine lv_pop hx hb dL_law_1057 rfl ?_
  refine lv_aload_n hx hb dL_law_1058 rfl (lv_at hl 2 rfl) ?_
  refine lv_aload_n hx hb dL_law_1059 rfl (lv_at hl 4 rfl) ?_
  refine lv_iload hx hb dL_law_1060 (lv_at hl 0 rfl) ?_
  refine lv_iconst (v := 1) hx hb dL_law_1062 (by decide) ?_
  refine lv_iadd hx hb dL_law_1063 ?_
  refine va_sld hx hb hX hbl hbA hS (sx_in 1 (by decide) (by decide) h0i h8i hL) dL_law_1064 ?_
  refine lv_aload_n hx hb dL_law_1065 rfl (lv_at hl 4 rfl) ?_
  refine lv_iload hx hb dL_law_1066 (lv_at hl 0 rfl) ?_
  refine lv_iconst (v := 2) hx hb dL_law_1068 (by decide) ?_
  refine lv_iadd hx hb dL_law_1069 ?_
  refine va_sld hx hb hX hbl hbA hS (sx_in 2 (by decide) (by decide) h0i h8i hL) dL_law_1070 ?_
  obtain ⟨fs_8, hc_9⟩ := (hMO).cell
  refine go_iW (wc := wm) (wr := z_3 ++ [(o0, .inl (cL, 1, .inr (.inl og)))]) hP hD hS hA (pm (fun a9 => by simp only [cn_cons, cn_app, cn_nil] <;> omega)) (va_runV (As := [.int (xs (Int32.toNatClampNeg (i + 1))), .int (xs (Int32.toNatClampNeg (i + 2)))]) (rest := []) ⟨hx, hb, hml, hown, hts⟩ (TM_way l D H.size cI mh z wm hMO (xs (Int32.toNatClampNeg (i + 1))) (xs (Int32.toNatClampNeg (i + 2)))) (cwV 2 hts gL_law_X9_way rfl rfl rfl (by decide +kernel) ⟨Nat.le_of_ble_eq_true rfl, Nat.le_of_ble_eq_true rfl⟩) (st_preVW (wr := z_3 ++ [(o0, .inl (cL, 1, .inr (.inl og)))]) (ci := 8) (q0 := 0) hP (pm (fun a9 => by simp only [cn_cons, cn_app, cn_nil] <;> omega)) hD hK hNW [0] rfl rfl rfl hc_9) rfl rfl hl.1 rfl (lv_room (Nat.le_of_ble_eq_true rfl)) dL_law_1071 ⟨(by show cells + 0 ≤ 601024; omega), (by show slots + 0 ≤ 7293034; omega)⟩) (fun r_12 z_10 H locs hw_11 hP hD hS => ?_)
  obtain ⟨hst_14, ho_13⟩ := hw_11
  have hP : va_P D vwCl (z_3 ++ (z_10 ++ [(o0, .inl (cL, 1, .inr (.inl og)))])) H := hP.perm (pm (fun a9 => by simp only [cn_cons, cn_app, cn_nil] <;> omega))
  have hD : va_D A (z_3 ++ (z_10 ++ [(o0, .inl (cL, 1, .inr (.inl og)))])) := hD.perm (pm (fun a9 => by simp only [cn_cons, cn_app, cn_nil] <;> omega))
  refine lv_pop hx hb dL_law_1074 rfl ?_
  refine lv_goto (tgt := 1165) hx hb dL_law_1075 (by decide) ?_
  exact hE ((fwy z (xs (Int32.toNatClampNeg (i + 1))) (xs (Int32.toNatClampNeg (i + 2)))).2) z_3 z_10 og _ _ _ _ _ (by show cells + 0 ≤ cells + 20; omega) (by show slots + 0 ≤ slots + 200; omega) ho_6 ho_13 hP hD hS (lv_sub hl [0, 1, 2, 3, 4] rfl)

set_option maxHeartbeats 4000000 in
set_option maxRecDepth 100000 in
theorem law_c23 {p : Program} {e : Env} {s : State} {m : MethodId} {below : List Frame} {meth : Method} {c : Code} (l : Launch) {b L : Nat} {xs : Nat → Int32} (D : va_G) (A : Nat → Prop) (hx : p.tables.exec = Jvm.exec) (hb : c.code = cL_law) (hr : meth.sig.returnType = ret) (hts : ∀ w ∈ wsL_law, w.before #[Value.ref b] s = true) (hown : s.vm.findClass RL = some m.cls) (hml : c.maxLocals = 7) (hlocks : meth.locks = false) (hA : ∀ q, s.heap.size ≤ q → A q) (hAq : ∀ q, A q → s.heap.size ≤ q) (hbA : ¬ A b) (hX : va_X b L xs s s.heap) (hbl : b < s.heap.size) (hNW : NW s) (hl9 : l.stackTraces = false) (hTW : TW s) (hZ : ZZ A s s.heap) (hL : L ≤ 4096) (cI cM cB cL : ClassId) (xh mh o0 : Nat) (hK : va_K D vwCl [(cI, .int), (cM, .object "OneHandset$Make"), (cB, .object "OneHandset$Box"), (cL, .long)] s) (i : Int32) (h0i : 0 ≤ i.toInt) (h8i : i.toInt + 8 ≤ L) (z : ZT) (wx wm : va_W) (og : Nat → Int64) (hXO : XOK cI cM cB xh z wx) (hMO : MOK cI mh z wm) (H : Heap) (locs : List Loc) (cells slots : Nat) (hP : va_P D vwCl (wx ++ (wm ++ [(o0, .inl (cL, 1, .inr (.inl og)))])) H) (hD : va_D A (wx ++ (wm ++ [(o0, .inl (cL, 1, .inr (.inl og)))]))) (hS : va_S A s.heap H locs) (hcl : cells + 100 ≤ 601024) (hsl : slots + 1000 ≤ 7293034) (ls : Array Slot) (hl : lv_has ls 7 [(4, .int i), (3, .ref o0), (2, .ref mh), (1, .ref xh), (0, .ref b)]) (hE : ∀ (z : ZT) (wx wm : va_W) (og : Nat → Int64) (H : Heap) (locs : List Loc) (ls : Array Slot) (cells2 slots2 : Nat), cells2 ≤ cells + 20 → slots2 ≤ slots + 200 → XOK cI cM cB xh z wx → MOK cI mh z wm → va_P D vwCl (wx ++ (wm ++ [(o0, .inl (cL, 1, .inr (.inl og)))])) H → va_D A (wx ++ (wm ++ [(o0, .inl (cL, 1, .inr (.inl og)))])) → va_S A s.heap H locs → lv_has ls 7 [(4, .int i), (3, .ref o0), (2, .ref mh), (1, .ref xh), (0, .ref b)] → W p l e room_1 s m #[Value.ref b] below meth c H locs cells2 slots2 (lw_Z below #[Value.ref b] s) (F0 m 1165 ls [])) : W p l e room_1 s m #[Value.ref b] below meth c H locs cells slots (lw_Z below #[Value.ref b] s) (F0 m 1078 ls []) := by
  refine lv_aload_n hx hb dL_law_1078 rfl (lv_at hl 3 rfl) ?_
  refine lv_aload_n hx hb dL_law_1079 rfl (lv_at hl 4 rfl) ?_
  refine lv_iload hx hb dL_law_1080 (lv_at hl 0 rfl) ?_
  refine lv_iconst (v := 1) hx hb dL_law_1082 (by decide) ?_
  refine lv_iadd hx hb dL_law_1083 ?_
  refine va_sld hx hb hX hbl hbA hS (sx_in 1 (by decide) (by decide) h0i h8i hL) dL_law_1084 ?_
  obtain ⟨fs_1, hc_2⟩ := (hXO).cell
  refine go_iW (wc := wx) (wr := wm ++ [(o0, .inl (cL, 1, .inr (.inl og)))]) hP hD hS hA (pm (fun a9 => by simp only [cn_cons, cn_app, cn_nil] <;> omega)) (va_runV (As := [.int (xs (Int32.toNatClampNeg (i + 1)))]) (rest := []) ⟨hx, hb, hml, hown, hts⟩ (TX_button l D H.size cI cM cB xh z wx hXO (xs (Int32.toNatClampNeg (i + 1)))) (cwV 1 hts gL_law_X8_button rfl rfl rfl (by decide +kernel) ⟨Nat.le_of_ble_eq_true rfl, Nat.le_of_ble_eq_true rfl⟩) (st_preVW (wr := wm ++ [(o0, .inl (cL, 1, .inr (.inl og)))]) (ci := 7) (q0 := 0) hP (pm (fun a9 => by simp only [cn_cons, cn_app, cn_nil] <;> omega)) hD hK hNW [0, 1, 2] rfl rfl rfl hc_2) rfl rfl hl.1 rfl (lv_room (Nat.le_of_ble_eq_true rfl)) dL_law_1085 ⟨(by show cells + 0 ≤ 601024; omega), (by show slots + 0 ≤ 7293034; omega)⟩) (fun r_5 z_3 H locs hw_4 hP hD hS => ?_)
  obtain ⟨hst_7, ho_6⟩ := hw_4
  have hP : va_P D vwCl (z_3 ++ (wm ++ [(o0, .inl (cL, 1, .inr (.inl og)))])) H := hP.perm (pm (fun a9 => by simp only [cn_cons, cn_app, cn_nil] <;> omega))
  have hD : va_D A (z_3 ++ (wm ++ [(o0, .inl (cL, 1, .inr (.inl og)))])) := hD.perm (pm (fun a9 => by simp only [cn_cons, cn_app, cn_nil] <;> omega))
  refine lv_aload_n hx hb dL_law_1088 rfl (lv_at hl 2 rfl) ?_
  refine lv_aload_n hx hb dL_law_1089 rfl (lv_at hl 4 rfl) ?_
  refine lv_iload hx hb dL_law_1090 (lv_at hl 0 rfl) ?_
  refine lv_iconst (v := 1) hx hb dL_law_1092 (by decide) ?_
  refine lv_iadd hx hb dL_law_1093 ?_
  refine va_sld hx hb hX hbl hbA hS (sx_in 1 (by decide) (by decide) h0i h8i hL) dL_law_1094 ?_
  obtain ⟨fs_8, hc_9⟩ := (hMO).cell
  refine go_iW (wc := wm) (wr := z_3 ++ [(o0, .inl (cL, 1, .inr (.inl og)))]) hP hD hS hA (pm (fun a9 => by simp only [cn_cons, cn_app, cn_nil] <;> omega)) (va_runV (As := [.int (xs (Int32.toNatClampNeg (i + 1)))]) (rest := [.int r_5]) ⟨hx, hb, hml, hown, hts⟩ (TM_button l D H.size cI mh z wm hMO (xs (Int32.toNatClampNeg (i + 1)))) (cwV 1 hts gL_law_X9_button rfl rfl rfl (by decide +kernel) ⟨Nat.le_of_ble_eq_true rfl, Nat.le_of_ble_eq_true rfl⟩) (st_preVW (wr := z_3 ++ [(o0, .inl (cL, 1, .inr (.inl og)))]) (ci := 8) (q0 := 0) hP (pm (fun a9 => by simp only [cn_cons, cn_app, cn_nil] <;> omega)) hD hK hNW [0] rfl rfl rfl hc_9) rfl rfl hl.1 rfl (lv_room (Nat.le_of_ble_eq_true rfl)) dL_law_1095 ⟨(by show cells + 0 ≤ 601024; omega), (by show slots + 0 ≤ 7293034; omega)⟩) (fun r_12 z_10 H locs hw_11 hP hD hS => ?_)
  obtain ⟨hst_14, ho_13⟩ := hw_11
  have hP : va_P D vwCl (z_3 ++ (z_10 ++ [(o0, .inl (cL, 1, .inr (.inl og)))])) H := hP.perm (pm (fun a9 => by simp only [cn_cons, cn_app, cn_nil] <;> omega))
  have hD : va_D A (z_3 ++ (z_10 ++ [(o0, .inl (cL, 1, .inr (.inl og)))])) := hD.perm (pm (fun a9 => by simp only [cn_cons, cn_app, cn_nil] <;> omega))
  refine lv_icmp_eq (tgt := 1165) hx hb dL_law_1098 (by decide) (fun _ => ?_) (fun c_15 => absurd (hst_7.trans hst_14.symm) c_15)
  exact hE z z_3 z_10 og _ _ _ _ _ (by show cells + 0 ≤ cells + 20; omega) (by show slots + 0 ≤ slots + 200; omega) ho_6 ho_13 hP hD hS (lv_sub hl [0, 1, 2, 3, 4] rfl)

set_option maxHeartbeats 4000000 in
set_option maxRecDepth 100000 in
theorem law_c24 {p : Program} {e : Env} {s : State} {m : MethodId} {below : List Frame} {meth : Method} {c : Code} (l : Launch) {b L : Nat} {xs : Nat → Int32} (D : va_G) (A : Nat → Prop) (hx : p.tables.exec = Jvm.exec) (hb : c.code = cL_law) (hr : meth.sig.returnType = ret) (hts : ∀ w ∈ wsL_law, w.before #[Value.ref b] s = true) (hown : s.vm.findClass RL = some m.cls) (hml : c.maxLocals = 7) (hlocks : meth.locks = false) (hA : ∀ q, s.heap.size ≤ q → A q) (hAq : ∀ q, A q → s.heap.size ≤ q) (hbA : ¬ A b) (hX : va_X b L xs s s.heap) (hbl : b < s.heap.size) (hNW : NW s) (hl9 : l.stackTraces = false) (hTW : TW s) (hZ : ZZ A s s.heap) (hL : L ≤ 4096) (cI cM cB cL : ClassId) (xh mh o0 : Nat) (hK : va_K D vwCl [(cI, .int), (cM, .object "OneHandset$Make"), (cB, .object "OneHandset$Box"), (cL, .long)] s) (i : Int32) (h0i : 0 ≤ i.toInt) (h8i : i.toInt + 8 ≤ L) (z : ZT) (wx wm : va_W) (og : Nat → Int64) (hXO : XOK cI cM cB xh z wx) (hMO : MOK cI mh z wm) (H : Heap) (locs : List Loc) (cells slots : Nat) (hP : va_P D vwCl (wx ++ (wm ++ [(o0, .inl (cL, 1, .inr (.inl og)))])) H) (hD : va_D A (wx ++ (wm ++ [(o0, .inl (cL, 1, .inr (.inl og)))]))) (hS : va_S A s.heap H locs) (hcl : cells + 100 ≤ 601024) (hsl : slots + 1000 ≤ 7293034) (ls : Array Slot) (hl : lv_has ls 7 [(4, .int i), (3, .ref o0), (2, .ref mh), (1, .ref xh), (0, .ref b)]) (hE : ∀ (z : ZT) (wx wm : va_W) (og : Nat → Int64) (H : Heap) (locs : List Loc) (ls : Array Slot) (cells2 slots2 : Nat), cells2 ≤ cells + 20 → slots2 ≤ slots + 200 → XOK cI cM cB xh z wx → MOK cI mh z wm → va_P D vwCl (wx ++ (wm ++ [(o0, .inl (cL, 1, .inr (.inl og)))])) H → va_D A (wx ++ (wm ++ [(o0, .inl (cL, 1, .inr (.inl og)))])) → va_S A s.heap H locs → lv_has ls 7 [(4, .int i), (3, .ref o0), (2, .ref mh), (1, .ref xh), (0, .ref b)] → W p l e room_1 s m #[Value.ref b] below meth c H locs cells2 slots2 (lw_Z below #[Value.ref b] s) (F0 m 1165 ls [])) : W p l e room_1 s m #[Value.ref b] below meth c H locs cells slots (lw_Z below #[Value.ref b] s) (F0 m 1103 ls []) := by
  refine lv_aload_n hx hb dL_law_1103 rfl (lv_at hl 3 rfl) ?_
  refine lv_aload_n hx hb dL_law_1104 rfl (lv_at hl 4 rfl) ?_
  refine lv_iload hx hb dL_law_1105 (lv_at hl 0 rfl) ?_
  refine lv_iconst (v := 1) hx hb dL_law_1107 (by decide) ?_
  refine lv_iadd hx hb dL_law_1108 ?_
  refine va_sld hx hb hX hbl hbA hS (sx_in 1 (by decide) (by decide) h0i h8i hL) dL_law_1109 ?_
  refine lv_aload_n hx hb dL_law_1110 rfl (lv_at hl 4 rfl) ?_
  refine lv_iload hx hb dL_law_1111 (lv_at hl 0 rfl) ?_
  refine lv_iconst (v := 2) hx hb dL_law_1113 (by decide) ?_
  refine lv_iadd hx hb dL_law_1114 ?_
  refine va_sld hx hb hX hbl hbA hS (sx_in 2 (by decide) (by decide) h0i h8i hL) dL_law_1115 ?_
  obtain ⟨fs_1, hc_2⟩ := (hXO).cell
  refine go_iW (wc := wx) (wr := wm ++ [(o0, .inl (cL, 1, .inr (.inl og)))]) hP hD hS hA (pm (fun a9 => by simp only [cn_cons, cn_app, cn_nil] <;> omega)) (va_runV (As := [.int (xs (Int32.toNatClampNeg (i + 1))), .int (xs (Int32.toNatClampNeg (i + 2)))]) (rest := []) ⟨hx, hb, hml, hown, hts⟩ (TX_told l D H.size cI cM cB xh z wx hXO (xs (Int32.toNatClampNeg (i + 1))) (xs (Int32.toNatClampNeg (i + 2)))) (cwV 2 hts gL_law_X8_told rfl rfl rfl (by decide +kernel) ⟨Nat.le_of_ble_eq_true rfl, Nat.le_of_ble_eq_true rfl⟩) (st_preVW (wr := wm ++ [(o0, .inl (cL, 1, .inr (.inl og)))]) (ci := 7) (q0 := 0) hP (pm (fun a9 => by simp only [cn_cons, cn_app, cn_nil] <;> omega)) hD hK hNW [0, 1, 2] rfl rfl rfl hc_2) rfl rfl hl.1 rfl (lv_room (Nat.le_of_ble_eq_true rfl)) dL_law_1116 ⟨(by show cells + 0 ≤ 601024; omega), (by show slots + 0 ≤ 7293034; omega)⟩) (fun r_5 z_3 H locs hw_4 hP hD hS => ?_)
  obtain ⟨hst_7, ho_6⟩ := hw_4
  have hP : va_P D vwCl (z_3 ++ (wm ++ [(o0, .inl (cL, 1, .inr (.inl og)))])) H := hP.perm (pm (fun a9 => by simp only [cn_cons, cn_app, cn_nil] <;> omega))
  have hD : va_D A (z_3 ++ (wm ++ [(o0, .inl (cL, 1, .inr (.inl og)))])) := hD.perm (pm (fun a9 => by simp only [cn_cons, cn_app, cn_nil] <;> omega))
  refine lv_pop hx hb dL_law_1119 rfl ?_
  refine lv_aload_n hx hb dL_law_1120 rfl (lv_at hl 2 rfl) ?_
  refine lv_aload_n hx hb dL_law_1121 rfl (lv_at hl 4 rfl) ?_
  refine lv_iload hx hb dL_law_1122 (lv_at hl 0 rfl) ?_
  refine lv_iconst (v := 1) hx hb dL_law_1124 (by decide) ?_
  refine lv_iadd hx hb dL_law_1125 ?_
  refine va_sld hx hb hX hbl hbA hS (sx_in 1 (by decide) (by decide) h0i h8i hL) dL_law_1126 ?_
  refine lv_aload_n hx hb dL_law_1127 rfl (lv_at hl 4 rfl) ?_
  refine lv_iload hx hb dL_law_1128 (lv_at hl 0 rfl) ?_
  refine lv_iconst (v := 2) hx hb dL_law_1130 (by decide) ?_
  refine lv_iadd hx hb dL_law_1131 ?_
  refine va_sld hx hb hX hbl hbA hS (sx_in 2 (by decide) (by decide) h0i h8i hL) dL_law_1132 ?_
  obtain ⟨fs_8, hc_9⟩ := (hMO).cell
  refine go_iW (wc := wm) (wr := z_3 ++ [(o0, .inl (cL, 1, .inr (.inl og)))]) hP hD hS hA (pm (fun a9 => by simp only [cn_cons, cn_app, cn_nil] <;> omega)) (va_runV (As := [.int (xs (Int32.toNatClampNeg (i + 1))), .int (xs (Int32.toNatClampNeg (i + 2)))]) (rest := []) ⟨hx, hb, hml, hown, hts⟩ (TM_told l D H.size cI mh z wm hMO (xs (Int32.toNatClampNeg (i + 1))) (xs (Int32.toNatClampNeg (i + 2)))) (cwV 2 hts gL_law_X9_told rfl rfl rfl (by decide +kernel) ⟨Nat.le_of_ble_eq_true rfl, Nat.le_of_ble_eq_true rfl⟩) (st_preVW (wr := z_3 ++ [(o0, .inl (cL, 1, .inr (.inl og)))]) (ci := 8) (q0 := 0) hP (pm (fun a9 => by simp only [cn_cons, cn_app, cn_nil] <;> omega)) hD hK hNW [0] rfl rfl rfl hc_9) rfl rfl hl.1 rfl (lv_room (Nat.le_of_ble_eq_true rfl)) dL_law_1133 ⟨(by show cells + 0 ≤ 601024; omega), (by show slots + 0 ≤ 7293034; omega)⟩) (fun r_12 z_10 H locs hw_11 hP hD hS => ?_)
  obtain ⟨hst_14, ho_13⟩ := hw_11
  have hP : va_P D vwCl (z_3 ++ (z_10 ++ [(o0, .inl (cL, 1, .inr (.inl og)))])) H := hP.perm (pm (fun a9 => by simp only [cn_cons, cn_app, cn_nil] <;> omega))
  have hD : va_D A (z_3 ++ (z_10 ++ [(o0, .inl (cL, 1, .inr (.inl og)))])) := hD.perm (pm (fun a9 => by simp only [cn_cons, cn_app, cn_nil] <;> omega))
  refine lv_pop hx hb dL_law_1136 rfl ?_
  refine lv_goto (tgt := 1165) hx hb dL_law_1137 (by decide) ?_
  exact hE z z_3 z_10 og _ _ _ _ _ (by show cells + 0 ≤ cells + 20; omega) (by show slots + 0 ≤ slots + 200; omega) ho_6 ho_13 hP hD hS (lv_sub hl [0, 1, 2, 3, 4] rfl)

set_option maxHeartbeats 4000000 in
set_option maxRecDepth 100000 in
theorem law_c25 {p : Program} {e : Env} {s : State} {m : MethodId} {below : List Frame} {meth : Method} {c : Code} (l : Launch) {b L : Nat} {xs : Nat → Int32} (D : va_G) (A : Nat → Prop) (hx : p.tables.exec = Jvm.exec) (hb : c.code = cL_law) (hr : meth.sig.returnType = ret) (hts : ∀ w ∈ wsL_law, w.before #[Value.ref b] s = true) (hown : s.vm.findClass RL = some m.cls) (hml : c.maxLocals = 7) (hlocks : meth.locks = false) (hA : ∀ q, s.heap.size ≤ q → A q) (hAq : ∀ q, A q → s.heap.size ≤ q) (hbA : ¬ A b) (hX : va_X b L xs s s.heap) (hbl : b < s.heap.size) (hNW : NW s) (hl9 : l.stackTraces = false) (hTW : TW s) (hZ : ZZ A s s.heap) (hL : L ≤ 4096) (cI cM cB cL : ClassId) (xh mh o0 : Nat) (hK : va_K D vwCl [(cI, .int), (cM, .object "OneHandset$Make"), (cB, .object "OneHandset$Box"), (cL, .long)] s) (i : Int32) (h0i : 0 ≤ i.toInt) (h8i : i.toInt + 8 ≤ L) (z : ZT) (wx wm : va_W) (og : Nat → Int64) (hXO : XOK cI cM cB xh z wx) (hMO : MOK cI mh z wm) (H : Heap) (locs : List Loc) (cells slots : Nat) (hP : va_P D vwCl (wx ++ (wm ++ [(o0, .inl (cL, 1, .inr (.inl og)))])) H) (hD : va_D A (wx ++ (wm ++ [(o0, .inl (cL, 1, .inr (.inl og)))]))) (hS : va_S A s.heap H locs) (hcl : cells + 100 ≤ 601024) (hsl : slots + 1000 ≤ 7293034) (ls : Array Slot) (hl : lv_has ls 7 [(4, .int i), (3, .ref o0), (2, .ref mh), (1, .ref xh), (0, .ref b)]) (hE : ∀ (z : ZT) (wx wm : va_W) (og : Nat → Int64) (H : Heap) (locs : List Loc) (ls : Array Slot) (cells2 slots2 : Nat), cells2 ≤ cells + 20 → slots2 ≤ slots + 200 → XOK cI cM cB xh z wx → MOK cI mh z wm → va_P D vwCl (wx ++ (wm ++ [(o0, .inl (cL, 1, .inr (.inl og)))])) H → va_D A (wx ++ (wm ++ [(o0, .inl (cL, 1, .inr (.inl og)))])) → va_S A s.heap H locs → lv_has ls 7 [(4, .int i), (3, .ref o0), (2, .ref mh), (1, .ref xh), (0, .ref b)] → W p l e room_1 s m #[Value.ref b] below meth c H locs cells2 slots2 (lw_Z below #[Value.ref b] s) (F0 m 1165 ls [])) : W p l e room_1 s m #[Value.ref b] below meth c H locs cells slots (lw_Z below #[Value.ref b] s) (F0 m 1140 ls []) := by
  refine lv_aload_n hx hb dL_law_1140 rfl (lv_at hl 3 rfl) ?_
  refine lv_aload_n hx hb dL_law_1141 rfl (lv_at hl 4 rfl) ?_
  refine lv_iload hx hb dL_law_1142 (lv_at hl 0 rfl) ?_
  refine lv_iconst (v := 1) hx hb dL_law_1144 (by decide) ?_
  refine lv_iadd hx hb dL_law_1145 ?_
  refine va_sld hx hb hX hbl hbA hS (sx_in 1 (by decide) (by decide) h0i h8i hL) dL_law_1146 ?_
  obtain ⟨fs_1, hc_2⟩ := (hXO).cell
  refine go_iW (wc := wx) (wr := wm ++ [(o0, .inl (cL, 1, .inr (.inl og)))]) hP hD hS hA (pm (fun a9 => by simp only [cn_cons, cn_app, cn_nil] <;> omega)) (va_runV (As := [.int (xs (Int32.toNatClampNeg (i + 1)))]) (rest := []) ⟨hx, hb, hml, hown, hts⟩ (TX_count l D H.size cI cM cB xh z wx hXO (xs (Int32.toNatClampNeg (i + 1)))) (cwV 1 hts gL_law_X8_count rfl rfl rfl (by decide +kernel) ⟨Nat.le_of_ble_eq_true rfl, Nat.le_of_ble_eq_true rfl⟩) (st_preVW (wr := wm ++ [(o0, .inl (cL, 1, .inr (.inl og)))]) (ci := 7) (q0 := 0) hP (pm (fun a9 => by simp only [cn_cons, cn_app, cn_nil] <;> omega)) hD hK hNW [0, 1, 2] rfl rfl rfl hc_2) rfl rfl hl.1 rfl (lv_room (Nat.le_of_ble_eq_true rfl)) dL_law_1147 ⟨(by show cells + 0 ≤ 601024; omega), (by show slots + 0 ≤ 7293034; omega)⟩) (fun r_5 z_3 H locs hw_4 hP hD hS => ?_)
  have hP : va_P D vwCl (z_3 ++ (wm ++ [(o0, .inl (cL, 1, .inr (.inl og)))])) H := hP.perm (pm (fun a9 => by simp only [cn_cons, cn_app, cn_nil] <;> omega))
  have hD : va_D A (z_3 ++ (wm ++ [(o0, .inl (cL, 1, .inr (.inl og)))])) := hD.perm (pm (fun a9 => by simp only [cn_cons, cn_app, cn_nil] <;> omega))
  refine lv_pop hx hb dL_law_1150 rfl ?_
  refine lv_aload_n hx hb dL_law_1151 rfl (lv_at hl 2 rfl) ?_
  refine lv_aload_n hx hb dL_law_1152 rfl (lv_at hl 4 rfl) ?_
  refine lv_iload hx hb dL_law_1153 (lv_at hl 0 rfl) ?_
  refine lv_iconst (v := 1) hx hb dL_law_1155 (by decide) ?_
  refine lv_iadd hx hb dL_law_1156 ?_
  refine va_sld hx hb hX hbl hbA hS (sx_in 1 (by decide) (by decide) h0i h8i hL) dL_law_1157 ?_
  obtain ⟨fs_6, hc_7⟩ := (hMO).cell
  refine go_iW (wc := wm) (wr := z_3 ++ [(o0, .inl (cL, 1, .inr (.inl og)))]) hP hD hS hA (pm (fun a9 => by simp only [cn_cons, cn_app, cn_nil] <;> omega)) (va_runV (As := [.int (xs (Int32.toNatClampNeg (i + 1)))]) (rest := []) ⟨hx, hb, hml, hown, hts⟩ (TM_count l D H.size cI mh z wm hMO (xs (Int32.toNatClampNeg (i + 1)))) (cwV 1 hts gL_law_X9_count rfl rfl rfl (by decide +kernel) ⟨Nat.le_of_ble_eq_true rfl, Nat.le_of_ble_eq_true rfl⟩) (st_preVW (wr := z_3 ++ [(o0, .inl (cL, 1, .inr (.inl og)))]) (ci := 8) (q0 := 0) hP (pm (fun a9 => by simp only [cn_cons, cn_app, cn_nil] <;> omega)) hD hK hNW [0] rfl rfl rfl hc_7) rfl rfl hl.1 rfl (lv_room (Nat.le_of_ble_eq_true rfl)) dL_law_1158 ⟨(by show cells + 0 ≤ 601024; omega), (by show slots + 0 ≤ 7293034; omega)⟩) (fun r_10 z_8 H locs hw_9 hP hD hS => ?_)
  have hP : va_P D vwCl (z_3 ++ (z_8 ++ [(o0, .inl (cL, 1, .inr (.inl og)))])) H := hP.perm (pm (fun a9 => by simp only [cn_cons, cn_app, cn_nil] <;> omega))
  have hD : va_D A (z_3 ++ (z_8 ++ [(o0, .inl (cL, 1, .inr (.inl og)))])) := hD.perm (pm (fun a9 => by simp only [cn_cons, cn_app, cn_nil] <;> omega))
  refine lv_pop hx hb dL_law_1161 rfl ?_
  refine lv_goto (tgt := 1165) hx hb dL_law_1162 (by decide) ?_
  exact hE z z_3 z_8 og _ _ _ _ _ (by show cells + 0 ≤ cells + 20; omega) (by show slots + 0 ≤ slots + 200; omega) hw_4 hw_9 hP hD hS (lv_sub hl [0, 1, 2, 3, 4] rfl)

