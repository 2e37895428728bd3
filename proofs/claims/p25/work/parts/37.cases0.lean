set_option maxHeartbeats 4000000 in
set_option maxRecDepth 100000 in
theorem law_c0 {p : Program} {e : Env} {s : State} {m : MethodId} {below : List Frame} {meth : Method} {c : Code} (l : Launch) {b L : Nat} {xs : Nat → Int32} (D : va_G) (A : Nat → Prop) (hx : p.tables.exec = Jvm.exec) (hb : c.code = cL_law) (hr : meth.sig.returnType = ret) (hts : ∀ w ∈ wsL_law, w.before #[Value.ref b] s = true) (hown : s.vm.findClass RL = some m.cls) (hml : c.maxLocals = 7) (hlocks : meth.locks = false) (hA : ∀ q, s.heap.size ≤ q → A q) (hAq : ∀ q, A q → s.heap.size ≤ q) (hbA : ¬ A b) (hX : va_X b L xs s s.heap) (hbl : b < s.heap.size) (hNW : NW s) (hl9 : l.stackTraces = false) (hTW : TW s) (hZ : ZZ A s s.heap) (hL : L ≤ 4096) (cI cM cB cL : ClassId) (xh mh o0 : Nat) (hK : va_K D vwCl [(cI, .int), (cM, .object "OneHandset$Make"), (cB, .object "OneHandset$Box"), (cL, .long)] s) (i : Int32) (h0i : 0 ≤ i.toInt) (h8i : i.toInt + 8 ≤ L) (z : ZT) (wx wm : va_W) (og : Nat → Int64) (hXO : XOK cI cM cB xh z wx) (hMO : MOK cI mh z wm) (H : Heap) (locs : List Loc) (cells slots : Nat) (hP : va_P D vwCl (wx ++ (wm ++ [(o0, .inl (cL, 1, .inr (.inl og)))])) H) (hD : va_D A (wx ++ (wm ++ [(o0, .inl (cL, 1, .inr (.inl og)))]))) (hS : va_S A s.heap H locs) (hcl : cells + 100 ≤ 601024) (hsl : slots + 1000 ≤ 7293034) (ls : Array Slot) (hl : lv_has ls 7 [(4, .int i), (3, .ref o0), (2, .ref mh), (1, .ref xh), (0, .ref b)]) (hE : ∀ (z : ZT) (wx wm : va_W) (og : Nat → Int64) (H : Heap) (locs : List Loc) (ls : Array Slot) (cells2 slots2 : Nat), cells2 ≤ cells + 20 → slots2 ≤ slots + 200 → XOK cI cM cB xh z wx → MOK cI mh z wm → va_P D vwCl (wx ++ (wm ++ [(o0, .inl (cL, 1, .inr (.inl og)))])) H → va_D A (wx ++ (wm ++ [(o0, .inl (cL, 1, .inr (.inl og)))])) → va_S A s.heap H locs → lv_has ls 7 [(4, .int i), (3, .ref o0), (2, .ref mh), (1, .ref xh), (0, .ref b)] → W p l e room_1 s m #[Value.ref b] below meth c H locs cells2 slots2 (lw_Z below #[Value.ref b] s) (F0 m 1165 ls [])) : W p l e room_1 s m #[Value.ref b] below meth c H locs cells slots (lw_Z below #[Value.ref b] s) (F0 m 160 ls []) := by
  refine lv_aload_n hx hb dL_law_160 rfl (lv_at hl 3 rfl) ?_
  refine lv_aload_n hx hb dL_law_161 rfl (lv_at hl 4 rfl) ?_
  refine lv_iload hx hb dL_law_162 (lv_at hl 0 rfl) ?_
  refine lv_iconst (v := 1) hx hb dL_law_164 (by decide) ?_
  refine lv_iadd hx hb dL_law_165 ?_
  refine va_sld hx hb hX hbl hbA hS (sx_in 1 (by decide) (by decide) h0i h8i hL) dL_law_166 ?_
  refine lv_aload_n hx hb dL_law_167 rfl (lv_at hl 4 rfl) ?_
  refine lv_iload hx hb dL_law_168 (lv_at hl 0 rfl) ?_
  refine lv_iconst (v := 2) hx hb dL_law_170 (by decide) ?_
  refine lv_iadd hx hb dL_law_171 ?_
  refine va_sld hx hb hX hbl hbA hS (sx_in 2 (by decide) (by decide) h0i h8i hL) dL_law_172 ?_
  refine lv_aload_n hx hb dL_law_173 rfl (lv_at hl 4 rfl) ?_
  refine lv_iload hx hb dL_law_174 (lv_at hl 0 rfl) ?_
  refine lv_iconst (v := 3) hx hb dL_law_176 (by decide) ?_
  refine lv_iadd hx hb dL_law_177 ?_
  refine va_sld hx hb hX hbl hbA hS (sx_in 3 (by decide) (by decide) h0i h8i hL) dL_law_178 ?_
  refine lv_aload_n hx hb dL_law_179 rfl (lv_at hl 4 rfl) ?_
  refine lv_iload hx hb dL_law_180 (lv_at hl 0 rfl) ?_
  refine lv_iconst (v := 4) hx hb dL_law_182 (by decide) ?_
  refine lv_iadd hx hb dL_law_183 ?_
  refine va_sld hx hb hX hbl hbA hS (sx_in 4 (by decide) (by decide) h0i h8i hL) dL_law_184 ?_
  refine lv_aload_n hx hb dL_law_185 rfl (lv_at hl 4 rfl) ?_
  refine lv_iload hx hb dL_law_186 (lv_at hl 0 rfl) ?_
  refine lv_iconst (v := 5) hx hb dL_law_188 (by decide) ?_
  refine lv_iadd hx hb dL_law_189 ?_
  refine va_sld hx hb hX hbl hbA hS (sx_in 5 (by decide) (by decide) h0i h8i hL) dL_law_190 ?_
  refine lv_aload_n hx hb dL_law_191 rfl (lv_at hl 4 rfl) ?_
  refine lv_iload hx hb dL_law_192 (lv_at hl 0 rfl) ?_
  refine lv_bipush (v := 6) hx hb dL_law_194 (by decide) ?_
  refine lv_iadd hx hb dL_law_196 ?_
  refine va_sld hx hb hX hbl hbA hS (sx_in 6 (by decide) (by decide) h0i h8i hL) dL_law_197 ?_
  refine lv_aload_n hx hb dL_law_198 rfl (lv_at hl 4 rfl) ?_
  refine lv_iload hx hb dL_law_199 (lv_at hl 0 rfl) ?_
  refine lv_bipush (v := 7) hx hb dL_law_201 (by decide) ?_
  refine lv_iadd hx hb dL_law_203 ?_
  refine va_sld hx hb hX hbl hbA hS (sx_in 7 (by decide) (by decide) h0i h8i hL) dL_law_204 ?_
  obtain ⟨fs_1, hc_2⟩ := (hXO).cell
  refine go_iW (wc := wx) (wr := wm ++ [(o0, .inl (cL, 1, .inr (.inl og)))]) hP hD hS hA (pm (fun a9 => by simp only [cn_cons, cn_app, cn_nil] <;> omega)) (va_runV (As := [.int (xs (Int32.toNatClampNeg (i + 1))), .int (xs (Int32.toNatClampNeg (i + 2))), .int (xs (Int32.toNatClampNeg (i + 3))), .int (xs (Int32.toNatClampNeg (i + 4))), .int (xs (Int32.toNatClampNeg (i + 5))), .int (xs (Int32.toNatClampNeg (i + 6))), .int (xs (Int32.toNatClampNeg (i + 7)))]) (rest := []) ⟨hx, hb, hml, hown, hts⟩ (TX_make l D H.size cI cM cB xh z wx hXO (xs (Int32.toNatClampNeg (i + 1))) (xs (Int32.toNatClampNeg (i + 2))) (xs (Int32.toNatClampNeg (i + 3))) (xs (Int32.toNatClampNeg (i + 4))) (xs (Int32.toNatClampNeg (i + 5))) (xs (Int32.toNatClampNeg (i + 6))) (xs (Int32.toNatClampNeg (i + 7)))) (cwV 7 hts gL_law_X8_make rfl rfl rfl (by decide +kernel) ⟨Nat.le_of_ble_eq_true rfl, Nat.le_of_ble_eq_true rfl⟩) (st_preVW (wr := wm ++ [(o0, .inl (cL, 1, .inr (.inl og)))]) (ci := 7) (q0 := 0) hP (pm (fun a9 => by simp only [cn_cons, cn_app, cn_nil] <;> omega)) hD hK hNW [0, 1, 2] rfl rfl rfl hc_2) rfl rfl hl.1 rfl (lv_room (Nat.le_of_ble_eq_true rfl)) dL_law_205 ⟨(by show cells + 5 ≤ 601024; omega), (by show slots + 41 ≤ 7293034; omega)⟩) (fun r_5 z_3 H locs hw_4 hP hD hS => ?_)
  obtain ⟨hst_7, ho_6⟩ := hw_4
  have hP : va_P D vwCl (z_3 ++ (wm ++ [(o0, .inl (cL, 1, .inr (.inl og)))])) H := hP.perm (pm (fun a9 => by simp only [cn_cons, cn_app, cn_nil] <;> omega))
  have hD : va_D A (z_3 ++ (wm ++ [(o0, .inl (cL, 1, .inr (.inl og)))])) := hD.perm (pm (fun a9 => by simp only [cn_cons, cn_app, cn_nil] <;> omega))
  refine lv_pop hx hb dL_law_208 rfl ?_
  refine lv_aload_n hx hb dL_law_209 rfl (lv_at hl 2 rfl) ?_
  refine lv_aload_n hx hb dL_law_210 rfl (lv_at hl 4 rfl) ?_
  refine lv_iload hx hb dL_law_211 (lv_at hl 0 rfl) ?_
  refine lv_iconst (v := 1) hx hb dL_law_213 (by decide) ?_
  refine lv_iadd hx hb dL_law_214 ?_
  refine va_sld hx hb hX hbl hbA hS (sx_in 1 (by decide) (by decide) h0i h8i hL) dL_law_215 ?_
  refine lv_aload_n hx hb dL_law_216 rfl (lv_at hl 4 rfl) ?_
  refine lv_iload hx hb dL_law_217 (lv_at hl 0 rfl) ?_
  refine lv_iconst (v := 2) hx hb dL_law_219 (by decide) ?_
  refine lv_iadd hx hb dL_law_220 ?_
  refine va_sld hx hb hX hbl hbA hS (sx_in 2 (by decide) (by decide) h0i h8i hL) dL_law_221 ?_
  refine lv_aload_n hx hb dL_law_222 rfl (lv_at hl 4 rfl) ?_
  refine lv_iload hx hb dL_law_223 (lv_at hl 0 rfl) ?_
  refine lv_iconst (v := 3) hx hb dL_law_225 (by decide) ?_
  refine lv_iadd hx hb dL_law_226 ?_
  refine va_sld hx hb hX hbl hbA hS (sx_in 3 (by decide) (by decide) h0i h8i hL) dL_law_227 ?_
  refine lv_aload_n hx hb dL_law_228 rfl (lv_at hl 4 rfl) ?_
  refine lv_iload hx hb dL_law_229 (lv_at hl 0 rfl) ?_
  refine lv_iconst (v := 4) hx hb dL_law_231 (by decide) ?_
  refine lv_iadd hx hb dL_law_232 ?_
  refine va_sld hx hb hX hbl hbA hS (sx_in 4 (by decide) (by decide) h0i h8i hL) dL_law_233 ?_
  refine lv_aload_n hx hb dL_law_234 rfl (lv_at hl 4 rfl) ?_
  refine lv_iload hx hb dL_law_235 (lv_at hl 0 rfl) ?_
  refine lv_iconst (v := 5) hx hb dL_law_237 (by decide) ?_
  refine lv_iadd hx hb dL_law_238 ?_
  refine va_sld hx hb hX hbl hbA hS (sx_in 5 (by decide) (by decide) h0i h8i hL) dL_law_239 ?_
  refine lv_aload_n hx hb dL_law_240 rfl (lv_at hl 4 rfl) ?_
  refine lv_iload hx hb dL_law_241 (lv_at hl 0 rfl) ?_
  refine lv_bipush (v := 6) hx hb dL_law_243 (by decide) ?_
  refine lv_iadd hx hb dL_law_245 ?_
  refine va_sld hx hb hX hbl hbA hS (sx_in 6 (by decide) (by decide) h0i h8i hL) dL_law_246 ?_
  refine lv_aload_n hx hb dL_law_247 rfl (lv_at hl 4 rfl) ?_
  refine lv_iload hx hb dL_law_248 (lv_at hl 0 rfl) ?_
  refine lv_bipush (v := 7) hx hb dL_law_250 (by decide) ?_
  refine lv_iadd hx hb dL_law_252 ?_
  refine va_sld hx hb hX hbl hbA hS (sx_in 7 (by decide) (by decide) h0i h8i hL) dL_law_253 ?_
  obtain ⟨fs_8, hc_9⟩ := (hMO).cell
  refine go_iW (wc := wm) (wr := z_3 ++ [(o0, .inl (cL, 1, .inr (.inl og)))]) hP hD hS hA (pm (fun a9 => by simp only [cn_cons, cn_app, cn_nil] <;> omega)) (va_runV (As := [.int (xs (Int32.toNatClampNeg (i + 1))), .int (xs (Int32.toNatClampNeg (i + 2))), .int (xs (Int32.toNatClampNeg (i + 3))), .int (xs (Int32.toNatClampNeg (i + 4))), .int (xs (Int32.toNatClampNeg (i + 5))), .int (xs (Int32.toNatClampNeg (i + 6))), .int (xs (Int32.toNatClampNeg (i + 7)))]) (rest := []) ⟨hx, hb, hml, hown, hts⟩ (TM_make l D H.size cI mh z wm hMO (xs (Int32.toNatClampNeg (i + 1))) (xs (Int32.toNatClampNeg (i + 2))) (xs (Int32.toNatClampNeg (i + 3))) (xs (Int32.toNatClampNeg (i + 4))) (xs (Int32.toNatClampNeg (i + 5))) (xs (Int32.toNatClampNeg (i + 6))) (xs (Int32.toNatClampNeg (i + 7)))) (cwV 7 hts gL_law_X9_make rfl rfl rfl (by decide +kernel) ⟨Nat.le_of_ble_eq_true rfl, Nat.le_of_ble_eq_true rfl⟩) (st_preVW (wr := z_3 ++ [(o0, .inl (cL, 1, .inr (.inl og)))]) (ci := 8) (q0 := 0) hP (pm (fun a9 => by simp only [cn_cons, cn_app, cn_nil] <;> omega)) hD hK hNW [0] rfl rfl rfl hc_9) rfl rfl hl.1 rfl (lv_room (Nat.le_of_ble_eq_true rfl)) dL_law_254 ⟨(by show cells + 6 ≤ 601024; omega), (by show slots + 51 ≤ 7293034; omega)⟩) (fun r_12 z_10 H locs hw_11 hP hD hS => ?_)
  obtain ⟨hst_14, ho_13⟩ := hw_11
  have hP : va_P D vwCl (z_3 ++ (z_10 ++ [(o0, .inl (cL, 1, .inr (.inl og)))])) H := hP.perm (pm (fun a9 => by simp only [cn_cons, cn_app, cn_nil] <;> omega))
  have hD : va_D A (z_3 ++ (z_10 ++ [(o0, .inl (cL, 1, .inr (.inl og)))])) := hD.perm (pm (fun a9 => by simp only [cn_cons, cn_app, cn_nil] <;> omega))
  refine lv_pop hx hb dL_law_257 rfl ?_
  refine lv_goto (tgt := 1165) hx hb dL_law_258 (by decide) ?_
  exact hE ((fmk z (xs (Int32.toNatClampNeg (i + 1))) (xs (Int32.toNatClampNeg (i + 2))) (xs (Int32.toNatClampNeg (i + 3))) (xs (Int32.toNatClampNeg (i + 4))) (xs (Int32.toNatClampNeg (i + 5))) (xs (Int32.toNatClampNeg (i + 6))) (xs (Int32.toNatClampNeg (i + 7)))).2) z_3 z_10 og _ _ _ _ _ (by show cells + 6 ≤ cells + 20; omega) (by show slots + 51 ≤ slots + 200; omega) ho_6 ho_13 hP hD hS (lv_sub hl [0, 1, 2, 3, 4] rfl)

set_option maxHeartbeats 4000000 in
set_option maxRecDepth 100000 in
theorem law_c1 {p : Program} {e : Env} {s : State} {m : MethodId} {below : List Frame} {meth : Method} {c : Code} (l : Launch) {b L : Nat} {xs : Nat → Int32} (D : va_G) (A : Nat → Prop) (hx : p.tables.exec = Jvm.exec) (hb : c.code = cL_law) (hr : meth.sig.returnType = ret) (hts : ∀ w ∈ wsL_law, w.before #[Value.ref b] s = true) (hown : s.vm.findClass RL = some m.cls) (hml : c.maxLocals = 7) (hlocks : meth.locks = false) (hA : ∀ q, s.heap.size ≤ q → A q) (hAq : ∀ q, A q → s.heap.size ≤ q) (hbA : ¬ A b) (hX : va_X b L xs s s.heap) (hbl : b < s.heap.size) (hNW : NW s) (hl9 : l.stackTraces = false) (hTW : TW s) (hZ : ZZ A s s.heap) (hL : L ≤ 4096) (cI cM cB cL : ClassId) (xh mh o0 : Nat) (hK : va_K D vwCl [(cI, .int), (cM, .object "OneHandset$Make"), (cB, .object "OneHandset$Box"), (cL, .long)] s) (i : Int32) (h0i : 0 ≤ i.toInt) (h8i : i.toInt + 8 ≤ L) (z : ZT) (wx wm : va_W) (og : Nat → Int64) (hXO : XOK cI cM cB xh z wx) (hMO : MOK cI mh z wm) (H : Heap) (locs : List Loc) (cells slots : Nat) (hP : va_P D vwCl (wx ++ (wm ++ [(o0, .inl (cL, 1, .inr (.inl og)))])) H) (hD : va_D A (wx ++ (wm ++ [(o0, .inl (cL, 1, .inr (.inl og)))]))) (hS : va_S A s.heap H locs) (hcl : cells + 100 ≤ 601024) (hsl : slots + 1000 ≤ 7293034) (ls : Array Slot) (hl : lv_has ls 7 [(4, .int i), (3, .ref o0), (2, .ref mh), (1, .ref xh), (0, .ref b)]) (hE : ∀ (z : ZT) (wx wm : va_W) (og : Nat → Int64) (H : Heap) (locs : List Loc) (ls : Array Slot) (cells2 slots2 : Nat), cells2 ≤ cells + 20 → slots2 ≤ slots + 200 → XOK cI cM cB xh z wx → MOK cI mh z wm → va_P D vwCl (wx ++ (wm ++ [(o0, .inl (cL, 1, .inr (.inl og)))])) H → va_D A (wx ++ (wm ++ [(o0, .inl (cL, 1, .inr (.inl og)))])) → va_S A s.heap H locs → lv_has ls 7 [(4, .int i), (3, .ref o0), (2, .ref mh), (1, .ref xh), (0, .ref b)] → W p l e room_1 s m #[Value.ref b] below meth c H locs cells2 slots2 (lw_Z below #[Value.ref b] s) (F0 m 1165 ls [])) : W p l e room_1 s m #[Value.ref b] below meth c H locs cells slots (lw_Z below #[Value.ref b] s) (F0 m 261 ls []) := by
  refine lv_aload_n hx hb dL_law_261 rfl (lv_at hl 3 rfl) ?_
  refine lv_aload_n hx hb dL_law_262 rfl (lv_at hl 4 rfl) ?_
  refine lv_iload hx hb dL_law_263 (lv_at hl 0 rfl) ?_
  refine lv_iconst (v := 1) hx hb dL_law_265 (by decide) ?_
  refine lv_iadd hx hb dL_law_266 ?_
  refine va_sld hx hb hX hbl hbA hS (sx_in 1 (by decide) (by decide) h0i h8i hL) dL_law_267 ?_
  refine lv_aload_n hx hb dL_law_268 rfl (lv_at hl 4 rfl) ?_
  refine lv_iload hx hb dL_law_269 (lv_at hl 0 rfl) ?_
  refine lv_iconst (v := 2) hx hb dL_law_271 (by decide) ?_
  refine lv_iadd hx hb dL_law_272 ?_
  refine va_sld hx hb hX hbl hbA hS (sx_in 2 (by decide) (by decide) h0i h8i hL) dL_law_273 ?_
  refine lv_aload_n hx hb dL_law_274 rfl (lv_at hl 4 rfl) ?_
  refine lv_iload hx hb dL_law_275 (lv_at hl 0 rfl) ?_
  refine lv_iconst (v := 3) hx hb dL_law_277 (by decide) ?_
  refine lv_iadd hx hb dL_law_278 ?_
  refine va_sld hx hb hX hbl hbA hS (sx_in 3 (by decide) (by decide) h0i h8i hL) dL_law_279 ?_
  obtain ⟨fs_1, hc_2⟩ := (hXO).cell
  refine go_iW (wc := wx) (wr := wm ++ [(o0, .inl (cL, 1, .inr (.inl og)))]) hP hD hS hA (pm (fun a9 => by simp only [cn_cons, cn_app, cn_nil] <;> omega)) (va_runV (As := [.int (xs (Int32.toNatClampNeg (i + 1))), .int (xs (Int32.toNatClampNeg (i + 2))), .int (xs (Int32.toNatClampNeg (i + 3)))]) (rest := []) ⟨hx, hb, hml, hown, hts⟩ (TX_set l D H.size cI cM cB xh z wx hXO (xs (Int32.toNatClampNeg (i + 1))) (xs (Int32.toNatClampNeg (i + 2))) (xs (Int32.toNatClampNeg (i + 3)))) (cwV 3 hts gL_law_X8_set rfl rfl rfl (by decide +kernel) ⟨Nat.le_of_ble_eq_true rfl, Nat.le_of_ble_eq_true rfl⟩) (st_preVW (wr := wm ++ [(o0, .inl (cL, 1, .inr (.inl og)))]) (ci := 7) (q0 := 0) hP (pm (fun a9 => by simp only [cn_cons, cn_app, cn_nil] <;> omega)) hD hK hNW [0, 1, 2] rfl rfl rfl hc_2) rfl rfl hl.1 rfl (lv_room (Nat.le_of_ble_eq_true rfl)) dL_law_280 ⟨(by show cells + 0 ≤ 601024; omega), (by show slots + 0 ≤ 7293034; omega)⟩) (fun r_5 z_3 H locs hw_4 hP hD hS => ?_)
  obtain ⟨hst_7, ho_6⟩ := hw_4
  have hP : va_P D vwCl (z_3 ++ (wm ++ [(o0, .inl (cL, 1, .inr (.inl og)))])) H := hP.perm (pm (fun a9 => by simp only [cn_cons, cn_app, cn_nil] <;> omega))
  have hD : va_D A (z_3 ++ (wm ++ [(o0, .inl (cL, 1, .inr (.inl og)))])) := hD.perm (pm (fun a9 => by simp only [cn_cons, cn_app, cn_nil] <;> omega))
  refine lv_pop hx hb dL_law_283 rfl ?_
  refine lv_aload_n hx hb dL_law_284 rfl (lv_at hl 2 rfl) ?_
  refine lv_aload_n hx hb dL_law_285 rfl (lv_at hl 4 rfl) ?_
  refine lv_iload hx hb dL_law_286 (lv_at hl 0 rfl) ?_
  refine lv_iconst (v := 1) hx hb dL_law_288 (by decide) ?_
  refine lv_iadd hx hb dL_law_289 ?_
  refine va_sld hx hb hX hbl hbA hS (sx_in 1 (by decide) (by decide) h0i h8i hL) dL_law_290 ?_
  refine lv_aload_n hx hb dL_law_291 rfl (lv_at hl 4 rfl) ?_
  refine lv_iload hx hb dL_law_292 (lv_at hl 0 rfl) ?_
  refine lv_iconst (v := 2) hx hb dL_law_294 (by decide) ?_
  refine lv_iadd hx hb dL_law_295 ?_
  refine va_sld hx hb hX hbl hbA hS (sx_in 2 (by decide) (by decide) h0i h8i hL) dL_law_296 ?_
  refine lv_aload_n hx hb dL_law_297 rfl (lv_at hl 4 rfl) ?_
  refine lv_iload hx hb dL_law_298 (lv_at hl 0 rfl) ?_
  refine lv_iconst (v := 3) hx hb dL_law_300 (by decide) ?_
  refine lv_iadd hx hb dL_law_301 ?_
  refine va_sld hx hb hX hbl hbA hS (sx_in 3 (by decide) (by decide) h0i h8i hL) dL_law_302 ?_
  obtain ⟨fs_8, hc_9⟩ := (hMO).cell
  refine go_iW (wc := wm) (wr := z_3 ++ [(o0, .inl (cL, 1, .inr (.inl og)))]) hP hD hS hA (pm (fun a9 => by simp only [cn_cons, cn_app, cn_nil] <;> omega)) (va_runV (As := [.int (xs (Int32.toNatClampNeg (i + 1))), .int (xs (Int32.toNatClampNeg (i + 2))), .int (xs (Int32.toNatClampNeg (i + 3)))]) (rest := []) ⟨hx, hb, hml, hown, hts⟩ (TM_set l D H.size cI mh z wm hMO (xs (Int32.toNatClampNeg (i + 1))) (xs (Int32.toNatClampNeg (i + 2))) (xs (Int32.toNatClampNeg (i + 3)))) (cwV 3 hts gL_law_X9_set rfl rfl rfl (by decide +kernel) ⟨Nat.le_of_ble_eq_true rfl, Nat.le_of_ble_eq_true rfl⟩) (st_preVW (wr := z_3 ++ [(o0, .inl (cL, 1, .inr (.inl og)))]) (ci := 8) (q0 := 0) hP (pm (fun a9 => by simp only [cn_cons, cn_app, cn_nil] <;> omega)) hD hK hNW [0] rfl rfl rfl hc_9) rfl rfl hl.1 rfl (lv_room (Nat.le_of_ble_eq_true rfl)) dL_law_303 ⟨(by show cells + 0 ≤ 601024; omega), (by show slots + 0 ≤ 7293034; omega)⟩) (fun r_12 z_10 H locs hw_11 hP hD hS => ?_)
  obtain ⟨hst_14, ho_13⟩ := hw_11
  have hP : va_P D vwCl (z_3 ++ (z_10 ++ [(o0, .inl (cL, 1, .inr (.inl og)))])) H := hP.perm (pm (fun a9 => by simp only [cn_cons, cn_app, cn_nil] <;> omega))
  have hD : va_D A (z_3 ++ (z_10 ++ [(o0, .inl (cL, 1, .inr (.inl og)))])) := hD.perm (pm (fun a9 => by simp only [cn_cons, cn_app, cn_nil] <;> omega))
  refine lv_pop hx hb dL_law_306 rfl ?_
  refine lv_goto (tgt := 1165) hx hb dL_law_307 (by decide) ?_
  exact hE z z_3 z_10 og _ _ _ _ _ (by show cells + 0 ≤ cells + 20; omega) (by show slots + 0 ≤ slots + 200; omega) ho_6 ho_13 hP hD hS (lv_sub hl [0, 1, 2, 3, 4] rfl)

set_option maxHeartbeats 4000000 in
set_option maxRecDepth 100000 in
theorem law_c2 {p : Program} {e : Env} {s : State} {m : MethodId} {below : List Frame} {meth : Method} {c : Code} (l : Launch) {b L : Nat} {xs : Nat → Int32} (D : va_G) (A : Nat → Prop) (hx : p.tables.exec = Jvm.exec) (hb : c.code = cL_law) (hr : meth.sig.returnType = ret) (hts : ∀ w ∈ wsL_law, w.before #[Value.ref b] s = true) (hown : s.vm.findClass RL = some m.cls) (hml : c.maxLocals = 7) (hlocks : meth.locks = false) (hA : ∀ q, s.heap.size ≤ q → A q) (hAq : ∀ q, A q → s.heap.size ≤ q) (hbA : ¬ A b) (hX : va_X b L xs s s.heap) (hbl : b < s.heap.size) (hNW : NW s) (hl9 : l.stackTraces = false) (hTW : TW s) (hZ : ZZ A s s.heap) (hL : L ≤ 4096) (cI cM cB cL : ClassId) (xh mh o0 : Nat) (hK : va_K D vwCl [(cI, .int), (cM, .object "OneHandset$Make"), (cB, .object "OneHandset$Box"), (cL, .long)] s) (i : Int32) (h0i : 0 ≤ i.toInt) (h8i : i.toInt + 8 ≤ L) (z : ZT) (wx wm : va_W) (og : Nat → Int64) (hXO : XOK cI cM cB xh z wx) (hMO : MOK cI mh z wm) (H : Heap) (locs : List Loc) (cells slots : Nat) (hP : va_P D vwCl (wx ++ (wm ++ [(o0, .inl (cL, 1, .inr (.inl og)))])) H) (hD : va_D A (wx ++ (wm ++ [(o0, .inl (cL, 1, .inr (.inl og)))]))) (hS : va_S A s.heap H locs) (hcl : cells + 100 ≤ 601024) (hsl : slots + 1000 ≤ 7293034) (ls : Array Slot) (hl : lv_has ls 7 [(4, .int i), (3, .ref o0), (2, .ref mh), (1, .ref xh), (0, .ref b)]) (hE : ∀ (z : ZT) (wx wm : va_W) (og : Nat → Int64) (H : Heap) (locs : List Loc) (ls : Array Slot) (cells2 slots2 : Nat), cells2 ≤ cells + 20 → slots2 ≤ slots + 200 → XOK cI cM cB xh z wx → MOK cI mh z wm → va_P D vwCl (wx ++ (wm ++ [(o0, .inl (cL, 1, .inr (.inl og)))])) H → va_D A (wx ++ (wm ++ [(o0, .inl (cL, 1, .inr (.inl og)))])) → va_S A s.heap H locs → lv_has ls 7 [(4, .int i), (3, .ref o0), (2, .ref mh), (1, .ref xh), (0, .ref b)] → W p l e room_1 s m #[Value.ref b] below meth c H locs cells2 slots2 (lw_Z below #[Value.ref b] s) (F0 m 1165 ls [])) : W p l e room_1 s m #[Value.ref b] below meth c H locs cells slots (lw_Z below #[Value.ref b] s) (F0 m 310 ls []) := by
  refine lv_aload_n hx hb dL_law_310 rfl (lv_at hl 3 rfl) ?_
  refine lv_aload_n hx hb dL_law_311 rfl (lv_at hl 4 rfl) ?_
  refine lv_iload hx hb dL_law_312 (lv_at hl 0 rfl) ?_
  refine lv_iconst (v := 1) hx hb dL_law_314 (by decide) ?_
  refine lv_iadd hx hb dL_law_315 ?_
  refine va_sld hx hb hX hbl hbA hS (sx_in 1 (by decide) (by decide) h0i h8i hL) dL_law_316 ?_
  refine lv_aload_n hx hb dL_law_317 rfl (lv_at hl 4 rfl) ?_
  refine lv_iload hx hb dL_law_318 (lv_at hl 0 rfl) ?_
  refine lv_iconst (v := 2) hx hb dL_law_320 (by decide) ?_
  refine lv_iadd hx hb dL_law_321 ?_
  refine va_sld hx hb hX hbl hbA hS (sx_in 2 (by decide) (by decide) h0i h8i hL) dL_law_322 ?_
  refine lv_aload_n hx hb dL_law_323 rfl (lv_at hl 4 rfl) ?_
  refine lv_iload hx hb dL_law_324 (lv_at hl 0 rfl) ?_
  refine lv_iconst (v := 3) hx hb dL_law_326 (by decide) ?_
  refine lv_iadd hx hb dL_law_327 ?_
  refine va_sld hx hb hX hbl hbA hS (sx_in 3 (by decide) (by decide) h0i h8i hL) dL_law_328 ?_
  refine lv_aload_n hx hb dL_law_329 rfl (lv_at hl 4 rfl) ?_
  refine lv_iload hx hb dL_law_330 (lv_at hl 0 rfl) ?_
  refine lv_iconst (v := 4) hx hb dL_law_332 (by decide) ?_
  refine lv_iadd hx hb dL_law_333 ?_
  refine va_sld hx hb hX hbl hbA hS (sx_in 4 (by decide) (by decide) h0i h8i hL) dL_law_334 ?_
  refine lv_aload_n hx hb dL_law_335 rfl (lv_at hl 4 rfl) ?_
  refine lv_iload hx hb dL_law_336 (lv_at hl 0 rfl) ?_
  refine lv_iconst (v := 5) hx hb dL_law_338 (by decide) ?_
  refine lv_iadd hx hb dL_law_339 ?_
  refine va_sld hx hb hX hbl hbA hS (sx_in 5 (by decide) (by decide) h0i h8i hL) dL_law_340 ?_
  obtain ⟨fs_1, hc_2⟩ := (hXO).cell
  refine go_iW (wc := wx) (wr := wm ++ [(o0, .inl (cL, 1, .inr (.inl og)))]) hP hD hS hA (pm (fun a9 => by simp only [cn_cons, cn_app, cn_nil] <;> omega)) (va_runV (As := [.int (xs (Int32.toNatClampNeg (i + 1))), .int (xs (Int32.toNatClampNeg (i + 2))), .int (xs (Int32.toNatClampNeg (i + 3))), .int (xs (Int32.toNatClampNeg (i + 4))), .int (xs (Int32.toNatClampNeg (i + 5)))]) (rest := []) ⟨hx, hb, hml, hown, hts⟩ (TX_feed l D H.size cI cM cB xh z wx hXO (xs (Int32.toNatClampNeg (i + 1))) (xs (Int32.toNatClampNeg (i + 2))) (xs (Int32.toNatClampNeg (i + 3))) (xs (Int32.toNatClampNeg (i + 4))) (xs (Int32.toNatClampNeg (i + 5)))) (cwV 5 hts gL_law_X8_feed rfl rfl rfl (by decide +kernel) ⟨Nat.le_of_ble_eq_true rfl, Nat.le_of_ble_eq_true rfl⟩) (st_preVW (wr := wm ++ [(o0, .inl (cL, 1, .inr (.inl og)))]) (ci := 7) (q0 := 0) hP (pm (fun a9 => by simp only [cn_cons, cn_app, cn_nil] <;> omega)) hD hK hNW [0, 1, 2] rfl rfl rfl hc_2) rfl rfl hl.1 rfl (lv_room (Nat.le_of_ble_eq_true rfl)) dL_law_341 ⟨(by show cells + 0 ≤ 601024; omega), (by show slots + 0 ≤ 7293034; omega)⟩) (fun r_5 z_3 H locs hw_4 hP hD hS => ?_)
  have hP : va_P D vwCl (z_3 ++ (wm ++ [(o0, .inl (cL, 1, .inr (.inl og)))])) H := hP.perm (pm (fun a9 => by simp only [cn_cons, cn_app, cn_nil] <;> omega))
  have hD : va_D A (z_3 ++ (wm ++ [(o0, .inl (cL, 1, .inr (.inl og)))])) := hD.perm (pm (fun a9 => by simp only [cn_cons, cn_app, cn_nil] <;> omega))
  refine lv_pop hx hb dL_law_344 rfl ?_
  refine lv_aload_n hx hb dL_law_345 rfl (lv_at hl 2 rfl) ?_
  refine lv_aload_n hx hb dL_law_346 rfl (lv_at hl 4 rfl) ?_
  refine lv_iload hx hb dL_law_347 (lv_at hl 0 rfl) ?_
  refine lv_iconst (v := 1) hx hb dL_law_349 (by decide) ?_
  refine lv_iadd hx hb dL_law_350 ?_
  refine va_sld hx hb hX hbl hbA hS (sx_in 1 (by decide) (by decide) h0i h8i hL) dL_law_351 ?_
  refine lv_aload_n hx hb dL_law_352 rfl (lv_at hl 4 rfl) ?_
  refine lv_iload hx hb dL_law_353 (lv_at hl 0 rfl) ?_
  refine lv_iconst (v := 2) hx hb dL_law_355 (by decide) ?_
  refine lv_iadd hx hb dL_law_356 ?_
  refine va_sld hx hb hX hbl hbA hS (sx_in 2 (by decide) (by decide) h0i h8i hL) dL_law_357 ?_
  refine lv_aload_n hx hb dL_law_358 rfl (lv_at hl 4 rfl) ?_
  refine lv_iload hx hb dL_law_359 (lv_at hl 0 rfl) ?_
  refine lv_iconst (v := 3) hx hb dL_law_361 (by decide) ?_
  refine lv_iadd hx hb dL_law_362 ?_
  refine va_sld hx hb hX hbl hbA hS (sx_in 3 (by decide) (by decide) h0i h8i hL) dL_law_363 ?_
  refine lv_aload_n hx hb dL_law_364 rfl (lv_at hl 4 rfl) ?_
  refine lv_iload hx hb dL_law_365 (lv_at hl 0 rfl) ?_
  refine lv_iconst (v := 4) hx hb dL_law_367 (by decide) ?_
  refine lv_iadd hx hb dL_law_368 ?_
  refine va_sld hx hb hX hbl hbA hS (sx_in 4 (by decide) (by decide) h0i h8i hL) dL_law_369 ?_
  refine lv_aload_n hx hb dL_law_370 rfl (lv_at hl 4 rfl) ?_
  refine lv_iload hx hb dL_law_371 (lv_at hl 0 rfl) ?_
  refine lv_iconst (v := 5) hx hb dL_law_373 (by decide) ?_
  refine lv_iadd hx hb dL_law_374 ?_
  refine va_sld hx hb hX hbl hbA hS (sx_in 5 (by decide) (by decide) h0i h8i hL) dL_law_375 ?_
  obtain ⟨fs_6, hc_7⟩ := (hMO).cell
  refine go_iW (wc := wm) (wr := z_3 ++ [(o0, .inl (cL, 1, .inr (.inl og)))]) hP hD hS hA (pm (fun a9 => by simp only [cn_cons, cn_app, cn_nil] <;> omega)) (va_runV (As := [.int (xs (Int32.toNatClampNeg (i + 1))), .int (xs (Int32.toNatClampNeg (i + 2))), .int (xs (Int32.toNatClampNeg (i + 3))), .int (xs (Int32.toNatClampNeg (i + 4))), .int (xs (Int32.toNatClampNeg (i + 5)))]) (rest := []) ⟨hx, hb, hml, hown, hts⟩ (TM_feed l D H.size cI mh z wm hMO (xs (Int32.toNatClampNeg (i + 1))) (xs (Int32.toNatClampNeg (i + 2))) (xs (Int32.toNatClampNeg (i + 3))) (xs (Int32.toNatClampNeg (i + 4))) (xs (Int32.toNatClampNeg (i + 5)))) (cwV 5 hts gL_law_X9_feed rfl rfl rfl (by decide +kernel) ⟨Nat.le_of_ble_eq_true rfl, Nat.le_of_ble_eq_true rfl⟩) (st_preVW (wr := z_3 ++ [(o0, .inl (cL, 1, .inr (.inl og)))]) (ci := 8) (q0 := 0) hP (pm (fun a9 => by simp only [cn_cons, cn_app, cn_nil] <;> omega)) hD hK hNW [0] rfl rfl rfl hc_7) rfl rfl hl.1 rfl (lv_room (Nat.le_of_ble_eq_true rfl)) dL_law_376 ⟨(by show cells + 0 ≤ 601024; omega), (by show slots + 0 ≤ 7293034; omega)⟩) (fun r_10 z_8 H locs hw_9 hP hD hS => ?_)
  have hP : va_P D vwCl (z_3 ++ (z_8 ++ [(o0, .inl (cL, 1, .inr (.inl og)))])) H := hP.perm (pm (fun a9 => by simp only [cn_cons, cn_app, cn_nil] <;> omega))
  have hD : va_D A (z_3 ++ (z_8 ++ [(o0, .inl (cL, 1, .inr (.inl og)))])) := hD.perm (pm (fun a9 => by simp only [cn_cons, cn_app, cn_nil] <;> omega))
  refine lv_pop hx hb dL_law_379 rfl ?_
  refine lv_goto (tgt := 1165) hx hb dL_law_380 (by decide) ?_
  exact hE z z_3 z_8 og _ _ _ _ _ (by show cells + 0 ≤ cells + 20; omega) (by show slots + 0 ≤ slots + 200; omega) hw_4 hw_9 hP hD hS (lv_sub hl [0, 1, 2, 3, 4] rfl)

set_option maxHeartbeats 4000000 in
set_option maxRecDepth 100000 in
theorem law_c3 {p : Program} {e : Env} {s : State} {m : MethodId} {below : List Frame} {meth : Method} {c : Code} (l : Launch) {b L : Nat} {xs : Nat → Int32} (D : va_G) (A : Nat → Prop) (hx : p.tables.exec = Jvm.exec) (hb : c.code = cL_law) (hr : meth.sig.returnType = ret) (hts : ∀ w ∈ wsL_law, w.before #[Value.ref b] s = true) (hown : s.vm.findClass RL = some m.cls) (hml : c.maxLocals = 7) (hlocks : meth.locks = false) (hA : ∀ q, s.heap.size ≤ q → A q) (hAq : ∀ q, A q → s.heap.size ≤ q) (hbA : ¬ A b) (hX : va_X b L xs s s.heap) (hbl : b < s.heap.size) (hNW : NW s) (hl9 : l.stackTraces = false) (hTW : TW s) (hZ : ZZ A s s.heap) (hL : L ≤ 4096) (cI cM cB cL : ClassId) (xh mh o0 : Nat) (hK : va_K D vwCl [(cI, .int), (cM, .object "OneHandset$Make"), (cB, .object "OneHandset$Box"), (cL, .long)] s) (i : Int32) (h0i : 0 ≤ i.toInt) (h8i : i.toInt + 8 ≤ L) (z : ZT) (wx wm : va_W) (og : Nat → Int64) (hXO : XOK cI cM cB xh z wx) (hMO : MOK cI mh z wm) (H : Heap) (locs : List Loc) (cells slots : Nat) (hP : va_P D vwCl (wx ++ (wm ++ [(o0, .inl (cL, 1, .inr (.inl og)))])) H) (hD : va_D A (wx ++ (wm ++ [(o0, .inl (cL, 1, .inr (.inl og)))]))) (hS : va_S A s.heap H locs) (hcl : cells + 100 ≤ 601024) (hsl : slots + 1000 ≤ 7293034) (ls : Array Slot) (hl : lv_has ls 7 [(4, .int i), (3, .ref o0), (2, .ref mh), (1, .ref xh), (0, .ref b)]) (hE : ∀ (z : ZT) (wx wm : va_W) (og : Nat → Int64) (H : Heap) (locs : List Loc) (ls : Array Slot) (cells2 slots2 : Nat), cells2 ≤ cells + 20 → slots2 ≤ slots + 200 → XOK cI cM cB xh z wx → MOK cI mh z wm → va_P D vwCl (wx ++ (wm ++ [(o0, .inl (cL, 1, .inr (.inl og)))])) H → va_D A (wx ++ (wm ++ [(o0, .inl (cL, 1, .inr (.inl og)))])) → va_S A s.heap H locs → lv_has ls 7 [(4, .int i), (3, .ref o0), (2, .ref mh), (1, .ref xh), (0, .ref b)] → W p l e room_1 s m #[Value.ref b] below meth c H locs cells2 slots2 (lw_Z below #[Value.ref b] s) (F0 m 1165 ls [])) : W p l e room_1 s m #[Value.ref b] below meth c H locs cells slots (lw_Z below #[Value.ref b] s) (F0 m 383 ls []) := by
  refine lv_aload_n hx hb dL_law_383 rfl (lv_at hl 3 rfl) ?_
  refine lv_aload_n hx hb dL_law_384 rfl (lv_at hl 4 rfl) ?_
  refine lv_iload hx hb dL_law_385 (lv_at hl 0 rfl) ?_
  refine lv_iconst (v := 1) hx hb dL_law_387 (by decide) ?_
  refine lv_iadd hx hb dL_law_388 ?_
  refine va_sld hx hb hX hbl hbA hS (sx_in 1 (by decide) (by decide) h0i h8i hL) dL_law_389 ?_
  obtain ⟨fs_1, hc_2⟩ := (hXO).cell
  refine go_iW (wc := wx) (wr := wm ++ [(o0, .inl (cL, 1, .inr (.inl og)))]) hP hD hS hA (pm (fun a9 => by simp only [cn_cons, cn_app, cn_nil] <;> omega)) (va_runV (As := [.int (xs (Int32.toNatClampNeg (i + 1)))]) (rest := []) ⟨hx, hb, hml, hown, hts⟩ (TX_end l D H.size cI cM cB xh z wx hXO (xs (Int32.toNatClampNeg (i + 1)))) (cwV 1 hts gL_law_X8_end rfl rfl rfl (by decide +kernel) ⟨Nat.le_of_ble_eq_true rfl, Nat.le_of_ble_eq_true rfl⟩) (st_preVW (wr := wm ++ [(o0, .inl (cL, 1, .inr (.inl og)))]) (ci := 7) (q0 := 0) hP (pm (fun a9 => by simp only [cn_cons, cn_app, cn_nil] <;> omega)) hD hK hNW [0, 1, 2] rfl rfl rfl hc_2) rfl rfl hl.1 rfl (lv_room (Nat.le_of_ble_eq_true rfl)) dL_law_390 ⟨(by show cells + 0 ≤ 601024; omega), (by show slots + 0 ≤ 7293034; omega)⟩) (fun r_5 z_3 H locs hw_4 hP hD hS => ?_)
  have hP : va_P D vwCl (z_3 ++ (wm ++ [(o0, .inl (cL, 1, .inr (.inl og)))])) H := hP.perm (pm (fun a9 => by simp only [cn_cons, cn_app, cn_nil] <;> omega))
  have hD : va_D A (z_3 ++ (wm ++ [(o0, .inl (cL, 1, .inr (.inl og)))])) := hD.perm (pm (fun a9 => by simp only [cn_cons, cn_app, cn_nil] <;> omega))
  refine lv_pop hx hb dL_law_393 rfl ?_
  refine lv_aload_n hx hb dL_law_394 rfl (lv_at hl 2 rfl) ?_
  refine lv_aload_n hx hb dL_law_395 rfl (lv_at hl 4 rfl) ?_
  refine lv_iload hx hb dL_law_396 (lv_at hl 0 rfl) ?_
  refine lv_iconst (v := 1) hx hb dL_law_398 (by decide) ?_
  refine lv_iadd hx hb dL_law_399 ?_
  refine va_sld hx hb hX hbl hbA hS (sx_in 1 (by decide) (by decide) h0i h8i hL) dL_law_400 ?_
  obtain ⟨fs_6, hc_7⟩ := (hMO).cell
  refine go_iW (wc := wm) (wr := z_3 ++ [(o0, .inl (cL, 1, .inr (.inl og)))]) hP hD hS hA (pm (fun a9 => by simp only [cn_cons, cn_app, cn_nil] <;> omega)) (va_runV (As := [.int (xs (Int32.toNatClampNeg (i + 1)))]) (rest := []) ⟨hx, hb, hml, hown, hts⟩ (TM_end l D H.size cI mh z wm hMO (xs (Int32.toNatClampNeg (i + 1)))) (cwV 1 hts gL_law_X9_end rfl rfl rfl (by decide +kernel) ⟨Nat.le_of_ble_eq_true rfl, Nat.le_of_ble_eq_true rfl⟩) (st_preVW (wr := z_3 ++ [(o0, .inl (cL, 1, .inr (.inl og)))]) (ci := 8) (q0 := 0) hP (pm (fun a9 => by simp only [cn_cons, cn_app, cn_nil] <;> omega)) hD hK hNW [0] rfl rfl rfl hc_7) rfl rfl hl.1 rfl (lv_room (Nat.le_of_ble_eq_true rfl)) dL_law_401 ⟨(by show cells + 0 ≤ 601024; omega), (by show slots + 0 ≤ 7293034; omega)⟩) (fun r_10 z_8 H locs hw_9 hP hD hS => ?_)
  have hP : va_P D vwCl (z_3 ++ (z_8 ++ [(o0, .inl (cL, 1, .inr (.inl og)))])) H := hP.perm (pm (fun a9 => by simp only [cn_cons, cn_app, cn_nil] <;> omega))
  have hD : va_D A (z_3 ++ (z_8 ++ [(o0, .inl (cL, 1, .inr (.inl og)))])) := hD.perm (pm (fun a9 => by simp only [cn_cons, cn_app, cn_nil] <;> omega))
  refine lv_pop hx hb dL_law_404 rfl ?_
  refine lv_goto (tgt := 1165) hx hb dL_law_405 (by decide) ?_
  exact hE z z_3 z_8 og _ _ _ _ _ (by show cells + 0 ≤ cells + 20; omega) (by show slots + 0 ≤ slots + 200; omega) hw_4 hw_9 hP hD hS (lv_sub hl [0, 1, 2, 3, 4] rfl)

set_option maxHeartbeats 4000000 in
set_option maxRecDepth 100000 in
theorem law_c4 {p : Program} {e : Env} {s : State} {m : MethodId} {below : List Frame} {meth : Method} {c : Code} (l : Launch) {b L : Nat} {xs : Nat → Int32} (D : va_G) (A : Nat → Prop) (hx : p.tables.exec = Jvm.exec) (hb : c.code = cL_law) (hr : meth.sig.returnType = ret) (hts : ∀ w ∈ wsL_law, w.before #[Value.ref b] s = true) (hown : s.vm.findClass RL = some m.cls) (hml : c.maxLocals = 7) (hlocks : meth.locks = false) (hA : ∀ q, s.heap.size ≤ q → A q) (hAq : ∀ q, A q → s.heap.size ≤ q) (hbA : ¬ A b) (hX : va_X b L xs s s.heap) (hbl : b < s.heap.size) (hNW : NW s) (hl9 : l.stackTraces = false) (hTW : TW s) (hZ : ZZ A s s.heap) (hL : L ≤ 4096) (cI cM cB cL : ClassId) (xh mh o0 : Nat) (hK : va_K D vwCl [(cI, .int), (cM, .object "OneHandset$Make"), (cB, .object "OneHandset$Box"), (cL, .long)] s) (i : Int32) (h0i : 0 ≤ i.toInt) (h8i : i.toInt + 8 ≤ L) (z : ZT) (wx wm : va_W) (og : Nat → Int64) (hXO : XOK cI cM cB xh z wx) (hMO : MOK cI mh z wm) (H : Heap) (locs : List Loc) (cells slots : Nat) (hP : va_P D vwCl (wx ++ (wm ++ [(o0, .inl (cL, 1, .inr (.inl og)))])) H) (hD : va_D A (wx ++ (wm ++ [(o0, .inl (cL, 1, .inr (.inl og)))]))) (hS : va_S A s.heap H locs) (hcl : cells + 100 ≤ 601024) (hsl : slots + 1000 ≤ 7293034) (ls : Array Slot) (hl : lv_has ls 7 [(4, .int i), (3, .ref o0), (2, .ref mh), (1, .ref xh), (0, .ref b)]) (hE : ∀ (z : ZT) (wx wm : va_W) (og : Nat → Int64) (H : Heap) (locs : List Loc) (ls : Array Slot) (cells2 slots2 : Nat), cells2 ≤ cells + 20 → slots2 ≤ slots + 200 → XOK cI cM cB xh z wx → MOK cI mh z wm → va_P D vwCl (wx ++ (wm ++ [(o0, .inl (cL, 1, .inr (.inl og)))])) H → va_D A (wx ++ (wm ++ [(o0, .inl (cL, 1, .inr (.inl og)))])) → va_S A s.heap H locs → lv_has ls 7 [(4, .int i), (3, .ref o0), (2, .ref mh), (1, .ref xh), (0, .ref b)] → W p l e room_1 s m #[Value.ref b] below meth c H locs cells2 slots2 (lw_Z below #[Value.ref b] s) (F0 m 1165 ls [])) : W p l e room_1 s m #[Value.ref b] below meth c H locs cells slots (lw_Z below #[Value.ref b] s) (F0 m 408 ls []) := by
  refine lv_aload_n hx hb dL_law_408 rfl (lv_at hl 3 rfl) ?_
  refine lv_aload_n hx hb dL_law_409 rfl (lv_at hl 4 rfl) ?_
  refine lv_iload hx hb dL_law_410 (lv_at hl 0 rfl) ?_
  refine lv_iconst (v := 1) hx hb dL_law_412 (by decide) ?_
  refine lv_iadd hx hb dL_law_413 ?_
  refine va_sld hx hb hX hbl hbA hS (sx_in 1 (by decide) (by decide) h0i h8i hL) dL_law_414 ?_
  refine lv_aload_n hx hb dL_law_415 rfl (lv_at hl 4 rfl) ?_
  refine lv_iload hx hb dL_law_416 (lv_at hl 0 rfl) ?_
  refine lv_iconst (v := 2) hx hb dL_law_418 (by decide) ?_
  refine lv_iadd hx hb dL_law_419 ?_
  refine va_sld hx hb hX hbl hbA hS (sx_in 2 (by decide) (by decide) h0i h8i hL) dL_law_420 ?_
  obtain ⟨fs_1, hc_2⟩ := (hXO).cell
  refine go_iW (wc := wx) (wr := wm ++ [(o0, .inl (cL, 1, .inr (.inl og)))]) hP hD hS hA (pm (fun a9 => by simp only [cn_cons, cn_app, cn_nil] <;> omega)) (va_runV (As := [.int (xs (Int32.toNatClampNeg (i + 1))), .int (xs (Int32.toNatClampNeg (i + 2)))]) (rest := []) ⟨hx, hb, hml, hown, hts⟩ (TX_send l D H.size cI cM cB xh z wx hXO (xs (Int32.toNatClampNeg (i + 1))) (xs (Int32.toNatClampNeg (i + 2)))) (cwV 2 hts gL_law_X8_send rfl rfl rfl (by decide +kernel) ⟨Nat.le_of_ble_eq_true rfl, Nat.le_of_ble_eq_true rfl⟩) (st_preVW (wr := wm ++ [(o0, .inl (cL, 1, .inr (.inl og)))]) (ci := 7) (q0 := 0) hP (pm (fun a9 => by simp only [cn_cons, cn_app, cn_nil] <;> omega)) hD hK hNW [0, 1, 2] rfl rfl rfl hc_2) rfl rfl hl.1 rfl (lv_room (Nat.le_of_ble_eq_true rfl)) dL_law_421 ⟨(by show cells + 0 ≤ 601024; omega), (by show slots + 0 ≤ 7293034; omega)⟩) (fun r_5 z_3 H locs hw_4 hP hD hS => ?_)
  obtain ⟨hst_7, ho_6⟩ := hw_4
  have hP : va_P D vwCl (z_3 ++ (wm ++ [(o0, .inl (cL, 1, .inr (.inl og)))])) H := hP.perm (pm (fun a9 => by simp only [cn_cons, cn_app, cn_nil] <;> omega))
  have hD : va_D A (z_3 ++ (wm ++ [(o0, .inl (cL, 1, .inr (.inl og)))])) := hD.perm (pm (fun a9 => by simp only [cn_cons, cn_app, cn_nil] <;> omega))
  refine lv_pop hx hb dL_law_424 rfl ?_
  refine lv_aload_n hx hb dL_law_425 rfl (lv_at hl 2 rfl) ?_
  refine lv_aload_n hx hb dL_law_426 rfl (lv_at hl 4 rfl) ?_
  refine lv_iload hx hb dL_law_427 (lv_at hl 0 rfl) ?_
  refine lv_iconst (v := 1) hx hb dL_law_429 (by decide) ?_
  refine lv_iadd hx hb dL_law_430 ?_
  refine va_sld hx hb hX hbl hbA hS (sx_in 1 (by decide) (by decide) h0i h8i hL) dL_law_431 ?_
  refine lv_aload_n hx hb dL_law_432 rfl (lv_at hl 4 rfl) ?_
  refine lv_iload hx hb dL_law_433 (lv_at hl 0 rfl) ?_
  refine lv_iconst (v := 2) hx hb dL_law_435 (by decide) ?_
  refine lv_iadd hx hb dL_law_436 ?_
  refine va_sld hx hb hX hbl hbA hS (sx_in 2 (by decide) (by decide) h0i h8i hL) dL_law_437 ?_
  obtain ⟨fs_8, hc_9⟩ := (hMO).cell
  refine go_iW (wc := wm) (wr := z_3 ++ [(o0, .inl (cL, 1, .inr (.inl og)))]) hP hD hS hA (pm (fun a9 => by simp only [cn_cons, cn_app, cn_nil] <;> omega)) (va_runV (As := [.int (xs (Int32.toNatClampNeg (i + 1))), .int (xs (Int32.toNatClampNeg (i + 2)))]) (rest := []) ⟨hx, hb, hml, hown, hts⟩ (TM_send l D H.size cI mh z wm hMO (xs (Int32.toNatClampNeg (i + 1))) (xs (Int32.toNatClampNeg (i + 2)))) (cwV 2 hts gL_law_X9_send rfl rfl rfl (by decide +kernel) ⟨Nat.le_of_ble_eq_true rfl, Nat.le_of_ble_eq_true rfl⟩) (st_preVW (wr := z_3 ++ [(o0, .inl (cL, 1, .inr (.inl og)))]) (ci := 8) (q0 := 0) hP (pm (fun a9 => by simp only [cn_cons, cn_app, cn_nil] <;> omega)) hD hK hNW [0] rfl rfl rfl hc_9) rfl rfl hl.1 rfl (lv_room (Nat.le_of_ble_eq_true rfl)) dL_law_438 ⟨(by show cells + 0 ≤ 601024; omega), (by show slots + 0 ≤ 7293034; omega)⟩) (fun r_12 z_10 H locs hw_11 hP hD hS => ?_)
  obtain ⟨hst_14, ho_13⟩ := hw_11
  have hP : va_P D vwCl (z_3 ++ (z_10 ++ [(o0, .inl (cL, 1, .inr (.inl og)))])) H := hP.perm (pm (fun a9 => by simp only [cn_cons, cn_app, cn_nil] <;> omega))
  have hD : va_D A (z_3 ++ (z_10 ++ [(o0, .inl (cL, 1, .inr (.inl og)))])) := hD.perm (pm (fun a9 => by simp only [cn_cons, cn_app, cn_nil] <;> omega))
  refine lv_pop hx hb dL_law_441 rfl ?_
  refine lv_goto (tgt := 1165) hx hb dL_law_442 (by decide) ?_
  exact hE z z_3 z_10 og _ _ _ _ _ (by show cells + 0 ≤ cells + 20; omega) (by show slots + 0 ≤ slots + 200; omega) ho_6 ho_13 hP hD hS (lv_sub hl [0, 1, 2, 3, 4] rfl)

set_option maxHeartbeats 4000000 in
set_option maxRecDepth 100000 in
theorem law_c5 {p : Program} {e : Env} {s : State} {m : MethodId} {below : List Frame} {meth : Method} {c : Code} (l : Launch) {b L : Nat} {xs : Nat → Int32} (D : va_G) (A : Nat → Prop) (hx : p.tables.exec = Jvm.exec) (hb : c.code = cL_law) (hr : meth.sig.returnType = ret) (hts : ∀ w ∈ wsL_law, w.before #[Value.ref b] s = true) (hown : s.vm.findClass RL = some m.cls) (hml : c.maxLocals = 7) (hlocks : meth.locks = false) (hA : ∀ q, s.heap.size ≤ q → A q) (hAq : ∀ q, A q → s.heap.size ≤ q) (hbA : ¬ A b) (hX : va_X b L xs s s.heap) (hbl : b < s.heap.size) (hNW : NW s) (hl9 : l.stackTraces = false) (hTW : TW s) (hZ : ZZ A s s.heap) (hL : L ≤ 4096) (cI cM cB cL : ClassId) (xh mh o0 : Nat) (hK : va_K D vwCl [(cI, .int), (cM, .object "OneHandset$Make"), (cB, .object "OneHandset$Box"), (cL, .long)] s) (i : Int32) (h0i : 0 ≤ i.toInt) (h8i : i.toInt + 8 ≤ L) (z : ZT) (wx wm : va_W) (og : Nat → Int64) (hXO : XOK cI cM cB xh z wx) (hMO : MOK cI mh z wm) (H : Heap) (locs : List Loc) (cells slots : Nat) (hP : va_P D vwCl (wx ++ (wm ++ [(o0, .inl (cL, 1, .inr (.inl og)))])) H) (hD : va_D A (wx ++ (wm ++ [(o0, .inl (cL, 1, .inr (.inl og)))]))) (hS : va_S A s.heap H locs) (hcl : cells + 100 ≤ 601024) (hsl : slots + 1000 ≤ 7293034) (ls : Array Slot) (hl : lv_has ls 7 [(4, .int i), (3, .ref o0), (2, .ref mh), (1, .ref xh), (0, .ref b)]) (hE : ∀ (z : ZT) (wx wm : va_W) (og : Nat → Int64) (H : Heap) (locs : List Loc) (ls : Array Slot) (cells2 slots2 : Nat), cells2 ≤ cells + 20 → slots2 ≤ slots + 200 → XOK cI cM cB xh z wx → MOK cI mh z wm → va_P D vwCl (wx ++ (wm ++ [(o0, .inl (cL, 1, .inr (.inl og)))])) H → va_D A (wx ++ (wm ++ [(o0, .inl (cL, 1, .inr (.inl og)))])) → va_S A s.heap H locs → lv_has ls 7 [(4, .int i), (3, .ref o0), (2, .ref mh), (1, .ref xh), (0, .ref b)] → W p l e room_1 s m #[Value.ref b] below meth c H locs cells2 slots2 (lw_Z below #[Value.ref b] s) (F0 m 1165 ls [])) : W p l e room_1 s m #[Value.ref b] below meth c H locs cells slots (lw_Z below #[Value.ref b] s) (F0 m 445 ls []) := by
  refine lv_aload_n hx hb dL_law_445 rfl (lv_at hl 3 rfl) ?_
  refine lv_aload_n hx hb dL_law_446 rfl (lv_at hl 4 rfl) ?_
  refine lv_iload hx hb dL_law_447 (lv_at hl 0 rfl) ?_
  refine lv_iconst (v := 1) hx hb dL_law_449 (by decide) ?_
  refine lv_iadd hx hb dL_law_450 ?_
  refine va_sld hx hb hX hbl hbA hS (sx_in 1 (by decide) (by decide) h0i h8i hL) dL_law_451 ?_
  refine lv_aload_n hx hb dL_law_452 rfl (lv_at hl 1 rfl) ?_
  refine go_iW (wc := wx ++ [(o0, .inl (cL, 1, .inr (.inl og)))]) (wr := wm) hP hD hS hA (pm (fun a9 => by simp only [cn_cons, cn_app, cn_nil] <;> omega)) (vx_runSW (As := [.ref xh, .int (xs (Int32.toNatClampNeg (i + 1))), .ref o0]) (rest := []) ⟨hx, hb, hml, hown, hts⟩ (TL_time l hl9 D H.size cI cM cB cL xh o0 og z wx hXO (xs (Int32.toNatClampNeg (i + 1)))) (vx_cwSW 3 hts gL_law_L_time rfl rfl rfl (by decide +kernel) ⟨Nat.le_of_ble_eq_true rfl, Nat.le_of_ble_eq_true rfl⟩) (tm_preSW (wr := wm) hP (pm (fun a9 => by simp only [cn_cons, cn_app, cn_nil] <;> omega)) hD hK hNW hTW hZ hS hA [0, 1, 2, 3] rfl) rfl rfl hl.1 rfl (lv_room (Nat.le_of_ble_eq_true rfl)) dL_law_453 ⟨(by show cells + 1 ≤ 601024; omega), (by show slots + 6 ≤ 7293034; omega)⟩) (fun r_5 z_3 H locs hw_4 hP hD hS => ?_)
  obtain ⟨z_6, og_7, hxo_8, rfl⟩ := hw_4
  have hP : va_P D vwCl (z_6 ++ (wm ++ [(o0, .inl (cL, 1, .inr (.inl og_7)))])) H := hP.perm (pm (fun a9 => by simp only [cn_cons, cn_app, cn_nil] <;> omega))
  have hD : va_D A (z_6 ++ (wm ++ [(o0, .inl (cL, 1, .inr (.inl og_7)))])) := hD.perm (pm (fun a9 => by simp only [cn_cons, cn_app, cn_nil] <;> omega))
  refine W.eq (g2 := F0 m 456 ls [.int r_5]) rfl ?_
  refine lv_istore (lv' := [(5, .int r_5), (4, .int i), (3, .ref o0), (2, .ref mh), (1, .ref xh), (0, .ref b)]) hx hb dL_law_456 hl (by decide) rfl (fun ls hl => ?_)
  refine lv_aload_n hx hb dL_law_458 rfl (lv_at hl 3 rfl) ?_
  refine lv_aload_n hx hb dL_law_459 rfl (lv_at hl 5 rfl) ?_
  refine lv_iload hx hb dL_law_460 (lv_at hl 1 rfl) ?_
  refine lv_iconst (v := 1) hx hb dL_law_462 (by decide) ?_
  refine lv_iadd hx hb dL_law_463 ?_
  refine va_sld hx hb hX hbl hbA hS (sx_in 1 (by decide) (by decide) h0i h8i hL) dL_law_464 ?_
  obtain ⟨fs_9, hc_10⟩ := (hMO).cell
  refine go_iW (wc := wm) (wr := z_6 ++ [(o0, .inl (cL, 1, .inr (.inl og_7)))]) hP hD hS hA (pm (fun a9 => by simp only [cn_cons, cn_app, cn_nil] <;> omega)) (va_runV (As := [.int (xs (Int32.toNatClampNeg (i + 1)))]) (rest := []) ⟨hx, hb, hml, hown, hts⟩ (TM_time l D H.size cI mh z wm hMO (xs (Int32.toNatClampNeg (i + 1)))) (cwV 1 hts gL_law_X9_time rfl rfl rfl (by decide +kernel) ⟨Nat.le_of_ble_eq_true rfl, Nat.le_of_ble_eq_true rfl⟩) (st_preVW (wr := z_6 ++ [(o0, .inl (cL, 1, .inr (.inl og_7)))]) (ci := 8) (q0 := 0) hP (pm (fun a9 => by simp only [cn_cons, cn_app, cn_nil] <;> omega)) hD hK hNW [0] rfl rfl rfl hc_10) rfl rfl hl.1 rfl (lv_room (Nat.le_of_ble_eq_true rfl)) dL_law_465 ⟨(by show cells + 1 ≤ 601024; omega), (by show slots + 6 ≤ 7293034; omega)⟩) (fun r_13 z_11 H locs hw_12 hP hD hS => ?_)
  have hP : va_P D vwCl (z_6 ++ (z_11 ++ [(o0, .inl (cL, 1, .inr (.inl og_7)))])) H := hP.perm (pm (fun a9 => by simp only [cn_cons, cn_app, cn_nil] <;> omega))
  have hD : va_D A (z_6 ++ (z_11 ++ [(o0, .inl (cL, 1, .inr (.inl og_7)))])) := hD.perm (pm (fun a9 => by simp only [cn_cons, cn_app, cn_nil] <;> omega))
  refine lv_istore (lv' := [(6, .int r_13), (5, .int r_5), (4, .int i), (3, .ref o0), (2, .ref mh), (1, .ref xh), (0, .ref b)]) hx hb dL_law_468 hl (by decide) rfl (fun ls hl => ?_)
  refine lv_goto (tgt := 1165) hx hb dL_law_470 (by decide) ?_
  exact hE z z_6 z_11 og_7 _ _ _ _ _ (by show cells + 1 ≤ cells + 20; omega) (by show slots + 6 ≤ slots + 200; omega) hxo_8 hw_12 hP hD hS (lv_sub hl [2, 3, 4, 5, 6] rfl)

set_option maxHeartbeats 4000000 in
set_option maxRecDepth 100000 in
theorem law_c6 {p : Program} {e : Env} {s : State} {m : MethodId} {below : List Frame} {meth : Method} {c : Code} (l : Launch) {b L : Nat} {xs : Nat → Int32} (D : va_G) (A : Nat → Prop) (hx : p.tables.exec = Jvm.exec) (hb : c.code = cL_law) (hr : meth.sig.returnType = ret) (hts : ∀ w ∈ wsL_law, w.before #[Value.ref b] s = true) (hown : s.vm.findClass RL = some m.cls) (hml : c.maxLocals = 7) (hlocks : meth.locks = false) (hA : ∀ q, s.heap.size ≤ q → A q) (hAq : ∀ q, A q → s.heap.size ≤ q) (hbA : ¬ A b) (hX : va_X b L xs s s.heap) (hbl : b < s.heap.size) (hNW : NW s) (hl9 : l.stackTraces = false) (hTW : TW s) (hZ : ZZ A s s.heap) (hL : L ≤ 4096) (cI cM cB cL : ClassId) (xh mh o0 : Nat) (hK : va_K D vwCl [(cI, .int), (cM, .object "OneHandset$Make"), (cB, .object "OneHandset$Box"), (cL, .long)] s) (i : Int32) (h0i : 0 ≤ i.toInt) (h8i : i.toInt + 8 ≤ L) (z : ZT) (wx wm : va_W) (og : Nat → Int64) (hXO : XOK cI cM cB xh z wx) (hMO : MOK cI mh z wm) (H : Heap) (locs : List Loc) (cells slots : Nat) (hP : va_P D vwCl (wx ++ (wm ++ [(o0, .inl (cL, 1, .inr (.inl og)))])) H) (hD : va_D A (wx ++ (wm ++ [(o0, .inl (cL, 1, .inr (.inl og)))]))) (hS : va_S A s.heap H locs) (hcl : cells + 100 ≤ 601024) (hsl : slots + 1000 ≤ 7293034) (ls : Array Slot) (hl : lv_has ls 7 [(4, .int i), (3, .ref o0), (2, .ref mh), (1, .ref xh), (0, .ref b)]) (hE : ∀ (z : ZT) (wx wm : va_W) (og : Nat → Int64) (H : Heap) (locs : List Loc) (ls : Array Slot) (cells2 slots2 : Nat), cells2 ≤ cells + 20 → slots2 ≤ slots + 200 → XOK cI cM cB xh z wx → MOK cI mh z wm → va_P D vwCl (wx ++ (wm ++ [(o0, .inl (cL, 1, .inr (.inl og)))])) H → va_D A (wx ++ (wm ++ [(o0, .inl (cL, 1, .inr (.inl og)))])) → va_S A s.heap H locs → lv_has ls 7 [(4, .int i), (3, .ref o0), (2, .ref mh), (1, .ref xh), (0, .ref b)] → W p l e room_1 s m #[Value.ref b] below meth c H locs cells2 slots2 (lw_Z below #[Value.ref b] s) (F0 m 1165 ls [])) : W p l e room_1 s m #[Value.ref b] below meth c H locs cells slots (lw_Z below #[Value.ref b] s) (F0 m 473 ls []) := by
  refine lv_aload_n hx hb dL_law_473 rfl (lv_at hl 3 rfl) ?_
  refine lv_aload_n hx hb dL_law_474 rfl (lv_at hl 4 rfl) ?_
  refine lv_iload hx hb dL_law_475 (lv_at hl 0 rfl) ?_
  refine lv_iconst (v := 1) hx hb dL_law_477 (by decide) ?_
  refine lv_iadd hx hb dL_law_478 ?_
  refine va_sld hx hb hX hbl hbA hS (sx_in 1 (by decide) (by decide) h0i h8i hL) dL_law_479 ?_
  obtain ⟨fs_1, hc_2⟩ := (hXO).cell
  refine go_iW (wc := wx) (wr := wm ++ [(o0, .inl (cL, 1, .inr (.inl og)))]) hP hD hS hA (pm (fun a9 => by simp only [cn_cons, cn_app, cn_nil] <;> omega)) (va_runV (As := [.int (xs (Int32.toNatClampNeg (i + 1)))]) (rest := []) ⟨hx, hb, hml, hown, hts⟩ (TX_read l D H.size cI cM cB xh z wx hXO (xs (Int32.toNatClampNeg (i + 1)))) (cwV 1 hts gL_law_X8_read rfl rfl rfl (by decide +kernel) ⟨Nat.le_of_ble_eq_true rfl, Nat.le_of_ble_eq_true rfl⟩) (st_preVW (wr := wm ++ [(o0, .inl (cL, 1, .inr (.inl og)))]) (ci := 7) (q0 := 0) hP (pm (fun a9 => by simp only [cn_cons, cn_app, cn_nil] <;> omega)) hD hK hNW [0, 1, 2] rfl rfl rfl hc_2) rfl rfl hl.1 rfl (lv_room (Nat.le_of_ble_eq_true rfl)) dL_law_480 ⟨(by show cells + 0 ≤ 601024; omega), (by show slots + 0 ≤ 7293034; omega)⟩) (fun r_5 z_3 H locs hw_4 hP hD hS => ?_)
  have hP : va_P D vwCl (z_3 ++ (wm ++ [(o0, .inl (cL, 1, .inr (.inl og)))])) H := hP.perm (pm (fun a9 => by simp only [cn_cons, cn_app, cn_nil] <;> omega))
  have hD : va_D A (z_3 ++ (wm ++ [(o0, .inl (cL, 1, .inr (.inl og)))])) := hD.perm (pm (fun a9 => by simp only [cn_cons, cn_app, cn_nil] <;> omega))
  refine lv_pop hx hb dL_law_483 rfl ?_
  refine lv_aload_n hx hb dL_law_484 rfl (lv_at hl 2 rfl) ?_
  refine lv_aload_n hx hb dL_law_485 rfl (lv_at hl 4 rfl) ?_
  refine lv_iload hx hb dL_law_486 (lv_at hl 0 rfl) ?_
  refine lv_iconst (v := 1) hx hb dL_law_488 (by decide) ?_
  refine lv_iadd hx hb dL_law_489 ?_
  refine va_sld hx hb hX hbl hbA hS (sx_in 1 (by decide) (by decide) h0i h8i hL) dL_law_490 ?_
  obtain ⟨fs_6, hc_7⟩ := (hMO).cell
  refine go_iW (wc := wm) (wr := z_3 ++ [(o0, .inl (cL, 1, .inr (.inl og)))]) hP hD hS hA (pm (fun a9 => by simp only [cn_cons, cn_app, cn_nil] <;> omega)) (va_runV (As := [.int (xs (Int32.toNatClampNeg (i + 1)))]) (rest := []) ⟨hx, hb, hml, hown, hts⟩ (TM_read l D H.size cI mh z wm hMO (xs (Int32.toNatClampNeg (i + 1)))) (cwV 1 hts gL_law_X9_read rfl rfl rfl (by decide +kernel) ⟨Nat.le_of_ble_eq_true rfl, Nat.le_of_ble_eq_true rfl⟩) (st_preVW (wr := z_3 ++ [(o0, .inl (cL, 1, .inr (.inl og)))]) (ci := 8) (q0 := 0) hP (pm (fun a9 => by simp only [cn_cons, cn_app, cn_nil] <;> omega)) hD hK hNW [0] rfl rfl rfl hc_7) rfl rfl hl.1 rfl (lv_room (Nat.le_of_ble_eq_true rfl)) dL_law_491 ⟨(by show cells + 0 ≤ 601024; omega), (by show slots + 0 ≤ 7293034; omega)⟩) (fun r_10 z_8 H locs hw_9 hP hD hS => ?_)
  have hP : va_P D vwCl (z_3 ++ (z_8 ++ [(o0, .inl (cL, 1, .inr (.inl og)))])) H := hP.perm (pm (fun a9 => by simp only [cn_cons, cn_app, cn_nil] <;> omega))
  have hD : va_D A (z_3 ++ (z_8 ++ [(o0, .inl (cL, 1, .inr (.inl og)))])) := hD.perm (pm (fun a9 => by simp only [cn_cons, cn_app, cn_nil] <;> omega))
  refine lv_pop hx hb dL_law_494 rfl ?_
  refine lv_goto (tgt := 1165) hx hb dL_law_495 (by decide) ?_
  exact hE z z_3 z_8 og _ _ _ _ _ (by show cells + 0 ≤ cells + 20; omega) (by show slots + 0 ≤ slots + 200; omega) hw_4 hw_9 hP hD hS (lv_sub hl [0, 1, 2, 3, 4] rfl)

set_option maxHeartbeats 4000000 in
set_option maxRecDepth 100000 in
theorem law_c7 {p : Program} {e : Env} {s : State} {m : MethodId} {below : List Frame} {meth : Method} {c : Code} (l : Launch) {b L : Nat} {xs : Nat → Int32} (D : va_G) (A : Nat → Prop) (hx : p.tables.exec = Jvm.exec) (hb : c.code = cL_law) (hr : meth.sig.returnType = ret) (hts : ∀ w ∈ wsL_law, w.before #[Value.ref b] s = true) (hown : s.vm.findClass RL = some m.cls) (hml : c.maxLocals = 7) (hlocks : meth.locks = false) (hA : ∀ q, s.heap.size ≤ q → A q) (hAq : ∀ q, A q → s.heap.size ≤ q) (hbA : ¬ A b) (hX : va_X b L xs s s.heap) (hbl : b < s.heap.size) (hNW : NW s) (hl9 : l.stackTraces = false) (hTW : TW s) (hZ : ZZ A s s.heap) (hL : L ≤ 4096) (cI cM cB cL : ClassId) (xh mh o0 : Nat) (hK : va_K D vwCl [(cI, .int), (cM, .object "OneHandset$Make"), (cB, .object "OneHandset$Box"), (cL, .long)] s) (i : Int32) (h0i : 0 ≤ i.toInt) (h8i : i.toInt + 8 ≤ L) (z : ZT) (wx wm : va_W) (og : Nat → Int64) (hXO : XOK cI cM cB xh z wx) (hMO : MOK cI mh z wm) (H : Heap) (locs : List Loc) (cells slots : Nat) (hP : va_P D vwCl (wx ++ (wm ++ [(o0, .inl (cL, 1, .inr (.inl og)))])) H) (hD : va_D A (wx ++ (wm ++ [(o0, .inl (cL, 1, .inr (.inl og)))]))) (hS : va_S A s.heap H locs) (hcl : cells + 100 ≤ 601024) (hsl : slots + 1000 ≤ 7293034) (ls : Array Slot) (hl : lv_has ls 7 [(4, .int i), (3, .ref o0), (2, .ref mh), (1, .ref xh), (0, .ref b)]) (hE : ∀ (z : ZT) (wx wm : va_W) (og : Nat → Int64) (H : Heap) (locs : List Loc) (ls : Array Slot) (cells2 slots2 : Nat), cells2 ≤ cells + 20 → slots2 ≤ slots + 200 → XOK cI cM cB xh z wx → MOK cI mh z wm → va_P D vwCl (wx ++ (wm ++ [(o0, .inl (cL, 1, .inr (.inl og)))])) H → va_D A (wx ++ (wm ++ [(o0, .inl (cL, 1, .inr (.inl og)))])) → va_S A s.heap H locs → lv_has ls 7 [(4, .int i), (3, .ref o0), (2, .ref mh), (1, .ref xh), (0, .ref b)] → W p l e room_1 s m #[Value.ref b] below meth c H locs cells2 slots2 (lw_Z below #[Value.ref b] s) (F0 m 1165 ls [])) : W p l e room_1 s m #[Value.ref b] below meth c H locs cells slots (lw_Z below #[Value.ref b] s) (F0 m 498 ls []) := by
  refine lv_aload_n hx hb dL_law_498 rfl (lv_at hl 3 rfl) ?_
  obtain ⟨fs_1, hc_2⟩ := (hXO).cell
  refine go_iW (wc := wx) (wr := wm ++ [(o0, .inl (cL, 1, .inr (.inl og)))]) hP hD hS hA (pm (fun a9 => by simp only [cn_cons, cn_app, cn_nil] <;> omega)) (va_runV (As := []) (rest := []) ⟨hx, hb, hml, hown, hts⟩ (TX_which l D H.size cI cM cB xh z wx hXO ) (cwV 0 hts gL_law_X8_which rfl rfl rfl (by decide +kernel) ⟨Nat.le_of_ble_eq_true rfl, Nat.le_of_ble_eq_true rfl⟩) (st_preVW (wr := wm ++ [(o0, .inl (cL, 1, .inr (.inl og)))]) (ci := 7) (q0 := 0) hP (pm (fun a9 => by simp only [cn_cons, cn_app, cn_nil] <;> omega)) hD hK hNW [0, 1, 2] rfl rfl rfl hc_2) rfl rfl hl.1 rfl (lv_room (Nat.le_of_ble_eq_true rfl)) dL_law_499 ⟨(by show cells + 0 ≤ 601024; omega), (by show slots + 0 ≤ 7293034; omega)⟩) (fun r_5 z_3 H locs hw_4 hP hD hS => ?_)
  have hP : va_P D vwCl (z_3 ++ (wm ++ [(o0, .inl (cL, 1, .inr (.inl og)))])) H := hP.perm (pm (fun a9 => by simp only [cn_cons, cn_app, cn_nil] <;> omega))
  have hD : va_D A (z_3 ++ (wm ++ [(o0, .inl (cL, 1, .inr (.inl og)))])) := hD.perm (pm (fun a9 => by simp only [cn_cons, cn_app, cn_nil] <;> omega))
  refine lv_pop hx hb dL_law_502 rfl ?_
  refine lv_aload_n hx hb dL_law_503 rfl (lv_at hl 2 rfl) ?_
  obtain ⟨fs_6, hc_7⟩ := (hMO).cell
  refine go_iW (wc := wm) (wr := z_3 ++ [(o0, .inl (cL, 1, .inr (.inl og)))]) hP hD hS hA (pm (fun a9 => by simp only [cn_cons, cn_app, cn_nil] <;> omega)) (va_runV (As := []) (rest := []) ⟨hx, hb, hml, hown, hts⟩ (TM_which_ l D H.size cI mh z wm hMO ) (cwV 0 hts gL_law_X9_which_ rfl rfl rfl (by decide +kernel) ⟨Nat.le_of_ble_eq_true rfl, Nat.le_of_ble_eq_true rfl⟩) (st_preVW (wr := z_3 ++ [(o0, .inl (cL, 1, .inr (.inl og)))]) (ci := 8) (q0 := 0) hP (pm (fun a9 => by simp only [cn_cons, cn_app, cn_nil] <;> omega)) hD hK hNW [0] rfl rfl rfl hc_7) rfl rfl hl.1 rfl (lv_room (Nat.le_of_ble_eq_true rfl)) dL_law_504 ⟨(by show cells + 0 ≤ 601024; omega), (by show slots + 0 ≤ 7293034; omega)⟩) (fun r_10 z_8 H locs hw_9 hP hD hS => ?_)
  have hP : va_P D vwCl (z_3 ++ (z_8 ++ [(o0, .inl (cL, 1, .inr (.inl og)))])) H := hP.perm (pm (fun a9 => by simp only [cn_cons, cn_app, cn_nil] <;> omega))
  have hD : va_D A (z_3 ++ (z_8 ++ [(o0, .inl (cL, 1, .inr (.inl og)))])) := hD.perm (pm (fun a9 => by simp only [cn_cons, cn_app, cn_nil] <;> omega))
  refine lv_pop hx hb dL_law_507 rfl ?_
  refine lv_goto (tgt := 1165) hx hb dL_law_508 (by decide) ?_
  exact hE z z_3 z_8 og _ _ _ _ _ (by show cells + 0 ≤ cells + 20; omega) (by show slots + 0 ≤ slots + 200; omega) hw_4 hw_9 hP hD hS (lv_sub hl [0, 1, 2, 3, 4] rfl)

set_option maxHeartbeats 4000000 in
set_option maxRecDepth 100000 in
theorem law_c8 {p : Program} {e : Env} {s : State} {m : MethodId} {below : List Frame} {meth : Method} {c : Code} (l : Launch) {b L : Nat} {xs : Nat → Int32} (D : va_G) (A : Nat → Prop) (hx : p.tables.exec = Jvm.exec) (hb : c.code = cL_law) (hr : meth.sig.returnType = ret) (hts : ∀ w ∈ wsL_law, w.before #[Value.ref b] s = true) (hown : s.vm.findClass RL = some m.cls) (hml : c.maxLocals = 7) (hlocks : meth.locks = false) (hA : ∀ q, s.heap.size ≤ q → A q) (hAq : ∀ q, A q → s.heap.size ≤ q) (hbA : ¬ A b) (hX : va_X b L xs s s.heap) (hbl : b < s.heap.size) (hNW : NW s) (hl9 : l.stackTraces = false) (hTW : TW s) (hZ : ZZ A s s.heap) (hL : L ≤ 4096) (cI cM cB cL : ClassId) (xh mh o0 : Nat) (hK : va_K D vwCl [(cI, .int), (cM, .object "OneHandset$Make"), (cB, .object "OneHandset$Box"), (cL, .long)] s) (i : Int32) (h0i : 0 ≤ i.toInt) (h8i : i.toInt + 8 ≤ L) (z : ZT) (wx wm : va_W) (og : Nat → Int64) (hXO : XOK cI cM cB xh z wx) (hMO : MOK cI mh z wm) (H : Heap) (locs : List Loc) (cells slots : Nat) (hP : va_P D vwCl (wx ++ (wm ++ [(o0, .inl (cL, 1, .inr (.inl og)))])) H) (hD : va_D A (wx ++ (wm ++ [(o0, .inl (cL, 1, .inr (.inl og)))]))) (hS : va_S A s.heap H locs) (hcl : cells + 100 ≤ 601024) (hsl : slots + 1000 ≤ 7293034) (ls : Array Slot) (hl : lv_has ls 7 [(4, .int i), (3, .ref o0), (2, .ref mh), (1, .ref xh), (0, .ref b)]) (hE : ∀ (z : ZT) (wx wm : va_W) (og : Nat → Int64) (H : Heap) (locs : List Loc) (ls : Array Slot) (cells2 slots2 : Nat), cells2 ≤ cells + 20 → slots2 ≤ slots + 200 → XOK cI cM cB xh z wx → MOK cI mh z wm → va_P D vwCl (wx ++ (wm ++ [(o0, .inl (cL, 1, .inr (.inl og)))])) H → va_D A (wx ++ (wm ++ [(o0, .inl (cL, 1, .inr (.inl og)))])) → va_S A s.heap H locs → lv_has ls 7 [(4, .int i), (3, .ref o0), (2, .ref mh), (1, .ref xh), (0, .ref b)] → W p l e room_1 s m #[Value.ref b] below meth c H locs cells2 slots2 (lw_Z below #[Value.ref b] s) (F0 m 1165 ls [])) : W p l e room_1 s m #[Value.ref b] below meth c H locs cells slots (lw_Z below #[Value.ref b] s) (F0 m 511 ls []) := by
  refine lv_aload_n hx hb dL_law_511 rfl (lv_at hl 3 rfl) ?_
  refine lv_aload_n hx hb dL_law_512 rfl (lv_at hl 4 rfl) ?_
  refine lv_iload hx hb dL_law_513 (lv_at hl 0 rfl) ?_
  refine lv_iconst (v := 1) hx hb dL_law_515 (by decide) ?_
  refine lv_iadd hx hb dL_law_516 ?_
  refine va_sld hx hb hX hbl hbA hS (sx_in 1 (by decide) (by decide) h0i h8i hL) dL_law_517 ?_
  obtain ⟨fs_1, hc_2⟩ := (hXO).cell
  refine go_iW (wc := wx) (wr := wm ++ [(o0, .inl (cL, 1, .inr (.inl og)))]) hP hD hS hA (pm (fun a9 => by simp only [cn_cons, cn_app, cn_nil] <;> omega)) (va_runV (As := [.int (xs (Int32.toNatClampNeg (i + 1)))]) (rest := []) ⟨hx, hb, hml, hown, hts⟩ (TX_stretch l D H.size cI cM cB xh z wx hXO (xs (Int32.toNatClampNeg (i + 1)))) (cwV 1 hts gL_law_X8_stretch rfl rfl rfl (by decide +kernel) ⟨Nat.le_of_ble_eq_true rfl, Nat.le_of_ble_eq_true rfl⟩) (st_preVW (wr := wm ++ [(o0, .inl (cL, 1, .inr (.inl og)))]) (ci := 7) (q0 := 0) hP (pm (fun a9 => by simp only [cn_cons, cn_app, cn_nil] <;> omega)) hD hK hNW [0, 1, 2] rfl rfl rfl hc_2) rfl rfl hl.1 rfl (lv_room (Nat.le_of_ble_eq_true rfl)) dL_law_518 ⟨(by show cells + 0 ≤ 601024; omega), (by show slots + 0 ≤ 7293034; omega)⟩) (fun r_5 z_3 H locs hw_4 hP hD hS => ?_)
  obtain ⟨hst_7, ho_6⟩ := hw_4
  have hP : va_P D vwCl (z_3 ++ (wm ++ [(o0, .inl (cL, 1, .inr (.inl og)))])) H := hP.perm (pm (fun a9 => by simp only [cn_cons, cn_app, cn_nil] <;> omega))
  have hD : va_D A (z_3 ++ (wm ++ [(o0, .inl (cL, 1, .inr (.inl og)))])) := hD.perm (pm (fun a9 => by simp only [cn_cons, cn_app, cn_nil] <;> omega))
  refine lv_pop hx hb dL_law_521 rfl ?_
  refine lv_aload_n hx hb dL_law_522 rfl (lv_at hl 2 rfl) ?_
  refine lv_aload_n hx hb dL_law_523 rfl (lv_at hl 4 rfl) ?_
  refine lv_iload hx hb dL_law_524 (lv_at hl 0 rfl) ?_
  refine lv_iconst (v := 1) hx hb dL_law_526 (by decide) ?_
  refine lv_iadd hx hb dL_law_527 ?_
  refine va_sld hx hb hX hbl hbA hS (sx_in 1 (by decide) (by decide) h0i h8i hL) dL_law_528 ?_
  obtain ⟨fs_8, hc_9⟩ := (hMO).cell
  refine go_iW (wc := wm) (wr := z_3 ++ [(o0, .inl (cL, 1, .inr (.inl og)))]) hP hD hS hA (pm (fun a9 => by simp only [cn_cons, cn_app, cn_nil] <;> omega)) (va_runV (As := [.int (xs (Int32.toNatClampNeg (i + 1)))]) (rest := []) ⟨hx, hb, hml, hown, hts⟩ (TM_stretch l D H.size cI mh z wm hMO (xs (Int32.toNatClampNeg (i + 1)))) (cwV 1 hts gL_law_X9_stretch rfl rfl rfl (by decide +kernel) ⟨Nat.le_of_ble_eq_true rfl, Nat.le_of_ble_eq_true rfl⟩) (st_preVW (wr := z_3 ++ [(o0, .inl (cL, 1, .inr (.inl og)))]) (ci := 8) (q0 := 0) hP (pm (fun a9 => by simp only [cn_cons, cn_app, cn_nil] <;> omega)) hD hK hNW [0] rfl rfl rfl hc_9) rfl rfl hl.1 rfl (lv_room (Nat.le_of_ble_eq_true rfl)) dL_law_529 ⟨(by show cells + 0 ≤ 601024; omega), (by show slots + 0 ≤ 7293034; omega)⟩) (fun r_12 z_10 H locs hw_11 hP hD hS => ?_)
  obtain ⟨hst_14, ho_13⟩ := hw_11
  have hP : va_P D vwCl (z_3 ++ (z_10 ++ [(o0, .inl (cL, 1, .inr (.inl og)))])) H := hP.perm (pm (fun a9 => by simp only [cn_cons, cn_app, cn_nil] <;> omega))
  have hD : va_D A (z_3 ++ (z_10 ++ [(o0, .inl (cL, 1, .inr (.inl og)))])) := hD.perm (pm (fun a9 => by simp only [cn_cons, cn_app, cn_nil] <;> omega))
  refine lv_pop hx hb dL_law_532 rfl ?_
  refine lv_goto (tgt := 1165) hx hb dL_law_533 (by decide) ?_
  exact hE z z_3 z_10 og _ _ _ _ _ (by show cells + 0 ≤ cells + 20; omega) (by show slots + 0 ≤ slots + 200; omega) ho_6 ho_13 hP hD hS (lv_sub hl [0, 1, 2, 3, 4] rfl)

