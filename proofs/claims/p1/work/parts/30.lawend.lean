set_option maxHeartbeats 4000000 in
set_option maxRecDepth 100000 in
theorem law_end {p : Program} {e : Env} {s : State} {m : MethodId} {below : List Frame} {meth : Method} {c : Code} (l : Launch) {b L : Nat} {xs : Nat → Int32} (D : va_G) (A : Nat → Prop) (hx : p.tables.exec = Jvm.exec) (hb : c.code = cL_law) (hr : meth.sig.returnType = ret) (hts : ∀ w ∈ wsL_law, w.before #[Value.ref b] s = true) (hown : s.vm.findClass RL = some m.cls) (hml : c.maxLocals = 7) (hlocks : meth.locks = false) (hA : ∀ q, s.heap.size ≤ q → A q) (hAq : ∀ q, A q → s.heap.size ≤ q) (hbA : ¬ A b) (hX : va_X b L xs s s.heap) (hbl : b < s.heap.size) (hNW : NW s) (hl9 : l.stackTraces = false) (hTW : TW s) (hZ : ZZ A s s.heap) (H : Heap) (locs : List Loc) (cells slots : Nat) (hc : cells ≤ 600002) (hs : slots ≤ 7302232) (hS : va_S A s.heap H locs) (ls : Array Slot) (hl : lv_has ls 7 [(4, .int 0), (0, .ref b)]) (hL8 : L = 8) : W p l e room_1 s m #[Value.ref b] below meth c H locs cells slots (lw_Z below #[Value.ref b] s) (F0 m 1193 ls []) := by
  subst hL8
  refine lv_iinc (v := 8) (lv' := [(4, .int 8), (0, .ref b)]) hx hb dL_law_1193 hl (k := 0) rfl (by decide) (by decide) rfl (fun ls hl => ?_)
  refine lv_goto (tgt := 23) hx hb dL_law_1196 (by decide) ?_
  refine lv_iload hx hb dL_law_23 (lv_at hl 0 rfl) ?_
  refine lv_aload_n hx hb dL_law_25 rfl (lv_at hl 1 rfl) ?_
  refine va_slen hx hb hX hbl hbA hS dL_law_26 ?_
  refine lv_topi (fun v_1 ev_1 => ?_)
  obtain rfl : v_1 = (8 : Int32) := ev_1.trans rfl
  refine lv_bipush (v := 8) hx hb dL_law_27 (by decide) ?_
  refine lv_isub hx hb dL_law_29 ?_
  refine lv_topi (fun v_2 ev_2 => ?_)
  obtain rfl : v_2 = (0 : Int32) := ev_2.trans (by decide)
  refine lv_icmp_gt (tgt := 1199) hx hb dL_law_30 (by decide) (fun _ => ?_) (fun c_3 => absurd (by decide) c_3)
  refine lv_iconst (v := 1) hx hb dL_law_1199 (by decide) ?_
  refine va_forget (fun q hq => hAq _ (hS.2.2 q hq)) ?_
  refine W.widen (k := 600002) (n := 7302232) hc hs ?_
  exact lw_ret hx hb hr hlocks dL_law_1200
