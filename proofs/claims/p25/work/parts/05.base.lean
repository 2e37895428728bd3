/-- the nest's words of fields, of methods, and the classes that arrays are made over -/
def nw_F : List (String × Nat × String × String × String × String) := [("OneHandset$Make", 34, "OneHandset$Tape", "size", "I", "OneHandset"), ("OneHandset", 81, "OneHandset$Tape", "size", "I", "OneHandset"), ("OneHandset$HalvesForm", 31, "OneHandset$Tape", "size", "I", "OneHandset"), ("OneHandset$PairsForm", 51, "OneHandset$Tape", "size", "I", "OneHandset"), ("OneHandset", 190, "OneHandset$Box", "states", "I", "OneHandset"), ("OneHandset$Route", 43, "OneHandset$Box", "buttons", "I", "OneHandset"), ("OneHandset", 193, "OneHandset$Box", "buttons", "I", "OneHandset"), ("OneHandset$Route", 34, "OneHandset$Box", "maybe", "I", "OneHandset"), ("OneHandset", 177, "OneHandset$Box", "maybe", "I", "OneHandset"), ("OneHandset", 196, "OneHandset$Route", "length", "I", "OneHandset"), ("OneHandset", 127, "OneHandset$Keys", "flip", "I", "OneHandset"), ("OneHandset", 136, "OneHandset$Keys", "flipBit", "I", "OneHandset"), ("OneHandset", 130, "OneHandset$Keys", "learnt", "I", "OneHandset"), ("OneHandset", 133, "OneHandset$Keys", "fixed", "I", "OneHandset"), ("OneHandset", 124, "OneHandset$Make", "kind", "I", "OneHandset"), ("OneHandset", 68, "OneHandset$Make", "bits", "I", "OneHandset"), ("OneHandset", 71, "OneHandset$Make", "keys", "LOneHandset$Keys;", "OneHandset"), ("OneHandset", 65, "OneHandset$Make", "miss", "I", "OneHandset")]
def nw_M : List (String × Nat × MethodName × String) := [(RX8, 11, yX7_init, RX8), (RX0, 26, yX8_lowBits, RX8), (RX8, 35, yX6_init, RX8), (RX2, 3, yX1_init, RX8), (RX5, 3, yX1_init, RX8), (RX3, 60, yX8_lowBits, RX8), (RX8, 75, yX3_startWithFlip, RX8), (RX7, 19, yX8_within, RX8), (RX2, 38, yX8_nearerOf, RX8), (RX2, 42, yX8_fault, RX8), (RX5, 54, yX8_fault, RX8), (RX5, 60, yX8_nearerOf, RX8), (RX5, 64, yX8_fits, RX8), (RX7, 23, yX8_isTime, RX8), (RX3, 41, yX8_within, RX8), (RX8, 161, yX0_startAnew, RX8), (RX0, 39, yX8_within, RX8), (RX6, 49, yX8_within, RX8)]
def nw_A : List String := ["OneHandset$Box", "OneHandset$Make"]
def nw_D : List MethodName := [⟨"OneHandset$Form", "write", "(ILOneHandset$Tape;)V"⟩, ⟨"OneHandset$Form", "decode", "(LOneHandset$Tape;I)I"⟩]
def NW (U : State) : Prop := (∀ q ∈ nw_F, va_Nw (.fieldLinkNest q.1 q.2.1 q.2.2.1 q.2.2.2.1 q.2.2.2.2.1 q.2.2.2.2.2) U) ∧ (∀ q ∈ nw_M, va_Nw (.methodLinkNest q.1 q.2.1 q.2.2.1 q.2.2.2) U) ∧ (∀ C ∈ nw_A, va_AO C U) ∧ ∀ x ∈ nw_D, va_Nw (.declares x) U
theorem NW.warm {s U : State} (h : NW s) (hW : s.WarmedH U.vm) : NW U := ⟨fun q hq => va_Nw.warmF hW (h.1 q hq), fun q hq => va_Nw.warmM hW (h.2.1 q hq), fun C hC => va_AO.moved hW.alike (h.2.2.1 C hC), fun x hx => va_Nw.warmD hW (h.2.2.2 x hx)⟩
theorem NW.call {U : State} (g : JFrame) (mk : MethodId) (a : Array Value) (h : NW U) : NW (U.calling g mk a) := ⟨fun q hq => va_tabs rfl (u := U) rfl (h.1 q hq), fun q hq => va_tabs rfl (u := U) rfl (h.2.1 q hq), fun C hC => va_AO.moved (u := U) (Vm.Alike.refl U.vm) (h.2.2.1 C hC), fun x hx => va_tabs rfl (u := U) rfl (h.2.2.2 x hx)⟩
/-- a contract's start and end: a world before, a world behind, the answer's word -/
def st_Pc (D : va_G) (av : List Value) (ws : va_W) (tys : List (ClassId × FieldType)) (sz : Nat) : Array Value → State → Prop := va_Pc av (fun U => U.heap.size = sz ∧ va_P D vwCl ws U.heap ∧ va_K D vwCl tys U ∧ va_D (fun _ => True) ws ∧ NW U)
theorem st_blind {D : va_G} {av : List Value} {ws : va_W} {tys : List (ClassId × FieldType)} {sz : Nat} : FrameBlind (st_Pc D av ws tys sz) := fun a U g mk q => by
  obtain ⟨q0, q1, qP, qK, qD, qN⟩ := q
  exact ⟨q0, q1, qP, va_K.moved (u := U) (U := U.calling g mk a) (Vm.Alike.refl U.vm) qK, qD, NW.call g mk a qN⟩
def st_B (D : va_G) (A : Nat → Prop) {S : Type} (ws' : S → va_W) (tys' : S → List (ClassId × FieldType)) (u : S) (t : State) : Prop := va_P D vwCl (ws' u) t.heap ∧ va_K D vwCl (tys' u) t ∧ va_D A (ws' u)
def Ci (l : Launch) (y : MethodName) (wl : List Cond) (rm : Room) (D : va_G) (av : List Value) (ws : va_W) (tys : List (ClassId × FieldType)) (sz : Nat) {S : Type} (post : Int32 → S → Prop) (ws' : S → va_W) (tys' : S → List (ClassId × FieldType)) : Prop :=
  Met l y wl rm (st_Pc D av ws tys sz) (va_Qi post (st_B D (va_A ws sz) ws' tys') (va_A ws sz)) rm.cells rm.slots (va_A ws sz)
def Cv (l : Launch) (y : MethodName) (wl : List Cond) (rm : Room) (D : va_G) (av : List Value) (ws : va_W) (tys : List (ClassId × FieldType)) (sz : Nat) {S : Type} (post : S → Prop) (ws' : S → va_W) (tys' : S → List (ClassId × FieldType)) : Prop :=
  Met l y wl rm (st_Pc D av ws tys sz) (va_Qv post (st_B D (va_A ws sz) ws' tys') (va_A ws sz)) rm.cells rm.slots (va_A ws sz)
def Cq (l : Launch) (y : MethodName) (wl : List Cond) (rm : Room) (D : va_G) (av : List Value) (ws : va_W) (tys : List (ClassId × FieldType)) (sz : Nat) {S : Type} (post : Option Nat → S → Prop) (ws' : S → va_W) (tys' : S → List (ClassId × FieldType)) : Prop :=
  Met l y wl rm (st_Pc D av ws tys sz) (va_Qq post (st_B D (va_A ws sz) ws' tys') (va_A ws sz)) rm.cells rm.slots (va_A ws sz)
/-- a contract's proof begins -/
theorem ct_of {l : Launch} {y : MethodName} {wl wl' : List Cond} {rm : Room} {D : va_G} {av : List Value} {ws : va_W} {tys : List (ClassId × FieldType)} {sz : Nat} {Qc : (Nat → Prop) → Array Value → State → Outcome → State → Prop} {mc ms : Nat} {cc : ByteArray} {maxL : Nat} {ret : Option FieldType}
    (hy : plainName y.cls = true) (hw : wl = Cond.code y cc maxL ret :: wl') (hn : (lg_sl av).length ≤ maxL)
    (body : ∀ (p : Program) (e : Env) (s : State) (m : MethodId) (below : List Frame) (meth : Method) (c : Code) (A : Nat → Prop) (ls : Array Slot) (H : Heap), p.tables.exec = Jvm.exec → c.code = cc → meth.sig.returnType = ret → (∀ w ∈ wl, w.before av.toArray s = true) → s.vm.findClass y.cls = some m.cls → c.maxLocals = maxL → meth.locks = false → meth.name = y.name → (∀ q, s.heap.size ≤ q → A q) → va_S A s.heap H [] → va_P D vwCl ws H → va_K D vwCl tys s → va_D A ws → NW s → lv_has ls maxL (lv_args 0 av) → A = va_A ws sz → s.heap.size = sz →
      W p l e rm s m av.toArray below meth c H [] 0 0 (MQ below (Qc A) av.toArray s mc ms A) (F0 m 0 ls [])) : Met l y wl rm (st_Pc D av ws tys sz) (Qc (va_A ws sz)) mc ms (va_A ws sz) := by
  refine Met.ofW (cc := cc) (maxL := maxL) (ret := ret) hy hw ?_
  intro p e s m args below meth c s₁ B hml hv
  obtain ⟨rfl, hsz, hP, hK, hD0, hN⟩ := hv
  have hD : va_D (va_A ws sz) ws := by subst hsz; exact hD0.self (sz := s.heap.size)
  have hl := lv_entry av (n := maxL) hn
  rw [lg_entry_eq]
  exact body p e s m below meth c (va_A ws sz) _ s.heap B.exec B.bytes B.returns (atoms_spec (ws := wl) B.pre) (findClass_of_methodNamed B.named) hml B.notSynchronized (name_of_methodNamed B.named B.method).1 (fun q h => Or.inr (hsz ▸ h)) va_S.rf hP hK hD hN hl rfl hsz
theorem ct_i {l : Launch} {y : MethodName} {wl wl' : List Cond} {rm : Room} {D : va_G} {av : List Value} {ws : va_W} {tys : List (ClassId × FieldType)} {sz : Nat} {S : Type} {post : Int32 → S → Prop} {ws' : S → va_W} {tys' : S → List (ClassId × FieldType)} {cc : ByteArray} {maxL : Nat} {ret : Option FieldType}
    (hy : plainName y.cls = true) (hw : wl = Cond.code y cc maxL ret :: wl') (hn : (lg_sl av).length ≤ maxL)
    (body : ∀ (p : Program) (e : Env) (s : State) (m : MethodId) (below : List Frame) (meth : Method) (c : Code) (A : Nat → Prop) (ls : Array Slot) (H : Heap), p.tables.exec = Jvm.exec → c.code = cc → meth.sig.returnType = ret → (∀ w ∈ wl, w.before av.toArray s = true) → s.vm.findClass y.cls = some m.cls → c.maxLocals = maxL → meth.locks = false → meth.name = y.name → (∀ q, s.heap.size ≤ q → A q) → va_S A s.heap H [] → va_P D vwCl ws H → va_K D vwCl tys s → va_D A ws → NW s → lv_has ls maxL (lv_args 0 av) → A = va_A ws sz → s.heap.size = sz →
      W p l e rm s m av.toArray below meth c H [] 0 0 (MQ below (va_Qi post (st_B D A ws' tys') A) av.toArray s rm.cells rm.slots A) (F0 m 0 ls [])) : Ci l y wl rm D av ws tys sz post ws' tys' :=
  ct_of (Qc := fun A => va_Qi post (st_B D A ws' tys') A) hy hw hn body
theorem ct_v {l : Launch} {y : MethodName} {wl wl' : List Cond} {rm : Room} {D : va_G} {av : List Value} {ws : va_W} {tys : List (ClassId × FieldType)} {sz : Nat} {S : Type} {post : S → Prop} {ws' : S → va_W} {tys' : S → List (ClassId × FieldType)} {cc : ByteArray} {maxL : Nat} {ret : Option FieldType}
    (hy : plainName y.cls = true) (hw : wl = Cond.code y cc maxL ret :: wl') (hn : (lg_sl av).length ≤ maxL)
    (body : ∀ (p : Program) (e : Env) (s : State) (m : MethodId) (below : List Frame) (meth : Method) (c : Code) (A : Nat → Prop) (ls : Array Slot) (H : Heap), p.tables.exec = Jvm.exec → c.code = cc → meth.sig.returnType = ret → (∀ w ∈ wl, w.before av.toArray s = true) → s.vm.findClass y.cls = some m.cls → c.maxLocals = maxL → meth.locks = false → meth.name = y.name → (∀ q, s.heap.size ≤ q → A q) → va_S A s.heap H [] → va_P D vwCl ws H → va_K D vwCl tys s → va_D A ws → NW s → lv_has ls maxL (lv_args 0 av) → A = va_A ws sz → s.heap.size = sz →
      W p l e rm s m av.toArray below meth c H [] 0 0 (MQ below (va_Qv post (st_B D A ws' tys') A) av.toArray s rm.cells rm.slots A) (F0 m 0 ls [])) : Cv l y wl rm D av ws tys sz post ws' tys' :=
  ct_of (Qc := fun A => va_Qv post (st_B D A ws' tys') A) hy hw hn body
theorem ct_q {l : Launch} {y : MethodName} {wl wl' : List Cond} {rm : Room} {D : va_G} {av : List Value} {ws : va_W} {tys : List (ClassId × FieldType)} {sz : Nat} {S : Type} {post : Option Nat → S → Prop} {ws' : S → va_W} {tys' : S → List (ClassId × FieldType)} {cc : ByteArray} {maxL : Nat} {ret : Option FieldType}
    (hy : plainName y.cls = true) (hw : wl = Cond.code y cc maxL ret :: wl') (hn : (lg_sl av).length ≤ maxL)
    (body : ∀ (p : Program) (e : Env) (s : State) (m : MethodId) (below : List Frame) (meth : Method) (c : Code) (A : Nat → Prop) (ls : Array Slot) (H : Heap), p.tables.exec = Jvm.exec → c.code = cc → meth.sig.returnType = ret → (∀ w ∈ wl, w.before av.toArray s = true) → s.vm.findClass y.cls = some m.cls → c.maxLocals = maxL → meth.locks = false → meth.name = y.name → (∀ q, s.heap.size ≤ q → A q) → va_S A s.heap H [] → va_P D vwCl ws H → va_K D vwCl tys s → va_D A ws → NW s → lv_has ls maxL (lv_args 0 av) → A = va_A ws sz → s.heap.size = sz →
      W p l e rm s m av.toArray below meth c H [] 0 0 (MQ below (va_Qq post (st_B D A ws' tys') A) av.toArray s rm.cells rm.slots A) (F0 m 0 ls [])) : Cq l y wl rm D av ws tys sz post ws' tys' :=
  ct_of (Qc := fun A => va_Qq post (st_B D A ws' tys') A) hy hw hn body
section KC
variable {p : Program} {l : Launch} {e : Env} {R : Room} {s : State} {m : MethodId} {args : Array Value} {below : List Frame} {meth : Method} {c : Code} {H : Heap} {locs : List Loc} {cells slots : Nat} {Q : State → Prop}
variable {D : va_G} {ws wc wr : va_W} {tys tysc tysr : List (ClassId × FieldType)} {A : Nat → Prop} {H0 : Heap} {pc : Nat} {ls : Array Slot} {rest st0 : List Value} {cc : ByteArray} {mc ms : Nat}
/-- a method's end -/
theorem ret_i {S : Type} {post : Int32 → S → Prop} {ws' : S → va_W} {tys' : S → List (ClassId × FieldType)} {ty : FieldType} {v : Int32} (hx : p.tables.exec = Jvm.exec) (hb : c.code = cc) (hr : meth.sig.returnType = some ty) (hlocks : meth.locks = false) (hn : narrow ty (.int v) = .int v) (u : S) (hp : post v u) (hP : va_P D vwCl (ws' u) H) (hK : va_K D vwCl (tys' u) s) (hD : va_D A (ws' u)) (hS : va_S A s.heap H locs) (hc : cells ≤ mc) (hs : slots ≤ ms) (hdg : decode cc pc = .ok (.ireturn, 1)) :
    W p l e R s m args below meth c H locs cells slots (MQ below (va_Qi post (st_B D A ws' tys') A) args s mc ms A) (F0 m pc ls [.int v]) :=
  W.widen hc hs (W.zret hx hb hr hn (fun t ht hW => ⟨⟨v, u, rfl, hp, by rw [ht]; exact hP, va_K.moved hW.alike hK, hD⟩, hS.F ht⟩) hS.2.2 hdg hlocks)
theorem ret_v {S : Type} {post : S → Prop} {ws' : S → va_W} {tys' : S → List (ClassId × FieldType)} (hx : p.tables.exec = Jvm.exec) (hb : c.code = cc) (hr : meth.sig.returnType = none) (hlocks : meth.locks = false) (u : S) (hp : post u) (hP : va_P D vwCl (ws' u) H) (hK : va_K D vwCl (tys' u) s) (hD : va_D A (ws' u)) (hS : va_S A s.heap H locs) (hc : cells ≤ mc) (hs : slots ≤ ms) (hdg : decode cc pc = .ok (.return_, 1)) :
    W p l e R s m args below meth c H locs cells slots (MQ below (va_Qv post (st_B D A ws' tys') A) args s mc ms A) (F0 m pc ls []) :=
  W.widen hc hs (W.vret hx hb hr (fun t ht hW => ⟨⟨u, rfl, hp, by rw [ht]; exact hP, va_K.moved hW.alike hK, hD⟩, hS.F ht⟩) hS.2.2 hdg hlocks)
theorem ret_q {S : Type} {post : Option Nat → S → Prop} {ws' : S → va_W} {tys' : S → List (ClassId × FieldType)} {rt : FieldType} (r : Option Nat) {v : Value} (hv : v = va_rf r) (hx : p.tables.exec = Jvm.exec) (hb : c.code = cc) (hr : meth.sig.returnType = some rt) (hlocks : meth.locks = false) (hrt : (∃ n, rt = .object n) ∨ ∃ t, rt = .array t) (u : S) (hp : post r u) (hP : va_P D vwCl (ws' u) H) (hK : va_K D vwCl (tys' u) s) (hD : va_D A (ws' u)) (hS : va_S A s.heap H locs) (hc : cells ≤ mc) (hs : slots ≤ ms) (hdg : decode cc pc = .ok (.areturn, 1)) :
    W p l e R s m args below meth c H locs cells slots (MQ below (va_Qq post (st_B D A ws' tys') A) args s mc ms A) (F0 m pc ls [v]) := by
  subst hv
  exact W.widen hc hs (W.aret hx hb hr hrt (va_rf_or r) (fun t ht hW => ⟨⟨r, u, rfl, hp, by rw [ht]; exact hP, va_K.moved hW.alike hK, hD⟩, hS.F ht⟩) hS.2.2 hdg hlocks)
/-- a callee's start out of the caller's world -/
theorem st_preS {av : List Value} (hP : va_P D vwCl ws H) (hD : va_D A ws) (hK : va_K D vwCl tys s) (hN : NW s) (isC isT : List Nat) (hC : isC.map (fun i => ws[i]?) = wc.map some) (hC2 : isC.filterMap (fun i => ws[i]?) = wc) (hnd : va_nd isC = true) (hT : isT.filterMap (fun i => tys[i]?) = tysc) : PreS s H (st_Pc D av wc tysc H.size) av :=
  ⟨st_blind, fun U hU hW => ⟨rfl, by rw [hU], by rw [hU]; exact hP.sub isC hC2, va_K.moved hW.alike (hK.sub isT hT), (hD.sub isC hnd hC).weaken (fun _ _ _ _ => trivial), hN.warm hW⟩⟩
theorem st_preV {C : String} {b : Nat} {As : List Value} {ci q0 : Nat} {fs : List Value} {q : vw_C} (hP : va_P D vwCl ws H) (hD : va_D A ws) (hK : va_K D vwCl tys s) (hN : NW s) (isC isT : List Nat) (hC : isC.map (fun i => ws[i]?) = wc.map some) (hC2 : isC.filterMap (fun i => ws[i]?) = wc) (hnd : va_nd isC = true) (hT : isT.filterMap (fun i => tys[i]?) = tysc) (hc : vwCl[ci]? = some q) (hq : q.1 = C) (he : ws[q0]? = some (b, .inr (ci, fs))) : PreV s H C b (st_Pc D (Value.ref b :: As) wc tysc H.size) As := by
  subst hq
  exact ⟨st_blind, va_recv hK hP hc he, (st_preS hP hD hK hN isC isT hC hC2 hnd hT).2⟩
/-- behind a call -/
theorem go_i {S : Type} {post : Int32 → S → Prop} {ws' : S → va_W} {tys' : S → List (ClassId × FieldType)} {a : Array Value} (hP : va_P D vwCl ws H) (hD : va_D A ws) (hS : va_S A H0 H locs) (hA : ∀ q, H0.size ≤ q → A q) (hK : va_K D vwCl tys s) (isC isR isT : List Nat) (hC : isC.map (fun i => ws[i]?) = wc.map some) (hR : isR.map (fun i => ws[i]?) = wr.map some) (hn : va_nd isR = true) (hdis : ∀ i ∈ isR, i ∉ isC) (hT : isT.filterMap (fun i => tys[i]?) = tysr)
    (hr : va_Run p l e R s m args below meth c H locs cells slots mc ms (F0 m pc ls st0) rest (va_Qi post (st_B D (va_A wc H.size) ws' tys') (va_A wc H.size) a) (va_A wc H.size))
    (kk : ∀ (r : Int32) (u : S) (H1 : Heap) (locs1 : List Loc), post r u → va_P D vwCl (wr ++ ws' u) H1 → va_D A (wr ++ ws' u) → va_K D vwCl (tysr ++ tys' u) s → va_S A H0 H1 locs1 → W p l e R s m args below meth c H1 locs1 (cells + mc) (slots + ms) Q (F0 m (pc + 3) ls (.int r :: rest))) : W p l e R s m args below meth c H locs cells slots Q (F0 m pc ls st0) := by
  have hF := va_free (wc := wc) hD hS hA isC hC
  refine va_calli hr hS (fun q _ h => hF q h) hF (fun r u t H1 locs1 ht hvm hw hB hz1 hk1 hS => ?_)
  obtain ⟨hP1, hK1, hD1⟩ := hB
  rw [ht] at hP1
  obtain ⟨hP, hD⟩ := va_join (wr := wr) (w1 := ws' u) hP hD isC isR hC hR hn hdis hk1 hF hP1 hD1
  exact kk r u H1 locs1 hw hP hD ((hK.sub isT hT).app (va_K.moved hvm.symm hK1)) hS
theorem go_v {S : Type} {post : S → Prop} {ws' : S → va_W} {tys' : S → List (ClassId × FieldType)} {a : Array Value} (hP : va_P D vwCl ws H) (hD : va_D A ws) (hS : va_S A H0 H locs) (hA : ∀ q, H0.size ≤ q → A q) (hK : va_K D vwCl tys s) (isC isR isT : List Nat) (hC : isC.map (fun i => ws[i]?) = wc.map some) (hR : isR.map (fun i => ws[i]?) = wr.map some) (hn : va_nd isR = true) (hdis : ∀ i ∈ isR, i ∉ isC) (hT : isT.filterMap (fun i => tys[i]?) = tysr)
    (hr : va_Run p l e R s m args below meth c H locs cells slots mc ms (F0 m pc ls st0) rest (va_Qv post (st_B D (va_A wc H.size) ws' tys') (va_A wc H.size) a) (va_A wc H.size))
    (kk : ∀ (u : S) (H1 : Heap) (locs1 : List Loc), post u → va_P D vwCl (wr ++ ws' u) H1 → va_D A (wr ++ ws' u) → va_K D vwCl (tysr ++ tys' u) s → va_S A H0 H1 locs1 → W p l e R s m args below meth c H1 locs1 (cells + mc) (slots + ms) Q (F0 m (pc + 3) ls rest)) : W p l e R s m args below meth c H locs cells slots Q (F0 m pc ls st0) := by
  have hF := va_free (wc := wc) hD hS hA isC hC
  refine va_callv hr hS (fun q _ h => hF q h) hF (fun u t H1 locs1 ht hvm hw hB hz1 hk1 hS => ?_)
  obtain ⟨hP1, hK1, hD1⟩ := hB
  rw [ht] at hP1
  obtain ⟨hP, hD⟩ := va_join (wr := wr) (w1 := ws' u) hP hD isC isR hC hR hn hdis hk1 hF hP1 hD1
  exact kk u H1 locs1 hw hP hD ((hK.sub isT hT).app (va_K.moved hvm.symm hK1)) hS
theorem go_q {S : Type} {post : Option Nat → S → Prop} {ws' : S → va_W} {tys' : S → List (ClassId × FieldType)} {a : Array Value} (hP : va_P D vwCl ws H) (hD : va_D A ws) (hS : va_S A H0 H locs) (hA : ∀ q, H0.size ≤ q → A q) (hK : va_K D vwCl tys s) (isC isR isT : List Nat) (hC : isC.map (fun i => ws[i]?) = wc.map some) (hR : isR.map (fun i => ws[i]?) = wr.map some) (hn : va_nd isR = true) (hdis : ∀ i ∈ isR, i ∉ isC) (hT : isT.filterMap (fun i => tys[i]?) = tysr)
    (hr : va_Run p l e R s m args below meth c H locs cells slots mc ms (F0 m pc ls st0) rest (va_Qq post (st_B D (va_A wc H.size) ws' tys') (va_A wc H.size) a) (va_A wc H.size))
    (kk : ∀ (r : Option Nat) (u : S) (H1 : Heap) (locs1 : List Loc), post r u → va_P D vwCl (wr ++ ws' u) H1 → va_D A (wr ++ ws' u) → va_K D vwCl (tysr ++ tys' u) s → va_S A H0 H1 locs1 → W p l e R s m args below meth c H1 locs1 (cells + mc) (slots + ms) Q (F0 m (pc + 3) ls (va_rf r :: rest))) : W p l e R s m args below meth c H locs cells slots Q (F0 m pc ls st0) := by
  have hF := va_free (wc := wc) hD hS hA isC hC
  refine va_callq hr hS (fun q _ h => hF q h) hF (fun r u t H1 locs1 ht hvm hw hB hz1 hk1 hS => ?_)
  obtain ⟨hP1, hK1, hD1⟩ := hB
  rw [ht] at hP1
  obtain ⟨hP, hD⟩ := va_join (wr := wr) (w1 := ws' u) hP hD isC isR hC hR hn hdis hk1 hF hP1 hD1
  exact kk r u H1 locs1 hw hP hD ((hK.sub isT hT).app (va_K.moved hvm.symm hK1)) hS
end KC
