set_option maxHeartbeats 4000000 in
set_option maxRecDepth 100000 in
theorem law_test {p : Program} {e : Env} {s : State} {m : MethodId} {below : List Frame} {meth : Method} {c : Code} (l : Launch) {b L : Nat} {xs : Nat → Int32} (D : va_G) (A : Nat → Prop) (hx : p.tables.exec = Jvm.exec) (hb : c.code = cL_law) (hr : meth.sig.returnType = ret) (hts : ∀ w ∈ wsL_law, w.before #[Value.ref b] s = true) (hown : s.vm.findClass RL = some m.cls) (hml : c.maxLocals = 7) (hlocks : meth.locks = false) (hA : ∀ q, s.heap.size ≤ q → A q) (hAq : ∀ q, A q → s.heap.size ≤ q) (hbA : ¬ A b) (hX : va_X b L xs s s.heap) (hbl : b < s.heap.size) (hNW : NW s) (hl9 : l.stackTraces = false) (hTW : TW s) (hZ : ZZ A s s.heap) (hL : L ≤ 4096) (cI cM cB cL : ClassId) (xh mh o0 : Nat) (hK : va_K D vwCl [(cI, .int), (cM, .object "OneHandset$Make"), (cB, .object "OneHandset$Box"), (cL, .long)] s) (i : Int32) (z : ZT) (wx wm : va_W) (og : Nat → Int64) (hXO : XOK cI cM cB xh z wx) (hMO : MOK cI mh z wm) (H : Heap) (locs : List Loc) (cells slots : Nat) (hP : va_P D vwCl (wx ++ (wm ++ [(o0, .inl (cL, 1, .inr (.inl og)))])) H) (hD : va_D A (wx ++ (wm ++ [(o0, .inl (cL, 1, .inr (.inl og)))]))) (hS : va_S A s.heap H locs) (ls : Array Slot) (hl : lv_has ls 7 [(4, .int i), (3, .ref o0), (2, .ref mh), (1, .ref xh), (0, .ref b)]) (h0i : 0 ≤ i.toInt) (hcl : cells ≤ 601024) (hsl : slots ≤ 7293034) (hB : i.toInt + 8 ≤ L → W p l e room_1 s m #[Value.ref b] below meth c H locs cells slots (lw_Z below #[Value.ref b] s) (F0 m 33 ls [])) : W p l e room_1 s m #[Value.ref b] below meth c H locs cells slots (lw_Z below #[Value.ref b] s) (F0 m 23 ls []) := by
  refine lv_iload hx hb dL_law_23 (lv_at hl 0 rfl) ?_
  refine lv_aload_n hx hb dL_law_25 rfl (lv_at hl 4 rfl) ?_
  refine va_slen hx hb hX hbl hbA hS dL_law_26 ?_
  refine lv_bipush (v := 8) hx hb dL_law_27 (by decide) ?_
  refine lv_isub hx hb dL_law_29 ?_
  have k8 : (8 : Int32).toInt = 8 := by decide
  have kL : (Int32.ofNat L).toInt = L := ti_nI (n := L) (by omega)
  have u := ti_su (x := Int32.ofNat L) (y := 8) (by rw [kL, k8]; omega)
  rw [kL, k8] at u
  refine lv_icmp_gt (tgt := 1171) hx hb dL_law_30 (by decide) (fun _ => ?_) (fun c9 => hB (by have := ti_nlt c9; omega))
  refine lv_iconst (v := 1) hx hb dL_law_1171 (by decide) ?_
  refine va_forget (fun q hq => hAq _ (hS.2.2 q hq)) ?_
  refine W.widen (k := 601024) (n := 7293034) hcl hsl ?_
  exact lw_ret hx hb hr hlocks dL_law_1172
set_option maxHeartbeats 8000000 in
set_option maxRecDepth 100000 in
theorem law_loop {p : Program} {e : Env} {s : State} {m : MethodId} {below : List Frame} {meth : Method} {c : Code} (l : Launch) {b L : Nat} {xs : Nat → Int32} (D : va_G) (A : Nat → Prop) (hx : p.tables.exec = Jvm.exec) (hb : c.code = cL_law) (hr : meth.sig.returnType = ret) (hts : ∀ w ∈ wsL_law, w.before #[Value.ref b] s = true) (hown : s.vm.findClass RL = some m.cls) (hml : c.maxLocals = 7) (hlocks : meth.locks = false) (hA : ∀ q, s.heap.size ≤ q → A q) (hAq : ∀ q, A q → s.heap.size ≤ q) (hbA : ¬ A b) (hX : va_X b L xs s s.heap) (hbl : b < s.heap.size) (hNW : NW s) (hl9 : l.stackTraces = false) (hTW : TW s) (hZ : ZZ A s s.heap) (hL : L ≤ 4096) (cI cM cB cL : ClassId) (xh mh o0 : Nat) (hK : va_K D vwCl [(cI, .int), (cM, .object "OneHandset$Make"), (cB, .object "OneHandset$Box"), (cL, .long)] s) : ∀ (n : Nat) (i : Int32) (z : ZT) (wx wm : va_W) (og : Nat → Int64) (hXO : XOK cI cM cB xh z wx) (hMO : MOK cI mh z wm) (H : Heap) (locs : List Loc) (cells slots : Nat) (hP : va_P D vwCl (wx ++ (wm ++ [(o0, .inl (cL, 1, .inr (.inl og)))])) H) (hD : va_D A (wx ++ (wm ++ [(o0, .inl (cL, 1, .inr (.inl og)))]))) (hS : va_S A s.heap H locs) (ls : Array Slot) (hl : lv_has ls 7 [(4, .int i), (3, .ref o0), (2, .ref mh), (1, .ref xh), (0, .ref b)]) (h0i : 0 ≤ i.toInt), (L : Int) - i.toInt < 8 * (n : Int) + 8 → cells + 20 * n + 200 ≤ 601024 → slots + 200 * n + 2000 ≤ 7293034 → W p l e room_1 s m #[Value.ref b] below meth c H locs cells slots (lw_Z below #[Value.ref b] s) (F0 m 23 ls []) := by
  intro n
  induction n with
  | zero =>
    intro i z wx wm og hXO hMO H locs cells slots hP hD hS ls hl h0i hn hc hs
    exact law_test l D A hx hb hr hts hown hml hlocks hA hAq hbA hX hbl hNW hl9 hTW hZ hL cI cM cB cL xh mh o0 hK i z wx wm og hXO hMO H locs cells slots hP hD hS ls hl h0i (by omega) (by omega) (fun h8 => absurd h8 (by omega))
  | succ n ih =>
    intro i z wx wm og hXO hMO H locs cells slots hP hD hS ls hl h0i hn hc hs
    refine law_test l D A hx hb hr hts hown hml hlocks hA hAq hbA hX hbl hNW hl9 hTW hZ hL cI cM cB cL xh mh o0 hK i z wx wm og hXO hMO H locs cells slots hP hD hS ls hl h0i (by omega) (by omega) (fun h8i => ?_)
    have hE : ∀ (z : ZT) (wx wm : va_W) (og : Nat → Int64) (H : Heap) (locs : List Loc) (ls : Array Slot) (cells2 slots2 : Nat), cells2 ≤ cells + 20 → slots2 ≤ slots + 200 → XOK cI cM cB xh z wx → MOK cI mh z wm → va_P D vwCl (wx ++ (wm ++ [(o0, .inl (cL, 1, .inr (.inl og)))])) H → va_D A (wx ++ (wm ++ [(o0, .inl (cL, 1, .inr (.inl og)))])) → va_S A s.heap H locs → lv_has ls 7 [(4, .int i), (3, .ref o0), (2, .ref mh), (1, .ref xh), (0, .ref b)] → W p l e room_1 s m #[Value.ref b] below meth c H locs cells2 slots2 (lw_Z below #[Value.ref b] s) (F0 m 1165 ls []) := by
      intro z wx wm og H locs ls cells2 slots2 h1 h2 hx2 hm2 hP hD hS hl
      have k8 : (8 : Int32).toInt = 8 := by decide
      have u := ti_ad (x := i) (y := 8) (by rw [k8]; omega)
      rw [k8] at u
      refine lv_iinc (v := i + 8) (lv' := [(4, .int (i + 8)), (3, .ref o0), (2, .ref mh), (1, .ref xh), (0, .ref b)]) hx hb dL_law_1165 hl (k := 0) rfl rfl (by decide) rfl (fun ls hl => ?_)
      refine lv_goto (tgt := 23) hx hb dL_law_1168 (by decide) ?_
      exact ih (i + 8) z wx wm og hx2 hm2 H locs cells2 slots2 hP hD hS ls hl (by omega) (by omega) (by omega) (by omega)
    refine lv_aload_n hx hb dL_law_33 rfl (lv_at hl 4 rfl) ?_
    refine lv_iload hx hb dL_law_34 (lv_at hl 0 rfl) ?_
    refine va_sld hx hb hX hbl hbA hS (vp_in_iff.mpr (by omega)) dL_law_36 ?_
    refine lv_bipush (v := 31) hx hb dL_law_37 (by decide) ?_
    refine lv_iand hx hb dL_law_39 ?_
    rcases tsw (n := 26) (by decide) (by decide) ((xs (Int32.toNatClampNeg i)) &&& 31) with h_1 | h_1
    · obtain ⟨k_9, hk_9, e_9⟩ := h_1
      rcases (show k_9 = 0 ∨ k_9 = 1 ∨ k_9 = 2 ∨ k_9 = 3 ∨ k_9 = 4 ∨ k_9 = 5 ∨ k_9 = 6 ∨ k_9 = 7 ∨ k_9 = 8 ∨ k_9 = 9 ∨ k_9 = 10 ∨ k_9 = 11 ∨ k_9 = 12 ∨ k_9 = 13 ∨ k_9 = 14 ∨ k_9 = 15 ∨ k_9 = 16 ∨ k_9 = 17 ∨ k_9 = 18 ∨ k_9 = 19 ∨ k_9 = 20 ∨ k_9 = 21 ∨ k_9 = 22 ∨ k_9 = 23 ∨ k_9 = 24 ∨ k_9 = 25 by omega) with rfl | rfl | rfl | rfl | rfl | rfl | rfl | rfl | rfl | rfl | rfl | rfl | rfl | rfl | rfl | rfl | rfl | rfl | rfl | rfl | rfl | rfl | rfl | rfl | rfl | rfl
      · have c_2 : (xs (Int32.toNatClampNeg i)) &&& 31 = (0 : Int32) := e_9
        refine W.eq (g2 := F0 m 40 ls [.int 0]) (by rw [c_2]) ?_
        refine lv_tableIn (off := 120) (tgt := 160) hx hb dL_law_40 (by decide) (by decide) rfl (by decide) ?_
        exact law_c0 l D A hx hb hr hts hown hml hlocks hA hAq hbA hX hbl hNW hl9 hTW hZ hL cI cM cB cL xh mh o0 hK i h0i h8i z wx wm og hXO hMO H locs cells slots hP hD hS (by omega) (by omega) ls hl hE
      · have c_3 : (xs (Int32.toNatClampNeg i)) &&& 31 = (1 : Int32) := e_9
        refine W.eq (g2 := F0 m 40 ls [.int 1]) (by rw [c_3]) ?_
        refine lv_tableIn (off := 221) (tgt := 261) hx hb dL_law_40 (by decide) (by decide) rfl (by decide) ?_
        exact law_c1 l D A hx hb hr hts hown hml hlocks hA hAq hbA hX hbl hNW hl9 hTW hZ hL cI cM cB cL xh mh o0 hK i h0i h8i z wx wm og hXO hMO H locs cells slots hP hD hS (by omega) (by omega) ls hl hE
      · have c_4 : (xs (Int32.toNatClampNeg i)) &&& 31 = (2 : Int32) := e_9
        refine W.eq (g2 := F0 m 40 ls [.int 2]) (by rw [c_4]) ?_
        refine lv_tableIn (off := 270) (tgt := 310) hx hb dL_law_40 (by decide) (by decide) rfl (by decide) ?_
        exact law_c2 l D A hx hb hr hts hown hml hlocks hA hAq hbA hX hbl hNW hl9 hTW hZ hL cI cM cB cL xh mh o0 hK i h0i h8i z wx wm og hXO hMO H locs cells slots hP hD hS (by omega) (by omega) ls hl hE
      · have c_5 : (xs (Int32.toNatClampNeg i)) &&& 31 = (3 : Int32) := e_9
        refine W.eq (g2 := F0 m 40 ls [.int 3]) (by rw [c_5]) ?_
        refine lv_tableIn (off := 343) (tgt := 383) hx hb dL_law_40 (by decide) (by decide) rfl (by decide) ?_
        exact law_c3 l D A hx hb hr hts hown hml hlocks hA hAq hbA hX hbl hNW hl9 hTW hZ hL cI cM cB cL xh mh o0 hK i h0i h8i z wx wm og hXO hMO H locs cells slots hP hD hS (by omega) (by omega) ls hl hE
      · have c_6 : (xs (Int32.toNatClampNeg i)) &&& 31 = (4 : Int32) := e_9
        refine W.eq (g2 := F0 m 40 ls [.int 4]) (by rw [c_6]) ?_
        refine lv_tableIn (off := 368) (tgt := 408) hx hb dL_law_40 (by decide) (by decide) rfl (by decide) ?_
        exact law_c4 l D A hx hb hr hts hown hml hlocks hA hAq hbA hX hbl hNW hl9 hTW hZ hL cI cM cB cL xh mh o0 hK i h0i h8i z wx wm og hXO hMO H locs cells slots hP hD hS (by omega) (by omega) ls hl hE
      · have c_7 : (xs (Int32.toNatClampNeg i)) &&& 31 = (5 : Int32) := e_9
        refine W.eq (g2 := F0 m 40 ls [.int 5]) (by rw [c_7]) ?_
        refine lv_tableIn (off := 405) (tgt := 445) hx hb dL_law_40 (by decide) (by decide) rfl (by decide) ?_
        exact law_c5 l D A hx hb hr hts hown hml hlocks hA hAq hbA hX hbl hNW hl9 hTW hZ hL cI cM cB cL xh mh o0 hK i h0i h8i z wx wm og hXO hMO H locs cells slots hP hD hS (by omega) (by omega) ls hl hE
      · have c_8 : (xs (Int32.toNatClampNeg i)) &&& 31 = (6 : Int32) := e_9
        refine W.eq (g2 := F0 m 40 ls [.int 6]) (by rw [c_8]) ?_
        refine lv_tableIn (off := 433) (tgt := 473) hx hb dL_law_40 (by decide) (by decide) rfl (by decide) ?_
        exact law_c6 l D A hx hb hr hts hown hml hlocks hA hAq hbA hX hbl hNW hl9 hTW hZ hL cI cM cB cL xh mh o0 hK i h0i h8i z wx wm og hXO hMO H locs cells slots hP hD hS (by omega) (by omega) ls hl hE
      · have c_9 : (xs (Int32.toNatClampNeg i)) &&& 31 = (7 : Int32) := e_9
        refine W.eq (g2 := F0 m 40 ls [.int 7]) (by rw [c_9]) ?_
        refine lv_tableIn (off := 458) (tgt := 498) hx hb dL_law_40 (by decide) (by decide) rfl (by decide) ?_
        exact law_c7 l D A hx hb hr hts hown hml hlocks hA hAq hbA hX hbl hNW hl9 hTW hZ hL cI cM cB cL xh mh o0 hK i h0i h8i z wx wm og hXO hMO H locs cells slots hP hD hS (by omega) (by omega) ls hl hE
      · have c_10 : (xs (Int32.toNatClampNeg i)) &&& 31 = (8 : Int32) := e_9
        refine W.eq (g2 := F0 m 40 ls [.int 8]) (by rw [c_10]) ?_
        refine lv_tableIn (off := 471) (tgt := 511) hx hb dL_law_40 (by decide) (by decide) rfl (by decide) ?_
        exact law_c8 l D A hx hb hr hts hown hml hlocks hA hAq hbA hX hbl hNW hl9 hTW hZ hL cI cM cB cL xh mh o0 hK i h0i h8i z wx wm og hXO hMO H locs cells slots hP hD hS (by omega) (by omega) ls hl hE
      · have c_11 : (xs (Int32.toNatClampNeg i)) &&& 31 = (9 : Int32) := e_9
        refine W.eq (g2 := F0 m 40 ls [.int 9]) (by rw [c_11]) ?_
        refine lv_tableIn (off := 496) (tgt := 536) hx hb dL_law_40 (by decide) (by decide) rfl (by decide) ?_
        exact law_c9 l D A hx hb hr hts hown hml hlocks hA hAq hbA hX hbl hNW hl9 hTW hZ hL cI cM cB cL xh mh o0 hK i h0i h8i z wx wm og hXO hMO H locs cells slots hP hD hS (by omega) (by omega) ls hl hE
      · have c_12 : (xs (Int32.toNatClampNeg i)) &&& 31 = (10 : Int32) := e_9
        refine W.eq (g2 := F0 m 40 ls [.int 10]) (by rw [c_12]) ?_
        refine lv_tableIn (off := 533) (tgt := 573) hx hb dL_law_40 (by decide) (by decide) rfl (by decide) ?_
        exact law_c10 l D A hx hb hr hts hown hml hlocks hA hAq hbA hX hbl hNW hl9 hTW hZ hL cI cM cB cL xh mh o0 hK i h0i h8i z wx wm og hXO hMO H locs cells slots hP hD hS (by omega) (by omega) ls hl hE
      · have c_13 : (xs (Int32.toNatClampNeg i)) &&& 31 = (11 : Int32) := e_9
        refine W.eq (g2 := F0 m 40 ls [.int 11]) (by rw [c_13]) ?_
        refine lv_tableIn (off := 570) (tgt := 610) hx hb dL_law_40 (by decide) (by decide) rfl (by decide) ?_
        exact law_c11 l D A hx hb hr hts hown hml hlocks hA hAq hbA hX hbl hNW hl9 hTW hZ hL cI cM cB cL xh mh o0 hK i h0i h8i z wx wm og hXO hMO H locs cells slots hP hD hS (by omega) (by omega) ls hl hE
      · have c_14 : (xs (Int32.toNatClampNeg i)) &&& 31 = (12 : Int32) := e_9
        refine W.eq (g2 := F0 m 40 ls [.int 12]) (by rw [c_14]) ?_
        refine lv_tableIn (off := 607) (tgt := 647) hx hb dL_law_40 (by decide) (by decide) rfl (by decide) ?_
        exact law_c12 l D A hx hb hr hts hown hml hlocks hA hAq hbA hX hbl hNW hl9 hTW hZ hL cI cM cB cL xh mh o0 hK i h0i h8i z wx wm og hXO hMO H locs cells slots hP hD hS (by omega) (by omega) ls hl hE
      · have c_15 : (xs (Int32.toNatClampNeg i)) &&& 31 = (13 : Int32) := e_9
        refine W.eq (g2 := F0 m 40 ls [.int 13]) (by rw [c_15]) ?_
        refine lv_tableIn (off := 644) (tgt := 684) hx hb dL_law_40 (by decide) (by decide) rfl (by decide) ?_
        exact law_c13 l D A hx hb hr hts hown hml hlocks hA hAq hbA hX hbl hNW hl9 hTW hZ hL cI cM cB cL xh mh o0 hK i h0i h8i z wx wm og hXO hMO H locs cells slots hP hD hS (by omega) (by omega) ls hl hE
      · have c_16 : (xs (Int32.toNatClampNeg i)) &&& 31 = (14 : Int32) := e_9
        refine W.eq (g2 := F0 m 40 ls [.int 14]) (by rw [c_16]) ?_
        refine lv_tableIn (off := 681) (tgt := 721) hx hb dL_law_40 (by decide) (by decide) rfl (by decide) ?_
        exact law_c14 l D A hx hb hr hts hown hml hlocks hA hAq hbA hX hbl hNW hl9 hTW hZ hL cI cM cB cL xh mh o0 hK i h0i h8i z wx wm og hXO hMO H locs cells slots hP hD hS (by omega) (by omega) ls hl hE
      · have c_17 : (xs (Int32.toNatClampNeg i)) &&& 31 = (15 : Int32) := e_9
        refine W.eq (g2 := F0 m 40 ls [.int 15]) (by rw [c_17]) ?_
        refine lv_tableIn (off := 718) (tgt := 758) hx hb dL_law_40 (by decide) (by decide) rfl (by decide) ?_
        exact law_c15 l D A hx hb hr hts hown hml hlocks hA hAq hbA hX hbl hNW hl9 hTW hZ hL cI cM cB cL xh mh o0 hK i h0i h8i z wx wm og hXO hMO H locs cells slots hP hD hS (by omega) (by omega) ls hl hE
      · have c_18 : (xs (Int32.toNatClampNeg i)) &&& 31 = (16 : Int32) := e_9
        refine W.eq (g2 := F0 m 40 ls [.int 16]) (by rw [c_18]) ?_
        refine lv_tableIn (off := 743) (tgt := 783) hx hb dL_law_40 (by decide) (by decide) rfl (by decide) ?_
        exact law_c16 l D A hx hb hr hts hown hml hlocks hA hAq hbA hX hbl hNW hl9 hTW hZ hL cI cM cB cL xh mh o0 hK i h0i h8i z wx wm og hXO hMO H locs cells slots hP hD hS (by omega) (by omega) ls hl hE
      · have c_19 : (xs (Int32.toNatClampNeg i)) &&& 31 = (17 : Int32) := e_9
        refine W.eq (g2 := F0 m 40 ls [.int 17]) (by rw [c_19]) ?_
        refine lv_tableIn (off := 780) (tgt := 820) hx hb dL_law_40 (by decide) (by decide) rfl (by decide) ?_
        exact law_c17 l D A hx hb hr hts hown hml hlocks hA hAq hbA hX hbl hNW hl9 hTW hZ hL cI cM cB cL xh mh o0 hK i h0i h8i z wx wm og hXO hMO H locs cells slots hP hD hS (by omega) (by omega) ls hl hE
      · have c_20 : (xs (Int32.toNatClampNeg i)) &&& 31 = (18 : Int32) := e_9
        refine W.eq (g2 := F0 m 40 ls [.int 18]) (by rw [c_20]) ?_
        refine lv_tableIn (off := 817) (tgt := 857) hx hb dL_law_40 (by decide) (by decide) rfl (by decide) ?_
        exact law_c18 l D A hx hb hr hts hown hml hlocks hA hAq hbA hX hbl hNW hl9 hTW hZ hL cI cM cB cL xh mh o0 hK i h0i h8i z wx wm og hXO hMO H locs cells slots hP hD hS (by omega) (by omega) ls hl hE
      · have c_21 : (xs (Int32.toNatClampNeg i)) &&& 31 = (19 : Int32) := e_9
        refine W.eq (g2 := F0 m 40 ls [.int 19]) (by rw [c_21]) ?_
        refine lv_tableIn (off := 866) (tgt := 906) hx hb dL_law_40 (by decide) (by decide) rfl (by decide) ?_
        exact law_c19 l D A hx hb hr hts hown hml hlocks hA hAq hbA hX hbl hNW hl9 hTW hZ hL cI cM cB cL xh mh o0 hK i h0i h8i z wx wm og hXO hMO H locs cells slots hP hD hS (by omega) (by omega) ls hl hE
      · have c_22 : (xs (Int32.toNatClampNeg i)) &&& 31 = (20 : Int32) := e_9
        refine W.eq (g2 := F0 m 40 ls [.int 20]) (by rw [c_22]) ?_
        refine lv_tableIn (off := 927) (tgt := 967) hx hb dL_law_40 (by decide) (by decide) rfl (by decide) ?_
        exact law_c20 l D A hx hb hr hts hown hml hlocks hA hAq hbA hX hbl hNW hl9 hTW hZ hL cI cM cB cL xh mh o0 hK i h0i h8i z wx wm og hXO hMO H locs cells slots hP hD hS (by omega) (by omega) ls hl hE
      · have c_23 : (xs (Int32.toNatClampNeg i)) &&& 31 = (21 : Int32) := e_9
        refine W.eq (g2 := F0 m 40 ls [.int 21]) (by rw [c_23]) ?_
        refine lv_tableIn (off := 964) (tgt := 1004) hx hb dL_law_40 (by decide) (by decide) rfl (by decide) ?_
        exact law_c21 l D A hx hb hr hts hown hml hlocks hA hAq hbA hX hbl hNW hl9 hTW hZ hL cI cM cB cL xh mh o0 hK i h0i h8i z wx wm og hXO hMO H locs cells slots hP hD hS (by omega) (by omega) ls hl hE
      · have c_24 : (xs (Int32.toNatClampNeg i)) &&& 31 = (22 : Int32) := e_9
        refine W.eq (g2 := F0 m 40 ls [.int 22]) (by rw [c_24]) ?_
        refine lv_tableIn (off := 1001) (tgt := 1041) hx hb dL_law_40 (by decide) (by decide) rfl (by decide) ?_
        exact law_c22 l D A hx hb hr hts hown hml hlocks hA hAq hbA hX hbl hNW hl9 hTW hZ hL cI cM cB cL xh mh o0 hK i h0i h8i z wx wm og hXO hMO H locs cells slots hP hD hS (by omega) (by omega) ls hl hE
      · have c_25 : (xs (Int32.toNatClampNeg i)) &&& 31 = (23 : Int32) := e_9
        refine W.eq (g2 := F0 m 40 ls [.int 23]) (by rw [c_25]) ?_
        refine lv_tableIn (off := 1038) (tgt := 1078) hx hb dL_law_40 (by decide) (by decide) rfl (by decide) ?_
        exact law_c23 l D A hx hb hr hts hown hml hlocks hA hAq hbA hX hbl hNW hl9 hTW hZ hL cI cM cB cL xh mh o0 hK i h0i h8i z wx wm og hXO hMO H locs cells slots hP hD hS (by omega) (by omega) ls hl hE
      · have c_26 : (xs (Int32.toNatClampNeg i)) &&& 31 = (24 : Int32) := e_9
        refine W.eq (g2 := F0 m 40 ls [.int 24]) (by rw [c_26]) ?_
        refine lv_tableIn (off := 1063) (tgt := 1103) hx hb dL_law_40 (by decide) (by decide) rfl (by decide) ?_
        exact law_c24 l D A hx hb hr hts hown hml hlocks hA hAq hbA hX hbl hNW hl9 hTW hZ hL cI cM cB cL xh mh o0 hK i h0i h8i z wx wm og hXO hMO H locs cells slots hP hD hS (by omega) (by omega) ls hl hE
      · have c_27 : (xs (Int32.toNatClampNeg i)) &&& 31 = (25 : Int32) := e_9
        refine W.eq (g2 := F0 m 40 ls [.int 25]) (by rw [c_27]) ?_
        refine lv_tableIn (off := 1100) (tgt := 1140) hx hb dL_law_40 (by decide) (by decide) rfl (by decide) ?_
        exact law_c25 l D A hx hb hr hts hown hml hlocks hA hAq hbA hX hbl hNW hl9 hTW hZ hL cI cM cB cL xh mh o0 hK i h0i h8i z wx wm og hXO hMO H locs cells slots hP hD hS (by omega) (by omega) ls hl hE
    refine lv_tableOut (tgt := 1165) hx hb dL_law_40 h_1 (by decide) ?_
    have c_29 : ¬ (xs (Int32.toNatClampNeg i)) &&& 31 = (0 : Int32) := tsw_ne (n := 26) (k := 0) (by decide) (by decide) h_1
    have c_30 : ¬ (xs (Int32.toNatClampNeg i)) &&& 31 = (1 : Int32) := tsw_ne (n := 26) (k := 1) (by decide) (by decide) h_1
    have c_31 : ¬ (xs (Int32.toNatClampNeg i)) &&& 31 = (2 : Int32) := tsw_ne (n := 26) (k := 2) (by decide) (by decide) h_1
    have c_32 : ¬ (xs (Int32.toNatClampNeg i)) &&& 31 = (3 : Int32) := tsw_ne (n := 26) (k := 3) (by decide) (by decide) h_1
    have c_33 : ¬ (xs (Int32.toNatClampNeg i)) &&& 31 = (4 : Int32) := tsw_ne (n := 26) (k := 4) (by decide) (by decide) h_1
    have c_34 : ¬ (xs (Int32.toNatClampNeg i)) &&& 31 = (5 : Int32) := tsw_ne (n := 26) (k := 5) (by decide) (by decide) h_1
    have c_35 : ¬ (xs (Int32.toNatClampNeg i)) &&& 31 = (6 : Int32) := tsw_ne (n := 26) (k := 6) (by decide) (by decide) h_1
    have c_36 : ¬ (xs (Int32.toNatClampNeg i)) &&& 31 = (7 : Int32) := tsw_ne (n := 26) (k := 7) (by decide) (by decide) h_1
    have c_37 : ¬ (xs (Int32.toNatClampNeg i)) &&& 31 = (8 : Int32) := tsw_ne (n := 26) (k := 8) (by decide) (by decide) h_1
    have c_38 : ¬ (xs (Int32.toNatClampNeg i)) &&& 31 = (9 : Int32) := tsw_ne (n := 26) (k := 9) (by decide) (by decide) h_1
    have c_39 : ¬ (xs (Int32.toNatClampNeg i)) &&& 31 = (10 : Int32) := tsw_ne (n := 26) (k := 10) (by decide) (by decide) h_1
    have c_40 : ¬ (xs (Int32.toNatClampNeg i)) &&& 31 = (11 : Int32) := tsw_ne (n := 26) (k := 11) (by decide) (by decide) h_1
    have c_41 : ¬ (xs (Int32.toNatClampNeg i)) &&& 31 = (12 : Int32) := tsw_ne (n := 26) (k := 12) (by decide) (by decide) h_1
    have c_42 : ¬ (xs (Int32.toNatClampNeg i)) &&& 31 = (13 : Int32) := tsw_ne (n := 26) (k := 13) (by decide) (by decide) h_1
    have c_43 : ¬ (xs (Int32.toNatClampNeg i)) &&& 31 = (14 : Int32) := tsw_ne (n := 26) (k := 14) (by decide) (by decide) h_1
    have c_44 : ¬ (xs (Int32.toNatClampNeg i)) &&& 31 = (15 : Int32) := tsw_ne (n := 26) (k := 15) (by decide) (by decide) h_1
    have c_45 : ¬ (xs (Int32.toNatClampNeg i)) &&& 31 = (16 : Int32) := tsw_ne (n := 26) (k := 16) (by decide) (by decide) h_1
    have c_46 : ¬ (xs (Int32.toNatClampNeg i)) &&& 31 = (17 : Int32) := tsw_ne (n := 26) (k := 17) (by decide) (by decide) h_1
    have c_47 : ¬ (xs (Int32.toNatClampNeg i)) &&& 31 = (18 : Int32) := tsw_ne (n := 26) (k := 18) (by decide) (by decide) h_1
    have c_48 : ¬ (xs (Int32.toNatClampNeg i)) &&& 31 = (19 : Int32) := tsw_ne (n := 26) (k := 19) (by decide) (by decide) h_1
    have c_49 : ¬ (xs (Int32.toNatClampNeg i)) &&& 31 = (20 : Int32) := tsw_ne (n := 26) (k := 20) (by decide) (by decide) h_1
    have c_50 : ¬ (xs (Int32.toNatClampNeg i)) &&& 31 = (21 : Int32) := tsw_ne (n := 26) (k := 21) (by decide) (by decide) h_1
    have c_51 : ¬ (xs (Int32.toNatClampNeg i)) &&& 31 = (22 : Int32) := tsw_ne (n := 26) (k := 22) (by decide) (by decide) h_1
    have c_52 : ¬ (xs (Int32.toNatClampNeg i)) &&& 31 = (23 : Int32) := tsw_ne (n := 26) (k := 23) (by decide) (by decide) h_1
    have c_53 : ¬ (xs (Int32.toNatClampNeg i)) &&& 31 = (24 : Int32) := tsw_ne (n := 26) (k := 24) (by decide) (by decide) h_1
    have c_54 : ¬ (xs (Int32.toNatClampNeg i)) &&& 31 = (25 : Int32) := tsw_ne (n := 26) (k := 25) (by decide) (by decide) h_1
    exact hE z wx wm og _ _ _ _ _ (by omega) (by omega) hXO hMO hP hD hS hl
