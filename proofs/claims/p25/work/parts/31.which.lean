section GW
variable {p : Program} {l : Launch} {e : Env} {R : Room} {s : State} {m : MethodId} {args : Array Value} {below : List Frame} {meth : Method} {c : Code} {H : Heap} {locs : List Loc} {cells slots : Nat} {Q : State → Prop}
variable {D : va_G} {w wc wr : va_W} {tys tysc : List (ClassId × FieldType)} {A : Nat → Prop} {H0 : Heap} {pc : Nat} {ls : Array Slot} {rest st0 : List Value} {mc ms : Nat}
theorem fr_A (hD : va_D A w) (hA : ∀ q, H0.size ≤ q → A q) (hz : H0.size ≤ H.size) {q : Nat} (h : va_A w H.size q) : A q := by
  rcases h with ⟨k, e, h⟩ | h
  · exact hD.2 k _ h
  · exact hA q (Nat.le_trans hz h)
/-- a call over a part of the world that is a list -/
theorem go_iW {post : Int32 → va_W → Prop} {tys' : va_W → List (ClassId × FieldType)} {a : Array Value} (hP : va_P D vwCl w H) (hD : va_D A w) (hS : va_S A H0 H locs) (hA : ∀ q, H0.size ≤ q → A q) (hp : w.Perm (wc ++ wr))
    (hr : va_Run p l e R s m args below meth c H locs cells slots mc ms (F0 m pc ls st0) rest (va_Qi post (st_B D (va_A wc H.size) (fun z => z) tys') (va_A wc H.size) a) (va_A wc H.size))
    (kk : ∀ (r : Int32) (z : va_W) (H1 : Heap) (locs1 : List Loc), post r z → va_P D vwCl (wr ++ z) H1 → va_D A (wr ++ z) → va_S A H0 H1 locs1 → W p l e R s m args below meth c H1 locs1 (cells + mc) (slots + ms) Q (F0 m (pc + 3) ls (.int r :: rest))) : W p l e R s m args below meth c H locs cells slots Q (F0 m pc ls st0) := by
  have hF : ∀ q, va_A wc H.size q → A q := fun q h => fr_A hD hA hS.1 (va_A_perm hp h)
  refine va_calli hr hS (fun q _ h => hF q h) hF (fun r u t H1 locs1 ht hvm hw hB hz1 hk1 hS1 => ?_)
  obtain ⟨hP1, hK1, hD1⟩ := hB
  rw [ht] at hP1
  obtain ⟨hP2, hD2⟩ := fr_join hp hP hD hz1 hk1 hP1 hD1 (List.Perm.refl _)
  exact kk r u H1 locs1 hw hP2 (hD2.weaken (fun k q _ h => fr_A hD hA hS.1 h)) hS1
theorem st_preVW {C : String} {b : Nat} {As : List Value} {ci q0 : Nat} {fs : List Value} {q : vw_C} (hP : va_P D vwCl w H) (hp : w.Perm (wc ++ wr)) (hD : va_D A w) (hK : va_K D vwCl tys s) (hN : NW s) (isT : List Nat) (hT : isT.filterMap (fun i => tys[i]?) = tysc) (hc : vwCl[ci]? = some q) (hq : q.1 = C) (he : wc[q0]? = some (b, .inr (ci, fs))) : PreV s H C b (st_Pc D (Value.ref b :: As) wc tysc H.size) As := by
  subst hq
  exact ⟨st_blind, va_recv hK (hP.perm hp).left hc he, fun U hU hW => ⟨rfl, by rw [hU], by rw [hU]; exact (hP.perm hp).left, va_K.moved hW.alike (hK.sub isT hT), ((hD.perm hp).left).weaken (fun _ _ _ _ => trivial), hN.warm hW⟩⟩
end GW
theorem XOK.cell {cI cM cB : ClassId} {h0 : Nat} {z : ZT} {w : va_W} (h : XOK cI cM cB h0 z w) : ∃ fs : List Value, w[0]? = some (h0, .inr (7, fs)) := by
  obtain ⟨tp, mka, bx, rt, mc, mf, bf, wt, wr, bs, ms, rfl, -⟩ := h
  exact ⟨_, rfl⟩
theorem MOK.cell {cI : ClassId} {h0 : Nat} {z : ZT} {w : va_W} (h : MOK cI h0 z w) : ∃ fs : List Value, w[0]? = some (h0, .inr (8, fs)) := by
  obtain ⟨a0, a1, a2, a3, a4, a5, a6, a7, a8, a9, ab, tk, mm, wm, fa, th, se, g0, g1, g2, g3, g4, g5, g6, g7, g8, g9, gb, rfl, -⟩ := h
  exact ⟨_, rfl⟩
theorem hiTX_which_X8 : ∀ w ∈ wsX80, w ∈ wsX8_which := mem_pl [72, 73, 74, 75, 76] rfl
set_option maxHeartbeats 4000000 in
set_option maxRecDepth 100000 in
theorem TX_which (l : Launch) (D : va_G) (sz : Nat) (cI cM cB : ClassId) (h0 : Nat) (z : ZT) (w9 : va_W) (hX : XOK cI cM cB h0 z w9) : Ci l yX8_which wsX8_which ({ frames := 7, cells := 0, slots := 0, locals := 162 } : Room) D [.ref h0] w9 [(cI, .int), (cM, .object "OneHandset$Make"), (cB, .object "OneHandset$Box")] sz (fun r (z9 : va_W) => XOK cI cM cB h0 z z9) (fun z9 => z9) (fun _ => []) := by
  refine ct_i (cc := cX8_which) (maxL := 3) (ret := (some .int)) (by decide) rfl (Nat.le_of_ble_eq_true rfl) ?_
  intro p e s m below meth c A ls H hx hb hr hts hown hml hlocks hin hA hS hP hK hD hNW hl hAe hsz
  have hl : lv_has ls 3 [(0, .ref h0)] := hl
  refine lv_iconst (v := 0) hx hb dX8_which_0 (by decide) ?_
  refine lv_istore_n (lv' := [(1, .int 0), (0, .ref h0)]) hx hb dX8_which_1 rfl hl (by decide) rfl (fun ls hl => ?_)
  refine lv_iconst (v := 0) hx hb dX8_which_2 (by decide) ?_
  refine lv_istore_n (lv' := [(2, .int 0), (1, .int 0), (0, .ref h0)]) hx hb dX8_which_3 rfl hl (by decide) rfl (fun ls hl => ?_)
  refine lp_N (fun n9 H locs ls => ∃ (f i : Int32) (w : va_W), n9 = (8 - i.toInt).toNat ∧ (va_P D vwCl w H ∧ va_D A w) ∧ va_S A s.heap H locs ∧ lv_has ls 3 [(2, .int i), (1, .int f), (0, .ref h0)] ∧ 0 ≤ i.toInt ∧ XOK cI cM cB h0 z w) ?_ ⟨0, 0, w9, rfl, ⟨hP, hD⟩, hS, hl, by decide, hX⟩
  intro n9 ih H locs ls hI
  obtain ⟨f, i, w, rfl, ⟨hP, hD⟩, hS, hl, h0i, hX⟩ := hI
  have hXc := hX
  obtain ⟨tp, mka, bx, rt, mc, mf, bf, wt, wr, bs, ms, rfl, hT, hR, hbl, hB, hml9, hm8, hM, hmz⟩ := hX
  refine lv_iload_n hx hb dX8_which_4 rfl (lv_at hl 0 rfl) ?_
  refine lv_aload_n hx hb dX8_which_5 rfl (lv_at hl 2 rfl) ?_
  refine va_get (D := D) (ci := 7) (v := .int mc) (C := RX8) (T := TX8) (N := 5) hx hb hts hiTX_which_X8 hown hK hP 0 rfl rfl 2 (by decide) (hts (.fieldLink RX8 22 "OneHandset" "makeCount" "I") (List.mem_of_getElem? (i := 1) rfl)) (fun _ h9 => h9) rfl dX8_which_6 ?_
  refine lv_icmp_ge (tgt := 32) hx hb dX8_which_9 (by decide) (fun c1 => ?_) (fun c1 => ?_)
  · refine lv_iload_n hx hb dX8_which_32 rfl (lv_at hl 1 rfl) ?_
    exact ret_i hx hb hr hlocks rfl (u := _) hXc hP (hK.sub [] rfl) hD hS (Nat.le_of_ble_eq_true rfl) (Nat.le_of_ble_eq_true rfl) dX8_which_33
  have hlt : i.toInt < 8 := by have := ti_nle c1; omega
  refine lv_aload_n hx hb dX8_which_12 rfl (lv_at hl 2 rfl) ?_
  refine lv_iload_n hx hb dX8_which_13 rfl (lv_at hl 0 rfl) ?_
  refine go_iW (wr := []) hP hD hS hA (by rw [List.append_nil]) (va_runV (As := [.int i]) (rest := []) ⟨hx, hb, hml, hown, hts⟩ (TX_read l D H.size cI cM cB h0 z _ hXc i) (cwV 1 hts gX8_which_X8_read rfl rfl rfl (by decide +kernel) ⟨Nat.le_of_ble_eq_true rfl, Nat.le_of_ble_eq_true rfl⟩) (st_preVW (wr := []) (ci := 7) (q0 := 0) hP (by rw [List.append_nil]) hD hK hNW [0, 1, 2] rfl rfl rfl rfl) rfl rfl hl.1 rfl (lv_room (Nat.le_of_ble_eq_true rfl)) dX8_which_14 ⟨Nat.le_of_ble_eq_true rfl, Nat.le_of_ble_eq_true rfl⟩) (fun r y H locs hw hP hD hS => ?_)
  have hXz : XOK cI cM cB h0 z y := hw
  have hP : va_P D vwCl y H := hP
  have hD : va_D A y := hD
  have k8 : (8 : Int32).toInt = 8 := by decide
  have u1 := ti_up (i := i) (n := 8) (by omega)
  refine jn_S 26 (fun st9 H locs ls => ∃ (f2 : Int32), st9 = [] ∧ (va_P D vwCl y H ∧ va_D A y) ∧ va_S A s.heap H locs ∧ lv_has ls 3 [(1, .int f2), (2, .int i), (0, .ref h0)]) ?_ ?_
  · intro st9 H locs ls hI
    obtain ⟨f2, rfl, ⟨hP, hD⟩, hS, hl⟩ := hI
    refine lv_iinc (v := i + 1) (lv' := [(2, .int (i + 1)), (1, .int f2), (0, .ref h0)]) hx hb dX8_which_26 hl (k := 1) rfl (ii_p1 _) (by decide) rfl (fun ls hl => ?_)
    refine lv_goto (tgt := 4) hx hb dX8_which_29 (by decide) ?_
    exact ih _ _ _ _ (by omega) ⟨f2, i + 1, y, rfl, ⟨hP, hD⟩, hS, hl, by omega, hXz⟩
  · intro hJ
    refine lv_if_lt (tgt := 26) hx hb dX8_which_17 (by decide) (fun c2 => ?_) (fun c2 => ?_)
    · exact hJ _ _ _ _ ⟨f, rfl, ⟨hP, hD⟩, hS, lv_sub hl [1, 0, 2] rfl⟩
    refine lv_iload_n hx hb dX8_which_20 rfl (lv_at hl 1 rfl) ?_
    refine lv_iconst (v := 1) hx hb dX8_which_21 (by decide) ?_
    refine lv_iload_n hx hb dX8_which_22 rfl (lv_at hl 0 rfl) ?_
    refine lv_ishl hx hb dX8_which_23 ?_
    refine lv_ior hx hb dX8_which_24 ?_
    refine lv_topi (fun y9 _ => ?_)
    refine lv_istore_n (lv' := [(1, .int y9), (2, .int i), (0, .ref h0)]) hx hb dX8_which_25 rfl hl (by decide) rfl (fun ls hl => ?_)
    exact hJ _ _ _ _ ⟨y9, rfl, ⟨hP, hD⟩, hS, hl⟩
