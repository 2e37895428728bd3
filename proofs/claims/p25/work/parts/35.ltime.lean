theorem sx_in {i k : Int32} {L : Nat} (n : Int) (hk : k.toInt = n) (hn : 0 ≤ n ∧ n < 8) (h0 : 0 ≤ i.toInt) (h8 : i.toInt + 8 ≤ L) (hL : L ≤ 4096) : vp_in (i + k) L := by
  have u := ti_ad (x := i) (y := k) (by rw [hk]; omega)
  exact vp_in_iff.mpr (by rw [u, hk]; omega)
section TMU
variable {l : Launch} {y : MethodName} {wl : List Cond} {rm : Room} {D : va_G} {av : List Value} {w wc wr : va_W} {tys tysc : List (ClassId × FieldType)} {sz mc ms : Nat} {S S2 : Type}
theorem Tm.up {post : Int32 → S → Prop} {ws' : S → va_W} (h : Met l y wl rm (tm_Pc D av wc tysc sz) (va_Qi post (st_B D (va_A wc sz) ws' (fun _ => [])) (va_A wc sz)) mc ms (va_A wc sz)) (hp : w.Perm (wc ++ wr)) (isT : List Nat) (hT : isT.filterMap (fun i => tys[i]?) = tysc) {G : Int32 → S2 → Prop} {wG : S2 → va_W} (hG : ∀ r u, post r u → ∃ z, G r z ∧ (wG z).Perm (wr ++ ws' u)) : Met l y wl rm (tm_Pc D av w tys sz) (va_Qi G (st_B D (va_A w sz) wG (fun _ => [])) (va_A w sz)) mc ms (va_A w sz) := by
  unfold Met at h ⊢
  refine MetFree.mono h (fun a U hU => ?_) (fun _ _ _ _ _ _ => trivial) ?_
  · obtain ⟨h0, ⟨h1, hP, hK, hD, hN⟩, hT9, hZ⟩ := hU
    exact ⟨h0, ⟨h1, (hP.perm hp).left, hK.sub isT hT, (hD.perm hp).left, hN⟩, hT9, hZ.to va_S.rf (Vm.Alike.refl _) (fun q hq => va_A_perm hp hq)⟩
  rintro a st o t hU ⟨⟨⟨r, u, ho, hpost, hP1, hK1, hD1⟩, hz, hk⟩, L, hF, hL⟩
  obtain ⟨h0, ⟨h1, hP, hK, hD, hN⟩, hT9, hZ⟩ := hU
  obtain ⟨z, hz1, hz2⟩ := hG r u hpost
  subst h1
  obtain ⟨hP2, hD2⟩ := fr_join hp hP hD hz hk hP1 hD1 hz2
  exact ⟨⟨⟨r, z, ho, hz1, hP2, ⟨hK1.1, fun k q hk => by simp at hk⟩, hD2⟩, hz, fun q h2 h3 => hk q h2 (fun h4 => h3 (va_A_perm hp h4))⟩, L, hF, fun q hq => va_A_perm hp (hL q hq)⟩
end TMU
section TMS
variable {s : State} {H : Heap} {locs : List Loc} {D : va_G} {w wc wr : va_W} {tys tysc : List (ClassId × FieldType)} {A : Nat → Prop}
theorem tm_preSW {av : List Value} (hP : va_P D vwCl w H) (hp : w.Perm (wc ++ wr)) (hD : va_D A w) (hK : va_K D vwCl tys s) (hN : NW s) (hT9 : TW s) (hZ : ZZ A s s.heap) (hS : va_S A s.heap H locs) (hA : ∀ q, s.heap.size ≤ q → A q) (isT : List Nat) (hT : isT.filterMap (fun i => tys[i]?) = tysc) : PreS s H (tm_Pc D av wc tysc H.size) av :=
  ⟨tm_blind, fun U hU hW => ⟨rfl, ⟨by rw [hU], by rw [hU]; exact (hP.perm hp).left, va_K.moved hW.alike (hK.sub isT hT), ((hD.perm hp).left).weaken (fun _ _ _ _ => trivial), hN.warm hW⟩, hT9.warm hW, by rw [hU]; exact hZ.to hS hW.alike (fun q h => fr_A hD hA hS.1 (va_A_perm hp h))⟩⟩
end TMS
set_option maxHeartbeats 4000000 in
set_option maxRecDepth 100000 in
theorem TL_time (l : Launch) (hl9 : l.stackTraces = false) (D : va_G) (sz : Nat) (cI cM cB cL : ClassId) (h0 o0 : Nat) (og : Nat → Int64) (z : ZT) (w9 : va_W) (hX : XOK cI cM cB h0 z w9) (v : Int32) : Met l yL_time wsL_time ({ frames := 7, cells := 1, slots := 6, locals := 150 } : Room) (tm_Pc D [.ref h0, .int v, .ref o0] (w9 ++ [(o0, .inl (cL, 1, .inr (.inl og)))]) [(cI, .int), (cM, .object "OneHandset$Make"), (cB, .object "OneHandset$Box"), (cL, .long)] sz) (va_Qi (fun (r : Int32) (z9 : va_W) => ∃ (wz : va_W) (og2 : Nat → Int64), XOK cI cM cB h0 z wz ∧ z9 = wz ++ [(o0, .inl (cL, 1, .inr (.inl og2)))]) (st_B D (va_A (w9 ++ [(o0, .inl (cL, 1, .inr (.inl og)))]) sz) (fun z9 => z9) (fun _ => [])) (va_A (w9 ++ [(o0, .inl (cL, 1, .inr (.inl og)))]) sz)) 1 6 (va_A (w9 ++ [(o0, .inl (cL, 1, .inr (.inl og)))]) sz) := by
  obtain ⟨tp, mka, bx, rt, mc, mf, bf, wt, wr, bs, ms, rfl, hT, hR, hbl, hB, hml, hm8, hM, hmz⟩ := hX
  have hR0 := hR
  obtain ⟨ta, tk, tf, rfl, hk⟩ := hT
  refine Tm.up (wr := [(mka, .inl (cM, 8, .inr (.inr (.inr (.inr mf))))), (bx, .inl (cB, 4, .inr (.inr (.inr (.inr bf)))))] ++ (wr ++ (bs.flatten ++ ms.flatten))) (g_ltime l hl9 D sz cI cL h0 tp mka bx rt ta o0 mc tk tf og v hk) (pm (fun a9 => by simp only [cn_cons, cn_app, cn_nil]; omega)) [0, 3] rfl (fun r u hp => ?_)
  exact ⟨((h0, .inr (7, [.ref tp, .ref mka, .int mc, .ref bx, .ref rt])) :: (mka, .inl (cM, 8, .inr (.inr (.inr (.inr mf))))) :: (bx, .inl (cB, 4, .inr (.inr (.inr (.inr bf))))) :: ([(tp, .inr (6, [.ref ta, .int tk])), (ta, .inl (cI, 120, .inl tf))] ++ (wr ++ (bs.flatten ++ ms.flatten)))) ++ [(o0, .inl (cL, 1, .inr (.inl u)))], ⟨_, u, ⟨tp, mka, bx, rt, mc, mf, bf, _, wr, bs, ms, rfl, ⟨ta, tk, tf, rfl, hk⟩, hR0, hbl, hB, hml, hm8, hM, hmz⟩, rfl⟩, pm (fun a9 => by simp only [cn_cons, cn_app, cn_nil]; omega)⟩
