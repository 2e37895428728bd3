/-- Int32 facts as facts of Int -/
abbrev bi (x : Int32) (lo hi : Int) : Prop := lo ≤ x.toInt ∧ x.toInt ≤ hi
theorem ti_lt {x y : Int32} (h : x < y) : x.toInt < y.toInt := Int32.lt_iff_toInt_lt.mp h
theorem ti_nlt {x y : Int32} (h : ¬ x < y) : y.toInt ≤ x.toInt := by
  have := mt Int32.lt_iff_toInt_lt.mpr h
  omega
theorem ti_le {x y : Int32} (h : x ≤ y) : x.toInt ≤ y.toInt := Int32.le_iff_toInt_le.mp h
theorem ti_nle {x y : Int32} (h : ¬ x ≤ y) : y.toInt < x.toInt := by
  have := mt Int32.le_iff_toInt_le.mpr h
  omega
theorem ti_eq {x y : Int32} (h : x = y) : x.toInt = y.toInt := congrArg Int32.toInt h
theorem ti_ne {x y : Int32} (h : ¬ x = y) : x.toInt ≠ y.toInt := fun q => h (Int32.toInt_inj.mp q)
theorem ti_wi1 {v lo hi : Int32} (h : ¬ wi v lo hi = 0) : lo.toInt ≤ v.toInt ∧ v.toInt ≤ hi.toInt := by
  unfold wi at h
  by_cases h1 : v < lo
  · exact absurd (if_pos h1) h
  · by_cases h2 : hi < v
    · exact absurd (by rw [if_neg h1, if_pos h2]) h
    · exact ⟨ti_nlt h1, ti_nlt h2⟩
theorem ti_wi0 {v lo hi : Int32} (h : wi v lo hi = 0) : v.toInt < lo.toInt ∨ hi.toInt < v.toInt := by
  unfold wi at h
  by_cases h1 : v < lo
  · exact Or.inl (ti_lt h1)
  · by_cases h2 : hi < v
    · exact Or.inr (ti_lt h2)
    · rw [if_neg h1, if_neg h2] at h; exact absurd h (by decide)
theorem ti_rg (x : Int32) : bi x (-2147483648) 2147483647 := by
  have h1 := Int32.le_toInt x
  have h2 := Int32.toInt_lt x
  constructor <;> omega
theorem ti_ad {x y : Int32} (h : -2147483648 ≤ x.toInt + y.toInt ∧ x.toInt + y.toInt ≤ 2147483647) : (x + y).toInt = x.toInt + y.toInt := by
  rw [Int32.toInt_add]
  exact Int.bmod_eq_of_le (by omega) (by omega)
theorem ti_su {x y : Int32} (h : -2147483648 ≤ x.toInt - y.toInt ∧ x.toInt - y.toInt ≤ 2147483647) : (x - y).toInt = x.toInt - y.toInt := by
  rw [Int32.toInt_sub]
  exact Int.bmod_eq_of_le (by omega) (by omega)
theorem ti_mu {x y : Int32} (h : -2147483648 ≤ x.toInt * y.toInt ∧ x.toInt * y.toInt ≤ 2147483647) : (x * y).toInt = x.toInt * y.toInt := by
  rw [Int32.toInt_mul]
  exact Int.bmod_eq_of_le (by omega) (by omega)
theorem ti_up {i n : Int32} (h : i.toInt < n.toInt) : (i + 1).toInt = i.toInt + 1 := by
  have h1 := ti_rg n
  have h2 := ti_rg i
  exact ti_ad (x := i) (y := 1) (by have h3 : (1 : Int32).toInt = 1 := (by decide); rw [h3]; omega)
theorem ti_m1 {i : Int32} (h : -2147483648 < i.toInt) : (i - 1).toInt = i.toInt - 1 := by
  have h2 := ti_rg i
  exact ti_su (x := i) (y := 1) (by have h3 : (1 : Int32).toInt = 1 := (by decide); rw [h3]; omega)
theorem ti_am1 {i : Int32} (h : -2147483648 < i.toInt) : (i + (-1)).toInt = i.toInt - 1 := by
  have h2 := ti_rg i
  have h3 : (-1 : Int32).toInt = -1 := by decide
  have := ti_ad (x := i) (y := -1) (by rw [h3]; omega)
  rw [h3] at this
  exact this
theorem ti_nI {n : Nat} (h : n < 2 ^ 31) : (nI n).toInt = n := nI_toInt h
theorem ti_cl {i : Int32} (h : 0 ≤ i.toInt) : (Int32.toNatClampNeg i : Int) = i.toInt := by
  show ((i.toInt.toNat : Nat) : Int) = i.toInt
  omega
section GL
variable {p : Program} {l : Launch} {e : Env} {R : Room} {s : State} {m : MethodId} {args : Array Value} {below : List Frame} {meth : Method} {c : Code} {cells slots : Nat} {Q : State → Prop}
/-- a place where roads meet -/
theorem jn_S {H0 : Heap} {locs0 : List Loc} {g : JFrame} (pcJ : Nat) (Inv : List Value → Heap → List Loc → Array Slot → Prop) (h1 : ∀ (st : List Value) (H : Heap) (locs : List Loc) (ls : Array Slot), Inv st H locs ls → W p l e R s m args below meth c H locs cells slots Q (F0 m pcJ ls st)) (h2 : (∀ (st : List Value) (H : Heap) (locs : List Loc) (ls : Array Slot), Inv st H locs ls → W p l e R s m args below meth c H locs cells slots Q (F0 m pcJ ls st)) → W p l e R s m args below meth c H0 locs0 cells slots Q g) : W p l e R s m args below meth c H0 locs0 cells slots Q g := h2 h1
/-- a loop whose measure falls -/
theorem lp_N {pc : Nat} {st : List Value} (Inv : Nat → Heap → List Loc → Array Slot → Prop) (step : ∀ (n : Nat), (∀ (k : Nat) (H : Heap) (locs : List Loc) (ls : Array Slot), k < n → Inv k H locs ls → W p l e R s m args below meth c H locs cells slots Q (F0 m pc ls st)) → ∀ (H : Heap) (locs : List Loc) (ls : Array Slot), Inv n H locs ls → W p l e R s m args below meth c H locs cells slots Q (F0 m pc ls st)) {n0 : Nat} {H : Heap} {locs : List Loc} {ls : Array Slot} (h0 : Inv n0 H locs ls) : W p l e R s m args below meth c H locs cells slots Q (F0 m pc ls st) := by
  have key : ∀ (n : Nat) (k : Nat), k < n → ∀ (H : Heap) (locs : List Loc) (ls : Array Slot), Inv k H locs ls → W p l e R s m args below meth c H locs cells slots Q (F0 m pc ls st) := by
    intro n
    induction n with
    | zero => intro k h; exact absurd h (Nat.not_lt_zero _)
    | succ n ih => intro k h; exact step k (fun k' H locs ls h1 h2 => ih k' (by omega) H locs ls h2)
  exact key (n0 + 1) n0 (Nat.lt_succ_self _) H locs ls h0
end GL
/-- all rows of ints are of one class -/
theorem ra_int {D : va_G} {t1 t2 : List (ClassId × FieldType)} {U : State} {a b : ClassId} (i j : Nat) (h1 : va_K D vwCl t1 U) (h2 : va_K D vwCl t2 U) (e1 : t1[i]? = some (a, .int)) (e2 : t2[j]? = some (b, .int)) : a = b :=
  Option.some.inj ((va_nm_int (h1.2 i _ e1).2).symm.trans (va_nm_int (h2.2 j _ e2).2))
/-- the order of the cells is free -/
theorem va_P.perm {D : va_G} {w1 w2 : va_W} {H : Heap} (hp : w1.Perm w2) (h : va_P D vwCl w1 H) : va_P D vwCl w2 H := fun k q hk => by
  obtain ⟨i, hi⟩ := List.getElem?_of_mem (hp.mem_iff.mpr (List.mem_of_getElem? hk))
  exact h i q hi
theorem va_D_iff {A : Nat → Prop} {w : va_W} : va_D A w ↔ (w.map (fun q => q.1)).Nodup ∧ ∀ q ∈ w, A q.1 := by
  constructor
  · intro h
    refine ⟨?_, fun q hq => ?_⟩
    · show List.Pairwise _ _
      rw [List.pairwise_iff_getElem]
      intro i j hi hj hij he
      rw [List.length_map] at hi hj
      rw [List.getElem_map, List.getElem_map] at he
      have := h.1 i j w[i] w[j] (List.getElem?_eq_getElem hi) (List.getElem?_eq_getElem hj) he
      omega
    · obtain ⟨i, hi⟩ := List.getElem?_of_mem hq
      exact h.2 i q hi
  · intro h
    refine ⟨fun i j x y hx hy hxy => ?_, fun k q hk => h.2 q (List.mem_of_getElem? hk)⟩
    have h1 : List.Pairwise (fun a b => a ≠ b) (w.map (fun q => q.1)) := h.1
    rw [List.pairwise_iff_getElem] at h1
    obtain ⟨hi, rfl⟩ := List.getElem?_eq_some_iff.mp hx
    obtain ⟨hj, rfl⟩ := List.getElem?_eq_some_iff.mp hy
    have hi2 : i < (w.map (fun q => q.1)).length := by rw [List.length_map]; exact hi
    have hj2 : j < (w.map (fun q => q.1)).length := by rw [List.length_map]; exact hj
    rcases Nat.lt_trichotomy i j with q | q | q
    · exact absurd (by rw [List.getElem_map, List.getElem_map]; exact hxy) (h1 i j hi2 hj2 q)
    · exact q
    · exact absurd (by rw [List.getElem_map, List.getElem_map]; exact hxy.symm) (h1 j i hj2 hi2 q)
theorem va_D.perm {A : Nat → Prop} {w1 w2 : va_W} (hp : w1.Perm w2) (h : va_D A w1) : va_D A w2 := by
  rw [va_D_iff] at h ⊢
  exact ⟨(hp.map _).nodup_iff.mp h.1, fun q hq => h.2 q (hp.mem_iff.mpr hq)⟩
theorem va_D.left {A : Nat → Prop} {w1 w2 : va_W} (h : va_D A (w1 ++ w2)) : va_D A w1 := by
  rw [va_D_iff] at h ⊢
  rw [List.map_append, List.nodup_append] at h
  exact ⟨h.1.1, fun q hq => h.2 q (List.mem_append_left _ hq)⟩
theorem va_P.left {D : va_G} {w1 w2 : va_W} {H : Heap} (h : va_P D vwCl (w1 ++ w2) H) : va_P D vwCl w1 H := fun k q hk => by
  obtain ⟨i, hi⟩ := List.getElem?_of_mem (List.mem_append_left w2 (List.mem_of_getElem? hk))
  exact h i q hi
theorem va_A_perm {w1 w2 wr : va_W} {sz : Nat} (hp : w1.Perm (w2 ++ wr)) {q : Nat} (h : va_A w2 sz q) : va_A w1 sz q := by
  rcases h with ⟨k, e, h⟩ | h
  · obtain ⟨i, hi⟩ := List.getElem?_of_mem (hp.mem_iff.mpr (List.mem_append_left wr (List.mem_of_getElem? h)))
    exact Or.inl ⟨i, e, hi⟩
  · exact Or.inr h
/-- what is not a callee's stays: the heart of the frame rule -/
theorem fr_join {D : va_G} {wc wr w1 w w' : va_W} {A : Nat → Prop} {H H1 : Heap} (hp : w.Perm (wc ++ wr)) (hP : va_P D vwCl w H) (hD : va_D A w) (hz : H.size ≤ H1.size) (hk : ∀ q : Nat, q < H.size → ¬ va_A wc H.size q → H1[q]? = H[q]?) (hP1 : va_P D vwCl w1 H1) (hD1 : va_D (va_A wc H.size) w1) (hq : w'.Perm (wr ++ w1)) : va_P D vwCl w' H1 ∧ va_D (va_A w H.size) w' := by
  have hP2 := hP.perm hp
  have hD2 := (va_D_iff.mp (hD.perm hp))
  have out : ∀ x ∈ wr, x.1 < H.size ∧ ¬ va_A wc H.size x.1 := by
    intro x hx
    obtain ⟨i, hi⟩ := List.getElem?_of_mem (List.mem_append_right wc hx)
    have hl := (hP2 i x hi).lt
    refine ⟨hl, fun h => ?_⟩
    rcases h with ⟨k, e, h⟩ | h
    · have h3 := hD2.1
      rw [List.map_append, List.nodup_append] at h3
      exact h3.2.2 x.1 (List.mem_map.mpr ⟨_, List.mem_of_getElem? h, rfl⟩) x.1 (List.mem_map.mpr ⟨x, hx, rfl⟩) rfl
    · omega
  have hPr : va_P D vwCl wr H1 := fun k q hk2 => by
    have hm := List.mem_of_getElem? hk2
    obtain ⟨i, hi⟩ := List.getElem?_of_mem (List.mem_append_right wc hm)
    exact (hP2 i q hi).kept (hk q.1 (out q hm).1 (out q hm).2)
  refine ⟨(va_P.app hPr hP1).perm hq.symm, va_D.perm hq.symm ?_⟩
  refine va_D.app ?_ (hD1.weaken (fun k q _ h => va_A_perm hp h)) (fun i j x y hx hy hxy => ?_)
  · rw [va_D_iff]
    have h3 := hD2.1
    rw [List.map_append, List.nodup_append] at h3
    refine ⟨h3.2.1, fun q hq2 => ?_⟩
    obtain ⟨i, hi⟩ := List.getElem?_of_mem (hp.mem_iff.mpr (List.mem_append_right wc hq2))
    exact Or.inl ⟨i, q.2, hi⟩
  · exact (out x (List.mem_of_getElem? hx)).2 (by rw [hxy]; exact hD1.2 j y hy)
section FR
variable {l : Launch} {y : MethodName} {wl : List Cond} {rm : Room} {D : va_G} {av : List Value} {w wc wr : va_W} {tys tysc : List (ClassId × FieldType)} {sz : Nat} {S S2 : Type}
theorem st_Pc.up (hp : w.Perm (wc ++ wr)) (isT : List Nat) (hT : isT.filterMap (fun i => tys[i]?) = tysc) {a : Array Value} {U : State} (h : st_Pc D av w tys sz a U) : st_Pc D av wc tysc sz a U := by
  obtain ⟨h0, h1, hP, hK, hD, hN⟩ := h
  exact ⟨h0, h1, (hP.perm hp).left, hK.sub isT hT, (hD.perm hp).left, hN⟩
/-- the frame rule of a contract -/
theorem Ci.up {post : Int32 → S → Prop} {ws' : S → va_W} {tys' : S → List (ClassId × FieldType)} (h : Ci l y wl rm D av wc tysc sz post ws' tys') (hp : w.Perm (wc ++ wr)) (isT : List Nat) (hT : isT.filterMap (fun i => tys[i]?) = tysc) {G : Int32 → S2 → Prop} {wG : S2 → va_W} (hG : ∀ r u, post r u → ∃ z, G r z ∧ (wG z).Perm (wr ++ ws' u)) : Ci l y wl rm D av w tys sz G wG (fun _ => []) := by
  unfold Ci Met at h ⊢
  refine MetFree.mono h (fun a U hU => st_Pc.up hp isT hT hU) (fun _ _ _ _ _ _ => trivial) ?_
  rintro a st o t hU ⟨⟨⟨r, u, ho, hpost, hP1, hK1, hD1⟩, hz, hk⟩, L, hF, hL⟩
  obtain ⟨h0, h1, hP, hK, hD, hN⟩ := hU
  obtain ⟨z, hz1, hz2⟩ := hG r u hpost
  subst h1
  obtain ⟨hP2, hD2⟩ := fr_join hp hP hD hz hk hP1 hD1 hz2
  exact ⟨⟨⟨r, z, ho, hz1, hP2, ⟨hK1.1, fun k q hk => by simp at hk⟩, hD2⟩, hz, fun q h2 h3 => hk q h2 (fun h4 => h3 (va_A_perm hp h4))⟩, L, hF, fun q hq => va_A_perm hp (hL q hq)⟩
theorem Cv.up {post : S → Prop} {ws' : S → va_W} {tys' : S → List (ClassId × FieldType)} (h : Cv l y wl rm D av wc tysc sz post ws' tys') (hp : w.Perm (wc ++ wr)) (isT : List Nat) (hT : isT.filterMap (fun i => tys[i]?) = tysc) {G : S2 → Prop} {wG : S2 → va_W} (hG : ∀ u, post u → ∃ z, G z ∧ (wG z).Perm (wr ++ ws' u)) : Cv l y wl rm D av w tys sz G wG (fun _ => []) := by
  unfold Cv Met at h ⊢
  refine MetFree.mono h (fun a U hU => st_Pc.up hp isT hT hU) (fun _ _ _ _ _ _ => trivial) ?_
  rintro a st o t hU ⟨⟨⟨u, ho, hpost, hP1, hK1, hD1⟩, hz, hk⟩, L, hF, hL⟩
  obtain ⟨h0, h1, hP, hK, hD, hN⟩ := hU
  obtain ⟨z, hz1, hz2⟩ := hG u hpost
  subst h1
  obtain ⟨hP2, hD2⟩ := fr_join hp hP hD hz hk hP1 hD1 hz2
  exact ⟨⟨⟨z, ho, hz1, hP2, ⟨hK1.1, fun k q hk => by simp at hk⟩, hD2⟩, hz, fun q h2 h3 => hk q h2 (fun h4 => h3 (va_A_perm hp h4))⟩, L, hF, fun q hq => va_A_perm hp (hL q hq)⟩
end FR
