theorem ixk {m w : Int32} (c : Int32) (k lim : Int) (hc : c.toInt = k) (hk : 0 ≤ k ∧ k ≤ 100) (hm : bi m 0 7) (hw : bi w 0 lim) (hl : lim ≤ 1000) : (c * m + w).toInt = k * m.toInt + w.toInt := by
  have h0 : 0 ≤ k * m.toInt := Int.mul_nonneg hk.1 hm.1
  have h1 : k * m.toInt ≤ 100 * 7 := Int.mul_le_mul hk.2 hm.2 hm.1 (by decide)
  have u := ti_mu (x := c) (y := m) (by rw [hc]; omega)
  have v := ti_ad (x := c * m) (y := w) (by rw [u, hc]; omega)
  rw [v, u, hc]
theorem ix10 {m w : Int32} (hm : bi m 0 7) (hw : bi w 0 9) : (10 * m + w).toInt = 10 * m.toInt + w.toInt := ixk 10 10 9 (by decide) (by decide) hm hw (by decide)
theorem ix16 {m w : Int32} (hm : bi m 0 7) (hw : bi w 0 15) : (16 * m + w).toInt = 16 * m.toInt + w.toInt := ixk 16 16 15 (by decide) (by decide) hm hw (by decide)
theorem ix32 {m w : Int32} (hm : bi m 0 3) (hw : bi w 0 31) : (32 * m + w).toInt = 32 * m.toInt + w.toInt := ixk 32 32 31 (by decide) (by decide) (by omega) hw (by decide)
theorem ix324 {m x y : Int32} (hm : bi m 0 3) (hx : bi x 0 7) (hy : bi y 0 3) : (32 * m + 4 * x + y).toInt = 32 * m.toInt + 4 * x.toInt + y.toInt := by
  have k4 : (4 : Int32).toInt = 4 := by decide
  have u := ti_mu (x := 4) (y := x) (by rw [k4]; omega)
  rw [k4] at u
  have v := ix32 (w := 4 * x) hm (by rw [bi, u]; omega)
  have z := ti_ad (x := 32 * m + 4 * x) (y := y) (by rw [v, u]; omega)
  rw [z, v, u]
theorem and1 (x : Int32) : bi (x &&& 1) 0 1 := by
  obtain ⟨j, h1, h2⟩ := pk_andE x 1 (m := 1) (by decide)
  rw [bi, h2, nI_toInt (by omega)]; omega
theorem shr4 {x : Int32} (h : 0 < x.toInt) : bi (x >>> (4 &&& 31)) 0 (x.toInt - 1) := by
  have e := pk_shr x (4 &&& 31) 4 (by decide)
  rw [bi, e, Int.shiftRight_eq_div_pow]
  have : ((2 ^ 4 : Nat) : Int) = 16 := by decide
  rw [this]; omega
theorem sub_dec {F x : Int32} (h : ¬ x = F) : (F - ((x - F) &&& F)).toBitVec.toNat < (F - x).toBitVec.toNat := by
  have e : (F - ((x - F) &&& F)).toBitVec = F.toBitVec &&& ~~~ (x.toBitVec - F.toBitVec) := by
    have h1 : ((x.toBitVec - F.toBitVec) &&& F.toBitVec) + (F.toBitVec &&& ~~~ (x.toBitVec - F.toBitVec)) = F.toBitVec := by
      rw [BitVec.add_eq_or_of_and_eq_zero]
      · ext i; simp; cases (x.toBitVec - F.toBitVec)[i] <;> simp
      · ext i; simp; intro h1 h2; simp [h1]
    rw [Int32.toBitVec_sub, Int32.toBitVec_and, Int32.toBitVec_sub]
    exact BitVec.sub_eq_iff_eq_add.mpr (by rw [BitVec.add_comm]; exact h1.symm)
  have e2 : ~~~ (x.toBitVec - F.toBitVec) = (F.toBitVec - x.toBitVec) - 1#32 := by
    rw [BitVec.not_eq_neg_add, BitVec.neg_sub, BitVec.add_comm, ← BitVec.sub_eq_add_neg]
  rw [e, e2, BitVec.toNat_and, Int32.toBitVec_sub]
  have hne : ¬ (F.toBitVec - x.toBitVec).toNat = 0 := fun q => h (by
    have q2 : F.toBitVec - x.toBitVec = 0#32 := BitVec.eq_of_toNat_eq (by rw [q]; rfl)
    have q3 := BitVec.sub_eq_iff_eq_add.mp q2
    rw [BitVec.zero_add] at q3
    exact Int32.toBitVec_inj.mp q3.symm)
  have h2 : (F.toBitVec - x.toBitVec - 1#32).toNat = (F.toBitVec - x.toBitVec).toNat - 1 := by
    have hb := (F.toBitVec - x.toBitVec).isLt
    rw [BitVec.toNat_sub]
    show (2 ^ 32 - 1 + (F.toBitVec - x.toBitVec).toNat) % 2 ^ 32 = _
    omega
  rw [h2]
  exact Nat.lt_of_le_of_lt Nat.and_le_right (by omega)
theorem go_dec {F x w q : Int32} (hw : ¬ w = 0) (hq : q = 0 ∨ ¬ x = F) : (if q = 0 then 0 else (F - ((x - F) &&& F)).toBitVec.toNat + 1) < (if w = 0 then 0 else (F - x).toBitVec.toNat + 1) := by
  rw [if_neg hw]
  rcases hq with rfl | h
  · rw [if_pos rfl]; omega
  · have := sub_dec h
    split <;> omega
/-- the reference's makes -/
def MKG (g : Nat → Int32) (mm : Int32) : Prop := ∀ k : Nat, (k : Int) < mm.toInt → bi (g (10 * k + 1)) 1 24
theorem MKG.at {g : Nat → Int32} {mm v : Int32} (h : MKG g mm) (h0 : bi v 0 7) (h1 : v.toInt < mm.toInt) : bi (g (Int32.toNatClampNeg (10 * v + 1))) 1 24 := by
  have k1 : (1 : Int32).toInt = 1 := by decide
  have e := ix10 (m := v) (w := 1) h0 (by rw [bi, k1]; omega)
  have c1 := ti_cl (i := v) h0.1
  have c2 := ti_cl (i := 10 * v + 1) (by rw [e, k1]; omega)
  rw [show Int32.toNatClampNeg (10 * v + 1) = 10 * Int32.toNatClampNeg v + 1 by omega]
  exact h _ (by omega)
theorem MKG.put {g : Nat → Int32} {mm x : Int32} {k : Nat} (h : MKG g mm) (hk : k % 10 ≠ 1) : MKG (upd g k x) mm := fun j hj => by
  rw [pk_un (by omega)]
  exact h j hj
theorem MKG.putI {g : Nat → Int32} {mm x i : Int32} (h : MKG g mm) (h0 : 0 ≤ i.toInt) (hk : i.toInt % 10 ≠ 1) : MKG (upd g (Int32.toNatClampNeg i) x) mm := h.put (by have := ti_cl h0; omega)
theorem MKG.up {g : Nat → Int32} {mm : Int32} (h : MKG g mm) (hm : bi mm 0 7) (h1 : bi (g (10 * Int32.toNatClampNeg mm + 1)) 1 24) : MKG g (mm + 1) := fun j hj => by
  have k8 : (8 : Int32).toInt = 8 := by decide
  rw [ti_up (n := 8) (by omega)] at hj
  have c := ti_cl hm.1
  by_cases e : j = Int32.toNatClampNeg mm
  · subst e; exact h1
  · exact h j (by omega)
theorem MKG.row {g a : Nat → Int32} {mm i : Int32} (h : MKG g mm ∧ (2 ≤ i.toInt → bi (g (10 * Int32.toNatClampNeg mm + 1)) 1 24)) (hm : bi mm 0 7) (hi : bi i 0 9) (ha : bi (a 1) 1 24) : MKG (upd g (Int32.toNatClampNeg (10 * mm + i)) (a (Int32.toNatClampNeg i))) mm ∧ (2 ≤ (i + 1).toInt → bi (upd g (Int32.toNatClampNeg (10 * mm + i)) (a (Int32.toNatClampNeg i)) (10 * Int32.toNatClampNeg mm + 1)) 1 24) := by
  have e := ix10 (m := mm) (w := i) hm hi
  have c1 := ti_cl (i := mm) hm.1
  have c2 := ti_cl (i := i) hi.1
  have c3 := ti_cl (i := 10 * mm + i) (by omega)
  have k10 : (10 : Int32).toInt = 10 := by decide
  have u := ti_up (i := i) (n := 10) (by omega)
  refine ⟨fun j hj => ?_, fun h2 => ?_⟩
  · rw [pk_un (by omega)]
    exact h.1 j hj
  · by_cases q : Int32.toNatClampNeg (10 * mm + i) = 10 * Int32.toNatClampNeg mm + 1
    · rw [q, pk_us, show Int32.toNatClampNeg i = 1 by omega]; exact ha
    · rw [pk_un (fun z => q z.symm)]
      exact h.2 (by omega)
/-- how many sets were reached -/
def cnt (f : Nat → Int32) : Nat → Nat
  | 0 => 0
  | n + 1 => cnt f n + (if f n = -1 then 0 else 1)
theorem cnt_le (f : Nat → Int32) (n : Nat) : cnt f n ≤ n := by
  induction n with
  | zero => exact Nat.le_refl _
  | succ n ih => unfold cnt; split <;> omega
theorem cnt_lt {f : Nat → Int32} {n j : Nat} (hj : j < n) (h : f j = -1) : cnt f n < n := by
  induction n with
  | zero => omega
  | succ n ih =>
    unfold cnt
    by_cases e : j = n
    · subst e; rw [if_pos h]; have := cnt_le f j; omega
    · have := ih (by omega); split <;> omega
theorem cnt_out {f : Nat → Int32} {n j : Nat} {v : Int32} (hj : n ≤ j) : cnt (upd f j v) n = cnt f n := by
  induction n with
  | zero => rfl
  | succ n ih => unfold cnt; rw [ih (by omega), pk_un (by omega)]
theorem cnt_up {f : Nat → Int32} {n j : Nat} {v : Int32} (hj : j < n) (h : f j = -1) (hv : ¬ v = -1) : cnt (upd f j v) n = cnt f n + 1 := by
  induction n with
  | zero => omega
  | succ n ih =>
    unfold cnt
    by_cases e : j = n
    · subst e; rw [cnt_out (Nat.le_refl _), pk_us, if_neg hv, if_pos h]
    · rw [ih (by omega), pk_un (by omega)]; omega
theorem cnt_0 {f : Nat → Int32} {n : Nat} (h : ∀ j, j < n → f j = -1) : cnt f n = 0 := by
  induction n with
  | zero => rfl
  | succ n ih => unfold cnt; rw [ih (fun j hj => h j (by omega)), if_pos (h n (by omega))]
def upn (d : Nat → Nat) (k v : Nat) : Nat → Nat := fun j => if j = k then v else d j
theorem upn_s {d : Nat → Nat} {k v : Nat} : upn d k v k = v := by simp [upn]
theorem upn_n {d : Nat → Nat} {k v j : Nat} (h : j ≠ k) : upn d k v j = d j := by simp [upn, h]
/-- how far a set is from the start -/
def DK (f : Nat → Int32) (x : Int32) (d : Nat → Nat) : Prop := IS f x ∧ d (Int32.toNatClampNeg x) = 0 ∧ ∀ j : Nat, j < 256 → ¬ f j = -1 → nI j = x ∨ (IS f (f j) ∧ d (Int32.toNatClampNeg (f j)) + 1 = d j)
def WI (q f : Nat → Int32) (d : Nat → Nat) (x t : Int32) : Prop := DK f x d ∧ t.toInt = cnt f 256 ∧ ∀ i : Nat, (i : Int) < t.toInt → IS f (q i) ∧ d (Int32.toNatClampNeg (q i)) ≤ i
theorem IS.cl {f : Nat → Int32} {x : Int32} (h : IS f x) : Int32.toNatClampNeg x < 256 ∧ x = nI (Int32.toNatClampNeg x) ∧ ¬ f (Int32.toNatClampNeg x) = -1 := by
  obtain ⟨j, h1, rfl, h2⟩ := h
  rw [nI_clamp (by omega)]
  exact ⟨h1, rfl, h2⟩
theorem DK.nx {f : Nat → Int32} {x y : Int32} {d : Nat → Nat} (h : DK f x d) (hy : IS f y) (hne : ¬ y = x) : IS f (f (Int32.toNatClampNeg y)) ∧ d (Int32.toNatClampNeg (f (Int32.toNatClampNeg y))) + 1 = d (Int32.toNatClampNeg y) := by
  obtain ⟨h1, h2, h3⟩ := hy.cl
  exact (h.2.2 _ h1 h3).resolve_left (fun q => hne (h2.trans q))
theorem WI.start {q f : Nat → Int32} {x : Int32} (hx : bi x 0 255) (hf : ∀ j, j < 256 → f j = -1) : WI (upd q 0 x) (upd f (Int32.toNatClampNeg x) x) (fun _ => 0) x 1 := by
  have hn : ¬ x = -1 := bi_ne hx
  have c := ti_cl hx.1
  have hI : IS (upd f (Int32.toNatClampNeg x) x) x := IS.me hx hn
  have k1 : (1 : Int32).toInt = 1 := by decide
  refine ⟨⟨hI, rfl, fun j hj h => ?_⟩, ?_, fun i hi => ?_⟩
  · by_cases e : j = Int32.toNatClampNeg x
    · subst e; exact Or.inl hI.cl.2.1.symm
    · rw [pk_un e] at h; exact absurd (hf j hj) h
  · rw [cnt_up (by omega) (hf _ (by omega)) hn, cnt_0 hf, k1]; rfl
  · rw [k1] at hi
    rw [show i = 0 by omega, pk_us]
    exact ⟨hI, Nat.le_refl _⟩
theorem WI.at {q f : Nat → Int32} {d : Nat → Nat} {x t i : Int32} (h : WI q f d x t) (h0 : 0 ≤ i.toInt) (h1 : i.toInt < t.toInt) : IS f (q (Int32.toNatClampNeg i)) ∧ (d (Int32.toNatClampNeg (q (Int32.toNatClampNeg i))) : Int) ≤ i.toInt := by
  have c := ti_cl h0
  have := h.2.2 (Int32.toNatClampNeg i) (by omega)
  exact ⟨this.1, by omega⟩
theorem WI.le {q f : Nat → Int32} {d : Nat → Nat} {x t : Int32} (h : WI q f d x t) : bi t 0 256 := by
  have := cnt_le f 256
  have := h.2.1
  show _ ∧ _
  omega
theorem WI.lt {q f : Nat → Int32} {d : Nat → Nat} {x t y : Int32} (h : WI q f d x t) (hy : bi y 0 255) (hz : f (Int32.toNatClampNeg y) = -1) : bi t 0 255 := by
  have c := ti_cl hy.1
  have := cnt_lt (n := 256) (by omega) hz
  have := h.2.1
  show _ ∧ _
  omega
theorem WI.push {q f : Nat → Int32} {d : Nat → Nat} {x t y w i : Int32} (h : WI q f d x t) (hy : bi y 0 255) (hz : f (Int32.toNatClampNeg y) = -1) (hw : IS f w) (hd : (d (Int32.toNatClampNeg w) : Int) ≤ i.toInt) (hi : i.toInt < t.toInt) : WI (upd q (Int32.toNatClampNeg t) y) (upd f (Int32.toNatClampNeg y) w) (upn d (Int32.toNatClampNeg y) (d (Int32.toNatClampNeg w) + 1)) x (t + 1) := by
  have ht := h.lt hy hz
  have k256 : (256 : Int32).toInt = 256 := by decide
  have ut := ti_up (i := t) (n := 256) (by omega)
  have c := ti_cl hy.1
  have ct := ti_cl ht.1
  have hne : ¬ w = -1 := hw.ne
  have out : ∀ {z : Int32}, IS f z → Int32.toNatClampNeg z ≠ Int32.toNatClampNeg y := fun hz2 q2 => hz2.cl.2.2 (by rw [q2]; exact hz)
  obtain ⟨⟨d1, d2, d3⟩, h2, h3⟩ := h
  refine ⟨⟨d1.put hne, ?_, fun j hj hn => ?_⟩, ?_, fun k hk => ?_⟩
  · rw [upn_n (out d1)]; exact d2
  · by_cases e : j = Int32.toNatClampNeg y
    · subst e
      rw [pk_us, upn_s, upn_n (out hw)]
      exact Or.inr ⟨hw.put hne, rfl⟩
    · rw [pk_un e] at hn ⊢
      rcases d3 j hj hn with q1 | ⟨q1, q2⟩
      · exact Or.inl q1
      · rw [upn_n (out q1), upn_n e]; exact Or.inr ⟨q1.put hne, q2⟩
  · rw [cnt_up (by omega) hz hne, ut]; omega
  · by_cases e : k = Int32.toNatClampNeg t
    · subst e
      rw [pk_us, upn_s]
      exact ⟨IS.me hy hne, by omega⟩
    · rw [pk_un e]
      have := h3 k (by omega)
      rw [upn_n (out this.1)]
      exact ⟨this.1.put hne, this.2⟩
theorem all_upn {f : Nat → Int32} {k n : Nat} {v : Int32} {lo hi : Int} (h : ∀ j, j < n → bi (f j) lo hi) (hv : bi v lo hi) : ∀ j, j < n → bi (upd f k v j) lo hi := by
  intro j hj
  by_cases e : j = k
  · subst e; rw [pk_us]; exact hv
  · rw [pk_un e]; exact h j hj
theorem fr_up {g : Nat → Int32} {i : Int32} (h : ∀ j : Nat, (j : Int) < i.toInt → g j = -1) (h0 : bi i 0 255) : ∀ j : Nat, (j : Int) < (i + 1).toInt → upd g (Int32.toNatClampNeg i) (-1) j = -1 := by
  intro j hj
  have k256 : (256 : Int32).toInt = 256 := by decide
  rw [ti_up (n := 256) (by omega)] at hj
  have c := ti_cl h0.1
  by_cases e : j = Int32.toNatClampNeg i
  · subst e; rw [pk_us]
  · rw [pk_un e]; exact h j (by omega)
theorem ii_p1 (x : Int32) : x + Int32.ofInt 1 = x + 1 := rfl
theorem ii_m1 (x : Int32) : x + Int32.ofInt (-1) = x + (-1) := rfl
theorem ti_am1s {i : Int32} (h : -100 ≤ i.toInt) : (i + (-1)).toInt = i.toInt - 1 := ti_am1 (by omega)
