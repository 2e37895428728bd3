theorem nr_le {r : Int32} (h : r = 0 ∨ r = 1 ∨ r = -1) : bi r (-1) 1 := by
  rcases h with rfl | rfl | rfl <;> decide
theorem of_bi {x : Int32} {k : Nat} (h : bi x 0 k) (hk : k < 2147483647) : ∃ n : Nat, n ≤ k ∧ x = nI n := by
  obtain ⟨n, h1, h2⟩ := vp_in_of (x := x) (n := k + 1) (vp_in_iff.mpr (by omega)) (by omega)
  exact ⟨n, by omega, h2⟩
theorem bi_nI {n : Nat} (h : n < 2 ^ 31) : bi (nI n) n n := by rw [bi, nI_toInt h]; omega
theorem or_nI {a b : Nat} (k : Nat) (hk : k ≤ 31) (ha : a < 2 ^ k) (hb : b < 2 ^ k) : bi (nI a ||| nI b) 0 (2 ^ k - 1 : Nat) := by
  have hk2 : 2 ^ k ≤ 2 ^ 31 := Nat.pow_le_pow_right (by decide) hk
  have h1 : (nI a ||| nI b).toBitVec.toNat = a ||| b := by
    rw [Int32.toBitVec_or, BitVec.toNat_or, pk_tn (by omega), pk_tn (by omega)]
  have h2 := Nat.or_lt_two_pow ha hb
  have h3 : (nI a ||| nI b).toInt = ((a ||| b : Nat) : Int) := by
    rw [← h1]
    show (nI a ||| nI b).toBitVec.toInt = _
    exact BitVec.toInt_eq_toNat_of_lt (by rw [h1]; omega)
  rw [bi, h3]; omega
theorem or_bi {q x : Int32} (h1 : bi q 0 255) (h2 : bi x 0 7) : bi (q ||| (1 <<< (x &&& 31))) 0 255 := by
  obtain ⟨a, ha, rfl⟩ := of_bi (k := 255) h1 (by decide)
  obtain ⟨j, hj, rfl⟩ := of_bi (k := 7) h2 (by decide)
  have e : ∃ t : Nat, t < 256 ∧ (1 : Int32) <<< (nI j &&& 31) = nI t := by
    rcases (show j = 0 ∨ j = 1 ∨ j = 2 ∨ j = 3 ∨ j = 4 ∨ j = 5 ∨ j = 6 ∨ j = 7 by omega) with rfl | rfl | rfl | rfl | rfl | rfl | rfl | rfl
    · exact ⟨1, by decide, by decide⟩
    · exact ⟨2, by decide, by decide⟩
    · exact ⟨4, by decide, by decide⟩
    · exact ⟨8, by decide, by decide⟩
    · exact ⟨16, by decide, by decide⟩
    · exact ⟨32, by decide, by decide⟩
    · exact ⟨64, by decide, by decide⟩
    · exact ⟨128, by decide, by decide⟩
  obtain ⟨t, ht, e⟩ := e
  rw [e]
  exact or_nI 8 (by decide) (by omega) (by omega)
theorem ix4 {x y : Int32} (h1 : bi x 0 7) (h2 : bi y 0 3) : (x * 4 + y).toInt = x.toInt * 4 + y.toInt := by
  have k4 : (4 : Int32).toInt = 4 := by decide
  have u := ti_mu (x := x) (y := 4) (by rw [k4]; omega)
  have v := ti_ad (x := x * 4) (y := y) (by rw [u, k4]; omega)
  rw [v, u, k4]
theorem lb_bi {x : Int32} (h : bi x 1 8) : bi (lb x) 1 255 := by
  obtain ⟨j, hj, rfl⟩ := of_bi (k := 8) (x := x) (by omega) (by decide)
  have h1 := h.1
  rw [nI_toInt (by omega)] at h1
  rcases (show j = 1 ∨ j = 2 ∨ j = 3 ∨ j = 4 ∨ j = 5 ∨ j = 6 ∨ j = 7 ∨ j = 8 by omega) with rfl | rfl | rfl | rfl | rfl | rfl | rfl | rfl <;> decide
/-- a row of sets that were reached: who is in it leads to one that is in it -/
def IS (f : Nat → Int32) (x : Int32) : Prop := ∃ j : Nat, j < 256 ∧ x = nI j ∧ ¬ f j = -1
def CLO (f : Nat → Int32) : Prop := ∀ j : Nat, j < 256 → f j = -1 ∨ IS f (f j)
def QI (g f : Nat → Int32) (t : Int32) : Prop := ∀ i : Nat, (i : Int) < t.toInt → IS f (g i)
theorem nI_m1 {j : Nat} (h : j < 256) : ¬ nI j = -1 := fun q => by
  have := ti_eq q
  rw [nI_toInt (by omega), show (-1 : Int32).toInt = -1 by decide] at this
  omega
theorem IS.rg {f : Nat → Int32} {x : Int32} (h : IS f x) : bi x 0 255 := by
  obtain ⟨j, h1, rfl, -⟩ := h
  show _ ∧ _
  rw [nI_toInt (by omega)]; omega
theorem IS.vin {f : Nat → Int32} {x : Int32} (h : IS f x) : vp_in x 256 := by
  have := h.rg
  exact vp_in_iff.mpr (by omega)
theorem IS.nx {f : Nat → Int32} {x : Int32} (h : IS f x) (hc : CLO f) : IS f (f (Int32.toNatClampNeg x)) := by
  obtain ⟨j, h1, rfl, h2⟩ := h
  rw [nI_clamp (by omega)]
  exact (hc j h1).resolve_left h2
theorem IS.put {f : Nat → Int32} {x v : Int32} {k : Nat} (h : IS f x) (hv : ¬ v = -1) : IS (upd f k v) x := by
  obtain ⟨j, h1, rfl, h2⟩ := h
  refine ⟨j, h1, rfl, ?_⟩
  by_cases e : j = k
  · subst e; rw [pk_us]; exact hv
  · rw [pk_un e]; exact h2
theorem IS.ne {f : Nat → Int32} {x : Int32} (h : IS f x) : ¬ x = -1 := by
  obtain ⟨j, h1, rfl, -⟩ := h
  exact nI_m1 h1
theorem IS.me {f : Nat → Int32} {x v : Int32} (h : bi x 0 255) (hv : ¬ v = -1) : IS (upd f (Int32.toNatClampNeg x) v) x := by
  obtain ⟨j, hj, rfl⟩ := of_bi (k := 255) h (by decide)
  rw [nI_clamp (by omega)]
  exact ⟨j, by omega, rfl, by rw [pk_us]; exact hv⟩
theorem CLO.put {f : Nat → Int32} {x : Int32} {k : Nat} (hc : CLO f) (h : IS f x) : CLO (upd f k x) := by
  intro j hj
  by_cases e : j = k
  · subst e; rw [pk_us]; exact Or.inr (h.put h.ne)
  · rw [pk_un e]
    rcases hc j hj with q | q
    · exact Or.inl q
    · exact Or.inr (q.put h.ne)
theorem bi_ne {x : Int32} {k : Int} (h : bi x 0 k) : ¬ x = -1 := fun q => by
  have := ti_eq q
  rw [show (-1 : Int32).toInt = -1 by decide] at this
  omega
theorem CLO.start {f : Nat → Int32} {x : Int32} (h : bi x 0 255) : CLO (upd (fl f (-1) 256) (Int32.toNatClampNeg x) x) := by
  intro j hj
  by_cases e : j = Int32.toNatClampNeg x
  · subst e; rw [pk_us]; exact Or.inr (IS.me h (bi_ne h))
  · rw [pk_un e]; exact Or.inl (fl_in hj)
theorem QI.start {g f : Nat → Int32} {x : Int32} (h : bi x 0 255) : QI (upd g 0 x) (upd (fl f (-1) 256) (Int32.toNatClampNeg x) x) 1 := by
  intro i hi
  rw [show (1 : Int32).toInt = 1 by decide] at hi
  rw [show i = 0 by omega, pk_us]
  exact IS.me h (bi_ne h)
theorem QI.at {g f : Nat → Int32} {t i : Int32} (h : QI g f t) (h0 : 0 ≤ i.toInt) (h1 : i.toInt < t.toInt) : IS f (g (Int32.toNatClampNeg i)) := h _ (by rw [ti_cl h0]; exact h1)
theorem QI.push {g f : Nat → Int32} {t x v : Int32} (h : QI g f t) (ht : bi t 0 255) (hx : bi x 0 255) (hv : ¬ v = -1) : QI (upd g (Int32.toNatClampNeg t) x) (upd f (Int32.toNatClampNeg x) v) (t + 1) := by
  intro i hi
  have k256 : (256 : Int32).toInt = 256 := by decide
  rw [ti_up (n := 256) (by omega)] at hi
  by_cases e : i = Int32.toNatClampNeg t
  · subst e; rw [pk_us]; exact IS.me hx hv
  · rw [pk_un e]
    have := ti_cl ht.1
    exact (h i (by omega)).put hv
theorem all_upd {f : Nat → Int32} {k : Nat} {v : Int32} {lo hi : Int} (h : ∀ j, bi (f j) lo hi) (hv : bi v lo hi) : ∀ j, bi (upd f k v j) lo hi := by
  intro j
  by_cases e : j = k
  · subst e; rw [pk_us]; exact hv
  · rw [pk_un e]; exact h j
theorem all_fl {f : Nat → Int32} {v : Int32} {n : Nat} {lo hi : Int} (h : ∀ j, bi (f j) lo hi) (hv : bi v lo hi) : ∀ j, bi (fl f v n j) lo hi := by
  intro j
  unfold fl
  split
  · exact hv
  · exact h j
