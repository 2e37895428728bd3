theorem IS.out {f : Nat → Int32} {x y : Int32} (h : IS f x) (hz : f (Int32.toNatClampNeg y) = -1) : Int32.toNatClampNeg x ≠ Int32.toNatClampNeg y := fun q => h.cl.2.2 (by rw [q]; exact hz)
def WJ (q f : Nat → Int32) (d : Nat → Nat) (x t w i : Int32) : Prop := WI q f d x t ∧ IS f w ∧ (d (Int32.toNatClampNeg w) : Int) ≤ i.toInt ∧ i.toInt < t.toInt
theorem WJ.push {q f : Nat → Int32} {d : Nat → Nat} {x t w i y : Int32} (h : WJ q f d x t w i) (hy : bi y 0 255) (hz : f (Int32.toNatClampNeg y) = -1) : WJ (upd q (Int32.toNatClampNeg t) y) (upd f (Int32.toNatClampNeg y) w) (upn d (Int32.toNatClampNeg y) (d (Int32.toNatClampNeg w) + 1)) x (t + 1) w i := by
  have ht := h.1.lt hy hz
  have k256 : (256 : Int32).toInt = 256 := by decide
  have ut := ti_up (i := t) (n := 256) (by omega)
  refine ⟨h.1.push hy hz h.2.1 h.2.2.1 h.2.2.2, h.2.1.put h.2.1.ne, ?_, by have := h.2.2.2; omega⟩
  rw [upn_n (h.2.1.out hz)]
  exact h.2.2.1
theorem c4 {v : Int32} (h : bi v 0 3) : Int32.toNatClampNeg v < 4 := by have := ti_cl (i := v) h.1; omega
theorem i_ad {x y : Int32} (k : Int) (hy : y.toInt = k) (hk : -1000 ≤ k ∧ k ≤ 1000) (hx : bi x (-1000) 1000000) : (x + y).toInt = x.toInt + k := by
  have := ti_ad (x := x) (y := y) (by rw [hy]; omega)
  rw [this, hy]
theorem lb_b0 {x : Int32} (h : bi x 1 8) : bi ((1 <<< (x &&& 31)) - 1) 0 255 := by
  have h2 : bi ((1 <<< (x &&& 31)) - 1) 1 255 := lb_bi h
  omega
theorem ones {g : Nat → Int32} {lo hi : Int} (h : bi (g 0) lo hi ∧ bi (g 1) lo hi ∧ bi (g 2) lo hi ∧ bi (g 3) lo hi) : ∀ j : Nat, j < 4 → bi (g j) lo hi := by
  intro j hj
  rcases (show j = 0 ∨ j = 1 ∨ j = 2 ∨ j = 3 by omega) with rfl | rfl | rfl | rfl
  · exact h.1
  · exact h.2.1
  · exact h.2.2.1
  · exact h.2.2.2
