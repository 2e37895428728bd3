/-- 1 if v is at least lo and at most hi, else 0 -/
def wi (v lo hi : Int32) : Int32 := if v < lo then 0 else if hi < v then 0 else 1
theorem wi_nar (v lo hi : Int32) : narrow .boolean (.int (wi v lo hi)) = .int (wi v lo hi) := by
  unfold wi; split
  · rfl
  · split <;> rfl
/-- the lowest n bits -/
def lb (n : Int32) : Int32 := (1 <<< (n &&& 31)) - 1
theorem vin {i : Int32} {n : Nat} (h : ¬ (i < 0 ∨ n ≤ i.toNatClampNeg)) : vp_in i n := h
/-- the first i places hold v -/
def fl (f : Nat → Int32) (v : Int32) (i : Nat) : Nat → Int32 := fun j => if j < i then v else f j
theorem fl_0 (f : Nat → Int32) (v : Int32) : fl f v 0 = f := by funext j; simp [fl]
theorem fl_up (f : Nat → Int32) (v : Int32) (i : Nat) : upd (fl f v i) i v = fl f v (i + 1) := by
  funext j
  unfold upd fl
  by_cases h : j = i
  · subst h; simp
  · by_cases h2 : j < i
    · simp [h, h2, Nat.lt_succ_of_lt h2]
    · have h3 : ¬ j < i + 1 := by omega
      simp [h, h2, h3]
theorem fl_in {f : Nat → Int32} {v : Int32} {i j : Nat} (h : j < i) : fl f v i j = v := by simp [fl, h]
theorem tsw {n : Nat} (h0 : 0 < n) (hn : n < 2 ^ 31) (x : Int32) : (∃ k : Nat, k < n ∧ x = nI k) ∨ (x.toInt < (0 : Int) ∨ (n - 1 : Nat) < x.toInt) := by
  by_cases h : vp_in x n
  · exact Or.inl (vp_in_of h hn)
  · right
    rw [vp_in_iff] at h
    omega
theorem tsw_ne {n k : Nat} {x : Int32} (hk : k < n) (hn : n < 2 ^ 31) (h : x.toInt < (0 : Int) ∨ (n - 1 : Nat) < x.toInt) : ¬ x = nI k := by
  intro e
  subst e
  rw [nI_toInt (by omega)] at h
  omega
theorem wi_bx {v : Int32} (h : ¬ wi v 0 3 = 0) : v = 0 ∨ v = 1 ∨ v = 2 ∨ v = 3 := by
  unfold wi at h
  by_cases h1 : v < 0
  · exact absurd (if_pos h1) h
  · by_cases h2 : 3 < v
    · exact absurd (by rw [if_neg h1, if_pos h2]) h
    · rw [Int32.lt_iff_toInt_lt] at h1 h2
      have a : (0 : Int32).toInt = 0 := by decide
      have b : (3 : Int32).toInt = 3 := by decide
      rw [a] at h1; rw [b] at h2
      rcases (show v.toInt = 0 ∨ v.toInt = 1 ∨ v.toInt = 2 ∨ v.toInt = 3 by omega) with e | e | e | e
      · exact Or.inl (Int32.toInt_inj.mp (e.trans (by decide)))
      · exact Or.inr (Or.inl (Int32.toInt_inj.mp (e.trans (by decide))))
      · exact Or.inr (Or.inr (Or.inl (Int32.toInt_inj.mp (e.trans (by decide)))))
      · exact Or.inr (Or.inr (Or.inr (Int32.toInt_inj.mp (e.trans (by decide)))))
theorem wi_00 {v : Int32} (h : ¬ wi v 0 0 = 0) : v = 0 := by
  unfold wi at h
  by_cases h1 : v < 0
  · exact absurd (if_pos h1) h
  · by_cases h2 : 0 < v
    · exact absurd (by rw [if_neg h1, if_pos h2]) h
    · rw [Int32.lt_iff_toInt_lt] at h1 h2
      have a : (0 : Int32).toInt = 0 := by decide
      rw [a] at h1 h2
      exact Int32.toInt_inj.mp (show v.toInt = (0 : Int32).toInt by rw [a]; omega)
theorem wi_11 {v : Int32} (h : ¬ wi v 1 1 = 0) : v = 1 := by
  unfold wi at h
  by_cases h1 : v < 1
  · exact absurd (if_pos h1) h
  · by_cases h2 : 1 < v
    · exact absurd (by rw [if_neg h1, if_pos h2]) h
    · rw [Int32.lt_iff_toInt_lt] at h1 h2
      have a : (1 : Int32).toInt = 1 := by decide
      rw [a] at h1 h2
      exact Int32.toInt_inj.mp (show v.toInt = (1 : Int32).toInt by rw [a]; omega)
theorem wi_0m (v : Int32) : wi v 0 (-1) = 0 := by
  unfold wi
  by_cases h1 : v < 0
  · exact if_pos h1
  · have h2 : (-1 : Int32) < v := by
      rw [Int32.lt_iff_toInt_lt] at h1 ⊢
      have a : (0 : Int32).toInt = 0 := by decide
      have b : (-1 : Int32).toInt = -1 := by decide
      rw [a] at h1; rw [b]; omega
    rw [if_neg h1, if_pos h2]
theorem na_i (N : Nat) (cA : ClassId) : vp_cell cA (N, .inl (fun _ => 0)) = arrV cA N (fun _ => defaultValue .int) := rfl
theorem na_l (N : Nat) (cA : ClassId) : vp_cell cA (N, .inr (.inl (fun _ => 0))) = arrV cA N (fun _ => defaultValue .long) := rfl
/-- what a first call answers -/
def mkS (k n a b p z o : Int32) : Int32 := if wi k 0 2 = 0 then -1 else if wi n 1 24 = 0 then -1 else if wi a 1 9999 = 0 then -1 else if wi b 1 9999 = 0 then -1 else if wi p 1 9999 = 0 then -1 else if wi z 1 9999 = 0 then -1 else if wi o 1 9999 = 0 then -1 else if z = o then -1 else 0
def bxS (b k m : Int32) : Int32 := if wi b 0 3 = 0 then 0 else if wi k 1 8 = 0 then 0 else if wi m 1 4 = 0 then 0 else 1
def ldS (b x y z : Int32) : Int32 := if wi b 0 3 = 0 then 0 else if wi x 0 0 = 0 then 0 else if wi y 0 0 = 0 then 0 else if wi z 0 0 = 0 then 0 else 1
def myS (b t : Int32) : Int32 := if wi b 0 3 = 0 then 0 else if wi t 1 1 = 0 then 0 else 1
def puS (b y : Int32) : Int32 := if wi b 0 3 = 0 then -1 else if wi y 0 0 = 0 then -1 else 1
def waS (b t : Int32) : Int32 := if wi b 0 3 = 0 then -1 else if wi t 1 1 = 0 then -1 else 0
def toS (b w : Int32) : Int32 := if wi b 0 3 = 0 then -1 else if w = 0 then 1 else if w = 1 then 1 else if w = 2 then 1 else -1
def coS (w : Int32) : Int32 := if w = 0 then 0 else if w = 1 then 0 else if w = 2 then 0 else -1
theorem wi_in {v : Int32} (h : ¬ wi v 0 3 = 0) : vp_in v 4 := by rcases wi_bx h with rfl | rfl | rfl | rfl <;> exact vin (by decide)
theorem wi_lt {v : Int32} (h : ¬ wi v 0 3 = 0) : Int32.toNatClampNeg v < 4 := by rcases wi_bx h with rfl | rfl | rfl | rfl <;> decide
theorem lp_up {N : Nat} {P : Nat → Heap → List Loc → Array Slot → Prop} {G : Heap → List Loc → Array Slot → Prop} (hstep : ∀ i, i ≤ N → (∀ H locs ls, i < N → P (i + 1) H locs ls → G H locs ls) → ∀ H locs ls, P i H locs ls → G H locs ls) : ∀ H locs ls, P 0 H locs ls → G H locs ls := by
  have key : ∀ n i, i ≤ N → N < i + n → ∀ H locs ls, P i H locs ls → G H locs ls := by
    intro n
    induction n with
    | zero => intro i h1 h2; exact absurd h2 (by omega)
    | succ n ih => intro i h1 h2; exact hstep i h1 (fun H locs ls hl hp => ih (i + 1) hl (by omega) H locs ls hp)
  exact key (N + 1) 0 (Nat.zero_le _) (by omega)
theorem lp_W {p : Program} {l : Launch} {e : Env} {R : Room} {s : State} {m : MethodId} {args : Array Value} {below : List Frame} {meth : Method} {c : Code} {cells slots : Nat} {Q : State → Prop} {pc : Nat} {st : List Value} {N : Nat} {P : Nat → Heap → List Loc → Array Slot → Prop} (hstep : ∀ i, i ≤ N → (∀ H locs ls, i < N → P (i + 1) H locs ls → W p l e R s m args below meth c H locs cells slots Q (F0 m pc ls st)) → ∀ H locs ls, P i H locs ls → W p l e R s m args below meth c H locs cells slots Q (F0 m pc ls st)) {H : Heap} {locs : List Loc} {ls : Array Slot} (h0 : P 0 H locs ls) : W p l e R s m args below meth c H locs cells slots Q (F0 m pc ls st) := lp_up (G := fun H locs ls => W p l e R s m args below meth c H locs cells slots Q (F0 m pc ls st)) hstep H locs ls h0
theorem len8 {L : Nat} (h : L ≤ 8) (hn : ¬ L = 8) : Int32.ofNat L - 8 < 0 := by
  rcases (show L = 0 ∨ L = 1 ∨ L = 2 ∨ L = 3 ∨ L = 4 ∨ L = 5 ∨ L = 6 ∨ L = 7 by omega) with rfl | rfl | rfl | rfl | rfl | rfl | rfl | rfl <;> decide
