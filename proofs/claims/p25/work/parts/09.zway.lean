/-- the search: queue, from, by, how many -/
abbrev WS : Type := (Nat → Int32) × (Nat → Int32) × (Nat → Int32) × Int32
def w1 (lf : Nat → Int32) (n : Nat) (x : Int32) (P : WS) (b : Nat) : WS := if P.2.1 (cN (bh lf x b n)) = -1 then (upd P.1 (cN P.2.2.2) (bh lf x b n), upd P.2.1 (cN (bh lf x b n)) x, upd P.2.2.1 (cN (bh lf x b n)) (nI b), P.2.2.2 + 1) else P
def w2 (lf : Nat → Int32) (n : Nat) (x : Int32) (P : WS) : Nat → WS
  | 0 => P
  | b + 1 => w1 lf n x (w2 lf n x P b) b
def w0 (y : Int32) : WS := (upd (fun _ => 0) 0 y, upd (fun _ => -1) (cN y) y, fun _ => 0, 1)
def w3 (lf : Nat → Int32) (n m : Nat) (y : Int32) : Nat → WS
  | 0 => w0 y
  | h + 1 => w2 lf n ((w3 lf n m y h).1 h) (w3 lf n m y h) m
theorem w2_cg {lf lg : Nat → Int32} {n : Nat} {x : Int32} {P : WS} (h : ∀ j, j < 32 → lf j = lg j) (hn : n ≤ 8) : ∀ m : Nat, m ≤ 4 → w2 lf n x P m = w2 lg n x P m
  | 0, _ => rfl
  | m + 1, hm => by
    show w1 lf n x (w2 lf n x P m) m = w1 lg n x (w2 lg n x P m) m
    rw [w2_cg h hn m (by omega)]
    unfold w1
    rw [bh_cg h (by omega) n hn]
theorem w3_cg {lf lg : Nat → Int32} {n m : Nat} {y : Int32} (h : ∀ j, j < 32 → lf j = lg j) (hn : n ≤ 8) (hm : m ≤ 4) : w3 lf n m y = w3 lg n m y := by
  funext k
  induction k with
  | zero => rfl
  | succ k ih =>
    show w2 lf n ((w3 lf n m y k).1 k) (w3 lf n m y k) m = w2 lg n ((w3 lg n m y k).1 k) (w3 lg n m y k) m
    rw [ih, w2_cg h hn m hm]
/-- rows that agree with the search's, where they are read -/
def AG (y : Int32) (q f k : Nat → Int32) (t : Int32) (P : WS) : Prop := t = P.2.2.2 ∧ (∀ j : Nat, (j : Int) < t.toInt → q j = P.1 j) ∧ (∀ j, j < 256 → f j = P.2.1 j) ∧ (∀ j, j < 256 → ¬ f j = -1 → j = cN y ∨ k j = P.2.2.1 j)
theorem AG.start {q f k : Nat → Int32} {y : Int32} (hf : ∀ j, j < 256 → f j = -1) : AG y (upd q 0 y) (upd f (Int32.toNatClampNeg y) y) k 1 (w0 y) := by
  have k1 : (1 : Int32).toInt = 1 := by decide
  refine ⟨rfl, fun j hj => ?_, fun j hj => ?_, fun j hj hn => ?_⟩
  · rw [k1] at hj
    rw [show j = 0 by omega, pk_us]
    show y = upd (fun _ => 0) 0 y 0
    rw [pk_us]
  · show upd f (cN y) y j = upd (fun _ => -1) (cN y) y j
    by_cases e : j = cN y
    · subst e; rw [pk_us, pk_us]
    · rw [pk_un e, pk_un e]; exact hf j hj
  · by_cases e : j = cN y
    · exact Or.inl e
    · rw [pk_un e] at hn; exact absurd (hf j hj) hn
theorem c256 {x : Int32} (h : bi x 0 255) : cN x < 256 := by
  have := ti_cl (i := x) h.1
  show Int32.toNatClampNeg x < 256
  omega
theorem AG.push {q f k lf : Nat → Int32} {y t x to b : Int32} {P : WS} {n B : Nat} (h : AG y q f k t P) (hto : bi to 0 255) (ht : bi t 0 255) (e : to = bh lf x B n) (hz : f (Int32.toNatClampNeg to) = -1) (hb : b = nI B) : AG y (upd q (Int32.toNatClampNeg t) to) (upd f (Int32.toNatClampNeg to) x) (upd k (Int32.toNatClampNeg to) b) (t + 1) (w1 lf n x P B) := by
  have hc := c256 hto
  have hP : P.2.1 (cN to) = -1 := (h.2.2.1 _ hc).symm.trans hz
  unfold w1
  rw [← e, if_pos hP]
  have k256 : (256 : Int32).toInt = 256 := by decide
  have ut := ti_up (i := t) (n := 256) (by omega)
  have ct : ((cN t : Nat) : Int) = t.toInt := ti_cl ht.1
  refine ⟨?_, fun j hj => ?_, fun j hj => ?_, fun j hj hn => ?_⟩
  · show t + 1 = P.2.2.2 + 1
    rw [h.1]
  · show upd q (cN t) to j = upd P.1 (cN P.2.2.2) to j
    rw [← h.1]
    by_cases e2 : j = cN t
    · subst e2; rw [pk_us, pk_us]
    · rw [pk_un e2, pk_un e2]; exact h.2.1 j (by omega)
  · show upd f (cN to) x j = upd P.2.1 (cN to) x j
    by_cases e2 : j = cN to
    · subst e2; rw [pk_us, pk_us]
    · rw [pk_un e2, pk_un e2]; exact h.2.2.1 j hj
  · show j = cN y ∨ upd k (cN to) b j = upd P.2.2.1 (cN to) (nI B) j
    by_cases e2 : j = cN to
    · subst e2; rw [pk_us, pk_us]; exact Or.inr hb
    · rw [pk_un e2, pk_un e2]
      rw [pk_un e2] at hn
      exact h.2.2.2 j hj hn
theorem AG.skip {q f k lf : Nat → Int32} {y t x to : Int32} {P : WS} {n B : Nat} (h : AG y q f k t P) (hto : bi to 0 255) (e : to = bh lf x B n) (hz : ¬ f (Int32.toNatClampNeg to) = -1) : AG y q f k t (w1 lf n x P B) := by
  have hP : ¬ P.2.1 (cN to) = -1 := fun q9 => hz ((h.2.2.1 _ (c256 hto)).trans q9)
  unfold w1
  rw [← e, if_neg hP]
  exact h
theorem w2_up {lf : Nat → Int32} {n : Nat} {x j m : Int32} {P : WS} (h0 : 0 ≤ j.toInt) (h : j.toInt < m.toInt) : w2 lf n x P (cN (j + 1)) = w1 lf n x (w2 lf n x P (cN j)) (cN j) := by
  rw [cN_up h0 h]; rfl
theorem AG.pushJ {q f k lf : Nat → Int32} {y t x to j m : Int32} {P : WS} {n : Nat} (h : AG y q f k t (w2 lf n x P (cN j))) (h0 : 0 ≤ j.toInt) (hm : j.toInt < m.toInt) (hto : bi to 0 255) (ht : bi t 0 255) (e : to = bh lf x (cN j) n) (hz : f (Int32.toNatClampNeg to) = -1) : AG y (upd q (Int32.toNatClampNeg t) to) (upd f (Int32.toNatClampNeg to) x) (upd k (Int32.toNatClampNeg to) j) (t + 1) (w2 lf n x P (cN (j + 1))) := by
  rw [w2_up h0 hm]
  exact h.push hto ht e hz (nI_cl h0).symm
theorem AG.skipJ {q f k lf : Nat → Int32} {y t x to j m : Int32} {P : WS} {n : Nat} (h : AG y q f k t (w2 lf n x P (cN j))) (h0 : 0 ≤ j.toInt) (hm : j.toInt < m.toInt) (hto : bi to 0 255) (e : to = bh lf x (cN j) n) (hz : ¬ f (Int32.toNatClampNeg to) = -1) : AG y q f k t (w2 lf n x P (cN (j + 1))) := by
  rw [w2_up h0 hm]
  exact h.skip hto e hz
theorem AG.nx {q f k lf : Nat → Int32} {y x t i j m a : Int32} {n : Nat} (h : AG a q f k t (w2 lf n x (w3 lf n (cN m) y (cN i)) (cN j))) (hx : x = (w3 lf n (cN m) y (cN i)).1 (cN i)) (hj : j = m) (h0 : 0 ≤ i.toInt) {l : Int32} (hi : i.toInt < l.toInt) : AG a q f k t (w3 lf n (cN m) y (cN (i + 1))) := by
  subst hj
  rw [cN_up h0 hi]
  rw [hx] at h
  exact h
/-- where the search ends -/
def wE (W : Nat → WS) (g : Int32) : Nat → Nat → Option Nat
  | 0, _ => none
  | e + 1, h => if (W h).2.2.2.toInt ≤ (h : Int) then none else if (W h).1 h &&& (g ^^^ (-1)) = 0 then some h else wE W g e (h + 1)
theorem wE_0 {W : Nat → WS} {g : Int32} : wE W g 257 0 = wE W g (257 - cN 0) (cN 0) := by
  rw [show cN 0 = 0 by decide]
theorem wE_no {W : Nat → WS} {g y t i : Int32} {q f k : Nat → Int32} {R : Option Nat} (hR : R = wE W g (257 - cN i) (cN i)) (hag : AG y q f k t (W (cN i))) (h0 : 0 ≤ i.toInt) (h1 : t.toInt ≤ i.toInt) (h2 : i.toInt ≤ 256) : R = none := by
  have c : ((cN i : Nat) : Int) = i.toInt := ti_cl h0
  rw [hR, show 257 - cN i = (256 - cN i) + 1 by omega]
  unfold wE
  rw [if_pos (by rw [← hag.1]; omega)]
theorem wE_yes {W : Nat → WS} {g y t i : Int32} {q f k : Nat → Int32} {R : Option Nat} (hR : R = wE W g (257 - cN i) (cN i)) (hag : AG y q f k t (W (cN i))) (h0 : 0 ≤ i.toInt) (h1 : i.toInt < t.toInt) (h2 : t.toInt ≤ 256) (hc : q (Int32.toNatClampNeg i) &&& (g ^^^ (-1)) = 0) : R = some (cN i) := by
  have c : ((cN i : Nat) : Int) = i.toInt := ti_cl h0
  rw [hR, show 257 - cN i = (256 - cN i) + 1 by omega]
  unfold wE
  rw [if_neg (by rw [← hag.1]; omega), if_pos (by rw [← hag.2.1 (cN i) (by omega)]; exact hc)]
theorem wE_up {W : Nat → WS} {g y t i : Int32} {q f k : Nat → Int32} {R : Option Nat} (hR : R = wE W g (257 - cN i) (cN i)) (hag : AG y q f k t (W (cN i))) (h0 : 0 ≤ i.toInt) (h1 : i.toInt < t.toInt) (h2 : t.toInt ≤ 256) (hc : ¬ q (Int32.toNatClampNeg i) &&& (g ^^^ (-1)) = 0) : R = wE W g (257 - cN (i + 1)) (cN (i + 1)) := by
  have c : ((cN i : Nat) : Int) = i.toInt := ti_cl h0
  rw [hR, show 257 - cN i = (256 - cN i) + 1 by omega]
  conv => lhs; unfold wE
  rw [if_neg (by rw [← hag.1]; omega), if_neg (by rw [← hag.2.1 (cN i) (by omega)]; exact hc), cN_up h0 h1, show 257 - (cN i + 1) = 256 - cN i by omega]
/-- the way back, and how long it is -/
def pb (f : Nat → Int32) (y : Int32) : Nat → Int32
  | 0 => y
  | i + 1 => f (cN (pb f y i))
def ln (f : Nat → Int32) (x : Int32) : Int32 → Nat → Nat
  | _, 0 => 0
  | y, n + 1 => if y = x then 0 else ln f x (f (cN y)) n + 1
theorem ln_le (f : Nat → Int32) (x : Int32) : ∀ (n : Nat) (y : Int32), ln f x y n ≤ n
  | 0, _ => Nat.le_refl _
  | n + 1, y => by
    unfold ln
    have := ln_le f x n (f (cN y))
    split <;> omega
theorem ln_d {f : Nat → Int32} {x : Int32} {d : Nat → Nat} (h : DK f x d) : ∀ (n : Nat) (y : Int32), IS f y → d (cN y) ≤ n → ln f x y n = d (cN y)
  | 0, y, _, hd => by show 0 = d (cN y); omega
  | n + 1, y, hy, hd => by
    unfold ln
    by_cases e : y = x
    · rw [if_pos e, e]; exact h.2.1.symm
    · obtain ⟨h1, h2⟩ := h.nx hy e
      rw [if_neg e, ln_d h n _ h1 (by show d (Int32.toNatClampNeg (f (Int32.toNatClampNeg y))) ≤ n; have : d (Int32.toNatClampNeg y) ≤ n + 1 := hd; omega)]
      exact h2
theorem ln_cg {f f2 : Nat → Int32} {x : Int32} (hf : ∀ j, j < 256 → f j = f2 j) {d : Nat → Nat} (h : DK f x d) : ∀ (n : Nat) (y : Int32), IS f y → ln f x y n = ln f2 x y n
  | 0, _, _ => rfl
  | n + 1, y, hy => by
    unfold ln
    by_cases e : y = x
    · rw [if_pos e, if_pos e]
    · rw [if_neg e, if_neg e, ← hf (cN y) hy.cl.1, ln_cg hf h n _ (h.nx hy e).1]
theorem pb_cg {f f2 : Nat → Int32} {x y : Int32} (hf : ∀ j, j < 256 → f j = f2 j) {d : Nat → Nat} (h : DK f x d) (hy : IS f y) : ∀ i : Nat, i ≤ d (cN y) → pb f y i = pb f2 y i ∧ IS f (pb f y i) ∧ d (cN (pb f y i)) + i = d (cN y)
  | 0, _ => ⟨rfl, hy, rfl⟩
  | i + 1, hi => by
    obtain ⟨h1, h2, h3⟩ := pb_cg hf h hy i (by omega)
    have hne : ¬ pb f y i = x := fun q => by
      have h4 := h.2.1
      rw [q] at h3
      have h5 : d (cN x) = 0 := h4
      omega
    obtain ⟨h4, h5⟩ := h.nx h2 hne
    refine ⟨?_, h4, ?_⟩
    · show f (cN (pb f y i)) = f2 (cN (pb f2 y i))
      rw [hf _ h2.cl.1, h1]
    · have h6 : d (cN (f (cN (pb f y i)))) + 1 = d (cN (pb f y i)) := h5
      show d (cN (f (cN (pb f y i)))) + (i + 1) = d (cN y)
      omega
/-- what is told of a way -/
def TR (f k : Nat → Int32) (x w r rl : Int32) (g : Nat → Int32) : Prop := r = nI (ln f x w 256) ∧ rl = nI (ln f x w 256) ∧ ∀ j, j < ln f x w 256 → g j = k (cN (pb f w (ln f x w 256 - 1 - j)))
/-- the row is filled from its end -/
def RF (f k : Nat → Int32) (w : Int32) (L : Nat) (g : Nat → Int32) (e : Nat) : Prop := ∀ j, e ≤ j → j < L → g j = k (cN (pb f w (L - 1 - j)))
theorem RF.start {f k g : Nat → Int32} {w : Int32} {L : Nat} : RF f k w L g L := fun j h1 h2 => by omega
theorem RF.up {f k g : Nat → Int32} {w y i : Int32} {L e e2 : Nat} (h : RF f k w L g e) (he : e2 + 1 = e) (hy : y = pb f w (L - e)) (hi : i.toInt = e2) : RF f k w L (upd g (Int32.toNatClampNeg i) (k (Int32.toNatClampNeg y))) e2 := fun j h1 h2 => by
  have c : ((cN i : Nat) : Int) = i.toInt := ti_cl (by omega)
  show upd g (cN i) (k (cN y)) j = _
  by_cases q : j = cN i
  · subst q
    rw [pk_us, hy, show L - 1 - cN i = L - e by omega]
  · rw [pk_un q]; exact h j (by omega) h2
theorem pb_nx {f : Nat → Int32} {w y : Int32} {a e e2 : Nat} (h : y = pb f w (a - e)) (he : e2 + 1 = e) (hle : e ≤ a) : f (Int32.toNatClampNeg y) = pb f w (a - e2) := by
  rw [show a - e2 = (a - e) + 1 by omega]
  show f (cN y) = f (cN (pb f w (a - e)))
  rw [← h]
theorem pb_00 {f : Nat → Int32} {w : Int32} {a : Nat} : w = pb f w (a - a) := by rw [Nat.sub_self]; rfl
theorem TR.mk {f k g : Nat → Int32} {x w rl : Int32} {d : Nat → Nat} (hdk : DK f x d) (his : IS f w) (hd : d (Int32.toNatClampNeg w) < 256) (hr : rl.toInt = d (Int32.toNatClampNeg w)) (h : RF f k w (d (Int32.toNatClampNeg w)) g 0) : TR f k x w rl rl g := by
  have e : ln f x w 256 = d (Int32.toNatClampNeg w) := ln_d hdk 256 w his (by show d (Int32.toNatClampNeg w) ≤ 256; omega)
  have er : rl = nI (ln f x w 256) := ti_inj (by rw [ti_nI (n := ln f x w 256) (by omega), hr, e])
  refine ⟨er, er, fun j hj => ?_⟩
  rw [e] at hj ⊢
  exact h j (Nat.zero_le _) hj
/-- the way as both tell it -/
def wy (W : Nat → WS) (y g : Int32) : Option (Nat × (Nat → Int32)) := (wE W g 257 0).map (fun h => (ln (W h).2.1 y ((W h).1 h) 256, fun j => (W h).2.2.1 (cN (pb (W h).2.1 ((W h).1 h) (ln (W h).2.1 y ((W h).1 h) 256 - 1 - j)))))
def WYP (o : Option (Nat × (Nat → Int32))) (r rl rl2 : Int32) (f0 f02 : Nat → Int32) : Prop := (o = none ∧ r = -2 ∧ rl2 = rl ∧ f02 = f0) ∨ (∃ q, o = some q ∧ q.1 ≤ 256 ∧ r = nI q.1 ∧ rl2 = nI q.1 ∧ ∀ j, j < q.1 → f02 j = q.2 j)
theorem WYP.no {W : Nat → WS} {y g rl : Int32} {f0 : Nat → Int32} (h : wE W g 257 0 = none) : WYP (wy W y g) (-2) rl rl f0 f0 := Or.inl ⟨by unfold wy; rw [h]; rfl, rfl, rfl, rfl⟩
theorem WYP.yes {W : Nat → WS} {y g r rl rl2 t w : Int32} {H : Nat} {q f k f0 f02 : Nat → Int32} {d : Nat → Nat} (h : wE W g 257 0 = some H) (hag : AG y q f k t (W H)) (hdk : DK f y d) (his : IS f w) (hd : d (Int32.toNatClampNeg w) < 256) (ew : w = (W H).1 H) (htr : TR f k y w r rl2 f02) : WYP (wy W y g) r rl rl2 f0 f02 := by
  obtain ⟨h1, h2, h3⟩ := htr
  have el := ln_cg hag.2.2.1 hdk 256 w his
  have ed : ln f y w 256 = d (cN w) := ln_d hdk 256 w his (by show d (Int32.toNatClampNeg w) ≤ 256; omega)
  refine Or.inr ⟨_, by unfold wy; rw [h]; rfl, ln_le _ _ _ _, ?_, ?_, fun j hj => ?_⟩
  · show r = nI (ln (W H).2.1 y ((W H).1 H) 256)
    rw [← ew, ← el]; exact h1
  · show rl2 = nI (ln (W H).2.1 y ((W H).1 H) 256)
    rw [← ew, ← el]; exact h2
  · show f02 j = (W H).2.2.1 (cN (pb (W H).2.1 ((W H).1 H) (ln (W H).2.1 y ((W H).1 H) 256 - 1 - j)))
    have hj2 : j < ln (W H).2.1 y ((W H).1 H) 256 := hj
    rw [← ew, ← el] at hj2 ⊢
    obtain ⟨p1, p2, p3⟩ := pb_cg hag.2.2.1 hdk his (ln f y w 256 - 1 - j) (by omega)
    rw [h3 j hj2, ← p1]
    refine (hag.2.2.2 _ p2.cl.1 p2.cl.2.2).resolve_left (fun q9 => ?_)
    have h0 : d (cN y) = 0 := hdk.2.1
    have q8 : cN (pb f w (ln f y w 256 - 1 - j)) = cN y := q9
    rw [q8, h0] at p3
    omega
def zwy (z : ZT) (L : Nat) (row : Nat → Int32) : ZT := fun x y => if x = 7 then (if y = 0 then nI L else z x y) else if x = 8 then row y else z x y
def fwy (z : ZT) (i v : Int32) : Int32 × ZT := if gmy (z 0 (cN i)) i v = 0 then (-1, z) else match wy (w3 (fun j => z 3 (32 * cN i + j)) (cN (z 0 (cN i))) (cN (z 1 (cN i))) (z 2 (cN i))) (z 2 (cN i)) v with
  | none => (-2, z)
  | some q => (nI q.1, zwy z q.1 q.2)
/-- the route of both -/
def RTQ (z : ZT) (rl : Int32) (f0 : Nat → Int32) : Prop := rl = z 7 0 ∧ ∀ j : Nat, (j : Int) < rl.toInt → f0 j = z 8 j
theorem fw0 {z : ZT} {i v st : Int32} (e0 : st = z 0 (cN i)) (h : gmy st i v = 0) : fwy z i v = (-1, z) := by subst e0; exact if_pos h
theorem way_ok {z : ZT} {i v st bu my r rl rl2 : Int32} {lf f0 f02 : Nat → Int32} (hq : BQ z (cN i) st bu my lf) (hst : bi st 1 8) (hbu : bi bu 1 4) (hg : ¬ gmy st i v = 0) (h : WYP (wy (w3 lf (cN st) (cN bu) my) my v) r rl rl2 f0 f02) (hr : RTQ z rl f0) : r = (fwy z i v).1 ∧ RTQ (fwy z i v).2 rl2 f02 ∧ ∀ x, x < 7 → (fwy z i v).2 x = z x := by
  obtain ⟨e1, e2, e3, e4⟩ := hq
  have c1 := ti_cl (i := st) (by omega)
  have c2 := ti_cl (i := bu) (by omega)
  rw [w3_cg e4 (by show Int32.toNatClampNeg st ≤ 8; omega) (by show Int32.toNatClampNeg bu ≤ 4; omega)] at h
  subst e1; subst e2; subst e3
  have e : fwy z i v = match wy (w3 (fun j => z 3 (32 * cN i + j)) (cN (z 0 (cN i))) (cN (z 1 (cN i))) (z 2 (cN i))) (z 2 (cN i)) v with | none => (-2, z) | some q => (nI q.1, zwy z q.1 q.2) := if_neg hg
  rw [e]
  rcases h with ⟨ho, h1, h2, h3⟩ | ⟨q, ho, hl, h1, h2, h3⟩
  · rw [ho]; rw [h2, h3]
    exact ⟨h1, hr, fun _ _ => rfl⟩
  · rw [ho]
    refine ⟨h1, ⟨h2, fun j hj => ?_⟩, fun x hx => ?_⟩
    · rw [h2, ti_nI (n := q.1) (by omega)] at hj
      exact h3 j (by omega)
    · funext y
      show zwy z q.1 q.2 x y = z x y
      unfold zwy
      rw [if_neg (by omega), if_neg (by omega)]
def btA (rl : Int32) (f : Nat → Int32) (v : Int32) : Int32 := if wi v 0 (rl - 1) = 0 then -1 else f (cN v)
theorem RTQ.bt {z : ZT} {rl v : Int32} {f0 : Nat → Int32} (h : RTQ z rl f0) (hr : bi rl 0 256) : btA rl f0 v = btA (z 7 0) (z 8) v := by
  rw [← h.1]
  unfold btA
  by_cases e : wi v 0 (rl - 1) = 0
  · rw [if_pos e, if_pos e]
  · have k0 : (0 : Int32).toInt = 0 := by decide
    have u0 := ti_wi1 e
    have u1 := ti_m1 (i := rl) (by omega)
    have c : ((cN v : Nat) : Int) = v.toInt := ti_cl (by omega)
    rw [if_neg e, if_neg e]
    exact h.2 _ (by omega)
theorem BQ.cg {z z2 : ZT} {k : Nat} {st bu my : Int32} {lf : Nat → Int32} (hz : ∀ x, x < 7 → z2 x = z x) (h : BQ z k st bu my lf) : BQ z2 k st bu my lf := by
  unfold BQ
  rw [hz 0 (by omega), hz 1 (by omega), hz 2 (by omega), hz 3 (by omega)]; exact h
theorem RBX.cg {g3 g4 g5 g6 : Nat → Int32} {z z2 : ZT} (hz : ∀ x, x < 7 → z2 x = z x) (h : RBX g3 g4 g5 g6 z) : RBX g3 g4 g5 g6 z2 := fun k hk => (h k hk).cg hz
theorem MKZ.cg {g : Nat → Int32} {z z2 : ZT} {mm : Int32} (hz : ∀ x, x < 7 → z2 x = z x) (h : MKZ g z mm) : MKZ g z2 mm := by
  unfold MKZ
  rw [hz 4 (by omega), hz 5 (by omega)]; exact h
theorem n_le {x y : Int32} (h : x.toInt < y.toInt) : ¬ y ≤ x := fun q => by
  have := ti_le q
  omega
theorem rf_0 {f k g : Nat → Int32} {w : Int32} {L e : Nat} (h : RF f k w L g e) (he : e = 0) : RF f k w L g 0 := by subst he; exact h
theorem ag_0 {lf q f k : Nat → Int32} {n m : Nat} {y t : Int32} (h : AG y q f k t (w0 y)) : AG y q f k t (w3 lf n m y (cN 0)) := by
  rw [show cN 0 = 0 by decide]; exact h
theorem ag_20 {lf q f k : Nat → Int32} {n : Nat} {y t x : Int32} {P : WS} (h : AG y q f k t P) : AG y q f k t (w2 lf n x P (cN 0)) := by
  rw [show cN 0 = 0 by decide]; exact h
theorem ag_at {q f k : Nat → Int32} {y t i : Int32} {P : WS} (h : AG y q f k t P) (h0 : 0 ≤ i.toInt) (h1 : i.toInt < t.toInt) : q (Int32.toNatClampNeg i) = P.1 (cN i) := by
  have c : ((cN i : Nat) : Int) = i.toInt := ti_cl h0
  exact h.2.1 (cN i) (by omega)
theorem rt_0 {f : Nat → Int32} : RTQ z_0 0 f := ⟨rfl, fun j hj => absurd hj (by have k0 : (0 : Int32).toInt = 0 := (by decide); rw [k0]; omega)⟩
theorem mu_dn {i : Int32} (c : ¬ i < 0) : ((i + (-1)).toInt + 1).toNat < (i.toInt + 1).toNat := by
  have k0 : (0 : Int32).toInt = 0 := by decide
  have h := ti_nlt c
  have u := ti_am1s (i := i) (by omega)
  rw [u]
  omega
