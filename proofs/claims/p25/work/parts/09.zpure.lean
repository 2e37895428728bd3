/-- what both sides show: 0 states, 1 buttons, 2 maybe of a box; 3 leads (32 b + 4 s + y); 4 bits, 5 kind of a make; 6 0 how many makes; 7 0 length of the route, 8 its row -/
abbrev ZT : Type := Nat → Nat → Int32
abbrev cN (i : Int32) : Nat := Int32.toNatClampNeg i
def zu (z : ZT) (a k : Nat) (v : Int32) : ZT := fun x y => if x = a then (if y = k then v else z x y) else z x y
theorem zu_s {z : ZT} {a k : Nat} {v : Int32} : zu z a k v a k = v := by simp [zu]
theorem zu_k {z : ZT} {a k x y : Nat} {v : Int32} (h : y ≠ k) : zu z a k v x y = z x y := by simp [zu, h]
def zf (z : ZT) (K : Nat) : ZT := fun x y => if x = 3 then (if 32 * K ≤ y ∧ y < 32 * K + 32 then 0 else z x y) else z x y
/-- whether a call is taken, or what it answers -/
def gld (st bu i s b t : Int32) : Int32 := if wi i 0 3 = 0 then 0 else if wi s 0 (st - 1) = 0 then 0 else if wi b 0 (bu - 1) = 0 then 0 else if wi t 0 (st - 1) = 0 then 0 else 1
def gmy (st i v : Int32) : Int32 := if wi i 0 3 = 0 then 0 else if wi v 1 (lb st) = 0 then 0 else 1
def gpu (bu i b : Int32) : Int32 := if wi i 0 3 = 0 then 0 else if wi b 0 (bu - 1) = 0 then 0 else 1
def toA (st bu my i w : Int32) : Int32 := if wi i 0 3 = 0 then -1 else if w = 0 then st else if w = 1 then bu else if w = 2 then my else -1
def gmk (mc k n a b p z o : Int32) : Int32 := if mc = 8 then 0 else if mkS k n a b p z o = -1 then 0 else 1
def seA (mc n i w v : Int32) : Int32 := if wi i 0 (mc - 1) = 0 then 0 else if w = 0 then wi v 0 40 else if w = 1 then wi v (-1) (n - 1) else 0
theorem wi_1 {v lo hi : Int32} (h : ¬ wi v lo hi = 0) : wi v lo hi = 1 := by
  unfold wi at h ⊢
  split
  · next q => exact absurd (if_pos q) h
  · next q => split
              · next q2 => exact absurd (by rw [if_neg q, if_pos q2]) h
              · rfl
theorem wi_y {v lo hi : Int32} (h : lo.toInt ≤ v.toInt ∧ v.toInt ≤ hi.toInt) : ¬ wi v lo hi = 0 := fun q => by
  have := ti_wi0 q
  omega
theorem ti_inj {x y : Int32} (h : x.toInt = y.toInt) : x = y := Int32.toInt_inj.mp h
theorem i_01 {w : Int32} (h : ¬ wi w 0 1 = 0) (h0 : ¬ w = 0) : w = 1 := ti_inj (by
  have := ti_wi1 h
  have := ti_ne h0
  have k0 : (0 : Int32).toInt = 0 := by decide
  have k1 : (1 : Int32).toInt = 1 := by decide
  omega)
theorem n_01 {w : Int32} (h : wi w 0 1 = 0) : ¬ w = 0 ∧ ¬ w = 1 := by
  constructor <;> (intro q; subst q; exact absurd h (by decide))
theorem nI_cl {i : Int32} (h : 0 ≤ i.toInt) : nI (cN i) = i := ti_inj (by
  have h1 : ((cN i : Nat) : Int) = i.toInt := ti_cl h
  have h2 := ti_rg i
  rw [ti_nI (n := cN i) (by omega)]; exact h1)
theorem cN_up {i n : Int32} (h0 : 0 ≤ i.toInt) (h : i.toInt < n.toInt) : cN (i + 1) = cN i + 1 := by
  have h1 := ti_up h
  have h2 := ti_cl h0
  have h3 := ti_cl (i := i + 1) (by omega)
  show Int32.toNatClampNeg (i + 1) = Int32.toNatClampNeg i + 1
  omega
/-- where a box may be behind a set of states -/
def bh (lf : Nat → Int32) (v : Int32) (b : Nat) : Nat → Int32
  | 0 => 0
  | n + 1 => if (v >>> (nI n &&& 31)) &&& 1 = 1 then bh lf v b n ||| (1 <<< (lf (4 * n + b) &&& 31)) else bh lf v b n
theorem bh_up {lf : Nat → Int32} {v i n : Int32} {b : Nat} (h0 : 0 ≤ i.toInt) (h : i.toInt < n.toInt) : bh lf v b (cN (i + 1)) = if (v >>> (i &&& 31)) &&& 1 = 1 then bh lf v b (cN i) ||| (1 <<< (lf (4 * cN i + b) &&& 31)) else bh lf v b (cN i) := by
  rw [cN_up h0 h]
  show (if (v >>> (nI (cN i) &&& 31)) &&& 1 = 1 then _ else _) = _
  rw [nI_cl h0]
theorem bh_n {lf : Nat → Int32} {v i n q : Int32} {b : Nat} (h0 : 0 ≤ i.toInt) (h : i.toInt < n.toInt) (hc : ¬ (v >>> (i &&& 31)) &&& 1 = 1) (hq : q = bh lf v b (cN i)) : q = bh lf v b (cN (i + 1)) := by
  rw [bh_up h0 h, if_neg hc]; exact hq
theorem bh_t {lf : Nat → Int32} {v i n q y : Int32} {b : Nat} (h0 : 0 ≤ i.toInt) (h : i.toInt < n.toInt) (hc : (v >>> (i &&& 31)) &&& 1 = 1) (hq : q = bh lf v b (cN i)) (hy : y = lf (4 * cN i + b)) : q ||| (1 <<< (y &&& 31)) = bh lf v b (cN (i + 1)) := by
  rw [bh_up h0 h, if_pos hc, hq, hy]
theorem bh_end {lf : Nat → Int32} {v i n q : Int32} {b : Nat} (hq : q = bh lf v b (cN i)) (e : i = n) : q = bh lf v b (cN n) := by subst e; exact hq
theorem bh_cg {lf lg : Nat → Int32} {v : Int32} {b : Nat} (h : ∀ j, j < 32 → lf j = lg j) (hb : b < 4) : ∀ n : Nat, n ≤ 8 → bh lf v b n = bh lg v b n
  | 0, _ => rfl
  | n + 1, hn => by
    have e := bh_cg (v := v) h hb n (by omega)
    show (if _ then _ else _) = (if _ then _ else _)
    rw [e, h (4 * n + b) (by omega)]
theorem ix4n {x y : Int32} (h1 : bi x 0 7) (h2 : bi y 0 3) : cN (x * 4 + y) = 4 * cN x + cN y := by
  have u := ix4 h1 h2
  have c1 := ti_cl (i := x) h1.1
  have c2 := ti_cl (i := y) h2.1
  have c3 := ti_cl (i := x * 4 + y) (by omega)
  show Int32.toNatClampNeg (x * 4 + y) = 4 * Int32.toNatClampNeg x + Int32.toNatClampNeg y
  omega
/-- the numbers of a box -/
def BQ (z : ZT) (k : Nat) (st bu my : Int32) (lf : Nat → Int32) : Prop := st = z 0 k ∧ bu = z 1 k ∧ my = z 2 k ∧ ∀ j, j < 32 → lf j = z 3 (32 * k + j)
def zbx (z : ZT) (K : Nat) (v w : Int32) : ZT := zf (zu (zu (zu z 0 K v) 1 K w) 2 K (lb v)) K
theorem zbx_3 {z : ZT} {K : Nat} {v w : Int32} {y : Nat} : zbx z K v w 3 y = if 32 * K ≤ y ∧ y < 32 * K + 32 then 0 else z 3 y := by simp [zbx, zf, zu]
theorem BQ.box {z : ZT} {K : Nat} {v w : Int32} {lf : Nat → Int32} (h : ∀ j, j < 32 → lf j = 0) : BQ (zbx z K v w) K v w (lb v) lf := by
  refine ⟨by simp [zbx, zf, zu], by simp [zbx, zf, zu], by simp [zbx, zf, zu], fun j hj => ?_⟩
  rw [zbx_3, if_pos (by omega)]
  exact h j hj
theorem BQ.box_off {z : ZT} {K k : Nat} {v w st bu my : Int32} {lf : Nat → Int32} (e : k ≠ K) (h : BQ z k st bu my lf) : BQ (zbx z K v w) k st bu my lf := by
  obtain ⟨a, b, c, d⟩ := h
  refine ⟨by simp [zbx, zf, zu, e]; exact a, by simp [zbx, zf, zu, e]; exact b, by simp [zbx, zf, zu, e]; exact c, fun j hj => ?_⟩
  rw [zbx_3, if_neg (by omega)]
  exact d j hj
theorem BQ.lead {z : ZT} {K n : Nat} {v st bu my : Int32} {lf : Nat → Int32} (h : BQ z K st bu my lf) : BQ (zu z 3 (32 * K + n) v) K st bu my (upd lf n v) := by
  obtain ⟨a, b, c, d⟩ := h
  refine ⟨by simp [zu]; exact a, by simp [zu]; exact b, by simp [zu]; exact c, fun j hj => ?_⟩
  by_cases e : j = n
  · subst e; rw [pk_us, zu_s]
  · rw [pk_un e, zu_k (by omega)]; exact d j hj
theorem BQ.lead_off {z : ZT} {K k n : Nat} {v st bu my : Int32} {lf : Nat → Int32} (hn : n < 32) (e : k ≠ K) (h : BQ z k st bu my lf) : BQ (zu z 3 (32 * K + n) v) k st bu my lf := by
  obtain ⟨a, b, c, d⟩ := h
  refine ⟨by simp [zu]; exact a, by simp [zu]; exact b, by simp [zu]; exact c, fun j hj => ?_⟩
  rw [zu_k (by omega)]; exact d j hj
theorem BQ.my {z : ZT} {K : Nat} {v st bu my : Int32} {lf : Nat → Int32} (h : BQ z K st bu my lf) : BQ (zu z 2 K v) K st bu v lf := by
  obtain ⟨a, b, c, d⟩ := h
  exact ⟨by simp [zu]; exact a, by simp [zu]; exact b, by simp [zu], fun j hj => by simp [zu]; exact d j hj⟩
theorem BQ.my_off {z : ZT} {K k : Nat} {v st bu my : Int32} {lf : Nat → Int32} (e : k ≠ K) (h : BQ z k st bu my lf) : BQ (zu z 2 K v) k st bu my lf := by
  obtain ⟨a, b, c, d⟩ := h
  exact ⟨by simp [zu]; exact a, by simp [zu]; exact b, by rw [zu_k e]; exact c, fun j hj => by simp [zu]; exact d j hj⟩
/-- the calls -/
def fbx (z : ZT) (i k m : Int32) : Int32 × ZT := if bxS i k m = 0 then (0, z) else (1, zbx z (cN i) k m)
def fld (z : ZT) (i s b t : Int32) : Int32 × ZT := if gld (z 0 (cN i)) (z 1 (cN i)) i s b t = 0 then (0, z) else (1, zu z 3 (32 * cN i + (4 * cN s + cN b)) t)
def fmy (z : ZT) (i v : Int32) : Int32 × ZT := if gmy (z 0 (cN i)) i v = 0 then (0, z) else (1, zu z 2 (cN i) v)
def zbh (z : ZT) (i b : Int32) : Int32 := bh (fun j => z 3 (32 * cN i + j)) (z 2 (cN i)) (cN b) (cN (z 0 (cN i)))
def fpu (z : ZT) (i b : Int32) : Int32 × ZT := if gpu (z 1 (cN i)) i b = 0 then (-1, z) else (zbh z i b, zu z 2 (cN i) (zbh z i b))
def fmk (z : ZT) (k n a b p y o : Int32) : Int32 × ZT := if gmk (z 6 0) k n a b p y o = 0 then (-1, z) else (z 6 0 + 1 - 1, zu (zu (zu z 4 (cN (z 6 0)) n) 5 (cN (z 6 0)) k) 6 0 (z 6 0 + 1))
theorem BQ.zb {z : ZT} {i b st bu my : Int32} {lf : Nat → Int32} (h : BQ z (cN i) st bu my lf) (hs : bi st 1 8) (hb : cN b < 4) : bh lf my (cN b) (cN st) = zbh z i b := by
  obtain ⟨e1, -, e3, d⟩ := h
  unfold zbh
  rw [← e1, ← e3]
  have := ti_cl (i := st) (by omega)
  exact bh_cg d hb _ (by show Int32.toNatClampNeg st ≤ 8; omega)
/-- a row of leads is emptied -/
def FLB (g g0 : Nat → Int32) (v i : Int32) : Prop := ∀ j, g j = if 32 * cN v ≤ j ∧ j < 32 * cN v + cN i then 0 else g0 j
theorem FLB.start {g : Nat → Int32} {v : Int32} : FLB g g v 0 := fun j => by
  rw [if_neg]
  have : cN 0 = 0 := by decide
  omega
theorem ix32n {m w : Int32} (hm : bi m 0 3) (hw : bi w 0 31) : cN (32 * m + w) = 32 * cN m + cN w := by
  have u := ixk 32 32 31 (by decide) (by decide) (show bi m 0 7 by omega) hw (by decide)
  have c1 := ti_cl (i := m) hm.1
  have c2 := ti_cl (i := w) hw.1
  have c3 := ti_cl (i := 32 * m + w) (by omega)
  show Int32.toNatClampNeg (32 * m + w) = 32 * Int32.toNatClampNeg m + Int32.toNatClampNeg w
  omega
theorem FLB.up {g g0 : Nat → Int32} {v i : Int32} (h : FLB g g0 v i) (hv : bi v 0 3) (hi : bi i 0 31) : FLB (upd g (cN (32 * v + i)) 0) g0 v (i + 1) := fun j => by
  have k : (32 : Int32).toInt = 32 := by decide
  rw [ix32n hv hi, cN_up (n := 32) hi.1 (by omega)]
  by_cases e : j = 32 * cN v + cN i
  · subst e; rw [pk_us, if_pos (by omega)]
  · rw [pk_un e, h j]
    by_cases q : 32 * cN v ≤ j ∧ j < 32 * cN v + cN i
    · rw [if_pos q, if_pos (by omega)]
    · rw [if_neg q, if_neg (by omega)]
theorem ix324n {m x y : Int32} (hm : bi m 0 3) (hx : bi x 0 7) (hy : bi y 0 3) : cN (32 * m + 4 * x + y) = 32 * cN m + (4 * cN x + cN y) := by
  have u := ix324 hm hx hy
  have c1 := ti_cl (i := m) hm.1
  have c2 := ti_cl (i := x) hx.1
  have c4 := ti_cl (i := y) hy.1
  have c3 := ti_cl (i := 32 * m + 4 * x + y) (by omega)
  show Int32.toNatClampNeg (32 * m + 4 * x + y) = 32 * Int32.toNatClampNeg m + (4 * Int32.toNatClampNeg x + Int32.toNatClampNeg y)
  omega
/-- the reference's boxes -/
def RBX (g3 g4 g5 g6 : Nat → Int32) (z : ZT) : Prop := ∀ k, k < 4 → BQ z k (g3 k) (g4 k) (g6 k) (fun j => g5 (32 * k + j))
theorem RBX.box {g3 g4 g5 g6 g52 : Nat → Int32} {z : ZT} {v w x : Int32} (h : RBX g3 g4 g5 g6 z) (h5 : FLB g52 g5 v 32) : RBX (upd g3 (cN v) w) (upd g4 (cN v) x) g52 (upd g6 (cN v) (lb w)) (zbx z (cN v) w x) := fun k hk => by
  have c32 : cN 32 = 32 := by decide
  by_cases e : k = cN v
  · subst e
    rw [pk_us, pk_us, pk_us]
    exact BQ.box (fun j hj => by show g52 (32 * cN v + j) = 0; rw [h5, c32, if_pos (by omega)])
  · rw [pk_un e, pk_un e, pk_un e]
    have q := BQ.box_off (v := w) (w := x) e (h k hk)
    exact ⟨q.1, q.2.1, q.2.2.1, fun j hj => by show g52 (32 * k + j) = _; rw [h5, c32, if_neg (by omega)]; exact q.2.2.2 j hj⟩
theorem RBX.lead {g3 g4 g5 g6 : Nat → Int32} {z : ZT} {K n : Nat} {y : Int32} (h : RBX g3 g4 g5 g6 z) (hn : n < 32) : RBX g3 g4 (upd g5 (32 * K + n) y) g6 (zu z 3 (32 * K + n) y) := fun k hk => by
  by_cases e : k = K
  · subst e
    have q := BQ.lead (n := n) (v := y) (h k hk)
    refine ⟨q.1, q.2.1, q.2.2.1, fun j hj => ?_⟩
    rw [← q.2.2.2 j hj]
    show upd g5 (32 * k + n) y (32 * k + j) = upd (fun j => g5 (32 * k + j)) n y j
    by_cases e2 : j = n
    · subst e2; rw [pk_us, pk_us]
    · rw [pk_un e2, pk_un (by omega)]
  · have q := BQ.lead_off (v := y) hn e (h k hk)
    refine ⟨q.1, q.2.1, q.2.2.1, fun j hj => ?_⟩
    rw [← q.2.2.2 j hj]
    show upd g5 (32 * K + n) y (32 * k + j) = g5 (32 * k + j)
    rw [pk_un (by omega)]
theorem RBX.my {g3 g4 g5 g6 : Nat → Int32} {z : ZT} {K : Nat} {y : Int32} (h : RBX g3 g4 g5 g6 z) : RBX g3 g4 g5 (upd g6 K y) (zu z 2 K y) := fun k hk => by
  by_cases e : k = K
  · subst e; rw [pk_us]; exact (h k hk).my
  · rw [pk_un e]; exact (h k hk).my_off e
/-- the reference's makes: bits and kinds -/
def MKZ (g : Nat → Int32) (z : ZT) (mm : Int32) : Prop := ∀ k : Nat, (k : Int) < mm.toInt → g (10 * k + 1) = z 4 k ∧ g (10 * k) = z 5 k
theorem MKZ.keep {g g2 : Nat → Int32} {z : ZT} {mm : Int32} (h : MKZ g z mm) (hg : ∀ j, j % 10 < 2 → g2 j = g j) : MKZ g2 z mm := fun k hk => by
  rw [hg _ (by omega), hg _ (by omega)]; exact h k hk
/-- a row of a make comes in -/
def MKR (g g0 : Nat → Int32) (mm i q n : Int32) : Prop := (∀ j, j < 10 * cN mm → g j = g0 j) ∧ (1 ≤ i.toInt → g (10 * cN mm) = q) ∧ (2 ≤ i.toInt → g (10 * cN mm + 1) = n)
theorem MKR.start {g : Nat → Int32} {mm q n : Int32} : MKR g g mm 0 q n := ⟨fun _ _ => rfl, fun h => absurd h (by decide), fun h => absurd h (by decide)⟩
theorem MKR.up {g g0 a : Nat → Int32} {mm i q n : Int32} (h : MKR g g0 mm i q n) (hm : bi mm 0 7) (hi : bi i 0 9) (h0 : a 0 = q) (h1 : a 1 = n) : MKR (upd g (Int32.toNatClampNeg (10 * mm + i)) (a (Int32.toNatClampNeg i))) g0 mm (i + 1) q n := by
  have e := ix10 (m := mm) (w := i) hm hi
  have c1 := ti_cl (i := mm) hm.1
  have c2 := ti_cl (i := i) hi.1
  have c3 := ti_cl (i := 10 * mm + i) (by omega)
  have k10 : (10 : Int32).toInt = 10 := by decide
  have u := ti_up (i := i) (n := 10) (by omega)
  have e2 : Int32.toNatClampNeg (10 * mm + i) = 10 * cN mm + cN i := by show Int32.toNatClampNeg (10 * mm + i) = 10 * Int32.toNatClampNeg mm + Int32.toNatClampNeg i; omega
  have c2' : (cN i : Int) = i.toInt := c2
  rw [e2]
  refine ⟨fun j hj => ?_, fun h2 => ?_, fun h2 => ?_⟩
  · rw [pk_un (by omega)]; exact h.1 j hj
  · by_cases z : cN i = 0
    · rw [z, Nat.add_zero, pk_us]; show a (cN i) = q; rw [z]; exact h0
    · rw [pk_un (by omega)]; exact h.2.1 (by omega)
  · by_cases z : cN i = 1
    · rw [z, pk_us]; show a (cN i) = n; rw [z]; exact h1
    · rw [pk_un (by omega)]; exact h.2.2 (by omega)
theorem MKZ.up {g g0 : Nat → Int32} {z : ZT} {mm q n x : Int32} (h : MKZ g0 z mm) (hr : MKR g g0 mm 10 q n) (hm : bi mm 0 7) : MKZ g (zu (zu (zu z 4 (cN mm) n) 5 (cN mm) q) 6 0 x) (mm + 1) := fun k hk => by
  have k8 : (8 : Int32).toInt = 8 := by decide
  have k10 : (10 : Int32).toInt = 10 := by decide
  rw [ti_up (n := 8) (by omega)] at hk
  have c : (cN mm : Int) = mm.toInt := ti_cl hm.1
  by_cases e : k = cN mm
  · subst e
    exact ⟨by simp [zu]; exact hr.2.2 (by omega), by simp [zu]; exact hr.2.1 (by omega)⟩
  · have q := h k (by omega)
    exact ⟨by simp [zu, e]; exact (hr.1 _ (by omega)).trans q.1, by simp [zu, e]; exact (hr.1 _ (by omega)).trans q.2⟩
theorem eq_8 {x : Int32} (h : bi x 8 8) : x = 8 := ti_inj (by have k8 : (8 : Int32).toInt = 8 := (by decide); omega)
theorem eq_0 {x : Int32} (h : bi x 0 0) : x = 0 := ti_inj (by have k0 : (0 : Int32).toInt = 0 := (by decide); omega)
theorem gmk_8 {mc k n a b p z o : Int32} (h : mc = 8) : gmk mc k n a b p z o = 0 := if_pos h
theorem gmk_r {mc k n a b p z o : Int32} (h : mkS k n a b p z o = -1) : gmk mc k n a b p z o = 0 := by unfold gmk; rw [if_pos h]; split <;> rfl
theorem gmk_y {mc k n a b p z o : Int32} (h8 : ¬ mc = 8) (h : mkS k n a b p z o = 0) : ¬ gmk mc k n a b p z o = 0 := by unfold gmk; rw [if_neg h8, h]; decide
theorem c4z {v : Int32} (h : bi v 0 3) : cN v < 4 := by have := ti_cl (i := v) h.1; show Int32.toNatClampNeg v < 4; omega
theorem c8z {v : Int32} (h : bi v 0 7) : cN v < 8 := by have := ti_cl (i := v) h.1; show Int32.toNatClampNeg v < 8; omega
/-- bits and kinds of the makes stay -/
def KP (g2 g : Nat → Int32) : Prop := ∀ j, j % 10 < 2 → g2 j = g j
theorem kp_rf {g : Nat → Int32} : KP g g := fun _ _ => rfl
theorem kp_put {g2 g : Nat → Int32} {i x : Int32} (h : KP g2 g) (h0 : 0 ≤ i.toInt) (hk : 2 ≤ i.toInt % 10) : KP (upd g2 (Int32.toNatClampNeg i) x) g := fun j hj => by
  have := ti_cl h0
  rw [pk_un (by omega)]; exact h j hj
theorem mkr_e {g g0 : Nat → Int32} {mm i q n : Int32} (h : MKR g g0 mm i q n) (hi : 10 ≤ i.toInt) : MKR g g0 mm 10 q n := ⟨h.1, fun _ => h.2.1 (by omega), fun _ => h.2.2 (by omega)⟩
theorem flb_e {g g0 : Nat → Int32} {v i : Int32} (h : FLB g g0 v i) (hi : bi i 32 32) : FLB g g0 v 32 := by
  have e : i = 32 := ti_inj (by have k : (32 : Int32).toInt = 32 := (by decide); omega)
  subst e; exact h
def z_0 : ZT := fun x _ => if x < 3 then 1 else 0
theorem ones_e {g : Nat → Int32} {v : Int32} (h : g 0 = v ∧ g 1 = v ∧ g 2 = v ∧ g 3 = v) : ∀ j : Nat, j < 4 → g j = v := by
  intro j hj
  rcases (show j = 0 ∨ j = 1 ∨ j = 2 ∨ j = 3 by omega) with rfl | rfl | rfl | rfl
  · exact h.1
  · exact h.2.1
  · exact h.2.2.1
  · exact h.2.2.2
theorem RBX.new {g3 g4 g5 g6 : Nat → Int32} (h3 : ∀ j, j < 4 → g3 j = 1) (h4 : ∀ j, j < 4 → g4 j = 1) (h5 : ∀ j, g5 j = 0) (h6 : ∀ j, j < 4 → g6 j = 1) : RBX g3 g4 g5 g6 z_0 := fun k hk =>
  ⟨h3 k hk, h4 k hk, h6 k hk, fun j _ => h5 _⟩
