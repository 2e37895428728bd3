noncomputable def c1n (a x : Nat × va_E) : Nat := @ite Nat (x = a) (Classical.propDecidable _) 1 0
noncomputable def cn (a : Nat × va_E) (w : va_W) : Nat := w.foldr (fun x n => c1n a x + n) 0
theorem cn_nil (a : Nat × va_E) : cn a [] = 0 := rfl
theorem cn_cons (a x : Nat × va_E) (w : va_W) : cn a (x :: w) = c1n a x + cn a w := rfl
theorem cn_app (a : Nat × va_E) (w1 w2 : va_W) : cn a (w1 ++ w2) = cn a w1 + cn a w2 := by
  induction w1 with
  | nil => rw [List.nil_append, cn_nil, Nat.zero_add]
  | cons x w ih => rw [List.cons_append, cn_cons, cn_cons, ih, Nat.add_assoc]
theorem cn_pos {a : Nat × va_E} {w : va_W} (h : 0 < cn a w) : a ∈ w := by
  induction w with
  | nil => rw [cn_nil] at h; omega
  | cons x w ih =>
    rw [cn_cons] at h
    by_cases e : x = a
    · subst e; exact List.mem_cons_self
    · have : c1n a x = 0 := if_neg e
      exact List.mem_cons_of_mem _ (ih (by omega))
theorem cn_self (a : Nat × va_E) : c1n a a = 1 := if_pos rfl
theorem pm : ∀ {w1 w2 : va_W}, (∀ a, cn a w1 = cn a w2) → w1.Perm w2 := by
  intro w1
  induction w1 with
  | nil =>
    intro w2 h
    cases w2 with
    | nil => exact List.Perm.refl _
    | cons x w => have := h x; rw [cn_nil, cn_cons, cn_self] at this; omega
  | cons x w ih =>
    intro w2 h
    have hx : x ∈ w2 := cn_pos (by rw [← h x, cn_cons, cn_self]; omega)
    obtain ⟨s, t, rfl⟩ := List.append_of_mem hx
    refine (List.Perm.cons x (ih (w2 := s ++ t) (fun a => ?_))).trans List.perm_middle.symm
    have := h a
    rw [cn_cons, cn_app, cn_cons] at this
    rw [cn_app]; omega
theorem cn_split : ∀ {ms : List va_W} {k : Nat} {wk : va_W}, ms[k]? = some wk → ∀ a, cn a ms.flatten = cn a wk + cn a (ms.eraseIdx k).flatten := by
  intro ms
  induction ms with
  | nil => intro k wk h; simp at h
  | cons x ms ih =>
    intro k wk h a
    cases k with
    | zero =>
      have e : x = wk := by simpa using h
      subst e
      rw [List.eraseIdx_cons_zero, List.flatten_cons, cn_app]
    | succ k =>
      have h2 : ms[k]? = some wk := by simpa using h
      rw [List.eraseIdx_cons_succ, List.flatten_cons, List.flatten_cons, cn_app, cn_app, ih h2 a]; omega
theorem cn_set : ∀ {ms : List va_W} {k : Nat} {wk : va_W} (w' : va_W), ms[k]? = some wk → ∀ a, cn a (ms.set k w').flatten = cn a w' + cn a (ms.eraseIdx k).flatten := by
  intro ms
  induction ms with
  | nil => intro k wk w' h; simp at h
  | cons x ms ih =>
    intro k wk w' h a
    cases k with
    | zero => rw [List.set_cons_zero, List.eraseIdx_cons_zero, List.flatten_cons, cn_app]
    | succ k =>
      have h2 : ms[k]? = some wk := by simpa using h
      rw [List.set_cons_succ, List.eraseIdx_cons_succ, List.flatten_cons, List.flatten_cons, cn_app, cn_app, ih w' h2 a]; omega
theorem ms_set {Pr Pr2 : Nat → Nat → va_W → Prop} {mf : Nat → Option Nat} {ms : List va_W} {K mk : Nat} {w' : va_W} (hM : ∀ k w, ms[k]? = some w → ∃ mk, mf k = some mk ∧ Pr k mk w) (him : mf K = some mk) (h : Pr2 K mk w') (ho : ∀ k mk w, k ≠ K → Pr k mk w → Pr2 k mk w) : ∀ k w, (ms.set K w')[k]? = some w → ∃ mk, mf k = some mk ∧ Pr2 k mk w := by
  intro k w hk
  by_cases e : K = k
  · subst e
    rw [List.getElem?_set_self'] at hk
    cases hz : ms[K]? with
    | none => rw [hz] at hk; simp at hk
    | some z =>
      rw [hz] at hk
      have e2 : w' = w := by simpa using hk
      subst e2
      exact ⟨mk, him, h⟩
  · rw [List.getElem?_set_ne e] at hk
    obtain ⟨mk, h1, h2⟩ := hM k w hk
    exact ⟨mk, h1, ho k mk w (fun q => e q.symm) h2⟩
theorem ms_push {Pr Pr2 : Nat → Nat → va_W → Prop} {mf : Nat → Option Nat} {ms : List va_W} {K mk : Nat} {w' : va_W} (hM : ∀ k w, ms[k]? = some w → ∃ mk, mf k = some mk ∧ Pr k mk w) (hK : ms.length = K) (h : Pr2 K mk w') (ho : ∀ k mk w, k ≠ K → Pr k mk w → Pr2 k mk w) : ∀ k w, (ms ++ [w'])[k]? = some w → ∃ mk', va_up mf K (some mk) k = some mk' ∧ Pr2 k mk' w := by
  intro k w hk
  subst hK
  by_cases e : k < ms.length
  · rw [List.getElem?_append_left e] at hk
    obtain ⟨m2, h1, h2⟩ := hM k w hk
    refine ⟨m2, ?_, ho _ _ _ (by omega) h2⟩
    show (if k = ms.length then some mk else mf k) = some m2
    rw [if_neg (by omega)]; exact h1
  · rw [List.getElem?_append_right (by omega)] at hk
    have hz : k - ms.length < 1 := (List.getElem?_eq_some_iff.mp hk).1
    have e3 : k = ms.length := by omega
    subst e3
    rw [Nat.sub_self] at hk
    have e2 : w' = w := by simpa using hk
    subst e2
    refine ⟨mk, ?_, h⟩
    show (if ms.length = ms.length then some mk else mf ms.length) = some mk
    rw [if_pos rfl]
theorem xo_at {mc i : Int32} {ms : List va_W} (h : ¬ wi i 0 (mc - 1) = 0) (hl : mc.toInt = ms.length) (h8 : ms.length ≤ 8) : ∃ wk, ms[Int32.toNatClampNeg i]? = some wk := by
  have k0 : (0 : Int32).toInt = 0 := by decide
  have u0 := ti_wi1 h
  have u1 := ti_m1 (i := mc) (by omega)
  have c := ti_cl (i := i) (by omega)
  exact ⟨_, List.getElem?_eq_getElem (by omega)⟩
theorem bx_at {i : Int32} {bs : List va_W} (h : ¬ wi i 0 3 = 0) (hl : bs.length = 4) : ∃ wk, bs[Int32.toNatClampNeg i]? = some wk := ⟨_, List.getElem?_eq_getElem (by rw [hl]; exact wi_lt h)⟩
theorem Ci.rm {l : Launch} {y : MethodName} {wl : List Cond} {rm rm' : Room} {D : va_G} {av : List Value} {ws : va_W} {tys : List (ClassId × FieldType)} {sz : Nat} {S : Type} {post : Int32 → S → Prop} {ws' : S → va_W} {tys' : S → List (ClassId × FieldType)} (h : Ci l y wl rm D av ws tys sz post ws' tys') (hf : rm.frames ≤ rm'.frames) (hl : rm.locals ≤ rm'.locals) (hc : rm'.cells = rm.cells) (hs : rm'.slots = rm.slots) : Ci l y wl rm' D av ws tys sz post ws' tys' := by
  unfold Ci Met at h ⊢
  rw [hc, hs]
  intro p e ha hcs hk s m args below hfr happ hP hK
  obtain ⟨a1, a2, a3, a4, a5, a6, a7, a8⟩ := (Spec.appliesLoose_iff hfr).mp happ
  refine h p e ha hcs hk s m args below hfr ((Spec.appliesLoose_iff hfr).mpr ⟨a1, a2, a3, a4, a5, a6, ?_, a8⟩) hP hK
  have a9 : s.hasRoom _ (headSpec wl rm').room = true := a7
  show s.hasRoom _ rm = true
  have a9 : s.hasRoom _ rm' = true := a7
  simp only [State.hasRoom, Bool.and_eq_true, decide_eq_true_eq] at a9 ⊢
  obtain ⟨⟨⟨⟨y, a, b, c, d, e⟩, f⟩, g⟩, i⟩ := a9
  exact ⟨⟨⟨⟨by omega, by omega, by omega, by omega, by omega, e⟩, by omega⟩, by omega⟩, i⟩
/-- the tape, the route, a box -/
def TPW (cI : ClassId) (tp : Nat) (w : va_W) : Prop := ∃ (ta : Nat) (tk : Int32) (tf : Nat → Int32), w = [(tp, .inr (6, [.ref ta, .int tk])), (ta, .inl (cI, 120, .inl tf))] ∧ bi tk 0 120
def RTW (cI : ClassId) (z : ZT) (rt : Nat) (w : va_W) : Prop := ∃ (r0 r1 r2 r3 : Nat) (rl : Int32) (f0 f1 f2 f3 : Nat → Int32), w = [(rt, .inr (5, [.ref r0, .ref r1, .ref r2, .ref r3, .int rl])), (r0, .inl (cI, 256, .inl f0)), (r1, .inl (cI, 256, .inl f1)), (r2, .inl (cI, 256, .inl f2)), (r3, .inl (cI, 256, .inl f3))] ∧ bi rl 0 256 ∧ RTQ z rl f0
def BXW (cI : ClassId) (z : ZT) (k bq : Nat) (w : va_W) : Prop := ∃ (la : Nat) (st bu my : Int32) (lf : Nat → Int32), w = [(bq, .inr (0, [.ref la, .int st, .int bu, .int my])), (la, .inl (cI, 32, .inl lf))] ∧ bi st 1 8 ∧ bi bu 1 4 ∧ bi my 0 255 ∧ (∀ j, bi (lf j) 0 7) ∧ BQ z k st bu my lf
theorem BXW.mono {cI : ClassId} {z z2 : ZT} {k bq : Nat} {w : va_W} (h : BXW cI z k bq w) (f : ∀ st bu my lf, BQ z k st bu my lf → BQ z2 k st bu my lf) : BXW cI z2 k bq w := by
  obtain ⟨la, st, bu, my, lf, h1, h2, h3, h4, h5, h6⟩ := h
  exact ⟨la, st, bu, my, lf, h1, h2, h3, h4, h5, f _ _ _ _ h6⟩
def MKX (cI : ClassId) (z : ZT) (k mk : Nat) (w : va_W) : Prop := MKW cI (z 4 k) (z 5 k) mk w
def XOK (cI cM cB : ClassId) (h0 : Nat) (z : ZT) (w : va_W) : Prop := ∃ (tp mka bx rt : Nat) (mc : Int32) (mf bf : Nat → Option Nat) (wt wr : va_W) (bs ms : List va_W), w = (h0, .inr (7, [.ref tp, .ref mka, .int mc, .ref bx, .ref rt])) :: (mka, .inl (cM, 8, .inr (.inr (.inr (.inr mf))))) :: (bx, .inl (cB, 4, .inr (.inr (.inr (.inr bf))))) :: (wt ++ (wr ++ (bs.flatten ++ ms.flatten))) ∧ TPW cI tp wt ∧ RTW cI z rt wr ∧ bs.length = 4 ∧ (∀ k w, bs[k]? = some w → ∃ bq, bf k = some bq ∧ BXW cI z k bq w) ∧ mc.toInt = ms.length ∧ ms.length ≤ 8 ∧ (∀ k w, ms[k]? = some w → ∃ mk, mf k = some mk ∧ MKX cI z k mk w) ∧ mc = z 6 0
def MOK (cI : ClassId) (h0 : Nat) (z : ZT) (w : va_W) : Prop := ∃ (a0 a1 a2 a3 a4 a5 a6 a7 a8 a9 ab : Nat) (tk mm wm fa th se : Int32) (g0 g1 g2 g3 g4 g5 g6 g7 g8 g9 gb : Nat → Int32), w = [(h0, .inr (8, [.ref a0, .int tk, .ref a1, .int mm, .ref a2, .ref a3, .ref a4, .ref a5, .ref a6, .ref a7, .int wm, .int fa, .int th, .int se, .ref a8, .ref a9, .ref ab])), (a0, .inl (cI, 120, .inl g0)), (a1, .inl (cI, 80, .inl g1)), (a2, .inl (cI, 128, .inl g2)), (a3, .inl (cI, 4, .inl g3)), (a4, .inl (cI, 4, .inl g4)), (a5, .inl (cI, 128, .inl g5)), (a6, .inl (cI, 4, .inl g6)), (a7, .inl (cI, 256, .inl g7)), (a8, .inl (cI, 256, .inl g8)), (a9, .inl (cI, 256, .inl g9)), (ab, .inl (cI, 256, .inl gb))] ∧ bi tk 0 120 ∧ bi mm 0 8 ∧ bi wm 0 256 ∧ MKG g1 mm ∧ (∀ j, j < 4 → bi (g3 j) 1 8) ∧ (∀ j, j < 4 → bi (g4 j) 1 4) ∧ (∀ j, bi (g5 j) 0 7) ∧ (∀ j, j < 4 → bi (g6 j) 0 255) ∧ RBX g3 g4 g5 g6 z ∧ mm = z 6 0 ∧ MKZ g1 z mm ∧ RTQ z wm g7
theorem MKZ.se {g : Nat → Int32} {z : ZT} {mm v w x : Int32} (h : MKZ g z mm) (hm : bi mm 0 8) : seA mm (g (Int32.toNatClampNeg (10 * v + 1))) v w x = seA mm (z 4 (cN v)) v w x := by
  by_cases e : wi v 0 (mm - 1) = 0
  · unfold seA; rw [if_pos e, if_pos e]
  · have k0 : (0 : Int32).toInt = 0 := by decide
    have k1 : (1 : Int32).toInt = 1 := by decide
    have u0 := ti_wi1 e
    have u1 := ti_m1 (i := mm) (by omega)
    have u2 := ix10 (m := v) (w := 1) (by omega) (by decide)
    have c1 := ti_cl (i := v) (by omega)
    have c2 := ti_cl (i := 10 * v + 1) (by omega)
    have q := (h (cN v) (by show ((Int32.toNatClampNeg v : Nat) : Int) < mm.toInt; omega)).1
    rw [show Int32.toNatClampNeg (10 * v + 1) = 10 * cN v + 1 by show _ = 10 * Int32.toNatClampNeg v + 1; omega, q]
theorem fb0 {z : ZT} {i v w : Int32} (h : bxS i v w = 0) : fbx z i v w = (0, z) := if_pos h
theorem fb1 {z : ZT} {i v w : Int32} (h : ¬ bxS i v w = 0) : fbx z i v w = (1, zbx z (cN i) v w) := if_neg h
theorem fl0 {z : ZT} {i v w x st bu : Int32} (e0 : st = z 0 (cN i)) (e1 : bu = z 1 (cN i)) (h : gld st bu i v w x = 0) : fld z i v w x = (0, z) := by subst e0; subst e1; exact if_pos h
theorem fl1 {z : ZT} {i v w x st bu : Int32} (e0 : st = z 0 (cN i)) (e1 : bu = z 1 (cN i)) (h : ¬ gld st bu i v w x = 0) : fld z i v w x = (1, zu z 3 (32 * cN i + (4 * cN v + cN w)) x) := by subst e0; subst e1; exact if_neg h
theorem fy0 {z : ZT} {i v st : Int32} (e0 : st = z 0 (cN i)) (h : gmy st i v = 0) : fmy z i v = (0, z) := by subst e0; exact if_pos h
theorem fy1 {z : ZT} {i v st : Int32} (e0 : st = z 0 (cN i)) (h : ¬ gmy st i v = 0) : fmy z i v = (1, zu z 2 (cN i) v) := by subst e0; exact if_neg h
theorem fp0 {z : ZT} {i v bu : Int32} (e1 : bu = z 1 (cN i)) (h : gpu bu i v = 0) : fpu z i v = (-1, z) := by subst e1; exact if_pos h
theorem fp1 {z : ZT} {i v bu : Int32} (e1 : bu = z 1 (cN i)) (h : ¬ gpu bu i v = 0) : fpu z i v = (zbh z i v, zu z 2 (cN i) (zbh z i v)) := by subst e1; exact if_neg h
theorem fk0 {z : ZT} {mc k n a b p y o : Int32} (e : mc = z 6 0) (h : gmk mc k n a b p y o = 0) : fmk z k n a b p y o = (-1, z) := by subst e; exact if_pos h
theorem fk1 {z : ZT} {mc k n a b p y o : Int32} (e : mc = z 6 0) (h : ¬ gmk mc k n a b p y o = 0) : fmk z k n a b p y o = (mc + 1 - 1, zu (zu (zu z 4 (cN mc) n) 5 (cN mc) k) 6 0 (mc + 1)) := by subst e; exact if_neg h
