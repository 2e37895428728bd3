/-- a code as halves: whether half h is on, how many times there are behind half h -/
def sbh (n : Nat) (c : Int32) (h : Nat) : Int32 := (c >>> (nI (n - (h + 1) / 2) &&& 31)) &&& 1
def onh (n : Nat) (c : Int32) (h : Nat) : Int32 := if h = 0 then 1 else if h % 2 = 1 then (if sbh n c h = 0 then 1 else 0) else (if sbh n c h = 0 then 0 else 1)
def nHC (n : Nat) (c : Int32) : Nat → Nat
  | 0 => 1
  | h + 1 => nHC n c h + (if onh n c (h + 1) = onh n c h then 0 else 1)
def nHZ (n : Nat) (c : Int32) : Nat := if onh n c (2 * n) = 0 then 2 * n - 1 else 2 * n
def nHT (n : Nat) (c : Int32) : Nat := nHC n c (nHZ n c)
theorem hc_le (n : Nat) (c : Int32) : ∀ h : Nat, nHC n c h ≤ h + 1
  | 0 => Nat.le_refl _
  | h + 1 => by
    have := hc_le n c h
    unfold nHC
    split <;> omega
theorem hc_pos (n : Nat) (c : Int32) : ∀ h : Nat, 1 ≤ nHC n c h
  | 0 => Nat.le_refl _
  | h + 1 => by
    have := hc_pos n c h
    unfold nHC
    omega
theorem hz_le (n : Nat) (c : Int32) : nHZ n c ≤ 2 * n := by
  unfold nHZ
  split <;> omega
theorem cZ {i : Int32} (h : 0 ≤ i.toInt) : ((cN i : Nat) : Int) = i.toInt := ti_cl h
theorem nI_p1 {w : Int32} (h : bi w 0 100) : w + 1 = nI (cN w + 1) := by
  have k : (400 : Int32).toInt = 400 := by decide
  have u := ti_up (i := w) (n := 400) (by omega)
  rw [← cN_up (n := 400) h.1 (by omega), nI_cl (by omega)]
theorem cN_m1 {w : Int32} (h : bi w 1 100) : cN (w - 1) = cN w - 1 := by
  have u := ti_m1 (i := w) (by omega)
  have c := cZ (i := w) (by omega)
  have c2 := cZ (i := w - 1) (by omega)
  omega
theorem nI_mm {w : Int32} (h : bi w 1 100) : w - 1 = nI (cN w - 1) := by
  have u := ti_m1 (i := w) (by omega)
  rw [← cN_m1 h, nI_cl (by omega)]
theorem sh_c {n w : Int32} (hn : bi n 1 24) (hw : bi w 1 (2 * n.toInt)) : n - (w + 1) / 2 = nI (cN n - (cN w + 1) / 2) := by
  have c1 := cZ (i := n) (by omega)
  have c2 := cZ (i := w) (by omega)
  have e1 : (w + 1) / 2 = nI ((cN w + 1) / 2) := by
    rw [nI_p1 (by omega)]
    exact pk_div (d := 2) (by omega) (by decide) (by decide)
  have e2 : nI (cN n) - nI ((cN w + 1) / 2) = nI (cN n - (cN w + 1) / 2) := pk_sub (by omega)
  rw [nI_cl (by omega)] at e2
  rw [e1]; exact e2
theorem sh_m {n w : Int32} (hn : bi n 1 24) (hw : bi w 1 (2 * n.toInt)) : n - 1 - (w - 1) / 2 = nI (cN n - (cN w + 1) / 2) := by
  have c1 := cZ (i := n) (by omega)
  have c2 := cZ (i := w) (by omega)
  have e1 : (w - 1) / 2 = nI ((cN w - 1) / 2) := by
    rw [nI_mm (by omega)]
    exact pk_div (d := 2) (by omega) (by decide) (by decide)
  have e2 : nI (cN n - 1) - nI ((cN w - 1) / 2) = nI (cN n - 1 - (cN w - 1) / 2) := pk_sub (by omega)
  rw [e1, nI_mm (w := n) (by omega), e2]
  exact congrArg nI (by omega)
theorem rm_e {w : Int32} (h : bi w 0 100) : w - w / 2 * 2 = nI (cN w % 2) := by
  have c := cZ (i := w) h.1
  have e := pk_rem (a := cN w) (d := 2) (by omega) (by decide) (by decide)
  rw [nI_cl h.1] at e
  exact e
theorem rm_c {w : Int32} (h : bi w 0 100) : w - w / 2 * 2 = 1 ↔ cN w % 2 = 1 := by
  rw [rm_e h]
  rcases (show cN w % 2 = 0 ∨ cN w % 2 = 1 by omega) with e | e <;> rw [e] <;> decide
theorem on_0 {n : Nat} {c w : Int32} (h : w = 0) : (1 : Int32) = onh n c (cN w) := by
  unfold onh
  rw [h, if_pos (by decide)]
theorem on_c {n w c : Int32} (hn : bi n 1 24) (hw : bi w 1 (2 * n.toInt)) : onh (cN n) c (cN w) = if w - w / 2 * 2 = 1 then (if (c >>> ((n - (w + 1) / 2) &&& 31)) &&& 1 = 0 then 1 else 0) else (if (c >>> ((n - (w + 1) / 2) &&& 31)) &&& 1 = 0 then 0 else 1) := by
  have c2 := cZ (i := w) (by omega)
  have er := rm_c (w := w) (by omega)
  unfold onh sbh
  rw [if_neg (by omega), sh_c hn hw]
  by_cases e : cN w % 2 = 1
  · rw [if_pos e, if_pos (er.mpr e)]
  · rw [if_neg e, if_neg (fun q => e (er.mp q))]
theorem sbh_01 (n : Nat) (c : Int32) (h : Nat) : sbh n c h = 0 ∨ sbh n c h = 1 := by
  obtain ⟨j, h1, h2⟩ := pk_andE (c >>> (nI (n - (h + 1) / 2) &&& 31)) 1 (m := 1) (by decide)
  rcases (show j = 0 ∨ j = 1 by omega) with rfl | rfl
  · exact Or.inl h2
  · exact Or.inr h2
theorem on_m {n w c : Int32} (hn : bi n 1 24) (hw : bi w 1 (2 * n.toInt)) : (w - 1 - (w - 1) / 2 * 2 = (c >>> ((n - 1 - (w - 1) / 2) &&& 31)) &&& 1 → 1 = onh (cN n) c (cN w)) ∧ (¬ w - 1 - (w - 1) / 2 * 2 = (c >>> ((n - 1 - (w - 1) / 2) &&& 31)) &&& 1 → 0 = onh (cN n) c (cN w)) := by
  have c2 := cZ (i := w) (by omega)
  have u := ti_m1 (i := w) (by omega)
  have em := rm_e (w := w - 1) (by omega)
  rw [cN_m1 (by omega)] at em
  rw [em, sh_m hn hw]
  show (nI ((cN w - 1) % 2) = sbh (cN n) c (cN w) → _) ∧ (¬ nI ((cN w - 1) % 2) = sbh (cN n) c (cN w) → _)
  unfold onh
  rw [if_neg (by omega)]
  by_cases e : cN w % 2 = 1
  · rw [if_pos e, show (cN w - 1) % 2 = 0 by omega]
    rcases sbh_01 (cN n) c (cN w) with q | q <;> rw [q] <;> decide
  · rw [if_neg e, show (cN w - 1) % 2 = 1 by omega]
    rcases sbh_01 (cN n) c (cN w) with q | q <;> rw [q] <;> decide
theorem u_2n {n : Int32} (hn : bi n 1 24) : (2 * n).toInt = 2 * n.toInt := by
  have k2 : (2 : Int32).toInt = 2 := by decide
  have u := ti_mu (x := 2) (y := n) (by rw [k2]; omega)
  rw [u, k2]
theorem c_2n {n : Int32} (hn : bi n 1 24) : cN (2 * n) = 2 * cN n := by
  have u := u_2n hn
  have c := cZ (i := n) (by omega)
  have c2 := cZ (i := 2 * n) (by omega)
  omega
theorem hz_a {n c : Int32} (hn : bi n 1 24) (h : ¬ onh (cN n) c (cN (2 * n)) = 0) : cN (2 * n) = nHZ (cN n) c := by
  unfold nHZ
  rw [c_2n hn] at h ⊢
  rw [if_neg h]
theorem hz_b {n c : Int32} (hn : bi n 1 24) (h : onh (cN n) c (cN (2 * n)) = 0) : cN (2 * n - 1) = nHZ (cN n) c := by
  have u := u_2n hn
  unfold nHZ
  rw [cN_m1 (by omega)]
  rw [c_2n hn] at h ⊢
  rw [if_pos h]
theorem hc_1 {n : Nat} {c : Int32} : nHC n c (cN 1 - 1) = 1 := by rw [show cN 1 - 1 = 0 by decide]; rfl
theorem hc_up {n : Nat} {c i : Int32} (hi : bi i 1 99) : nHC n c (cN (i + 1) - 1) = nHC n c (cN i - 1) + (if onh n c (cN i) = onh n c (cN (i - 1)) then 0 else 1) := by
  have k : (400 : Int32).toInt = 400 := by decide
  have c1 := cZ (i := i) (by omega)
  rw [cN_up (n := 400) (by omega) (by omega), cN_m1 (by omega), Nat.add_sub_cancel]
  obtain ⟨m, hm⟩ : ∃ m, cN i = m + 1 := ⟨cN i - 1, by omega⟩
  rw [hm]; rfl
theorem hc_s {n : Nat} {c i : Int32} (hi : bi i 1 99) (e : onh n c (cN i) = onh n c (cN (i - 1))) : nHC n c (cN (i + 1) - 1) = nHC n c (cN i - 1) := by
  rw [hc_up hi, if_pos e, Nat.add_zero]
theorem hc_d {n : Nat} {c i : Int32} (hi : bi i 1 99) (e : ¬ onh n c (cN i) = onh n c (cN (i - 1))) : nHC n c (cN (i + 1) - 1) = nHC n c (cN i - 1) + 1 := by
  rw [hc_up hi, if_neg e]
theorem hl_to {n : Nat} {c t : Int32} (h : t.toInt = nHT n c) (hn : n ≤ 24) : t = nI (nHT n c) := ti_inj (by
  have h1 := hc_le n c (nHZ n c)
  have h2 := hz_le n c
  have h3 : nHT n c ≤ 49 := by unfold nHT; omega
  rw [ti_nI (n := nHT n c) (by omega)]; exact h)
/-- the reference's halves: h comes next, the time that runs began at half f, t times lie there -/
def LH (n : Nat) (c : Int32) (a h f t : Nat) : Prop := f < h ∧ (h ≤ a → onh n c f = onh n c (h - 1) ∧ t + 1 = nHC n c (h - 1)) ∧ (h = a + 1 → t = nHC n c (a - 1))
theorem LH.start {n : Nat} {c : Int32} {a : Nat} (ha : 1 ≤ a) : LH n c a 1 0 0 := ⟨by omega, fun _ => ⟨rfl, rfl⟩, fun h => by omega⟩
theorem LH.same {n : Nat} {c : Int32} {a h f t : Nat} (q : LH n c a h f t) (ha : h < a) (e : onh n c h = onh n c f) : LH n c a (h + 1) f t := by
  obtain ⟨q1, q2, q3⟩ := q
  obtain ⟨q4, q5⟩ := q2 (by omega)
  refine ⟨by omega, fun _ => ⟨e.symm, ?_⟩, fun h9 => by omega⟩
  obtain ⟨m, rfl⟩ : ∃ m, h = m + 1 := ⟨h - 1, by omega⟩
  rw [Nat.add_sub_cancel] at q4 q5 ⊢
  show t + 1 = nHC n c m + (if onh n c (m + 1) = onh n c m then 0 else 1)
  rw [if_pos (e.trans q4), q5]; rfl
theorem LH.diff {n : Nat} {c : Int32} {a h f t : Nat} (q : LH n c a h f t) (ha : h < a) (e : ¬ onh n c h = onh n c f) : LH n c a (h + 1) h (t + 1) := by
  obtain ⟨q1, q2, q3⟩ := q
  obtain ⟨q4, q5⟩ := q2 (by omega)
  refine ⟨by omega, fun _ => ⟨by rw [Nat.add_sub_cancel], ?_⟩, fun h9 => by omega⟩
  obtain ⟨m, rfl⟩ : ∃ m, h = m + 1 := ⟨h - 1, by omega⟩
  rw [Nat.add_sub_cancel] at q4 q5 ⊢
  show t + 1 + 1 = nHC n c m + (if onh n c (m + 1) = onh n c m then 0 else 1)
  rw [if_neg (fun z => e (z.trans q4.symm)), q5]
theorem LH.last {n : Nat} {c : Int32} {a h f t : Nat} (q : LH n c a h f t) (ha : h = a) : LH n c a (h + 1) h (t + 1) := by
  obtain ⟨q1, q2, q3⟩ := q
  obtain ⟨q4, q5⟩ := q2 (by omega)
  subst ha
  exact ⟨by omega, fun h9 => by omega, fun _ => q5⟩
/-- the same, over numbers of the machine -/
def LI (n : Nat) (c a h f t : Int32) : Prop := bi f 0 60 ∧ bi h 1 60 ∧ bi t 0 60 ∧ LH n c (cN a) (cN h) (cN f) (cN t)
theorem k1_up {i : Int32} (h : bi i 0 100) : (i + 1).toInt = i.toInt + 1 ∧ cN (i + 1) = cN i + 1 := by
  have k : (400 : Int32).toInt = 400 := by decide
  exact ⟨ti_up (n := 400) (by omega), cN_up (n := 400) h.1 (by omega)⟩
theorem LI.start {n : Nat} {c a t : Int32} (ha : bi a 1 49) (ht : t.toInt = 0) : LI n c a 1 0 t := by
  have c1 := cZ (i := a) (by omega)
  have c2 := cZ (i := t) (by omega)
  refine ⟨by decide, by decide, by omega, ?_⟩
  rw [show cN 1 = 1 by decide, show cN 0 = 0 by decide, show cN t = 0 by omega]
  exact LH.start (by omega)
theorem LI.same {n : Nat} {c a h f t : Int32} (q : LI n c a h f t) (ha : bi a 1 49) (hh : h.toInt < a.toInt) (e : onh n c (cN h) = onh n c (cN f)) : LI n c a (h + 1) f t := by
  obtain ⟨q1, q2, q3, q4⟩ := q
  have u := k1_up (i := h) (by omega)
  have c1 := cZ (i := a) (by omega)
  have c2 := cZ (i := h) (by omega)
  refine ⟨q1, by omega, q3, ?_⟩
  rw [u.2]
  exact q4.same (by omega) e
theorem LI.tb {n : Nat} {c a h f t : Int32} (q : LI n c a h f t) (ha : bi a 1 49) (hh : h.toInt ≤ a.toInt) : bi t 0 (h.toInt - 1) := by
  obtain ⟨q1, q2, q3, q4⟩ := q
  have c1 := cZ (i := a) (by omega)
  have c2 := cZ (i := h) (by omega)
  have c3 := cZ (i := t) (by omega)
  have q5 := (q4.2.1 (by omega)).2
  have q6 := hc_le n c (cN h - 1)
  omega
theorem LI.diff {n : Nat} {c a h f t : Int32} (q : LI n c a h f t) (ha : bi a 1 49) (hh : h.toInt < a.toInt) (e : ¬ onh n c (cN h) = onh n c (cN f)) : LI n c a (h + 1) h (t + 1) := by
  have qt := q.tb ha (by omega)
  obtain ⟨q1, q2, q3, q4⟩ := q
  have u := k1_up (i := h) (by omega)
  have ut := k1_up (i := t) (by omega)
  have c1 := cZ (i := a) (by omega)
  have c2 := cZ (i := h) (by omega)
  refine ⟨by omega, by omega, by omega, ?_⟩
  rw [u.2, ut.2]
  exact q4.diff (by omega) e
theorem LI.last {n : Nat} {c a h f t : Int32} (q : LI n c a h f t) (ha : bi a 1 49) (hh : h.toInt = a.toInt) : LI n c a (h + 1) h (t + 1) := by
  have qt := q.tb ha (by omega)
  obtain ⟨q1, q2, q3, q4⟩ := q
  have u := k1_up (i := h) (by omega)
  have ut := k1_up (i := t) (by omega)
  have c1 := cZ (i := a) (by omega)
  have c2 := cZ (i := h) (by omega)
  refine ⟨by omega, by omega, by omega, ?_⟩
  rw [u.2, ut.2]
  exact q4.last (by omega)
theorem LI.fin {n : Nat} {c a h f t : Int32} (q : LI n c a h f t) (ha : bi a 1 49) (hh : h.toInt = a.toInt + 1) (e : cN a = nHZ n c + 1) (hn : n ≤ 24) : t = nI (nHT n c) := by
  obtain ⟨q1, q2, q3, q4⟩ := q
  have c1 := cZ (i := a) (by omega)
  have c2 := cZ (i := h) (by omega)
  have c3 := cZ (i := t) (by omega)
  have q5 := q4.2.2 (by omega)
  refine hl_to ?_ hn
  unfold nHT
  rw [show cN a - 1 = nHZ n c by omega] at q5
  omega
theorem lz_a {n c : Int32} (hn : bi n 1 24) (h : ¬ onh (cN n) c (cN (2 * n + 1 - 1)) = 0) : cN (2 * n + 1) = nHZ (cN n) c + 1 := by
  have u := u_2n hn
  have u1 := k1_up (i := 2 * n) (by omega)
  have um := cN_m1 (w := 2 * n + 1) (by omega)
  rw [um, u1.2, Nat.add_sub_cancel] at h
  rw [u1.2, hz_a hn h]
theorem lz_b {n c : Int32} (hn : bi n 1 24) (h : onh (cN n) c (cN (2 * n + 1 - 1)) = 0) : cN (2 * n + 1 + (-1)) = nHZ (cN n) c + 1 := by
  have u := u_2n hn
  have u1 := k1_up (i := 2 * n) (by omega)
  have um := cN_m1 (w := 2 * n + 1) (by omega)
  have c1 := cZ (i := n) (by omega)
  have c2 := c_2n hn
  have u2 := ti_am1s (i := 2 * n + 1) (by omega)
  have c3 := cZ (i := 2 * n + 1 + (-1)) (by omega)
  rw [um, u1.2, Nat.add_sub_cancel, c2] at h
  unfold nHZ
  rw [if_pos h]
  have c4 := cZ (i := 2 * n) (by omega)
  omega
/-- how many times of a code -/
def snA (mc n q i c : Int32) : Int32 := if wi i 0 (mc - 1) = 0 then -1 else if wi c 0 (lb n) = 0 then -1 else if q = 2 then nI (nHT (cN n) c) else if q = 0 then 2 * n + 3 else 2 * n + 1
theorem shl_b {n : Int32} (h : bi n 1 24) : bi (1 <<< (n &&& 31)) 2 16777216 := by
  obtain ⟨j, hj, rfl⟩ := of_bi (k := 24) (x := n) (by omega) (by decide)
  have h1 := h.1
  rw [nI_toInt (by omega)] at h1
  rcases (show j = 1 ∨ j = 2 ∨ j = 3 ∨ j = 4 ∨ j = 5 ∨ j = 6 ∨ j = 7 ∨ j = 8 ∨ j = 9 ∨ j = 10 ∨ j = 11 ∨ j = 12 ∨ j = 13 ∨ j = 14 ∨ j = 15 ∨ j = 16 ∨ j = 17 ∨ j = 18 ∨ j = 19 ∨ j = 20 ∨ j = 21 ∨ j = 22 ∨ j = 23 ∨ j = 24 by omega) with rfl | rfl | rfl | rfl | rfl | rfl | rfl | rfl | rfl | rfl | rfl | rfl | rfl | rfl | rfl | rfl | rfl | rfl | rfl | rfl | rfl | rfl | rfl | rfl <;> decide
theorem lb_e {n : Int32} (h : bi n 1 24) : (lb n).toInt = (1 <<< (n &&& 31) : Int32).toInt - 1 := by
  have u := shl_b h
  exact ti_m1 (i := 1 <<< (n &&& 31)) (by omega)
theorem wl_no {n c : Int32} (h : bi n 1 24) (q : c.toInt < 0 ∨ (1 <<< (n &&& 31) : Int32).toInt ≤ c.toInt) : wi c 0 (lb n) = 0 := by
  by_cases e : wi c 0 (lb n) = 0
  · exact e
  · have k0 : (0 : Int32).toInt = 0 := by decide
    have u := ti_wi1 e
    have v := lb_e h
    omega
theorem wl_yes {n c : Int32} (h : bi n 1 24) (q : 0 ≤ c.toInt ∧ c.toInt < (1 <<< (n &&& 31) : Int32).toInt) : ¬ wi c 0 (lb n) = 0 := wi_y (by
  have k0 : (0 : Int32).toInt = 0 := by decide
  have v := lb_e h
  omega)
theorem u_2k {n k : Int32} (hn : bi n 1 24) (x : Int) (hk : k.toInt = x) (hx : 0 ≤ x ∧ x ≤ 9) : (2 * n + k).toInt = 2 * n.toInt + x := by
  have u := u_2n hn
  have v := ti_ad (x := 2 * n) (y := k) (by rw [u, hk]; omega)
  rw [v, u, hk]
/-- what a flash of the reference leaves -/
def FC (q n c t : Int32) : Prop := (q = 2 ∧ t = nI (nHT (cN n) c)) ∨ (¬ q = 2 ∧ q = 0 ∧ t.toInt = 2 * n.toInt + 3) ∨ (¬ q = 2 ∧ ¬ q = 0 ∧ t.toInt = 2 * n.toInt + 1)
theorem FC.to {q n c t : Int32} (h : FC q n c t) (hn : bi n 1 24) : t = if q = 2 then nI (nHT (cN n) c) else if q = 0 then 2 * n + 3 else 2 * n + 1 := by
  rcases h with ⟨h1, h2⟩ | ⟨h1, h2, h3⟩ | ⟨h1, h2, h3⟩
  · rw [if_pos h1]; exact h2
  · rw [if_neg h1, if_pos h2]; exact ti_inj (h3.trans (u_2k hn 3 (by decide) (by decide)).symm)
  · rw [if_neg h1, if_neg h2]; exact ti_inj (h3.trans (u_2k hn 1 (by decide) (by decide)).symm)
def FZ (q n t i : Int32) : Prop := (q = 0 ∧ t.toInt = 2 * n.toInt - 2 * i.toInt) ∨ (¬ q = 0 ∧ ((0 ≤ i.toInt ∧ t.toInt = 2 * n.toInt - 2 * i.toInt) ∨ (i.toInt = -1 ∧ t.toInt = 2 * n.toInt + 1)))
theorem FZ.at {q n t i : Int32} (h : FZ q n t i) (hi : 0 ≤ i.toInt) : t.toInt = 2 * n.toInt - 2 * i.toInt := by
  rcases h with ⟨-, h⟩ | ⟨-, ⟨-, h⟩ | ⟨h1, -⟩⟩
  · exact h
  · exact h
  · omega
theorem FZ.tb {q n t i : Int32} (h : FZ q n t i) (hi : -1 ≤ i.toInt) : bi t (2 * n.toInt - 2 * i.toInt - 1) (2 * n.toInt - 2 * i.toInt) := by
  rcases h with ⟨-, h⟩ | ⟨-, ⟨-, h⟩ | ⟨h1, h⟩⟩ <;> (show _ ∧ _; omega)
theorem FZ.start {q n t i : Int32} (h0 : 0 ≤ i.toInt) (h : t.toInt = 2 * n.toInt - 2 * i.toInt) : FZ q n t i := by
  by_cases e : q = 0
  · exact Or.inl ⟨e, h⟩
  · exact Or.inr ⟨e, Or.inl ⟨h0, h⟩⟩
theorem FZ.a {q n t i : Int32} (e : q = 0) (h : t.toInt = 2 * n.toInt - 2 * i.toInt) : FZ q n t i := Or.inl ⟨e, h⟩
theorem FZ.b {q n t i : Int32} (e : ¬ q = 0) (h0 : 0 ≤ i.toInt) (h : t.toInt = 2 * n.toInt - 2 * i.toInt) : FZ q n t i := Or.inr ⟨e, Or.inl ⟨h0, h⟩⟩
theorem FZ.c {q n t i : Int32} (e : ¬ q = 0) (h0 : i.toInt = -1) (h : t.toInt = 2 * n.toInt + 1) : FZ q n t i := Or.inr ⟨e, Or.inr ⟨h0, h⟩⟩
theorem FZ.e0 {q n t i : Int32} (h : FZ q n t i) (e : q = 0) (hi : i.toInt = -1) : t.toInt = 2 * n.toInt + 2 := by
  rcases h with ⟨-, h⟩ | ⟨h1, -⟩
  · omega
  · exact absurd e h1
theorem FZ.e1 {q n t i : Int32} (h : FZ q n t i) (e : ¬ q = 0) (hi : i.toInt = -1) : t.toInt = 2 * n.toInt + 1 := by
  rcases h with ⟨h1, -⟩ | ⟨-, ⟨h1, -⟩ | ⟨-, h⟩⟩
  · exact absurd h1 e
  · omega
  · exact h
theorem MKZ.sn {g : Nat → Int32} {z : ZT} {mm v w : Int32} (h : MKZ g z mm) (hm : bi mm 0 8) : snA mm (g (Int32.toNatClampNeg (10 * v + 1))) (g (Int32.toNatClampNeg (10 * v + 0))) v w = snA mm (z 4 (cN v)) (z 5 (cN v)) v w := by
  by_cases e : wi v 0 (mm - 1) = 0
  · unfold snA; rw [if_pos e, if_pos e]
  · have k0 : (0 : Int32).toInt = 0 := by decide
    have k1 : (1 : Int32).toInt = 1 := by decide
    have u0 := ti_wi1 e
    have u1 := ti_m1 (i := mm) (by omega)
    have u2 := ix10 (m := v) (w := 1) (by omega) (by decide)
    have u3 := ix10 (m := v) (w := 0) (by omega) (by decide)
    have c1 := cZ (i := v) (by omega)
    have c2 := cZ (i := 10 * v + 1) (by omega)
    have c3 := cZ (i := 10 * v + 0) (by omega)
    have q := h (cN v) (by omega)
    rw [show Int32.toNatClampNeg (10 * v + 1) = 10 * cN v + 1 by show cN (10 * v + 1) = _; omega, show Int32.toNatClampNeg (10 * v + 0) = 10 * cN v by show cN (10 * v + 0) = _; omega, q.1, q.2]
/-- the class's answer -/
theorem sn_P {mc n q i c mb fb fl9 r : Int32} (hy : ¬ wi i 0 (mc - 1) = 0) (hm : mb = n ∧ fb = n ∧ ((q = 0 ∧ fl9 = 2 * n + 3) ∨ (q = 1 ∧ fl9 = 2 * n + 1))) (h : (wi c 0 (lb mb) = 0 ∧ r = -1) ∨ (¬ wi c 0 (lb mb) = 0 ∧ r = fl9)) : r = snA mc n q i c := by
  unfold snA
  rw [if_neg hy, ← hm.1]
  rcases h with ⟨h1, h2⟩ | ⟨h1, h2⟩
  · rw [if_pos h1]; exact h2
  · rw [if_neg h1, h2, hm.1]
    rcases hm.2.2 with ⟨e1, e2⟩ | ⟨e1, e2⟩
    · rw [e1, if_neg (by decide), if_pos rfl]; exact e2
    · rw [e1, if_neg (by decide), if_neg (by decide)]; exact e2
theorem sn_H {mc n q i c mb fb r : Int32} (hy : ¬ wi i 0 (mc - 1) = 0) (hm : mb = n ∧ fb = n ∧ q = 2) (h : (wi c 0 (lb mb) = 0 ∧ r = -1) ∨ (¬ wi c 0 (lb mb) = 0 ∧ r = nI (nHT (cN fb) c))) : r = snA mc n q i c := by
  unfold snA
  rw [if_neg hy, ← hm.1]
  rcases h with ⟨h1, h2⟩ | ⟨h1, h2⟩
  · rw [if_pos h1]; exact h2
  · rw [if_neg h1, hm.2.2, if_pos rfl, h2, hm.2.1, hm.1]
theorem fl_bi {n q mb fb fl9 : Int32} (hf : bi fb 1 24) (hm : mb = n ∧ fb = n ∧ ((q = 0 ∧ fl9 = 2 * n + 3) ∨ (q = 1 ∧ fl9 = 2 * n + 1))) : bi fl9 0 51 := by
  have hn : bi n 1 24 := hm.2.1 ▸ hf
  rcases hm.2.2 with ⟨-, e⟩ | ⟨-, e⟩
  · have := u_2k hn (k := 3) 3 (by decide) (by decide)
    rw [e]; omega
  · have := u_2k hn (k := 1) 1 (by decide) (by decide)
    rw [e]; omega
theorem li_f {n : Nat} {c a h f t : Int32} (q : LI n c a h f t) : f.toInt < h.toInt := by
  obtain ⟨q1, q2, q3, q4⟩ := q
  have c1 := cZ (i := f) (by omega)
  have c2 := cZ (i := h) (by omega)
  have := q4.1
  omega
theorem hl_e {n : Nat} {c q i t : Int32} (e : cN q = nHZ n c) (hi : i = q + 1) (h : t.toInt = nHC n c (cN i - 1)) (hq : bi q 0 99) : t.toInt = nHT n c := by
  have u := k1_up (i := q) (by omega)
  rw [hi, u.2, Nat.add_sub_cancel, e] at h
  exact h
