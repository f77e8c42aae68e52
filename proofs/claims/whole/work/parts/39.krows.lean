/-! the class: rows of types, purely -/
def s1C (N : Nat → Nat) (r t : Nat) : Nat → Nat := if N r = 3 ∨ N r = 5 then (if r + 1 < 10 then va_up (va_up N r t) (r + 1) 0 else va_up N r t) else if N r = 4 ∨ N r = 6 then (if 0 < r then va_up (va_up N r t) (r - 1) 0 else va_up N r t) else va_up N r t
def stC (N : Nat → Nat) (r w t : Nat) : Nat → Nat := if w = 2 then s1C (s1C N r t) (r + 1) (if t = 0 then 0 else t + 1) else s1C N r t
theorem s1C_v {N : Nat → Nat} {r t j : Nat} (h : WP N) (hr : r < 10) : s1C N r t j = if j = r then t else if (N r = 3 ∨ N r = 5) ∧ j = r + 1 then 0 else if (N r = 4 ∨ N r = 6) ∧ j + 1 = r then 0 else N j := by
  obtain ⟨a1, a2, a3⟩ := h r hr
  unfold s1C
  by_cases c1 : N r = 3 ∨ N r = 5
  · rw [if_pos c1, if_pos (a2 c1).1]
    have c2 : ¬ (N r = 4 ∨ N r = 6) := by omega
    by_cases e1 : j = r
    · subst e1
      simp [va_up]
    · by_cases e2 : j = r + 1
      · subst e2
        simp [va_up, c1]
      · simp [va_up, e1, e2, c2]
  · rw [if_neg c1]
    by_cases c2 : N r = 4 ∨ N r = 6
    · rw [if_pos c2, if_pos (by have := (a3 c2).1; omega)]
      have h1 := (a3 c2).1
      by_cases e1 : j = r
      · subst e1
        have e3 : ¬ j = j - 1 := by omega
        simp [va_up, e3]
      · by_cases e2 : j + 1 = r
        · have e3 : j = r - 1 := by omega
          have e4 : ¬ r - 1 = r := by omega
          have e5 : r - 1 + 1 = r := by omega
          simp [va_up, e3, c1, c2, e4, e5]
        · have e3 : ¬ j = r - 1 := by omega
          simp [va_up, e1, e3, e2, c1]
    · rw [if_neg c2]
      by_cases e1 : j = r
      · simp [va_up, e1]
      · simp [va_up, e1, c1, c2]
theorem s1C_e {N : Nat → Nat} {r t : Nat} (h : WP N) (hr : r < 10) : s1C N r t = va_up (lsn N r) r t := by
  funext j
  obtain ⟨a1, a2, a3⟩ := h r hr
  rw [s1C_v h hr]
  by_cases e1 : j = r
  · simp [va_up, e1]
  · have e2 : va_up (lsn N r) r t j = lsn N r j := by simp [va_up, e1]
    rw [e2, lsn_v, if_neg e1]
    by_cases c1 : (N r = 3 ∨ N r = 5) ∧ j = r + 1
    · rw [if_pos c1, if_pos (by omega)]
    · rw [if_neg c1]
      by_cases c2 : (N r = 4 ∨ N r = 6) ∧ j + 1 = r
      · rw [if_pos c2, if_pos (by omega)]
      · rw [if_neg c2, if_neg]
        rintro (q | q | ⟨q1, q2, q3⟩)
        · exact e1 q
        · exact c1 q
        · have := a3 (by omega)
          exact c2 ⟨by omega, by omega⟩
theorem fsO_tt {t : Nat} (h1 : 1 ≤ t) (h4 : t ≤ 4) : fsO t = tt t ∧ wdc (tt t) = wdt t ∧ tt t ≠ 0 ∧ (wdt t = 2 ↔ (t = 2 ∨ t = 4)) := by
  rcases (by omega : t = 1 ∨ t = 2 ∨ t = 3 ∨ t = 4) with rfl | rfl | rfl | rfl <;> decide
/-- a pair's registers are set one after another -/
theorem s2C_e {N : Nat → Nat} {r a b : Nat} (h : WP N) (hr : r + 1 < 10) : s1C (s1C N r a) (r + 1) b = va_up (va_up (lsn (lsn N r) (r + 1)) r a) (r + 1) b := by
  have h0 : r < 10 := by omega
  obtain ⟨a1, a2, a3⟩ := h r h0
  obtain ⟨b1, b2, b3⟩ := h (r + 1) hr
  have hL := lsn_WP h h0
  have v1 : s1C N r a (r + 1) = lsn N r (r + 1) := by
    rw [s1C_e h h0]
    simp [va_up]
  have n46 : ¬ (lsn N r (r + 1) = 4 ∨ lsn N r (r + 1) = 6) := by
    intro q
    have := (hL (r + 1) hr).2.2 q
    have e : lsn N r (r + 1 - 1) = 0 := by
      rw [lsn_v, if_pos (Or.inl (by omega))]
    omega
  have key : ∀ j, s1C (s1C N r a) (r + 1) b j = if j = r + 1 then b else if j = r then a else if (lsn N r (r + 1) = 3 ∨ lsn N r (r + 1) = 5) ∧ j = r + 2 then 0 else lsn N r j := by
    intro j
    unfold s1C
    rw [show (if N r = 3 ∨ N r = 5 then (if r + 1 < 10 then va_up (va_up N r a) (r + 1) 0 else va_up N r a) else if N r = 4 ∨ N r = 6 then (if 0 < r then va_up (va_up N r a) (r - 1) 0 else va_up N r a) else va_up N r a) = s1C N r a from rfl, v1, if_neg n46, s1C_e h h0]
    by_cases c1 : lsn N r (r + 1) = 3 ∨ lsn N r (r + 1) = 5
    · rw [if_pos c1, if_pos ((hL (r + 1) hr).2.1 c1).1]
      by_cases e1 : j = r + 1
      · subst e1
        simp [va_up]
      · by_cases e2 : j = r
        · subst e2
          have e3 : ¬ j = j + 1 + 1 := by omega
          simp [va_up, e3]
        · by_cases e3 : j = r + 2
          · subst e3
            simp [va_up, c1]
          · simp [va_up, e1, e2, e3]
    · rw [if_neg c1]
      by_cases e1 : j = r + 1
      · subst e1
        simp [va_up]
      · by_cases e2 : j = r
        · subst e2
          simp [va_up]
        · simp [va_up, e1, e2, c1]
  funext j
  rw [key]
  by_cases e1 : j = r + 1
  · subst e1
    simp [va_up]
  · by_cases e2 : j = r
    · subst e2
      simp [va_up]
    · have e4 : va_up (va_up (lsn (lsn N r) (r + 1)) r a) (r + 1) b j = lsn (lsn N r) (r + 1) j := by simp [va_up, e1, e2]
      rw [e4, if_neg e1, if_neg e2, lsn_v (N := lsn N r) (r := r + 1)]
      by_cases c1 : (lsn N r (r + 1) = 3 ∨ lsn N r (r + 1) = 5) ∧ j = r + 2
      · rw [if_pos c1, if_pos (Or.inr (Or.inl ⟨c1.1, c1.2⟩))]
      · rw [if_neg c1, if_neg]
        rintro (q | q | ⟨q1, q2, q3⟩)
        · exact e1 q
        · exact c1 ⟨q.1, q.2⟩
        · exact e2 (by omega)
theorem up0 {N : Nat → Nat} {r : Nat} (h : N r = 0) : va_up N r 0 = N := by
  funext j
  unfold va_up
  split
  · rename_i q
    rw [q, h]
  · rfl
/-- both sides set alike -/
theorem stC_e {N : Nat → Nat} {r t : Nat} (h : WP N) (h1 : 1 ≤ t) (h4 : t ≤ 4) (hr : r + wdt t ≤ 10) : stC N r (wdt t) (tt t) = stT N r t := by
  obtain ⟨e1, -, e3, e4⟩ := fsO_tt h1 h4
  unfold stC stT stN
  by_cases c : wdt t = 2
  · rw [if_pos c, decide_eq_true (e4.mp c), if_pos rfl, if_neg (show ¬ t = 0 by omega), if_neg e3, s2C_e h (by omega), e1]
  · have : 1 ≤ wdt t := by unfold wdt; split <;> decide
    rw [if_neg c, decide_eq_false (fun q => c (e4.mpr q)), if_neg (by decide), if_neg (by omega), s1C_e h (by omega), e1]
theorem stC_0 {N : Nat → Nat} {r w : Nat} (h : WP N) (hw : w = 1 ∨ w = 2) (hr : r + w ≤ 10) : stC N r w 0 = stN N r 0 (decide (w = 2)) := by
  unfold stC stN
  rcases hw with rfl | rfl
  · rw [if_neg (by decide), s1C_e h (by omega), up0 lsn_0]
    rfl
  · rw [if_pos rfl, s2C_e h (by omega)]
    have q1 : va_up (lsn (lsn N r) (r + 1)) r 0 = lsn (lsn N r) (r + 1) := by
      refine up0 ?_
      rw [lsn_v]
      split
      · rfl
      · exact lsn_0
    rw [show (if (0 : Nat) = 0 then 0 else 0 + 1) = 0 from rfl, q1, up0 lsn_0]
    rfl
/-- the row behind an instruction, as the class finds it -/
def poC (row : Nat → Nat) (x y r f : Nat) : Nat → Nat := if x = 0 then row else stC row r (wdc x) (if x = 7 ∨ x = 8 then (if hsC (tyO row (nI f)) y = true then tyO row (nI f) else 0) else x)
def inC (row : Nat → Nat) (y f : Nat) (g : Option Nat) : Bool := decide (y = 0) || (hsC (tyO row (nI f)) y && (match g with | none => true | some j => hsC (tyO row (nI j)) y))
theorem hs_t {row : Nat → Nat} {r t : Nat} (h : WP row) (hr : r < 10) (h1 : 1 ≤ t) (h4 : t ≤ 4) : hsC (row r) (tt t) = isT row r t := by
  obtain ⟨e1, -, e3, e4⟩ := fsO_tt h1 h4
  obtain ⟨a1, a2, a3⟩ := h r hr
  unfold isT
  rw [e1]
  have : hsC (row r) (tt t) = decide (row r = tt t) := by
    rcases (by omega : t = 1 ∨ t = 2 ∨ t = 3 ∨ t = 4) with rfl | rfl | rfl | rfl <;> rfl
  rw [this]
  by_cases c : row r = tt t
  · rw [decide_eq_true c, Bool.true_and]
    by_cases d : tt t < 3
    · rw [decide_eq_true d]; rfl
    · have d5 : tt t = 3 ∨ tt t = 5 := by
        rcases (by omega : t = 1 ∨ t = 2 ∨ t = 3 ∨ t = 4) with rfl | rfl | rfl | rfl <;> revert d <;> decide
      rw [decide_eq_false d, Bool.false_or]
      exact (decide_eq_true (by rw [(a2 (by omega)).2, c])).symm
  · rw [decide_eq_false c, Bool.false_and]


theorem g2_cvt : ∀ op, op < 256 → cvt op = true → kdO op = 4 ∧ stO op = tt (gvO op) ∧ usO op = tt (tkO op) := by decide +kernel
theorem g2_jns : ∀ op, op < 256 → jns op = true → kdO op = 9 ∧ stO op = tt (jnO op) ∧ usO op = tt (jnO op) ∧ cvt op = false := by decide +kernel
theorem g2_cps : ∀ op, op < 256 → cps op = true → kdO op = 9 ∧ stO op = tt 1 ∧ usO op = tt (cpO op) ∧ cvt op = false ∧ jns op = false := by decide +kernel
theorem g2_50 : ∀ op, op < 256 → 50 ≤ op ∧ op ≤ 61 → cvt op = false ∧ jns op = false ∧ cps op = false ∧ stO op = 0 ∧ usO op = tt 1 ∧ (op ≤ 55 → kdO op = 10) ∧ (¬ op ≤ 55 → kdO op = 11) := by decide +kernel
theorem po_t {row : Nat → Nat} {t y r f : Nat} (h : WP row) (h1 : 1 ≤ t) (h4 : t ≤ 4) (hr : r + wdt t ≤ 10) : poC row (tt t) y r f = stT row r t := by
  obtain ⟨e1, e2, e3, e4⟩ := fsO_tt h1 h4
  unfold poC
  have e7 : ¬ (tt t = 7 ∨ tt t = 8) := by
    have := tt_b t h4
    omega
  rw [if_neg e3, if_neg e7, e2, stC_e h h1 h4 hr]
theorem in_1 {row : Nat → Nat} {t f : Nat} (h : WP row) (h1 : 1 ≤ t) (h4 : t ≤ 4) (hf : f + wdt t ≤ 10) : inC row (tt t) f none = isT row f t := by
  have : 1 ≤ wdt t := by unfold wdt; split <;> decide
  unfold inC
  rw [decide_eq_false (fsO_tt h1 h4).2.2.1, Bool.false_or, tyO_N (by omega), hs_t h (by omega) h1 h4]
  exact Bool.and_true _
theorem in_2 {row : Nat → Nat} {t f j : Nat} (h : WP row) (h1 : 1 ≤ t) (h4 : t ≤ 4) (hf : f + wdt t ≤ 10) (hj : j + wdt t ≤ 10) : inC row (tt t) f (some j) = (isT row f t && isT row j t) := by
  have : 1 ≤ wdt t := by unfold wdt; split <;> decide
  unfold inC
  rw [decide_eq_false (fsO_tt h1 h4).2.2.1, Bool.false_or, tyO_N (by omega), hs_t h (by omega) h1 h4]
  show (_ && hsC (tyO row (nI j)) (tt t)) = _
  rw [tyO_N (by omega), hs_t h (by omega) h1 h4]
theorem isT_1 {row : Nat → Nat} {r : Nat} : isT row r 1 = decide (row r = 1) := by
  unfold isT
  show (decide (row r = 1) && (true || _)) = _
  simp
theorem isT_3 {row : Nat → Nat} {r : Nat} : isT row r 3 = decide (row r = 2) := by
  unfold isT
  show (decide (row r = 2) && (true || _)) = _
  simp
theorem isT_2 {row : Nat → Nat} {r : Nat} (h : WP row) (hr : r < 10) : isT row r 2 = decide (row r = 3) := by rw [← hs_t h hr (by decide) (by decide)]; rfl
theorem isT_4 {row : Nat → Nat} {r : Nat} (h : WP row) (hr : r < 10) : isT row r 4 = decide (row r = 5) := by rw [← hs_t h hr (by decide) (by decide)]; rfl
/-- a copy of one register -/
theorem po_1 {row : Nat → Nat} {r f : Nat} (h : WP row) (hr : r < 10) (hf : f < 10) : poC row 7 7 r f = stT row r (if isT row f 1 = true then 1 else if isT row f 3 = true then 3 else 0) ∧ inC row 7 f none = (isT row f 1 || isT row f 3) := by
  have e : ∀ t, (if hsC t 7 = true then t else 0) = if t = 1 then 1 else if t = 2 then 2 else 0 := fun t => by
    show (if decide (t = 1 ∨ t = 2) = true then t else 0) = _
    by_cases c : t = 1
    · subst c; rfl
    · by_cases d : t = 2
      · subst d; rfl
      · rw [if_neg (by simp; omega), if_neg c, if_neg d]
  constructor
  · show stC row r (wdc 7) (if 7 = 7 ∨ 7 = 8 then (if hsC (tyO row (nI f)) 7 = true then tyO row (nI f) else 0) else 7) = _
    rw [if_pos (by decide), tyO_N hf, e, isT_1, isT_3]
    by_cases c : row f = 1
    · rw [if_pos c, decide_eq_true c, if_pos rfl]
      exact stC_e (t := 1) h (by decide) (by decide) (show r + 1 ≤ 10 by omega)
    · rw [if_neg c, decide_eq_false c, if_neg Bool.false_ne_true]
      by_cases d : row f = 2
      · rw [if_pos d, decide_eq_true d, if_pos rfl]
        exact stC_e (t := 3) h (by decide) (by decide) (show r + 1 ≤ 10 by omega)
      · rw [if_neg d, decide_eq_false d, if_neg Bool.false_ne_true]
        exact stC_0 h (Or.inl rfl) (show r + 1 ≤ 10 by omega)
  · show (false || (hsC (tyO row (nI f)) 7 && true)) = _
    rw [Bool.false_or, Bool.and_true, tyO_N hf, isT_1, isT_3]
    show decide (row f = 1 ∨ row f = 2) = _
    rw [Bool.decide_or]
/-- a copy of a pair -/
theorem po_4 {row : Nat → Nat} {r f : Nat} (h : WP row) (hr : r + 2 ≤ 10) (hf : f + 2 ≤ 10) : poC row 8 8 r f = stN row r (if isT row f 2 = true then 2 else if isT row f 4 = true then 4 else 0) true ∧ inC row 8 f none = (isT row f 2 || isT row f 4) := by
  have e : ∀ t, (if hsC t 8 = true then t else 0) = if t = 3 then 3 else if t = 5 then 5 else 0 := fun t => by
    show (if decide (t = 3 ∨ t = 5) = true then t else 0) = _
    by_cases c : t = 3
    · subst c; rfl
    · by_cases d : t = 5
      · subst d; rfl
      · rw [if_neg (by simp; omega), if_neg c, if_neg d]
  constructor
  · show stC row r (wdc 8) (if 8 = 7 ∨ 8 = 8 then (if hsC (tyO row (nI f)) 8 = true then tyO row (nI f) else 0) else 8) = _
    rw [if_pos (by decide), tyO_N (by omega), e, isT_2 h (by omega), isT_4 h (by omega)]
    by_cases c : row f = 3
    · rw [if_pos c, decide_eq_true c, if_pos rfl]
      exact stC_e (t := 2) h (by decide) (by decide) hr
    · rw [if_neg c, decide_eq_false c, if_neg Bool.false_ne_true]
      by_cases d : row f = 5
      · rw [if_pos d, decide_eq_true d, if_pos rfl]
        exact stC_e (t := 4) h (by decide) (by decide) hr
      · rw [if_neg d, decide_eq_false d, if_neg Bool.false_ne_true]
        exact stC_0 h (Or.inr rfl) hr
  · show (false || (hsC (tyO row (nI f)) 8 && true)) = _
    rw [Bool.false_or, Bool.and_true, tyO_N (by omega), isT_2 h (by omega), isT_4 h (by omega)]
    show decide (row f = 3 ∨ row f = 5) = _
    rw [Bool.decide_or]
/-- both sides find the same row behind an instruction, and the same right to it -/
theorem io_e {F : Nat → Nat → Nat} (hW : FW F) {m u : Nat} (hc : cpl F m u = true) (hn : nmOK F m u = true) (hk : kOK F m u (pbG (bgF F m) u) = true) {row : Nat → Nat} (hP : WP row) {op : Nat} (hop : op = opS (F 7 (40 * m + u))) : poC row (stG F m u) (usG F m u) (dRes op (F 7 (40 * m + u))) (dFst op (F 7 (40 * m + u)) (uA F m (u + 1))) = insN F m u (pbG (bgF F m) u) row ∧ (op ≠ 113 → inC row (usG F m u) (dFst op (F 7 (40 * m + u)) (uA F m (u + 1))) (dsN op (F 7 (40 * m + u)) (uA F m (u + 1))) = insG F m u row) := by
  have hc' := hc
  unfold cpl at hc'
  simp only [decide_eq_true_eq] at hc'
  rw [← hop] at hc'
  have h256 : op < 256 := hop ▸ opS_lt _
  have hw1 : 2 ≤ szO op → uA F m (u + 1) = F 7 (40 * m + (u + 1)) := fun q => uA_e (by omega)
  have hnm : nmW F m u (F 7 (40 * m + u)) (F 7 (40 * m + (u + 1))) op = true := by
    unfold nmOK at hn
    rwa [← hop] at hn
  have h5 := hW.2.2.2.2.2.1 m
  have hret := fun h => ret_ok (bf := pbG (bgF F m) u) hn hk (by rw [← hop]; exact h)
  have hres := fun h => res_ok (bf := pbG (bgF F m) u) hn hk (by rw [← hop]; exact h)
  have h2m := hW.2.2.1
  have hu : usG F m u = if kdO op = 3 then tt (F 2 m) else usO op := by unfold usG usD; rw [← hop]
  have hs : stG F m u = if kdO op = 5 then rbC F m (pbG (bgF F m) u) else stO op := by unfold stG stD; rw [← hop]
  unfold insN insG
  rw [hu, hs, ← hop]
  have hr1 : ∀ q, pbG (bgF F m) u = some q → opS (F 7 (40 * m + q)) = 113 → F 7 (40 * m + (q + 1)) < F 0 0 → rbC F m (pbG (bgF F m) u) = tt (F 2 (F 7 (40 * m + (q + 1)))) := fun q e1 e2 e3 => by
    rw [e1]
    show (if kdO (opS (F 7 (40 * m + q))) = 14 then (if F 7 (40 * m + (q + 1)) < F 0 0 then tt (F 2 (F 7 (40 * m + (q + 1)))) else 0) else 0) = _
    rw [if_pos ((kdO_14 _ (opS_lt _)).mpr e2), if_pos e3]
  clear hu hs hc hn hk
  rcases g_all op h256 (by omega) with h | h | h | h | h | h
  · obtain ⟨a, b, c⟩ := g2_cvt op h256 h
    rw [nmW_0 h] at hnm
    simp only [Bool.and_eq_true, hsR, decide_eq_true_eq] at hnm
    have gb := gvO_b op
    have tb := tkO_b op
    rw [if_neg (show ¬ kdO op = 5 by omega), if_neg (show ¬ kdO op = 3 by omega), b, c]
    refine ⟨?_, fun _ => ?_⟩
    · rw [po_t hP gb.1 gb.2 (by unfold dRes; rw [a]; exact Nat.le_trans hnm.1 h5)]
      unfold psN dRes
      rw [if_pos h, a]
      rfl
    · have e : dsN op (F 7 (40 * m + u)) (uA F m (u + 1)) = none := by unfold dsN; rw [a]; rfl
      have e2 : dFst op (F 7 (40 * m + u)) (uA F m (u + 1)) = opB (F 7 (40 * m + u)) := by unfold dFst; rw [a]; rfl
      rw [e, e2, in_1 hP tb.1 tb.2 (Nat.le_trans hnm.2 h5)]
      unfold psG
      rw [if_pos h]
  · obtain ⟨a, b, c, d⟩ := g2_jns op h256 h
    rw [nmW_1 d h] at hnm
    simp only [Bool.and_eq_true, hsR, decide_eq_true_eq] at hnm
    have jb := jnO_b op
    have hs2 : 2 ≤ szO op := sz_2 (Or.inl h)
    rw [if_neg (show ¬ kdO op = 5 by omega), if_neg (show ¬ kdO op = 3 by omega), b, c, hw1 hs2]
    refine ⟨?_, fun _ => ?_⟩
    · rw [po_t hP jb.1 jb.2 (by unfold dRes; rw [a]; exact Nat.le_trans hnm.1.1 h5)]
      unfold psN dRes
      rw [if_neg (show ¬ cvt op = true by rw [d]; decide), if_pos h, a]
      rfl
    · have e : dsN op (F 7 (40 * m + u)) (F 7 (40 * m + (u + 1))) = some (opN (F 7 (40 * m + (u + 1)))) := by unfold dsN; rw [a]; rfl
      have e2 : dFst op (F 7 (40 * m + u)) (F 7 (40 * m + (u + 1))) = opS (F 7 (40 * m + (u + 1))) := by unfold dFst; rw [a]; rfl
      rw [e, e2, in_2 hP jb.1 jb.2 (Nat.le_trans hnm.1.2 h5) (Nat.le_trans hnm.2 h5)]
      unfold psG
      rw [if_neg (show ¬ cvt op = true by rw [d]; decide), if_pos h]
  · obtain ⟨a, b, c, d, d2⟩ := g2_cps op h256 h
    rw [nmW_2 d d2 h] at hnm
    simp only [Bool.and_eq_true, hsR, decide_eq_true_eq] at hnm
    have jb := cpO_b op
    have hs2 : 2 ≤ szO op := sz_2 (Or.inr (Or.inl h))
    rw [if_neg (show ¬ kdO op = 5 by omega), if_neg (show ¬ kdO op = 3 by omega), b, c, hw1 hs2]
    refine ⟨?_, fun _ => ?_⟩
    · rw [po_t hP (by decide) (by decide) (by unfold dRes; rw [a]; exact Nat.le_trans hnm.1.1 h5)]
      unfold psN dRes
      rw [if_neg (show ¬ cvt op = true by rw [d]; decide), if_neg (show ¬ jns op = true by rw [d2]; decide), if_pos h, a]
      rfl
    · have e : dsN op (F 7 (40 * m + u)) (F 7 (40 * m + (u + 1))) = some (opN (F 7 (40 * m + (u + 1)))) := by unfold dsN; rw [a]; rfl
      have e2 : dFst op (F 7 (40 * m + u)) (F 7 (40 * m + (u + 1))) = opS (F 7 (40 * m + (u + 1))) := by unfold dFst; rw [a]; rfl
      rw [e, e2, in_2 hP jb.1 jb.2 (Nat.le_trans hnm.1.2 h5) (Nat.le_trans hnm.2 h5)]
      unfold psG
      rw [if_neg (show ¬ cvt op = true by rw [d]; decide), if_neg (show ¬ jns op = true by rw [d2]; decide), if_pos h]
  · obtain ⟨a, b, c, d, e, f, -⟩ := g2_50 op h256 (by omega)
    have f := f h.2
    rw [nmW_3 h.1 h.2] at hnm
    simp only [Bool.and_eq_true, hsR, decide_eq_true_eq] at hnm
    rw [if_neg (show ¬ kdO op = 5 by omega), if_neg (show ¬ kdO op = 3 by omega), d, e]
    refine ⟨?_, fun _ => ?_⟩
    · unfold psN
      rw [if_neg (show ¬ cvt op = true by rw [a]; decide), if_neg (show ¬ jns op = true by rw [b]; decide), if_neg (show ¬ cps op = true by rw [c]; decide), if_pos h]
      rfl
    · have e1 : dsN op (F 7 (40 * m + u)) (uA F m (u + 1)) = some (opB (F 7 (40 * m + u))) := by unfold dsN; rw [f]; rfl
      have e2 : dFst op (F 7 (40 * m + u)) (uA F m (u + 1)) = opA (F 7 (40 * m + u)) := by unfold dFst; rw [f]; rfl
      rw [e1, e2, in_2 hP (by decide) (by decide) (Nat.le_trans hnm.1 h5) (Nat.le_trans hnm.2 h5)]
      unfold psG
      rw [if_neg (show ¬ cvt op = true by rw [a]; decide), if_neg (show ¬ jns op = true by rw [b]; decide), if_neg (show ¬ cps op = true by rw [c]; decide), if_pos h]
  · obtain ⟨a, b, c, d, e, -, f⟩ := g2_50 op h256 (by omega)
    have f := f (by omega)
    rw [nmW_4 h.1 h.2] at hnm
    simp only [hsR, decide_eq_true_eq] at hnm
    rw [if_neg (show ¬ kdO op = 5 by omega), if_neg (show ¬ kdO op = 3 by omega), d, e]
    refine ⟨?_, fun _ => ?_⟩
    · unfold psN
      rw [if_neg (show ¬ cvt op = true by rw [a]; decide), if_neg (show ¬ jns op = true by rw [b]; decide), if_neg (show ¬ cps op = true by rw [c]; decide), if_neg (show ¬ (50 ≤ op ∧ op ≤ 55) by omega), if_pos (Or.inl h)]
      rfl
    · have e1 : dsN op (F 7 (40 * m + u)) (uA F m (u + 1)) = none := by unfold dsN; rw [f]; rfl
      have e2 : dFst op (F 7 (40 * m + u)) (uA F m (u + 1)) = opN (F 7 (40 * m + u)) := by unfold dFst; rw [f]; rfl
      rw [e1, e2, in_1 hP (by decide) (by decide) (Nat.le_trans hnm h5)]
      unfold psG
      rw [if_neg (show ¬ cvt op = true by rw [a]; decide), if_neg (show ¬ jns op = true by rw [b]; decide), if_neg (show ¬ cps op = true by rw [c]; decide), if_neg (show ¬ (50 ≤ op ∧ op ≤ 55) by omega), if_pos (Or.inl h)]
  · rcases h with rfl | rfl | rfl | rfl | rfl | rfl | rfl | rfl | rfl | rfl | rfl | rfl | rfl | rfl | rfl
    · exact ⟨rfl, fun _ => rfl⟩
    · rw [nmW_5 (by decide)] at hnm
      simp only [Bool.and_eq_true, hsR, decide_eq_true_eq] at hnm
      have w1 : wdt 1 = 1 := rfl
      obtain ⟨q1, q2⟩ := po_1 (r := opA (F 7 (40 * m + u))) (f := opB (F 7 (40 * m + u))) hP (by omega) (by omega)
      exact ⟨q1, fun _ => q2⟩
    · rw [nmW_6 (by decide)] at hnm
      simp only [Bool.and_eq_true, hsR, decide_eq_true_eq] at hnm
      have w1 : wdt 2 = 2 := rfl
      obtain ⟨q1, q2⟩ := po_4 (r := opA (F 7 (40 * m + u))) (f := opB (F 7 (40 * m + u))) hP (by omega) (by omega)
      exact ⟨q1, fun _ => q2⟩
    · obtain ⟨q, e1, e2, e3, e4, e5⟩ := hres (by decide)
      refine ⟨?_, fun _ => rfl⟩
      show poC row (rbC F m (pbG (bgF F m) u)) 0 (opN (F 7 (40 * m + u))) (opN (F 7 (40 * m + u))) = stT row (opN (F 7 (40 * m + u))) (F 2 (cbF F m (pbG (bgF F m) u)))
      rw [hr1 q e1 e5 e2, po_t hP (by omega) (h2m _) (Nat.le_trans e4 h5), e1]
      rfl
    · obtain ⟨q, e1, e2, e3, e4, e5⟩ := hres (by decide)
      refine ⟨?_, fun _ => rfl⟩
      show poC row (rbC F m (pbG (bgF F m) u)) 0 (opN (F 7 (40 * m + u))) (opN (F 7 (40 * m + u))) = stT row (opN (F 7 (40 * m + u))) (F 2 (cbF F m (pbG (bgF F m) u)))
      rw [hr1 q e1 e5 e2, po_t hP (by omega) (h2m _) (Nat.le_trans e4 h5), e1]
      rfl
    · exact ⟨rfl, fun _ => rfl⟩
    · obtain ⟨q1, q2⟩ := hret (by decide)
      refine ⟨rfl, fun _ => ?_⟩
      show inC row (tt (F 2 m)) (opN (F 7 (40 * m + u))) none = isT row (opN (F 7 (40 * m + u))) (F 2 m)
      exact in_1 hP q1 (h2m m) (Nat.le_trans q2 h5)
    · obtain ⟨q1, q2⟩ := hret (by decide)
      refine ⟨rfl, fun _ => ?_⟩
      show inC row (tt (F 2 m)) (opN (F 7 (40 * m + u))) none = isT row (opN (F 7 (40 * m + u))) (F 2 m)
      exact in_1 hP q1 (h2m m) (Nat.le_trans q2 h5)
    · rw [nmW_9 (by decide)] at hnm
      simp only [hsR, decide_eq_true_eq] at hnm
      exact ⟨po_t (t := 1) hP (by decide) (by decide) (Nat.le_trans hnm h5), fun _ => rfl⟩
    · rw [nmW_7 (by decide)] at hnm
      simp only [hsR, decide_eq_true_eq] at hnm
      exact ⟨po_t (t := 1) hP (by decide) (by decide) (Nat.le_trans hnm h5), fun _ => rfl⟩
    · rw [nmW_8 (by decide)] at hnm
      simp only [hsR, decide_eq_true_eq] at hnm
      exact ⟨po_t (t := 2) hP (by decide) (by decide) (Nat.le_trans hnm h5), fun _ => rfl⟩
    · exact ⟨rfl, fun _ => rfl⟩
    · rw [nmW_10 (by decide)] at hnm
      simp only [Bool.and_eq_true, hsR, decide_eq_true_eq] at hnm
      exact ⟨po_t (t := 1) hP (by decide) (by decide) (Nat.le_trans hnm.1 h5), fun _ => rfl⟩
    · rw [nmW_10 (by decide)] at hnm
      simp only [Bool.and_eq_true, hsR, decide_eq_true_eq] at hnm
      refine ⟨rfl, fun _ => ?_⟩
      show inC row (tt 1) (opN (F 7 (40 * m + u))) none = isT row (opN (F 7 (40 * m + u))) 1
      exact in_1 hP (by decide) (by decide) (Nat.le_trans hnm.1 h5)
    · exact ⟨rfl, fun h => absurd rfl h⟩

