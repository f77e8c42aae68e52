/-! the verifier's rows, purely -/
theorem lsn_le6 {N : Nat → Nat} (h : ∀ r, N r ≤ 6) {k : Nat} : ∀ r, lsn N k r ≤ 6 := fun r => by
  rw [lsn_v]
  have := h r
  split <;> omega
theorem stN_le6 {N : Nat → Nat} (h : ∀ r, N r ≤ 6) {k t : Nat} {pr : Bool} : ∀ r, stN N k t pr r ≤ 6 := fun r => by
  have a := lsn_le6 h (k := k) r
  have b := lsn_le6 (lsn_le6 h (k := k)) (k := k + 1) r
  have c := fsO_le t
  unfold stN
  repeat' split
  all_goals try simp only [va_up]
  all_goals repeat' split
  all_goals omega
theorem up1_WP {L : Nat → Nat} (h : WP L) {r t : Nat} (h0 : L r = 0) (ht : t ≤ 2) : WP (va_up L r t) := by
  intro j hj
  obtain ⟨b1, b2, b3⟩ := h j hj
  by_cases e : j = r
  · subst e
    simp only [va_up, if_true]
    refine ⟨by omega, fun q => by omega, fun q => by omega⟩
  · simp only [va_up, e, if_false]
    refine ⟨b1, fun q => ?_, fun q => ?_⟩
    · obtain ⟨c1, c2⟩ := b2 q
      refine ⟨c1, ?_⟩
      rw [if_neg]
      · exact c2
      · intro q2
        rw [q2, h0] at c2
        omega
    · obtain ⟨c1, c2⟩ := b3 q
      refine ⟨c1, ?_⟩
      rw [if_neg]
      · exact c2
      · intro q2
        rw [q2, h0] at c2
        omega
theorem up2_WP {L : Nat → Nat} (h : WP L) {r f : Nat} (h0 : L r = 0) (h1 : L (r + 1) = 0) (hr : r + 1 < 10) (hf : f = 3 ∨ f = 5) : WP (va_up (va_up L r f) (r + 1) (f + 1)) := by
  intro j hj
  obtain ⟨b1, b2, b3⟩ := h j hj
  by_cases e2 : j = r + 1
  · subst e2
    simp only [va_up, if_true]
    refine ⟨by omega, fun q => by omega, fun q => ⟨by omega, ?_⟩⟩
    rw [show r + 1 - 1 = r by omega, if_neg (by omega), if_pos rfl]
  · by_cases e : j = r
    · subst e
      simp only [va_up, e2, if_true, if_false]
      exact ⟨by omega, fun q => ⟨hr, trivial⟩, fun q => by omega⟩
    · simp only [va_up, e, e2, if_false]
      refine ⟨b1, fun q => ?_, fun q => ?_⟩
      · obtain ⟨c1, c2⟩ := b2 q
        refine ⟨c1, ?_⟩
        rw [if_neg (by omega), if_neg]
        · exact c2
        · intro q2
          rw [q2, h0] at c2
          omega
      · obtain ⟨c1, c2⟩ := b3 q
        refine ⟨c1, ?_⟩
        rw [if_neg, if_neg (by omega)]
        · exact c2
        · intro q2
          rw [q2, h1] at c2
          omega
theorem lsn_0 {N : Nat → Nat} {r : Nat} : lsn N r r = 0 := by rw [lsn_v, if_pos (Or.inl rfl)]
theorem stN_WP {N : Nat → Nat} (h : WP N) {r t : Nat} {pr : Bool} (ht : t ≤ 4) (hr : r < 10) (hp : pr = true → r + 1 < 10) (hq : t ≠ 0 → pr = decide (t = 2 ∨ t = 4)) : WP (stN N r t pr) := by
  have hL := lsn_WP h hr
  unfold stN
  split
  · rename_i hpr
    have hL2 := lsn_WP hL (hp hpr)
    split
    · exact hL2
    · rename_i h0
      have h2 := hq h0
      rw [hpr] at h2
      have h3 : t = 2 ∨ t = 4 := by simpa using h2.symm
      have e0 : lsn (lsn N r) (r + 1) r = 0 := by rw [lsn_v]; split; rfl; exact lsn_0
      exact up2_WP hL2 e0 lsn_0 (hp hpr) (by unfold fsO; rcases h3 with rfl | rfl <;> simp)
  · rename_i hpr
    split
    · exact hL
    · rename_i h0
      have h2 := hq h0
      have h3 : ¬ (t = 2 ∨ t = 4) := by intro q; rw [decide_eq_true q] at h2; exact hpr h2
      exact up1_WP hL lsn_0 (by unfold fsO; have : t = 1 ∨ t = 3 := by omega
                                rcases this with rfl | rfl <;> simp)
theorem stT_WP {N : Nat → Nat} (h : WP N) {r t : Nat} (ht : t ≤ 4) (hr : r + wdt t ≤ 10) : WP (stT N r t) := by
  unfold wdt at hr
  refine stN_WP h ht (by split at hr <;> omega) (fun q => ?_) (fun _ => rfl)
  rw [if_pos (by simpa using q)] at hr
  omega
theorem ite_P {c : Prop} [Decidable c] {a b : Nat → Nat} {P : (Nat → Nat) → Prop} (ha : P a) (hb : P b) : P (if c then a else b) := by
  by_cases h : c
  · rw [if_pos h]
    exact ha
  · rw [if_neg h]
    exact hb
theorem insN_cs {F : Nat → Nat → Nat} {m p : Nat} {bf : Option Nat} {row : Nat → Nat} (P : (Nat → Nat) → Prop) (h0 : P row) (h1 : ∀ a b c, P (stN row a b c)) : P (insN F m p bf row) := by
  have h2 : ∀ a b, P (stT row a b) := fun a b => h1 a b _
  exact ite_P (h2 _ _) (ite_P (h2 _ _) (ite_P (h2 _ _) (ite_P h0 (ite_P h0 (ite_P (h2 _ _) (ite_P (h1 _ _ _) (ite_P (h2 _ _) (ite_P (h2 _ _) (ite_P (h2 _ _) (ite_P (h2 _ _) h0))))))))))
theorem insN_le6 {F : Nat → Nat → Nat} {m p : Nat} {bf : Option Nat} {row : Nat → Nat} (h : ∀ r, row r ≤ 6) : ∀ r, insN F m p bf row r ≤ 6 :=
  insN_cs (fun N => ∀ r, N r ≤ 6) h fun _ _ _ => stN_le6 h
theorem nm_1 {F : Nat → Nat → Nat} {m p : Nat} (hn : nmOK F m p = true) (h : opS (F 7 (40 * m + p)) ∈ [1]) : opA (F 7 (40 * m + p)) + 1 ≤ F 5 m := by
  unfold nmOK at hn
  rw [nmW_5 h] at hn
  simp only [Bool.and_eq_true, hsR, decide_eq_true_eq, wdt] at hn
  simpa using hn.1
theorem nm_4 {F : Nat → Nat → Nat} {m p : Nat} (hn : nmOK F m p = true) (h : opS (F 7 (40 * m + p)) ∈ [4]) : opA (F 7 (40 * m + p)) + 2 ≤ F 5 m := by
  unfold nmOK at hn
  rw [nmW_6 h] at hn
  simp only [Bool.and_eq_true, hsR, decide_eq_true_eq, wdt] at hn
  simpa using hn.1
theorem nm_18 {F : Nat → Nat → Nat} {m p : Nat} (hn : nmOK F m p = true) (h : opS (F 7 (40 * m + p)) ∈ [18]) : opA (F 7 (40 * m + p)) + 1 ≤ F 5 m := by
  unfold nmOK at hn
  rw [nmW_9 h] at hn
  simp only [Bool.and_eq_true, hsR, decide_eq_true_eq, wdt] at hn
  simpa using hn
theorem insN_WP {F : Nat → Nat → Nat} (hW : FW F) {m p : Nat} {bf : Option Nat} {row : Nat → Nat} (hn : nmOK F m p = true) (hk : kOK F m p bf = true) (h : WP row) : WP (insN F m p bf row) := by
  have h5 := hW.2.2.2.2.2.1 m
  unfold insN psN
  split
  · rename_i c
    have q := hn
    unfold nmOK at q
    rw [nmW_0 c] at q
    simp only [Bool.and_eq_true, hsR, decide_eq_true_eq] at q
    exact stT_WP h (gvO_b _).2 (by omega)
  · rename_i c0
    split
    · rename_i c
      have q := hn
      unfold nmOK at q
      rw [nmW_1 (by simpa using c0) c] at q
      simp only [Bool.and_eq_true, hsR, decide_eq_true_eq] at q
      exact stT_WP h (jnO_b _).2 (by omega)
    · rename_i c1
      split
      · rename_i c
        have q := hn
        unfold nmOK at q
        rw [nmW_2 (by simpa using c0) (by simpa using c1) c] at q
        simp only [Bool.and_eq_true, hsR, decide_eq_true_eq] at q
        exact stT_WP h (by decide) (by omega)
      · split
        · exact h
        · split
          · exact h
          · unfold poN
            split
            · rename_i c
              have q := nm_1 hn c
              unfold stT
              refine stN_WP h (by repeat' split
                                  all_goals decide) (by omega) (fun e => ?_) (fun _ => rfl)
              exfalso
              revert e
              repeat' split
              all_goals decide
            · split
              · rename_i c
                have q := nm_4 hn c
                refine stN_WP h (by repeat' split
                                    all_goals decide) (by omega) (fun e => by omega) ?_
                repeat' split
                all_goals decide
              · split
                · rename_i c
                  obtain ⟨b, e1, e2, e3, e4, e5⟩ := res_ok hn hk c
                  subst e1
                  exact stT_WP h (hW.2.2.1 _) (by simp only [cbF]; omega)
                · split
                  · rename_i c
                    exact stT_WP h (by decide) (by have := nm_18 hn c; simp only [wdt]; simp; omega)
                  · split
                    · rename_i c
                      exact stT_WP h (by decide) (by have := nm_19 hn c; omega)
                    · split
                      · rename_i c
                        exact stT_WP h (by decide) (by have := nm_22 hn c; omega)
                      · exact h
/-! rounds -/
def sm : Nat → (Nat → Nat) → Nat
  | 0, _ => 0
  | n + 1, f => sm n f + f n
theorem sm_le {f g : Nat → Nat} : ∀ {n : Nat}, (∀ i, i < n → f i ≤ g i) → sm n f ≤ sm n g
  | 0, _ => Nat.le_refl _
  | n + 1, h => Nat.add_le_add (sm_le fun i hi => h i (by omega)) (h n (by omega))
theorem sm_lt {f g : Nat → Nat} : ∀ {n : Nat}, (∀ i, i < n → f i ≤ g i) → ∀ k, k < n → f k < g k → sm n f < sm n g
  | 0, _, k, hk, _ => absurd hk (Nat.not_lt_zero _)
  | n + 1, h, k, hk, hl => by
    show sm n f + f n < sm n g + g n
    by_cases e : k = n
    · subst e
      have := sm_le (f := f) (g := g) (n := k) (fun i hi => h i (by omega))
      omega
    · have := sm_lt (f := f) (g := g) (n := n) (fun i hi => h i (by omega)) k (by omega) hl
      have := h n (by omega)
      omega
theorem sm_b {f : Nat → Nat} {c : Nat} : ∀ {n : Nat}, (∀ i, f i ≤ c) → sm n f ≤ n * c
  | 0, _ => Nat.zero_le _
  | n + 1, h => by
    have := sm_b (n := n) h
    have := h n
    show sm n f + f n ≤ _
    rw [Nat.add_mul]
    omega
def nzc (row : Nat → Nat) : Nat := sm 10 fun r => if row r = 0 then 0 else 1
theorem nzc_le (row : Nat → Nat) : nzc row ≤ 10 := sm_b (c := 1) (n := 10) fun r => by split <;> decide
/-- how much may still change -/
def mu (v : VS) : Nat := sm 40 fun p => if v.2.1 p = true then nzc (v.1 p) else 11
theorem mu_le (v : VS) : mu v ≤ 440 := sm_b (c := 11) (n := 40) fun p => by
  have := nzc_le (v.1 p)
  split <;> omega
theorem chR_no {row N : Nat → Nat} {fr : Bool} : ∀ {j : Nat}, chR fr row N j = false → ∀ r, r < j → mrg fr row N r = row r
  | 0, _, r, hr => absurd hr (Nat.not_lt_zero _)
  | j + 1, h, r, hr => by
    simp only [chR, Bool.or_eq_false_iff, decide_eq_false_iff_not, Classical.not_not] at h
    by_cases e : r = j
    · subst e
      exact h.2
    · exact chR_no h.1 r (by omega)
theorem chR_yes {row N : Nat → Nat} {fr : Bool} : ∀ {j : Nat}, chR fr row N j = true → ∃ r, r < j ∧ mrg fr row N r ≠ row r
  | 0, h => by cases h
  | j + 1, h => by
    simp only [chR, Bool.or_eq_true, decide_eq_true_eq] at h
    rcases h with h | h
    · obtain ⟨r, hr, q⟩ := chR_yes h
      exact ⟨r, by omega, q⟩
    · exact ⟨j, by omega, h⟩
theorem flS_id {v : VS} {p : Nat} {N : Nat → Nat} (h : (flS v p N).2.2 = false) : flS v p N = v := by
  have h' : ((v.2.2 || !v.2.1 p) || chR (!v.2.1 p) (v.1 p) N 10) = false := h
  simp only [Bool.or_eq_false_iff] at h'
  obtain ⟨⟨h1, h2⟩, h3⟩ := h'
  have e1 : cpR (mrg (!v.2.1 p) (v.1 p) N) (v.1 p) 10 = v.1 p := by
    funext r
    unfold cpR
    split
    · rename_i hr
      exact chR_no h3 r hr
    · rfl
  have e2 : upB v.2.1 p = v.2.1 := by
    funext q
    unfold upB
    by_cases e : q = p
    · subst e
      rw [if_pos rfl]
      simpa using h2.symm
    · rw [if_neg e]
  have e3 : flS v p N = (v.1, v.2.1, false) := by
    rw [← h]
    show (upT v.1 p (cpR (mrg (!v.2.1 p) (v.1 p) N) (v.1 p) 10), upB v.2.1 p, _) = _
    rw [e1, e2, upT_id]
    rfl
  rw [e3, ← h1]
/-- no more may change than before, and less where something did -/
def LE (v v' : VS) : Prop := mu v' ≤ mu v ∧ (v'.2.2 = true → v.2.2 = true ∨ mu v' < mu v) ∧ (v'.2.2 = false → v' = v)
theorem LE.rf {v : VS} : LE v v := ⟨Nat.le_refl _, fun h => Or.inl h, fun _ => rfl⟩
theorem LE.tr {a b c : VS} (h : LE a b) (h2 : LE b c) : LE a c := by
  refine ⟨Nat.le_trans h2.1 h.1, fun q => ?_, fun q => ?_⟩
  · rcases h2.2.1 q with q | q
    · rcases h.2.1 q with q | q
      · exact Or.inl q
      · exact Or.inr (Nat.lt_of_le_of_lt h2.1 q)
    · exact Or.inr (Nat.lt_of_lt_of_le q h.1)
  · have e := h2.2.2 q
    subst e
    exact h.2.2 q
theorem nzc_mrg {row N : Nat → Nat} : (∀ r, (if cpR (mrg false row N) row 10 r = 0 then 0 else 1) ≤ (if row r = 0 then 0 else 1)) ∧ nzc (cpR (mrg false row N) row 10) ≤ nzc row ∧ (chR false row N 10 = true → nzc (cpR (mrg false row N) row 10) < nzc row) := by
  have a : ∀ r, (if cpR (mrg false row N) row 10 r = 0 then 0 else 1) ≤ (if row r = 0 then 0 else 1) := by
    intro r
    unfold cpR
    by_cases hr : r < 10
    · rw [if_pos hr]
      simp only [mrg]
      by_cases e : row r = N r
      · simp [e]
      · simp [e]
    · rw [if_neg hr]
      exact Nat.le_refl _
  refine ⟨a, sm_le fun r _ => a r, fun h => ?_⟩
  obtain ⟨r, hr, q⟩ := chR_yes h
  refine sm_lt (fun r _ => a r) r hr ?_
  unfold cpR
  rw [if_pos hr]
  simp only [mrg] at q ⊢
  by_cases e : row r = N r
  · simp [e] at q
  · simp [e] at q ⊢
    rw [if_neg (fun w => q w.symm)]
    decide
theorem flS_LE {v : VS} {p : Nat} {N : Nat → Nat} (hp : p < 40) : LE v (flS v p N) := by
  have hrow : ∀ q, q < 40 → (if (flS v p N).2.1 q = true then nzc ((flS v p N).1 q) else 11) ≤ (if v.2.1 q = true then nzc (v.1 q) else 11) := by
    intro q hq
    by_cases e : q = p
    · subst e
      simp only [flS, upB, upT, if_true]
      cases hR : v.2.1 q with
      | false =>
        rw [if_neg (by decide)]
        exact Nat.le_trans (nzc_le _) (by decide)
      | true =>
        rw [if_pos rfl]
        exact nzc_mrg.2.1
    · simp only [flS, upB, upT, e, if_false]
      exact Nat.le_refl _
  refine ⟨sm_le hrow, fun h => ?_, flS_id⟩
  have h' : ((v.2.2 || !v.2.1 p) || chR (!v.2.1 p) (v.1 p) N 10) = true := h
  by_cases h1 : v.2.2 = true
  · exact Or.inl h1
  · refine Or.inr (sm_lt hrow p hp ?_)
    simp only [flS, upB, upT, if_true]
    cases hR : v.2.1 p with
    | false =>
      rw [if_neg (by decide)]
      exact Nat.lt_of_le_of_lt (nzc_le _) (by decide)
    | true =>
      rw [if_pos rfl]
      rw [hR] at h'
      simp only [Bool.not_true] at h' ⊢
      refine nzc_mrg.2.2 ?_
      simpa [h1] using h'
def VI (v : VS) : Prop := (∀ q r, v.1 q r ≤ 6) ∧ ∀ q, v.2.1 q = true → WP (v.1 q)
theorem WP.cp {a b : Nat → Nat} (h : WP a) : WP (cpR a b 10) := by
  intro r hr
  obtain ⟨h1, h2, h3⟩ := h r hr
  unfold cpR
  rw [if_pos hr]
  refine ⟨h1, fun q => ?_, fun q => ?_⟩
  · obtain ⟨c1, c2⟩ := h2 q
    rw [if_pos c1]
    exact ⟨c1, c2⟩
  · obtain ⟨c1, c2⟩ := h3 q
    rw [if_pos (by omega)]
    exact ⟨c1, c2⟩
theorem flS_VI {v : VS} {p : Nat} {N : Nat → Nat} (h : VI v) (hN : WP N) (hN6 : ∀ r, N r ≤ 6) : VI (flS v p N) := by
  refine ⟨fun q r => ?_, fun q hq => ?_⟩
  · simp only [flS, upT]
    split
    · unfold cpR mrg
      have := h.1 p r
      have := hN6 r
      repeat' split
      all_goals omega
    · exact h.1 q r
  · simp only [flS, upT]
    by_cases e : q = p
    · rw [if_pos e]
      refine (mrg_WP hN (fun q2 => h.2 p ?_)).cp
      simpa using q2
    · rw [if_neg e]
      refine h.2 q ?_
      simpa [flS, upB, e] using hq
/-- an instruction: its row goes to where it goes on -/
def stepV (F : Nat → Nat → Nat) (m p : Nat) (bf : Option Nat) (v : VS) : VS :=
  if ens (opS (F 7 (40 * m + p))) = true then (if brs (opS (F 7 (40 * m + p))) = true then flS v (tgO F m p).toNatClampNeg (insN F m p bf (v.1 p)) else v)
  else flS (if brs (opS (F 7 (40 * m + p))) = true then flS v (tgO F m p).toNatClampNeg (insN F m p bf (v.1 p)) else v) (p + szO (opS (F 7 (40 * m + p)))) (insN F m p bf (v.1 p))
/-- a round -/
def rnd (F : Nat → Nat → Nat) (Bg : Nat → Bool) (m : Nat) : Nat → Nat → Option Nat → VS → Option Nat → VS × Option Nat
  | 0, _, _, v, bt => (v, bt)
  | f + 1, p, bf, v, bt => if p < F 6 m then (if Bg p = true then (if v.2.1 p = true then rnd F Bg m f (p + 1) (some p) (stepV F m p bf v) (if insG F m p (v.1 p) = false ∧ bt = none then some p else bt) else rnd F Bg m f (p + 1) (some p) v bt) else rnd F Bg m f (p + 1) bf v bt) else (v, bt)
def fixV (F : Nat → Nat → Nat) (Bg : Nat → Bool) (m : Nat) : Nat → VS → Option Nat → VS × Option Nat
  | 0, v, bt => (v, bt)
  | k + 1, v, bt => if v.2.2 = true then fixV F Bg m k (rnd F Bg m 40 0 none (v.1, v.2.1, false) none).1 (rnd F Bg m 40 0 none (v.1, v.2.1, false) none).2 else (v, bt)
/-- the row of the parameters -/
def bgN (F : Nat → Nat → Nat) (m : Nat) : Nat → Nat → Nat
  | 0 => fun _ => 0
  | k + 1 => stT (bgN F m k) (F 5 m - pwF F m + agK F m k) (F 4 (3 * m + k))
def v_0 (F : Nat → Nat → Nat) (m : Nat) : VS := flS (fun _ _ => 0, fun _ => false, true) 0 (bgN F m (F 3 m))

