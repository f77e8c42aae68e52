/-! the class: the flow of types, purely -/
theorem upT_comm {T : Nat → Nat → Nat} {a b : Nat} {x y : Nat → Nat} (h : a ≠ b) : upT (upT T a x) b y = upT (upT T b y) a x := by
  funext q
  unfold upT
  by_cases c : q = b
  · rw [if_pos c, if_neg (by omega), if_pos c]
  · rw [if_neg c, if_neg c]
theorem upB_comm {R : Nat → Bool} {a b : Nat} : upB (upB R a) b = upB (upB R b) a := by
  funext q
  unfold upB
  by_cases c : q = b
  · rw [if_pos c, if_pos c]; split <;> rfl
  · rw [if_neg c, if_neg c]
theorem bool_x : ∀ c x1 x2 y1 y2 : Bool, ((((c || x1) || x2) || y1) || y2) = ((((c || y1) || y2) || x1) || x2) := by decide
theorem flS_comm {v : VS} {a b : Nat} {N : Nat → Nat} : flS (flS v a N) b N = flS (flS v b N) a N := by
  by_cases h : a = b
  · rw [h]
  have e1 : ∀ {x y : Nat} {X : Nat → Nat}, y ≠ x → upT v.1 x X y = v.1 y := fun q => by unfold upT; rw [if_neg q]
  have e2 : ∀ {x y : Nat}, y ≠ x → upB v.2.1 x y = v.2.1 y := fun q => by unfold upB; rw [if_neg q]
  have h' : ¬ b = a := fun q => h q.symm
  unfold flS
  simp only
  rw [e1 h', e2 h', e1 h, e2 h, upT_comm h, upB_comm, bool_x]
/-- an instruction's part in a round, in the class's order -/
def stpC (F : Nat → Nat → Nat) (m p : Nat) (v : VS) : VS :=
  if brs (opS (F 7 (40 * m + p))) = true then flS (if ens (opS (F 7 (40 * m + p))) = true then v else flS v (p + szO (opS (F 7 (40 * m + p)))) (insN F m p (pbG (bgF F m) p) (v.1 p))) (tgO F m p).toNatClampNeg (insN F m p (pbG (bgF F m) p) (v.1 p))
  else (if ens (opS (F 7 (40 * m + p))) = true then v else flS v (p + szO (opS (F 7 (40 * m + p)))) (insN F m p (pbG (bgF F m) p) (v.1 p)))
theorem stpC_e {F : Nat → Nat → Nat} {m p : Nat} {v : VS} : stpC F m p v = stepV F m p (pbG (bgF F m) p) v := by
  unfold stpC stepV
  cases brs (opS (F 7 (40 * m + p))) with
  | true =>
    cases ens (opS (F 7 (40 * m + p))) with
    | true => rfl
    | false => exact flS_comm
  | false =>
    cases ens (opS (F 7 (40 * m + p))) with
    | true => rfl
    | false => rfl
/-- a round from unit p on -/
def roC (F : Nat → Nat → Nat) (m : Nat) : Nat → Nat → VS → VS
  | 0, _, v => v
  | f + 1, p, v => if p < F 6 m then (if bgF F m p = true ∧ v.2.1 p = true then roC F m f (p + 1) (stpC F m p v) else roC F m f (p + 1) v) else v
theorem roC_e {F : Nat → Nat → Nat} {m : Nat} : ∀ {f p : Nat} {v : VS} {bt : Option Nat}, (rnd F (bgF F m) m f p (pbG (bgF F m) p) v bt).1 = roC F m f p v
  | 0, _, _, _ => rfl
  | f + 1, p, v, bt => by
    unfold rnd roC
    have en : bgF F m p = true → pbG (bgF F m) (p + 1) = some p := fun q => if_pos q
    have eo : ¬ bgF F m p = true → pbG (bgF F m) (p + 1) = pbG (bgF F m) p := fun q => if_neg q
    by_cases h1 : p < F 6 m
    · rw [if_pos h1, if_pos h1]
      by_cases h2 : bgF F m p = true
      · rw [if_pos h2]
        by_cases h3 : v.2.1 p = true
        · rw [if_pos h3, if_pos (show bgF F m p = true ∧ v.2.1 p = true from ⟨h2, h3⟩), ← en h2, roC_e, stpC_e]
        · rw [if_neg h3, if_neg (show ¬ (bgF F m p = true ∧ v.2.1 p = true) from fun q => h3 q.2), ← en h2, roC_e]
      · rw [if_neg h2, if_neg (show ¬ (bgF F m p = true ∧ v.2.1 p = true) from fun q => h2 q.1), ← eo h2, roC_e]
    · rw [if_neg h1, if_neg h1]
def fxC (F : Nat → Nat → Nat) (m : Nat) : Nat → VS → VS
  | 0, v => v
  | k + 1, v => if v.2.2 = true then fxC F m k (roC F m 40 0 (v.1, v.2.1, false)) else v
theorem fxC_e {F : Nat → Nat → Nat} {m : Nat} : ∀ {k : Nat} {v : VS} {bt : Option Nat}, (fixV F (bgF F m) m k v bt).1 = fxC F m k v
  | 0, _, _ => rfl
  | k + 1, v, bt => by
    unfold fixV fxC
    by_cases h : v.2.2 = true
    · rw [if_pos h, if_pos h, fxC_e]
      congr 1
      exact roC_e (p := 0)
    · rw [if_neg h, if_neg h]
/-- the first instruction reached that has no right to its registers -/
def fwC (F : Nat → Nat → Nat) (m : Nat) (v : VS) : Nat → Nat → Option Nat
  | 0, _ => none
  | f + 1, p => if p < F 6 m then (if bgF F m p = true ∧ v.2.1 p = true ∧ insG F m p (v.1 p) = false then some p else fwC F m v f (p + 1)) else none
theorem LE.fl {a b c : VS} (h : LE a b) (h2 : LE b c) (hc : c.2.2 = false) (ha : a.2.2 = false) : b = a ∧ c = a := by
  have e := h2.2.2 hc
  subst e
  exact ⟨h.2.2 hc, h.2.2 hc⟩
theorem rnd_q {F : Nat → Nat → Nat} (hW : FW F) {m : Nat} : ∀ {f p : Nat} {bf : Option Nat} {v : VS} {bt : Option Nat}, fif F (bgF F m) m f p bf = -1 → p ≤ 40 → v.2.2 = false → (rnd F (bgF F m) m f p bf v bt).1.2.2 = false → (rnd F (bgF F m) m f p bf v bt).1 = v ∧ (rnd F (bgF F m) m f p bf v bt).2 = if bt = none then fwC F m v f p else bt
  | 0, _, _, v, bt, _, _, _, _ => ⟨rfl, by
    show bt = _
    split
    · assumption
    · rfl⟩
  | f + 1, p, bf, v, bt, hf, hp, hv, hr => by
    have h6 := hW.2.2.2.2.2.2.1 m
    unfold rnd at hr ⊢
    unfold fwC
    by_cases h1 : p < F 6 m
    · rw [if_pos h1] at hr ⊢
      rw [if_pos h1]
      by_cases h2 : bgF F m p = true
      · obtain ⟨hk, hf'⟩ := fif_frm hW (by omega) h1 h2 hf
        rw [if_pos h2] at hr ⊢
        by_cases h3 : v.2.1 p = true
        · rw [if_pos h3] at hr ⊢
          have l1 := stepV_LE (v := v) hW hk
          have l2 := rnd_LE (v := stepV F m p bf v) (bt := if insG F m p (v.1 p) = false ∧ bt = none then some p else bt) hW hf' (by omega)
          obtain ⟨e1, -⟩ := l1.fl l2 hr hv
          rw [e1] at hr ⊢
          obtain ⟨a, b⟩ := rnd_q hW hf' (by omega) hv hr
          refine ⟨a, b.trans ?_⟩
          cases bt with
          | none =>
            rw [if_pos (rfl : (none : Option Nat) = none)]
            by_cases h4 : insG F m p (v.1 p) = false
            · rw [if_pos (show insG F m p (v.1 p) = false ∧ (none : Option Nat) = none from ⟨h4, rfl⟩), if_pos (show bgF F m p = true ∧ v.2.1 p = true ∧ insG F m p (v.1 p) = false from ⟨h2, h3, h4⟩)]
              rfl
            · rw [if_neg (show ¬ (insG F m p (v.1 p) = false ∧ (none : Option Nat) = none) from fun q => h4 q.1), if_pos (rfl : (none : Option Nat) = none), if_neg (show ¬ (bgF F m p = true ∧ v.2.1 p = true ∧ insG F m p (v.1 p) = false) from fun q => h4 q.2.2)]
          | some q =>
            rw [if_neg (show ¬ (insG F m p (v.1 p) = false ∧ some q = none) from fun z => by cases z.2)]
            rfl
        · rw [if_neg h3] at hr ⊢
          obtain ⟨a, b⟩ := rnd_q hW hf' (by omega) hv hr
          rw [if_neg (show ¬ (bgF F m p = true ∧ v.2.1 p = true ∧ insG F m p (v.1 p) = false) from fun q => h3 q.2.1)]
          exact ⟨a, b⟩
      · rw [fif_no h1 (by simpa using h2)] at hf
        rw [if_neg h2] at hr ⊢
        obtain ⟨a, b⟩ := rnd_q hW hf (by omega) hv hr
        rw [if_neg (show ¬ (bgF F m p = true ∧ v.2.1 p = true ∧ insG F m p (v.1 p) = false) from fun q => h2 q.1)]
        exact ⟨a, b⟩
    · rw [if_neg h1, if_neg h1]
      refine ⟨rfl, ?_⟩
      show bt = _
      split
      · assumption
      · rfl
theorem fix_q {F : Nat → Nat → Nat} (hW : FW F) {m : Nat} (hf : fif F (bgF F m) m 40 0 none = -1) : ∀ {k : Nat} {v : VS} {bt : Option Nat}, (mu v < k ∨ v.2.2 = false) → (v.2.2 = false → bt = fwC F m v 40 0) → (fixV F (bgF F m) m k v bt).1.2.2 = false ∧ (fixV F (bgF F m) m k v bt).2 = fwC F m (fixV F (bgF F m) m k v bt).1 40 0
  | 0, v, bt, h, hb => by
    have h : v.2.2 = false := h.resolve_left (Nat.not_lt_zero _)
    exact ⟨h, hb h⟩
  | k + 1, v, bt, h, hb => by
    unfold fixV
    by_cases c : v.2.2 = true
    · rw [if_pos c]
      have hm : mu v < k + 1 := h.resolve_right (by rw [c]; decide)
      have em : mu (v.1, v.2.1, false) = mu v := rfl
      have l := rnd_LE (v := (v.1, v.2.1, false)) (bt := none) (f := 40) (p := 0) (bf := none) hW hf (by omega)
      refine fix_q hW hf ?_ ?_
      · cases q : (rnd F (bgF F m) m 40 0 none (v.1, v.2.1, false) none).1.2.2 with
        | false => exact Or.inr rfl
        | true =>
          refine Or.inl ?_
          rcases l.2.1 q with z | z
          · exact absurd (show false = true from z) (by decide)
          · omega
      · intro q
        obtain ⟨a, b⟩ := rnd_q (p := 0) (bf := none) (v := (v.1, v.2.1, false)) (bt := none) hW hf (by omega) rfl q
        exact b.trans (by rw [if_pos rfl]; exact congrArg (fun z => fwC F m z 40 0) a.symm)
    · rw [if_neg c]
      have c' : v.2.2 = false := by simpa using c
      exact ⟨c', hb c'⟩
theorem v_0_t {F : Nat → Nat → Nat} {m : Nat} : ¬ (v_0 F m).2.2 = false := by
  unfold v_0 flS
  simp
theorem vr_q {F : Nat → Nat → Nat} (hW : FW F) {m : Nat} (hf : fif F (bgF F m) m 40 0 none = -1) : (vrR F m).1 = fxC F m 1000 (v_0 F m) ∧ (vrR F m).2 = fwC F m (vrR F m).1 40 0 :=
  ⟨fxC_e, (fix_q hW hf (Or.inl (Nat.lt_of_le_of_lt (mu_le _) (by decide))) (fun q => absurd q v_0_t)).2⟩

