/-! what the rows of a judged method hold -/
/-- no unit is lost, rows only lose -/
def MO (v v' : VS) : Prop := ∀ p, v.2.1 p = true → v'.2.1 p = true ∧ ∀ r, r < 10 → v'.1 p r = 0 ∨ v'.1 p r = v.1 p r
theorem MO.rf {v : VS} : MO v v := fun _ h => ⟨h, fun _ _ => Or.inr rfl⟩
theorem MO.tr {a b c : VS} (h : MO a b) (k : MO b c) : MO a c := fun p hp => ⟨(k p (h p hp).1).1, fun r hr => by
  rcases (k p (h p hp).1).2 r hr with e | e
  · exact Or.inl e
  · rw [e]
    exact (h p hp).2 r hr⟩
theorem flS_MO {v : VS} {p : Nat} {N : Nat → Nat} : MO v (flS v p N) := fun q hq => by
  refine ⟨?_, fun r hr => ?_⟩
  · show (if q = p then true else v.2.1 q) = true
    rw [hq]
    split <;> rfl
  · show (if q = p then cpR (mrg (!v.2.1 p) (v.1 p) N) (v.1 p) 10 else v.1 q) r = 0 ∨ (if q = p then cpR (mrg (!v.2.1 p) (v.1 p) N) (v.1 p) 10 else v.1 q) r = v.1 q r
    by_cases e : q = p
    · subst e
      rw [if_pos rfl]
      show (if r < 10 then mrg (!v.2.1 q) (v.1 q) N r else v.1 q r) = 0 ∨ (if r < 10 then mrg (!v.2.1 q) (v.1 q) N r else v.1 q r) = v.1 q r
      rw [if_pos hr, hq]
      show (if (!true) = true ∨ v.1 q r = N r then N r else 0) = 0 ∨ (if (!true) = true ∨ v.1 q r = N r then N r else 0) = v.1 q r
      split
      · next h =>
        rcases h with h | h
        · exact absurd h (by decide)
        · exact Or.inr h.symm
      · exact Or.inl rfl
    · rw [if_neg e]
      exact Or.inr rfl
theorem stpC_MO {F : Nat → Nat → Nat} {m p : Nat} {v : VS} : MO v (stpC F m p v) := by
  unfold stpC
  split
  · split
    · exact flS_MO
    · exact flS_MO.tr flS_MO
  · split
    · exact MO.rf
    · exact flS_MO
theorem roC_MO {F : Nat → Nat → Nat} {m : Nat} : ∀ {f p : Nat} {v : VS}, MO v (roC F m f p v)
  | 0, _, _ => MO.rf
  | f + 1, p, v => by
    unfold roC
    split
    · split
      · exact stpC_MO.tr roC_MO
      · exact roC_MO
    · exact MO.rf
theorem fxC_MO {F : Nat → Nat → Nat} {m : Nat} : ∀ {k : Nat} {v : VS}, MO v (fxC F m k v)
  | 0, _ => MO.rf
  | k + 1, v => by
    unfold fxC
    split
    · exact MO.tr (b := roC F m 40 0 (v.1, v.2.1, false)) (roC_MO (v := (v.1, v.2.1, false))) fxC_MO
    · exact MO.rf
/-- all instructions are of the right form -/
def HF (F : Nat → Nat → Nat) (m : Nat) : Prop := ∀ u, u < F 6 m → bgF F m u = true → frmOK F (bgF F m) m u (pbG (bgF F m) u) = true
theorem HF.of {F : Nat → Nat → Nat} (hW : FW F) {m : Nat} (h : fif F (bgF F m) m 40 0 none = -1) : HF F m := fun u hu hb => fif_all hW (f := 40) (p := 0) h (by omega) u (Nat.zero_le _) hu hb
theorem stpC_LE {F : Nat → Nat → Nat} (hW : FW F) {m p : Nat} (H : HF F m) (hp : p < F 6 m) (hb : bgF F m p = true) {v : VS} : LE v (stpC F m p v) := by
  rw [stpC_e]
  exact stepV_LE hW (H p hp hb)
theorem roC_LE {F : Nat → Nat → Nat} (hW : FW F) {m : Nat} (H : HF F m) : ∀ {f p : Nat} {v : VS}, LE v (roC F m f p v)
  | 0, _, _ => LE.rf
  | f + 1, p, v => by
    unfold roC
    by_cases h : p < F 6 m
    · rw [if_pos h]
      by_cases hb : bgF F m p = true ∧ v.2.1 p = true
      · rw [if_pos hb]
        exact (stpC_LE hW H h hb.1).tr (roC_LE hW H)
      · rw [if_neg hb]
        exact roC_LE hW H
    · rw [if_neg h]
      exact LE.rf
/-- a round that changes nothing: no instruction does -/
theorem ro_fix {F : Nat → Nat → Nat} (hW : FW F) {m : Nat} (H : HF F m) : ∀ {f p : Nat} {v : VS}, v.2.2 = false → (roC F m f p v).2.2 = false → 40 ≤ p + f → roC F m f p v = v ∧ ∀ u, p ≤ u → u < F 6 m → bgF F m u = true → v.2.1 u = true → stpC F m u v = v
  | 0, p, v, _, _, h => ⟨rfl, fun u hu hl _ _ => by
    have := hW.2.2.2.2.2.2.1 m
    omega⟩
  | f + 1, p, v, hv, hr, h => by
    unfold roC at hr ⊢
    by_cases hp : p < F 6 m
    · rw [if_pos hp] at hr ⊢
      by_cases hb : bgF F m p = true ∧ v.2.1 p = true
      · rw [if_pos hb] at hr ⊢
        obtain ⟨e1, e2⟩ := LE.fl (stpC_LE hW H hp hb.1) (roC_LE hW H (f := f) (p := p + 1)) hr hv
        rw [e1] at hr e2 ⊢
        obtain ⟨_, c⟩ := ro_fix hW H hv hr (by omega)
        refine ⟨e2, fun u hu hl h1 h2 => ?_⟩
        by_cases e : u = p
        · subst e
          exact e1
        · exact c u (by omega) hl h1 h2
      · rw [if_neg hb] at hr ⊢
        obtain ⟨e2, c⟩ := ro_fix hW H hv hr (by omega)
        refine ⟨e2, fun u hu hl h1 h2 => ?_⟩
        by_cases e : u = p
        · subst e
          exact absurd ⟨h1, h2⟩ hb
        · exact c u (by omega) hl h1 h2
    · rw [if_neg hp]
      exact ⟨rfl, fun u hu hl _ _ => by omega⟩
theorem fx_fix {F : Nat → Nat → Nat} (hW : FW F) {m : Nat} (H : HF F m) : ∀ {k : Nat} {v : VS}, ((v.2.2 = true ∧ mu v < k) ∨ (v.2.2 = false ∧ roC F m 40 0 v = v)) → (fxC F m k v).2.2 = false ∧ roC F m 40 0 (fxC F m k v) = fxC F m k v
  | 0, v, h => by
    rcases h with h | h
    · exact absurd h.2 (Nat.not_lt_zero _)
    · exact h
  | k + 1, v, h => by
    unfold fxC
    by_cases hv : v.2.2 = true
    · rw [if_pos hv]
      have hm : mu v < k + 1 := by
        rcases h with h | h
        · exact h.2
        · rw [h.1] at hv
          exact absurd hv (by decide)
      have L : LE (v.1, v.2.1, false) (roC F m 40 0 (v.1, v.2.1, false)) := roC_LE hW H
      refine fx_fix hW H ?_
      by_cases hr : (roC F m 40 0 (v.1, v.2.1, false)).2.2 = true
      · rcases L.2.1 hr with q | q
        · exact absurd (show false = true from q) (by decide)
        · have : mu (v.1, v.2.1, false) = mu v := rfl
          exact Or.inl ⟨hr, by omega⟩
      · have hr' : (roC F m 40 0 (v.1, v.2.1, false)).2.2 = false := by simpa using hr
        have e := L.2.2 hr'
        right
        rw [e]
        exact ⟨rfl, e⟩
    · rw [if_neg hv]
      rcases h with h | h
      · exact absurd h.1 hv
      · exact h
/-- a row comes to unit q and changes nothing there -/
def FLW (v : VS) (q : Nat) (N : Nat → Nat) : Prop := v.2.1 q = true ∧ ∀ r, r < 10 → v.1 q r = 0 ∨ v.1 q r = N r
theorem FLW.of {v : VS} (hv : v.2.2 = false) {q : Nat} {N : Nat → Nat} (h : flS v q N = v) : FLW v q N := by
  have h2 : ((v.2.2 || !v.2.1 q) || chR (!v.2.1 q) (v.1 q) N 10) = false := (congrArg (fun x : VS => x.2.2) h).trans hv
  rw [hv] at h2
  cases e : v.2.1 q with
  | false =>
    rw [e] at h2
    exact absurd h2 (by simp)
  | true =>
    rw [e] at h2
    refine ⟨e, fun r hr => ?_⟩
    have c : mrg false (v.1 q) N r = v.1 q r := chR_no (by simpa using h2) r hr
    unfold mrg at c
    by_cases k : false = true ∨ v.1 q r = N r
    · rcases k with k | k
      · exact absurd k (by decide)
      · exact Or.inr k
    · rw [if_neg k] at c
      exact Or.inl c.symm
theorem stpC_fl {F : Nat → Nat → Nat} {m p : Nat} {v : VS} (hv : v.2.2 = false) (h : stpC F m p v = v) : (ens (opS (F 7 (40 * m + p))) = false → FLW v (p + szO (opS (F 7 (40 * m + p)))) (insN F m p (pbG (bgF F m) p) (v.1 p))) ∧ (brs (opS (F 7 (40 * m + p))) = true → FLW v (tgO F m p).toNatClampNeg (insN F m p (pbG (bgF F m) p) (v.1 p))) := by
  unfold stpC at h
  by_cases hb : brs (opS (F 7 (40 * m + p))) = true
  · rw [if_pos hb] at h
    obtain ⟨X, hX⟩ : ∃ X, X = (if ens (opS (F 7 (40 * m + p))) = true then v else flS v (p + szO (opS (F 7 (40 * m + p)))) (insN F m p (pbG (bgF F m) p) (v.1 p))) := ⟨_, rfl⟩
    rw [← hX] at h
    have h1 : flS X (tgO F m p).toNatClampNeg (insN F m p (pbG (bgF F m) p) (v.1 p)) = X := flS_id (by rw [h]; exact hv)
    have h2 : X = v := h1.symm.trans h
    refine ⟨fun he => ?_, fun _ => ?_⟩
    · rw [h2, he] at hX
      exact FLW.of hv hX.symm
    · rw [h2] at h
      exact FLW.of hv h
  · rw [if_neg hb] at h
    refine ⟨fun he => ?_, fun e => absurd e hb⟩
    rw [he] at h
    exact FLW.of hv h
/-- what verifying finds: rows that agree with all that flows into them -/
theorem vr_fl {F : Nat → Nat → Nat} (hW : FW F) {m : Nat} (hf : fif F (bgF F m) m 40 0 none = -1) : (∀ p, p < F 6 m → bgF F m p = true → (vrR F m).1.2.1 p = true → (ens (opS (F 7 (40 * m + p))) = false → FLW (vrR F m).1 (p + szO (opS (F 7 (40 * m + p)))) (insN F m p (pbG (bgF F m) p) ((vrR F m).1.1 p))) ∧ (brs (opS (F 7 (40 * m + p))) = true → FLW (vrR F m).1 (tgO F m p).toNatClampNeg (insN F m p (pbG (bgF F m) p) ((vrR F m).1.1 p)))) ∧ FLW (vrR F m).1 0 (bgN F m (F 3 m)) := by
  have H := HF.of hW hf
  have e := (vr_q hW hf).1
  obtain ⟨w, hw⟩ : ∃ w, w = fxC F m 1000 (v_0 F m) := ⟨_, rfl⟩
  have h2 := fx_fix hW H (k := 1000) (v := v_0 F m) (Or.inl ⟨by simpa using v_0_t (F := F) (m := m), Nat.lt_of_le_of_lt (mu_le _) (by decide)⟩)
  have h3 : MO (v_0 F m) (fxC F m 1000 (v_0 F m)) := fxC_MO
  rw [← hw] at e h2 h3
  rw [e]
  obtain ⟨a, b⟩ := h2
  have c := (ro_fix hW H a (by rw [b]; exact a) (by omega)).2
  refine ⟨fun p hp hb hr => stpC_fl a (c p (Nat.zero_le _) hp hb hr), ?_⟩
  have h0 : (v_0 F m).2.1 0 = true := rfl
  refine ⟨(h3 0 h0).1, fun r hr => ?_⟩
  have e0 : (v_0 F m).1 0 r = bgN F m (F 3 m) r := by
    show (if r < 10 then (if true = true ∨ _ then bgN F m (F 3 m) r else 0) else _) = _
    rw [if_pos hr, if_pos (Or.inl rfl)]
  rw [← e0]
  exact (h3 0 h0).2 r hr
/-- where nothing is wrong, every instruction that may be come to has the right -/
theorem fw_all {F : Nat → Nat → Nat} (hW : FW F) {m : Nat} {v : VS} : ∀ {f p : Nat}, fwC F m v f p = none → 40 ≤ p + f → ∀ u, p ≤ u → u < F 6 m → bgF F m u = true → v.2.1 u = true → insG F m u (v.1 u) = true
  | 0, p, _, h, u, hu, hl, _, _ => by
    have := hW.2.2.2.2.2.2.1 m
    omega
  | f + 1, p, hn, h, u, hu, hl, hb, hr => by
    unfold fwC at hn
    rw [if_pos (show p < F 6 m by omega)] at hn
    by_cases c : bgF F m p = true ∧ v.2.1 p = true ∧ insG F m p (v.1 p) = false
    · rw [if_pos c] at hn
      exact absurd hn (by simp)
    · rw [if_neg c] at hn
      by_cases e : u = p
      · subst e
        cases g : insG F m u (v.1 u) with
        | true => rfl
        | false => exact absurd ⟨hb, hr, g⟩ c
      · exact fw_all hW hn (by omega) u (by omega) hl hb hr
theorem fw_lt {F : Nat → Nat → Nat} {m : Nat} {v : VS} : ∀ {f p q : Nat}, fwC F m v f p = some q → q < F 6 m
  | 0, _, _, h => by simp [fwC] at h
  | f + 1, p, q, h => by
    unfold fwC at h
    by_cases c : p < F 6 m
    · rw [if_pos c] at h
      by_cases k : bgF F m p = true ∧ v.2.1 p = true ∧ insG F m p (v.1 p) = false
      · rw [if_pos k] at h
        cases h
        exact c
      · rw [if_neg k] at h
        exact fw_lt h
    · rw [if_neg c] at h
      exact absurd h (by simp)
/-- a method without fault: its form, and its rows' rights -/
def GM (F : Nat → Nat → Nat) (m : Nat) : Prop := fif F (bgF F m) m 40 0 none = -1 ∧ (vrR F m).2 = none
theorem GM.of {F : Nat → Nat → Nat} (hW : FW F) {m : Nat} (h : vdM F m = -1) : GM F m := by
  unfold vdM at h
  by_cases c : fif F (bgF F m) m 40 0 none = -1
  · rw [if_pos c] at h
    refine ⟨c, ?_⟩
    cases e : (vrR F m).2 with
    | none => rfl
    | some q =>
      rw [e] at h
      have hq : q < 40 := by
        have e2 := (vr_q hW c).2
        rw [e] at e2
        exact Nat.lt_of_lt_of_le (fw_lt e2.symm) (hW.2.2.2.2.2.2.1 m)
      exact absurd (show nI q = -1 from h) (nI_m1 (by omega))
  · rw [if_neg c] at h
    exact absurd h c
theorem ufO_all {F : Nat → Nat → Nat} : ∀ {k : Nat}, ufO F k = false → ∀ m, m < k → vdM F m = -1
  | 0, _, m, h => absurd h (Nat.not_lt_zero _)
  | k + 1, h, m, hm => by
    unfold ufO at h
    have h1 : ufO F k = false := by
      cases e : ufO F k with
      | false => rfl
      | true => rw [e] at h; simp at h
    by_cases e : m = k
    · subst e
      rw [h1] at h
      simpa using h
    · exact ufO_all h1 m (by omega)

