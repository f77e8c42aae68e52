/-! the class: the machine as a whole -/
def CX (σ : fr_S) (q : Nat) (B : VM) : Prop := gI σ 7 2 = nI (B.1 0 0) ∧ gI σ 7 1 = nI (B.1 1 0) ∧ gI σ 7 3 = nI (B.1 5 0) ∧ gI σ 7 4 = nI (B.1 4 0) ∧ gL σ 7 5 = B.2.1 60 ∧ gD σ 7 6 = B.2.2.1 60 ∧ (∀ i, i < 6 → gI σ (9 + 3 * i) 3 = nI (B.1 3 i)) ∧ (∀ i, i < 6 → i < B.1 1 0 → gR σ (9 + 3 * i) 2 = some (q + 5 + 85 * B.1 2 i)) ∧ (∀ i, i < 6 → ∀ r, r < 10 → gL σ (9 + 3 * i + 1) r = B.2.1 (10 * i + r) ∧ gD σ (9 + 3 * i + 2) r = B.2.2.1 (10 * i + r)) ∧ ∀ k, k < 4 → gI σ (q + 2) k = B.2.2.2 k
/-- what running changes -/
def KS (q : Nat) (σ σ' : fr_S) : Prop := (∀ o k, (o < 7 ∨ 27 ≤ o) → o ≠ q + 2 → gI σ' o k = gI σ o k) ∧ (∀ o k, ¬ (9 ≤ o ∧ o < 27 ∧ k = 2) → gR σ' o k = gR σ o k) ∧ ∀ o k, (o < 7 ∨ 27 ≤ o) → gL σ' o k = gL σ o k ∧ gD σ' o k = gD σ o k
section KSS
variable {q : Nat} {σ σ1 σ' : fr_S}
theorem KS.rf : KS q σ σ := ⟨fun _ _ _ _ => rfl, fun _ _ _ => rfl, fun _ _ _ => ⟨rfl, rfl⟩⟩
theorem KS.tr (h : KS q σ σ1) (k : KS q σ1 σ') : KS q σ σ' := ⟨fun o x a b => (k.1 o x a b).trans (h.1 o x a b), fun o x a => (k.2.1 o x a).trans (h.2.1 o x a), fun o x a => ⟨((k.2.2 o x a).1).trans (h.2.2 o x a).1, ((k.2.2 o x a).2).trans (h.2.2 o x a).2⟩⟩
theorem KS.i (h : KS q σ σ1) {o k : Nat} {v : Int32} (ho : (7 ≤ o ∧ o < 27) ∨ o = q + 2) : KS q σ (sI σ1 o k v) := ⟨fun a b x y => (gI_n (Or.inl (by omega))).trans (h.1 a b x y), h.2.1, h.2.2⟩
theorem KS.l (h : KS q σ σ1) {o k : Nat} {v : Int64} (ho : 7 ≤ o ∧ o < 27) : KS q σ (sL σ1 o k v) := ⟨h.1, h.2.1, fun a b x => ⟨(gL_n (Or.inl (by omega))).trans (h.2.2 a b x).1, (h.2.2 a b x).2⟩⟩
theorem KS.d (h : KS q σ σ1) {o k : Nat} {v : UInt64} (ho : 7 ≤ o ∧ o < 27) : KS q σ (sD σ1 o k v) := ⟨h.1, h.2.1, fun a b x => ⟨(h.2.2 a b x).1, (gD_n (Or.inl (by omega))).trans (h.2.2 a b x).2⟩⟩
theorem KS.r (h : KS q σ σ1) {o : Nat} {v : Option Nat} (ho : 9 ≤ o ∧ o < 27) : KS q σ (sR σ1 o 2 v) := ⟨h.1, fun a b x => by
  show (if a = o ∧ b = 2 then v else σ1.2.2.2 a b) = _
  rw [if_neg (by omega)]
  exact h.2.1 a b x, h.2.2⟩
theorem KS.rfs (h : KS q σ σ') (r : RF σ) : RF σ' := by
  have n := h.2.1
  obtain ⟨h1, h2, h3, h4, h5, h6⟩ := r
  refine ⟨⟨?_, ?_, ?_, ?_, ?_, ?_, ?_, ?_⟩, fun i hi => ?_, fun g hg => ⟨?_, ?_⟩, fun q hq => ?_, fun e he => ?_, fun s hs => ?_⟩
  · exact (n _ _ (by omega)).trans h1.1
  · exact (n _ _ (by omega)).trans h1.2.1
  · exact (n _ _ (by omega)).trans h1.2.2.1
  · exact (n _ _ (by omega)).trans h1.2.2.2.1
  · exact (n _ _ (by omega)).trans h1.2.2.2.2.1
  · exact (n _ _ (by omega)).trans h1.2.2.2.2.2.1
  · exact (n _ _ (by omega)).trans h1.2.2.2.2.2.2.1
  · exact (n _ _ (by omega)).trans h1.2.2.2.2.2.2.2
  · exact (n _ _ (by omega)).trans (h2 i hi)
  · exact (n _ _ (by omega)).trans (h3 g hg).1
  · exact (n _ _ (by omega)).trans (h3 g hg).2
  · have := hq.h27
    obtain ⟨a, b, c, d, e⟩ := h4 q hq
    exact ⟨(n _ _ (by omega)).trans a, (n _ _ (by omega)).trans b, (n _ _ (by omega)).trans c, (n _ _ (by omega)).trans d, fun m hm => (n _ _ (by omega)).trans (e m hm)⟩
  · have := he.h32
    obtain ⟨a, b, c, d, f'⟩ := h5 e he
    exact ⟨(n _ _ (by omega)).trans a, (n _ _ (by omega)).trans b, (n _ _ (by omega)).trans c, (n _ _ (by omega)).trans d, fun m hm => (n _ _ (by omega)).trans (f' m hm)⟩
  · have := (kd_S hs).2.2
    exact (n _ _ (by omega)).trans (h6 s hs)
end KSS
/-- a register of the open frame is set -/
def kset (B : VM) (i r : Nat) (w : Int64) (d : UInt64) : VM := aD (aW B (10 * i + r) w) (10 * i + r) d
section CXS
variable {q : Nat} {σ : fr_S} {B : VM}
theorem CX.u (hq : 27 ≤ q) (h : CX σ q B) {i u : Nat} (hi : i < 6) : CX (sI σ (9 + 3 * i) 3 (nI u)) q (aI B 3 i u) := by
  obtain ⟨a, b, c, d, e, f, g, r, s, t⟩ := h
  refine ⟨(gI_n (Or.inl (by omega))).trans (a.trans ?_), (gI_n (Or.inl (by omega))).trans (b.trans ?_), (gI_n (Or.inl (by omega))).trans (c.trans ?_), (gI_n (Or.inl (by omega))).trans (d.trans ?_), e, f, fun j hj => ?_, fun j hj hD => ?_, s, fun k hk => (gI_n (Or.inl (by omega))).trans (t k hk)⟩
  · show _ = nI (uf B.1 3 i u 0 0); rw [uf_n (Or.inl (by decide))]
  · show _ = nI (uf B.1 3 i u 1 0); rw [uf_n (Or.inl (by decide))]
  · show _ = nI (uf B.1 3 i u 5 0); rw [uf_n (Or.inl (by decide))]
  · show _ = nI (uf B.1 3 i u 4 0); rw [uf_n (Or.inl (by decide))]
  · show _ = nI (uf B.1 3 i u 3 j)
    by_cases z : j = i
    · subst z
      rw [gI_s, uf_s]
    · rw [gI_n (Or.inl (by omega)), uf_n (Or.inr z)]
      exact g j hj
  · show _ = some (q + 5 + 85 * uf B.1 3 i u 2 j)
    rw [uf_n (Or.inl (by decide))]
    refine r j hj ?_
    have : uf B.1 3 i u 1 0 = B.1 1 0 := uf_n (Or.inl (by decide))
    rw [← this]
    exact hD
theorem CX.set (h : CX σ q B) {i r : Nat} (hi : i < 6) (hr : r < 10) {w : Int64} {d : UInt64} : CX (sD (sL σ (9 + 3 * i + 1) r w) (9 + 3 * i + 2) r d) q (kset B i r w d) := by
  obtain ⟨a, b, c, d1, e, f, g, r1, s, t⟩ := h
  refine ⟨a, b, c, d1, ?_, ?_, g, r1, fun j hj x hx => ⟨?_, ?_⟩, t⟩
  · rw [show gL (sD (sL σ (9 + 3 * i + 1) r w) (9 + 3 * i + 2) r d) 7 5 = gL (sL σ (9 + 3 * i + 1) r w) 7 5 from rfl, gL_n (Or.inl (by omega)), e]
    show _ = va_up B.2.1 (10 * i + r) w 60
    unfold va_up
    rw [if_neg (by omega)]
  · rw [gD_n (Or.inl (by omega))]
    show gD σ 7 6 = va_up B.2.2.1 (10 * i + r) d 60
    rw [f]
    unfold va_up
    rw [if_neg (by omega)]
  · rw [show gL (sD (sL σ (9 + 3 * i + 1) r w) (9 + 3 * i + 2) r d) (9 + 3 * j + 1) x = gL (sL σ (9 + 3 * i + 1) r w) (9 + 3 * j + 1) x from rfl]
    show _ = va_up B.2.1 (10 * i + r) w (10 * j + x)
    unfold va_up
    by_cases z : j = i ∧ x = r
    · obtain ⟨rfl, rfl⟩ := z
      rw [gL_s, if_pos rfl]
    · rw [gL_n (by omega), if_neg (by omega)]
      exact (s j hj x hx).1
  · show _ = va_up B.2.2.1 (10 * i + r) d (10 * j + x)
    unfold va_up
    by_cases z : j = i ∧ x = r
    · obtain ⟨rfl, rfl⟩ := z
      rw [gD_s, if_pos rfl]
    · rw [gD_n (by omega), if_neg (by omega)]
      exact (s j hj x hx).2
theorem CX.stop (hq : 27 ≤ q) (h : CX σ q B) {x : Nat} : CX (sI (sI σ 7 2 3) 7 3 (nI x)) q (aI (aI B 0 0 3) 5 0 x) := by
  obtain ⟨a, b, c, d, e, f, g, r, s, t⟩ := h
  have v : ∀ p y, (p ≠ 0 ∨ y ≠ 0) → (p ≠ 5 ∨ y ≠ 0) → (aI (aI B 0 0 3) 5 0 x).1 p y = B.1 p y := fun p y h1 h2 => by
    show uf (uf B.1 0 0 3) 5 0 x p y = _
    rw [uf_n h2, uf_n h1]
  refine ⟨?_, ?_, ?_, ?_, e, f, fun j hj => ?_, fun j hj hD => ?_, s, fun k hk => (gI_n (Or.inl (by omega))).trans ((gI_n (Or.inl (by omega))).trans (t k hk))⟩
  · rw [gI_n (Or.inr (by decide)), gI_s]
    show (3 : Int32) = nI (uf (uf B.1 0 0 3) 5 0 x 0 0)
    rw [uf_n (Or.inl (by decide)), uf_s]
    rfl
  · rw [gI_n (Or.inr (by decide)), gI_n (Or.inr (by decide)), b, v 1 0 (by omega) (by omega)]
  · rw [gI_s]
    show _ = nI (uf (uf B.1 0 0 3) 5 0 x 5 0)
    rw [uf_s]
  · rw [gI_n (Or.inr (by decide)), gI_n (Or.inr (by decide)), d, v 4 0 (by omega) (by omega)]
  · rw [gI_n (Or.inl (by omega)), gI_n (Or.inl (by omega)), g j hj, v 3 j (by omega) (by omega)]
  · rw [v 1 0 (by omega) (by omega)] at hD
    rw [v 2 j (by omega) (by omega)]
    exact r j hj hD
theorem CX.fld (h27 : 27 ≤ q) (h : CX σ q B) {k : Nat} {v : Int32} : CX (sI σ (q + 2) k v) q (aF B k v) := by
  obtain ⟨a, b, c, d, e, f, g, r, s, t⟩ := h
  refine ⟨(gI_n (Or.inl (by omega))).trans a, (gI_n (Or.inl (by omega))).trans b, (gI_n (Or.inl (by omega))).trans c, (gI_n (Or.inl (by omega))).trans d, e, f, fun j hj => (gI_n (Or.inl (by omega))).trans (g j hj), r, s, fun j hj => ?_⟩
  show _ = va_up B.2.2.2 k v j
  unfold va_up
  by_cases z : j = k
  · subst z
    rw [gI_s, if_pos rfl]
  · rw [gI_n (Or.inr z), if_neg z]
    exact t j hj
end CXS

