/-! the class: the machine as a whole -/
def CXn (σ : fr_S) (q : Nat) (B : VM) (n : Nat) : Prop := gI σ 7 2 = nI (B.1 0 0) ∧ gI σ 7 1 = nI (B.1 1 0) ∧ gI σ 7 3 = nI (B.1 5 0) ∧ gI σ 7 4 = nI (B.1 4 0) ∧ gL σ 7 5 = B.2.1 60 ∧ gD σ 7 6 = B.2.2.1 60 ∧ (∀ i, i < 6 → gI σ (9 + 3 * i) 3 = nI (B.1 3 i)) ∧ (∀ i, i < 6 → i < n → gR σ (9 + 3 * i) 2 = some (q + 5 + 85 * B.1 2 i)) ∧ (∀ i, i < 6 → ∀ r, r < 10 → gL σ (9 + 3 * i + 1) r = B.2.1 (10 * i + r) ∧ gD σ (9 + 3 * i + 2) r = B.2.2.1 (10 * i + r)) ∧ ∀ k, k < 4 → gI σ (q + 2) k = B.2.2.2 k
def CX (σ : fr_S) (q : Nat) (B : VM) : Prop := CXn σ q B (B.1 1 0)
/-- what running changes -/
def KS (q : Nat) (σ σ' : fr_S) : Prop := (∀ o k, (o < 7 ∨ 27 ≤ o) → o ≠ q + 2 → gI σ' o k = gI σ o k) ∧ (∀ o k, ¬ (9 ≤ o ∧ o < 27 ∧ k = 2) → gR σ' o k = gR σ o k) ∧ ∀ o k, (o < 7 ∨ 27 ≤ o) → gL σ' o k = gL σ o k ∧ gD σ' o k = gD σ o k
section KSS
variable {q : Nat} {σ σ1 σ' : fr_S}
theorem KS.rf : KS q σ σ := ⟨fun _ _ _ _ => rfl, fun _ _ _ => rfl, fun _ _ _ => ⟨rfl, rfl⟩⟩
theorem KS.tr (h : KS q σ σ1) (k : KS q σ1 σ') : KS q σ σ' := ⟨fun o x a b => (k.1 o x a b).trans (h.1 o x a b), fun o x a => (k.2.1 o x a).trans (h.2.1 o x a), fun o x a => ⟨((k.2.2 o x a).1).trans (h.2.2 o x a).1, ((k.2.2 o x a).2).trans (h.2.2 o x a).2⟩⟩
theorem KS.i (h : KS q σ σ1) {o k : Nat} {v : Int32} (ho : (7 ≤ o ∧ o < 27) ∨ o = q + 2) : KS q σ (sI σ1 o k v) := ⟨fun a b x y => (gI_n (Or.inl (by omega))).trans (h.1 a b x y), h.2.1, h.2.2⟩
theorem KS.l (h : KS q σ σ1) {o k : Nat} {v : Int64} (ho : 7 ≤ o ∧ o < 27) : KS q σ (sL σ1 o k v) := ⟨h.1, h.2.1, fun a b x => ⟨(gL_n (Or.inl (by omega))).trans (h.2.2 a b x).1, (h.2.2 a b x).2⟩⟩
theorem KS.d (h : KS q σ σ1) {o k : Nat} {v : UInt64} (ho : 7 ≤ o ∧ o < 27) : KS q σ (sD σ1 o k v) := ⟨h.1, h.2.1, fun a b x => ⟨(h.2.2 a b x).1, (gD_n (Or.inl (by omega))).trans (h.2.2 a b x).2⟩⟩
theorem KS.r (h : KS q σ σ1) {o : Nat} {v : Option Nat} (ho : 9 ≤ o ∧ o < 27) : KS q σ (sR σ1 o 2 v) := ⟨h.1, fun a b x => by
  show (if a = o ∧ b = 2 then v else σ1.2.2.2 a b) = _
  rw [if_neg (by omega)]
  exact h.2.1 a b x, h.2.2⟩
theorem KS.rfs (h : KS q σ σ') (r : RF σ) : RF σ' := by
  have n := h.2.1
  obtain ⟨h1, h2, h3, h4, h5, h6⟩ := r
  refine ⟨⟨?_, ?_, ?_, ?_, ?_, ?_, ?_, ?_⟩, fun i hi => ?_, fun g hg => ⟨?_, ?_⟩, fun q hq => ?_, fun e he => ?_, fun s hs => ?_⟩
  · exact (n _ _ (by omega)).trans h1.1
  · exact (n _ _ (by omega)).trans h1.2.1
  · exact (n _ _ (by omega)).trans h1.2.2.1
  · exact (n _ _ (by omega)).trans h1.2.2.2.1
  · exact (n _ _ (by omega)).trans h1.2.2.2.2.1
  · exact (n _ _ (by omega)).trans h1.2.2.2.2.2.1
  · exact (n _ _ (by omega)).trans h1.2.2.2.2.2.2.1
  · exact (n _ _ (by omega)).trans h1.2.2.2.2.2.2.2
  · exact (n _ _ (by omega)).trans (h2 i hi)
  · exact (n _ _ (by omega)).trans (h3 g hg).1
  · exact (n _ _ (by omega)).trans (h3 g hg).2
  · have := hq.h27
    obtain ⟨a, b, c, d, e⟩ := h4 q hq
    exact ⟨(n _ _ (by omega)).trans a, (n _ _ (by omega)).trans b, (n _ _ (by omega)).trans c, (n _ _ (by omega)).trans d, fun m hm => (n _ _ (by omega)).trans (e m hm)⟩
  · have := he.h32
    obtain ⟨a, b, c, d, f'⟩ := h5 e he
    exact ⟨(n _ _ (by omega)).trans a, (n _ _ (by omega)).trans b, (n _ _ (by omega)).trans c, (n _ _ (by omega)).trans d, fun m hm => (n _ _ (by omega)).trans (f' m hm)⟩
  · have := (kd_S hs).2.2
    exact (n _ _ (by omega)).trans (h6 s hs)
end KSS
/-- a register of the open frame is set -/
def kset (B : VM) (i r : Nat) (w : Int64) (d : UInt64) : VM := aD (aW B (10 * i + r) w) (10 * i + r) d
section CXS
variable {q n : Nat} {σ : fr_S} {B : VM}
theorem CXn.u (hq : 27 ≤ q) (h : CXn σ q B n) {i u : Nat} (hi : i < 6) : CXn (sI σ (9 + 3 * i) 3 (nI u)) q (aI B 3 i u) n := by
  obtain ⟨a, b, c, d, e, f, g, r, s, t⟩ := h
  refine ⟨(gI_n (Or.inl (by omega))).trans (a.trans ?_), (gI_n (Or.inl (by omega))).trans (b.trans ?_), (gI_n (Or.inl (by omega))).trans (c.trans ?_), (gI_n (Or.inl (by omega))).trans (d.trans ?_), e, f, fun j hj => ?_, fun j hj hD => ?_, s, fun k hk => (gI_n (Or.inl (by omega))).trans (t k hk)⟩
  · show _ = nI (uf B.1 3 i u 0 0); rw [uf_n (Or.inl (by decide))]
  · show _ = nI (uf B.1 3 i u 1 0); rw [uf_n (Or.inl (by decide))]
  · show _ = nI (uf B.1 3 i u 5 0); rw [uf_n (Or.inl (by decide))]
  · show _ = nI (uf B.1 3 i u 4 0); rw [uf_n (Or.inl (by decide))]
  · show _ = nI (uf B.1 3 i u 3 j)
    by_cases z : j = i
    · subst z
      rw [gI_s, uf_s]
    · rw [gI_n (Or.inl (by omega)), uf_n (Or.inr z)]
      exact g j hj
  · show _ = some (q + 5 + 85 * uf B.1 3 i u 2 j)
    rw [uf_n (Or.inl (by decide))]
    exact r j hj hD
theorem CXn.set (h : CXn σ q B n) {i r : Nat} (hi : i < 6) (hr : r < 10) {w : Int64} {d : UInt64} : CXn (sD (sL σ (9 + 3 * i + 1) r w) (9 + 3 * i + 2) r d) q (kset B i r w d) n := by
  obtain ⟨a, b, c, d1, e, f, g, r1, s, t⟩ := h
  refine ⟨a, b, c, d1, ?_, ?_, g, r1, fun j hj x hx => ⟨?_, ?_⟩, t⟩
  · rw [show gL (sD (sL σ (9 + 3 * i + 1) r w) (9 + 3 * i + 2) r d) 7 5 = gL (sL σ (9 + 3 * i + 1) r w) 7 5 from rfl, gL_n (Or.inl (by omega)), e]
    show _ = va_up B.2.1 (10 * i + r) w 60
    unfold va_up
    rw [if_neg (by omega)]
  · rw [gD_n (Or.inl (by omega))]
    show gD σ 7 6 = va_up B.2.2.1 (10 * i + r) d 60
    rw [f]
    unfold va_up
    rw [if_neg (by omega)]
  · rw [show gL (sD (sL σ (9 + 3 * i + 1) r w) (9 + 3 * i + 2) r d) (9 + 3 * j + 1) x = gL (sL σ (9 + 3 * i + 1) r w) (9 + 3 * j + 1) x from rfl]
    show _ = va_up B.2.1 (10 * i + r) w (10 * j + x)
    unfold va_up
    by_cases z : j = i ∧ x = r
    · obtain ⟨rfl, rfl⟩ := z
      rw [gL_s, if_pos rfl]
    · rw [gL_n (by omega), if_neg (by omega)]
      exact (s j hj x hx).1
  · show _ = va_up B.2.2.1 (10 * i + r) d (10 * j + x)
    unfold va_up
    by_cases z : j = i ∧ x = r
    · obtain ⟨rfl, rfl⟩ := z
      rw [gD_s, if_pos rfl]
    · rw [gD_n (by omega), if_neg (by omega)]
      exact (s j hj x hx).2
theorem CXn.stop (hq : 27 ≤ q) (h : CXn σ q B n) {x : Nat} : CXn (sI (sI σ 7 2 3) 7 3 (nI x)) q (aI (aI B 0 0 3) 5 0 x) n := by
  obtain ⟨a, b, c, d, e, f, g, r, s, t⟩ := h
  have v : ∀ p y, (p ≠ 0 ∨ y ≠ 0) → (p ≠ 5 ∨ y ≠ 0) → (aI (aI B 0 0 3) 5 0 x).1 p y = B.1 p y := fun p y h1 h2 => by
    show uf (uf B.1 0 0 3) 5 0 x p y = _
    rw [uf_n h2, uf_n h1]
  refine ⟨?_, ?_, ?_, ?_, e, f, fun j hj => ?_, fun j hj hD => ?_, s, fun k hk => (gI_n (Or.inl (by omega))).trans ((gI_n (Or.inl (by omega))).trans (t k hk))⟩
  · rw [gI_n (Or.inr (by decide)), gI_s]
    show (3 : Int32) = nI (uf (uf B.1 0 0 3) 5 0 x 0 0)
    rw [uf_n (Or.inl (by decide)), uf_s]
    rfl
  · rw [gI_n (Or.inr (by decide)), gI_n (Or.inr (by decide)), b, v 1 0 (by omega) (by omega)]
  · rw [gI_s]
    show _ = nI (uf (uf B.1 0 0 3) 5 0 x 5 0)
    rw [uf_s]
  · rw [gI_n (Or.inr (by decide)), gI_n (Or.inr (by decide)), d, v 4 0 (by omega) (by omega)]
  · rw [gI_n (Or.inl (by omega)), gI_n (Or.inl (by omega)), g j hj, v 3 j (by omega) (by omega)]
  · rw [v 2 j (by omega) (by omega)]
    exact r j hj hD
theorem CXn.fld (h27 : 27 ≤ q) (h : CXn σ q B n) {k : Nat} {v : Int32} : CXn (sI σ (q + 2) k v) q (aF B k v) n := by
  obtain ⟨a, b, c, d, e, f, g, r, s, t⟩ := h
  refine ⟨(gI_n (Or.inl (by omega))).trans a, (gI_n (Or.inl (by omega))).trans b, (gI_n (Or.inl (by omega))).trans c, (gI_n (Or.inl (by omega))).trans d, e, f, fun j hj => (gI_n (Or.inl (by omega))).trans (g j hj), r, s, fun j hj => ?_⟩
  show _ = va_up B.2.2.2 k v j
  unfold va_up
  by_cases z : j = k
  · subst z
    rw [gI_s, if_pos rfl]
  · rw [gI_n (Or.inr z), if_neg z]
    exact t j hj
end CXS


section CXM
variable {q n : Nat} {σ : fr_S} {B : VM}
theorem CXn.o (hq : 27 ≤ q) (h : CXn σ q B n) {D : Nat} : CXn (sI σ 7 1 (nI D)) q (aI B 1 0 D) n := by
  obtain ⟨a, b, c, d, e, f, g, r, s, t⟩ := h
  have v : ∀ p y, (p ≠ 1 ∨ y ≠ 0) → (aI B 1 0 D).1 p y = B.1 p y := fun p y h1 => by
    show uf B.1 1 0 D p y = _
    rw [uf_n h1]
  refine ⟨(gI_n (Or.inr (by decide))).trans (a.trans ?_), ?_, (gI_n (Or.inr (by decide))).trans (c.trans ?_), (gI_n (Or.inr (by decide))).trans (d.trans ?_), e, f, fun j hj => (gI_n (Or.inl (by omega))).trans ((g j hj).trans ?_), fun j hj hD => ?_, s, fun k hk => (gI_n (Or.inl (by omega))).trans (t k hk)⟩
  · rw [v 0 0 (by omega)]
  · rw [gI_s]
    show _ = nI (uf B.1 1 0 D 1 0)
    rw [uf_s]
  · rw [v 5 0 (by omega)]
  · rw [v 4 0 (by omega)]
  · rw [v 3 j (by omega)]
  · rw [v 2 j (by omega)]
    exact r j hj hD
theorem CXn.c (hq : 27 ≤ q) (h : CXn σ q B n) {D : Nat} : CXn (sI σ 7 2 (nI D)) q (aI B 0 0 D) n := by
  obtain ⟨a, b, c, d, e, f, g, r, s, t⟩ := h
  have v : ∀ p y, (p ≠ 0 ∨ y ≠ 0) → (aI B 0 0 D).1 p y = B.1 p y := fun p y h1 => by
    show uf B.1 0 0 D p y = _
    rw [uf_n h1]
  refine ⟨?_, (gI_n (Or.inr (by decide))).trans (b.trans ?_), (gI_n (Or.inr (by decide))).trans (c.trans ?_), (gI_n (Or.inr (by decide))).trans (d.trans ?_), e, f, fun j hj => (gI_n (Or.inl (by omega))).trans ((g j hj).trans ?_), fun j hj hD => ?_, s, fun k hk => (gI_n (Or.inl (by omega))).trans (t k hk)⟩
  · rw [gI_s]
    show _ = nI (uf B.1 0 0 D 0 0)
    rw [uf_s]
  · rw [v 1 0 (by omega)]
  · rw [v 5 0 (by omega)]
  · rw [v 4 0 (by omega)]
  · rw [v 3 j (by omega)]
  · rw [v 2 j (by omega)]
    exact r j hj hD
theorem CXn.t (hq : 27 ≤ q) (h : CXn σ q B n) {D : Nat} : CXn (sI σ 7 3 (nI D)) q (aI B 5 0 D) n := by
  obtain ⟨a, b, c, d, e, f, g, r, s, t⟩ := h
  have v : ∀ p y, (p ≠ 5 ∨ y ≠ 0) → (aI B 5 0 D).1 p y = B.1 p y := fun p y h1 => by
    show uf B.1 5 0 D p y = _
    rw [uf_n h1]
  refine ⟨(gI_n (Or.inr (by decide))).trans (a.trans ?_), (gI_n (Or.inr (by decide))).trans (b.trans ?_), ?_, (gI_n (Or.inr (by decide))).trans (d.trans ?_), e, f, fun j hj => (gI_n (Or.inl (by omega))).trans ((g j hj).trans ?_), fun j hj hD => ?_, s, fun k hk => (gI_n (Or.inl (by omega))).trans (t k hk)⟩
  · rw [v 0 0 (by omega)]
  · rw [v 1 0 (by omega)]
  · rw [gI_s]
    show _ = nI (uf B.1 5 0 D 5 0)
    rw [uf_s]
  · rw [v 4 0 (by omega)]
  · rw [v 3 j (by omega)]
  · rw [v 2 j (by omega)]
    exact r j hj hD
/-- the result is laid down -/
theorem CXn.re (hq : 27 ≤ q) (h : CXn σ q B n) {us : Nat} {w : Int64} {d0 : UInt64} : CXn (sD (sL (sI σ 7 4 (nI us)) 7 5 w) 7 6 d0) q (aD (aW (aI B 4 0 us) 60 w) 60 d0) n := by
  obtain ⟨a, b, c, d, e, f, g, r, s, t⟩ := h
  have v : ∀ p y, (p ≠ 4 ∨ y ≠ 0) → (aD (aW (aI B 4 0 us) 60 w) 60 d0).1 p y = B.1 p y := fun p y h1 => by
    show uf B.1 4 0 us p y = _
    rw [uf_n h1]
  have gi : ∀ o k, (o ≠ 7 ∨ k ≠ 4) → gI (sD (sL (sI σ 7 4 (nI us)) 7 5 w) 7 6 d0) o k = gI σ o k := fun o k z => gI_n z
  refine ⟨(gi _ _ (by decide)).trans (a.trans ?_), (gi _ _ (by decide)).trans (b.trans ?_), (gi _ _ (by decide)).trans (c.trans ?_), ?_, ?_, ?_, fun j hj => (gi _ _ (by omega)).trans ((g j hj).trans ?_), fun j hj hD => ?_, fun j hj x hx => ⟨?_, ?_⟩, fun k hk => (gi _ _ (by omega)).trans (t k hk)⟩
  · rw [v 0 0 (by omega)]
  · rw [v 1 0 (by omega)]
  · rw [v 5 0 (by omega)]
  · rw [show gI (sD (sL (sI σ 7 4 (nI us)) 7 5 w) 7 6 d0) 7 4 = gI (sI σ 7 4 (nI us)) 7 4 from rfl, gI_s]
    show _ = nI (uf B.1 4 0 us 4 0)
    rw [uf_s]
  · rw [show gL (sD (sL (sI σ 7 4 (nI us)) 7 5 w) 7 6 d0) 7 5 = gL (sL (sI σ 7 4 (nI us)) 7 5 w) 7 5 from rfl, gL_s]
    show _ = va_up B.2.1 60 w 60
    simp [va_up]
  · rw [gD_s]
    show _ = va_up B.2.2.1 60 d0 60
    simp [va_up]
  · rw [v 3 j (by omega)]
  · rw [v 2 j (by omega)]
    exact r j hj hD
  · rw [show gL (sD (sL (sI σ 7 4 (nI us)) 7 5 w) 7 6 d0) (9 + 3 * j + 1) x = gL (sL (sI σ 7 4 (nI us)) 7 5 w) (9 + 3 * j + 1) x from rfl, gL_n (Or.inl (by omega))]
    show gL σ (9 + 3 * j + 1) x = va_up B.2.1 60 w (10 * j + x)
    unfold va_up
    rw [if_neg (by omega)]
    exact (s j hj x hx).1
  · rw [gD_n (Or.inl (by omega))]
    show gD σ (9 + 3 * j + 2) x = va_up B.2.2.1 60 d0 (10 * j + x)
    unfold va_up
    rw [if_neg (by omega)]
    exact (s j hj x hx).2
/-- a frame is entered -/
theorem CXn.fr (hq : 27 ≤ q) (h : CXn σ q B n) {c : Nat} (hn : n < 6) : CXn (sI (sR σ (9 + 3 * n) 2 (some (q + 5 + 85 * c))) (9 + 3 * n) 3 0) q (aI (aI B 2 n c) 3 n 0) (n + 1) := by
  have h2 : CXn (sR σ (9 + 3 * n) 2 (some (q + 5 + 85 * c))) q (aI B 2 n c) (n + 1) := by
    obtain ⟨a, b, c1, d, e, f, g, r, s, t⟩ := h
    have v : ∀ p y, (p ≠ 2 ∨ y ≠ n) → (aI B 2 n c).1 p y = B.1 p y := fun p y h1 => by
      show uf B.1 2 n c p y = _
      rw [uf_n h1]
    refine ⟨?_, ?_, ?_, ?_, e, f, fun j hj => ?_, fun j hj hD => ?_, s, t⟩
    · rw [v 0 0 (by omega)]; exact a
    · rw [v 1 0 (by omega)]; exact b
    · rw [v 5 0 (by omega)]; exact c1
    · rw [v 4 0 (by omega)]; exact d
    · rw [v 3 j (by omega)]; exact g j hj
    · by_cases z : j = n
      · subst z
        show (if 9 + 3 * j = 9 + 3 * j ∧ 2 = 2 then some (q + 5 + 85 * c) else _) = some (q + 5 + 85 * uf B.1 2 j c 2 j)
        rw [if_pos ⟨rfl, rfl⟩, uf_s]
      · rw [v 2 j (by omega)]
        show (if 9 + 3 * j = 9 + 3 * n ∧ 2 = 2 then some (q + 5 + 85 * c) else σ.2.2.2 (9 + 3 * j) 2) = _
        rw [if_neg (by omega)]
        exact r j hj (by omega)
  exact h2.u (u := 0) hq hn
end CXM

