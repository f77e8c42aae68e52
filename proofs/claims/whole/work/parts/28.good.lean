/-! what a file that isn't ill holds -/
theorem nx_o {b : Nat → Nat} {n lo hi d : Nat} {s : PS} (h : s.2 = true) : nx b n lo hi d s = (d, s) := by
  unfold nx
  rw [if_pos h]
/-- other entries than those read stay -/
theorem rdU_x {b : Nat → Nat} {n m : Nat} {q : (Nat → Nat → Nat) × PS} {a y : Nat} : ∀ k, (a ≠ 7 ∨ y < 40 * m ∨ 40 * m + k ≤ y) → (rdU b n m k q).1 a y = q.1 a y
  | 0, _ => rfl
  | k + 1, h => by
    show uf _ _ _ _ a y = _
    rw [uf_n (by omega)]
    exact rdU_x k (by omega)
theorem rdP_x {b : Nat → Nat} {n m : Nat} {dl : Bool} {q : (Nat → Nat → Nat) × PS} {a y : Nat} : ∀ k, (a ≠ 4 ∨ y < 3 * m ∨ 3 * m + k ≤ y) → (rdP b n m dl k q).1 a y = q.1 a y
  | 0, _ => rfl
  | k + 1, h => by
    show uf _ _ _ _ a y = _
    rw [uf_n (by omega)]
    exact rdP_x k (by omega)
theorem rdU_g {b : Nat → Nat} {n m : Nat} {q : (Nat → Nat → Nat) × PS} : ∀ k, (rdU b n m k q).2.2 = false → q.2.2 = false ∧ (rdU b n m k q).2.1 = q.2.1 + 2 * k ∧ ∀ j, j < k → (rdU b n m k q).1 7 (40 * m + j) = b (q.2.1 + 2 * j) + 256 * b (q.2.1 + 2 * j + 1)
  | 0, h => ⟨h, rfl, fun j hj => absurd hj (Nat.not_lt_zero _)⟩
  | k + 1, h => by
    obtain ⟨h1, h2, h3, -⟩ := nx_g (show (nx b n 0 255 0 (nx b n 0 255 0 (rdU b n m k q).2).2).2.2 = false from h)
    obtain ⟨g1, g2, g3, -⟩ := nx_g h1
    obtain ⟨i1, i2, i3⟩ := rdU_g k g1
    refine ⟨i1, ?_, fun j hj => ?_⟩
    · show (nx b n 0 255 0 (nx b n 0 255 0 (rdU b n m k q).2).2).2.1 = _
      omega
    · show uf _ _ _ _ 7 (40 * m + j) = _
      by_cases e : j = k
      · subst e
        rw [uf_s, h3, g3, g2, i2]
      · rw [uf_n (by omega)]
        exact i3 j (by omega)
theorem rdP_g {b : Nat → Nat} {n m : Nat} {dl : Bool} {q : (Nat → Nat → Nat) × PS} : ∀ k, (rdP b n m dl k q).2.2 = false → q.2.2 = false ∧ (rdP b n m dl k q).2.1 = q.2.1 + k ∧ ∀ j, j < k → (rdP b n m dl k q).1 4 (3 * m + j) = b (q.2.1 + j) ∧ 1 ≤ b (q.2.1 + j) ∧ b (q.2.1 + j) ≤ 4
  | 0, h => ⟨h, rfl, fun j hj => absurd hj (Nat.not_lt_zero _)⟩
  | k + 1, h => by
    obtain ⟨h1, h2, h3, -, h4, h5⟩ := nx_g (show (nx b n 1 4 (if dl = true then 1 else 0) (rdP b n m dl k q).2).2.2 = false from h)
    obtain ⟨i1, i2, i3⟩ := rdP_g k h1
    refine ⟨i1, ?_, fun j hj => ?_⟩
    · show (nx b n 1 4 (if dl = true then 1 else 0) (rdP b n m dl k q).2).2.1 = _
      omega
    · show uf _ _ _ _ 4 (3 * m + j) = _ ∧ _
      by_cases e : j = k
      · subst e
        rw [uf_s, h3, i2]
        rw [i2] at h4 h5
        exact ⟨rfl, h4, h5⟩
      · rw [uf_n (by omega)]
        exact i3 j (by omega)
/-- method m of F is what lies in b from p to p' -/
def PM (b : Nat → Nat) (m : Nat) (F : Nat → Nat → Nat) (p p' : Nat) : Prop :=
  F 2 m = b p ∧ F 3 m = b (p + 1) ∧ F 3 m ≤ 3 ∧ (∀ j, j < F 3 m → F 4 (3 * m + j) = b (p + 2 + j) ∧ 1 ≤ b (p + 2 + j) ∧ b (p + 2 + j) ≤ 4) ∧ F 5 m = b (p + 2 + F 3 m) ∧ pwF F m ≤ F 5 m ∧ F 5 m ≤ 10 ∧ 1 ≤ F 6 m ∧ F 6 m ≤ 40
  ∧ ∃ u, ((b (p + 3 + F 3 m) ≤ 127 ∧ F 6 m = b (p + 3 + F 3 m) ∧ u = p + 4 + F 3 m) ∨ (127 < b (p + 3 + F 3 m) ∧ F 6 m = b (p + 3 + F 3 m) % 128 + 128 * b (p + 4 + F 3 m) ∧ u = p + 5 + F 3 m)) ∧ (∀ j, j < F 6 m → F 7 (40 * m + j) = b (u + 2 * j) + 256 * b (u + 2 * j + 1)) ∧ p' = u + 2 * F 6 m
theorem rdN_g {b : Nat → Nat} {n : Nat} {s : PS} (h : (rdN b n s).2.2 = false) : s.2 = false ∧ ((b s.1 ≤ 127 ∧ (rdN b n s).1 = b s.1 ∧ (rdN b n s).2.1 = s.1 + 1) ∨ (127 < b s.1 ∧ (rdN b n s).1 = b s.1 % 128 + 128 * b (s.1 + 1) ∧ (rdN b n s).2.1 = s.1 + 2)) := by
  unfold rdN at h ⊢
  by_cases c : 127 < (nx b n 0 255 0 s).1
  · rw [if_pos c] at h ⊢
    obtain ⟨h1, h2, h3, -⟩ := nx_g h
    obtain ⟨g1, g2, g3, -⟩ := nx_g h1
    rw [g3] at c
    refine ⟨g1, Or.inr ⟨c, ?_, ?_⟩⟩
    · show (nx b n 0 255 0 s).1 % 128 + 128 * (nx b n 0 127 0 (nx b n 0 255 0 s).2).1 = _
      rw [g3, h3, g2]
    · show (nx b n 0 127 0 (nx b n 0 255 0 s).2).2.1 = _
      omega
  · rw [if_neg c] at h ⊢
    obtain ⟨g1, g2, g3, -⟩ := nx_g h
    rw [g3] at c
    refine ⟨g1, Or.inl ⟨by omega, ?_, g2⟩⟩
    show (nx b n 0 255 0 s).1 % 128 = _
    rw [g3]
    exact Nat.mod_eq_of_lt (by omega)
theorem rdS_t {u : Nat × PS} (h : (rdS u).2 = false) : u.2.2 = false ∧ rdS u = u.2 ∧ 1 ≤ u.1 ∧ u.1 ≤ 40 := by
  by_cases c : u.2.2 = false ∧ (u.1 < 1 ∨ 40 < u.1)
  · unfold rdS at h
    rw [if_pos c] at h
    cases h
  · have e : rdS u = u.2 := by unfold rdS; rw [if_neg c]
    rw [e] at h
    refine ⟨h, e, ?_, ?_⟩
    · refine Nat.le_of_not_lt fun q => c ⟨h, Or.inl (by omega)⟩
    · refine Nat.le_of_not_lt fun q => c ⟨h, Or.inr (by omega)⟩
/-- the entries of other methods -/
def OT (m : Nat) (F F' : Nat → Nat → Nat) : Prop := ∀ a y, (a ≤ 1 ∨ ((a = 2 ∨ a = 3 ∨ a = 5 ∨ a = 6) ∧ y ≠ m) ∨ (a = 4 ∧ (y < 3 * m ∨ 3 * m + 3 ≤ y)) ∨ (a = 7 ∧ (y < 40 * m ∨ 40 * m + 40 ≤ y))) → F' a y = F a y
theorem PM.ot {b : Nat → Nat} {m m' : Nat} {F F' : Nat → Nat → Nat} {p p' : Nat} (h : PM b m' F p p') (o : OT m F F') (hne : m' ≠ m) : PM b m' F' p p' := by
  obtain ⟨h1, h2, h3, h4, h5, h6, h7, h8, h9, u, h10, h11, h12⟩ := h
  have e2 : F' 2 m' = F 2 m' := o 2 m' (by omega)
  have e3 : F' 3 m' = F 3 m' := o 3 m' (by omega)
  have e5 : F' 5 m' = F 5 m' := o 5 m' (by omega)
  have e6 : F' 6 m' = F 6 m' := o 6 m' (by omega)
  have e4 : ∀ j, j < 3 → F' 4 (3 * m' + j) = F 4 (3 * m' + j) := fun j hj => o 4 _ (by omega)
  have ew : pwF F' m' = pwF F m' := by
    unfold pwF
    rw [e3]
    exact sw_eq fun i hi => e4 i (by omega)
  unfold PM
  rw [e2, e3, e5, e6, ew]
  refine ⟨h1, h2, h3, fun j hj => ?_, h5, h6, h7, h8, h9, u, h10, fun j hj => ?_, h12⟩
  · rw [e4 j (by omega)]
    exact h4 j hj
  · rw [o 7 _ (by omega)]
    exact h11 j hj
/-- two readings of the same bytes -/
theorem PM.eq {b : Nat → Nat} {m m' : Nat} {F F' : Nat → Nat → Nat} {p p1 p2 : Nat} (h : PM b m F p p1) (k : PM b m' F' p p2) : p1 = p2 ∧ F' 2 m' = F 2 m ∧ F' 3 m' = F 3 m ∧ F' 5 m' = F 5 m ∧ F' 6 m' = F 6 m ∧ (∀ j, j < F 3 m → F' 4 (3 * m' + j) = F 4 (3 * m + j)) ∧ ∀ j, j < F 6 m → F' 7 (40 * m' + j) = F 7 (40 * m + j) := by
  obtain ⟨h1, h2, h3, h4, h5, h6, h7, h8, h9, u, h10, h11, h12⟩ := h
  obtain ⟨k1, k2, k3, k4, k5, k6, k7, k8, k9, v, k10, k11, k12⟩ := k
  have e3 : F' 3 m' = F 3 m := by omega
  rw [e3] at k10
  have e6 : F' 6 m' = F 6 m ∧ v = u := by
    rcases h10 with h10 | h10 <;> rcases k10 with k10 | k10 <;> omega
  obtain ⟨e6, ev⟩ := e6
  subst ev
  refine ⟨by omega, by omega, e3, by rw [k5, h5, e3], e6, fun j hj => ?_, fun j hj => ?_⟩
  · rw [(k4 j (by omega)).1, (h4 j hj).1]
  · rw [k11 j (by omega), h11 j hj]
theorem rdM_g {b : Nat → Nat} {n m : Nat} {F : Nat → Nat → Nat} {s : PS} (h : (rdM b n m F s).2.2 = false) : s.2 = false ∧ PM b m (rdM b n m F s).1 s.1 (rdM b n m F s).2.1 := by
  unfold rdM at h ⊢
  obtain ⟨x, hx⟩ : ∃ x, x = nx b n 0 4 0 s := ⟨_, rfl⟩
  rw [← hx] at h ⊢
  obtain ⟨y, hy⟩ : ∃ z, z = nx b n 0 3 0 x.2 := ⟨_, rfl⟩
  rw [← hy] at h ⊢
  obtain ⟨q, hq⟩ : ∃ q, q = rdP b n m false y.1 (uf (uf F 2 m x.1) 3 m y.1, y.2) := ⟨_, rfl⟩
  rw [← hq] at h ⊢
  unfold rdT at h ⊢
  obtain ⟨w, hw⟩ : ∃ w, w = nx b n (pwF q.1 m) 10 0 q.2 := ⟨_, rfl⟩
  rw [← hw] at h ⊢
  obtain ⟨u, hu⟩ : ∃ u, u = rdN b n w.2 := ⟨_, rfl⟩
  rw [← hu] at h ⊢
  by_cases c : (rdS u).2 = true
  · rw [if_pos c] at h
    exact absurd (c.symm.trans h) (by decide)
  · have c' : (rdS u).2 = false := by simpa using c
    rw [if_neg c] at h ⊢
    obtain ⟨u1, u2, u3, u4⟩ := rdS_t c'
    rw [u2] at h ⊢
    obtain ⟨-, g2, g3⟩ := rdU_g u.1 h
    obtain ⟨w1, w2⟩ := rdN_g (show (rdN b n w.2).2.2 = false from hu ▸ u1)
    obtain ⟨q1, q2, q3, -, q4, q5⟩ := nx_g (show (nx b n (pwF q.1 m) 10 0 q.2).2.2 = false from hw ▸ w1)
    rw [← hw] at q2 q3
    rw [← hu] at w2
    obtain ⟨p1, p2, p3⟩ := rdP_g y.1 (show (rdP b n m false y.1 (uf (uf F 2 m x.1) 3 m y.1, y.2)).2.2 = false from hq ▸ q1)
    rw [← hq] at p2 p3
    obtain ⟨y1, y2, y3, -, -, y5⟩ := nx_g (show (nx b n 0 3 0 x.2).2.2 = false from hy ▸ p1)
    rw [← hy] at y2 y3
    obtain ⟨x1, x2, x3, -⟩ := nx_g (show (nx b n 0 4 0 s).2.2 = false from hx ▸ y1)
    rw [← hx] at x2 x3
    dsimp only at p2 p3
    have f2 : (rdU b n m u.1 (uf (uf q.1 5 m w.1) 6 m u.1, u.2)).1 2 m = x.1 := by
      rw [rdU_o (by decide)]
      dsimp only
      rw [uf_n (Or.inl (by decide)), uf_n (Or.inl (by decide)), hq, rdP_o (by decide)]
      dsimp only
      rw [uf_n (Or.inl (by decide)), uf_s]
    have f3 : (rdU b n m u.1 (uf (uf q.1 5 m w.1) 6 m u.1, u.2)).1 3 m = y.1 := by
      rw [rdU_o (by decide)]
      dsimp only
      rw [uf_n (Or.inl (by decide)), uf_n (Or.inl (by decide)), hq, rdP_o (by decide)]
      dsimp only
      rw [uf_s]
    have f4 : ∀ z, (rdU b n m u.1 (uf (uf q.1 5 m w.1) 6 m u.1, u.2)).1 4 z = q.1 4 z := fun z => by
      rw [rdU_o (by decide)]
      dsimp only
      rw [uf_n (Or.inl (by decide)), uf_n (Or.inl (by decide))]
    have f5 : (rdU b n m u.1 (uf (uf q.1 5 m w.1) 6 m u.1, u.2)).1 5 m = w.1 := by
      rw [rdU_o (by decide)]
      dsimp only
      rw [uf_n (Or.inl (by decide)), uf_s]
    have f6 : (rdU b n m u.1 (uf (uf q.1 5 m w.1) 6 m u.1, u.2)).1 6 m = u.1 := by
      rw [rdU_o (by decide)]
      dsimp only
      rw [uf_s]
    have fq3 : q.1 3 m = y.1 := by
      rw [hq, rdP_o (by decide)]
      dsimp only
      rw [uf_s]
    have fw : pwF (rdU b n m u.1 (uf (uf q.1 5 m w.1) 6 m u.1, u.2)).1 m = pwF q.1 m := by
      unfold pwF
      rw [f3, fq3]
      exact sw_eq fun i _ => f4 _
    dsimp only at g2 g3
    refine ⟨x1, ?_⟩
    unfold PM
    rw [f2, f3, f5, f6, fw]
    refine ⟨x3, by rw [y3, x2], by omega, fun j hj => ?_, by rw [q3, p2, y2, x2, show s.1 + 2 + y.1 = s.1 + 1 + 1 + y.1 by omega], by omega, by omega, u3, u4, u.2.1, ?_, fun j hj => g3 j hj, g2⟩
    · rw [f4]
      have := p3 j hj
      rw [y2, x2, show s.1 + 1 + 1 + j = s.1 + 2 + j by omega] at this
      exact this
    · rw [q2, p2, y2, x2] at w2
      rw [show s.1 + 3 + y.1 = s.1 + 1 + 1 + y.1 + 1 by omega, show s.1 + 4 + y.1 = s.1 + 1 + 1 + y.1 + 1 + 1 by omega, show s.1 + 5 + y.1 = s.1 + 1 + 1 + y.1 + 1 + 2 by omega]
      rcases w2 with w2 | w2
      · exact Or.inl w2
      · exact Or.inr w2
theorem rdM_ot {b : Nat → Nat} {n m : Nat} {F : Nat → Nat → Nat} {s : PS} : OT m F (rdM b n m F s).1 := fun a y h => by
  have h3 : (nx b n 0 3 0 (nx b n 0 4 0 s).2).1 ≤ 3 := nx_le (Nat.zero_le _)
  have key : ∀ k, k ≤ 3 → ∀ F0 s0, (rdP b n m false k (uf (uf F 2 m F0) 3 m k, s0)).1 a y = F a y := fun k hk F0 s0 => by
    rw [rdP_x k (by omega)]
    dsimp only
    rw [uf_n (by omega), uf_n (by omega)]
  unfold rdM rdT
  split
  · dsimp only
    rw [uf_n (by omega)]
    exact key _ h3 _ _
  · rename_i c
    have c2 := rdS_t (by simpa using c)
    rw [rdU_x _ (by omega)]
    dsimp only
    rw [uf_n (by omega), uf_n (by omega)]
    exact key _ h3 _ _
/-- methods that were read one behind the other -/
def PMs (b : Nat → Nat) (o : Nat) (F : Nat → Nat → Nat) (p : Nat) : Nat → Nat → Prop
  | 0, p' => p' = p
  | k + 1, p' => ∃ q, PMs b o F p k q ∧ PM b (o + k) F q p'
theorem PMs.ot {b : Nat → Nat} {o m : Nat} {F F' : Nat → Nat → Nat} {p : Nat} (ho : OT m F F') : ∀ {k p' : Nat}, o + k ≤ m → PMs b o F p k p' → PMs b o F' p k p'
  | 0, _, _, h => h
  | k + 1, _, hk, ⟨q, h1, h2⟩ => ⟨q, h1.ot ho (by omega), h2.ot ho (by omega)⟩
theorem rdL_g {b : Nat → Nat} {n : Nat} {q : (Nat → Nat → Nat) × PS} : ∀ k, (rdL b n q k).2.2 = false → q.2.2 = false ∧ PMs b 4 (rdL b n q k).1 q.2.1 k (rdL b n q k).2.1
  | 0, h => ⟨h, rfl⟩
  | k + 1, h => by
    by_cases c : (rdL b n q k).2.2 = true
    · have e : rdL b n q (k + 1) = rdL b n q k := by show (if _ then _ else _) = _; rw [if_pos c]
      rw [e] at h
      exact absurd (c.symm.trans h) (by decide)
    · have e : rdL b n q (k + 1) = rdM b n (4 + k) (rdL b n q k).1 (rdL b n q k).2 := by show (if _ then _ else _) = _; rw [if_neg c]
      rw [e] at h ⊢
      obtain ⟨h1, h2⟩ := rdM_g h
      obtain ⟨i1, i2⟩ := rdL_g k h1
      exact ⟨i1, _, i2.ot rdM_ot (by omega), h2⟩
/-! the file that is kept -/
theorem kc1_n {F : Nat → Nat → Nat} {a o x y : Nat} : ∀ {n : Nat}, x ≠ a ∨ n ≤ y → kc1 F a o n x y = F x y
  | 0, _ => rfl
  | n + 1, h => by
    show uf _ _ _ _ x y = _
    rw [uf_n (by omega)]
    exact kc1_n (by omega)
theorem kc1_s {F : Nat → Nat → Nat} {a o y : Nat} : ∀ {n : Nat}, n ≤ o → y < n → kc1 F a o n a y = F a (y + o)
  | 0, _, h => absurd h (Nat.not_lt_zero _)
  | n + 1, ho, h => by
    show uf _ _ _ _ a y = _
    by_cases e : y = n
    · subst e
      rw [uf_s]
      exact kc1_n (Or.inr (by omega))
    · rw [uf_n (Or.inr e)]
      exact kc1_s (by omega) (by omega)
theorem kc4_n {F : Nat → Nat → Nat} {x y : Nat} : ∀ {n : Nat}, (x ≠ 2 ∧ x ≠ 3 ∧ x ≠ 5 ∧ x ≠ 6) ∨ n ≤ y → kc4 F n x y = F x y
  | 0, _ => rfl
  | n + 1, h => by
    show uf (uf (uf (uf _ _ _ _) _ _ _) _ _ _) _ _ _ x y = _
    rw [uf_n (by omega), uf_n (by omega), uf_n (by omega), uf_n (by omega)]
    exact kc4_n (by omega)
theorem kc4_s {F : Nat → Nat → Nat} {x y : Nat} (hx : x = 2 ∨ x = 3 ∨ x = 5 ∨ x = 6) : ∀ {n : Nat}, n ≤ 4 → y < n → kc4 F n x y = F x (y + 4)
  | 0, _, h => absurd h (Nat.not_lt_zero _)
  | n + 1, ho, h => by
    have key : ∀ z, kc4 F n z (n + 4) = F z (n + 4) := fun z => kc4_n (Or.inr (by omega))
    show kst (kc4 F n) n x y = _
    simp only [kst, ku]
    by_cases e : y = n
    · subst e
      rcases hx with rfl | rfl | rfl | rfl
      · rw [uf_n (Or.inl (by decide)), uf_n (Or.inl (by decide)), uf_n (Or.inl (by decide)), uf_s]
        exact key 2
      · rw [uf_n (Or.inl (by decide)), uf_n (Or.inl (by decide)), uf_s, uf_n (Or.inl (by decide))]
        exact key 3
      · rw [uf_n (Or.inl (by decide)), uf_s, uf_n (Or.inl (by decide)), uf_n (Or.inl (by decide))]
        exact key 5
      · rw [uf_s, uf_n (Or.inl (by decide)), uf_n (Or.inl (by decide)), uf_n (Or.inl (by decide))]
        exact key 6
    · rw [uf_n (Or.inr e), uf_n (Or.inr e), uf_n (Or.inr e), uf_n (Or.inr e)]
      exact kc4_s hx (by omega) (by omega)
theorem kp_a {F : Nat → Nat → Nat} {x m : Nat} (hx : x = 2 ∨ x = 3 ∨ x = 5 ∨ x = 6) (hm : m < 4) : kpF F x m = F x (4 + m) := by
  unfold kpF
  rw [kc1_n (Or.inl (by omega)), kc1_n (Or.inl (by omega)), kc4_s hx (Nat.le_refl _) hm, Nat.add_comm m 4]
  show uf _ _ _ _ _ _ = _
  rw [uf_n (Or.inl (by omega))]
  show uf _ _ _ _ _ _ = _
  rw [uf_n (Or.inl (by omega))]
theorem kp_0 {F : Nat → Nat → Nat} : kpF F 0 0 = F 0 1 := by
  unfold kpF
  rw [kc1_n (Or.inl (by omega)), kc1_n (Or.inl (by omega)), kc4_n (Or.inl (by omega))]
  show uf _ _ _ _ _ _ = _
  rw [uf_n (Or.inl (by omega))]
  exact uf_s
theorem kp_1 {F : Nat → Nat → Nat} : kpF F 1 0 = F 1 1 := by
  unfold kpF
  rw [kc1_n (Or.inl (by omega)), kc1_n (Or.inl (by omega)), kc4_n (Or.inl (by omega))]
  refine uf_s.trans ?_
  show uf _ _ _ _ _ _ = _
  rw [uf_n (Or.inl (by omega))]
theorem kp_4 {F : Nat → Nat → Nat} {k : Nat} (hk : k < 12) : kpF F 4 k = F 4 (k + 12) := by
  unfold kpF
  rw [kc1_n (Or.inl (by omega)), kc1_s (Nat.le_refl _) hk, kc4_n (Or.inl (by omega))]
  show uf _ _ _ _ _ _ = _
  rw [uf_n (Or.inl (by omega))]
  show uf _ _ _ _ _ _ = _
  rw [uf_n (Or.inl (by omega))]
theorem kp_7 {F : Nat → Nat → Nat} {k : Nat} (hk : k < 160) : kpF F 7 k = F 7 (k + 160) := by
  unfold kpF
  rw [kc1_s (Nat.le_refl _) hk, kc1_n (Or.inl (by omega)), kc4_n (Or.inl (by omega))]
  show uf _ _ _ _ _ _ = _
  rw [uf_n (Or.inl (by omega))]
  show uf _ _ _ _ _ _ = _
  rw [uf_n (Or.inl (by omega))]
theorem PM.kp {b : Nat → Nat} {m : Nat} {F : Nat → Nat → Nat} {p p' : Nat} (h : PM b (4 + m) F p p') (hm : m < 4) : PM b m (kpF F) p p' := by
  obtain ⟨h1, h2, h3, h4, h5, h6, h7, h8, h9, u, h10, h11, h12⟩ := h
  have e2 : kpF F 2 m = F 2 (4 + m) := kp_a (by omega) hm
  have e3 : kpF F 3 m = F 3 (4 + m) := kp_a (by omega) hm
  have e5 : kpF F 5 m = F 5 (4 + m) := kp_a (by omega) hm
  have e6 : kpF F 6 m = F 6 (4 + m) := kp_a (by omega) hm
  have e4 : ∀ j, j < 3 → kpF F 4 (3 * m + j) = F 4 (3 * (4 + m) + j) := fun j hj => by
    rw [kp_4 (by omega), show 3 * m + j + 12 = 3 * (4 + m) + j by omega]
  have ew : pwF (kpF F) m = pwF F (4 + m) := by
    unfold pwF
    rw [e3]
    exact sw_eq fun i hi => e4 i (by omega)
  unfold PM
  rw [e2, e3, e5, e6, ew]
  refine ⟨h1, h2, h3, fun j hj => ?_, h5, h6, h7, h8, h9, u, h10, fun j hj => ?_, h12⟩
  · rw [e4 j (by omega)]
    exact h4 j hj
  · rw [kp_7 (by omega), show 40 * m + j + 160 = 40 * (4 + m) + j by omega]
    exact h11 j hj
theorem PMs.kp {b : Nat → Nat} {F : Nat → Nat → Nat} {p : Nat} : ∀ {k p' : Nat}, k ≤ 4 → PMs b 4 F p k p' → PMs b 0 (kpF F) p k p'
  | 0, _, _, h => h
  | k + 1, _, hk, ⟨q, h1, h2⟩ => ⟨q, h1.kp (by omega), by rw [Nat.zero_add]; exact h2.kp (by omega)⟩
theorem PMs.at {b : Nat → Nat} {o : Nat} {F : Nat → Nat → Nat} {p m : Nat} : ∀ {k p' : Nat}, PMs b o F p k p' → m < k → ∃ q q', PM b (o + m) F q q'
  | 0, _, _, h => absurd h (Nat.not_lt_zero _)
  | k + 1, _, ⟨q, h1, h2⟩, h => by
    by_cases e : m = k
    · subst e
      exact ⟨_, _, h2⟩
    · exact h1.at (by omega)
/-- a file as it is kept: its methods are whole -/
def FV (F : Nat → Nat → Nat) : Prop := FP F ∧ (∀ m, m < F 0 0 → pwF F m ≤ F 5 m) ∧ ∀ m, m < F 0 0 → 1 ≤ F 6 m
theorem PMs.fv {b : Nat → Nat} {F : Nat → Nat → Nat} {p p' : Nat} (h : PMs b 0 F p (F 0 0) p') : FV F := by
  refine ⟨fun c j hc hj => ?_, fun m hm => ?_, fun m hm => ?_⟩
  · obtain ⟨q, q', k⟩ := h.at hc
    rw [Nat.zero_add] at k
    have := k.2.2.2.1 j hj
    rw [this.1]
    exact this.2.1
  · obtain ⟨q, q', k⟩ := h.at hm
    rw [Nat.zero_add] at k
    exact k.2.2.2.2.2.1
  · obtain ⟨q, q', k⟩ := h.at hm
    rw [Nat.zero_add] at k
    exact k.2.2.2.2.2.2.2.1
theorem rdE_g {b : Nat → Nat} {n c : Nat} {s : PS} (h : (rdE b n c s).2 = false) : s.2 = false := by
  unfold rdE rdE0 at h
  repeat' split at h
  all_goals first | (cases h; done) | exact h
/-- where the methods begin in a file -/
def rdB (b : Nat → Nat) (n : Nat) : Nat × PS := ((nx b n 1 4 0 (rdC b n (rdH b n) 4).2).1, (nx b n 0 4 0 (nx b n 1 4 0 (rdC b n (rdH b n) 4).2).2).2)
theorem rdF_p {b : Nat → Nat} {n : Nat} {F : Nat → Nat → Nat} (h : (rdF b n F).2.2 = false) : (rdF b n F).1 0 1 = (rdB b n).1 ∧ (rdF b n F).1 1 1 = (nx b n 0 4 0 (nx b n 1 4 0 (rdC b n (rdH b n) 4).2).2).1 ∧ ∃ p', PMs b 4 (rdF b n F).1 (rdB b n).2.1 (rdB b n).1 p' := by
  have h2 := rdE_g (show (rdE b n (rdC b n (rdH b n) 4).1 (rdL b n (uf (uf F 0 1 (nx b n 1 4 0 (rdC b n (rdH b n) 4).2).1) 1 1 (nx b n 0 4 0 (nx b n 1 4 0 (rdC b n (rdH b n) 4).2).2).1, (nx b n 0 4 0 (nx b n 1 4 0 (rdC b n (rdH b n) 4).2).2).2) (nx b n 1 4 0 (rdC b n (rdH b n) 4).2).1).2).2 = false from h)
  obtain ⟨-, h3⟩ := rdL_g _ h2
  refine ⟨?_, ?_, _, h3⟩
  · show (rdL b n _ _).1 0 1 = _
    rw [rdL_o (by decide)]
    dsimp only
    rw [uf_n (Or.inl (by decide)), uf_s]
    rfl
  · show (rdL b n _ _).1 1 1 = _
    rw [rdL_o (by decide)]
    dsimp only
    rw [uf_s]
theorem rdF_fv {b : Nat → Nat} {n : Nat} {F : Nat → Nat → Nat} (h : (rdF b n F).2.2 = false) : FV (kpF (rdF b n F).1) := by
  obtain ⟨h1, -, p', h3⟩ := rdF_p h
  refine PMs.fv (b := b) (p := (rdB b n).2.1) (p' := p') ?_
  rw [kp_0, h1]
  exact h3.kp (nx_le (by decide))
