/-! the class: a method is read, purely -/
theorem nx_dg {b : Nat → Nat} {n lo hi d d' : Nat} {s : PS} (h : (nx b n lo hi d s).2.2 = false) : nx b n lo hi d s = nx b n lo hi d' s := by
  unfold nx at h ⊢
  split
  · rename_i c
    rw [if_pos c] at h
    rw [c] at h
    cases h
  · rename_i c
    rw [if_neg c] at h
    split
    · rfl
    · rename_i c2
      rw [if_neg c2] at h
      cases h
theorem rdP_2 {b : Nat → Nat} {n m m' : Nat} {dl dl' : Bool} {F F' : Nat → Nat → Nat} {s : PS} : ∀ k, (rdP b n m dl k (F, s)).2 = (rdP b n m' dl' k (F', s)).2
  | 0 => rfl
  | k + 1 => by
    show (nx b n 1 4 _ (rdP b n m dl k (F, s)).2).2 = (nx b n 1 4 _ (rdP b n m' dl' k (F', s)).2).2
    rw [rdP_2 (m := m) (m' := m') (dl := dl) (dl' := dl') (F := F) (F' := F') k]
    exact nx_d
theorem rdU_2 {b : Nat → Nat} {n m m' : Nat} {F F' : Nat → Nat → Nat} {s : PS} : ∀ k, (rdU b n m k (F, s)).2 = (rdU b n m' k (F', s)).2
  | 0 => rfl
  | k + 1 => by
    show (nx b n 0 255 0 (nx b n 0 255 0 (rdU b n m k (F, s)).2).2).2 = (nx b n 0 255 0 (nx b n 0 255 0 (rdU b n m' k (F', s)).2).2).2
    rw [rdU_2 (m := m) (m' := m') (F := F) (F' := F') k]
theorem rdU_i {b : Nat → Nat} {n m : Nat} {F : Nat → Nat → Nat} {s : PS} (h : s.2 = true) : ∀ k, (rdU b n m k (F, s)).2 = s
  | 0 => rfl
  | k + 1 => by
    show (nx b n 0 255 0 (nx b n 0 255 0 (rdU b n m k (F, s)).2).2).2 = s
    rw [rdU_i h k, nx_o h, nx_o h]
theorem rdP_d {b : Nat → Nat} {n m : Nat} {q : (Nat → Nat → Nat) × PS} : ∀ k, (rdP b n m true k q).2.2 = false → rdP b n m true k q = rdP b n m false k q
  | 0, _ => rfl
  | k + 1, h => by
    have h' : (nx b n 1 4 1 (rdP b n m true k q).2).2.2 = false := h
    have e := rdP_d k (nx_g h').1
    show (uf (rdP b n m true k q).1 4 (3 * m + k) (nx b n 1 4 1 (rdP b n m true k q).2).1, (nx b n 1 4 1 (rdP b n m true k q).2).2) = (uf (rdP b n m false k q).1 4 (3 * m + k) (nx b n 1 4 0 (rdP b n m false k q).2).1, (nx b n 1 4 0 (rdP b n m false k q).2).2)
    rw [nx_dg (d' := 0) h', e]
/-- a method as the class reads it -/
def rqC (b : Nat → Nat) (n m : Nat) (F : Nat → Nat → Nat) (s : PS) : (Nat → Nat → Nat) × PS := rdP b n m true (nx b n 0 3 0 (nx b n 0 4 0 s).2).1 (uf (uf F 2 m (nx b n 0 4 0 s).1) 3 m (nx b n 0 3 0 (nx b n 0 4 0 s).2).1, (nx b n 0 3 0 (nx b n 0 4 0 s).2).2)
def rtC (b : Nat → Nat) (n m : Nat) (q : (Nat → Nat → Nat) × PS) : (Nat → Nat → Nat) × PS := rdU b n m (rdNc (rdN b n (nx b n (pwF q.1 m) 10 (pwF q.1 m) q.2).2)) (uf (uf q.1 5 m (nx b n (pwF q.1 m) 10 (pwF q.1 m) q.2).1) 6 m (rdNc (rdN b n (nx b n (pwF q.1 m) 10 (pwF q.1 m) q.2).2)), rdS (rdN b n (nx b n (pwF q.1 m) 10 (pwF q.1 m) q.2).2))
def rdMC (b : Nat → Nat) (n m : Nat) (F : Nat → Nat → Nat) (s : PS) : (Nat → Nat → Nat) × PS := rtC b n m (rqC b n m F s)
theorem rdNc_g {u : Nat × PS} (h : (rdS u).2 = false) : rdNc u = u.1 := if_pos (rdS_t h).2.2
theorem rtC_g {b : Nat → Nat} {n m : Nat} {q : (Nat → Nat → Nat) × PS} (h : (rtC b n m q).2.2 = false) : rtC b n m q = rdT b n m q ∧ q.2.2 = false := by
  unfold rtC at h ⊢
  have h1 := (rdU_g _ h).1
  have h1 : (rdS (rdN b n (nx b n (pwF q.1 m) 10 (pwF q.1 m) q.2).2)).2 = false := h1
  have h2 := (rdS_t h1).1
  have h3 := (rdN_g h2).1
  have e := nx_dg (d' := 0) h3
  have h4 := (nx_g h3).1
  refine ⟨?_, h4⟩
  rw [rdNc_g h1, e]
  rw [e] at h1
  unfold rdT
  rw [if_neg (by rw [h1]; decide)]
theorem rdMC_g {b : Nat → Nat} {n m : Nat} {F : Nat → Nat → Nat} {s : PS} (h : (rdMC b n m F s).2.2 = false) : rdMC b n m F s = rdM b n m F s := by
  obtain ⟨a, c⟩ := rtC_g (q := rqC b n m F s) h
  show rtC b n m (rqC b n m F s) = rdT b n m (rdP b n m false _ _)
  rw [a]
  congr 1
  exact rdP_d _ c
theorem sw_cg {f g : Nat → Nat} : ∀ {k : Nat}, (∀ j, j < k → f j = g j) → sw f k = sw g k
  | 0, _ => rfl
  | k + 1, h => by
    show sw f k + wdt (f k) = sw g k + wdt (g k)
    rw [sw_cg fun j hj => h j (by omega), h k (by omega)]
/-- where the reading is behind a method doesn't hang on what was held -/
theorem rdMC_p {b : Nat → Nat} {n m m' : Nat} {F F' : Nat → Nat → Nat} {s : PS} : (rdMC b n m F s).2 = (rdM b n m' F' s).2 := by
  obtain ⟨x2, hx2⟩ : ∃ z, z = nx b n 0 3 0 (nx b n 0 4 0 s).2 := ⟨_, rfl⟩
  obtain ⟨q, hq⟩ : ∃ z, z = rqC b n m F s := ⟨_, rfl⟩
  obtain ⟨q', hq'⟩ : ∃ z, z = rdP b n m' false x2.1 (uf (uf F' 2 m' (nx b n 0 4 0 s).1) 3 m' x2.1, x2.2) := ⟨_, rfl⟩
  have e2 : q.2 = q'.2 := by
    rw [hq, hq']
    show (rdP b n m true _ _).2 = _
    rw [← hx2]
    exact rdP_2 _
  show (rtC b n m (rqC b n m F s)).2 = (rdT b n m' (rdP b n m' false _ _)).2
  rw [← hq, ← hx2, ← hq']
  have e3 : (nx b n (pwF q.1 m) 10 (pwF q.1 m) q.2).2 = (nx b n (pwF q'.1 m') 10 0 q'.2).2 := by
    rw [e2]
    cases c : q'.2.2 with
    | true => rw [nx_o c, nx_o c]
    | false =>
      have c1 : q.2.2 = false := by rw [e2]; exact c
      have g1 : (rdP b n m true x2.1 (uf (uf F 2 m (nx b n 0 4 0 s).1) 3 m x2.1, x2.2)).2.2 = false := by
        rw [hx2]
        rw [hq] at c1
        exact c1
      have g2 : (rdP b n m' false x2.1 (uf (uf F' 2 m' (nx b n 0 4 0 s).1) 3 m' x2.1, x2.2)).2.2 = false := by
        rw [hq'] at c
        exact c
      have v1 := (rdP_g _ g1).2.2
      have v2 := (rdP_g _ g2).2.2
      have f1 : q.1 3 m = x2.1 := by
        rw [hq]
        show (rdP b n m true _ _).1 3 m = _
        rw [rdP_o (by decide), ← hx2]
        exact uf_s
      have f2 : q'.1 3 m' = x2.1 := by
        rw [hq', rdP_o (by decide)]
        exact uf_s
      have ep : pwF q.1 m = pwF q'.1 m' := by
        unfold pwF
        rw [f1, f2]
        refine sw_cg fun j hj => ?_
        have w1 := (v1 j hj).1
        have w2 := (v2 j hj).1
        rw [hq, hq']
        show (rdP b n m true (nx b n 0 3 0 (nx b n 0 4 0 s).2).1 _).1 4 (3 * m + j) = _
        rw [← hx2, w1, w2]
      rw [ep]
      exact nx_d
  unfold rtC rdT
  rw [e3]
  cases c : (rdS (rdN b n (nx b n (pwF q'.1 m') 10 0 q'.2).2)).2 with
  | true =>
    rw [if_pos rfl]
    exact rdU_i c _
  | false =>
    rw [if_neg Bool.false_ne_true, rdNc_g c]
    exact rdU_2 _

