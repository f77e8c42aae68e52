/-! the class: a program is read, purely -/
def rLC (b : Nat → Nat) (n : Nat) (q : (Nat → Nat → Nat) × PS) : Nat → (Nat → Nat → Nat) × PS
  | 0 => q
  | k + 1 => rdMC b n k (rLC b n q k).1 (rLC b n q k).2
theorem rdMC_i {b : Nat → Nat} {n m : Nat} {F : Nat → Nat → Nat} {s : PS} (h : s.2 = true) : (rdMC b n m F s).2 = s := by
  have hu : (rdN b n s).2 = s := by
    unfold rdN
    rw [nx_o h]
    split
    · exact congrArg Prod.snd (nx_o h)
    · rfl
  have hq : (rqC b n m F s).2 = s := by
    have e : ∀ {dl : Bool} {F1 : Nat → Nat → Nat} k, (rdP b n m dl k (F1, s)).2 = s := by
      intro dl F1 k
      induction k with
      | zero => rfl
      | succ k ih =>
        show (nx b n 1 4 _ (rdP b n m dl k (F1, s)).2).2 = s
        rw [ih, nx_o h]
    unfold rqC
    rw [nx_o h, nx_o h]
    exact e _
  unfold rdMC rtC
  rw [hq, nx_o h]
  have hs : rdS (rdN b n s) = s := by
    unfold rdS
    rw [hu, if_neg (by rw [h]; simp)]
  show (rdU b n m _ (_, rdS (rdN b n s))).2 = s
  rw [hs]
  exact rdU_i h _
theorem rLC_i {b : Nat → Nat} {n : Nat} {F : Nat → Nat → Nat} {s : PS} (h : s.2 = true) : ∀ k, (rLC b n (F, s) k).2 = s
  | 0 => rfl
  | k + 1 => by
    show (rdMC b n k (rLC b n (F, s) k).1 (rLC b n (F, s) k).2).2 = s
    rw [rLC_i h k, rdMC_i h]
theorem rLC_p {b : Nat → Nat} {n : Nat} {F F' : Nat → Nat → Nat} {s : PS} : ∀ k, (rLC b n (F, s) k).2 = (rdL b n (F', s) k).2
  | 0 => rfl
  | k + 1 => by
    have ih := rLC_p (b := b) (n := n) (F := F) (F' := F') (s := s) k
    show (rdMC b n k (rLC b n (F, s) k).1 (rLC b n (F, s) k).2).2 = (if (rdL b n (F', s) k).2.2 = true then rdL b n (F', s) k else rdM b n (4 + k) (rdL b n (F', s) k).1 (rdL b n (F', s) k).2).2
    by_cases c : (rdL b n (F', s) k).2.2 = true
    · rw [if_pos c, ih, rdMC_i c]
    · rw [if_neg c, ih]
      exact rdMC_p
theorem rdMC_ot {b : Nat → Nat} {n m : Nat} {F : Nat → Nat → Nat} {s : PS} : OT m F (rdMC b n m F s).1 := fun a y h => by
  have h3 : (nx b n 0 3 0 (nx b n 0 4 0 s).2).1 ≤ 3 := nx_le (Nat.zero_le _)
  show (rdU b n m _ _).1 a y = _
  have h40 : ∀ u, rdNc u ≤ 40 := fun u => rdNc_le
  rw [rdU_x _ (by have := h40 (rdN b n (nx b n (pwF (rqC b n m F s).1 m) 10 (pwF (rqC b n m F s).1 m) (rqC b n m F s).2).2); omega)]
  show uf (uf _ _ _ _) _ _ _ _ _ = _
  rw [uf_n (by omega), uf_n (by omega)]
  show (rdP b n m true _ _).1 a y = _
  rw [rdP_x _ (by omega)]
  show uf (uf _ _ _ _) _ _ _ _ _ = _
  rw [uf_n (by omega), uf_n (by omega)]
theorem rLC_g {b : Nat → Nat} {n : Nat} {q : (Nat → Nat → Nat) × PS} : ∀ k, (rLC b n q k).2.2 = false → q.2.2 = false ∧ PMs b 0 (rLC b n q k).1 q.2.1 k (rLC b n q k).2.1
  | 0, h => ⟨h, rfl⟩
  | k + 1, h => by
    have h' : (rdMC b n k (rLC b n q k).1 (rLC b n q k).2).2.2 = false := h
    have e := rdMC_g h'
    rw [e] at h'
    obtain ⟨h1, h2⟩ := rdM_g h'
    obtain ⟨i1, i2⟩ := rLC_g k h1
    refine ⟨i1, (rLC b n q k).2.1, ?_, ?_⟩
    · show PMs b 0 (rdMC b n k (rLC b n q k).1 (rLC b n q k).2).1 _ _ _
      exact i2.ot rdMC_ot (by omega)
    · show PM b (0 + k) (rdMC b n k (rLC b n q k).1 (rLC b n q k).2).1 _ (rdMC b n k (rLC b n q k).1 (rLC b n q k).2).2.1
      rw [e, Nat.zero_add]
      exact h2
theorem rLC_o {b : Nat → Nat} {n : Nat} {q : (Nat → Nat → Nat) × PS} {a y : Nat} (h : a ≤ 1) : ∀ k, (rLC b n q k).1 a y = q.1 a y
  | 0 => rfl
  | k + 1 => (rdMC_ot a y (Or.inl h)).trans (rLC_o h k)
theorem PMs.eq {b : Nat → Nat} {F F' : Nat → Nat → Nat} {p : Nat} : ∀ {k p1 p2 : Nat}, PMs b 0 F p k p1 → PMs b 0 F' p k p2 → p1 = p2 ∧ ∀ m, m < k → F' 2 m = F 2 m ∧ F' 3 m = F 3 m ∧ F' 5 m = F 5 m ∧ F' 6 m = F 6 m ∧ (∀ j, j < F 3 m → F' 4 (3 * m + j) = F 4 (3 * m + j)) ∧ ∀ j, j < F 6 m → F' 7 (40 * m + j) = F 7 (40 * m + j)
  | 0, _, _, h, h' => ⟨h.trans h'.symm, fun m q => absurd q (Nat.not_lt_zero _)⟩
  | k + 1, p1, p2, ⟨q, h1, h2⟩, ⟨q', h1', h2'⟩ => by
    obtain ⟨e, f⟩ := PMs.eq h1 h1'
    subst e
    rw [Nat.zero_add] at h2 h2'
    obtain ⟨e2, f2⟩ := PM.eq h2 h2'
    refine ⟨e2, fun m hm => ?_⟩
    by_cases c : m = k
    · subst c
      exact f2
    · exact f m (by omega)
/-- the check that is told, where the file is well so far -/
theorem rdC_v {b : Nat → Nat} {n : Nat} {s : PS} (h : (rdC b n s 4).2.2 = false) (h4 : s.2 = false → s.1 = 4) : (rdC b n s 4).1 = tlV b := by
  have e : ∀ k, rdC b n s (k + 1) = ((rdC b n s k).1 + (nx b n 0 255 0 (rdC b n s k).2).1 * 256 ^ k, (nx b n 0 255 0 (rdC b n s k).2).2) := fun _ => rfl
  rw [e 3] at h ⊢
  obtain ⟨g3, p3, v3, -⟩ := nx_g (show (nx b n 0 255 0 (rdC b n s 3).2).2.2 = false from h)
  rw [e 2] at g3
  obtain ⟨g2, p2, v2, -⟩ := nx_g (show (nx b n 0 255 0 (rdC b n s 2).2).2.2 = false from g3)
  rw [e 1] at g2
  obtain ⟨g1, p1, v1, -⟩ := nx_g (show (nx b n 0 255 0 (rdC b n s 1).2).2.2 = false from g2)
  rw [e 0] at g1
  obtain ⟨g0, p0, v0, -⟩ := nx_g (show (nx b n 0 255 0 (rdC b n s 0).2).2.2 = false from g1)
  have hs : (rdC b n s 0).2.1 = 4 := h4 g0
  have q1 : (rdC b n s 1).2.1 = 5 := by rw [e 0]; show (nx b n 0 255 0 (rdC b n s 0).2).2.1 = 5; rw [p0, hs]
  have q2 : (rdC b n s 2).2.1 = 6 := by rw [e 1]; show (nx b n 0 255 0 (rdC b n s 1).2).2.1 = 6; rw [p1, q1]
  have q3 : (rdC b n s 3).2.1 = 7 := by rw [e 2]; show (nx b n 0 255 0 (rdC b n s 2).2).2.1 = 7; rw [p2, q2]
  rw [v3, q3]
  show (rdC b n s 3).1 + b 7 * 256 ^ 3 = _
  rw [e 2]
  show ((rdC b n s 2).1 + (nx b n 0 255 0 (rdC b n s 2).2).1 * 256 ^ 2) + b 7 * 256 ^ 3 = _
  rw [v2, q2, e 1]
  show (((rdC b n s 1).1 + (nx b n 0 255 0 (rdC b n s 1).2).1 * 256 ^ 1) + b 6 * 256 ^ 2) + b 7 * 256 ^ 3 = _
  rw [v1, q1, e 0]
  show ((((rdC b n s 0).1 + (nx b n 0 255 0 (rdC b n s 0).2).1 * 256 ^ 0) + b 5 * 256 ^ 1) + b 6 * 256 ^ 2) + b 7 * 256 ^ 3 = _
  rw [v0, hs]
  show ((((0 + b 4 * 256 ^ 0) + b 5 * 256 ^ 1) + b 6 * 256 ^ 2) + b 7 * 256 ^ 3) = _
  unfold tlV
  omega
theorem rdH_4 {b : Nat → Nat} {n : Nat} (h : (rdH b n).2 = false) : (rdH b n).1 = 4 := by
  unfold rdH at h ⊢
  obtain ⟨g3, p3, -⟩ := nx_g h
  obtain ⟨g2, p2, -⟩ := nx_g g3
  obtain ⟨g1, p1, -⟩ := nx_g g2
  obtain ⟨g0, p0, -⟩ := nx_g g1
  rw [p3, p2, p1, p0]
theorem rdE_c {b : Nat → Nat} {n c c' : Nat} {s : PS} (h : s.2 = false → c = c') : rdE b n c s = rdE b n c' s := by
  unfold rdE
  cases q : s.2 with
  | false => rw [h q]
  | true =>
    have e : rdE0 n s = s := by
      unfold rdE0
      rw [if_neg (by rw [q]; simp)]
    rw [e, if_neg (by rw [q]; simp), if_neg (by rw [q]; simp)]
/-- the class's way through a file -/
def rC0 (b : Nat → Nat) (n : Nat) : PS := (rdC b n (rdH b n) 4).2
def rC1 (b : Nat → Nat) (n : Nat) : Nat × PS := nx b n 1 4 1 (rC0 b n)
def rC2 (b : Nat → Nat) (n : Nat) : Nat × PS := nx b n 0 4 0 (rC1 b n).2
def rCF (b : Nat → Nat) (n : Nat) (F : Nat → Nat → Nat) : (Nat → Nat → Nat) × PS := rLC b n (uf (uf F 0 0 (rC1 b n).1) 1 0 (rC2 b n).1, (rC2 b n).2) (rC1 b n).1
def rCE (b : Nat → Nat) (n : Nat) (F : Nat → Nat → Nat) : PS := rdE b n (tlV b) (rCF b n F).2
theorem rC1_2 {b : Nat → Nat} {n : Nat} : (rC1 b n).2 = (nx b n 1 4 0 (rC0 b n)).2 := nx_d
theorem rCE_e {b : Nat → Nat} {n : Nat} {F Fr : Nat → Nat → Nat} : rCE b n F = (rdF b n Fr).2 := by
  have e2 : rC2 b n = nx b n 0 4 0 (nx b n 1 4 0 (rC0 b n)).2 := by
    unfold rC2
    rw [rC1_2]
  have e3 : (rCF b n F).2 = (rdL b n (uf (uf Fr 0 1 (nx b n 1 4 0 (rC0 b n)).1) 1 1 (nx b n 0 4 0 (nx b n 1 4 0 (rC0 b n)).2).1, (nx b n 0 4 0 (nx b n 1 4 0 (rC0 b n)).2).2) (nx b n 1 4 0 (rC0 b n)).1).2 := by
    unfold rCF
    rw [e2]
    cases q : (nx b n 1 4 0 (rC0 b n)).2.2 with
    | false =>
      have e1 : rC1 b n = nx b n 1 4 0 (rC0 b n) := (nx_dg (d' := 1) q).symm
      rw [e1]
      exact rLC_p _
    | true =>
      have z : (nx b n 0 4 0 (nx b n 1 4 0 (rC0 b n)).2).2 = (nx b n 1 4 0 (rC0 b n)).2 := by rw [nx_o q]
      rw [z, rLC_i q]
      have w := rLC_p (b := b) (n := n) (F := F) (F' := uf (uf Fr 0 1 (nx b n 1 4 0 (rC0 b n)).1) 1 1 (nx b n 0 4 0 (nx b n 1 4 0 (rC0 b n)).2).1) (s := (nx b n 1 4 0 (rC0 b n)).2) (nx b n 1 4 0 (rC0 b n)).1
      rw [rLC_i q] at w
      exact w
  show rdE b n (tlV b) (rCF b n F).2 = rdE b n (rdC b n (rdH b n) 4).1 (rdL b n (uf (uf Fr 0 1 (nx b n 1 4 0 (rC0 b n)).1) 1 1 (nx b n 0 4 0 (nx b n 1 4 0 (rC0 b n)).2).1, (nx b n 0 4 0 (nx b n 1 4 0 (rC0 b n)).2).2) (nx b n 1 4 0 (rC0 b n)).1).2
  rw [← e3]
  refine rdE_c fun q => ?_
  have h1 := (rLC_g _ q).1
  have h2 := (nx_g (show (rC2 b n).2.2 = false from h1)).1
  have h3 := (nx_g (show (rC1 b n).2.2 = false from h2)).1
  exact (rdC_v h3 rdH_4).symm
/-- a well file: both sides hold the same -/
theorem rCF_eq {b : Nat → Nat} {n : Nat} {F Fr : Nat → Nat → Nat} (h : (rCE b n F).2 = false) : EqF (kpF (rdF b n Fr).1) (rCF b n F).1 := by
  have hr : (rdF b n Fr).2.2 = false := by rw [← rCE_e (F := F)]; exact h
  obtain ⟨f1, f2, p', f3⟩ := rdF_p hr
  have g := rdE_g h
  obtain ⟨i1, i2⟩ := rLC_g _ g
  have h2 := (nx_g (show (rC2 b n).2.2 = false from i1)).1
  have e1 : rC1 b n = nx b n 1 4 0 (rC0 b n) := nx_dg h2
  have e2 : rC2 b n = nx b n 0 4 0 (nx b n 1 4 0 (rC0 b n)).2 := by
    unfold rC2
    rw [rC1_2]
  have b1 : (rdB b n).1 = (rC1 b n).1 := by rw [e1]; rfl
  have b2 : (rdB b n).2 = (rC2 b n).2 := by rw [e2]; rfl
  have c0 : (rCF b n F).1 0 0 = (rC1 b n).1 := by
    show (rLC b n _ _).1 0 0 = _
    rw [rLC_o (by decide)]
    show uf (uf F 0 0 (rC1 b n).1) 1 0 (rC2 b n).1 0 0 = _
    rw [uf_n (Or.inl (by decide)), uf_s]
  have c1 : (rCF b n F).1 1 0 = (rC2 b n).1 := by
    show (rLC b n _ _).1 1 0 = _
    rw [rLC_o (by decide)]
    show uf (uf F 0 0 (rC1 b n).1) 1 0 (rC2 b n).1 1 0 = _
    exact uf_s
  have k : PMs b 0 (kpF (rdF b n Fr).1) (rdB b n).2.1 (rdB b n).1 p' := f3.kp (nx_le (by decide))
  rw [b1, b2] at k
  obtain ⟨-, m⟩ := PMs.eq k i2
  refine ⟨?_, ?_, fun j hj => ?_⟩
  · rw [kp_0, f1, c0, b1]
  · rw [kp_1, f2, c1, e2]; rfl
  · rw [kp_0, f1, b1] at hj
    exact m j hj

