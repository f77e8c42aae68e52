/-! both machines run alike -/
/-- a machine that was stopped by trouble, and its fields -/
def TH (A B : VM) : Prop := (B.1 0 0 = 3) ∧ (∀ k, k < 4 → B.2.2.2 k = A.2.2.2 k) ∧ (B.1 1 0 ≤ 6) ∧ (B.1 4 0 ≤ 8) ∧ (DA A) ∧ (∀ k, dB (B.2.2.1 k))
theorem TH.c {A B : VM} (h : TH A B) : B.1 0 0 = 3 := h.1
theorem TH.ff {A B : VM} (h : TH A B) : ∀ k, k < 4 → B.2.2.2 k = A.2.2.2 k := h.2.1
theorem TH.b1 {A B : VM} (h : TH A B) : B.1 1 0 ≤ 6 := h.2.2.1
theorem TH.b4 {A B : VM} (h : TH A B) : B.1 4 0 ≤ 8 := h.2.2.2.1
theorem TH.da {A B : VM} (h : TH A B) : DA A := h.2.2.2.2.1
theorem TH.db {A B : VM} (h : TH A B) : ∀ k, dB (B.2.2.1 k) := h.2.2.2.2.2
theorem op_cb : ∀ o, o < 256 → szO o ≠ 0 → (decide (o = 0) || decide (o ∈ [1, 4]) || decide (o ∈ [10, 11]) || decide (14 ≤ o ∧ o ≤ 16) || decide (o = 18) || decide (o = 19 ∨ o = 22) || decide (o = 40) || decide (cps o = true) || decide (50 ≤ o ∧ o ≤ 55) || decide (56 ≤ o ∧ o ≤ 61) || decide (o = 96) || decide (o = 103) || decide (o = 113) || decide (cvt o = true) || decide (jns o = true)) = true := by decide +kernel
theorem op_cs : ∀ o, o < 256 → szO o ≠ 0 → o = 0 ∨ o ∈ [1, 4] ∨ o ∈ [10, 11] ∨ (14 ≤ o ∧ o ≤ 16) ∨ o = 18 ∨ (o = 19 ∨ o = 22) ∨ o = 40 ∨ cps o = true ∨ (50 ≤ o ∧ o ≤ 55) ∨ (56 ≤ o ∧ o ≤ 61) ∨ o = 96 ∨ o = 103 ∨ o = 113 ∨ cvt o = true ∨ jns o = true := fun o a b => by
  have := op_cb o a b
  simp only [Bool.or_eq_true, decide_eq_true_eq, or_assoc] at this
  simp only [or_assoc]
  exact this
theorem szW_2 : ∀ o, o < 256 → (o = 19 ∨ o = 22 ∨ cps o = true ∨ o = 96 ∨ o = 103 ∨ o = 113 ∨ jns o = true) → 2 ≤ szO o ∧ (o = 113 → szO o = 3) := by decide +kernel
theorem jns_x : ∀ o, o < 256 → jns o = true → o ≠ 113 ∧ ¬ (14 ≤ o ∧ o ≤ 16) := by decide +kernel
theorem onA_o {F : Nat → Nat → Nat} {A : VM} {m p : Nat} (h1 : (opS (F 7 (40 * m + p))) ≠ 113) (h2 : ¬ (14 ≤ (opS (F 7 (40 * m + p))) ∧ (opS (F 7 (40 * m + p))) ≤ 16)) (h3 : jns (opS (F 7 (40 * m + p))) = false) : onA F A m p = (0, stA F A m p) := by
  unfold onA
  rw [if_neg h1, if_neg h2, h3, if_neg (by simp)]
theorem RL.step {F : Nat → Nat → Nat} {A B : VM} (G : GF F) (h : RL F A B) : ((onA F A (cmA A) (cpA A)).1 = 0 ∧ (RL F (onA F A (cmA A) (cpA A)).2 (stpB F B) ∨ EN (onA F A (cmA A) (cpA A)).2 (stpB F B))) ∨ (∃ c, (c = 3 ∨ c = 4) ∧ (onA F A (cmA A) (cpA A)).1 = c ∧ TH (onA F A (cmA A) (cpA A)).2 (stpB F B) ∧ (stpB F B).1 5 0 = c - 2) := by
  obtain ⟨m, hm⟩ : ∃ m, cmA A = m := ⟨_, rfl⟩
  obtain ⟨p, hp⟩ : ∃ p, cpA A = p := ⟨_, rfl⟩
  obtain ⟨c1, c2, c3, c4, c5, c6⟩ := h.cx G hm hp
  obtain ⟨f1, f2, f3, f4, f5⟩ := h.fm (A.1 1 0 - 1) (by have := h.d1; omega)
  have d6 := h.d6
  have mb : mB B = m := by
    unfold mB
    rw [h.de, f2]
    exact hm
  have pb : pB B = p := by
    unfold pB
    rw [h.de, f3]
    exact hp
  have fk := frm_p c3
  have tr : ∀ t, TH A (aI (aI (aI B 3 (A.1 1 0 - 1) (p + szO (opS (F 7 (40 * m + p))))) 0 0 3) 5 0 t) := fun t => ⟨rfl, fun k hk => h.ff k hk, by show B.1 1 0 ≤ 6; rw [h.de]; exact d6, h.b4, h.da, h.db⟩
  unfold stpB
  rw [hm, hp, mb, pb]
  have u1 : ∀ w, 2 ≤ szO (opS (F 7 (40 * m + p))) → w = uA F m (p + 1) → w = (F 7 (40 * m + (p + 1))) := fun w hz e => by
    rw [e]
    unfold uA
    rw [if_pos (by omega)]
  obtain ⟨w1, e1⟩ : ∃ w, w = uA F m (p + 1) := ⟨_, rfl⟩
  obtain ⟨w2, e2⟩ : ∃ w, w = uA F m (p + 2) := ⟨_, rfl⟩
  rw [← e1, ← e2]
  have one : (opS (F 7 (40 * m + p))) ≠ 113 → ¬ (14 ≤ (opS (F 7 (40 * m + p))) ∧ (opS (F 7 (40 * m + p))) ≤ 16) → jns (opS (F 7 (40 * m + p))) = false → RL F (stA F A m p) (stB F B m p (opS (F 7 (40 * m + p))) (F 7 (40 * m + p)) w1 w2) → (((onA F A m p).1 = 0 ∧ (RL F (onA F A m p).2 (stB F B m p (opS (F 7 (40 * m + p))) (F 7 (40 * m + p)) w1 w2) ∨ EN (onA F A m p).2 (stB F B m p (opS (F 7 (40 * m + p))) (F 7 (40 * m + p)) w1 w2))) ∨ (∃ c, (c = 3 ∨ c = 4) ∧ (onA F A m p).1 = c ∧ TH (onA F A m p).2 (stB F B m p (opS (F 7 (40 * m + p))) (F 7 (40 * m + p)) w1 w2) ∧ (stB F B m p (opS (F 7 (40 * m + p))) (F 7 (40 * m + p)) w1 w2).1 5 0 = c - 2)) := fun a b c d => by
    rw [onA_o a b c]
    exact Or.inl ⟨rfl, Or.inl d⟩
  rcases op_cs _ (opS_lt _) fk.1 with o | o | o | o | o | o | o | o | o | o | o | o | o | o | o
  · exact one (by omega) (by omega) (by rw [o]; decide) (s_0 G h hm hp o)
  · have o' : (opS (F 7 (40 * m + p))) = 1 ∨ (opS (F 7 (40 * m + p))) = 4 := by simpa using o
    exact one (by omega) (by omega) (by rcases o' with e | e <;> rw [e] <;> decide) (s_cpy G h hm hp o)
  · have o' : (opS (F 7 (40 * m + p))) = 10 ∨ (opS (F 7 (40 * m + p))) = 11 := by simpa using o
    exact one (by omega) (by omega) (by rcases o' with e | e <;> rw [e] <;> decide) (s_res G h hm hp o)
  · left
    have eq : onA F A m p = (0, gvA A (F 2 m) (opN (F 7 (40 * m + p)))) := by
      unfold onA
      rw [if_neg (by omega), if_pos o]
    rw [eq]
    exact ⟨rfl, s_ret G h hm hp o⟩
  · exact one (by omega) (by omega) (by rw [o]; decide) (s_18 G h hm hp o)
  · have z := u1 w1 (szW_2 _ (opS_lt _) (by omega)).1 e1
    subst z
    exact one (by omega) (by omega) (by rcases o with e | e <;> rw [e] <;> decide) (s_19 G h hm hp o)
  · exact one (by omega) (by omega) (by rw [o]; decide) (s_40 G h hm hp o)
  · have z := u1 w1 (szW_2 _ (opS_lt _) (by simp [o])).1 e1
    subst z
    have o' : (opS (F 7 (40 * m + p))) = 45 ∨ (opS (F 7 (40 * m + p))) = 47 ∨ (opS (F 7 (40 * m + p))) = 49 := by
      simp only [cps, Bool.or_eq_true, decide_eq_true_eq] at o
      omega
    exact one (by omega) (by omega) (by rcases o' with e | e | e <;> rw [e] <;> decide) (s_cps G h hm hp o)
  · exact one (by omega) (by omega) (by simp only [jns, Bool.or_eq_false_iff, Bool.and_eq_false_iff, decide_eq_false_iff_not]; omega) (s_50 G h hm hp o)
  · exact one (by omega) (by omega) (by simp only [jns, Bool.or_eq_false_iff, Bool.and_eq_false_iff, decide_eq_false_iff_not]; omega) (s_56 G h hm hp o)
  · have z := u1 w1 (szW_2 _ (opS_lt _) (by omega)).1 e1
    subst z
    exact one (by omega) (by omega) (by rw [o]; decide) (s_96 G h hm hp o)
  · have z := u1 w1 (szW_2 _ (opS_lt _) (by omega)).1 e1
    subst z
    exact one (by omega) (by omega) (by rw [o]; decide) (s_103 G h hm hp o)
  · have s3 := szW_2 _ (opS_lt _) (show (opS (F 7 (40 * m + p))) = 19 ∨ (opS (F 7 (40 * m + p))) = 22 ∨ cps (opS (F 7 (40 * m + p))) = true ∨ (opS (F 7 (40 * m + p))) = 96 ∨ (opS (F 7 (40 * m + p))) = 103 ∨ (opS (F 7 (40 * m + p))) = 113 ∨ jns (opS (F 7 (40 * m + p))) = true by omega)
    have z := u1 w1 s3.1 e1
    have z2 : w2 = F 7 (40 * m + (p + 2)) := by
      rw [e2]
      unfold uA
      rw [if_pos (by have := s3.2 o; omega)]
    subst z z2
    obtain ⟨k1, k2⟩ := s_call G h hm hp o
    by_cases e6 : A.1 1 0 = 6
    · right
      have eq : onA F A m p = (4, A) := by
        unfold onA
        rw [if_pos o, if_pos e6]
      rw [eq, k2 e6]
      exact ⟨4, Or.inr rfl, rfl, tr 2, rfl⟩
    · left
      have eq : onA F A m p = (0, calA F A m p) := by
        unfold onA
        rw [if_pos o, if_neg e6]
      rw [eq]
      exact ⟨rfl, Or.inl (k1 e6)⟩
  · obtain ⟨x1, x2, x3, x4, x5⟩ := cv_fx _ (opS_lt _) o
    exact one x4 (by simp only [cvt, Bool.or_eq_true, Bool.and_eq_true, decide_eq_true_eq] at o; omega) x1 (s_cvt G h hm hp o)
  · obtain ⟨n1, n2⟩ := jns_x _ (opS_lt _) o
    have z := u1 w1 (szW_2 _ (opS_lt _) (by simp [o])).1 e1
    subst z
    obtain ⟨k1, k2⟩ := s_jns G h hm hp o (w2 := w2)
    by_cases e : dzA A (opS (F 7 (40 * m + p))) (opN (F 7 (40 * m + (p + 1)))) = true
    · right
      have eq : onA F A m p = (3, A) := by
        unfold onA
        rw [if_neg n1, if_neg n2, if_pos ⟨o, e⟩]
      rw [eq, k2 e]
      exact ⟨3, Or.inl rfl, rfl, tr 1, rfl⟩
    · left
      have eq : onA F A m p = (0, stA F A m p) := by
        unfold onA
        rw [if_neg n1, if_neg n2, if_neg (fun q => e q.2)]
      rw [eq]
      exact ⟨rfl, Or.inl (k1 (by simpa using e))⟩
/-- what both machines' steps want -/
theorem RL.st {F : Nat → Nat → Nat} {A B : VM} (G : GF F) (h : RL F A B) : ST F A ∧ SB F B := by
  obtain ⟨m, hm⟩ : ∃ m, cmA A = m := ⟨_, rfl⟩
  obtain ⟨p, hp⟩ : ∃ p, cpA A = p := ⟨_, rfl⟩
  obtain ⟨c1, c2, c3, c4, c5, c6⟩ := h.cx G hm hp
  obtain ⟨f1, f2, f3, f4, f5⟩ := h.fm (A.1 1 0 - 1) (by have := h.d1; omega)
  have mb : mB B = m := by
    unfold mB
    rw [h.de, f2]
    exact hm
  have pb : pB B = p := by
    unfold pB
    rw [h.de, f3]
    exact hp
  have fk := frm_p c3
  have h40 := G.1.2.2.2.2.2.2.1 m
  have p40 : p < 40 := by have := c2.1; omega
  have dv : jns (opS (F 7 (40 * m + p))) = true → jnO (opS (F 7 (40 * m + p))) = 1 → ¬ gW A (opN (F 7 (40 * m + (p + 1)))) = 0 → ¬ (gW A (opN (F 7 (40 * m + (p + 1))))).toInt32 = 0 := fun hj h1 h0 e => by
    obtain ⟨r1, r2, r3⟩ := rg_j G.1 fk.2.2.1 hj
    obtain ⟨x1, _⟩ := jn_fx _ (opS_lt _) hj
    have hs : isT (TT F m p) (opN (F 7 (40 * m + (p + 1)))) 1 = true := by
      unfold insG psG at c4
      rw [x1, hj, h1] at c4
      simp only [Bool.false_eq_true, if_false, if_true, Bool.and_eq_true] at c4
      exact c4.2
    have v := c6 _ r3
    rw [isT_r hs] at v
    obtain ⟨_, x, hx⟩ := VRl.a (t := 0) v
    rw [hx, t32_64] at e
    rw [e] at hx
    exact h0 hx
  constructor
  · refine ⟨h.d1, by rw [hm]; exact c1, by rw [hp]; exact p40, ⟨bgF F m, pbG (bgF F m) p, by rw [hm, hp]; exact c3⟩, h.da, by rw [hm, hp]; exact dv, G.2.1.2.1⟩
  · refine ⟨by rw [h.de]; exact h.d1, by rw [h.de]; exact h.d6, by rw [mb]; exact c1, by rw [pb]; exact p40, by rw [mb, pb]; exact c2.2.1, by rw [mb]; exact (G.2.2 m c1).1, h.db, ?_⟩
    rw [mb, pb]
    intro ho h0 e
    have hj : jns (opS (F 7 (40 * m + p))) = true := by rcases ho with o | o <;> rw [o] <;> decide
    have h1 : jnO (opS (F 7 (40 * m + p))) = 1 := by rcases ho with o | o <;> rw [o] <;> decide
    have eu : uA F m (p + 1) = (F 7 (40 * m + (p + 1))) := by
      unfold uA
      rw [if_pos (by have := (szW_2 _ (opS_lt (F 7 (40 * m + p))) (by simp [hj])).1; omega)]
    rw [eu] at h0 e
    obtain ⟨r1, r2, r3⟩ := rg_j G.1 fk.2.2.1 hj
    obtain ⟨x1, _⟩ := jn_fx _ (opS_lt _) hj
    have hs : isT (TT F m p) (opN (F 7 (40 * m + (p + 1)))) 1 = true := by
      have c4' := c4
      unfold insG psG at c4'
      rw [x1, hj, h1] at c4'
      simp only [Bool.false_eq_true, if_false, if_true, Bool.and_eq_true] at c4'
      exact c4'.2
    have v := c6 _ r3
    rw [isT_r hs] at v
    have ev := (VRl.a (t := 0) v).1
    rw [ev] at h0 e
    exact dv hj h1 h0 e
/-- what the reference's run wants -/
theorem run_I {F : Nat → Nat → Nat} (G : GF F) : ∀ A, (∃ B, RL F A B ∨ NR A B) → A.1 0 0 = 1 → ST F A ∧ ((onA F A (cmA A) (cpA A)).1 = 0 → ∃ B, RL F (onA F A (cmA A) (cpA A)).2 B ∨ NR (onA F A (cmA A) (cpA A)).2 B) := fun A hA h1 => by
  obtain ⟨B, hB⟩ := hA
  rcases hB with h | h
  · refine ⟨(h.st G).1, fun e => ?_⟩
    rcases h.step G with k | ⟨c, k1, k2, _⟩
    · exact ⟨stpB F B, k.2.imp id And.left⟩
    · rw [e] at k2
      omega
  · exact absurd h1 h.c1
/-- where the class's run may be -/
def JR (F : Nat → Nat → Nat) (B : VM) : Prop := (∃ A, RL F A B ∨ NR A B) ∨ ∃ A, TH A B
theorem run_J {F : Nat → Nat → Nat} (G : GF F) : ∀ B, JR F B → B.1 0 0 = 1 → SB F B ∧ JR F (stpB F B) := fun B hB h1 => by
  rcases hB with ⟨A, h | h⟩ | ⟨A, h⟩
  · refine ⟨(h.st G).2, ?_⟩
    rcases h.step G with k | ⟨c, k1, k2, k3, _⟩
    · exact Or.inl ⟨_, k.2.imp id And.left⟩
    · exact Or.inr ⟨_, k3⟩
  · have := h.c
    have := h.c1
    omega
  · have := h.c
    omega
theorem run_b {F : Nat → Nat → Nat} : ∀ B, JR F B → B.1 0 0 ≤ 3 ∧ B.1 1 0 ≤ 6 := fun B hB => by
  rcases hB with ⟨A, h | h⟩ | ⟨A, h⟩
  · have := h.c2
    have := h.de
    have := h.d6
    omega
  · have := h.c
    have := h.c3
    have := h.b1
    omega
  · have := h.c
    have := h.b1
    omega
theorem rnB_0 {F : Nat → Nat → Nat} {B : VM} (h : ¬ B.1 0 0 = 1) : ∀ n, rnB F n B = (0, B)
  | 0 => rfl
  | n + 1 => by
    unfold rnB
    rw [if_neg h]
/-- both run alike -/
theorem rn_rel {F : Nat → Nat → Nat} (G : GF F) : ∀ n {A B : VM}, (RL F A B ∨ NR A B) → ((rnA F n A).2.1 = 0 ∧ (rnB F n B).1 = (rnA F n A).1 ∧ (RL F (rnA F n A).2.2 (rnB F n B).2 ∨ NR (rnA F n A).2.2 (rnB F n B).2)) ∨ (∃ c, (c = 3 ∨ c = 4) ∧ (rnA F n A).2.1 = c ∧ TH (rnA F n A).2.2 (rnB F n B).2 ∧ (rnB F n B).2.1 5 0 = c - 2)
  | 0, A, B, h => Or.inl ⟨rfl, rfl, h⟩
  | n + 1, A, B, h => by
    rcases h with h | h
    · rcases h.step G with ⟨k1, k2⟩ | ⟨c, k1, k2, k3, k4⟩
      · have n3 : ¬ (stpB F B).1 0 0 = 3 := by
          rcases k2 with q | q
          · have := q.c2
            omega
          · have e1 := q.1.c
            have e2 := q.2
            omega
        have eA := rnA_s (n := n) h.c1 k1
        have eB : rnB F (n + 1) B = ((rnB F n (stpB F B)).1 + 1, (rnB F n (stpB F B)).2) := by
          show (if B.1 0 0 = 1 then _ else _) = _
          rw [if_pos h.c2, if_neg n3]
        rw [eA, eB]
        rcases rn_rel G n (k2.imp id And.left) with ⟨a, b, c⟩ | ⟨c, a, b, d, e⟩
        · exact Or.inl ⟨a, congrArg (· + 1) b, c⟩
        · exact Or.inr ⟨c, a, b, d, e⟩
      · have n3 := k3.c
        have eA := rnA_e (F := F) (A := A) (n := n) h.c1 (by rw [k2]; omega)
        have eB : rnB F (n + 1) B = rnB F n (stpB F B) := by
          show (if B.1 0 0 = 1 then _ else _) = _
          rw [if_pos h.c2, if_pos n3]
        rw [eA, eB, rnB_0 (by omega)]
        exact Or.inr ⟨c, k1, k2, k3, k4⟩
    · have a := h.c1
      have b := h.c
      rw [rnA_0 a, rnB_0 (by omega)]
      exact Or.inl ⟨rfl, rfl, Or.inr h⟩

