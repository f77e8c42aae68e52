/-! both machines begin alike, and answer alike -/
/-- the arguments that were passed are of their types -/
def AO (a : AV) : Prop := ∀ k, k < 3 → dB (a.2.2.2 k) ∧ (k < a.1 → VRl (fsO (a.2.1 k)) (a.2.2.1 k) (a.2.2.1 k) (a.2.2.2 k) (a.2.2.2 k))
/-- what stays of both machines in any case -/
def FE2 (A B : VM) : Prop := (∀ k, k < 4 → B.2.2.2 k = A.2.2.2 k) ∧ (B.1 0 0 ≤ 3) ∧ (B.1 1 0 ≤ 6) ∧ (B.1 4 0 ≤ 8) ∧ (DA A) ∧ (∀ k, dB (B.2.2.1 k))
theorem FE2.ff {A B : VM} (h : FE2 A B) : ∀ k, k < 4 → B.2.2.2 k = A.2.2.2 k := h.1
theorem FE2.b0 {A B : VM} (h : FE2 A B) : B.1 0 0 ≤ 3 := h.2.1
theorem FE2.b1 {A B : VM} (h : FE2 A B) : B.1 1 0 ≤ 6 := h.2.2.1
theorem FE2.b4 {A B : VM} (h : FE2 A B) : B.1 4 0 ≤ 8 := h.2.2.2.1
theorem FE2.da {A B : VM} (h : FE2 A B) : DA A := h.2.2.2.2.1
theorem FE2.db {A B : VM} (h : FE2 A B) : ∀ k, dB (B.2.2.1 k) := h.2.2.2.2.2
/-- both machines, whether they run or not -/
abbrev BM (F : Nat → Nat → Nat) (A B : VM) : Prop := RL F A B ∨ NR A B
theorem BM.fe {F : Nat → Nat → Nat} {A B : VM} (h : BM F A B) : FE2 A B := by
  rcases h with h | h
  · exact ⟨h.ff, by rw [h.c2]; decide, by rw [h.de]; exact h.d6, h.b4, h.da, h.db⟩
  · exact ⟨h.ff, by rw [h.c]; exact h.c3, h.b1, h.b4, h.da, h.db⟩
theorem agA_1 {F : Nat → Nat → Nat} {a : AV} {m : Nat} {A : VM} : ∀ n, (agA F a m A n).1 = A.1 ∧ (agA F a m A n).2.2.2 = A.2.2.2
  | 0 => ⟨rfl, rfl⟩
  | n + 1 => agA_1 n
theorem agB_1 {F : Nat → Nat → Nat} {a : AV} {m : Nat} {B : VM} : ∀ n, (agB F a m B n).1 = B.1 ∧ (agB F a m B n).2.2.2 = B.2.2.2
  | 0 => ⟨rfl, rfl⟩
  | n + 1 => agB_1 n
theorem agA_d {F : Nat → Nat → Nat} {a : AV} {m : Nat} {A : VM} (h : DA A) (ha : AO a) : ∀ n, n ≤ 3 → DA (agA F a m A n)
  | 0, _ => h
  | n + 1, hn => fun k hk => dB_up (agA_d h ha n (by omega) k hk) (ha n (by omega)).1
theorem agB_d {F : Nat → Nat → Nat} {a : AV} {m : Nat} {B : VM} (h : ∀ k, dB (B.2.2.1 k)) (ha : AO a) : ∀ n, n ≤ 3 → ∀ k, dB ((agB F a m B n).2.2.1 k)
  | 0, _, k => h k
  | n + 1, hn, k => dB_up (agB_d h ha n (by omega) k) (ha n (by omega)).1
theorem suP_j {F : Nat → Nat → Nat} {a : AV} {m : Nat} : ∀ {n : Nat}, suP F a m n = true → ∀ j, j < n → a.2.1 j = F 4 (3 * m + j)
  | 0, _, j, h => absurd h (Nat.not_lt_zero _)
  | n + 1, h, j, hj => by
    unfold suP at h
    rw [Bool.and_eq_true, decide_eq_true_eq] at h
    by_cases e : j = n
    · subst e
      exact h.2
    · exact suP_j h.1 j (by omega)
theorem beg_rg {F : Nat → Nat → Nat} {a : AV} {m : Nat} {X Y : VM} (ha3 : a.1 ≤ 3) (ha : AO a) (hn : F 3 m = a.1) (hs : suP F a m a.1 = true) : ∀ j, j ≤ a.1 → RG (bgN F m j) (10 * 0) (agA F a m X j) (agB F a m Y j)
  | 0, _ => fun r hr => VRl.n (Or.inl rfl)
  | j + 1, hj => by
    refine RG.st (beg_rg (X := X) (Y := Y) ha3 ha hn hs j (by omega)) (r := F 5 m - pwF F m + agK F m j) (t := F 4 (3 * m + j)) (pr := decide (F 4 (3 * m + j) = 2 ∨ F 4 (3 * m + j) = 4)) (fun q => by right; simpa using q) (fun i hi e => ?_) (fun _ => ?_)
    · exact ⟨up_n (by omega), up_n (by omega), up_n (by omega), up_n (by omega)⟩
    · show VRl _ (va_up _ (F 5 m - pwF F m + agK F m j) _ _) (va_up _ (10 * 0 + (F 5 m - pwF F m + agK F m j)) _ _) (va_up _ (F 5 m - pwF F m + agK F m j) _ _) (va_up _ (10 * 0 + (F 5 m - pwF F m + agK F m j)) _ _)
      rw [show 10 * 0 + (F 5 m - pwF F m + agK F m j) = F 5 m - pwF F m + agK F m j by omega, up_s, up_s, up_s, up_s, ← suP_j hs j (by omega)]
      exact (ha j (by omega)).2 (by omega)
/-- a call begins -/
theorem beg {F : Nat → Nat → Nat} (G : GF F) {A B : VM} (h : FE2 A B) {a : AV} (ha3 : a.1 ≤ 3) (ha : AO a) {m : Nat} (hm : m < F 0 0) (hs : suO F a m = true) : RL F (beA F a A m) (bgB F a m B) := by
  unfold suO at hs
  rw [Bool.and_eq_true, decide_eq_true_eq] at hs
  obtain ⟨hn, hs⟩ := hs
  obtain ⟨X, hX⟩ : ∃ X, X = entA (idA A 1) m := ⟨_, rfl⟩
  obtain ⟨Y, hY⟩ : ∃ Y, Y = aI (aI B 2 0 m) 3 0 0 := ⟨_, rfl⟩
  have X1 : X.1 = uf (uf (uf (idA A 1).1 2 0 m) 3 0 0) 1 0 1 := by
    rw [hX]
    show uf (zrA _ _ 10).1 1 0 _ = _
    rw [zrA_1]
    rfl
  have Xf : X.2.2.2 = A.2.2.2 := by
    rw [hX]
    show (zrA _ _ 10).2.2.2 = _
    rw [zrA_f]
    rfl
  have Xd : DA X := fun k hk => by
    rw [hX]
    refine zrA_d (A := aI (aI (idA A 1) 2 ((idA A 1).1 1 0) m) 3 ((idA A 1).1 1 0) 0) ?_ 10
    exact dB_up (h.da k hk) d0_dB
  obtain ⟨P, hP⟩ : ∃ P, P = beA F a A m := ⟨_, rfl⟩
  obtain ⟨Q, hQ⟩ : ∃ Q, Q = bgB F a m B := ⟨_, rfl⟩
  have hP2 : P = agA F a m X a.1 := by rw [hP, hX]; rfl
  have hQ2 : Q = aI (aI (aI (agB F a m Y a.1) 1 0 1) 0 0 1) 5 0 0 := by rw [hQ, hY]; rfl
  rw [← hP, ← hQ]
  have P1 : P.1 = uf (uf (uf (idA A 1).1 2 0 m) 3 0 0) 1 0 1 := by rw [hP2, (agA_1 _).1, X1]
  have Q1 : Q.1 = uf (uf (uf (uf (uf B.1 2 0 m) 3 0 0) 1 0 1) 0 0 1) 5 0 0 := by
    rw [hQ2]
    show uf (uf (uf (agB F a m Y a.1).1 _ _ _) _ _ _) _ _ _ = _
    rw [(agB_1 _).1, hY]
    rfl
  have pD : P.1 1 0 = 1 := by rw [P1]; rfl
  have qD : Q.1 1 0 = 1 := by rw [Q1]; rfl
  have p2 : P.1 2 0 = m := by rw [P1]; rfl
  have p3 : P.1 3 0 = 0 := by rw [P1]; rfl
  have q2 : Q.1 2 0 = m := by rw [Q1]; rfl
  have q3 : Q.1 3 0 = 0 := by rw [Q1]; rfl
  obtain ⟨m1, m2, m3⟩ := G.m0 hm
  have cm : cmA P = m := by unfold cmA; rw [pD]; exact p2
  have cp : cpA P = 0 := by unfold cpA; rw [pD]; exact p3
  refine ⟨by rw [P1]; rfl, by rw [Q1]; rfl, by omega, by omega, by omega, fun i hi => ?_, fun i hi => by omega, fun e => ?_, fun k hk => ?_, by rw [Q1]; exact h.b4, ?_, fun k => ?_⟩
  · have i0 : i = 0 := by omega
    subst i0
    rw [p2, q2, p3, q3]
    refine ⟨hm, rfl, rfl, m1, RG.mono ?_ m3⟩
    have g := beg_rg (X := X) (Y := Y) ha3 ha hn hs a.1 (Nat.le_refl _)
    rw [← hP2] at g
    rw [hn]
    exact g.same fun r hr => by rw [hQ2]; exact ⟨rfl, rfl, rfl, rfl⟩
  · rw [cm, cp, m2] at e
    exact absurd e (by decide)
  · rw [hP2, (agA_1 _).2, Xf, hQ2]
    show (agB F a m Y a.1).2.2.2 k = _
    rw [(agB_1 _).2, hY]
    exact h.ff k hk
  · rw [hP2]
    exact agA_d Xd ha a.1 ha3
  · rw [hQ2]
    show dB ((agB F a m Y a.1).2.2.1 k)
    exact agB_d (by rw [hY]; exact h.db) ha a.1 ha3 k
theorem l2d_0 : FP.l2d 0 = 0 := by decide +kernel
theorem tt_x : ∀ t, t ≤ 4 → (tt t = 2 ∨ tt t = 5 ↔ t = 3 ∨ t = 4) ∧ (tt t = 1 ∨ tt t = 3 ↔ t = 1 ∨ t = 2) := by decide
theorem vl_e {F : Nat → Nat → Nat} {A B : VM} (h : BM F A B) : vlB B = vlA A ∧ rlB B = rlA A := by
  have off : ¬ A.1 0 0 = 2 → ¬ B.1 0 0 = 2 → vlB B = vlA A ∧ rlB B = rlA A := fun a b => by
    unfold vlB vlA rlB rlA whB rtB
    rw [if_neg a, if_neg a, if_neg b, if_neg (by decide), if_neg (by decide), if_neg (by decide)]
    exact ⟨rfl, l2d_0⟩
  rcases h with h | h
  · have := h.c1
    have := h.c2
    exact off (by omega) (by omega)
  · by_cases c : A.1 0 0 = 2
    · obtain ⟨t1, t2, t3, t4⟩ := h.t c
      have cb : B.1 0 0 = 2 := by rw [h.c]; exact c
      obtain ⟨x1, x2⟩ := tt_x _ t2
      unfold vlB vlA rlB rlA whB rtB
      rw [if_pos c, if_pos c, if_pos cb, t1]
      by_cases k : A.1 4 0 = 3 ∨ A.1 4 0 = 4
      · rw [if_pos k, if_pos k, if_pos (x1.mpr k), if_pos (x1.mpr k)]
        have e : B.2.2.1 60 = A.2.2.1 60 := by
          have v := t4 (by omega)
          rcases k with k | k
          · rw [k] at v
            exact (VRl.c (t := 0) v).1
          · rw [k] at v
            exact VRl.e (t := 0) v
        rw [e]
        exact ⟨rfl, rfl⟩
      · rw [if_neg k, if_neg k, if_neg (fun q => k (x1.mp q)), if_neg (fun q => k (x1.mp q))]
        by_cases z : A.1 4 0 = 0
        · rw [if_neg (by rw [x2]; omega), t3 z]
          exact ⟨rfl, rfl⟩
        · have k2 : A.1 4 0 = 1 ∨ A.1 4 0 = 2 := by omega
          rw [if_pos (x2.mpr k2)]
          have e : B.2.1 60 = A.2.1 60 := by
            have v := t4 z
            rcases k2 with k | k
            · rw [k] at v
              exact (VRl.a (t := 0) v).1
            · rw [k] at v
              exact VRl.b (t := 0) v
          rw [e]
          exact ⟨rfl, rfl⟩
    · exact off c (by rw [h.c]; exact c)
theorem st_e {F : Nat → Nat → Nat} {A B : VM} (h : BM F A B) : B.1 0 0 = A.1 0 0 ∧ (if B.1 0 0 = 1 then B.1 1 0 else 0) = (if A.1 0 0 = 1 then A.1 1 0 else 0) ∧ (A.1 0 0 = 1 → B.1 1 0 = A.1 1 0 ∧ ∀ i, i < A.1 1 0 → B.1 3 i = A.1 3 i) := by
  rcases h with h | h
  · have e : B.1 0 0 = A.1 0 0 := by rw [h.c1, h.c2]
    exact ⟨e, by rw [e, h.de], fun _ => ⟨h.de, fun i hi => (h.fm i hi).2.2.1⟩⟩
  · exact ⟨h.c, by rw [h.c, if_neg h.c1, if_neg h.c1], fun c => absurd c h.c1⟩
/-- a machine that is at rest -/
theorem NR.id {A B : VM} (h : FE2 A B) {B' : VM} {s : Nat} (hs : s = 0 ∨ s = 3) (hB : B'.1 0 0 = s) (h1 : B'.1 1 0 ≤ 6) (h4 : B'.1 4 0 ≤ 8) (hf : ∀ k, k < 4 → B'.2.2.2 k = A.2.2.2 k) (hd : ∀ k, dB (B'.2.2.1 k)) : NR (idA A s) B' := by
  have c0 : (idA A s).1 0 0 = s := rfl
  exact ⟨by rw [c0, hB], by rw [c0]; omega, by rw [c0]; omega, fun e => by rw [c0] at e; omega, hf, h1, h4, fun k hk => dB_up (h.da k hk) d0_dB, hd⟩

