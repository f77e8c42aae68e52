/-! an instruction on both sides: comparing, branching, reckoning -/
theorem s_cps {F : Nat → Nat → Nat} {A B : VM} (G : GF F) (h : RL F A B) {m p : Nat} (hm : cmA A = m) (hp : cpA A = p) (hc : cps (opS (F 7 (40 * m + p))) = true) {w2 : Nat} : RL F (stA F A m p) (stB F B m p (opS (F 7 (40 * m + p))) (F 7 (40 * m + p)) (F 7 (40 * m + (p + 1))) w2) := by
  obtain ⟨c1, c2, c3, c4, c5, c6⟩ := h.cx G hm hp
  obtain ⟨r1, r2, r3⟩ := rg_p G.1 (frm_p c3).2.2.1 hc
  have ho : (opS (F 7 (40 * m + p))) = 45 ∨ (opS (F 7 (40 * m + p))) = 47 ∨ (opS (F 7 (40 * m + p))) = 49 := by
    simp only [cps, Bool.or_eq_true, decide_eq_true_eq] at hc
    omega
  have x : cvt (opS (F 7 (40 * m + p))) = false ∧ jns (opS (F 7 (40 * m + p))) = false ∧ brs (opS (F 7 (40 * m + p))) = false ∧ ens (opS (F 7 (40 * m + p))) = false ∧ (opS (F 7 (40 * m + p))) ≠ 113 ∧ kdO (opS (F 7 (40 * m + p))) = 9 ∧ dvO (opS (F 7 (40 * m + p))) = false := by
    rcases ho with e | e | e <;> rw [e] <;> decide +kernel
  obtain ⟨x1, x3, x4, x5, x6, x7, x8⟩ := x
  have hs : isT (TT F m p) (opS (F 7 (40 * m + (p + 1)))) (cpO (opS (F 7 (40 * m + p)))) = true ∧ isT (TT F m p) (opN (F 7 (40 * m + (p + 1)))) (cpO (opS (F 7 (40 * m + p)))) = true := by
    unfold insG psG at c4
    rw [x1, x3, hc] at c4
    simpa using c4
  have hi : insN F m p (pbG (bgF F m) p) (TT F m p) = stN (TT F m p) (opN (F 7 (40 * m + p))) 1 (decide ((1 : Nat) = 2 ∨ (1 : Nat) = 4)) := by
    unfold insN psN
    rw [x1, x3, hc]
    rfl
  have v2 := c6 _ r2
  have v3 := c6 _ r3
  rw [isT_r hs.1] at v2
  rw [isT_r hs.2] at v3
  have eB : stB F B m p (opS (F 7 (40 * m + p))) (F 7 (40 * m + p)) (F 7 (40 * m + (p + 1))) w2 = kset (aI B 3 (A.1 1 0 - 1) (p + szO (opS (F 7 (40 * m + p))))) (A.1 1 0 - 1) (opN (F 7 (40 * m + p))) (cbW (opS (F 7 (40 * m + p))) (usO (opS (F 7 (40 * m + p)))) (gW B (opS (F 7 (40 * m + (p + 1))))) (gW B (opN (F 7 (40 * m + (p + 1))))) (gE B (opS (F 7 (40 * m + (p + 1))))) (gE B (opN (F 7 (40 * m + (p + 1)))))) (cbE (opS (F 7 (40 * m + p))) (usO (opS (F 7 (40 * m + p)))) (gW B (opS (F 7 (40 * m + (p + 1))))) (gW B (opN (F 7 (40 * m + (p + 1))))) (gE B (opS (F 7 (40 * m + (p + 1))))) (gE B (opN (F 7 (40 * m + (p + 1)))))) := by
    unfold stB
    rw [x7, h.de]
    show (if dvO (opS (F 7 (40 * m + p))) = true ∧ _ then _ else _) = _
    rw [x8, if_neg (by simp)]
  have eA : wkA F (aI A 3 (A.1 1 0 - 1) (p + szO (opS (F 7 (40 * m + p))))) m p = stW (aI A 3 (A.1 1 0 - 1) (p + szO (opS (F 7 (40 * m + p))))) (opN (F 7 (40 * m + p))) (cmL (opS (F 7 (40 * m + p))) A (opS (F 7 (40 * m + (p + 1)))) (opN (F 7 (40 * m + (p + 1))))).toInt64 := by
    unfold wkA
    rw [x1, hc]
    rfl
  rw [stA_n x3 x4, eA, eB]
  have q2 := h.da.g r2 h.d6
  have q3 := h.da.g r3 h.d6
  have ev : cbW (opS (F 7 (40 * m + p))) (usO (opS (F 7 (40 * m + p)))) (gW B (opS (F 7 (40 * m + (p + 1))))) (gW B (opN (F 7 (40 * m + (p + 1))))) (gE B (opS (F 7 (40 * m + (p + 1))))) (gE B (opN (F 7 (40 * m + (p + 1))))) = (cmL (opS (F 7 (40 * m + p))) A (opS (F 7 (40 * m + (p + 1)))) (opN (F 7 (40 * m + (p + 1))))).toInt64 ∧ cbE (opS (F 7 (40 * m + p))) (usO (opS (F 7 (40 * m + p)))) (gW B (opS (F 7 (40 * m + (p + 1))))) (gW B (opN (F 7 (40 * m + (p + 1))))) (gE B (opS (F 7 (40 * m + (p + 1))))) (gE B (opN (F 7 (40 * m + (p + 1))))) = 0 := by
    rcases ho with e | e | e
    · rw [e] at v2 v3 ⊢
      have e2 := (VRl.c (t := 0) v2).1
      have e3 := (VRl.c (t := 0) v3).1
      rw [e2, e3]
      refine ⟨?_, rfl⟩
      show (cmD (gE A (opS (F 7 (40 * m + (p + 1))))) (gE A (opN (F 7 (40 * m + (p + 1)))))).toInt64 = _
      rw [cmD_e q2 q3]
      rfl
    · rw [e] at v2 v3 ⊢
      have e2 := VRl.e (t := 0) v2
      have e3 := VRl.e (t := 0) v3
      rw [e2, e3]
      refine ⟨?_, rfl⟩
      show (cmD (gE A (opS (F 7 (40 * m + (p + 1))))) (gE A (opN (F 7 (40 * m + (p + 1)))))).toInt64 = _
      rw [cmD_e q2 q3]
      rfl
    · rw [e] at v2 v3 ⊢
      have e2 := VRl.b (t := 0) v2
      have e3 := VRl.b (t := 0) v3
      rw [e2, e3]
      exact ⟨rfl, rfl⟩
  rw [ev.1, ev.2]
  refine h.up G hm hp (r := opN (F 7 (40 * m + p))) (t := 1) (pr := decide ((1 : Nat) = 2 ∨ (1 : Nat) = 4)) r1 (fun q => absurd q (by decide)) hi x5 x6 UP.w UP.k (fun h0 => ?_) ?_ ?_
  · rw [w_w.1, w_w.2, show bs A = 10 * (A.1 1 0 - 1) from rfl, k_k.1, k_k.2]
    exact VRl.i rfl ⟨_, rfl⟩
  · rw [w_w.2]
    exact h.da.g r1 h.d6
  · rw [show bs A = 10 * (A.1 1 0 - 1) from rfl, k_k.2]
    exact d0_dB
theorem uf_uf {f : Nat → Nat → Nat} {a k x y : Nat} : uf (uf f a k x) a k y = uf f a k y := by
  funext i j
  unfold uf
  split <;> rfl
/-- where a branch goes -/
theorem stA_b {F : Nat → Nat → Nat} {A : VM} {m p : Nat} (hj : jns (opS (F 7 (40 * m + p))) = false) (hw : cvt (opS (F 7 (40 * m + p))) = false) (hc : cps (opS (F 7 (40 * m + p))) = false) (hs : ∀ X, smA F X m p (opS (F 7 (40 * m + p))) = X) : stA F A m p = aI A 3 (A.1 1 0 - 1) (nxN F A m p) := by
  unfold stA
  rw [hj]
  simp only [Bool.false_eq_true, if_false]
  rw [wk_s hw hc, hs]
theorem br_fin {F : Nat → Nat → Nat} {A B : VM} (G : GF F) (h : RL F A B) {m p : Nat} (hm : cmA A = m) (hp : cpA A = p) (hj : jns (opS (F 7 (40 * m + p))) = false) (hw : cvt (opS (F 7 (40 * m + p))) = false) (hc : cps (opS (F 7 (40 * m + p))) = false) (hs : ∀ X, smA F X m p (opS (F 7 (40 * m + p))) = X) (hi : insN F m p (pbG (bgF F m) p) (TT F m p) = TT F m p) (hb : brs (opS (F 7 (40 * m + p))) = true) (h3 : (opS (F 7 (40 * m + p))) ≠ 113) (he : goN F A m p = false → ens (opS (F 7 (40 * m + p))) = false) {B' : VM} (eB : B' = if goN F A m p = true then aI (aI B 3 (A.1 1 0 - 1) (p + szO (opS (F 7 (40 * m + p))))) 3 (A.1 1 0 - 1) (tgO F m p).toNatClampNeg else aI B 3 (A.1 1 0 - 1) (p + szO (opS (F 7 (40 * m + p))))) : RL F (stA F A m p) B' := by
  obtain ⟨c1, c2, c3, c4, c5, c6⟩ := h.cx G hm hp
  rw [stA_b hj hw hc hs]
  have hN : NXT F m (TT F m p) (nxN F A m p) := by
    unfold nxN
    by_cases g : goN F A m p = true
    · rw [if_pos g]
      have := RH.br G c1 c2 hb
      rw [hi] at this
      exact this
    · rw [if_neg g]
      have := RH.nx G c1 c2 (he (by simpa using g)) h3
      rw [hi] at this
      exact this
  have b1 : B' = aI B 3 (A.1 1 0 - 1) (nxN F A m p) := by
    rw [eB]
    unfold nxN
    by_cases g : goN F A m p = true
    · rw [if_pos g, if_pos g]
      unfold aI
      rw [uf_uf]
    · rw [if_neg g, if_neg g]
  rw [b1]
  exact h.nb hm hp hN rfl rfl ⟨rfl, rfl⟩ ⟨rfl, rfl⟩ (fun k hk => h.ff k hk)
theorem s_40 {F : Nat → Nat → Nat} {A B : VM} (G : GF F) (h : RL F A B) {m p : Nat} (hm : cmA A = m) (hp : cpA A = p) (ho : (opS (F 7 (40 * m + p))) = 40) {w1 w2 : Nat} : RL F (stA F A m p) (stB F B m p (opS (F 7 (40 * m + p))) (F 7 (40 * m + p)) w1 w2) := by
  have x : cvt (opS (F 7 (40 * m + p))) = false ∧ cps (opS (F 7 (40 * m + p))) = false ∧ jns (opS (F 7 (40 * m + p))) = false ∧ brs (opS (F 7 (40 * m + p))) = true ∧ (opS (F 7 (40 * m + p))) ≠ 113 ∧ kdO (opS (F 7 (40 * m + p))) = 7 := by
    rw [ho]; decide +kernel
  obtain ⟨x1, x2, x3, x4, x6, x7⟩ := x
  have g : goN F A m p = true := by
    unfold goN
    rw [decide_eq_true ho]
    rfl
  refine br_fin G h hm hp x3 x1 x2 (fun X => by rw [ho]; rfl) ?_ x4 x6 (fun e => by rw [g] at e; exact absurd e (by decide)) ?_
  · obtain ⟨g1, g2⟩ := ps_o (bf := pbG (bgF F m) p) (row := TT F m p) x1 x2 x3 (by omega) (by omega)
    rw [g2, ho]
    rfl
  · rw [if_pos g]
    unfold stB
    rw [x7, h.de]
    rfl
theorem s_50 {F : Nat → Nat → Nat} {A B : VM} (G : GF F) (h : RL F A B) {m p : Nat} (hm : cmA A = m) (hp : cpA A = p) (ho : 50 ≤ (opS (F 7 (40 * m + p))) ∧ (opS (F 7 (40 * m + p))) ≤ 55) {w1 w2 : Nat} : RL F (stA F A m p) (stB F B m p (opS (F 7 (40 * m + p))) (F 7 (40 * m + p)) w1 w2) := by
  obtain ⟨c1, c2, c3, c4, c5, c6⟩ := h.cx G hm hp
  have x : ∀ o, 50 ≤ o → o ≤ 55 → cvt o = false ∧ cps o = false ∧ jns o = false ∧ brs o = true ∧ o ≠ 113 ∧ kdO o = 10 ∧ ens o = false := fun o a b => by
    have : o = 50 ∨ o = 51 ∨ o = 52 ∨ o = 53 ∨ o = 54 ∨ o = 55 := by omega
    rcases this with e | e | e | e | e | e <;> subst e <;> decide +kernel
  obtain ⟨x1, x2, x3, x4, x6, x7, x8⟩ := x _ ho.1 ho.2
  obtain ⟨r1, r2⟩ := rg_50 G.1 (frm_p c3).2.2.1 ho
  have hs : isT (TT F m p) (opA (F 7 (40 * m + p))) 1 = true ∧ isT (TT F m p) (opB (F 7 (40 * m + p))) 1 = true := by
    unfold insG psG at c4
    rw [x1, x2, x3, if_pos ho] at c4
    simpa using c4
  have v1 := c6 _ r1
  have v2 := c6 _ r2
  rw [isT_r hs.1] at v1
  rw [isT_r hs.2] at v2
  obtain ⟨e1, a, ha⟩ := VRl.a (t := 0) v1
  obtain ⟨e2, b, hb⟩ := VRl.a (t := 0) v2
  have g : goN F A m p = hdC (opS (F 7 (40 * m + p))) (gW B (opA (F 7 (40 * m + p)))) (gW B (opB (F 7 (40 * m + p)))) := by
    unfold goN
    rw [decide_eq_false (show ¬ (opS (F 7 (40 * m + p))) = 40 by omega), decide_eq_true ho, decide_eq_false (show ¬ (56 ≤ (opS (F 7 (40 * m + p))) ∧ (opS (F 7 (40 * m + p))) ≤ 61) by omega), e1, e2, ha, hb, hdC_e _ ho.1 (by omega), if_pos (show (opS (F 7 (40 * m + p))) < 56 by omega), t32_64, t32_64]
    simp
  refine br_fin G h hm hp x3 x1 x2 (fun X => ?_) ?_ x4 x6 (fun e => x8) ?_
  · unfold smA
    rw [if_neg (show ¬ (opS (F 7 (40 * m + p))) ∈ [1, 4] by simp; omega), if_neg (show ¬ (opS (F 7 (40 * m + p))) ∈ [10, 11] by simp; omega), if_neg (show ¬ (opS (F 7 (40 * m + p))) ∈ [18] by simp; omega), if_neg (show ¬ (opS (F 7 (40 * m + p))) ∈ [19, 22] by simp; omega), if_neg (show ¬ (opS (F 7 (40 * m + p))) ∈ [96] by simp; omega), if_neg (show ¬ (opS (F 7 (40 * m + p))) ∈ [103] by simp; omega)]
  · unfold insN psN
    rw [x1, x2, x3, if_pos ho]
    rfl
  · rw [g]
    unfold stB
    rw [x7, h.de]
    rfl
theorem s_56 {F : Nat → Nat → Nat} {A B : VM} (G : GF F) (h : RL F A B) {m p : Nat} (hm : cmA A = m) (hp : cpA A = p) (ho : 56 ≤ (opS (F 7 (40 * m + p))) ∧ (opS (F 7 (40 * m + p))) ≤ 61) {w1 w2 : Nat} : RL F (stA F A m p) (stB F B m p (opS (F 7 (40 * m + p))) (F 7 (40 * m + p)) w1 w2) := by
  obtain ⟨c1, c2, c3, c4, c5, c6⟩ := h.cx G hm hp
  have x : ∀ o, 56 ≤ o → o ≤ 61 → cvt o = false ∧ cps o = false ∧ jns o = false ∧ brs o = true ∧ o ≠ 113 ∧ kdO o = 11 ∧ ens o = false := fun o a b => by
    have : o = 56 ∨ o = 57 ∨ o = 58 ∨ o = 59 ∨ o = 60 ∨ o = 61 := by omega
    rcases this with e | e | e | e | e | e <;> subst e <;> decide +kernel
  obtain ⟨x1, x2, x3, x4, x6, x7, x8⟩ := x _ ho.1 ho.2
  have r1 := rg_56 G.1 (frm_p c3).2.2.1 ho
  have hs : isT (TT F m p) (opN (F 7 (40 * m + p))) 1 = true := by
    unfold insG psG at c4
    rw [x1, x2, x3, if_neg (show ¬ (50 ≤ (opS (F 7 (40 * m + p))) ∧ (opS (F 7 (40 * m + p))) ≤ 55) by omega), if_pos (Or.inl ho)] at c4
    simpa using c4
  have v1 := c6 _ r1
  rw [isT_r hs] at v1
  obtain ⟨e1, a, ha⟩ := VRl.a (t := 0) v1
  have g : goN F A m p = hdC (opS (F 7 (40 * m + p))) (gW B (opN (F 7 (40 * m + p)))) 0 := by
    unfold goN
    rw [decide_eq_false (show ¬ (opS (F 7 (40 * m + p))) = 40 by omega), decide_eq_true ho, decide_eq_false (show ¬ (50 ≤ (opS (F 7 (40 * m + p))) ∧ (opS (F 7 (40 * m + p))) ≤ 55) by omega), e1, ha, show (0 : Int64) = (0 : Int32).toInt64 from rfl, hdC_e _ (by omega) ho.2, if_neg (show ¬ (opS (F 7 (40 * m + p))) < 56 by omega), t32_64]
    simp
  refine br_fin G h hm hp x3 x1 x2 (fun X => ?_) ?_ x4 x6 (fun e => x8) ?_
  · unfold smA
    rw [if_neg (show ¬ (opS (F 7 (40 * m + p))) ∈ [1, 4] by simp; omega), if_neg (show ¬ (opS (F 7 (40 * m + p))) ∈ [10, 11] by simp; omega), if_neg (show ¬ (opS (F 7 (40 * m + p))) ∈ [18] by simp; omega), if_neg (show ¬ (opS (F 7 (40 * m + p))) ∈ [19, 22] by simp; omega), if_neg (show ¬ (opS (F 7 (40 * m + p))) ∈ [96] by simp; omega), if_neg (show ¬ (opS (F 7 (40 * m + p))) ∈ [103] by simp; omega)]
  · unfold insN psN
    rw [x1, x2, x3, if_neg (show ¬ (50 ≤ (opS (F 7 (40 * m + p))) ∧ (opS (F 7 (40 * m + p))) ≤ 55) by omega), if_pos (Or.inl ho)]
    rfl
  · rw [g]
    unfold stB
    rw [x7, h.de]
    rfl
theorem jn_fa : ∀ o, o < 256 → jns o = true → cvt o = false ∧ cps o = false ∧ brs o = false ∧ ens o = false ∧ o ≠ 113 ∧ kdO o = 9 ∧ usO o = tt (jnO o) := by decide +kernel
theorem jn_fb : ∀ o, o < 256 → jns o = true → ¬ o = 49 ∧ ¬ o = 45 ∧ ¬ o = 47 ∧ (jnO o = 1 ∨ jnO o = 2 ∨ jnO o = 3 ∨ jnO o = 4) ∧ (dvO o = true → jnO o = 1 ∨ jnO o = 2) := by decide +kernel
theorem jn_fc : ∀ o, o < 256 → jns o = true → ¬ o ∈ [1, 4] ∧ ¬ o ∈ [10, 11] ∧ ¬ o ∈ [18] ∧ ¬ o ∈ [19, 22] ∧ ¬ o ∈ [96] ∧ ¬ o ∈ [103] := fun o _ h => by
  simp only [jns, Bool.or_eq_true, Bool.and_eq_true, decide_eq_true_eq] at h
  simp only [List.mem_cons, List.not_mem_nil, or_false]
  omega
theorem jn_fd : ∀ o, o < 256 → jns o = true → (jnO o = 3 → 166 ≤ o ∧ o ≤ 169) ∧ (jnO o = 4 → 171 ≤ o ∧ o ≤ 174) := by decide +kernel
theorem jn_fx : ∀ o, o < 256 → jns o = true → cvt o = false ∧ cps o = false ∧ brs o = false ∧ ens o = false ∧ o ≠ 113 ∧ kdO o = 9 ∧ usO o = tt (jnO o) ∧ ¬ o = 49 ∧ ¬ o = 45 ∧ ¬ o = 47 ∧ (jnO o = 1 ∨ jnO o = 2 ∨ jnO o = 3 ∨ jnO o = 4) ∧ (dvO o = true → jnO o = 1 ∨ jnO o = 2) ∧ ¬ o ∈ [1, 4] ∧ ¬ o ∈ [10, 11] ∧ ¬ o ∈ [18] ∧ ¬ o ∈ [19, 22] ∧ ¬ o ∈ [96] ∧ ¬ o ∈ [103] ∧ (jnO o = 3 → 166 ≤ o ∧ o ≤ 169) ∧ (jnO o = 4 → 171 ≤ o ∧ o ≤ 174) := fun o ho h => by
  obtain ⟨a1, a2, a3, a4, a5, a6, a7⟩ := jn_fa o ho h
  obtain ⟨b1, b2, b3, b4, b5⟩ := jn_fb o ho h
  obtain ⟨e1, e2, e3, e4, e5, e6⟩ := jn_fc o ho h
  obtain ⟨d1, d2⟩ := jn_fd o ho h
  exact ⟨a1, a2, a3, a4, a5, a6, a7, b1, b2, b3, b4, b5, e1, e2, e3, e4, e5, e6, d1, d2⟩
/-- where two numbers are joined -/
theorem s_jns {F : Nat → Nat → Nat} {A B : VM} (G : GF F) (h : RL F A B) {m p : Nat} (hm : cmA A = m) (hp : cpA A = p) (hj : jns (opS (F 7 (40 * m + p))) = true) {w2 : Nat} : (dzA A (opS (F 7 (40 * m + p))) (opN (F 7 (40 * m + (p + 1)))) = false → RL F (stA F A m p) (stB F B m p (opS (F 7 (40 * m + p))) (F 7 (40 * m + p)) (F 7 (40 * m + (p + 1))) w2)) ∧ (dzA A (opS (F 7 (40 * m + p))) (opN (F 7 (40 * m + (p + 1)))) = true → stB F B m p (opS (F 7 (40 * m + p))) (F 7 (40 * m + p)) (F 7 (40 * m + (p + 1))) w2 = aI (aI (aI B 3 (A.1 1 0 - 1) (p + szO (opS (F 7 (40 * m + p))))) 0 0 3) 5 0 1) := by
  obtain ⟨c1, c2, c3, c4, c5, c6⟩ := h.cx G hm hp
  obtain ⟨r1, r2, r3⟩ := rg_j G.1 (frm_p c3).2.2.1 hj
  obtain ⟨x1, x2, x4, x5, x6, x7, y1, y2, y3, y4, y5, y6, z1, z2, z3, z4, z5, z6, y7, y8⟩ := jn_fx _ (opS_lt _) hj
  have hs : isT (TT F m p) (opS (F 7 (40 * m + (p + 1)))) (jnO (opS (F 7 (40 * m + p)))) = true ∧ isT (TT F m p) (opN (F 7 (40 * m + (p + 1)))) (jnO (opS (F 7 (40 * m + p)))) = true := by
    unfold insG psG at c4
    rw [x1, hj] at c4
    simpa using c4
  have hi : insN F m p (pbG (bgF F m) p) (TT F m p) = stN (TT F m p) (opN (F 7 (40 * m + p))) (jnO (opS (F 7 (40 * m + p)))) (decide (jnO (opS (F 7 (40 * m + p))) = 2 ∨ jnO (opS (F 7 (40 * m + p))) = 4)) := by
    unfold insN psN
    rw [x1, hj]
    rfl
  have v2 := c6 _ r2
  have v3 := c6 _ r3
  rw [isT_r hs.1] at v2
  rw [isT_r hs.2] at v3
  have e0 : stB F B m p (opS (F 7 (40 * m + p))) (F 7 (40 * m + p)) (F 7 (40 * m + (p + 1))) w2 = if dvO (opS (F 7 (40 * m + p))) = true ∧ gW B (opN (F 7 (40 * m + (p + 1)))) = 0 then aI (aI (aI B 3 (A.1 1 0 - 1) (p + szO (opS (F 7 (40 * m + p))))) 0 0 3) 5 0 1 else kset (aI B 3 (A.1 1 0 - 1) (p + szO (opS (F 7 (40 * m + p))))) (A.1 1 0 - 1) (opN (F 7 (40 * m + p))) (cbW (opS (F 7 (40 * m + p))) (usO (opS (F 7 (40 * m + p)))) (gW B (opS (F 7 (40 * m + (p + 1))))) (gW B (opN (F 7 (40 * m + (p + 1))))) (gE B (opS (F 7 (40 * m + (p + 1))))) (gE B (opN (F 7 (40 * m + (p + 1)))))) (cbE (opS (F 7 (40 * m + p))) (usO (opS (F 7 (40 * m + p)))) (gW B (opS (F 7 (40 * m + (p + 1))))) (gW B (opN (F 7 (40 * m + (p + 1))))) (gE B (opS (F 7 (40 * m + (p + 1))))) (gE B (opN (F 7 (40 * m + (p + 1)))))) := by
    unfold stB
    rw [x7, h.de]
    rfl
  have ed : dvO (opS (F 7 (40 * m + p))) = true → gW B (opN (F 7 (40 * m + (p + 1)))) = gW A (opN (F 7 (40 * m + (p + 1)))) := fun d => by
    rcases y6 d with e | e
    · rw [e] at v3
      exact (VRl.a (t := 0) v3).1
    · rw [e] at v3
      exact VRl.b (t := 0) v3
  constructor
  · intro hd
    have hd2 : ¬ (dvO (opS (F 7 (40 * m + p))) = true ∧ gW B (opN (F 7 (40 * m + (p + 1)))) = 0) := fun q => by
      rw [ed q.1] at q
      unfold dzA at hd
      rw [q.1, decide_eq_true q.2] at hd
      exact absurd hd (by decide)
    rw [e0, if_neg hd2]
    have g : ∀ X, X.1 1 0 = A.1 1 0 → goN F X m p = false := fun X _ => by
      cases e : goN F X m p with
      | false => rfl
      | true => rw [goN_br e] at x4; exact absurd x4 (by decide)
    have eA : stA F A m p = aI (jnA A (opS (F 7 (40 * m + p))) (opN (F 7 (40 * m + p))) (opS (F 7 (40 * m + (p + 1)))) (opN (F 7 (40 * m + (p + 1))))) 3 (A.1 1 0 - 1) (p + szO (opS (F 7 (40 * m + p)))) := by
      unfold stA nxN
      rw [hj]
      simp only [if_true]
      rw [g _ (by rw [jnA_1])]
      simp only [Bool.false_eq_true, if_false]
      rw [wk_s x1 x2]
      unfold smA
      rw [if_neg z1, if_neg z2, if_neg z3, if_neg z4, if_neg z5, if_neg z6]
    rw [eA]
    have q2 := h.da.g r2 h.d6
    have q3 := h.da.g r3 h.d6
    have qb2 : dB (gE B (opS (F 7 (40 * m + (p + 1))))) := h.db _
    have qb3 : dB (gE B (opN (F 7 (40 * m + (p + 1))))) := h.db _
    unfold cbW cbE
    rw [if_neg y2, if_neg (show ¬ ((opS (F 7 (40 * m + p))) = 45 ∨ (opS (F 7 (40 * m + p))) = 47) by omega), if_neg y2, if_neg (show ¬ ((opS (F 7 (40 * m + p))) = 45 ∨ (opS (F 7 (40 * m + p))) = 47) by omega), y1]
    rcases y5 with e | e | e | e
    · rw [e] at v2 v3 hi ⊢
      obtain ⟨e2, _⟩ := VRl.a (t := 0) v2
      obtain ⟨e3, _⟩ := VRl.a (t := 0) v3
      have eX : aI (jnA A (opS (F 7 (40 * m + p))) (opN (F 7 (40 * m + p))) (opS (F 7 (40 * m + (p + 1)))) (opN (F 7 (40 * m + (p + 1))))) 3 (A.1 1 0 - 1) (p + szO (opS (F 7 (40 * m + p)))) = stW (aI A 3 (A.1 1 0 - 1) (p + szO (opS (F 7 (40 * m + p))))) (opN (F 7 (40 * m + p))) (jI (opS (F 7 (40 * m + p))) (gW A (opS (F 7 (40 * m + (p + 1))))).toInt32 (gW A (opN (F 7 (40 * m + (p + 1))))).toInt32).toInt64 := by
        unfold jnA
        rw [if_pos e]
        rfl
      rw [eX]
      refine h.up G hm hp (r := opN (F 7 (40 * m + p))) (t := 1) (pr := _) r1 (fun q => by right; simpa using q) hi x5 x6 UP.w UP.k (fun h0 => ?_) ?_ ?_
      · rw [w_w.1, w_w.2, show bs A = 10 * (A.1 1 0 - 1) from rfl, k_k.1, k_k.2, e2, e3]
        exact VRl.i rfl ⟨_, rfl⟩
      · rw [w_w.2]
        exact h.da.g r1 h.d6
      · rw [show bs A = 10 * (A.1 1 0 - 1) from rfl, k_k.2]
        exact d0_dB
    · rw [e] at v2 v3 hi ⊢
      have e2 := VRl.b (t := 0) v2
      have e3 := VRl.b (t := 0) v3
      have eX : aI (jnA A (opS (F 7 (40 * m + p))) (opN (F 7 (40 * m + p))) (opS (F 7 (40 * m + (p + 1)))) (opN (F 7 (40 * m + (p + 1))))) 3 (A.1 1 0 - 1) (p + szO (opS (F 7 (40 * m + p)))) = stW (aI A 3 (A.1 1 0 - 1) (p + szO (opS (F 7 (40 * m + p))))) (opN (F 7 (40 * m + p))) (jL (opS (F 7 (40 * m + p))) (gW A (opS (F 7 (40 * m + (p + 1))))) (gW A (opN (F 7 (40 * m + (p + 1)))))) := by
        unfold jnA
        rw [e]
        rfl
      rw [eX]
      refine h.up G hm hp (r := opN (F 7 (40 * m + p))) (t := 2) (pr := _) r1 (fun q => by right; simpa using q) hi x5 x6 UP.w UP.k (fun h0 => ?_) ?_ ?_
      · rw [w_w.1, w_w.2, show bs A = 10 * (A.1 1 0 - 1) from rfl, k_k.1, k_k.2, e2, e3]
        exact VRl.l rfl
      · rw [w_w.2]
        exact h.da.g r1 h.d6
      · rw [show bs A = 10 * (A.1 1 0 - 1) from rfl, k_k.2]
        exact d0_dB
    · rw [e] at v2 v3 hi ⊢
      obtain ⟨e2, a, ha, ea⟩ := VRl.c (t := 0) v2
      obtain ⟨e3, b, hb, eb⟩ := VRl.c (t := 0) v3
      have eX : aI (jnA A (opS (F 7 (40 * m + p))) (opN (F 7 (40 * m + p))) (opS (F 7 (40 * m + (p + 1)))) (opN (F 7 (40 * m + (p + 1))))) 3 (A.1 1 0 - 1) (p + szO (opS (F 7 (40 * m + p)))) = stE (aI A 3 (A.1 1 0 - 1) (p + szO (opS (F 7 (40 * m + p))))) (opN (F 7 (40 * m + p))) (FP.f2d (jF (opS (F 7 (40 * m + p))) (FP.d2f (gE A (opS (F 7 (40 * m + (p + 1)))))) (FP.d2f (gE A (opN (F 7 (40 * m + (p + 1)))))))) := by
        unfold jnA
        rw [e]
        rfl
      have fb : fB (jF (opS (F 7 (40 * m + p))) (FP.d2f (gE A (opS (F 7 (40 * m + (p + 1)))))) (FP.d2f (gE A (opN (F 7 (40 * m + (p + 1))))))) := jF_fB (d2f_fB q2) (d2f_fB q3) (y7 e)
      have ev : hlD (FP.f2d (jFc (opS (F 7 (40 * m + p))) (FP.d2f (gE B (opS (F 7 (40 * m + (p + 1)))))) (FP.d2f (gE B (opN (F 7 (40 * m + (p + 1)))))))) = FP.f2d (jF (opS (F 7 (40 * m + p))) (FP.d2f (gE A (opS (F 7 (40 * m + (p + 1)))))) (FP.d2f (gE A (opN (F 7 (40 * m + (p + 1))))))) := by
        rw [e2, e3]
        exact jFc_e (d2f_fB q2) (d2f_fB q3) (y7 e)
      rw [eX]
      refine h.up G hm hp (r := opN (F 7 (40 * m + p))) (t := 3) (pr := _) r1 (fun q => by right; simpa using q) hi x5 x6 UP.e UP.k (fun h0 => ?_) ?_ ?_
      · rw [e_e.1, e_e.2, show bs A = 10 * (A.1 1 0 - 1) from rfl, k_k.1, k_k.2]
        exact VRl.f ev ⟨_, fb, rfl⟩
      · rw [e_e.1]
        exact f2d_dB fb
      · rw [show bs A = 10 * (A.1 1 0 - 1) from rfl, k_k.2]
        show dB (hlD _)
        rw [ev]
        exact f2d_dB fb
    · rw [e] at v2 v3 hi ⊢
      have e2 := VRl.e (t := 0) v2
      have e3 := VRl.e (t := 0) v3
      have eX : aI (jnA A (opS (F 7 (40 * m + p))) (opN (F 7 (40 * m + p))) (opS (F 7 (40 * m + (p + 1)))) (opN (F 7 (40 * m + (p + 1))))) 3 (A.1 1 0 - 1) (p + szO (opS (F 7 (40 * m + p)))) = stE (aI A 3 (A.1 1 0 - 1) (p + szO (opS (F 7 (40 * m + p))))) (opN (F 7 (40 * m + p))) (jD (opS (F 7 (40 * m + p))) (gE A (opS (F 7 (40 * m + (p + 1))))) (gE A (opN (F 7 (40 * m + (p + 1)))))) := by
        unfold jnA
        rw [e]
        rfl
      have fb : dB (jD (opS (F 7 (40 * m + p))) (gE A (opS (F 7 (40 * m + (p + 1))))) (gE A (opN (F 7 (40 * m + (p + 1)))))) := jD_dB q2 q3 (y8 e)
      have ev : hlD (jDc (opS (F 7 (40 * m + p))) (gE B (opS (F 7 (40 * m + (p + 1))))) (gE B (opN (F 7 (40 * m + (p + 1)))))) = jD (opS (F 7 (40 * m + p))) (gE A (opS (F 7 (40 * m + (p + 1))))) (gE A (opN (F 7 (40 * m + (p + 1))))) := by
        rw [e2, e3]
        exact jDc_e
      rw [eX]
      refine h.up G hm hp (r := opN (F 7 (40 * m + p))) (t := 4) (pr := _) r1 (fun q => by right; simpa using q) hi x5 x6 UP.e UP.k (fun h0 => ?_) ?_ ?_
      · rw [e_e.1, e_e.2, show bs A = 10 * (A.1 1 0 - 1) from rfl, k_k.1, k_k.2]
        exact VRl.d ev
      · rw [e_e.1]
        exact fb
      · rw [show bs A = 10 * (A.1 1 0 - 1) from rfl, k_k.2]
        show dB (hlD _)
        rw [ev]
        exact fb
  · intro hd
    unfold dzA at hd
    rw [Bool.and_eq_true, decide_eq_true_eq] at hd
    rw [e0, if_pos ⟨hd.1, (ed hd.1).trans hd.2⟩]

