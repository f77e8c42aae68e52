/-! an instruction on both sides: copies, constants, results, fields -/
theorem wk_s {F : Nat → Nat → Nat} {A : VM} {m p : Nat} (h1 : cvt (opS (F 7 (40 * m + p))) = false) (h2 : cps (opS (F 7 (40 * m + p))) = false) : wkA F A m p = smA F A m p (opS (F 7 (40 * m + p))) := by
  unfold wkA
  rw [h1, h2]
  rfl
theorem ps_o {F : Nat → Nat → Nat} {m p : Nat} {bf : Option Nat} {row : Nat → Nat} (h1 : cvt (opS (F 7 (40 * m + p))) = false) (h2 : cps (opS (F 7 (40 * m + p))) = false) (h3 : jns (opS (F 7 (40 * m + p))) = false) (h4 : ¬ (50 ≤ (opS (F 7 (40 * m + p))) ∧ (opS (F 7 (40 * m + p))) ≤ 55)) (h5 : ¬ ((56 ≤ (opS (F 7 (40 * m + p))) ∧ (opS (F 7 (40 * m + p))) ≤ 61) ∨ (opS (F 7 (40 * m + p))) = 103)) : insG F m p row = poG F m p row (opS (F 7 (40 * m + p))) ∧ insN F m p bf row = poN F m p bf row (opS (F 7 (40 * m + p))) := by
  unfold insG psG insN psN
  rw [h1, h2, h3, if_neg h4, if_neg h5, if_neg h4, if_neg h5]
  exact ⟨rfl, rfl⟩
theorem gE_I {A : VM} {k v r : Nat} : gE (aI A 3 k v) r = gE A r := by
  unfold gE
  rw [bs_I (by decide)]
  rfl
/-- what is set as it stood elsewhere -/
theorem s_cpy {F : Nat → Nat → Nat} {A B : VM} (G : GF F) (h : RL F A B) {m p : Nat} (hm : cmA A = m) (hp : cpA A = p) (ho : (opS (F 7 (40 * m + p))) ∈ [1, 4]) {w1 w2 : Nat} : RL F (stA F A m p) (stB F B m p (opS (F 7 (40 * m + p))) (F 7 (40 * m + p)) w1 w2) := by
  obtain ⟨c1, c2, c3, c4, c5, c6⟩ := h.cx G hm hp
  obtain ⟨r1, r2⟩ := rg_1 G.1 (frm_p c3).2.2.1 ho
  have ho2 : (opS (F 7 (40 * m + p))) = 1 ∨ (opS (F 7 (40 * m + p))) = 4 := by simpa using ho
  have x : cvt (opS (F 7 (40 * m + p))) = false ∧ cps (opS (F 7 (40 * m + p))) = false ∧ jns (opS (F 7 (40 * m + p))) = false ∧ brs (opS (F 7 (40 * m + p))) = false ∧ ens (opS (F 7 (40 * m + p))) = false ∧ (opS (F 7 (40 * m + p))) ≠ 113 ∧ kdO (opS (F 7 (40 * m + p))) = 4 := by
    rcases ho2 with e | e <;> rw [e] <;> decide +kernel
  obtain ⟨x1, x2, x3, x4, x5, x6, x7⟩ := x
  rw [stA_n x3 x4, wk_s x1 x2]
  have eA : smA F (aI A 3 (A.1 1 0 - 1) (p + szO (opS (F 7 (40 * m + p))))) m p (opS (F 7 (40 * m + p))) = stE (stW (aI A 3 (A.1 1 0 - 1) (p + szO (opS (F 7 (40 * m + p))))) (opA (F 7 (40 * m + p))) (gW A (opB (F 7 (40 * m + p))))) (opA (F 7 (40 * m + p))) (gE A (opB (F 7 (40 * m + p)))) := by
    unfold smA
    rw [if_pos ho, gW_I (by decide), gE_I]
  have eB : stB F B m p (opS (F 7 (40 * m + p))) (F 7 (40 * m + p)) w1 w2 = kset (aI B 3 (A.1 1 0 - 1) (p + szO (opS (F 7 (40 * m + p))))) (A.1 1 0 - 1) (opA (F 7 (40 * m + p))) (gW B (opB (F 7 (40 * m + p)))) (gE B (opB (F 7 (40 * m + p)))) := by
    unfold stB
    rw [x7, h.de]
    rcases ho2 with e | e <;> rw [e] <;> rfl
  rw [eA, eB]
  have hv := c6 _ r2
  obtain ⟨g1, g2⟩ := ps_o (bf := pbG (bgF F m) p) (row := TT F m p) x1 x2 x3 (by omega) (by omega)
  rw [g1] at c4
  have da := h.da.g r2 h.d6
  have db : dB (gE B (opB (F 7 (40 * m + p)))) := h.db _
  have fin : ∀ (t : Nat) (pr : Bool), (pr = true → t = 0 ∨ t = 2 ∨ t = 4) → insN F m p (pbG (bgF F m) p) (TT F m p) = stN (TT F m p) (opA (F 7 (40 * m + p))) t pr → (t ≠ 0 → TT F m p (opB (F 7 (40 * m + p))) = fsO t) → RL F (stE (stW (aI A 3 (A.1 1 0 - 1) (p + szO (opS (F 7 (40 * m + p))))) (opA (F 7 (40 * m + p))) (gW A (opB (F 7 (40 * m + p))))) (opA (F 7 (40 * m + p))) (gE A (opB (F 7 (40 * m + p))))) (kset (aI B 3 (A.1 1 0 - 1) (p + szO (opS (F 7 (40 * m + p))))) (A.1 1 0 - 1) (opA (F 7 (40 * m + p))) (gW B (opB (F 7 (40 * m + p)))) (gE B (opB (F 7 (40 * m + p))))) := fun t pr hpr hi ht => by
    refine h.up G hm hp (r := opA (F 7 (40 * m + p))) (t := t) (pr := pr) r1 hpr hi x5 x6 UP.b UP.k (fun h0 => ?_) ?_ ?_
    · rw [b_b.1, b_b.2, show bs A = 10 * (A.1 1 0 - 1) from rfl, k_k.1, k_k.2, ← ht h0]
      exact hv
    · rw [b_b.2]
      exact da
    · rw [show bs A = 10 * (A.1 1 0 - 1) from rfl, k_k.2]
      exact db
  rcases ho2 with e | e
  · refine fin (if isT (TT F m p) (opB (F 7 (40 * m + p))) 1 = true then 1 else if isT (TT F m p) (opB (F 7 (40 * m + p))) 3 = true then 3 else 0) _ (fun q => ?_) (by rw [g2]; unfold poN; rw [if_pos (show (opS (F 7 (40 * m + p))) ∈ [1] by rw [e]; decide)]; rfl) (fun _ => ?_)
    · right; simpa using q
    · by_cases k : isT (TT F m p) (opB (F 7 (40 * m + p))) 1 = true
      · rw [if_pos k]
        exact isT_r k
      · rw [if_neg k]
        by_cases k2 : isT (TT F m p) (opB (F 7 (40 * m + p))) 3 = true
        · rw [if_pos k2]
          exact isT_r k2
        · exfalso
          unfold poG at c4
          rw [if_pos (show (opS (F 7 (40 * m + p))) ∈ [1] by rw [e]; decide), Bool.or_eq_true] at c4
          rcases c4 with q | q
          · exact k q
          · exact k2 q
  · refine fin (if isT (TT F m p) (opB (F 7 (40 * m + p))) 2 = true then 2 else if isT (TT F m p) (opB (F 7 (40 * m + p))) 4 = true then 4 else 0) true (fun _ => ?_) (by rw [g2]; unfold poN; rw [if_neg (show ¬ (opS (F 7 (40 * m + p))) ∈ [1] by rw [e]; decide), if_pos (show (opS (F 7 (40 * m + p))) ∈ [4] by rw [e]; decide)]) (fun _ => ?_)
    · split
      · exact Or.inr (Or.inl rfl)
      · split
        · exact Or.inr (Or.inr rfl)
        · exact Or.inl rfl
    · by_cases k : isT (TT F m p) (opB (F 7 (40 * m + p))) 2 = true
      · rw [if_pos k]
        exact isT_r k
      · rw [if_neg k]
        by_cases k2 : isT (TT F m p) (opB (F 7 (40 * m + p))) 4 = true
        · rw [if_pos k2]
          exact isT_r k2
        · exfalso
          unfold poG at c4
          rw [if_neg (show ¬ (opS (F 7 (40 * m + p))) ∈ [1] by rw [e]; decide), if_pos (show (opS (F 7 (40 * m + p))) ∈ [4] by rw [e]; decide), Bool.or_eq_true] at c4
          rcases c4 with q | q
          · exact k q
          · exact k2 q
/-- a call's result is taken -/
theorem s_res {F : Nat → Nat → Nat} {A B : VM} (G : GF F) (h : RL F A B) {m p : Nat} (hm : cmA A = m) (hp : cpA A = p) (ho : (opS (F 7 (40 * m + p))) ∈ [10, 11]) {w1 w2 : Nat} : RL F (stA F A m p) (stB F B m p (opS (F 7 (40 * m + p))) (F 7 (40 * m + p)) w1 w2) := by
  obtain ⟨c1, c2, c3, c4, c5, c6⟩ := h.cx G hm hp
  have ho2 : (opS (F 7 (40 * m + p))) = 10 ∨ (opS (F 7 (40 * m + p))) = 11 := by simpa using ho
  have r1 := rg_10 G.1 (frm_p c3).2.2.1 (show (opS (F 7 (40 * m + p))) ∈ [10, 11, 19, 22, 15, 16] by rcases ho2 with e | e <;> rw [e] <;> decide)
  have x : cvt (opS (F 7 (40 * m + p))) = false ∧ cps (opS (F 7 (40 * m + p))) = false ∧ jns (opS (F 7 (40 * m + p))) = false ∧ brs (opS (F 7 (40 * m + p))) = false ∧ ens (opS (F 7 (40 * m + p))) = false ∧ (opS (F 7 (40 * m + p))) ≠ 113 ∧ kdO (opS (F 7 (40 * m + p))) = 5 := by
    rcases ho2 with e | e <;> rw [e] <;> decide +kernel
  obtain ⟨x1, x2, x3, x4, x5, x6, x7⟩ := x
  rw [stA_n x3 x4, wk_s x1 x2]
  have eA : smA F (aI A 3 (A.1 1 0 - 1) (p + szO (opS (F 7 (40 * m + p))))) m p (opS (F 7 (40 * m + p))) = stE (stW (aI A 3 (A.1 1 0 - 1) (p + szO (opS (F 7 (40 * m + p))))) (opN (F 7 (40 * m + p))) (A.2.1 60)) (opN (F 7 (40 * m + p))) (A.2.2.1 60) := by
    unfold smA
    rw [if_neg (show ¬ (opS (F 7 (40 * m + p))) ∈ [1, 4] by rcases ho2 with e | e <;> rw [e] <;> decide), if_pos ho]
    rfl
  have eB : stB F B m p (opS (F 7 (40 * m + p))) (F 7 (40 * m + p)) w1 w2 = kset (aI B 3 (A.1 1 0 - 1) (p + szO (opS (F 7 (40 * m + p))))) (A.1 1 0 - 1) (opN (F 7 (40 * m + p))) (B.2.1 60) (B.2.2.1 60) := by
    unfold stB
    rw [x7, h.de]
    rfl
  rw [eA, eB]
  obtain ⟨g1, g2⟩ := ps_o (bf := pbG (bgF F m) p) (row := TT F m p) x1 x2 x3 (by omega) (by omega)
  have hrs := h.rs
  rw [hm, hp] at hrs
  have hv := hrs (by unfold isRs; rw [decide_eq_true_eq]; exact ho2)
  refine h.up G hm hp (r := opN (F 7 (40 * m + p))) (t := F 2 (cbF F m (pbG (bgF F m) p))) (pr := decide (F 2 (cbF F m (pbG (bgF F m) p)) = 2 ∨ F 2 (cbF F m (pbG (bgF F m) p)) = 4)) r1 (fun q => by right; simpa using q) ?_ x5 x6 UP.b UP.k (fun h0 => ?_) ?_ ?_
  · rw [g2]
    unfold poN
    rw [if_neg (show ¬ (opS (F 7 (40 * m + p))) ∈ [1] by rcases ho2 with e | e <;> rw [e] <;> decide), if_neg (show ¬ (opS (F 7 (40 * m + p))) ∈ [4] by rcases ho2 with e | e <;> rw [e] <;> decide), if_pos ho]
    rfl
  · rw [b_b.1, b_b.2, show bs A = 10 * (A.1 1 0 - 1) from rfl, k_k.1, k_k.2]
    exact hv
  · rw [b_b.2]
    exact h.da 60 (Nat.le_refl _)
  · rw [show bs A = 10 * (A.1 1 0 - 1) from rfl, k_k.2]
    exact h.db _
/-- a whole number is set -/
theorem s_w {F : Nat → Nat → Nat} {A B : VM} (G : GF F) (h : RL F A B) {m p : Nat} (hm : cmA A = m) (hp : cpA A = p) {r t : Nat} (hr : r < 10) (h1 : cvt (opS (F 7 (40 * m + p))) = false) (h2 : cps (opS (F 7 (40 * m + p))) = false) (h3 : jns (opS (F 7 (40 * m + p))) = false) (h4 : brs (opS (F 7 (40 * m + p))) = false) (h5 : ens (opS (F 7 (40 * m + p))) = false) (h6 : (opS (F 7 (40 * m + p))) ≠ 113) (ht : t = 1 ∨ t = 2) (hi : insN F m p (pbG (bgF F m) p) (TT F m p) = stT (TT F m p) r t) {x : Int32} (eA : smA F (aI A 3 (A.1 1 0 - 1) (p + szO (opS (F 7 (40 * m + p))))) m p (opS (F 7 (40 * m + p))) = stW (aI A 3 (A.1 1 0 - 1) (p + szO (opS (F 7 (40 * m + p))))) r x.toInt64) {w1 w2 : Nat} (eB : stB F B m p (opS (F 7 (40 * m + p))) (F 7 (40 * m + p)) w1 w2 = kset (aI B 3 (A.1 1 0 - 1) (p + szO (opS (F 7 (40 * m + p))))) (A.1 1 0 - 1) r x.toInt64 0) : RL F (stA F A m p) (stB F B m p (opS (F 7 (40 * m + p))) (F 7 (40 * m + p)) w1 w2) := by
  rw [stA_n h3 h4, wk_s h1 h2, eA, eB]
  refine h.up G hm hp (r := r) (t := t) (pr := decide (t = 2 ∨ t = 4)) hr (fun q => by right; simpa using q) hi h5 h6 UP.w UP.k (fun h0 => ?_) ?_ ?_
  · rw [w_w.1, w_w.2, show bs A = 10 * (A.1 1 0 - 1) from rfl, k_k.1, k_k.2]
    rcases ht with e | e
    · subst e
      exact VRl.i rfl ⟨x, rfl⟩
    · subst e
      exact VRl.l rfl
  · rw [w_w.2]
    exact h.da.g hr h.d6
  · rw [show bs A = 10 * (A.1 1 0 - 1) from rfl, k_k.2]
    exact d0_dB
theorem s_18 {F : Nat → Nat → Nat} {A B : VM} (G : GF F) (h : RL F A B) {m p : Nat} (hm : cmA A = m) (hp : cpA A = p) (ho : (opS (F 7 (40 * m + p))) = 18) {w1 w2 : Nat} : RL F (stA F A m p) (stB F B m p (opS (F 7 (40 * m + p))) (F 7 (40 * m + p)) w1 w2) := by
  obtain ⟨c1, c2, c3, c4, c5, c6⟩ := h.cx G hm hp
  have x : cvt (opS (F 7 (40 * m + p))) = false ∧ cps (opS (F 7 (40 * m + p))) = false ∧ jns (opS (F 7 (40 * m + p))) = false ∧ brs (opS (F 7 (40 * m + p))) = false ∧ ens (opS (F 7 (40 * m + p))) = false ∧ (opS (F 7 (40 * m + p))) ≠ 113 ∧ kdO (opS (F 7 (40 * m + p))) = 6 := by
    rw [ho]; decide +kernel
  obtain ⟨x1, x2, x3, x4, x5, x6, x7⟩ := x
  obtain ⟨g1, g2⟩ := ps_o (bf := pbG (bgF F m) p) (row := TT F m p) x1 x2 x3 (by omega) (by omega)
  refine s_w G h hm hp (r := opA (F 7 (40 * m + p))) (t := 1) (x := sb4 (opB (F 7 (40 * m + p)))) (rg_18 G.1 (frm_p c3).2.2.1 (by rw [ho]; decide)) x1 x2 x3 x4 x5 x6 (Or.inl rfl) ?_ ?_ ?_
  · rw [g2, ho]
    rfl
  · rw [ho]
    show stW _ _ (if 7 < opB (F 7 (40 * m + p)) then (nI (opB (F 7 (40 * m + p))) - 16).toInt64 else (nI (opB (F 7 (40 * m + p)))).toInt64) = _
    unfold sb4
    split <;> rfl
  · unfold stB
    rw [x7, h.de]
    show kset _ _ (dRes (opS (F 7 (40 * m + p))) (F 7 (40 * m + p))) (dNum (opS (F 7 (40 * m + p))) (F 7 (40 * m + p)) w1).toInt64 0 = _
    unfold dRes dNum
    rw [x7]
    rfl
theorem s_19 {F : Nat → Nat → Nat} {A B : VM} (G : GF F) (h : RL F A B) {m p : Nat} (hm : cmA A = m) (hp : cpA A = p) (ho : (opS (F 7 (40 * m + p))) = 19 ∨ (opS (F 7 (40 * m + p))) = 22) {w2 : Nat} : RL F (stA F A m p) (stB F B m p (opS (F 7 (40 * m + p))) (F 7 (40 * m + p)) (F 7 (40 * m + (p + 1))) w2) := by
  obtain ⟨c1, c2, c3, c4, c5, c6⟩ := h.cx G hm hp
  have x : cvt (opS (F 7 (40 * m + p))) = false ∧ cps (opS (F 7 (40 * m + p))) = false ∧ jns (opS (F 7 (40 * m + p))) = false ∧ brs (opS (F 7 (40 * m + p))) = false ∧ ens (opS (F 7 (40 * m + p))) = false ∧ (opS (F 7 (40 * m + p))) ≠ 113 ∧ kdO (opS (F 7 (40 * m + p))) = 8 := by
    rcases ho with ho | ho <;> rw [ho] <;> decide +kernel
  obtain ⟨x1, x2, x3, x4, x5, x6, x7⟩ := x
  obtain ⟨g1, g2⟩ := ps_o (bf := pbG (bgF F m) p) (row := TT F m p) x1 x2 x3 (by omega) (by omega)
  refine s_w G h hm hp (r := opN (F 7 (40 * m + p))) (t := if (opS (F 7 (40 * m + p))) = 19 then 1 else 2) (x := nmI (F 7 (40 * m + (p + 1)))) (rg_10 G.1 (frm_p c3).2.2.1 (by rcases ho with ho | ho <;> rw [ho] <;> decide)) x1 x2 x3 x4 x5 x6 (by split; exact Or.inl rfl; exact Or.inr rfl) ?_ ?_ ?_
  · rw [g2]
    rcases ho with ho | ho <;> rw [ho] <;> rfl
  · rcases ho with ho | ho <;> rw [ho] <;> rfl
  · unfold stB
    rw [x7, h.de]
    show kset _ _ (dRes (opS (F 7 (40 * m + p))) (F 7 (40 * m + p))) (dNum (opS (F 7 (40 * m + p))) (F 7 (40 * m + p)) (F 7 (40 * m + (p + 1)))).toInt64 0 = _
    unfold dRes dNum
    rw [x7]
    rfl
theorem s_96 {F : Nat → Nat → Nat} {A B : VM} (G : GF F) (h : RL F A B) {m p : Nat} (hm : cmA A = m) (hp : cpA A = p) (ho : (opS (F 7 (40 * m + p))) = 96) {w2 : Nat} : RL F (stA F A m p) (stB F B m p (opS (F 7 (40 * m + p))) (F 7 (40 * m + p)) (F 7 (40 * m + (p + 1))) w2) := by
  obtain ⟨c1, c2, c3, c4, c5, c6⟩ := h.cx G hm hp
  have x : cvt (opS (F 7 (40 * m + p))) = false ∧ cps (opS (F 7 (40 * m + p))) = false ∧ jns (opS (F 7 (40 * m + p))) = false ∧ brs (opS (F 7 (40 * m + p))) = false ∧ ens (opS (F 7 (40 * m + p))) = false ∧ (opS (F 7 (40 * m + p))) ≠ 113 ∧ kdO (opS (F 7 (40 * m + p))) = 12 := by
    rw [ho]; decide +kernel
  obtain ⟨x1, x2, x3, x4, x5, x6, x7⟩ := x
  obtain ⟨g1, g2⟩ := ps_o (bf := pbG (bgF F m) p) (row := TT F m p) x1 x2 x3 (by omega) (by omega)
  obtain ⟨r1, r2⟩ := rg_96 G.1 (frm_p c3).2.2.1 (show (opS (F 7 (40 * m + p))) ∈ [96, 103] by rw [ho]; decide)
  refine s_w G h hm hp (r := opN (F 7 (40 * m + p))) (t := 1) (x := A.2.2.2 (F 7 (40 * m + (p + 1)))) r1 x1 x2 x3 x4 x5 x6 (Or.inl rfl) ?_ ?_ ?_
  · rw [g2, ho]
    rfl
  · rw [ho]
    rfl
  · unfold stB
    rw [x7, h.de, ← h.ff _ (Nat.lt_of_lt_of_le r2 G.1.2.1)]
    rfl
theorem s_103 {F : Nat → Nat → Nat} {A B : VM} (G : GF F) (h : RL F A B) {m p : Nat} (hm : cmA A = m) (hp : cpA A = p) (ho : (opS (F 7 (40 * m + p))) = 103) {w2 : Nat} : RL F (stA F A m p) (stB F B m p (opS (F 7 (40 * m + p))) (F 7 (40 * m + p)) (F 7 (40 * m + (p + 1))) w2) := by
  obtain ⟨c1, c2, c3, c4, c5, c6⟩ := h.cx G hm hp
  have x : cvt (opS (F 7 (40 * m + p))) = false ∧ cps (opS (F 7 (40 * m + p))) = false ∧ jns (opS (F 7 (40 * m + p))) = false ∧ brs (opS (F 7 (40 * m + p))) = false ∧ ens (opS (F 7 (40 * m + p))) = false ∧ (opS (F 7 (40 * m + p))) ≠ 113 ∧ kdO (opS (F 7 (40 * m + p))) = 13 := by
    rw [ho]; decide +kernel
  obtain ⟨x1, x2, x3, x4, x5, x6, x7⟩ := x
  obtain ⟨r1, r2⟩ := rg_96 G.1 (frm_p c3).2.2.1 (show (opS (F 7 (40 * m + p))) ∈ [96, 103] by rw [ho]; decide)
  have hi : insN F m p (pbG (bgF F m) p) (TT F m p) = TT F m p := by
    unfold insN psN
    rw [x1, x2, x3, if_neg (show ¬ (50 ≤ (opS (F 7 (40 * m + p))) ∧ (opS (F 7 (40 * m + p))) ≤ 55) by omega), if_pos (Or.inr ho)]
    rfl
  have hs : isT (TT F m p) (opN (F 7 (40 * m + p))) 1 = true := by
    unfold insG psG at c4
    rw [x1, x2, x3, if_neg (show ¬ (50 ≤ (opS (F 7 (40 * m + p))) ∧ (opS (F 7 (40 * m + p))) ≤ 55) by omega), if_pos (Or.inr ho)] at c4
    exact c4
  have hv := c6 _ r1
  rw [isT_r hs] at hv
  obtain ⟨e, _⟩ := VRl.a (t := 0) hv
  have hN := RH.nx G c1 c2 x5 x6
  rw [hi] at hN
  rw [stA_n x3 x4, wk_s x1 x2]
  have eA : smA F (aI A 3 (A.1 1 0 - 1) (p + szO (opS (F 7 (40 * m + p))))) m p (opS (F 7 (40 * m + p))) = aF (aI A 3 (A.1 1 0 - 1) (p + szO (opS (F 7 (40 * m + p))))) (F 7 (40 * m + (p + 1))) (gW A (opN (F 7 (40 * m + p)))).toInt32 := by
    rw [ho]
    rfl
  have eB : stB F B m p (opS (F 7 (40 * m + p))) (F 7 (40 * m + p)) (F 7 (40 * m + (p + 1))) w2 = aF (aI B 3 (A.1 1 0 - 1) (p + szO (opS (F 7 (40 * m + p))))) (F 7 (40 * m + (p + 1))) (gW A (opN (F 7 (40 * m + p)))).toInt32 := by
    unfold stB
    rw [x7, h.de, ← e]
    rfl
  rw [eA, eB]
  refine h.nb hm hp hN rfl rfl ⟨rfl, rfl⟩ ⟨rfl, rfl⟩ (fun k hk => ?_)
  by_cases c : k = (F 7 (40 * m + (p + 1)))
  · rw [c, aF_s, aF_s]
  · rw [aF_n c, aF_n c]
    exact h.ff k hk
theorem s_0 {F : Nat → Nat → Nat} {A B : VM} (G : GF F) (h : RL F A B) {m p : Nat} (hm : cmA A = m) (hp : cpA A = p) (ho : (opS (F 7 (40 * m + p))) = 0) {w1 w2 : Nat} : RL F (stA F A m p) (stB F B m p (opS (F 7 (40 * m + p))) (F 7 (40 * m + p)) w1 w2) := by
  obtain ⟨c1, c2, c3, c4, c5, c6⟩ := h.cx G hm hp
  have x : cvt (opS (F 7 (40 * m + p))) = false ∧ cps (opS (F 7 (40 * m + p))) = false ∧ jns (opS (F 7 (40 * m + p))) = false ∧ brs (opS (F 7 (40 * m + p))) = false ∧ ens (opS (F 7 (40 * m + p))) = false ∧ (opS (F 7 (40 * m + p))) ≠ 113 ∧ kdO (opS (F 7 (40 * m + p))) = 1 := by
    rw [ho]; decide +kernel
  obtain ⟨x1, x2, x3, x4, x5, x6, x7⟩ := x
  obtain ⟨g1, g2⟩ := ps_o (bf := pbG (bgF F m) p) (row := TT F m p) x1 x2 x3 (by omega) (by omega)
  have hN := RH.nx G c1 c2 x5 x6
  rw [g2, show poN F m p (pbG (bgF F m) p) (TT F m p) (opS (F 7 (40 * m + p))) = TT F m p by rw [ho]; rfl] at hN
  rw [stA_n x3 x4, wk_s x1 x2]
  have eA : smA F (aI A 3 (A.1 1 0 - 1) (p + szO (opS (F 7 (40 * m + p))))) m p (opS (F 7 (40 * m + p))) = aI A 3 (A.1 1 0 - 1) (p + szO (opS (F 7 (40 * m + p)))) := by
    rw [ho]
    rfl
  have eB : stB F B m p (opS (F 7 (40 * m + p))) (F 7 (40 * m + p)) w1 w2 = aI B 3 (A.1 1 0 - 1) (p + szO (opS (F 7 (40 * m + p)))) := by
    unfold stB
    rw [x7, h.de]
    rfl
  rw [eA, eB]
  exact h.nb hm hp hN rfl rfl ⟨rfl, rfl⟩ ⟨rfl, rfl⟩ (fun k hk => h.ff k hk)

