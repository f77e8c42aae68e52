/-! the class: ways come together -/
def P5 (q s o k : Nat) : Prop := (o = s ∧ k = 0) ∨ o = s + 1 ∨ (o = q + 3 ∧ k = 1)
/-- registers up to j are joined -/
def JI (σ σ1 : fr_S) (q s : Nat) (row N : Nat → Nat) (fr c : Bool) (j : Nat) : Prop := Agp (P5 q s) σ σ1 ∧ gI σ1 s 0 = 1 ∧ gI σ1 (q + 3) 1 = b2i ((c || fr) || chR fr row N j) ∧ (∀ r, r < 10 → r < j → gI σ1 (s + 1) r = nI (mrg fr row N r)) ∧ (fr = false → ∀ r, r < 10 → j ≤ r → gI σ1 (s + 1) r = nI (row r))
theorem mrg_z {row N : Nat → Nat} {j : Nat} (h : row j = 0 ∨ row j = N j) : mrg false row N j = row j := by
  unfold mrg
  by_cases c : row j = N j
  · rw [if_pos (Or.inr c), c]
  · rw [if_neg (fun z => z.elim Bool.false_ne_true c)]
    omega
section JIS
variable {σ σ1 : fr_S} {q s j : Nat} {row N : Nat → Nat} {fr c : Bool}
theorem JI.fresh (hs : s ≠ q + 3 ∧ s + 1 ≠ q + 3) (hf : fr = true) (h : JI σ σ1 q s row N fr c j) : JI σ (sI σ1 (s + 1) j (nI (N j))) q s row N fr c (j + 1) := by
  subst hf
  obtain ⟨a, b, d, e, f⟩ := h
  refine ⟨a.w (Or.inr (Or.inl rfl)), (gI_n (Or.inl (by omega))).trans b, (gI_n (Or.inl (by omega))).trans (d.trans ?_), fun r hr hj => ?_, fun q => by cases q⟩
  · simp
  · by_cases x : r = j
    · subst x
      rw [gI_s]
      rfl
    · rw [gI_n (Or.inr x)]
      exact e r hr (by omega)
theorem JI.same (hf : fr = false) (hm : mrg false row N j = row j) (h : JI σ σ1 q s row N fr c j) : JI σ σ1 q s row N fr c (j + 1) := by
  subst hf
  obtain ⟨a, b, d, e, f⟩ := h
  refine ⟨a, b, d.trans ?_, fun r hr hj => ?_, fun _ r hr hj => f rfl r hr (by omega)⟩
  · show _ = b2i (_ || (chR false row N j || decide (¬ mrg false row N j = row j)))
    rw [hm, decide_eq_false (fun z => z rfl), Bool.or_false, Bool.or_false]
  · by_cases x : r = j
    · subst x
      rw [f rfl r hr (Nat.le_refl _), hm]
    · exact e r hr (by omega)
theorem JI.chg (hs : s ≠ q + 3 ∧ s + 1 ≠ q + 3) (hf : fr = false) (h0 : ¬ row j = 0) (hn : ¬ row j = N j) (h : JI σ σ1 q s row N fr c j) : JI σ (sI (sI σ1 (s + 1) j 0) (q + 3) 1 1) q s row N fr c (j + 1) := by
  subst hf
  obtain ⟨a, b, d, e, f⟩ := h
  have hm : mrg false row N j = 0 := if_neg (fun z => z.elim Bool.false_ne_true hn)
  refine ⟨(a.w (Or.inr (Or.inl rfl))).w (Or.inr (Or.inr ⟨rfl, rfl⟩)), (gI_n (Or.inl (by omega))).trans ((gI_n (Or.inl (by omega))).trans b), gI_s.trans ?_, fun r hr hj => ?_, fun _ r hr hj => ?_⟩
  · show _ = b2i (_ || (chR false row N j || decide (¬ mrg false row N j = row j)))
    rw [hm, decide_eq_true (show ¬ 0 = row j from fun z => h0 z.symm), Bool.or_true, Bool.or_true]
    rfl
  · rw [gI_n (Or.inl (by omega))]
    by_cases x : r = j
    · subst x
      rw [gI_s, hm]
      rfl
    · rw [gI_n (Or.inr x)]
      exact e r hr (by omega)
  · rw [gI_n (Or.inl (by omega)), gI_n (Or.inr (by omega))]
    exact f rfl r hr (by omega)
end JIS

set_option maxRecDepth 100000 in
set_option maxHeartbeats 1000000 in
theorem k_join_lp {l : Launch} {G : fr_G} {σ : fr_S} {q : Nat} (hq : PB q) (hRf : RF σ) {s : Nat} (hS : SE s) {row N : Nat → Nat} (hN0 : AN σ q N) (h6 : ∀ r, N r ≤ 6) (hr6 : ∀ r, row r ≤ 6) {fr c : Bool} {Post : Option Value → fr_S → Prop} (hp0 : ∀ r σ', (fun r0 σ' => r0 = none ∧ JI σ σ' q s row N fr c 10) r σ' → Post r σ') : ∀ (d : Nat) (j : Nat) (σ1 : fr_S), 10 - j < d → j ≤ 10 → JI σ σ1 q s row N fr c j → PX l G yy_Fl_join rm_Fl_join (QR G false 742 0 0 Post) false 742 0 0 45 [(0, .ref (q + 3)), (1, .ref (s)), (2, .int (b2i (fr))), (3, .int (nI (j)))] [] (σ1) := by
  intro d
  induction d with
  | zero => intro j σ1 hd; exact absurd hd (Nat.not_lt_zero _)
  | succ d ih =>
    intro j σ1 hd hj hJ
    have kP := kd_P hq
    have kS := kd_S hS
    have hsq := S_ne hq hS
    have hsq2 := hsq.2.2
    have hR := hJ.1.rfs hRf
    have h6j := h6 j
    have hr6j := hr6 j
    refine px_iload_n dx_Fl_join_45 rfl ?_
    refine px_bipush (v := 10) dx_Fl_join_46 rfl ?_
    refine px_icmp_geN (a := j) (b := 10) dx_Fl_join_48 (by omega) (by omega) (fun c_48 => ?_) (fun c_48 => ?_)
    · exact px_vret dx_Fl_join_112 rfl (by (obtain rfl : j = 10 := by omega); exact hp0 _ _ ⟨rfl, hJ⟩)
    · refine px_iload_n dx_Fl_join_51 rfl ?_
      refine px_if_eqB dx_Fl_join_52 (fun c_52 => ?_) (fun c_52 => ?_)
      · refine px_aload_n dx_Fl_join_70 rfl ?_
        refine px_getR (r := s + 1) dx_Fl_join_71 fl_Fl_86 kS.1 (by omega) rfl (hR.2.2.2.2.2 s hS) ?_
        refine px_iload_n dx_Fl_join_74 rfl ?_
        refine px_ialdN (j := j) dx_Fl_join_75 kS.2.1 (by omega) (by omega) ?_
        refine px_eqi (y := nI (row j)) (hJ.2.2.2.2 c_52 j (by omega) (Nat.le_refl _)) ?_
        refine px_if_eqN (a := row j) dx_Fl_join_76 (by omega) (fun c_76 => ?_) (fun c_76 => ?_)
        · refine px_iinc (v := (nI (j + 1))) (lv' := [(3, .int (nI (j + 1))), (0, .ref (q + 3)), (1, .ref (s)), (2, .int (b2i (fr)))]) dx_Fl_join_106 rfl (nI_1 _) (by decide) rfl ?_
          refine px_goto dx_Fl_join_109 ?_
          refine px_sub [1, 2, 3, 0] rfl ?_
          exact ih (j + 1) _ (by omega) (by omega) (hJ.same (by simpa using c_52) (mrg_z (by omega)))
        · refine px_aload_n dx_Fl_join_79 rfl ?_
          refine px_getR (r := s + 1) dx_Fl_join_80 fl_Fl_86 kS.1 (by omega) rfl (hR.2.2.2.2.2 s hS) ?_
          refine px_iload_n dx_Fl_join_83 rfl ?_
          refine px_ialdN (j := j) dx_Fl_join_84 kS.2.1 (by omega) (by omega) ?_
          refine px_eqi (y := nI (row j)) (hJ.2.2.2.2 c_52 j (by omega) (Nat.le_refl _)) ?_
          refine px_aload_n dx_Fl_join_85 rfl ?_
          refine px_getR (r := q + 4) dx_Fl_join_86 fl_Fl_9 kP.2.2.2.1 (by omega) rfl (hR.2.2.2.1 q hq).2.2.2.1 ?_
          refine px_iload_n dx_Fl_join_89 rfl ?_
          refine px_ialdN (j := j) dx_Fl_join_90 kP.2.2.2.2.1 (by omega) (by omega) ?_
          refine px_eqi (y := nI (N j)) ((hJ.1.1 _ _ (by unfold P5; omega)).trans (hN0 j (by omega))) ?_
          refine px_icmp_eqN (a := row j) (b := N j) dx_Fl_join_91 (by omega) (by omega) (fun c_91 => ?_) (fun c_91 => ?_)
          · refine px_iinc (v := (nI (j + 1))) (lv' := [(3, .int (nI (j + 1))), (0, .ref (q + 3)), (1, .ref (s)), (2, .int (b2i (fr)))]) dx_Fl_join_106 rfl (nI_1 _) (by decide) rfl ?_
            refine px_goto dx_Fl_join_109 ?_
            refine px_sub [1, 2, 3, 0] rfl ?_
            exact ih (j + 1) _ (by omega) (by omega) (hJ.same (by simpa using c_52) (mrg_z (by omega)))
          · refine px_aload_n dx_Fl_join_94 rfl ?_
            refine px_getR (r := s + 1) dx_Fl_join_95 fl_Fl_86 kS.1 (by omega) rfl (hR.2.2.2.2.2 s hS) ?_
            refine px_iload_n dx_Fl_join_98 rfl ?_
            refine px_iconst (v := 0) dx_Fl_join_99 rfl ?_
            refine px_iastN (j := j) dx_Fl_join_100 kS.2.1 (by omega) (by omega) ?_
            refine px_aload_n dx_Fl_join_101 rfl ?_
            refine px_iconst (v := 1) dx_Fl_join_102 rfl ?_
            refine px_putZ dx_Fl_join_103 fl_Fl_15 kP.2.2.2.1 (by omega) rfl (by decide) ?_
            refine px_iinc (v := (nI (j + 1))) (lv' := [(3, .int (nI (j + 1))), (0, .ref (q + 3)), (1, .ref (s)), (2, .int (b2i (fr)))]) dx_Fl_join_106 rfl (nI_1 _) (by decide) rfl ?_
            refine px_goto dx_Fl_join_109 ?_
            refine px_sub [1, 2, 3, 0] rfl ?_
            exact ih (j + 1) _ (by omega) (by omega) (hJ.chg hsq2 (by simpa using c_52) (by omega) (by omega))
      · refine px_aload_n dx_Fl_join_55 rfl ?_
        refine px_getR (r := s + 1) dx_Fl_join_56 fl_Fl_86 kS.1 (by omega) rfl (hR.2.2.2.2.2 s hS) ?_
        refine px_iload_n dx_Fl_join_59 rfl ?_
        refine px_aload_n dx_Fl_join_60 rfl ?_
        refine px_getR (r := q + 4) dx_Fl_join_61 fl_Fl_9 kP.2.2.2.1 (by omega) rfl (hR.2.2.2.1 q hq).2.2.2.1 ?_
        refine px_iload_n dx_Fl_join_64 rfl ?_
        refine px_ialdN (j := j) dx_Fl_join_65 kP.2.2.2.2.1 (by omega) (by omega) ?_
        refine px_eqi (y := nI (N j)) ((hJ.1.1 _ _ (by unfold P5; omega)).trans (hN0 j (by omega))) ?_
        refine px_iastN (j := j) dx_Fl_join_66 kS.2.1 (by omega) (by omega) ?_
        refine px_goto dx_Fl_join_67 ?_
        refine px_iinc (v := (nI (j + 1))) (lv' := [(3, .int (nI (j + 1))), (0, .ref (q + 3)), (1, .ref (s)), (2, .int (b2i (fr)))]) dx_Fl_join_106 rfl (nI_1 _) (by decide) rfl ?_
        refine px_goto dx_Fl_join_109 ?_
        refine px_sub [1, 2, 3, 0] rfl ?_
        exact ih (j + 1) _ (by omega) (by omega) (hJ.fresh hsq2 (by simpa using c_52))
set_option maxRecDepth 100000 in
set_option maxHeartbeats 1000000 in
theorem k_join {l : Launch} {G : fr_G} {σ : fr_S} {q : Nat} (hq : PB q) (hRf : RF σ) {s : Nat} (hS : SE s) {row N : Nat → Nat} (hN0 : AN σ q N) (h6 : ∀ r, N r ≤ 6) (hr6 : ∀ r, row r ≤ 6) {fr c : Bool} (h0 : gI σ s 0 = b2i (!fr)) (hc : gI σ (q + 3) 1 = b2i c) (hrow : fr = false → ∀ r, r < 10 → gI σ (s + 1) r = nI (row r)) : CR l G yy_Fl_join rm_Fl_join [.ref (q + 3), .ref (s)] σ (fun r0 σ' => r0 = none ∧ JI σ σ' q s row N fr c 10) := by
  intro Post hp0
  show PX l G yy_Fl_join rm_Fl_join _ false 742 0 0 0 [(0, .ref (q + 3)), (1, .ref (s))] [] σ
  have kP := kd_P hq
  have kS := kd_S hS
  have hsq := S_ne hq hS
  have hsq2 := hsq.2.2
  have hR := hRf
  refine px_aload_n dx_Fl_join_0 rfl ?_
  refine px_ifnonnull dx_Fl_join_1 ?_
  refine px_aload_n dx_Fl_join_5 rfl ?_
  refine px_getI dx_Fl_join_6 fl_Fl_33 kS.1 (by omega) rfl ?_
  refine px_eqi (y := b2i (!fr)) h0 ?_
  refine px_if_neB dx_Fl_join_9 (fun c_9 => ?_) (fun c_9 => ?_)
  · refine px_iconst (v := 0) dx_Fl_join_16 rfl ?_
    refine px_istore_n (lv' := [(2, .int (0)), (0, .ref (q + 3)), (1, .ref (s))]) dx_Fl_join_17 (by decide) rfl ?_
    refine px_aload_n dx_Fl_join_18 rfl ?_
    refine px_iconst (v := 1) dx_Fl_join_19 rfl ?_
    refine px_putZ dx_Fl_join_20 fl_Fl_33 kS.1 (by omega) rfl (by decide) ?_
    refine px_aload_n dx_Fl_join_23 rfl ?_
    refine px_aload_n dx_Fl_join_24 rfl ?_
    refine px_getI dx_Fl_join_25 fl_Fl_15 kP.2.2.2.1 (by omega) rfl ?_
    refine px_eqi (y := b2i (c)) (Eq.trans (gI_n (Or.inr (by decide))) hc) ?_
    refine px_if_neB dx_Fl_join_28 (fun c_28 => ?_) (fun c_28 => ?_)
    · refine px_iconst (v := 1) dx_Fl_join_35 rfl ?_
      refine px_goto dx_Fl_join_36 ?_
      refine px_putZ dx_Fl_join_40 fl_Fl_15 kP.2.2.2.1 (by omega) rfl (by decide) ?_
      refine px_iconst (v := 0) dx_Fl_join_43 rfl ?_
      refine px_istore_n (lv' := [(3, .int (0)), (2, .int (0)), (0, .ref (q + 3)), (1, .ref (s))]) dx_Fl_join_44 (by decide) rfl ?_
      refine px_sub [2, 3, 1, 0] rfl ?_
      obtain rfl : fr = false := by simpa using c_9
      exact k_join_lp (σ := σ) hq hRf hS hN0 h6 hr6 hp0 11 0 _ (by omega) (by omega) ⟨(Agp.rf.w (Or.inl ⟨rfl, rfl⟩)).w (Or.inr (Or.inr ⟨rfl, rfl⟩)), (gI_n (Or.inl (by omega))).trans gI_s, gI_s.trans (by cases c <;> first | rfl | exact Bool.noConfusion c_28), fun r _ h => absurd h (Nat.not_lt_zero _), fun z r hr _ => (gI_n (Or.inl (by omega))).trans ((gI_n (Or.inl (by omega))).trans (hrow rfl r hr))⟩
    · refine px_iload_n dx_Fl_join_31 rfl ?_
      refine px_if_eq dx_Fl_join_32 (fun _ => ?_) (fun q => absurd (by decide) q)
      refine px_iconst (v := 0) dx_Fl_join_39 rfl ?_
      refine px_putZ dx_Fl_join_40 fl_Fl_15 kP.2.2.2.1 (by omega) rfl (by decide) ?_
      refine px_iconst (v := 0) dx_Fl_join_43 rfl ?_
      refine px_istore_n (lv' := [(3, .int (0)), (2, .int (0)), (0, .ref (q + 3)), (1, .ref (s))]) dx_Fl_join_44 (by decide) rfl ?_
      refine px_sub [2, 3, 1, 0] rfl ?_
      obtain rfl : fr = false := by simpa using c_9
      exact k_join_lp (σ := σ) hq hRf hS hN0 h6 hr6 hp0 11 0 _ (by omega) (by omega) ⟨(Agp.rf.w (Or.inl ⟨rfl, rfl⟩)).w (Or.inr (Or.inr ⟨rfl, rfl⟩)), (gI_n (Or.inl (by omega))).trans gI_s, gI_s.trans (by cases c <;> first | rfl | exact Bool.noConfusion c_28), fun r _ h => absurd h (Nat.not_lt_zero _), fun z r hr _ => (gI_n (Or.inl (by omega))).trans ((gI_n (Or.inl (by omega))).trans (hrow rfl r hr))⟩
  · refine px_iconst (v := 1) dx_Fl_join_12 rfl ?_
    refine px_goto dx_Fl_join_13 ?_
    refine px_istore_n (lv' := [(2, .int (1)), (0, .ref (q + 3)), (1, .ref (s))]) dx_Fl_join_17 (by decide) rfl ?_
    refine px_aload_n dx_Fl_join_18 rfl ?_
    refine px_iconst (v := 1) dx_Fl_join_19 rfl ?_
    refine px_putZ dx_Fl_join_20 fl_Fl_33 kS.1 (by omega) rfl (by decide) ?_
    refine px_aload_n dx_Fl_join_23 rfl ?_
    refine px_aload_n dx_Fl_join_24 rfl ?_
    refine px_getI dx_Fl_join_25 fl_Fl_15 kP.2.2.2.1 (by omega) rfl ?_
    refine px_eqi (y := b2i (c)) (Eq.trans (gI_n (Or.inr (by decide))) hc) ?_
    refine px_if_neB dx_Fl_join_28 (fun c_28 => ?_) (fun c_28 => ?_)
    · refine px_iconst (v := 1) dx_Fl_join_35 rfl ?_
      refine px_goto dx_Fl_join_36 ?_
      refine px_putZ dx_Fl_join_40 fl_Fl_15 kP.2.2.2.1 (by omega) rfl (by decide) ?_
      refine px_iconst (v := 0) dx_Fl_join_43 rfl ?_
      refine px_istore_n (lv' := [(3, .int (0)), (2, .int (1)), (0, .ref (q + 3)), (1, .ref (s))]) dx_Fl_join_44 (by decide) rfl ?_
      refine px_sub [2, 3, 1, 0] rfl ?_
      obtain rfl : fr = true := by simpa using c_9
      exact k_join_lp (σ := σ) hq hRf hS hN0 h6 hr6 hp0 11 0 _ (by omega) (by omega) ⟨(Agp.rf.w (Or.inl ⟨rfl, rfl⟩)).w (Or.inr (Or.inr ⟨rfl, rfl⟩)), (gI_n (Or.inl (by omega))).trans gI_s, gI_s.trans (by cases c <;> first | rfl | exact Bool.noConfusion c_28), fun r _ h => absurd h (Nat.not_lt_zero _), fun z r hr _ => by cases z⟩
    · refine px_iload_n dx_Fl_join_31 rfl ?_
      refine px_if_eq dx_Fl_join_32 (fun q => absurd q (by decide)) (fun _ => ?_)
      refine px_iconst (v := 1) dx_Fl_join_35 rfl ?_
      refine px_goto dx_Fl_join_36 ?_
      refine px_putZ dx_Fl_join_40 fl_Fl_15 kP.2.2.2.1 (by omega) rfl (by decide) ?_
      refine px_iconst (v := 0) dx_Fl_join_43 rfl ?_
      refine px_istore_n (lv' := [(3, .int (0)), (2, .int (1)), (0, .ref (q + 3)), (1, .ref (s))]) dx_Fl_join_44 (by decide) rfl ?_
      refine px_sub [2, 3, 1, 0] rfl ?_
      obtain rfl : fr = true := by simpa using c_9
      exact k_join_lp (σ := σ) hq hRf hS hN0 h6 hr6 hp0 11 0 _ (by omega) (by omega) ⟨(Agp.rf.w (Or.inl ⟨rfl, rfl⟩)).w (Or.inr (Or.inr ⟨rfl, rfl⟩)), (gI_n (Or.inl (by omega))).trans gI_s, gI_s.trans (by cases c <;> first | rfl | exact Bool.noConfusion c_28), fun r _ h => absurd h (Nat.not_lt_zero _), fun z r hr _ => by cases z⟩
set_option maxRecDepth 100000 in
set_option maxHeartbeats 1000000 in
theorem k_fill_lp {l : Launch} {G : fr_G} {σ : fr_S} {a N0 : Nat} (hka : kd a = (20, N0)) (hao : a < 742) (hN0 : N0 < 2 ^ 31) {x : Int32} {Post : Option Value → fr_S → Prop} (hp0 : ∀ r σ', (fun r0 σ' => r0 = none ∧ Agp (fun o _ => o = a) σ σ' ∧ ∀ k, k < N0 → gI σ' a k = x) r σ' → Post r σ') : ∀ (d : Nat) (j : Nat) (σ1 : fr_S), N0 - j < d → j ≤ N0 → Agp (fun o _ => o = a) σ σ1 → (∀ k, k < j → gI σ1 a k = x) → PX l G yy_Ja_fill rm_Ja_fill (QR G false 742 0 0 Post) false 742 0 0 5 [(0, .ref (a)), (1, .int (x)), (2, .int (nI (j))), (3, .int (nI (N0)))] [] (σ1) := by
  intro d
  induction d with
  | zero => intro j σ1 hd; exact absurd hd (Nat.not_lt_zero _)
  | succ d ih =>
    intro j σ1 hd hj hA hF
    refine px_iload_n dx_Ja_fill_5 rfl ?_
    refine px_iload_n dx_Ja_fill_6 rfl ?_
    refine px_icmp_geN (a := j) (b := N0) dx_Ja_fill_7 (by omega) (by omega) (fun c_7 => ?_) (fun c_7 => ?_)
    · exact px_vret dx_Ja_fill_20 rfl (by (obtain rfl : j = N0 := by omega); exact hp0 _ _ ⟨rfl, hA, hF⟩)
    · refine px_aload_n dx_Ja_fill_10 rfl ?_
      refine px_iload_n dx_Ja_fill_11 rfl ?_
      refine px_iload_n dx_Ja_fill_12 rfl ?_
      refine px_iastN (j := j) dx_Ja_fill_13 hka hao (by omega) ?_
      refine px_iinc (v := (nI (j + 1))) (lv' := [(2, .int (nI (j + 1))), (0, .ref (a)), (1, .int (x)), (3, .int (nI (N0)))]) dx_Ja_fill_14 rfl (nI_1 _) (by decide) rfl ?_
      refine px_goto dx_Ja_fill_17 ?_
      refine px_sub [1, 2, 0, 3] rfl ?_
      exact ih (j + 1) _ (by omega) (by omega) (hA.w rfl) (fun k hk => if e : k = j then (by subst e; exact gI_s) else (gI_n (Or.inr e)).trans (hF k (by omega)))
set_option maxRecDepth 100000 in
set_option maxHeartbeats 1000000 in
theorem k_fill {l : Launch} {G : fr_G} {σ : fr_S} {a N0 : Nat} (hka : kd a = (20, N0)) (hao : a < 742) (hN0 : N0 < 2 ^ 31) {x : Int32} : CR l G yy_Ja_fill rm_Ja_fill [.ref (a), .int (x)] σ (fun r0 σ' => r0 = none ∧ Agp (fun o _ => o = a) σ σ' ∧ ∀ k, k < N0 → gI σ' a k = x) := by
  intro Post hp0
  show PX l G yy_Ja_fill rm_Ja_fill _ false 742 0 0 0 [(0, .ref (a)), (1, .int (x))] [] σ
  refine px_iconst (v := 0) dx_Ja_fill_0 rfl ?_
  refine px_istore_n (lv' := [(2, .int (0)), (0, .ref (a)), (1, .int (x))]) dx_Ja_fill_1 (by decide) rfl ?_
  refine px_aload_n dx_Ja_fill_2 rfl ?_
  refine px_alen (v := nI (N0)) dx_Ja_fill_3 hka (by decide) hao rfl ?_
  refine px_istore_n (lv' := [(3, .int (nI (N0))), (2, .int (0)), (0, .ref (a)), (1, .int (x))]) dx_Ja_fill_4 (by decide) rfl ?_
  refine px_sub [2, 3, 1, 0] rfl ?_
  exact k_fill_lp (σ := σ) hka hao hN0 hp0 (N0 + 1) 0 σ (by omega) (by omega) Agp.rf (fun k h => absurd h (Nat.not_lt_zero _))

/-- what the class's verifier holds of a method -/
def CV (σ : fr_S) (q e : Nat) (Bg : Nat → Bool) (v : VS) : Prop := (∀ p, p < 40 → Bg p = true → gI σ (e + 5 + 2 * p) 0 = b2i (v.2.1 p) ∧ (v.2.1 p = true → ∀ r, r < 10 → gI σ (e + 5 + 2 * p + 1) r = nI (v.1 p r))) ∧ gI σ (q + 3) 1 = b2i v.2.2
def PF (q e o k : Nat) : Prop := o = q + 4 ∨ (o = q + 3 ∧ k = 1) ∨ ∃ u, u < 40 ∧ ((o = e + 5 + 2 * u ∧ k = 0) ∨ o = e + 5 + 2 * u + 1)
theorem P4.pf {q e o k : Nat} (h : P4 q o k) : PF q e o k := Or.inl h
theorem P5.pf {q e u o k : Nat} (hu : u < 40) (h : P5 q (e + 5 + 2 * u) o k) : PF q e o k := by
  rcases h with h | h | h
  · exact Or.inr (Or.inr ⟨u, hu, Or.inl h⟩)
  · exact Or.inr (Or.inr ⟨u, hu, Or.inr h⟩)
  · exact Or.inr (Or.inl h)
theorem CV.join {σ σ' : fr_S} {q e p : Nat} (hq : PB q) (hE : ME e) {Bg : Nat → Bool} {v : VS} {N : Nat → Nat} (hp : p < 40) (h : CV σ q e Bg v) (hJ : JI σ σ' q (e + 5 + 2 * p) (v.1 p) N (!v.2.1 p) v.2.2 10) : CV σ' q e Bg (flS v p N) := by
  obtain ⟨a, b, c, d, -⟩ := hJ
  refine ⟨fun u hu hb => ?_, c⟩
  have hn := S_ne hq (SE.s hE hu)
  by_cases x : u = p
  · subst x
    refine ⟨?_, fun _ r hr => ?_⟩
    · rw [b]
      simp [flS, upB, b2i]
    · rw [d r hr hr]
      simp [flS, upT, cpR, hr]
  · have e1 : (flS v p N).2.1 u = v.2.1 u := by simp [flS, upB, x]
    have e2 : (flS v p N).1 u = v.1 u := by simp [flS, upT, x]
    rw [e1, e2]
    refine ⟨(a.1 _ _ (by unfold P5; omega)).trans (h.1 u hu hb).1, fun z r hr => (a.1 _ _ (by unfold P5; omega)).trans ((h.1 u hu hb).2 z r hr)⟩
theorem CV.p4 {σ σ' : fr_S} {q e : Nat} (hq : PB q) (hE : ME e) {Bg : Nat → Bool} {v : VS} (h : CV σ q e Bg v) (a : Agp (P4 q) σ σ') : CV σ' q e Bg v := by
  refine ⟨fun u hu hb => ?_, (a.1 _ _ (by unfold P4; omega)).trans h.2⟩
  have hn := S_ne hq (SE.s hE hu)
  exact ⟨(a.1 _ _ (by unfold P4; omega)).trans (h.1 u hu hb).1, fun z r hr => (a.1 _ _ (by unfold P4; omega)).trans ((h.1 u hu hb).2 z r hr)⟩
theorem AN.p5 {σ σ' : fr_S} {q s : Nat} (hq : PB q) (hS : SE s) {N : Nat → Nat} (h : AN σ q N) (a : Agp (P5 q s) σ σ') : AN σ' q N := by
  have hn := S_ne hq hS
  exact h.ag a (fun r => by unfold P5; omega)
/-- the step of a unit, joined -/
theorem k_joinV {l : Launch} {G : fr_G} {σ : fr_S} {q : Nat} (hq : PB q) {e : Nat} (hE : ME e) (hR : RF σ) {Bg : Nat → Bool} {v : VS} (hV : CV σ q e Bg v) {N : Nat → Nat} (hN : AN σ q N) (h6 : ∀ r, N r ≤ 6) (hVI : VI v) {p : Nat} (hp : p < 40) (hb : Bg p = true) : CR l G yy_Fl_join rm_Fl_join [.ref (q + 3), .ref (e + 5 + 2 * p)] σ (fun r0 σ' => r0 = none ∧ Agp (PF q e) σ σ' ∧ CV σ' q e Bg (flS v p N) ∧ AN σ' q N) := by
  intro Post hp0
  have hS := SE.s hE hp
  refine k_join hq hR hS hN h6 (hVI.1 p) (fr := !v.2.1 p) (c := v.2.2) (by rw [Bool.not_not]; exact (hV.1 p hp hb).1) hV.2 (fun z r hr => (hV.1 p hp hb).2 (by simpa using z) r hr) Post ?_
  rintro r σ' ⟨rfl, hJ⟩
  exact hp0 _ _ ⟨rfl, hJ.1.mono fun o k h => h.pf hp, hV.join hq hE hp hJ, hN.p5 hq hS hJ.1⟩

