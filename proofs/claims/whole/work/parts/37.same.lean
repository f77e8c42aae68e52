/-! both sides mean the same form -/
theorem g_cvt : ∀ op, op < 256 → cvt op = true → kdO op = 4 ∧ stO op ≠ 0 ∧ usO op ≠ 0 ∧ wdc (stO op) = wdt (gvO op) ∧ wdc (usO op) = wdt (tkO op) ∧ op ≠ 10 ∧ op ≠ 11 ∧ ¬ (14 ≤ op ∧ op ≤ 16) := by decide +kernel
theorem g_jns : ∀ op, op < 256 → jns op = true → kdO op = 9 ∧ stO op ≠ 0 ∧ usO op ≠ 0 ∧ wdc (stO op) = wdt (jnO op) ∧ wdc (usO op) = wdt (jnO op) ∧ cvt op = false ∧ op ≠ 10 ∧ op ≠ 11 ∧ ¬ (14 ≤ op ∧ op ≤ 16) := by decide +kernel
theorem g_cps : ∀ op, op < 256 → cps op = true → kdO op = 9 ∧ stO op ≠ 0 ∧ usO op ≠ 0 ∧ wdc (stO op) = wdt 1 ∧ wdc (usO op) = wdt (cpO op) ∧ cvt op = false ∧ jns op = false ∧ op ≠ 10 ∧ op ≠ 11 ∧ ¬ (14 ≤ op ∧ op ≤ 16) := by decide +kernel
theorem g_50 : ∀ op, op < 256 → 50 ≤ op ∧ op ≤ 55 → kdO op = 10 ∧ stO op = 0 ∧ usO op = 1 := by decide +kernel
theorem g_56 : ∀ op, op < 256 → 56 ≤ op ∧ op ≤ 61 → kdO op = 11 ∧ stO op = 0 ∧ usO op = 1 := by decide +kernel
theorem g_all0 : ∀ op, op < 256 → szO op ≠ 0 → (cvt op || jns op || cps op || decide (50 ≤ op ∧ op ≤ 55) || decide (56 ≤ op ∧ op ≤ 61) || decide (op ∈ [0, 1, 4, 10, 11, 14, 15, 16, 18, 19, 22, 40, 96, 103, 113])) = true := by decide +kernel
theorem g_all (op : Nat) (h : op < 256) (hs : szO op ≠ 0) : cvt op = true ∨ jns op = true ∨ cps op = true ∨ (50 ≤ op ∧ op ≤ 55) ∨ (56 ≤ op ∧ op ≤ 61) ∨ op = 0 ∨ op = 1 ∨ op = 4 ∨ op = 10 ∨ op = 11 ∨ op = 14 ∨ op = 15 ∨ op = 16 ∨ op = 18 ∨ op = 19 ∨ op = 22 ∨ op = 40 ∨ op = 96 ∨ op = 103 ∨ op = 113 := by
  have q := g_all0 op h hs
  simp only [Bool.or_eq_true, decide_eq_true_eq, List.mem_cons, List.not_mem_nil, or_false] at q
  rcases q with ((((q | q) | q) | q) | q) | q
  · exact Or.inl q
  · exact Or.inr (Or.inl q)
  · exact Or.inr (Or.inr (Or.inl q))
  · exact Or.inr (Or.inr (Or.inr (Or.inl q)))
  · exact Or.inr (Or.inr (Or.inr (Or.inr (Or.inl q))))
  · exact Or.inr (Or.inr (Or.inr (Or.inr (Or.inr q))))
theorem kdO_14 : ∀ op, op < 256 → (kdO op = 14 ↔ op = 113) := by decide +kernel
theorem tt_0 : ∀ t, t ≤ 4 → (tt t = 0 ↔ t = 0) := by decide
section RK
variable {F : Nat → Nat → Nat} {m u w w1 w2 : Nat}
theorem rk_a {op : Nat} (hk : kdO op = 4) (h1 : stO op ≠ 0) (h2 : usO op ≠ 0) : rgC (F 5 m) (stO op) (usO op) (dRes op w) (dFst op w w1) (dsN op w w1) = (decide (opA w + wdc (stO op) ≤ F 5 m) && decide (opB w + wdc (usO op) ≤ F 5 m)) := by
  unfold rgC dRes dFst dsN
  rw [hk, decide_eq_false h1, decide_eq_false h2, Bool.false_or, Bool.false_or]
  show (_ && (_ && true)) = _
  rw [Bool.and_true]
  rfl
theorem rk_b {op : Nat} (hk : kdO op = 9) (h1 : stO op ≠ 0) (h2 : usO op ≠ 0) : rgC (F 5 m) (stO op) (usO op) (dRes op w) (dFst op w w1) (dsN op w w1) = (decide (opN w + wdc (stO op) ≤ F 5 m) && (decide (opS w1 + wdc (usO op) ≤ F 5 m) && decide (opN w1 + wdc (usO op) ≤ F 5 m))) := by
  unfold rgC dRes dFst dsN
  rw [hk, decide_eq_false h1, decide_eq_false h2, Bool.false_or, Bool.false_or]
  rfl
theorem kdC_o {op nc : Nat} {x : Int32} (h : kdO op ≠ 2 ∧ kdO op ≠ 3 ∧ kdO op ≠ 5 ∧ kdO op ≠ 12 ∧ kdO op ≠ 13 ∧ kdO op ≠ 14) : kdC F m u op w1 w2 nc x = true := by
  unfold kdC
  obtain ⟨a, b, c, d, e, f⟩ := h
  rw [if_neg (by simp; exact a), if_neg (by simp; exact b), if_neg (by simp; exact c), if_neg (by simp; exact ⟨d, e⟩), if_neg (by simp; exact f)]
theorem kOK_o {p : Nat} {bf : Option Nat} (h1 : ¬ (14 ≤ opS (F 7 (40 * m + p)) ∧ opS (F 7 (40 * m + p)) ≤ 16)) (h2 : opS (F 7 (40 * m + p)) ≠ 10) (h3 : opS (F 7 (40 * m + p)) ≠ 11) : kOK F m p bf = true := by
  unfold kOK
  rw [if_neg h1, if_pos]
  unfold isRs
  exact decide_eq_false (by omega)
theorem hf_w {w1 : Nat} (h14 : F 1 0 ≤ 4) (h : w1 < 65536) : hfO F (nmI w1) = decide (w1 < F 1 0) := by
  by_cases c : w1 ≤ 32767
  · rw [nmI_p c]
    by_cases d : w1 < F 1 0
    · rw [decide_eq_true d]
      exact hf_nI h14 d
    · rw [decide_eq_false d]
      exact decide_eq_false fun z => d ((nI_ltI (by omega) (by omega)).mp z.2)
  · rw [decide_eq_false (by omega)]
    exact decide_eq_false fun z => z.1 (nmI_n c h)
theorem rs_e {v : Nat} (hW : FW F) : owC (rbC F m (some v)) 7 = (decide (opS (F 7 (40 * m + v)) = 113) && (decide (F 7 (40 * m + (v + 1)) < F 0 0) && (decide (¬ F 2 (F 7 (40 * m + (v + 1))) = 0) && decide (wdt (F 2 (F 7 (40 * m + (v + 1)))) = 1)))) ∧ owC (rbC F m (some v)) 8 = (decide (opS (F 7 (40 * m + v)) = 113) && (decide (F 7 (40 * m + (v + 1)) < F 0 0) && (decide (¬ F 2 (F 7 (40 * m + (v + 1))) = 0) && decide (¬ wdt (F 2 (F 7 (40 * m + (v + 1)))) = 1)))) := by
  have hz : ∀ a, owC 0 a = false := fun a => rfl
  unfold rbC
  by_cases h1 : opS (F 7 (40 * m + v)) = 113
  · rw [decide_eq_true h1]
    simp only [(kdO_14 _ (opS_lt _)).mpr h1, if_true, Bool.true_and]
    by_cases h2 : F 7 (40 * m + (v + 1)) < F 0 0
    · rw [decide_eq_true h2]
      simp only [h2, if_true, Bool.true_and]
      have h4 := hW.2.2.1 (F 7 (40 * m + (v + 1)))
      have h5 := wdt_le (F 2 (F 7 (40 * m + (v + 1))))
      have h6 := wdt_1 (F 2 (F 7 (40 * m + (v + 1))))
      unfold owC
      rw [wdc_tt _ h4]
      have e : decide (¬ tt (F 2 (F 7 (40 * m + (v + 1)))) = 0) = decide (¬ F 2 (F 7 (40 * m + (v + 1))) = 0) := by
        by_cases q : F 2 (F 7 (40 * m + (v + 1))) = 0
        · rw [q]; rfl
        · have z : ¬ tt (F 2 (F 7 (40 * m + (v + 1)))) = 0 := fun z => q ((tt_0 _ h4).mp z)
          rw [decide_eq_true q, decide_eq_true z]
      rw [e]
      refine ⟨rfl, ?_⟩
      congr 1
      refine decide_eq_decide.mpr ?_
      have e8 : wdc 8 = 2 := rfl
      omega
    · rw [decide_eq_false h2]
      simp only [h2, if_false, Bool.false_and]
      exact ⟨rfl, rfl⟩
  · rw [decide_eq_false h1]
    have hk : ¬ kdO (opS (F 7 (40 * m + v))) = 14 := fun z => h1 ((kdO_14 _ (opS_lt _)).mp z)
    simp only [hk, if_false, Bool.false_and]
    exact ⟨rfl, rfl⟩
theorem rt_e {t : Nat} (ht : t ≤ 4) : owC (tt t) 7 = decide (15 = if t = 0 then 14 else if wdt t = 1 then 15 else 16) ∧ owC (tt t) 8 = decide (16 = if t = 0 then 14 else if wdt t = 1 then 15 else 16) ∧ decide (tt t = 0) = decide (14 = if t = 0 then 14 else if wdt t = 1 then 15 else 16) :=
  (show ∀ t, t ≤ 4 → owC (tt t) 7 = decide (15 = if t = 0 then 14 else if wdt t = 1 then 15 else 16) ∧ owC (tt t) 8 = decide (16 = if t = 0 then 14 else if wdt t = 1 then 15 else 16) ∧ decide (tt t = 0) = decide (14 = if t = 0 then 14 else if wdt t = 1 then 15 else 16) by decide) t ht
theorem rg_000 {rg r f : Nat} {g : Option Nat} : rgC rg 0 0 r f g = true := rfl
end RK
theorem rk_e {F : Nat → Nat → Nat} (hW : FW F) {m u : Nat} (hc : cpl F m u = true) {op : Nat} (hop : op = opS (F 7 (40 * m + u))) : (rgC (F 5 m) (stO op) (usO op) (dRes op (F 7 (40 * m + u))) (dFst op (F 7 (40 * m + u)) (uA F m (u + 1))) (dsN op (F 7 (40 * m + u)) (uA F m (u + 1))) && kdC F m u op (uA F m (u + 1)) (uA F m (u + 2)) (opB (F 7 (40 * m + u))) (dNum op (F 7 (40 * m + u)) (uA F m (u + 1)))) = (nmOK F m u && kOK F m u (pbG (bgF F m) u)) := by
  have hc' := hc
  unfold cpl at hc'
  simp only [decide_eq_true_eq] at hc'
  rw [← hop] at hc'
  have h256 : op < 256 := hop ▸ opS_lt _
  have hw1 : 2 ≤ szO op → uA F m (u + 1) = F 7 (40 * m + (u + 1)) := fun q => uA_e (by omega)
  have hw2 : 3 ≤ szO op → uA F m (u + 2) = F 7 (40 * m + (u + 2)) := fun q => uA_e (by omega)
  have hnm : nmOK F m u = nmW F m u (F 7 (40 * m + u)) (F 7 (40 * m + (u + 1))) op := by unfold nmOK; rw [← hop]
  have hko : ¬ (14 ≤ op ∧ op ≤ 16) → op ≠ 10 → op ≠ 11 → kOK F m u (pbG (bgF F m) u) = true := fun a b c => kOK_o (by rw [← hop]; exact a) (by rw [← hop]; exact b) (by rw [← hop]; exact c)
  obtain ⟨W, hWe⟩ : ∃ W, W = F 7 (40 * m + u) := ⟨_, rfl⟩
  rw [← hWe] at hnm ⊢
  rw [hnm]
  have h14 := hW.2.1
  have h24 := hW.2.2.1 m
  have hF1 := hW.2.2.2.2.2.2.2 (40 * m + (u + 1))
  rcases g_all op h256 (by omega) with h | h | h | h | h | h
  · obtain ⟨a, b, c, d, e, f, g, i⟩ := g_cvt op h256 h
    rw [rk_a a b c, kdC_o (by omega), hko i f g, nmW_0 h, d, e, Bool.and_true, Bool.and_true]
    rfl
  · obtain ⟨a, b, c, d, e, f0, f, g, i⟩ := g_jns op h256 h
    rw [rk_b a b c, kdC_o (by omega), hko i f g, nmW_1 f0 h, d, e, Bool.and_true, Bool.and_true, hw1 (sz_2 (Or.inl h)), Bool.and_assoc]
    rfl
  · obtain ⟨a, b, c, d, e, f0, f1, f, g, i⟩ := g_cps op h256 h
    rw [rk_b a b c, kdC_o (by omega), hko i f g, nmW_2 f0 f1 h, d, e, Bool.and_true, Bool.and_true, hw1 (sz_2 (Or.inr (Or.inl h))), Bool.and_assoc]
    rfl
  · obtain ⟨a, b, c⟩ := g_50 op h256 h
    rw [kdC_o (by omega), hko (by omega) (by omega) (by omega), nmW_3 h.1 h.2, Bool.and_true, Bool.and_true]
    unfold rgC dRes dFst dsN
    rw [a, b, c]
    rfl
  · obtain ⟨a, b, c⟩ := g_56 op h256 h
    rw [kdC_o (by omega), hko (by omega) (by omega) (by omega), nmW_4 h.1 h.2, Bool.and_true, Bool.and_true]
    unfold rgC dRes dFst dsN
    rw [a, b, c]
    show (_ && (_ || (_ && true))) = _
    rw [Bool.and_true]
    rfl
  · clear hc
    rcases h with rfl | rfl | rfl | rfl | rfl | rfl | rfl | rfl | rfl | rfl | rfl | rfl | rfl | rfl | rfl
    · rw [kdC_o (by decide), hko (by decide) (by decide) (by decide)]; rfl
    · rw [rk_a (by decide) (by decide) (by decide), kdC_o (by decide), hko (by decide) (by decide) (by decide), nmW_5 (by decide)]; rfl
    · rw [rk_a (by decide) (by decide) (by decide), kdC_o (by decide), hko (by decide) (by decide) (by decide), nmW_6 (by decide)]; rfl
    · rw [nmW_7 (by decide)]
      have e1 : rgC (F 5 m) (stO 10) (usO 10) (dRes 10 W) (dFst 10 W (uA F m (u + 1))) (dsN 10 W (uA F m (u + 1))) = hsR F m (opN W) 1 := by
        show ((false || decide (opN W + 1 ≤ F 5 m)) && true) = _
        rw [Bool.false_or, Bool.and_true]
        rfl
      have e2 : kdC F m u 10 (uA F m (u + 1)) (uA F m (u + 2)) (opB W) (dNum 10 W (uA F m (u + 1))) = owC (rbC F m (pbG (bgF F m) u)) 7 := rfl
      have e3 : kOK F m u (pbG (bgF F m) u) = owC (rbC F m (pbG (bgF F m) u)) 7 := by
        unfold kOK
        rw [← hop, if_neg (by decide), if_neg (by unfold isRs; rw [← hop]; decide)]
        cases pbG (bgF F m) u with
        | none => rfl
        | some v =>
          rw [(rs_e hW).1]
          show (_ && (_ && (_ && _))) = _
          congr 3
          by_cases q : wdt (F 2 (F 7 (40 * m + (v + 1)))) = 1
          · rw [if_pos q, decide_eq_true q]; rfl
          · rw [if_neg q, decide_eq_false q]; rfl
      rw [e1, e2, e3]
    · rw [nmW_8 (by decide)]
      have e1 : rgC (F 5 m) (stO 11) (usO 11) (dRes 11 W) (dFst 11 W (uA F m (u + 1))) (dsN 11 W (uA F m (u + 1))) = hsR F m (opN W) 2 := by
        show ((false || decide (opN W + 2 ≤ F 5 m)) && true) = _
        rw [Bool.false_or, Bool.and_true]
        rfl
      have e2 : kdC F m u 11 (uA F m (u + 1)) (uA F m (u + 2)) (opB W) (dNum 11 W (uA F m (u + 1))) = owC (rbC F m (pbG (bgF F m) u)) 8 := rfl
      have e3 : kOK F m u (pbG (bgF F m) u) = owC (rbC F m (pbG (bgF F m) u)) 8 := by
        unfold kOK
        rw [← hop, if_neg (by decide), if_neg (by unfold isRs; rw [← hop]; decide)]
        cases pbG (bgF F m) u with
        | none => rfl
        | some v =>
          rw [(rs_e hW).2]
          show (_ && (_ && (_ && _))) = _
          congr 3
          by_cases q : wdt (F 2 (F 7 (40 * m + (v + 1)))) = 1
          · exact decide_eq_decide.mpr (by rw [if_pos q]; omega)
          · exact decide_eq_decide.mpr (by rw [if_neg q]; omega)
      rw [e1, e2, e3]
    · have e3 : kOK F m u (pbG (bgF F m) u) = decide (tt (F 2 m) = 0) := by
        unfold kOK
        rw [← hop, if_pos (by decide), (rt_e h24).2.2]
      rw [e3, nmW_12 (by decide) (by decide) (by decide) (by decide) (by decide) (by decide)]
      rfl
    · have e3 : kOK F m u (pbG (bgF F m) u) = owC (tt (F 2 m)) 7 := by
        unfold kOK
        rw [← hop, if_pos (by decide), (rt_e h24).1]
      have e1 : rgC (F 5 m) (stO 15) (usO 15) (dRes 15 W) (dFst 15 W (uA F m (u + 1))) (dsN 15 W (uA F m (u + 1))) = hsR F m (opN W) 1 := by
        show (true && (false || (decide (opN W + 1 ≤ F 5 m) && true))) = _
        rw [Bool.true_and, Bool.false_or, Bool.and_true]
        rfl
      rw [e3, e1, nmW_7 (by decide)]
      rfl
    · have e3 : kOK F m u (pbG (bgF F m) u) = owC (tt (F 2 m)) 8 := by
        unfold kOK
        rw [← hop, if_pos (by decide), (rt_e h24).2.1]
      have e1 : rgC (F 5 m) (stO 16) (usO 16) (dRes 16 W) (dFst 16 W (uA F m (u + 1))) (dsN 16 W (uA F m (u + 1))) = hsR F m (opN W) 2 := by
        show (true && (false || (decide (opN W + 2 ≤ F 5 m) && true))) = _
        rw [Bool.true_and, Bool.false_or, Bool.and_true]
        rfl
      rw [e3, e1, nmW_8 (by decide)]
      rfl
    · rw [kdC_o (by decide), hko (by decide) (by decide) (by decide), nmW_9 (by decide)]
      show (((false || decide (opA W + 1 ≤ F 5 m)) && true) && true) = (_ && true)
      rw [Bool.false_or, Bool.and_true, Bool.and_true, Bool.and_true]
      rfl
    · rw [kdC_o (by decide), hko (by decide) (by decide) (by decide), nmW_7 (by decide)]
      show (((false || decide (opN W + 1 ≤ F 5 m)) && true) && true) = (_ && true)
      rw [Bool.false_or, Bool.and_true, Bool.and_true, Bool.and_true]
      rfl
    · rw [kdC_o (by decide), hko (by decide) (by decide) (by decide), nmW_8 (by decide)]
      show (((false || decide (opN W + 2 ≤ F 5 m)) && true) && true) = (_ && true)
      rw [Bool.false_or, Bool.and_true, Bool.and_true, Bool.and_true]
      rfl
    · rw [kdC_o (by decide), hko (by decide) (by decide) (by decide), nmW_12 (by decide) (by decide) (by decide) (by decide) (by decide) (by decide)]
      rfl
    · rw [hko (by decide) (by decide) (by decide), nmW_10 (by decide), hw1 (by decide)]
      have e2 : kdC F m u 96 (F 7 (40 * m + (u + 1))) (uA F m (u + 2)) (opB W) (dNum 96 W (F 7 (40 * m + (u + 1)))) = hfO F (nmI (F 7 (40 * m + (u + 1)))) := rfl
      rw [e2, hf_w h14 hF1, Bool.and_true]
      show ((false || decide (opN W + 1 ≤ F 5 m)) && true && _) = _
      rw [Bool.false_or, Bool.and_true]
      rfl
    · rw [hko (by decide) (by decide) (by decide), nmW_10 (by decide), hw1 (by decide)]
      have e2 : kdC F m u 103 (F 7 (40 * m + (u + 1))) (uA F m (u + 2)) (opB W) (dNum 103 W (F 7 (40 * m + (u + 1)))) = hfO F (nmI (F 7 (40 * m + (u + 1)))) := rfl
      rw [e2, hf_w h14 hF1, Bool.and_true]
      show (true && (false || (decide (opN W + 1 ≤ F 5 m) && true)) && _) = _
      rw [Bool.true_and, Bool.false_or, Bool.and_true]
      rfl
    · rw [hko (by decide) (by decide) (by decide), nmW_11 (by decide), hw1 (by decide), hw2 (by decide), Bool.and_true]
      unfold agT
      rw [← hWe]
      rfl
theorem go_e {F : Nat → Nat → Nat} {m u : Nat} (hc : cpl F m u = true) {op : Nat} (hop : op = opS (F 7 (40 * m + u))) : goC F m u (kdO op) (szO op) (nI u + dNum op (F 7 (40 * m + u)) (uA F m (u + 1))) = ((ens op || mgN F (bgF F m) m (u + szO op) (decide (op = 113))) && (!brs op || mgo F (bgF F m) m (tgO F m u) false)) := by
  have h256 : op < 256 := hop ▸ opS_lt _
  have hc' := hc
  unfold cpl at hc'
  simp only [decide_eq_true_eq] at hc'
  rw [← hop] at hc'
  have hrs : ∀ w, decide (kdO (opS w) = 5) = isRs w := fun w => by
    unfold isRs
    by_cases q : opS w = 10 ∨ opS w = 11
    · rw [decide_eq_true q, decide_eq_true ((kdO_5 _ (opS_lt w)).mpr q)]
    · rw [decide_eq_false q, decide_eq_false fun z => q ((kdO_5 _ (opS_lt w)).mp z)]
  unfold goC
  rw [gbK_e op h256 (by omega), brK_e op h256, Bool.not_not]
  congr 1
  · congr 1
    unfold mgN
    rw [hrs]
    have e14 : decide (kdO op = 14) = decide (op = 113) := by
      by_cases q : op = 113
      · rw [decide_eq_true q, decide_eq_true ((kdO_14 _ h256).mpr q)]
      · rw [decide_eq_false q, decide_eq_false fun z => q ((kdO_14 _ h256).mp z)]
    rw [e14, ← Bool.and_assoc]
    congr 1
    by_cases q : u + szO op < F 6 m
    · rw [decide_eq_true q, Bool.true_and]
      cases bgF F m (u + szO op) with
      | true => exact decide_eq_true ⟨q, rfl⟩
      | false => exact decide_eq_false fun z => Bool.noConfusion z.2
    · rw [decide_eq_false q, decide_eq_false fun z => q z.1]
      rfl
  · cases hb : brs op with
    | false => rfl
    | true =>
      have e : nI u + dNum op (F 7 (40 * m + u)) (uA F m (u + 1)) = tgO F m u := by
        unfold tgO
        rw [← hop]
        simp only [brs, Bool.or_eq_true, Bool.and_eq_true, decide_eq_true_eq] at hb
        by_cases q : op = 40
        · rw [if_pos q, q]
          rfl
        · rw [if_neg q]
          have hk : kdO op = 10 ∨ kdO op = 11 := by
            rcases Nat.lt_or_ge op 56 with z | z
            · exact Or.inl (g_50 op h256 (by omega)).1
            · exact Or.inr (g_56 op h256 (by omega)).1
          have hs : 2 ≤ szO op := sz_2 (by omega)
          rw [uA_e (by omega)]
          congr 1
          unfold dNum
          rcases hk with hk | hk <;> rw [hk] <;> rfl
      rw [e]
      show (false || _) = (false || _)
      rw [Bool.false_or, Bool.false_or, hrs]
      unfold sA mgo mgN
      rw [Bool.and_assoc, Bool.and_assoc, Bool.false_or]
theorem ft_e {F : Nat → Nat → Nat} (hW : FW F) {m u : Nat} : ftC F m u (opS (F 7 (40 * m + u))) (F 7 (40 * m + u)) (uA F m (u + 1)) (uA F m (u + 2)) = frmOK F (bgF F m) m u (pbG (bgF F m) u) := by
  unfold ftC frmOK
  cases hc : cpl F m u with
  | false =>
    have : decide (¬ szO (opS (F 7 (40 * m + u))) = 0 ∧ u + szO (opS (F 7 (40 * m + u))) ≤ F 6 m) = false := by
      unfold cpl at hc
      simp only [decide_eq_false_iff_not] at hc
      exact decide_eq_false (by omega)
    rw [this]
    rfl
  | true =>
    have : decide (¬ szO (opS (F 7 (40 * m + u))) = 0 ∧ u + szO (opS (F 7 (40 * m + u))) ≤ F 6 m) = true := by
      unfold cpl at hc
      simp only [decide_eq_true_eq] at hc
      exact decide_eq_true (by omega)
    rw [this, Bool.true_and, Bool.true_and, ← go_e hc rfl, ← rk_e hW hc rfl]
    cases rgC (F 5 m) (stO (opS (F 7 (40 * m + u)))) (usO (opS (F 7 (40 * m + u)))) (dRes (opS (F 7 (40 * m + u))) (F 7 (40 * m + u))) (dFst (opS (F 7 (40 * m + u))) (F 7 (40 * m + u)) (uA F m (u + 1))) (dsN (opS (F 7 (40 * m + u))) (F 7 (40 * m + u)) (uA F m (u + 1))) with
    | false => rfl
    | true => rw [Bool.true_and, Bool.true_and, Bool.and_comm]

