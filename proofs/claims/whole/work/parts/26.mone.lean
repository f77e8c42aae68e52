/-! the reference: one instruction -/
theorem jns_le {op : Nat} (h : jns op = true) : 144 ≤ op := by simp only [jns, Bool.or_eq_true, Bool.and_eq_true, decide_eq_true_eq] at h; omega
theorem cps_le {op : Nat} (h : cps op = true) : 45 ≤ op ∧ op ≤ 49 := by simp only [cps, Bool.or_eq_true, decide_eq_true_eq] at h; omega
theorem cvt_le {op : Nat} (h : cvt op = true) : 123 ≤ op ∧ op ≤ 140 := by simp only [cvt, Bool.or_eq_true, Bool.and_eq_true, decide_eq_true_eq] at h; omega
theorem wdt_1 (t : Nat) : 1 ≤ wdt t := by unfold wdt; split <;> decide
/-- the registers that an instruction names -/
theorem rg_c {F : Nat → Nat → Nat} (hW : FW F) {m p : Nat} (hn : nmOK F m p = true) (h : cvt (opS (F 7 (40 * m + p))) = true) : opA (F 7 (40 * m + p)) < 10 ∧ opB (F 7 (40 * m + p)) < 10 := by
  have h5 := hW.2.2.2.2.2.1 m
  unfold nmOK at hn
  rw [nmW_0 h] at hn
  simp only [hsR, Bool.and_eq_true, decide_eq_true_eq] at hn
  have e1 := wdt_1 (gvO (opS (F 7 (40 * m + p))))
  have e2 := wdt_1 (tkO (opS (F 7 (40 * m + p))))
  omega
theorem rg_j {F : Nat → Nat → Nat} (hW : FW F) {m p : Nat} (hn : nmOK F m p = true) (h : jns (opS (F 7 (40 * m + p))) = true) : opN (F 7 (40 * m + p)) < 10 ∧ opS (F 7 (40 * m + (p + 1))) < 10 ∧ opN (F 7 (40 * m + (p + 1))) < 10 := by
  have h5 := hW.2.2.2.2.2.1 m
  have h0 : cvt (opS (F 7 (40 * m + p))) = false := by
    cases q : cvt (opS (F 7 (40 * m + p))) with
    | false => rfl
    | true => have := cvt_le q; have := jns_le h; omega
  unfold nmOK at hn
  rw [nmW_1 h0 h] at hn
  simp only [hsR, Bool.and_eq_true, decide_eq_true_eq] at hn
  have e1 := wdt_1 (jnO (opS (F 7 (40 * m + p))))
  omega
theorem rg_p {F : Nat → Nat → Nat} (hW : FW F) {m p : Nat} (hn : nmOK F m p = true) (h : cps (opS (F 7 (40 * m + p))) = true) : opN (F 7 (40 * m + p)) < 10 ∧ opS (F 7 (40 * m + (p + 1))) < 10 ∧ opN (F 7 (40 * m + (p + 1))) < 10 := by
  have h5 := hW.2.2.2.2.2.1 m
  have hl := cps_le h
  have h0 : cvt (opS (F 7 (40 * m + p))) = false := by
    cases q : cvt (opS (F 7 (40 * m + p))) with
    | false => rfl
    | true => have := cvt_le q; omega
  have h1 : jns (opS (F 7 (40 * m + p))) = false := by
    cases q : jns (opS (F 7 (40 * m + p))) with
    | false => rfl
    | true => have := jns_le q; omega
  unfold nmOK at hn
  rw [nmW_2 h0 h1 h] at hn
  simp only [hsR, Bool.and_eq_true, decide_eq_true_eq] at hn
  obtain ⟨⟨a, b⟩, c⟩ := hn
  have e1 : wdt 1 = 1 := rfl
  have e2 : 1 ≤ wdt (cpO (opS (F 7 (40 * m + p)))) := by unfold wdt; split <;> decide
  omega
theorem rg_50 {F : Nat → Nat → Nat} (hW : FW F) {m p : Nat} (hn : nmOK F m p = true) (h : 50 ≤ opS (F 7 (40 * m + p)) ∧ opS (F 7 (40 * m + p)) ≤ 55) : opA (F 7 (40 * m + p)) < 10 ∧ opB (F 7 (40 * m + p)) < 10 := by
  have h5 := hW.2.2.2.2.2.1 m
  unfold nmOK at hn
  rw [nmW_3 h.1 h.2] at hn
  simp only [hsR, Bool.and_eq_true, decide_eq_true_eq] at hn
  have e1 : wdt 1 = 1 := rfl
  omega
theorem rg_56 {F : Nat → Nat → Nat} (hW : FW F) {m p : Nat} (hn : nmOK F m p = true) (h : 56 ≤ opS (F 7 (40 * m + p)) ∧ opS (F 7 (40 * m + p)) ≤ 61) : opN (F 7 (40 * m + p)) < 10 := by
  have h5 := hW.2.2.2.2.2.1 m
  unfold nmOK at hn
  rw [nmW_4 h.1 h.2] at hn
  simp only [hsR, decide_eq_true_eq] at hn
  have e1 : wdt 1 = 1 := rfl
  omega
theorem rg_1 {F : Nat → Nat → Nat} (hW : FW F) {m p : Nat} (hn : nmOK F m p = true) (h : opS (F 7 (40 * m + p)) ∈ [1, 4]) : opA (F 7 (40 * m + p)) < 10 ∧ opB (F 7 (40 * m + p)) < 10 := by
  have h5 := hW.2.2.2.2.2.1 m
  unfold nmOK at hn
  simp only [List.mem_cons, List.not_mem_nil, or_false] at h
  have e1 : wdt 1 = 1 := rfl
  have e2 : wdt 2 = 2 := rfl
  rcases h with h | h
  · rw [nmW_5 (by rw [h]; decide)] at hn
    simp only [hsR, Bool.and_eq_true, decide_eq_true_eq] at hn
    omega
  · rw [nmW_6 (by rw [h]; decide)] at hn
    simp only [hsR, Bool.and_eq_true, decide_eq_true_eq] at hn
    omega
theorem rg_10 {F : Nat → Nat → Nat} (hW : FW F) {m p : Nat} (hn : nmOK F m p = true) (h : opS (F 7 (40 * m + p)) ∈ [10, 11, 19, 22, 15, 16]) : opN (F 7 (40 * m + p)) < 10 := by
  have h5 := hW.2.2.2.2.2.1 m
  unfold nmOK at hn
  simp only [List.mem_cons, List.not_mem_nil, or_false] at h
  have e1 : wdt 1 = 1 := rfl
  have e2 : wdt 2 = 2 := rfl
  rcases h with h | h | h | h | h | h
  · rw [nmW_7 (by rw [h]; decide)] at hn
    simp only [hsR, decide_eq_true_eq] at hn
    omega
  · rw [nmW_8 (by rw [h]; decide)] at hn
    simp only [hsR, decide_eq_true_eq] at hn
    omega
  · rw [nmW_7 (by rw [h]; decide)] at hn
    simp only [hsR, decide_eq_true_eq] at hn
    omega
  · rw [nmW_8 (by rw [h]; decide)] at hn
    simp only [hsR, decide_eq_true_eq] at hn
    omega
  · rw [nmW_7 (by rw [h]; decide)] at hn
    simp only [hsR, decide_eq_true_eq] at hn
    omega
  · rw [nmW_8 (by rw [h]; decide)] at hn
    simp only [hsR, decide_eq_true_eq] at hn
    omega
theorem rg_18 {F : Nat → Nat → Nat} (hW : FW F) {m p : Nat} (hn : nmOK F m p = true) (h : opS (F 7 (40 * m + p)) ∈ [18]) : opA (F 7 (40 * m + p)) < 10 := by
  have h5 := hW.2.2.2.2.2.1 m
  have := nm_18 hn h
  omega
theorem rg_96 {F : Nat → Nat → Nat} (hW : FW F) {m p : Nat} (hn : nmOK F m p = true) (h : opS (F 7 (40 * m + p)) ∈ [96, 103]) : opN (F 7 (40 * m + p)) < 10 ∧ F 7 (40 * m + (p + 1)) < F 1 0 := by
  have h5 := hW.2.2.2.2.2.1 m
  unfold nmOK at hn
  rw [nmW_10 h] at hn
  simp only [hsR, Bool.and_eq_true, decide_eq_true_eq] at hn
  have e1 : wdt 1 = 1 := rfl
  omega
theorem rg_113 {F : Nat → Nat → Nat} {m p : Nat} (hn : nmOK F m p = true) (h : opS (F 7 (40 * m + p)) ∈ [113]) : agT F m p = true := by
  unfold nmOK at hn
  rw [nmW_11 h] at hn
  exact hn
theorem agT_p {F : Nat → Nat → Nat} {m p : Nat} (h : agT F m p = true) : F 7 (40 * m + (p + 1)) < F 0 0 ∧ agOK F m (F 7 (40 * m + (p + 1))) (F 7 (40 * m + (p + 2))) (F 3 (F 7 (40 * m + (p + 1)))) = true := by
  simp only [agT, Bool.and_eq_true, decide_eq_true_eq] at h
  exact ⟨h.1, h.2.2⟩
def gvA (A : VM) (t r : Nat) : VM := if A.1 1 0 - 1 = 0 then aI (aI (aD (aW (aI A 4 0 t) 60 (if t = 0 then 0 else gW A r)) 60 (if t = 0 then 0 else gE A r)) 1 0 (A.1 1 0 - 1)) 0 0 2 else aI (aD (aW (aI A 4 0 t) 60 (if t = 0 then 0 else gW A r)) 60 (if t = 0 then 0 else gE A r)) 1 0 (A.1 1 0 - 1)
def zrA (A : VM) (b : Nat) : Nat → VM
  | 0 => A
  | k + 1 => aD (aW (zrA A b k) (b + k) 0) (b + k) 0
def entA (A : VM) (c : Nat) : VM := aI (zrA (aI (aI A 2 (A.1 1 0) c) 3 (A.1 1 0) 0) (10 * A.1 1 0) 10) 1 0 (A.1 1 0 + 1)
def cpyA (F : Nat → Nat → Nat) (c w2 fr to : Nat) (A : VM) : Nat → VM
  | 0 => A
  | j + 1 => aD (aW (cpyA F c w2 fr to A j) (to + agK F c j) ((cpyA F c w2 fr to A j).2.1 (fr + agW w2 (agK F c j)))) (to + agK F c j) ((cpyA F c w2 fr to A j).2.2.1 (fr + agW w2 (agK F c j)))
def calA (F : Nat → Nat → Nat) (A : VM) (m p : Nat) : VM := cpyA F (F 7 (40 * m + (p + 1))) (F 7 (40 * m + (p + 2))) (10 * (A.1 1 0 - 1)) (10 * A.1 1 0 + F 5 (F 7 (40 * m + (p + 1))) - pwF F (F 7 (40 * m + (p + 1)))) (entA (aI A 3 (A.1 1 0 - 1) (p + 3)) (F 7 (40 * m + (p + 1)))) (F 3 (F 7 (40 * m + (p + 1))))
def smA (F : Nat → Nat → Nat) (A : VM) (m p op : Nat) : VM :=
  if op ∈ [1, 4] then stE (stW A (opA (F 7 (40 * m + p))) (gW A (opB (F 7 (40 * m + p))))) (opA (F 7 (40 * m + p))) (gE A (opB (F 7 (40 * m + p))))
  else if op ∈ [10, 11] then stE (stW A (opN (F 7 (40 * m + p))) (A.2.1 60)) (opN (F 7 (40 * m + p))) (A.2.2.1 60)
  else if op ∈ [18] then stW A (opA (F 7 (40 * m + p))) (if 7 < opB (F 7 (40 * m + p)) then (nI (opB (F 7 (40 * m + p))) - 16).toInt64 else (nI (opB (F 7 (40 * m + p)))).toInt64)
  else if op ∈ [19, 22] then stW A (opN (F 7 (40 * m + p))) (nmI (F 7 (40 * m + (p + 1)))).toInt64
  else if op ∈ [96] then stW A (opN (F 7 (40 * m + p))) (A.2.2.2 (F 7 (40 * m + (p + 1)))).toInt64
  else if op ∈ [103] then aF A (F 7 (40 * m + (p + 1))) (gW A (opN (F 7 (40 * m + p)))).toInt32
  else A

set_option maxRecDepth 100000 in
set_option maxHeartbeats 1000000 in
theorem m_giveBack {l : Launch} {G : fr_G} {σ : fr_S} {σ0 : fr_S} {F : Nat → Nat → Nat} {A : VM} (hX : MX σ0 σ F A) (hd : 1 ≤ A.1 1 0) {t r : Nat} (ht : t ≤ 4) (hr : ¬ t = 0 → r < 10) : CR l G yy_Mo_giveBack rm_Mo_giveBack [.ref (717), .int (nI (t)), .int (nI (r))] σ (fun r0 σ' => r0 = none ∧ MX σ0 σ' F (gvA A t r)) := by
  intro Post hp0
  show PX l G yy_Mo_giveBack rm_Mo_giveBack _ false 742 0 0 0 [(0, .ref (717)), (1, .int (nI (t))), (2, .int (nI (r)))] [] σ
  have b6 := hX.2.2.2.2.1.2.1
  refine px_aload_n dx_Mo_giveBack_0 rfl ?_
  refine px_iload_n dx_Mo_giveBack_1 rfl ?_
  refine px_putI dx_Mo_giveBack_2 fl_Mo_133 rfl (by decide) rfl ?_
  obtain ⟨A_2, hA_2⟩ : ∃ X, X = aI A 4 0 (t) := ⟨_, rfl⟩
  have hX : MX _ (sI σ 717 32 (nI (t))) F A_2 := hA_2 ▸ MX.ot hX (v := (t)) (by omega)
  have hd_A_2 : A_2.1 1 0 = A.1 1 0 := by rw [hA_2]; exact (aI_n (Or.inl (by decide)))
  refine px_aload_n dx_Mo_giveBack_5 rfl ?_
  refine px_iload_n dx_Mo_giveBack_6 rfl ?_
  refine px_if_neN (a := t) dx_Mo_giveBack_7 (by omega) (fun c_7 => ?_) (fun c_7 => ?_)
  · refine px_aload_n dx_Mo_giveBack_14 rfl ?_
    refine px_iload_n dx_Mo_giveBack_15 rfl ?_
    refine px_cV (Y := yy_Mo_giveBack) (Yc := yy_Mo_wholeOf) (b := 717) (As := [.int (nI (r))]) dx_Mo_giveBack_16 ml_Mo_315 mv_Mo_wholeOf np_Mo_wholeOf ⟨_, rfl⟩ (by decide) rfl (by decide) rfl (Nat.le_of_ble_eq_true rfl) (Nat.le_of_ble_eq_true rfl) rk_Mo_giveBack_Mo_wholeOf rfl (m_wholeOf (A := A_2) (r := r) hX (by omega) (by first | omega | exact hr (by assumption))) zz_0 ?_
    refine px_putL dx_Mo_giveBack_19 fl_Mo_136 rfl (by decide) rfl ?_
    obtain ⟨A_19, hA_19⟩ : ∃ X, X = aW A_2 60 (gW A_2 r) := ⟨_, rfl⟩
    have hX : MX _ (sL (sI σ 717 32 (nI (t))) 717 33 (gW A_2 r)) F A_19 := hA_19 ▸ MX.ow hX (v := (gW A_2 r))
    have hd_A_19 : A_19.1 1 0 = A.1 1 0 := by rw [hA_19]; exact Eq.trans rfl hd_A_2
    refine px_aload_n dx_Mo_giveBack_22 rfl ?_
    refine px_iload_n dx_Mo_giveBack_23 rfl ?_
    refine px_if_neN (a := t) dx_Mo_giveBack_24 (by omega) (fun c_24 => ?_) (fun c_24 => ?_)
    · refine px_aload_n dx_Mo_giveBack_31 rfl ?_
      refine px_iload_n dx_Mo_giveBack_32 rfl ?_
      refine px_cV (Y := yy_Mo_giveBack) (Yc := yy_Mo_realOf) (b := 717) (As := [.int (nI (r))]) dx_Mo_giveBack_33 ml_Mo_322 mv_Mo_realOf np_Mo_realOf ⟨_, rfl⟩ (by decide) rfl (by decide) rfl (Nat.le_of_ble_eq_true rfl) (Nat.le_of_ble_eq_true rfl) rk_Mo_giveBack_Mo_realOf rfl (m_realOf (A := A_19) (r := r) hX (by omega) (by first | omega | exact hr (by assumption))) zz_0 ?_
      refine px_putD dx_Mo_giveBack_36 fl_Mo_140 rfl (by decide) rfl ?_
      obtain ⟨A_36, hA_36⟩ : ∃ X, X = aD A_19 60 (gE A_19 r) := ⟨_, rfl⟩
      have hX : MX _ (sD (sL (sI σ 717 32 (nI (t))) 717 33 (gW A_2 r)) 717 34 (gE A_19 r)) F A_36 := hA_36 ▸ MX.od hX (v := (gE A_19 r))
      have hd_A_36 : A_36.1 1 0 = A.1 1 0 := by rw [hA_36]; exact Eq.trans rfl hd_A_19
      refine px_aload_n dx_Mo_giveBack_39 rfl ?_
      refine px_dup dx_Mo_giveBack_40 rfl ?_
      refine px_getI dx_Mo_giveBack_41 fl_Mo_130 rfl (by decide) rfl ?_
      refine px_eqi (y := nI (A.1 1 0)) (hX.2.2.2.1.2.1.trans (congrArg nI hd_A_36)) ?_
      refine px_iconst (v := 1) dx_Mo_giveBack_44 rfl ?_
      refine px_isubN (a := A.1 1 0) (b := 1) dx_Mo_giveBack_45 (by omega) ?_
      refine px_putI dx_Mo_giveBack_46 fl_Mo_130 rfl (by decide) rfl ?_
      obtain ⟨A_46, hA_46⟩ : ∃ X, X = aI A_36 1 0 ((A.1 1 0) - 1) := ⟨_, rfl⟩
      have hX : MX _ (sI (sD (sL (sI σ 717 32 (nI (t))) 717 33 (gW A_2 r)) 717 34 (gE A_19 r)) 717 27 (nI ((A.1 1 0) - 1))) F A_46 := hA_46 ▸ MX.dp hX (v := ((A.1 1 0) - 1)) (by omega)
      have hd_A_46 : A_46.1 1 0 = ((A.1 1 0) - 1) := by rw [hA_46]; exact aI_s
      refine px_aload_n dx_Mo_giveBack_49 rfl ?_
      refine px_getI dx_Mo_giveBack_50 fl_Mo_130 rfl (by decide) rfl ?_
      refine px_eqi (y := nI (((A.1 1 0) - 1))) (hX.2.2.2.1.2.1.trans (congrArg nI hd_A_46)) ?_
      refine px_if_neN (a := ((A.1 1 0) - 1)) dx_Mo_giveBack_53 (by omega) (fun c_53 => ?_) (fun c_53 => ?_)
      · exact px_vret dx_Mo_giveBack_61 rfl (by first | exact absurd c_24 c_7 | exact absurd c_7 c_24 | ((have e : gvA A t r = A_46 := by (unfold gvA; (first | rw [if_pos (show A.1 1 0 - 1 = 0 by omega)] | rw [if_neg (show ¬ A.1 1 0 - 1 = 0 by omega)]); (first | rw [if_neg c_7, if_neg c_7] | rw [if_pos c_7, if_pos c_7]); subst hA_46; subst hA_36; subst hA_19; subst hA_2; rfl)); exact hp0 _ _ ⟨rfl, e ▸ hX⟩))
      · refine px_aload_n dx_Mo_giveBack_56 rfl ?_
        refine px_iconst (v := 2) dx_Mo_giveBack_57 rfl ?_
        refine px_putI dx_Mo_giveBack_58 fl_Mo_127 rfl (by decide) rfl ?_
        obtain ⟨A_58, hA_58⟩ : ∃ X, X = aI A_46 0 0 2 := ⟨_, rfl⟩
        have hX : MX _ (sI (sI (sD (sL (sI σ 717 32 (nI (t))) 717 33 (gW A_2 r)) 717 34 (gE A_19 r)) 717 27 (nI ((A.1 1 0) - 1))) 717 26 2) F A_58 := hA_58 ▸ MX.st hX (v := 2) (by omega)
        have hd_A_58 : A_58.1 1 0 = ((A.1 1 0) - 1) := by rw [hA_58]; exact Eq.trans (aI_n (Or.inl (by decide))) hd_A_46
        exact px_vret dx_Mo_giveBack_61 rfl (by first | exact absurd c_24 c_7 | exact absurd c_7 c_24 | ((have e : gvA A t r = A_58 := by (unfold gvA; (first | rw [if_pos (show A.1 1 0 - 1 = 0 by omega)] | rw [if_neg (show ¬ A.1 1 0 - 1 = 0 by omega)]); (first | rw [if_neg c_7, if_neg c_7] | rw [if_pos c_7, if_pos c_7]); subst hA_58; subst hA_46; subst hA_36; subst hA_19; subst hA_2; rfl)); exact hp0 _ _ ⟨rfl, e ▸ hX⟩))
    · refine px_dconst0 dx_Mo_giveBack_27 ?_
      refine px_goto dx_Mo_giveBack_28 ?_
      refine px_putD dx_Mo_giveBack_36 fl_Mo_140 rfl (by decide) rfl ?_
      obtain ⟨A_36, hA_36⟩ : ∃ X, X = aD A_19 60 0 := ⟨_, rfl⟩
      have hX : MX _ (sD (sL (sI σ 717 32 (nI (t))) 717 33 (gW A_2 r)) 717 34 0) F A_36 := hA_36 ▸ MX.od hX (v := 0)
      have hd_A_36 : A_36.1 1 0 = A.1 1 0 := by rw [hA_36]; exact Eq.trans rfl hd_A_19
      refine px_aload_n dx_Mo_giveBack_39 rfl ?_
      refine px_dup dx_Mo_giveBack_40 rfl ?_
      refine px_getI dx_Mo_giveBack_41 fl_Mo_130 rfl (by decide) rfl ?_
      refine px_eqi (y := nI (A.1 1 0)) (hX.2.2.2.1.2.1.trans (congrArg nI hd_A_36)) ?_
      refine px_iconst (v := 1) dx_Mo_giveBack_44 rfl ?_
      refine px_isubN (a := A.1 1 0) (b := 1) dx_Mo_giveBack_45 (by omega) ?_
      refine px_putI dx_Mo_giveBack_46 fl_Mo_130 rfl (by decide) rfl ?_
      obtain ⟨A_46, hA_46⟩ : ∃ X, X = aI A_36 1 0 ((A.1 1 0) - 1) := ⟨_, rfl⟩
      have hX : MX _ (sI (sD (sL (sI σ 717 32 (nI (t))) 717 33 (gW A_2 r)) 717 34 0) 717 27 (nI ((A.1 1 0) - 1))) F A_46 := hA_46 ▸ MX.dp hX (v := ((A.1 1 0) - 1)) (by omega)
      have hd_A_46 : A_46.1 1 0 = ((A.1 1 0) - 1) := by rw [hA_46]; exact aI_s
      refine px_aload_n dx_Mo_giveBack_49 rfl ?_
      refine px_getI dx_Mo_giveBack_50 fl_Mo_130 rfl (by decide) rfl ?_
      refine px_eqi (y := nI (((A.1 1 0) - 1))) (hX.2.2.2.1.2.1.trans (congrArg nI hd_A_46)) ?_
      refine px_if_neN (a := ((A.1 1 0) - 1)) dx_Mo_giveBack_53 (by omega) (fun c_53 => ?_) (fun c_53 => ?_)
      · exact px_vret dx_Mo_giveBack_61 rfl (by first | exact absurd c_24 c_7 | exact absurd c_7 c_24 | ((have e : gvA A t r = A_46 := by (unfold gvA; (first | rw [if_pos (show A.1 1 0 - 1 = 0 by omega)] | rw [if_neg (show ¬ A.1 1 0 - 1 = 0 by omega)]); (first | rw [if_neg c_7, if_neg c_7] | rw [if_pos c_7, if_pos c_7]); subst hA_46; subst hA_36; subst hA_19; subst hA_2; rfl)); exact hp0 _ _ ⟨rfl, e ▸ hX⟩))
      · refine px_aload_n dx_Mo_giveBack_56 rfl ?_
        refine px_iconst (v := 2) dx_Mo_giveBack_57 rfl ?_
        refine px_putI dx_Mo_giveBack_58 fl_Mo_127 rfl (by decide) rfl ?_
        obtain ⟨A_58, hA_58⟩ : ∃ X, X = aI A_46 0 0 2 := ⟨_, rfl⟩
        have hX : MX _ (sI (sI (sD (sL (sI σ 717 32 (nI (t))) 717 33 (gW A_2 r)) 717 34 0) 717 27 (nI ((A.1 1 0) - 1))) 717 26 2) F A_58 := hA_58 ▸ MX.st hX (v := 2) (by omega)
        have hd_A_58 : A_58.1 1 0 = ((A.1 1 0) - 1) := by rw [hA_58]; exact Eq.trans (aI_n (Or.inl (by decide))) hd_A_46
        exact px_vret dx_Mo_giveBack_61 rfl (by first | exact absurd c_24 c_7 | exact absurd c_7 c_24 | ((have e : gvA A t r = A_58 := by (unfold gvA; (first | rw [if_pos (show A.1 1 0 - 1 = 0 by omega)] | rw [if_neg (show ¬ A.1 1 0 - 1 = 0 by omega)]); (first | rw [if_neg c_7, if_neg c_7] | rw [if_pos c_7, if_pos c_7]); subst hA_58; subst hA_46; subst hA_36; subst hA_19; subst hA_2; rfl)); exact hp0 _ _ ⟨rfl, e ▸ hX⟩))
  · refine px_lconst (v := 0) dx_Mo_giveBack_10 rfl ?_
    refine px_goto dx_Mo_giveBack_11 ?_
    refine px_putL dx_Mo_giveBack_19 fl_Mo_136 rfl (by decide) rfl ?_
    obtain ⟨A_19, hA_19⟩ : ∃ X, X = aW A_2 60 0 := ⟨_, rfl⟩
    have hX : MX _ (sL (sI σ 717 32 (nI (t))) 717 33 0) F A_19 := hA_19 ▸ MX.ow hX (v := 0)
    have hd_A_19 : A_19.1 1 0 = A.1 1 0 := by rw [hA_19]; exact Eq.trans rfl hd_A_2
    refine px_aload_n dx_Mo_giveBack_22 rfl ?_
    refine px_iload_n dx_Mo_giveBack_23 rfl ?_
    refine px_if_neN (a := t) dx_Mo_giveBack_24 (by omega) (fun c_24 => ?_) (fun c_24 => ?_)
    · refine px_aload_n dx_Mo_giveBack_31 rfl ?_
      refine px_iload_n dx_Mo_giveBack_32 rfl ?_
      refine px_cV (Y := yy_Mo_giveBack) (Yc := yy_Mo_realOf) (b := 717) (As := [.int (nI (r))]) dx_Mo_giveBack_33 ml_Mo_322 mv_Mo_realOf np_Mo_realOf ⟨_, rfl⟩ (by decide) rfl (by decide) rfl (Nat.le_of_ble_eq_true rfl) (Nat.le_of_ble_eq_true rfl) rk_Mo_giveBack_Mo_realOf rfl (m_realOf (A := A_19) (r := r) hX (by omega) (by first | omega | exact hr (by assumption))) zz_0 ?_
      refine px_putD dx_Mo_giveBack_36 fl_Mo_140 rfl (by decide) rfl ?_
      obtain ⟨A_36, hA_36⟩ : ∃ X, X = aD A_19 60 (gE A_19 r) := ⟨_, rfl⟩
      have hX : MX _ (sD (sL (sI σ 717 32 (nI (t))) 717 33 0) 717 34 (gE A_19 r)) F A_36 := hA_36 ▸ MX.od hX (v := (gE A_19 r))
      have hd_A_36 : A_36.1 1 0 = A.1 1 0 := by rw [hA_36]; exact Eq.trans rfl hd_A_19
      refine px_aload_n dx_Mo_giveBack_39 rfl ?_
      refine px_dup dx_Mo_giveBack_40 rfl ?_
      refine px_getI dx_Mo_giveBack_41 fl_Mo_130 rfl (by decide) rfl ?_
      refine px_eqi (y := nI (A.1 1 0)) (hX.2.2.2.1.2.1.trans (congrArg nI hd_A_36)) ?_
      refine px_iconst (v := 1) dx_Mo_giveBack_44 rfl ?_
      refine px_isubN (a := A.1 1 0) (b := 1) dx_Mo_giveBack_45 (by omega) ?_
      refine px_putI dx_Mo_giveBack_46 fl_Mo_130 rfl (by decide) rfl ?_
      obtain ⟨A_46, hA_46⟩ : ∃ X, X = aI A_36 1 0 ((A.1 1 0) - 1) := ⟨_, rfl⟩
      have hX : MX _ (sI (sD (sL (sI σ 717 32 (nI (t))) 717 33 0) 717 34 (gE A_19 r)) 717 27 (nI ((A.1 1 0) - 1))) F A_46 := hA_46 ▸ MX.dp hX (v := ((A.1 1 0) - 1)) (by omega)
      have hd_A_46 : A_46.1 1 0 = ((A.1 1 0) - 1) := by rw [hA_46]; exact aI_s
      refine px_aload_n dx_Mo_giveBack_49 rfl ?_
      refine px_getI dx_Mo_giveBack_50 fl_Mo_130 rfl (by decide) rfl ?_
      refine px_eqi (y := nI (((A.1 1 0) - 1))) (hX.2.2.2.1.2.1.trans (congrArg nI hd_A_46)) ?_
      refine px_if_neN (a := ((A.1 1 0) - 1)) dx_Mo_giveBack_53 (by omega) (fun c_53 => ?_) (fun c_53 => ?_)
      · exact px_vret dx_Mo_giveBack_61 rfl (by first | exact absurd c_24 c_7 | exact absurd c_7 c_24 | ((have e : gvA A t r = A_46 := by (unfold gvA; (first | rw [if_pos (show A.1 1 0 - 1 = 0 by omega)] | rw [if_neg (show ¬ A.1 1 0 - 1 = 0 by omega)]); (first | rw [if_neg c_7, if_neg c_7] | rw [if_pos c_7, if_pos c_7]); subst hA_46; subst hA_36; subst hA_19; subst hA_2; rfl)); exact hp0 _ _ ⟨rfl, e ▸ hX⟩))
      · refine px_aload_n dx_Mo_giveBack_56 rfl ?_
        refine px_iconst (v := 2) dx_Mo_giveBack_57 rfl ?_
        refine px_putI dx_Mo_giveBack_58 fl_Mo_127 rfl (by decide) rfl ?_
        obtain ⟨A_58, hA_58⟩ : ∃ X, X = aI A_46 0 0 2 := ⟨_, rfl⟩
        have hX : MX _ (sI (sI (sD (sL (sI σ 717 32 (nI (t))) 717 33 0) 717 34 (gE A_19 r)) 717 27 (nI ((A.1 1 0) - 1))) 717 26 2) F A_58 := hA_58 ▸ MX.st hX (v := 2) (by omega)
        have hd_A_58 : A_58.1 1 0 = ((A.1 1 0) - 1) := by rw [hA_58]; exact Eq.trans (aI_n (Or.inl (by decide))) hd_A_46
        exact px_vret dx_Mo_giveBack_61 rfl (by first | exact absurd c_24 c_7 | exact absurd c_7 c_24 | ((have e : gvA A t r = A_58 := by (unfold gvA; (first | rw [if_pos (show A.1 1 0 - 1 = 0 by omega)] | rw [if_neg (show ¬ A.1 1 0 - 1 = 0 by omega)]); (first | rw [if_neg c_7, if_neg c_7] | rw [if_pos c_7, if_pos c_7]); subst hA_58; subst hA_46; subst hA_36; subst hA_19; subst hA_2; rfl)); exact hp0 _ _ ⟨rfl, e ▸ hX⟩))
    · refine px_dconst0 dx_Mo_giveBack_27 ?_
      refine px_goto dx_Mo_giveBack_28 ?_
      refine px_putD dx_Mo_giveBack_36 fl_Mo_140 rfl (by decide) rfl ?_
      obtain ⟨A_36, hA_36⟩ : ∃ X, X = aD A_19 60 0 := ⟨_, rfl⟩
      have hX : MX _ (sD (sL (sI σ 717 32 (nI (t))) 717 33 0) 717 34 0) F A_36 := hA_36 ▸ MX.od hX (v := 0)
      have hd_A_36 : A_36.1 1 0 = A.1 1 0 := by rw [hA_36]; exact Eq.trans rfl hd_A_19
      refine px_aload_n dx_Mo_giveBack_39 rfl ?_
      refine px_dup dx_Mo_giveBack_40 rfl ?_
      refine px_getI dx_Mo_giveBack_41 fl_Mo_130 rfl (by decide) rfl ?_
      refine px_eqi (y := nI (A.1 1 0)) (hX.2.2.2.1.2.1.trans (congrArg nI hd_A_36)) ?_
      refine px_iconst (v := 1) dx_Mo_giveBack_44 rfl ?_
      refine px_isubN (a := A.1 1 0) (b := 1) dx_Mo_giveBack_45 (by omega) ?_
      refine px_putI dx_Mo_giveBack_46 fl_Mo_130 rfl (by decide) rfl ?_
      obtain ⟨A_46, hA_46⟩ : ∃ X, X = aI A_36 1 0 ((A.1 1 0) - 1) := ⟨_, rfl⟩
      have hX : MX _ (sI (sD (sL (sI σ 717 32 (nI (t))) 717 33 0) 717 34 0) 717 27 (nI ((A.1 1 0) - 1))) F A_46 := hA_46 ▸ MX.dp hX (v := ((A.1 1 0) - 1)) (by omega)
      have hd_A_46 : A_46.1 1 0 = ((A.1 1 0) - 1) := by rw [hA_46]; exact aI_s
      refine px_aload_n dx_Mo_giveBack_49 rfl ?_
      refine px_getI dx_Mo_giveBack_50 fl_Mo_130 rfl (by decide) rfl ?_
      refine px_eqi (y := nI (((A.1 1 0) - 1))) (hX.2.2.2.1.2.1.trans (congrArg nI hd_A_46)) ?_
      refine px_if_neN (a := ((A.1 1 0) - 1)) dx_Mo_giveBack_53 (by omega) (fun c_53 => ?_) (fun c_53 => ?_)
      · exact px_vret dx_Mo_giveBack_61 rfl (by first | exact absurd c_24 c_7 | exact absurd c_7 c_24 | ((have e : gvA A t r = A_46 := by (unfold gvA; (first | rw [if_pos (show A.1 1 0 - 1 = 0 by omega)] | rw [if_neg (show ¬ A.1 1 0 - 1 = 0 by omega)]); (first | rw [if_neg c_7, if_neg c_7] | rw [if_pos c_7, if_pos c_7]); subst hA_46; subst hA_36; subst hA_19; subst hA_2; rfl)); exact hp0 _ _ ⟨rfl, e ▸ hX⟩))
      · refine px_aload_n dx_Mo_giveBack_56 rfl ?_
        refine px_iconst (v := 2) dx_Mo_giveBack_57 rfl ?_
        refine px_putI dx_Mo_giveBack_58 fl_Mo_127 rfl (by decide) rfl ?_
        obtain ⟨A_58, hA_58⟩ : ∃ X, X = aI A_46 0 0 2 := ⟨_, rfl⟩
        have hX : MX _ (sI (sI (sD (sL (sI σ 717 32 (nI (t))) 717 33 0) 717 34 0) 717 27 (nI ((A.1 1 0) - 1))) 717 26 2) F A_58 := hA_58 ▸ MX.st hX (v := 2) (by omega)
        have hd_A_58 : A_58.1 1 0 = ((A.1 1 0) - 1) := by rw [hA_58]; exact Eq.trans (aI_n (Or.inl (by decide))) hd_A_46
        exact px_vret dx_Mo_giveBack_61 rfl (by first | exact absurd c_24 c_7 | exact absurd c_7 c_24 | ((have e : gvA A t r = A_58 := by (unfold gvA; (first | rw [if_pos (show A.1 1 0 - 1 = 0 by omega)] | rw [if_neg (show ¬ A.1 1 0 - 1 = 0 by omega)]); (first | rw [if_neg c_7, if_neg c_7] | rw [if_pos c_7, if_pos c_7]); subst hA_58; subst hA_46; subst hA_36; subst hA_19; subst hA_2; rfl)); exact hp0 _ _ ⟨rfl, e ▸ hX⟩))
set_option maxRecDepth 100000 in
set_option maxHeartbeats 1000000 in
theorem m_enter_lp {l : Launch} {G : fr_G} {σ : fr_S} {σ0 : fr_S} {F : Nat → Nat → Nat} {A : VM} {c : Nat} (h6 : A.1 1 0 < 6) {Post : Option Value → fr_S → Prop} (hp0 : ∀ r σ', (fun r0 σ' => r0 = none ∧ MX σ0 σ' F (entA A c)) r σ' → Post r σ') : ∀ (d : Nat) (j : Nat) (σ1 : fr_S) (A1 : VM), 10 - j < d → j ≤ 10 → MX σ0 σ1 F A1 → zrA (aI (aI A 2 (A.1 1 0) c) 3 (A.1 1 0) 0) (10 * A.1 1 0) j = A1 → A1.1 1 0 = A.1 1 0 → PX l G yy_Mo_enter rm_Mo_enter (QR G false 742 0 0 Post) false 742 0 0 28 [(0, .ref (717)), (1, .int (nI (c))), (2, .int (nI (10 * A.1 1 0 + j)))] [] (σ1) := by
  intro d
  induction d with
  | zero => intro j σ1 A1 hd; exact absurd hd (Nat.not_lt_zero _)
  | succ d ih =>
    intro j σ1 A1 hd hj hX hE hdd
    refine px_iload_n dx_Mo_enter_28 rfl ?_
    refine px_bipush (v := 10) dx_Mo_enter_29 rfl ?_
    refine px_aload_n dx_Mo_enter_31 rfl ?_
    refine px_getI dx_Mo_enter_32 fl_Mo_130 rfl (by decide) rfl ?_
    refine px_eqi (y := nI (A1.1 1 0)) hX.2.2.2.1.2.1 ?_
    refine px_imulN (a := 10) (b := A1.1 1 0) dx_Mo_enter_35 ?_
    refine px_bipush (v := 10) dx_Mo_enter_36 rfl ?_
    refine px_iaddN (a := 10 * (A1.1 1 0)) (b := 10) dx_Mo_enter_38 ?_
    refine px_icmp_geN (a := 10 * A.1 1 0 + j) (b := (10 * (A1.1 1 0)) + 10) dx_Mo_enter_39 (by omega) (by omega) (fun c_39 => ?_) (fun c_39 => ?_)
    · refine px_aload_n dx_Mo_enter_62 rfl ?_
      refine px_dup dx_Mo_enter_63 rfl ?_
      refine px_getI dx_Mo_enter_64 fl_Mo_130 rfl (by decide) rfl ?_
      refine px_eqi (y := nI (A1.1 1 0)) hX.2.2.2.1.2.1 ?_
      refine px_iconst (v := 1) dx_Mo_enter_67 rfl ?_
      refine px_iaddN (a := A1.1 1 0) (b := 1) dx_Mo_enter_68 ?_
      refine px_putI dx_Mo_enter_69 fl_Mo_130 rfl (by decide) rfl ?_
      obtain ⟨A_69, hA_69⟩ : ∃ X, X = aI A1 1 0 ((A1.1 1 0) + 1) := ⟨_, rfl⟩
      have hX : MX _ (sI σ1 717 27 (nI ((A1.1 1 0) + 1))) F A_69 := hA_69 ▸ MX.dp hX (v := ((A1.1 1 0) + 1)) (by omega)
      have hd_A_69 : A_69.1 1 0 = ((A1.1 1 0) + 1) := by rw [hA_69]; exact aI_s
      exact px_vret dx_Mo_enter_72 rfl (by (have e : entA A c = A_69 := by (obtain rfl : j = 10 := (by omega); subst hA_69; unfold entA; rw [hE, hdd])); exact hp0 _ _ ⟨rfl, e ▸ hX⟩)
    · refine px_aload_n dx_Mo_enter_42 rfl ?_
      refine px_getR (r := 738) dx_Mo_enter_43 fl_Mo_77 rfl (by decide) rfl (hX.1 30) ?_
      refine px_iload_n dx_Mo_enter_46 rfl ?_
      refine px_lconst (v := 0) dx_Mo_enter_47 rfl ?_
      refine px_lastN (j := 10 * A.1 1 0 + j) dx_Mo_enter_48 rfl (by decide) (by omega) ?_
      obtain ⟨A_48, hA_48⟩ : ∃ X, X = aW A1 (10 * A.1 1 0 + j) 0 := ⟨_, rfl⟩
      have hX : MX _ (sL σ1 738 (10 * A.1 1 0 + j) 0) F A_48 := hA_48 ▸ MX.w hX (k := (10 * A.1 1 0 + j)) (v := 0) (by omega)
      have hd_A_48 : A_48.1 1 0 = A1.1 1 0 := by rw [hA_48]; exact rfl
      refine px_aload_n dx_Mo_enter_49 rfl ?_
      refine px_getR (r := 739) dx_Mo_enter_50 fl_Mo_80 rfl (by decide) rfl (hX.1 31) ?_
      refine px_iload_n dx_Mo_enter_53 rfl ?_
      refine px_dconst0 dx_Mo_enter_54 ?_
      refine px_dastN (j := 10 * A.1 1 0 + j) dx_Mo_enter_55 rfl (by decide) (by omega) ?_
      obtain ⟨A_55, hA_55⟩ : ∃ X, X = aD A_48 (10 * A.1 1 0 + j) 0 := ⟨_, rfl⟩
      have hX : MX _ (sD (sL σ1 738 (10 * A.1 1 0 + j) 0) 739 (10 * A.1 1 0 + j) 0) F A_55 := hA_55 ▸ MX.d hX (k := (10 * A.1 1 0 + j)) (v := 0) (by omega)
      have hd_A_55 : A_55.1 1 0 = A1.1 1 0 := by rw [hA_55]; exact Eq.trans rfl hd_A_48
      refine px_iinc (v := (nI (10 * A.1 1 0 + j + 1))) (lv' := [(2, .int (nI (10 * A.1 1 0 + j + 1))), (0, .ref (717)), (1, .int (nI (c)))]) dx_Mo_enter_56 rfl (nI_1 _) (by decide) rfl ?_
      refine px_goto dx_Mo_enter_59 ?_
      refine px_sub [1, 2, 0] rfl ?_
      exact ih (j + 1) (sD (sL σ1 738 (10 * A.1 1 0 + j) 0) 739 (10 * A.1 1 0 + j) 0) A_55 (by omega) (by omega) hX (by (subst hA_55; subst hA_48; rw [← hE]; rfl)) (hd_A_55.trans hdd)
set_option maxRecDepth 100000 in
set_option maxHeartbeats 1000000 in
theorem m_enter {l : Launch} {G : fr_G} {σ : fr_S} {σ0 : fr_S} {F : Nat → Nat → Nat} {A : VM} (hX : MX σ0 σ F A) (h6 : A.1 1 0 < 6) {c : Nat} (hc : c ≤ 3) : CR l G yy_Mo_enter rm_Mo_enter [.ref (717), .int (nI (c))] σ (fun r0 σ' => r0 = none ∧ MX σ0 σ' F (entA A c)) := by
  intro Post hp0
  show PX l G yy_Mo_enter rm_Mo_enter _ false 742 0 0 0 [(0, .ref (717)), (1, .int (nI (c)))] [] σ
  refine px_aload_n dx_Mo_enter_0 rfl ?_
  refine px_getR (r := 736) dx_Mo_enter_1 fl_Mo_71 rfl (by decide) rfl (hX.1 28) ?_
  refine px_aload_n dx_Mo_enter_4 rfl ?_
  refine px_getI dx_Mo_enter_5 fl_Mo_130 rfl (by decide) rfl ?_
  refine px_eqi (y := nI (A.1 1 0)) hX.2.2.2.1.2.1 ?_
  refine px_iload_n dx_Mo_enter_8 rfl ?_
  refine px_iastN (j := A.1 1 0) dx_Mo_enter_9 rfl (by decide) (by omega) ?_
  obtain ⟨A_9, hA_9⟩ : ∃ X, X = aI A 2 (A.1 1 0) (c) := ⟨_, rfl⟩
  have hX : MX _ (sI σ 736 (A.1 1 0) (nI (c))) F A_9 := hA_9 ▸ MX.fm hX (k := (A.1 1 0)) (v := (c)) (by omega)
  have hd_A_9 : A_9.1 1 0 = A.1 1 0 := by rw [hA_9]; exact (aI_n (Or.inl (by decide)))
  refine px_aload_n dx_Mo_enter_10 rfl ?_
  refine px_getR (r := 737) dx_Mo_enter_11 fl_Mo_74 rfl (by decide) rfl (hX.1 29) ?_
  refine px_aload_n dx_Mo_enter_14 rfl ?_
  refine px_getI dx_Mo_enter_15 fl_Mo_130 rfl (by decide) rfl ?_
  refine px_eqi (y := nI (A.1 1 0)) (hX.2.2.2.1.2.1.trans (congrArg nI hd_A_9)) ?_
  refine px_iconst (v := 0) dx_Mo_enter_18 rfl ?_
  refine px_iastN (j := A.1 1 0) dx_Mo_enter_19 rfl (by decide) (by omega) ?_
  obtain ⟨A_19, hA_19⟩ : ∃ X, X = aI A_9 3 (A.1 1 0) 0 := ⟨_, rfl⟩
  have hX : MX _ (sI (sI σ 736 (A.1 1 0) (nI (c))) 737 (A.1 1 0) 0) F A_19 := hA_19 ▸ MX.fp hX (k := (A.1 1 0)) (v := 0) (by omega)
  have hd_A_19 : A_19.1 1 0 = A.1 1 0 := by rw [hA_19]; exact Eq.trans (aI_n (Or.inl (by decide))) hd_A_9
  refine px_bipush (v := 10) dx_Mo_enter_20 rfl ?_
  refine px_aload_n dx_Mo_enter_22 rfl ?_
  refine px_getI dx_Mo_enter_23 fl_Mo_130 rfl (by decide) rfl ?_
  refine px_eqi (y := nI (A.1 1 0)) (hX.2.2.2.1.2.1.trans (congrArg nI hd_A_19)) ?_
  refine px_imulN (a := 10) (b := A.1 1 0) dx_Mo_enter_26 ?_
  refine px_istore_n (lv' := [(2, .int (nI (10 * (A.1 1 0)))), (0, .ref (717)), (1, .int (nI (c)))]) dx_Mo_enter_27 (by decide) rfl ?_
  refine px_sub [1, 2, 0] rfl ?_
  exact m_enter_lp (σ := σ) (A := A) (c := c) h6 hp0 11 0 _ A_19 (by omega) (Nat.zero_le _) hX (by (subst hA_19; subst hA_9; rfl)) hd_A_19
set_option maxRecDepth 100000 in
set_option maxHeartbeats 1000000 in
theorem m_callFrom_lp {l : Launch} {G : fr_G} {σ : fr_S} {σ0 : fr_S} {F : Nat → Nat → Nat} {A0 : VM} {m p c D to : Nat} (hm : m < 4) (hpl : p < 40) (hc : c < F 0 0) (hc4 : c < 4) (hD : 1 ≤ D) (hD5 : D ≤ 5) (hag : agOK F m c (F 7 (40 * m + (p + 2))) (F 3 c) = true) (hQ : pwF F c ≤ F 5 c) (hto : to + pwF F c = 10 * D + F 5 c) {Post : Option Value → fr_S → Prop} (hp0 : ∀ r σ', (fun r0 σ' => r0 = none ∧ MX σ0 σ' F (cpyA F c (F 7 (40 * m + (p + 2))) (10 * (D - 1)) to A0 (F 3 c))) r σ' → Post r σ') : ∀ (d : Nat) (j : Nat) (σ1 : fr_S) (A1 : VM), F 3 c - j < d → j ≤ F 3 c → MX σ0 σ1 F A1 → cpyA F c (F 7 (40 * m + (p + 2))) (10 * (D - 1)) to A0 j = A1 → PX l G yy_Mo_callFrom rm_Mo_callFrom (QR G false 742 0 0 Post) false 742 0 0 57 [(0, .ref (717)), (1, .int (nI (m))), (2, .int (nI (p))), (3, .int (nI (c))), (4, .int (nI (10 * (D - 1)))), (5, .int (nI (to + agK F c j))), (6, .int (nI (agK F c j))), (7, .int (nI (j)))] [] (σ1) := by
  intro d
  induction d with
  | zero => intro j σ1 A1 hd; exact absurd hd (Nat.not_lt_zero _)
  | succ d ih =>
    intro j σ1 A1 hd hj hX hE
    have hW := hX.2.2.1
    have h3 := hW.2.2.2.1 c
    have hak := agK_le F c j
    have h5 := hW.2.2.2.2.2.1 m
    have h5c := hW.2.2.2.2.2.1 c
    have hs : j < F 3 c → agW (F 7 (40 * m + (p + 2))) (agK F c j) + 1 ≤ 10 ∧ agK F c j + 1 ≤ pwF F c := fun q => by
      have q1 := agOK_hs hag j q
      simp only [hsR, decide_eq_true_eq] at q1
      have q2 := wdt_1 (F 4 (3 * c + j))
      have q3 := agK_mono F c (j + 1) (F 3 c) q
      rw [agK_s] at q3
      have q4 : agK F c (F 3 c) = pwF F c := rfl
      omega
    refine px_iload dx_Mo_callFrom_57 rfl ?_
    refine px_aload_n dx_Mo_callFrom_59 rfl ?_
    refine px_getR (r := 722) dx_Mo_callFrom_60 fl_Mo_26 rfl (by decide) rfl (hX.1 9) ?_
    refine px_iload_n dx_Mo_callFrom_63 rfl ?_
    refine px_ialdN (j := c) dx_Mo_callFrom_64 rfl (by decide) (by omega) ?_
    refine px_eqi (y := nI (F 3 c)) (hX.2.1.2.2.2.1 c (by omega)) ?_
    refine px_icmp_geN (a := j) (b := F 3 c) dx_Mo_callFrom_65 (by omega) (by omega) (fun c_65 => ?_) (fun c_65 => ?_)
    · exact px_vret dx_Mo_callFrom_145 rfl (by (obtain rfl : j = F 3 c := by omega); exact hp0 _ _ ⟨rfl, by rw [hE]; exact hX⟩)
    · refine px_iload dx_Mo_callFrom_68 rfl ?_
      refine px_aload_n dx_Mo_callFrom_70 rfl ?_
      refine px_iload_n dx_Mo_callFrom_71 rfl ?_
      refine px_iload_n dx_Mo_callFrom_72 rfl ?_
      refine px_iload dx_Mo_callFrom_73 rfl ?_
      refine px_cV (Y := yy_Mo_callFrom) (Yc := yy_Mo_argument) (b := 717) (As := [.int (nI (m)), .int (nI (p)), .int (nI (agK F c j))]) dx_Mo_callFrom_75 ml_Mo_185 mv_Mo_argument np_Mo_argument ⟨_, rfl⟩ (by decide) rfl (by decide) rfl (Nat.le_of_ble_eq_true rfl) (Nat.le_of_ble_eq_true rfl) rk_Mo_callFrom_Mo_argument rfl (m_argument (m := m) (p := p) (k := agK F c j) hX.1 hX.2.1 hX.2.2.1 (by omega) (by omega) (by omega)) zz_0 ?_
      refine px_iaddN (a := 10 * (D - 1)) (b := agW (F 7 (40 * m + (p + 2))) (agK F c j)) dx_Mo_callFrom_78 ?_
      refine px_istore (lv' := [(8, .int (nI ((10 * (D - 1)) + (agW (F 7 (40 * m + (p + 2))) (agK F c j))))), (0, .ref (717)), (1, .int (nI (m))), (2, .int (nI (p))), (3, .int (nI (c))), (4, .int (nI (10 * (D - 1)))), (5, .int (nI (to + agK F c j))), (6, .int (nI (agK F c j))), (7, .int (nI (j)))]) dx_Mo_callFrom_79 (by decide) rfl ?_
      refine px_aload_n dx_Mo_callFrom_81 rfl ?_
      refine px_getR (r := 738) dx_Mo_callFrom_82 fl_Mo_77 rfl (by decide) rfl (hX.1 30) ?_
      refine px_iload dx_Mo_callFrom_85 rfl ?_
      refine px_aload_n dx_Mo_callFrom_87 rfl ?_
      refine px_getR (r := 738) dx_Mo_callFrom_88 fl_Mo_77 rfl (by decide) rfl (hX.1 30) ?_
      refine px_iload dx_Mo_callFrom_91 rfl ?_
      refine px_laldN (j := (10 * (D - 1)) + (agW (F 7 (40 * m + (p + 2))) (agK F c j))) dx_Mo_callFrom_93 rfl (by decide) (by omega) ?_
      refine px_eql (y := A1.2.1 ((10 * (D - 1)) + (agW (F 7 (40 * m + (p + 2))) (agK F c j)))) (hX.2.2.2.1.2.2.2.2.2.1 ((10 * (D - 1)) + (agW (F 7 (40 * m + (p + 2))) (agK F c j))) (by omega)) ?_
      refine px_lastN (j := to + agK F c j) dx_Mo_callFrom_94 rfl (by decide) (by omega) ?_
      obtain ⟨A_94, hA_94⟩ : ∃ X, X = aW A1 (to + agK F c j) (A1.2.1 ((10 * (D - 1)) + (agW (F 7 (40 * m + (p + 2))) (agK F c j)))) := ⟨_, rfl⟩
      have hX : MX _ (sL σ1 738 (to + agK F c j) (A1.2.1 ((10 * (D - 1)) + (agW (F 7 (40 * m + (p + 2))) (agK F c j))))) F A_94 := hA_94 ▸ MX.w hX (k := (to + agK F c j)) (v := (A1.2.1 ((10 * (D - 1)) + (agW (F 7 (40 * m + (p + 2))) (agK F c j))))) (by omega)
      have hd_A_94 : A_94.1 1 0 = A1.1 1 0 := by rw [hA_94]; exact rfl
      refine px_aload_n dx_Mo_callFrom_95 rfl ?_
      refine px_getR (r := 739) dx_Mo_callFrom_96 fl_Mo_80 rfl (by decide) rfl (hX.1 31) ?_
      refine px_iload dx_Mo_callFrom_99 rfl ?_
      refine px_aload_n dx_Mo_callFrom_101 rfl ?_
      refine px_getR (r := 739) dx_Mo_callFrom_102 fl_Mo_80 rfl (by decide) rfl (hX.1 31) ?_
      refine px_iload dx_Mo_callFrom_105 rfl ?_
      refine px_daldN (j := (10 * (D - 1)) + (agW (F 7 (40 * m + (p + 2))) (agK F c j))) dx_Mo_callFrom_107 rfl (by decide) (by omega) ?_
      refine px_eqd (y := A_94.2.2.1 ((10 * (D - 1)) + (agW (F 7 (40 * m + (p + 2))) (agK F c j)))) (hX.2.2.2.1.2.2.2.2.2.2.2.1 ((10 * (D - 1)) + (agW (F 7 (40 * m + (p + 2))) (agK F c j))) (by omega)) ?_
      refine px_dastN (j := to + agK F c j) dx_Mo_callFrom_108 rfl (by decide) (by omega) ?_
      obtain ⟨A_108, hA_108⟩ : ∃ X, X = aD A_94 (to + agK F c j) (A_94.2.2.1 ((10 * (D - 1)) + (agW (F 7 (40 * m + (p + 2))) (agK F c j)))) := ⟨_, rfl⟩
      have hX : MX _ (sD (sL σ1 738 (to + agK F c j) (A1.2.1 ((10 * (D - 1)) + (agW (F 7 (40 * m + (p + 2))) (agK F c j))))) 739 (to + agK F c j) (A_94.2.2.1 ((10 * (D - 1)) + (agW (F 7 (40 * m + (p + 2))) (agK F c j))))) F A_108 := hA_108 ▸ MX.d hX (k := (to + agK F c j)) (v := (A_94.2.2.1 ((10 * (D - 1)) + (agW (F 7 (40 * m + (p + 2))) (agK F c j))))) (by omega)
      have hd_A_108 : A_108.1 1 0 = A1.1 1 0 := by rw [hA_108]; exact Eq.trans rfl hd_A_94
      refine px_aload_n dx_Mo_callFrom_109 rfl ?_
      refine px_getR (r := 723) dx_Mo_callFrom_110 fl_Mo_29 rfl (by decide) rfl (hX.1 10) ?_
      refine px_iconst (v := 3) dx_Mo_callFrom_113 rfl ?_
      refine px_iload_n dx_Mo_callFrom_114 rfl ?_
      refine px_imulN (a := 3) (b := c) dx_Mo_callFrom_115 ?_
      refine px_iload dx_Mo_callFrom_116 rfl ?_
      refine px_iaddN (a := 3 * c) (b := j) dx_Mo_callFrom_118 ?_
      refine px_ialdN (j := (3 * c) + j) dx_Mo_callFrom_119 rfl (by decide) (by omega) ?_
      refine px_eqi (y := nI (F 4 ((3 * c) + j))) (hX.2.1.2.2.2.2.1 ((3 * c) + j) (by omega)) ?_
      refine px_cS (Y := yy_Mo_callFrom) (Yc := yy_Mo_words) (As := [.int (nI (F 4 ((3 * c) + j)))]) dx_Mo_callFrom_120 ml_Mo_99 ms_Mo_words np_Mo_words rfl (Nat.le_of_ble_eq_true rfl) (Nat.le_of_ble_eq_true rfl) rk_Mo_callFrom_Mo_words rfl (m_words (t := F 4 ((3 * c) + j)) (Nat.lt_of_le_of_lt (hX.2.2.1.2.2.2.2.1 _) (by decide))) zz_0 ?_
      refine px_istore (lv' := [(9, .int (nI (wdt (F 4 ((3 * c) + j))))), (8, .int (nI ((10 * (D - 1)) + (agW (F 7 (40 * m + (p + 2))) (agK F c j))))), (0, .ref (717)), (1, .int (nI (m))), (2, .int (nI (p))), (3, .int (nI (c))), (4, .int (nI (10 * (D - 1)))), (5, .int (nI (to + agK F c j))), (6, .int (nI (agK F c j))), (7, .int (nI (j)))]) dx_Mo_callFrom_123 (by decide) rfl ?_
      refine px_iload dx_Mo_callFrom_125 rfl ?_
      refine px_iload dx_Mo_callFrom_127 rfl ?_
      refine px_iaddN (a := to + agK F c j) (b := wdt (F 4 ((3 * c) + j))) dx_Mo_callFrom_129 ?_
      refine px_istore (lv' := [(5, .int (nI ((to + agK F c j) + (wdt (F 4 ((3 * c) + j)))))), (9, .int (nI (wdt (F 4 ((3 * c) + j))))), (8, .int (nI ((10 * (D - 1)) + (agW (F 7 (40 * m + (p + 2))) (agK F c j))))), (0, .ref (717)), (1, .int (nI (m))), (2, .int (nI (p))), (3, .int (nI (c))), (4, .int (nI (10 * (D - 1)))), (6, .int (nI (agK F c j))), (7, .int (nI (j)))]) dx_Mo_callFrom_130 (by decide) rfl ?_
      refine px_iload dx_Mo_callFrom_132 rfl ?_
      refine px_iload dx_Mo_callFrom_134 rfl ?_
      refine px_iaddN (a := agK F c j) (b := wdt (F 4 ((3 * c) + j))) dx_Mo_callFrom_136 ?_
      refine px_istore (lv' := [(6, .int (nI ((agK F c j) + (wdt (F 4 ((3 * c) + j)))))), (5, .int (nI ((to + agK F c j) + (wdt (F 4 ((3 * c) + j)))))), (9, .int (nI (wdt (F 4 ((3 * c) + j))))), (8, .int (nI ((10 * (D - 1)) + (agW (F 7 (40 * m + (p + 2))) (agK F c j))))), (0, .ref (717)), (1, .int (nI (m))), (2, .int (nI (p))), (3, .int (nI (c))), (4, .int (nI (10 * (D - 1)))), (7, .int (nI (j)))]) dx_Mo_callFrom_137 (by decide) rfl ?_
      refine px_iinc (v := (nI (j + 1))) (lv' := [(7, .int (nI (j + 1))), (6, .int (nI ((agK F c j) + (wdt (F 4 ((3 * c) + j)))))), (5, .int (nI ((to + agK F c j) + (wdt (F 4 ((3 * c) + j)))))), (9, .int (nI (wdt (F 4 ((3 * c) + j))))), (8, .int (nI ((10 * (D - 1)) + (agW (F 7 (40 * m + (p + 2))) (agK F c j))))), (0, .ref (717)), (1, .int (nI (m))), (2, .int (nI (p))), (3, .int (nI (c))), (4, .int (nI (10 * (D - 1))))]) dx_Mo_callFrom_139 rfl (nI_1 _) (by decide) rfl ?_
      refine px_goto dx_Mo_callFrom_142 ?_
      refine px_sub [5, 6, 7, 8, 9, 2, 1, 0] rfl ?_
      rw [Nat.add_assoc to (agK F c j)]
      exact ih (j + 1) (sD (sL σ1 738 (to + agK F c j) (A1.2.1 ((10 * (D - 1)) + (agW (F 7 (40 * m + (p + 2))) (agK F c j))))) 739 (to + agK F c j) (A_94.2.2.1 ((10 * (D - 1)) + (agW (F 7 (40 * m + (p + 2))) (agK F c j))))) A_108 (by omega) (by omega) hX (by (subst hA_108; subst hA_94; rw [← hE]; rfl))
set_option maxRecDepth 100000 in
set_option maxHeartbeats 1000000 in
theorem m_callFrom {l : Launch} {G : fr_G} {σ : fr_S} {σ0 : fr_S} {F : Nat → Nat → Nat} {A : VM} (hX : MX σ0 σ F A) (hd : 1 ≤ A.1 1 0) {m p : Nat} (hm : m < 4) (hpl : p < 40) (h6 : A.1 1 0 < 6) (hc : F 7 (40 * m + (p + 1)) < F 0 0) (hag : agOK F m (F 7 (40 * m + (p + 1))) (F 7 (40 * m + (p + 2))) (F 3 (F 7 (40 * m + (p + 1)))) = true) (hQ : pwF F (F 7 (40 * m + (p + 1))) ≤ F 5 (F 7 (40 * m + (p + 1)))) : CR l G yy_Mo_callFrom rm_Mo_callFrom [.ref (717), .int (nI (m)), .int (nI (p))] σ (fun r0 σ' => r0 = none ∧ MX σ0 σ' F (calA F A m p)) := by
  intro Post hp0
  show PX l G yy_Mo_callFrom rm_Mo_callFrom _ false 742 0 0 0 [(0, .ref (717)), (1, .int (nI (m))), (2, .int (nI (p)))] [] σ
  have b6 := hX.2.2.2.2.1.2.1
  have h04 := hX.2.2.1.1
  have h5c := hX.2.2.1.2.2.2.2.2.1 (F 7 (40 * m + (p + 1)))
  refine px_aload_n dx_Mo_callFrom_0 rfl ?_
  refine px_iload_n dx_Mo_callFrom_1 rfl ?_
  refine px_iload_n dx_Mo_callFrom_2 rfl ?_
  refine px_cV (Y := yy_Mo_callFrom) (Yc := yy_Mo_number) (b := 717) (As := [.int (nI (m)), .int (nI (p))]) dx_Mo_callFrom_3 ml_Mo_176 mv_Mo_number np_Mo_number ⟨_, rfl⟩ (by decide) rfl (by decide) rfl (Nat.le_of_ble_eq_true rfl) (Nat.le_of_ble_eq_true rfl) rk_Mo_callFrom_Mo_number rfl (m_number_p (w := (F 7 (40 * m + (p + 1)))) hX.1 (by omega) (hX.2.1.2.2.2.2.2.2.2 (40 * m + (p + 1)) (by omega)) (hX.2.2.1.2.2.2.2.2.2.2 _) (by omega)) zz_0 ?_
  refine px_istore_n (lv' := [(3, .int (nI (F 7 (40 * m + (p + 1))))), (0, .ref (717)), (1, .int (nI (m))), (2, .int (nI (p)))]) dx_Mo_callFrom_6 (by decide) rfl ?_
  refine px_aload_n dx_Mo_callFrom_7 rfl ?_
  refine px_getR (r := 737) dx_Mo_callFrom_8 fl_Mo_74 rfl (by decide) rfl (hX.1 29) ?_
  refine px_aload_n dx_Mo_callFrom_11 rfl ?_
  refine px_getI dx_Mo_callFrom_12 fl_Mo_130 rfl (by decide) rfl ?_
  refine px_eqi (y := nI (A.1 1 0)) hX.2.2.2.1.2.1 ?_
  refine px_iconst (v := 1) dx_Mo_callFrom_15 rfl ?_
  refine px_isubN (a := A.1 1 0) (b := 1) dx_Mo_callFrom_16 (by omega) ?_
  refine px_iload_n dx_Mo_callFrom_17 rfl ?_
  refine px_iconst (v := 3) dx_Mo_callFrom_18 rfl ?_
  refine px_iaddN (a := p) (b := 3) dx_Mo_callFrom_19 ?_
  refine px_iastN (j := (A.1 1 0) - 1) dx_Mo_callFrom_20 rfl (by decide) (by omega) ?_
  obtain ⟨A_20, hA_20⟩ : ∃ X, X = aI A 3 ((A.1 1 0) - 1) (p + 3) := ⟨_, rfl⟩
  have hX : MX _ (sI σ 737 ((A.1 1 0) - 1) (nI (p + 3))) F A_20 := hA_20 ▸ MX.fp hX (k := ((A.1 1 0) - 1)) (v := (p + 3)) (by omega)
  have hd_A_20 : A_20.1 1 0 = A.1 1 0 := by rw [hA_20]; exact (aI_n (Or.inl (by decide)))
  refine px_aload_n dx_Mo_callFrom_21 rfl ?_
  have eb_22 : bs A_20 = 10 * (A.1 1 0 - 1) := by (unfold bs; rw [hd_A_20])
  refine px_cV (Y := yy_Mo_callFrom) (Yc := yy_Mo_base) (b := 717) (As := []) dx_Mo_callFrom_22 ml_Mo_312 mv_Mo_base np_Mo_base ⟨_, rfl⟩ (by decide) rfl (by decide) rfl (Nat.le_of_ble_eq_true rfl) (Nat.le_of_ble_eq_true rfl) rk_Mo_callFrom_Mo_base rfl ((eb_22 ▸ m_base (A := A_20) hX (by omega))) zz_0 ?_
  refine px_istore (lv' := [(4, .int (nI (10 * (A.1 1 0 - 1)))), (3, .int (nI (F 7 (40 * m + (p + 1))))), (0, .ref (717)), (1, .int (nI (m))), (2, .int (nI (p)))]) dx_Mo_callFrom_25 (by decide) rfl ?_
  refine px_aload_n dx_Mo_callFrom_27 rfl ?_
  refine px_iload_n dx_Mo_callFrom_28 rfl ?_
  refine px_cVR (Y := yy_Mo_callFrom) (Yc := yy_Mo_enter) (b := 717) (As := [.int (nI (F 7 (40 * m + (p + 1))))]) dx_Mo_callFrom_29 ml_Mo_309 mv_Mo_enter np_Mo_enter ⟨_, rfl⟩ (by decide) rfl (by decide) rfl (Nat.le_of_ble_eq_true rfl) (Nat.le_of_ble_eq_true rfl) rk_Mo_callFrom_Mo_enter rfl (m_enter (A := A_20) hX (by omega) (c := F 7 (40 * m + (p + 1))) (by omega)) zz_0 (fun r_29 τ_29 h_29 => ?_)
  obtain ⟨rfl, hX⟩ := h_29
  obtain ⟨B_29, hB_29⟩ : ∃ X, X = entA A_20 (F 7 (40 * m + (p + 1))) := ⟨_, rfl⟩
  rw [← hB_29] at hX
  have hd_B_29 : B_29.1 1 0 = A.1 1 0 + 1 := by (rw [hB_29]; exact Eq.trans aI_s (congrArg (· + 1) hd_A_20))
  refine px_aload_n dx_Mo_callFrom_32 rfl ?_
  have eb_33 : bs B_29 = 10 * ((A.1 1 0 + 1) - 1) := by (unfold bs; rw [hd_B_29])
  refine px_cV (Y := yy_Mo_callFrom) (Yc := yy_Mo_base) (b := 717) (As := []) dx_Mo_callFrom_33 ml_Mo_312 mv_Mo_base np_Mo_base ⟨_, rfl⟩ (by decide) rfl (by decide) rfl (Nat.le_of_ble_eq_true rfl) (Nat.le_of_ble_eq_true rfl) rk_Mo_callFrom_Mo_base rfl ((eb_33 ▸ m_base (A := B_29) hX (by omega))) zz_0 ?_
  refine px_aload_n dx_Mo_callFrom_36 rfl ?_
  refine px_getR (r := 724) dx_Mo_callFrom_37 fl_Mo_32 rfl (by decide) rfl (hX.1 11) ?_
  refine px_iload_n dx_Mo_callFrom_40 rfl ?_
  refine px_ialdN (j := F 7 (40 * m + (p + 1))) dx_Mo_callFrom_41 rfl (by decide) (by omega) ?_
  refine px_eqi (y := nI (F 5 (F 7 (40 * m + (p + 1))))) (hX.2.1.2.2.2.2.2.1 (F 7 (40 * m + (p + 1))) (by omega)) ?_
  refine px_iaddN (a := 10 * ((A.1 1 0 + 1) - 1)) (b := F 5 (F 7 (40 * m + (p + 1)))) dx_Mo_callFrom_42 ?_
  refine px_aload_n dx_Mo_callFrom_43 rfl ?_
  refine px_iload_n dx_Mo_callFrom_44 rfl ?_
  refine px_cV (Y := yy_Mo_callFrom) (Yc := yy_Mo_paramWords) (b := 717) (As := [.int (nI (F 7 (40 * m + (p + 1))))]) dx_Mo_callFrom_45 ml_Mo_107 mv_Mo_paramWords np_Mo_paramWords ⟨_, rfl⟩ (by decide) rfl (by decide) rfl (Nat.le_of_ble_eq_true rfl) (Nat.le_of_ble_eq_true rfl) rk_Mo_callFrom_Mo_paramWords rfl (m_paramWords (m := F 7 (40 * m + (p + 1))) (pt := fun k => F 4 (3 * (F 7 (40 * m + (p + 1))) + k)) (np := F 3 (F 7 (40 * m + (p + 1)))) hX.1 (by omega) (hX.2.2.1.2.2.2.1 _) (hX.2.1.2.2.2.1 _ (by omega)) (fun k hk => hX.2.1.2.2.2.2.1 _ (by have := hX.2.2.1.2.2.2.1 (F 7 (40 * m + (p + 1))); omega)) (fun k => Nat.lt_of_le_of_lt (hX.2.2.1.2.2.2.2.1 _) (by decide))) zz_0 ?_
  refine px_isubN (a := (10 * ((A.1 1 0 + 1) - 1)) + (F 5 (F 7 (40 * m + (p + 1))))) (b := pwF F (F 7 (40 * m + (p + 1)))) dx_Mo_callFrom_48 (by omega) ?_
  refine px_eqi (y := nI ((10 * A.1 1 0 + F 5 (F 7 (40 * m + (p + 1))) - pwF F (F 7 (40 * m + (p + 1)))) + agK F (F 7 (40 * m + (p + 1))) 0)) (congrArg nI (show ((10 * ((A.1 1 0 + 1) - 1)) + (F 5 (F 7 (40 * m + (p + 1))))) - (pwF F (F 7 (40 * m + (p + 1)))) = (10 * A.1 1 0 + F 5 (F 7 (40 * m + (p + 1))) - pwF F (F 7 (40 * m + (p + 1)))) + agK F (F 7 (40 * m + (p + 1))) 0 from by simp only [agK, sw]; omega)) ?_
  refine px_istore (lv' := [(5, .int (nI ((10 * A.1 1 0 + F 5 (F 7 (40 * m + (p + 1))) - pwF F (F 7 (40 * m + (p + 1)))) + agK F (F 7 (40 * m + (p + 1))) 0))), (4, .int (nI (10 * (A.1 1 0 - 1)))), (3, .int (nI (F 7 (40 * m + (p + 1))))), (0, .ref (717)), (1, .int (nI (m))), (2, .int (nI (p)))]) dx_Mo_callFrom_49 (by decide) rfl ?_
  refine px_iconst (v := 0) dx_Mo_callFrom_51 rfl ?_
  refine px_istore (lv' := [(6, .int (0)), (5, .int (nI ((10 * A.1 1 0 + F 5 (F 7 (40 * m + (p + 1))) - pwF F (F 7 (40 * m + (p + 1)))) + agK F (F 7 (40 * m + (p + 1))) 0))), (4, .int (nI (10 * (A.1 1 0 - 1)))), (3, .int (nI (F 7 (40 * m + (p + 1))))), (0, .ref (717)), (1, .int (nI (m))), (2, .int (nI (p)))]) dx_Mo_callFrom_52 (by decide) rfl ?_
  refine px_iconst (v := 0) dx_Mo_callFrom_54 rfl ?_
  refine px_istore (lv' := [(7, .int (0)), (6, .int (0)), (5, .int (nI ((10 * A.1 1 0 + F 5 (F 7 (40 * m + (p + 1))) - pwF F (F 7 (40 * m + (p + 1)))) + agK F (F 7 (40 * m + (p + 1))) 0))), (4, .int (nI (10 * (A.1 1 0 - 1)))), (3, .int (nI (F 7 (40 * m + (p + 1))))), (0, .ref (717)), (1, .int (nI (m))), (2, .int (nI (p)))]) dx_Mo_callFrom_55 (by decide) rfl ?_
  refine px_sub [5, 6, 7, 4, 3, 2, 1, 0] rfl ?_
  exact m_callFrom_lp (σ := σ) (A0 := B_29) (c := F 7 (40 * m + (p + 1))) (D := A.1 1 0) (to := 10 * A.1 1 0 + F 5 (F 7 (40 * m + (p + 1))) - pwF F (F 7 (40 * m + (p + 1)))) (by omega) hpl hc (by omega) hd (by omega) hag hQ (by omega) (fun r σ' h => hp0 r σ' ⟨h.1, by (have e := h.2; (subst hB_29; subst hA_20); exact e)⟩) (F 3 (F 7 (40 * m + (p + 1))) + 1) 0 _ B_29 (by omega) (Nat.zero_le _) hX rfl
set_option maxRecDepth 100000 in
set_option maxHeartbeats 1000000 in
theorem m_copy {l : Launch} {G : fr_G} {σ : fr_S} {σ0 : fr_S} {F : Nat → Nat → Nat} {A : VM} (hX : MX σ0 σ F A) (hd : 1 ≤ A.1 1 0) {to fr : Nat} (hto : to < 10) (hfr : fr < 10) : CR l G yy_Mo_copy rm_Mo_copy [.ref (717), .int (nI (to)), .int (nI (fr))] σ (fun r0 σ' => r0 = none ∧ MX σ0 σ' F (stE (stW A to (gW A fr)) to (gE A fr))) := by
  intro Post hp0
  show PX l G yy_Mo_copy rm_Mo_copy _ false 742 0 0 0 [(0, .ref (717)), (1, .int (nI (to))), (2, .int (nI (fr)))] [] σ
  have b6 := hX.2.2.2.2.1.2.1
  refine px_aload_n dx_Mo_copy_0 rfl ?_
  refine px_iload_n dx_Mo_copy_1 rfl ?_
  refine px_aload_n dx_Mo_copy_2 rfl ?_
  refine px_iload_n dx_Mo_copy_3 rfl ?_
  refine px_cV (Y := yy_Mo_copy) (Yc := yy_Mo_wholeOf) (b := 717) (As := [.int (nI (fr))]) dx_Mo_copy_4 ml_Mo_315 mv_Mo_wholeOf np_Mo_wholeOf ⟨_, rfl⟩ (by decide) rfl (by decide) rfl (Nat.le_of_ble_eq_true rfl) (Nat.le_of_ble_eq_true rfl) rk_Mo_copy_Mo_wholeOf rfl (m_wholeOf (A := A) (r := fr) hX (by omega) (by omega)) zz_0 ?_
  refine px_cVR (Y := yy_Mo_copy) (Yc := yy_Mo_setWhole) (b := 717) (As := [.int (nI (to)), .long (gW A fr)]) dx_Mo_copy_7 ml_Mo_318 mv_Mo_setWhole np_Mo_setWhole ⟨_, rfl⟩ (by decide) rfl (by decide) rfl (Nat.le_of_ble_eq_true rfl) (Nat.le_of_ble_eq_true rfl) rk_Mo_copy_Mo_setWhole rfl (m_setWhole (A := A) (r := to) (v := gW A fr) hX (by omega) (by omega)) zz_0 (fun r_7 τ_7 h_7 => ?_)
  obtain ⟨rfl, hX⟩ := h_7
  obtain ⟨B_7, hB_7⟩ : ∃ X, X = stW A to (gW A fr) := ⟨_, rfl⟩
  rw [← hB_7] at hX
  have hd_B_7 : B_7.1 1 0 = A.1 1 0 := by rw [hB_7]; exact rfl
  refine px_aload_n dx_Mo_copy_10 rfl ?_
  refine px_iload_n dx_Mo_copy_11 rfl ?_
  refine px_aload_n dx_Mo_copy_12 rfl ?_
  refine px_iload_n dx_Mo_copy_13 rfl ?_
  refine px_cV (Y := yy_Mo_copy) (Yc := yy_Mo_realOf) (b := 717) (As := [.int (nI (fr))]) dx_Mo_copy_14 ml_Mo_322 mv_Mo_realOf np_Mo_realOf ⟨_, rfl⟩ (by decide) rfl (by decide) rfl (Nat.le_of_ble_eq_true rfl) (Nat.le_of_ble_eq_true rfl) rk_Mo_copy_Mo_realOf rfl (m_realOf (A := B_7) (r := fr) hX (by omega) (by omega)) zz_0 ?_
  refine px_cVR (Y := yy_Mo_copy) (Yc := yy_Mo_setReal) (b := 717) (As := [.int (nI (to)), .double (gE B_7 fr)]) dx_Mo_copy_17 ml_Mo_326 mv_Mo_setReal np_Mo_setReal ⟨_, rfl⟩ (by decide) rfl (by decide) rfl (Nat.le_of_ble_eq_true rfl) (Nat.le_of_ble_eq_true rfl) rk_Mo_copy_Mo_setReal rfl (m_setReal (A := B_7) (r := to) (v := gE B_7 fr) hX (by omega) (by omega)) zz_0 (fun r_17 τ_17 h_17 => ?_)
  obtain ⟨rfl, hX⟩ := h_17
  obtain ⟨B_17, hB_17⟩ : ∃ X, X = stE B_7 to (gE B_7 fr) := ⟨_, rfl⟩
  rw [← hB_17] at hX
  have hd_B_17 : B_17.1 1 0 = A.1 1 0 := by rw [hB_17]; exact hd_B_7
  exact px_vret dx_Mo_copy_20 rfl (by exact hp0 _ _ ⟨rfl, (by have e := hX; (subst hB_17; subst hB_7); exact e)⟩)
set_option maxRecDepth 100000 in
set_option maxHeartbeats 1000000 in
theorem m_simple {l : Launch} {G : fr_G} {σ : fr_S} {σ0 : fr_S} {F : Nat → Nat → Nat} {A : VM} (hX : MX σ0 σ F A) (hd : 1 ≤ A.1 1 0) {m p : Nat} (hm : m < 4) (hpl : p < 40) (hnm : nmOK F m p = true) : CR l G yy_Mo_simple rm_Mo_simple [.ref (717), .int (nI (opS (F 7 (40 * m + p)))), .int (nI (m)), .int (nI (p))] σ (fun r0 σ' => r0 = none ∧ MX σ0 σ' F (smA F A m p (opS (F 7 (40 * m + p))))) := by
  intro Post hp0
  show PX l G yy_Mo_simple rm_Mo_simple _ false 742 0 0 0 [(0, .ref (717)), (1, .int (nI (opS (F 7 (40 * m + p))))), (2, .int (nI (m))), (3, .int (nI (p)))] [] σ
  have b6 := hX.2.2.2.2.1.2.1
  have hw16 := hX.2.2.1.2.2.2.2.2.2.2 (40 * m + p)
  have hb16 := opB_lt hw16
  have hs256 := opS_lt (F 7 (40 * m + p))
  refine px_aload_n dx_Mo_simple_0 rfl ?_
  refine px_iload_n dx_Mo_simple_1 rfl ?_
  refine px_iload_n dx_Mo_simple_2 rfl ?_
  refine px_cV (Y := yy_Mo_simple) (Yc := yy_Mo_regAA) (b := 717) (As := [.int (nI (m)), .int (nI (p))]) dx_Mo_simple_3 ml_Mo_179 mv_Mo_regAA np_Mo_regAA ⟨_, rfl⟩ (by decide) rfl (by decide) rfl (Nat.le_of_ble_eq_true rfl) (Nat.le_of_ble_eq_true rfl) rk_Mo_simple_Mo_regAA rfl (m_regAA (w := (F 7 (40 * m + p))) hX.1 (by omega) (hX.2.1.2.2.2.2.2.2.2 (40 * m + p) (by omega)) (hX.2.2.1.2.2.2.2.2.2.2 _)) zz_0 ?_
  refine px_istore (lv' := [(4, .int (nI (opN (F 7 (40 * m + p))))), (0, .ref (717)), (1, .int (nI (opS (F 7 (40 * m + p))))), (2, .int (nI (m))), (3, .int (nI (p)))]) dx_Mo_simple_6 (by decide) rfl ?_
  refine px_iload_n dx_Mo_simple_8 rfl ?_
  by_cases k_9_0 : opS (F 7 (40 * m + p)) ∈ ([1, 4] : List Nat)
  · refine px_lookG (e := opS (F 7 (40 * m + p))) (off := 83) [1, 4] dx_Mo_simple_9 (by omega) k_9_0 (by decide) (by decide) rfl ?_
    have hr := rg_1 hX.2.2.1 hnm k_9_0
    refine px_aload_n dx_Mo_simple_92 rfl ?_
    refine px_aload_n dx_Mo_simple_93 rfl ?_
    refine px_iload_n dx_Mo_simple_94 rfl ?_
    refine px_iload_n dx_Mo_simple_95 rfl ?_
    refine px_cV (Y := yy_Mo_simple) (Yc := yy_Mo_regA) (b := 717) (As := [.int (nI (m)), .int (nI (p))]) dx_Mo_simple_96 ml_Mo_193 mv_Mo_regA np_Mo_regA ⟨_, rfl⟩ (by decide) rfl (by decide) rfl (Nat.le_of_ble_eq_true rfl) (Nat.le_of_ble_eq_true rfl) rk_Mo_simple_Mo_regA rfl (m_regA (w := (F 7 (40 * m + p))) hX.1 (by omega) (hX.2.1.2.2.2.2.2.2.2 (40 * m + p) (by omega)) (hX.2.2.1.2.2.2.2.2.2.2 _)) zz_0 ?_
    refine px_aload_n dx_Mo_simple_99 rfl ?_
    refine px_iload_n dx_Mo_simple_100 rfl ?_
    refine px_iload_n dx_Mo_simple_101 rfl ?_
    refine px_cV (Y := yy_Mo_simple) (Yc := yy_Mo_regB) (b := 717) (As := [.int (nI (m)), .int (nI (p))]) dx_Mo_simple_102 ml_Mo_182 mv_Mo_regB np_Mo_regB ⟨_, rfl⟩ (by decide) rfl (by decide) rfl (Nat.le_of_ble_eq_true rfl) (Nat.le_of_ble_eq_true rfl) rk_Mo_simple_Mo_regB rfl (m_regB (w := (F 7 (40 * m + p))) hX.1 (by omega) (hX.2.1.2.2.2.2.2.2.2 (40 * m + p) (by omega)) (hX.2.2.1.2.2.2.2.2.2.2 _)) zz_0 ?_
    refine px_cVR (Y := yy_Mo_simple) (Yc := yy_Mo_copy) (b := 717) (As := [.int (nI (opA (F 7 (40 * m + p)))), .int (nI (opB (F 7 (40 * m + p))))]) dx_Mo_simple_105 ml_Mo_372 mv_Mo_copy np_Mo_copy ⟨_, rfl⟩ (by decide) rfl (by decide) rfl (Nat.le_of_ble_eq_true rfl) (Nat.le_of_ble_eq_true rfl) rk_Mo_simple_Mo_copy rfl (m_copy (A := A) (to := opA (F 7 (40 * m + p))) (fr := opB (F 7 (40 * m + p))) hX (by omega) (by omega) (by omega)) zz_0 (fun r_105 τ_105 h_105 => ?_)
    obtain ⟨rfl, hX⟩ := h_105
    obtain ⟨B_105, hB_105⟩ : ∃ X, X = stE (stW A (opA (F 7 (40 * m + p))) (gW A (opB (F 7 (40 * m + p))))) (opA (F 7 (40 * m + p))) (gE A (opB (F 7 (40 * m + p)))) := ⟨_, rfl⟩
    rw [← hB_105] at hX
    have hd_B_105 : B_105.1 1 0 = A.1 1 0 := by rw [hB_105]; exact rfl
    exact px_vret dx_Mo_simple_108 rfl (by (have e : smA F A m p (opS (F 7 (40 * m + p))) = B_105 := by (unfold smA; (first | rw [if_pos k_9_0] | rw [if_neg k_9_0]); subst hB_105; try rfl)); exact hp0 _ _ ⟨rfl, by rw [e]; exact hX⟩)
  by_cases k_9_1 : opS (F 7 (40 * m + p)) ∈ ([10, 11] : List Nat)
  · refine px_lookG (e := opS (F 7 (40 * m + p))) (off := 100) [10, 11] dx_Mo_simple_9 (by omega) k_9_1 (by decide) (by decide) rfl ?_
    have hr := rg_10 hX.2.2.1 hnm (by simp only [List.mem_cons, List.not_mem_nil, or_false] at k_9_1 ⊢; omega)
    refine px_aload_n dx_Mo_simple_109 rfl ?_
    refine px_iload dx_Mo_simple_110 rfl ?_
    refine px_aload_n dx_Mo_simple_112 rfl ?_
    refine px_getL dx_Mo_simple_113 fl_Mo_136 rfl (by decide) rfl ?_
    refine px_eql (y := A.2.1 60) hX.2.2.2.1.2.2.2.2.2.2.1 ?_
    refine px_cVR (Y := yy_Mo_simple) (Yc := yy_Mo_setWhole) (b := 717) (As := [.int (nI (opN (F 7 (40 * m + p)))), .long (A.2.1 60)]) dx_Mo_simple_116 ml_Mo_318 mv_Mo_setWhole np_Mo_setWhole ⟨_, rfl⟩ (by decide) rfl (by decide) rfl (Nat.le_of_ble_eq_true rfl) (Nat.le_of_ble_eq_true rfl) rk_Mo_simple_Mo_setWhole rfl (m_setWhole (A := A) (r := opN (F 7 (40 * m + p))) (v := A.2.1 60) hX (by omega) (by omega)) zz_0 (fun r_116 τ_116 h_116 => ?_)
    obtain ⟨rfl, hX⟩ := h_116
    obtain ⟨B_116, hB_116⟩ : ∃ X, X = stW A (opN (F 7 (40 * m + p))) (A.2.1 60) := ⟨_, rfl⟩
    rw [← hB_116] at hX
    have hd_B_116 : B_116.1 1 0 = A.1 1 0 := by rw [hB_116]; exact rfl
    refine px_aload_n dx_Mo_simple_119 rfl ?_
    refine px_iload dx_Mo_simple_120 rfl ?_
    refine px_aload_n dx_Mo_simple_122 rfl ?_
    refine px_getD dx_Mo_simple_123 fl_Mo_140 rfl (by decide) rfl ?_
    refine px_eqd (y := B_116.2.2.1 60) hX.2.2.2.1.2.2.2.2.2.2.2.2.1 ?_
    refine px_cVR (Y := yy_Mo_simple) (Yc := yy_Mo_setReal) (b := 717) (As := [.int (nI (opN (F 7 (40 * m + p)))), .double (B_116.2.2.1 60)]) dx_Mo_simple_126 ml_Mo_326 mv_Mo_setReal np_Mo_setReal ⟨_, rfl⟩ (by decide) rfl (by decide) rfl (Nat.le_of_ble_eq_true rfl) (Nat.le_of_ble_eq_true rfl) rk_Mo_simple_Mo_setReal rfl (m_setReal (A := B_116) (r := opN (F 7 (40 * m + p))) (v := B_116.2.2.1 60) hX (by omega) (by omega)) zz_0 (fun r_126 τ_126 h_126 => ?_)
    obtain ⟨rfl, hX⟩ := h_126
    obtain ⟨B_126, hB_126⟩ : ∃ X, X = stE B_116 (opN (F 7 (40 * m + p))) (B_116.2.2.1 60) := ⟨_, rfl⟩
    rw [← hB_126] at hX
    have hd_B_126 : B_126.1 1 0 = A.1 1 0 := by rw [hB_126]; exact hd_B_116
    exact px_vret dx_Mo_simple_129 rfl (by (have e : smA F A m p (opS (F 7 (40 * m + p))) = B_126 := by (unfold smA; (first | rw [if_pos k_9_0] | rw [if_neg k_9_0]); (first | rw [if_pos k_9_1] | rw [if_neg k_9_1]); subst hB_126; subst hB_116; try rfl)); exact hp0 _ _ ⟨rfl, by rw [e]; exact hX⟩)
  by_cases k_9_2 : opS (F 7 (40 * m + p)) ∈ ([18] : List Nat)
  · refine px_lookG (e := opS (F 7 (40 * m + p))) (off := 121) [18] dx_Mo_simple_9 (by omega) k_9_2 (by decide) (by decide) rfl ?_
    have hr := rg_18 hX.2.2.1 hnm k_9_2
    refine px_aload_n dx_Mo_simple_130 rfl ?_
    refine px_aload_n dx_Mo_simple_131 rfl ?_
    refine px_iload_n dx_Mo_simple_132 rfl ?_
    refine px_iload_n dx_Mo_simple_133 rfl ?_
    refine px_cV (Y := yy_Mo_simple) (Yc := yy_Mo_regA) (b := 717) (As := [.int (nI (m)), .int (nI (p))]) dx_Mo_simple_134 ml_Mo_193 mv_Mo_regA np_Mo_regA ⟨_, rfl⟩ (by decide) rfl (by decide) rfl (Nat.le_of_ble_eq_true rfl) (Nat.le_of_ble_eq_true rfl) rk_Mo_simple_Mo_regA rfl (m_regA (w := (F 7 (40 * m + p))) hX.1 (by omega) (hX.2.1.2.2.2.2.2.2.2 (40 * m + p) (by omega)) (hX.2.2.1.2.2.2.2.2.2.2 _)) zz_0 ?_
    refine px_aload_n dx_Mo_simple_137 rfl ?_
    refine px_iload_n dx_Mo_simple_138 rfl ?_
    refine px_iload_n dx_Mo_simple_139 rfl ?_
    refine px_cV (Y := yy_Mo_simple) (Yc := yy_Mo_regB) (b := 717) (As := [.int (nI (m)), .int (nI (p))]) dx_Mo_simple_140 ml_Mo_182 mv_Mo_regB np_Mo_regB ⟨_, rfl⟩ (by decide) rfl (by decide) rfl (Nat.le_of_ble_eq_true rfl) (Nat.le_of_ble_eq_true rfl) rk_Mo_simple_Mo_regB rfl (m_regB (w := (F 7 (40 * m + p))) hX.1 (by omega) (hX.2.1.2.2.2.2.2.2.2 (40 * m + p) (by omega)) (hX.2.2.1.2.2.2.2.2.2.2 _)) zz_0 ?_
    refine px_bipush (v := 7) dx_Mo_simple_143 rfl ?_
    refine px_icmp_leN (a := opB (F 7 (40 * m + p))) (b := 7) dx_Mo_simple_145 (by omega) (by omega) (fun c_145 => ?_) (fun c_145 => ?_)
    · refine px_aload_n dx_Mo_simple_161 rfl ?_
      refine px_iload_n dx_Mo_simple_162 rfl ?_
      refine px_iload_n dx_Mo_simple_163 rfl ?_
      refine px_cV (Y := yy_Mo_simple) (Yc := yy_Mo_regB) (b := 717) (As := [.int (nI (m)), .int (nI (p))]) dx_Mo_simple_164 ml_Mo_182 mv_Mo_regB np_Mo_regB ⟨_, rfl⟩ (by decide) rfl (by decide) rfl (Nat.le_of_ble_eq_true rfl) (Nat.le_of_ble_eq_true rfl) rk_Mo_simple_Mo_regB rfl (m_regB (w := (F 7 (40 * m + p))) hX.1 (by omega) (hX.2.1.2.2.2.2.2.2.2 (40 * m + p) (by omega)) (hX.2.2.1.2.2.2.2.2.2.2 _)) zz_0 ?_
      refine px_i2l dx_Mo_simple_167 ?_
      refine px_cVR (Y := yy_Mo_simple) (Yc := yy_Mo_setWhole) (b := 717) (As := [.int (nI (opA (F 7 (40 * m + p)))), .long ((nI (opB (F 7 (40 * m + p)))).toInt64)]) dx_Mo_simple_168 ml_Mo_318 mv_Mo_setWhole np_Mo_setWhole ⟨_, rfl⟩ (by decide) rfl (by decide) rfl (Nat.le_of_ble_eq_true rfl) (Nat.le_of_ble_eq_true rfl) rk_Mo_simple_Mo_setWhole rfl (m_setWhole (A := A) (r := opA (F 7 (40 * m + p))) (v := (nI (opB (F 7 (40 * m + p)))).toInt64) hX (by omega) (by omega)) zz_0 (fun r_168 τ_168 h_168 => ?_)
      obtain ⟨rfl, hX⟩ := h_168
      obtain ⟨B_168, hB_168⟩ : ∃ X, X = stW A (opA (F 7 (40 * m + p))) ((nI (opB (F 7 (40 * m + p)))).toInt64) := ⟨_, rfl⟩
      rw [← hB_168] at hX
      have hd_B_168 : B_168.1 1 0 = A.1 1 0 := by rw [hB_168]; exact rfl
      exact px_vret dx_Mo_simple_171 rfl (by (have e : smA F A m p (opS (F 7 (40 * m + p))) = B_168 := by (unfold smA; (first | rw [if_pos k_9_0] | rw [if_neg k_9_0]); (first | rw [if_pos k_9_1] | rw [if_neg k_9_1]); (first | rw [if_pos k_9_2] | rw [if_neg k_9_2]); (first | rw [if_pos c_145] | rw [if_neg (show ¬ 7 < opB (F 7 (40 * m + p)) by omega)]); subst hB_168; try rfl)); exact hp0 _ _ ⟨rfl, by rw [e]; exact hX⟩)
    · refine px_aload_n dx_Mo_simple_148 rfl ?_
      refine px_iload_n dx_Mo_simple_149 rfl ?_
      refine px_iload_n dx_Mo_simple_150 rfl ?_
      refine px_cV (Y := yy_Mo_simple) (Yc := yy_Mo_regB) (b := 717) (As := [.int (nI (m)), .int (nI (p))]) dx_Mo_simple_151 ml_Mo_182 mv_Mo_regB np_Mo_regB ⟨_, rfl⟩ (by decide) rfl (by decide) rfl (Nat.le_of_ble_eq_true rfl) (Nat.le_of_ble_eq_true rfl) rk_Mo_simple_Mo_regB rfl (m_regB (w := (F 7 (40 * m + p))) hX.1 (by omega) (hX.2.1.2.2.2.2.2.2.2 (40 * m + p) (by omega)) (hX.2.2.1.2.2.2.2.2.2.2 _)) zz_0 ?_
      refine px_bipush (v := 16) dx_Mo_simple_154 rfl ?_
      refine px_isub dx_Mo_simple_156 ?_
      refine px_i2l dx_Mo_simple_157 ?_
      refine px_goto dx_Mo_simple_158 ?_
      refine px_cVR (Y := yy_Mo_simple) (Yc := yy_Mo_setWhole) (b := 717) (As := [.int (nI (opA (F 7 (40 * m + p)))), .long (((nI (opB (F 7 (40 * m + p)))) - 16).toInt64)]) dx_Mo_simple_168 ml_Mo_318 mv_Mo_setWhole np_Mo_setWhole ⟨_, rfl⟩ (by decide) rfl (by decide) rfl (Nat.le_of_ble_eq_true rfl) (Nat.le_of_ble_eq_true rfl) rk_Mo_simple_Mo_setWhole rfl (m_setWhole (A := A) (r := opA (F 7 (40 * m + p))) (v := ((nI (opB (F 7 (40 * m + p)))) - 16).toInt64) hX (by omega) (by omega)) zz_0 (fun r_168 τ_168 h_168 => ?_)
      obtain ⟨rfl, hX⟩ := h_168
      obtain ⟨B_168, hB_168⟩ : ∃ X, X = stW A (opA (F 7 (40 * m + p))) (((nI (opB (F 7 (40 * m + p)))) - 16).toInt64) := ⟨_, rfl⟩
      rw [← hB_168] at hX
      have hd_B_168 : B_168.1 1 0 = A.1 1 0 := by rw [hB_168]; exact rfl
      exact px_vret dx_Mo_simple_171 rfl (by (have e : smA F A m p (opS (F 7 (40 * m + p))) = B_168 := by (unfold smA; (first | rw [if_pos k_9_0] | rw [if_neg k_9_0]); (first | rw [if_pos k_9_1] | rw [if_neg k_9_1]); (first | rw [if_pos k_9_2] | rw [if_neg k_9_2]); (first | rw [if_pos c_145] | rw [if_neg (show ¬ 7 < opB (F 7 (40 * m + p)) by omega)]); subst hB_168; try rfl)); exact hp0 _ _ ⟨rfl, by rw [e]; exact hX⟩)
  by_cases k_9_3 : opS (F 7 (40 * m + p)) ∈ ([19, 22] : List Nat)
  · refine px_lookG (e := opS (F 7 (40 * m + p))) (off := 163) [19, 22] dx_Mo_simple_9 (by omega) k_9_3 (by decide) (by decide) rfl ?_
    have hr := rg_10 hX.2.2.1 hnm (by simp only [List.mem_cons, List.not_mem_nil, or_false] at k_9_3 ⊢; omega)
    refine px_aload_n dx_Mo_simple_172 rfl ?_
    refine px_iload dx_Mo_simple_173 rfl ?_
    refine px_aload_n dx_Mo_simple_175 rfl ?_
    refine px_iload_n dx_Mo_simple_176 rfl ?_
    refine px_iload_n dx_Mo_simple_177 rfl ?_
    refine px_cV (Y := yy_Mo_simple) (Yc := yy_Mo_number) (b := 717) (As := [.int (nI (m)), .int (nI (p))]) dx_Mo_simple_178 ml_Mo_176 mv_Mo_number np_Mo_number ⟨_, rfl⟩ (by decide) rfl (by decide) rfl (Nat.le_of_ble_eq_true rfl) (Nat.le_of_ble_eq_true rfl) rk_Mo_simple_Mo_number rfl (m_number (w := (F 7 (40 * m + (p + 1)))) hX.1 (by omega) (hX.2.1.2.2.2.2.2.2.2 (40 * m + (p + 1)) (by omega)) (hX.2.2.1.2.2.2.2.2.2.2 _)) zz_0 ?_
    refine px_i2l dx_Mo_simple_181 ?_
    refine px_cVR (Y := yy_Mo_simple) (Yc := yy_Mo_setWhole) (b := 717) (As := [.int (nI (opN (F 7 (40 * m + p)))), .long ((nmI (F 7 (40 * m + (p + 1)))).toInt64)]) dx_Mo_simple_182 ml_Mo_318 mv_Mo_setWhole np_Mo_setWhole ⟨_, rfl⟩ (by decide) rfl (by decide) rfl (Nat.le_of_ble_eq_true rfl) (Nat.le_of_ble_eq_true rfl) rk_Mo_simple_Mo_setWhole rfl (m_setWhole (A := A) (r := opN (F 7 (40 * m + p))) (v := (nmI (F 7 (40 * m + (p + 1)))).toInt64) hX (by omega) (by omega)) zz_0 (fun r_182 τ_182 h_182 => ?_)
    obtain ⟨rfl, hX⟩ := h_182
    obtain ⟨B_182, hB_182⟩ : ∃ X, X = stW A (opN (F 7 (40 * m + p))) ((nmI (F 7 (40 * m + (p + 1)))).toInt64) := ⟨_, rfl⟩
    rw [← hB_182] at hX
    have hd_B_182 : B_182.1 1 0 = A.1 1 0 := by rw [hB_182]; exact rfl
    exact px_vret dx_Mo_simple_185 rfl (by (have e : smA F A m p (opS (F 7 (40 * m + p))) = B_182 := by (unfold smA; (first | rw [if_pos k_9_0] | rw [if_neg k_9_0]); (first | rw [if_pos k_9_1] | rw [if_neg k_9_1]); (first | rw [if_pos k_9_2] | rw [if_neg k_9_2]); (first | rw [if_pos k_9_3] | rw [if_neg k_9_3]); subst hB_182; try rfl)); exact hp0 _ _ ⟨rfl, by rw [e]; exact hX⟩)
  by_cases k_9_4 : opS (F 7 (40 * m + p)) ∈ ([96] : List Nat)
  · refine px_lookG (e := opS (F 7 (40 * m + p))) (off := 177) [96] dx_Mo_simple_9 (by omega) k_9_4 (by decide) (by decide) rfl ?_
    have hr := rg_96 hX.2.2.1 hnm (by simp only [List.mem_cons, List.not_mem_nil, or_false] at k_9_4 ⊢; omega)
    have h14 := hX.2.2.1.2.1
    refine px_aload_n dx_Mo_simple_186 rfl ?_
    refine px_iload dx_Mo_simple_187 rfl ?_
    refine px_aload_n dx_Mo_simple_189 rfl ?_
    refine px_getR (r := 740) dx_Mo_simple_190 fl_Mo_83 rfl (by decide) rfl (hX.1 35) ?_
    refine px_aload_n dx_Mo_simple_193 rfl ?_
    refine px_iload_n dx_Mo_simple_194 rfl ?_
    refine px_iload_n dx_Mo_simple_195 rfl ?_
    refine px_cV (Y := yy_Mo_simple) (Yc := yy_Mo_number) (b := 717) (As := [.int (nI (m)), .int (nI (p))]) dx_Mo_simple_196 ml_Mo_176 mv_Mo_number np_Mo_number ⟨_, rfl⟩ (by decide) rfl (by decide) rfl (Nat.le_of_ble_eq_true rfl) (Nat.le_of_ble_eq_true rfl) rk_Mo_simple_Mo_number rfl (m_number_p (w := (F 7 (40 * m + (p + 1)))) hX.1 (by omega) (hX.2.1.2.2.2.2.2.2.2 (40 * m + (p + 1)) (by omega)) (hX.2.2.1.2.2.2.2.2.2.2 _) (by omega)) zz_0 ?_
    refine px_ialdN (j := F 7 (40 * m + (p + 1))) dx_Mo_simple_199 rfl (by decide) (by omega) ?_
    refine px_eqi (y := A.2.2.2 (F 7 (40 * m + (p + 1)))) (hX.2.2.2.1.2.2.2.2.2.2.2.2.2 (F 7 (40 * m + (p + 1))) (by omega)) ?_
    refine px_i2l dx_Mo_simple_200 ?_
    refine px_cVR (Y := yy_Mo_simple) (Yc := yy_Mo_setWhole) (b := 717) (As := [.int (nI (opN (F 7 (40 * m + p)))), .long ((A.2.2.2 (F 7 (40 * m + (p + 1)))).toInt64)]) dx_Mo_simple_201 ml_Mo_318 mv_Mo_setWhole np_Mo_setWhole ⟨_, rfl⟩ (by decide) rfl (by decide) rfl (Nat.le_of_ble_eq_true rfl) (Nat.le_of_ble_eq_true rfl) rk_Mo_simple_Mo_setWhole rfl (m_setWhole (A := A) (r := opN (F 7 (40 * m + p))) (v := (A.2.2.2 (F 7 (40 * m + (p + 1)))).toInt64) hX (by omega) (by omega)) zz_0 (fun r_201 τ_201 h_201 => ?_)
    obtain ⟨rfl, hX⟩ := h_201
    obtain ⟨B_201, hB_201⟩ : ∃ X, X = stW A (opN (F 7 (40 * m + p))) ((A.2.2.2 (F 7 (40 * m + (p + 1)))).toInt64) := ⟨_, rfl⟩
    rw [← hB_201] at hX
    have hd_B_201 : B_201.1 1 0 = A.1 1 0 := by rw [hB_201]; exact rfl
    exact px_vret dx_Mo_simple_204 rfl (by (have e : smA F A m p (opS (F 7 (40 * m + p))) = B_201 := by (unfold smA; (first | rw [if_pos k_9_0] | rw [if_neg k_9_0]); (first | rw [if_pos k_9_1] | rw [if_neg k_9_1]); (first | rw [if_pos k_9_2] | rw [if_neg k_9_2]); (first | rw [if_pos k_9_3] | rw [if_neg k_9_3]); (first | rw [if_pos k_9_4] | rw [if_neg k_9_4]); subst hB_201; try rfl)); exact hp0 _ _ ⟨rfl, by rw [e]; exact hX⟩)
  by_cases k_9_5 : opS (F 7 (40 * m + p)) ∈ ([103] : List Nat)
  · refine px_lookG (e := opS (F 7 (40 * m + p))) (off := 196) [103] dx_Mo_simple_9 (by omega) k_9_5 (by decide) (by decide) rfl ?_
    have hr := rg_96 hX.2.2.1 hnm (by simp only [List.mem_cons, List.not_mem_nil, or_false] at k_9_5 ⊢; omega)
    have h14 := hX.2.2.1.2.1
    refine px_aload_n dx_Mo_simple_205 rfl ?_
    refine px_getR (r := 740) dx_Mo_simple_206 fl_Mo_83 rfl (by decide) rfl (hX.1 35) ?_
    refine px_aload_n dx_Mo_simple_209 rfl ?_
    refine px_iload_n dx_Mo_simple_210 rfl ?_
    refine px_iload_n dx_Mo_simple_211 rfl ?_
    refine px_cV (Y := yy_Mo_simple) (Yc := yy_Mo_number) (b := 717) (As := [.int (nI (m)), .int (nI (p))]) dx_Mo_simple_212 ml_Mo_176 mv_Mo_number np_Mo_number ⟨_, rfl⟩ (by decide) rfl (by decide) rfl (Nat.le_of_ble_eq_true rfl) (Nat.le_of_ble_eq_true rfl) rk_Mo_simple_Mo_number rfl (m_number_p (w := (F 7 (40 * m + (p + 1)))) hX.1 (by omega) (hX.2.1.2.2.2.2.2.2.2 (40 * m + (p + 1)) (by omega)) (hX.2.2.1.2.2.2.2.2.2.2 _) (by omega)) zz_0 ?_
    refine px_aload_n dx_Mo_simple_215 rfl ?_
    refine px_iload dx_Mo_simple_216 rfl ?_
    refine px_cV (Y := yy_Mo_simple) (Yc := yy_Mo_wholeOf) (b := 717) (As := [.int (nI (opN (F 7 (40 * m + p))))]) dx_Mo_simple_218 ml_Mo_315 mv_Mo_wholeOf np_Mo_wholeOf ⟨_, rfl⟩ (by decide) rfl (by decide) rfl (Nat.le_of_ble_eq_true rfl) (Nat.le_of_ble_eq_true rfl) rk_Mo_simple_Mo_wholeOf rfl (m_wholeOf (A := A) (r := opN (F 7 (40 * m + p))) hX (by omega) (by omega)) zz_0 ?_
    refine px_l2i dx_Mo_simple_221 ?_
    refine px_iastN (j := F 7 (40 * m + (p + 1))) dx_Mo_simple_222 rfl (by decide) (by omega) ?_
    obtain ⟨A_222, hA_222⟩ : ∃ X, X = aF A (F 7 (40 * m + (p + 1))) ((gW A (opN (F 7 (40 * m + p)))).toInt32) := ⟨_, rfl⟩
    have hX : MX _ (sI σ 740 (F 7 (40 * m + (p + 1))) ((gW A (opN (F 7 (40 * m + p)))).toInt32)) F A_222 := hA_222 ▸ MX.f hX (k := (F 7 (40 * m + (p + 1)))) (v := ((gW A (opN (F 7 (40 * m + p)))).toInt32))
    have hd_A_222 : A_222.1 1 0 = A.1 1 0 := by rw [hA_222]; exact rfl
    exact px_vret dx_Mo_simple_223 rfl (by (have e : smA F A m p (opS (F 7 (40 * m + p))) = A_222 := by (unfold smA; (first | rw [if_pos k_9_0] | rw [if_neg k_9_0]); (first | rw [if_pos k_9_1] | rw [if_neg k_9_1]); (first | rw [if_pos k_9_2] | rw [if_neg k_9_2]); (first | rw [if_pos k_9_3] | rw [if_neg k_9_3]); (first | rw [if_pos k_9_4] | rw [if_neg k_9_4]); (first | rw [if_pos k_9_5] | rw [if_neg k_9_5]); subst hA_222; try rfl)); exact hp0 _ _ ⟨rfl, by rw [e]; exact hX⟩)
  have kn_9 : opS (F 7 (40 * m + p)) ∉ ([1, 4, 10, 11, 18, 19, 22, 96, 103] : List Nat) := by simp only [List.mem_cons, List.not_mem_nil, or_false, not_or] at *; omega
  refine px_lookD (e := opS (F 7 (40 * m + p))) [1, 4, 10, 11, 18, 19, 22, 96, 103] dx_Mo_simple_9 (by omega) kn_9 (by decide) (by decide) rfl ?_
  exact px_vret dx_Mo_simple_224 rfl (by (have e : smA F A m p (opS (F 7 (40 * m + p))) = A := by (unfold smA; (first | rw [if_pos k_9_0] | rw [if_neg k_9_0]); (first | rw [if_pos k_9_1] | rw [if_neg k_9_1]); (first | rw [if_pos k_9_2] | rw [if_neg k_9_2]); (first | rw [if_pos k_9_3] | rw [if_neg k_9_3]); (first | rw [if_pos k_9_4] | rw [if_neg k_9_4]); (first | rw [if_pos k_9_5] | rw [if_neg k_9_5]); try rfl)); exact hp0 _ _ ⟨rfl, by rw [e]; exact hX⟩)
set_option maxRecDepth 100000 in
set_option maxHeartbeats 1000000 in
theorem m_compare {l : Launch} {G : fr_G} {σ : fr_S} {σ0 : fr_S} {F : Nat → Nat → Nat} {A : VM} (hX : MX σ0 σ F A) (hd : 1 ≤ A.1 1 0) {op to c d : Nat} (hop : op < 256) (hto : to < 10) (hc : c < 10) (hd10 : d < 10) : CR l G yy_Mo_compare rm_Mo_compare [.ref (717), .int (nI (op)), .int (nI (to)), .int (nI (c)), .int (nI (d))] σ (fun r0 σ' => r0 = none ∧ MX σ0 σ' F (stW A to (cmL op A c d).toInt64)) := by
  intro Post hp0
  show PX l G yy_Mo_compare rm_Mo_compare _ false 742 0 0 0 [(0, .ref (717)), (1, .int (nI (op))), (2, .int (nI (to))), (3, .int (nI (c))), (4, .int (nI (d)))] [] σ
  have b6 := hX.2.2.2.2.1.2.1
  refine px_iconst (v := 0) dx_Mo_compare_0 rfl ?_
  refine px_istore (lv' := [(5, .int (0)), (0, .ref (717)), (1, .int (nI (op))), (2, .int (nI (to))), (3, .int (nI (c))), (4, .int (nI (d)))]) dx_Mo_compare_1 (by decide) rfl ?_
  refine px_iload_n dx_Mo_compare_3 rfl ?_
  refine px_bipush (v := 49) dx_Mo_compare_4 rfl ?_
  refine px_icmp_neN (a := op) (b := 49) dx_Mo_compare_6 (by omega) (by omega) (fun c_6 => ?_) (fun c_6 => ?_)
  · refine px_aload_n dx_Mo_compare_53 rfl ?_
    refine px_iload_n dx_Mo_compare_54 rfl ?_
    refine px_cV (Y := yy_Mo_compare) (Yc := yy_Mo_realOf) (b := 717) (As := [.int (nI (c))]) dx_Mo_compare_55 ml_Mo_322 mv_Mo_realOf np_Mo_realOf ⟨_, rfl⟩ (by decide) rfl (by decide) rfl (Nat.le_of_ble_eq_true rfl) (Nat.le_of_ble_eq_true rfl) rk_Mo_compare_Mo_realOf rfl (m_realOf (A := A) (r := c) hX (by omega) (by omega)) zz_0 ?_
    refine px_aload_n dx_Mo_compare_58 rfl ?_
    refine px_iload dx_Mo_compare_59 rfl ?_
    refine px_cV (Y := yy_Mo_compare) (Yc := yy_Mo_realOf) (b := 717) (As := [.int (nI (d))]) dx_Mo_compare_61 ml_Mo_322 mv_Mo_realOf np_Mo_realOf ⟨_, rfl⟩ (by decide) rfl (by decide) rfl (Nat.le_of_ble_eq_true rfl) (Nat.le_of_ble_eq_true rfl) rk_Mo_compare_Mo_realOf rfl (m_realOf (A := A) (r := d) hX (by omega) (by omega)) zz_0 ?_
    refine px_dcmp dx_Mo_compare_64 ?_
    refine px_if_ge dx_Mo_compare_65 (fun c_65 => ?_) (fun c_65 => ?_)
    · refine px_aload_n dx_Mo_compare_72 rfl ?_
      refine px_iload_n dx_Mo_compare_73 rfl ?_
      refine px_cV (Y := yy_Mo_compare) (Yc := yy_Mo_realOf) (b := 717) (As := [.int (nI (c))]) dx_Mo_compare_74 ml_Mo_322 mv_Mo_realOf np_Mo_realOf ⟨_, rfl⟩ (by decide) rfl (by decide) rfl (Nat.le_of_ble_eq_true rfl) (Nat.le_of_ble_eq_true rfl) rk_Mo_compare_Mo_realOf rfl (m_realOf (A := A) (r := c) hX (by omega) (by omega)) zz_0 ?_
      refine px_aload_n dx_Mo_compare_77 rfl ?_
      refine px_iload dx_Mo_compare_78 rfl ?_
      refine px_cV (Y := yy_Mo_compare) (Yc := yy_Mo_realOf) (b := 717) (As := [.int (nI (d))]) dx_Mo_compare_80 ml_Mo_322 mv_Mo_realOf np_Mo_realOf ⟨_, rfl⟩ (by decide) rfl (by decide) rfl (Nat.le_of_ble_eq_true rfl) (Nat.le_of_ble_eq_true rfl) rk_Mo_compare_Mo_realOf rfl (m_realOf (A := A) (r := d) hX (by omega) (by omega)) zz_0 ?_
      refine px_dcmp dx_Mo_compare_83 ?_
      refine px_if_ne dx_Mo_compare_84 (fun c_84 => ?_) (fun c_84 => ?_)
      · refine px_iconst (v := 1) dx_Mo_compare_91 rfl ?_
        refine px_istore (lv' := [(5, .int (1)), (0, .ref (717)), (1, .int (nI (op))), (2, .int (nI (to))), (3, .int (nI (c))), (4, .int (nI (d)))]) dx_Mo_compare_92 (by decide) rfl ?_
        refine px_aload_n dx_Mo_compare_94 rfl ?_
        refine px_iload_n dx_Mo_compare_95 rfl ?_
        refine px_iload dx_Mo_compare_96 rfl ?_
        refine px_i2l dx_Mo_compare_98 ?_
        refine px_cVR (Y := yy_Mo_compare) (Yc := yy_Mo_setWhole) (b := 717) (As := [.int (nI (to)), .long ((1 : Int32).toInt64)]) dx_Mo_compare_99 ml_Mo_318 mv_Mo_setWhole np_Mo_setWhole ⟨_, rfl⟩ (by decide) rfl (by decide) rfl (Nat.le_of_ble_eq_true rfl) (Nat.le_of_ble_eq_true rfl) rk_Mo_compare_Mo_setWhole rfl (m_setWhole (A := A) (r := to) (v := (1 : Int32).toInt64) hX (by omega) (by omega)) zz_0 (fun r_99 τ_99 h_99 => ?_)
        obtain ⟨rfl, hX⟩ := h_99
        obtain ⟨B_99, hB_99⟩ : ∃ X, X = stW A to ((1 : Int32).toInt64) := ⟨_, rfl⟩
        rw [← hB_99] at hX
        have hd_B_99 : B_99.1 1 0 = A.1 1 0 := by rw [hB_99]; exact rfl
        exact px_vret dx_Mo_compare_102 rfl (by (have e : stW A to (cmL op A c d).toInt64 = B_99 := by (unfold cmL; (first | rw [if_pos c_6] | rw [if_neg c_6]); (first | rw [if_neg (not_lt_ge c_65)] | rw [if_pos (ge_lt c_65)]); (first | rw [if_pos c_84] | rw [if_neg c_84]); subst hB_99; rfl)); exact hp0 _ _ ⟨rfl, by rw [e]; exact hX⟩)
      · refine px_iconst (v := 0) dx_Mo_compare_87 rfl ?_
        refine px_goto dx_Mo_compare_88 ?_
        refine px_istore (lv' := [(5, .int (0)), (0, .ref (717)), (1, .int (nI (op))), (2, .int (nI (to))), (3, .int (nI (c))), (4, .int (nI (d)))]) dx_Mo_compare_92 (by decide) rfl ?_
        refine px_aload_n dx_Mo_compare_94 rfl ?_
        refine px_iload_n dx_Mo_compare_95 rfl ?_
        refine px_iload dx_Mo_compare_96 rfl ?_
        refine px_i2l dx_Mo_compare_98 ?_
        refine px_cVR (Y := yy_Mo_compare) (Yc := yy_Mo_setWhole) (b := 717) (As := [.int (nI (to)), .long ((0 : Int32).toInt64)]) dx_Mo_compare_99 ml_Mo_318 mv_Mo_setWhole np_Mo_setWhole ⟨_, rfl⟩ (by decide) rfl (by decide) rfl (Nat.le_of_ble_eq_true rfl) (Nat.le_of_ble_eq_true rfl) rk_Mo_compare_Mo_setWhole rfl (m_setWhole (A := A) (r := to) (v := (0 : Int32).toInt64) hX (by omega) (by omega)) zz_0 (fun r_99 τ_99 h_99 => ?_)
        obtain ⟨rfl, hX⟩ := h_99
        obtain ⟨B_99, hB_99⟩ : ∃ X, X = stW A to ((0 : Int32).toInt64) := ⟨_, rfl⟩
        rw [← hB_99] at hX
        have hd_B_99 : B_99.1 1 0 = A.1 1 0 := by rw [hB_99]; exact rfl
        exact px_vret dx_Mo_compare_102 rfl (by (have e : stW A to (cmL op A c d).toInt64 = B_99 := by (unfold cmL; (first | rw [if_pos c_6] | rw [if_neg c_6]); (first | rw [if_neg (not_lt_ge c_65)] | rw [if_pos (ge_lt c_65)]); (first | rw [if_pos c_84] | rw [if_neg c_84]); subst hB_99; rfl)); exact hp0 _ _ ⟨rfl, by rw [e]; exact hX⟩)
    · refine px_iconst (v := -1) dx_Mo_compare_68 rfl ?_
      refine px_goto dx_Mo_compare_69 ?_
      refine px_istore (lv' := [(5, .int (-1)), (0, .ref (717)), (1, .int (nI (op))), (2, .int (nI (to))), (3, .int (nI (c))), (4, .int (nI (d)))]) dx_Mo_compare_92 (by decide) rfl ?_
      refine px_aload_n dx_Mo_compare_94 rfl ?_
      refine px_iload_n dx_Mo_compare_95 rfl ?_
      refine px_iload dx_Mo_compare_96 rfl ?_
      refine px_i2l dx_Mo_compare_98 ?_
      refine px_cVR (Y := yy_Mo_compare) (Yc := yy_Mo_setWhole) (b := 717) (As := [.int (nI (to)), .long ((-1 : Int32).toInt64)]) dx_Mo_compare_99 ml_Mo_318 mv_Mo_setWhole np_Mo_setWhole ⟨_, rfl⟩ (by decide) rfl (by decide) rfl (Nat.le_of_ble_eq_true rfl) (Nat.le_of_ble_eq_true rfl) rk_Mo_compare_Mo_setWhole rfl (m_setWhole (A := A) (r := to) (v := (-1 : Int32).toInt64) hX (by omega) (by omega)) zz_0 (fun r_99 τ_99 h_99 => ?_)
      obtain ⟨rfl, hX⟩ := h_99
      obtain ⟨B_99, hB_99⟩ : ∃ X, X = stW A to ((-1 : Int32).toInt64) := ⟨_, rfl⟩
      rw [← hB_99] at hX
      have hd_B_99 : B_99.1 1 0 = A.1 1 0 := by rw [hB_99]; exact rfl
      exact px_vret dx_Mo_compare_102 rfl (by (have e : stW A to (cmL op A c d).toInt64 = B_99 := by (unfold cmL; (first | rw [if_pos c_6] | rw [if_neg c_6]); (first | rw [if_neg (not_lt_ge c_65)] | rw [if_pos (ge_lt c_65)]); subst hB_99; rfl)); exact hp0 _ _ ⟨rfl, by rw [e]; exact hX⟩)
  · refine px_aload_n dx_Mo_compare_9 rfl ?_
    refine px_iload_n dx_Mo_compare_10 rfl ?_
    refine px_cV (Y := yy_Mo_compare) (Yc := yy_Mo_wholeOf) (b := 717) (As := [.int (nI (c))]) dx_Mo_compare_11 ml_Mo_315 mv_Mo_wholeOf np_Mo_wholeOf ⟨_, rfl⟩ (by decide) rfl (by decide) rfl (Nat.le_of_ble_eq_true rfl) (Nat.le_of_ble_eq_true rfl) rk_Mo_compare_Mo_wholeOf rfl (m_wholeOf (A := A) (r := c) hX (by omega) (by omega)) zz_0 ?_
    refine px_aload_n dx_Mo_compare_14 rfl ?_
    refine px_iload dx_Mo_compare_15 rfl ?_
    refine px_cV (Y := yy_Mo_compare) (Yc := yy_Mo_wholeOf) (b := 717) (As := [.int (nI (d))]) dx_Mo_compare_17 ml_Mo_315 mv_Mo_wholeOf np_Mo_wholeOf ⟨_, rfl⟩ (by decide) rfl (by decide) rfl (Nat.le_of_ble_eq_true rfl) (Nat.le_of_ble_eq_true rfl) rk_Mo_compare_Mo_wholeOf rfl (m_wholeOf (A := A) (r := d) hX (by omega) (by omega)) zz_0 ?_
    refine px_lcmp dx_Mo_compare_20 ?_
    refine px_if_ge dx_Mo_compare_21 (fun c_21 => ?_) (fun c_21 => ?_)
    · refine px_aload_n dx_Mo_compare_28 rfl ?_
      refine px_iload_n dx_Mo_compare_29 rfl ?_
      refine px_cV (Y := yy_Mo_compare) (Yc := yy_Mo_wholeOf) (b := 717) (As := [.int (nI (c))]) dx_Mo_compare_30 ml_Mo_315 mv_Mo_wholeOf np_Mo_wholeOf ⟨_, rfl⟩ (by decide) rfl (by decide) rfl (Nat.le_of_ble_eq_true rfl) (Nat.le_of_ble_eq_true rfl) rk_Mo_compare_Mo_wholeOf rfl (m_wholeOf (A := A) (r := c) hX (by omega) (by omega)) zz_0 ?_
      refine px_aload_n dx_Mo_compare_33 rfl ?_
      refine px_iload dx_Mo_compare_34 rfl ?_
      refine px_cV (Y := yy_Mo_compare) (Yc := yy_Mo_wholeOf) (b := 717) (As := [.int (nI (d))]) dx_Mo_compare_36 ml_Mo_315 mv_Mo_wholeOf np_Mo_wholeOf ⟨_, rfl⟩ (by decide) rfl (by decide) rfl (Nat.le_of_ble_eq_true rfl) (Nat.le_of_ble_eq_true rfl) rk_Mo_compare_Mo_wholeOf rfl (m_wholeOf (A := A) (r := d) hX (by omega) (by omega)) zz_0 ?_
      refine px_lcmp dx_Mo_compare_39 ?_
      refine px_if_ne dx_Mo_compare_40 (fun c_40 => ?_) (fun c_40 => ?_)
      · refine px_iconst (v := 1) dx_Mo_compare_47 rfl ?_
        refine px_istore (lv' := [(5, .int (1)), (0, .ref (717)), (1, .int (nI (op))), (2, .int (nI (to))), (3, .int (nI (c))), (4, .int (nI (d)))]) dx_Mo_compare_48 (by decide) rfl ?_
        refine px_goto dx_Mo_compare_50 ?_
        refine px_aload_n dx_Mo_compare_94 rfl ?_
        refine px_iload_n dx_Mo_compare_95 rfl ?_
        refine px_iload dx_Mo_compare_96 rfl ?_
        refine px_i2l dx_Mo_compare_98 ?_
        refine px_cVR (Y := yy_Mo_compare) (Yc := yy_Mo_setWhole) (b := 717) (As := [.int (nI (to)), .long ((1 : Int32).toInt64)]) dx_Mo_compare_99 ml_Mo_318 mv_Mo_setWhole np_Mo_setWhole ⟨_, rfl⟩ (by decide) rfl (by decide) rfl (Nat.le_of_ble_eq_true rfl) (Nat.le_of_ble_eq_true rfl) rk_Mo_compare_Mo_setWhole rfl (m_setWhole (A := A) (r := to) (v := (1 : Int32).toInt64) hX (by omega) (by omega)) zz_0 (fun r_99 τ_99 h_99 => ?_)
        obtain ⟨rfl, hX⟩ := h_99
        obtain ⟨B_99, hB_99⟩ : ∃ X, X = stW A to ((1 : Int32).toInt64) := ⟨_, rfl⟩
        rw [← hB_99] at hX
        have hd_B_99 : B_99.1 1 0 = A.1 1 0 := by rw [hB_99]; exact rfl
        exact px_vret dx_Mo_compare_102 rfl (by (have e : stW A to (cmL op A c d).toInt64 = B_99 := by (unfold cmL; (first | rw [if_pos c_6] | rw [if_neg c_6]); (first | rw [if_neg (not_lt_ge c_21)] | rw [if_pos (ge_lt c_21)]); (first | rw [if_pos c_40] | rw [if_neg c_40]); subst hB_99; rfl)); exact hp0 _ _ ⟨rfl, by rw [e]; exact hX⟩)
      · refine px_iconst (v := 0) dx_Mo_compare_43 rfl ?_
        refine px_goto dx_Mo_compare_44 ?_
        refine px_istore (lv' := [(5, .int (0)), (0, .ref (717)), (1, .int (nI (op))), (2, .int (nI (to))), (3, .int (nI (c))), (4, .int (nI (d)))]) dx_Mo_compare_48 (by decide) rfl ?_
        refine px_goto dx_Mo_compare_50 ?_
        refine px_aload_n dx_Mo_compare_94 rfl ?_
        refine px_iload_n dx_Mo_compare_95 rfl ?_
        refine px_iload dx_Mo_compare_96 rfl ?_
        refine px_i2l dx_Mo_compare_98 ?_
        refine px_cVR (Y := yy_Mo_compare) (Yc := yy_Mo_setWhole) (b := 717) (As := [.int (nI (to)), .long ((0 : Int32).toInt64)]) dx_Mo_compare_99 ml_Mo_318 mv_Mo_setWhole np_Mo_setWhole ⟨_, rfl⟩ (by decide) rfl (by decide) rfl (Nat.le_of_ble_eq_true rfl) (Nat.le_of_ble_eq_true rfl) rk_Mo_compare_Mo_setWhole rfl (m_setWhole (A := A) (r := to) (v := (0 : Int32).toInt64) hX (by omega) (by omega)) zz_0 (fun r_99 τ_99 h_99 => ?_)
        obtain ⟨rfl, hX⟩ := h_99
        obtain ⟨B_99, hB_99⟩ : ∃ X, X = stW A to ((0 : Int32).toInt64) := ⟨_, rfl⟩
        rw [← hB_99] at hX
        have hd_B_99 : B_99.1 1 0 = A.1 1 0 := by rw [hB_99]; exact rfl
        exact px_vret dx_Mo_compare_102 rfl (by (have e : stW A to (cmL op A c d).toInt64 = B_99 := by (unfold cmL; (first | rw [if_pos c_6] | rw [if_neg c_6]); (first | rw [if_neg (not_lt_ge c_21)] | rw [if_pos (ge_lt c_21)]); (first | rw [if_pos c_40] | rw [if_neg c_40]); subst hB_99; rfl)); exact hp0 _ _ ⟨rfl, by rw [e]; exact hX⟩)
    · refine px_iconst (v := -1) dx_Mo_compare_24 rfl ?_
      refine px_goto dx_Mo_compare_25 ?_
      refine px_istore (lv' := [(5, .int (-1)), (0, .ref (717)), (1, .int (nI (op))), (2, .int (nI (to))), (3, .int (nI (c))), (4, .int (nI (d)))]) dx_Mo_compare_48 (by decide) rfl ?_
      refine px_goto dx_Mo_compare_50 ?_
      refine px_aload_n dx_Mo_compare_94 rfl ?_
      refine px_iload_n dx_Mo_compare_95 rfl ?_
      refine px_iload dx_Mo_compare_96 rfl ?_
      refine px_i2l dx_Mo_compare_98 ?_
      refine px_cVR (Y := yy_Mo_compare) (Yc := yy_Mo_setWhole) (b := 717) (As := [.int (nI (to)), .long ((-1 : Int32).toInt64)]) dx_Mo_compare_99 ml_Mo_318 mv_Mo_setWhole np_Mo_setWhole ⟨_, rfl⟩ (by decide) rfl (by decide) rfl (Nat.le_of_ble_eq_true rfl) (Nat.le_of_ble_eq_true rfl) rk_Mo_compare_Mo_setWhole rfl (m_setWhole (A := A) (r := to) (v := (-1 : Int32).toInt64) hX (by omega) (by omega)) zz_0 (fun r_99 τ_99 h_99 => ?_)
      obtain ⟨rfl, hX⟩ := h_99
      obtain ⟨B_99, hB_99⟩ : ∃ X, X = stW A to ((-1 : Int32).toInt64) := ⟨_, rfl⟩
      rw [← hB_99] at hX
      have hd_B_99 : B_99.1 1 0 = A.1 1 0 := by rw [hB_99]; exact rfl
      exact px_vret dx_Mo_compare_102 rfl (by (have e : stW A to (cmL op A c d).toInt64 = B_99 := by (unfold cmL; (first | rw [if_pos c_6] | rw [if_neg c_6]); (first | rw [if_neg (not_lt_ge c_21)] | rw [if_pos (ge_lt c_21)]); subst hB_99; rfl)); exact hp0 _ _ ⟨rfl, by rw [e]; exact hX⟩)
/-- where an instruction that goes on goes -/
def goN (F : Nat → Nat → Nat) (A : VM) (m p : Nat) : Bool := decide ((opS (F 7 (40 * m + p))) = 40) || ((decide (50 ≤ (opS (F 7 (40 * m + p))) ∧ (opS (F 7 (40 * m + p))) ≤ 55) && hdO ((opS (F 7 (40 * m + p))) - 50) (gW A (opA (F 7 (40 * m + p)))).toInt32 (gW A (opB (F 7 (40 * m + p)))).toInt32) || (decide (56 ≤ (opS (F 7 (40 * m + p))) ∧ (opS (F 7 (40 * m + p))) ≤ 61) && hdO ((opS (F 7 (40 * m + p))) - 56) (gW A (opN (F 7 (40 * m + p)))).toInt32 0))
def nxN (F : Nat → Nat → Nat) (A : VM) (m p : Nat) : Nat := if goN F A m p = true then (tgO F m p).toNatClampNeg else p + szO (opS (F 7 (40 * m + p)))
/-- what an instruction does that stays in its method -/
def wkA (F : Nat → Nat → Nat) (A : VM) (m p : Nat) : VM :=
  if cvt (opS (F 7 (40 * m + p))) = true then cvA A (opS (F 7 (40 * m + p))) (opA (F 7 (40 * m + p))) (opB (F 7 (40 * m + p)))
  else if cps (opS (F 7 (40 * m + p))) = true then stW A (opN (F 7 (40 * m + p))) (cmL (opS (F 7 (40 * m + p))) A (opS (F 7 (40 * m + (p + 1)))) (opN (F 7 (40 * m + (p + 1))))).toInt64
  else smA F A m p (opS (F 7 (40 * m + p)))
def stA (F : Nat → Nat → Nat) (A : VM) (m p : Nat) : VM := wkA F (aI (if jns (opS (F 7 (40 * m + p))) = true then jnA A (opS (F 7 (40 * m + p))) (opN (F 7 (40 * m + p))) (opS (F 7 (40 * m + (p + 1)))) (opN (F 7 (40 * m + (p + 1)))) else A) 3 (A.1 1 0 - 1) (nxN F (if jns (opS (F 7 (40 * m + p))) = true then jnA A (opS (F 7 (40 * m + p))) (opN (F 7 (40 * m + p))) (opS (F 7 (40 * m + (p + 1)))) (opN (F 7 (40 * m + (p + 1)))) else A) m p)) m p
/-- one instruction: what stops it (0 nothing), and the machine behind it -/
def onA (F : Nat → Nat → Nat) (A : VM) (m p : Nat) : Nat × VM :=
  if (opS (F 7 (40 * m + p))) = 113 then (if A.1 1 0 = 6 then (4, A) else (0, calA F A m p))
  else if 14 ≤ (opS (F 7 (40 * m + p))) ∧ (opS (F 7 (40 * m + p))) ≤ 16 then (0, gvA A (F 2 m) (opN (F 7 (40 * m + p))))
  else if jns (opS (F 7 (40 * m + p))) = true ∧ dzA A (opS (F 7 (40 * m + p))) (opN (F 7 (40 * m + (p + 1)))) = true then (3, A)
  else (0, stA F A m p)
/-- the reals are small -/
def DA (A : VM) : Prop := ∀ k, k ≤ 60 → dB (A.2.2.1 k)
theorem DA.g {A : VM} (h : DA A) {r : Nat} (hr : r < 10) (h6 : A.1 1 0 ≤ 6) : dB (gE A r) := h _ (by unfold bs; omega)

theorem rg_ret {F : Nat → Nat → Nat} (hW : FW F) {m p : Nat} {bf : Option Nat} (hn : nmOK F m p = true) (hk : kOK F m p bf = true) (h1 : 14 ≤ (opS (F 7 (40 * m + p)))) (h2 : (opS (F 7 (40 * m + p))) ≤ 16) (h0 : ¬ F 2 m = 0) : opN (F 7 (40 * m + p)) < 10 := by
  have hk' := hk
  unfold kOK at hk
  rw [if_pos ⟨h1, h2⟩, if_neg h0] at hk
  simp only [decide_eq_true_eq] at hk
  have h : (opS (F 7 (40 * m + p))) ∈ [10, 11, 19, 22, 15, 16] := by
    simp only [List.mem_cons, List.not_mem_nil, or_false]
    split at hk <;> omega
  exact rg_10 hW hn h
theorem gW_I {A : VM} {a k v r : Nat} (h : a ≠ 1) : gW (aI A a k v) r = gW A r := by
  show A.2.1 (10 * ((aI A a k v).1 1 0 - 1) + r) = _
  rw [aI_n (Or.inl h.symm)]
  rfl
theorem DA.i {A : VM} {a k v : Nat} (h : DA A) : DA (aI A a k v) := h
theorem dB_up {f : Nat → UInt64} {j k : Nat} {v : UInt64} (h : dB (f j)) (hv : dB v) : dB (va_up f k v j) := by
  unfold va_up
  split
  · exact hv
  · exact h
theorem DA.e {A : VM} {r : Nat} {v : UInt64} (h : DA A) (hv : dB v) : DA (stE A r v) := fun k hk => dB_up (h k hk) hv
theorem DA.w {A : VM} {r : Nat} {v : Int64} (h : DA A) : DA (stW A r v) := h
theorem DA.jn {A : VM} {op to c d : Nat} (h : DA A) (h6 : A.1 1 0 ≤ 6) (hc : c < 10) (hd : d < 10) (hj : jns op = true) : DA (jnA A op to c d) := by
  have ho : (144 ≤ op ∧ op ≤ 159) ∨ (166 ≤ op ∧ op ≤ 169) ∨ (171 ≤ op ∧ op ≤ 174) := by (simp only [jns, Bool.or_eq_true, Bool.and_eq_true, decide_eq_true_eq] at hj; omega)
  unfold jnA
  split
  · exact h.w
  · rename_i h1
    split
    · exact h.w
    · rename_i h2
      split
      · rename_i h3
        exact h.e (f2d_dB (jF_fB (d2f_fB (h.g hc h6)) (d2f_fB (h.g hd h6)) (by have := jnO_f h3; omega)))
      · rename_i h3
        exact h.e (jD_dB (h.g hc h6) (h.g hd h6) (by have := jnO_d h1 h2 h3; omega))

theorem jnA_1 {A : VM} {op to c d : Nat} : (jnA A op to c d).1 = A.1 := by
  unfold jnA
  repeat' split
  all_goals rfl
theorem goN_br {F : Nat → Nat → Nat} {A : VM} {m p : Nat} (h : goN F A m p = true) : brs (opS (F 7 (40 * m + p))) = true := by
  simp only [goN, Bool.or_eq_true, Bool.and_eq_true, decide_eq_true_eq] at h
  simp only [brs, Bool.or_eq_true, Bool.and_eq_true, decide_eq_true_eq]
  omega

set_option maxRecDepth 100000 in
set_option maxHeartbeats 1000000 in
theorem m_one_t {l : Launch} {G : fr_G} {σ : fr_S} {F : Nat → Nat → Nat} {J : VM} {σ0 : fr_S} (hX : MX σ0 σ F J) {Bg : Nat → Bool} {bf : Option Nat} {m p : Nat} (hd : 1 ≤ J.1 1 0) (hm : m < F 0 0) (hpl : p < 40) (hfr : frmOK F Bg m p bf = true) (hDB : DA J) {g : Bool} (hg : goN F J m p = g) {Post : Option Value → fr_S → Prop} (hp0 : ∀ σ', MX σ0 σ' F (wkA F (aI J 3 (J.1 1 0 - 1) (nxN F J m p)) m p) → Post (some (.int 0)) σ') : PX l G yy_Mo_one rm_Mo_one (QR G false 742 0 0 Post) false 742 0 0 216 [(0, .ref (717)), (1, .int (nI (m))), (2, .int (nI (p))), (3, .int (nI (opS (F 7 (40 * m + p))))), (4, .int (nI (opN (F 7 (40 * m + p))))), (5, .int (nI (opA (F 7 (40 * m + p))))), (6, .int (nI (opB (F 7 (40 * m + p))))), (7, .int (b2i (g)))] [] σ := by
  have b6 := hX.2.2.2.2.1.2.1
  have hW := hX.2.2.1
  have h04 := hW.1
  have h64 := hW.2.2.2.2.2.2.1 m
  obtain ⟨hz, hzl, hnm, hko, hen, hbr⟩ := frm_p hfr
  have hs256 := opS_lt (F 7 (40 * m + p))
  have hs3 := szO_le (opS (F 7 (40 * m + p)))
  refine px_aload_n dx_Mo_one_216 rfl ?_
  refine px_getR (r := 737) dx_Mo_one_217 fl_Mo_74 rfl (by decide) rfl (hX.1 29) ?_
  refine px_aload_n dx_Mo_one_220 rfl ?_
  refine px_getI dx_Mo_one_221 fl_Mo_130 rfl (by decide) rfl ?_
  refine px_eqi (y := nI (J.1 1 0)) hX.2.2.2.1.2.1 ?_
  refine px_iconst (v := 1) dx_Mo_one_224 rfl ?_
  refine px_isubN (a := J.1 1 0) (b := 1) dx_Mo_one_225 (by omega) ?_
  refine px_iload dx_Mo_one_226 rfl ?_
  refine px_if_eqB dx_Mo_one_228 (fun c_228 => ?_) (fun c_228 => ?_)
  · have hgg := hg.trans c_228
    refine px_iload_n dx_Mo_one_240 rfl ?_
    refine px_iload_n dx_Mo_one_241 rfl ?_
    refine px_cS (Y := yy_Mo_one) (Yc := yy_Mo_sizeOf) (As := [.int (nI (opS (F 7 (40 * m + p))))]) dx_Mo_one_242 ml_Mo_221 ms_Mo_sizeOf np_Mo_sizeOf rfl (Nat.le_of_ble_eq_true rfl) (Nat.le_of_ble_eq_true rfl) rk_Mo_one_Mo_sizeOf rfl (m_sizeOf hs256) zz_0 ?_
    refine px_iaddN (a := p) (b := szO (opS (F 7 (40 * m + p)))) dx_Mo_one_245 ?_
    refine px_iastN (j := (J.1 1 0) - 1) dx_Mo_one_246 rfl (by decide) (by omega) ?_
    obtain ⟨A_246, hA_246⟩ : ∃ X, X = aI J 3 ((J.1 1 0) - 1) (p + (szO (opS (F 7 (40 * m + p))))) := ⟨_, rfl⟩
    have hX : MX _ (sI σ 737 ((J.1 1 0) - 1) (nI (p + (szO (opS (F 7 (40 * m + p))))))) F A_246 := hA_246 ▸ MX.fp hX (k := ((J.1 1 0) - 1)) (v := (p + (szO (opS (F 7 (40 * m + p)))))) (by omega)
    have hd_A_246 : A_246.1 1 0 = J.1 1 0 := by rw [hA_246]; exact (aI_n (Or.inl (by decide)))
    refine px_iload_n dx_Mo_one_247 rfl ?_
    refine px_cS (Y := yy_Mo_one) (Yc := yy_Mo_converts) (As := [.int (nI (opS (F 7 (40 * m + p))))]) dx_Mo_one_248 ml_Mo_163 ms_Mo_converts np_Mo_converts rfl (Nat.le_of_ble_eq_true rfl) (Nat.le_of_ble_eq_true rfl) rk_Mo_one_Mo_converts rfl (m_converts hs256) zz_0 ?_
    refine px_if_eqB dx_Mo_one_251 (fun c_251 => ?_) (fun c_251 => ?_)
    · refine px_iload_n dx_Mo_one_266 rfl ?_
      refine px_cS (Y := yy_Mo_one) (Yc := yy_Mo_compares) (As := [.int (nI (opS (F 7 (40 * m + p))))]) dx_Mo_one_267 ml_Mo_167 ms_Mo_compares np_Mo_compares rfl (Nat.le_of_ble_eq_true rfl) (Nat.le_of_ble_eq_true rfl) rk_Mo_one_Mo_compares rfl (m_compares hs256) zz_0 ?_
      refine px_if_eqB dx_Mo_one_270 (fun c_270 => ?_) (fun c_270 => ?_)
      · refine px_aload_n dx_Mo_one_295 rfl ?_
        refine px_iload_n dx_Mo_one_296 rfl ?_
        refine px_iload_n dx_Mo_one_297 rfl ?_
        refine px_iload_n dx_Mo_one_298 rfl ?_
        refine px_cVR (Y := yy_Mo_one) (Yc := yy_Mo_simple) (b := 717) (As := [.int (nI (opS (F 7 (40 * m + p)))), .int (nI (m)), .int (nI (p))]) dx_Mo_one_299 ml_Mo_369 mv_Mo_simple np_Mo_simple ⟨_, rfl⟩ (by decide) rfl (by decide) rfl (Nat.le_of_ble_eq_true rfl) (Nat.le_of_ble_eq_true rfl) rk_Mo_one_Mo_simple rfl (m_simple (A := A_246) hX (by omega) (m := m) (p := p) (by omega) hpl hnm) zz_0 (fun r_299 τ_299 h_299 => ?_)
        obtain ⟨rfl, hX⟩ := h_299
        obtain ⟨B_299, hB_299⟩ : ∃ X, X = smA F A_246 m p (opS (F 7 (40 * m + p))) := ⟨_, rfl⟩
        rw [← hB_299] at hX
        refine px_iconst (v := 0) dx_Mo_one_302 rfl ?_
        exact px_iret dx_Mo_one_303 rfl (by (have e : wkA F (aI J 3 (J.1 1 0 - 1) (nxN F J m p)) m p = B_299 := by (unfold nxN; rw [hgg]; (first | rw [if_pos rfl] | rw [if_neg (by decide)]); unfold wkA; (first | rw [if_pos c_251] | rw [if_neg (by rw [c_251]; decide)]); (first | rw [if_pos c_270] | rw [if_neg (by rw [c_270]; decide)]); subst hB_299; subst hA_246; rfl)); exact hp0 _ (by rw [e]; exact hX))
      · refine px_aload_n dx_Mo_one_273 rfl ?_
        refine px_iload_n dx_Mo_one_274 rfl ?_
        refine px_iload dx_Mo_one_275 rfl ?_
        refine px_aload_n dx_Mo_one_277 rfl ?_
        refine px_iload_n dx_Mo_one_278 rfl ?_
        refine px_iload_n dx_Mo_one_279 rfl ?_
        refine px_cV (Y := yy_Mo_one) (Yc := yy_Mo_regC) (b := 717) (As := [.int (nI (m)), .int (nI (p))]) dx_Mo_one_280 ml_Mo_205 mv_Mo_regC np_Mo_regC ⟨_, rfl⟩ (by decide) rfl (by decide) rfl (Nat.le_of_ble_eq_true rfl) (Nat.le_of_ble_eq_true rfl) rk_Mo_one_Mo_regC rfl (m_regC (w := (F 7 (40 * m + (p + 1)))) hX.1 (by omega) (hX.2.1.2.2.2.2.2.2.2 (40 * m + (p + 1)) (by omega)) (hX.2.2.1.2.2.2.2.2.2.2 _)) zz_0 ?_
        refine px_aload_n dx_Mo_one_283 rfl ?_
        refine px_iload_n dx_Mo_one_284 rfl ?_
        refine px_iload_n dx_Mo_one_285 rfl ?_
        refine px_cV (Y := yy_Mo_one) (Yc := yy_Mo_regD) (b := 717) (As := [.int (nI (m)), .int (nI (p))]) dx_Mo_one_286 ml_Mo_208 mv_Mo_regD np_Mo_regD ⟨_, rfl⟩ (by decide) rfl (by decide) rfl (Nat.le_of_ble_eq_true rfl) (Nat.le_of_ble_eq_true rfl) rk_Mo_one_Mo_regD rfl (m_regD (w := (F 7 (40 * m + (p + 1)))) hX.1 (by omega) (hX.2.1.2.2.2.2.2.2.2 (40 * m + (p + 1)) (by omega)) (hX.2.2.1.2.2.2.2.2.2.2 _)) zz_0 ?_
        refine px_cVR (Y := yy_Mo_one) (Yc := yy_Mo_compare) (b := 717) (As := [.int (nI (opS (F 7 (40 * m + p)))), .int (nI (opN (F 7 (40 * m + p)))), .int (nI (opS (F 7 (40 * m + (p + 1))))), .int (nI (opN (F 7 (40 * m + (p + 1)))))]) dx_Mo_one_289 ml_Mo_365 mv_Mo_compare np_Mo_compare ⟨_, rfl⟩ (by decide) rfl (by decide) rfl (Nat.le_of_ble_eq_true rfl) (Nat.le_of_ble_eq_true rfl) rk_Mo_one_Mo_compare rfl (m_compare (A := A_246) hX (by omega) (op := opS (F 7 (40 * m + p))) (to := opN (F 7 (40 * m + p))) (c := opS (F 7 (40 * m + (p + 1)))) (d := opN (F 7 (40 * m + (p + 1)))) (by omega) (rg_p hW hnm c_270).1 (rg_p hW hnm c_270).2.1 (rg_p hW hnm c_270).2.2) zz_0 (fun r_289 τ_289 h_289 => ?_)
        obtain ⟨rfl, hX⟩ := h_289
        obtain ⟨B_289, hB_289⟩ : ∃ X, X = stW A_246 (opN (F 7 (40 * m + p))) (cmL (opS (F 7 (40 * m + p))) A_246 (opS (F 7 (40 * m + (p + 1)))) (opN (F 7 (40 * m + (p + 1))))).toInt64 := ⟨_, rfl⟩
        rw [← hB_289] at hX
        refine px_goto dx_Mo_one_292 ?_
        refine px_iconst (v := 0) dx_Mo_one_302 rfl ?_
        exact px_iret dx_Mo_one_303 rfl (by (have e : wkA F (aI J 3 (J.1 1 0 - 1) (nxN F J m p)) m p = B_289 := by (unfold nxN; rw [hgg]; (first | rw [if_pos rfl] | rw [if_neg (by decide)]); unfold wkA; (first | rw [if_pos c_251] | rw [if_neg (by rw [c_251]; decide)]); (first | rw [if_pos c_270] | rw [if_neg (by rw [c_270]; decide)]); subst hB_289; subst hA_246; rfl)); exact hp0 _ (by rw [e]; exact hX))
    · refine px_aload_n dx_Mo_one_254 rfl ?_
      refine px_iload_n dx_Mo_one_255 rfl ?_
      refine px_iload dx_Mo_one_256 rfl ?_
      refine px_iload dx_Mo_one_258 rfl ?_
      refine px_cVR (Y := yy_Mo_one) (Yc := yy_Mo_convert) (b := 717) (As := [.int (nI (opS (F 7 (40 * m + p)))), .int (nI (opA (F 7 (40 * m + p)))), .int (nI (opB (F 7 (40 * m + p))))]) dx_Mo_one_260 ml_Mo_362 mv_Mo_convert np_Mo_convert ⟨_, rfl⟩ (by decide) rfl (by decide) rfl (Nat.le_of_ble_eq_true rfl) (Nat.le_of_ble_eq_true rfl) rk_Mo_one_Mo_convert rfl (m_convert (A := A_246) hX (by omega) (op := opS (F 7 (40 * m + p))) c_251 (a := opA (F 7 (40 * m + p))) (b := opB (F 7 (40 * m + p))) (rg_c hW hnm c_251).1 (rg_c hW hnm c_251).2 (DA.g (A := A_246) (by rw [hA_246]; exact hDB.i) (rg_c hW hnm c_251).2 (by omega))) zz_0 (fun r_260 τ_260 h_260 => ?_)
      obtain ⟨rfl, hX⟩ := h_260
      obtain ⟨B_260, hB_260⟩ : ∃ X, X = cvA A_246 (opS (F 7 (40 * m + p))) (opA (F 7 (40 * m + p))) (opB (F 7 (40 * m + p))) := ⟨_, rfl⟩
      rw [← hB_260] at hX
      refine px_goto dx_Mo_one_263 ?_
      refine px_iconst (v := 0) dx_Mo_one_302 rfl ?_
      exact px_iret dx_Mo_one_303 rfl (by (have e : wkA F (aI J 3 (J.1 1 0 - 1) (nxN F J m p)) m p = B_260 := by (unfold nxN; rw [hgg]; (first | rw [if_pos rfl] | rw [if_neg (by decide)]); unfold wkA; (first | rw [if_pos c_251] | rw [if_neg (by rw [c_251]; decide)]); subst hB_260; subst hA_246; rfl)); exact hp0 _ (by rw [e]; exact hX))
  · have hgg := hg.trans c_228
    have hbt := goN_br hgg
    have htl := (mgo_p (hbr.resolve_left (by rw [hbt]; decide))).1
    refine px_aload_n dx_Mo_one_231 rfl ?_
    refine px_iload_n dx_Mo_one_232 rfl ?_
    refine px_iload_n dx_Mo_one_233 rfl ?_
    refine px_cV (Y := yy_Mo_one) (Yc := yy_Mo_target) (b := 717) (As := [.int (nI (m)), .int (nI (p))]) dx_Mo_one_234 ml_Mo_240 mv_Mo_target np_Mo_target ⟨_, rfl⟩ (by decide) rfl (by decide) rfl (Nat.le_of_ble_eq_true rfl) (Nat.le_of_ble_eq_true rfl) rk_Mo_one_Mo_target rfl (m_targetN (Bg := Bg) hX.1 hX.2.1 hW (by omega) hpl (hbr.resolve_left (by rw [hbt]; decide))) zz_0 ?_
    refine px_goto dx_Mo_one_237 ?_
    refine px_iastN (j := (J.1 1 0) - 1) dx_Mo_one_246 rfl (by decide) (by omega) ?_
    obtain ⟨A_246, hA_246⟩ : ∃ X, X = aI J 3 ((J.1 1 0) - 1) ((tgO F m p).toNatClampNeg) := ⟨_, rfl⟩
    have hX : MX _ (sI σ 737 ((J.1 1 0) - 1) (nI ((tgO F m p).toNatClampNeg))) F A_246 := hA_246 ▸ MX.fp hX (k := ((J.1 1 0) - 1)) (v := ((tgO F m p).toNatClampNeg)) (by omega)
    have hd_A_246 : A_246.1 1 0 = J.1 1 0 := by rw [hA_246]; exact (aI_n (Or.inl (by decide)))
    refine px_iload_n dx_Mo_one_247 rfl ?_
    refine px_cS (Y := yy_Mo_one) (Yc := yy_Mo_converts) (As := [.int (nI (opS (F 7 (40 * m + p))))]) dx_Mo_one_248 ml_Mo_163 ms_Mo_converts np_Mo_converts rfl (Nat.le_of_ble_eq_true rfl) (Nat.le_of_ble_eq_true rfl) rk_Mo_one_Mo_converts rfl (m_converts hs256) zz_0 ?_
    refine px_if_eqB dx_Mo_one_251 (fun c_251 => ?_) (fun c_251 => ?_)
    · refine px_iload_n dx_Mo_one_266 rfl ?_
      refine px_cS (Y := yy_Mo_one) (Yc := yy_Mo_compares) (As := [.int (nI (opS (F 7 (40 * m + p))))]) dx_Mo_one_267 ml_Mo_167 ms_Mo_compares np_Mo_compares rfl (Nat.le_of_ble_eq_true rfl) (Nat.le_of_ble_eq_true rfl) rk_Mo_one_Mo_compares rfl (m_compares hs256) zz_0 ?_
      refine px_if_eqB dx_Mo_one_270 (fun c_270 => ?_) (fun c_270 => ?_)
      · refine px_aload_n dx_Mo_one_295 rfl ?_
        refine px_iload_n dx_Mo_one_296 rfl ?_
        refine px_iload_n dx_Mo_one_297 rfl ?_
        refine px_iload_n dx_Mo_one_298 rfl ?_
        refine px_cVR (Y := yy_Mo_one) (Yc := yy_Mo_simple) (b := 717) (As := [.int (nI (opS (F 7 (40 * m + p)))), .int (nI (m)), .int (nI (p))]) dx_Mo_one_299 ml_Mo_369 mv_Mo_simple np_Mo_simple ⟨_, rfl⟩ (by decide) rfl (by decide) rfl (Nat.le_of_ble_eq_true rfl) (Nat.le_of_ble_eq_true rfl) rk_Mo_one_Mo_simple rfl (m_simple (A := A_246) hX (by omega) (m := m) (p := p) (by omega) hpl hnm) zz_0 (fun r_299 τ_299 h_299 => ?_)
        obtain ⟨rfl, hX⟩ := h_299
        obtain ⟨B_299, hB_299⟩ : ∃ X, X = smA F A_246 m p (opS (F 7 (40 * m + p))) := ⟨_, rfl⟩
        rw [← hB_299] at hX
        refine px_iconst (v := 0) dx_Mo_one_302 rfl ?_
        exact px_iret dx_Mo_one_303 rfl (by (have e : wkA F (aI J 3 (J.1 1 0 - 1) (nxN F J m p)) m p = B_299 := by (unfold nxN; rw [hgg]; (first | rw [if_pos rfl] | rw [if_neg (by decide)]); unfold wkA; (first | rw [if_pos c_251] | rw [if_neg (by rw [c_251]; decide)]); (first | rw [if_pos c_270] | rw [if_neg (by rw [c_270]; decide)]); subst hB_299; subst hA_246; rfl)); exact hp0 _ (by rw [e]; exact hX))
      · refine px_aload_n dx_Mo_one_273 rfl ?_
        refine px_iload_n dx_Mo_one_274 rfl ?_
        refine px_iload dx_Mo_one_275 rfl ?_
        refine px_aload_n dx_Mo_one_277 rfl ?_
        refine px_iload_n dx_Mo_one_278 rfl ?_
        refine px_iload_n dx_Mo_one_279 rfl ?_
        refine px_cV (Y := yy_Mo_one) (Yc := yy_Mo_regC) (b := 717) (As := [.int (nI (m)), .int (nI (p))]) dx_Mo_one_280 ml_Mo_205 mv_Mo_regC np_Mo_regC ⟨_, rfl⟩ (by decide) rfl (by decide) rfl (Nat.le_of_ble_eq_true rfl) (Nat.le_of_ble_eq_true rfl) rk_Mo_one_Mo_regC rfl (m_regC (w := (F 7 (40 * m + (p + 1)))) hX.1 (by omega) (hX.2.1.2.2.2.2.2.2.2 (40 * m + (p + 1)) (by omega)) (hX.2.2.1.2.2.2.2.2.2.2 _)) zz_0 ?_
        refine px_aload_n dx_Mo_one_283 rfl ?_
        refine px_iload_n dx_Mo_one_284 rfl ?_
        refine px_iload_n dx_Mo_one_285 rfl ?_
        refine px_cV (Y := yy_Mo_one) (Yc := yy_Mo_regD) (b := 717) (As := [.int (nI (m)), .int (nI (p))]) dx_Mo_one_286 ml_Mo_208 mv_Mo_regD np_Mo_regD ⟨_, rfl⟩ (by decide) rfl (by decide) rfl (Nat.le_of_ble_eq_true rfl) (Nat.le_of_ble_eq_true rfl) rk_Mo_one_Mo_regD rfl (m_regD (w := (F 7 (40 * m + (p + 1)))) hX.1 (by omega) (hX.2.1.2.2.2.2.2.2.2 (40 * m + (p + 1)) (by omega)) (hX.2.2.1.2.2.2.2.2.2.2 _)) zz_0 ?_
        refine px_cVR (Y := yy_Mo_one) (Yc := yy_Mo_compare) (b := 717) (As := [.int (nI (opS (F 7 (40 * m + p)))), .int (nI (opN (F 7 (40 * m + p)))), .int (nI (opS (F 7 (40 * m + (p + 1))))), .int (nI (opN (F 7 (40 * m + (p + 1)))))]) dx_Mo_one_289 ml_Mo_365 mv_Mo_compare np_Mo_compare ⟨_, rfl⟩ (by decide) rfl (by decide) rfl (Nat.le_of_ble_eq_true rfl) (Nat.le_of_ble_eq_true rfl) rk_Mo_one_Mo_compare rfl (m_compare (A := A_246) hX (by omega) (op := opS (F 7 (40 * m + p))) (to := opN (F 7 (40 * m + p))) (c := opS (F 7 (40 * m + (p + 1)))) (d := opN (F 7 (40 * m + (p + 1)))) (by omega) (rg_p hW hnm c_270).1 (rg_p hW hnm c_270).2.1 (rg_p hW hnm c_270).2.2) zz_0 (fun r_289 τ_289 h_289 => ?_)
        obtain ⟨rfl, hX⟩ := h_289
        obtain ⟨B_289, hB_289⟩ : ∃ X, X = stW A_246 (opN (F 7 (40 * m + p))) (cmL (opS (F 7 (40 * m + p))) A_246 (opS (F 7 (40 * m + (p + 1)))) (opN (F 7 (40 * m + (p + 1))))).toInt64 := ⟨_, rfl⟩
        rw [← hB_289] at hX
        refine px_goto dx_Mo_one_292 ?_
        refine px_iconst (v := 0) dx_Mo_one_302 rfl ?_
        exact px_iret dx_Mo_one_303 rfl (by (have e : wkA F (aI J 3 (J.1 1 0 - 1) (nxN F J m p)) m p = B_289 := by (unfold nxN; rw [hgg]; (first | rw [if_pos rfl] | rw [if_neg (by decide)]); unfold wkA; (first | rw [if_pos c_251] | rw [if_neg (by rw [c_251]; decide)]); (first | rw [if_pos c_270] | rw [if_neg (by rw [c_270]; decide)]); subst hB_289; subst hA_246; rfl)); exact hp0 _ (by rw [e]; exact hX))
    · refine px_aload_n dx_Mo_one_254 rfl ?_
      refine px_iload_n dx_Mo_one_255 rfl ?_
      refine px_iload dx_Mo_one_256 rfl ?_
      refine px_iload dx_Mo_one_258 rfl ?_
      refine px_cVR (Y := yy_Mo_one) (Yc := yy_Mo_convert) (b := 717) (As := [.int (nI (opS (F 7 (40 * m + p)))), .int (nI (opA (F 7 (40 * m + p)))), .int (nI (opB (F 7 (40 * m + p))))]) dx_Mo_one_260 ml_Mo_362 mv_Mo_convert np_Mo_convert ⟨_, rfl⟩ (by decide) rfl (by decide) rfl (Nat.le_of_ble_eq_true rfl) (Nat.le_of_ble_eq_true rfl) rk_Mo_one_Mo_convert rfl (m_convert (A := A_246) hX (by omega) (op := opS (F 7 (40 * m + p))) c_251 (a := opA (F 7 (40 * m + p))) (b := opB (F 7 (40 * m + p))) (rg_c hW hnm c_251).1 (rg_c hW hnm c_251).2 (DA.g (A := A_246) (by rw [hA_246]; exact hDB.i) (rg_c hW hnm c_251).2 (by omega))) zz_0 (fun r_260 τ_260 h_260 => ?_)
      obtain ⟨rfl, hX⟩ := h_260
      obtain ⟨B_260, hB_260⟩ : ∃ X, X = cvA A_246 (opS (F 7 (40 * m + p))) (opA (F 7 (40 * m + p))) (opB (F 7 (40 * m + p))) := ⟨_, rfl⟩
      rw [← hB_260] at hX
      refine px_goto dx_Mo_one_263 ?_
      refine px_iconst (v := 0) dx_Mo_one_302 rfl ?_
      exact px_iret dx_Mo_one_303 rfl (by (have e : wkA F (aI J 3 (J.1 1 0 - 1) (nxN F J m p)) m p = B_260 := by (unfold nxN; rw [hgg]; (first | rw [if_pos rfl] | rw [if_neg (by decide)]); unfold wkA; (first | rw [if_pos c_251] | rw [if_neg (by rw [c_251]; decide)]); subst hB_260; subst hA_246; rfl)); exact hp0 _ (by rw [e]; exact hX))
set_option maxRecDepth 100000 in
set_option maxHeartbeats 1000000 in
theorem m_one_g {l : Launch} {G : fr_G} {σ : fr_S} {F : Nat → Nat → Nat} {J : VM} {σ0 : fr_S} (hX : MX σ0 σ F J) {Bg : Nat → Bool} {bf : Option Nat} {m p : Nat} (hd : 1 ≤ J.1 1 0) (hm : m < F 0 0) (hpl : p < 40) (hfr : frmOK F Bg m p bf = true) (hDB : DA J) {Post : Option Value → fr_S → Prop} (hp0 : ∀ σ', MX σ0 σ' F (wkA F (aI J 3 (J.1 1 0 - 1) (nxN F J m p)) m p) → Post (some (.int 0)) σ') : PX l G yy_Mo_one rm_Mo_one (QR G false 742 0 0 Post) false 742 0 0 137 [(0, .ref (717)), (1, .int (nI (m))), (2, .int (nI (p))), (3, .int (nI (opS (F 7 (40 * m + p))))), (4, .int (nI (opN (F 7 (40 * m + p))))), (5, .int (nI (opA (F 7 (40 * m + p))))), (6, .int (nI (opB (F 7 (40 * m + p)))))] [] σ := by
  have b6 := hX.2.2.2.2.1.2.1
  have hW := hX.2.2.1
  have h04 := hW.1
  have h64 := hW.2.2.2.2.2.2.1 m
  obtain ⟨hz, hzl, hnm, hko, hen, hbr⟩ := frm_p hfr
  have hs256 := opS_lt (F 7 (40 * m + p))
  have hs3 := szO_le (opS (F 7 (40 * m + p)))
  refine px_iload_n dx_Mo_one_137 rfl ?_
  refine px_bipush (v := 40) dx_Mo_one_138 rfl ?_
  refine px_icmp_eqN (a := opS (F 7 (40 * m + p))) (b := 40) dx_Mo_one_140 (by omega) (by omega) (fun c_140 => ?_) (fun c_140 => ?_)
  · refine px_iconst (v := 1) dx_Mo_one_209 rfl ?_
    refine px_goto dx_Mo_one_210 ?_
    refine px_istore (lv' := [(7, .int (1)), (0, .ref (717)), (1, .int (nI (m))), (2, .int (nI (p))), (3, .int (nI (opS (F 7 (40 * m + p))))), (4, .int (nI (opN (F 7 (40 * m + p))))), (5, .int (nI (opA (F 7 (40 * m + p))))), (6, .int (nI (opB (F 7 (40 * m + p)))))]) dx_Mo_one_214 (by decide) rfl ?_
    have hg : goN F J m p = true := by (unfold goN; rw [decide_eq_true c_140]; rfl)
    refine px_sub [1, 2, 3, 4, 5, 6, 7, 0] rfl ?_
    exact m_one_t (σ := σ) (g := true) hX hd hm hpl hfr hDB hg hp0
  · refine px_iload_n dx_Mo_one_143 rfl ?_
    refine px_bipush (v := 50) dx_Mo_one_144 rfl ?_
    refine px_icmp_ltN (a := opS (F 7 (40 * m + p))) (b := 50) dx_Mo_one_146 (by omega) (by omega) (fun c_146 => ?_) (fun c_146 => ?_)
    · refine px_iload_n dx_Mo_one_179 rfl ?_
      refine px_bipush (v := 56) dx_Mo_one_180 rfl ?_
      refine px_icmp_ltN (a := opS (F 7 (40 * m + p))) (b := 56) dx_Mo_one_182 (by omega) (by omega) (fun c_182 => ?_) (fun c_182 => ?_)
      · refine px_iconst (v := 0) dx_Mo_one_213 rfl ?_
        refine px_istore (lv' := [(7, .int (0)), (0, .ref (717)), (1, .int (nI (m))), (2, .int (nI (p))), (3, .int (nI (opS (F 7 (40 * m + p))))), (4, .int (nI (opN (F 7 (40 * m + p))))), (5, .int (nI (opA (F 7 (40 * m + p))))), (6, .int (nI (opB (F 7 (40 * m + p)))))]) dx_Mo_one_214 (by decide) rfl ?_
        have hg : goN F J m p = false := by (unfold goN; rw [decide_eq_false c_140, Bool.false_or]; rw [decide_eq_false (by omega), Bool.false_and, Bool.false_or]; rw [decide_eq_false (by omega), Bool.false_and])
        refine px_sub [1, 2, 3, 4, 5, 6, 7, 0] rfl ?_
        exact m_one_t (σ := σ) (g := false) hX hd hm hpl hfr hDB hg hp0
      · refine px_iload_n dx_Mo_one_185 rfl ?_
        refine px_bipush (v := 61) dx_Mo_one_186 rfl ?_
        refine px_icmp_gtN (a := opS (F 7 (40 * m + p))) (b := 61) dx_Mo_one_188 (by omega) (by omega) (fun c_188 => ?_) (fun c_188 => ?_)
        · refine px_iconst (v := 0) dx_Mo_one_213 rfl ?_
          refine px_istore (lv' := [(7, .int (0)), (0, .ref (717)), (1, .int (nI (m))), (2, .int (nI (p))), (3, .int (nI (opS (F 7 (40 * m + p))))), (4, .int (nI (opN (F 7 (40 * m + p))))), (5, .int (nI (opA (F 7 (40 * m + p))))), (6, .int (nI (opB (F 7 (40 * m + p)))))]) dx_Mo_one_214 (by decide) rfl ?_
          have hg : goN F J m p = false := by (unfold goN; rw [decide_eq_false c_140, Bool.false_or]; rw [decide_eq_false (by omega), Bool.false_and, Bool.false_or]; rw [decide_eq_false (by omega), Bool.false_and])
          refine px_sub [1, 2, 3, 4, 5, 6, 7, 0] rfl ?_
          exact m_one_t (σ := σ) (g := false) hX hd hm hpl hfr hDB hg hp0
        · refine px_iload_n dx_Mo_one_191 rfl ?_
          refine px_bipush (v := 56) dx_Mo_one_192 rfl ?_
          refine px_isubN (a := opS (F 7 (40 * m + p))) (b := 56) dx_Mo_one_194 (by omega) ?_
          refine px_aload_n dx_Mo_one_195 rfl ?_
          refine px_iload dx_Mo_one_196 rfl ?_
          refine px_cV (Y := yy_Mo_one) (Yc := yy_Mo_wholeOf) (b := 717) (As := [.int (nI (opN (F 7 (40 * m + p))))]) dx_Mo_one_198 ml_Mo_315 mv_Mo_wholeOf np_Mo_wholeOf ⟨_, rfl⟩ (by decide) rfl (by decide) rfl (Nat.le_of_ble_eq_true rfl) (Nat.le_of_ble_eq_true rfl) rk_Mo_one_Mo_wholeOf rfl (m_wholeOf (A := J) (r := opN (F 7 (40 * m + p))) hX (by omega) (by first | (have := rg_50 hW hnm ⟨by omega, by omega⟩; omega) | (have := rg_56 hW hnm ⟨by omega, by omega⟩; omega))) zz_0 ?_
          refine px_l2i dx_Mo_one_201 ?_
          refine px_iconst (v := 0) dx_Mo_one_202 rfl ?_
          refine px_cS (Y := yy_Mo_one) (Yc := yy_Mo_holds) (As := [.int (nI ((opS (F 7 (40 * m + p))) - 56)), .int ((gW J (opN (F 7 (40 * m + p)))).toInt32), .int (0)]) dx_Mo_one_203 ml_Mo_359 ms_Mo_holds np_Mo_holds rfl (Nat.le_of_ble_eq_true rfl) (Nat.le_of_ble_eq_true rfl) rk_Mo_one_Mo_holds rfl (m_holds (how := (opS (F 7 (40 * m + p))) - 56) (by omega)) zz_0 ?_
          refine px_if_eqB dx_Mo_one_206 (fun c_206 => ?_) (fun c_206 => ?_)
          · refine px_iconst (v := 0) dx_Mo_one_213 rfl ?_
            refine px_istore (lv' := [(7, .int (0)), (0, .ref (717)), (1, .int (nI (m))), (2, .int (nI (p))), (3, .int (nI (opS (F 7 (40 * m + p))))), (4, .int (nI (opN (F 7 (40 * m + p))))), (5, .int (nI (opA (F 7 (40 * m + p))))), (6, .int (nI (opB (F 7 (40 * m + p)))))]) dx_Mo_one_214 (by decide) rfl ?_
            have hg : goN F J m p = false := by (unfold goN; rw [decide_eq_false c_140, Bool.false_or]; rw [decide_eq_false (by omega), Bool.false_and, Bool.false_or]; rw [decide_eq_true ⟨c_182, c_188⟩, Bool.true_and, c_206])
            refine px_sub [1, 2, 3, 4, 5, 6, 7, 0] rfl ?_
            exact m_one_t (σ := σ) (g := false) hX hd hm hpl hfr hDB hg hp0
          · refine px_iconst (v := 1) dx_Mo_one_209 rfl ?_
            refine px_goto dx_Mo_one_210 ?_
            refine px_istore (lv' := [(7, .int (1)), (0, .ref (717)), (1, .int (nI (m))), (2, .int (nI (p))), (3, .int (nI (opS (F 7 (40 * m + p))))), (4, .int (nI (opN (F 7 (40 * m + p))))), (5, .int (nI (opA (F 7 (40 * m + p))))), (6, .int (nI (opB (F 7 (40 * m + p)))))]) dx_Mo_one_214 (by decide) rfl ?_
            have hg : goN F J m p = true := by (unfold goN; rw [decide_eq_false c_140, Bool.false_or]; rw [decide_eq_false (by omega), Bool.false_and, Bool.false_or]; rw [decide_eq_true ⟨c_182, c_188⟩, Bool.true_and, c_206])
            refine px_sub [1, 2, 3, 4, 5, 6, 7, 0] rfl ?_
            exact m_one_t (σ := σ) (g := true) hX hd hm hpl hfr hDB hg hp0
    · refine px_iload_n dx_Mo_one_149 rfl ?_
      refine px_bipush (v := 55) dx_Mo_one_150 rfl ?_
      refine px_icmp_gtN (a := opS (F 7 (40 * m + p))) (b := 55) dx_Mo_one_152 (by omega) (by omega) (fun c_152 => ?_) (fun c_152 => ?_)
      · refine px_iload_n dx_Mo_one_179 rfl ?_
        refine px_bipush (v := 56) dx_Mo_one_180 rfl ?_
        refine px_icmp_ltN (a := opS (F 7 (40 * m + p))) (b := 56) dx_Mo_one_182 (by omega) (by omega) (fun c_182 => ?_) (fun c_182 => ?_)
        · refine px_iconst (v := 0) dx_Mo_one_213 rfl ?_
          refine px_istore (lv' := [(7, .int (0)), (0, .ref (717)), (1, .int (nI (m))), (2, .int (nI (p))), (3, .int (nI (opS (F 7 (40 * m + p))))), (4, .int (nI (opN (F 7 (40 * m + p))))), (5, .int (nI (opA (F 7 (40 * m + p))))), (6, .int (nI (opB (F 7 (40 * m + p)))))]) dx_Mo_one_214 (by decide) rfl ?_
          have hg : goN F J m p = false := by (unfold goN; rw [decide_eq_false c_140, Bool.false_or]; rw [decide_eq_false (by omega), Bool.false_and, Bool.false_or]; rw [decide_eq_false (by omega), Bool.false_and])
          refine px_sub [1, 2, 3, 4, 5, 6, 7, 0] rfl ?_
          exact m_one_t (σ := σ) (g := false) hX hd hm hpl hfr hDB hg hp0
        · refine px_iload_n dx_Mo_one_185 rfl ?_
          refine px_bipush (v := 61) dx_Mo_one_186 rfl ?_
          refine px_icmp_gtN (a := opS (F 7 (40 * m + p))) (b := 61) dx_Mo_one_188 (by omega) (by omega) (fun c_188 => ?_) (fun c_188 => ?_)
          · refine px_iconst (v := 0) dx_Mo_one_213 rfl ?_
            refine px_istore (lv' := [(7, .int (0)), (0, .ref (717)), (1, .int (nI (m))), (2, .int (nI (p))), (3, .int (nI (opS (F 7 (40 * m + p))))), (4, .int (nI (opN (F 7 (40 * m + p))))), (5, .int (nI (opA (F 7 (40 * m + p))))), (6, .int (nI (opB (F 7 (40 * m + p)))))]) dx_Mo_one_214 (by decide) rfl ?_
            have hg : goN F J m p = false := by (unfold goN; rw [decide_eq_false c_140, Bool.false_or]; rw [decide_eq_false (by omega), Bool.false_and, Bool.false_or]; rw [decide_eq_false (by omega), Bool.false_and])
            refine px_sub [1, 2, 3, 4, 5, 6, 7, 0] rfl ?_
            exact m_one_t (σ := σ) (g := false) hX hd hm hpl hfr hDB hg hp0
          · refine px_iload_n dx_Mo_one_191 rfl ?_
            refine px_bipush (v := 56) dx_Mo_one_192 rfl ?_
            refine px_isubN (a := opS (F 7 (40 * m + p))) (b := 56) dx_Mo_one_194 (by omega) ?_
            refine px_aload_n dx_Mo_one_195 rfl ?_
            refine px_iload dx_Mo_one_196 rfl ?_
            refine px_cV (Y := yy_Mo_one) (Yc := yy_Mo_wholeOf) (b := 717) (As := [.int (nI (opN (F 7 (40 * m + p))))]) dx_Mo_one_198 ml_Mo_315 mv_Mo_wholeOf np_Mo_wholeOf ⟨_, rfl⟩ (by decide) rfl (by decide) rfl (Nat.le_of_ble_eq_true rfl) (Nat.le_of_ble_eq_true rfl) rk_Mo_one_Mo_wholeOf rfl (m_wholeOf (A := J) (r := opN (F 7 (40 * m + p))) hX (by omega) (by first | (have := rg_50 hW hnm ⟨by omega, by omega⟩; omega) | (have := rg_56 hW hnm ⟨by omega, by omega⟩; omega))) zz_0 ?_
            refine px_l2i dx_Mo_one_201 ?_
            refine px_iconst (v := 0) dx_Mo_one_202 rfl ?_
            refine px_cS (Y := yy_Mo_one) (Yc := yy_Mo_holds) (As := [.int (nI ((opS (F 7 (40 * m + p))) - 56)), .int ((gW J (opN (F 7 (40 * m + p)))).toInt32), .int (0)]) dx_Mo_one_203 ml_Mo_359 ms_Mo_holds np_Mo_holds rfl (Nat.le_of_ble_eq_true rfl) (Nat.le_of_ble_eq_true rfl) rk_Mo_one_Mo_holds rfl (m_holds (how := (opS (F 7 (40 * m + p))) - 56) (by omega)) zz_0 ?_
            refine px_if_eqB dx_Mo_one_206 (fun c_206 => ?_) (fun c_206 => ?_)
            · refine px_iconst (v := 0) dx_Mo_one_213 rfl ?_
              refine px_istore (lv' := [(7, .int (0)), (0, .ref (717)), (1, .int (nI (m))), (2, .int (nI (p))), (3, .int (nI (opS (F 7 (40 * m + p))))), (4, .int (nI (opN (F 7 (40 * m + p))))), (5, .int (nI (opA (F 7 (40 * m + p))))), (6, .int (nI (opB (F 7 (40 * m + p)))))]) dx_Mo_one_214 (by decide) rfl ?_
              have hg : goN F J m p = false := by (unfold goN; rw [decide_eq_false c_140, Bool.false_or]; rw [decide_eq_false (by omega), Bool.false_and, Bool.false_or]; rw [decide_eq_true ⟨c_182, c_188⟩, Bool.true_and, c_206])
              refine px_sub [1, 2, 3, 4, 5, 6, 7, 0] rfl ?_
              exact m_one_t (σ := σ) (g := false) hX hd hm hpl hfr hDB hg hp0
            · refine px_iconst (v := 1) dx_Mo_one_209 rfl ?_
              refine px_goto dx_Mo_one_210 ?_
              refine px_istore (lv' := [(7, .int (1)), (0, .ref (717)), (1, .int (nI (m))), (2, .int (nI (p))), (3, .int (nI (opS (F 7 (40 * m + p))))), (4, .int (nI (opN (F 7 (40 * m + p))))), (5, .int (nI (opA (F 7 (40 * m + p))))), (6, .int (nI (opB (F 7 (40 * m + p)))))]) dx_Mo_one_214 (by decide) rfl ?_
              have hg : goN F J m p = true := by (unfold goN; rw [decide_eq_false c_140, Bool.false_or]; rw [decide_eq_false (by omega), Bool.false_and, Bool.false_or]; rw [decide_eq_true ⟨c_182, c_188⟩, Bool.true_and, c_206])
              refine px_sub [1, 2, 3, 4, 5, 6, 7, 0] rfl ?_
              exact m_one_t (σ := σ) (g := true) hX hd hm hpl hfr hDB hg hp0
      · refine px_iload_n dx_Mo_one_155 rfl ?_
        refine px_bipush (v := 50) dx_Mo_one_156 rfl ?_
        refine px_isubN (a := opS (F 7 (40 * m + p))) (b := 50) dx_Mo_one_158 (by omega) ?_
        refine px_aload_n dx_Mo_one_159 rfl ?_
        refine px_iload dx_Mo_one_160 rfl ?_
        refine px_cV (Y := yy_Mo_one) (Yc := yy_Mo_wholeOf) (b := 717) (As := [.int (nI (opA (F 7 (40 * m + p))))]) dx_Mo_one_162 ml_Mo_315 mv_Mo_wholeOf np_Mo_wholeOf ⟨_, rfl⟩ (by decide) rfl (by decide) rfl (Nat.le_of_ble_eq_true rfl) (Nat.le_of_ble_eq_true rfl) rk_Mo_one_Mo_wholeOf rfl (m_wholeOf (A := J) (r := opA (F 7 (40 * m + p))) hX (by omega) (by first | (have := rg_50 hW hnm ⟨by omega, by omega⟩; omega) | (have := rg_56 hW hnm ⟨by omega, by omega⟩; omega))) zz_0 ?_
        refine px_l2i dx_Mo_one_165 ?_
        refine px_aload_n dx_Mo_one_166 rfl ?_
        refine px_iload dx_Mo_one_167 rfl ?_
        refine px_cV (Y := yy_Mo_one) (Yc := yy_Mo_wholeOf) (b := 717) (As := [.int (nI (opB (F 7 (40 * m + p))))]) dx_Mo_one_169 ml_Mo_315 mv_Mo_wholeOf np_Mo_wholeOf ⟨_, rfl⟩ (by decide) rfl (by decide) rfl (Nat.le_of_ble_eq_true rfl) (Nat.le_of_ble_eq_true rfl) rk_Mo_one_Mo_wholeOf rfl (m_wholeOf (A := J) (r := opB (F 7 (40 * m + p))) hX (by omega) (by first | (have := rg_50 hW hnm ⟨by omega, by omega⟩; omega) | (have := rg_56 hW hnm ⟨by omega, by omega⟩; omega))) zz_0 ?_
        refine px_l2i dx_Mo_one_172 ?_
        refine px_cS (Y := yy_Mo_one) (Yc := yy_Mo_holds) (As := [.int (nI ((opS (F 7 (40 * m + p))) - 50)), .int ((gW J (opA (F 7 (40 * m + p)))).toInt32), .int ((gW J (opB (F 7 (40 * m + p)))).toInt32)]) dx_Mo_one_173 ml_Mo_359 ms_Mo_holds np_Mo_holds rfl (Nat.le_of_ble_eq_true rfl) (Nat.le_of_ble_eq_true rfl) rk_Mo_one_Mo_holds rfl (m_holds (how := (opS (F 7 (40 * m + p))) - 50) (by omega)) zz_0 ?_
        refine px_if_neB dx_Mo_one_176 (fun c_176 => ?_) (fun c_176 => ?_)
        · refine px_iconst (v := 1) dx_Mo_one_209 rfl ?_
          refine px_goto dx_Mo_one_210 ?_
          refine px_istore (lv' := [(7, .int (1)), (0, .ref (717)), (1, .int (nI (m))), (2, .int (nI (p))), (3, .int (nI (opS (F 7 (40 * m + p))))), (4, .int (nI (opN (F 7 (40 * m + p))))), (5, .int (nI (opA (F 7 (40 * m + p))))), (6, .int (nI (opB (F 7 (40 * m + p)))))]) dx_Mo_one_214 (by decide) rfl ?_
          have hg : goN F J m p = true := by (unfold goN; rw [decide_eq_false c_140, Bool.false_or]; rw [decide_eq_true ⟨c_146, c_152⟩, Bool.true_and, c_176]; rfl)
          refine px_sub [1, 2, 3, 4, 5, 6, 7, 0] rfl ?_
          exact m_one_t (σ := σ) (g := true) hX hd hm hpl hfr hDB hg hp0
        · refine px_iload_n dx_Mo_one_179 rfl ?_
          refine px_bipush (v := 56) dx_Mo_one_180 rfl ?_
          refine px_icmp_ltN (a := opS (F 7 (40 * m + p))) (b := 56) dx_Mo_one_182 (by omega) (by omega) (fun c_182 => ?_) (fun c_182 => ?_)
          · refine px_iconst (v := 0) dx_Mo_one_213 rfl ?_
            refine px_istore (lv' := [(7, .int (0)), (0, .ref (717)), (1, .int (nI (m))), (2, .int (nI (p))), (3, .int (nI (opS (F 7 (40 * m + p))))), (4, .int (nI (opN (F 7 (40 * m + p))))), (5, .int (nI (opA (F 7 (40 * m + p))))), (6, .int (nI (opB (F 7 (40 * m + p)))))]) dx_Mo_one_214 (by decide) rfl ?_
            have hg : goN F J m p = false := by (unfold goN; rw [decide_eq_false c_140, Bool.false_or]; rw [decide_eq_true ⟨c_146, c_152⟩, Bool.true_and, c_176]; rw [Bool.false_or]; rw [decide_eq_false (by omega), Bool.false_and])
            refine px_sub [1, 2, 3, 4, 5, 6, 7, 0] rfl ?_
            exact m_one_t (σ := σ) (g := false) hX hd hm hpl hfr hDB hg hp0
          · refine px_iload_n dx_Mo_one_185 rfl ?_
            refine px_bipush (v := 61) dx_Mo_one_186 rfl ?_
            refine px_icmp_gtN (a := opS (F 7 (40 * m + p))) (b := 61) dx_Mo_one_188 (by omega) (by omega) (fun c_188 => ?_) (fun c_188 => ?_)
            · refine px_iconst (v := 0) dx_Mo_one_213 rfl ?_
              refine px_istore (lv' := [(7, .int (0)), (0, .ref (717)), (1, .int (nI (m))), (2, .int (nI (p))), (3, .int (nI (opS (F 7 (40 * m + p))))), (4, .int (nI (opN (F 7 (40 * m + p))))), (5, .int (nI (opA (F 7 (40 * m + p))))), (6, .int (nI (opB (F 7 (40 * m + p)))))]) dx_Mo_one_214 (by decide) rfl ?_
              have hg : goN F J m p = false := by (unfold goN; rw [decide_eq_false c_140, Bool.false_or]; rw [decide_eq_true ⟨c_146, c_152⟩, Bool.true_and, c_176]; rw [Bool.false_or]; rw [decide_eq_false (by omega), Bool.false_and])
              refine px_sub [1, 2, 3, 4, 5, 6, 7, 0] rfl ?_
              exact m_one_t (σ := σ) (g := false) hX hd hm hpl hfr hDB hg hp0
            · refine px_iload_n dx_Mo_one_191 rfl ?_
              refine px_bipush (v := 56) dx_Mo_one_192 rfl ?_
              refine px_isubN (a := opS (F 7 (40 * m + p))) (b := 56) dx_Mo_one_194 (by omega) ?_
              refine px_aload_n dx_Mo_one_195 rfl ?_
              refine px_iload dx_Mo_one_196 rfl ?_
              refine px_cV (Y := yy_Mo_one) (Yc := yy_Mo_wholeOf) (b := 717) (As := [.int (nI (opN (F 7 (40 * m + p))))]) dx_Mo_one_198 ml_Mo_315 mv_Mo_wholeOf np_Mo_wholeOf ⟨_, rfl⟩ (by decide) rfl (by decide) rfl (Nat.le_of_ble_eq_true rfl) (Nat.le_of_ble_eq_true rfl) rk_Mo_one_Mo_wholeOf rfl (m_wholeOf (A := J) (r := opN (F 7 (40 * m + p))) hX (by omega) (by first | (have := rg_50 hW hnm ⟨by omega, by omega⟩; omega) | (have := rg_56 hW hnm ⟨by omega, by omega⟩; omega))) zz_0 ?_
              refine px_l2i dx_Mo_one_201 ?_
              refine px_iconst (v := 0) dx_Mo_one_202 rfl ?_
              refine px_cS (Y := yy_Mo_one) (Yc := yy_Mo_holds) (As := [.int (nI ((opS (F 7 (40 * m + p))) - 56)), .int ((gW J (opN (F 7 (40 * m + p)))).toInt32), .int (0)]) dx_Mo_one_203 ml_Mo_359 ms_Mo_holds np_Mo_holds rfl (Nat.le_of_ble_eq_true rfl) (Nat.le_of_ble_eq_true rfl) rk_Mo_one_Mo_holds rfl (m_holds (how := (opS (F 7 (40 * m + p))) - 56) (by omega)) zz_0 ?_
              refine px_if_eqB dx_Mo_one_206 (fun c_206 => ?_) (fun c_206 => ?_)
              · refine px_iconst (v := 0) dx_Mo_one_213 rfl ?_
                refine px_istore (lv' := [(7, .int (0)), (0, .ref (717)), (1, .int (nI (m))), (2, .int (nI (p))), (3, .int (nI (opS (F 7 (40 * m + p))))), (4, .int (nI (opN (F 7 (40 * m + p))))), (5, .int (nI (opA (F 7 (40 * m + p))))), (6, .int (nI (opB (F 7 (40 * m + p)))))]) dx_Mo_one_214 (by decide) rfl ?_
                have hg : goN F J m p = false := by (unfold goN; rw [decide_eq_false c_140, Bool.false_or]; rw [decide_eq_true ⟨c_146, c_152⟩, Bool.true_and, c_176]; rw [Bool.false_or]; rw [decide_eq_true ⟨c_182, c_188⟩, Bool.true_and, c_206])
                refine px_sub [1, 2, 3, 4, 5, 6, 7, 0] rfl ?_
                exact m_one_t (σ := σ) (g := false) hX hd hm hpl hfr hDB hg hp0
              · refine px_iconst (v := 1) dx_Mo_one_209 rfl ?_
                refine px_goto dx_Mo_one_210 ?_
                refine px_istore (lv' := [(7, .int (1)), (0, .ref (717)), (1, .int (nI (m))), (2, .int (nI (p))), (3, .int (nI (opS (F 7 (40 * m + p))))), (4, .int (nI (opN (F 7 (40 * m + p))))), (5, .int (nI (opA (F 7 (40 * m + p))))), (6, .int (nI (opB (F 7 (40 * m + p)))))]) dx_Mo_one_214 (by decide) rfl ?_
                have hg : goN F J m p = true := by (unfold goN; rw [decide_eq_false c_140, Bool.false_or]; rw [decide_eq_true ⟨c_146, c_152⟩, Bool.true_and, c_176]; rw [Bool.false_or]; rw [decide_eq_true ⟨c_182, c_188⟩, Bool.true_and, c_206])
                refine px_sub [1, 2, 3, 4, 5, 6, 7, 0] rfl ?_
                exact m_one_t (σ := σ) (g := true) hX hd hm hpl hfr hDB hg hp0
set_option maxRecDepth 100000 in
set_option maxHeartbeats 1000000 in
theorem m_one {l : Launch} {G : fr_G} {σ : fr_S} {F : Nat → Nat → Nat} {A : VM} {σ0 : fr_S} (hX : MX σ0 σ F A) {Bg : Nat → Bool} {bf : Option Nat} {m p : Nat} (hd : 1 ≤ A.1 1 0) (hm : m < F 0 0) (hpl : p < 40) (hcm : A.1 2 (A.1 1 0 - 1) = m) (hcp : A.1 3 (A.1 1 0 - 1) = p) (hfr : frmOK F Bg m p bf = true) (hDA : DA A) (hIT : jns (opS (F 7 (40 * m + p))) = true → jnO (opS (F 7 (40 * m + p))) = 1 → ¬ gW A (opN (F 7 (40 * m + (p + 1)))) = 0 → ¬ (gW A (opN (F 7 (40 * m + (p + 1))))).toInt32 = 0) (hQ : ∀ c, c < F 0 0 → pwF F c ≤ F 5 c) : CR l G yy_Mo_one rm_Mo_one [.ref (717)] σ (fun r0 σ' => r0 = some (.int (nI (onA F A m p).1)) ∧ MX σ0 σ' F (onA F A m p).2) := by
  intro Post hp0
  show PX l G yy_Mo_one rm_Mo_one _ false 742 0 0 0 [(0, .ref (717))] [] σ
  have b6 := hX.2.2.2.2.1.2.1
  have hW := hX.2.2.1
  have h04 := hW.1
  have h64 := hW.2.2.2.2.2.2.1 m
  obtain ⟨hz, hzl, hnm, hko, hen, hbr⟩ := frm_p hfr
  have hs256 := opS_lt (F 7 (40 * m + p))
  have hs3 := szO_le (opS (F 7 (40 * m + p)))
  refine px_aload_n dx_Mo_one_0 rfl ?_
  refine px_getR (r := 736) dx_Mo_one_1 fl_Mo_71 rfl (by decide) rfl (hX.1 28) ?_
  refine px_aload_n dx_Mo_one_4 rfl ?_
  refine px_getI dx_Mo_one_5 fl_Mo_130 rfl (by decide) rfl ?_
  refine px_eqi (y := nI (A.1 1 0)) hX.2.2.2.1.2.1 ?_
  refine px_iconst (v := 1) dx_Mo_one_8 rfl ?_
  refine px_isubN (a := A.1 1 0) (b := 1) dx_Mo_one_9 (by omega) ?_
  refine px_ialdN (j := (A.1 1 0) - 1) dx_Mo_one_10 rfl (by decide) (by omega) ?_
  refine px_eqi (y := nI (m)) ((hX.2.2.2.1.2.2.1 _ (by omega)).trans (congrArg nI hcm)) ?_
  refine px_istore_n (lv' := [(1, .int (nI (m))), (0, .ref (717))]) dx_Mo_one_11 (by decide) rfl ?_
  refine px_aload_n dx_Mo_one_12 rfl ?_
  refine px_getR (r := 737) dx_Mo_one_13 fl_Mo_74 rfl (by decide) rfl (hX.1 29) ?_
  refine px_aload_n dx_Mo_one_16 rfl ?_
  refine px_getI dx_Mo_one_17 fl_Mo_130 rfl (by decide) rfl ?_
  refine px_eqi (y := nI (A.1 1 0)) hX.2.2.2.1.2.1 ?_
  refine px_iconst (v := 1) dx_Mo_one_20 rfl ?_
  refine px_isubN (a := A.1 1 0) (b := 1) dx_Mo_one_21 (by omega) ?_
  refine px_ialdN (j := (A.1 1 0) - 1) dx_Mo_one_22 rfl (by decide) (by omega) ?_
  refine px_eqi (y := nI (p)) ((hX.2.2.2.1.2.2.2.1 _ (by omega)).trans (congrArg nI hcp)) ?_
  refine px_istore_n (lv' := [(2, .int (nI (p))), (1, .int (nI (m))), (0, .ref (717))]) dx_Mo_one_23 (by decide) rfl ?_
  refine px_aload_n dx_Mo_one_24 rfl ?_
  refine px_iload_n dx_Mo_one_25 rfl ?_
  refine px_iload_n dx_Mo_one_26 rfl ?_
  refine px_cV (Y := yy_Mo_one) (Yc := yy_Mo_op) (b := 717) (As := [.int (nI (m)), .int (nI (p))]) dx_Mo_one_27 ml_Mo_173 mv_Mo_op np_Mo_op ⟨_, rfl⟩ (by decide) rfl (by decide) rfl (Nat.le_of_ble_eq_true rfl) (Nat.le_of_ble_eq_true rfl) rk_Mo_one_Mo_op rfl (m_op (w := (F 7 (40 * m + p))) hX.1 (by omega) (hX.2.1.2.2.2.2.2.2.2 (40 * m + p) (by omega)) (hX.2.2.1.2.2.2.2.2.2.2 _)) zz_0 ?_
  refine px_istore_n (lv' := [(3, .int (nI (opS (F 7 (40 * m + p))))), (2, .int (nI (p))), (1, .int (nI (m))), (0, .ref (717))]) dx_Mo_one_30 (by decide) rfl ?_
  refine px_aload_n dx_Mo_one_31 rfl ?_
  refine px_iload_n dx_Mo_one_32 rfl ?_
  refine px_iload_n dx_Mo_one_33 rfl ?_
  refine px_cV (Y := yy_Mo_one) (Yc := yy_Mo_regAA) (b := 717) (As := [.int (nI (m)), .int (nI (p))]) dx_Mo_one_34 ml_Mo_179 mv_Mo_regAA np_Mo_regAA ⟨_, rfl⟩ (by decide) rfl (by decide) rfl (Nat.le_of_ble_eq_true rfl) (Nat.le_of_ble_eq_true rfl) rk_Mo_one_Mo_regAA rfl (m_regAA (w := (F 7 (40 * m + p))) hX.1 (by omega) (hX.2.1.2.2.2.2.2.2.2 (40 * m + p) (by omega)) (hX.2.2.1.2.2.2.2.2.2.2 _)) zz_0 ?_
  refine px_istore (lv' := [(4, .int (nI (opN (F 7 (40 * m + p))))), (3, .int (nI (opS (F 7 (40 * m + p))))), (2, .int (nI (p))), (1, .int (nI (m))), (0, .ref (717))]) dx_Mo_one_37 (by decide) rfl ?_
  refine px_aload_n dx_Mo_one_39 rfl ?_
  refine px_iload_n dx_Mo_one_40 rfl ?_
  refine px_iload_n dx_Mo_one_41 rfl ?_
  refine px_cV (Y := yy_Mo_one) (Yc := yy_Mo_regA) (b := 717) (As := [.int (nI (m)), .int (nI (p))]) dx_Mo_one_42 ml_Mo_193 mv_Mo_regA np_Mo_regA ⟨_, rfl⟩ (by decide) rfl (by decide) rfl (Nat.le_of_ble_eq_true rfl) (Nat.le_of_ble_eq_true rfl) rk_Mo_one_Mo_regA rfl (m_regA (w := (F 7 (40 * m + p))) hX.1 (by omega) (hX.2.1.2.2.2.2.2.2.2 (40 * m + p) (by omega)) (hX.2.2.1.2.2.2.2.2.2.2 _)) zz_0 ?_
  refine px_istore (lv' := [(5, .int (nI (opA (F 7 (40 * m + p))))), (4, .int (nI (opN (F 7 (40 * m + p))))), (3, .int (nI (opS (F 7 (40 * m + p))))), (2, .int (nI (p))), (1, .int (nI (m))), (0, .ref (717))]) dx_Mo_one_45 (by decide) rfl ?_
  refine px_aload_n dx_Mo_one_47 rfl ?_
  refine px_iload_n dx_Mo_one_48 rfl ?_
  refine px_iload_n dx_Mo_one_49 rfl ?_
  refine px_cV (Y := yy_Mo_one) (Yc := yy_Mo_regB) (b := 717) (As := [.int (nI (m)), .int (nI (p))]) dx_Mo_one_50 ml_Mo_182 mv_Mo_regB np_Mo_regB ⟨_, rfl⟩ (by decide) rfl (by decide) rfl (Nat.le_of_ble_eq_true rfl) (Nat.le_of_ble_eq_true rfl) rk_Mo_one_Mo_regB rfl (m_regB (w := (F 7 (40 * m + p))) hX.1 (by omega) (hX.2.1.2.2.2.2.2.2.2 (40 * m + p) (by omega)) (hX.2.2.1.2.2.2.2.2.2.2 _)) zz_0 ?_
  refine px_istore (lv' := [(6, .int (nI (opB (F 7 (40 * m + p))))), (5, .int (nI (opA (F 7 (40 * m + p))))), (4, .int (nI (opN (F 7 (40 * m + p))))), (3, .int (nI (opS (F 7 (40 * m + p))))), (2, .int (nI (p))), (1, .int (nI (m))), (0, .ref (717))]) dx_Mo_one_53 (by decide) rfl ?_
  refine px_iload_n dx_Mo_one_55 rfl ?_
  refine px_bipush (v := 113) dx_Mo_one_56 rfl ?_
  refine px_icmp_neN (a := opS (F 7 (40 * m + p))) (b := 113) dx_Mo_one_58 (by omega) (by omega) (fun c_58 => ?_) (fun c_58 => ?_)
  · refine px_iload_n dx_Mo_one_80 rfl ?_
    refine px_bipush (v := 14) dx_Mo_one_81 rfl ?_
    refine px_icmp_ltN (a := opS (F 7 (40 * m + p))) (b := 14) dx_Mo_one_83 (by omega) (by omega) (fun c_83 => ?_) (fun c_83 => ?_)
    · refine px_iload_n dx_Mo_one_106 rfl ?_
      refine px_cS (Y := yy_Mo_one) (Yc := yy_Mo_joins) (As := [.int (nI (opS (F 7 (40 * m + p))))]) dx_Mo_one_107 ml_Mo_170 ms_Mo_joins np_Mo_joins rfl (Nat.le_of_ble_eq_true rfl) (Nat.le_of_ble_eq_true rfl) rk_Mo_one_Mo_joins rfl (m_joins hs256) zz_0 ?_
      refine px_if_eqB dx_Mo_one_110 (fun c_110 => ?_) (fun c_110 => ?_)
      · have hnz : ¬ (jns (opS (F 7 (40 * m + p))) = true ∧ dzA A (opS (F 7 (40 * m + p))) (opN (F 7 (40 * m + (p + 1)))) = true) := fun q => by (rw [c_110] at q; exact absurd q.1 (by decide))
        have hJ0 : (if jns (opS (F 7 (40 * m + p))) = true then jnA A (opS (F 7 (40 * m + p))) (opN (F 7 (40 * m + p))) (opS (F 7 (40 * m + (p + 1)))) (opN (F 7 (40 * m + (p + 1)))) else A) = A := if_neg (by rw [c_110]; decide)
        obtain ⟨J, hJ⟩ : ∃ X, X = (if jns (opS (F 7 (40 * m + p))) = true then jnA A (opS (F 7 (40 * m + p))) (opN (F 7 (40 * m + p))) (opS (F 7 (40 * m + (p + 1)))) (opN (F 7 (40 * m + (p + 1)))) else A) := ⟨_, rfl⟩
        rw [← hJ] at hJ0
        have hdJ : J.1 1 0 = A.1 1 0 := by (rw [hJ0])
        have hDB : DA J := by (rw [hJ0]; exact hDA)
        rw [← hJ0] at hX
        have e : onA F A m p = (0, wkA F (aI J 3 (J.1 1 0 - 1) (nxN F J m p)) m p) := by (unfold onA; rw [if_neg c_58, if_neg (by omega), if_neg hnz]; unfold stA; rw [← hJ, hdJ])
        refine px_sub [6, 5, 4, 3, 2, 1, 0] rfl ?_
        exact m_one_g (J := J) (Bg := Bg) (bf := bf) hX (by omega) hm hpl hfr hDB (fun σ1 h1 => hp0 _ _ ⟨by rw [e]; rfl, by rw [e]; exact h1⟩)
      · refine px_aload_n dx_Mo_one_113 rfl ?_
        refine px_iload_n dx_Mo_one_114 rfl ?_
        refine px_iload dx_Mo_one_115 rfl ?_
        refine px_aload_n dx_Mo_one_117 rfl ?_
        refine px_iload_n dx_Mo_one_118 rfl ?_
        refine px_iload_n dx_Mo_one_119 rfl ?_
        refine px_cV (Y := yy_Mo_one) (Yc := yy_Mo_regC) (b := 717) (As := [.int (nI (m)), .int (nI (p))]) dx_Mo_one_120 ml_Mo_205 mv_Mo_regC np_Mo_regC ⟨_, rfl⟩ (by decide) rfl (by decide) rfl (Nat.le_of_ble_eq_true rfl) (Nat.le_of_ble_eq_true rfl) rk_Mo_one_Mo_regC rfl (m_regC (w := (F 7 (40 * m + (p + 1)))) hX.1 (by omega) (hX.2.1.2.2.2.2.2.2.2 (40 * m + (p + 1)) (by omega)) (hX.2.2.1.2.2.2.2.2.2.2 _)) zz_0 ?_
        refine px_aload_n dx_Mo_one_123 rfl ?_
        refine px_iload_n dx_Mo_one_124 rfl ?_
        refine px_iload_n dx_Mo_one_125 rfl ?_
        refine px_cV (Y := yy_Mo_one) (Yc := yy_Mo_regD) (b := 717) (As := [.int (nI (m)), .int (nI (p))]) dx_Mo_one_126 ml_Mo_208 mv_Mo_regD np_Mo_regD ⟨_, rfl⟩ (by decide) rfl (by decide) rfl (Nat.le_of_ble_eq_true rfl) (Nat.le_of_ble_eq_true rfl) rk_Mo_one_Mo_regD rfl (m_regD (w := (F 7 (40 * m + (p + 1)))) hX.1 (by omega) (hX.2.1.2.2.2.2.2.2.2 (40 * m + (p + 1)) (by omega)) (hX.2.2.1.2.2.2.2.2.2.2 _)) zz_0 ?_
        have hrj := rg_j hW hnm c_110
        refine px_cVR (Y := yy_Mo_one) (Yc := yy_Mo_join) (b := 717) (As := [.int (nI (opS (F 7 (40 * m + p)))), .int (nI (opN (F 7 (40 * m + p)))), .int (nI (opS (F 7 (40 * m + (p + 1))))), .int (nI (opN (F 7 (40 * m + (p + 1)))))]) dx_Mo_one_129 ml_Mo_356 mv_Mo_join np_Mo_join ⟨_, rfl⟩ (by decide) rfl (by decide) rfl (Nat.le_of_ble_eq_true rfl) (Nat.le_of_ble_eq_true rfl) rk_Mo_one_Mo_join rfl (m_join (A := A) hX (by omega) (op := opS (F 7 (40 * m + p))) (by omega) c_110 (to := opN (F 7 (40 * m + p))) (c := opS (F 7 (40 * m + (p + 1)))) (d := opN (F 7 (40 * m + (p + 1)))) hrj.1 hrj.2.1 hrj.2.2 (hDA.g hrj.2.1 b6) (hDA.g hrj.2.2 b6) (hIT c_110)) zz_0 (fun r_129 τ_129 h_129 => ?_)
        obtain ⟨rfl, hX⟩ := h_129
        refine px_if_neB dx_Mo_one_132 (fun c_132 => ?_) (fun c_132 => ?_)
        · have hz1 : dzA A (opS (F 7 (40 * m + p))) (opN (F 7 (40 * m + (p + 1)))) = false := by (cases q : dzA A (opS (F 7 (40 * m + p))) (opN (F 7 (40 * m + (p + 1)))) with
            | false => rfl
            | true => (rw [q] at c_132; cases c_132))
          rw [if_neg (by rw [hz1]; decide)] at hX
          have hnz : ¬ (jns (opS (F 7 (40 * m + p))) = true ∧ dzA A (opS (F 7 (40 * m + p))) (opN (F 7 (40 * m + (p + 1)))) = true) := fun q => by (rw [hz1] at q; exact absurd q.2 (by decide))
          have hJ0 : (if jns (opS (F 7 (40 * m + p))) = true then jnA A (opS (F 7 (40 * m + p))) (opN (F 7 (40 * m + p))) (opS (F 7 (40 * m + (p + 1)))) (opN (F 7 (40 * m + (p + 1)))) else A) = jnA A (opS (F 7 (40 * m + p))) (opN (F 7 (40 * m + p))) (opS (F 7 (40 * m + (p + 1)))) (opN (F 7 (40 * m + (p + 1)))) := if_pos c_110
          obtain ⟨J, hJ⟩ : ∃ X, X = (if jns (opS (F 7 (40 * m + p))) = true then jnA A (opS (F 7 (40 * m + p))) (opN (F 7 (40 * m + p))) (opS (F 7 (40 * m + (p + 1)))) (opN (F 7 (40 * m + (p + 1)))) else A) := ⟨_, rfl⟩
          rw [← hJ] at hJ0
          have hdJ : J.1 1 0 = A.1 1 0 := by (rw [hJ0]; rw [jnA_1])
          have hDB : DA J := by (rw [hJ0]; exact hDA.jn b6 hrj.2.1 hrj.2.2 c_110)
          rw [← hJ0] at hX
          have e : onA F A m p = (0, wkA F (aI J 3 (J.1 1 0 - 1) (nxN F J m p)) m p) := by (unfold onA; rw [if_neg c_58, if_neg (by omega), if_neg hnz]; unfold stA; rw [← hJ, hdJ])
          refine px_sub [6, 5, 4, 3, 2, 1, 0] rfl ?_
          exact m_one_g (J := J) (Bg := Bg) (bf := bf) hX (by omega) hm hpl hfr hDB (fun σ1 h1 => hp0 _ _ ⟨by rw [e]; rfl, by rw [e]; exact h1⟩)
        · refine px_iconst (v := 3) dx_Mo_one_135 rfl ?_
          exact px_iret dx_Mo_one_136 rfl (by (have hz1 : dzA A (opS (F 7 (40 * m + p))) (opN (F 7 (40 * m + (p + 1)))) = true := by (cases q : dzA A (opS (F 7 (40 * m + p))) (opN (F 7 (40 * m + (p + 1)))) with | false => (rw [q] at c_132; cases c_132) | true => rfl)); (have e : onA F A m p = (3, A) := by (unfold onA; rw [if_neg c_58, if_neg (by omega), if_pos ⟨c_110, hz1⟩])); exact hp0 _ _ ⟨by rw [e]; rfl, by rw [e]; rw [if_pos hz1] at hX; exact hX⟩)
    · refine px_iload_n dx_Mo_one_86 rfl ?_
      refine px_bipush (v := 16) dx_Mo_one_87 rfl ?_
      refine px_icmp_gtN (a := opS (F 7 (40 * m + p))) (b := 16) dx_Mo_one_89 (by omega) (by omega) (fun c_89 => ?_) (fun c_89 => ?_)
      · refine px_iload_n dx_Mo_one_106 rfl ?_
        refine px_cS (Y := yy_Mo_one) (Yc := yy_Mo_joins) (As := [.int (nI (opS (F 7 (40 * m + p))))]) dx_Mo_one_107 ml_Mo_170 ms_Mo_joins np_Mo_joins rfl (Nat.le_of_ble_eq_true rfl) (Nat.le_of_ble_eq_true rfl) rk_Mo_one_Mo_joins rfl (m_joins hs256) zz_0 ?_
        refine px_if_eqB dx_Mo_one_110 (fun c_110 => ?_) (fun c_110 => ?_)
        · have hnz : ¬ (jns (opS (F 7 (40 * m + p))) = true ∧ dzA A (opS (F 7 (40 * m + p))) (opN (F 7 (40 * m + (p + 1)))) = true) := fun q => by (rw [c_110] at q; exact absurd q.1 (by decide))
          have hJ0 : (if jns (opS (F 7 (40 * m + p))) = true then jnA A (opS (F 7 (40 * m + p))) (opN (F 7 (40 * m + p))) (opS (F 7 (40 * m + (p + 1)))) (opN (F 7 (40 * m + (p + 1)))) else A) = A := if_neg (by rw [c_110]; decide)
          obtain ⟨J, hJ⟩ : ∃ X, X = (if jns (opS (F 7 (40 * m + p))) = true then jnA A (opS (F 7 (40 * m + p))) (opN (F 7 (40 * m + p))) (opS (F 7 (40 * m + (p + 1)))) (opN (F 7 (40 * m + (p + 1)))) else A) := ⟨_, rfl⟩
          rw [← hJ] at hJ0
          have hdJ : J.1 1 0 = A.1 1 0 := by (rw [hJ0])
          have hDB : DA J := by (rw [hJ0]; exact hDA)
          rw [← hJ0] at hX
          have e : onA F A m p = (0, wkA F (aI J 3 (J.1 1 0 - 1) (nxN F J m p)) m p) := by (unfold onA; rw [if_neg c_58, if_neg (by omega), if_neg hnz]; unfold stA; rw [← hJ, hdJ])
          refine px_sub [6, 5, 4, 3, 2, 1, 0] rfl ?_
          exact m_one_g (J := J) (Bg := Bg) (bf := bf) hX (by omega) hm hpl hfr hDB (fun σ1 h1 => hp0 _ _ ⟨by rw [e]; rfl, by rw [e]; exact h1⟩)
        · refine px_aload_n dx_Mo_one_113 rfl ?_
          refine px_iload_n dx_Mo_one_114 rfl ?_
          refine px_iload dx_Mo_one_115 rfl ?_
          refine px_aload_n dx_Mo_one_117 rfl ?_
          refine px_iload_n dx_Mo_one_118 rfl ?_
          refine px_iload_n dx_Mo_one_119 rfl ?_
          refine px_cV (Y := yy_Mo_one) (Yc := yy_Mo_regC) (b := 717) (As := [.int (nI (m)), .int (nI (p))]) dx_Mo_one_120 ml_Mo_205 mv_Mo_regC np_Mo_regC ⟨_, rfl⟩ (by decide) rfl (by decide) rfl (Nat.le_of_ble_eq_true rfl) (Nat.le_of_ble_eq_true rfl) rk_Mo_one_Mo_regC rfl (m_regC (w := (F 7 (40 * m + (p + 1)))) hX.1 (by omega) (hX.2.1.2.2.2.2.2.2.2 (40 * m + (p + 1)) (by omega)) (hX.2.2.1.2.2.2.2.2.2.2 _)) zz_0 ?_
          refine px_aload_n dx_Mo_one_123 rfl ?_
          refine px_iload_n dx_Mo_one_124 rfl ?_
          refine px_iload_n dx_Mo_one_125 rfl ?_
          refine px_cV (Y := yy_Mo_one) (Yc := yy_Mo_regD) (b := 717) (As := [.int (nI (m)), .int (nI (p))]) dx_Mo_one_126 ml_Mo_208 mv_Mo_regD np_Mo_regD ⟨_, rfl⟩ (by decide) rfl (by decide) rfl (Nat.le_of_ble_eq_true rfl) (Nat.le_of_ble_eq_true rfl) rk_Mo_one_Mo_regD rfl (m_regD (w := (F 7 (40 * m + (p + 1)))) hX.1 (by omega) (hX.2.1.2.2.2.2.2.2.2 (40 * m + (p + 1)) (by omega)) (hX.2.2.1.2.2.2.2.2.2.2 _)) zz_0 ?_
          have hrj := rg_j hW hnm c_110
          refine px_cVR (Y := yy_Mo_one) (Yc := yy_Mo_join) (b := 717) (As := [.int (nI (opS (F 7 (40 * m + p)))), .int (nI (opN (F 7 (40 * m + p)))), .int (nI (opS (F 7 (40 * m + (p + 1))))), .int (nI (opN (F 7 (40 * m + (p + 1)))))]) dx_Mo_one_129 ml_Mo_356 mv_Mo_join np_Mo_join ⟨_, rfl⟩ (by decide) rfl (by decide) rfl (Nat.le_of_ble_eq_true rfl) (Nat.le_of_ble_eq_true rfl) rk_Mo_one_Mo_join rfl (m_join (A := A) hX (by omega) (op := opS (F 7 (40 * m + p))) (by omega) c_110 (to := opN (F 7 (40 * m + p))) (c := opS (F 7 (40 * m + (p + 1)))) (d := opN (F 7 (40 * m + (p + 1)))) hrj.1 hrj.2.1 hrj.2.2 (hDA.g hrj.2.1 b6) (hDA.g hrj.2.2 b6) (hIT c_110)) zz_0 (fun r_129 τ_129 h_129 => ?_)
          obtain ⟨rfl, hX⟩ := h_129
          refine px_if_neB dx_Mo_one_132 (fun c_132 => ?_) (fun c_132 => ?_)
          · have hz1 : dzA A (opS (F 7 (40 * m + p))) (opN (F 7 (40 * m + (p + 1)))) = false := by (cases q : dzA A (opS (F 7 (40 * m + p))) (opN (F 7 (40 * m + (p + 1)))) with
              | false => rfl
              | true => (rw [q] at c_132; cases c_132))
            rw [if_neg (by rw [hz1]; decide)] at hX
            have hnz : ¬ (jns (opS (F 7 (40 * m + p))) = true ∧ dzA A (opS (F 7 (40 * m + p))) (opN (F 7 (40 * m + (p + 1)))) = true) := fun q => by (rw [hz1] at q; exact absurd q.2 (by decide))
            have hJ0 : (if jns (opS (F 7 (40 * m + p))) = true then jnA A (opS (F 7 (40 * m + p))) (opN (F 7 (40 * m + p))) (opS (F 7 (40 * m + (p + 1)))) (opN (F 7 (40 * m + (p + 1)))) else A) = jnA A (opS (F 7 (40 * m + p))) (opN (F 7 (40 * m + p))) (opS (F 7 (40 * m + (p + 1)))) (opN (F 7 (40 * m + (p + 1)))) := if_pos c_110
            obtain ⟨J, hJ⟩ : ∃ X, X = (if jns (opS (F 7 (40 * m + p))) = true then jnA A (opS (F 7 (40 * m + p))) (opN (F 7 (40 * m + p))) (opS (F 7 (40 * m + (p + 1)))) (opN (F 7 (40 * m + (p + 1)))) else A) := ⟨_, rfl⟩
            rw [← hJ] at hJ0
            have hdJ : J.1 1 0 = A.1 1 0 := by (rw [hJ0]; rw [jnA_1])
            have hDB : DA J := by (rw [hJ0]; exact hDA.jn b6 hrj.2.1 hrj.2.2 c_110)
            rw [← hJ0] at hX
            have e : onA F A m p = (0, wkA F (aI J 3 (J.1 1 0 - 1) (nxN F J m p)) m p) := by (unfold onA; rw [if_neg c_58, if_neg (by omega), if_neg hnz]; unfold stA; rw [← hJ, hdJ])
            refine px_sub [6, 5, 4, 3, 2, 1, 0] rfl ?_
            exact m_one_g (J := J) (Bg := Bg) (bf := bf) hX (by omega) hm hpl hfr hDB (fun σ1 h1 => hp0 _ _ ⟨by rw [e]; rfl, by rw [e]; exact h1⟩)
          · refine px_iconst (v := 3) dx_Mo_one_135 rfl ?_
            exact px_iret dx_Mo_one_136 rfl (by (have hz1 : dzA A (opS (F 7 (40 * m + p))) (opN (F 7 (40 * m + (p + 1)))) = true := by (cases q : dzA A (opS (F 7 (40 * m + p))) (opN (F 7 (40 * m + (p + 1)))) with | false => (rw [q] at c_132; cases c_132) | true => rfl)); (have e : onA F A m p = (3, A) := by (unfold onA; rw [if_neg c_58, if_neg (by omega), if_pos ⟨c_110, hz1⟩])); exact hp0 _ _ ⟨by rw [e]; rfl, by rw [e]; rw [if_pos hz1] at hX; exact hX⟩)
      · refine px_aload_n dx_Mo_one_92 rfl ?_
        refine px_aload_n dx_Mo_one_93 rfl ?_
        refine px_getR (r := 721) dx_Mo_one_94 fl_Mo_23 rfl (by decide) rfl (hX.1 8) ?_
        refine px_iload_n dx_Mo_one_97 rfl ?_
        refine px_ialdN (j := m) dx_Mo_one_98 rfl (by decide) (by omega) ?_
        refine px_eqi (y := nI (F 2 m)) (hX.2.1.2.2.1 m (by omega)) ?_
        refine px_iload dx_Mo_one_99 rfl ?_
        refine px_cVR (Y := yy_Mo_one) (Yc := yy_Mo_giveBack) (b := 717) (As := [.int (nI (F 2 m)), .int (nI (opN (F 7 (40 * m + p))))]) dx_Mo_one_101 ml_Mo_353 mv_Mo_giveBack np_Mo_giveBack ⟨_, rfl⟩ (by decide) rfl (by decide) rfl (Nat.le_of_ble_eq_true rfl) (Nat.le_of_ble_eq_true rfl) rk_Mo_one_Mo_giveBack rfl (m_giveBack (A := A) hX (by omega) (t := F 2 m) (r := opN (F 7 (40 * m + p))) (hW.2.2.1 m) (fun q => rg_ret hW hnm hko (by omega) (by omega) q)) zz_0 (fun r_101 τ_101 h_101 => ?_)
        obtain ⟨rfl, hX⟩ := h_101
        obtain ⟨B_101, hB_101⟩ : ∃ X, X = gvA A (F 2 m) (opN (F 7 (40 * m + p))) := ⟨_, rfl⟩
        rw [← hB_101] at hX
        refine px_iconst (v := 0) dx_Mo_one_104 rfl ?_
        exact px_iret dx_Mo_one_105 rfl (by (have e : onA F A m p = (0, B_101) := by (unfold onA; rw [if_neg c_58, if_pos ⟨by omega, by omega⟩]; subst hB_101; rfl)); exact hp0 _ _ ⟨by rw [e]; rfl, by rw [e]; exact hX⟩)
  · refine px_aload_n dx_Mo_one_61 rfl ?_
    refine px_getI dx_Mo_one_62 fl_Mo_130 rfl (by decide) rfl ?_
    refine px_eqi (y := nI (A.1 1 0)) hX.2.2.2.1.2.1 ?_
    refine px_bipush (v := 6) dx_Mo_one_65 rfl ?_
    refine px_icmp_neN (a := A.1 1 0) (b := 6) dx_Mo_one_67 (by omega) (by omega) (fun c_67 => ?_) (fun c_67 => ?_)
    · have hat := agT_p (rg_113 hnm (by rw [c_58]; decide))
      refine px_aload_n dx_Mo_one_72 rfl ?_
      refine px_iload_n dx_Mo_one_73 rfl ?_
      refine px_iload_n dx_Mo_one_74 rfl ?_
      refine px_cVR (Y := yy_Mo_one) (Yc := yy_Mo_callFrom) (b := 717) (As := [.int (nI (m)), .int (nI (p))]) dx_Mo_one_75 ml_Mo_350 mv_Mo_callFrom np_Mo_callFrom ⟨_, rfl⟩ (by decide) rfl (by decide) rfl (Nat.le_of_ble_eq_true rfl) (Nat.le_of_ble_eq_true rfl) rk_Mo_one_Mo_callFrom rfl (m_callFrom (A := A) hX (by omega) (m := m) (p := p) (by omega) hpl (by omega) hat.1 hat.2 (hQ _ hat.1)) zz_0 (fun r_75 τ_75 h_75 => ?_)
      obtain ⟨rfl, hX⟩ := h_75
      obtain ⟨B_75, hB_75⟩ : ∃ X, X = calA F A m p := ⟨_, rfl⟩
      rw [← hB_75] at hX
      refine px_iconst (v := 0) dx_Mo_one_78 rfl ?_
      exact px_iret dx_Mo_one_79 rfl (by (have e : onA F A m p = (0, B_75) := by (unfold onA; rw [if_pos c_58, if_neg c_67]; subst hB_75; rfl)); exact hp0 _ _ ⟨by rw [e]; rfl, by rw [e]; exact hX⟩)
    · refine px_iconst (v := 4) dx_Mo_one_70 rfl ?_
      exact px_iret dx_Mo_one_71 rfl (by (have e : onA F A m p = (4, A) := by (unfold onA; rw [if_pos c_58, if_pos c_67])); exact hp0 _ _ ⟨by rw [e]; rfl, by rw [e]; exact hX⟩)
