/-! the reference: what is behind an instruction -/
theorem m_needC {l : Launch} {G : fr_G} {σ : fr_S} (hM : MR σ) {w g : Bool} (hw : gI σ 717 21 = b2i w) : CT l G yy_Mo_need rm_Mo_need [.ref (717), .int (b2i (g))] σ none (sI σ 717 21 (b2i (w || !g))) :=
  fun Post h => m_need hM hw Post (by rintro _ _ ⟨rfl, rfl⟩; exact h)
/-- parameters have types -/
def FP (F : Nat → Nat → Nat) : Prop := ∀ c j, c < F 0 0 → j < F 3 c → 1 ≤ F 4 (3 * c + j)
def uaG (F : Nat → Nat → Nat) (c w2 : Nat) (row : Nat → Nat) : Nat → Bool
  | 0 => true
  | j + 1 => uaG F c w2 row j && isT row (agW w2 (agK F c j)) (F 4 (3 * c + j))
theorem agOK_hs {F : Nat → Nat → Nat} {m c w2 : Nat} : ∀ {n : Nat}, agOK F m c w2 n = true → ∀ j, j < n → hsR F m (agW w2 (agK F c j)) (F 4 (3 * c + j)) = true
  | 0, _, j, hj => absurd hj (Nat.not_lt_zero _)
  | n + 1, h, j, hj => by
    simp only [agOK, Bool.and_eq_true] at h
    by_cases e : j = n
    · subst e
      exact h.1.2
    · exact agOK_hs h.1.1 j (by omega)
/-- what holds of a state while an instruction's row is made -/
def PI (σ σ' : fr_S) (F : Nat → Nat → Nat) (m : Nat) (T : Nat → Nat → Nat) (N : Nat → Nat) : Prop := MR σ' ∧ MF σ' F ∧ TY σ' m T ∧ NW σ' N ∧ Ag [717, 732] σ σ' ∧ ∀ k, k ≠ 21 → gI σ' 717 k = gI σ 717 k
theorem PI.w {σ σ' : fr_S} {F : Nat → Nat → Nat} {m : Nat} {T : Nat → Nat → Nat} {N : Nat → Nat} (h : PI σ σ' F m T N) {v : Int32} : PI σ (sI σ' 717 21 v) F m T N := by
  obtain ⟨h1, h2, h3, h4, h5, h6⟩ := h
  have a : Ag [717] σ' (sI σ' 717 21 v) := ag_sI Ag.rf (by decide)
  exact ⟨h1, h2.ag a (fun o _ _ => by simp; omega), h3.ag a (by decide), h4.ag a (by decide), ag_sI h5 (by decide), fun k hk => by rw [gI_n (Or.inr hk)]; exact h6 k hk⟩
theorem PI.st {σ σ' σ'' : fr_S} {F : Nat → Nat → Nat} {m : Nat} {T : Nat → Nat → Nat} {N N' : Nat → Nat} (h : PI σ σ' F m T N) (a : Ag [732] σ' σ'') (hN : NW σ'' N') : PI σ σ'' F m T N' := by
  obtain ⟨h1, h2, h3, h4, h5, h6⟩ := h
  exact ⟨h1.ag a, h2.ag a (fun o _ _ => by simp; omega), h3.ag a (by decide), hN, h5.tr (a.mono (by decide)), fun k hk => by rw [a.1 717 (by decide)]; exact h6 k hk⟩
theorem PI.s21 {σ' σ'' : fr_S} (a : Ag [732] σ' σ'') : gI σ'' 717 21 = gI σ' 717 21 := a.1 717 (by decide) 21
theorem PI.now {σ σ' : fr_S} {F : Nat → Nat → Nat} {m : Nat} {T : Nat → Nat → Nat} {N : Nat → Nat} (h : PI σ σ' F m T N) {k v : Nat} : PI σ (sI σ' 732 k (nI v)) F m T (va_up N k v) :=
  h.st (ag_sI Ag.rf (by decide)) h.2.2.2.1.up

set_option maxRecDepth 100000 in
set_option maxHeartbeats 1000000 in
theorem m_useArguments_lp {l : Launch} {G : fr_G} {σ : fr_S} {σ0 : fr_S} {F : Nat → Nat → Nat} (hW : FW F) (hFP : FP F) {m p c : Nat} {T : Nat → Nat → Nat} {N : Nat → Nat} (hm : m < 4) (hpl : p < 40) (hT6 : ∀ r, T p r ≤ 6) (hc : c < F 0 0) (hag : agOK F m c (F 7 (40 * m + (p + 2))) (F 3 c) = true) {Post : Option Value → fr_S → Prop} {w : Bool} (hq : ∀ σ', PI σ0 σ' F m T N → gI σ' 717 21 = b2i (w || !uaG F c (F 7 (40 * m + (p + 2))) (T p) (F 3 c)) → Post none σ') : ∀ (d : Nat) (j : Nat) (σ1 : fr_S), F 3 c - j < d → j ≤ F 3 c → PI σ0 σ1 F m T N → gI σ1 717 21 = b2i (w || !uaG F c (F 7 (40 * m + (p + 2))) (T p) j) → PX l G yy_Mo_useArguments rm_Mo_useArguments (QR G false 742 0 0 Post) false 742 0 0 13 [(0, .ref (717)), (1, .int (nI (m))), (2, .int (nI (p))), (3, .int (nI (c))), (4, .int (nI (agK F c j))), (5, .int (nI (j)))] [] (σ1) := by
  intro d
  induction d with
  | zero => intro j σ1 hd; exact absurd hd (Nat.not_lt_zero _)
  | succ d ih =>
    intro j σ1 hd hj hI h21
    obtain ⟨hM, hF, hT, hN, hA, hK⟩ := id hI
    have hc4 := hW.1
    have h3 := hW.2.2.2.1 c
    have hk := agK_le F c j
    have h5 := hW.2.2.2.2.2.1 m
    have hx : j < F 3 c → (1 ≤ F 4 (3 * c + j)) ∧ agW (F 7 (40 * m + (p + 2))) (agK F c j) + wdt (F 4 (3 * c + j)) ≤ 10 := fun q => ⟨hFP c j hc q, by have := agOK_hs hag j q; simp only [hsR, decide_eq_true_eq] at this; omega⟩
    refine px_iload dx_Mo_useArguments_13 rfl ?_
    refine px_aload_n dx_Mo_useArguments_15 rfl ?_
    refine px_getR (r := 722) dx_Mo_useArguments_16 fl_Mo_26 rfl (by decide) rfl (hM 9) ?_
    refine px_iload_n dx_Mo_useArguments_19 rfl ?_
    refine px_ialdN (j := c) dx_Mo_useArguments_20 rfl (by decide) (by omega) ?_
    refine px_eqi (y := nI (F 3 c)) (hF.2.2.2.1 c (by omega)) ?_
    refine px_icmp_geN (a := j) (b := F 3 c) dx_Mo_useArguments_21 (by first | omega | (have := wdt_le (F 4 (3 * c + j)); omega)) (by first | omega | (have := wdt_le (F 4 (3 * c + j)); omega)) (fun c_21 => ?_) (fun c_21 => ?_)
    · exact px_vret dx_Mo_useArguments_73 rfl (by (have e : j = F 3 c := by omega); subst e; exact hq σ1 hI h21)
    · obtain ⟨hx1, hx2⟩ := hx (by omega)
      refine px_aload_n dx_Mo_useArguments_24 rfl ?_
      refine px_getR (r := 723) dx_Mo_useArguments_25 fl_Mo_29 rfl (by decide) rfl (hM 10) ?_
      refine px_iconst (v := 3) dx_Mo_useArguments_28 rfl ?_
      refine px_iload_n dx_Mo_useArguments_29 rfl ?_
      refine px_imulN (a := 3) (b := c) dx_Mo_useArguments_30 ?_
      refine px_iload dx_Mo_useArguments_31 rfl ?_
      refine px_iaddN (a := 3 * c) (b := j) dx_Mo_useArguments_33 ?_
      refine px_ialdN (j := (3 * c) + j) dx_Mo_useArguments_34 rfl (by decide) (by omega) ?_
      refine px_eqi (y := nI (F 4 ((3 * c) + j))) (hF.2.2.2.2.1 ((3 * c) + j) (by omega)) ?_
      refine px_istore (lv' := [(6, .int (nI (F 4 ((3 * c) + j)))), (0, .ref (717)), (1, .int (nI (m))), (2, .int (nI (p))), (3, .int (nI (c))), (4, .int (nI (agK F c j))), (5, .int (nI (j)))]) dx_Mo_useArguments_35 (by decide) rfl ?_
      refine px_aload_n dx_Mo_useArguments_37 rfl ?_
      refine px_aload_n dx_Mo_useArguments_38 rfl ?_
      refine px_iload_n dx_Mo_useArguments_39 rfl ?_
      refine px_iload_n dx_Mo_useArguments_40 rfl ?_
      refine px_aload_n dx_Mo_useArguments_41 rfl ?_
      refine px_iload_n dx_Mo_useArguments_42 rfl ?_
      refine px_iload_n dx_Mo_useArguments_43 rfl ?_
      refine px_iload dx_Mo_useArguments_44 rfl ?_
      refine px_cV (Y := yy_Mo_useArguments) (Yc := yy_Mo_argument) (b := 717) (As := [.int (nI (m)), .int (nI (p)), .int (nI (agK F c j))]) dx_Mo_useArguments_46 ml_Mo_185 mv_Mo_argument np_Mo_argument ⟨_, rfl⟩ (by decide) rfl (by decide) rfl (Nat.le_of_ble_eq_true rfl) (Nat.le_of_ble_eq_true rfl) rk_Mo_useArguments_Mo_argument rfl (m_argument hM hF hW hm (by omega) (by omega)) zz_0 ?_
      refine px_iload dx_Mo_useArguments_49 rfl ?_
      refine px_cV (Y := yy_Mo_useArguments) (Yc := yy_Mo_is) (b := 717) (As := [.int (nI (m)), .int (nI (p)), .int (nI (agW (F 7 (40 * m + (p + 2))) (agK F c j))), .int (nI (F 4 ((3 * c) + j)))]) dx_Mo_useArguments_51 ml_Mo_255 mv_Mo_is np_Mo_is ⟨_, rfl⟩ (by decide) rfl (by decide) rfl (Nat.le_of_ble_eq_true rfl) (Nat.le_of_ble_eq_true rfl) rk_Mo_useArguments_Mo_is rfl (m_is hM hT hm (by omega) hx1 (hW.2.2.2.2.1 _) hx2 hT6) zz_0 ?_
      refine px_cV (Y := yy_Mo_useArguments) (Yc := yy_Mo_need) (b := 717) (As := [.int (b2i (isT (T p) (agW (F 7 (40 * m + (p + 2))) (agK F c j)) (F 4 ((3 * c) + j))))]) dx_Mo_useArguments_54 ml_Mo_259 mv_Mo_need np_Mo_need ⟨_, rfl⟩ (by decide) rfl (by decide) rfl (Nat.le_of_ble_eq_true rfl) (Nat.le_of_ble_eq_true rfl) rk_Mo_useArguments_Mo_need rfl (m_needC (w := w || !uaG F c (F 7 (40 * m + (p + 2))) (T p) j) (g := isT (T p) (agW (F 7 (40 * m + (p + 2))) (agK F c j)) (F 4 ((3 * c) + j))) hM h21) zz_0 ?_
      refine px_iload dx_Mo_useArguments_57 rfl ?_
      refine px_iload dx_Mo_useArguments_59 rfl ?_
      refine px_cS (Y := yy_Mo_useArguments) (Yc := yy_Mo_words) (As := [.int (nI (F 4 ((3 * c) + j)))]) dx_Mo_useArguments_61 ml_Mo_99 ms_Mo_words np_Mo_words rfl (Nat.le_of_ble_eq_true rfl) (Nat.le_of_ble_eq_true rfl) rk_Mo_useArguments_Mo_words rfl (m_words (Nat.lt_of_le_of_lt (hW.2.2.2.2.1 _) (by decide))) zz_0 ?_
      refine px_iaddN (a := agK F c j) (b := wdt (F 4 ((3 * c) + j))) dx_Mo_useArguments_64 ?_
      refine px_istore (lv' := [(4, .int (nI ((agK F c j) + (wdt (F 4 ((3 * c) + j)))))), (6, .int (nI (F 4 ((3 * c) + j)))), (0, .ref (717)), (1, .int (nI (m))), (2, .int (nI (p))), (3, .int (nI (c))), (5, .int (nI (j)))]) dx_Mo_useArguments_65 (by decide) rfl ?_
      refine px_iinc (v := (nI (j + 1))) (lv' := [(5, .int (nI (j + 1))), (4, .int (nI ((agK F c j) + (wdt (F 4 ((3 * c) + j)))))), (6, .int (nI (F 4 ((3 * c) + j)))), (0, .ref (717)), (1, .int (nI (m))), (2, .int (nI (p))), (3, .int (nI (c)))]) dx_Mo_useArguments_67 rfl (nI_1 _) (by decide) rfl ?_
      refine px_goto dx_Mo_useArguments_70 ?_
      refine px_sub [3, 4, 5, 6, 1, 0] rfl ?_
      exact ih (j + 1) (sI σ1 717 21 (b2i ((w || !uaG F c (F 7 (40 * m + (p + 2))) (T p) j) || !(isT (T p) (agW (F 7 (40 * m + (p + 2))) (agK F c j)) (F 4 ((3 * c) + j)))))) (by omega) (by omega) hI.w (by (rw [gI_s]; congr 1; simp only [uaG]; cases w <;> cases uaG F c (F 7 (40 * m + (p + 2))) (T p) j <;> simp))
set_option maxRecDepth 100000 in
set_option maxHeartbeats 1000000 in
theorem m_useArguments {l : Launch} {G : fr_G} {σ : fr_S} {σ0 : fr_S} {F : Nat → Nat → Nat} (hW : FW F) (hFP : FP F) {m p : Nat} {T : Nat → Nat → Nat} {N : Nat → Nat} (hm : m < 4) (hpl : p < 40) (hT6 : ∀ r, T p r ≤ 6) (hag : agT F m p = true) (hI : PI σ0 σ F m T N) {w : Bool} (h21 : gI σ 717 21 = b2i w) : CR l G yy_Mo_useArguments rm_Mo_useArguments [.ref (717), .int (nI (m)), .int (nI (p))] σ (fun r0 σ' => r0 = none ∧ PI σ0 σ' F m T N ∧ gI σ' 717 21 = b2i (w || !uaG F (F 7 (40 * m + (p + 1))) (F 7 (40 * m + (p + 2))) (T p) (F 3 (F 7 (40 * m + (p + 1)))))) := by
  intro Post hp0
  show PX l G yy_Mo_useArguments rm_Mo_useArguments _ false 742 0 0 0 [(0, .ref (717)), (1, .int (nI (m))), (2, .int (nI (p)))] [] σ
  obtain ⟨hM, hF, hT, hN, hA, hK⟩ := id hI
  have hc4 := hW.1
  simp only [agT, Bool.and_eq_true, decide_eq_true_eq] at hag
  obtain ⟨hc, -, hag⟩ := hag
  refine px_aload_n dx_Mo_useArguments_0 rfl ?_
  refine px_iload_n dx_Mo_useArguments_1 rfl ?_
  refine px_iload_n dx_Mo_useArguments_2 rfl ?_
  refine px_cV (Y := yy_Mo_useArguments) (Yc := yy_Mo_number) (b := 717) (As := [.int (nI (m)), .int (nI (p))]) dx_Mo_useArguments_3 ml_Mo_176 mv_Mo_number np_Mo_number ⟨_, rfl⟩ (by decide) rfl (by decide) rfl (Nat.le_of_ble_eq_true rfl) (Nat.le_of_ble_eq_true rfl) rk_Mo_useArguments_Mo_number rfl (m_number_p hM (by omega) (hF.2.2.2.2.2.2.2 (40 * m + (p + 1)) (by omega)) (hW.2.2.2.2.2.2.2 _) (by omega)) zz_0 ?_
  refine px_istore_n (lv' := [(3, .int (nI (F 7 (40 * m + (p + 1))))), (0, .ref (717)), (1, .int (nI (m))), (2, .int (nI (p)))]) dx_Mo_useArguments_6 (by decide) rfl ?_
  refine px_iconst (v := 0) dx_Mo_useArguments_7 rfl ?_
  refine px_istore (lv' := [(4, .int (0)), (3, .int (nI (F 7 (40 * m + (p + 1))))), (0, .ref (717)), (1, .int (nI (m))), (2, .int (nI (p)))]) dx_Mo_useArguments_8 (by decide) rfl ?_
  refine px_iconst (v := 0) dx_Mo_useArguments_10 rfl ?_
  refine px_istore (lv' := [(5, .int (0)), (4, .int (0)), (3, .int (nI (F 7 (40 * m + (p + 1))))), (0, .ref (717)), (1, .int (nI (m))), (2, .int (nI (p)))]) dx_Mo_useArguments_11 (by decide) rfl ?_
  refine px_sub [3, 4, 5, 2, 1, 0] rfl ?_
  exact m_useArguments_lp (σ := σ) hW hFP hm hpl hT6 hc hag (fun σ' a b => hp0 _ _ ⟨rfl, a, b⟩) (F 3 (F 7 (40 * m + (p + 1))) + 1) 0 σ (by omega) (Nat.zero_le _) hI (by rw [h21]; simp [uaG])
def stT (row : Nat → Nat) (r t : Nat) : Nat → Nat := stN row r t (decide (t = 2 ∨ t = 4))
def cbF (F : Nat → Nat → Nat) (m : Nat) (bf : Option Nat) : Nat := match bf with
  | some q => F 7 (40 * m + (q + 1))
  | none => 0
def uaA (F : Nat → Nat → Nat) (m p : Nat) (row : Nat → Nat) : Bool := uaG F (F 7 (40 * m + (p + 1))) (F 7 (40 * m + (p + 2))) row (F 3 (F 7 (40 * m + (p + 1))))
def poG (F : Nat → Nat → Nat) (m p : Nat) (row : Nat → Nat) (op : Nat) : Bool :=
  if op ∈ [1] then isT row (opB (F 7 (40 * m + p))) 1 || isT row (opB (F 7 (40 * m + p))) 3
  else if op ∈ [4] then isT row (opB (F 7 (40 * m + p))) 2 || isT row (opB (F 7 (40 * m + p))) 4
  else if op ∈ [15, 16] then isT row (opN (F 7 (40 * m + p))) (F 2 m)
  else if op ∈ [113] then uaA F m p row
  else true
def poN (F : Nat → Nat → Nat) (m p : Nat) (bf : Option Nat) (row : Nat → Nat) (op : Nat) : Nat → Nat :=
  if op ∈ [1] then stT row (opA (F 7 (40 * m + p))) (if isT row (opB (F 7 (40 * m + p))) 1 = true then 1 else if isT row (opB (F 7 (40 * m + p))) 3 = true then 3 else 0)
  else if op ∈ [4] then stN row (opA (F 7 (40 * m + p))) (if isT row (opB (F 7 (40 * m + p))) 2 = true then 2 else if isT row (opB (F 7 (40 * m + p))) 4 = true then 4 else 0) true
  else if op ∈ [10, 11] then stT row (opN (F 7 (40 * m + p))) (F 2 (cbF F m bf))
  else if op ∈ [18] then stT row (opA (F 7 (40 * m + p))) 1
  else if op ∈ [19, 96] then stT row (opN (F 7 (40 * m + p))) 1
  else if op ∈ [22] then stT row (opN (F 7 (40 * m + p))) 2
  else row
theorem ret_ok {F : Nat → Nat → Nat} {m p : Nat} {bf : Option Nat} (hn : nmOK F m p = true) (hk : kOK F m p bf = true) (h : opS (F 7 (40 * m + p)) ∈ [15, 16]) : 1 ≤ F 2 m ∧ opN (F 7 (40 * m + p)) + wdt (F 2 m) ≤ F 5 m := by
  simp only [List.mem_cons, List.not_mem_nil, or_false] at h
  unfold kOK at hk
  rw [if_pos (by omega)] at hk
  simp only [decide_eq_true_eq] at hk
  have hwl := wdt_le (F 2 m)
  have h0 : F 2 m ≠ 0 := by
    intro e
    rw [if_pos e] at hk
    omega
  rw [if_neg h0] at hk
  refine ⟨by omega, ?_⟩
  unfold nmOK at hn
  rcases h with h | h
  · rw [nmW_7 (by rw [h]; decide)] at hn
    simp only [hsR, decide_eq_true_eq] at hn
    have : wdt 1 = 1 := rfl
    by_cases e : wdt (F 2 m) = 1
    · omega
    · rw [if_neg e] at hk
      omega
  · rw [nmW_8 (by rw [h]; decide)] at hn
    simp only [hsR, decide_eq_true_eq] at hn
    have : wdt 2 = 2 := rfl
    omega
theorem res_ok {F : Nat → Nat → Nat} {m p : Nat} {bf : Option Nat} (hn : nmOK F m p = true) (hk : kOK F m p bf = true) (h : opS (F 7 (40 * m + p)) ∈ [10, 11]) : ∃ q, bf = some q ∧ F 7 (40 * m + (q + 1)) < F 0 0 ∧ ¬ F 2 (F 7 (40 * m + (q + 1))) = 0 ∧ opN (F 7 (40 * m + p)) + wdt (F 2 (F 7 (40 * m + (q + 1)))) ≤ F 5 m ∧ opS (F 7 (40 * m + q)) = 113 := by
  simp only [List.mem_cons, List.not_mem_nil, or_false] at h
  unfold kOK at hk
  rw [if_neg (by omega), if_neg (by simp [isRs]; omega)] at hk
  cases bf with
  | none => cases hk
  | some q =>
    simp only [Bool.and_eq_true, decide_eq_true_eq] at hk
    obtain ⟨h1, h2, h3, h4⟩ := hk
    refine ⟨q, rfl, h2, h3, ?_, h1⟩
    have hwl := wdt_le (F 2 (F 7 (40 * m + (q + 1))))
    unfold nmOK at hn
    rcases h with h | h
    · rw [nmW_7 (by rw [h]; decide)] at hn
      simp only [hsR, decide_eq_true_eq] at hn
      have : wdt 1 = 1 := rfl
      by_cases e : wdt (F 2 (F 7 (40 * m + (q + 1)))) = 1
      · omega
      · rw [if_neg e] at h4
        omega
    · rw [nmW_8 (by rw [h]; decide)] at hn
      simp only [hsR, decide_eq_true_eq] at hn
      have : wdt 2 = 2 := rfl
      omega

theorem nm_19 {F : Nat → Nat → Nat} {m p : Nat} (hn : nmOK F m p = true) (h : opS (F 7 (40 * m + p)) ∈ [19, 96]) : opN (F 7 (40 * m + p)) + wdt 1 ≤ F 5 m := by
  simp only [List.mem_cons, List.not_mem_nil, or_false] at h
  unfold nmOK at hn
  rcases h with h | h
  · rw [nmW_7 (by rw [h]; decide)] at hn
    simpa [hsR] using hn
  · rw [nmW_10 (by rw [h]; decide)] at hn
    simp only [Bool.and_eq_true, hsR, decide_eq_true_eq] at hn
    exact hn.1
theorem nm_22 {F : Nat → Nat → Nat} {m p : Nat} (hn : nmOK F m p = true) (h : opS (F 7 (40 * m + p)) ∈ [22]) : opN (F 7 (40 * m + p)) + wdt 2 ≤ F 5 m := by
  simp only [List.mem_cons, List.not_mem_nil, or_false] at h
  unfold nmOK at hn
  rw [nmW_8 (by rw [h]; decide)] at hn
  simpa [hsR] using hn
section PO
variable {F : Nat → Nat → Nat} {m p op : Nat} {bf : Option Nat} {row : Nat → Nat}
theorem poG_1 (h : op ∈ [1]) : poG F m p row op = (isT row (opB (F 7 (40 * m + p))) 1 || isT row (opB (F 7 (40 * m + p))) 3) := by
  simp only [List.mem_cons, List.not_mem_nil, or_false] at h
  rcases h with rfl <;> simp [poG]
theorem poN_1 (h : op ∈ [1]) : poN F m p bf row op = stT row (opA (F 7 (40 * m + p))) (if isT row (opB (F 7 (40 * m + p))) 1 = true then 1 else if isT row (opB (F 7 (40 * m + p))) 3 = true then 3 else 0) := by
  simp only [List.mem_cons, List.not_mem_nil, or_false] at h
  rcases h with rfl <;> simp [poN]
theorem poG_4 (h : op ∈ [4]) : poG F m p row op = (isT row (opB (F 7 (40 * m + p))) 2 || isT row (opB (F 7 (40 * m + p))) 4) := by
  simp only [List.mem_cons, List.not_mem_nil, or_false] at h
  rcases h with rfl <;> simp [poG]
theorem poN_4 (h : op ∈ [4]) : poN F m p bf row op = stN row (opA (F 7 (40 * m + p))) (if isT row (opB (F 7 (40 * m + p))) 2 = true then 2 else if isT row (opB (F 7 (40 * m + p))) 4 = true then 4 else 0) true := by
  simp only [List.mem_cons, List.not_mem_nil, or_false] at h
  rcases h with rfl <;> simp [poN]
theorem poG_10 (h : op ∈ [10, 11]) : poG F m p row op = true := by
  simp only [List.mem_cons, List.not_mem_nil, or_false] at h
  rcases h with rfl | rfl <;> simp [poG]
theorem poN_10 (h : op ∈ [10, 11]) : poN F m p bf row op = stT row (opN (F 7 (40 * m + p))) (F 2 (cbF F m bf)) := by
  simp only [List.mem_cons, List.not_mem_nil, or_false] at h
  rcases h with rfl | rfl <;> simp [poN]
theorem poG_15 (h : op ∈ [15, 16]) : poG F m p row op = isT row (opN (F 7 (40 * m + p))) (F 2 m) := by
  simp only [List.mem_cons, List.not_mem_nil, or_false] at h
  rcases h with rfl | rfl <;> simp [poG]
theorem poN_15 (h : op ∈ [15, 16]) : poN F m p bf row op = row := by
  simp only [List.mem_cons, List.not_mem_nil, or_false] at h
  rcases h with rfl | rfl <;> simp [poN]
theorem poG_18 (h : op ∈ [18]) : poG F m p row op = true := by
  simp only [List.mem_cons, List.not_mem_nil, or_false] at h
  rcases h with rfl <;> simp [poG]
theorem poN_18 (h : op ∈ [18]) : poN F m p bf row op = stT row (opA (F 7 (40 * m + p))) 1 := by
  simp only [List.mem_cons, List.not_mem_nil, or_false] at h
  rcases h with rfl <;> simp [poN]
theorem poG_19 (h : op ∈ [19, 96]) : poG F m p row op = true := by
  simp only [List.mem_cons, List.not_mem_nil, or_false] at h
  rcases h with rfl | rfl <;> simp [poG]
theorem poN_19 (h : op ∈ [19, 96]) : poN F m p bf row op = stT row (opN (F 7 (40 * m + p))) 1 := by
  simp only [List.mem_cons, List.not_mem_nil, or_false] at h
  rcases h with rfl | rfl <;> simp [poN]
theorem poG_22 (h : op ∈ [22]) : poG F m p row op = true := by
  simp only [List.mem_cons, List.not_mem_nil, or_false] at h
  rcases h with rfl <;> simp [poG]
theorem poN_22 (h : op ∈ [22]) : poN F m p bf row op = stT row (opN (F 7 (40 * m + p))) 2 := by
  simp only [List.mem_cons, List.not_mem_nil, or_false] at h
  rcases h with rfl <;> simp [poN]
theorem poG_113 (h : op ∈ [113]) : poG F m p row op = uaA F m p row := by
  simp only [List.mem_cons, List.not_mem_nil, or_false] at h
  rcases h with rfl <;> simp [poG]
theorem poN_113 (h : op ∈ [113]) : poN F m p bf row op = row := by
  simp only [List.mem_cons, List.not_mem_nil, or_false] at h
  rcases h with rfl <;> simp [poN]
end PO

set_option maxRecDepth 100000 in
set_option maxHeartbeats 1000000 in
theorem m_passOther {l : Launch} {G : fr_G} {σ0 σ : fr_S} {F : Nat → Nat → Nat} (hW : FW F) (hFP : FP F) {m p : Nat} {bf : Option Nat} {T : Nat → Nat → Nat} (hm : m < 4) (hpl : p < 40) (hT6 : ∀ r, T p r ≤ 6) (hP : WP (T p)) (hnm : nmOK F m p = true) (hko : kOK F m p bf = true) (hbf : ∀ q, bf = some q → q < 40) (hI : PI σ0 σ F m T (T p)) (h21 : gI σ 717 21 = b2i (!true)) : CR l G yy_Mo_passOther rm_Mo_passOther [.ref (717), .int (nI (m)), .int (nI (p)), .int (bfI bf)] σ (fun r0 σ' => r0 = none ∧ PI σ0 σ' F m T (poN F m p bf (T p) (opS (F 7 (40 * m + p)))) ∧ gI σ' 717 21 = b2i (!poG F m p (T p) (opS (F 7 (40 * m + p))))) := by
  intro Post hp0
  show PX l G yy_Mo_passOther rm_Mo_passOther _ false 742 0 0 0 [(0, .ref (717)), (1, .int (nI (m))), (2, .int (nI (p))), (3, .int (bfI bf))] [] σ
  obtain ⟨hM, hF, hT, hN, hA, hK⟩ := id hI
  have hc4 := hW.1
  have w0 : wdt 0 = 1 := rfl
  have w1 : wdt 1 = 1 := rfl
  have w2 : wdt 2 = 2 := rfl
  have w3 : wdt 3 = 1 := rfl
  have w4 : wdt 4 = 2 := rfl
  have h5 := hW.2.2.2.2.2.1 m
  refine px_aload_n dx_Mo_passOther_0 rfl ?_
  refine px_iload_n dx_Mo_passOther_1 rfl ?_
  refine px_iload_n dx_Mo_passOther_2 rfl ?_
  refine px_cV (Y := yy_Mo_passOther) (Yc := yy_Mo_regA) (b := 717) (As := [.int (nI (m)), .int (nI (p))]) dx_Mo_passOther_3 ml_Mo_193 mv_Mo_regA np_Mo_regA ⟨_, rfl⟩ (by decide) rfl (by decide) rfl (Nat.le_of_ble_eq_true rfl) (Nat.le_of_ble_eq_true rfl) rk_Mo_passOther_Mo_regA rfl (m_regA hM (by omega) (hF.2.2.2.2.2.2.2 (40 * m + p) (by omega)) (hW.2.2.2.2.2.2.2 _)) zz_0 ?_
  refine px_istore (lv' := [(4, .int (nI (opA (F 7 (40 * m + p))))), (0, .ref (717)), (1, .int (nI (m))), (2, .int (nI (p))), (3, .int (bfI bf))]) dx_Mo_passOther_6 (by decide) rfl ?_
  refine px_aload_n dx_Mo_passOther_8 rfl ?_
  refine px_iload_n dx_Mo_passOther_9 rfl ?_
  refine px_iload_n dx_Mo_passOther_10 rfl ?_
  refine px_cV (Y := yy_Mo_passOther) (Yc := yy_Mo_regB) (b := 717) (As := [.int (nI (m)), .int (nI (p))]) dx_Mo_passOther_11 ml_Mo_182 mv_Mo_regB np_Mo_regB ⟨_, rfl⟩ (by decide) rfl (by decide) rfl (Nat.le_of_ble_eq_true rfl) (Nat.le_of_ble_eq_true rfl) rk_Mo_passOther_Mo_regB rfl (m_regB hM (by omega) (hF.2.2.2.2.2.2.2 (40 * m + p) (by omega)) (hW.2.2.2.2.2.2.2 _)) zz_0 ?_
  refine px_istore (lv' := [(5, .int (nI (opB (F 7 (40 * m + p))))), (4, .int (nI (opA (F 7 (40 * m + p))))), (0, .ref (717)), (1, .int (nI (m))), (2, .int (nI (p))), (3, .int (bfI bf))]) dx_Mo_passOther_14 (by decide) rfl ?_
  refine px_aload_n dx_Mo_passOther_16 rfl ?_
  refine px_iload_n dx_Mo_passOther_17 rfl ?_
  refine px_iload_n dx_Mo_passOther_18 rfl ?_
  refine px_cV (Y := yy_Mo_passOther) (Yc := yy_Mo_regAA) (b := 717) (As := [.int (nI (m)), .int (nI (p))]) dx_Mo_passOther_19 ml_Mo_179 mv_Mo_regAA np_Mo_regAA ⟨_, rfl⟩ (by decide) rfl (by decide) rfl (Nat.le_of_ble_eq_true rfl) (Nat.le_of_ble_eq_true rfl) rk_Mo_passOther_Mo_regAA rfl (m_regAA hM (by omega) (hF.2.2.2.2.2.2.2 (40 * m + p) (by omega)) (hW.2.2.2.2.2.2.2 _)) zz_0 ?_
  refine px_istore (lv' := [(6, .int (nI (opN (F 7 (40 * m + p))))), (5, .int (nI (opB (F 7 (40 * m + p))))), (4, .int (nI (opA (F 7 (40 * m + p))))), (0, .ref (717)), (1, .int (nI (m))), (2, .int (nI (p))), (3, .int (bfI bf))]) dx_Mo_passOther_22 (by decide) rfl ?_
  refine px_aload_n dx_Mo_passOther_24 rfl ?_
  refine px_iload_n dx_Mo_passOther_25 rfl ?_
  refine px_iload_n dx_Mo_passOther_26 rfl ?_
  refine px_cV (Y := yy_Mo_passOther) (Yc := yy_Mo_op) (b := 717) (As := [.int (nI (m)), .int (nI (p))]) dx_Mo_passOther_27 ml_Mo_173 mv_Mo_op np_Mo_op ⟨_, rfl⟩ (by decide) rfl (by decide) rfl (Nat.le_of_ble_eq_true rfl) (Nat.le_of_ble_eq_true rfl) rk_Mo_passOther_Mo_op rfl (m_op hM (by omega) (hF.2.2.2.2.2.2.2 (40 * m + p) (by omega)) (hW.2.2.2.2.2.2.2 _)) zz_0 ?_
  by_cases k_30_0 : opS (F 7 (40 * m + p)) ∈ ([1] : List Nat)
  · refine px_lookG (e := opS (F 7 (40 * m + p))) (off := 98) [1] dx_Mo_passOther_30 (by (have := opS_lt (F 7 (40 * m + p)); omega)) k_30_0 (by decide) (by decide) rfl ?_
    have q := hnm
    unfold nmOK at q
    rw [nmW_5 (by first | assumption | (simp_all; done))] at q
    simp only [Bool.and_eq_true, hsR, decide_eq_true_eq] at q
    refine px_aload_n dx_Mo_passOther_128 rfl ?_
    refine px_iload_n dx_Mo_passOther_129 rfl ?_
    refine px_iload_n dx_Mo_passOther_130 rfl ?_
    refine px_iload dx_Mo_passOther_131 rfl ?_
    refine px_iconst (v := 1) dx_Mo_passOther_133 rfl ?_
    refine px_cV (Y := yy_Mo_passOther) (Yc := yy_Mo_is) (b := 717) (As := [.int (nI (m)), .int (nI (p)), .int (nI (opB (F 7 (40 * m + p)))), .int (1)]) dx_Mo_passOther_134 ml_Mo_255 mv_Mo_is np_Mo_is ⟨_, rfl⟩ (by decide) rfl (by decide) rfl (Nat.le_of_ble_eq_true rfl) (Nat.le_of_ble_eq_true rfl) rk_Mo_passOther_Mo_is rfl (m_is (t := 1) hM hT hm hpl (by decide) (by decide) (by omega) hT6) zz_0 ?_
    refine px_if_eqB dx_Mo_passOther_137 (fun c_137 => ?_) (fun c_137 => ?_)
    · refine px_aload_n dx_Mo_passOther_144 rfl ?_
      refine px_iload_n dx_Mo_passOther_145 rfl ?_
      refine px_iload_n dx_Mo_passOther_146 rfl ?_
      refine px_iload dx_Mo_passOther_147 rfl ?_
      refine px_iconst (v := 3) dx_Mo_passOther_149 rfl ?_
      refine px_cV (Y := yy_Mo_passOther) (Yc := yy_Mo_is) (b := 717) (As := [.int (nI (m)), .int (nI (p)), .int (nI (opB (F 7 (40 * m + p)))), .int (3)]) dx_Mo_passOther_150 ml_Mo_255 mv_Mo_is np_Mo_is ⟨_, rfl⟩ (by decide) rfl (by decide) rfl (Nat.le_of_ble_eq_true rfl) (Nat.le_of_ble_eq_true rfl) rk_Mo_passOther_Mo_is rfl (m_is (t := 3) hM hT hm hpl (by decide) (by decide) (by omega) hT6) zz_0 ?_
      refine px_if_eqB dx_Mo_passOther_153 (fun c_153 => ?_) (fun c_153 => ?_)
      · refine px_iconst (v := 0) dx_Mo_passOther_160 rfl ?_
        refine px_istore (lv' := [(7, .int (0)), (6, .int (nI (opN (F 7 (40 * m + p))))), (5, .int (nI (opB (F 7 (40 * m + p))))), (4, .int (nI (opA (F 7 (40 * m + p))))), (0, .ref (717)), (1, .int (nI (m))), (2, .int (nI (p))), (3, .int (bfI bf))]) dx_Mo_passOther_161 (by decide) rfl ?_
        refine px_aload_n dx_Mo_passOther_163 rfl ?_
        refine px_iload dx_Mo_passOther_164 rfl ?_
        refine px_if_le dx_Mo_passOther_166 (fun _ => ?_) (fun q => absurd (by decide) q)
        refine px_iconst (v := 0) dx_Mo_passOther_173 rfl ?_
        refine px_cV (Y := yy_Mo_passOther) (Yc := yy_Mo_need) (b := 717) (As := [.int (0)]) dx_Mo_passOther_174 ml_Mo_259 mv_Mo_need np_Mo_need ⟨_, rfl⟩ (by decide) rfl (by decide) rfl (Nat.le_of_ble_eq_true rfl) (Nat.le_of_ble_eq_true rfl) rk_Mo_passOther_Mo_need rfl (m_needC (w := false) (g := false) hM h21) zz_0 ?_
        have h21 : gI (sI σ 717 21 (b2i (false || !false))) 717 21 = b2i (!false) := by rw [gI_s, Bool.false_or]
        have hI := hI.w (v := b2i (false || !false))
        obtain ⟨hM, hF, hT, hN, hA, hK⟩ := id hI
        refine px_aload_n dx_Mo_passOther_177 rfl ?_
        refine px_iload dx_Mo_passOther_178 rfl ?_
        refine px_iload dx_Mo_passOther_180 rfl ?_
        refine px_cVR (Y := yy_Mo_passOther) (Yc := yy_Mo_set) (b := 717) (As := [.int (nI (opA (F 7 (40 * m + p)))), .int (0)]) dx_Mo_passOther_182 ml_Mo_263 mv_Mo_set np_Mo_set ⟨_, rfl⟩ (by decide) rfl (by decide) rfl (Nat.le_of_ble_eq_true rfl) (Nat.le_of_ble_eq_true rfl) rk_Mo_passOther_Mo_set rfl (m_set_p (t := 0) hM hN hP (by decide) (by omega)) zz_0 (fun r_182 τ1 h_182 => ?_)
        obtain ⟨rfl, hA2, hN2⟩ := h_182
        have hI := hI.st hA2 hN2
        have h21 := (PI.s21 hA2).trans h21
        obtain ⟨hM, hF, hT, hN, hA, hK⟩ := id hI
        exact px_vret dx_Mo_passOther_185 rfl (by (have e1 : poG F m p (T p) (opS (F 7 (40 * m + p))) = false := by (rw [poG_1 (by first | assumption | (simp only [List.mem_cons, List.not_mem_nil, or_false] at *; omega))]; try simp [*])); (have e2 : poN F m p bf (T p) (opS (F 7 (40 * m + p))) = stN (T p) (opA (F 7 (40 * m + p))) 0 (decide (0 = 2 ∨ 0 = 4)) := by (rw [poN_1 (by first | assumption | (simp only [List.mem_cons, List.not_mem_nil, or_false] at *; omega))] <;> first | rfl | (simp [stT, cbF, *]; done))); exact hp0 _ _ ⟨rfl, by rw [e2]; exact hI, by rw [e1]; exact h21⟩)
      · refine px_iconst (v := 3) dx_Mo_passOther_156 rfl ?_
        refine px_goto dx_Mo_passOther_157 ?_
        refine px_istore (lv' := [(7, .int (3)), (6, .int (nI (opN (F 7 (40 * m + p))))), (5, .int (nI (opB (F 7 (40 * m + p))))), (4, .int (nI (opA (F 7 (40 * m + p))))), (0, .ref (717)), (1, .int (nI (m))), (2, .int (nI (p))), (3, .int (bfI bf))]) dx_Mo_passOther_161 (by decide) rfl ?_
        refine px_aload_n dx_Mo_passOther_163 rfl ?_
        refine px_iload dx_Mo_passOther_164 rfl ?_
        refine px_if_le dx_Mo_passOther_166 (fun q => absurd q (by decide)) (fun _ => ?_)
        refine px_iconst (v := 1) dx_Mo_passOther_169 rfl ?_
        refine px_goto dx_Mo_passOther_170 ?_
        refine px_cV (Y := yy_Mo_passOther) (Yc := yy_Mo_need) (b := 717) (As := [.int (1)]) dx_Mo_passOther_174 ml_Mo_259 mv_Mo_need np_Mo_need ⟨_, rfl⟩ (by decide) rfl (by decide) rfl (Nat.le_of_ble_eq_true rfl) (Nat.le_of_ble_eq_true rfl) rk_Mo_passOther_Mo_need rfl (m_needC (w := false) (g := true) hM h21) zz_0 ?_
        have h21 : gI (sI σ 717 21 (b2i (false || !true))) 717 21 = b2i (!true) := by rw [gI_s, Bool.false_or]
        have hI := hI.w (v := b2i (false || !true))
        obtain ⟨hM, hF, hT, hN, hA, hK⟩ := id hI
        refine px_aload_n dx_Mo_passOther_177 rfl ?_
        refine px_iload dx_Mo_passOther_178 rfl ?_
        refine px_iload dx_Mo_passOther_180 rfl ?_
        refine px_cVR (Y := yy_Mo_passOther) (Yc := yy_Mo_set) (b := 717) (As := [.int (nI (opA (F 7 (40 * m + p)))), .int (3)]) dx_Mo_passOther_182 ml_Mo_263 mv_Mo_set np_Mo_set ⟨_, rfl⟩ (by decide) rfl (by decide) rfl (Nat.le_of_ble_eq_true rfl) (Nat.le_of_ble_eq_true rfl) rk_Mo_passOther_Mo_set rfl (m_set_p (t := 3) hM hN hP (by decide) (by omega)) zz_0 (fun r_182 τ2 h_182 => ?_)
        obtain ⟨rfl, hA2, hN2⟩ := h_182
        have hI := hI.st hA2 hN2
        have h21 := (PI.s21 hA2).trans h21
        obtain ⟨hM, hF, hT, hN, hA, hK⟩ := id hI
        exact px_vret dx_Mo_passOther_185 rfl (by (have e1 : poG F m p (T p) (opS (F 7 (40 * m + p))) = true := by (rw [poG_1 (by first | assumption | (simp only [List.mem_cons, List.not_mem_nil, or_false] at *; omega))]; try simp [*])); (have e2 : poN F m p bf (T p) (opS (F 7 (40 * m + p))) = stN (T p) (opA (F 7 (40 * m + p))) 3 (decide (3 = 2 ∨ 3 = 4)) := by (rw [poN_1 (by first | assumption | (simp only [List.mem_cons, List.not_mem_nil, or_false] at *; omega))] <;> first | rfl | (simp [stT, cbF, *]; done))); exact hp0 _ _ ⟨rfl, by rw [e2]; exact hI, by rw [e1]; exact h21⟩)
    · refine px_iconst (v := 1) dx_Mo_passOther_140 rfl ?_
      refine px_goto dx_Mo_passOther_141 ?_
      refine px_istore (lv' := [(7, .int (1)), (6, .int (nI (opN (F 7 (40 * m + p))))), (5, .int (nI (opB (F 7 (40 * m + p))))), (4, .int (nI (opA (F 7 (40 * m + p))))), (0, .ref (717)), (1, .int (nI (m))), (2, .int (nI (p))), (3, .int (bfI bf))]) dx_Mo_passOther_161 (by decide) rfl ?_
      refine px_aload_n dx_Mo_passOther_163 rfl ?_
      refine px_iload dx_Mo_passOther_164 rfl ?_
      refine px_if_le dx_Mo_passOther_166 (fun q => absurd q (by decide)) (fun _ => ?_)
      refine px_iconst (v := 1) dx_Mo_passOther_169 rfl ?_
      refine px_goto dx_Mo_passOther_170 ?_
      refine px_cV (Y := yy_Mo_passOther) (Yc := yy_Mo_need) (b := 717) (As := [.int (1)]) dx_Mo_passOther_174 ml_Mo_259 mv_Mo_need np_Mo_need ⟨_, rfl⟩ (by decide) rfl (by decide) rfl (Nat.le_of_ble_eq_true rfl) (Nat.le_of_ble_eq_true rfl) rk_Mo_passOther_Mo_need rfl (m_needC (w := false) (g := true) hM h21) zz_0 ?_
      have h21 : gI (sI σ 717 21 (b2i (false || !true))) 717 21 = b2i (!true) := by rw [gI_s, Bool.false_or]
      have hI := hI.w (v := b2i (false || !true))
      obtain ⟨hM, hF, hT, hN, hA, hK⟩ := id hI
      refine px_aload_n dx_Mo_passOther_177 rfl ?_
      refine px_iload dx_Mo_passOther_178 rfl ?_
      refine px_iload dx_Mo_passOther_180 rfl ?_
      refine px_cVR (Y := yy_Mo_passOther) (Yc := yy_Mo_set) (b := 717) (As := [.int (nI (opA (F 7 (40 * m + p)))), .int (1)]) dx_Mo_passOther_182 ml_Mo_263 mv_Mo_set np_Mo_set ⟨_, rfl⟩ (by decide) rfl (by decide) rfl (Nat.le_of_ble_eq_true rfl) (Nat.le_of_ble_eq_true rfl) rk_Mo_passOther_Mo_set rfl (m_set_p (t := 1) hM hN hP (by decide) (by omega)) zz_0 (fun r_182 τ3 h_182 => ?_)
      obtain ⟨rfl, hA2, hN2⟩ := h_182
      have hI := hI.st hA2 hN2
      have h21 := (PI.s21 hA2).trans h21
      obtain ⟨hM, hF, hT, hN, hA, hK⟩ := id hI
      exact px_vret dx_Mo_passOther_185 rfl (by (have e1 : poG F m p (T p) (opS (F 7 (40 * m + p))) = true := by (rw [poG_1 (by first | assumption | (simp only [List.mem_cons, List.not_mem_nil, or_false] at *; omega))]; try simp [*])); (have e2 : poN F m p bf (T p) (opS (F 7 (40 * m + p))) = stN (T p) (opA (F 7 (40 * m + p))) 1 (decide (1 = 2 ∨ 1 = 4)) := by (rw [poN_1 (by first | assumption | (simp only [List.mem_cons, List.not_mem_nil, or_false] at *; omega))] <;> first | rfl | (simp [stT, cbF, *]; done))); exact hp0 _ _ ⟨rfl, by rw [e2]; exact hI, by rw [e1]; exact h21⟩)
  by_cases k_30_1 : opS (F 7 (40 * m + p)) ∈ ([4] : List Nat)
  · refine px_lookG (e := opS (F 7 (40 * m + p))) (off := 156) [4] dx_Mo_passOther_30 (by (have := opS_lt (F 7 (40 * m + p)); omega)) k_30_1 (by decide) (by decide) rfl ?_
    have q := hnm
    unfold nmOK at q
    rw [nmW_6 (by first | assumption | (simp_all; done))] at q
    simp only [Bool.and_eq_true, hsR, decide_eq_true_eq] at q
    refine px_aload_n dx_Mo_passOther_186 rfl ?_
    refine px_iload_n dx_Mo_passOther_187 rfl ?_
    refine px_iload_n dx_Mo_passOther_188 rfl ?_
    refine px_iload dx_Mo_passOther_189 rfl ?_
    refine px_iconst (v := 2) dx_Mo_passOther_191 rfl ?_
    refine px_cV (Y := yy_Mo_passOther) (Yc := yy_Mo_is) (b := 717) (As := [.int (nI (m)), .int (nI (p)), .int (nI (opB (F 7 (40 * m + p)))), .int (2)]) dx_Mo_passOther_192 ml_Mo_255 mv_Mo_is np_Mo_is ⟨_, rfl⟩ (by decide) rfl (by decide) rfl (Nat.le_of_ble_eq_true rfl) (Nat.le_of_ble_eq_true rfl) rk_Mo_passOther_Mo_is rfl (m_is (t := 2) hM hT hm hpl (by decide) (by decide) (by omega) hT6) zz_0 ?_
    refine px_if_eqB dx_Mo_passOther_195 (fun c_195 => ?_) (fun c_195 => ?_)
    · refine px_aload_n dx_Mo_passOther_202 rfl ?_
      refine px_iload_n dx_Mo_passOther_203 rfl ?_
      refine px_iload_n dx_Mo_passOther_204 rfl ?_
      refine px_iload dx_Mo_passOther_205 rfl ?_
      refine px_iconst (v := 4) dx_Mo_passOther_207 rfl ?_
      refine px_cV (Y := yy_Mo_passOther) (Yc := yy_Mo_is) (b := 717) (As := [.int (nI (m)), .int (nI (p)), .int (nI (opB (F 7 (40 * m + p)))), .int (4)]) dx_Mo_passOther_208 ml_Mo_255 mv_Mo_is np_Mo_is ⟨_, rfl⟩ (by decide) rfl (by decide) rfl (Nat.le_of_ble_eq_true rfl) (Nat.le_of_ble_eq_true rfl) rk_Mo_passOther_Mo_is rfl (m_is (t := 4) hM hT hm hpl (by decide) (by decide) (by omega) hT6) zz_0 ?_
      refine px_if_eqB dx_Mo_passOther_211 (fun c_211 => ?_) (fun c_211 => ?_)
      · refine px_iconst (v := -1) dx_Mo_passOther_218 rfl ?_
        refine px_istore (lv' := [(8, .int (-1)), (6, .int (nI (opN (F 7 (40 * m + p))))), (5, .int (nI (opB (F 7 (40 * m + p))))), (4, .int (nI (opA (F 7 (40 * m + p))))), (0, .ref (717)), (1, .int (nI (m))), (2, .int (nI (p))), (3, .int (bfI bf))]) dx_Mo_passOther_219 (by decide) rfl ?_
        refine px_aload_n dx_Mo_passOther_221 rfl ?_
        refine px_iload dx_Mo_passOther_222 rfl ?_
        refine px_if_le dx_Mo_passOther_224 (fun _ => ?_) (fun q => absurd (by decide) q)
        refine px_iconst (v := 0) dx_Mo_passOther_231 rfl ?_
        refine px_cV (Y := yy_Mo_passOther) (Yc := yy_Mo_need) (b := 717) (As := [.int (0)]) dx_Mo_passOther_232 ml_Mo_259 mv_Mo_need np_Mo_need ⟨_, rfl⟩ (by decide) rfl (by decide) rfl (Nat.le_of_ble_eq_true rfl) (Nat.le_of_ble_eq_true rfl) rk_Mo_passOther_Mo_need rfl (m_needC (w := false) (g := false) hM h21) zz_0 ?_
        have h21 : gI (sI σ 717 21 (b2i (false || !false))) 717 21 = b2i (!false) := by rw [gI_s, Bool.false_or]
        have hI := hI.w (v := b2i (false || !false))
        obtain ⟨hM, hF, hT, hN, hA, hK⟩ := id hI
        refine px_aload_n dx_Mo_passOther_235 rfl ?_
        refine px_iload dx_Mo_passOther_236 rfl ?_
        refine px_iload dx_Mo_passOther_238 rfl ?_
        refine px_cVR (Y := yy_Mo_passOther) (Yc := yy_Mo_set) (b := 717) (As := [.int (nI (opA (F 7 (40 * m + p)))), .int (-1)]) dx_Mo_passOther_240 ml_Mo_263 mv_Mo_set np_Mo_set ⟨_, rfl⟩ (by decide) rfl (by decide) rfl (Nat.le_of_ble_eq_true rfl) (Nat.le_of_ble_eq_true rfl) rk_Mo_passOther_Mo_set rfl (m_set_n hM hN hP (by omega)) zz_0 (fun r_240 τ4 h_240 => ?_)
        obtain ⟨rfl, hA2, hN2⟩ := h_240
        have hI := hI.st hA2 hN2
        have h21 := (PI.s21 hA2).trans h21
        obtain ⟨hM, hF, hT, hN, hA, hK⟩ := id hI
        exact px_vret dx_Mo_passOther_243 rfl (by (have e1 : poG F m p (T p) (opS (F 7 (40 * m + p))) = false := by (rw [poG_4 (by first | assumption | (simp only [List.mem_cons, List.not_mem_nil, or_false] at *; omega))]; try simp [*])); (have e2 : poN F m p bf (T p) (opS (F 7 (40 * m + p))) = stN (T p) (opA (F 7 (40 * m + p))) 0 true := by (rw [poN_4 (by first | assumption | (simp only [List.mem_cons, List.not_mem_nil, or_false] at *; omega))] <;> first | rfl | (simp [stT, cbF, *]; done))); exact hp0 _ _ ⟨rfl, by rw [e2]; exact hI, by rw [e1]; exact h21⟩)
      · refine px_iconst (v := 4) dx_Mo_passOther_214 rfl ?_
        refine px_goto dx_Mo_passOther_215 ?_
        refine px_istore (lv' := [(8, .int (4)), (6, .int (nI (opN (F 7 (40 * m + p))))), (5, .int (nI (opB (F 7 (40 * m + p))))), (4, .int (nI (opA (F 7 (40 * m + p))))), (0, .ref (717)), (1, .int (nI (m))), (2, .int (nI (p))), (3, .int (bfI bf))]) dx_Mo_passOther_219 (by decide) rfl ?_
        refine px_aload_n dx_Mo_passOther_221 rfl ?_
        refine px_iload dx_Mo_passOther_222 rfl ?_
        refine px_if_le dx_Mo_passOther_224 (fun q => absurd q (by decide)) (fun _ => ?_)
        refine px_iconst (v := 1) dx_Mo_passOther_227 rfl ?_
        refine px_goto dx_Mo_passOther_228 ?_
        refine px_cV (Y := yy_Mo_passOther) (Yc := yy_Mo_need) (b := 717) (As := [.int (1)]) dx_Mo_passOther_232 ml_Mo_259 mv_Mo_need np_Mo_need ⟨_, rfl⟩ (by decide) rfl (by decide) rfl (Nat.le_of_ble_eq_true rfl) (Nat.le_of_ble_eq_true rfl) rk_Mo_passOther_Mo_need rfl (m_needC (w := false) (g := true) hM h21) zz_0 ?_
        have h21 : gI (sI σ 717 21 (b2i (false || !true))) 717 21 = b2i (!true) := by rw [gI_s, Bool.false_or]
        have hI := hI.w (v := b2i (false || !true))
        obtain ⟨hM, hF, hT, hN, hA, hK⟩ := id hI
        refine px_aload_n dx_Mo_passOther_235 rfl ?_
        refine px_iload dx_Mo_passOther_236 rfl ?_
        refine px_iload dx_Mo_passOther_238 rfl ?_
        refine px_cVR (Y := yy_Mo_passOther) (Yc := yy_Mo_set) (b := 717) (As := [.int (nI (opA (F 7 (40 * m + p)))), .int (4)]) dx_Mo_passOther_240 ml_Mo_263 mv_Mo_set np_Mo_set ⟨_, rfl⟩ (by decide) rfl (by decide) rfl (Nat.le_of_ble_eq_true rfl) (Nat.le_of_ble_eq_true rfl) rk_Mo_passOther_Mo_set rfl (m_set_p (t := 4) hM hN hP (by decide) (by omega)) zz_0 (fun r_240 τ5 h_240 => ?_)
        obtain ⟨rfl, hA2, hN2⟩ := h_240
        have hI := hI.st hA2 hN2
        have h21 := (PI.s21 hA2).trans h21
        obtain ⟨hM, hF, hT, hN, hA, hK⟩ := id hI
        exact px_vret dx_Mo_passOther_243 rfl (by (have e1 : poG F m p (T p) (opS (F 7 (40 * m + p))) = true := by (rw [poG_4 (by first | assumption | (simp only [List.mem_cons, List.not_mem_nil, or_false] at *; omega))]; try simp [*])); (have e2 : poN F m p bf (T p) (opS (F 7 (40 * m + p))) = stN (T p) (opA (F 7 (40 * m + p))) 4 (decide (4 = 2 ∨ 4 = 4)) := by (rw [poN_4 (by first | assumption | (simp only [List.mem_cons, List.not_mem_nil, or_false] at *; omega))] <;> first | rfl | (simp [stT, cbF, *]; done))); exact hp0 _ _ ⟨rfl, by rw [e2]; exact hI, by rw [e1]; exact h21⟩)
    · refine px_iconst (v := 2) dx_Mo_passOther_198 rfl ?_
      refine px_goto dx_Mo_passOther_199 ?_
      refine px_istore (lv' := [(8, .int (2)), (6, .int (nI (opN (F 7 (40 * m + p))))), (5, .int (nI (opB (F 7 (40 * m + p))))), (4, .int (nI (opA (F 7 (40 * m + p))))), (0, .ref (717)), (1, .int (nI (m))), (2, .int (nI (p))), (3, .int (bfI bf))]) dx_Mo_passOther_219 (by decide) rfl ?_
      refine px_aload_n dx_Mo_passOther_221 rfl ?_
      refine px_iload dx_Mo_passOther_222 rfl ?_
      refine px_if_le dx_Mo_passOther_224 (fun q => absurd q (by decide)) (fun _ => ?_)
      refine px_iconst (v := 1) dx_Mo_passOther_227 rfl ?_
      refine px_goto dx_Mo_passOther_228 ?_
      refine px_cV (Y := yy_Mo_passOther) (Yc := yy_Mo_need) (b := 717) (As := [.int (1)]) dx_Mo_passOther_232 ml_Mo_259 mv_Mo_need np_Mo_need ⟨_, rfl⟩ (by decide) rfl (by decide) rfl (Nat.le_of_ble_eq_true rfl) (Nat.le_of_ble_eq_true rfl) rk_Mo_passOther_Mo_need rfl (m_needC (w := false) (g := true) hM h21) zz_0 ?_
      have h21 : gI (sI σ 717 21 (b2i (false || !true))) 717 21 = b2i (!true) := by rw [gI_s, Bool.false_or]
      have hI := hI.w (v := b2i (false || !true))
      obtain ⟨hM, hF, hT, hN, hA, hK⟩ := id hI
      refine px_aload_n dx_Mo_passOther_235 rfl ?_
      refine px_iload dx_Mo_passOther_236 rfl ?_
      refine px_iload dx_Mo_passOther_238 rfl ?_
      refine px_cVR (Y := yy_Mo_passOther) (Yc := yy_Mo_set) (b := 717) (As := [.int (nI (opA (F 7 (40 * m + p)))), .int (2)]) dx_Mo_passOther_240 ml_Mo_263 mv_Mo_set np_Mo_set ⟨_, rfl⟩ (by decide) rfl (by decide) rfl (Nat.le_of_ble_eq_true rfl) (Nat.le_of_ble_eq_true rfl) rk_Mo_passOther_Mo_set rfl (m_set_p (t := 2) hM hN hP (by decide) (by omega)) zz_0 (fun r_240 τ6 h_240 => ?_)
      obtain ⟨rfl, hA2, hN2⟩ := h_240
      have hI := hI.st hA2 hN2
      have h21 := (PI.s21 hA2).trans h21
      obtain ⟨hM, hF, hT, hN, hA, hK⟩ := id hI
      exact px_vret dx_Mo_passOther_243 rfl (by (have e1 : poG F m p (T p) (opS (F 7 (40 * m + p))) = true := by (rw [poG_4 (by first | assumption | (simp only [List.mem_cons, List.not_mem_nil, or_false] at *; omega))]; try simp [*])); (have e2 : poN F m p bf (T p) (opS (F 7 (40 * m + p))) = stN (T p) (opA (F 7 (40 * m + p))) 2 (decide (2 = 2 ∨ 2 = 4)) := by (rw [poN_4 (by first | assumption | (simp only [List.mem_cons, List.not_mem_nil, or_false] at *; omega))] <;> first | rfl | (simp [stT, cbF, *]; done))); exact hp0 _ _ ⟨rfl, by rw [e2]; exact hI, by rw [e1]; exact h21⟩)
  by_cases k_30_2 : opS (F 7 (40 * m + p)) ∈ ([10, 11] : List Nat)
  · refine px_lookG (e := opS (F 7 (40 * m + p))) (off := 214) [10, 11] dx_Mo_passOther_30 (by (have := opS_lt (F 7 (40 * m + p)); omega)) k_30_2 (by decide) (by decide) rfl ?_
    obtain ⟨q, rfl, hc, hr0, hr1, -⟩ := res_ok hnm hko k_30_2
    have hq4 := hbf q rfl
    refine px_aload_n dx_Mo_passOther_244 rfl ?_
    refine px_iload dx_Mo_passOther_245 rfl ?_
    refine px_aload_n dx_Mo_passOther_247 rfl ?_
    refine px_getR (r := 721) dx_Mo_passOther_248 fl_Mo_23 rfl (by decide) rfl (hM 8) ?_
    refine px_aload_n dx_Mo_passOther_251 rfl ?_
    refine px_iload_n dx_Mo_passOther_252 rfl ?_
    refine px_iload_n dx_Mo_passOther_253 rfl ?_
    refine px_cV (Y := yy_Mo_passOther) (Yc := yy_Mo_number) (b := 717) (As := [.int (nI (m)), .int (nI (q))]) dx_Mo_passOther_254 ml_Mo_176 mv_Mo_number np_Mo_number ⟨_, rfl⟩ (by decide) rfl (by decide) rfl (Nat.le_of_ble_eq_true rfl) (Nat.le_of_ble_eq_true rfl) rk_Mo_passOther_Mo_number rfl (m_number_p hM (by omega) (hF.2.2.2.2.2.2.2 (40 * m + (q + 1)) (by omega)) (hW.2.2.2.2.2.2.2 _) (by have := hW.1; omega)) zz_0 ?_
    refine px_ialdN (j := F 7 (40 * m + (q + 1))) dx_Mo_passOther_257 rfl (by decide) (by first | omega | (have := hW.1; omega)) ?_
    refine px_eqi (y := nI (F 2 (F 7 (40 * m + (q + 1))))) (hF.2.2.1 (F 7 (40 * m + (q + 1))) (by omega)) ?_
    refine px_cVR (Y := yy_Mo_passOther) (Yc := yy_Mo_set) (b := 717) (As := [.int (nI (opN (F 7 (40 * m + p)))), .int (nI (F 2 (F 7 (40 * m + (q + 1)))))]) dx_Mo_passOther_258 ml_Mo_263 mv_Mo_set np_Mo_set ⟨_, rfl⟩ (by decide) rfl (by decide) rfl (Nat.le_of_ble_eq_true rfl) (Nat.le_of_ble_eq_true rfl) rk_Mo_passOther_Mo_set rfl (m_set_p (t := F 2 (F 7 (40 * m + (q + 1)))) hM hN hP (hW.2.2.1 _) (by omega)) zz_0 (fun r_258 τ7 h_258 => ?_)
    obtain ⟨rfl, hA2, hN2⟩ := h_258
    have hI := hI.st hA2 hN2
    have h21 := (PI.s21 hA2).trans h21
    obtain ⟨hM, hF, hT, hN, hA, hK⟩ := id hI
    exact px_vret dx_Mo_passOther_261 rfl (by (have e1 : poG F m p (T p) (opS (F 7 (40 * m + p))) = true := by (rw [poG_10 (by first | assumption | (simp only [List.mem_cons, List.not_mem_nil, or_false] at *; omega))]; try simp [*])); (have e2 : poN F m p (some q) (T p) (opS (F 7 (40 * m + p))) = stN (T p) (opN (F 7 (40 * m + p))) (F 2 (F 7 (40 * m + (q + 1)))) (decide (F 2 (F 7 (40 * m + (q + 1))) = 2 ∨ F 2 (F 7 (40 * m + (q + 1))) = 4)) := by (rw [poN_10 (by first | assumption | (simp only [List.mem_cons, List.not_mem_nil, or_false] at *; omega))] <;> first | rfl | (simp [stT, cbF, *]; done))); exact hp0 _ _ ⟨rfl, by rw [e2]; exact hI, by rw [e1]; exact h21⟩)
  by_cases k_30_3 : opS (F 7 (40 * m + p)) ∈ ([15, 16] : List Nat)
  · refine px_lookG (e := opS (F 7 (40 * m + p))) (off := 232) [15, 16] dx_Mo_passOther_30 (by (have := opS_lt (F 7 (40 * m + p)); omega)) k_30_3 (by decide) (by decide) rfl ?_
    obtain ⟨hr0, hr1⟩ := ret_ok hnm hko (by first | assumption | (simp_all; done))
    refine px_aload_n dx_Mo_passOther_262 rfl ?_
    refine px_aload_n dx_Mo_passOther_263 rfl ?_
    refine px_iload_n dx_Mo_passOther_264 rfl ?_
    refine px_iload_n dx_Mo_passOther_265 rfl ?_
    refine px_iload dx_Mo_passOther_266 rfl ?_
    refine px_aload_n dx_Mo_passOther_268 rfl ?_
    refine px_getR (r := 721) dx_Mo_passOther_269 fl_Mo_23 rfl (by decide) rfl (hM 8) ?_
    refine px_iload_n dx_Mo_passOther_272 rfl ?_
    refine px_ialdN (j := m) dx_Mo_passOther_273 rfl (by decide) (by first | omega | (have := hW.1; omega)) ?_
    refine px_eqi (y := nI (F 2 m)) (hF.2.2.1 m (by omega)) ?_
    refine px_cV (Y := yy_Mo_passOther) (Yc := yy_Mo_is) (b := 717) (As := [.int (nI (m)), .int (nI (p)), .int (nI (opN (F 7 (40 * m + p)))), .int (nI (F 2 m))]) dx_Mo_passOther_274 ml_Mo_255 mv_Mo_is np_Mo_is ⟨_, rfl⟩ (by decide) rfl (by decide) rfl (Nat.le_of_ble_eq_true rfl) (Nat.le_of_ble_eq_true rfl) rk_Mo_passOther_Mo_is rfl (m_is (t := F 2 m) hM hT hm hpl (by omega) (hW.2.2.1 _) (by omega) hT6) zz_0 ?_
    refine px_cV (Y := yy_Mo_passOther) (Yc := yy_Mo_need) (b := 717) (As := [.int (b2i (isT (T p) (opN (F 7 (40 * m + p))) (F 2 m)))]) dx_Mo_passOther_277 ml_Mo_259 mv_Mo_need np_Mo_need ⟨_, rfl⟩ (by decide) rfl (by decide) rfl (Nat.le_of_ble_eq_true rfl) (Nat.le_of_ble_eq_true rfl) rk_Mo_passOther_Mo_need rfl (m_needC (w := false) (g := isT (T p) (opN (F 7 (40 * m + p))) (F 2 m)) hM h21) zz_0 ?_
    have h21 : gI (sI σ 717 21 (b2i (false || !(isT (T p) (opN (F 7 (40 * m + p))) (F 2 m))))) 717 21 = b2i (!(isT (T p) (opN (F 7 (40 * m + p))) (F 2 m))) := by rw [gI_s, Bool.false_or]
    have hI := hI.w (v := b2i (false || !(isT (T p) (opN (F 7 (40 * m + p))) (F 2 m))))
    obtain ⟨hM, hF, hT, hN, hA, hK⟩ := id hI
    exact px_vret dx_Mo_passOther_280 rfl (by (have e1 : poG F m p (T p) (opS (F 7 (40 * m + p))) = isT (T p) (opN (F 7 (40 * m + p))) (F 2 m) := by (rw [poG_15 (by first | assumption | (simp only [List.mem_cons, List.not_mem_nil, or_false] at *; omega))]; try simp [*])); (have e2 : poN F m p bf (T p) (opS (F 7 (40 * m + p))) = T p := by (rw [poN_15 (by first | assumption | (simp only [List.mem_cons, List.not_mem_nil, or_false] at *; omega))] <;> first | rfl | (simp [stT, cbF, *]; done))); exact hp0 _ _ ⟨rfl, by rw [e2]; exact hI, by rw [e1]; exact h21⟩)
  by_cases k_30_4 : opS (F 7 (40 * m + p)) ∈ ([18] : List Nat)
  · refine px_lookG (e := opS (F 7 (40 * m + p))) (off := 251) [18] dx_Mo_passOther_30 (by (have := opS_lt (F 7 (40 * m + p)); omega)) k_30_4 (by decide) (by decide) rfl ?_
    have q := hnm
    unfold nmOK at q
    rw [nmW_9 (by first | assumption | (simp_all; done))] at q
    simp only [Bool.and_eq_true, hsR, decide_eq_true_eq] at q
    refine px_aload_n dx_Mo_passOther_281 rfl ?_
    refine px_iload dx_Mo_passOther_282 rfl ?_
    refine px_iconst (v := 1) dx_Mo_passOther_284 rfl ?_
    refine px_cVR (Y := yy_Mo_passOther) (Yc := yy_Mo_set) (b := 717) (As := [.int (nI (opA (F 7 (40 * m + p)))), .int (1)]) dx_Mo_passOther_285 ml_Mo_263 mv_Mo_set np_Mo_set ⟨_, rfl⟩ (by decide) rfl (by decide) rfl (Nat.le_of_ble_eq_true rfl) (Nat.le_of_ble_eq_true rfl) rk_Mo_passOther_Mo_set rfl (m_set_p (t := 1) hM hN hP (by decide) (by omega)) zz_0 (fun r_285 τ8 h_285 => ?_)
    obtain ⟨rfl, hA2, hN2⟩ := h_285
    have hI := hI.st hA2 hN2
    have h21 := (PI.s21 hA2).trans h21
    obtain ⟨hM, hF, hT, hN, hA, hK⟩ := id hI
    exact px_vret dx_Mo_passOther_288 rfl (by (have e1 : poG F m p (T p) (opS (F 7 (40 * m + p))) = true := by (rw [poG_18 (by first | assumption | (simp only [List.mem_cons, List.not_mem_nil, or_false] at *; omega))]; try simp [*])); (have e2 : poN F m p bf (T p) (opS (F 7 (40 * m + p))) = stN (T p) (opA (F 7 (40 * m + p))) 1 (decide (1 = 2 ∨ 1 = 4)) := by (rw [poN_18 (by first | assumption | (simp only [List.mem_cons, List.not_mem_nil, or_false] at *; omega))] <;> first | rfl | (simp [stT, cbF, *]; done))); exact hp0 _ _ ⟨rfl, by rw [e2]; exact hI, by rw [e1]; exact h21⟩)
  by_cases k_30_5 : opS (F 7 (40 * m + p)) ∈ ([19, 96] : List Nat)
  · refine px_lookG (e := opS (F 7 (40 * m + p))) (off := 259) [19, 96] dx_Mo_passOther_30 (by (have := opS_lt (F 7 (40 * m + p)); omega)) k_30_5 (by decide) (by decide) rfl ?_
    have q := nm_19 hnm k_30_5
    refine px_aload_n dx_Mo_passOther_289 rfl ?_
    refine px_iload dx_Mo_passOther_290 rfl ?_
    refine px_iconst (v := 1) dx_Mo_passOther_292 rfl ?_
    refine px_cVR (Y := yy_Mo_passOther) (Yc := yy_Mo_set) (b := 717) (As := [.int (nI (opN (F 7 (40 * m + p)))), .int (1)]) dx_Mo_passOther_293 ml_Mo_263 mv_Mo_set np_Mo_set ⟨_, rfl⟩ (by decide) rfl (by decide) rfl (Nat.le_of_ble_eq_true rfl) (Nat.le_of_ble_eq_true rfl) rk_Mo_passOther_Mo_set rfl (m_set_p (t := 1) hM hN hP (by decide) (by omega)) zz_0 (fun r_293 τ9 h_293 => ?_)
    obtain ⟨rfl, hA2, hN2⟩ := h_293
    have hI := hI.st hA2 hN2
    have h21 := (PI.s21 hA2).trans h21
    obtain ⟨hM, hF, hT, hN, hA, hK⟩ := id hI
    exact px_vret dx_Mo_passOther_296 rfl (by (have e1 : poG F m p (T p) (opS (F 7 (40 * m + p))) = true := by (rw [poG_19 (by first | assumption | (simp only [List.mem_cons, List.not_mem_nil, or_false] at *; omega))]; try simp [*])); (have e2 : poN F m p bf (T p) (opS (F 7 (40 * m + p))) = stN (T p) (opN (F 7 (40 * m + p))) 1 (decide (1 = 2 ∨ 1 = 4)) := by (rw [poN_19 (by first | assumption | (simp only [List.mem_cons, List.not_mem_nil, or_false] at *; omega))] <;> first | rfl | (simp [stT, cbF, *]; done))); exact hp0 _ _ ⟨rfl, by rw [e2]; exact hI, by rw [e1]; exact h21⟩)
  by_cases k_30_6 : opS (F 7 (40 * m + p)) ∈ ([22] : List Nat)
  · refine px_lookG (e := opS (F 7 (40 * m + p))) (off := 267) [22] dx_Mo_passOther_30 (by (have := opS_lt (F 7 (40 * m + p)); omega)) k_30_6 (by decide) (by decide) rfl ?_
    have q := nm_22 hnm k_30_6
    refine px_aload_n dx_Mo_passOther_297 rfl ?_
    refine px_iload dx_Mo_passOther_298 rfl ?_
    refine px_iconst (v := 2) dx_Mo_passOther_300 rfl ?_
    refine px_cVR (Y := yy_Mo_passOther) (Yc := yy_Mo_set) (b := 717) (As := [.int (nI (opN (F 7 (40 * m + p)))), .int (2)]) dx_Mo_passOther_301 ml_Mo_263 mv_Mo_set np_Mo_set ⟨_, rfl⟩ (by decide) rfl (by decide) rfl (Nat.le_of_ble_eq_true rfl) (Nat.le_of_ble_eq_true rfl) rk_Mo_passOther_Mo_set rfl (m_set_p (t := 2) hM hN hP (by decide) (by omega)) zz_0 (fun r_301 τ10 h_301 => ?_)
    obtain ⟨rfl, hA2, hN2⟩ := h_301
    have hI := hI.st hA2 hN2
    have h21 := (PI.s21 hA2).trans h21
    obtain ⟨hM, hF, hT, hN, hA, hK⟩ := id hI
    exact px_vret dx_Mo_passOther_304 rfl (by (have e1 : poG F m p (T p) (opS (F 7 (40 * m + p))) = true := by (rw [poG_22 (by first | assumption | (simp only [List.mem_cons, List.not_mem_nil, or_false] at *; omega))]; try simp [*])); (have e2 : poN F m p bf (T p) (opS (F 7 (40 * m + p))) = stN (T p) (opN (F 7 (40 * m + p))) 2 (decide (2 = 2 ∨ 2 = 4)) := by (rw [poN_22 (by first | assumption | (simp only [List.mem_cons, List.not_mem_nil, or_false] at *; omega))] <;> first | rfl | (simp [stT, cbF, *]; done))); exact hp0 _ _ ⟨rfl, by rw [e2]; exact hI, by rw [e1]; exact h21⟩)
  by_cases k_30_7 : opS (F 7 (40 * m + p)) ∈ ([113] : List Nat)
  · refine px_lookG (e := opS (F 7 (40 * m + p))) (off := 275) [113] dx_Mo_passOther_30 (by (have := opS_lt (F 7 (40 * m + p)); omega)) k_30_7 (by decide) (by decide) rfl ?_
    have hag : agT F m p = true := by (have q := hnm; unfold nmOK at q; rw [nmW_11 (by first | assumption | (simp_all; done))] at q; exact q)
    refine px_aload_n dx_Mo_passOther_305 rfl ?_
    refine px_iload_n dx_Mo_passOther_306 rfl ?_
    refine px_iload_n dx_Mo_passOther_307 rfl ?_
    refine px_cVR (Y := yy_Mo_passOther) (Yc := yy_Mo_useArguments) (b := 717) (As := [.int (nI (m)), .int (nI (p))]) dx_Mo_passOther_308 ml_Mo_271 mv_Mo_useArguments np_Mo_useArguments ⟨_, rfl⟩ (by decide) rfl (by decide) rfl (Nat.le_of_ble_eq_true rfl) (Nat.le_of_ble_eq_true rfl) rk_Mo_passOther_Mo_useArguments rfl (m_useArguments hW hFP hm hpl hT6 hag hI h21) zz_0 (fun r_308 τ9 h_308 => ?_)
    obtain ⟨rfl, hI, h21⟩ := h_308
    simp only [Bool.not_true, Bool.false_or] at h21
    exact px_vret dx_Mo_passOther_311 rfl (by (have e1 : poG F m p (T p) (opS (F 7 (40 * m + p))) = uaA F m p (T p) := by (rw [poG_113 (by first | assumption | (simp only [List.mem_cons, List.not_mem_nil, or_false] at *; omega))]; try simp [*])); (have e2 : poN F m p bf (T p) (opS (F 7 (40 * m + p))) = T p := by (rw [poN_113 (by first | assumption | (simp only [List.mem_cons, List.not_mem_nil, or_false] at *; omega))] <;> first | rfl | (simp [stT, cbF, *]; done))); exact hp0 _ _ ⟨rfl, by rw [e2]; exact hI, by rw [e1]; exact h21⟩)
  have kn_30 : opS (F 7 (40 * m + p)) ∉ ([1, 4, 10, 11, 15, 16, 18, 19, 22, 96, 113] : List Nat) := by simp only [List.mem_cons, List.not_mem_nil, or_false, not_or] at *; omega
  refine px_lookD (e := opS (F 7 (40 * m + p))) [1, 4, 10, 11, 15, 16, 18, 19, 22, 96, 113] dx_Mo_passOther_30 (by (have := opS_lt (F 7 (40 * m + p)); omega)) kn_30 (by decide) (by decide) rfl ?_
  exact px_vret dx_Mo_passOther_312 rfl (by (have e1 : poG F m p (T p) (opS (F 7 (40 * m + p))) = true := by (simp only [List.mem_cons, List.not_mem_nil, or_false, not_or] at kn_30; simp [poG, kn_30])); (have e2 : poN F m p bf (T p) (opS (F 7 (40 * m + p))) = T p := by (simp only [List.mem_cons, List.not_mem_nil, or_false, not_or] at kn_30; simp [poN, kn_30])); exact hp0 _ _ ⟨rfl, by rw [e2]; exact hI, by rw [e1]; exact h21⟩)
def psG (F : Nat → Nat → Nat) (m p : Nat) (row : Nat → Nat) (w w1 op : Nat) : Bool :=
  if cvt op = true then isT row (opB w) (tkO op)
  else if jns op = true then isT row (opS w1) (jnO op) && isT row (opN w1) (jnO op)
  else if cps op = true then isT row (opS w1) (cpO op) && isT row (opN w1) (cpO op)
  else if 50 ≤ op ∧ op ≤ 55 then isT row (opA w) 1 && isT row (opB w) 1
  else if (56 ≤ op ∧ op ≤ 61) ∨ op = 103 then isT row (opN w) 1
  else poG F m p row op
def psN (F : Nat → Nat → Nat) (m p : Nat) (bf : Option Nat) (row : Nat → Nat) (w op : Nat) : Nat → Nat :=
  if cvt op = true then stT row (opA w) (gvO op)
  else if jns op = true then stT row (opN w) (jnO op)
  else if cps op = true then stT row (opN w) 1
  else if 50 ≤ op ∧ op ≤ 55 then row
  else if (56 ≤ op ∧ op ≤ 61) ∨ op = 103 then row
  else poN F m p bf row op
/-- an instruction's registers have the types due; the row behind it -/
def insG (F : Nat → Nat → Nat) (m p : Nat) (row : Nat → Nat) : Bool := psG F m p row (F 7 (40 * m + p)) (F 7 (40 * m + (p + 1))) (opS (F 7 (40 * m + p)))
def insN (F : Nat → Nat → Nat) (m p : Nat) (bf : Option Nat) (row : Nat → Nat) : Nat → Nat := psN F m p bf row (F 7 (40 * m + p)) (opS (F 7 (40 * m + p)))
theorem gvO_b (op : Nat) : 1 ≤ gvO op ∧ gvO op ≤ 4 := by unfold gvO; repeat' split
                                                         all_goals decide
theorem tkO_b (op : Nat) : 1 ≤ tkO op ∧ tkO op ≤ 4 := by unfold tkO; repeat' split
                                                         all_goals decide
theorem jnO_b (op : Nat) : 1 ≤ jnO op ∧ jnO op ≤ 4 := by unfold jnO; repeat' split
                                                         all_goals decide
theorem cpO_b (op : Nat) : 1 ≤ cpO op ∧ cpO op ≤ 4 := by unfold cpO; repeat' split
                                                         all_goals decide
theorem nm_103 {F : Nat → Nat → Nat} {m p : Nat} (hn : nmOK F m p = true) (h : (56 ≤ opS (F 7 (40 * m + p)) ∧ opS (F 7 (40 * m + p)) ≤ 61) ∨ opS (F 7 (40 * m + p)) = 103) : opN (F 7 (40 * m + p)) + wdt 1 ≤ F 5 m := by
  unfold nmOK at hn
  rcases h with h | h
  · rw [nmW_4 h.1 h.2] at hn
    simpa [hsR] using hn
  · rw [nmW_10 (by rw [h]; decide)] at hn
    simp only [Bool.and_eq_true, hsR, decide_eq_true_eq] at hn
    exact hn.1

def cpR (row N : Nat → Nat) (j : Nat) : Nat → Nat := fun r => if r < j then row r else N r
theorem cpR_s (row N : Nat → Nat) (j : Nat) : va_up (cpR row N j) j (row j) = cpR row N (j + 1) := by
  funext r
  unfold va_up cpR
  by_cases q : r = j
  · subst q
    simp
  · have : r < j + 1 ↔ r < j := by omega
    simp [q, this]

set_option maxRecDepth 100000 in
set_option maxHeartbeats 1000000 in
theorem m_pass1_lp {l : Launch} {G : fr_G} {σ : fr_S} {σ0 : fr_S} {F : Nat → Nat → Nat} {m p : Nat} {bf : Option Nat} {T : Nat → Nat → Nat} {N : Nat → Nat} {QF : List Frame → Array Value → State → State → Prop} (hm : m < 4) (hpl : p < 40) {Post : Option Value → fr_S → Prop} (hq : ∀ σ', PI σ0 σ' F m T (cpR (T p) N 10) → gI σ' 717 21 = b2i false → PX l G yy_Mo_pass1 rm_Mo_pass1 QF false 742 0 0 44 [(0, .ref 717), (1, .int (nI m)), (2, .int (nI p)), (3, .int (bfI bf)), (4, .int (nI (opS (F 7 (40 * m + p)))))] [] σ') : ∀ (d : Nat) (j : Nat) (σ1 : fr_S), 10 - j < d → j ≤ 10 → PI σ0 σ1 F m T (cpR (T p) N j) → gI σ1 717 21 = b2i false → PX l G yy_Mo_pass1 rm_Mo_pass1 QF false 742 0 0 16 [(0, .ref (717)), (1, .int (nI (m))), (2, .int (nI (p))), (3, .int (bfI bf)), (4, .int (nI (opS (F 7 (40 * m + p))))), (5, .int (nI (j)))] [] (σ1) := by
  intro d
  induction d with
  | zero => intro j σ1 hd; exact absurd hd (Nat.not_lt_zero _)
  | succ d ih =>
    intro j σ1 hd hj hI h21
    obtain ⟨hM, hF, hT, hN, hA, hK⟩ := id hI
    refine px_iload dx_Mo_pass1_16 rfl ?_
    refine px_bipush (v := 10) dx_Mo_pass1_18 rfl ?_
    refine px_icmp_geN (a := j) (b := 10) dx_Mo_pass1_20 (by first | omega | (have := hT6 j; omega)) (by first | omega | (have := hT6 j; omega)) (fun c_20 => ?_) (fun c_20 => ?_)
    · refine px_sub [0, 1, 2, 3, 4] rfl ?_
      exact hq σ1 (by rw [show (10 : Nat) = j by omega]; exact hI) h21
    · refine px_aload_n dx_Mo_pass1_23 rfl ?_
      refine px_getR (r := 732) dx_Mo_pass1_24 fl_Mo_57 rfl (by decide) rfl (hM 19) ?_
      refine px_iload dx_Mo_pass1_27 rfl ?_
      refine px_aload_n dx_Mo_pass1_29 rfl ?_
      refine px_iload_n dx_Mo_pass1_30 rfl ?_
      refine px_iload_n dx_Mo_pass1_31 rfl ?_
      refine px_iload dx_Mo_pass1_32 rfl ?_
      refine px_cV (Y := yy_Mo_pass1) (Yc := yy_Mo_typeAt) (b := 717) (As := [.int (nI (m)), .int (nI (p)), .int (nI (j))]) dx_Mo_pass1_34 ml_Mo_246 mv_Mo_typeAt np_Mo_typeAt ⟨_, rfl⟩ (by decide) rfl (by decide) rfl (Nat.le_of_ble_eq_true rfl) (Nat.le_of_ble_eq_true rfl) rk_Mo_pass1_Mo_typeAt rfl (m_typeAt hM hT hm (by omega) (by omega)) zz_0 ?_
      refine px_iastN (j := j) dx_Mo_pass1_37 rfl (by decide) (by omega) ?_
      refine px_iinc (v := (nI (j + 1))) (lv' := [(5, .int (nI (j + 1))), (0, .ref (717)), (1, .int (nI (m))), (2, .int (nI (p))), (3, .int (bfI bf)), (4, .int (nI (opS (F 7 (40 * m + p)))))]) dx_Mo_pass1_38 rfl (nI_1 _) (by decide) rfl ?_
      refine px_goto dx_Mo_pass1_41 ?_
      refine px_sub [1, 2, 3, 4, 5, 0] rfl ?_
      exact ih (j + 1) (sI σ1 732 j (nI (T p j))) (by omega) (by omega) (by rw [← cpR_s]; exact hI.now) (by rw [gI_n (Or.inl (by decide))]; exact h21)
set_option maxRecDepth 100000 in
set_option maxHeartbeats 1000000 in
theorem m_pass1_b {l : Launch} {G : fr_G} {σ0 σ : fr_S} {F : Nat → Nat → Nat} (hW : FW F) (hFP : FP F) {m p : Nat} {bf : Option Nat} {T : Nat → Nat → Nat} (hm : m < 4) (hpl : p < 40) (hT6 : ∀ r, T p r ≤ 6) (hP : WP (T p)) (hnm : nmOK F m p = true) (hko : kOK F m p bf = true) (hbf : ∀ q, bf = some q → q < 40) (hI : PI σ0 σ F m T (T p)) (h21 : gI σ 717 21 = b2i (!true)) {Post : Option Value → fr_S → Prop} (hp0 : ∀ r σ', (fun r0 σ' => r0 = none ∧ PI σ0 σ' F m T (insN F m p bf (T p)) ∧ gI σ' 717 21 = b2i (!insG F m p (T p))) r σ' → Post r σ') : PX l G yy_Mo_pass1 rm_Mo_pass1 (QR G false 742 0 0 Post) false 742 0 0 44 [(0, .ref 717), (1, .int (nI m)), (2, .int (nI p)), (3, .int (bfI bf)), (4, .int (nI (opS (F 7 (40 * m + p)))))] [] σ := by
  obtain ⟨hM, hF, hT, hN, hA, hK⟩ := id hI
  have hc4 := hW.1
  have w0 : wdt 0 = 1 := rfl
  have w1 : wdt 1 = 1 := rfl
  have w2 : wdt 2 = 2 := rfl
  have w3 : wdt 3 = 1 := rfl
  have w4 : wdt 4 = 2 := rfl
  have h5 := hW.2.2.2.2.2.1 m
  refine px_aload_n dx_Mo_pass1_44 rfl ?_
  refine px_iload_n dx_Mo_pass1_45 rfl ?_
  refine px_iload_n dx_Mo_pass1_46 rfl ?_
  refine px_cV (Y := yy_Mo_pass1) (Yc := yy_Mo_regA) (b := 717) (As := [.int (nI (m)), .int (nI (p))]) dx_Mo_pass1_47 ml_Mo_193 mv_Mo_regA np_Mo_regA ⟨_, rfl⟩ (by decide) rfl (by decide) rfl (Nat.le_of_ble_eq_true rfl) (Nat.le_of_ble_eq_true rfl) rk_Mo_pass1_Mo_regA rfl (m_regA hM (by omega) (hF.2.2.2.2.2.2.2 (40 * m + p) (by omega)) (hW.2.2.2.2.2.2.2 _)) zz_0 ?_
  refine px_istore (lv' := [(5, .int (nI (opA (F 7 (40 * m + p))))), (0, .ref (717)), (1, .int (nI (m))), (2, .int (nI (p))), (3, .int (bfI bf)), (4, .int (nI (opS (F 7 (40 * m + p)))))]) dx_Mo_pass1_50 (by decide) rfl ?_
  refine px_aload_n dx_Mo_pass1_52 rfl ?_
  refine px_iload_n dx_Mo_pass1_53 rfl ?_
  refine px_iload_n dx_Mo_pass1_54 rfl ?_
  refine px_cV (Y := yy_Mo_pass1) (Yc := yy_Mo_regB) (b := 717) (As := [.int (nI (m)), .int (nI (p))]) dx_Mo_pass1_55 ml_Mo_182 mv_Mo_regB np_Mo_regB ⟨_, rfl⟩ (by decide) rfl (by decide) rfl (Nat.le_of_ble_eq_true rfl) (Nat.le_of_ble_eq_true rfl) rk_Mo_pass1_Mo_regB rfl (m_regB hM (by omega) (hF.2.2.2.2.2.2.2 (40 * m + p) (by omega)) (hW.2.2.2.2.2.2.2 _)) zz_0 ?_
  refine px_istore (lv' := [(6, .int (nI (opB (F 7 (40 * m + p))))), (5, .int (nI (opA (F 7 (40 * m + p))))), (0, .ref (717)), (1, .int (nI (m))), (2, .int (nI (p))), (3, .int (bfI bf)), (4, .int (nI (opS (F 7 (40 * m + p)))))]) dx_Mo_pass1_58 (by decide) rfl ?_
  refine px_aload_n dx_Mo_pass1_60 rfl ?_
  refine px_iload_n dx_Mo_pass1_61 rfl ?_
  refine px_iload_n dx_Mo_pass1_62 rfl ?_
  refine px_cV (Y := yy_Mo_pass1) (Yc := yy_Mo_regAA) (b := 717) (As := [.int (nI (m)), .int (nI (p))]) dx_Mo_pass1_63 ml_Mo_179 mv_Mo_regAA np_Mo_regAA ⟨_, rfl⟩ (by decide) rfl (by decide) rfl (Nat.le_of_ble_eq_true rfl) (Nat.le_of_ble_eq_true rfl) rk_Mo_pass1_Mo_regAA rfl (m_regAA hM (by omega) (hF.2.2.2.2.2.2.2 (40 * m + p) (by omega)) (hW.2.2.2.2.2.2.2 _)) zz_0 ?_
  refine px_istore (lv' := [(7, .int (nI (opN (F 7 (40 * m + p))))), (6, .int (nI (opB (F 7 (40 * m + p))))), (5, .int (nI (opA (F 7 (40 * m + p))))), (0, .ref (717)), (1, .int (nI (m))), (2, .int (nI (p))), (3, .int (bfI bf)), (4, .int (nI (opS (F 7 (40 * m + p)))))]) dx_Mo_pass1_66 (by decide) rfl ?_
  refine px_iload dx_Mo_pass1_68 rfl ?_
  refine px_cS (Y := yy_Mo_pass1) (Yc := yy_Mo_converts) (As := [.int (nI (opS (F 7 (40 * m + p))))]) dx_Mo_pass1_70 ml_Mo_163 ms_Mo_converts np_Mo_converts rfl (Nat.le_of_ble_eq_true rfl) (Nat.le_of_ble_eq_true rfl) rk_Mo_pass1_Mo_converts rfl (m_converts (opS_lt _)) zz_0 ?_
  refine px_if_eqB dx_Mo_pass1_73 (fun c_73 => ?_) (fun c_73 => ?_)
  · refine px_iload dx_Mo_pass1_107 rfl ?_
    refine px_cS (Y := yy_Mo_pass1) (Yc := yy_Mo_joins) (As := [.int (nI (opS (F 7 (40 * m + p))))]) dx_Mo_pass1_109 ml_Mo_170 ms_Mo_joins np_Mo_joins rfl (Nat.le_of_ble_eq_true rfl) (Nat.le_of_ble_eq_true rfl) rk_Mo_pass1_Mo_joins rfl (m_joins (opS_lt _)) zz_0 ?_
    refine px_if_eqB dx_Mo_pass1_112 (fun c_112 => ?_) (fun c_112 => ?_)
    · refine px_iload dx_Mo_pass1_178 rfl ?_
      refine px_cS (Y := yy_Mo_pass1) (Yc := yy_Mo_compares) (As := [.int (nI (opS (F 7 (40 * m + p))))]) dx_Mo_pass1_180 ml_Mo_167 ms_Mo_compares np_Mo_compares rfl (Nat.le_of_ble_eq_true rfl) (Nat.le_of_ble_eq_true rfl) rk_Mo_pass1_Mo_compares rfl (m_compares (opS_lt _)) zz_0 ?_
      refine px_if_eqB dx_Mo_pass1_183 (fun c_183 => ?_) (fun c_183 => ?_)
      · refine px_iload dx_Mo_pass1_245 rfl ?_
        refine px_bipush (v := 50) dx_Mo_pass1_247 rfl ?_
        refine px_icmp_ltN (a := opS (F 7 (40 * m + p))) (b := 50) dx_Mo_pass1_249 (by first | omega | (have := opS_lt (F 7 (40 * m + p)); omega)) (by first | omega | (have := opS_lt (F 7 (40 * m + p)); omega)) (fun c_249 => ?_) (fun c_249 => ?_)
        · refine px_iload dx_Mo_pass1_295 rfl ?_
          refine px_bipush (v := 56) dx_Mo_pass1_297 rfl ?_
          refine px_icmp_ltN (a := opS (F 7 (40 * m + p))) (b := 56) dx_Mo_pass1_299 (by first | omega | (have := opS_lt (F 7 (40 * m + p)); omega)) (by first | omega | (have := opS_lt (F 7 (40 * m + p)); omega)) (fun c_299 => ?_) (fun c_299 => ?_)
          · refine px_iload dx_Mo_pass1_309 rfl ?_
            refine px_bipush (v := 103) dx_Mo_pass1_311 rfl ?_
            refine px_icmp_neN (a := opS (F 7 (40 * m + p))) (b := 103) dx_Mo_pass1_313 (by first | omega | (have := opS_lt (F 7 (40 * m + p)); omega)) (by first | omega | (have := opS_lt (F 7 (40 * m + p)); omega)) (fun c_313 => ?_) (fun c_313 => ?_)
            · refine px_aload_n dx_Mo_pass1_332 rfl ?_
              refine px_iload_n dx_Mo_pass1_333 rfl ?_
              refine px_iload_n dx_Mo_pass1_334 rfl ?_
              refine px_iload_n dx_Mo_pass1_335 rfl ?_
              refine px_cVR (Y := yy_Mo_pass1) (Yc := yy_Mo_passOther) (b := 717) (As := [.int (nI (m)), .int (nI (p)), .int (bfI bf)]) dx_Mo_pass1_336 ml_Mo_267 mv_Mo_passOther np_Mo_passOther ⟨_, rfl⟩ (by decide) rfl (by decide) rfl (Nat.le_of_ble_eq_true rfl) (Nat.le_of_ble_eq_true rfl) rk_Mo_pass1_Mo_passOther rfl (m_passOther hW hFP hm hpl hT6 hP hnm hko hbf hI h21) zz_0 (fun r_336 τ9 h_336 => ?_)
              obtain ⟨rfl, hI, h21⟩ := h_336
              exact px_vret dx_Mo_pass1_339 rfl (by (have e1 : insG F m p (T p) = poG F m p (T p) (opS (F 7 (40 * m + p))) := by (unfold insG psG; first | (simp [*] <;> omega) | rw [if_neg (by rw [c_73]; decide), if_neg (by rw [c_112]; decide), if_neg (by rw [c_183]; decide), if_neg (by omega), if_neg (by omega)] | rw [if_neg (by rw [c_73]; decide), if_neg (by rw [c_112]; decide), if_neg (by rw [c_183]; decide), if_neg (by omega), if_pos (by omega)])); (have e2 : insN F m p bf (T p) = poN F m p bf (T p) (opS (F 7 (40 * m + p))) := by (unfold insN psN; first | (simp [stT, *] <;> omega) | rw [if_neg (by rw [c_73]; decide), if_neg (by rw [c_112]; decide), if_neg (by rw [c_183]; decide), if_neg (by omega), if_neg (by omega)] | rw [if_neg (by rw [c_73]; decide), if_neg (by rw [c_112]; decide), if_neg (by rw [c_183]; decide), if_neg (by omega), if_pos (by omega)])); exact hp0 _ _ ⟨rfl, by rw [e2]; exact hI, by rw [e1]; exact h21⟩)
            · have q := nm_103 hnm (by omega)
              refine px_aload_n dx_Mo_pass1_316 rfl ?_
              refine px_aload_n dx_Mo_pass1_317 rfl ?_
              refine px_iload_n dx_Mo_pass1_318 rfl ?_
              refine px_iload_n dx_Mo_pass1_319 rfl ?_
              refine px_iload dx_Mo_pass1_320 rfl ?_
              refine px_iconst (v := 1) dx_Mo_pass1_322 rfl ?_
              refine px_cV (Y := yy_Mo_pass1) (Yc := yy_Mo_is) (b := 717) (As := [.int (nI (m)), .int (nI (p)), .int (nI (opN (F 7 (40 * m + p)))), .int (1)]) dx_Mo_pass1_323 ml_Mo_255 mv_Mo_is np_Mo_is ⟨_, rfl⟩ (by decide) rfl (by decide) rfl (Nat.le_of_ble_eq_true rfl) (Nat.le_of_ble_eq_true rfl) rk_Mo_pass1_Mo_is rfl (m_is (t := 1) hM hT hm hpl (by decide) (by decide) (by omega) hT6) zz_0 ?_
              refine px_cV (Y := yy_Mo_pass1) (Yc := yy_Mo_need) (b := 717) (As := [.int (b2i (isT (T p) (opN (F 7 (40 * m + p))) 1))]) dx_Mo_pass1_326 ml_Mo_259 mv_Mo_need np_Mo_need ⟨_, rfl⟩ (by decide) rfl (by decide) rfl (Nat.le_of_ble_eq_true rfl) (Nat.le_of_ble_eq_true rfl) rk_Mo_pass1_Mo_need rfl (m_needC (w := false) (g := isT (T p) (opN (F 7 (40 * m + p))) 1) hM h21) zz_0 ?_
              have h21 : gI (sI σ 717 21 (b2i (false || !(isT (T p) (opN (F 7 (40 * m + p))) 1)))) 717 21 = b2i (!(isT (T p) (opN (F 7 (40 * m + p))) 1)) := by rw [gI_s, Bool.false_or]
              have hI := hI.w (v := b2i (false || !(isT (T p) (opN (F 7 (40 * m + p))) 1)))
              obtain ⟨hM, hF, hT, hN, hA, hK⟩ := id hI
              refine px_goto dx_Mo_pass1_329 ?_
              exact px_vret dx_Mo_pass1_339 rfl (by (have e1 : insG F m p (T p) = isT (T p) (opN (F 7 (40 * m + p))) 1 := by (unfold insG psG; first | (simp [*] <;> omega) | rw [if_neg (by rw [c_73]; decide), if_neg (by rw [c_112]; decide), if_neg (by rw [c_183]; decide), if_neg (by omega), if_neg (by omega)] | rw [if_neg (by rw [c_73]; decide), if_neg (by rw [c_112]; decide), if_neg (by rw [c_183]; decide), if_neg (by omega), if_pos (by omega)])); (have e2 : insN F m p bf (T p) = T p := by (unfold insN psN; first | (simp [stT, *] <;> omega) | rw [if_neg (by rw [c_73]; decide), if_neg (by rw [c_112]; decide), if_neg (by rw [c_183]; decide), if_neg (by omega), if_neg (by omega)] | rw [if_neg (by rw [c_73]; decide), if_neg (by rw [c_112]; decide), if_neg (by rw [c_183]; decide), if_neg (by omega), if_pos (by omega)])); exact hp0 _ _ ⟨rfl, by rw [e2]; exact hI, by rw [e1]; exact h21⟩)
          · refine px_iload dx_Mo_pass1_302 rfl ?_
            refine px_bipush (v := 61) dx_Mo_pass1_304 rfl ?_
            refine px_icmp_leN (a := opS (F 7 (40 * m + p))) (b := 61) dx_Mo_pass1_306 (by first | omega | (have := opS_lt (F 7 (40 * m + p)); omega)) (by first | omega | (have := opS_lt (F 7 (40 * m + p)); omega)) (fun c_306 => ?_) (fun c_306 => ?_)
            · have q := nm_103 hnm (by omega)
              refine px_aload_n dx_Mo_pass1_316 rfl ?_
              refine px_aload_n dx_Mo_pass1_317 rfl ?_
              refine px_iload_n dx_Mo_pass1_318 rfl ?_
              refine px_iload_n dx_Mo_pass1_319 rfl ?_
              refine px_iload dx_Mo_pass1_320 rfl ?_
              refine px_iconst (v := 1) dx_Mo_pass1_322 rfl ?_
              refine px_cV (Y := yy_Mo_pass1) (Yc := yy_Mo_is) (b := 717) (As := [.int (nI (m)), .int (nI (p)), .int (nI (opN (F 7 (40 * m + p)))), .int (1)]) dx_Mo_pass1_323 ml_Mo_255 mv_Mo_is np_Mo_is ⟨_, rfl⟩ (by decide) rfl (by decide) rfl (Nat.le_of_ble_eq_true rfl) (Nat.le_of_ble_eq_true rfl) rk_Mo_pass1_Mo_is rfl (m_is (t := 1) hM hT hm hpl (by decide) (by decide) (by omega) hT6) zz_0 ?_
              refine px_cV (Y := yy_Mo_pass1) (Yc := yy_Mo_need) (b := 717) (As := [.int (b2i (isT (T p) (opN (F 7 (40 * m + p))) 1))]) dx_Mo_pass1_326 ml_Mo_259 mv_Mo_need np_Mo_need ⟨_, rfl⟩ (by decide) rfl (by decide) rfl (Nat.le_of_ble_eq_true rfl) (Nat.le_of_ble_eq_true rfl) rk_Mo_pass1_Mo_need rfl (m_needC (w := false) (g := isT (T p) (opN (F 7 (40 * m + p))) 1) hM h21) zz_0 ?_
              have h21 : gI (sI σ 717 21 (b2i (false || !(isT (T p) (opN (F 7 (40 * m + p))) 1)))) 717 21 = b2i (!(isT (T p) (opN (F 7 (40 * m + p))) 1)) := by rw [gI_s, Bool.false_or]
              have hI := hI.w (v := b2i (false || !(isT (T p) (opN (F 7 (40 * m + p))) 1)))
              obtain ⟨hM, hF, hT, hN, hA, hK⟩ := id hI
              refine px_goto dx_Mo_pass1_329 ?_
              exact px_vret dx_Mo_pass1_339 rfl (by (have e1 : insG F m p (T p) = isT (T p) (opN (F 7 (40 * m + p))) 1 := by (unfold insG psG; first | (simp [*] <;> omega) | rw [if_neg (by rw [c_73]; decide), if_neg (by rw [c_112]; decide), if_neg (by rw [c_183]; decide), if_neg (by omega), if_neg (by omega)] | rw [if_neg (by rw [c_73]; decide), if_neg (by rw [c_112]; decide), if_neg (by rw [c_183]; decide), if_neg (by omega), if_pos (by omega)])); (have e2 : insN F m p bf (T p) = T p := by (unfold insN psN; first | (simp [stT, *] <;> omega) | rw [if_neg (by rw [c_73]; decide), if_neg (by rw [c_112]; decide), if_neg (by rw [c_183]; decide), if_neg (by omega), if_neg (by omega)] | rw [if_neg (by rw [c_73]; decide), if_neg (by rw [c_112]; decide), if_neg (by rw [c_183]; decide), if_neg (by omega), if_pos (by omega)])); exact hp0 _ _ ⟨rfl, by rw [e2]; exact hI, by rw [e1]; exact h21⟩)
            · refine px_iload dx_Mo_pass1_309 rfl ?_
              refine px_bipush (v := 103) dx_Mo_pass1_311 rfl ?_
              refine px_icmp_neN (a := opS (F 7 (40 * m + p))) (b := 103) dx_Mo_pass1_313 (by first | omega | (have := opS_lt (F 7 (40 * m + p)); omega)) (by first | omega | (have := opS_lt (F 7 (40 * m + p)); omega)) (fun c_313 => ?_) (fun c_313 => ?_)
              · refine px_aload_n dx_Mo_pass1_332 rfl ?_
                refine px_iload_n dx_Mo_pass1_333 rfl ?_
                refine px_iload_n dx_Mo_pass1_334 rfl ?_
                refine px_iload_n dx_Mo_pass1_335 rfl ?_
                refine px_cVR (Y := yy_Mo_pass1) (Yc := yy_Mo_passOther) (b := 717) (As := [.int (nI (m)), .int (nI (p)), .int (bfI bf)]) dx_Mo_pass1_336 ml_Mo_267 mv_Mo_passOther np_Mo_passOther ⟨_, rfl⟩ (by decide) rfl (by decide) rfl (Nat.le_of_ble_eq_true rfl) (Nat.le_of_ble_eq_true rfl) rk_Mo_pass1_Mo_passOther rfl (m_passOther hW hFP hm hpl hT6 hP hnm hko hbf hI h21) zz_0 (fun r_336 τ9 h_336 => ?_)
                obtain ⟨rfl, hI, h21⟩ := h_336
                exact px_vret dx_Mo_pass1_339 rfl (by (have e1 : insG F m p (T p) = poG F m p (T p) (opS (F 7 (40 * m + p))) := by (unfold insG psG; first | (simp [*] <;> omega) | rw [if_neg (by rw [c_73]; decide), if_neg (by rw [c_112]; decide), if_neg (by rw [c_183]; decide), if_neg (by omega), if_neg (by omega)] | rw [if_neg (by rw [c_73]; decide), if_neg (by rw [c_112]; decide), if_neg (by rw [c_183]; decide), if_neg (by omega), if_pos (by omega)])); (have e2 : insN F m p bf (T p) = poN F m p bf (T p) (opS (F 7 (40 * m + p))) := by (unfold insN psN; first | (simp [stT, *] <;> omega) | rw [if_neg (by rw [c_73]; decide), if_neg (by rw [c_112]; decide), if_neg (by rw [c_183]; decide), if_neg (by omega), if_neg (by omega)] | rw [if_neg (by rw [c_73]; decide), if_neg (by rw [c_112]; decide), if_neg (by rw [c_183]; decide), if_neg (by omega), if_pos (by omega)])); exact hp0 _ _ ⟨rfl, by rw [e2]; exact hI, by rw [e1]; exact h21⟩)
              · have q := nm_103 hnm (by omega)
                refine px_aload_n dx_Mo_pass1_316 rfl ?_
                refine px_aload_n dx_Mo_pass1_317 rfl ?_
                refine px_iload_n dx_Mo_pass1_318 rfl ?_
                refine px_iload_n dx_Mo_pass1_319 rfl ?_
                refine px_iload dx_Mo_pass1_320 rfl ?_
                refine px_iconst (v := 1) dx_Mo_pass1_322 rfl ?_
                refine px_cV (Y := yy_Mo_pass1) (Yc := yy_Mo_is) (b := 717) (As := [.int (nI (m)), .int (nI (p)), .int (nI (opN (F 7 (40 * m + p)))), .int (1)]) dx_Mo_pass1_323 ml_Mo_255 mv_Mo_is np_Mo_is ⟨_, rfl⟩ (by decide) rfl (by decide) rfl (Nat.le_of_ble_eq_true rfl) (Nat.le_of_ble_eq_true rfl) rk_Mo_pass1_Mo_is rfl (m_is (t := 1) hM hT hm hpl (by decide) (by decide) (by omega) hT6) zz_0 ?_
                refine px_cV (Y := yy_Mo_pass1) (Yc := yy_Mo_need) (b := 717) (As := [.int (b2i (isT (T p) (opN (F 7 (40 * m + p))) 1))]) dx_Mo_pass1_326 ml_Mo_259 mv_Mo_need np_Mo_need ⟨_, rfl⟩ (by decide) rfl (by decide) rfl (Nat.le_of_ble_eq_true rfl) (Nat.le_of_ble_eq_true rfl) rk_Mo_pass1_Mo_need rfl (m_needC (w := false) (g := isT (T p) (opN (F 7 (40 * m + p))) 1) hM h21) zz_0 ?_
                have h21 : gI (sI σ 717 21 (b2i (false || !(isT (T p) (opN (F 7 (40 * m + p))) 1)))) 717 21 = b2i (!(isT (T p) (opN (F 7 (40 * m + p))) 1)) := by rw [gI_s, Bool.false_or]
                have hI := hI.w (v := b2i (false || !(isT (T p) (opN (F 7 (40 * m + p))) 1)))
                obtain ⟨hM, hF, hT, hN, hA, hK⟩ := id hI
                refine px_goto dx_Mo_pass1_329 ?_
                exact px_vret dx_Mo_pass1_339 rfl (by (have e1 : insG F m p (T p) = isT (T p) (opN (F 7 (40 * m + p))) 1 := by (unfold insG psG; first | (simp [*] <;> omega) | rw [if_neg (by rw [c_73]; decide), if_neg (by rw [c_112]; decide), if_neg (by rw [c_183]; decide), if_neg (by omega), if_neg (by omega)] | rw [if_neg (by rw [c_73]; decide), if_neg (by rw [c_112]; decide), if_neg (by rw [c_183]; decide), if_neg (by omega), if_pos (by omega)])); (have e2 : insN F m p bf (T p) = T p := by (unfold insN psN; first | (simp [stT, *] <;> omega) | rw [if_neg (by rw [c_73]; decide), if_neg (by rw [c_112]; decide), if_neg (by rw [c_183]; decide), if_neg (by omega), if_neg (by omega)] | rw [if_neg (by rw [c_73]; decide), if_neg (by rw [c_112]; decide), if_neg (by rw [c_183]; decide), if_neg (by omega), if_pos (by omega)])); exact hp0 _ _ ⟨rfl, by rw [e2]; exact hI, by rw [e1]; exact h21⟩)
        · refine px_iload dx_Mo_pass1_252 rfl ?_
          refine px_bipush (v := 55) dx_Mo_pass1_254 rfl ?_
          refine px_icmp_gtN (a := opS (F 7 (40 * m + p))) (b := 55) dx_Mo_pass1_256 (by first | omega | (have := opS_lt (F 7 (40 * m + p)); omega)) (by first | omega | (have := opS_lt (F 7 (40 * m + p)); omega)) (fun c_256 => ?_) (fun c_256 => ?_)
          · refine px_iload dx_Mo_pass1_295 rfl ?_
            refine px_bipush (v := 56) dx_Mo_pass1_297 rfl ?_
            refine px_icmp_ltN (a := opS (F 7 (40 * m + p))) (b := 56) dx_Mo_pass1_299 (by first | omega | (have := opS_lt (F 7 (40 * m + p)); omega)) (by first | omega | (have := opS_lt (F 7 (40 * m + p)); omega)) (fun c_299 => ?_) (fun c_299 => ?_)
            · refine px_iload dx_Mo_pass1_309 rfl ?_
              refine px_bipush (v := 103) dx_Mo_pass1_311 rfl ?_
              refine px_icmp_neN (a := opS (F 7 (40 * m + p))) (b := 103) dx_Mo_pass1_313 (by first | omega | (have := opS_lt (F 7 (40 * m + p)); omega)) (by first | omega | (have := opS_lt (F 7 (40 * m + p)); omega)) (fun c_313 => ?_) (fun c_313 => ?_)
              · refine px_aload_n dx_Mo_pass1_332 rfl ?_
                refine px_iload_n dx_Mo_pass1_333 rfl ?_
                refine px_iload_n dx_Mo_pass1_334 rfl ?_
                refine px_iload_n dx_Mo_pass1_335 rfl ?_
                refine px_cVR (Y := yy_Mo_pass1) (Yc := yy_Mo_passOther) (b := 717) (As := [.int (nI (m)), .int (nI (p)), .int (bfI bf)]) dx_Mo_pass1_336 ml_Mo_267 mv_Mo_passOther np_Mo_passOther ⟨_, rfl⟩ (by decide) rfl (by decide) rfl (Nat.le_of_ble_eq_true rfl) (Nat.le_of_ble_eq_true rfl) rk_Mo_pass1_Mo_passOther rfl (m_passOther hW hFP hm hpl hT6 hP hnm hko hbf hI h21) zz_0 (fun r_336 τ9 h_336 => ?_)
                obtain ⟨rfl, hI, h21⟩ := h_336
                exact px_vret dx_Mo_pass1_339 rfl (by (have e1 : insG F m p (T p) = poG F m p (T p) (opS (F 7 (40 * m + p))) := by (unfold insG psG; first | (simp [*] <;> omega) | rw [if_neg (by rw [c_73]; decide), if_neg (by rw [c_112]; decide), if_neg (by rw [c_183]; decide), if_neg (by omega), if_neg (by omega)] | rw [if_neg (by rw [c_73]; decide), if_neg (by rw [c_112]; decide), if_neg (by rw [c_183]; decide), if_neg (by omega), if_pos (by omega)])); (have e2 : insN F m p bf (T p) = poN F m p bf (T p) (opS (F 7 (40 * m + p))) := by (unfold insN psN; first | (simp [stT, *] <;> omega) | rw [if_neg (by rw [c_73]; decide), if_neg (by rw [c_112]; decide), if_neg (by rw [c_183]; decide), if_neg (by omega), if_neg (by omega)] | rw [if_neg (by rw [c_73]; decide), if_neg (by rw [c_112]; decide), if_neg (by rw [c_183]; decide), if_neg (by omega), if_pos (by omega)])); exact hp0 _ _ ⟨rfl, by rw [e2]; exact hI, by rw [e1]; exact h21⟩)
              · have q := nm_103 hnm (by omega)
                refine px_aload_n dx_Mo_pass1_316 rfl ?_
                refine px_aload_n dx_Mo_pass1_317 rfl ?_
                refine px_iload_n dx_Mo_pass1_318 rfl ?_
                refine px_iload_n dx_Mo_pass1_319 rfl ?_
                refine px_iload dx_Mo_pass1_320 rfl ?_
                refine px_iconst (v := 1) dx_Mo_pass1_322 rfl ?_
                refine px_cV (Y := yy_Mo_pass1) (Yc := yy_Mo_is) (b := 717) (As := [.int (nI (m)), .int (nI (p)), .int (nI (opN (F 7 (40 * m + p)))), .int (1)]) dx_Mo_pass1_323 ml_Mo_255 mv_Mo_is np_Mo_is ⟨_, rfl⟩ (by decide) rfl (by decide) rfl (Nat.le_of_ble_eq_true rfl) (Nat.le_of_ble_eq_true rfl) rk_Mo_pass1_Mo_is rfl (m_is (t := 1) hM hT hm hpl (by decide) (by decide) (by omega) hT6) zz_0 ?_
                refine px_cV (Y := yy_Mo_pass1) (Yc := yy_Mo_need) (b := 717) (As := [.int (b2i (isT (T p) (opN (F 7 (40 * m + p))) 1))]) dx_Mo_pass1_326 ml_Mo_259 mv_Mo_need np_Mo_need ⟨_, rfl⟩ (by decide) rfl (by decide) rfl (Nat.le_of_ble_eq_true rfl) (Nat.le_of_ble_eq_true rfl) rk_Mo_pass1_Mo_need rfl (m_needC (w := false) (g := isT (T p) (opN (F 7 (40 * m + p))) 1) hM h21) zz_0 ?_
                have h21 : gI (sI σ 717 21 (b2i (false || !(isT (T p) (opN (F 7 (40 * m + p))) 1)))) 717 21 = b2i (!(isT (T p) (opN (F 7 (40 * m + p))) 1)) := by rw [gI_s, Bool.false_or]
                have hI := hI.w (v := b2i (false || !(isT (T p) (opN (F 7 (40 * m + p))) 1)))
                obtain ⟨hM, hF, hT, hN, hA, hK⟩ := id hI
                refine px_goto dx_Mo_pass1_329 ?_
                exact px_vret dx_Mo_pass1_339 rfl (by (have e1 : insG F m p (T p) = isT (T p) (opN (F 7 (40 * m + p))) 1 := by (unfold insG psG; first | (simp [*] <;> omega) | rw [if_neg (by rw [c_73]; decide), if_neg (by rw [c_112]; decide), if_neg (by rw [c_183]; decide), if_neg (by omega), if_neg (by omega)] | rw [if_neg (by rw [c_73]; decide), if_neg (by rw [c_112]; decide), if_neg (by rw [c_183]; decide), if_neg (by omega), if_pos (by omega)])); (have e2 : insN F m p bf (T p) = T p := by (unfold insN psN; first | (simp [stT, *] <;> omega) | rw [if_neg (by rw [c_73]; decide), if_neg (by rw [c_112]; decide), if_neg (by rw [c_183]; decide), if_neg (by omega), if_neg (by omega)] | rw [if_neg (by rw [c_73]; decide), if_neg (by rw [c_112]; decide), if_neg (by rw [c_183]; decide), if_neg (by omega), if_pos (by omega)])); exact hp0 _ _ ⟨rfl, by rw [e2]; exact hI, by rw [e1]; exact h21⟩)
            · refine px_iload dx_Mo_pass1_302 rfl ?_
              refine px_bipush (v := 61) dx_Mo_pass1_304 rfl ?_
              refine px_icmp_leN (a := opS (F 7 (40 * m + p))) (b := 61) dx_Mo_pass1_306 (by first | omega | (have := opS_lt (F 7 (40 * m + p)); omega)) (by first | omega | (have := opS_lt (F 7 (40 * m + p)); omega)) (fun c_306 => ?_) (fun c_306 => ?_)
              · have q := nm_103 hnm (by omega)
                refine px_aload_n dx_Mo_pass1_316 rfl ?_
                refine px_aload_n dx_Mo_pass1_317 rfl ?_
                refine px_iload_n dx_Mo_pass1_318 rfl ?_
                refine px_iload_n dx_Mo_pass1_319 rfl ?_
                refine px_iload dx_Mo_pass1_320 rfl ?_
                refine px_iconst (v := 1) dx_Mo_pass1_322 rfl ?_
                refine px_cV (Y := yy_Mo_pass1) (Yc := yy_Mo_is) (b := 717) (As := [.int (nI (m)), .int (nI (p)), .int (nI (opN (F 7 (40 * m + p)))), .int (1)]) dx_Mo_pass1_323 ml_Mo_255 mv_Mo_is np_Mo_is ⟨_, rfl⟩ (by decide) rfl (by decide) rfl (Nat.le_of_ble_eq_true rfl) (Nat.le_of_ble_eq_true rfl) rk_Mo_pass1_Mo_is rfl (m_is (t := 1) hM hT hm hpl (by decide) (by decide) (by omega) hT6) zz_0 ?_
                refine px_cV (Y := yy_Mo_pass1) (Yc := yy_Mo_need) (b := 717) (As := [.int (b2i (isT (T p) (opN (F 7 (40 * m + p))) 1))]) dx_Mo_pass1_326 ml_Mo_259 mv_Mo_need np_Mo_need ⟨_, rfl⟩ (by decide) rfl (by decide) rfl (Nat.le_of_ble_eq_true rfl) (Nat.le_of_ble_eq_true rfl) rk_Mo_pass1_Mo_need rfl (m_needC (w := false) (g := isT (T p) (opN (F 7 (40 * m + p))) 1) hM h21) zz_0 ?_
                have h21 : gI (sI σ 717 21 (b2i (false || !(isT (T p) (opN (F 7 (40 * m + p))) 1)))) 717 21 = b2i (!(isT (T p) (opN (F 7 (40 * m + p))) 1)) := by rw [gI_s, Bool.false_or]
                have hI := hI.w (v := b2i (false || !(isT (T p) (opN (F 7 (40 * m + p))) 1)))
                obtain ⟨hM, hF, hT, hN, hA, hK⟩ := id hI
                refine px_goto dx_Mo_pass1_329 ?_
                exact px_vret dx_Mo_pass1_339 rfl (by (have e1 : insG F m p (T p) = isT (T p) (opN (F 7 (40 * m + p))) 1 := by (unfold insG psG; first | (simp [*] <;> omega) | rw [if_neg (by rw [c_73]; decide), if_neg (by rw [c_112]; decide), if_neg (by rw [c_183]; decide), if_neg (by omega), if_neg (by omega)] | rw [if_neg (by rw [c_73]; decide), if_neg (by rw [c_112]; decide), if_neg (by rw [c_183]; decide), if_neg (by omega), if_pos (by omega)])); (have e2 : insN F m p bf (T p) = T p := by (unfold insN psN; first | (simp [stT, *] <;> omega) | rw [if_neg (by rw [c_73]; decide), if_neg (by rw [c_112]; decide), if_neg (by rw [c_183]; decide), if_neg (by omega), if_neg (by omega)] | rw [if_neg (by rw [c_73]; decide), if_neg (by rw [c_112]; decide), if_neg (by rw [c_183]; decide), if_neg (by omega), if_pos (by omega)])); exact hp0 _ _ ⟨rfl, by rw [e2]; exact hI, by rw [e1]; exact h21⟩)
              · refine px_iload dx_Mo_pass1_309 rfl ?_
                refine px_bipush (v := 103) dx_Mo_pass1_311 rfl ?_
                refine px_icmp_neN (a := opS (F 7 (40 * m + p))) (b := 103) dx_Mo_pass1_313 (by first | omega | (have := opS_lt (F 7 (40 * m + p)); omega)) (by first | omega | (have := opS_lt (F 7 (40 * m + p)); omega)) (fun c_313 => ?_) (fun c_313 => ?_)
                · refine px_aload_n dx_Mo_pass1_332 rfl ?_
                  refine px_iload_n dx_Mo_pass1_333 rfl ?_
                  refine px_iload_n dx_Mo_pass1_334 rfl ?_
                  refine px_iload_n dx_Mo_pass1_335 rfl ?_
                  refine px_cVR (Y := yy_Mo_pass1) (Yc := yy_Mo_passOther) (b := 717) (As := [.int (nI (m)), .int (nI (p)), .int (bfI bf)]) dx_Mo_pass1_336 ml_Mo_267 mv_Mo_passOther np_Mo_passOther ⟨_, rfl⟩ (by decide) rfl (by decide) rfl (Nat.le_of_ble_eq_true rfl) (Nat.le_of_ble_eq_true rfl) rk_Mo_pass1_Mo_passOther rfl (m_passOther hW hFP hm hpl hT6 hP hnm hko hbf hI h21) zz_0 (fun r_336 τ9 h_336 => ?_)
                  obtain ⟨rfl, hI, h21⟩ := h_336
                  exact px_vret dx_Mo_pass1_339 rfl (by (have e1 : insG F m p (T p) = poG F m p (T p) (opS (F 7 (40 * m + p))) := by (unfold insG psG; first | (simp [*] <;> omega) | rw [if_neg (by rw [c_73]; decide), if_neg (by rw [c_112]; decide), if_neg (by rw [c_183]; decide), if_neg (by omega), if_neg (by omega)] | rw [if_neg (by rw [c_73]; decide), if_neg (by rw [c_112]; decide), if_neg (by rw [c_183]; decide), if_neg (by omega), if_pos (by omega)])); (have e2 : insN F m p bf (T p) = poN F m p bf (T p) (opS (F 7 (40 * m + p))) := by (unfold insN psN; first | (simp [stT, *] <;> omega) | rw [if_neg (by rw [c_73]; decide), if_neg (by rw [c_112]; decide), if_neg (by rw [c_183]; decide), if_neg (by omega), if_neg (by omega)] | rw [if_neg (by rw [c_73]; decide), if_neg (by rw [c_112]; decide), if_neg (by rw [c_183]; decide), if_neg (by omega), if_pos (by omega)])); exact hp0 _ _ ⟨rfl, by rw [e2]; exact hI, by rw [e1]; exact h21⟩)
                · have q := nm_103 hnm (by omega)
                  refine px_aload_n dx_Mo_pass1_316 rfl ?_
                  refine px_aload_n dx_Mo_pass1_317 rfl ?_
                  refine px_iload_n dx_Mo_pass1_318 rfl ?_
                  refine px_iload_n dx_Mo_pass1_319 rfl ?_
                  refine px_iload dx_Mo_pass1_320 rfl ?_
                  refine px_iconst (v := 1) dx_Mo_pass1_322 rfl ?_
                  refine px_cV (Y := yy_Mo_pass1) (Yc := yy_Mo_is) (b := 717) (As := [.int (nI (m)), .int (nI (p)), .int (nI (opN (F 7 (40 * m + p)))), .int (1)]) dx_Mo_pass1_323 ml_Mo_255 mv_Mo_is np_Mo_is ⟨_, rfl⟩ (by decide) rfl (by decide) rfl (Nat.le_of_ble_eq_true rfl) (Nat.le_of_ble_eq_true rfl) rk_Mo_pass1_Mo_is rfl (m_is (t := 1) hM hT hm hpl (by decide) (by decide) (by omega) hT6) zz_0 ?_
                  refine px_cV (Y := yy_Mo_pass1) (Yc := yy_Mo_need) (b := 717) (As := [.int (b2i (isT (T p) (opN (F 7 (40 * m + p))) 1))]) dx_Mo_pass1_326 ml_Mo_259 mv_Mo_need np_Mo_need ⟨_, rfl⟩ (by decide) rfl (by decide) rfl (Nat.le_of_ble_eq_true rfl) (Nat.le_of_ble_eq_true rfl) rk_Mo_pass1_Mo_need rfl (m_needC (w := false) (g := isT (T p) (opN (F 7 (40 * m + p))) 1) hM h21) zz_0 ?_
                  have h21 : gI (sI σ 717 21 (b2i (false || !(isT (T p) (opN (F 7 (40 * m + p))) 1)))) 717 21 = b2i (!(isT (T p) (opN (F 7 (40 * m + p))) 1)) := by rw [gI_s, Bool.false_or]
                  have hI := hI.w (v := b2i (false || !(isT (T p) (opN (F 7 (40 * m + p))) 1)))
                  obtain ⟨hM, hF, hT, hN, hA, hK⟩ := id hI
                  refine px_goto dx_Mo_pass1_329 ?_
                  exact px_vret dx_Mo_pass1_339 rfl (by (have e1 : insG F m p (T p) = isT (T p) (opN (F 7 (40 * m + p))) 1 := by (unfold insG psG; first | (simp [*] <;> omega) | rw [if_neg (by rw [c_73]; decide), if_neg (by rw [c_112]; decide), if_neg (by rw [c_183]; decide), if_neg (by omega), if_neg (by omega)] | rw [if_neg (by rw [c_73]; decide), if_neg (by rw [c_112]; decide), if_neg (by rw [c_183]; decide), if_neg (by omega), if_pos (by omega)])); (have e2 : insN F m p bf (T p) = T p := by (unfold insN psN; first | (simp [stT, *] <;> omega) | rw [if_neg (by rw [c_73]; decide), if_neg (by rw [c_112]; decide), if_neg (by rw [c_183]; decide), if_neg (by omega), if_neg (by omega)] | rw [if_neg (by rw [c_73]; decide), if_neg (by rw [c_112]; decide), if_neg (by rw [c_183]; decide), if_neg (by omega), if_pos (by omega)])); exact hp0 _ _ ⟨rfl, by rw [e2]; exact hI, by rw [e1]; exact h21⟩)
          · have q := hnm
            unfold nmOK at q
            rw [nmW_3 (by omega) (by omega)] at q
            simp only [Bool.and_eq_true, hsR, decide_eq_true_eq] at q
            refine px_aload_n dx_Mo_pass1_259 rfl ?_
            refine px_aload_n dx_Mo_pass1_260 rfl ?_
            refine px_iload_n dx_Mo_pass1_261 rfl ?_
            refine px_iload_n dx_Mo_pass1_262 rfl ?_
            refine px_iload dx_Mo_pass1_263 rfl ?_
            refine px_iconst (v := 1) dx_Mo_pass1_265 rfl ?_
            refine px_cV (Y := yy_Mo_pass1) (Yc := yy_Mo_is) (b := 717) (As := [.int (nI (m)), .int (nI (p)), .int (nI (opA (F 7 (40 * m + p)))), .int (1)]) dx_Mo_pass1_266 ml_Mo_255 mv_Mo_is np_Mo_is ⟨_, rfl⟩ (by decide) rfl (by decide) rfl (Nat.le_of_ble_eq_true rfl) (Nat.le_of_ble_eq_true rfl) rk_Mo_pass1_Mo_is rfl (m_is (t := 1) hM hT hm hpl (by decide) (by decide) (by omega) hT6) zz_0 ?_
            refine px_if_eqB dx_Mo_pass1_269 (fun c_269 => ?_) (fun c_269 => ?_)
            · refine px_iconst (v := 0) dx_Mo_pass1_288 rfl ?_
              refine px_cV (Y := yy_Mo_pass1) (Yc := yy_Mo_need) (b := 717) (As := [.int (0)]) dx_Mo_pass1_289 ml_Mo_259 mv_Mo_need np_Mo_need ⟨_, rfl⟩ (by decide) rfl (by decide) rfl (Nat.le_of_ble_eq_true rfl) (Nat.le_of_ble_eq_true rfl) rk_Mo_pass1_Mo_need rfl (m_needC (w := false) (g := false) hM h21) zz_0 ?_
              have h21 : gI (sI σ 717 21 (b2i (false || !false))) 717 21 = b2i (!false) := by rw [gI_s, Bool.false_or]
              have hI := hI.w (v := b2i (false || !false))
              obtain ⟨hM, hF, hT, hN, hA, hK⟩ := id hI
              refine px_goto dx_Mo_pass1_292 ?_
              exact px_vret dx_Mo_pass1_339 rfl (by (have e1 : insG F m p (T p) = false := by (unfold insG psG; first | (simp [*] <;> omega) | rw [if_neg (by rw [c_73]; decide), if_neg (by rw [c_112]; decide), if_neg (by rw [c_183]; decide), if_neg (by omega), if_neg (by omega)] | rw [if_neg (by rw [c_73]; decide), if_neg (by rw [c_112]; decide), if_neg (by rw [c_183]; decide), if_neg (by omega), if_pos (by omega)])); (have e2 : insN F m p bf (T p) = T p := by (unfold insN psN; first | (simp [stT, *] <;> omega) | rw [if_neg (by rw [c_73]; decide), if_neg (by rw [c_112]; decide), if_neg (by rw [c_183]; decide), if_neg (by omega), if_neg (by omega)] | rw [if_neg (by rw [c_73]; decide), if_neg (by rw [c_112]; decide), if_neg (by rw [c_183]; decide), if_neg (by omega), if_pos (by omega)])); exact hp0 _ _ ⟨rfl, by rw [e2]; exact hI, by rw [e1]; exact h21⟩)
            · refine px_aload_n dx_Mo_pass1_272 rfl ?_
              refine px_iload_n dx_Mo_pass1_273 rfl ?_
              refine px_iload_n dx_Mo_pass1_274 rfl ?_
              refine px_iload dx_Mo_pass1_275 rfl ?_
              refine px_iconst (v := 1) dx_Mo_pass1_277 rfl ?_
              refine px_cV (Y := yy_Mo_pass1) (Yc := yy_Mo_is) (b := 717) (As := [.int (nI (m)), .int (nI (p)), .int (nI (opB (F 7 (40 * m + p)))), .int (1)]) dx_Mo_pass1_278 ml_Mo_255 mv_Mo_is np_Mo_is ⟨_, rfl⟩ (by decide) rfl (by decide) rfl (Nat.le_of_ble_eq_true rfl) (Nat.le_of_ble_eq_true rfl) rk_Mo_pass1_Mo_is rfl (m_is (t := 1) hM hT hm hpl (by decide) (by decide) (by omega) hT6) zz_0 ?_
              refine px_if_eqB dx_Mo_pass1_281 (fun c_281 => ?_) (fun c_281 => ?_)
              · refine px_iconst (v := 0) dx_Mo_pass1_288 rfl ?_
                refine px_cV (Y := yy_Mo_pass1) (Yc := yy_Mo_need) (b := 717) (As := [.int (0)]) dx_Mo_pass1_289 ml_Mo_259 mv_Mo_need np_Mo_need ⟨_, rfl⟩ (by decide) rfl (by decide) rfl (Nat.le_of_ble_eq_true rfl) (Nat.le_of_ble_eq_true rfl) rk_Mo_pass1_Mo_need rfl (m_needC (w := false) (g := false) hM h21) zz_0 ?_
                have h21 : gI (sI σ 717 21 (b2i (false || !false))) 717 21 = b2i (!false) := by rw [gI_s, Bool.false_or]
                have hI := hI.w (v := b2i (false || !false))
                obtain ⟨hM, hF, hT, hN, hA, hK⟩ := id hI
                refine px_goto dx_Mo_pass1_292 ?_
                exact px_vret dx_Mo_pass1_339 rfl (by (have e1 : insG F m p (T p) = false := by (unfold insG psG; first | (simp [*] <;> omega) | rw [if_neg (by rw [c_73]; decide), if_neg (by rw [c_112]; decide), if_neg (by rw [c_183]; decide), if_neg (by omega), if_neg (by omega)] | rw [if_neg (by rw [c_73]; decide), if_neg (by rw [c_112]; decide), if_neg (by rw [c_183]; decide), if_neg (by omega), if_pos (by omega)])); (have e2 : insN F m p bf (T p) = T p := by (unfold insN psN; first | (simp [stT, *] <;> omega) | rw [if_neg (by rw [c_73]; decide), if_neg (by rw [c_112]; decide), if_neg (by rw [c_183]; decide), if_neg (by omega), if_neg (by omega)] | rw [if_neg (by rw [c_73]; decide), if_neg (by rw [c_112]; decide), if_neg (by rw [c_183]; decide), if_neg (by omega), if_pos (by omega)])); exact hp0 _ _ ⟨rfl, by rw [e2]; exact hI, by rw [e1]; exact h21⟩)
              · refine px_iconst (v := 1) dx_Mo_pass1_284 rfl ?_
                refine px_goto dx_Mo_pass1_285 ?_
                refine px_cV (Y := yy_Mo_pass1) (Yc := yy_Mo_need) (b := 717) (As := [.int (1)]) dx_Mo_pass1_289 ml_Mo_259 mv_Mo_need np_Mo_need ⟨_, rfl⟩ (by decide) rfl (by decide) rfl (Nat.le_of_ble_eq_true rfl) (Nat.le_of_ble_eq_true rfl) rk_Mo_pass1_Mo_need rfl (m_needC (w := false) (g := true) hM h21) zz_0 ?_
                have h21 : gI (sI σ 717 21 (b2i (false || !true))) 717 21 = b2i (!true) := by rw [gI_s, Bool.false_or]
                have hI := hI.w (v := b2i (false || !true))
                obtain ⟨hM, hF, hT, hN, hA, hK⟩ := id hI
                refine px_goto dx_Mo_pass1_292 ?_
                exact px_vret dx_Mo_pass1_339 rfl (by (have e1 : insG F m p (T p) = true := by (unfold insG psG; first | (simp [*] <;> omega) | rw [if_neg (by rw [c_73]; decide), if_neg (by rw [c_112]; decide), if_neg (by rw [c_183]; decide), if_neg (by omega), if_neg (by omega)] | rw [if_neg (by rw [c_73]; decide), if_neg (by rw [c_112]; decide), if_neg (by rw [c_183]; decide), if_neg (by omega), if_pos (by omega)])); (have e2 : insN F m p bf (T p) = T p := by (unfold insN psN; first | (simp [stT, *] <;> omega) | rw [if_neg (by rw [c_73]; decide), if_neg (by rw [c_112]; decide), if_neg (by rw [c_183]; decide), if_neg (by omega), if_neg (by omega)] | rw [if_neg (by rw [c_73]; decide), if_neg (by rw [c_112]; decide), if_neg (by rw [c_183]; decide), if_neg (by omega), if_pos (by omega)])); exact hp0 _ _ ⟨rfl, by rw [e2]; exact hI, by rw [e1]; exact h21⟩)
      · have q := hnm
        unfold nmOK at q
        rw [nmW_2 (by assumption) (by assumption) (by assumption)] at q
        simp only [Bool.and_eq_true, hsR, decide_eq_true_eq] at q
        refine px_aload_n dx_Mo_pass1_186 rfl ?_
        refine px_aload_n dx_Mo_pass1_187 rfl ?_
        refine px_iload_n dx_Mo_pass1_188 rfl ?_
        refine px_iload_n dx_Mo_pass1_189 rfl ?_
        refine px_aload_n dx_Mo_pass1_190 rfl ?_
        refine px_iload_n dx_Mo_pass1_191 rfl ?_
        refine px_iload_n dx_Mo_pass1_192 rfl ?_
        refine px_cV (Y := yy_Mo_pass1) (Yc := yy_Mo_regC) (b := 717) (As := [.int (nI (m)), .int (nI (p))]) dx_Mo_pass1_193 ml_Mo_205 mv_Mo_regC np_Mo_regC ⟨_, rfl⟩ (by decide) rfl (by decide) rfl (Nat.le_of_ble_eq_true rfl) (Nat.le_of_ble_eq_true rfl) rk_Mo_pass1_Mo_regC rfl (m_regC hM (by omega) (hF.2.2.2.2.2.2.2 (40 * m + (p + 1)) (by omega)) (hW.2.2.2.2.2.2.2 _)) zz_0 ?_
        refine px_iload dx_Mo_pass1_196 rfl ?_
        refine px_cS (Y := yy_Mo_pass1) (Yc := yy_Mo_compared) (As := [.int (nI (opS (F 7 (40 * m + p))))]) dx_Mo_pass1_198 ml_Mo_211 ms_Mo_compared np_Mo_compared rfl (Nat.le_of_ble_eq_true rfl) (Nat.le_of_ble_eq_true rfl) rk_Mo_pass1_Mo_compared rfl (m_compared (opS_lt _)) zz_0 ?_
        refine px_cV (Y := yy_Mo_pass1) (Yc := yy_Mo_is) (b := 717) (As := [.int (nI (m)), .int (nI (p)), .int (nI (opS (F 7 (40 * m + (p + 1))))), .int (nI (cpO (opS (F 7 (40 * m + p)))))]) dx_Mo_pass1_201 ml_Mo_255 mv_Mo_is np_Mo_is ⟨_, rfl⟩ (by decide) rfl (by decide) rfl (Nat.le_of_ble_eq_true rfl) (Nat.le_of_ble_eq_true rfl) rk_Mo_pass1_Mo_is rfl (m_is (t := cpO (opS (F 7 (40 * m + p)))) hM hT hm hpl ((cpO_b _).1) ((cpO_b _).2) (by omega) hT6) zz_0 ?_
        refine px_if_eqB dx_Mo_pass1_204 (fun c_204 => ?_) (fun c_204 => ?_)
        · refine px_iconst (v := 0) dx_Mo_pass1_231 rfl ?_
          refine px_cV (Y := yy_Mo_pass1) (Yc := yy_Mo_need) (b := 717) (As := [.int (0)]) dx_Mo_pass1_232 ml_Mo_259 mv_Mo_need np_Mo_need ⟨_, rfl⟩ (by decide) rfl (by decide) rfl (Nat.le_of_ble_eq_true rfl) (Nat.le_of_ble_eq_true rfl) rk_Mo_pass1_Mo_need rfl (m_needC (w := false) (g := false) hM h21) zz_0 ?_
          have h21 : gI (sI σ 717 21 (b2i (false || !false))) 717 21 = b2i (!false) := by rw [gI_s, Bool.false_or]
          have hI := hI.w (v := b2i (false || !false))
          obtain ⟨hM, hF, hT, hN, hA, hK⟩ := id hI
          refine px_aload_n dx_Mo_pass1_235 rfl ?_
          refine px_iload dx_Mo_pass1_236 rfl ?_
          refine px_iconst (v := 1) dx_Mo_pass1_238 rfl ?_
          refine px_cVR (Y := yy_Mo_pass1) (Yc := yy_Mo_set) (b := 717) (As := [.int (nI (opN (F 7 (40 * m + p)))), .int (1)]) dx_Mo_pass1_239 ml_Mo_263 mv_Mo_set np_Mo_set ⟨_, rfl⟩ (by decide) rfl (by decide) rfl (Nat.le_of_ble_eq_true rfl) (Nat.le_of_ble_eq_true rfl) rk_Mo_pass1_Mo_set rfl (m_set_p (t := 1) hM hN hP (by decide) (by omega)) zz_0 (fun r_239 τ1 h_239 => ?_)
          obtain ⟨rfl, hA2, hN2⟩ := h_239
          have hI := hI.st hA2 hN2
          have h21 := (PI.s21 hA2).trans h21
          obtain ⟨hM, hF, hT, hN, hA, hK⟩ := id hI
          refine px_goto dx_Mo_pass1_242 ?_
          exact px_vret dx_Mo_pass1_339 rfl (by (have e1 : insG F m p (T p) = false := by (unfold insG psG; first | (simp [*] <;> omega) | rw [if_neg (by rw [c_73]; decide), if_neg (by rw [c_112]; decide), if_neg (by rw [c_183]; decide), if_neg (by omega), if_neg (by omega)] | rw [if_neg (by rw [c_73]; decide), if_neg (by rw [c_112]; decide), if_neg (by rw [c_183]; decide), if_neg (by omega), if_pos (by omega)])); (have e2 : insN F m p bf (T p) = stN (T p) (opN (F 7 (40 * m + p))) 1 (decide (1 = 2 ∨ 1 = 4)) := by (unfold insN psN; first | (simp [stT, *] <;> omega) | rw [if_neg (by rw [c_73]; decide), if_neg (by rw [c_112]; decide), if_neg (by rw [c_183]; decide), if_neg (by omega), if_neg (by omega)] | rw [if_neg (by rw [c_73]; decide), if_neg (by rw [c_112]; decide), if_neg (by rw [c_183]; decide), if_neg (by omega), if_pos (by omega)])); exact hp0 _ _ ⟨rfl, by rw [e2]; exact hI, by rw [e1]; exact h21⟩)
        · refine px_aload_n dx_Mo_pass1_207 rfl ?_
          refine px_iload_n dx_Mo_pass1_208 rfl ?_
          refine px_iload_n dx_Mo_pass1_209 rfl ?_
          refine px_aload_n dx_Mo_pass1_210 rfl ?_
          refine px_iload_n dx_Mo_pass1_211 rfl ?_
          refine px_iload_n dx_Mo_pass1_212 rfl ?_
          refine px_cV (Y := yy_Mo_pass1) (Yc := yy_Mo_regD) (b := 717) (As := [.int (nI (m)), .int (nI (p))]) dx_Mo_pass1_213 ml_Mo_208 mv_Mo_regD np_Mo_regD ⟨_, rfl⟩ (by decide) rfl (by decide) rfl (Nat.le_of_ble_eq_true rfl) (Nat.le_of_ble_eq_true rfl) rk_Mo_pass1_Mo_regD rfl (m_regD hM (by omega) (hF.2.2.2.2.2.2.2 (40 * m + (p + 1)) (by omega)) (hW.2.2.2.2.2.2.2 _)) zz_0 ?_
          refine px_iload dx_Mo_pass1_216 rfl ?_
          refine px_cS (Y := yy_Mo_pass1) (Yc := yy_Mo_compared) (As := [.int (nI (opS (F 7 (40 * m + p))))]) dx_Mo_pass1_218 ml_Mo_211 ms_Mo_compared np_Mo_compared rfl (Nat.le_of_ble_eq_true rfl) (Nat.le_of_ble_eq_true rfl) rk_Mo_pass1_Mo_compared rfl (m_compared (opS_lt _)) zz_0 ?_
          refine px_cV (Y := yy_Mo_pass1) (Yc := yy_Mo_is) (b := 717) (As := [.int (nI (m)), .int (nI (p)), .int (nI (opN (F 7 (40 * m + (p + 1))))), .int (nI (cpO (opS (F 7 (40 * m + p)))))]) dx_Mo_pass1_221 ml_Mo_255 mv_Mo_is np_Mo_is ⟨_, rfl⟩ (by decide) rfl (by decide) rfl (Nat.le_of_ble_eq_true rfl) (Nat.le_of_ble_eq_true rfl) rk_Mo_pass1_Mo_is rfl (m_is (t := cpO (opS (F 7 (40 * m + p)))) hM hT hm hpl ((cpO_b _).1) ((cpO_b _).2) (by omega) hT6) zz_0 ?_
          refine px_if_eqB dx_Mo_pass1_224 (fun c_224 => ?_) (fun c_224 => ?_)
          · refine px_iconst (v := 0) dx_Mo_pass1_231 rfl ?_
            refine px_cV (Y := yy_Mo_pass1) (Yc := yy_Mo_need) (b := 717) (As := [.int (0)]) dx_Mo_pass1_232 ml_Mo_259 mv_Mo_need np_Mo_need ⟨_, rfl⟩ (by decide) rfl (by decide) rfl (Nat.le_of_ble_eq_true rfl) (Nat.le_of_ble_eq_true rfl) rk_Mo_pass1_Mo_need rfl (m_needC (w := false) (g := false) hM h21) zz_0 ?_
            have h21 : gI (sI σ 717 21 (b2i (false || !false))) 717 21 = b2i (!false) := by rw [gI_s, Bool.false_or]
            have hI := hI.w (v := b2i (false || !false))
            obtain ⟨hM, hF, hT, hN, hA, hK⟩ := id hI
            refine px_aload_n dx_Mo_pass1_235 rfl ?_
            refine px_iload dx_Mo_pass1_236 rfl ?_
            refine px_iconst (v := 1) dx_Mo_pass1_238 rfl ?_
            refine px_cVR (Y := yy_Mo_pass1) (Yc := yy_Mo_set) (b := 717) (As := [.int (nI (opN (F 7 (40 * m + p)))), .int (1)]) dx_Mo_pass1_239 ml_Mo_263 mv_Mo_set np_Mo_set ⟨_, rfl⟩ (by decide) rfl (by decide) rfl (Nat.le_of_ble_eq_true rfl) (Nat.le_of_ble_eq_true rfl) rk_Mo_pass1_Mo_set rfl (m_set_p (t := 1) hM hN hP (by decide) (by omega)) zz_0 (fun r_239 τ2 h_239 => ?_)
            obtain ⟨rfl, hA2, hN2⟩ := h_239
            have hI := hI.st hA2 hN2
            have h21 := (PI.s21 hA2).trans h21
            obtain ⟨hM, hF, hT, hN, hA, hK⟩ := id hI
            refine px_goto dx_Mo_pass1_242 ?_
            exact px_vret dx_Mo_pass1_339 rfl (by (have e1 : insG F m p (T p) = false := by (unfold insG psG; first | (simp [*] <;> omega) | rw [if_neg (by rw [c_73]; decide), if_neg (by rw [c_112]; decide), if_neg (by rw [c_183]; decide), if_neg (by omega), if_neg (by omega)] | rw [if_neg (by rw [c_73]; decide), if_neg (by rw [c_112]; decide), if_neg (by rw [c_183]; decide), if_neg (by omega), if_pos (by omega)])); (have e2 : insN F m p bf (T p) = stN (T p) (opN (F 7 (40 * m + p))) 1 (decide (1 = 2 ∨ 1 = 4)) := by (unfold insN psN; first | (simp [stT, *] <;> omega) | rw [if_neg (by rw [c_73]; decide), if_neg (by rw [c_112]; decide), if_neg (by rw [c_183]; decide), if_neg (by omega), if_neg (by omega)] | rw [if_neg (by rw [c_73]; decide), if_neg (by rw [c_112]; decide), if_neg (by rw [c_183]; decide), if_neg (by omega), if_pos (by omega)])); exact hp0 _ _ ⟨rfl, by rw [e2]; exact hI, by rw [e1]; exact h21⟩)
          · refine px_iconst (v := 1) dx_Mo_pass1_227 rfl ?_
            refine px_goto dx_Mo_pass1_228 ?_
            refine px_cV (Y := yy_Mo_pass1) (Yc := yy_Mo_need) (b := 717) (As := [.int (1)]) dx_Mo_pass1_232 ml_Mo_259 mv_Mo_need np_Mo_need ⟨_, rfl⟩ (by decide) rfl (by decide) rfl (Nat.le_of_ble_eq_true rfl) (Nat.le_of_ble_eq_true rfl) rk_Mo_pass1_Mo_need rfl (m_needC (w := false) (g := true) hM h21) zz_0 ?_
            have h21 : gI (sI σ 717 21 (b2i (false || !true))) 717 21 = b2i (!true) := by rw [gI_s, Bool.false_or]
            have hI := hI.w (v := b2i (false || !true))
            obtain ⟨hM, hF, hT, hN, hA, hK⟩ := id hI
            refine px_aload_n dx_Mo_pass1_235 rfl ?_
            refine px_iload dx_Mo_pass1_236 rfl ?_
            refine px_iconst (v := 1) dx_Mo_pass1_238 rfl ?_
            refine px_cVR (Y := yy_Mo_pass1) (Yc := yy_Mo_set) (b := 717) (As := [.int (nI (opN (F 7 (40 * m + p)))), .int (1)]) dx_Mo_pass1_239 ml_Mo_263 mv_Mo_set np_Mo_set ⟨_, rfl⟩ (by decide) rfl (by decide) rfl (Nat.le_of_ble_eq_true rfl) (Nat.le_of_ble_eq_true rfl) rk_Mo_pass1_Mo_set rfl (m_set_p (t := 1) hM hN hP (by decide) (by omega)) zz_0 (fun r_239 τ3 h_239 => ?_)
            obtain ⟨rfl, hA2, hN2⟩ := h_239
            have hI := hI.st hA2 hN2
            have h21 := (PI.s21 hA2).trans h21
            obtain ⟨hM, hF, hT, hN, hA, hK⟩ := id hI
            refine px_goto dx_Mo_pass1_242 ?_
            exact px_vret dx_Mo_pass1_339 rfl (by (have e1 : insG F m p (T p) = true := by (unfold insG psG; first | (simp [*] <;> omega) | rw [if_neg (by rw [c_73]; decide), if_neg (by rw [c_112]; decide), if_neg (by rw [c_183]; decide), if_neg (by omega), if_neg (by omega)] | rw [if_neg (by rw [c_73]; decide), if_neg (by rw [c_112]; decide), if_neg (by rw [c_183]; decide), if_neg (by omega), if_pos (by omega)])); (have e2 : insN F m p bf (T p) = stN (T p) (opN (F 7 (40 * m + p))) 1 (decide (1 = 2 ∨ 1 = 4)) := by (unfold insN psN; first | (simp [stT, *] <;> omega) | rw [if_neg (by rw [c_73]; decide), if_neg (by rw [c_112]; decide), if_neg (by rw [c_183]; decide), if_neg (by omega), if_neg (by omega)] | rw [if_neg (by rw [c_73]; decide), if_neg (by rw [c_112]; decide), if_neg (by rw [c_183]; decide), if_neg (by omega), if_pos (by omega)])); exact hp0 _ _ ⟨rfl, by rw [e2]; exact hI, by rw [e1]; exact h21⟩)
    · have q := hnm
      unfold nmOK at q
      rw [nmW_1 (by assumption) (by assumption)] at q
      simp only [Bool.and_eq_true, hsR, decide_eq_true_eq] at q
      refine px_aload_n dx_Mo_pass1_115 rfl ?_
      refine px_aload_n dx_Mo_pass1_116 rfl ?_
      refine px_iload_n dx_Mo_pass1_117 rfl ?_
      refine px_iload_n dx_Mo_pass1_118 rfl ?_
      refine px_aload_n dx_Mo_pass1_119 rfl ?_
      refine px_iload_n dx_Mo_pass1_120 rfl ?_
      refine px_iload_n dx_Mo_pass1_121 rfl ?_
      refine px_cV (Y := yy_Mo_pass1) (Yc := yy_Mo_regC) (b := 717) (As := [.int (nI (m)), .int (nI (p))]) dx_Mo_pass1_122 ml_Mo_205 mv_Mo_regC np_Mo_regC ⟨_, rfl⟩ (by decide) rfl (by decide) rfl (Nat.le_of_ble_eq_true rfl) (Nat.le_of_ble_eq_true rfl) rk_Mo_pass1_Mo_regC rfl (m_regC hM (by omega) (hF.2.2.2.2.2.2.2 (40 * m + (p + 1)) (by omega)) (hW.2.2.2.2.2.2.2 _)) zz_0 ?_
      refine px_iload dx_Mo_pass1_125 rfl ?_
      refine px_cS (Y := yy_Mo_pass1) (Yc := yy_Mo_joined) (As := [.int (nI (opS (F 7 (40 * m + p))))]) dx_Mo_pass1_127 ml_Mo_202 ms_Mo_joined np_Mo_joined rfl (Nat.le_of_ble_eq_true rfl) (Nat.le_of_ble_eq_true rfl) rk_Mo_pass1_Mo_joined rfl (m_joined (opS_lt _)) zz_0 ?_
      refine px_cV (Y := yy_Mo_pass1) (Yc := yy_Mo_is) (b := 717) (As := [.int (nI (m)), .int (nI (p)), .int (nI (opS (F 7 (40 * m + (p + 1))))), .int (nI (jnO (opS (F 7 (40 * m + p)))))]) dx_Mo_pass1_130 ml_Mo_255 mv_Mo_is np_Mo_is ⟨_, rfl⟩ (by decide) rfl (by decide) rfl (Nat.le_of_ble_eq_true rfl) (Nat.le_of_ble_eq_true rfl) rk_Mo_pass1_Mo_is rfl (m_is (t := jnO (opS (F 7 (40 * m + p)))) hM hT hm hpl ((jnO_b _).1) ((jnO_b _).2) (by omega) hT6) zz_0 ?_
      refine px_if_eqB dx_Mo_pass1_133 (fun c_133 => ?_) (fun c_133 => ?_)
      · refine px_iconst (v := 0) dx_Mo_pass1_160 rfl ?_
        refine px_cV (Y := yy_Mo_pass1) (Yc := yy_Mo_need) (b := 717) (As := [.int (0)]) dx_Mo_pass1_161 ml_Mo_259 mv_Mo_need np_Mo_need ⟨_, rfl⟩ (by decide) rfl (by decide) rfl (Nat.le_of_ble_eq_true rfl) (Nat.le_of_ble_eq_true rfl) rk_Mo_pass1_Mo_need rfl (m_needC (w := false) (g := false) hM h21) zz_0 ?_
        have h21 : gI (sI σ 717 21 (b2i (false || !false))) 717 21 = b2i (!false) := by rw [gI_s, Bool.false_or]
        have hI := hI.w (v := b2i (false || !false))
        obtain ⟨hM, hF, hT, hN, hA, hK⟩ := id hI
        refine px_aload_n dx_Mo_pass1_164 rfl ?_
        refine px_iload dx_Mo_pass1_165 rfl ?_
        refine px_iload dx_Mo_pass1_167 rfl ?_
        refine px_cS (Y := yy_Mo_pass1) (Yc := yy_Mo_joined) (As := [.int (nI (opS (F 7 (40 * m + p))))]) dx_Mo_pass1_169 ml_Mo_202 ms_Mo_joined np_Mo_joined rfl (Nat.le_of_ble_eq_true rfl) (Nat.le_of_ble_eq_true rfl) rk_Mo_pass1_Mo_joined rfl (m_joined (opS_lt _)) zz_0 ?_
        refine px_cVR (Y := yy_Mo_pass1) (Yc := yy_Mo_set) (b := 717) (As := [.int (nI (opN (F 7 (40 * m + p)))), .int (nI (jnO (opS (F 7 (40 * m + p)))))]) dx_Mo_pass1_172 ml_Mo_263 mv_Mo_set np_Mo_set ⟨_, rfl⟩ (by decide) rfl (by decide) rfl (Nat.le_of_ble_eq_true rfl) (Nat.le_of_ble_eq_true rfl) rk_Mo_pass1_Mo_set rfl (m_set_p (t := jnO (opS (F 7 (40 * m + p)))) hM hN hP ((jnO_b _).2) (by omega)) zz_0 (fun r_172 τ4 h_172 => ?_)
        obtain ⟨rfl, hA2, hN2⟩ := h_172
        have hI := hI.st hA2 hN2
        have h21 := (PI.s21 hA2).trans h21
        obtain ⟨hM, hF, hT, hN, hA, hK⟩ := id hI
        refine px_goto dx_Mo_pass1_175 ?_
        exact px_vret dx_Mo_pass1_339 rfl (by (have e1 : insG F m p (T p) = false := by (unfold insG psG; first | (simp [*] <;> omega) | rw [if_neg (by rw [c_73]; decide), if_neg (by rw [c_112]; decide), if_neg (by rw [c_183]; decide), if_neg (by omega), if_neg (by omega)] | rw [if_neg (by rw [c_73]; decide), if_neg (by rw [c_112]; decide), if_neg (by rw [c_183]; decide), if_neg (by omega), if_pos (by omega)])); (have e2 : insN F m p bf (T p) = stN (T p) (opN (F 7 (40 * m + p))) (jnO (opS (F 7 (40 * m + p)))) (decide (jnO (opS (F 7 (40 * m + p))) = 2 ∨ jnO (opS (F 7 (40 * m + p))) = 4)) := by (unfold insN psN; first | (simp [stT, *] <;> omega) | rw [if_neg (by rw [c_73]; decide), if_neg (by rw [c_112]; decide), if_neg (by rw [c_183]; decide), if_neg (by omega), if_neg (by omega)] | rw [if_neg (by rw [c_73]; decide), if_neg (by rw [c_112]; decide), if_neg (by rw [c_183]; decide), if_neg (by omega), if_pos (by omega)])); exact hp0 _ _ ⟨rfl, by rw [e2]; exact hI, by rw [e1]; exact h21⟩)
      · refine px_aload_n dx_Mo_pass1_136 rfl ?_
        refine px_iload_n dx_Mo_pass1_137 rfl ?_
        refine px_iload_n dx_Mo_pass1_138 rfl ?_
        refine px_aload_n dx_Mo_pass1_139 rfl ?_
        refine px_iload_n dx_Mo_pass1_140 rfl ?_
        refine px_iload_n dx_Mo_pass1_141 rfl ?_
        refine px_cV (Y := yy_Mo_pass1) (Yc := yy_Mo_regD) (b := 717) (As := [.int (nI (m)), .int (nI (p))]) dx_Mo_pass1_142 ml_Mo_208 mv_Mo_regD np_Mo_regD ⟨_, rfl⟩ (by decide) rfl (by decide) rfl (Nat.le_of_ble_eq_true rfl) (Nat.le_of_ble_eq_true rfl) rk_Mo_pass1_Mo_regD rfl (m_regD hM (by omega) (hF.2.2.2.2.2.2.2 (40 * m + (p + 1)) (by omega)) (hW.2.2.2.2.2.2.2 _)) zz_0 ?_
        refine px_iload dx_Mo_pass1_145 rfl ?_
        refine px_cS (Y := yy_Mo_pass1) (Yc := yy_Mo_joined) (As := [.int (nI (opS (F 7 (40 * m + p))))]) dx_Mo_pass1_147 ml_Mo_202 ms_Mo_joined np_Mo_joined rfl (Nat.le_of_ble_eq_true rfl) (Nat.le_of_ble_eq_true rfl) rk_Mo_pass1_Mo_joined rfl (m_joined (opS_lt _)) zz_0 ?_
        refine px_cV (Y := yy_Mo_pass1) (Yc := yy_Mo_is) (b := 717) (As := [.int (nI (m)), .int (nI (p)), .int (nI (opN (F 7 (40 * m + (p + 1))))), .int (nI (jnO (opS (F 7 (40 * m + p)))))]) dx_Mo_pass1_150 ml_Mo_255 mv_Mo_is np_Mo_is ⟨_, rfl⟩ (by decide) rfl (by decide) rfl (Nat.le_of_ble_eq_true rfl) (Nat.le_of_ble_eq_true rfl) rk_Mo_pass1_Mo_is rfl (m_is (t := jnO (opS (F 7 (40 * m + p)))) hM hT hm hpl ((jnO_b _).1) ((jnO_b _).2) (by omega) hT6) zz_0 ?_
        refine px_if_eqB dx_Mo_pass1_153 (fun c_153 => ?_) (fun c_153 => ?_)
        · refine px_iconst (v := 0) dx_Mo_pass1_160 rfl ?_
          refine px_cV (Y := yy_Mo_pass1) (Yc := yy_Mo_need) (b := 717) (As := [.int (0)]) dx_Mo_pass1_161 ml_Mo_259 mv_Mo_need np_Mo_need ⟨_, rfl⟩ (by decide) rfl (by decide) rfl (Nat.le_of_ble_eq_true rfl) (Nat.le_of_ble_eq_true rfl) rk_Mo_pass1_Mo_need rfl (m_needC (w := false) (g := false) hM h21) zz_0 ?_
          have h21 : gI (sI σ 717 21 (b2i (false || !false))) 717 21 = b2i (!false) := by rw [gI_s, Bool.false_or]
          have hI := hI.w (v := b2i (false || !false))
          obtain ⟨hM, hF, hT, hN, hA, hK⟩ := id hI
          refine px_aload_n dx_Mo_pass1_164 rfl ?_
          refine px_iload dx_Mo_pass1_165 rfl ?_
          refine px_iload dx_Mo_pass1_167 rfl ?_
          refine px_cS (Y := yy_Mo_pass1) (Yc := yy_Mo_joined) (As := [.int (nI (opS (F 7 (40 * m + p))))]) dx_Mo_pass1_169 ml_Mo_202 ms_Mo_joined np_Mo_joined rfl (Nat.le_of_ble_eq_true rfl) (Nat.le_of_ble_eq_true rfl) rk_Mo_pass1_Mo_joined rfl (m_joined (opS_lt _)) zz_0 ?_
          refine px_cVR (Y := yy_Mo_pass1) (Yc := yy_Mo_set) (b := 717) (As := [.int (nI (opN (F 7 (40 * m + p)))), .int (nI (jnO (opS (F 7 (40 * m + p)))))]) dx_Mo_pass1_172 ml_Mo_263 mv_Mo_set np_Mo_set ⟨_, rfl⟩ (by decide) rfl (by decide) rfl (Nat.le_of_ble_eq_true rfl) (Nat.le_of_ble_eq_true rfl) rk_Mo_pass1_Mo_set rfl (m_set_p (t := jnO (opS (F 7 (40 * m + p)))) hM hN hP ((jnO_b _).2) (by omega)) zz_0 (fun r_172 τ5 h_172 => ?_)
          obtain ⟨rfl, hA2, hN2⟩ := h_172
          have hI := hI.st hA2 hN2
          have h21 := (PI.s21 hA2).trans h21
          obtain ⟨hM, hF, hT, hN, hA, hK⟩ := id hI
          refine px_goto dx_Mo_pass1_175 ?_
          exact px_vret dx_Mo_pass1_339 rfl (by (have e1 : insG F m p (T p) = false := by (unfold insG psG; first | (simp [*] <;> omega) | rw [if_neg (by rw [c_73]; decide), if_neg (by rw [c_112]; decide), if_neg (by rw [c_183]; decide), if_neg (by omega), if_neg (by omega)] | rw [if_neg (by rw [c_73]; decide), if_neg (by rw [c_112]; decide), if_neg (by rw [c_183]; decide), if_neg (by omega), if_pos (by omega)])); (have e2 : insN F m p bf (T p) = stN (T p) (opN (F 7 (40 * m + p))) (jnO (opS (F 7 (40 * m + p)))) (decide (jnO (opS (F 7 (40 * m + p))) = 2 ∨ jnO (opS (F 7 (40 * m + p))) = 4)) := by (unfold insN psN; first | (simp [stT, *] <;> omega) | rw [if_neg (by rw [c_73]; decide), if_neg (by rw [c_112]; decide), if_neg (by rw [c_183]; decide), if_neg (by omega), if_neg (by omega)] | rw [if_neg (by rw [c_73]; decide), if_neg (by rw [c_112]; decide), if_neg (by rw [c_183]; decide), if_neg (by omega), if_pos (by omega)])); exact hp0 _ _ ⟨rfl, by rw [e2]; exact hI, by rw [e1]; exact h21⟩)
        · refine px_iconst (v := 1) dx_Mo_pass1_156 rfl ?_
          refine px_goto dx_Mo_pass1_157 ?_
          refine px_cV (Y := yy_Mo_pass1) (Yc := yy_Mo_need) (b := 717) (As := [.int (1)]) dx_Mo_pass1_161 ml_Mo_259 mv_Mo_need np_Mo_need ⟨_, rfl⟩ (by decide) rfl (by decide) rfl (Nat.le_of_ble_eq_true rfl) (Nat.le_of_ble_eq_true rfl) rk_Mo_pass1_Mo_need rfl (m_needC (w := false) (g := true) hM h21) zz_0 ?_
          have h21 : gI (sI σ 717 21 (b2i (false || !true))) 717 21 = b2i (!true) := by rw [gI_s, Bool.false_or]
          have hI := hI.w (v := b2i (false || !true))
          obtain ⟨hM, hF, hT, hN, hA, hK⟩ := id hI
          refine px_aload_n dx_Mo_pass1_164 rfl ?_
          refine px_iload dx_Mo_pass1_165 rfl ?_
          refine px_iload dx_Mo_pass1_167 rfl ?_
          refine px_cS (Y := yy_Mo_pass1) (Yc := yy_Mo_joined) (As := [.int (nI (opS (F 7 (40 * m + p))))]) dx_Mo_pass1_169 ml_Mo_202 ms_Mo_joined np_Mo_joined rfl (Nat.le_of_ble_eq_true rfl) (Nat.le_of_ble_eq_true rfl) rk_Mo_pass1_Mo_joined rfl (m_joined (opS_lt _)) zz_0 ?_
          refine px_cVR (Y := yy_Mo_pass1) (Yc := yy_Mo_set) (b := 717) (As := [.int (nI (opN (F 7 (40 * m + p)))), .int (nI (jnO (opS (F 7 (40 * m + p)))))]) dx_Mo_pass1_172 ml_Mo_263 mv_Mo_set np_Mo_set ⟨_, rfl⟩ (by decide) rfl (by decide) rfl (Nat.le_of_ble_eq_true rfl) (Nat.le_of_ble_eq_true rfl) rk_Mo_pass1_Mo_set rfl (m_set_p (t := jnO (opS (F 7 (40 * m + p)))) hM hN hP ((jnO_b _).2) (by omega)) zz_0 (fun r_172 τ6 h_172 => ?_)
          obtain ⟨rfl, hA2, hN2⟩ := h_172
          have hI := hI.st hA2 hN2
          have h21 := (PI.s21 hA2).trans h21
          obtain ⟨hM, hF, hT, hN, hA, hK⟩ := id hI
          refine px_goto dx_Mo_pass1_175 ?_
          exact px_vret dx_Mo_pass1_339 rfl (by (have e1 : insG F m p (T p) = true := by (unfold insG psG; first | (simp [*] <;> omega) | rw [if_neg (by rw [c_73]; decide), if_neg (by rw [c_112]; decide), if_neg (by rw [c_183]; decide), if_neg (by omega), if_neg (by omega)] | rw [if_neg (by rw [c_73]; decide), if_neg (by rw [c_112]; decide), if_neg (by rw [c_183]; decide), if_neg (by omega), if_pos (by omega)])); (have e2 : insN F m p bf (T p) = stN (T p) (opN (F 7 (40 * m + p))) (jnO (opS (F 7 (40 * m + p)))) (decide (jnO (opS (F 7 (40 * m + p))) = 2 ∨ jnO (opS (F 7 (40 * m + p))) = 4)) := by (unfold insN psN; first | (simp [stT, *] <;> omega) | rw [if_neg (by rw [c_73]; decide), if_neg (by rw [c_112]; decide), if_neg (by rw [c_183]; decide), if_neg (by omega), if_neg (by omega)] | rw [if_neg (by rw [c_73]; decide), if_neg (by rw [c_112]; decide), if_neg (by rw [c_183]; decide), if_neg (by omega), if_pos (by omega)])); exact hp0 _ _ ⟨rfl, by rw [e2]; exact hI, by rw [e1]; exact h21⟩)
  · have q := hnm
    unfold nmOK at q
    rw [nmW_0 (by assumption)] at q
    simp only [Bool.and_eq_true, hsR, decide_eq_true_eq] at q
    refine px_aload_n dx_Mo_pass1_76 rfl ?_
    refine px_aload_n dx_Mo_pass1_77 rfl ?_
    refine px_iload_n dx_Mo_pass1_78 rfl ?_
    refine px_iload_n dx_Mo_pass1_79 rfl ?_
    refine px_iload dx_Mo_pass1_80 rfl ?_
    refine px_iload dx_Mo_pass1_82 rfl ?_
    refine px_cS (Y := yy_Mo_pass1) (Yc := yy_Mo_takes) (As := [.int (nI (opS (F 7 (40 * m + p))))]) dx_Mo_pass1_84 ml_Mo_199 ms_Mo_takes np_Mo_takes rfl (Nat.le_of_ble_eq_true rfl) (Nat.le_of_ble_eq_true rfl) rk_Mo_pass1_Mo_takes rfl (m_takes (opS_lt _)) zz_0 ?_
    refine px_cV (Y := yy_Mo_pass1) (Yc := yy_Mo_is) (b := 717) (As := [.int (nI (m)), .int (nI (p)), .int (nI (opB (F 7 (40 * m + p)))), .int (nI (tkO (opS (F 7 (40 * m + p)))))]) dx_Mo_pass1_87 ml_Mo_255 mv_Mo_is np_Mo_is ⟨_, rfl⟩ (by decide) rfl (by decide) rfl (Nat.le_of_ble_eq_true rfl) (Nat.le_of_ble_eq_true rfl) rk_Mo_pass1_Mo_is rfl (m_is (t := tkO (opS (F 7 (40 * m + p)))) hM hT hm hpl ((tkO_b _).1) ((tkO_b _).2) (by omega) hT6) zz_0 ?_
    refine px_cV (Y := yy_Mo_pass1) (Yc := yy_Mo_need) (b := 717) (As := [.int (b2i (isT (T p) (opB (F 7 (40 * m + p))) (tkO (opS (F 7 (40 * m + p))))))]) dx_Mo_pass1_90 ml_Mo_259 mv_Mo_need np_Mo_need ⟨_, rfl⟩ (by decide) rfl (by decide) rfl (Nat.le_of_ble_eq_true rfl) (Nat.le_of_ble_eq_true rfl) rk_Mo_pass1_Mo_need rfl (m_needC (w := false) (g := isT (T p) (opB (F 7 (40 * m + p))) (tkO (opS (F 7 (40 * m + p))))) hM h21) zz_0 ?_
    have h21 : gI (sI σ 717 21 (b2i (false || !(isT (T p) (opB (F 7 (40 * m + p))) (tkO (opS (F 7 (40 * m + p)))))))) 717 21 = b2i (!(isT (T p) (opB (F 7 (40 * m + p))) (tkO (opS (F 7 (40 * m + p)))))) := by rw [gI_s, Bool.false_or]
    have hI := hI.w (v := b2i (false || !(isT (T p) (opB (F 7 (40 * m + p))) (tkO (opS (F 7 (40 * m + p)))))))
    obtain ⟨hM, hF, hT, hN, hA, hK⟩ := id hI
    refine px_aload_n dx_Mo_pass1_93 rfl ?_
    refine px_iload dx_Mo_pass1_94 rfl ?_
    refine px_iload dx_Mo_pass1_96 rfl ?_
    refine px_cS (Y := yy_Mo_pass1) (Yc := yy_Mo_gives) (As := [.int (nI (opS (F 7 (40 * m + p))))]) dx_Mo_pass1_98 ml_Mo_196 ms_Mo_gives np_Mo_gives rfl (Nat.le_of_ble_eq_true rfl) (Nat.le_of_ble_eq_true rfl) rk_Mo_pass1_Mo_gives rfl (m_gives (opS_lt _)) zz_0 ?_
    refine px_cVR (Y := yy_Mo_pass1) (Yc := yy_Mo_set) (b := 717) (As := [.int (nI (opA (F 7 (40 * m + p)))), .int (nI (gvO (opS (F 7 (40 * m + p)))))]) dx_Mo_pass1_101 ml_Mo_263 mv_Mo_set np_Mo_set ⟨_, rfl⟩ (by decide) rfl (by decide) rfl (Nat.le_of_ble_eq_true rfl) (Nat.le_of_ble_eq_true rfl) rk_Mo_pass1_Mo_set rfl (m_set_p (t := gvO (opS (F 7 (40 * m + p)))) hM hN hP ((gvO_b _).2) (by omega)) zz_0 (fun r_101 τ7 h_101 => ?_)
    obtain ⟨rfl, hA2, hN2⟩ := h_101
    have hI := hI.st hA2 hN2
    have h21 := (PI.s21 hA2).trans h21
    obtain ⟨hM, hF, hT, hN, hA, hK⟩ := id hI
    refine px_goto dx_Mo_pass1_104 ?_
    exact px_vret dx_Mo_pass1_339 rfl (by (have e1 : insG F m p (T p) = isT (T p) (opB (F 7 (40 * m + p))) (tkO (opS (F 7 (40 * m + p)))) := by (unfold insG psG; first | (simp [*] <;> omega) | rw [if_neg (by rw [c_73]; decide), if_neg (by rw [c_112]; decide), if_neg (by rw [c_183]; decide), if_neg (by omega), if_neg (by omega)] | rw [if_neg (by rw [c_73]; decide), if_neg (by rw [c_112]; decide), if_neg (by rw [c_183]; decide), if_neg (by omega), if_pos (by omega)])); (have e2 : insN F m p bf (T p) = stN (T p) (opA (F 7 (40 * m + p))) (gvO (opS (F 7 (40 * m + p)))) (decide (gvO (opS (F 7 (40 * m + p))) = 2 ∨ gvO (opS (F 7 (40 * m + p))) = 4)) := by (unfold insN psN; first | (simp [stT, *] <;> omega) | rw [if_neg (by rw [c_73]; decide), if_neg (by rw [c_112]; decide), if_neg (by rw [c_183]; decide), if_neg (by omega), if_neg (by omega)] | rw [if_neg (by rw [c_73]; decide), if_neg (by rw [c_112]; decide), if_neg (by rw [c_183]; decide), if_neg (by omega), if_pos (by omega)])); exact hp0 _ _ ⟨rfl, by rw [e2]; exact hI, by rw [e1]; exact h21⟩)
set_option maxRecDepth 100000 in
set_option maxHeartbeats 1000000 in
theorem m_pass1 {l : Launch} {G : fr_G} {σ : fr_S} {σ0 : fr_S} {F : Nat → Nat → Nat} (hW : FW F) (hFP : FP F) {m p : Nat} {bf : Option Nat} {T : Nat → Nat → Nat} (hm : m < 4) (hpl : p < 40) (hT6 : ∀ r, T p r ≤ 6) (hP : WP (T p)) (hnm : nmOK F m p = true) (hko : kOK F m p bf = true) (hbf : ∀ q, bf = some q → q < 40) {N : Nat → Nat} (hI : PI σ0 σ F m T N) : CR l G yy_Mo_pass1 rm_Mo_pass1 [.ref (717), .int (nI (m)), .int (nI (p)), .int (bfI bf)] σ (fun r0 σ' => r0 = none ∧ PI σ0 σ' F m T (insN F m p bf (T p)) ∧ gI σ' 717 21 = b2i (!insG F m p (T p))) := by
  intro Post hp0
  show PX l G yy_Mo_pass1 rm_Mo_pass1 _ false 742 0 0 0 [(0, .ref (717)), (1, .int (nI (m))), (2, .int (nI (p))), (3, .int (bfI bf))] [] σ
  obtain ⟨hM, hF, hT, hN, hA, hK⟩ := id hI
  have hI2 : ∀ {σ' : fr_S}, PI σ0 σ' F m T (cpR (T p) N 10) → PI σ0 σ' F m T (T p) := fun a => ⟨a.1, a.2.1, a.2.2.1, fun r hr => by (have e := a.2.2.2.1 r hr); (have e2 : cpR (T p) N 10 r = T p r := by unfold cpR; rw [if_pos hr]); rw [e2] at e; exact e, a.2.2.2.2.1, a.2.2.2.2.2⟩
  refine px_aload_n dx_Mo_pass1_0 rfl ?_
  refine px_iload_n dx_Mo_pass1_1 rfl ?_
  refine px_iload_n dx_Mo_pass1_2 rfl ?_
  refine px_cV (Y := yy_Mo_pass1) (Yc := yy_Mo_op) (b := 717) (As := [.int (nI (m)), .int (nI (p))]) dx_Mo_pass1_3 ml_Mo_173 mv_Mo_op np_Mo_op ⟨_, rfl⟩ (by decide) rfl (by decide) rfl (Nat.le_of_ble_eq_true rfl) (Nat.le_of_ble_eq_true rfl) rk_Mo_pass1_Mo_op rfl (m_op hM (by omega) (hF.2.2.2.2.2.2.2 (40 * m + p) (by omega)) (hW.2.2.2.2.2.2.2 _)) zz_0 ?_
  refine px_istore (lv' := [(4, .int (nI (opS (F 7 (40 * m + p))))), (0, .ref (717)), (1, .int (nI (m))), (2, .int (nI (p))), (3, .int (bfI bf))]) dx_Mo_pass1_6 (by decide) rfl ?_
  refine px_aload_n dx_Mo_pass1_8 rfl ?_
  refine px_iconst (v := 0) dx_Mo_pass1_9 rfl ?_
  refine px_putZ dx_Mo_pass1_10 fl_Mo_252 rfl (by decide) rfl (by decide) ?_
  refine px_iconst (v := 0) dx_Mo_pass1_13 rfl ?_
  refine px_istore (lv' := [(5, .int (0)), (4, .int (nI (opS (F 7 (40 * m + p))))), (0, .ref (717)), (1, .int (nI (m))), (2, .int (nI (p))), (3, .int (bfI bf))]) dx_Mo_pass1_14 (by decide) rfl ?_
  refine px_sub [2, 3, 4, 5, 1, 0] rfl ?_
  exact m_pass1_lp (σ := σ) (Post := Post) (σ0 := σ0) (N := N) hm hpl (fun σ' a b => m_pass1_b hW hFP hm hpl hT6 hP hnm hko hbf (hI2 a) b hp0) 11 0 (sI σ 717 21 0) (by omega) (by omega) (by rw [show cpR (T p) N 0 = N from rfl]; exact hI.w) (by rw [gI_s]; rfl)
