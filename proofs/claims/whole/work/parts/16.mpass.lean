/-! the reference: what is behind an instruction -/
theorem m_needC {l : Launch} {G : fr_G} {σ : fr_S} (hM : MR σ) {w g : Bool} (hw : gI σ 717 21 = b2i w) : CT l G yy_Mo_need rm_Mo_need [.ref (717), .int (b2i (g))] σ none (sI σ 717 21 (b2i (w || !g))) :=
  fun Post h => m_need hM hw Post (by rintro _ _ ⟨rfl, rfl⟩; exact h)
/-- parameters have types -/
def FP (F : Nat → Nat → Nat) : Prop := ∀ c j, c < F 0 0 → j < F 3 c → 1 ≤ F 4 (3 * c + j)
def uaG (F : Nat → Nat → Nat) (c w2 : Nat) (row : Nat → Nat) : Nat → Bool
  | 0 => true
  | j + 1 => uaG F c w2 row j && isT row (agW w2 (agK F c j)) (F 4 (3 * c + j))
theorem agOK_hs {F : Nat → Nat → Nat} {m c w2 : Nat} : ∀ {n : Nat}, agOK F m c w2 n = true → ∀ j, j < n → hsR F m (agW w2 (agK F c j)) (F 4 (3 * c + j)) = true
  | 0, _, j, hj => absurd hj (Nat.not_lt_zero _)
  | n + 1, h, j, hj => by
    simp only [agOK, Bool.and_eq_true] at h
    by_cases e : j = n
    · subst e
      exact h.1.2
    · exact agOK_hs h.1.1 j (by omega)
/-- what holds of a state while an instruction's row is made -/
def PI (σ σ' : fr_S) (F : Nat → Nat → Nat) (m : Nat) (T : Nat → Nat → Nat) (N : Nat → Nat) : Prop := MR σ' ∧ MF σ' F ∧ TY σ' m T ∧ NW σ' N ∧ Ag [717, 732] σ σ' ∧ ∀ k, k ≠ 21 → gI σ' 717 k = gI σ 717 k
theorem PI.w {σ σ' : fr_S} {F : Nat → Nat → Nat} {m : Nat} {T : Nat → Nat → Nat} {N : Nat → Nat} (h : PI σ σ' F m T N) {v : Int32} : PI σ (sI σ' 717 21 v) F m T N := by
  obtain ⟨h1, h2, h3, h4, h5, h6⟩ := h
  have a : Ag [717] σ' (sI σ' 717 21 v) := ag_sI Ag.rf (by decide)
  exact ⟨h1, h2.ag a (fun o _ _ => by simp; omega), h3.ag a (by decide), h4.ag a (by decide), ag_sI h5 (by decide), fun k hk => by rw [gI_n (Or.inr hk)]; exact h6 k hk⟩
theorem PI.st {σ σ' σ'' : fr_S} {F : Nat → Nat → Nat} {m : Nat} {T : Nat → Nat → Nat} {N N' : Nat → Nat} (h : PI σ σ' F m T N) (a : Ag [732] σ' σ'') (hN : NW σ'' N') : PI σ σ'' F m T N' := by
  obtain ⟨h1, h2, h3, h4, h5, h6⟩ := h
  exact ⟨h1.ag a, h2.ag a (fun o _ _ => by simp; omega), h3.ag a (by decide), hN, h5.tr (a.mono (by decide)), fun k hk => by rw [a.1 717 (by decide)]; exact h6 k hk⟩
theorem PI.s21 {σ' σ'' : fr_S} (a : Ag [732] σ' σ'') : gI σ'' 717 21 = gI σ' 717 21 := a.1 717 (by decide) 21
theorem PI.now {σ σ' : fr_S} {F : Nat → Nat → Nat} {m : Nat} {T : Nat → Nat → Nat} {N : Nat → Nat} (h : PI σ σ' F m T N) {k v : Nat} : PI σ (sI σ' 732 k (nI v)) F m T (va_up N k v) :=
  h.st (ag_sI Ag.rf (by decide)) h.2.2.2.1.up

set_option maxRecDepth 100000 in
set_option maxHeartbeats 4000000 in
theorem m_useArguments_lp {l : Launch} {G : fr_G} {σ : fr_S} {F : Nat → Nat → Nat} (hW : FW F) (hFP : FP F) {m p c : Nat} {T : Nat → Nat → Nat} {N : Nat → Nat} (hm : m < 4) (hpl : p < 40) (hT6 : ∀ r, T p r ≤ 6) (hc : c < F 0 0) (hag : agOK F m c (F 7 (40 * m + (p + 2))) (F 3 c) = true) {Post : Option Value → fr_S → Prop} {w : Bool} (hq : ∀ σ', PI σ σ' F m T N → gI σ' 717 21 = b2i (w || !uaG F c (F 7 (40 * m + (p + 2))) (T p) (F 3 c)) → Post none σ') : ∀ (d : Nat) (j : Nat) (σ1 : fr_S), F 3 c - j < d → j ≤ F 3 c → PI σ σ1 F m T N → gI σ1 717 21 = b2i (w || !uaG F c (F 7 (40 * m + (p + 2))) (T p) j) → PX l G yy_Mo_useArguments rm_Mo_useArguments (QR G false 742 0 0 Post) false 742 0 0 13 [(0, .ref (717)), (1, .int (nI (m))), (2, .int (nI (p))), (3, .int (nI (c))), (4, .int (nI (agK F c j))), (5, .int (nI (j)))] [] (σ1) := by
  intro d
  induction d with
  | zero => intro j σ1 hd; exact absurd hd (Nat.not_lt_zero _)
  | succ d ih =>
    intro j σ1 hd hj hI h21
    obtain ⟨hM, hF, hT, hN, hA, hK⟩ := id hI
    have hc4 := hW.1
    have h3 := hW.2.2.2.1 c
    have hk := agK_le F c j
    have h5 := hW.2.2.2.2.2.1 m
    have hx : j < F 3 c → (1 ≤ F 4 (3 * c + j)) ∧ agW (F 7 (40 * m + (p + 2))) (agK F c j) + wdt (F 4 (3 * c + j)) ≤ 10 := fun q => ⟨hFP c j hc q, by have := agOK_hs hag j q; simp only [hsR, decide_eq_true_eq] at this; omega⟩
    refine px_iload dx_Mo_useArguments_13 rfl ?_
    refine px_aload_n dx_Mo_useArguments_15 rfl ?_
    refine px_getR (r := 722) dx_Mo_useArguments_16 fl_Mo_26 rfl (by decide) rfl (hM 9) ?_
    refine px_iload_n dx_Mo_useArguments_19 rfl ?_
    refine px_ialdN (j := c) dx_Mo_useArguments_20 rfl (by decide) (by omega) ?_
    refine px_eqi (y := nI (F 3 c)) (hF.2.2.2.1 c (by omega)) ?_
    refine px_icmp_geN (a := j) (b := F 3 c) dx_Mo_useArguments_21 (by first | omega | (have := wdt_le (F 4 (3 * c + j)); omega)) (by first | omega | (have := wdt_le (F 4 (3 * c + j)); omega)) (fun c_21 => ?_) (fun c_21 => ?_)
    · exact px_vret dx_Mo_useArguments_73 rfl (by (have e : j = F 3 c := by omega); subst e; exact hq σ1 hI h21)
    · obtain ⟨hx1, hx2⟩ := hx (by omega)
      refine px_aload_n dx_Mo_useArguments_24 rfl ?_
      refine px_getR (r := 723) dx_Mo_useArguments_25 fl_Mo_29 rfl (by decide) rfl (hM 10) ?_
      refine px_iconst (v := 3) dx_Mo_useArguments_28 rfl ?_
      refine px_iload_n dx_Mo_useArguments_29 rfl ?_
      refine px_imulN (a := 3) (b := c) dx_Mo_useArguments_30 ?_
      refine px_iload dx_Mo_useArguments_31 rfl ?_
      refine px_iaddN (a := 3 * c) (b := j) dx_Mo_useArguments_33 ?_
      refine px_ialdN (j := (3 * c) + j) dx_Mo_useArguments_34 rfl (by decide) (by omega) ?_
      refine px_eqi (y := nI (F 4 ((3 * c) + j))) (hF.2.2.2.2.1 ((3 * c) + j) (by omega)) ?_
      refine px_istore (lv' := [(6, .int (nI (F 4 ((3 * c) + j)))), (0, .ref (717)), (1, .int (nI (m))), (2, .int (nI (p))), (3, .int (nI (c))), (4, .int (nI (agK F c j))), (5, .int (nI (j)))]) dx_Mo_useArguments_35 (by decide) rfl ?_
      refine px_aload_n dx_Mo_useArguments_37 rfl ?_
      refine px_aload_n dx_Mo_useArguments_38 rfl ?_
      refine px_iload_n dx_Mo_useArguments_39 rfl ?_
      refine px_iload_n dx_Mo_useArguments_40 rfl ?_
      refine px_aload_n dx_Mo_useArguments_41 rfl ?_
      refine px_iload_n dx_Mo_useArguments_42 rfl ?_
      refine px_iload_n dx_Mo_useArguments_43 rfl ?_
      refine px_iload dx_Mo_useArguments_44 rfl ?_
      refine px_cV (Y := yy_Mo_useArguments) (Yc := yy_Mo_argument) (b := 717) (As := [.int (nI (m)), .int (nI (p)), .int (nI (agK F c j))]) dx_Mo_useArguments_46 ml_Mo_185 mv_Mo_argument np_Mo_argument ⟨_, rfl⟩ (by decide) rfl (by decide) rfl (Nat.le_of_ble_eq_true rfl) (Nat.le_of_ble_eq_true rfl) rk_Mo_useArguments_Mo_argument rfl (m_argument hM hF hW hm (by omega) (by omega)) zz_0 ?_
      refine px_iload dx_Mo_useArguments_49 rfl ?_
      refine px_cV (Y := yy_Mo_useArguments) (Yc := yy_Mo_is) (b := 717) (As := [.int (nI (m)), .int (nI (p)), .int (nI (agW (F 7 (40 * m + (p + 2))) (agK F c j))), .int (nI (F 4 ((3 * c) + j)))]) dx_Mo_useArguments_51 ml_Mo_255 mv_Mo_is np_Mo_is ⟨_, rfl⟩ (by decide) rfl (by decide) rfl (Nat.le_of_ble_eq_true rfl) (Nat.le_of_ble_eq_true rfl) rk_Mo_useArguments_Mo_is rfl (m_is hM hT hm (by omega) hx1 (hW.2.2.2.2.1 _) hx2 hT6) zz_0 ?_
      refine px_cV (Y := yy_Mo_useArguments) (Yc := yy_Mo_need) (b := 717) (As := [.int (b2i (isT (T p) (agW (F 7 (40 * m + (p + 2))) (agK F c j)) (F 4 ((3 * c) + j))))]) dx_Mo_useArguments_54 ml_Mo_259 mv_Mo_need np_Mo_need ⟨_, rfl⟩ (by decide) rfl (by decide) rfl (Nat.le_of_ble_eq_true rfl) (Nat.le_of_ble_eq_true rfl) rk_Mo_useArguments_Mo_need rfl (m_needC (w := w || !uaG F c (F 7 (40 * m + (p + 2))) (T p) j) (g := isT (T p) (agW (F 7 (40 * m + (p + 2))) (agK F c j)) (F 4 ((3 * c) + j))) hM h21) zz_0 ?_
      refine px_iload dx_Mo_useArguments_57 rfl ?_
      refine px_iload dx_Mo_useArguments_59 rfl ?_
      refine px_cS (Y := yy_Mo_useArguments) (Yc := yy_Mo_words) (As := [.int (nI (F 4 ((3 * c) + j)))]) dx_Mo_useArguments_61 ml_Mo_99 ms_Mo_words np_Mo_words rfl (Nat.le_of_ble_eq_true rfl) (Nat.le_of_ble_eq_true rfl) rk_Mo_useArguments_Mo_words rfl (m_words (Nat.lt_of_le_of_lt (hW.2.2.2.2.1 _) (by decide))) zz_0 ?_
      refine px_iaddN (a := agK F c j) (b := wdt (F 4 ((3 * c) + j))) dx_Mo_useArguments_64 ?_
      refine px_istore (lv' := [(4, .int (nI ((agK F c j) + (wdt (F 4 ((3 * c) + j)))))), (6, .int (nI (F 4 ((3 * c) + j)))), (0, .ref (717)), (1, .int (nI (m))), (2, .int (nI (p))), (3, .int (nI (c))), (5, .int (nI (j)))]) dx_Mo_useArguments_65 (by decide) rfl ?_
      refine px_iinc (v := (nI (j + 1))) (lv' := [(5, .int (nI (j + 1))), (4, .int (nI ((agK F c j) + (wdt (F 4 ((3 * c) + j)))))), (6, .int (nI (F 4 ((3 * c) + j)))), (0, .ref (717)), (1, .int (nI (m))), (2, .int (nI (p))), (3, .int (nI (c)))]) dx_Mo_useArguments_67 rfl (nI_1 _) (by decide) rfl ?_
      refine px_goto dx_Mo_useArguments_70 ?_
      refine px_sub [3, 4, 5, 6, 1, 0] rfl ?_
      exact ih (j + 1) (sI σ1 717 21 (b2i ((w || !uaG F c (F 7 (40 * m + (p + 2))) (T p) j) || !(isT (T p) (agW (F 7 (40 * m + (p + 2))) (agK F c j)) (F 4 ((3 * c) + j)))))) (by omega) (by omega) hI.w (by (rw [gI_s]; congr 1; simp only [uaG]; cases w <;> cases uaG F c (F 7 (40 * m + (p + 2))) (T p) j <;> simp))
set_option maxRecDepth 100000 in
set_option maxHeartbeats 4000000 in
theorem m_useArguments {l : Launch} {G : fr_G} {σ : fr_S} {F : Nat → Nat → Nat} (hW : FW F) (hFP : FP F) {m p : Nat} {T : Nat → Nat → Nat} {N : Nat → Nat} (hm : m < 4) (hpl : p < 40) (hT6 : ∀ r, T p r ≤ 6) (hag : agT F m p = true) (hI : PI σ σ F m T N) {w : Bool} (h21 : gI σ 717 21 = b2i w) : CR l G yy_Mo_useArguments rm_Mo_useArguments [.ref (717), .int (nI (m)), .int (nI (p))] σ (fun r0 σ' => r0 = none ∧ PI σ σ' F m T N ∧ gI σ' 717 21 = b2i (w || !uaG F (F 7 (40 * m + (p + 1))) (F 7 (40 * m + (p + 2))) (T p) (F 3 (F 7 (40 * m + (p + 1)))))) := by
  intro Post hp0
  show PX l G yy_Mo_useArguments rm_Mo_useArguments _ false 742 0 0 0 [(0, .ref (717)), (1, .int (nI (m))), (2, .int (nI (p)))] [] σ
  obtain ⟨hM, hF, hT, hN, hA, hK⟩ := id hI
  have hc4 := hW.1
  simp only [agT, Bool.and_eq_true, decide_eq_true_eq] at hag
  obtain ⟨hc, -, hag⟩ := hag
  refine px_aload_n dx_Mo_useArguments_0 rfl ?_
  refine px_iload_n dx_Mo_useArguments_1 rfl ?_
  refine px_iload_n dx_Mo_useArguments_2 rfl ?_
  refine px_cV (Y := yy_Mo_useArguments) (Yc := yy_Mo_number) (b := 717) (As := [.int (nI (m)), .int (nI (p))]) dx_Mo_useArguments_3 ml_Mo_176 mv_Mo_number np_Mo_number ⟨_, rfl⟩ (by decide) rfl (by decide) rfl (Nat.le_of_ble_eq_true rfl) (Nat.le_of_ble_eq_true rfl) rk_Mo_useArguments_Mo_number rfl (m_number_p hM (by omega) (hF.2.2.2.2.2.2.2 (40 * m + (p + 1)) (by omega)) (hW.2.2.2.2.2.2.2 _) (by omega)) zz_0 ?_
  refine px_istore_n (lv' := [(3, .int (nI (F 7 (40 * m + (p + 1))))), (0, .ref (717)), (1, .int (nI (m))), (2, .int (nI (p)))]) dx_Mo_useArguments_6 (by decide) rfl ?_
  refine px_iconst (v := 0) dx_Mo_useArguments_7 rfl ?_
  refine px_istore (lv' := [(4, .int (0)), (3, .int (nI (F 7 (40 * m + (p + 1))))), (0, .ref (717)), (1, .int (nI (m))), (2, .int (nI (p)))]) dx_Mo_useArguments_8 (by decide) rfl ?_
  refine px_iconst (v := 0) dx_Mo_useArguments_10 rfl ?_
  refine px_istore (lv' := [(5, .int (0)), (4, .int (0)), (3, .int (nI (F 7 (40 * m + (p + 1))))), (0, .ref (717)), (1, .int (nI (m))), (2, .int (nI (p)))]) dx_Mo_useArguments_11 (by decide) rfl ?_
  refine px_sub [3, 4, 5, 2, 1, 0] rfl ?_
  exact m_useArguments_lp hW hFP hm hpl hT6 hc hag (fun σ' a b => hp0 _ _ ⟨rfl, a, b⟩) (F 3 (F 7 (40 * m + (p + 1))) + 1) 0 σ (by omega) (Nat.zero_le _) hI (by rw [h21]; simp [uaG])
