/-! the reference: types of registers -/
def fsO (t : Nat) : Nat := if t = 1 then 1 else if t = 3 then 2 else if t = 2 then 3 else 5
def fsO_le (t : Nat) : fsO t ≤ 5 := by unfold fsO; repeat' split
                                       all_goals decide
/-- a register of a row is of a type -/
def isT (row : Nat → Nat) (r t : Nat) : Bool := decide (row r = fsO t) && (decide (fsO t < 3) || decide (row (r + 1) = fsO t + 1))
/-- the method's rows, as the reference holds them -/
def TY (σ : fr_S) (m : Nat) (T : Nat → Nat → Nat) : Prop := ∀ p, p < 40 → ∀ r, r < 10 → gI σ 731 (10 * (40 * m + p) + r) = nI (T p r)
def NW (σ : fr_S) (N : Nat → Nat) : Prop := ∀ r, r < 10 → gI σ 732 r = nI (N r)
def lsn (N : Nat → Nat) (r : Nat) : Nat → Nat := va_up (if N r = 3 ∨ N r = 5 then va_up N (r + 1) 0 else if 3 < N r then va_up N (r - 1) 0 else N) r 0
/-- whole pairs -/
def WP (N : Nat → Nat) : Prop := ∀ r, r < 10 → N r ≤ 6 ∧ ((N r = 3 ∨ N r = 5) → r + 1 < 10 ∧ N (r + 1) = N r + 1) ∧ ((N r = 4 ∨ N r = 6) → 1 ≤ r ∧ N (r - 1) + 1 = N r)
theorem NW.up {σ : fr_S} {N : Nat → Nat} (h : NW σ N) {k v : Nat} : NW (sI σ 732 k (nI v)) (va_up N k v) := fun r hr => if e : r = k then (by subst e; rw [gI_s]; simp [va_up]) else (by rw [gI_n (Or.inr e), h r hr]; simp [va_up, e])
theorem NW.ag {σ σ' : fr_S} {N : Nat → Nat} {S : List Nat} (h : NW σ N) (a : Ag S σ σ') (hs : 732 ∉ S) : NW σ' N := fun r hr => by rw [a.1 732 hs]; exact h r hr
theorem TY.ag {σ σ' : fr_S} {m : Nat} {T : Nat → Nat → Nat} {S : List Nat} (h : TY σ m T) (a : Ag S σ σ') (hs : 731 ∉ S) : TY σ' m T := fun p hp r hr => by rw [a.1 731 hs]; exact h p hp r hr

set_option maxRecDepth 100000 in
set_option maxHeartbeats 1000000 in
theorem m_firstOf {l : Launch} {G : fr_G} {σ : fr_S} {t : Nat} (ht : t < 256) : CT l G yy_Mo_firstOf rm_Mo_firstOf [.int (nI (t))] σ (some (.int (nI (fsO t)))) (σ) := by
  intro Post hp0
  have hp := hp0
  show PX l G yy_Mo_firstOf rm_Mo_firstOf _ false 742 0 0 0 [(0, .int (nI (t)))] [] σ
  refine px_iload_n dx_Mo_firstOf_0 rfl ?_
  refine px_iconst (v := 1) dx_Mo_firstOf_1 rfl ?_
  refine px_icmp_neN (a := t) (b := 1) dx_Mo_firstOf_2 (by omega) (by omega) (fun c_2 => ?_) (fun c_2 => ?_)
  · refine px_iload_n dx_Mo_firstOf_9 rfl ?_
    refine px_iconst (v := 3) dx_Mo_firstOf_10 rfl ?_
    refine px_icmp_neN (a := t) (b := 3) dx_Mo_firstOf_11 (by omega) (by omega) (fun c_11 => ?_) (fun c_11 => ?_)
    · refine px_iload_n dx_Mo_firstOf_18 rfl ?_
      refine px_iconst (v := 2) dx_Mo_firstOf_19 rfl ?_
      refine px_icmp_neN (a := t) (b := 2) dx_Mo_firstOf_20 (by omega) (by omega) (fun c_20 => ?_) (fun c_20 => ?_)
      · refine px_iconst (v := 5) dx_Mo_firstOf_27 rfl ?_
        exact px_iret dx_Mo_firstOf_28 rfl (by (have e : fsO t = 5 := by (simp only [fsO]; simp_all <;> omega)); rw [e] at hp0; exact hp0)
      · refine px_iconst (v := 3) dx_Mo_firstOf_23 rfl ?_
        refine px_goto dx_Mo_firstOf_24 ?_
        exact px_iret dx_Mo_firstOf_28 rfl (by (have e : fsO t = 3 := by (simp only [fsO]; simp_all <;> omega)); rw [e] at hp0; exact hp0)
    · refine px_iconst (v := 2) dx_Mo_firstOf_14 rfl ?_
      refine px_goto dx_Mo_firstOf_15 ?_
      exact px_iret dx_Mo_firstOf_28 rfl (by (have e : fsO t = 2 := by (simp only [fsO]; simp_all <;> omega)); rw [e] at hp0; exact hp0)
  · refine px_iconst (v := 1) dx_Mo_firstOf_5 rfl ?_
    refine px_goto dx_Mo_firstOf_6 ?_
    exact px_iret dx_Mo_firstOf_28 rfl (by (have e : fsO t = 1 := by (simp only [fsO]; simp_all <;> omega)); rw [e] at hp0; exact hp0)
set_option maxRecDepth 100000 in
set_option maxHeartbeats 1000000 in
theorem m_typeAt {l : Launch} {G : fr_G} {σ : fr_S} (hM : MR σ) {m p r : Nat} {T : Nat → Nat → Nat} (hT : TY σ m T) (hm : m < 4) (hpl : p < 40) (hr : r < 10) : CT l G yy_Mo_typeAt rm_Mo_typeAt [.ref (717), .int (nI (m)), .int (nI (p)), .int (nI (r))] σ (some (.int (nI (T p r)))) (σ) := by
  intro Post hp0
  have hp := hp0
  show PX l G yy_Mo_typeAt rm_Mo_typeAt _ false 742 0 0 0 [(0, .ref (717)), (1, .int (nI (m))), (2, .int (nI (p))), (3, .int (nI (r)))] [] σ
  refine px_aload_n dx_Mo_typeAt_0 rfl ?_
  refine px_getR (r := 731) dx_Mo_typeAt_1 fl_Mo_54 rfl (by decide) rfl (hM 18) ?_
  refine px_bipush (v := 10) dx_Mo_typeAt_4 rfl ?_
  refine px_bipush (v := 40) dx_Mo_typeAt_6 rfl ?_
  refine px_iload_n dx_Mo_typeAt_8 rfl ?_
  refine px_imulN (a := 40) (b := m) dx_Mo_typeAt_9 ?_
  refine px_iload_n dx_Mo_typeAt_10 rfl ?_
  refine px_iaddN (a := 40 * m) (b := p) dx_Mo_typeAt_11 ?_
  refine px_imulN (a := 10) (b := (40 * m) + p) dx_Mo_typeAt_12 ?_
  refine px_iload_n dx_Mo_typeAt_13 rfl ?_
  refine px_iaddN (a := 10 * ((40 * m) + p)) (b := r) dx_Mo_typeAt_14 ?_
  refine px_ialdN (j := (10 * ((40 * m) + p)) + r) dx_Mo_typeAt_15 rfl (by decide) (by omega) ?_
  refine px_eqi (y := nI (T p r)) (hT p (by omega) r (by omega)) ?_
  exact px_iret dx_Mo_typeAt_16 rfl (by exact hp)
set_option maxRecDepth 100000 in
set_option maxHeartbeats 1000000 in
theorem m_is {l : Launch} {G : fr_G} {σ : fr_S} (hM : MR σ) {m p r : Nat} {T : Nat → Nat → Nat} (hT : TY σ m T) (hm : m < 4) (hpl : p < 40) {t : Nat} (ht1 : 1 ≤ t) (ht : t ≤ 4) (hr : r + wdt t ≤ 10) (hT6 : ∀ r, T p r ≤ 6) : CT l G yy_Mo_is rm_Mo_is [.ref (717), .int (nI (m)), .int (nI (p)), .int (nI (r)), .int (nI (t))] σ (some (.int (b2i (isT (T p) r t)))) (σ) := by
  intro Post hp0
  have hp := hp0
  show PX l G yy_Mo_is rm_Mo_is _ false 742 0 0 0 [(0, .ref (717)), (1, .int (nI (m))), (2, .int (nI (p))), (3, .int (nI (r))), (4, .int (nI (t)))] [] σ
  have hw1 : r < 10 := by (have : 1 ≤ wdt t := by (unfold wdt; split <;> decide)); omega
  have hw2 : 3 ≤ fsO t → r + 1 < 10 := by
    intro h3
    have : wdt t = 2 := by
      unfold wdt
      unfold fsO at h3
      by_cases h1 : t = 2 ∨ t = 4
      · rw [if_pos h1]
      · (repeat' split at h3) <;> omega
    omega
  refine px_iload dx_Mo_is_0 rfl ?_
  refine px_cS (Y := yy_Mo_is) (Yc := yy_Mo_firstOf) (As := [.int (nI (t))]) dx_Mo_is_2 ml_Mo_243 ms_Mo_firstOf np_Mo_firstOf rfl (Nat.le_of_ble_eq_true rfl) (Nat.le_of_ble_eq_true rfl) rk_Mo_is_Mo_firstOf rfl (m_firstOf (by omega)) zz_0 ?_
  refine px_istore (lv' := [(5, .int (nI (fsO t))), (0, .ref (717)), (1, .int (nI (m))), (2, .int (nI (p))), (3, .int (nI (r))), (4, .int (nI (t)))]) dx_Mo_is_5 (by decide) rfl ?_
  refine px_aload_n dx_Mo_is_7 rfl ?_
  refine px_iload_n dx_Mo_is_8 rfl ?_
  refine px_iload_n dx_Mo_is_9 rfl ?_
  refine px_iload_n dx_Mo_is_10 rfl ?_
  refine px_cV (Y := yy_Mo_is) (Yc := yy_Mo_typeAt) (b := 717) (As := [.int (nI (m)), .int (nI (p)), .int (nI (r))]) dx_Mo_is_11 ml_Mo_246 mv_Mo_typeAt np_Mo_typeAt ⟨_, rfl⟩ (by decide) rfl (by decide) rfl (Nat.le_of_ble_eq_true rfl) (Nat.le_of_ble_eq_true rfl) rk_Mo_is_Mo_typeAt rfl (m_typeAt hM hT hm (by omega) (by omega)) zz_0 ?_
  refine px_iload dx_Mo_is_14 rfl ?_
  refine px_icmp_neN (a := T p r) (b := fsO t) dx_Mo_is_16 (by first | omega | (have := fsO_le t; omega) | (have := hT6 r; omega) | (have := hT6 (r + 1); omega)) (by first | omega | (have := fsO_le t; omega) | (have := hT6 r; omega) | (have := hT6 (r + 1); omega)) (fun c_16 => ?_) (fun c_16 => ?_)
  · refine px_iconst (v := 0) dx_Mo_is_45 rfl ?_
    exact px_zret dx_Mo_is_46 rfl (by decide) (by (have e : isT (T p) r t = false := by (simp only [isT]; simp_all)); rw [e] at hp0; exact hp0)
  · refine px_iload dx_Mo_is_19 rfl ?_
    refine px_iconst (v := 3) dx_Mo_is_21 rfl ?_
    refine px_icmp_ltN (a := fsO t) (b := 3) dx_Mo_is_22 (by first | omega | (have := fsO_le t; omega) | (have := hT6 r; omega) | (have := hT6 (r + 1); omega)) (by first | omega | (have := fsO_le t; omega) | (have := hT6 r; omega) | (have := hT6 (r + 1); omega)) (fun c_22 => ?_) (fun c_22 => ?_)
    · refine px_iconst (v := 1) dx_Mo_is_41 rfl ?_
      refine px_goto dx_Mo_is_42 ?_
      exact px_zret dx_Mo_is_46 rfl (by decide) (by (have e : isT (T p) r t = true := by (simp only [isT]; simp_all)); rw [e] at hp0; exact hp0)
    · refine px_aload_n dx_Mo_is_25 rfl ?_
      refine px_iload_n dx_Mo_is_26 rfl ?_
      refine px_iload_n dx_Mo_is_27 rfl ?_
      refine px_iload_n dx_Mo_is_28 rfl ?_
      refine px_iconst (v := 1) dx_Mo_is_29 rfl ?_
      refine px_iaddN (a := r) (b := 1) dx_Mo_is_30 ?_
      refine px_cV (Y := yy_Mo_is) (Yc := yy_Mo_typeAt) (b := 717) (As := [.int (nI (m)), .int (nI (p)), .int (nI (r + 1))]) dx_Mo_is_31 ml_Mo_246 mv_Mo_typeAt np_Mo_typeAt ⟨_, rfl⟩ (by decide) rfl (by decide) rfl (Nat.le_of_ble_eq_true rfl) (Nat.le_of_ble_eq_true rfl) rk_Mo_is_Mo_typeAt rfl (m_typeAt hM hT hm (by omega) (by omega)) zz_0 ?_
      refine px_iload dx_Mo_is_34 rfl ?_
      refine px_iconst (v := 1) dx_Mo_is_36 rfl ?_
      refine px_iaddN (a := fsO t) (b := 1) dx_Mo_is_37 ?_
      refine px_icmp_neN (a := T p (r + 1)) (b := (fsO t) + 1) dx_Mo_is_38 (by first | omega | (have := fsO_le t; omega) | (have := hT6 r; omega) | (have := hT6 (r + 1); omega)) (by first | omega | (have := fsO_le t; omega) | (have := hT6 r; omega) | (have := hT6 (r + 1); omega)) (fun c_38 => ?_) (fun c_38 => ?_)
      · refine px_iconst (v := 0) dx_Mo_is_45 rfl ?_
        exact px_zret dx_Mo_is_46 rfl (by decide) (by (have e : isT (T p) r t = false := by (simp only [isT]; simp_all)); rw [e] at hp0; exact hp0)
      · refine px_iconst (v := 1) dx_Mo_is_41 rfl ?_
        refine px_goto dx_Mo_is_42 ?_
        exact px_zret dx_Mo_is_46 rfl (by decide) (by (have e : isT (T p) r t = true := by (simp only [isT]; simp_all)); rw [e] at hp0; exact hp0)
set_option maxRecDepth 100000 in
set_option maxHeartbeats 1000000 in
theorem m_loosen {l : Launch} {G : fr_G} {σ : fr_S} (hM : MR σ) {N : Nat → Nat} (hN : NW σ N) {r : Nat} (hr : r < 10) (h3 : N r = 3 ∨ N r = 5 → r + 1 < 10) (h4 : 3 < N r → N r ≠ 5 → 1 ≤ r) (h6 : N r ≤ 6) : CR l G yy_Mo_loosen rm_Mo_loosen [.ref (717), .int (nI (r))] σ (fun r0 σ' => r0 = none ∧ Ag [732] σ σ' ∧ NW σ' (lsn N r)) := by
  intro Post hp0
  show PX l G yy_Mo_loosen rm_Mo_loosen _ false 742 0 0 0 [(0, .ref (717)), (1, .int (nI (r)))] [] σ
  refine px_aload_n dx_Mo_loosen_0 rfl ?_
  refine px_getR (r := 732) dx_Mo_loosen_1 fl_Mo_57 rfl (by decide) rfl (hM 19) ?_
  refine px_iload_n dx_Mo_loosen_4 rfl ?_
  refine px_ialdN (j := r) dx_Mo_loosen_5 rfl (by decide) (by omega) ?_
  refine px_eqi (y := nI (N r)) (hN r (by omega)) ?_
  refine px_iconst (v := 3) dx_Mo_loosen_6 rfl ?_
  refine px_icmp_eqN (a := N r) (b := 3) dx_Mo_loosen_7 (by omega) (by omega) (fun c_7 => ?_) (fun c_7 => ?_)
  · refine px_aload_n dx_Mo_loosen_20 rfl ?_
    refine px_getR (r := 732) dx_Mo_loosen_21 fl_Mo_57 rfl (by decide) rfl (hM 19) ?_
    refine px_iload_n dx_Mo_loosen_24 rfl ?_
    refine px_iconst (v := 1) dx_Mo_loosen_25 rfl ?_
    refine px_iaddN (a := r) (b := 1) dx_Mo_loosen_26 ?_
    refine px_iconst (v := 0) dx_Mo_loosen_27 rfl ?_
    refine px_iastN (j := r + 1) dx_Mo_loosen_28 rfl (by decide) (by omega) ?_
    refine px_goto dx_Mo_loosen_29 ?_
    refine px_aload_n dx_Mo_loosen_51 rfl ?_
    refine px_getR (r := 732) dx_Mo_loosen_52 fl_Mo_57 rfl (by decide) rfl (hM 19) ?_
    refine px_iload_n dx_Mo_loosen_55 rfl ?_
    refine px_iconst (v := 0) dx_Mo_loosen_56 rfl ?_
    refine px_iastN (j := r) dx_Mo_loosen_57 rfl (by decide) (by omega) ?_
    exact px_vret dx_Mo_loosen_58 rfl (by exact hp0 _ _ ⟨rfl, ag_sI (ag_sI Ag.rf (by decide)) (by decide), by (unfold lsn; first | rw [if_pos (by omega)] | rw [if_neg (by omega), if_pos (by omega)] | rw [if_neg (by omega), if_neg (by omega)]); exact NW.up (v := 0) (NW.up (v := 0) hN)⟩)
  · refine px_aload_n dx_Mo_loosen_10 rfl ?_
    refine px_getR (r := 732) dx_Mo_loosen_11 fl_Mo_57 rfl (by decide) rfl (hM 19) ?_
    refine px_iload_n dx_Mo_loosen_14 rfl ?_
    refine px_ialdN (j := r) dx_Mo_loosen_15 rfl (by decide) (by omega) ?_
    refine px_eqi (y := nI (N r)) (hN r (by omega)) ?_
    refine px_iconst (v := 5) dx_Mo_loosen_16 rfl ?_
    refine px_icmp_neN (a := N r) (b := 5) dx_Mo_loosen_17 (by omega) (by omega) (fun c_17 => ?_) (fun c_17 => ?_)
    · refine px_aload_n dx_Mo_loosen_32 rfl ?_
      refine px_getR (r := 732) dx_Mo_loosen_33 fl_Mo_57 rfl (by decide) rfl (hM 19) ?_
      refine px_iload_n dx_Mo_loosen_36 rfl ?_
      refine px_ialdN (j := r) dx_Mo_loosen_37 rfl (by decide) (by omega) ?_
      refine px_eqi (y := nI (N r)) (hN r (by omega)) ?_
      refine px_iconst (v := 3) dx_Mo_loosen_38 rfl ?_
      refine px_icmp_leN (a := N r) (b := 3) dx_Mo_loosen_39 (by omega) (by omega) (fun c_39 => ?_) (fun c_39 => ?_)
      · refine px_aload_n dx_Mo_loosen_51 rfl ?_
        refine px_getR (r := 732) dx_Mo_loosen_52 fl_Mo_57 rfl (by decide) rfl (hM 19) ?_
        refine px_iload_n dx_Mo_loosen_55 rfl ?_
        refine px_iconst (v := 0) dx_Mo_loosen_56 rfl ?_
        refine px_iastN (j := r) dx_Mo_loosen_57 rfl (by decide) (by omega) ?_
        exact px_vret dx_Mo_loosen_58 rfl (by exact hp0 _ _ ⟨rfl, ag_sI Ag.rf (by decide), by (unfold lsn; first | rw [if_pos (by omega)] | rw [if_neg (by omega), if_pos (by omega)] | rw [if_neg (by omega), if_neg (by omega)]); exact NW.up (v := 0) hN⟩)
      · refine px_aload_n dx_Mo_loosen_42 rfl ?_
        refine px_getR (r := 732) dx_Mo_loosen_43 fl_Mo_57 rfl (by decide) rfl (hM 19) ?_
        refine px_iload_n dx_Mo_loosen_46 rfl ?_
        refine px_iconst (v := 1) dx_Mo_loosen_47 rfl ?_
        refine px_isubN (a := r) (b := 1) dx_Mo_loosen_48 (by omega) ?_
        refine px_iconst (v := 0) dx_Mo_loosen_49 rfl ?_
        refine px_iastN (j := r - 1) dx_Mo_loosen_50 rfl (by decide) (by omega) ?_
        refine px_aload_n dx_Mo_loosen_51 rfl ?_
        refine px_getR (r := 732) dx_Mo_loosen_52 fl_Mo_57 rfl (by decide) rfl (hM 19) ?_
        refine px_iload_n dx_Mo_loosen_55 rfl ?_
        refine px_iconst (v := 0) dx_Mo_loosen_56 rfl ?_
        refine px_iastN (j := r) dx_Mo_loosen_57 rfl (by decide) (by omega) ?_
        exact px_vret dx_Mo_loosen_58 rfl (by exact hp0 _ _ ⟨rfl, ag_sI (ag_sI Ag.rf (by decide)) (by decide), by (unfold lsn; first | rw [if_pos (by omega)] | rw [if_neg (by omega), if_pos (by omega)] | rw [if_neg (by omega), if_neg (by omega)]); exact NW.up (v := 0) (NW.up (v := 0) hN)⟩)
    · refine px_aload_n dx_Mo_loosen_20 rfl ?_
      refine px_getR (r := 732) dx_Mo_loosen_21 fl_Mo_57 rfl (by decide) rfl (hM 19) ?_
      refine px_iload_n dx_Mo_loosen_24 rfl ?_
      refine px_iconst (v := 1) dx_Mo_loosen_25 rfl ?_
      refine px_iaddN (a := r) (b := 1) dx_Mo_loosen_26 ?_
      refine px_iconst (v := 0) dx_Mo_loosen_27 rfl ?_
      refine px_iastN (j := r + 1) dx_Mo_loosen_28 rfl (by decide) (by omega) ?_
      refine px_goto dx_Mo_loosen_29 ?_
      refine px_aload_n dx_Mo_loosen_51 rfl ?_
      refine px_getR (r := 732) dx_Mo_loosen_52 fl_Mo_57 rfl (by decide) rfl (hM 19) ?_
      refine px_iload_n dx_Mo_loosen_55 rfl ?_
      refine px_iconst (v := 0) dx_Mo_loosen_56 rfl ?_
      refine px_iastN (j := r) dx_Mo_loosen_57 rfl (by decide) (by omega) ?_
      exact px_vret dx_Mo_loosen_58 rfl (by exact hp0 _ _ ⟨rfl, ag_sI (ag_sI Ag.rf (by decide)) (by decide), by (unfold lsn; first | rw [if_pos (by omega)] | rw [if_neg (by omega), if_pos (by omega)] | rw [if_neg (by omega), if_neg (by omega)]); exact NW.up (v := 0) (NW.up (v := 0) hN)⟩)
set_option maxRecDepth 100000 in
set_option maxHeartbeats 1000000 in
theorem m_need {l : Launch} {G : fr_G} {σ : fr_S} (hM : MR σ) {w g : Bool} (hw : gI σ 717 21 = b2i w) : CR l G yy_Mo_need rm_Mo_need [.ref (717), .int (b2i (g))] σ (fun r0 σ' => r0 = none ∧ σ' = sI σ 717 21 (b2i (w || !g))) := by
  intro Post hp0
  show PX l G yy_Mo_need rm_Mo_need _ false 742 0 0 0 [(0, .ref (717)), (1, .int (b2i (g)))] [] σ
  refine px_aload_n dx_Mo_need_0 rfl ?_
  refine px_aload_n dx_Mo_need_1 rfl ?_
  refine px_getI dx_Mo_need_2 fl_Mo_252 rfl (by decide) rfl ?_
  refine px_eqi (y := b2i (w)) hw ?_
  refine px_if_neB dx_Mo_need_5 (fun c_5 => ?_) (fun c_5 => ?_)
  · refine px_iconst (v := 1) dx_Mo_need_12 rfl ?_
    refine px_goto dx_Mo_need_13 ?_
    refine px_putZ dx_Mo_need_17 fl_Mo_252 rfl (by decide) rfl (by decide) ?_
    exact px_vret dx_Mo_need_20 rfl (by (have e : (w || !g) = true := by simp_all); exact hp0 _ _ ⟨rfl, by rw [e]; rfl⟩)
  · refine px_iload_n dx_Mo_need_8 rfl ?_
    refine px_if_neB dx_Mo_need_9 (fun c_9 => ?_) (fun c_9 => ?_)
    · refine px_iconst (v := 0) dx_Mo_need_16 rfl ?_
      refine px_putZ dx_Mo_need_17 fl_Mo_252 rfl (by decide) rfl (by decide) ?_
      exact px_vret dx_Mo_need_20 rfl (by (have e : (w || !g) = false := by simp_all); exact hp0 _ _ ⟨rfl, by rw [e]; rfl⟩)
    · refine px_iconst (v := 1) dx_Mo_need_12 rfl ?_
      refine px_goto dx_Mo_need_13 ?_
      refine px_putZ dx_Mo_need_17 fl_Mo_252 rfl (by decide) rfl (by decide) ?_
      exact px_vret dx_Mo_need_20 rfl (by (have e : (w || !g) = true := by simp_all); exact hp0 _ _ ⟨rfl, by rw [e]; rfl⟩)
theorem lsn_le {N : Nat → Nat} (h : WP N) {r : Nat} : ∀ j, j < 10 → lsn N r j ≤ 6 := by
  intro j hj
  have := (h j hj).1
  unfold lsn
  repeat' split
  all_goals simp only [va_up]
  all_goals repeat' split
  all_goals omega
/-- the row behind: r is set as t says (0: no type; with pr it's a pair) -/
def stN (N : Nat → Nat) (r t : Nat) (pr : Bool) : Nat → Nat :=
  if pr = true then (if t = 0 then lsn (lsn N r) (r + 1) else va_up (va_up (lsn (lsn N r) (r + 1)) r (fsO t)) (r + 1) (fsO t + 1)) else if t = 0 then lsn N r else va_up (lsn N r) r (fsO t)
theorem lsn_v {N : Nat → Nat} {r j : Nat} : lsn N r j = if j = r ∨ ((N r = 3 ∨ N r = 5) ∧ j = r + 1) ∨ (¬ (N r = 3 ∨ N r = 5) ∧ 3 < N r ∧ j = r - 1) then 0 else N j := by
  unfold lsn
  by_cases h1 : j = r
  · simp [va_up, h1]
  · by_cases h2 : N r = 3 ∨ N r = 5
    · rw [if_pos h2]
      by_cases h4 : j = r + 1
      · simp [va_up, h4, h2]
      · simp [va_up, h1, h4, h2]
    · rw [if_neg h2]
      by_cases h3 : 3 < N r
      · rw [if_pos h3]
        by_cases h4 : j = r - 1
        · have h5 : ¬ r - 1 = r := by omega
          simp [va_up, h4, h5, h2, h3]
        · simp [va_up, h1, h4, h2, h3]
      · rw [if_neg h3]
        simp [va_up, h1, h2, h3]
theorem lsn_WP {N : Nat → Nat} (h : WP N) {r : Nat} (hr : r < 10) : WP (lsn N r) := by
  obtain ⟨a1, a2, a3⟩ := h r hr
  intro j hj
  obtain ⟨b1, b2, b3⟩ := h j hj
  refine ⟨lsn_le h j hj, fun e => ?_, fun e => ?_⟩
  · rw [lsn_v] at e ⊢
    split at e
    · omega
    · rename_i hc
      obtain ⟨c1, c2⟩ := b2 e
      refine ⟨c1, ?_⟩
      rw [lsn_v, if_neg hc, if_neg]
      · exact c2
      · rintro (q | ⟨q1, q2⟩ | ⟨q1, q2, q3⟩)
        · subst q
          exact hc (Or.inr (Or.inr ⟨by omega, by omega, by omega⟩))
        · exact hc (Or.inl (by omega))
        · obtain ⟨d1, d2⟩ := a3 (by omega)
          rw [← q3] at d2
          omega
  · rw [lsn_v] at e ⊢
    split at e
    · omega
    · rename_i hc
      obtain ⟨c1, c2⟩ := b3 e
      refine ⟨c1, ?_⟩
      rw [lsn_v, if_neg, if_neg hc]
      · exact c2
      · rintro (q | ⟨q1, q2⟩ | ⟨q1, q2, q3⟩)
        · subst q
          exact hc (Or.inr (Or.inl ⟨by omega, by omega⟩))
        · obtain ⟨d1, d2⟩ := a2 q1
          rw [← q2] at d2
          omega
        · exact hc (Or.inl (by omega))

set_option maxRecDepth 100000 in
set_option maxHeartbeats 1000000 in
theorem m_set_p {l : Launch} {G : fr_G} {σ : fr_S} (hM : MR σ) {N : Nat → Nat} (hN : NW σ N) (hP : WP N) {r : Nat} {t : Nat} (ht : t ≤ 4) (hr : r + wdt t ≤ 10) : CR l G yy_Mo_set rm_Mo_set [.ref (717), .int (nI (r)), .int (nI (t))] σ (fun r0 σ' => r0 = none ∧ Ag [732] σ σ' ∧ NW σ' (stN N r t (decide (t = 2 ∨ t = 4)))) := by
  intro Post hp0
  show PX l G yy_Mo_set rm_Mo_set _ false 742 0 0 0 [(0, .ref (717)), (1, .int (nI (r))), (2, .int (nI (t)))] [] σ
  have hA : Ag [732] σ σ := Ag.rf
  have hw2 : t = 2 ∨ t = 4 → wdt t = 2 := fun e => by unfold wdt; rw [if_pos e]
  have hw1 : 1 ≤ wdt t := by unfold wdt; split <;> decide
  refine px_aload_n dx_Mo_set_0 rfl ?_
  refine px_iload_n dx_Mo_set_1 rfl ?_
  refine px_cVR (Y := yy_Mo_set) (Yc := yy_Mo_loosen) (b := 717) (As := [.int (nI (r))]) dx_Mo_set_2 ml_Mo_249 mv_Mo_loosen np_Mo_loosen ⟨_, rfl⟩ (by decide) rfl (by decide) rfl (Nat.le_of_ble_eq_true rfl) (Nat.le_of_ble_eq_true rfl) rk_Mo_set_Mo_loosen rfl (m_loosen (N := N) hM hN (by omega) (fun e => ((hP r (by omega)).2.1 e).1) (fun e1 e2 => ((hP r (by omega)).2.2 (by have := (hP r (by omega)).1; omega)).1) (hP r (by omega)).1) zz_0 (fun r_2 σ1 h_2 => ?_)
  obtain ⟨rfl, hA1, hN⟩ := h_2
  have hM := hM.ag hA1
  have hA := hA.tr hA1
  have hP := lsn_WP hP (r := r) (by omega)
  refine px_iload_n dx_Mo_set_5 rfl ?_
  refine px_iconst (v := 2) dx_Mo_set_6 rfl ?_
  refine px_icmp_eqN (a := t) (b := 2) dx_Mo_set_7 (by omega) (by omega) (fun c_7 => ?_) (fun c_7 => ?_)
  · refine px_iconst (v := 1) dx_Mo_set_19 rfl ?_
    refine px_goto dx_Mo_set_20 ?_
    refine px_istore_n (lv' := [(3, .int (1)), (0, .ref (717)), (1, .int (nI (r))), (2, .int (nI (t)))]) dx_Mo_set_24 (by decide) rfl ?_
    refine px_iload_n dx_Mo_set_25 rfl ?_
    refine px_if_eq dx_Mo_set_26 (fun q => absurd q (by decide)) (fun _ => ?_)
    refine px_aload_n dx_Mo_set_29 rfl ?_
    refine px_iload_n dx_Mo_set_30 rfl ?_
    refine px_iconst (v := 1) dx_Mo_set_31 rfl ?_
    refine px_iaddN (a := r) (b := 1) dx_Mo_set_32 ?_
    refine px_cVR (Y := yy_Mo_set) (Yc := yy_Mo_loosen) (b := 717) (As := [.int (nI (r + 1))]) dx_Mo_set_33 ml_Mo_249 mv_Mo_loosen np_Mo_loosen ⟨_, rfl⟩ (by decide) rfl (by decide) rfl (Nat.le_of_ble_eq_true rfl) (Nat.le_of_ble_eq_true rfl) rk_Mo_set_Mo_loosen rfl (m_loosen (N := lsn N r) hM hN (by omega) (fun e => ((hP (r + 1) (by omega)).2.1 e).1) (fun e1 e2 => ((hP (r + 1) (by omega)).2.2 (by have := (hP (r + 1) (by omega)).1; omega)).1) (hP (r + 1) (by omega)).1) zz_0 (fun r_33 σ2 h_33 => ?_)
    obtain ⟨rfl, hA2, hN⟩ := h_33
    have hM := hM.ag hA2
    have hA := hA.tr hA2
    have hP := lsn_WP hP (r := r + 1) (by omega)
    refine px_iload_n dx_Mo_set_36 rfl ?_
    refine px_if_leN (a := t) dx_Mo_set_37 (by omega) (fun c_37 => ?_) (fun c_37 => ?_)
    · refine px_iload_n dx_Mo_set_50 rfl ?_
      refine px_if_leN (a := t) dx_Mo_set_51 (by omega) (fun c_51 => ?_) (fun c_51 => ?_)
      · exact px_vret dx_Mo_set_72 rfl (by first | (exfalso; omega) | ((have e : stN N r t (decide (t = 2 ∨ t = 4)) = lsn (lsn N r) (r + 1) := by (unfold stN; simp_all <;> omega)); exact hp0 _ _ ⟨rfl, hA, by rw [e]; exact hN⟩))
      · refine px_iload_n dx_Mo_set_54 rfl ?_
        refine px_if_eq dx_Mo_set_55 (fun q => absurd q (by decide)) (fun _ => ?_)
        refine px_aload_n dx_Mo_set_58 rfl ?_
        refine px_getR (r := 732) dx_Mo_set_59 fl_Mo_57 rfl (by decide) rfl (hM 19) ?_
        refine px_iload_n dx_Mo_set_62 rfl ?_
        refine px_iconst (v := 1) dx_Mo_set_63 rfl ?_
        refine px_iaddN (a := r) (b := 1) dx_Mo_set_64 ?_
        refine px_iload_n dx_Mo_set_65 rfl ?_
        refine px_cS (Y := yy_Mo_set) (Yc := yy_Mo_firstOf) (As := [.int (nI (t))]) dx_Mo_set_66 ml_Mo_243 ms_Mo_firstOf np_Mo_firstOf rfl (Nat.le_of_ble_eq_true rfl) (Nat.le_of_ble_eq_true rfl) rk_Mo_set_Mo_firstOf rfl (m_firstOf (by omega)) zz_0 ?_
        refine px_iconst (v := 1) dx_Mo_set_69 rfl ?_
        refine px_iaddN (a := fsO t) (b := 1) dx_Mo_set_70 ?_
        refine px_iastN (j := r + 1) dx_Mo_set_71 rfl (by decide) (by omega) ?_
        exact px_vret dx_Mo_set_72 rfl (by first | (exfalso; omega) | ((have e : stN N r t (decide (t = 2 ∨ t = 4)) = va_up (lsn (lsn N r) (r + 1)) r (fsO t) := by (unfold stN; simp_all <;> omega)); exact hp0 _ _ ⟨rfl, ag_sI hA (by decide), by rw [e]; exact NW.up hN⟩))
    · refine px_aload_n dx_Mo_set_40 rfl ?_
      refine px_getR (r := 732) dx_Mo_set_41 fl_Mo_57 rfl (by decide) rfl (hM 19) ?_
      refine px_iload_n dx_Mo_set_44 rfl ?_
      refine px_iload_n dx_Mo_set_45 rfl ?_
      refine px_cS (Y := yy_Mo_set) (Yc := yy_Mo_firstOf) (As := [.int (nI (t))]) dx_Mo_set_46 ml_Mo_243 ms_Mo_firstOf np_Mo_firstOf rfl (Nat.le_of_ble_eq_true rfl) (Nat.le_of_ble_eq_true rfl) rk_Mo_set_Mo_firstOf rfl (m_firstOf (by omega)) zz_0 ?_
      refine px_iastN (j := r) dx_Mo_set_49 rfl (by decide) (by omega) ?_
      refine px_iload_n dx_Mo_set_50 rfl ?_
      refine px_if_leN (a := t) dx_Mo_set_51 (by omega) (fun c_51 => ?_) (fun c_51 => ?_)
      · exact px_vret dx_Mo_set_72 rfl (by first | (exfalso; omega) | ((have e : stN N r t (decide (t = 2 ∨ t = 4)) = va_up (lsn (lsn N r) (r + 1)) r (fsO t) := by (unfold stN; simp_all <;> omega)); exact hp0 _ _ ⟨rfl, ag_sI hA (by decide), by rw [e]; exact NW.up hN⟩))
      · refine px_iload_n dx_Mo_set_54 rfl ?_
        refine px_if_eq dx_Mo_set_55 (fun q => absurd q (by decide)) (fun _ => ?_)
        refine px_aload_n dx_Mo_set_58 rfl ?_
        refine px_getR (r := 732) dx_Mo_set_59 fl_Mo_57 rfl (by decide) rfl (hM 19) ?_
        refine px_iload_n dx_Mo_set_62 rfl ?_
        refine px_iconst (v := 1) dx_Mo_set_63 rfl ?_
        refine px_iaddN (a := r) (b := 1) dx_Mo_set_64 ?_
        refine px_iload_n dx_Mo_set_65 rfl ?_
        refine px_cS (Y := yy_Mo_set) (Yc := yy_Mo_firstOf) (As := [.int (nI (t))]) dx_Mo_set_66 ml_Mo_243 ms_Mo_firstOf np_Mo_firstOf rfl (Nat.le_of_ble_eq_true rfl) (Nat.le_of_ble_eq_true rfl) rk_Mo_set_Mo_firstOf rfl (m_firstOf (by omega)) zz_0 ?_
        refine px_iconst (v := 1) dx_Mo_set_69 rfl ?_
        refine px_iaddN (a := fsO t) (b := 1) dx_Mo_set_70 ?_
        refine px_iastN (j := r + 1) dx_Mo_set_71 rfl (by decide) (by omega) ?_
        exact px_vret dx_Mo_set_72 rfl (by first | (exfalso; omega) | ((have e : stN N r t (decide (t = 2 ∨ t = 4)) = va_up (va_up (lsn (lsn N r) (r + 1)) r (fsO t)) (r + 1) (fsO t + 1) := by (unfold stN; simp_all <;> omega)); exact hp0 _ _ ⟨rfl, ag_sI (ag_sI hA (by decide)) (by decide), by rw [e]; exact NW.up (NW.up hN)⟩))
  · refine px_iload_n dx_Mo_set_10 rfl ?_
    refine px_iconst (v := 4) dx_Mo_set_11 rfl ?_
    refine px_icmp_eqN (a := t) (b := 4) dx_Mo_set_12 (by omega) (by omega) (fun c_12 => ?_) (fun c_12 => ?_)
    · refine px_iconst (v := 1) dx_Mo_set_19 rfl ?_
      refine px_goto dx_Mo_set_20 ?_
      refine px_istore_n (lv' := [(3, .int (1)), (0, .ref (717)), (1, .int (nI (r))), (2, .int (nI (t)))]) dx_Mo_set_24 (by decide) rfl ?_
      refine px_iload_n dx_Mo_set_25 rfl ?_
      refine px_if_eq dx_Mo_set_26 (fun q => absurd q (by decide)) (fun _ => ?_)
      refine px_aload_n dx_Mo_set_29 rfl ?_
      refine px_iload_n dx_Mo_set_30 rfl ?_
      refine px_iconst (v := 1) dx_Mo_set_31 rfl ?_
      refine px_iaddN (a := r) (b := 1) dx_Mo_set_32 ?_
      refine px_cVR (Y := yy_Mo_set) (Yc := yy_Mo_loosen) (b := 717) (As := [.int (nI (r + 1))]) dx_Mo_set_33 ml_Mo_249 mv_Mo_loosen np_Mo_loosen ⟨_, rfl⟩ (by decide) rfl (by decide) rfl (Nat.le_of_ble_eq_true rfl) (Nat.le_of_ble_eq_true rfl) rk_Mo_set_Mo_loosen rfl (m_loosen (N := lsn N r) hM hN (by omega) (fun e => ((hP (r + 1) (by omega)).2.1 e).1) (fun e1 e2 => ((hP (r + 1) (by omega)).2.2 (by have := (hP (r + 1) (by omega)).1; omega)).1) (hP (r + 1) (by omega)).1) zz_0 (fun r_33 σ2 h_33 => ?_)
      obtain ⟨rfl, hA2, hN⟩ := h_33
      have hM := hM.ag hA2
      have hA := hA.tr hA2
      have hP := lsn_WP hP (r := r + 1) (by omega)
      refine px_iload_n dx_Mo_set_36 rfl ?_
      refine px_if_leN (a := t) dx_Mo_set_37 (by omega) (fun c_37 => ?_) (fun c_37 => ?_)
      · refine px_iload_n dx_Mo_set_50 rfl ?_
        refine px_if_leN (a := t) dx_Mo_set_51 (by omega) (fun c_51 => ?_) (fun c_51 => ?_)
        · exact px_vret dx_Mo_set_72 rfl (by first | (exfalso; omega) | ((have e : stN N r t (decide (t = 2 ∨ t = 4)) = lsn (lsn N r) (r + 1) := by (unfold stN; simp_all <;> omega)); exact hp0 _ _ ⟨rfl, hA, by rw [e]; exact hN⟩))
        · refine px_iload_n dx_Mo_set_54 rfl ?_
          refine px_if_eq dx_Mo_set_55 (fun q => absurd q (by decide)) (fun _ => ?_)
          refine px_aload_n dx_Mo_set_58 rfl ?_
          refine px_getR (r := 732) dx_Mo_set_59 fl_Mo_57 rfl (by decide) rfl (hM 19) ?_
          refine px_iload_n dx_Mo_set_62 rfl ?_
          refine px_iconst (v := 1) dx_Mo_set_63 rfl ?_
          refine px_iaddN (a := r) (b := 1) dx_Mo_set_64 ?_
          refine px_iload_n dx_Mo_set_65 rfl ?_
          refine px_cS (Y := yy_Mo_set) (Yc := yy_Mo_firstOf) (As := [.int (nI (t))]) dx_Mo_set_66 ml_Mo_243 ms_Mo_firstOf np_Mo_firstOf rfl (Nat.le_of_ble_eq_true rfl) (Nat.le_of_ble_eq_true rfl) rk_Mo_set_Mo_firstOf rfl (m_firstOf (by omega)) zz_0 ?_
          refine px_iconst (v := 1) dx_Mo_set_69 rfl ?_
          refine px_iaddN (a := fsO t) (b := 1) dx_Mo_set_70 ?_
          refine px_iastN (j := r + 1) dx_Mo_set_71 rfl (by decide) (by omega) ?_
          exact px_vret dx_Mo_set_72 rfl (by first | (exfalso; omega) | ((have e : stN N r t (decide (t = 2 ∨ t = 4)) = va_up (lsn (lsn N r) (r + 1)) r (fsO t) := by (unfold stN; simp_all <;> omega)); exact hp0 _ _ ⟨rfl, ag_sI hA (by decide), by rw [e]; exact NW.up hN⟩))
      · refine px_aload_n dx_Mo_set_40 rfl ?_
        refine px_getR (r := 732) dx_Mo_set_41 fl_Mo_57 rfl (by decide) rfl (hM 19) ?_
        refine px_iload_n dx_Mo_set_44 rfl ?_
        refine px_iload_n dx_Mo_set_45 rfl ?_
        refine px_cS (Y := yy_Mo_set) (Yc := yy_Mo_firstOf) (As := [.int (nI (t))]) dx_Mo_set_46 ml_Mo_243 ms_Mo_firstOf np_Mo_firstOf rfl (Nat.le_of_ble_eq_true rfl) (Nat.le_of_ble_eq_true rfl) rk_Mo_set_Mo_firstOf rfl (m_firstOf (by omega)) zz_0 ?_
        refine px_iastN (j := r) dx_Mo_set_49 rfl (by decide) (by omega) ?_
        refine px_iload_n dx_Mo_set_50 rfl ?_
        refine px_if_leN (a := t) dx_Mo_set_51 (by omega) (fun c_51 => ?_) (fun c_51 => ?_)
        · exact px_vret dx_Mo_set_72 rfl (by first | (exfalso; omega) | ((have e : stN N r t (decide (t = 2 ∨ t = 4)) = va_up (lsn (lsn N r) (r + 1)) r (fsO t) := by (unfold stN; simp_all <;> omega)); exact hp0 _ _ ⟨rfl, ag_sI hA (by decide), by rw [e]; exact NW.up hN⟩))
        · refine px_iload_n dx_Mo_set_54 rfl ?_
          refine px_if_eq dx_Mo_set_55 (fun q => absurd q (by decide)) (fun _ => ?_)
          refine px_aload_n dx_Mo_set_58 rfl ?_
          refine px_getR (r := 732) dx_Mo_set_59 fl_Mo_57 rfl (by decide) rfl (hM 19) ?_
          refine px_iload_n dx_Mo_set_62 rfl ?_
          refine px_iconst (v := 1) dx_Mo_set_63 rfl ?_
          refine px_iaddN (a := r) (b := 1) dx_Mo_set_64 ?_
          refine px_iload_n dx_Mo_set_65 rfl ?_
          refine px_cS (Y := yy_Mo_set) (Yc := yy_Mo_firstOf) (As := [.int (nI (t))]) dx_Mo_set_66 ml_Mo_243 ms_Mo_firstOf np_Mo_firstOf rfl (Nat.le_of_ble_eq_true rfl) (Nat.le_of_ble_eq_true rfl) rk_Mo_set_Mo_firstOf rfl (m_firstOf (by omega)) zz_0 ?_
          refine px_iconst (v := 1) dx_Mo_set_69 rfl ?_
          refine px_iaddN (a := fsO t) (b := 1) dx_Mo_set_70 ?_
          refine px_iastN (j := r + 1) dx_Mo_set_71 rfl (by decide) (by omega) ?_
          exact px_vret dx_Mo_set_72 rfl (by first | (exfalso; omega) | ((have e : stN N r t (decide (t = 2 ∨ t = 4)) = va_up (va_up (lsn (lsn N r) (r + 1)) r (fsO t)) (r + 1) (fsO t + 1) := by (unfold stN; simp_all <;> omega)); exact hp0 _ _ ⟨rfl, ag_sI (ag_sI hA (by decide)) (by decide), by rw [e]; exact NW.up (NW.up hN)⟩))
    · refine px_iload_n dx_Mo_set_15 rfl ?_
      refine px_if_geN (a := t) dx_Mo_set_16 (by omega) (fun c_16 => ?_) (fun c_16 => ?_)
      · refine px_iconst (v := 0) dx_Mo_set_23 rfl ?_
        refine px_istore_n (lv' := [(3, .int (0)), (0, .ref (717)), (1, .int (nI (r))), (2, .int (nI (t)))]) dx_Mo_set_24 (by decide) rfl ?_
        refine px_iload_n dx_Mo_set_25 rfl ?_
        refine px_if_eq dx_Mo_set_26 (fun _ => ?_) (fun q => absurd (by decide) q)
        refine px_iload_n dx_Mo_set_36 rfl ?_
        refine px_if_leN (a := t) dx_Mo_set_37 (by omega) (fun c_37 => ?_) (fun c_37 => ?_)
        · refine px_iload_n dx_Mo_set_50 rfl ?_
          refine px_if_leN (a := t) dx_Mo_set_51 (by omega) (fun c_51 => ?_) (fun c_51 => ?_)
          · exact px_vret dx_Mo_set_72 rfl (by first | (exfalso; omega) | ((have e : stN N r t (decide (t = 2 ∨ t = 4)) = lsn N r := by (unfold stN; simp_all <;> omega)); exact hp0 _ _ ⟨rfl, hA, by rw [e]; exact hN⟩))
          · refine px_iload_n dx_Mo_set_54 rfl ?_
            refine px_if_eq dx_Mo_set_55 (fun _ => ?_) (fun q => absurd (by decide) q)
            exact px_vret dx_Mo_set_72 rfl (by first | (exfalso; omega) | ((have e : stN N r t (decide (t = 2 ∨ t = 4)) = lsn N r := by (unfold stN; simp_all <;> omega)); exact hp0 _ _ ⟨rfl, hA, by rw [e]; exact hN⟩))
        · refine px_aload_n dx_Mo_set_40 rfl ?_
          refine px_getR (r := 732) dx_Mo_set_41 fl_Mo_57 rfl (by decide) rfl (hM 19) ?_
          refine px_iload_n dx_Mo_set_44 rfl ?_
          refine px_iload_n dx_Mo_set_45 rfl ?_
          refine px_cS (Y := yy_Mo_set) (Yc := yy_Mo_firstOf) (As := [.int (nI (t))]) dx_Mo_set_46 ml_Mo_243 ms_Mo_firstOf np_Mo_firstOf rfl (Nat.le_of_ble_eq_true rfl) (Nat.le_of_ble_eq_true rfl) rk_Mo_set_Mo_firstOf rfl (m_firstOf (by omega)) zz_0 ?_
          refine px_iastN (j := r) dx_Mo_set_49 rfl (by decide) (by omega) ?_
          refine px_iload_n dx_Mo_set_50 rfl ?_
          refine px_if_leN (a := t) dx_Mo_set_51 (by omega) (fun c_51 => ?_) (fun c_51 => ?_)
          · exact px_vret dx_Mo_set_72 rfl (by first | (exfalso; omega) | ((have e : stN N r t (decide (t = 2 ∨ t = 4)) = va_up (lsn N r) r (fsO t) := by (unfold stN; simp_all <;> omega)); exact hp0 _ _ ⟨rfl, ag_sI hA (by decide), by rw [e]; exact NW.up hN⟩))
          · refine px_iload_n dx_Mo_set_54 rfl ?_
            refine px_if_eq dx_Mo_set_55 (fun _ => ?_) (fun q => absurd (by decide) q)
            exact px_vret dx_Mo_set_72 rfl (by first | (exfalso; omega) | ((have e : stN N r t (decide (t = 2 ∨ t = 4)) = va_up (lsn N r) r (fsO t) := by (unfold stN; simp_all <;> omega)); exact hp0 _ _ ⟨rfl, ag_sI hA (by decide), by rw [e]; exact NW.up hN⟩))
      · refine px_iconst (v := 1) dx_Mo_set_19 rfl ?_
        refine px_goto dx_Mo_set_20 ?_
        refine px_istore_n (lv' := [(3, .int (1)), (0, .ref (717)), (1, .int (nI (r))), (2, .int (nI (t)))]) dx_Mo_set_24 (by decide) rfl ?_
        refine px_iload_n dx_Mo_set_25 rfl ?_
        refine px_if_eq dx_Mo_set_26 (fun q => absurd q (by decide)) (fun _ => ?_)
        refine px_aload_n dx_Mo_set_29 rfl ?_
        refine px_iload_n dx_Mo_set_30 rfl ?_
        refine px_iconst (v := 1) dx_Mo_set_31 rfl ?_
        refine px_iaddN (a := r) (b := 1) dx_Mo_set_32 ?_
        refine px_cVR (Y := yy_Mo_set) (Yc := yy_Mo_loosen) (b := 717) (As := [.int (nI (r + 1))]) dx_Mo_set_33 ml_Mo_249 mv_Mo_loosen np_Mo_loosen ⟨_, rfl⟩ (by decide) rfl (by decide) rfl (Nat.le_of_ble_eq_true rfl) (Nat.le_of_ble_eq_true rfl) rk_Mo_set_Mo_loosen rfl (m_loosen (N := lsn N r) hM hN (by omega) (fun e => ((hP (r + 1) (by omega)).2.1 e).1) (fun e1 e2 => ((hP (r + 1) (by omega)).2.2 (by have := (hP (r + 1) (by omega)).1; omega)).1) (hP (r + 1) (by omega)).1) zz_0 (fun r_33 σ2 h_33 => ?_)
        obtain ⟨rfl, hA2, hN⟩ := h_33
        have hM := hM.ag hA2
        have hA := hA.tr hA2
        have hP := lsn_WP hP (r := r + 1) (by omega)
        refine px_iload_n dx_Mo_set_36 rfl ?_
        refine px_if_leN (a := t) dx_Mo_set_37 (by omega) (fun c_37 => ?_) (fun c_37 => ?_)
        · refine px_iload_n dx_Mo_set_50 rfl ?_
          refine px_if_leN (a := t) dx_Mo_set_51 (by omega) (fun c_51 => ?_) (fun c_51 => ?_)
          · exact px_vret dx_Mo_set_72 rfl (by first | (exfalso; omega) | ((have e : stN N r t (decide (t = 2 ∨ t = 4)) = lsn (lsn N r) (r + 1) := by (unfold stN; simp_all <;> omega)); exact hp0 _ _ ⟨rfl, hA, by rw [e]; exact hN⟩))
          · refine px_iload_n dx_Mo_set_54 rfl ?_
            refine px_if_eq dx_Mo_set_55 (fun q => absurd q (by decide)) (fun _ => ?_)
            refine px_aload_n dx_Mo_set_58 rfl ?_
            refine px_getR (r := 732) dx_Mo_set_59 fl_Mo_57 rfl (by decide) rfl (hM 19) ?_
            refine px_iload_n dx_Mo_set_62 rfl ?_
            refine px_iconst (v := 1) dx_Mo_set_63 rfl ?_
            refine px_iaddN (a := r) (b := 1) dx_Mo_set_64 ?_
            refine px_iload_n dx_Mo_set_65 rfl ?_
            refine px_cS (Y := yy_Mo_set) (Yc := yy_Mo_firstOf) (As := [.int (nI (t))]) dx_Mo_set_66 ml_Mo_243 ms_Mo_firstOf np_Mo_firstOf rfl (Nat.le_of_ble_eq_true rfl) (Nat.le_of_ble_eq_true rfl) rk_Mo_set_Mo_firstOf rfl (m_firstOf (by omega)) zz_0 ?_
            refine px_iconst (v := 1) dx_Mo_set_69 rfl ?_
            refine px_iaddN (a := fsO t) (b := 1) dx_Mo_set_70 ?_
            refine px_iastN (j := r + 1) dx_Mo_set_71 rfl (by decide) (by omega) ?_
            exact px_vret dx_Mo_set_72 rfl (by first | (exfalso; omega) | ((have e : stN N r t (decide (t = 2 ∨ t = 4)) = va_up (lsn (lsn N r) (r + 1)) r (fsO t) := by (unfold stN; simp_all <;> omega)); exact hp0 _ _ ⟨rfl, ag_sI hA (by decide), by rw [e]; exact NW.up hN⟩))
        · refine px_aload_n dx_Mo_set_40 rfl ?_
          refine px_getR (r := 732) dx_Mo_set_41 fl_Mo_57 rfl (by decide) rfl (hM 19) ?_
          refine px_iload_n dx_Mo_set_44 rfl ?_
          refine px_iload_n dx_Mo_set_45 rfl ?_
          refine px_cS (Y := yy_Mo_set) (Yc := yy_Mo_firstOf) (As := [.int (nI (t))]) dx_Mo_set_46 ml_Mo_243 ms_Mo_firstOf np_Mo_firstOf rfl (Nat.le_of_ble_eq_true rfl) (Nat.le_of_ble_eq_true rfl) rk_Mo_set_Mo_firstOf rfl (m_firstOf (by omega)) zz_0 ?_
          refine px_iastN (j := r) dx_Mo_set_49 rfl (by decide) (by omega) ?_
          refine px_iload_n dx_Mo_set_50 rfl ?_
          refine px_if_leN (a := t) dx_Mo_set_51 (by omega) (fun c_51 => ?_) (fun c_51 => ?_)
          · exact px_vret dx_Mo_set_72 rfl (by first | (exfalso; omega) | ((have e : stN N r t (decide (t = 2 ∨ t = 4)) = va_up (lsn (lsn N r) (r + 1)) r (fsO t) := by (unfold stN; simp_all <;> omega)); exact hp0 _ _ ⟨rfl, ag_sI hA (by decide), by rw [e]; exact NW.up hN⟩))
          · refine px_iload_n dx_Mo_set_54 rfl ?_
            refine px_if_eq dx_Mo_set_55 (fun q => absurd q (by decide)) (fun _ => ?_)
            refine px_aload_n dx_Mo_set_58 rfl ?_
            refine px_getR (r := 732) dx_Mo_set_59 fl_Mo_57 rfl (by decide) rfl (hM 19) ?_
            refine px_iload_n dx_Mo_set_62 rfl ?_
            refine px_iconst (v := 1) dx_Mo_set_63 rfl ?_
            refine px_iaddN (a := r) (b := 1) dx_Mo_set_64 ?_
            refine px_iload_n dx_Mo_set_65 rfl ?_
            refine px_cS (Y := yy_Mo_set) (Yc := yy_Mo_firstOf) (As := [.int (nI (t))]) dx_Mo_set_66 ml_Mo_243 ms_Mo_firstOf np_Mo_firstOf rfl (Nat.le_of_ble_eq_true rfl) (Nat.le_of_ble_eq_true rfl) rk_Mo_set_Mo_firstOf rfl (m_firstOf (by omega)) zz_0 ?_
            refine px_iconst (v := 1) dx_Mo_set_69 rfl ?_
            refine px_iaddN (a := fsO t) (b := 1) dx_Mo_set_70 ?_
            refine px_iastN (j := r + 1) dx_Mo_set_71 rfl (by decide) (by omega) ?_
            exact px_vret dx_Mo_set_72 rfl (by first | (exfalso; omega) | ((have e : stN N r t (decide (t = 2 ∨ t = 4)) = va_up (va_up (lsn (lsn N r) (r + 1)) r (fsO t)) (r + 1) (fsO t + 1) := by (unfold stN; simp_all <;> omega)); exact hp0 _ _ ⟨rfl, ag_sI (ag_sI hA (by decide)) (by decide), by rw [e]; exact NW.up (NW.up hN)⟩))
set_option maxRecDepth 100000 in
set_option maxHeartbeats 1000000 in
theorem m_set_n {l : Launch} {G : fr_G} {σ : fr_S} (hM : MR σ) {N : Nat → Nat} (hN : NW σ N) (hP : WP N) {r : Nat} (hr : r + 2 ≤ 10) : CR l G yy_Mo_set rm_Mo_set [.ref (717), .int (nI (r)), .int (-1)] σ (fun r0 σ' => r0 = none ∧ Ag [732] σ σ' ∧ NW σ' (stN N r 0 true)) := by
  intro Post hp0
  show PX l G yy_Mo_set rm_Mo_set _ false 742 0 0 0 [(0, .ref (717)), (1, .int (nI (r))), (2, .int (-1))] [] σ
  have hA : Ag [732] σ σ := Ag.rf
  refine px_aload_n dx_Mo_set_0 rfl ?_
  refine px_iload_n dx_Mo_set_1 rfl ?_
  refine px_cVR (Y := yy_Mo_set) (Yc := yy_Mo_loosen) (b := 717) (As := [.int (nI (r))]) dx_Mo_set_2 ml_Mo_249 mv_Mo_loosen np_Mo_loosen ⟨_, rfl⟩ (by decide) rfl (by decide) rfl (Nat.le_of_ble_eq_true rfl) (Nat.le_of_ble_eq_true rfl) rk_Mo_set_Mo_loosen rfl (m_loosen (N := N) hM hN (by omega) (fun e => ((hP r (by omega)).2.1 e).1) (fun e1 e2 => ((hP r (by omega)).2.2 (by have := (hP r (by omega)).1; omega)).1) (hP r (by omega)).1) zz_0 (fun r_2 σ1 h_2 => ?_)
  obtain ⟨rfl, hA1, hN⟩ := h_2
  have hM := hM.ag hA1
  have hA := hA.tr hA1
  have hP := lsn_WP hP (r := r) (by omega)
  refine px_iload_n dx_Mo_set_5 rfl ?_
  refine px_iconst (v := 2) dx_Mo_set_6 rfl ?_
  refine px_icmp_eq dx_Mo_set_7 (fun q => absurd q (by decide)) (fun _ => ?_)
  refine px_iload_n dx_Mo_set_10 rfl ?_
  refine px_iconst (v := 4) dx_Mo_set_11 rfl ?_
  refine px_icmp_eq dx_Mo_set_12 (fun q => absurd q (by decide)) (fun _ => ?_)
  refine px_iload_n dx_Mo_set_15 rfl ?_
  refine px_if_ge dx_Mo_set_16 (fun q => absurd q (by decide)) (fun _ => ?_)
  refine px_iconst (v := 1) dx_Mo_set_19 rfl ?_
  refine px_goto dx_Mo_set_20 ?_
  refine px_istore_n (lv' := [(3, .int (1)), (0, .ref (717)), (1, .int (nI (r))), (2, .int (-1))]) dx_Mo_set_24 (by decide) rfl ?_
  refine px_iload_n dx_Mo_set_25 rfl ?_
  refine px_if_eq dx_Mo_set_26 (fun q => absurd q (by decide)) (fun _ => ?_)
  refine px_aload_n dx_Mo_set_29 rfl ?_
  refine px_iload_n dx_Mo_set_30 rfl ?_
  refine px_iconst (v := 1) dx_Mo_set_31 rfl ?_
  refine px_iaddN (a := r) (b := 1) dx_Mo_set_32 ?_
  refine px_cVR (Y := yy_Mo_set) (Yc := yy_Mo_loosen) (b := 717) (As := [.int (nI (r + 1))]) dx_Mo_set_33 ml_Mo_249 mv_Mo_loosen np_Mo_loosen ⟨_, rfl⟩ (by decide) rfl (by decide) rfl (Nat.le_of_ble_eq_true rfl) (Nat.le_of_ble_eq_true rfl) rk_Mo_set_Mo_loosen rfl (m_loosen (N := lsn N r) hM hN (by omega) (fun e => ((hP (r + 1) (by omega)).2.1 e).1) (fun e1 e2 => ((hP (r + 1) (by omega)).2.2 (by have := (hP (r + 1) (by omega)).1; omega)).1) (hP (r + 1) (by omega)).1) zz_0 (fun r_33 σ2 h_33 => ?_)
  obtain ⟨rfl, hA2, hN⟩ := h_33
  have hM := hM.ag hA2
  have hA := hA.tr hA2
  have hP := lsn_WP hP (r := r + 1) (by omega)
  refine px_iload_n dx_Mo_set_36 rfl ?_
  refine px_if_le dx_Mo_set_37 (fun _ => ?_) (fun q => absurd (by decide) q)
  refine px_iload_n dx_Mo_set_50 rfl ?_
  refine px_if_le dx_Mo_set_51 (fun _ => ?_) (fun q => absurd (by decide) q)
  exact px_vret dx_Mo_set_72 rfl (by first | (exfalso; omega) | ((have e : stN N r 0 true = lsn (lsn N r) (r + 1) := by (unfold stN; simp_all <;> omega)); exact hp0 _ _ ⟨rfl, hA, by rw [e]; exact hN⟩))
