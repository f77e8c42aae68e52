/-! the class: a program's methods; steps are laid out -/
def CM (σ : fr_S) (e : Nat) (F : Nat → Nat → Nat) (m : Nat) : Prop := gI σ e 4 = nI (tt (F 2 m)) ∧ gI σ e 5 = nI (F 3 m) ∧ gI σ e 6 = nI (pwF F m) ∧ gI σ e 7 = nI (F 5 m) ∧ gI σ e 8 = nI (F 6 m) ∧ (∀ k, k < 3 → gI σ (e + 1) k = nI (tt (F 4 (3 * m + k)))) ∧ ∀ j, j < 40 → gI σ (e + 2) j = nI (F 7 (40 * m + j))
def CP (σ : fr_S) (q : Nat) (F : Nat → Nat → Nat) : Prop := gI σ q 3 = nI (F 0 0) ∧ gI σ q 4 = nI (F 1 0) ∧ ∀ m, m < 4 → CM σ (q + 5 + 85 * m) F m
theorem CM.cg {σ σ' : fr_S} {e : Nat} {F : Nat → Nat → Nat} {m : Nat} (h : CM σ e F m) (q : ∀ o k, o = e ∧ 4 ≤ k ∧ k ≤ 8 ∨ o = e + 1 ∨ o = e + 2 → gI σ' o k = gI σ o k) : CM σ' e F m :=
  ⟨(q _ _ (by omega)).trans h.1, (q _ _ (by omega)).trans h.2.1, (q _ _ (by omega)).trans h.2.2.1, (q _ _ (by omega)).trans h.2.2.2.1, (q _ _ (by omega)).trans h.2.2.2.2.1, fun k hk => (q _ _ (by omega)).trans (h.2.2.2.2.2.1 k hk), fun k hk => (q _ _ (by omega)).trans (h.2.2.2.2.2.2 k hk)⟩
def hfO (F : Nat → Nat → Nat) (x : Int32) : Bool := decide (¬ x < 0 ∧ x < nI (F 1 0))

set_option maxRecDepth 100000 in
set_option maxHeartbeats 1000000 in
theorem k_methodAt_t {l : Launch} {G : fr_G} {σ : fr_S} {q : Nat} (hq : PB q) (hR : RF σ) {F : Nat → Nat → Nat} (h04 : F 0 0 ≤ 4) (h3 : gI σ q 3 = nI (F 0 0)) {m : Nat} (hm : m < F 0 0) : CT l G yy_Pg_methodAt rm_Pg_methodAt [.ref (q), .int (nI (m))] σ (some (.ref (q + 5 + 85 * m))) (σ) := by
  intro Post hp0
  have hp := hp0
  show PX l G yy_Pg_methodAt rm_Pg_methodAt _ false 742 0 0 0 [(0, .ref (q)), (1, .int (nI (m)))] [] σ
  have kP := kd_P hq
  refine px_iload_n dx_Pg_methodAt_0 rfl ?_
  refine px_if_ltN (a := m) dx_Pg_methodAt_1 (by omega) (fun c_1 => ?_) (fun c_1 => ?_)
  · exfalso; omega
  · refine px_iload_n dx_Pg_methodAt_4 rfl ?_
    refine px_aload_n dx_Pg_methodAt_5 rfl ?_
    refine px_getI dx_Pg_methodAt_6 fl_Pg_28 kP.1 (by omega) rfl ?_
    refine px_eqi (y := nI (F 0 0)) h3 ?_
    refine px_icmp_geN (a := m) (b := F 0 0) dx_Pg_methodAt_9 (by omega) (by omega) (fun c_9 => ?_) (fun c_9 => ?_)
    · exfalso; omega
    · refine px_iload_n dx_Pg_methodAt_12 rfl ?_
      refine px_aload_n dx_Pg_methodAt_13 rfl ?_
      refine px_getR (r := q + 1) dx_Pg_methodAt_14 fl_Pg_11 kP.1 (by omega) rfl (hR.2.2.2.1 q hq).1 ?_
      refine px_alen (v := 4) dx_Pg_methodAt_17 kP.2.1 (by decide) (by omega) rfl ?_
      refine px_icmp_geN (a := m) (b := 4) dx_Pg_methodAt_18 (by omega) (by omega) (fun c_18 => ?_) (fun c_18 => ?_)
      · exfalso; omega
      · refine px_aload_n dx_Pg_methodAt_21 rfl ?_
        refine px_getR (r := q + 1) dx_Pg_methodAt_22 fl_Pg_11 kP.1 (by omega) rfl (hR.2.2.2.1 q hq).1 ?_
        refine px_iload_n dx_Pg_methodAt_25 rfl ?_
        refine px_aald25N (j := m) (r := q + 5 + 85 * m) dx_Pg_methodAt_26 kP.2.1 (by omega) (by omega) ((hR.2.2.2.1 q hq).2.2.2.2 m (by omega)) ?_
        refine px_goto dx_Pg_methodAt_27 ?_
        exact px_aret dx_Pg_methodAt_31 rfl (by exact hp)
set_option maxRecDepth 100000 in
set_option maxHeartbeats 1000000 in
theorem k_methodAt_f {l : Launch} {G : fr_G} {σ : fr_S} {q : Nat} (hq : PB q) (hR : RF σ) {F : Nat → Nat → Nat} (h04 : F 0 0 ≤ 4) (h3 : gI σ q 3 = nI (F 0 0)) {x : Int32} (hx : imO F x = false) : CT l G yy_Pg_methodAt rm_Pg_methodAt [.ref (q), .int (x)] σ (some (.null)) (σ) := by
  intro Post hp0
  have hp := hp0
  show PX l G yy_Pg_methodAt rm_Pg_methodAt _ false 742 0 0 0 [(0, .ref (q)), (1, .int (x))] [] σ
  have kP := kd_P hq
  refine px_iload_n dx_Pg_methodAt_0 rfl ?_
  refine px_if_lt dx_Pg_methodAt_1 (fun c_1 => ?_) (fun c_1 => ?_)
  · refine px_null dx_Pg_methodAt_30 ?_
    exact px_aretN dx_Pg_methodAt_31 rfl (by exact hp)
  · refine px_iload_n dx_Pg_methodAt_4 rfl ?_
    refine px_aload_n dx_Pg_methodAt_5 rfl ?_
    refine px_getI dx_Pg_methodAt_6 fl_Pg_28 kP.1 (by omega) rfl ?_
    refine px_eqi (y := nI (F 0 0)) h3 ?_
    refine px_icmp_ge dx_Pg_methodAt_9 (fun c_9 => ?_) (fun c_9 => ?_)
    · refine px_null dx_Pg_methodAt_30 ?_
      exact px_aretN dx_Pg_methodAt_31 rfl (by exact hp)
    · exact absurd (hx.symm.trans (decide_eq_true ⟨c_1, ge_lt c_9⟩)) (by decide)
set_option maxRecDepth 100000 in
set_option maxHeartbeats 1000000 in
theorem k_hasField {l : Launch} {G : fr_G} {σ : fr_S} {q : Nat} (hq : PB q) (hR : RF σ) {F : Nat → Nat → Nat} (h14 : F 1 0 ≤ 4) (h4 : gI σ q 4 = nI (F 1 0)) {x : Int32} : CT l G yy_Pg_hasField rm_Pg_hasField [.ref (q), .int (x)] σ (some (.int (b2i (hfO F x)))) (σ) := by
  intro Post hp0
  have hp := hp0
  show PX l G yy_Pg_hasField rm_Pg_hasField _ false 742 0 0 0 [(0, .ref (q)), (1, .int (x))] [] σ
  have kP := kd_P hq
  have hf4 : x < nI (F 1 0) → x < 4 := fun z => by
    rw [Int32.lt_iff_toInt_lt] at z ⊢
    rw [nI_toInt (by omega)] at z
    have : (4 : Int32).toInt = 4 := rfl
    omega
  refine px_iload_n dx_Pg_hasField_0 rfl ?_
  refine px_if_lt dx_Pg_hasField_1 (fun c_1 => ?_) (fun c_1 => ?_)
  · refine px_iconst (v := 0) dx_Pg_hasField_25 rfl ?_
    exact px_zret dx_Pg_hasField_26 rfl (by decide) (by (have e : hfO F x = false := by (unfold hfO; first | exact decide_eq_true ⟨c_1, ge_lt c_9⟩ | exact decide_eq_false (fun z => z.1 c_1) | exact decide_eq_false (fun z => not_lt_ge c_9 z.2) | (exfalso; exact not_lt_ge c_18 (hf4 (ge_lt c_9))))); rw [e] at hp; exact hp)
  · refine px_iload_n dx_Pg_hasField_4 rfl ?_
    refine px_aload_n dx_Pg_hasField_5 rfl ?_
    refine px_getI dx_Pg_hasField_6 fl_Pg_32 kP.1 (by omega) rfl ?_
    refine px_eqi (y := nI (F 1 0)) h4 ?_
    refine px_icmp_ge dx_Pg_hasField_9 (fun c_9 => ?_) (fun c_9 => ?_)
    · refine px_iconst (v := 0) dx_Pg_hasField_25 rfl ?_
      exact px_zret dx_Pg_hasField_26 rfl (by decide) (by (have e : hfO F x = false := by (unfold hfO; first | exact decide_eq_true ⟨c_1, ge_lt c_9⟩ | exact decide_eq_false (fun z => z.1 c_1) | exact decide_eq_false (fun z => not_lt_ge c_9 z.2) | (exfalso; exact not_lt_ge c_18 (hf4 (ge_lt c_9))))); rw [e] at hp; exact hp)
    · refine px_iload_n dx_Pg_hasField_12 rfl ?_
      refine px_aload_n dx_Pg_hasField_13 rfl ?_
      refine px_getR (r := q + 2) dx_Pg_hasField_14 fl_Pg_17 kP.1 (by omega) rfl (hR.2.2.2.1 q hq).2.1 ?_
      refine px_alen (v := 4) dx_Pg_hasField_17 kP.2.2.1 (by decide) (by omega) rfl ?_
      refine px_icmp_ge dx_Pg_hasField_18 (fun c_18 => ?_) (fun c_18 => ?_)
      · refine px_iconst (v := 0) dx_Pg_hasField_25 rfl ?_
        exact px_zret dx_Pg_hasField_26 rfl (by decide) (by (have e : hfO F x = false := by (unfold hfO; first | exact decide_eq_true ⟨c_1, ge_lt c_9⟩ | exact decide_eq_false (fun z => z.1 c_1) | exact decide_eq_false (fun z => not_lt_ge c_9 z.2) | (exfalso; exact not_lt_ge c_18 (hf4 (ge_lt c_9))))); rw [e] at hp; exact hp)
      · refine px_iconst (v := 1) dx_Pg_hasField_21 rfl ?_
        refine px_goto dx_Pg_hasField_22 ?_
        exact px_zret dx_Pg_hasField_26 rfl (by decide) (by (have e : hfO F x = true := by (unfold hfO; first | exact decide_eq_true ⟨c_1, ge_lt c_9⟩ | exact decide_eq_false (fun z => z.1 c_1) | exact decide_eq_false (fun z => not_lt_ge c_9 z.2) | (exfalso; exact not_lt_ge c_18 (hf4 (ge_lt c_9))))); rw [e] at hp; exact hp)
theorem hf_nI {F : Nat → Nat → Nat} {k : Nat} (h4 : F 1 0 ≤ 4) (h : k < F 1 0) : hfO F (nI k) = true := decide_eq_true ⟨nI_pos (by omega), (nI_ltI (by omega) (by omega)).mpr h⟩
theorem hf_cs {F : Nat → Nat → Nat} (h4 : F 1 0 ≤ 4) {x : Int32} : (∃ k, k < F 1 0 ∧ x = nI k) ∨ hfO F x = false := by
  by_cases h : ¬ x < 0 ∧ x < nI (F 1 0)
  · left
    obtain ⟨j, hj, rfl⟩ := nI_of h.1
    exact ⟨j, (nI_ltI hj (by omega)).mp h.2, rfl⟩
  · exact Or.inr (decide_eq_false h)

set_option maxRecDepth 100000 in
set_option maxHeartbeats 1000000 in
theorem k_fieldAt_m {l : Launch} {G : fr_G} {σ : fr_S} {q : Nat} (hq : PB q) (hR : RF σ) {F : Nat → Nat → Nat} (h14 : F 1 0 ≤ 4) (h4 : gI σ q 4 = nI (F 1 0)) {fl : Nat → Int32} (hfl : ∀ k, k < 4 → gI σ (q + 2) k = fl k) {k : Nat} (hk : k < F 1 0) : CT l G yy_Pg_fieldAt rm_Pg_fieldAt [.ref (q), .int (nI (k))] σ (some (.int (fl k))) (σ) := by
  intro Post hp0
  have hp := hp0
  show PX l G yy_Pg_fieldAt rm_Pg_fieldAt _ false 742 0 0 0 [(0, .ref (q)), (1, .int (nI (k)))] [] σ
  have kP := kd_P hq
  refine px_aload_n dx_Pg_fieldAt_0 rfl ?_
  refine px_iload_n dx_Pg_fieldAt_1 rfl ?_
  refine px_cV (Y := yy_Pg_fieldAt) (Yc := yy_Pg_hasField) (b := q) (As := [.int (nI (k))]) dx_Pg_fieldAt_2 ml_Pg_40 mv_Pg_hasField np_Pg_hasField ⟨_, rfl⟩ (by decide) kP.1 (by omega) rfl (Nat.le_of_ble_eq_true rfl) (Nat.le_of_ble_eq_true rfl) rk_Pg_fieldAt_Pg_hasField rfl (k_hasField hq hR h14 h4) zz_0 ?_
  refine px_if_eqB dx_Pg_fieldAt_5 (fun c_5 => ?_) (fun c_5 => ?_)
  · exact absurd ((hf_nI h14 hk).symm.trans c_5) (by decide)
  · refine px_aload_n dx_Pg_fieldAt_8 rfl ?_
    refine px_getR (r := q + 2) dx_Pg_fieldAt_9 fl_Pg_17 kP.1 (by omega) rfl (hR.2.2.2.1 q hq).2.1 ?_
    refine px_iload_n dx_Pg_fieldAt_12 rfl ?_
    refine px_ialdN (j := k) dx_Pg_fieldAt_13 kP.2.2.1 (by omega) (by omega) ?_
    refine px_eqi (y := fl k) (hfl k (by omega)) ?_
    refine px_goto dx_Pg_fieldAt_14 ?_
    exact px_iret dx_Pg_fieldAt_18 rfl (by exact hp)
set_option maxRecDepth 100000 in
set_option maxHeartbeats 1000000 in
theorem k_fieldAt_n {l : Launch} {G : fr_G} {σ : fr_S} {q : Nat} (hq : PB q) (hR : RF σ) {F : Nat → Nat → Nat} (h14 : F 1 0 ≤ 4) (h4 : gI σ q 4 = nI (F 1 0)) {x : Int32} (hx : hfO F x = false) : CT l G yy_Pg_fieldAt rm_Pg_fieldAt [.ref (q), .int (x)] σ (some (.int (0))) (σ) := by
  intro Post hp0
  have hp := hp0
  show PX l G yy_Pg_fieldAt rm_Pg_fieldAt _ false 742 0 0 0 [(0, .ref (q)), (1, .int (x))] [] σ
  have kP := kd_P hq
  refine px_aload_n dx_Pg_fieldAt_0 rfl ?_
  refine px_iload_n dx_Pg_fieldAt_1 rfl ?_
  refine px_cV (Y := yy_Pg_fieldAt) (Yc := yy_Pg_hasField) (b := q) (As := [.int (x)]) dx_Pg_fieldAt_2 ml_Pg_40 mv_Pg_hasField np_Pg_hasField ⟨_, rfl⟩ (by decide) kP.1 (by omega) rfl (Nat.le_of_ble_eq_true rfl) (Nat.le_of_ble_eq_true rfl) rk_Pg_fieldAt_Pg_hasField rfl (k_hasField hq hR h14 h4) zz_0 ?_
  refine px_if_eqB dx_Pg_fieldAt_5 (fun c_5 => ?_) (fun c_5 => ?_)
  · refine px_iconst (v := 0) dx_Pg_fieldAt_17 rfl ?_
    exact px_iret dx_Pg_fieldAt_18 rfl (by exact hp)
  · exact absurd (hx.symm.trans c_5) (by decide)
set_option maxRecDepth 100000 in
set_option maxHeartbeats 1000000 in
theorem k_setField {l : Launch} {G : fr_G} {σ : fr_S} {q : Nat} (hq : PB q) (hR : RF σ) {F : Nat → Nat → Nat} (h14 : F 1 0 ≤ 4) (h4 : gI σ q 4 = nI (F 1 0)) {k : Nat} (hk : k < F 1 0) {v : Int32} : CT l G yy_Pg_setField rm_Pg_setField [.ref (q), .int (nI (k)), .int (v)] σ none (sI σ (q + 2) k v) := by
  intro Post hp0
  have hp := hp0
  show PX l G yy_Pg_setField rm_Pg_setField _ false 742 0 0 0 [(0, .ref (q)), (1, .int (nI (k))), (2, .int (v))] [] σ
  have kP := kd_P hq
  refine px_aload_n dx_Pg_setField_0 rfl ?_
  refine px_iload_n dx_Pg_setField_1 rfl ?_
  refine px_cV (Y := yy_Pg_setField) (Yc := yy_Pg_hasField) (b := q) (As := [.int (nI (k))]) dx_Pg_setField_2 ml_Pg_40 mv_Pg_hasField np_Pg_hasField ⟨_, rfl⟩ (by decide) kP.1 (by omega) rfl (Nat.le_of_ble_eq_true rfl) (Nat.le_of_ble_eq_true rfl) rk_Pg_setField_Pg_hasField rfl (k_hasField hq hR h14 h4) zz_0 ?_
  refine px_if_eqB dx_Pg_setField_5 (fun c_5 => ?_) (fun c_5 => ?_)
  · exact absurd ((hf_nI h14 hk).symm.trans c_5) (by decide)
  · refine px_aload_n dx_Pg_setField_8 rfl ?_
    refine px_getR (r := q + 2) dx_Pg_setField_9 fl_Pg_17 kP.1 (by omega) rfl (hR.2.2.2.1 q hq).2.1 ?_
    refine px_iload_n dx_Pg_setField_12 rfl ?_
    refine px_iload_n dx_Pg_setField_13 rfl ?_
    refine px_iastN (j := k) dx_Pg_setField_14 kP.2.2.1 (by omega) (by omega) ?_
    exact px_vret dx_Pg_setField_15 rfl (by exact hp)
def uA (F : Nat → Nat → Nat) (m u : Nat) : Nat := if u < F 6 m then F 7 (40 * m + u) else 0
/-- an instruction is known and whole -/
def cpl (F : Nat → Nat → Nat) (m u : Nat) : Bool := decide (0 < szO (opS (F 7 (40 * m + u))) ∧ u + szO (opS (F 7 (40 * m + u))) ≤ F 6 m)
def pbG (Bg : Nat → Bool) : Nat → Option Nat
  | 0 => none
  | p + 1 => if Bg p = true then some p else pbG Bg p
theorem pbG_s {Bg : Nat → Bool} {p : Nat} (hp : Bg p = true) : ∀ d, (∀ j, p < j → j < p + 1 + d → Bg j = false) → pbG Bg (p + 1 + d) = some p
  | 0, _ => by
    show (if Bg p = true then some p else pbG Bg p) = _
    rw [if_pos hp]
  | d + 1, h => by
    show (if Bg (p + 1 + d) = true then some (p + 1 + d) else pbG Bg (p + 1 + d)) = _
    rw [if_neg (by rw [h (p + 1 + d) (by omega) (by omega)]; decide)]
    exact pbG_s hp d fun j h1 h2 => h j h1 (by omega)
theorem pbG_at {Bg : Nat → Bool} {p p' : Nat} (hp : Bg p = true) (hl : p < p') (h : ∀ j, p < j → j < p' → Bg j = false) : pbG Bg p' = some p := by
  have := pbG_s hp (p' - p - 1) (fun j h1 h2 => h j h1 (by omega))
  rwa [show p + 1 + (p' - p - 1) = p' by omega] at this
theorem pbG_lt {Bg : Nat → Bool} : ∀ {p q : Nat}, pbG Bg p = some q → q < p ∧ Bg q = true
  | 0, _, h => by cases h
  | p + 1, q, h => by
    unfold pbG at h
    split at h
    · rename_i hb
      cases h
      exact ⟨by omega, hb⟩
    · have := pbG_lt h
      exact ⟨by omega, this.2⟩
theorem nxF_gt {F : Nat → Nat → Nat} {m p : Nat} (h : p < F 6 m) : p < nxF F m p := by
  unfold nxF
  split <;> omega
theorem bgc_lt {F : Nat → Nat → Nat} {m : Nat} : ∀ {f p j : Nat}, j < p → bgc F m f p j = false
  | 0, _, _, _ => rfl
  | f + 1, p, j, h => by
    by_cases hp : p < F 6 m
    · have e : bgc F m (f + 1) p j = (decide (j = p) || bgc F m f (nxF F m p) j) := by simp [bgc, hp]
      rw [e, decide_eq_false (by omega), bgc_lt (Nat.lt_trans h (nxF_gt hp))]
      rfl
    · exact bgc_end (by omega) _
theorem bgc_s {F : Nat → Nat → Nat} {m f p j : Nat} (hp : p < F 6 m) : bgc F m (f + 1) p j = (decide (j = p) || bgc F m f (nxF F m p) j) := by simp [bgc, hp]
/-- the class's next place -/
def nxC (F : Nat → Nat → Nat) (m p : Nat) : Nat := if cpl F m p = true then p + szO (opS (F 7 (40 * m + p))) else F 6 m
theorem nxC_c {F : Nat → Nat → Nat} {m f p : Nat} (hp : p < F 6 m) (h : ∀ j, p ≤ j → bgF F m j = bgc F m (f + 1) p j) : p < nxC F m p ∧ bgF F m p = true ∧ (∀ j, p < j → j < nxC F m p → bgF F m j = false) ∧ ∀ j, nxC F m p ≤ j → bgF F m j = bgc F m f (nxC F m p) j := by
  have h0 : bgF F m p = true := by rw [h p (Nat.le_refl _), bgc_s hp, decide_eq_true rfl]; rfl
  have hs : ∀ j, p < j → bgF F m j = bgc F m f (nxF F m p) j := fun j hj => by rw [h j (by omega), bgc_s hp, decide_eq_false (by omega), Bool.false_or]
  unfold nxC cpl
  by_cases c : 0 < szO (opS (F 7 (40 * m + p))) ∧ p + szO (opS (F 7 (40 * m + p))) ≤ F 6 m
  · rw [if_pos (decide_eq_true c)]
    have e : nxF F m p = p + szO (opS (F 7 (40 * m + p))) := by unfold nxF; rw [if_neg (by omega)]
    rw [e] at hs
    exact ⟨by omega, h0, fun j h1 h2 => (hs j h1).trans (bgc_lt h2), fun j h1 => hs j (by omega)⟩
  · rw [if_neg (by rw [decide_eq_false c]; decide)]
    have e : F 6 m ≤ nxF F m p := by unfold nxF; split <;> omega
    refine ⟨hp, h0, fun j h1 h2 => (hs j h1).trans (bgc_lt (by omega)), fun j h1 => ?_⟩
    rw [hs j (by omega), bgc_end e, bgc_end (Nat.le_refl _)]
/-- a method's steps as they are laid out -/
def SL1 (σ : fr_S) (e : Nat) (F : Nat → Nat → Nat) (m u : Nat) : Prop := SD σ (e + 5 + 2 * u) (F 7 (40 * m + u)) (uA F m (u + 1)) (uA F m (u + 2)) ∧ gI σ (e + 5 + 2 * u) 5 = b2i (cpl F m u) ∧ gI σ (e + 5 + 2 * u) 6 = bfI (pbG (bgF F m) u)
def SL0 (σ : fr_S) (e : Nat) (F : Nat → Nat → Nat) (m u : Nat) : Prop := SU σ (e + 5 + 2 * u) (stO (opS (F 7 (40 * m + u)))) (usO (opS (F 7 (40 * m + u)))) ∧ gI σ (e + 5 + 2 * u) 0 = 0
def SLm (σ : fr_S) (e : Nat) (F : Nat → Nat → Nat) (m : Nat) : Prop := (∀ u, u < 40 → gI σ (e + 4) u = b2i (bgF F m u)) ∧ ∀ u, u < 40 → bgF F m u = true → SL1 σ e F m u
theorem SD.cg {σ σ' : fr_S} {s w w1 w2 : Nat} (h : SD σ s w w1 w2) (q : ∀ k, k = 2 ∨ k = 3 ∨ k = 4 ∨ (9 ≤ k ∧ k ≤ 14) → gI σ' s k = gI σ s k) : SD σ' s w w1 w2 :=
  ⟨(q _ (by omega)).trans h.1, (q _ (by omega)).trans h.2.1, (q _ (by omega)).trans h.2.2.1, (q _ (by omega)).trans h.2.2.2.1, (q _ (by omega)).trans h.2.2.2.2.1, (q _ (by omega)).trans h.2.2.2.2.2.1, (q _ (by omega)).trans h.2.2.2.2.2.2.1, fun z => ⟨(q _ (by omega)).trans (h.2.2.2.2.2.2.2 z).1, (q _ (by omega)).trans (h.2.2.2.2.2.2.2 z).2⟩⟩
theorem SL1.cg {σ σ' : fr_S} {e : Nat} {F : Nat → Nat → Nat} {m u : Nat} (h : SL1 σ e F m u) (q : ∀ k, 2 ≤ k → k ≠ 7 → k ≠ 8 → gI σ' (e + 5 + 2 * u) k = gI σ (e + 5 + 2 * u) k) : SL1 σ' e F m u :=
  ⟨h.1.cg fun k hk => q k (by omega) (by omega) (by omega), (q 5 (by decide) (by decide) (by decide)).trans h.2.1, (q 6 (by decide) (by decide) (by decide)).trans h.2.2⟩
/-- the cells of a method's steps -/
def PLo (e o k : Nat) : Prop := o = e + 4 ∨ ∃ u, u < 40 ∧ o = e + 5 + 2 * u ∧ k ≠ 1
theorem PLo.o {e o k : Nat} (h : PLo e o k) : e + 4 ≤ o ∧ o ≤ e + 83 := by
  rcases h with h | ⟨u, h1, h2, -⟩ <;> omega

theorem uA_lt {F : Nat → Nat → Nat} (hW : FW F) (m u : Nat) : uA F m u < 65536 := by
  unfold uA
  split
  · exact hW.2.2.2.2.2.2.2 _
  · decide

/-- one step more is laid out -/
theorem lo_step {σ σ1 τ1 : fr_S} {e : Nat} {F : Nat → Nat → Nat} {m p p' : Nat} {bf : Option Nat} {v : Int32} (hp40 : p < 40) (hl : p < p') (h0 : bgF F m p = true) (hbt : ∀ j, p < j → j < p' → bgF F m j = false) (hbf : bf = pbG (bgF F m) p) (hA : Agp (PLo e) σ σ1) (hB : ∀ u, u < 40 → gI σ1 (e + 4) u = b2i (decide (u < p) && bgF F m u)) (hS : ∀ u, u < 40 → u < p → bgF F m u = true → SL1 σ1 e F m u ∧ SL0 σ1 e F m u)
    (hA1 : Agp (fun o k => o = e + 5 + 2 * p ∧ (k = 2 ∨ k = 3 ∨ k = 4 ∨ (7 ≤ k ∧ k ≤ 14))) σ1 τ1) (hSD : SD τ1 (e + 5 + 2 * p) (F 7 (40 * m + p)) (uA F m (p + 1)) (uA F m (p + 2))) (hSU : SU τ1 (e + 5 + 2 * p) (stO (opS (F 7 (40 * m + p)))) (usO (opS (F 7 (40 * m + p))))) (hv : v = b2i (cpl F m p)) :
    Agp (PLo e) σ (sI (sI (sI (sI τ1 (e + 5 + 2 * p) 0 0) (e + 5 + 2 * p) 6 (bfI bf)) (e + 5 + 2 * p) 5 v) (e + 4) p 1) ∧ (∀ u, u < 40 → gI (sI (sI (sI (sI τ1 (e + 5 + 2 * p) 0 0) (e + 5 + 2 * p) 6 (bfI bf)) (e + 5 + 2 * p) 5 v) (e + 4) p 1) (e + 4) u = b2i (decide (u < p') && bgF F m u)) ∧ ∀ u, u < 40 → u < p' → bgF F m u = true → SL1 (sI (sI (sI (sI τ1 (e + 5 + 2 * p) 0 0) (e + 5 + 2 * p) 6 (bfI bf)) (e + 5 + 2 * p) 5 v) (e + 4) p 1) e F m u ∧ SL0 (sI (sI (sI (sI τ1 (e + 5 + 2 * p) 0 0) (e + 5 + 2 * p) 6 (bfI bf)) (e + 5 + 2 * p) 5 v) (e + 4) p 1) e F m u := by
  obtain ⟨σ2, h2⟩ : ∃ X, X = sI (sI (sI (sI τ1 (e + 5 + 2 * p) 0 0) (e + 5 + 2 * p) 6 (bfI bf)) (e + 5 + 2 * p) 5 v) (e + 4) p 1 := ⟨_, rfl⟩
  rw [← h2]
  have k0 : ∀ o k, ¬ (o = e + 5 + 2 * p ∧ (k = 0 ∨ k = 5 ∨ k = 6)) → ¬ (o = e + 4 ∧ k = p) → gI σ2 o k = gI τ1 o k := fun o k n1 n2 => by
    rw [h2, gI_n (by omega), gI_n (by omega), gI_n (by omega), gI_n (by omega)]
  have k1 : ∀ o k, o ≠ e + 5 + 2 * p → ¬ (o = e + 4 ∧ k = p) → gI σ2 o k = gI σ1 o k := fun o k n1 n2 => (k0 o k (by omega) n2).trans (hA1.1 o k (by omega))
  refine ⟨?_, fun u hu => ?_, fun u hu hup hb => ?_⟩
  · rw [h2]
    exact ((((hA.tr (hA1.mono fun o k h => Or.inr ⟨p, hp40, h.1, by omega⟩)).w (Or.inr ⟨p, hp40, rfl, by decide⟩)).w (Or.inr ⟨p, hp40, rfl, by decide⟩)).w (Or.inr ⟨p, hp40, rfl, by decide⟩)).w (Or.inl rfl)
  · by_cases c : u = p
    · subst c
      rw [h2, gI_s, decide_eq_true hl, h0]
      rfl
    · rw [k1 _ _ (by omega) (by omega), hB u hu]
      by_cases c2 : u < p
      · rw [decide_eq_true c2, decide_eq_true (by omega)]
      · rw [decide_eq_false c2]
        by_cases c3 : u < p'
        · rw [hbt u (by omega) c3, Bool.and_false, Bool.and_false]
        · rw [decide_eq_false c3]
  · by_cases c : u = p
    · subst c
      refine ⟨⟨hSD.cg fun k hk => k0 _ _ (by omega) (by omega), ?_, ?_⟩, ⟨(k0 _ _ (by omega) (by omega)).trans hSU.1, (k0 _ _ (by omega) (by omega)).trans hSU.2⟩, ?_⟩
      · rw [h2, gI_n (by omega), gI_s, hv]
      · rw [h2, gI_n (by omega), gI_n (by omega), gI_s, hbf]
      · rw [h2, gI_n (by omega), gI_n (by omega), gI_n (by omega), gI_s]
    · have c2 : u < p := by
        refine Nat.lt_of_not_le fun q => ?_
        rw [hbt u (by omega) hup] at hb
        cases hb
      obtain ⟨s1, s2⟩ := hS u hu c2 hb
      exact ⟨s1.cg fun k _ _ _ => k1 _ _ (by omega) (by omega), ⟨(k1 _ _ (by omega) (by omega)).trans s2.1.1, (k1 _ _ (by omega) (by omega)).trans s2.1.2⟩, (k1 _ _ (by omega) (by omega)).trans s2.2⟩
theorem lo_end {σ σ1 : fr_S} {e : Nat} {F : Nat → Nat → Nat} {m p f : Nat} (hx : F 6 m ≤ p ∨ 40 ≤ p) (hc : ∀ j, p ≤ j → bgF F m j = bgc F m f p j) (hA : Agp (PLo e) σ σ1) (hB : ∀ u, u < 40 → gI σ1 (e + 4) u = b2i (decide (u < p) && bgF F m u)) (hS : ∀ u, u < 40 → u < p → bgF F m u = true → SL1 σ1 e F m u ∧ SL0 σ1 e F m u) : Agp (PLo e) σ σ1 ∧ SLm σ1 e F m ∧ ∀ u, u < 40 → bgF F m u = true → SL0 σ1 e F m u := by
  have key : ∀ u, u < 40 → ¬ u < p → bgF F m u = false := fun u hu h => by
    rw [hc u (by omega)]
    exact bgc_end (by omega) _
  refine ⟨hA, ⟨fun u hu => ?_, fun u hu hb => ?_⟩, fun u hu hb => ?_⟩
  · rw [hB u hu]
    by_cases c : u < p
    · rw [decide_eq_true c, Bool.true_and]
    · rw [key u hu c, Bool.and_false]
  · by_cases c : u < p
    · exact (hS u hu c hb).1
    · rw [key u hu c] at hb
      cases hb
  · by_cases c : u < p
    · exact (hS u hu c hb).2
    · rw [key u hu c] at hb
      cases hb

set_option maxRecDepth 100000 in
set_option maxHeartbeats 1000000 in
theorem k_layOut_l2 {l : Launch} {G : fr_G} {σ : fr_S} {e : Nat} (hE : ME e) {F : Nat → Nat → Nat} (hW : FW F) {m : Nat} (hm : m < 4) (hRf : RF σ) (hCm : CM σ e F m) {Post : Option Value → fr_S → Prop} (hp0 : ∀ r σ', (fun r0 σ' => r0 = none ∧ Agp (PLo e) σ σ' ∧ SLm σ' e F m ∧ ∀ u, u < 40 → bgF F m u = true → SL0 σ' e F m u) r σ' → Post r σ') : ∀ (d : Nat) (i : Nat) (p : Nat) (bf : Option Nat) (σ1 : fr_S), 40 - i < d → i ≤ 40 → i ≤ p → p ≤ 43 → (∀ j, p ≤ j → bgF F m j = bgc F m (40 - i) p j) → bf = pbG (bgF F m) p → Agp (PLo e) σ σ1 → (∀ u, u < 40 → gI σ1 (e + 4) u = b2i (decide (u < p) && bgF F m u)) → (∀ u, u < 40 → u < p → bgF F m u = true → SL1 σ1 e F m u ∧ SL0 σ1 e F m u) → PX l G yy_Me_layOut rm_Me_layOut (QR G false 742 0 0 Post) false 742 0 0 27 [(0, .ref (e)), (1, .int (nI (p))), (2, .int (bfI bf)), (3, .int (nI (i)))] [] (σ1) := by
  intro d
  induction d with
  | zero => intro i p bf σ1 hd; exact absurd hd (Nat.not_lt_zero _)
  | succ d ih =>
    intro i p bf σ1 hd hi hip hp43 hc hbf hA hB hS
    have kM := kd_M hE
    have h64 := hW.2.2.2.2.2.2.1 m
    have hR := hA.rfs hRf
    have hC : CM σ1 e F m := hCm.cg fun o k h => hA.1 o k fun z => by have := z.o; omega
    have hs3 := szO_le (opS (F 7 (40 * m + p)))
    refine px_iload_n dx_Me_layOut_27 rfl ?_
    refine px_bipush (v := 40) dx_Me_layOut_28 rfl ?_
    refine px_icmp_geN (a := i) (b := 40) dx_Me_layOut_30 (by omega) (by omega) (fun c_30 => ?_) (fun c_30 => ?_)
    · exact px_vret dx_Me_layOut_162 rfl (by (obtain ⟨z1, z2, z3⟩ := lo_end (by omega) hc hA hB hS); exact hp0 _ _ ⟨rfl, z1, z2, z3⟩)
    · refine px_iload_n dx_Me_layOut_33 rfl ?_
      refine px_aload_n dx_Me_layOut_34 rfl ?_
      refine px_getI dx_Me_layOut_35 fl_Me_41 kM.1 (by omega) rfl ?_
      refine px_eqi (y := nI (F 6 m)) hC.2.2.2.2.1 ?_
      refine px_icmp_geN (a := p) (b := F 6 m) dx_Me_layOut_38 (by omega) (by omega) (fun c_38 => ?_) (fun c_38 => ?_)
      · exact px_vret dx_Me_layOut_162 rfl (by (obtain ⟨z1, z2, z3⟩ := lo_end (by omega) hc hA hB hS); exact hp0 _ _ ⟨rfl, z1, z2, z3⟩)
      · refine px_iload_n dx_Me_layOut_41 rfl ?_
        refine px_bipush (v := 40) dx_Me_layOut_42 rfl ?_
        refine px_icmp_geN (a := p) (b := 40) dx_Me_layOut_44 (by omega) (by omega) (fun c_44 => ?_) (fun c_44 => ?_)
        · exact px_vret dx_Me_layOut_162 rfl (by (obtain ⟨z1, z2, z3⟩ := lo_end (by omega) hc hA hB hS); exact hp0 _ _ ⟨rfl, z1, z2, z3⟩)
        · have hSS : SE (e + 5 + 2 * p) := SE.s hE (by omega)
          have kS := kd_S hSS
          refine px_aload_n dx_Me_layOut_47 rfl ?_
          refine px_getR (r := e + 3) dx_Me_layOut_48 fl_Me_20 kM.1 (by omega) rfl (hR.2.2.2.2.1 e hE).2.2.1 ?_
          refine px_iload_n dx_Me_layOut_51 rfl ?_
          refine px_aald26N (j := p) (r := e + 5 + 2 * p) dx_Me_layOut_52 kM.2.2.2.1 (by omega) (by omega) ((hR.2.2.2.2.1 e hE).2.2.2.2 p (by omega)) ?_
          refine px_astore (lv' := [(4, .ref (e + 5 + 2 * p)), (0, .ref (e)), (1, .int (nI (p))), (2, .int (bfI bf)), (3, .int (nI (i)))]) dx_Me_layOut_53 (by decide) rfl ?_
          refine px_aload dx_Me_layOut_55 rfl ?_
          refine px_aload_n dx_Me_layOut_57 rfl ?_
          refine px_getR (r := e + 2) dx_Me_layOut_58 fl_Me_15 kM.1 (by omega) rfl (hR.2.2.2.2.1 e hE).2.1 ?_
          refine px_iload_n dx_Me_layOut_61 rfl ?_
          refine px_ialdN (j := p) dx_Me_layOut_62 kM.2.2.1 (by omega) (by omega) ?_
          refine px_eqi (y := nI (F 7 (40 * m + p))) (hC.2.2.2.2.2.2 p (by omega)) ?_
          refine px_aload_n dx_Me_layOut_63 rfl ?_
          refine px_iload_n dx_Me_layOut_64 rfl ?_
          refine px_iconst (v := 1) dx_Me_layOut_65 rfl ?_
          refine px_iaddN (a := p) (b := 1) dx_Me_layOut_66 ?_
          refine px_cV (Y := yy_Me_layOut) (Yc := yy_Me_unitAt) (b := e) (As := [.int (nI (p + 1))]) dx_Me_layOut_67 ml_Me_69 mv_Me_unitAt np_Me_unitAt ⟨_, rfl⟩ (by decide) kM.1 (by omega) rfl (Nat.le_of_ble_eq_true rfl) (Nat.le_of_ble_eq_true rfl) rk_Me_layOut_Me_unitAt rfl (k_unitAt (n := F 6 m) (U := fun k => F 7 (40 * m + k)) (k := p + 1) hE hR h64 hC.2.2.2.2.1 hC.2.2.2.2.2.2 (by omega)) zz_0 ?_
          refine px_aload_n dx_Me_layOut_70 rfl ?_
          refine px_iload_n dx_Me_layOut_71 rfl ?_
          refine px_iconst (v := 2) dx_Me_layOut_72 rfl ?_
          refine px_iaddN (a := p) (b := 2) dx_Me_layOut_73 ?_
          refine px_cV (Y := yy_Me_layOut) (Yc := yy_Me_unitAt) (b := e) (As := [.int (nI (p + 2))]) dx_Me_layOut_74 ml_Me_69 mv_Me_unitAt np_Me_unitAt ⟨_, rfl⟩ (by decide) kM.1 (by omega) rfl (Nat.le_of_ble_eq_true rfl) (Nat.le_of_ble_eq_true rfl) rk_Me_layOut_Me_unitAt rfl (k_unitAt (n := F 6 m) (U := fun k => F 7 (40 * m + k)) (k := p + 2) hE hR h64 hC.2.2.2.2.1 hC.2.2.2.2.2.2 (by omega)) zz_0 ?_
          refine px_cVR (Y := yy_Me_layOut) (Yc := yy_St_decode) (b := e + 5 + 2 * p) (As := [.int (nI (F 7 (40 * m + p))), .int (nI (uA F m (p + 1))), .int (nI (uA F m (p + 2)))]) dx_Me_layOut_77 ml_Me_72 mv_St_decode np_St_decode ⟨_, rfl⟩ (by decide) kS.1 (by omega) rfl (Nat.le_of_ble_eq_true rfl) (Nat.le_of_ble_eq_true rfl) rk_Me_layOut_St_decode rfl (k_decode (s := e + 5 + 2 * p) (w := F 7 (40 * m + p)) (w1 := uA F m (p + 1)) (w2 := uA F m (p + 2)) hSS (hW.2.2.2.2.2.2.2 _) (uA_lt hW _ _)) zz_0 (fun r_77 τ1 h_77 => ?_)
          obtain ⟨rfl, hA1, hSD, hSU⟩ := h_77
          have hR := hA1.rfs hR
          refine px_aload dx_Me_layOut_80 rfl ?_
          refine px_iconst (v := 0) dx_Me_layOut_82 rfl ?_
          refine px_putZ dx_Me_layOut_83 fl_Me_76 kS.1 (by omega) rfl (by decide) ?_
          refine px_aload dx_Me_layOut_86 rfl ?_
          refine px_iload_n dx_Me_layOut_88 rfl ?_
          refine px_putI dx_Me_layOut_89 fl_Me_79 kS.1 (by omega) rfl ?_
          refine px_aload dx_Me_layOut_92 rfl ?_
          refine px_aload dx_Me_layOut_94 rfl ?_
          refine px_getI dx_Me_layOut_96 fl_Me_82 kS.1 (by omega) rfl ?_
          refine px_eqi (y := nI (szO (opS (F 7 (40 * m + p))))) (Eq.trans (gI_n (Or.inr (by decide))) (Eq.trans (gI_n (Or.inr (by decide))) hSD.2.2.1)) ?_
          refine px_if_leN (a := szO (opS (F 7 (40 * m + p)))) dx_Me_layOut_99 (by omega) (fun c_99 => ?_) (fun c_99 => ?_)
          · refine px_iconst (v := 0) dx_Me_layOut_120 rfl ?_
            refine px_putZ dx_Me_layOut_121 fl_Me_85 kS.1 (by omega) rfl (by decide) ?_
            refine px_aload_n dx_Me_layOut_124 rfl ?_
            refine px_getR (r := e + 4) dx_Me_layOut_125 fl_Me_24 kM.1 (by omega) rfl (hR.2.2.2.2.1 e hE).2.2.2.1 ?_
            refine px_iload_n dx_Me_layOut_128 rfl ?_
            refine px_iconst (v := 1) dx_Me_layOut_129 rfl ?_
            refine px_zastN (j := p) dx_Me_layOut_130 kM.2.2.2.2.1 (by omega) (by omega) (by decide) ?_
            refine px_iload_n dx_Me_layOut_131 rfl ?_
            refine px_istore_n (lv' := [(2, .int (nI (p))), (4, .ref (e + 5 + 2 * p)), (0, .ref (e)), (1, .int (nI (p))), (3, .int (nI (i)))]) dx_Me_layOut_132 (by decide) rfl ?_
            refine px_aload dx_Me_layOut_133 rfl ?_
            refine px_getI dx_Me_layOut_135 fl_Me_85 kS.1 (by omega) rfl ?_
            refine px_eqi (y := 0) (Eq.trans (gI_n (by omega)) gI_s) ?_
            refine px_if_eq dx_Me_layOut_138 (fun _ => ?_) (fun q => absurd (by decide) q)
            refine px_aload_n dx_Me_layOut_151 rfl ?_
            refine px_getI dx_Me_layOut_152 fl_Me_41 kM.1 (by omega) rfl ?_
            refine px_eqi (y := nI (F 6 m)) (Eq.trans (gI_n (by omega)) (Eq.trans (gI_n (Or.inr (by decide))) (Eq.trans (gI_n (Or.inr (by decide))) (Eq.trans (gI_n (Or.inr (by decide))) ((hA1.1 e 8 (by omega)).trans hC.2.2.2.2.1))))) ?_
            refine px_istore_n (lv' := [(1, .int (nI (F 6 m))), (2, .int (nI (p))), (4, .ref (e + 5 + 2 * p)), (0, .ref (e)), (3, .int (nI (i)))]) dx_Me_layOut_155 (by decide) rfl ?_
            refine px_iinc (v := (nI (i + 1))) (lv' := [(3, .int (nI (i + 1))), (1, .int (nI (F 6 m))), (2, .int (nI (p))), (4, .ref (e + 5 + 2 * p)), (0, .ref (e))]) dx_Me_layOut_156 rfl (nI_1 _) (by decide) rfl ?_
            refine px_goto dx_Me_layOut_159 ?_
            refine px_sub [4, 1, 2, 0] rfl ?_
            have hcp : cpl F m p = false := decide_eq_false (by omega)
            have enx : nxC F m p = F 6 m := by (unfold nxC; rw [hcp]; rfl)
            obtain ⟨n1, n2, n3, n4⟩ := nxC_c (f := 39 - i) (by omega) (fun j hj => (hc j hj).trans (by rw [show 40 - i = 39 - i + 1 by omega]))
            rw [enx] at n1 n3 n4
            obtain ⟨g1, g2, g3⟩ := lo_step (v := 0) (by omega) n1 n2 n3 hbf hA hB hS hA1 hSD hSU (by rw [hcp]; rfl)
            exact ih (i + 1) (F 6 m) (some p) _ (by omega) (by omega) (by omega) (by omega) (fun j hj => (n4 j hj).trans (by rw [show 40 - (i + 1) = 39 - i by omega])) (pbG_at n2 n1 n3).symm g1 g2 g3
          · refine px_iload_n dx_Me_layOut_102 rfl ?_
            refine px_aload dx_Me_layOut_103 rfl ?_
            refine px_getI dx_Me_layOut_105 fl_Me_82 kS.1 (by omega) rfl ?_
            refine px_eqi (y := nI (szO (opS (F 7 (40 * m + p))))) (Eq.trans (gI_n (Or.inr (by decide))) (Eq.trans (gI_n (Or.inr (by decide))) hSD.2.2.1)) ?_
            refine px_iaddN (a := p) (b := szO (opS (F 7 (40 * m + p)))) dx_Me_layOut_108 ?_
            refine px_aload_n dx_Me_layOut_109 rfl ?_
            refine px_getI dx_Me_layOut_110 fl_Me_41 kM.1 (by omega) rfl ?_
            refine px_eqi (y := nI (F 6 m)) (Eq.trans (gI_n (Or.inr (by decide))) (Eq.trans (gI_n (Or.inr (by decide))) ((hA1.1 e 8 (by omega)).trans hC.2.2.2.2.1))) ?_
            refine px_icmp_gtN (a := p + (szO (opS (F 7 (40 * m + p))))) (b := F 6 m) dx_Me_layOut_113 (by omega) (by omega) (fun c_113 => ?_) (fun c_113 => ?_)
            · refine px_iconst (v := 0) dx_Me_layOut_120 rfl ?_
              refine px_putZ dx_Me_layOut_121 fl_Me_85 kS.1 (by omega) rfl (by decide) ?_
              refine px_aload_n dx_Me_layOut_124 rfl ?_
              refine px_getR (r := e + 4) dx_Me_layOut_125 fl_Me_24 kM.1 (by omega) rfl (hR.2.2.2.2.1 e hE).2.2.2.1 ?_
              refine px_iload_n dx_Me_layOut_128 rfl ?_
              refine px_iconst (v := 1) dx_Me_layOut_129 rfl ?_
              refine px_zastN (j := p) dx_Me_layOut_130 kM.2.2.2.2.1 (by omega) (by omega) (by decide) ?_
              refine px_iload_n dx_Me_layOut_131 rfl ?_
              refine px_istore_n (lv' := [(2, .int (nI (p))), (4, .ref (e + 5 + 2 * p)), (0, .ref (e)), (1, .int (nI (p))), (3, .int (nI (i)))]) dx_Me_layOut_132 (by decide) rfl ?_
              refine px_aload dx_Me_layOut_133 rfl ?_
              refine px_getI dx_Me_layOut_135 fl_Me_85 kS.1 (by omega) rfl ?_
              refine px_eqi (y := 0) (Eq.trans (gI_n (by omega)) gI_s) ?_
              refine px_if_eq dx_Me_layOut_138 (fun _ => ?_) (fun q => absurd (by decide) q)
              refine px_aload_n dx_Me_layOut_151 rfl ?_
              refine px_getI dx_Me_layOut_152 fl_Me_41 kM.1 (by omega) rfl ?_
              refine px_eqi (y := nI (F 6 m)) (Eq.trans (gI_n (by omega)) (Eq.trans (gI_n (Or.inr (by decide))) (Eq.trans (gI_n (Or.inr (by decide))) (Eq.trans (gI_n (Or.inr (by decide))) ((hA1.1 e 8 (by omega)).trans hC.2.2.2.2.1))))) ?_
              refine px_istore_n (lv' := [(1, .int (nI (F 6 m))), (2, .int (nI (p))), (4, .ref (e + 5 + 2 * p)), (0, .ref (e)), (3, .int (nI (i)))]) dx_Me_layOut_155 (by decide) rfl ?_
              refine px_iinc (v := (nI (i + 1))) (lv' := [(3, .int (nI (i + 1))), (1, .int (nI (F 6 m))), (2, .int (nI (p))), (4, .ref (e + 5 + 2 * p)), (0, .ref (e))]) dx_Me_layOut_156 rfl (nI_1 _) (by decide) rfl ?_
              refine px_goto dx_Me_layOut_159 ?_
              refine px_sub [4, 1, 2, 0] rfl ?_
              have hcp : cpl F m p = false := decide_eq_false (by omega)
              have enx : nxC F m p = F 6 m := by (unfold nxC; rw [hcp]; rfl)
              obtain ⟨n1, n2, n3, n4⟩ := nxC_c (f := 39 - i) (by omega) (fun j hj => (hc j hj).trans (by rw [show 40 - i = 39 - i + 1 by omega]))
              rw [enx] at n1 n3 n4
              obtain ⟨g1, g2, g3⟩ := lo_step (v := 0) (by omega) n1 n2 n3 hbf hA hB hS hA1 hSD hSU (by rw [hcp]; rfl)
              exact ih (i + 1) (F 6 m) (some p) _ (by omega) (by omega) (by omega) (by omega) (fun j hj => (n4 j hj).trans (by rw [show 40 - (i + 1) = 39 - i by omega])) (pbG_at n2 n1 n3).symm g1 g2 g3
            · refine px_iconst (v := 1) dx_Me_layOut_116 rfl ?_
              refine px_goto dx_Me_layOut_117 ?_
              refine px_putZ dx_Me_layOut_121 fl_Me_85 kS.1 (by omega) rfl (by decide) ?_
              refine px_aload_n dx_Me_layOut_124 rfl ?_
              refine px_getR (r := e + 4) dx_Me_layOut_125 fl_Me_24 kM.1 (by omega) rfl (hR.2.2.2.2.1 e hE).2.2.2.1 ?_
              refine px_iload_n dx_Me_layOut_128 rfl ?_
              refine px_iconst (v := 1) dx_Me_layOut_129 rfl ?_
              refine px_zastN (j := p) dx_Me_layOut_130 kM.2.2.2.2.1 (by omega) (by omega) (by decide) ?_
              refine px_iload_n dx_Me_layOut_131 rfl ?_
              refine px_istore_n (lv' := [(2, .int (nI (p))), (4, .ref (e + 5 + 2 * p)), (0, .ref (e)), (1, .int (nI (p))), (3, .int (nI (i)))]) dx_Me_layOut_132 (by decide) rfl ?_
              refine px_aload dx_Me_layOut_133 rfl ?_
              refine px_getI dx_Me_layOut_135 fl_Me_85 kS.1 (by omega) rfl ?_
              refine px_eqi (y := 1) (Eq.trans (gI_n (by omega)) gI_s) ?_
              refine px_if_eq dx_Me_layOut_138 (fun q => absurd q (by decide)) (fun _ => ?_)
              refine px_iload_n dx_Me_layOut_141 rfl ?_
              refine px_aload dx_Me_layOut_142 rfl ?_
              refine px_getI dx_Me_layOut_144 fl_Me_82 kS.1 (by omega) rfl ?_
              refine px_eqi (y := nI (szO (opS (F 7 (40 * m + p))))) (Eq.trans (gI_n (by omega)) (Eq.trans (gI_n (Or.inr (by decide))) (Eq.trans (gI_n (Or.inr (by decide))) (Eq.trans (gI_n (Or.inr (by decide))) hSD.2.2.1)))) ?_
              refine px_iaddN (a := p) (b := szO (opS (F 7 (40 * m + p)))) dx_Me_layOut_147 ?_
              refine px_goto dx_Me_layOut_148 ?_
              refine px_istore_n (lv' := [(1, .int (nI (p + (szO (opS (F 7 (40 * m + p))))))), (2, .int (nI (p))), (4, .ref (e + 5 + 2 * p)), (0, .ref (e)), (3, .int (nI (i)))]) dx_Me_layOut_155 (by decide) rfl ?_
              refine px_iinc (v := (nI (i + 1))) (lv' := [(3, .int (nI (i + 1))), (1, .int (nI (p + (szO (opS (F 7 (40 * m + p))))))), (2, .int (nI (p))), (4, .ref (e + 5 + 2 * p)), (0, .ref (e))]) dx_Me_layOut_156 rfl (nI_1 _) (by decide) rfl ?_
              refine px_goto dx_Me_layOut_159 ?_
              refine px_sub [4, 1, 2, 0] rfl ?_
              have hcp : cpl F m p = true := decide_eq_true (by omega)
              have enx : nxC F m p = p + (szO (opS (F 7 (40 * m + p)))) := by (unfold nxC; rw [hcp]; rfl)
              obtain ⟨n1, n2, n3, n4⟩ := nxC_c (f := 39 - i) (by omega) (fun j hj => (hc j hj).trans (by rw [show 40 - i = 39 - i + 1 by omega]))
              rw [enx] at n1 n3 n4
              obtain ⟨g1, g2, g3⟩ := lo_step (v := 1) (by omega) n1 n2 n3 hbf hA hB hS hA1 hSD hSU (by rw [hcp]; rfl)
              exact ih (i + 1) (p + (szO (opS (F 7 (40 * m + p))))) (some p) _ (by omega) (by omega) (by omega) (by omega) (fun j hj => (n4 j hj).trans (by rw [show 40 - (i + 1) = 39 - i by omega])) (pbG_at n2 n1 n3).symm g1 g2 g3
set_option maxRecDepth 100000 in
set_option maxHeartbeats 1000000 in
theorem k_layOut_l1 {l : Launch} {G : fr_G} {σ : fr_S} {e : Nat} (hE : ME e) {F : Nat → Nat → Nat} (hW : FW F) {m : Nat} (hm : m < 4) (hRf : RF σ) (hCm : CM σ e F m) {Post : Option Value → fr_S → Prop} (hp0 : ∀ r σ', (fun r0 σ' => r0 = none ∧ Agp (PLo e) σ σ' ∧ SLm σ' e F m ∧ ∀ u, u < 40 → bgF F m u = true → SL0 σ' e F m u) r σ' → Post r σ') : ∀ (d : Nat) (j : Nat) (σ1 : fr_S), 40 - j < d → j ≤ 40 → Agp (PLo e) σ σ1 → (∀ u, u < 40 → u < j → gI σ1 (e + 4) u = 0) → PX l G yy_Me_layOut rm_Me_layOut (QR G false 742 0 0 Post) false 742 0 0 2 [(0, .ref (e)), (1, .int (nI (j)))] [] (σ1) := by
  intro d
  induction d with
  | zero => intro j σ1 hd; exact absurd hd (Nat.not_lt_zero _)
  | succ d ih =>
    intro j σ1 hd hj hA hZ
    have kM := kd_M hE
    have h64 := hW.2.2.2.2.2.2.1 m
    have hR := hA.rfs hRf
    have hC : CM σ1 e F m := hCm.cg fun o k h => hA.1 o k fun z => by have := z.o; omega
    refine px_iload_n dx_Me_layOut_2 rfl ?_
    refine px_bipush (v := 40) dx_Me_layOut_3 rfl ?_
    refine px_icmp_geN (a := j) (b := 40) dx_Me_layOut_5 (by omega) (by omega) (fun c_5 => ?_) (fun c_5 => ?_)
    · refine px_iconst (v := 0) dx_Me_layOut_21 rfl ?_
      refine px_istore_n (lv' := [(1, .int (0)), (0, .ref (e))]) dx_Me_layOut_22 (by decide) rfl ?_
      refine px_iconst (v := -1) dx_Me_layOut_23 rfl ?_
      refine px_istore_n (lv' := [(2, .int (-1)), (1, .int (0)), (0, .ref (e))]) dx_Me_layOut_24 (by decide) rfl ?_
      refine px_iconst (v := 0) dx_Me_layOut_25 rfl ?_
      refine px_istore_n (lv' := [(3, .int (0)), (2, .int (-1)), (1, .int (0)), (0, .ref (e))]) dx_Me_layOut_26 (by decide) rfl ?_
      refine px_sub [3, 2, 1, 0] rfl ?_
      exact k_layOut_l2 (σ := σ) hE hW hm hRf hCm hp0 41 0 0 none σ1 (by omega) (Nat.zero_le _) (Nat.zero_le _) (Nat.zero_le _) (fun j _ => rfl) rfl hA (fun u hu => (hZ u hu (by omega)).trans (by rw [decide_eq_false (Nat.not_lt_zero _)]; rfl)) (fun u _ h => absurd h (Nat.not_lt_zero _))
    · refine px_aload_n dx_Me_layOut_8 rfl ?_
      refine px_getR (r := e + 4) dx_Me_layOut_9 fl_Me_24 kM.1 (by omega) rfl (hR.2.2.2.2.1 e hE).2.2.2.1 ?_
      refine px_iload_n dx_Me_layOut_12 rfl ?_
      refine px_iconst (v := 0) dx_Me_layOut_13 rfl ?_
      refine px_zastN (j := j) dx_Me_layOut_14 kM.2.2.2.2.1 (by omega) (by omega) (by decide) ?_
      refine px_iinc (v := (nI (j + 1))) (lv' := [(1, .int (nI (j + 1))), (0, .ref (e))]) dx_Me_layOut_15 rfl (nI_1 _) (by decide) rfl ?_
      refine px_goto dx_Me_layOut_18 ?_
      refine px_sub [1, 0] rfl ?_
      exact ih (j + 1) _ (by omega) (by omega) (hA.w (Or.inl rfl)) (fun u hu h => if q : u = j then (by subst q; exact gI_s) else (gI_n (Or.inr q)).trans (hZ u hu (by omega)))
set_option maxRecDepth 100000 in
set_option maxHeartbeats 1000000 in
theorem k_layOut {l : Launch} {G : fr_G} {σ : fr_S} {e : Nat} (hE : ME e) {F : Nat → Nat → Nat} (hW : FW F) {m : Nat} (hm : m < 4) (hRf : RF σ) (hCm : CM σ e F m) : CR l G yy_Me_layOut rm_Me_layOut [.ref (e)] σ (fun r0 σ' => r0 = none ∧ Agp (PLo e) σ σ' ∧ SLm σ' e F m ∧ ∀ u, u < 40 → bgF F m u = true → SL0 σ' e F m u) := by
  intro Post hp0
  show PX l G yy_Me_layOut rm_Me_layOut _ false 742 0 0 0 [(0, .ref (e))] [] σ
  refine px_iconst (v := 0) dx_Me_layOut_0 rfl ?_
  refine px_istore_n (lv' := [(1, .int (0)), (0, .ref (e))]) dx_Me_layOut_1 (by decide) rfl ?_
  refine px_sub [1, 0] rfl ?_
  exact k_layOut_l1 (σ := σ) hE hW hm hRf hCm hp0 41 0 σ (by omega) (Nat.zero_le _) Agp.rf (fun u _ h => absurd h (Nat.not_lt_zero _))
