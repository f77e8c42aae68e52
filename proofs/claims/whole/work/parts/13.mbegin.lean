/-! the reference: the form of a method -/
def isRs (w : Nat) : Bool := decide (opS w = 10 ∨ opS w = 11)
def sb8 (b : Nat) : Int32 := if 127 < b then nI b - 256 else nI b
/-- where a branch goes -/
def tgO (F : Nat → Nat → Nat) (m p : Nat) : Int32 := if opS (F 7 (40 * m + p)) = 40 then nI p + sb8 (opN (F 7 (40 * m + p))) else nI p + nmI (F 7 (40 * m + (p + 1)))
def mgN (F : Nat → Nat → Nat) (Bg : Nat → Bool) (m j : Nat) (bc : Bool) : Bool := decide (j < F 6 m) && (Bg j && (bc || !isRs (F 7 (40 * m + j))))
def mgo (F : Nat → Nat → Nat) (Bg : Nat → Bool) (m : Nat) (x : Int32) (bc : Bool) : Bool := decide (¬ x < 0) && mgN F Bg m x.toNatClampNeg bc
def kOK (F : Nat → Nat → Nat) (m p : Nat) (bf : Option Nat) : Bool :=
  if 14 ≤ opS (F 7 (40 * m + p)) ∧ opS (F 7 (40 * m + p)) ≤ 16 then decide (opS (F 7 (40 * m + p)) = if F 2 m = 0 then 14 else if wdt (F 2 m) = 1 then 15 else 16)
  else if isRs (F 7 (40 * m + p)) = false then true
  else match bf with
    | none => false
    | some q => decide (opS (F 7 (40 * m + q)) = 113) && (decide (F 7 (40 * m + (q + 1)) < F 0 0) && (decide (¬ F 2 (F 7 (40 * m + (q + 1))) = 0) && decide (opS (F 7 (40 * m + p)) = if wdt (F 2 (F 7 (40 * m + (q + 1)))) = 1 then 10 else 11)))
def bfI : Option Nat → Int32
  | none => -1
  | some q => nI q

set_option maxRecDepth 100000 in
set_option maxHeartbeats 1000000 in
theorem m_isResult {l : Launch} {G : fr_G} {σ : fr_S} (hM : MR σ) {F : Nat → Nat → Nat} (hF : MF σ F) (hW : FW F) {m p : Nat} (hm : m < 4) (hpl : p < 40) : CT l G yy_Mo_isResult rm_Mo_isResult [.ref (717), .int (nI (m)), .int (nI (p))] σ (some (.int (b2i (isRs (F 7 (40 * m + p)))))) (σ) := by
  intro Post hp0
  have hp := hp0
  show PX l G yy_Mo_isResult rm_Mo_isResult _ false 742 0 0 0 [(0, .ref (717)), (1, .int (nI (m))), (2, .int (nI (p)))] [] σ
  refine px_aload_n dx_Mo_isResult_0 rfl ?_
  refine px_iload_n dx_Mo_isResult_1 rfl ?_
  refine px_iload_n dx_Mo_isResult_2 rfl ?_
  refine px_cV (Y := yy_Mo_isResult) (Yc := yy_Mo_op) (b := 717) (As := [.int (nI (m)), .int (nI (p))]) dx_Mo_isResult_3 ml_Mo_173 mv_Mo_op np_Mo_op ⟨_, rfl⟩ (by decide) rfl (by decide) rfl (Nat.le_of_ble_eq_true rfl) (Nat.le_of_ble_eq_true rfl) rk_Mo_isResult_Mo_op rfl (m_op hM (by omega) (hF.2.2.2.2.2.2.2 (40 * m + p) (by omega)) (hW.2.2.2.2.2.2.2 _)) zz_0 ?_
  refine px_bipush (v := 10) dx_Mo_isResult_6 rfl ?_
  refine px_icmp_eqN (a := opS (F 7 (40 * m + p))) (b := 10) dx_Mo_isResult_8 (by first | omega | (have := opS_lt (F 7 (40 * m + p)); omega) | (have := opN_lt (hW.2.2.2.2.2.2.2 (40 * m + p)); omega) | (have := hW.2.2.2.2.2.2.1 m; omega) | (have := hW.1; have := hW.2.2.1 m; omega)) (by first | omega | (have := opS_lt (F 7 (40 * m + p)); omega) | (have := opN_lt (hW.2.2.2.2.2.2.2 (40 * m + p)); omega) | (have := hW.2.2.2.2.2.2.1 m; omega) | (have := hW.1; have := hW.2.2.1 m; omega)) (fun c_8 => ?_) (fun c_8 => ?_)
  · refine px_iconst (v := 1) dx_Mo_isResult_22 rfl ?_
    refine px_goto dx_Mo_isResult_23 ?_
    exact px_zret dx_Mo_isResult_27 rfl (by decide) (by (have e : isRs (F 7 (40 * m + p)) = true := by (simp only [isRs, decide_eq_true_eq, decide_eq_false_iff_not]; omega)); rw [e] at hp0; exact hp0)
  · refine px_aload_n dx_Mo_isResult_11 rfl ?_
    refine px_iload_n dx_Mo_isResult_12 rfl ?_
    refine px_iload_n dx_Mo_isResult_13 rfl ?_
    refine px_cV (Y := yy_Mo_isResult) (Yc := yy_Mo_op) (b := 717) (As := [.int (nI (m)), .int (nI (p))]) dx_Mo_isResult_14 ml_Mo_173 mv_Mo_op np_Mo_op ⟨_, rfl⟩ (by decide) rfl (by decide) rfl (Nat.le_of_ble_eq_true rfl) (Nat.le_of_ble_eq_true rfl) rk_Mo_isResult_Mo_op rfl (m_op hM (by omega) (hF.2.2.2.2.2.2.2 (40 * m + p) (by omega)) (hW.2.2.2.2.2.2.2 _)) zz_0 ?_
    refine px_bipush (v := 11) dx_Mo_isResult_17 rfl ?_
    refine px_icmp_neN (a := opS (F 7 (40 * m + p))) (b := 11) dx_Mo_isResult_19 (by first | omega | (have := opS_lt (F 7 (40 * m + p)); omega) | (have := opN_lt (hW.2.2.2.2.2.2.2 (40 * m + p)); omega) | (have := hW.2.2.2.2.2.2.1 m; omega) | (have := hW.1; have := hW.2.2.1 m; omega)) (by first | omega | (have := opS_lt (F 7 (40 * m + p)); omega) | (have := opN_lt (hW.2.2.2.2.2.2.2 (40 * m + p)); omega) | (have := hW.2.2.2.2.2.2.1 m; omega) | (have := hW.1; have := hW.2.2.1 m; omega)) (fun c_19 => ?_) (fun c_19 => ?_)
    · refine px_iconst (v := 0) dx_Mo_isResult_26 rfl ?_
      exact px_zret dx_Mo_isResult_27 rfl (by decide) (by (have e : isRs (F 7 (40 * m + p)) = false := by (simp only [isRs, decide_eq_true_eq, decide_eq_false_iff_not]; omega)); rw [e] at hp0; exact hp0)
    · refine px_iconst (v := 1) dx_Mo_isResult_22 rfl ?_
      refine px_goto dx_Mo_isResult_23 ?_
      exact px_zret dx_Mo_isResult_27 rfl (by decide) (by (have e : isRs (F 7 (40 * m + p)) = true := by (simp only [isRs, decide_eq_true_eq, decide_eq_false_iff_not]; omega)); rw [e] at hp0; exact hp0)
set_option maxRecDepth 100000 in
set_option maxHeartbeats 1000000 in
theorem m_target {l : Launch} {G : fr_G} {σ : fr_S} (hM : MR σ) {F : Nat → Nat → Nat} (hF : MF σ F) (hW : FW F) {m p : Nat} (hm : m < 4) (hpl : p < 40) : CT l G yy_Mo_target rm_Mo_target [.ref (717), .int (nI (m)), .int (nI (p))] σ (some (.int (tgO F m p))) (σ) := by
  intro Post hp0
  have hp := hp0
  show PX l G yy_Mo_target rm_Mo_target _ false 742 0 0 0 [(0, .ref (717)), (1, .int (nI (m))), (2, .int (nI (p)))] [] σ
  refine px_aload_n dx_Mo_target_0 rfl ?_
  refine px_iload_n dx_Mo_target_1 rfl ?_
  refine px_iload_n dx_Mo_target_2 rfl ?_
  refine px_cV (Y := yy_Mo_target) (Yc := yy_Mo_op) (b := 717) (As := [.int (nI (m)), .int (nI (p))]) dx_Mo_target_3 ml_Mo_173 mv_Mo_op np_Mo_op ⟨_, rfl⟩ (by decide) rfl (by decide) rfl (Nat.le_of_ble_eq_true rfl) (Nat.le_of_ble_eq_true rfl) rk_Mo_target_Mo_op rfl (m_op hM (by omega) (hF.2.2.2.2.2.2.2 (40 * m + p) (by omega)) (hW.2.2.2.2.2.2.2 _)) zz_0 ?_
  refine px_bipush (v := 40) dx_Mo_target_6 rfl ?_
  refine px_icmp_eqN (a := opS (F 7 (40 * m + p))) (b := 40) dx_Mo_target_8 (by first | omega | (have := opS_lt (F 7 (40 * m + p)); omega) | (have := opN_lt (hW.2.2.2.2.2.2.2 (40 * m + p)); omega) | (have := hW.2.2.2.2.2.2.1 m; omega) | (have := hW.1; have := hW.2.2.1 m; omega)) (by first | omega | (have := opS_lt (F 7 (40 * m + p)); omega) | (have := opN_lt (hW.2.2.2.2.2.2.2 (40 * m + p)); omega) | (have := hW.2.2.2.2.2.2.1 m; omega) | (have := hW.1; have := hW.2.2.1 m; omega)) (fun c_8 => ?_) (fun c_8 => ?_)
  · refine px_aload_n dx_Mo_target_20 rfl ?_
    refine px_iload_n dx_Mo_target_21 rfl ?_
    refine px_iload_n dx_Mo_target_22 rfl ?_
    refine px_cV (Y := yy_Mo_target) (Yc := yy_Mo_regAA) (b := 717) (As := [.int (nI (m)), .int (nI (p))]) dx_Mo_target_23 ml_Mo_179 mv_Mo_regAA np_Mo_regAA ⟨_, rfl⟩ (by decide) rfl (by decide) rfl (Nat.le_of_ble_eq_true rfl) (Nat.le_of_ble_eq_true rfl) rk_Mo_target_Mo_regAA rfl (m_regAA hM (by omega) (hF.2.2.2.2.2.2.2 (40 * m + p) (by omega)) (hW.2.2.2.2.2.2.2 _)) zz_0 ?_
    refine px_istore_n (lv' := [(3, .int (nI (opN (F 7 (40 * m + p))))), (0, .ref (717)), (1, .int (nI (m))), (2, .int (nI (p)))]) dx_Mo_target_26 (by decide) rfl ?_
    refine px_iload_n dx_Mo_target_27 rfl ?_
    refine px_iload_n dx_Mo_target_28 rfl ?_
    refine px_bipush (v := 127) dx_Mo_target_29 rfl ?_
    refine px_icmp_leN (a := opN (F 7 (40 * m + p))) (b := 127) dx_Mo_target_31 (by first | omega | (have := opS_lt (F 7 (40 * m + p)); omega) | (have := opN_lt (hW.2.2.2.2.2.2.2 (40 * m + p)); omega) | (have := hW.2.2.2.2.2.2.1 m; omega) | (have := hW.1; have := hW.2.2.1 m; omega)) (by first | omega | (have := opS_lt (F 7 (40 * m + p)); omega) | (have := opN_lt (hW.2.2.2.2.2.2.2 (40 * m + p)); omega) | (have := hW.2.2.2.2.2.2.1 m; omega) | (have := hW.1; have := hW.2.2.1 m; omega)) (fun c_31 => ?_) (fun c_31 => ?_)
    · refine px_iload_n dx_Mo_target_42 rfl ?_
      refine px_iaddN (a := p) (b := opN (F 7 (40 * m + p))) dx_Mo_target_43 ?_
      exact px_iret dx_Mo_target_44 rfl (by (have e : tgO F m p = nI (p + (opN (F 7 (40 * m + p)))) := by (unfold tgO; first | (rw [if_neg (by assumption)]; done) | (rw [if_pos (by omega)]; unfold sb8; first | rw [if_pos (by assumption)] | (rw [if_neg (by omega), nI_add])))); rw [e] at hp0; exact hp0)
    · refine px_iload_n dx_Mo_target_34 rfl ?_
      refine px_sipush (v := 256) dx_Mo_target_35 rfl ?_
      refine px_isub dx_Mo_target_38 ?_
      refine px_goto dx_Mo_target_39 ?_
      refine px_iadd dx_Mo_target_43 ?_
      exact px_iret dx_Mo_target_44 rfl (by (have e : tgO F m p = (nI (p)) + ((nI (opN (F 7 (40 * m + p)))) - 256) := by (unfold tgO; first | (rw [if_neg (by assumption)]; done) | (rw [if_pos (by omega)]; unfold sb8; first | rw [if_pos (by assumption)] | (rw [if_neg (by omega), nI_add])))); rw [e] at hp0; exact hp0)
  · refine px_iload_n dx_Mo_target_11 rfl ?_
    refine px_aload_n dx_Mo_target_12 rfl ?_
    refine px_iload_n dx_Mo_target_13 rfl ?_
    refine px_iload_n dx_Mo_target_14 rfl ?_
    refine px_cV (Y := yy_Mo_target) (Yc := yy_Mo_number) (b := 717) (As := [.int (nI (m)), .int (nI (p))]) dx_Mo_target_15 ml_Mo_176 mv_Mo_number np_Mo_number ⟨_, rfl⟩ (by decide) rfl (by decide) rfl (Nat.le_of_ble_eq_true rfl) (Nat.le_of_ble_eq_true rfl) rk_Mo_target_Mo_number rfl (m_number hM (by omega) (hF.2.2.2.2.2.2.2 (40 * m + (p + 1)) (by omega)) (hW.2.2.2.2.2.2.2 _)) zz_0 ?_
    refine px_iadd dx_Mo_target_18 ?_
    exact px_iret dx_Mo_target_19 rfl (by (have e : tgO F m p = (nI (p)) + (nmI (F 7 (40 * m + (p + 1)))) := by (unfold tgO; first | (rw [if_neg (by assumption)]; done) | (rw [if_pos (by omega)]; unfold sb8; first | rw [if_pos (by assumption)] | (rw [if_neg (by omega), nI_add])))); rw [e] at hp0; exact hp0)
set_option maxRecDepth 100000 in
set_option maxHeartbeats 1000000 in
theorem m_mayGo_p {l : Launch} {G : fr_G} {σ : fr_S} (hM : MR σ) {F : Nat → Nat → Nat} (hF : MF σ F) (hW : FW F) {m : Nat} (hm : m < 4) {Bg : Nat → Bool} (hB : ∀ j, j < 40 → gI σ 729 (40 * m + j) = b2i (Bg j)) {j : Nat} {bc : Bool} (hj : j < 100000) : CT l G yy_Mo_mayGo rm_Mo_mayGo [.ref (717), .int (nI (m)), .int (nI (j)), .int (b2i (bc))] σ (some (.int (b2i (mgN F Bg m j bc)))) (σ) := by
  intro Post hp0
  have hp := hp0
  show PX l G yy_Mo_mayGo rm_Mo_mayGo _ false 742 0 0 0 [(0, .ref (717)), (1, .int (nI (m))), (2, .int (nI (j))), (3, .int (b2i (bc)))] [] σ
  have h6 := hW.2.2.2.2.2.2.1 m
  refine px_iload_n dx_Mo_mayGo_0 rfl ?_
  refine px_if_ltN (a := j) dx_Mo_mayGo_1 (by first | omega | (have h6 := hW.2.2.2.2.2.2.1 m; omega)) (fun c_1 => ?_) (fun c_1 => ?_)
  · exact absurd c_1 (Nat.not_lt_zero _)
  · refine px_iload_n dx_Mo_mayGo_4 rfl ?_
    refine px_aload_n dx_Mo_mayGo_5 rfl ?_
    refine px_getR (r := 725) dx_Mo_mayGo_6 fl_Mo_35 rfl (by decide) rfl (hM 12) ?_
    refine px_iload_n dx_Mo_mayGo_9 rfl ?_
    refine px_ialdN (j := m) dx_Mo_mayGo_10 rfl (by decide) (by first | omega | (have h6 := hW.2.2.2.2.2.2.1 m; omega)) ?_
    refine px_eqi (y := nI (F 6 m)) (hF.2.2.2.2.2.2.1 m (by omega)) ?_
    refine px_icmp_ltN (a := j) (b := F 6 m) dx_Mo_mayGo_11 (by first | omega | (have h6 := hW.2.2.2.2.2.2.1 m; omega)) (by first | omega | (have h6 := hW.2.2.2.2.2.2.1 m; omega)) (fun c_11 => ?_) (fun c_11 => ?_)
    · refine px_aload_n dx_Mo_mayGo_16 rfl ?_
      refine px_getR (r := 729) dx_Mo_mayGo_17 fl_Mo_47 rfl (by decide) rfl (hM 16) ?_
      refine px_bipush (v := 40) dx_Mo_mayGo_20 rfl ?_
      refine px_iload_n dx_Mo_mayGo_22 rfl ?_
      refine px_imulN (a := 40) (b := m) dx_Mo_mayGo_23 ?_
      refine px_iload_n dx_Mo_mayGo_24 rfl ?_
      refine px_iaddN (a := 40 * m) (b := j) dx_Mo_mayGo_25 ?_
      refine px_zaldN (j := (40 * m) + j) dx_Mo_mayGo_26 rfl (by decide) (by first | omega | (have h6 := hW.2.2.2.2.2.2.1 m; omega)) ?_
      refine px_eqi (y := b2i (Bg j)) (hB j (by omega)) ?_
      refine px_if_eqB dx_Mo_mayGo_27 (fun c_27 => ?_) (fun c_27 => ?_)
      · refine px_iconst (v := 0) dx_Mo_mayGo_47 rfl ?_
        exact px_zret dx_Mo_mayGo_48 rfl (by decide) (by (have e : mgN F Bg m j bc = false := by (unfold mgN; simp_all <;> omega)); rw [e] at hp0; exact hp0)
      · refine px_iload_n dx_Mo_mayGo_30 rfl ?_
        refine px_if_neB dx_Mo_mayGo_31 (fun c_31 => ?_) (fun c_31 => ?_)
        · refine px_iconst (v := 1) dx_Mo_mayGo_43 rfl ?_
          refine px_goto dx_Mo_mayGo_44 ?_
          exact px_zret dx_Mo_mayGo_48 rfl (by decide) (by (have e : mgN F Bg m j bc = true := by (unfold mgN; simp_all <;> omega)); rw [e] at hp0; exact hp0)
        · refine px_aload_n dx_Mo_mayGo_34 rfl ?_
          refine px_iload_n dx_Mo_mayGo_35 rfl ?_
          refine px_iload_n dx_Mo_mayGo_36 rfl ?_
          refine px_cV (Y := yy_Mo_mayGo) (Yc := yy_Mo_isResult) (b := 717) (As := [.int (nI (m)), .int (nI (j))]) dx_Mo_mayGo_37 ml_Mo_218 mv_Mo_isResult np_Mo_isResult ⟨_, rfl⟩ (by decide) rfl (by decide) rfl (Nat.le_of_ble_eq_true rfl) (Nat.le_of_ble_eq_true rfl) rk_Mo_mayGo_Mo_isResult rfl (m_isResult hM hF hW hm (by have := hW.2.2.2.2.2.2.1 m; omega)) zz_0 ?_
          refine px_if_neB dx_Mo_mayGo_40 (fun c_40 => ?_) (fun c_40 => ?_)
          · refine px_iconst (v := 0) dx_Mo_mayGo_47 rfl ?_
            exact px_zret dx_Mo_mayGo_48 rfl (by decide) (by (have e : mgN F Bg m j bc = false := by (unfold mgN; simp_all <;> omega)); rw [e] at hp0; exact hp0)
          · refine px_iconst (v := 1) dx_Mo_mayGo_43 rfl ?_
            refine px_goto dx_Mo_mayGo_44 ?_
            exact px_zret dx_Mo_mayGo_48 rfl (by decide) (by (have e : mgN F Bg m j bc = true := by (unfold mgN; simp_all <;> omega)); rw [e] at hp0; exact hp0)
    · refine px_iconst (v := 0) dx_Mo_mayGo_14 rfl ?_
      exact px_zret dx_Mo_mayGo_15 rfl (by decide) (by (have e : mgN F Bg m j bc = false := by (unfold mgN; simp_all <;> omega)); rw [e] at hp0; exact hp0)
set_option maxRecDepth 100000 in
set_option maxHeartbeats 1000000 in
theorem m_mayGo_n {l : Launch} {G : fr_G} {σ : fr_S} (hM : MR σ) {F : Nat → Nat → Nat} (hF : MF σ F) (hW : FW F) {m : Nat} (hm : m < 4) {Bg : Nat → Bool} (hB : ∀ j, j < 40 → gI σ 729 (40 * m + j) = b2i (Bg j)) {x : Int32} {bc : Bool} (hx : x < 0) : CT l G yy_Mo_mayGo rm_Mo_mayGo [.ref (717), .int (nI (m)), .int (x), .int (b2i (bc))] σ (some (.int (0))) (σ) := by
  intro Post hp0
  have hp := hp0
  show PX l G yy_Mo_mayGo rm_Mo_mayGo _ false 742 0 0 0 [(0, .ref (717)), (1, .int (nI (m))), (2, .int (x)), (3, .int (b2i (bc)))] [] σ
  refine px_iload_n dx_Mo_mayGo_0 rfl ?_
  refine px_if_lt dx_Mo_mayGo_1 (fun c_1 => ?_) (fun c_1 => ?_)
  · refine px_iconst (v := 0) dx_Mo_mayGo_14 rfl ?_
    exact px_zret dx_Mo_mayGo_15 rfl (by decide) (by exact hp)
  · exact absurd hx c_1
theorem m_mayGo {l : Launch} {G : fr_G} {σ : fr_S} (hM : MR σ) {F : Nat → Nat → Nat} (hF : MF σ F) (hW : FW F) {m : Nat} (hm : m < 4) {Bg : Nat → Bool} (hB : ∀ j, j < 40 → gI σ 729 (40 * m + j) = b2i (Bg j)) {x : Int32} {bc : Bool} (hx : x.toInt < 100000) : CT l G yy_Mo_mayGo rm_Mo_mayGo [.ref (717), .int (nI m), .int x, .int (b2i bc)] σ (some (.int (b2i (mgo F Bg m x bc)))) σ := by
  by_cases h : x < 0
  · have e : mgo F Bg m x bc = false := by unfold mgo; simp [h]
    rw [e]
    exact m_mayGo_n hM hF hW hm hB h
  · obtain ⟨j, hj, rfl⟩ := nI_of h
    rw [nI_toInt hj] at hx
    have e : mgo F Bg m (nI j) bc = mgN F Bg m j bc := by unfold mgo; rw [nI_clamp hj]; simp [h]
    rw [e]
    exact m_mayGo_p hM hF hW hm hB (by omega)
set_option maxRecDepth 100000 in
set_option maxHeartbeats 1000000 in
theorem m_kindGood_n {l : Launch} {G : fr_G} {σ : fr_S} (hM : MR σ) {F : Nat → Nat → Nat} (hF : MF σ F) (hW : FW F) {m p : Nat} (hm : m < 4) (hpl : p < 40) : CT l G yy_Mo_kindGood rm_Mo_kindGood [.ref (717), .int (nI (m)), .int (nI (p)), .int (-1)] σ (some (.int (b2i (kOK F m p none)))) (σ) := by
  intro Post hp0
  have hp := hp0
  show PX l G yy_Mo_kindGood rm_Mo_kindGood _ false 742 0 0 0 [(0, .ref (717)), (1, .int (nI (m))), (2, .int (nI (p))), (3, .int (-1))] [] σ
  have h4 := hW.1
  refine px_aload_n dx_Mo_kindGood_0 rfl ?_
  refine px_iload_n dx_Mo_kindGood_1 rfl ?_
  refine px_iload_n dx_Mo_kindGood_2 rfl ?_
  refine px_cV (Y := yy_Mo_kindGood) (Yc := yy_Mo_op) (b := 717) (As := [.int (nI (m)), .int (nI (p))]) dx_Mo_kindGood_3 ml_Mo_173 mv_Mo_op np_Mo_op ⟨_, rfl⟩ (by decide) rfl (by decide) rfl (Nat.le_of_ble_eq_true rfl) (Nat.le_of_ble_eq_true rfl) rk_Mo_kindGood_Mo_op rfl (m_op hM (by omega) (hF.2.2.2.2.2.2.2 (40 * m + p) (by omega)) (hW.2.2.2.2.2.2.2 _)) zz_0 ?_
  refine px_istore (lv' := [(4, .int (nI (opS (F 7 (40 * m + p))))), (0, .ref (717)), (1, .int (nI (m))), (2, .int (nI (p))), (3, .int (-1))]) dx_Mo_kindGood_6 (by decide) rfl ?_
  refine px_aload_n dx_Mo_kindGood_8 rfl ?_
  refine px_getR (r := 721) dx_Mo_kindGood_9 fl_Mo_23 rfl (by decide) rfl (hM 8) ?_
  refine px_iload_n dx_Mo_kindGood_12 rfl ?_
  refine px_ialdN (j := m) dx_Mo_kindGood_13 rfl (by decide) (by first | omega | (have := hW.1; omega)) ?_
  refine px_eqi (y := nI (F 2 m)) (hF.2.2.1 m (by omega)) ?_
  refine px_istore (lv' := [(5, .int (nI (F 2 m))), (4, .int (nI (opS (F 7 (40 * m + p))))), (0, .ref (717)), (1, .int (nI (m))), (2, .int (nI (p))), (3, .int (-1))]) dx_Mo_kindGood_14 (by decide) rfl ?_
  refine px_iload dx_Mo_kindGood_16 rfl ?_
  refine px_bipush (v := 14) dx_Mo_kindGood_18 rfl ?_
  refine px_icmp_ltN (a := opS (F 7 (40 * m + p))) (b := 14) dx_Mo_kindGood_20 (by first | omega | (have := opS_lt (F 7 (40 * m + p)); omega) | (have := opS_lt (F 7 (40 * m + q)); omega) | (have := hW.1; omega) | (have := hW.2.2.1 m; omega) | (have := hW.2.2.1 (F 7 (40 * m + (q + 1))); omega) | (have := wdt_le (F 2 m); omega) | (have := wdt_le (F 2 (F 7 (40 * m + (q + 1)))); omega)) (by first | omega | (have := opS_lt (F 7 (40 * m + p)); omega) | (have := opS_lt (F 7 (40 * m + q)); omega) | (have := hW.1; omega) | (have := hW.2.2.1 m; omega) | (have := hW.2.2.1 (F 7 (40 * m + (q + 1))); omega) | (have := wdt_le (F 2 m); omega) | (have := wdt_le (F 2 (F 7 (40 * m + (q + 1)))); omega)) (fun c_20 => ?_) (fun c_20 => ?_)
  · refine px_aload_n dx_Mo_kindGood_67 rfl ?_
    refine px_iload_n dx_Mo_kindGood_68 rfl ?_
    refine px_iload_n dx_Mo_kindGood_69 rfl ?_
    refine px_cV (Y := yy_Mo_kindGood) (Yc := yy_Mo_isResult) (b := 717) (As := [.int (nI (m)), .int (nI (p))]) dx_Mo_kindGood_70 ml_Mo_218 mv_Mo_isResult np_Mo_isResult ⟨_, rfl⟩ (by decide) rfl (by decide) rfl (Nat.le_of_ble_eq_true rfl) (Nat.le_of_ble_eq_true rfl) rk_Mo_kindGood_Mo_isResult rfl (m_isResult hM hF hW hm (by omega)) zz_0 ?_
    refine px_if_neB dx_Mo_kindGood_73 (fun c_73 => ?_) (fun c_73 => ?_)
    · refine px_iload_n dx_Mo_kindGood_78 rfl ?_
      refine px_if_lt dx_Mo_kindGood_79 (fun _ => ?_) (fun q => absurd (by decide) q)
      refine px_iconst (v := 0) dx_Mo_kindGood_93 rfl ?_
      exact px_zret dx_Mo_kindGood_94 rfl (by decide) (by (have hr : ¬ (14 ≤ opS (F 7 (40 * m + p)) ∧ opS (F 7 (40 * m + p)) ≤ 16) := by omega); (have e : kOK F m p none = false := by (simp only [kOK, if_neg hr]; simp_all <;> omega)); rw [e] at hp0; exact hp0)
    · refine px_iconst (v := 1) dx_Mo_kindGood_76 rfl ?_
      exact px_zret dx_Mo_kindGood_77 rfl (by decide) (by (have hr : ¬ (14 ≤ opS (F 7 (40 * m + p)) ∧ opS (F 7 (40 * m + p)) ≤ 16) := by omega); (have e : kOK F m p none = true := by (simp only [kOK, if_neg hr]; simp_all <;> omega)); rw [e] at hp0; exact hp0)
  · refine px_iload dx_Mo_kindGood_23 rfl ?_
    refine px_bipush (v := 16) dx_Mo_kindGood_25 rfl ?_
    refine px_icmp_gtN (a := opS (F 7 (40 * m + p))) (b := 16) dx_Mo_kindGood_27 (by first | omega | (have := opS_lt (F 7 (40 * m + p)); omega) | (have := opS_lt (F 7 (40 * m + q)); omega) | (have := hW.1; omega) | (have := hW.2.2.1 m; omega) | (have := hW.2.2.1 (F 7 (40 * m + (q + 1))); omega) | (have := wdt_le (F 2 m); omega) | (have := wdt_le (F 2 (F 7 (40 * m + (q + 1)))); omega)) (by first | omega | (have := opS_lt (F 7 (40 * m + p)); omega) | (have := opS_lt (F 7 (40 * m + q)); omega) | (have := hW.1; omega) | (have := hW.2.2.1 m; omega) | (have := hW.2.2.1 (F 7 (40 * m + (q + 1))); omega) | (have := wdt_le (F 2 m); omega) | (have := wdt_le (F 2 (F 7 (40 * m + (q + 1)))); omega)) (fun c_27 => ?_) (fun c_27 => ?_)
    · refine px_aload_n dx_Mo_kindGood_67 rfl ?_
      refine px_iload_n dx_Mo_kindGood_68 rfl ?_
      refine px_iload_n dx_Mo_kindGood_69 rfl ?_
      refine px_cV (Y := yy_Mo_kindGood) (Yc := yy_Mo_isResult) (b := 717) (As := [.int (nI (m)), .int (nI (p))]) dx_Mo_kindGood_70 ml_Mo_218 mv_Mo_isResult np_Mo_isResult ⟨_, rfl⟩ (by decide) rfl (by decide) rfl (Nat.le_of_ble_eq_true rfl) (Nat.le_of_ble_eq_true rfl) rk_Mo_kindGood_Mo_isResult rfl (m_isResult hM hF hW hm (by omega)) zz_0 ?_
      refine px_if_neB dx_Mo_kindGood_73 (fun c_73 => ?_) (fun c_73 => ?_)
      · refine px_iload_n dx_Mo_kindGood_78 rfl ?_
        refine px_if_lt dx_Mo_kindGood_79 (fun _ => ?_) (fun q => absurd (by decide) q)
        refine px_iconst (v := 0) dx_Mo_kindGood_93 rfl ?_
        exact px_zret dx_Mo_kindGood_94 rfl (by decide) (by (have hr : ¬ (14 ≤ opS (F 7 (40 * m + p)) ∧ opS (F 7 (40 * m + p)) ≤ 16) := by omega); (have e : kOK F m p none = false := by (simp only [kOK, if_neg hr]; simp_all <;> omega)); rw [e] at hp0; exact hp0)
      · refine px_iconst (v := 1) dx_Mo_kindGood_76 rfl ?_
        exact px_zret dx_Mo_kindGood_77 rfl (by decide) (by (have hr : ¬ (14 ≤ opS (F 7 (40 * m + p)) ∧ opS (F 7 (40 * m + p)) ≤ 16) := by omega); (have e : kOK F m p none = true := by (simp only [kOK, if_neg hr]; simp_all <;> omega)); rw [e] at hp0; exact hp0)
    · refine px_iload dx_Mo_kindGood_30 rfl ?_
      refine px_iload dx_Mo_kindGood_32 rfl ?_
      refine px_if_neN (a := F 2 m) dx_Mo_kindGood_34 (by first | omega | (have := opS_lt (F 7 (40 * m + p)); omega) | (have := opS_lt (F 7 (40 * m + q)); omega) | (have := hW.1; omega) | (have := hW.2.2.1 m; omega) | (have := hW.2.2.1 (F 7 (40 * m + (q + 1))); omega) | (have := wdt_le (F 2 m); omega) | (have := wdt_le (F 2 (F 7 (40 * m + (q + 1)))); omega)) (fun c_34 => ?_) (fun c_34 => ?_)
      · refine px_iload dx_Mo_kindGood_42 rfl ?_
        refine px_cS (Y := yy_Mo_kindGood) (Yc := yy_Mo_words) (As := [.int (nI (F 2 m))]) dx_Mo_kindGood_44 ml_Mo_99 ms_Mo_words np_Mo_words rfl (Nat.le_of_ble_eq_true rfl) (Nat.le_of_ble_eq_true rfl) rk_Mo_kindGood_Mo_words rfl (m_words (Nat.lt_of_le_of_lt (hW.2.2.1 _) (by decide))) zz_0 ?_
        refine px_iconst (v := 1) dx_Mo_kindGood_47 rfl ?_
        refine px_icmp_neN (a := wdt (F 2 m)) (b := 1) dx_Mo_kindGood_48 (by first | omega | (have := opS_lt (F 7 (40 * m + p)); omega) | (have := opS_lt (F 7 (40 * m + q)); omega) | (have := hW.1; omega) | (have := hW.2.2.1 m; omega) | (have := hW.2.2.1 (F 7 (40 * m + (q + 1))); omega) | (have := wdt_le (F 2 m); omega) | (have := wdt_le (F 2 (F 7 (40 * m + (q + 1)))); omega)) (by first | omega | (have := opS_lt (F 7 (40 * m + p)); omega) | (have := opS_lt (F 7 (40 * m + q)); omega) | (have := hW.1; omega) | (have := hW.2.2.1 m; omega) | (have := hW.2.2.1 (F 7 (40 * m + (q + 1))); omega) | (have := wdt_le (F 2 m); omega) | (have := wdt_le (F 2 (F 7 (40 * m + (q + 1)))); omega)) (fun c_48 => ?_) (fun c_48 => ?_)
        · refine px_bipush (v := 16) dx_Mo_kindGood_56 rfl ?_
          refine px_icmp_neN (a := opS (F 7 (40 * m + p))) (b := 16) dx_Mo_kindGood_58 (by first | omega | (have := opS_lt (F 7 (40 * m + p)); omega) | (have := opS_lt (F 7 (40 * m + q)); omega) | (have := hW.1; omega) | (have := hW.2.2.1 m; omega) | (have := hW.2.2.1 (F 7 (40 * m + (q + 1))); omega) | (have := wdt_le (F 2 m); omega) | (have := wdt_le (F 2 (F 7 (40 * m + (q + 1)))); omega)) (by first | omega | (have := opS_lt (F 7 (40 * m + p)); omega) | (have := opS_lt (F 7 (40 * m + q)); omega) | (have := hW.1; omega) | (have := hW.2.2.1 m; omega) | (have := hW.2.2.1 (F 7 (40 * m + (q + 1))); omega) | (have := wdt_le (F 2 m); omega) | (have := wdt_le (F 2 (F 7 (40 * m + (q + 1)))); omega)) (fun c_58 => ?_) (fun c_58 => ?_)
          · refine px_iconst (v := 0) dx_Mo_kindGood_65 rfl ?_
            exact px_zret dx_Mo_kindGood_66 rfl (by decide) (by (have e : kOK F m p none = false := by (simp only [kOK]; simp_all <;> omega)); rw [e] at hp0; exact hp0)
          · refine px_iconst (v := 1) dx_Mo_kindGood_61 rfl ?_
            refine px_goto dx_Mo_kindGood_62 ?_
            exact px_zret dx_Mo_kindGood_66 rfl (by decide) (by (have e : kOK F m p none = true := by (simp only [kOK]; simp_all <;> omega)); rw [e] at hp0; exact hp0)
        · refine px_bipush (v := 15) dx_Mo_kindGood_51 rfl ?_
          refine px_goto dx_Mo_kindGood_53 ?_
          refine px_icmp_neN (a := opS (F 7 (40 * m + p))) (b := 15) dx_Mo_kindGood_58 (by first | omega | (have := opS_lt (F 7 (40 * m + p)); omega) | (have := opS_lt (F 7 (40 * m + q)); omega) | (have := hW.1; omega) | (have := hW.2.2.1 m; omega) | (have := hW.2.2.1 (F 7 (40 * m + (q + 1))); omega) | (have := wdt_le (F 2 m); omega) | (have := wdt_le (F 2 (F 7 (40 * m + (q + 1)))); omega)) (by first | omega | (have := opS_lt (F 7 (40 * m + p)); omega) | (have := opS_lt (F 7 (40 * m + q)); omega) | (have := hW.1; omega) | (have := hW.2.2.1 m; omega) | (have := hW.2.2.1 (F 7 (40 * m + (q + 1))); omega) | (have := wdt_le (F 2 m); omega) | (have := wdt_le (F 2 (F 7 (40 * m + (q + 1)))); omega)) (fun c_58 => ?_) (fun c_58 => ?_)
          · refine px_iconst (v := 0) dx_Mo_kindGood_65 rfl ?_
            exact px_zret dx_Mo_kindGood_66 rfl (by decide) (by (have e : kOK F m p none = false := by (simp only [kOK]; simp_all <;> omega)); rw [e] at hp0; exact hp0)
          · refine px_iconst (v := 1) dx_Mo_kindGood_61 rfl ?_
            refine px_goto dx_Mo_kindGood_62 ?_
            exact px_zret dx_Mo_kindGood_66 rfl (by decide) (by (have e : kOK F m p none = true := by (simp only [kOK]; simp_all <;> omega)); rw [e] at hp0; exact hp0)
      · refine px_bipush (v := 14) dx_Mo_kindGood_37 rfl ?_
        refine px_goto dx_Mo_kindGood_39 ?_
        refine px_icmp_neN (a := opS (F 7 (40 * m + p))) (b := 14) dx_Mo_kindGood_58 (by first | omega | (have := opS_lt (F 7 (40 * m + p)); omega) | (have := opS_lt (F 7 (40 * m + q)); omega) | (have := hW.1; omega) | (have := hW.2.2.1 m; omega) | (have := hW.2.2.1 (F 7 (40 * m + (q + 1))); omega) | (have := wdt_le (F 2 m); omega) | (have := wdt_le (F 2 (F 7 (40 * m + (q + 1)))); omega)) (by first | omega | (have := opS_lt (F 7 (40 * m + p)); omega) | (have := opS_lt (F 7 (40 * m + q)); omega) | (have := hW.1; omega) | (have := hW.2.2.1 m; omega) | (have := hW.2.2.1 (F 7 (40 * m + (q + 1))); omega) | (have := wdt_le (F 2 m); omega) | (have := wdt_le (F 2 (F 7 (40 * m + (q + 1)))); omega)) (fun c_58 => ?_) (fun c_58 => ?_)
        · refine px_iconst (v := 0) dx_Mo_kindGood_65 rfl ?_
          exact px_zret dx_Mo_kindGood_66 rfl (by decide) (by (have e : kOK F m p none = false := by (simp only [kOK]; simp_all <;> omega)); rw [e] at hp0; exact hp0)
        · refine px_iconst (v := 1) dx_Mo_kindGood_61 rfl ?_
          refine px_goto dx_Mo_kindGood_62 ?_
          exact px_zret dx_Mo_kindGood_66 rfl (by decide) (by (have e : kOK F m p none = true := by (simp only [kOK]; simp_all <;> omega)); rw [e] at hp0; exact hp0)
set_option maxRecDepth 100000 in
set_option maxHeartbeats 1000000 in
theorem m_kindGood_p {l : Launch} {G : fr_G} {σ : fr_S} (hM : MR σ) {F : Nat → Nat → Nat} (hF : MF σ F) (hW : FW F) {m p : Nat} (hm : m < 4) (hpl : p < 40) {q : Nat} (hq : q < 40) : CT l G yy_Mo_kindGood rm_Mo_kindGood [.ref (717), .int (nI (m)), .int (nI (p)), .int (nI (q))] σ (some (.int (b2i (kOK F m p (some q))))) (σ) := by
  intro Post hp0
  have hp := hp0
  show PX l G yy_Mo_kindGood rm_Mo_kindGood _ false 742 0 0 0 [(0, .ref (717)), (1, .int (nI (m))), (2, .int (nI (p))), (3, .int (nI (q)))] [] σ
  have h4 := hW.1
  refine px_aload_n dx_Mo_kindGood_0 rfl ?_
  refine px_iload_n dx_Mo_kindGood_1 rfl ?_
  refine px_iload_n dx_Mo_kindGood_2 rfl ?_
  refine px_cV (Y := yy_Mo_kindGood) (Yc := yy_Mo_op) (b := 717) (As := [.int (nI (m)), .int (nI (p))]) dx_Mo_kindGood_3 ml_Mo_173 mv_Mo_op np_Mo_op ⟨_, rfl⟩ (by decide) rfl (by decide) rfl (Nat.le_of_ble_eq_true rfl) (Nat.le_of_ble_eq_true rfl) rk_Mo_kindGood_Mo_op rfl (m_op hM (by omega) (hF.2.2.2.2.2.2.2 (40 * m + p) (by omega)) (hW.2.2.2.2.2.2.2 _)) zz_0 ?_
  refine px_istore (lv' := [(4, .int (nI (opS (F 7 (40 * m + p))))), (0, .ref (717)), (1, .int (nI (m))), (2, .int (nI (p))), (3, .int (nI (q)))]) dx_Mo_kindGood_6 (by decide) rfl ?_
  refine px_aload_n dx_Mo_kindGood_8 rfl ?_
  refine px_getR (r := 721) dx_Mo_kindGood_9 fl_Mo_23 rfl (by decide) rfl (hM 8) ?_
  refine px_iload_n dx_Mo_kindGood_12 rfl ?_
  refine px_ialdN (j := m) dx_Mo_kindGood_13 rfl (by decide) (by first | omega | (have := hW.1; omega)) ?_
  refine px_eqi (y := nI (F 2 m)) (hF.2.2.1 m (by omega)) ?_
  refine px_istore (lv' := [(5, .int (nI (F 2 m))), (4, .int (nI (opS (F 7 (40 * m + p))))), (0, .ref (717)), (1, .int (nI (m))), (2, .int (nI (p))), (3, .int (nI (q)))]) dx_Mo_kindGood_14 (by decide) rfl ?_
  refine px_iload dx_Mo_kindGood_16 rfl ?_
  refine px_bipush (v := 14) dx_Mo_kindGood_18 rfl ?_
  refine px_icmp_ltN (a := opS (F 7 (40 * m + p))) (b := 14) dx_Mo_kindGood_20 (by first | omega | (have := opS_lt (F 7 (40 * m + p)); omega) | (have := opS_lt (F 7 (40 * m + q)); omega) | (have := hW.1; omega) | (have := hW.2.2.1 m; omega) | (have := hW.2.2.1 (F 7 (40 * m + (q + 1))); omega) | (have := wdt_le (F 2 m); omega) | (have := wdt_le (F 2 (F 7 (40 * m + (q + 1)))); omega)) (by first | omega | (have := opS_lt (F 7 (40 * m + p)); omega) | (have := opS_lt (F 7 (40 * m + q)); omega) | (have := hW.1; omega) | (have := hW.2.2.1 m; omega) | (have := hW.2.2.1 (F 7 (40 * m + (q + 1))); omega) | (have := wdt_le (F 2 m); omega) | (have := wdt_le (F 2 (F 7 (40 * m + (q + 1)))); omega)) (fun c_20 => ?_) (fun c_20 => ?_)
  · refine px_aload_n dx_Mo_kindGood_67 rfl ?_
    refine px_iload_n dx_Mo_kindGood_68 rfl ?_
    refine px_iload_n dx_Mo_kindGood_69 rfl ?_
    refine px_cV (Y := yy_Mo_kindGood) (Yc := yy_Mo_isResult) (b := 717) (As := [.int (nI (m)), .int (nI (p))]) dx_Mo_kindGood_70 ml_Mo_218 mv_Mo_isResult np_Mo_isResult ⟨_, rfl⟩ (by decide) rfl (by decide) rfl (Nat.le_of_ble_eq_true rfl) (Nat.le_of_ble_eq_true rfl) rk_Mo_kindGood_Mo_isResult rfl (m_isResult hM hF hW hm (by omega)) zz_0 ?_
    refine px_if_neB dx_Mo_kindGood_73 (fun c_73 => ?_) (fun c_73 => ?_)
    · refine px_iload_n dx_Mo_kindGood_78 rfl ?_
      refine px_if_ltN (a := q) dx_Mo_kindGood_79 (by first | omega | (have := opS_lt (F 7 (40 * m + p)); omega) | (have := opS_lt (F 7 (40 * m + q)); omega) | (have := hW.1; omega) | (have := hW.2.2.1 m; omega) | (have := hW.2.2.1 (F 7 (40 * m + (q + 1))); omega) | (have := wdt_le (F 2 m); omega) | (have := wdt_le (F 2 (F 7 (40 * m + (q + 1)))); omega)) (fun c_79 => ?_) (fun c_79 => ?_)
      · refine px_iconst (v := 0) dx_Mo_kindGood_93 rfl ?_
        exact px_zret dx_Mo_kindGood_94 rfl (by decide) (by (have hr : ¬ (14 ≤ opS (F 7 (40 * m + p)) ∧ opS (F 7 (40 * m + p)) ≤ 16) := by omega); (have e : kOK F m p (some q) = false := by (simp only [kOK, if_neg hr]; simp_all <;> omega)); rw [e] at hp0; exact hp0)
      · refine px_aload_n dx_Mo_kindGood_82 rfl ?_
        refine px_iload_n dx_Mo_kindGood_83 rfl ?_
        refine px_iload_n dx_Mo_kindGood_84 rfl ?_
        refine px_cV (Y := yy_Mo_kindGood) (Yc := yy_Mo_op) (b := 717) (As := [.int (nI (m)), .int (nI (q))]) dx_Mo_kindGood_85 ml_Mo_173 mv_Mo_op np_Mo_op ⟨_, rfl⟩ (by decide) rfl (by decide) rfl (Nat.le_of_ble_eq_true rfl) (Nat.le_of_ble_eq_true rfl) rk_Mo_kindGood_Mo_op rfl (m_op hM (by omega) (hF.2.2.2.2.2.2.2 (40 * m + q) (by omega)) (hW.2.2.2.2.2.2.2 _)) zz_0 ?_
        refine px_bipush (v := 113) dx_Mo_kindGood_88 rfl ?_
        refine px_icmp_eqN (a := opS (F 7 (40 * m + q))) (b := 113) dx_Mo_kindGood_90 (by first | omega | (have := opS_lt (F 7 (40 * m + p)); omega) | (have := opS_lt (F 7 (40 * m + q)); omega) | (have := hW.1; omega) | (have := hW.2.2.1 m; omega) | (have := hW.2.2.1 (F 7 (40 * m + (q + 1))); omega) | (have := wdt_le (F 2 m); omega) | (have := wdt_le (F 2 (F 7 (40 * m + (q + 1)))); omega)) (by first | omega | (have := opS_lt (F 7 (40 * m + p)); omega) | (have := opS_lt (F 7 (40 * m + q)); omega) | (have := hW.1; omega) | (have := hW.2.2.1 m; omega) | (have := hW.2.2.1 (F 7 (40 * m + (q + 1))); omega) | (have := wdt_le (F 2 m); omega) | (have := wdt_le (F 2 (F 7 (40 * m + (q + 1)))); omega)) (fun c_90 => ?_) (fun c_90 => ?_)
        · refine px_aload_n dx_Mo_kindGood_95 rfl ?_
          refine px_iload_n dx_Mo_kindGood_96 rfl ?_
          refine px_iload_n dx_Mo_kindGood_97 rfl ?_
          by_cases hn : F 7 (40 * m + (q + 1)) ≤ 32767
          · refine px_cV (Y := yy_Mo_kindGood) (Yc := yy_Mo_number) (b := 717) (As := [.int (nI (m)), .int (nI (q))]) dx_Mo_kindGood_98 ml_Mo_176 mv_Mo_number np_Mo_number ⟨_, rfl⟩ (by decide) rfl (by decide) rfl (Nat.le_of_ble_eq_true rfl) (Nat.le_of_ble_eq_true rfl) rk_Mo_kindGood_Mo_number rfl (m_number_p hM (by omega) (hF.2.2.2.2.2.2.2 (40 * m + (q + 1)) (by omega)) (hW.2.2.2.2.2.2.2 _) hn) zz_0 ?_
            refine px_istore (lv' := [(6, .int (nI (F 7 (40 * m + (q + 1))))), (5, .int (nI (F 2 m))), (4, .int (nI (opS (F 7 (40 * m + p))))), (0, .ref (717)), (1, .int (nI (m))), (2, .int (nI (p))), (3, .int (nI (q)))]) dx_Mo_kindGood_101 (by decide) rfl ?_
            refine px_iload dx_Mo_kindGood_103 rfl ?_
            refine px_if_ltN (a := F 7 (40 * m + (q + 1))) dx_Mo_kindGood_105 (by first | omega | (have := opS_lt (F 7 (40 * m + p)); omega) | (have := opS_lt (F 7 (40 * m + q)); omega) | (have := hW.1; omega) | (have := hW.2.2.1 m; omega) | (have := hW.2.2.1 (F 7 (40 * m + (q + 1))); omega) | (have := wdt_le (F 2 m); omega) | (have := wdt_le (F 2 (F 7 (40 * m + (q + 1)))); omega)) (fun c_105 => ?_) (fun c_105 => ?_)
            · refine px_iconst (v := 0) dx_Mo_kindGood_119 rfl ?_
              exact px_zret dx_Mo_kindGood_120 rfl (by decide) (by (have hx : ¬ F 7 (40 * m + (q + 1)) < F 0 0 := by omega); (have hr : ¬ (14 ≤ opS (F 7 (40 * m + p)) ∧ opS (F 7 (40 * m + p)) ≤ 16) := by omega); (have e : kOK F m p (some q) = false := by (simp only [kOK, if_neg hr]; simp_all <;> omega)); rw [e] at hp0; exact hp0)
            · refine px_iload dx_Mo_kindGood_108 rfl ?_
              refine px_aload_n dx_Mo_kindGood_110 rfl ?_
              refine px_getR (r := 719) dx_Mo_kindGood_111 fl_Mo_17 rfl (by decide) rfl (hM 6) ?_
              refine px_iconst (v := 0) dx_Mo_kindGood_114 rfl ?_
              refine px_ialdN (j := 0) dx_Mo_kindGood_115 rfl (by decide) (by decide) ?_
              refine px_eqi (y := nI (F 0 0)) hF.1 ?_
              refine px_icmp_ltN (a := F 7 (40 * m + (q + 1))) (b := F 0 0) dx_Mo_kindGood_116 (by first | omega | (have := opS_lt (F 7 (40 * m + p)); omega) | (have := opS_lt (F 7 (40 * m + q)); omega) | (have := hW.1; omega) | (have := hW.2.2.1 m; omega) | (have := hW.2.2.1 (F 7 (40 * m + (q + 1))); omega) | (have := wdt_le (F 2 m); omega) | (have := wdt_le (F 2 (F 7 (40 * m + (q + 1)))); omega)) (by first | omega | (have := opS_lt (F 7 (40 * m + p)); omega) | (have := opS_lt (F 7 (40 * m + q)); omega) | (have := hW.1; omega) | (have := hW.2.2.1 m; omega) | (have := hW.2.2.1 (F 7 (40 * m + (q + 1))); omega) | (have := wdt_le (F 2 m); omega) | (have := wdt_le (F 2 (F 7 (40 * m + (q + 1)))); omega)) (fun c_116 => ?_) (fun c_116 => ?_)
              · refine px_aload_n dx_Mo_kindGood_121 rfl ?_
                refine px_getR (r := 721) dx_Mo_kindGood_122 fl_Mo_23 rfl (by decide) rfl (hM 8) ?_
                refine px_iload dx_Mo_kindGood_125 rfl ?_
                refine px_ialdN (j := F 7 (40 * m + (q + 1))) dx_Mo_kindGood_127 rfl (by decide) (by first | omega | (have := hW.1; omega)) ?_
                refine px_eqi (y := nI (F 2 (F 7 (40 * m + (q + 1))))) (hF.2.2.1 (F 7 (40 * m + (q + 1))) (by omega)) ?_
                refine px_istore (lv' := [(7, .int (nI (F 2 (F 7 (40 * m + (q + 1)))))), (6, .int (nI (F 7 (40 * m + (q + 1))))), (5, .int (nI (F 2 m))), (4, .int (nI (opS (F 7 (40 * m + p))))), (0, .ref (717)), (1, .int (nI (m))), (2, .int (nI (p))), (3, .int (nI (q)))]) dx_Mo_kindGood_128 (by decide) rfl ?_
                refine px_iload dx_Mo_kindGood_130 rfl ?_
                refine px_if_eqN (a := F 2 (F 7 (40 * m + (q + 1)))) dx_Mo_kindGood_132 (by first | omega | (have := opS_lt (F 7 (40 * m + p)); omega) | (have := opS_lt (F 7 (40 * m + q)); omega) | (have := hW.1; omega) | (have := hW.2.2.1 m; omega) | (have := hW.2.2.1 (F 7 (40 * m + (q + 1))); omega) | (have := wdt_le (F 2 m); omega) | (have := wdt_le (F 2 (F 7 (40 * m + (q + 1)))); omega)) (fun c_132 => ?_) (fun c_132 => ?_)
                · refine px_iconst (v := 0) dx_Mo_kindGood_160 rfl ?_
                  exact px_zret dx_Mo_kindGood_161 rfl (by decide) (by (have hr : ¬ (14 ≤ opS (F 7 (40 * m + p)) ∧ opS (F 7 (40 * m + p)) ≤ 16) := by omega); (have e : kOK F m p (some q) = false := by (simp only [kOK, if_neg hr]; simp_all <;> omega)); rw [e] at hp0; exact hp0)
                · refine px_iload dx_Mo_kindGood_135 rfl ?_
                  refine px_iload dx_Mo_kindGood_137 rfl ?_
                  refine px_cS (Y := yy_Mo_kindGood) (Yc := yy_Mo_words) (As := [.int (nI (F 2 (F 7 (40 * m + (q + 1)))))]) dx_Mo_kindGood_139 ml_Mo_99 ms_Mo_words np_Mo_words rfl (Nat.le_of_ble_eq_true rfl) (Nat.le_of_ble_eq_true rfl) rk_Mo_kindGood_Mo_words rfl (m_words (Nat.lt_of_le_of_lt (hW.2.2.1 _) (by decide))) zz_0 ?_
                  refine px_iconst (v := 1) dx_Mo_kindGood_142 rfl ?_
                  refine px_icmp_neN (a := wdt (F 2 (F 7 (40 * m + (q + 1))))) (b := 1) dx_Mo_kindGood_143 (by first | omega | (have := opS_lt (F 7 (40 * m + p)); omega) | (have := opS_lt (F 7 (40 * m + q)); omega) | (have := hW.1; omega) | (have := hW.2.2.1 m; omega) | (have := hW.2.2.1 (F 7 (40 * m + (q + 1))); omega) | (have := wdt_le (F 2 m); omega) | (have := wdt_le (F 2 (F 7 (40 * m + (q + 1)))); omega)) (by first | omega | (have := opS_lt (F 7 (40 * m + p)); omega) | (have := opS_lt (F 7 (40 * m + q)); omega) | (have := hW.1; omega) | (have := hW.2.2.1 m; omega) | (have := hW.2.2.1 (F 7 (40 * m + (q + 1))); omega) | (have := wdt_le (F 2 m); omega) | (have := wdt_le (F 2 (F 7 (40 * m + (q + 1)))); omega)) (fun c_143 => ?_) (fun c_143 => ?_)
                  · refine px_bipush (v := 11) dx_Mo_kindGood_151 rfl ?_
                    refine px_icmp_neN (a := opS (F 7 (40 * m + p))) (b := 11) dx_Mo_kindGood_153 (by first | omega | (have := opS_lt (F 7 (40 * m + p)); omega) | (have := opS_lt (F 7 (40 * m + q)); omega) | (have := hW.1; omega) | (have := hW.2.2.1 m; omega) | (have := hW.2.2.1 (F 7 (40 * m + (q + 1))); omega) | (have := wdt_le (F 2 m); omega) | (have := wdt_le (F 2 (F 7 (40 * m + (q + 1)))); omega)) (by first | omega | (have := opS_lt (F 7 (40 * m + p)); omega) | (have := opS_lt (F 7 (40 * m + q)); omega) | (have := hW.1; omega) | (have := hW.2.2.1 m; omega) | (have := hW.2.2.1 (F 7 (40 * m + (q + 1))); omega) | (have := wdt_le (F 2 m); omega) | (have := wdt_le (F 2 (F 7 (40 * m + (q + 1)))); omega)) (fun c_153 => ?_) (fun c_153 => ?_)
                    · refine px_iconst (v := 0) dx_Mo_kindGood_160 rfl ?_
                      exact px_zret dx_Mo_kindGood_161 rfl (by decide) (by (have hr : ¬ (14 ≤ opS (F 7 (40 * m + p)) ∧ opS (F 7 (40 * m + p)) ≤ 16) := by omega); (have e : kOK F m p (some q) = false := by (simp only [kOK, if_neg hr]; simp_all <;> omega)); rw [e] at hp0; exact hp0)
                    · refine px_iconst (v := 1) dx_Mo_kindGood_156 rfl ?_
                      refine px_goto dx_Mo_kindGood_157 ?_
                      exact px_zret dx_Mo_kindGood_161 rfl (by decide) (by (have hr : ¬ (14 ≤ opS (F 7 (40 * m + p)) ∧ opS (F 7 (40 * m + p)) ≤ 16) := by omega); (have e : kOK F m p (some q) = true := by (simp only [kOK, if_neg hr]; simp_all <;> omega)); rw [e] at hp0; exact hp0)
                  · refine px_bipush (v := 10) dx_Mo_kindGood_146 rfl ?_
                    refine px_goto dx_Mo_kindGood_148 ?_
                    refine px_icmp_neN (a := opS (F 7 (40 * m + p))) (b := 10) dx_Mo_kindGood_153 (by first | omega | (have := opS_lt (F 7 (40 * m + p)); omega) | (have := opS_lt (F 7 (40 * m + q)); omega) | (have := hW.1; omega) | (have := hW.2.2.1 m; omega) | (have := hW.2.2.1 (F 7 (40 * m + (q + 1))); omega) | (have := wdt_le (F 2 m); omega) | (have := wdt_le (F 2 (F 7 (40 * m + (q + 1)))); omega)) (by first | omega | (have := opS_lt (F 7 (40 * m + p)); omega) | (have := opS_lt (F 7 (40 * m + q)); omega) | (have := hW.1; omega) | (have := hW.2.2.1 m; omega) | (have := hW.2.2.1 (F 7 (40 * m + (q + 1))); omega) | (have := wdt_le (F 2 m); omega) | (have := wdt_le (F 2 (F 7 (40 * m + (q + 1)))); omega)) (fun c_153 => ?_) (fun c_153 => ?_)
                    · refine px_iconst (v := 0) dx_Mo_kindGood_160 rfl ?_
                      exact px_zret dx_Mo_kindGood_161 rfl (by decide) (by (have hr : ¬ (14 ≤ opS (F 7 (40 * m + p)) ∧ opS (F 7 (40 * m + p)) ≤ 16) := by omega); (have e : kOK F m p (some q) = false := by (simp only [kOK, if_neg hr]; simp_all <;> omega)); rw [e] at hp0; exact hp0)
                    · refine px_iconst (v := 1) dx_Mo_kindGood_156 rfl ?_
                      refine px_goto dx_Mo_kindGood_157 ?_
                      exact px_zret dx_Mo_kindGood_161 rfl (by decide) (by (have hr : ¬ (14 ≤ opS (F 7 (40 * m + p)) ∧ opS (F 7 (40 * m + p)) ≤ 16) := by omega); (have e : kOK F m p (some q) = true := by (simp only [kOK, if_neg hr]; simp_all <;> omega)); rw [e] at hp0; exact hp0)
              · refine px_iconst (v := 0) dx_Mo_kindGood_119 rfl ?_
                exact px_zret dx_Mo_kindGood_120 rfl (by decide) (by (have hx : ¬ F 7 (40 * m + (q + 1)) < F 0 0 := by omega); (have hr : ¬ (14 ≤ opS (F 7 (40 * m + p)) ∧ opS (F 7 (40 * m + p)) ≤ 16) := by omega); (have e : kOK F m p (some q) = false := by (simp only [kOK, if_neg hr]; simp_all <;> omega)); rw [e] at hp0; exact hp0)
          · refine px_cV (Y := yy_Mo_kindGood) (Yc := yy_Mo_number) (b := 717) (As := [.int (nI (m)), .int (nI (q))]) dx_Mo_kindGood_98 ml_Mo_176 mv_Mo_number np_Mo_number ⟨_, rfl⟩ (by decide) rfl (by decide) rfl (Nat.le_of_ble_eq_true rfl) (Nat.le_of_ble_eq_true rfl) rk_Mo_kindGood_Mo_number rfl (m_number hM (by omega) (hF.2.2.2.2.2.2.2 (40 * m + (q + 1)) (by omega)) (hW.2.2.2.2.2.2.2 _)) zz_0 ?_
            refine px_istore (lv' := [(6, .int (nmI (F 7 (40 * m + (q + 1))))), (5, .int (nI (F 2 m))), (4, .int (nI (opS (F 7 (40 * m + p))))), (0, .ref (717)), (1, .int (nI (m))), (2, .int (nI (p))), (3, .int (nI (q)))]) dx_Mo_kindGood_101 (by decide) rfl ?_
            refine px_iload dx_Mo_kindGood_103 rfl ?_
            refine px_if_lt dx_Mo_kindGood_105 (fun c_105 => ?_) (fun c_105 => ?_)
            · refine px_iconst (v := 0) dx_Mo_kindGood_119 rfl ?_
              exact px_zret dx_Mo_kindGood_120 rfl (by decide) (by (have hx : ¬ F 7 (40 * m + (q + 1)) < F 0 0 := by omega); (have hr : ¬ (14 ≤ opS (F 7 (40 * m + p)) ∧ opS (F 7 (40 * m + p)) ≤ 16) := by omega); (have e : kOK F m p (some q) = false := by (simp only [kOK, if_neg hr]; simp_all <;> omega)); rw [e] at hp0; exact hp0)
            · exact absurd (nmI_n hn (hW.2.2.2.2.2.2.2 _)) c_105
        · refine px_iconst (v := 0) dx_Mo_kindGood_93 rfl ?_
          exact px_zret dx_Mo_kindGood_94 rfl (by decide) (by (have hr : ¬ (14 ≤ opS (F 7 (40 * m + p)) ∧ opS (F 7 (40 * m + p)) ≤ 16) := by omega); (have e : kOK F m p (some q) = false := by (simp only [kOK, if_neg hr]; simp_all <;> omega)); rw [e] at hp0; exact hp0)
    · refine px_iconst (v := 1) dx_Mo_kindGood_76 rfl ?_
      exact px_zret dx_Mo_kindGood_77 rfl (by decide) (by (have hr : ¬ (14 ≤ opS (F 7 (40 * m + p)) ∧ opS (F 7 (40 * m + p)) ≤ 16) := by omega); (have e : kOK F m p (some q) = true := by (simp only [kOK, if_neg hr]; simp_all <;> omega)); rw [e] at hp0; exact hp0)
  · refine px_iload dx_Mo_kindGood_23 rfl ?_
    refine px_bipush (v := 16) dx_Mo_kindGood_25 rfl ?_
    refine px_icmp_gtN (a := opS (F 7 (40 * m + p))) (b := 16) dx_Mo_kindGood_27 (by first | omega | (have := opS_lt (F 7 (40 * m + p)); omega) | (have := opS_lt (F 7 (40 * m + q)); omega) | (have := hW.1; omega) | (have := hW.2.2.1 m; omega) | (have := hW.2.2.1 (F 7 (40 * m + (q + 1))); omega) | (have := wdt_le (F 2 m); omega) | (have := wdt_le (F 2 (F 7 (40 * m + (q + 1)))); omega)) (by first | omega | (have := opS_lt (F 7 (40 * m + p)); omega) | (have := opS_lt (F 7 (40 * m + q)); omega) | (have := hW.1; omega) | (have := hW.2.2.1 m; omega) | (have := hW.2.2.1 (F 7 (40 * m + (q + 1))); omega) | (have := wdt_le (F 2 m); omega) | (have := wdt_le (F 2 (F 7 (40 * m + (q + 1)))); omega)) (fun c_27 => ?_) (fun c_27 => ?_)
    · refine px_aload_n dx_Mo_kindGood_67 rfl ?_
      refine px_iload_n dx_Mo_kindGood_68 rfl ?_
      refine px_iload_n dx_Mo_kindGood_69 rfl ?_
      refine px_cV (Y := yy_Mo_kindGood) (Yc := yy_Mo_isResult) (b := 717) (As := [.int (nI (m)), .int (nI (p))]) dx_Mo_kindGood_70 ml_Mo_218 mv_Mo_isResult np_Mo_isResult ⟨_, rfl⟩ (by decide) rfl (by decide) rfl (Nat.le_of_ble_eq_true rfl) (Nat.le_of_ble_eq_true rfl) rk_Mo_kindGood_Mo_isResult rfl (m_isResult hM hF hW hm (by omega)) zz_0 ?_
      refine px_if_neB dx_Mo_kindGood_73 (fun c_73 => ?_) (fun c_73 => ?_)
      · refine px_iload_n dx_Mo_kindGood_78 rfl ?_
        refine px_if_ltN (a := q) dx_Mo_kindGood_79 (by first | omega | (have := opS_lt (F 7 (40 * m + p)); omega) | (have := opS_lt (F 7 (40 * m + q)); omega) | (have := hW.1; omega) | (have := hW.2.2.1 m; omega) | (have := hW.2.2.1 (F 7 (40 * m + (q + 1))); omega) | (have := wdt_le (F 2 m); omega) | (have := wdt_le (F 2 (F 7 (40 * m + (q + 1)))); omega)) (fun c_79 => ?_) (fun c_79 => ?_)
        · refine px_iconst (v := 0) dx_Mo_kindGood_93 rfl ?_
          exact px_zret dx_Mo_kindGood_94 rfl (by decide) (by (have hr : ¬ (14 ≤ opS (F 7 (40 * m + p)) ∧ opS (F 7 (40 * m + p)) ≤ 16) := by omega); (have e : kOK F m p (some q) = false := by (simp only [kOK, if_neg hr]; simp_all <;> omega)); rw [e] at hp0; exact hp0)
        · refine px_aload_n dx_Mo_kindGood_82 rfl ?_
          refine px_iload_n dx_Mo_kindGood_83 rfl ?_
          refine px_iload_n dx_Mo_kindGood_84 rfl ?_
          refine px_cV (Y := yy_Mo_kindGood) (Yc := yy_Mo_op) (b := 717) (As := [.int (nI (m)), .int (nI (q))]) dx_Mo_kindGood_85 ml_Mo_173 mv_Mo_op np_Mo_op ⟨_, rfl⟩ (by decide) rfl (by decide) rfl (Nat.le_of_ble_eq_true rfl) (Nat.le_of_ble_eq_true rfl) rk_Mo_kindGood_Mo_op rfl (m_op hM (by omega) (hF.2.2.2.2.2.2.2 (40 * m + q) (by omega)) (hW.2.2.2.2.2.2.2 _)) zz_0 ?_
          refine px_bipush (v := 113) dx_Mo_kindGood_88 rfl ?_
          refine px_icmp_eqN (a := opS (F 7 (40 * m + q))) (b := 113) dx_Mo_kindGood_90 (by first | omega | (have := opS_lt (F 7 (40 * m + p)); omega) | (have := opS_lt (F 7 (40 * m + q)); omega) | (have := hW.1; omega) | (have := hW.2.2.1 m; omega) | (have := hW.2.2.1 (F 7 (40 * m + (q + 1))); omega) | (have := wdt_le (F 2 m); omega) | (have := wdt_le (F 2 (F 7 (40 * m + (q + 1)))); omega)) (by first | omega | (have := opS_lt (F 7 (40 * m + p)); omega) | (have := opS_lt (F 7 (40 * m + q)); omega) | (have := hW.1; omega) | (have := hW.2.2.1 m; omega) | (have := hW.2.2.1 (F 7 (40 * m + (q + 1))); omega) | (have := wdt_le (F 2 m); omega) | (have := wdt_le (F 2 (F 7 (40 * m + (q + 1)))); omega)) (fun c_90 => ?_) (fun c_90 => ?_)
          · refine px_aload_n dx_Mo_kindGood_95 rfl ?_
            refine px_iload_n dx_Mo_kindGood_96 rfl ?_
            refine px_iload_n dx_Mo_kindGood_97 rfl ?_
            by_cases hn : F 7 (40 * m + (q + 1)) ≤ 32767
            · refine px_cV (Y := yy_Mo_kindGood) (Yc := yy_Mo_number) (b := 717) (As := [.int (nI (m)), .int (nI (q))]) dx_Mo_kindGood_98 ml_Mo_176 mv_Mo_number np_Mo_number ⟨_, rfl⟩ (by decide) rfl (by decide) rfl (Nat.le_of_ble_eq_true rfl) (Nat.le_of_ble_eq_true rfl) rk_Mo_kindGood_Mo_number rfl (m_number_p hM (by omega) (hF.2.2.2.2.2.2.2 (40 * m + (q + 1)) (by omega)) (hW.2.2.2.2.2.2.2 _) hn) zz_0 ?_
              refine px_istore (lv' := [(6, .int (nI (F 7 (40 * m + (q + 1))))), (5, .int (nI (F 2 m))), (4, .int (nI (opS (F 7 (40 * m + p))))), (0, .ref (717)), (1, .int (nI (m))), (2, .int (nI (p))), (3, .int (nI (q)))]) dx_Mo_kindGood_101 (by decide) rfl ?_
              refine px_iload dx_Mo_kindGood_103 rfl ?_
              refine px_if_ltN (a := F 7 (40 * m + (q + 1))) dx_Mo_kindGood_105 (by first | omega | (have := opS_lt (F 7 (40 * m + p)); omega) | (have := opS_lt (F 7 (40 * m + q)); omega) | (have := hW.1; omega) | (have := hW.2.2.1 m; omega) | (have := hW.2.2.1 (F 7 (40 * m + (q + 1))); omega) | (have := wdt_le (F 2 m); omega) | (have := wdt_le (F 2 (F 7 (40 * m + (q + 1)))); omega)) (fun c_105 => ?_) (fun c_105 => ?_)
              · refine px_iconst (v := 0) dx_Mo_kindGood_119 rfl ?_
                exact px_zret dx_Mo_kindGood_120 rfl (by decide) (by (have hx : ¬ F 7 (40 * m + (q + 1)) < F 0 0 := by omega); (have hr : ¬ (14 ≤ opS (F 7 (40 * m + p)) ∧ opS (F 7 (40 * m + p)) ≤ 16) := by omega); (have e : kOK F m p (some q) = false := by (simp only [kOK, if_neg hr]; simp_all <;> omega)); rw [e] at hp0; exact hp0)
              · refine px_iload dx_Mo_kindGood_108 rfl ?_
                refine px_aload_n dx_Mo_kindGood_110 rfl ?_
                refine px_getR (r := 719) dx_Mo_kindGood_111 fl_Mo_17 rfl (by decide) rfl (hM 6) ?_
                refine px_iconst (v := 0) dx_Mo_kindGood_114 rfl ?_
                refine px_ialdN (j := 0) dx_Mo_kindGood_115 rfl (by decide) (by decide) ?_
                refine px_eqi (y := nI (F 0 0)) hF.1 ?_
                refine px_icmp_ltN (a := F 7 (40 * m + (q + 1))) (b := F 0 0) dx_Mo_kindGood_116 (by first | omega | (have := opS_lt (F 7 (40 * m + p)); omega) | (have := opS_lt (F 7 (40 * m + q)); omega) | (have := hW.1; omega) | (have := hW.2.2.1 m; omega) | (have := hW.2.2.1 (F 7 (40 * m + (q + 1))); omega) | (have := wdt_le (F 2 m); omega) | (have := wdt_le (F 2 (F 7 (40 * m + (q + 1)))); omega)) (by first | omega | (have := opS_lt (F 7 (40 * m + p)); omega) | (have := opS_lt (F 7 (40 * m + q)); omega) | (have := hW.1; omega) | (have := hW.2.2.1 m; omega) | (have := hW.2.2.1 (F 7 (40 * m + (q + 1))); omega) | (have := wdt_le (F 2 m); omega) | (have := wdt_le (F 2 (F 7 (40 * m + (q + 1)))); omega)) (fun c_116 => ?_) (fun c_116 => ?_)
                · refine px_aload_n dx_Mo_kindGood_121 rfl ?_
                  refine px_getR (r := 721) dx_Mo_kindGood_122 fl_Mo_23 rfl (by decide) rfl (hM 8) ?_
                  refine px_iload dx_Mo_kindGood_125 rfl ?_
                  refine px_ialdN (j := F 7 (40 * m + (q + 1))) dx_Mo_kindGood_127 rfl (by decide) (by first | omega | (have := hW.1; omega)) ?_
                  refine px_eqi (y := nI (F 2 (F 7 (40 * m + (q + 1))))) (hF.2.2.1 (F 7 (40 * m + (q + 1))) (by omega)) ?_
                  refine px_istore (lv' := [(7, .int (nI (F 2 (F 7 (40 * m + (q + 1)))))), (6, .int (nI (F 7 (40 * m + (q + 1))))), (5, .int (nI (F 2 m))), (4, .int (nI (opS (F 7 (40 * m + p))))), (0, .ref (717)), (1, .int (nI (m))), (2, .int (nI (p))), (3, .int (nI (q)))]) dx_Mo_kindGood_128 (by decide) rfl ?_
                  refine px_iload dx_Mo_kindGood_130 rfl ?_
                  refine px_if_eqN (a := F 2 (F 7 (40 * m + (q + 1)))) dx_Mo_kindGood_132 (by first | omega | (have := opS_lt (F 7 (40 * m + p)); omega) | (have := opS_lt (F 7 (40 * m + q)); omega) | (have := hW.1; omega) | (have := hW.2.2.1 m; omega) | (have := hW.2.2.1 (F 7 (40 * m + (q + 1))); omega) | (have := wdt_le (F 2 m); omega) | (have := wdt_le (F 2 (F 7 (40 * m + (q + 1)))); omega)) (fun c_132 => ?_) (fun c_132 => ?_)
                  · refine px_iconst (v := 0) dx_Mo_kindGood_160 rfl ?_
                    exact px_zret dx_Mo_kindGood_161 rfl (by decide) (by (have hr : ¬ (14 ≤ opS (F 7 (40 * m + p)) ∧ opS (F 7 (40 * m + p)) ≤ 16) := by omega); (have e : kOK F m p (some q) = false := by (simp only [kOK, if_neg hr]; simp_all <;> omega)); rw [e] at hp0; exact hp0)
                  · refine px_iload dx_Mo_kindGood_135 rfl ?_
                    refine px_iload dx_Mo_kindGood_137 rfl ?_
                    refine px_cS (Y := yy_Mo_kindGood) (Yc := yy_Mo_words) (As := [.int (nI (F 2 (F 7 (40 * m + (q + 1)))))]) dx_Mo_kindGood_139 ml_Mo_99 ms_Mo_words np_Mo_words rfl (Nat.le_of_ble_eq_true rfl) (Nat.le_of_ble_eq_true rfl) rk_Mo_kindGood_Mo_words rfl (m_words (Nat.lt_of_le_of_lt (hW.2.2.1 _) (by decide))) zz_0 ?_
                    refine px_iconst (v := 1) dx_Mo_kindGood_142 rfl ?_
                    refine px_icmp_neN (a := wdt (F 2 (F 7 (40 * m + (q + 1))))) (b := 1) dx_Mo_kindGood_143 (by first | omega | (have := opS_lt (F 7 (40 * m + p)); omega) | (have := opS_lt (F 7 (40 * m + q)); omega) | (have := hW.1; omega) | (have := hW.2.2.1 m; omega) | (have := hW.2.2.1 (F 7 (40 * m + (q + 1))); omega) | (have := wdt_le (F 2 m); omega) | (have := wdt_le (F 2 (F 7 (40 * m + (q + 1)))); omega)) (by first | omega | (have := opS_lt (F 7 (40 * m + p)); omega) | (have := opS_lt (F 7 (40 * m + q)); omega) | (have := hW.1; omega) | (have := hW.2.2.1 m; omega) | (have := hW.2.2.1 (F 7 (40 * m + (q + 1))); omega) | (have := wdt_le (F 2 m); omega) | (have := wdt_le (F 2 (F 7 (40 * m + (q + 1)))); omega)) (fun c_143 => ?_) (fun c_143 => ?_)
                    · refine px_bipush (v := 11) dx_Mo_kindGood_151 rfl ?_
                      refine px_icmp_neN (a := opS (F 7 (40 * m + p))) (b := 11) dx_Mo_kindGood_153 (by first | omega | (have := opS_lt (F 7 (40 * m + p)); omega) | (have := opS_lt (F 7 (40 * m + q)); omega) | (have := hW.1; omega) | (have := hW.2.2.1 m; omega) | (have := hW.2.2.1 (F 7 (40 * m + (q + 1))); omega) | (have := wdt_le (F 2 m); omega) | (have := wdt_le (F 2 (F 7 (40 * m + (q + 1)))); omega)) (by first | omega | (have := opS_lt (F 7 (40 * m + p)); omega) | (have := opS_lt (F 7 (40 * m + q)); omega) | (have := hW.1; omega) | (have := hW.2.2.1 m; omega) | (have := hW.2.2.1 (F 7 (40 * m + (q + 1))); omega) | (have := wdt_le (F 2 m); omega) | (have := wdt_le (F 2 (F 7 (40 * m + (q + 1)))); omega)) (fun c_153 => ?_) (fun c_153 => ?_)
                      · refine px_iconst (v := 0) dx_Mo_kindGood_160 rfl ?_
                        exact px_zret dx_Mo_kindGood_161 rfl (by decide) (by (have hr : ¬ (14 ≤ opS (F 7 (40 * m + p)) ∧ opS (F 7 (40 * m + p)) ≤ 16) := by omega); (have e : kOK F m p (some q) = false := by (simp only [kOK, if_neg hr]; simp_all <;> omega)); rw [e] at hp0; exact hp0)
                      · refine px_iconst (v := 1) dx_Mo_kindGood_156 rfl ?_
                        refine px_goto dx_Mo_kindGood_157 ?_
                        exact px_zret dx_Mo_kindGood_161 rfl (by decide) (by (have hr : ¬ (14 ≤ opS (F 7 (40 * m + p)) ∧ opS (F 7 (40 * m + p)) ≤ 16) := by omega); (have e : kOK F m p (some q) = true := by (simp only [kOK, if_neg hr]; simp_all <;> omega)); rw [e] at hp0; exact hp0)
                    · refine px_bipush (v := 10) dx_Mo_kindGood_146 rfl ?_
                      refine px_goto dx_Mo_kindGood_148 ?_
                      refine px_icmp_neN (a := opS (F 7 (40 * m + p))) (b := 10) dx_Mo_kindGood_153 (by first | omega | (have := opS_lt (F 7 (40 * m + p)); omega) | (have := opS_lt (F 7 (40 * m + q)); omega) | (have := hW.1; omega) | (have := hW.2.2.1 m; omega) | (have := hW.2.2.1 (F 7 (40 * m + (q + 1))); omega) | (have := wdt_le (F 2 m); omega) | (have := wdt_le (F 2 (F 7 (40 * m + (q + 1)))); omega)) (by first | omega | (have := opS_lt (F 7 (40 * m + p)); omega) | (have := opS_lt (F 7 (40 * m + q)); omega) | (have := hW.1; omega) | (have := hW.2.2.1 m; omega) | (have := hW.2.2.1 (F 7 (40 * m + (q + 1))); omega) | (have := wdt_le (F 2 m); omega) | (have := wdt_le (F 2 (F 7 (40 * m + (q + 1)))); omega)) (fun c_153 => ?_) (fun c_153 => ?_)
                      · refine px_iconst (v := 0) dx_Mo_kindGood_160 rfl ?_
                        exact px_zret dx_Mo_kindGood_161 rfl (by decide) (by (have hr : ¬ (14 ≤ opS (F 7 (40 * m + p)) ∧ opS (F 7 (40 * m + p)) ≤ 16) := by omega); (have e : kOK F m p (some q) = false := by (simp only [kOK, if_neg hr]; simp_all <;> omega)); rw [e] at hp0; exact hp0)
                      · refine px_iconst (v := 1) dx_Mo_kindGood_156 rfl ?_
                        refine px_goto dx_Mo_kindGood_157 ?_
                        exact px_zret dx_Mo_kindGood_161 rfl (by decide) (by (have hr : ¬ (14 ≤ opS (F 7 (40 * m + p)) ∧ opS (F 7 (40 * m + p)) ≤ 16) := by omega); (have e : kOK F m p (some q) = true := by (simp only [kOK, if_neg hr]; simp_all <;> omega)); rw [e] at hp0; exact hp0)
                · refine px_iconst (v := 0) dx_Mo_kindGood_119 rfl ?_
                  exact px_zret dx_Mo_kindGood_120 rfl (by decide) (by (have hx : ¬ F 7 (40 * m + (q + 1)) < F 0 0 := by omega); (have hr : ¬ (14 ≤ opS (F 7 (40 * m + p)) ∧ opS (F 7 (40 * m + p)) ≤ 16) := by omega); (have e : kOK F m p (some q) = false := by (simp only [kOK, if_neg hr]; simp_all <;> omega)); rw [e] at hp0; exact hp0)
            · refine px_cV (Y := yy_Mo_kindGood) (Yc := yy_Mo_number) (b := 717) (As := [.int (nI (m)), .int (nI (q))]) dx_Mo_kindGood_98 ml_Mo_176 mv_Mo_number np_Mo_number ⟨_, rfl⟩ (by decide) rfl (by decide) rfl (Nat.le_of_ble_eq_true rfl) (Nat.le_of_ble_eq_true rfl) rk_Mo_kindGood_Mo_number rfl (m_number hM (by omega) (hF.2.2.2.2.2.2.2 (40 * m + (q + 1)) (by omega)) (hW.2.2.2.2.2.2.2 _)) zz_0 ?_
              refine px_istore (lv' := [(6, .int (nmI (F 7 (40 * m + (q + 1))))), (5, .int (nI (F 2 m))), (4, .int (nI (opS (F 7 (40 * m + p))))), (0, .ref (717)), (1, .int (nI (m))), (2, .int (nI (p))), (3, .int (nI (q)))]) dx_Mo_kindGood_101 (by decide) rfl ?_
              refine px_iload dx_Mo_kindGood_103 rfl ?_
              refine px_if_lt dx_Mo_kindGood_105 (fun c_105 => ?_) (fun c_105 => ?_)
              · refine px_iconst (v := 0) dx_Mo_kindGood_119 rfl ?_
                exact px_zret dx_Mo_kindGood_120 rfl (by decide) (by (have hx : ¬ F 7 (40 * m + (q + 1)) < F 0 0 := by omega); (have hr : ¬ (14 ≤ opS (F 7 (40 * m + p)) ∧ opS (F 7 (40 * m + p)) ≤ 16) := by omega); (have e : kOK F m p (some q) = false := by (simp only [kOK, if_neg hr]; simp_all <;> omega)); rw [e] at hp0; exact hp0)
              · exact absurd (nmI_n hn (hW.2.2.2.2.2.2.2 _)) c_105
          · refine px_iconst (v := 0) dx_Mo_kindGood_93 rfl ?_
            exact px_zret dx_Mo_kindGood_94 rfl (by decide) (by (have hr : ¬ (14 ≤ opS (F 7 (40 * m + p)) ∧ opS (F 7 (40 * m + p)) ≤ 16) := by omega); (have e : kOK F m p (some q) = false := by (simp only [kOK, if_neg hr]; simp_all <;> omega)); rw [e] at hp0; exact hp0)
      · refine px_iconst (v := 1) dx_Mo_kindGood_76 rfl ?_
        exact px_zret dx_Mo_kindGood_77 rfl (by decide) (by (have hr : ¬ (14 ≤ opS (F 7 (40 * m + p)) ∧ opS (F 7 (40 * m + p)) ≤ 16) := by omega); (have e : kOK F m p (some q) = true := by (simp only [kOK, if_neg hr]; simp_all <;> omega)); rw [e] at hp0; exact hp0)
    · refine px_iload dx_Mo_kindGood_30 rfl ?_
      refine px_iload dx_Mo_kindGood_32 rfl ?_
      refine px_if_neN (a := F 2 m) dx_Mo_kindGood_34 (by first | omega | (have := opS_lt (F 7 (40 * m + p)); omega) | (have := opS_lt (F 7 (40 * m + q)); omega) | (have := hW.1; omega) | (have := hW.2.2.1 m; omega) | (have := hW.2.2.1 (F 7 (40 * m + (q + 1))); omega) | (have := wdt_le (F 2 m); omega) | (have := wdt_le (F 2 (F 7 (40 * m + (q + 1)))); omega)) (fun c_34 => ?_) (fun c_34 => ?_)
      · refine px_iload dx_Mo_kindGood_42 rfl ?_
        refine px_cS (Y := yy_Mo_kindGood) (Yc := yy_Mo_words) (As := [.int (nI (F 2 m))]) dx_Mo_kindGood_44 ml_Mo_99 ms_Mo_words np_Mo_words rfl (Nat.le_of_ble_eq_true rfl) (Nat.le_of_ble_eq_true rfl) rk_Mo_kindGood_Mo_words rfl (m_words (Nat.lt_of_le_of_lt (hW.2.2.1 _) (by decide))) zz_0 ?_
        refine px_iconst (v := 1) dx_Mo_kindGood_47 rfl ?_
        refine px_icmp_neN (a := wdt (F 2 m)) (b := 1) dx_Mo_kindGood_48 (by first | omega | (have := opS_lt (F 7 (40 * m + p)); omega) | (have := opS_lt (F 7 (40 * m + q)); omega) | (have := hW.1; omega) | (have := hW.2.2.1 m; omega) | (have := hW.2.2.1 (F 7 (40 * m + (q + 1))); omega) | (have := wdt_le (F 2 m); omega) | (have := wdt_le (F 2 (F 7 (40 * m + (q + 1)))); omega)) (by first | omega | (have := opS_lt (F 7 (40 * m + p)); omega) | (have := opS_lt (F 7 (40 * m + q)); omega) | (have := hW.1; omega) | (have := hW.2.2.1 m; omega) | (have := hW.2.2.1 (F 7 (40 * m + (q + 1))); omega) | (have := wdt_le (F 2 m); omega) | (have := wdt_le (F 2 (F 7 (40 * m + (q + 1)))); omega)) (fun c_48 => ?_) (fun c_48 => ?_)
        · refine px_bipush (v := 16) dx_Mo_kindGood_56 rfl ?_
          refine px_icmp_neN (a := opS (F 7 (40 * m + p))) (b := 16) dx_Mo_kindGood_58 (by first | omega | (have := opS_lt (F 7 (40 * m + p)); omega) | (have := opS_lt (F 7 (40 * m + q)); omega) | (have := hW.1; omega) | (have := hW.2.2.1 m; omega) | (have := hW.2.2.1 (F 7 (40 * m + (q + 1))); omega) | (have := wdt_le (F 2 m); omega) | (have := wdt_le (F 2 (F 7 (40 * m + (q + 1)))); omega)) (by first | omega | (have := opS_lt (F 7 (40 * m + p)); omega) | (have := opS_lt (F 7 (40 * m + q)); omega) | (have := hW.1; omega) | (have := hW.2.2.1 m; omega) | (have := hW.2.2.1 (F 7 (40 * m + (q + 1))); omega) | (have := wdt_le (F 2 m); omega) | (have := wdt_le (F 2 (F 7 (40 * m + (q + 1)))); omega)) (fun c_58 => ?_) (fun c_58 => ?_)
          · refine px_iconst (v := 0) dx_Mo_kindGood_65 rfl ?_
            exact px_zret dx_Mo_kindGood_66 rfl (by decide) (by (have e : kOK F m p (some q) = false := by (simp only [kOK]; simp_all <;> omega)); rw [e] at hp0; exact hp0)
          · refine px_iconst (v := 1) dx_Mo_kindGood_61 rfl ?_
            refine px_goto dx_Mo_kindGood_62 ?_
            exact px_zret dx_Mo_kindGood_66 rfl (by decide) (by (have e : kOK F m p (some q) = true := by (simp only [kOK]; simp_all <;> omega)); rw [e] at hp0; exact hp0)
        · refine px_bipush (v := 15) dx_Mo_kindGood_51 rfl ?_
          refine px_goto dx_Mo_kindGood_53 ?_
          refine px_icmp_neN (a := opS (F 7 (40 * m + p))) (b := 15) dx_Mo_kindGood_58 (by first | omega | (have := opS_lt (F 7 (40 * m + p)); omega) | (have := opS_lt (F 7 (40 * m + q)); omega) | (have := hW.1; omega) | (have := hW.2.2.1 m; omega) | (have := hW.2.2.1 (F 7 (40 * m + (q + 1))); omega) | (have := wdt_le (F 2 m); omega) | (have := wdt_le (F 2 (F 7 (40 * m + (q + 1)))); omega)) (by first | omega | (have := opS_lt (F 7 (40 * m + p)); omega) | (have := opS_lt (F 7 (40 * m + q)); omega) | (have := hW.1; omega) | (have := hW.2.2.1 m; omega) | (have := hW.2.2.1 (F 7 (40 * m + (q + 1))); omega) | (have := wdt_le (F 2 m); omega) | (have := wdt_le (F 2 (F 7 (40 * m + (q + 1)))); omega)) (fun c_58 => ?_) (fun c_58 => ?_)
          · refine px_iconst (v := 0) dx_Mo_kindGood_65 rfl ?_
            exact px_zret dx_Mo_kindGood_66 rfl (by decide) (by (have e : kOK F m p (some q) = false := by (simp only [kOK]; simp_all <;> omega)); rw [e] at hp0; exact hp0)
          · refine px_iconst (v := 1) dx_Mo_kindGood_61 rfl ?_
            refine px_goto dx_Mo_kindGood_62 ?_
            exact px_zret dx_Mo_kindGood_66 rfl (by decide) (by (have e : kOK F m p (some q) = true := by (simp only [kOK]; simp_all <;> omega)); rw [e] at hp0; exact hp0)
      · refine px_bipush (v := 14) dx_Mo_kindGood_37 rfl ?_
        refine px_goto dx_Mo_kindGood_39 ?_
        refine px_icmp_neN (a := opS (F 7 (40 * m + p))) (b := 14) dx_Mo_kindGood_58 (by first | omega | (have := opS_lt (F 7 (40 * m + p)); omega) | (have := opS_lt (F 7 (40 * m + q)); omega) | (have := hW.1; omega) | (have := hW.2.2.1 m; omega) | (have := hW.2.2.1 (F 7 (40 * m + (q + 1))); omega) | (have := wdt_le (F 2 m); omega) | (have := wdt_le (F 2 (F 7 (40 * m + (q + 1)))); omega)) (by first | omega | (have := opS_lt (F 7 (40 * m + p)); omega) | (have := opS_lt (F 7 (40 * m + q)); omega) | (have := hW.1; omega) | (have := hW.2.2.1 m; omega) | (have := hW.2.2.1 (F 7 (40 * m + (q + 1))); omega) | (have := wdt_le (F 2 m); omega) | (have := wdt_le (F 2 (F 7 (40 * m + (q + 1)))); omega)) (fun c_58 => ?_) (fun c_58 => ?_)
        · refine px_iconst (v := 0) dx_Mo_kindGood_65 rfl ?_
          exact px_zret dx_Mo_kindGood_66 rfl (by decide) (by (have e : kOK F m p (some q) = false := by (simp only [kOK]; simp_all <;> omega)); rw [e] at hp0; exact hp0)
        · refine px_iconst (v := 1) dx_Mo_kindGood_61 rfl ?_
          refine px_goto dx_Mo_kindGood_62 ?_
          exact px_zret dx_Mo_kindGood_66 rfl (by decide) (by (have e : kOK F m p (some q) = true := by (simp only [kOK]; simp_all <;> omega)); rw [e] at hp0; exact hp0)
