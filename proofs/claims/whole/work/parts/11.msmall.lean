/-! the reference: its cells, small methods -/
def mrf : Nat → Option Nat
  | 2 => some 718 | 6 => some 719 | 7 => some 720 | 8 => some 721 | 9 => some 722 | 10 => some 723 | 11 => some 724 | 12 => some 725 | 13 => some 726 | 14 => some 727 | 15 => some 728 | 16 => some 729 | 17 => some 730
  | 18 => some 731 | 19 => some 732 | 23 => some 733 | 24 => some 734 | 25 => some 735 | 28 => some 736 | 29 => some 737 | 30 => some 738 | 31 => some 739 | 35 => some 740 | _ => none
/-- the reference's object holds its arrays -/
def MR (σ : fr_S) : Prop := ∀ k, gR σ 717 k = mrf k
/-- the words of a type -/
def wdt (t : Nat) : Nat := if t = 2 ∨ t = 4 then 2 else 1
def opS (w : Nat) : Nat := w % 256
def opA (w : Nat) : Nat := w / 256 % 16
def opB (w : Nat) : Nat := w / 4096
def opN (w : Nat) : Nat := w / 256

set_option maxRecDepth 100000 in
set_option maxHeartbeats 4000000 in
theorem m_words {l : Launch} {G : fr_G} {σ : fr_S} {t : Nat} (ht : t < 256) : CT l G yy_Mo_words rm_Mo_words [.int (nI (t))] σ (some (.int (nI (wdt t)))) (σ) := by
  intro Post hp
  show PX l G yy_Mo_words rm_Mo_words _ false 742 0 0 0 [(0, .int (nI (t)))] [] σ
  refine px_iload_n dx_Mo_words_0 rfl ?_
  refine px_iconst (v := 2) dx_Mo_words_1 rfl ?_
  refine px_icmp_eqN (a := t) (b := 2) dx_Mo_words_2 (by omega) (by omega) (fun c_2 => ?_) (fun c_2 => ?_)
  · refine px_iconst (v := 2) dx_Mo_words_10 rfl ?_
    refine px_goto dx_Mo_words_11 ?_
    exact px_iret dx_Mo_words_15 rfl (by simp [wdt, *] at hp; exact hp)
  · refine px_iload_n dx_Mo_words_5 rfl ?_
    refine px_iconst (v := 4) dx_Mo_words_6 rfl ?_
    refine px_icmp_neN (a := t) (b := 4) dx_Mo_words_7 (by omega) (by omega) (fun c_7 => ?_) (fun c_7 => ?_)
    · refine px_iconst (v := 1) dx_Mo_words_14 rfl ?_
      exact px_iret dx_Mo_words_15 rfl (by simp [wdt, *] at hp; exact hp)
    · refine px_iconst (v := 2) dx_Mo_words_10 rfl ?_
      refine px_goto dx_Mo_words_11 ?_
      exact px_iret dx_Mo_words_15 rfl (by simp [wdt, *] at hp; exact hp)
set_option maxRecDepth 100000 in
set_option maxHeartbeats 4000000 in
theorem m_unit {l : Launch} {G : fr_G} {σ : fr_S} (hM : MR σ) {m p w : Nat} (h : 40 * m + p < 320) (hw : gI σ 726 (40 * m + p) = nI w) : CT l G yy_Mo_unit rm_Mo_unit [.ref (717), .int (nI (m)), .int (nI (p))] σ (some (.int (nI (w)))) (σ) := by
  intro Post hp
  show PX l G yy_Mo_unit rm_Mo_unit _ false 742 0 0 0 [(0, .ref (717)), (1, .int (nI (m))), (2, .int (nI (p)))] [] σ
  refine px_aload_n dx_Mo_unit_0 rfl ?_
  refine px_getR (r := 726) dx_Mo_unit_1 fl_Mo_38 rfl (by decide) rfl (hM 13) ?_
  refine px_bipush (v := 40) dx_Mo_unit_4 rfl ?_
  refine px_iload_n dx_Mo_unit_6 rfl ?_
  refine px_imulN (a := 40) (b := m) dx_Mo_unit_7 ?_
  refine px_iload_n dx_Mo_unit_8 rfl ?_
  refine px_iaddN (a := 40 * m) (b := p) dx_Mo_unit_9 ?_
  refine px_ialdN (j := (40 * m) + p) dx_Mo_unit_10 rfl (by decide) (by omega) ?_
  exact px_iret dx_Mo_unit_11 rfl (by rw [hw]; exact hp)
set_option maxRecDepth 100000 in
set_option maxHeartbeats 4000000 in
theorem m_op {l : Launch} {G : fr_G} {σ : fr_S} (hM : MR σ) {m p w : Nat} (h : 40 * m + p < 320) (hw : gI σ 726 (40 * m + p) = nI w) (hw2 : w < 65536) : CT l G yy_Mo_op rm_Mo_op [.ref (717), .int (nI (m)), .int (nI (p))] σ (some (.int (nI (opS w)))) (σ) := by
  intro Post hp
  show PX l G yy_Mo_op rm_Mo_op _ false 742 0 0 0 [(0, .ref (717)), (1, .int (nI (m))), (2, .int (nI (p)))] [] σ
  refine px_aload_n dx_Mo_op_0 rfl ?_
  refine px_iload_n dx_Mo_op_1 rfl ?_
  refine px_iload_n dx_Mo_op_2 rfl ?_
  refine px_cV (Y := yy_Mo_op) (Yc := yy_Mo_unit) (b := 717) (As := [.int (nI (m)), .int (nI (p))]) dx_Mo_op_3 ml_Mo_159 mv_Mo_unit np_Mo_unit ⟨_, rfl⟩ (by decide) rfl (by decide) rfl (Nat.le_of_ble_eq_true rfl) (Nat.le_of_ble_eq_true rfl) rk_Mo_op_Mo_unit rfl (m_unit hM h hw) zz_0 ?_
  refine px_sipush (v := 255) dx_Mo_op_6 rfl ?_
  refine px_iandN (a := w) (w := 8) dx_Mo_op_9 (by omega) rfl ?_
  exact px_iret dx_Mo_op_10 rfl (by exact hp)
set_option maxRecDepth 100000 in
set_option maxHeartbeats 4000000 in
theorem m_regA {l : Launch} {G : fr_G} {σ : fr_S} (hM : MR σ) {m p w : Nat} (h : 40 * m + p < 320) (hw : gI σ 726 (40 * m + p) = nI w) (hw2 : w < 65536) : CT l G yy_Mo_regA rm_Mo_regA [.ref (717), .int (nI (m)), .int (nI (p))] σ (some (.int (nI (opA w)))) (σ) := by
  intro Post hp
  show PX l G yy_Mo_regA rm_Mo_regA _ false 742 0 0 0 [(0, .ref (717)), (1, .int (nI (m))), (2, .int (nI (p)))] [] σ
  refine px_aload_n dx_Mo_regA_0 rfl ?_
  refine px_iload_n dx_Mo_regA_1 rfl ?_
  refine px_iload_n dx_Mo_regA_2 rfl ?_
  refine px_cV (Y := yy_Mo_regA) (Yc := yy_Mo_unit) (b := 717) (As := [.int (nI (m)), .int (nI (p))]) dx_Mo_regA_3 ml_Mo_159 mv_Mo_unit np_Mo_unit ⟨_, rfl⟩ (by decide) rfl (by decide) rfl (Nat.le_of_ble_eq_true rfl) (Nat.le_of_ble_eq_true rfl) rk_Mo_regA_Mo_unit rfl (m_unit hM h hw) zz_0 ?_
  refine px_bipush (v := 8) dx_Mo_regA_6 rfl ?_
  refine px_ishrN (a := w) (w := 8) dx_Mo_regA_8 (by omega) rfl ?_
  refine px_bipush (v := 15) dx_Mo_regA_9 rfl ?_
  refine px_iandN (a := w / 256) (w := 4) dx_Mo_regA_11 (by omega) rfl ?_
  exact px_iret dx_Mo_regA_12 rfl (by exact hp)
set_option maxRecDepth 100000 in
set_option maxHeartbeats 4000000 in
theorem m_regB {l : Launch} {G : fr_G} {σ : fr_S} (hM : MR σ) {m p w : Nat} (h : 40 * m + p < 320) (hw : gI σ 726 (40 * m + p) = nI w) (hw2 : w < 65536) : CT l G yy_Mo_regB rm_Mo_regB [.ref (717), .int (nI (m)), .int (nI (p))] σ (some (.int (nI (opB w)))) (σ) := by
  intro Post hp
  show PX l G yy_Mo_regB rm_Mo_regB _ false 742 0 0 0 [(0, .ref (717)), (1, .int (nI (m))), (2, .int (nI (p)))] [] σ
  refine px_aload_n dx_Mo_regB_0 rfl ?_
  refine px_iload_n dx_Mo_regB_1 rfl ?_
  refine px_iload_n dx_Mo_regB_2 rfl ?_
  refine px_cV (Y := yy_Mo_regB) (Yc := yy_Mo_unit) (b := 717) (As := [.int (nI (m)), .int (nI (p))]) dx_Mo_regB_3 ml_Mo_159 mv_Mo_unit np_Mo_unit ⟨_, rfl⟩ (by decide) rfl (by decide) rfl (Nat.le_of_ble_eq_true rfl) (Nat.le_of_ble_eq_true rfl) rk_Mo_regB_Mo_unit rfl (m_unit hM h hw) zz_0 ?_
  refine px_bipush (v := 12) dx_Mo_regB_6 rfl ?_
  refine px_ishrN (a := w) (w := 12) dx_Mo_regB_8 (by omega) rfl ?_
  exact px_iret dx_Mo_regB_9 rfl (by exact hp)
set_option maxRecDepth 100000 in
set_option maxHeartbeats 4000000 in
theorem m_regAA {l : Launch} {G : fr_G} {σ : fr_S} (hM : MR σ) {m p w : Nat} (h : 40 * m + p < 320) (hw : gI σ 726 (40 * m + p) = nI w) (hw2 : w < 65536) : CT l G yy_Mo_regAA rm_Mo_regAA [.ref (717), .int (nI (m)), .int (nI (p))] σ (some (.int (nI (opN w)))) (σ) := by
  intro Post hp
  show PX l G yy_Mo_regAA rm_Mo_regAA _ false 742 0 0 0 [(0, .ref (717)), (1, .int (nI (m))), (2, .int (nI (p)))] [] σ
  refine px_aload_n dx_Mo_regAA_0 rfl ?_
  refine px_iload_n dx_Mo_regAA_1 rfl ?_
  refine px_iload_n dx_Mo_regAA_2 rfl ?_
  refine px_cV (Y := yy_Mo_regAA) (Yc := yy_Mo_unit) (b := 717) (As := [.int (nI (m)), .int (nI (p))]) dx_Mo_regAA_3 ml_Mo_159 mv_Mo_unit np_Mo_unit ⟨_, rfl⟩ (by decide) rfl (by decide) rfl (Nat.le_of_ble_eq_true rfl) (Nat.le_of_ble_eq_true rfl) rk_Mo_regAA_Mo_unit rfl (m_unit hM h hw) zz_0 ?_
  refine px_bipush (v := 8) dx_Mo_regAA_6 rfl ?_
  refine px_ishrN (a := w) (w := 8) dx_Mo_regAA_8 (by omega) rfl ?_
  exact px_iret dx_Mo_regAA_9 rfl (by exact hp)
def cvt (op : Nat) : Bool := op = 123 || op = 125 || (127 ≤ op && op ≤ 140)
def jns (op : Nat) : Bool := (144 ≤ op && op ≤ 159) || (166 ≤ op && op ≤ 169) || (171 ≤ op && op ≤ 174)
def cps (op : Nat) : Bool := op = 45 || op = 47 || op = 49
def brs (op : Nat) : Bool := op = 40 || (50 ≤ op && op ≤ 61)
def ens (op : Nat) : Bool := (14 ≤ op && op ≤ 16) || op = 40
def szO (op : Nat) : Nat := if op = 113 then 3 else if op = 0 || op = 1 || op = 4 || op = 10 || op = 11 || (14 ≤ op && op ≤ 16) || op = 18 || op = 40 || cvt op then 1 else if op = 19 || op = 22 || (50 ≤ op && op ≤ 61) || cps op || op = 96 || op = 103 || jns op then 2 else 0
def tkO (op : Nat) : Nat := if op ∈ [123, 129, 130, 131] then 1 else if op ∈ [125, 132, 133, 134] then 2 else if op ∈ [127, 135, 136, 137] then 3 else 4
def gvO (op : Nat) : Nat := if op ∈ [123, 132, 135, 138] then 1 else if op ∈ [125, 129, 136, 139] then 2 else if op ∈ [127, 130, 133, 140] then 3 else 4
def jnO (op : Nat) : Nat := if op < 155 then 1 else if op < 160 then 2 else if op < 170 then 3 else 4
def cpO (op : Nat) : Nat := if op = 45 then 3 else if op = 47 then 4 else 2

set_option maxRecDepth 100000 in
set_option maxHeartbeats 4000000 in
theorem m_converts {l : Launch} {G : fr_G} {σ : fr_S} {op : Nat} (hop : op < 256) : CT l G yy_Mo_converts rm_Mo_converts [.int (nI (op))] σ (some (.int (b2i (cvt op)))) (σ) := by
  intro Post hp
  show PX l G yy_Mo_converts rm_Mo_converts _ false 742 0 0 0 [(0, .int (nI (op)))] [] σ
  refine px_iload_n dx_Mo_converts_0 rfl ?_
  refine px_bipush (v := 123) dx_Mo_converts_1 rfl ?_
  refine px_icmp_eqN (a := op) (b := 123) dx_Mo_converts_3 (by omega) (by omega) (fun c_3 => ?_) (fun c_3 => ?_)
  · refine px_iconst (v := 1) dx_Mo_converts_25 rfl ?_
    refine px_goto dx_Mo_converts_26 ?_
    exact px_zret dx_Mo_converts_30 rfl (by decide) (by (have e : (cvt op) = true := by (simp only [cvt, Bool.or_eq_true, Bool.and_eq_true, decide_eq_true_eq, Bool.or_eq_false_iff, Bool.and_eq_false_iff, decide_eq_false_iff_not]; omega)); rw [e] at hp; exact hp)
  · refine px_iload_n dx_Mo_converts_6 rfl ?_
    refine px_bipush (v := 125) dx_Mo_converts_7 rfl ?_
    refine px_icmp_eqN (a := op) (b := 125) dx_Mo_converts_9 (by omega) (by omega) (fun c_9 => ?_) (fun c_9 => ?_)
    · refine px_iconst (v := 1) dx_Mo_converts_25 rfl ?_
      refine px_goto dx_Mo_converts_26 ?_
      exact px_zret dx_Mo_converts_30 rfl (by decide) (by (have e : (cvt op) = true := by (simp only [cvt, Bool.or_eq_true, Bool.and_eq_true, decide_eq_true_eq, Bool.or_eq_false_iff, Bool.and_eq_false_iff, decide_eq_false_iff_not]; omega)); rw [e] at hp; exact hp)
    · refine px_iload_n dx_Mo_converts_12 rfl ?_
      refine px_bipush (v := 127) dx_Mo_converts_13 rfl ?_
      refine px_icmp_ltN (a := op) (b := 127) dx_Mo_converts_15 (by omega) (by omega) (fun c_15 => ?_) (fun c_15 => ?_)
      · refine px_iconst (v := 0) dx_Mo_converts_29 rfl ?_
        exact px_zret dx_Mo_converts_30 rfl (by decide) (by (have e : (cvt op) = false := by (simp only [cvt, Bool.or_eq_true, Bool.and_eq_true, decide_eq_true_eq, Bool.or_eq_false_iff, Bool.and_eq_false_iff, decide_eq_false_iff_not]; omega)); rw [e] at hp; exact hp)
      · refine px_iload_n dx_Mo_converts_18 rfl ?_
        refine px_sipush (v := 140) dx_Mo_converts_19 rfl ?_
        refine px_icmp_gtN (a := op) (b := 140) dx_Mo_converts_22 (by omega) (by omega) (fun c_22 => ?_) (fun c_22 => ?_)
        · refine px_iconst (v := 0) dx_Mo_converts_29 rfl ?_
          exact px_zret dx_Mo_converts_30 rfl (by decide) (by (have e : (cvt op) = false := by (simp only [cvt, Bool.or_eq_true, Bool.and_eq_true, decide_eq_true_eq, Bool.or_eq_false_iff, Bool.and_eq_false_iff, decide_eq_false_iff_not]; omega)); rw [e] at hp; exact hp)
        · refine px_iconst (v := 1) dx_Mo_converts_25 rfl ?_
          refine px_goto dx_Mo_converts_26 ?_
          exact px_zret dx_Mo_converts_30 rfl (by decide) (by (have e : (cvt op) = true := by (simp only [cvt, Bool.or_eq_true, Bool.and_eq_true, decide_eq_true_eq, Bool.or_eq_false_iff, Bool.and_eq_false_iff, decide_eq_false_iff_not]; omega)); rw [e] at hp; exact hp)
set_option maxRecDepth 100000 in
set_option maxHeartbeats 4000000 in
theorem m_joins {l : Launch} {G : fr_G} {σ : fr_S} {op : Nat} (hop : op < 256) : CT l G yy_Mo_joins rm_Mo_joins [.int (nI (op))] σ (some (.int (b2i (jns op)))) (σ) := by
  intro Post hp
  show PX l G yy_Mo_joins rm_Mo_joins _ false 742 0 0 0 [(0, .int (nI (op)))] [] σ
  refine px_iload_n dx_Mo_joins_0 rfl ?_
  refine px_sipush (v := 144) dx_Mo_joins_1 rfl ?_
  refine px_icmp_ltN (a := op) (b := 144) dx_Mo_joins_4 (by omega) (by omega) (fun c_4 => ?_) (fun c_4 => ?_)
  · refine px_iload_n dx_Mo_joins_14 rfl ?_
    refine px_sipush (v := 166) dx_Mo_joins_15 rfl ?_
    refine px_icmp_ltN (a := op) (b := 166) dx_Mo_joins_18 (by omega) (by omega) (fun c_18 => ?_) (fun c_18 => ?_)
    · refine px_iload_n dx_Mo_joins_28 rfl ?_
      refine px_sipush (v := 171) dx_Mo_joins_29 rfl ?_
      refine px_icmp_ltN (a := op) (b := 171) dx_Mo_joins_32 (by omega) (by omega) (fun c_32 => ?_) (fun c_32 => ?_)
      · refine px_iconst (v := 0) dx_Mo_joins_46 rfl ?_
        exact px_zret dx_Mo_joins_47 rfl (by decide) (by (have e : (jns op) = false := by (simp only [jns, Bool.or_eq_true, Bool.and_eq_true, decide_eq_true_eq, Bool.or_eq_false_iff, Bool.and_eq_false_iff, decide_eq_false_iff_not]; omega)); rw [e] at hp; exact hp)
      · refine px_iload_n dx_Mo_joins_35 rfl ?_
        refine px_sipush (v := 174) dx_Mo_joins_36 rfl ?_
        refine px_icmp_gtN (a := op) (b := 174) dx_Mo_joins_39 (by omega) (by omega) (fun c_39 => ?_) (fun c_39 => ?_)
        · refine px_iconst (v := 0) dx_Mo_joins_46 rfl ?_
          exact px_zret dx_Mo_joins_47 rfl (by decide) (by (have e : (jns op) = false := by (simp only [jns, Bool.or_eq_true, Bool.and_eq_true, decide_eq_true_eq, Bool.or_eq_false_iff, Bool.and_eq_false_iff, decide_eq_false_iff_not]; omega)); rw [e] at hp; exact hp)
        · refine px_iconst (v := 1) dx_Mo_joins_42 rfl ?_
          refine px_goto dx_Mo_joins_43 ?_
          exact px_zret dx_Mo_joins_47 rfl (by decide) (by (have e : (jns op) = true := by (simp only [jns, Bool.or_eq_true, Bool.and_eq_true, decide_eq_true_eq, Bool.or_eq_false_iff, Bool.and_eq_false_iff, decide_eq_false_iff_not]; omega)); rw [e] at hp; exact hp)
    · refine px_iload_n dx_Mo_joins_21 rfl ?_
      refine px_sipush (v := 169) dx_Mo_joins_22 rfl ?_
      refine px_icmp_leN (a := op) (b := 169) dx_Mo_joins_25 (by omega) (by omega) (fun c_25 => ?_) (fun c_25 => ?_)
      · refine px_iconst (v := 1) dx_Mo_joins_42 rfl ?_
        refine px_goto dx_Mo_joins_43 ?_
        exact px_zret dx_Mo_joins_47 rfl (by decide) (by (have e : (jns op) = true := by (simp only [jns, Bool.or_eq_true, Bool.and_eq_true, decide_eq_true_eq, Bool.or_eq_false_iff, Bool.and_eq_false_iff, decide_eq_false_iff_not]; omega)); rw [e] at hp; exact hp)
      · refine px_iload_n dx_Mo_joins_28 rfl ?_
        refine px_sipush (v := 171) dx_Mo_joins_29 rfl ?_
        refine px_icmp_ltN (a := op) (b := 171) dx_Mo_joins_32 (by omega) (by omega) (fun c_32 => ?_) (fun c_32 => ?_)
        · refine px_iconst (v := 0) dx_Mo_joins_46 rfl ?_
          exact px_zret dx_Mo_joins_47 rfl (by decide) (by (have e : (jns op) = false := by (simp only [jns, Bool.or_eq_true, Bool.and_eq_true, decide_eq_true_eq, Bool.or_eq_false_iff, Bool.and_eq_false_iff, decide_eq_false_iff_not]; omega)); rw [e] at hp; exact hp)
        · refine px_iload_n dx_Mo_joins_35 rfl ?_
          refine px_sipush (v := 174) dx_Mo_joins_36 rfl ?_
          refine px_icmp_gtN (a := op) (b := 174) dx_Mo_joins_39 (by omega) (by omega) (fun c_39 => ?_) (fun c_39 => ?_)
          · refine px_iconst (v := 0) dx_Mo_joins_46 rfl ?_
            exact px_zret dx_Mo_joins_47 rfl (by decide) (by (have e : (jns op) = false := by (simp only [jns, Bool.or_eq_true, Bool.and_eq_true, decide_eq_true_eq, Bool.or_eq_false_iff, Bool.and_eq_false_iff, decide_eq_false_iff_not]; omega)); rw [e] at hp; exact hp)
          · refine px_iconst (v := 1) dx_Mo_joins_42 rfl ?_
            refine px_goto dx_Mo_joins_43 ?_
            exact px_zret dx_Mo_joins_47 rfl (by decide) (by (have e : (jns op) = true := by (simp only [jns, Bool.or_eq_true, Bool.and_eq_true, decide_eq_true_eq, Bool.or_eq_false_iff, Bool.and_eq_false_iff, decide_eq_false_iff_not]; omega)); rw [e] at hp; exact hp)
  · refine px_iload_n dx_Mo_joins_7 rfl ?_
    refine px_sipush (v := 159) dx_Mo_joins_8 rfl ?_
    refine px_icmp_leN (a := op) (b := 159) dx_Mo_joins_11 (by omega) (by omega) (fun c_11 => ?_) (fun c_11 => ?_)
    · refine px_iconst (v := 1) dx_Mo_joins_42 rfl ?_
      refine px_goto dx_Mo_joins_43 ?_
      exact px_zret dx_Mo_joins_47 rfl (by decide) (by (have e : (jns op) = true := by (simp only [jns, Bool.or_eq_true, Bool.and_eq_true, decide_eq_true_eq, Bool.or_eq_false_iff, Bool.and_eq_false_iff, decide_eq_false_iff_not]; omega)); rw [e] at hp; exact hp)
    · refine px_iload_n dx_Mo_joins_14 rfl ?_
      refine px_sipush (v := 166) dx_Mo_joins_15 rfl ?_
      refine px_icmp_ltN (a := op) (b := 166) dx_Mo_joins_18 (by omega) (by omega) (fun c_18 => ?_) (fun c_18 => ?_)
      · refine px_iload_n dx_Mo_joins_28 rfl ?_
        refine px_sipush (v := 171) dx_Mo_joins_29 rfl ?_
        refine px_icmp_ltN (a := op) (b := 171) dx_Mo_joins_32 (by omega) (by omega) (fun c_32 => ?_) (fun c_32 => ?_)
        · refine px_iconst (v := 0) dx_Mo_joins_46 rfl ?_
          exact px_zret dx_Mo_joins_47 rfl (by decide) (by (have e : (jns op) = false := by (simp only [jns, Bool.or_eq_true, Bool.and_eq_true, decide_eq_true_eq, Bool.or_eq_false_iff, Bool.and_eq_false_iff, decide_eq_false_iff_not]; omega)); rw [e] at hp; exact hp)
        · refine px_iload_n dx_Mo_joins_35 rfl ?_
          refine px_sipush (v := 174) dx_Mo_joins_36 rfl ?_
          refine px_icmp_gtN (a := op) (b := 174) dx_Mo_joins_39 (by omega) (by omega) (fun c_39 => ?_) (fun c_39 => ?_)
          · refine px_iconst (v := 0) dx_Mo_joins_46 rfl ?_
            exact px_zret dx_Mo_joins_47 rfl (by decide) (by (have e : (jns op) = false := by (simp only [jns, Bool.or_eq_true, Bool.and_eq_true, decide_eq_true_eq, Bool.or_eq_false_iff, Bool.and_eq_false_iff, decide_eq_false_iff_not]; omega)); rw [e] at hp; exact hp)
          · refine px_iconst (v := 1) dx_Mo_joins_42 rfl ?_
            refine px_goto dx_Mo_joins_43 ?_
            exact px_zret dx_Mo_joins_47 rfl (by decide) (by (have e : (jns op) = true := by (simp only [jns, Bool.or_eq_true, Bool.and_eq_true, decide_eq_true_eq, Bool.or_eq_false_iff, Bool.and_eq_false_iff, decide_eq_false_iff_not]; omega)); rw [e] at hp; exact hp)
      · refine px_iload_n dx_Mo_joins_21 rfl ?_
        refine px_sipush (v := 169) dx_Mo_joins_22 rfl ?_
        refine px_icmp_leN (a := op) (b := 169) dx_Mo_joins_25 (by omega) (by omega) (fun c_25 => ?_) (fun c_25 => ?_)
        · refine px_iconst (v := 1) dx_Mo_joins_42 rfl ?_
          refine px_goto dx_Mo_joins_43 ?_
          exact px_zret dx_Mo_joins_47 rfl (by decide) (by (have e : (jns op) = true := by (simp only [jns, Bool.or_eq_true, Bool.and_eq_true, decide_eq_true_eq, Bool.or_eq_false_iff, Bool.and_eq_false_iff, decide_eq_false_iff_not]; omega)); rw [e] at hp; exact hp)
        · refine px_iload_n dx_Mo_joins_28 rfl ?_
          refine px_sipush (v := 171) dx_Mo_joins_29 rfl ?_
          refine px_icmp_ltN (a := op) (b := 171) dx_Mo_joins_32 (by omega) (by omega) (fun c_32 => ?_) (fun c_32 => ?_)
          · refine px_iconst (v := 0) dx_Mo_joins_46 rfl ?_
            exact px_zret dx_Mo_joins_47 rfl (by decide) (by (have e : (jns op) = false := by (simp only [jns, Bool.or_eq_true, Bool.and_eq_true, decide_eq_true_eq, Bool.or_eq_false_iff, Bool.and_eq_false_iff, decide_eq_false_iff_not]; omega)); rw [e] at hp; exact hp)
          · refine px_iload_n dx_Mo_joins_35 rfl ?_
            refine px_sipush (v := 174) dx_Mo_joins_36 rfl ?_
            refine px_icmp_gtN (a := op) (b := 174) dx_Mo_joins_39 (by omega) (by omega) (fun c_39 => ?_) (fun c_39 => ?_)
            · refine px_iconst (v := 0) dx_Mo_joins_46 rfl ?_
              exact px_zret dx_Mo_joins_47 rfl (by decide) (by (have e : (jns op) = false := by (simp only [jns, Bool.or_eq_true, Bool.and_eq_true, decide_eq_true_eq, Bool.or_eq_false_iff, Bool.and_eq_false_iff, decide_eq_false_iff_not]; omega)); rw [e] at hp; exact hp)
            · refine px_iconst (v := 1) dx_Mo_joins_42 rfl ?_
              refine px_goto dx_Mo_joins_43 ?_
              exact px_zret dx_Mo_joins_47 rfl (by decide) (by (have e : (jns op) = true := by (simp only [jns, Bool.or_eq_true, Bool.and_eq_true, decide_eq_true_eq, Bool.or_eq_false_iff, Bool.and_eq_false_iff, decide_eq_false_iff_not]; omega)); rw [e] at hp; exact hp)
set_option maxRecDepth 100000 in
set_option maxHeartbeats 4000000 in
theorem m_compares {l : Launch} {G : fr_G} {σ : fr_S} {op : Nat} (hop : op < 256) : CT l G yy_Mo_compares rm_Mo_compares [.int (nI (op))] σ (some (.int (b2i (cps op)))) (σ) := by
  intro Post hp
  show PX l G yy_Mo_compares rm_Mo_compares _ false 742 0 0 0 [(0, .int (nI (op)))] [] σ
  refine px_iload_n dx_Mo_compares_0 rfl ?_
  refine px_bipush (v := 45) dx_Mo_compares_1 rfl ?_
  refine px_icmp_eqN (a := op) (b := 45) dx_Mo_compares_3 (by omega) (by omega) (fun c_3 => ?_) (fun c_3 => ?_)
  · refine px_iconst (v := 1) dx_Mo_compares_18 rfl ?_
    refine px_goto dx_Mo_compares_19 ?_
    exact px_zret dx_Mo_compares_23 rfl (by decide) (by (have e : (cps op) = true := by (simp only [cps, Bool.or_eq_true, Bool.and_eq_true, decide_eq_true_eq, Bool.or_eq_false_iff, Bool.and_eq_false_iff, decide_eq_false_iff_not]; omega)); rw [e] at hp; exact hp)
  · refine px_iload_n dx_Mo_compares_6 rfl ?_
    refine px_bipush (v := 47) dx_Mo_compares_7 rfl ?_
    refine px_icmp_eqN (a := op) (b := 47) dx_Mo_compares_9 (by omega) (by omega) (fun c_9 => ?_) (fun c_9 => ?_)
    · refine px_iconst (v := 1) dx_Mo_compares_18 rfl ?_
      refine px_goto dx_Mo_compares_19 ?_
      exact px_zret dx_Mo_compares_23 rfl (by decide) (by (have e : (cps op) = true := by (simp only [cps, Bool.or_eq_true, Bool.and_eq_true, decide_eq_true_eq, Bool.or_eq_false_iff, Bool.and_eq_false_iff, decide_eq_false_iff_not]; omega)); rw [e] at hp; exact hp)
    · refine px_iload_n dx_Mo_compares_12 rfl ?_
      refine px_bipush (v := 49) dx_Mo_compares_13 rfl ?_
      refine px_icmp_neN (a := op) (b := 49) dx_Mo_compares_15 (by omega) (by omega) (fun c_15 => ?_) (fun c_15 => ?_)
      · refine px_iconst (v := 0) dx_Mo_compares_22 rfl ?_
        exact px_zret dx_Mo_compares_23 rfl (by decide) (by (have e : (cps op) = false := by (simp only [cps, Bool.or_eq_true, Bool.and_eq_true, decide_eq_true_eq, Bool.or_eq_false_iff, Bool.and_eq_false_iff, decide_eq_false_iff_not]; omega)); rw [e] at hp; exact hp)
      · refine px_iconst (v := 1) dx_Mo_compares_18 rfl ?_
        refine px_goto dx_Mo_compares_19 ?_
        exact px_zret dx_Mo_compares_23 rfl (by decide) (by (have e : (cps op) = true := by (simp only [cps, Bool.or_eq_true, Bool.and_eq_true, decide_eq_true_eq, Bool.or_eq_false_iff, Bool.and_eq_false_iff, decide_eq_false_iff_not]; omega)); rw [e] at hp; exact hp)
set_option maxRecDepth 100000 in
set_option maxHeartbeats 4000000 in
theorem m_ends {l : Launch} {G : fr_G} {σ : fr_S} {op : Nat} (hop : op < 256) : CT l G yy_Mo_ends rm_Mo_ends [.int (nI (op))] σ (some (.int (b2i (ens op)))) (σ) := by
  intro Post hp
  show PX l G yy_Mo_ends rm_Mo_ends _ false 742 0 0 0 [(0, .int (nI (op)))] [] σ
  refine px_iload_n dx_Mo_ends_0 rfl ?_
  refine px_bipush (v := 14) dx_Mo_ends_1 rfl ?_
  refine px_icmp_ltN (a := op) (b := 14) dx_Mo_ends_3 (by omega) (by omega) (fun c_3 => ?_) (fun c_3 => ?_)
  · refine px_iload_n dx_Mo_ends_12 rfl ?_
    refine px_bipush (v := 40) dx_Mo_ends_13 rfl ?_
    refine px_icmp_neN (a := op) (b := 40) dx_Mo_ends_15 (by omega) (by omega) (fun c_15 => ?_) (fun c_15 => ?_)
    · refine px_iconst (v := 0) dx_Mo_ends_22 rfl ?_
      exact px_zret dx_Mo_ends_23 rfl (by decide) (by (have e : (ens op) = false := by (simp only [ens, Bool.or_eq_true, Bool.and_eq_true, decide_eq_true_eq, Bool.or_eq_false_iff, Bool.and_eq_false_iff, decide_eq_false_iff_not]; omega)); rw [e] at hp; exact hp)
    · refine px_iconst (v := 1) dx_Mo_ends_18 rfl ?_
      refine px_goto dx_Mo_ends_19 ?_
      exact px_zret dx_Mo_ends_23 rfl (by decide) (by (have e : (ens op) = true := by (simp only [ens, Bool.or_eq_true, Bool.and_eq_true, decide_eq_true_eq, Bool.or_eq_false_iff, Bool.and_eq_false_iff, decide_eq_false_iff_not]; omega)); rw [e] at hp; exact hp)
  · refine px_iload_n dx_Mo_ends_6 rfl ?_
    refine px_bipush (v := 16) dx_Mo_ends_7 rfl ?_
    refine px_icmp_leN (a := op) (b := 16) dx_Mo_ends_9 (by omega) (by omega) (fun c_9 => ?_) (fun c_9 => ?_)
    · refine px_iconst (v := 1) dx_Mo_ends_18 rfl ?_
      refine px_goto dx_Mo_ends_19 ?_
      exact px_zret dx_Mo_ends_23 rfl (by decide) (by (have e : (ens op) = true := by (simp only [ens, Bool.or_eq_true, Bool.and_eq_true, decide_eq_true_eq, Bool.or_eq_false_iff, Bool.and_eq_false_iff, decide_eq_false_iff_not]; omega)); rw [e] at hp; exact hp)
    · refine px_iload_n dx_Mo_ends_12 rfl ?_
      refine px_bipush (v := 40) dx_Mo_ends_13 rfl ?_
      refine px_icmp_neN (a := op) (b := 40) dx_Mo_ends_15 (by omega) (by omega) (fun c_15 => ?_) (fun c_15 => ?_)
      · refine px_iconst (v := 0) dx_Mo_ends_22 rfl ?_
        exact px_zret dx_Mo_ends_23 rfl (by decide) (by (have e : (ens op) = false := by (simp only [ens, Bool.or_eq_true, Bool.and_eq_true, decide_eq_true_eq, Bool.or_eq_false_iff, Bool.and_eq_false_iff, decide_eq_false_iff_not]; omega)); rw [e] at hp; exact hp)
      · refine px_iconst (v := 1) dx_Mo_ends_18 rfl ?_
        refine px_goto dx_Mo_ends_19 ?_
        exact px_zret dx_Mo_ends_23 rfl (by decide) (by (have e : (ens op) = true := by (simp only [ens, Bool.or_eq_true, Bool.and_eq_true, decide_eq_true_eq, Bool.or_eq_false_iff, Bool.and_eq_false_iff, decide_eq_false_iff_not]; omega)); rw [e] at hp; exact hp)
set_option maxRecDepth 100000 in
set_option maxHeartbeats 4000000 in
theorem m_branches {l : Launch} {G : fr_G} {σ : fr_S} {op : Nat} (hop : op < 256) : CT l G yy_Mo_branches rm_Mo_branches [.int (nI (op))] σ (some (.int (b2i (brs op)))) (σ) := by
  intro Post hp
  show PX l G yy_Mo_branches rm_Mo_branches _ false 742 0 0 0 [(0, .int (nI (op)))] [] σ
  refine px_iload_n dx_Mo_branches_0 rfl ?_
  refine px_bipush (v := 40) dx_Mo_branches_1 rfl ?_
  refine px_icmp_eqN (a := op) (b := 40) dx_Mo_branches_3 (by omega) (by omega) (fun c_3 => ?_) (fun c_3 => ?_)
  · refine px_iconst (v := 1) dx_Mo_branches_18 rfl ?_
    refine px_goto dx_Mo_branches_19 ?_
    exact px_zret dx_Mo_branches_23 rfl (by decide) (by (have e : (brs op) = true := by (simp only [brs, Bool.or_eq_true, Bool.and_eq_true, decide_eq_true_eq, Bool.or_eq_false_iff, Bool.and_eq_false_iff, decide_eq_false_iff_not]; omega)); rw [e] at hp; exact hp)
  · refine px_iload_n dx_Mo_branches_6 rfl ?_
    refine px_bipush (v := 50) dx_Mo_branches_7 rfl ?_
    refine px_icmp_ltN (a := op) (b := 50) dx_Mo_branches_9 (by omega) (by omega) (fun c_9 => ?_) (fun c_9 => ?_)
    · refine px_iconst (v := 0) dx_Mo_branches_22 rfl ?_
      exact px_zret dx_Mo_branches_23 rfl (by decide) (by (have e : (brs op) = false := by (simp only [brs, Bool.or_eq_true, Bool.and_eq_true, decide_eq_true_eq, Bool.or_eq_false_iff, Bool.and_eq_false_iff, decide_eq_false_iff_not]; omega)); rw [e] at hp; exact hp)
    · refine px_iload_n dx_Mo_branches_12 rfl ?_
      refine px_bipush (v := 61) dx_Mo_branches_13 rfl ?_
      refine px_icmp_gtN (a := op) (b := 61) dx_Mo_branches_15 (by omega) (by omega) (fun c_15 => ?_) (fun c_15 => ?_)
      · refine px_iconst (v := 0) dx_Mo_branches_22 rfl ?_
        exact px_zret dx_Mo_branches_23 rfl (by decide) (by (have e : (brs op) = false := by (simp only [brs, Bool.or_eq_true, Bool.and_eq_true, decide_eq_true_eq, Bool.or_eq_false_iff, Bool.and_eq_false_iff, decide_eq_false_iff_not]; omega)); rw [e] at hp; exact hp)
      · refine px_iconst (v := 1) dx_Mo_branches_18 rfl ?_
        refine px_goto dx_Mo_branches_19 ?_
        exact px_zret dx_Mo_branches_23 rfl (by decide) (by (have e : (brs op) = true := by (simp only [brs, Bool.or_eq_true, Bool.and_eq_true, decide_eq_true_eq, Bool.or_eq_false_iff, Bool.and_eq_false_iff, decide_eq_false_iff_not]; omega)); rw [e] at hp; exact hp)
set_option maxRecDepth 100000 in
set_option maxHeartbeats 4000000 in
theorem m_takes {l : Launch} {G : fr_G} {σ : fr_S} {op : Nat} (hop : op < 256) : CT l G yy_Mo_takes rm_Mo_takes [.int (nI (op))] σ (some (.int (nI (tkO op)))) (σ) := by
  intro Post hp
  show PX l G yy_Mo_takes rm_Mo_takes _ false 742 0 0 0 [(0, .int (nI (op)))] [] σ
  refine px_iload_n dx_Mo_takes_0 rfl ?_
  by_cases k_1_0 : op ∈ ([123, 129, 130, 131] : List Nat)
  · refine px_tabG (e := op) (off := 75) [123, 129, 130, 131] dx_Mo_takes_1 (by omega) k_1_0 (by decide) rfl ?_
    refine px_iconst (v := 1) dx_Mo_takes_76 rfl ?_
    exact px_iret dx_Mo_takes_77 rfl (by (have e : tkO op = 1 := by (simp only [tkO]; (repeat' split) <;> first | rfl | omega | (exfalso; omega) | contradiction | (simp_all [List.mem_cons]; done) | (simp_all [List.mem_cons]; omega))); rw [e] at hp; exact hp)
  by_cases k_1_1 : op ∈ ([125, 132, 133, 134] : List Nat)
  · refine px_tabG (e := op) (off := 77) [125, 132, 133, 134] dx_Mo_takes_1 (by omega) k_1_1 (by decide) rfl ?_
    refine px_iconst (v := 2) dx_Mo_takes_78 rfl ?_
    exact px_iret dx_Mo_takes_79 rfl (by (have e : tkO op = 2 := by (simp only [tkO]; (repeat' split) <;> first | rfl | omega | (exfalso; omega) | contradiction | (simp_all [List.mem_cons]; done) | (simp_all [List.mem_cons]; omega))); rw [e] at hp; exact hp)
  by_cases k_1_2 : op ∈ ([127, 135, 136, 137] : List Nat)
  · refine px_tabG (e := op) (off := 79) [127, 135, 136, 137] dx_Mo_takes_1 (by omega) k_1_2 (by decide) rfl ?_
    refine px_iconst (v := 3) dx_Mo_takes_80 rfl ?_
    exact px_iret dx_Mo_takes_81 rfl (by (have e : tkO op = 3 := by (simp only [tkO]; (repeat' split) <;> first | rfl | omega | (exfalso; omega) | contradiction | (simp_all [List.mem_cons]; done) | (simp_all [List.mem_cons]; omega))); rw [e] at hp; exact hp)
  have kn_1 : op ∉ ([123, 125, 127, 129, 130, 131, 132, 133, 134, 135, 136, 137] : List Nat) := by simp only [List.mem_cons, List.not_mem_nil, or_false, not_or] at *; omega
  refine px_tabD (e := op) [123, 125, 127, 129, 130, 131, 132, 133, 134, 135, 136, 137] dx_Mo_takes_1 (by omega) kn_1 14 123 ⟨rfl, rfl⟩ (by decide) rfl ?_
  refine px_iconst (v := 4) dx_Mo_takes_82 rfl ?_
  exact px_iret dx_Mo_takes_83 rfl (by (have e : tkO op = 4 := by (simp only [tkO]; (repeat' split) <;> first | rfl | omega | (exfalso; omega) | contradiction | (simp_all [List.mem_cons]; done) | (simp_all [List.mem_cons]; omega))); rw [e] at hp; exact hp)
set_option maxRecDepth 100000 in
set_option maxHeartbeats 4000000 in
theorem m_gives {l : Launch} {G : fr_G} {σ : fr_S} {op : Nat} (hop : op < 256) : CT l G yy_Mo_gives rm_Mo_gives [.int (nI (op))] σ (some (.int (nI (gvO op)))) (σ) := by
  intro Post hp
  show PX l G yy_Mo_gives rm_Mo_gives _ false 742 0 0 0 [(0, .int (nI (op)))] [] σ
  refine px_iload_n dx_Mo_gives_0 rfl ?_
  by_cases k_1_0 : op ∈ ([123, 132, 135, 138] : List Nat)
  · refine px_tabG (e := op) (off := 87) [123, 132, 135, 138] dx_Mo_gives_1 (by omega) k_1_0 (by decide) rfl ?_
    refine px_iconst (v := 1) dx_Mo_gives_88 rfl ?_
    exact px_iret dx_Mo_gives_89 rfl (by (have e : gvO op = 1 := by (simp only [gvO]; (repeat' split) <;> first | rfl | omega | (exfalso; omega) | contradiction | (simp_all [List.mem_cons]; done) | (simp_all [List.mem_cons]; omega))); rw [e] at hp; exact hp)
  by_cases k_1_1 : op ∈ ([125, 129, 136, 139] : List Nat)
  · refine px_tabG (e := op) (off := 89) [125, 129, 136, 139] dx_Mo_gives_1 (by omega) k_1_1 (by decide) rfl ?_
    refine px_iconst (v := 2) dx_Mo_gives_90 rfl ?_
    exact px_iret dx_Mo_gives_91 rfl (by (have e : gvO op = 2 := by (simp only [gvO]; (repeat' split) <;> first | rfl | omega | (exfalso; omega) | contradiction | (simp_all [List.mem_cons]; done) | (simp_all [List.mem_cons]; omega))); rw [e] at hp; exact hp)
  by_cases k_1_2 : op ∈ ([127, 130, 133, 140] : List Nat)
  · refine px_tabG (e := op) (off := 91) [127, 130, 133, 140] dx_Mo_gives_1 (by omega) k_1_2 (by decide) rfl ?_
    refine px_iconst (v := 3) dx_Mo_gives_92 rfl ?_
    exact px_iret dx_Mo_gives_93 rfl (by (have e : gvO op = 3 := by (simp only [gvO]; (repeat' split) <;> first | rfl | omega | (exfalso; omega) | contradiction | (simp_all [List.mem_cons]; done) | (simp_all [List.mem_cons]; omega))); rw [e] at hp; exact hp)
  have kn_1 : op ∉ ([123, 125, 127, 129, 130, 132, 133, 135, 136, 138, 139, 140] : List Nat) := by simp only [List.mem_cons, List.not_mem_nil, or_false, not_or] at *; omega
  refine px_tabD (e := op) [123, 125, 127, 129, 130, 132, 133, 135, 136, 138, 139, 140] dx_Mo_gives_1 (by omega) kn_1 17 123 ⟨rfl, rfl⟩ (by decide) rfl ?_
  refine px_iconst (v := 4) dx_Mo_gives_94 rfl ?_
  exact px_iret dx_Mo_gives_95 rfl (by (have e : gvO op = 4 := by (simp only [gvO]; (repeat' split) <;> first | rfl | omega | (exfalso; omega) | contradiction | (simp_all [List.mem_cons]; done) | (simp_all [List.mem_cons]; omega))); rw [e] at hp; exact hp)
set_option maxRecDepth 100000 in
set_option maxHeartbeats 4000000 in
theorem m_joined {l : Launch} {G : fr_G} {σ : fr_S} {op : Nat} (hop : op < 256) : CT l G yy_Mo_joined rm_Mo_joined [.int (nI (op))] σ (some (.int (nI (jnO op)))) (σ) := by
  intro Post hp
  show PX l G yy_Mo_joined rm_Mo_joined _ false 742 0 0 0 [(0, .int (nI (op)))] [] σ
  refine px_iload_n dx_Mo_joined_0 rfl ?_
  refine px_sipush (v := 155) dx_Mo_joined_1 rfl ?_
  refine px_icmp_geN (a := op) (b := 155) dx_Mo_joined_4 (by omega) (by omega) (fun c_4 => ?_) (fun c_4 => ?_)
  · refine px_iload_n dx_Mo_joined_11 rfl ?_
    refine px_sipush (v := 160) dx_Mo_joined_12 rfl ?_
    refine px_icmp_geN (a := op) (b := 160) dx_Mo_joined_15 (by omega) (by omega) (fun c_15 => ?_) (fun c_15 => ?_)
    · refine px_iload_n dx_Mo_joined_22 rfl ?_
      refine px_sipush (v := 170) dx_Mo_joined_23 rfl ?_
      refine px_icmp_geN (a := op) (b := 170) dx_Mo_joined_26 (by omega) (by omega) (fun c_26 => ?_) (fun c_26 => ?_)
      · refine px_iconst (v := 4) dx_Mo_joined_33 rfl ?_
        exact px_iret dx_Mo_joined_34 rfl (by (have e : jnO op = 4 := by (simp only [jnO]; (repeat' split) <;> first | rfl | omega | (exfalso; omega) | contradiction | (simp_all [List.mem_cons]; done) | (simp_all [List.mem_cons]; omega))); rw [e] at hp; exact hp)
      · refine px_iconst (v := 3) dx_Mo_joined_29 rfl ?_
        refine px_goto dx_Mo_joined_30 ?_
        exact px_iret dx_Mo_joined_34 rfl (by (have e : jnO op = 3 := by (simp only [jnO]; (repeat' split) <;> first | rfl | omega | (exfalso; omega) | contradiction | (simp_all [List.mem_cons]; done) | (simp_all [List.mem_cons]; omega))); rw [e] at hp; exact hp)
    · refine px_iconst (v := 2) dx_Mo_joined_18 rfl ?_
      refine px_goto dx_Mo_joined_19 ?_
      exact px_iret dx_Mo_joined_34 rfl (by (have e : jnO op = 2 := by (simp only [jnO]; (repeat' split) <;> first | rfl | omega | (exfalso; omega) | contradiction | (simp_all [List.mem_cons]; done) | (simp_all [List.mem_cons]; omega))); rw [e] at hp; exact hp)
  · refine px_iconst (v := 1) dx_Mo_joined_7 rfl ?_
    refine px_goto dx_Mo_joined_8 ?_
    exact px_iret dx_Mo_joined_34 rfl (by (have e : jnO op = 1 := by (simp only [jnO]; (repeat' split) <;> first | rfl | omega | (exfalso; omega) | contradiction | (simp_all [List.mem_cons]; done) | (simp_all [List.mem_cons]; omega))); rw [e] at hp; exact hp)
set_option maxRecDepth 100000 in
set_option maxHeartbeats 4000000 in
theorem m_compared {l : Launch} {G : fr_G} {σ : fr_S} {op : Nat} (hop : op < 256) : CT l G yy_Mo_compared rm_Mo_compared [.int (nI (op))] σ (some (.int (nI (cpO op)))) (σ) := by
  intro Post hp
  show PX l G yy_Mo_compared rm_Mo_compared _ false 742 0 0 0 [(0, .int (nI (op)))] [] σ
  refine px_iload_n dx_Mo_compared_0 rfl ?_
  refine px_bipush (v := 45) dx_Mo_compared_1 rfl ?_
  refine px_icmp_neN (a := op) (b := 45) dx_Mo_compared_3 (by omega) (by omega) (fun c_3 => ?_) (fun c_3 => ?_)
  · refine px_iload_n dx_Mo_compared_10 rfl ?_
    refine px_bipush (v := 47) dx_Mo_compared_11 rfl ?_
    refine px_icmp_neN (a := op) (b := 47) dx_Mo_compared_13 (by omega) (by omega) (fun c_13 => ?_) (fun c_13 => ?_)
    · refine px_iconst (v := 2) dx_Mo_compared_20 rfl ?_
      exact px_iret dx_Mo_compared_21 rfl (by (have e : cpO op = 2 := by (simp only [cpO]; (repeat' split) <;> first | rfl | omega | (exfalso; omega) | contradiction | (simp_all [List.mem_cons]; done) | (simp_all [List.mem_cons]; omega))); rw [e] at hp; exact hp)
    · refine px_iconst (v := 4) dx_Mo_compared_16 rfl ?_
      refine px_goto dx_Mo_compared_17 ?_
      exact px_iret dx_Mo_compared_21 rfl (by (have e : cpO op = 4 := by (simp only [cpO]; (repeat' split) <;> first | rfl | omega | (exfalso; omega) | contradiction | (simp_all [List.mem_cons]; done) | (simp_all [List.mem_cons]; omega))); rw [e] at hp; exact hp)
  · refine px_iconst (v := 3) dx_Mo_compared_6 rfl ?_
    refine px_goto dx_Mo_compared_7 ?_
    exact px_iret dx_Mo_compared_21 rfl (by (have e : cpO op = 3 := by (simp only [cpO]; (repeat' split) <;> first | rfl | omega | (exfalso; omega) | contradiction | (simp_all [List.mem_cons]; done) | (simp_all [List.mem_cons]; omega))); rw [e] at hp; exact hp)
set_option maxRecDepth 100000 in
set_option maxHeartbeats 4000000 in
theorem m_sizeOf {l : Launch} {G : fr_G} {σ : fr_S} {op : Nat} (hop : op < 256) : CT l G yy_Mo_sizeOf rm_Mo_sizeOf [.int (nI (op))] σ (some (.int (nI (szO op)))) (σ) := by
  intro Post hp
  show PX l G yy_Mo_sizeOf rm_Mo_sizeOf _ false 742 0 0 0 [(0, .int (nI (op)))] [] σ
  refine px_iload_n dx_Mo_sizeOf_0 rfl ?_
  refine px_bipush (v := 113) dx_Mo_sizeOf_1 rfl ?_
  refine px_icmp_neN (a := op) (b := 113) dx_Mo_sizeOf_3 (by omega) (by omega) (fun c_3 => ?_) (fun c_3 => ?_)
  · refine px_iload_n dx_Mo_sizeOf_8 rfl ?_
    refine px_if_eqN (a := op) dx_Mo_sizeOf_9 (by omega) (fun c_9 => ?_) (fun c_9 => ?_)
    · refine px_iconst (v := 1) dx_Mo_sizeOf_65 rfl ?_
      exact px_iret dx_Mo_sizeOf_66 rfl (by (have e : szO op = 1 := by (simp only [szO]; simp_all <;> (repeat' split) <;> first | rfl | omega)); rw [e] at hp; exact hp)
    · refine px_iload_n dx_Mo_sizeOf_12 rfl ?_
      refine px_iconst (v := 1) dx_Mo_sizeOf_13 rfl ?_
      refine px_icmp_eqN (a := op) (b := 1) dx_Mo_sizeOf_14 (by omega) (by omega) (fun c_14 => ?_) (fun c_14 => ?_)
      · refine px_iconst (v := 1) dx_Mo_sizeOf_65 rfl ?_
        exact px_iret dx_Mo_sizeOf_66 rfl (by (have e : szO op = 1 := by (simp only [szO]; simp_all <;> (repeat' split) <;> first | rfl | omega)); rw [e] at hp; exact hp)
      · refine px_iload_n dx_Mo_sizeOf_17 rfl ?_
        refine px_iconst (v := 4) dx_Mo_sizeOf_18 rfl ?_
        refine px_icmp_eqN (a := op) (b := 4) dx_Mo_sizeOf_19 (by omega) (by omega) (fun c_19 => ?_) (fun c_19 => ?_)
        · refine px_iconst (v := 1) dx_Mo_sizeOf_65 rfl ?_
          exact px_iret dx_Mo_sizeOf_66 rfl (by (have e : szO op = 1 := by (simp only [szO]; simp_all <;> (repeat' split) <;> first | rfl | omega)); rw [e] at hp; exact hp)
        · refine px_iload_n dx_Mo_sizeOf_22 rfl ?_
          refine px_bipush (v := 10) dx_Mo_sizeOf_23 rfl ?_
          refine px_icmp_eqN (a := op) (b := 10) dx_Mo_sizeOf_25 (by omega) (by omega) (fun c_25 => ?_) (fun c_25 => ?_)
          · refine px_iconst (v := 1) dx_Mo_sizeOf_65 rfl ?_
            exact px_iret dx_Mo_sizeOf_66 rfl (by (have e : szO op = 1 := by (simp only [szO]; simp_all <;> (repeat' split) <;> first | rfl | omega)); rw [e] at hp; exact hp)
          · refine px_iload_n dx_Mo_sizeOf_28 rfl ?_
            refine px_bipush (v := 11) dx_Mo_sizeOf_29 rfl ?_
            refine px_icmp_eqN (a := op) (b := 11) dx_Mo_sizeOf_31 (by omega) (by omega) (fun c_31 => ?_) (fun c_31 => ?_)
            · refine px_iconst (v := 1) dx_Mo_sizeOf_65 rfl ?_
              exact px_iret dx_Mo_sizeOf_66 rfl (by (have e : szO op = 1 := by (simp only [szO]; simp_all <;> (repeat' split) <;> first | rfl | omega)); rw [e] at hp; exact hp)
            · refine px_iload_n dx_Mo_sizeOf_34 rfl ?_
              refine px_bipush (v := 14) dx_Mo_sizeOf_35 rfl ?_
              refine px_icmp_ltN (a := op) (b := 14) dx_Mo_sizeOf_37 (by omega) (by omega) (fun c_37 => ?_) (fun c_37 => ?_)
              · refine px_iload_n dx_Mo_sizeOf_46 rfl ?_
                refine px_bipush (v := 18) dx_Mo_sizeOf_47 rfl ?_
                refine px_icmp_eqN (a := op) (b := 18) dx_Mo_sizeOf_49 (by omega) (by omega) (fun c_49 => ?_) (fun c_49 => ?_)
                · refine px_iconst (v := 1) dx_Mo_sizeOf_65 rfl ?_
                  exact px_iret dx_Mo_sizeOf_66 rfl (by (have e : szO op = 1 := by (simp only [szO]; simp_all <;> (repeat' split) <;> first | rfl | omega)); rw [e] at hp; exact hp)
                · refine px_iload_n dx_Mo_sizeOf_52 rfl ?_
                  refine px_bipush (v := 40) dx_Mo_sizeOf_53 rfl ?_
                  refine px_icmp_eqN (a := op) (b := 40) dx_Mo_sizeOf_55 (by omega) (by omega) (fun c_55 => ?_) (fun c_55 => ?_)
                  · refine px_iconst (v := 1) dx_Mo_sizeOf_65 rfl ?_
                    exact px_iret dx_Mo_sizeOf_66 rfl (by (have e : szO op = 1 := by (simp only [szO]; simp_all <;> (repeat' split) <;> first | rfl | omega)); rw [e] at hp; exact hp)
                  · refine px_iload_n dx_Mo_sizeOf_58 rfl ?_
                    refine px_cS (Y := yy_Mo_sizeOf) (Yc := yy_Mo_converts) (As := [.int (nI (op))]) dx_Mo_sizeOf_59 ml_Mo_163 ms_Mo_converts np_Mo_converts rfl (Nat.le_of_ble_eq_true rfl) (Nat.le_of_ble_eq_true rfl) rk_Mo_sizeOf_Mo_converts rfl (m_converts hop) zz_0 ?_
                    refine px_if_eqB dx_Mo_sizeOf_62 (fun c_62 => ?_) (fun c_62 => ?_)
                    · refine px_iload_n dx_Mo_sizeOf_67 rfl ?_
                      refine px_bipush (v := 19) dx_Mo_sizeOf_68 rfl ?_
                      refine px_icmp_eqN (a := op) (b := 19) dx_Mo_sizeOf_70 (by omega) (by omega) (fun c_70 => ?_) (fun c_70 => ?_)
                      · refine px_iconst (v := 2) dx_Mo_sizeOf_117 rfl ?_
                        refine px_goto dx_Mo_sizeOf_118 ?_
                        exact px_iret dx_Mo_sizeOf_122 rfl (by (have e : szO op = 2 := by (simp only [szO]; simp_all <;> (repeat' split) <;> first | rfl | omega)); rw [e] at hp; exact hp)
                      · refine px_iload_n dx_Mo_sizeOf_73 rfl ?_
                        refine px_bipush (v := 22) dx_Mo_sizeOf_74 rfl ?_
                        refine px_icmp_eqN (a := op) (b := 22) dx_Mo_sizeOf_76 (by omega) (by omega) (fun c_76 => ?_) (fun c_76 => ?_)
                        · refine px_iconst (v := 2) dx_Mo_sizeOf_117 rfl ?_
                          refine px_goto dx_Mo_sizeOf_118 ?_
                          exact px_iret dx_Mo_sizeOf_122 rfl (by (have e : szO op = 2 := by (simp only [szO]; simp_all <;> (repeat' split) <;> first | rfl | omega)); rw [e] at hp; exact hp)
                        · refine px_iload_n dx_Mo_sizeOf_79 rfl ?_
                          refine px_bipush (v := 50) dx_Mo_sizeOf_80 rfl ?_
                          refine px_icmp_ltN (a := op) (b := 50) dx_Mo_sizeOf_82 (by omega) (by omega) (fun c_82 => ?_) (fun c_82 => ?_)
                          · refine px_iload_n dx_Mo_sizeOf_91 rfl ?_
                            refine px_cS (Y := yy_Mo_sizeOf) (Yc := yy_Mo_compares) (As := [.int (nI (op))]) dx_Mo_sizeOf_92 ml_Mo_167 ms_Mo_compares np_Mo_compares rfl (Nat.le_of_ble_eq_true rfl) (Nat.le_of_ble_eq_true rfl) rk_Mo_sizeOf_Mo_compares rfl (m_compares hop) zz_0 ?_
                            refine px_if_neB dx_Mo_sizeOf_95 (fun c_95 => ?_) (fun c_95 => ?_)
                            · refine px_iconst (v := 2) dx_Mo_sizeOf_117 rfl ?_
                              refine px_goto dx_Mo_sizeOf_118 ?_
                              exact px_iret dx_Mo_sizeOf_122 rfl (by (have e : szO op = 2 := by (simp only [szO]; simp_all <;> (repeat' split) <;> first | rfl | omega)); rw [e] at hp; exact hp)
                            · refine px_iload_n dx_Mo_sizeOf_98 rfl ?_
                              refine px_bipush (v := 96) dx_Mo_sizeOf_99 rfl ?_
                              refine px_icmp_eqN (a := op) (b := 96) dx_Mo_sizeOf_101 (by omega) (by omega) (fun c_101 => ?_) (fun c_101 => ?_)
                              · refine px_iconst (v := 2) dx_Mo_sizeOf_117 rfl ?_
                                refine px_goto dx_Mo_sizeOf_118 ?_
                                exact px_iret dx_Mo_sizeOf_122 rfl (by (have e : szO op = 2 := by (simp only [szO]; simp_all <;> (repeat' split) <;> first | rfl | omega)); rw [e] at hp; exact hp)
                              · refine px_iload_n dx_Mo_sizeOf_104 rfl ?_
                                refine px_bipush (v := 103) dx_Mo_sizeOf_105 rfl ?_
                                refine px_icmp_eqN (a := op) (b := 103) dx_Mo_sizeOf_107 (by omega) (by omega) (fun c_107 => ?_) (fun c_107 => ?_)
                                · refine px_iconst (v := 2) dx_Mo_sizeOf_117 rfl ?_
                                  refine px_goto dx_Mo_sizeOf_118 ?_
                                  exact px_iret dx_Mo_sizeOf_122 rfl (by (have e : szO op = 2 := by (simp only [szO]; simp_all <;> (repeat' split) <;> first | rfl | omega)); rw [e] at hp; exact hp)
                                · refine px_iload_n dx_Mo_sizeOf_110 rfl ?_
                                  refine px_cS (Y := yy_Mo_sizeOf) (Yc := yy_Mo_joins) (As := [.int (nI (op))]) dx_Mo_sizeOf_111 ml_Mo_170 ms_Mo_joins np_Mo_joins rfl (Nat.le_of_ble_eq_true rfl) (Nat.le_of_ble_eq_true rfl) rk_Mo_sizeOf_Mo_joins rfl (m_joins hop) zz_0 ?_
                                  refine px_if_eqB dx_Mo_sizeOf_114 (fun c_114 => ?_) (fun c_114 => ?_)
                                  · refine px_iconst (v := 0) dx_Mo_sizeOf_121 rfl ?_
                                    exact px_iret dx_Mo_sizeOf_122 rfl (by (have e : szO op = 0 := by (simp only [szO]; simp_all <;> (repeat' split) <;> first | rfl | omega)); rw [e] at hp; exact hp)
                                  · refine px_iconst (v := 2) dx_Mo_sizeOf_117 rfl ?_
                                    refine px_goto dx_Mo_sizeOf_118 ?_
                                    exact px_iret dx_Mo_sizeOf_122 rfl (by (have e : szO op = 2 := by (simp only [szO]; simp_all <;> (repeat' split) <;> first | rfl | omega)); rw [e] at hp; exact hp)
                          · refine px_iload_n dx_Mo_sizeOf_85 rfl ?_
                            refine px_bipush (v := 61) dx_Mo_sizeOf_86 rfl ?_
                            refine px_icmp_leN (a := op) (b := 61) dx_Mo_sizeOf_88 (by omega) (by omega) (fun c_88 => ?_) (fun c_88 => ?_)
                            · refine px_iconst (v := 2) dx_Mo_sizeOf_117 rfl ?_
                              refine px_goto dx_Mo_sizeOf_118 ?_
                              exact px_iret dx_Mo_sizeOf_122 rfl (by (have e : szO op = 2 := by (simp only [szO]; simp_all <;> (repeat' split) <;> first | rfl | omega)); rw [e] at hp; exact hp)
                            · refine px_iload_n dx_Mo_sizeOf_91 rfl ?_
                              refine px_cS (Y := yy_Mo_sizeOf) (Yc := yy_Mo_compares) (As := [.int (nI (op))]) dx_Mo_sizeOf_92 ml_Mo_167 ms_Mo_compares np_Mo_compares rfl (Nat.le_of_ble_eq_true rfl) (Nat.le_of_ble_eq_true rfl) rk_Mo_sizeOf_Mo_compares rfl (m_compares hop) zz_0 ?_
                              refine px_if_neB dx_Mo_sizeOf_95 (fun c_95 => ?_) (fun c_95 => ?_)
                              · refine px_iconst (v := 2) dx_Mo_sizeOf_117 rfl ?_
                                refine px_goto dx_Mo_sizeOf_118 ?_
                                exact px_iret dx_Mo_sizeOf_122 rfl (by (have e : szO op = 2 := by (simp only [szO]; simp_all <;> (repeat' split) <;> first | rfl | omega)); rw [e] at hp; exact hp)
                              · refine px_iload_n dx_Mo_sizeOf_98 rfl ?_
                                refine px_bipush (v := 96) dx_Mo_sizeOf_99 rfl ?_
                                refine px_icmp_eqN (a := op) (b := 96) dx_Mo_sizeOf_101 (by omega) (by omega) (fun c_101 => ?_) (fun c_101 => ?_)
                                · refine px_iconst (v := 2) dx_Mo_sizeOf_117 rfl ?_
                                  refine px_goto dx_Mo_sizeOf_118 ?_
                                  exact px_iret dx_Mo_sizeOf_122 rfl (by (have e : szO op = 2 := by (simp only [szO]; simp_all <;> (repeat' split) <;> first | rfl | omega)); rw [e] at hp; exact hp)
                                · refine px_iload_n dx_Mo_sizeOf_104 rfl ?_
                                  refine px_bipush (v := 103) dx_Mo_sizeOf_105 rfl ?_
                                  refine px_icmp_eqN (a := op) (b := 103) dx_Mo_sizeOf_107 (by omega) (by omega) (fun c_107 => ?_) (fun c_107 => ?_)
                                  · refine px_iconst (v := 2) dx_Mo_sizeOf_117 rfl ?_
                                    refine px_goto dx_Mo_sizeOf_118 ?_
                                    exact px_iret dx_Mo_sizeOf_122 rfl (by (have e : szO op = 2 := by (simp only [szO]; simp_all <;> (repeat' split) <;> first | rfl | omega)); rw [e] at hp; exact hp)
                                  · refine px_iload_n dx_Mo_sizeOf_110 rfl ?_
                                    refine px_cS (Y := yy_Mo_sizeOf) (Yc := yy_Mo_joins) (As := [.int (nI (op))]) dx_Mo_sizeOf_111 ml_Mo_170 ms_Mo_joins np_Mo_joins rfl (Nat.le_of_ble_eq_true rfl) (Nat.le_of_ble_eq_true rfl) rk_Mo_sizeOf_Mo_joins rfl (m_joins hop) zz_0 ?_
                                    refine px_if_eqB dx_Mo_sizeOf_114 (fun c_114 => ?_) (fun c_114 => ?_)
                                    · refine px_iconst (v := 0) dx_Mo_sizeOf_121 rfl ?_
                                      exact px_iret dx_Mo_sizeOf_122 rfl (by (have e : szO op = 0 := by (simp only [szO]; simp_all <;> (repeat' split) <;> first | rfl | omega)); rw [e] at hp; exact hp)
                                    · refine px_iconst (v := 2) dx_Mo_sizeOf_117 rfl ?_
                                      refine px_goto dx_Mo_sizeOf_118 ?_
                                      exact px_iret dx_Mo_sizeOf_122 rfl (by (have e : szO op = 2 := by (simp only [szO]; simp_all <;> (repeat' split) <;> first | rfl | omega)); rw [e] at hp; exact hp)
                    · refine px_iconst (v := 1) dx_Mo_sizeOf_65 rfl ?_
                      exact px_iret dx_Mo_sizeOf_66 rfl (by (have e : szO op = 1 := by (simp only [szO]; simp_all <;> (repeat' split) <;> first | rfl | omega)); rw [e] at hp; exact hp)
              · refine px_iload_n dx_Mo_sizeOf_40 rfl ?_
                refine px_bipush (v := 16) dx_Mo_sizeOf_41 rfl ?_
                refine px_icmp_leN (a := op) (b := 16) dx_Mo_sizeOf_43 (by omega) (by omega) (fun c_43 => ?_) (fun c_43 => ?_)
                · refine px_iconst (v := 1) dx_Mo_sizeOf_65 rfl ?_
                  exact px_iret dx_Mo_sizeOf_66 rfl (by (have e : szO op = 1 := by (simp only [szO]; simp_all <;> (repeat' split) <;> first | rfl | omega)); rw [e] at hp; exact hp)
                · refine px_iload_n dx_Mo_sizeOf_46 rfl ?_
                  refine px_bipush (v := 18) dx_Mo_sizeOf_47 rfl ?_
                  refine px_icmp_eqN (a := op) (b := 18) dx_Mo_sizeOf_49 (by omega) (by omega) (fun c_49 => ?_) (fun c_49 => ?_)
                  · refine px_iconst (v := 1) dx_Mo_sizeOf_65 rfl ?_
                    exact px_iret dx_Mo_sizeOf_66 rfl (by (have e : szO op = 1 := by (simp only [szO]; simp_all <;> (repeat' split) <;> first | rfl | omega)); rw [e] at hp; exact hp)
                  · refine px_iload_n dx_Mo_sizeOf_52 rfl ?_
                    refine px_bipush (v := 40) dx_Mo_sizeOf_53 rfl ?_
                    refine px_icmp_eqN (a := op) (b := 40) dx_Mo_sizeOf_55 (by omega) (by omega) (fun c_55 => ?_) (fun c_55 => ?_)
                    · refine px_iconst (v := 1) dx_Mo_sizeOf_65 rfl ?_
                      exact px_iret dx_Mo_sizeOf_66 rfl (by (have e : szO op = 1 := by (simp only [szO]; simp_all <;> (repeat' split) <;> first | rfl | omega)); rw [e] at hp; exact hp)
                    · refine px_iload_n dx_Mo_sizeOf_58 rfl ?_
                      refine px_cS (Y := yy_Mo_sizeOf) (Yc := yy_Mo_converts) (As := [.int (nI (op))]) dx_Mo_sizeOf_59 ml_Mo_163 ms_Mo_converts np_Mo_converts rfl (Nat.le_of_ble_eq_true rfl) (Nat.le_of_ble_eq_true rfl) rk_Mo_sizeOf_Mo_converts rfl (m_converts hop) zz_0 ?_
                      refine px_if_eqB dx_Mo_sizeOf_62 (fun c_62 => ?_) (fun c_62 => ?_)
                      · refine px_iload_n dx_Mo_sizeOf_67 rfl ?_
                        refine px_bipush (v := 19) dx_Mo_sizeOf_68 rfl ?_
                        refine px_icmp_eqN (a := op) (b := 19) dx_Mo_sizeOf_70 (by omega) (by omega) (fun c_70 => ?_) (fun c_70 => ?_)
                        · refine px_iconst (v := 2) dx_Mo_sizeOf_117 rfl ?_
                          refine px_goto dx_Mo_sizeOf_118 ?_
                          exact px_iret dx_Mo_sizeOf_122 rfl (by (have e : szO op = 2 := by (simp only [szO]; simp_all <;> (repeat' split) <;> first | rfl | omega)); rw [e] at hp; exact hp)
                        · refine px_iload_n dx_Mo_sizeOf_73 rfl ?_
                          refine px_bipush (v := 22) dx_Mo_sizeOf_74 rfl ?_
                          refine px_icmp_eqN (a := op) (b := 22) dx_Mo_sizeOf_76 (by omega) (by omega) (fun c_76 => ?_) (fun c_76 => ?_)
                          · refine px_iconst (v := 2) dx_Mo_sizeOf_117 rfl ?_
                            refine px_goto dx_Mo_sizeOf_118 ?_
                            exact px_iret dx_Mo_sizeOf_122 rfl (by (have e : szO op = 2 := by (simp only [szO]; simp_all <;> (repeat' split) <;> first | rfl | omega)); rw [e] at hp; exact hp)
                          · refine px_iload_n dx_Mo_sizeOf_79 rfl ?_
                            refine px_bipush (v := 50) dx_Mo_sizeOf_80 rfl ?_
                            refine px_icmp_ltN (a := op) (b := 50) dx_Mo_sizeOf_82 (by omega) (by omega) (fun c_82 => ?_) (fun c_82 => ?_)
                            · refine px_iload_n dx_Mo_sizeOf_91 rfl ?_
                              refine px_cS (Y := yy_Mo_sizeOf) (Yc := yy_Mo_compares) (As := [.int (nI (op))]) dx_Mo_sizeOf_92 ml_Mo_167 ms_Mo_compares np_Mo_compares rfl (Nat.le_of_ble_eq_true rfl) (Nat.le_of_ble_eq_true rfl) rk_Mo_sizeOf_Mo_compares rfl (m_compares hop) zz_0 ?_
                              refine px_if_neB dx_Mo_sizeOf_95 (fun c_95 => ?_) (fun c_95 => ?_)
                              · refine px_iconst (v := 2) dx_Mo_sizeOf_117 rfl ?_
                                refine px_goto dx_Mo_sizeOf_118 ?_
                                exact px_iret dx_Mo_sizeOf_122 rfl (by (have e : szO op = 2 := by (simp only [szO]; simp_all <;> (repeat' split) <;> first | rfl | omega)); rw [e] at hp; exact hp)
                              · refine px_iload_n dx_Mo_sizeOf_98 rfl ?_
                                refine px_bipush (v := 96) dx_Mo_sizeOf_99 rfl ?_
                                refine px_icmp_eqN (a := op) (b := 96) dx_Mo_sizeOf_101 (by omega) (by omega) (fun c_101 => ?_) (fun c_101 => ?_)
                                · refine px_iconst (v := 2) dx_Mo_sizeOf_117 rfl ?_
                                  refine px_goto dx_Mo_sizeOf_118 ?_
                                  exact px_iret dx_Mo_sizeOf_122 rfl (by (have e : szO op = 2 := by (simp only [szO]; simp_all <;> (repeat' split) <;> first | rfl | omega)); rw [e] at hp; exact hp)
                                · refine px_iload_n dx_Mo_sizeOf_104 rfl ?_
                                  refine px_bipush (v := 103) dx_Mo_sizeOf_105 rfl ?_
                                  refine px_icmp_eqN (a := op) (b := 103) dx_Mo_sizeOf_107 (by omega) (by omega) (fun c_107 => ?_) (fun c_107 => ?_)
                                  · refine px_iconst (v := 2) dx_Mo_sizeOf_117 rfl ?_
                                    refine px_goto dx_Mo_sizeOf_118 ?_
                                    exact px_iret dx_Mo_sizeOf_122 rfl (by (have e : szO op = 2 := by (simp only [szO]; simp_all <;> (repeat' split) <;> first | rfl | omega)); rw [e] at hp; exact hp)
                                  · refine px_iload_n dx_Mo_sizeOf_110 rfl ?_
                                    refine px_cS (Y := yy_Mo_sizeOf) (Yc := yy_Mo_joins) (As := [.int (nI (op))]) dx_Mo_sizeOf_111 ml_Mo_170 ms_Mo_joins np_Mo_joins rfl (Nat.le_of_ble_eq_true rfl) (Nat.le_of_ble_eq_true rfl) rk_Mo_sizeOf_Mo_joins rfl (m_joins hop) zz_0 ?_
                                    refine px_if_eqB dx_Mo_sizeOf_114 (fun c_114 => ?_) (fun c_114 => ?_)
                                    · refine px_iconst (v := 0) dx_Mo_sizeOf_121 rfl ?_
                                      exact px_iret dx_Mo_sizeOf_122 rfl (by (have e : szO op = 0 := by (simp only [szO]; simp_all <;> (repeat' split) <;> first | rfl | omega)); rw [e] at hp; exact hp)
                                    · refine px_iconst (v := 2) dx_Mo_sizeOf_117 rfl ?_
                                      refine px_goto dx_Mo_sizeOf_118 ?_
                                      exact px_iret dx_Mo_sizeOf_122 rfl (by (have e : szO op = 2 := by (simp only [szO]; simp_all <;> (repeat' split) <;> first | rfl | omega)); rw [e] at hp; exact hp)
                            · refine px_iload_n dx_Mo_sizeOf_85 rfl ?_
                              refine px_bipush (v := 61) dx_Mo_sizeOf_86 rfl ?_
                              refine px_icmp_leN (a := op) (b := 61) dx_Mo_sizeOf_88 (by omega) (by omega) (fun c_88 => ?_) (fun c_88 => ?_)
                              · refine px_iconst (v := 2) dx_Mo_sizeOf_117 rfl ?_
                                refine px_goto dx_Mo_sizeOf_118 ?_
                                exact px_iret dx_Mo_sizeOf_122 rfl (by (have e : szO op = 2 := by (simp only [szO]; simp_all <;> (repeat' split) <;> first | rfl | omega)); rw [e] at hp; exact hp)
                              · refine px_iload_n dx_Mo_sizeOf_91 rfl ?_
                                refine px_cS (Y := yy_Mo_sizeOf) (Yc := yy_Mo_compares) (As := [.int (nI (op))]) dx_Mo_sizeOf_92 ml_Mo_167 ms_Mo_compares np_Mo_compares rfl (Nat.le_of_ble_eq_true rfl) (Nat.le_of_ble_eq_true rfl) rk_Mo_sizeOf_Mo_compares rfl (m_compares hop) zz_0 ?_
                                refine px_if_neB dx_Mo_sizeOf_95 (fun c_95 => ?_) (fun c_95 => ?_)
                                · refine px_iconst (v := 2) dx_Mo_sizeOf_117 rfl ?_
                                  refine px_goto dx_Mo_sizeOf_118 ?_
                                  exact px_iret dx_Mo_sizeOf_122 rfl (by (have e : szO op = 2 := by (simp only [szO]; simp_all <;> (repeat' split) <;> first | rfl | omega)); rw [e] at hp; exact hp)
                                · refine px_iload_n dx_Mo_sizeOf_98 rfl ?_
                                  refine px_bipush (v := 96) dx_Mo_sizeOf_99 rfl ?_
                                  refine px_icmp_eqN (a := op) (b := 96) dx_Mo_sizeOf_101 (by omega) (by omega) (fun c_101 => ?_) (fun c_101 => ?_)
                                  · refine px_iconst (v := 2) dx_Mo_sizeOf_117 rfl ?_
                                    refine px_goto dx_Mo_sizeOf_118 ?_
                                    exact px_iret dx_Mo_sizeOf_122 rfl (by (have e : szO op = 2 := by (simp only [szO]; simp_all <;> (repeat' split) <;> first | rfl | omega)); rw [e] at hp; exact hp)
                                  · refine px_iload_n dx_Mo_sizeOf_104 rfl ?_
                                    refine px_bipush (v := 103) dx_Mo_sizeOf_105 rfl ?_
                                    refine px_icmp_eqN (a := op) (b := 103) dx_Mo_sizeOf_107 (by omega) (by omega) (fun c_107 => ?_) (fun c_107 => ?_)
                                    · refine px_iconst (v := 2) dx_Mo_sizeOf_117 rfl ?_
                                      refine px_goto dx_Mo_sizeOf_118 ?_
                                      exact px_iret dx_Mo_sizeOf_122 rfl (by (have e : szO op = 2 := by (simp only [szO]; simp_all <;> (repeat' split) <;> first | rfl | omega)); rw [e] at hp; exact hp)
                                    · refine px_iload_n dx_Mo_sizeOf_110 rfl ?_
                                      refine px_cS (Y := yy_Mo_sizeOf) (Yc := yy_Mo_joins) (As := [.int (nI (op))]) dx_Mo_sizeOf_111 ml_Mo_170 ms_Mo_joins np_Mo_joins rfl (Nat.le_of_ble_eq_true rfl) (Nat.le_of_ble_eq_true rfl) rk_Mo_sizeOf_Mo_joins rfl (m_joins hop) zz_0 ?_
                                      refine px_if_eqB dx_Mo_sizeOf_114 (fun c_114 => ?_) (fun c_114 => ?_)
                                      · refine px_iconst (v := 0) dx_Mo_sizeOf_121 rfl ?_
                                        exact px_iret dx_Mo_sizeOf_122 rfl (by (have e : szO op = 0 := by (simp only [szO]; simp_all <;> (repeat' split) <;> first | rfl | omega)); rw [e] at hp; exact hp)
                                      · refine px_iconst (v := 2) dx_Mo_sizeOf_117 rfl ?_
                                        refine px_goto dx_Mo_sizeOf_118 ?_
                                        exact px_iret dx_Mo_sizeOf_122 rfl (by (have e : szO op = 2 := by (simp only [szO]; simp_all <;> (repeat' split) <;> first | rfl | omega)); rw [e] at hp; exact hp)
                      · refine px_iconst (v := 1) dx_Mo_sizeOf_65 rfl ?_
                        exact px_iret dx_Mo_sizeOf_66 rfl (by (have e : szO op = 1 := by (simp only [szO]; simp_all <;> (repeat' split) <;> first | rfl | omega)); rw [e] at hp; exact hp)
  · refine px_iconst (v := 3) dx_Mo_sizeOf_6 rfl ?_
    exact px_iret dx_Mo_sizeOf_7 rfl (by (have e : szO op = 3 := by (simp only [szO]; simp_all <;> (repeat' split) <;> first | rfl | omega)); rw [e] at hp; exact hp)
set_option maxRecDepth 100000 in
set_option maxHeartbeats 4000000 in
theorem m_number {l : Launch} {G : fr_G} {σ : fr_S} (hM : MR σ) {m p w : Nat} (h : 40 * m + (p + 1) < 320) (hw : gI σ 726 (40 * m + (p + 1)) = nI w) (hw2 : w < 65536) : CT l G yy_Mo_number rm_Mo_number [.ref (717), .int (nI (m)), .int (nI (p))] σ (some (.int (nmI w))) (σ) := by
  intro Post hp
  show PX l G yy_Mo_number rm_Mo_number _ false 742 0 0 0 [(0, .ref (717)), (1, .int (nI (m))), (2, .int (nI (p)))] [] σ
  refine px_aload_n dx_Mo_number_0 rfl ?_
  refine px_iload_n dx_Mo_number_1 rfl ?_
  refine px_iload_n dx_Mo_number_2 rfl ?_
  refine px_iconst (v := 1) dx_Mo_number_3 rfl ?_
  refine px_iaddN (a := p) (b := 1) dx_Mo_number_4 ?_
  refine px_cV (Y := yy_Mo_number) (Yc := yy_Mo_unit) (b := 717) (As := [.int (nI (m)), .int (nI (p + 1))]) dx_Mo_number_5 ml_Mo_159 mv_Mo_unit np_Mo_unit ⟨_, rfl⟩ (by decide) rfl (by decide) rfl (Nat.le_of_ble_eq_true rfl) (Nat.le_of_ble_eq_true rfl) rk_Mo_number_Mo_unit rfl (m_unit hM h hw) zz_0 ?_
  refine px_istore_n (lv' := [(3, .int (nI (w))), (0, .ref (717)), (1, .int (nI (m))), (2, .int (nI (p)))]) dx_Mo_number_8 (by decide) rfl ?_
  refine px_iload_n dx_Mo_number_9 rfl ?_
  refine px_sipush (v := 32767) dx_Mo_number_10 rfl ?_
  refine px_icmp_leN (a := w) (b := 32767) dx_Mo_number_13 (by omega) (by omega) (fun c_13 => ?_) (fun c_13 => ?_)
  · refine px_iload_n dx_Mo_number_23 rfl ?_
    exact px_iret dx_Mo_number_24 rfl (by (have e : nmI w = nI (w) := if_neg (by omega)); rw [e] at hp; exact hp)
  · refine px_iload_n dx_Mo_number_16 rfl ?_
    refine px_ldc dx_Mo_number_17 kk_Mo_162 ?_
    refine px_isub dx_Mo_number_19 ?_
    refine px_goto dx_Mo_number_20 ?_
    exact px_iret dx_Mo_number_24 rfl (by (have e : nmI w = (nI (w)) - 65536 := if_pos (by omega)); rw [e] at hp; exact hp)
set_option maxRecDepth 100000 in
set_option maxHeartbeats 4000000 in
theorem m_regC {l : Launch} {G : fr_G} {σ : fr_S} (hM : MR σ) {m p w : Nat} (h : 40 * m + (p + 1) < 320) (hw : gI σ 726 (40 * m + (p + 1)) = nI w) (hw2 : w < 65536) : CT l G yy_Mo_regC rm_Mo_regC [.ref (717), .int (nI (m)), .int (nI (p))] σ (some (.int (nI (opS w)))) (σ) := by
  intro Post hp
  show PX l G yy_Mo_regC rm_Mo_regC _ false 742 0 0 0 [(0, .ref (717)), (1, .int (nI (m))), (2, .int (nI (p)))] [] σ
  refine px_aload_n dx_Mo_regC_0 rfl ?_
  refine px_iload_n dx_Mo_regC_1 rfl ?_
  refine px_iload_n dx_Mo_regC_2 rfl ?_
  refine px_iconst (v := 1) dx_Mo_regC_3 rfl ?_
  refine px_iaddN (a := p) (b := 1) dx_Mo_regC_4 ?_
  refine px_cV (Y := yy_Mo_regC) (Yc := yy_Mo_unit) (b := 717) (As := [.int (nI (m)), .int (nI (p + 1))]) dx_Mo_regC_5 ml_Mo_159 mv_Mo_unit np_Mo_unit ⟨_, rfl⟩ (by decide) rfl (by decide) rfl (Nat.le_of_ble_eq_true rfl) (Nat.le_of_ble_eq_true rfl) rk_Mo_regC_Mo_unit rfl (m_unit hM h hw) zz_0 ?_
  refine px_sipush (v := 255) dx_Mo_regC_8 rfl ?_
  refine px_iandN (a := w) (w := 8) dx_Mo_regC_11 (by omega) rfl ?_
  exact px_iret dx_Mo_regC_12 rfl (by exact hp)
set_option maxRecDepth 100000 in
set_option maxHeartbeats 4000000 in
theorem m_regD {l : Launch} {G : fr_G} {σ : fr_S} (hM : MR σ) {m p w : Nat} (h : 40 * m + (p + 1) < 320) (hw : gI σ 726 (40 * m + (p + 1)) = nI w) (hw2 : w < 65536) : CT l G yy_Mo_regD rm_Mo_regD [.ref (717), .int (nI (m)), .int (nI (p))] σ (some (.int (nI (opN w)))) (σ) := by
  intro Post hp
  show PX l G yy_Mo_regD rm_Mo_regD _ false 742 0 0 0 [(0, .ref (717)), (1, .int (nI (m))), (2, .int (nI (p)))] [] σ
  refine px_aload_n dx_Mo_regD_0 rfl ?_
  refine px_iload_n dx_Mo_regD_1 rfl ?_
  refine px_iload_n dx_Mo_regD_2 rfl ?_
  refine px_iconst (v := 1) dx_Mo_regD_3 rfl ?_
  refine px_iaddN (a := p) (b := 1) dx_Mo_regD_4 ?_
  refine px_cV (Y := yy_Mo_regD) (Yc := yy_Mo_unit) (b := 717) (As := [.int (nI (m)), .int (nI (p + 1))]) dx_Mo_regD_5 ml_Mo_159 mv_Mo_unit np_Mo_unit ⟨_, rfl⟩ (by decide) rfl (by decide) rfl (Nat.le_of_ble_eq_true rfl) (Nat.le_of_ble_eq_true rfl) rk_Mo_regD_Mo_unit rfl (m_unit hM h hw) zz_0 ?_
  refine px_bipush (v := 8) dx_Mo_regD_8 rfl ?_
  refine px_ishrN (a := w) (w := 8) dx_Mo_regD_10 (by omega) rfl ?_
  exact px_iret dx_Mo_regD_11 rfl (by exact hp)
def agW (w k : Nat) : Nat := w / 2 ^ (4 * k) % 16
