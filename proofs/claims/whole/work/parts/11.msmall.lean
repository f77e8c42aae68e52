/-! the reference: its cells, small methods -/
def mrf : Nat → Option Nat
  | 2 => some 718 | 6 => some 719 | 7 => some 720 | 8 => some 721 | 9 => some 722 | 10 => some 723 | 11 => some 724 | 12 => some 725 | 13 => some 726 | 14 => some 727 | 15 => some 728 | 16 => some 729 | 17 => some 730
  | 18 => some 731 | 19 => some 732 | 23 => some 733 | 24 => some 734 | 25 => some 735 | 28 => some 736 | 29 => some 737 | 30 => some 738 | 31 => some 739 | 35 => some 740 | _ => none
/-- the reference's object holds its arrays -/
def MR (σ : fr_S) : Prop := ∀ k, gR σ 717 k = mrf k
/-- the words of a type -/
def wdt (t : Nat) : Nat := if t = 2 ∨ t = 4 then 2 else 1
def opS (w : Nat) : Nat := w % 256
def opA (w : Nat) : Nat := w / 256 % 16
def opB (w : Nat) : Nat := w / 4096
def opN (w : Nat) : Nat := w / 256

set_option maxRecDepth 100000 in
set_option maxHeartbeats 4000000 in
theorem m_words {l : Launch} {G : fr_G} {σ : fr_S} {t : Nat} (ht : t < 256) : CT l G yy_Mo_words rm_Mo_words [.int (nI (t))] σ (some (.int (nI (wdt t)))) (σ) := by
  intro Post hp
  show PX l G yy_Mo_words rm_Mo_words _ false 742 0 0 0 [(0, .int (nI (t)))] [] σ
  refine px_iload_n dx_Mo_words_0 rfl ?_
  refine px_iconst (v := 2) dx_Mo_words_1 rfl ?_
  refine px_icmp_eqN (a := t) (b := 2) dx_Mo_words_2 (by omega) (by omega) (fun c_2 => ?_) (fun c_2 => ?_)
  · refine px_iconst (v := 2) dx_Mo_words_10 rfl ?_
    refine px_goto dx_Mo_words_11 ?_
    exact px_iret dx_Mo_words_15 rfl (by simp [wdt, *] at hp; exact hp)
  · refine px_iload_n dx_Mo_words_5 rfl ?_
    refine px_iconst (v := 4) dx_Mo_words_6 rfl ?_
    refine px_icmp_neN (a := t) (b := 4) dx_Mo_words_7 (by omega) (by omega) (fun c_7 => ?_) (fun c_7 => ?_)
    · refine px_iconst (v := 1) dx_Mo_words_14 rfl ?_
      exact px_iret dx_Mo_words_15 rfl (by simp [wdt, *] at hp; exact hp)
    · refine px_iconst (v := 2) dx_Mo_words_10 rfl ?_
      refine px_goto dx_Mo_words_11 ?_
      exact px_iret dx_Mo_words_15 rfl (by simp [wdt, *] at hp; exact hp)
set_option maxRecDepth 100000 in
set_option maxHeartbeats 4000000 in
theorem m_unit {l : Launch} {G : fr_G} {σ : fr_S} (hM : MR σ) {m p w : Nat} (h : 40 * m + p < 320) (hw : gI σ 726 (40 * m + p) = nI w) : CT l G yy_Mo_unit rm_Mo_unit [.ref (717), .int (nI (m)), .int (nI (p))] σ (some (.int (nI (w)))) (σ) := by
  intro Post hp
  show PX l G yy_Mo_unit rm_Mo_unit _ false 742 0 0 0 [(0, .ref (717)), (1, .int (nI (m))), (2, .int (nI (p)))] [] σ
  refine px_aload_n dx_Mo_unit_0 rfl ?_
  refine px_getR (r := 726) dx_Mo_unit_1 fl_Mo_38 rfl (by decide) rfl (hM 13) ?_
  refine px_bipush (v := 40) dx_Mo_unit_4 rfl ?_
  refine px_iload_n dx_Mo_unit_6 rfl ?_
  refine px_imulN (a := 40) (b := m) dx_Mo_unit_7 ?_
  refine px_iload_n dx_Mo_unit_8 rfl ?_
  refine px_iaddN (a := 40 * m) (b := p) dx_Mo_unit_9 ?_
  refine px_ialdN (j := (40 * m) + p) dx_Mo_unit_10 rfl (by decide) (by omega) ?_
  exact px_iret dx_Mo_unit_11 rfl (by rw [hw]; exact hp)
set_option maxRecDepth 100000 in
set_option maxHeartbeats 4000000 in
theorem m_op {l : Launch} {G : fr_G} {σ : fr_S} (hM : MR σ) {m p w : Nat} (h : 40 * m + p < 320) (hw : gI σ 726 (40 * m + p) = nI w) (hw2 : w < 65536) : CT l G yy_Mo_op rm_Mo_op [.ref (717), .int (nI (m)), .int (nI (p))] σ (some (.int (nI (opS w)))) (σ) := by
  intro Post hp
  show PX l G yy_Mo_op rm_Mo_op _ false 742 0 0 0 [(0, .ref (717)), (1, .int (nI (m))), (2, .int (nI (p)))] [] σ
  refine px_aload_n dx_Mo_op_0 rfl ?_
  refine px_iload_n dx_Mo_op_1 rfl ?_
  refine px_iload_n dx_Mo_op_2 rfl ?_
  refine px_cV (As := [.int (nI (m)), .int (nI (p))]) dx_Mo_op_3 ml_Mo_159 mv_Mo_unit np_Mo_unit ⟨_, rfl⟩ (by decide) rfl (by decide) rfl (Nat.le_of_ble_eq_true rfl) (Nat.le_of_ble_eq_true rfl) rk_Mo_op_Mo_unit rfl (m_unit hM h hw) ?_
  refine px_sipush (v := 255) dx_Mo_op_6 rfl ?_
  refine px_iandN (a := w) (w := 8) dx_Mo_op_9 (by omega) rfl ?_
  exact px_iret dx_Mo_op_10 rfl (by exact hp)
set_option maxRecDepth 100000 in
set_option maxHeartbeats 4000000 in
theorem m_regA {l : Launch} {G : fr_G} {σ : fr_S} (hM : MR σ) {m p w : Nat} (h : 40 * m + p < 320) (hw : gI σ 726 (40 * m + p) = nI w) (hw2 : w < 65536) : CT l G yy_Mo_regA rm_Mo_regA [.ref (717), .int (nI (m)), .int (nI (p))] σ (some (.int (nI (opA w)))) (σ) := by
  intro Post hp
  show PX l G yy_Mo_regA rm_Mo_regA _ false 742 0 0 0 [(0, .ref (717)), (1, .int (nI (m))), (2, .int (nI (p)))] [] σ
  refine px_aload_n dx_Mo_regA_0 rfl ?_
  refine px_iload_n dx_Mo_regA_1 rfl ?_
  refine px_iload_n dx_Mo_regA_2 rfl ?_
  refine px_cV (As := [.int (nI (m)), .int (nI (p))]) dx_Mo_regA_3 ml_Mo_159 mv_Mo_unit np_Mo_unit ⟨_, rfl⟩ (by decide) rfl (by decide) rfl (Nat.le_of_ble_eq_true rfl) (Nat.le_of_ble_eq_true rfl) rk_Mo_regA_Mo_unit rfl (m_unit hM h hw) ?_
  refine px_bipush (v := 8) dx_Mo_regA_6 rfl ?_
  refine px_ishrN (a := w) (w := 8) dx_Mo_regA_8 (by omega) rfl ?_
  refine px_bipush (v := 15) dx_Mo_regA_9 rfl ?_
  refine px_iandN (a := w / 256) (w := 4) dx_Mo_regA_11 (by omega) rfl ?_
  exact px_iret dx_Mo_regA_12 rfl (by exact hp)
set_option maxRecDepth 100000 in
set_option maxHeartbeats 4000000 in
theorem m_regB {l : Launch} {G : fr_G} {σ : fr_S} (hM : MR σ) {m p w : Nat} (h : 40 * m + p < 320) (hw : gI σ 726 (40 * m + p) = nI w) (hw2 : w < 65536) : CT l G yy_Mo_regB rm_Mo_regB [.ref (717), .int (nI (m)), .int (nI (p))] σ (some (.int (nI (opB w)))) (σ) := by
  intro Post hp
  show PX l G yy_Mo_regB rm_Mo_regB _ false 742 0 0 0 [(0, .ref (717)), (1, .int (nI (m))), (2, .int (nI (p)))] [] σ
  refine px_aload_n dx_Mo_regB_0 rfl ?_
  refine px_iload_n dx_Mo_regB_1 rfl ?_
  refine px_iload_n dx_Mo_regB_2 rfl ?_
  refine px_cV (As := [.int (nI (m)), .int (nI (p))]) dx_Mo_regB_3 ml_Mo_159 mv_Mo_unit np_Mo_unit ⟨_, rfl⟩ (by decide) rfl (by decide) rfl (Nat.le_of_ble_eq_true rfl) (Nat.le_of_ble_eq_true rfl) rk_Mo_regB_Mo_unit rfl (m_unit hM h hw) ?_
  refine px_bipush (v := 12) dx_Mo_regB_6 rfl ?_
  refine px_ishrN (a := w) (w := 12) dx_Mo_regB_8 (by omega) rfl ?_
  exact px_iret dx_Mo_regB_9 rfl (by exact hp)
set_option maxRecDepth 100000 in
set_option maxHeartbeats 4000000 in
theorem m_regAA {l : Launch} {G : fr_G} {σ : fr_S} (hM : MR σ) {m p w : Nat} (h : 40 * m + p < 320) (hw : gI σ 726 (40 * m + p) = nI w) (hw2 : w < 65536) : CT l G yy_Mo_regAA rm_Mo_regAA [.ref (717), .int (nI (m)), .int (nI (p))] σ (some (.int (nI (opN w)))) (σ) := by
  intro Post hp
  show PX l G yy_Mo_regAA rm_Mo_regAA _ false 742 0 0 0 [(0, .ref (717)), (1, .int (nI (m))), (2, .int (nI (p)))] [] σ
  refine px_aload_n dx_Mo_regAA_0 rfl ?_
  refine px_iload_n dx_Mo_regAA_1 rfl ?_
  refine px_iload_n dx_Mo_regAA_2 rfl ?_
  refine px_cV (As := [.int (nI (m)), .int (nI (p))]) dx_Mo_regAA_3 ml_Mo_159 mv_Mo_unit np_Mo_unit ⟨_, rfl⟩ (by decide) rfl (by decide) rfl (Nat.le_of_ble_eq_true rfl) (Nat.le_of_ble_eq_true rfl) rk_Mo_regAA_Mo_unit rfl (m_unit hM h hw) ?_
  refine px_bipush (v := 8) dx_Mo_regAA_6 rfl ?_
  refine px_ishrN (a := w) (w := 8) dx_Mo_regAA_8 (by omega) rfl ?_
  exact px_iret dx_Mo_regAA_9 rfl (by exact hp)
