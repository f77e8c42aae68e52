/-! both sides compute alike: small facts -/
theorem l2f_32 (v : Int32) : FP.l2f v.toInt64 = FP.i2f v := by
  show FP.Core.l2f v.toInt64 = FP.Core.i2f v
  show UInt32.ofNat (FP.Core.fromInt FP.Core.b32 v.toInt64.toInt) = UInt32.ofNat (FP.Core.fromInt FP.Core.b32 v.toInt)
  rw [Int32.toInt_toInt64]
theorem cmD_e {a b : UInt64} (ha : dB a) (hb : dB b) : cmD a b = if Op.cmpValue (FP.dcmp a b) .g < 0 then -1 else if Op.cmpValue (FP.dcmp a b) .l = 0 then 0 else 1 := by
  unfold cmD
  rw [dcmp_ky ha.vn hb.vn .g, dcmp_ky ha.vn hb.vn .l]
  unfold cmz
  by_cases h1 : ky a < ky b
  · rw [if_pos h1]
    rfl
  · rw [if_neg h1]
    by_cases h2 : ky a = ky b
    · rw [if_pos h2]
      rfl
    · rw [if_neg h2]
      rfl
theorem lt_64 {a b : Int32} : a.toInt64 < b.toInt64 ↔ a < b := by
  rw [Int64.lt_iff_toInt_lt, Int32.lt_iff_toInt_lt, Int32.toInt_toInt64, Int32.toInt_toInt64]
theorem le_64 {a b : Int32} : a.toInt64 ≤ b.toInt64 ↔ a ≤ b := by
  rw [Int64.le_iff_toInt_le, Int32.le_iff_toInt_le, Int32.toInt_toInt64, Int32.toInt_toInt64]
theorem eq_64 {a b : Int32} : a.toInt64 = b.toInt64 ↔ a = b := by
  rw [← Int64.toInt_inj, ← Int32.toInt_inj, Int32.toInt_toInt64, Int32.toInt_toInt64]
/-- the class compares wholes as the reference compares ints -/
theorem hdC_e {a b : Int32} : ∀ op, 50 ≤ op → op ≤ 61 → hdC op a.toInt64 b.toInt64 = hdO (if op < 56 then op - 50 else op - 56) a b := by
  intro op h1 h2
  have q0 : decide (lg_cmp a.toInt64 b.toInt64 = 0) = decide (a = b) := decide_eq_decide.mpr (by rw [lg_cmp_eq, eq_64])
  have q1 : decide (¬ lg_cmp a.toInt64 b.toInt64 = 0) = decide (¬ a = b) := decide_eq_decide.mpr (by rw [lg_cmp_eq, eq_64])
  have q2 : decide (¬ 0 ≤ lg_cmp a.toInt64 b.toInt64) = decide (a < b) := decide_eq_decide.mpr (by rw [lg_cmp_ge, le_64]; exact Int32.not_le)
  have q3 : decide (¬ lg_cmp a.toInt64 b.toInt64 < 0) = decide (b ≤ a) := decide_eq_decide.mpr (by rw [lg_cmp_lt, lt_64]; exact Int32.not_lt)
  have q4 : decide (¬ lg_cmp a.toInt64 b.toInt64 ≤ 0) = decide (b < a) := decide_eq_decide.mpr (by rw [lg_cmp_le, le_64]; exact Int32.not_le)
  have q5 : decide (¬ 0 < lg_cmp a.toInt64 b.toInt64) = decide (a ≤ b) := decide_eq_decide.mpr (by rw [lg_cmp_gt, lt_64]; exact Int32.not_lt)
  unfold hdC hdO
  rw [q0, q1, q2, q3, q4, q5]
  rcases (by omega : op = 50 ∨ op = 51 ∨ op = 52 ∨ op = 53 ∨ op = 54 ∨ op = 55 ∨ op = 56 ∨ op = 57 ∨ op = 58 ∨ op = 59 ∨ op = 60 ∨ op = 61) with rfl | rfl | rfl | rfl | rfl | rfl | rfl | rfl | rfl | rfl | rfl | rfl <;> rfl
theorem t32_64 (a : Int32) : a.toInt64.toInt32 = a := Int32.toInt32_toInt64 a

