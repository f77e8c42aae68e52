/-! floats and doubles: how great they are -/
/-- at most 2 to the 63 -/
def dB (x : UInt64) : Prop := x.toNat % 2 ^ 63 ≤ 1086 * 2 ^ 52
def fB (x : UInt32) : Prop := x.toNat % 2 ^ 31 ≤ 190 * 2 ^ 23
theorem and63 (x : UInt64) : (x &&& 0x7fffffffffffffff).toNat = x.toNat % 2 ^ 63 := by
  rw [UInt64.toNat_and]
  exact Nat.and_two_pow_sub_one_eq_mod _ 63
theorem and31 (x : UInt32) : (x &&& 0x7fffffff).toNat = x.toNat % 2 ^ 31 := by
  rw [UInt32.toNat_and]
  exact Nat.and_two_pow_sub_one_eq_mod _ 31
theorem vn64 {x : UInt64} (h : x.toNat % 2 ^ 63 ≤ 2047 * 2 ^ 52) : vf_n64 x := by
  unfold vf_n64
  rw [UInt64.le_iff_toNat_le, and63]
  exact h
theorem vn32 {x : UInt32} (h : x.toNat % 2 ^ 31 ≤ 255 * 2 ^ 23) : vf_n32 x := by
  unfold vf_n32
  rw [UInt32.le_iff_toNat_le, and31]
  exact h
theorem dB.vn {x : UInt64} (h : dB x) : vf_n64 x := vn64 (by unfold dB at h; omega)
theorem fB.vn {x : UInt32} (h : fB x) : vf_n32 x := vn32 (by unfold fB at h; omega)
theorem dB.nn {x : UInt64} (h : dB x) : FP.Core.val64 x ≠ .nan := (FP.Core.ne_nan x).mpr (by unfold dB at h; omega)
theorem fB.nn {x : UInt32} (h : fB x) : FP.Core.val32 x ≠ .nan := (FP.Core.ne_nan32 x).mpr (by unfold fB at h; omega)
theorem dB.fin {x : UInt64} (h : dB x) : FP.Core.DFin x := (FP.Core.fin_bits x).mpr (by unfold dB at h; omega)
theorem fB.fin {x : UInt32} (h : fB x) : FP.Core.FFin x := (FP.Core.fin_bits32 x).mpr (by unfold fB at h; omega)
theorem dB.d2f {x : UInt64} (h : dB x) : FP.d2f x = FP.Core.d2f x := FP.d2f_core ((FP.Core.notNaN_iff x).mpr h.nn)
theorem fB.f2d {x : UInt32} (h : fB x) : FP.f2d x = FP.Core.f2d x := FP.f2d_core ((FP.Core.notNaN_iff32 x).mpr h.nn)
theorem us64 : FP.Core.unitsOf FP.Core.b64 (1086 * 2 ^ 52) = 2 ^ 1137 := by
  have := FP.Core.unitsOf_start (f := FP.Core.b64) (K := 1086) (by decide)
  rw [FP.Core.tails_b64] at this
  rw [this, ← Nat.pow_add]
theorem us32 : FP.Core.unitsOf FP.Core.b32 (190 * 2 ^ 23) = 2 ^ 212 := by
  have := FP.Core.unitsOf_start (f := FP.Core.b32) (K := 190) (by decide)
  rw [FP.Core.tails_b32] at this
  rw [this, ← Nat.pow_add]
theorem d2f_fB {x : UInt64} (h : dB x) : fB (FP.d2f x) := by
  rw [h.d2f]
  obtain ⟨s, c, q, e⟩ := h.fin
  have hz := FP.Core.zmag_bits h.nn
  have hf := FP.Core.val64_fits x
  rw [e] at hz hf
  have hq : (-1074 : Int) ≤ q := by have := hf.2.1; rwa [FP.Core.qmin_b64] at this
  have hr : FP.Core.decode FP.Core.b32 (FP.Core.d2f x).toNat = FP.Core.roundRatio FP.Core.b32 s c 1 q := by
    have := FP.Core.val32_d2f x
    rw [e] at this
    exact this
  have hu : FP.Core.unitsOf FP.Core.b64 (x.toNat % 2 ^ 63) ≤ 2 ^ 1137 := by
    rw [← us64]
    exact FP.Core.unitsOf_le_iff.mpr h
  have := FP.Core.mag_le FP.Core.good_b32 (m := 190 * 2 ^ 23) hr (by decide) (e0 := -1074) (by rw [FP.Core.qmin_b32]; decide) hq (by
    rw [us32, FP.Core.qmin_b32, Nat.mul_one, show (-149 - -1074 : Int).toNat = 925 from rfl, ← Nat.pow_add]
    have : FP.Core.inUnits c q (-1074) = FP.Core.zmag FP.Core.b64 (.fin s c q) := by
      show _ = FP.Core.inUnits c q FP.Core.b64.qmin
      rw [FP.Core.qmin_b64]
    rw [this, hz]
    exact hu)
  rwa [FP.Core.mag_toNat32] at this
theorem f2d_dB {x : UInt32} (h : fB x) : dB (FP.f2d x) := by
  rw [h.f2d]
  obtain ⟨s, c, q, e⟩ := h.fin
  have hz := FP.Core.zmag_toNat32 h.nn
  have hf := FP.Core.val32_fits x
  rw [e] at hz hf
  have hq : (-149 : Int) ≤ q := by have := hf.2.1; rwa [FP.Core.qmin_b32] at this
  have hr : FP.Core.decode FP.Core.b64 (FP.Core.f2d x).toNat = FP.Core.roundRatio FP.Core.b64 s c 1 q := by
    have := FP.Core.val64_f2d x
    rw [e] at this
    exact this
  have hu : FP.Core.unitsOf FP.Core.b32 (x.toNat % 2 ^ 31) ≤ 2 ^ 212 := by
    rw [← us32]
    exact FP.Core.unitsOf_le_iff.mpr h
  have := FP.Core.mag_le FP.Core.good_b64 (m := 1086 * 2 ^ 52) hr (by decide) (e0 := -1074) (by rw [FP.Core.qmin_b64]; decide) (by omega) (by
    rw [us64, FP.Core.qmin_b64, Nat.mul_one, show (-1074 - -1074 : Int).toNat = 0 from rfl, Nat.pow_zero, Nat.mul_one]
    have : FP.Core.inUnits c q (-149) = FP.Core.zmag FP.Core.b32 (.fin s c q) := by
      show _ = FP.Core.inUnits c q FP.Core.b32.qmin
      rw [FP.Core.qmin_b32]
    rw [FP.Core.inUnits_move c (q := q) (e := -1074) (r := -149) (by decide) hq, this, hz, show (-149 - -1074 : Int).toNat = 925 from rfl, show (2 : Nat) ^ 1137 = 2 ^ 212 * 2 ^ 925 by rw [← Nat.pow_add]]
    exact Nat.mul_le_mul_right _ hu)
  rwa [FP.Core.mag_toNat64] at this
theorem xor63 (x : UInt64) : (FP.dneg x).toNat % 2 ^ 63 = x.toNat % 2 ^ 63 := by
  unfold FP.dneg
  rw [UInt64.toNat_xor]
  show (x.toNat ^^^ 2 ^ 63) % 2 ^ 63 = _
  rw [Nat.xor_mod_two_pow, Nat.mod_self, Nat.xor_zero]
theorem xor31 (x : UInt32) : (FP.fneg x).toNat % 2 ^ 31 = x.toNat % 2 ^ 31 := by
  unfold FP.fneg
  rw [UInt32.toNat_xor]
  show (x.toNat ^^^ 2 ^ 31) % 2 ^ 31 = _
  rw [Nat.xor_mod_two_pow, Nat.mod_self, Nat.xor_zero]
theorem dneg_dB {x : UInt64} (h : dB x) : dB (FP.dneg x) := by unfold dB; rw [xor63]; exact h
theorem fneg_fB {x : UInt32} (h : fB x) : fB (FP.fneg x) := by unfold fB; rw [xor31]; exact h
theorem l2d_dB (v : Int64) : dB (FP.l2d v) := FP.Core.fromInt_mag (FP.Core.toNat_l2d v) (FP.Core.int64_abs v) (K := 1086) (by decide) (by decide)
theorem l2f_fB (v : Int64) : fB (FP.l2f v) := FP.Core.fromInt_mag32 (FP.Core.toNat_l2f v) (FP.Core.int64_abs v) (K := 190) (by decide) (by decide)
theorem i2f_fB (v : Int32) : fB (FP.i2f v) := by
  have := FP.Core.fromInt_mag32 (FP.Core.toNat_i2f v) (FP.Core.int32_abs v) (K := 158) (by decide) (by decide)
  unfold fB
  show (FP.Core.i2f v).toNat % 2 ^ 31 ≤ _
  omega
theorem i2d_dB (v : Int32) : dB (FP.i2d v) := by
  have := FP.Core.fromInt_mag (FP.Core.toNat_i2d v) (FP.Core.int32_abs v) (K := 1054) (by decide) (by decide)
  unfold dB
  show (FP.Core.i2d v).toNat % 2 ^ 63 ≤ _
  omega
theorem d0_dB : dB 0 := by unfold dB; decide
theorem f0_fB : fB 0 := by unfold fB; decide
section OPS
variable {x y : UInt64}
theorem dadd_vn (h : dB x) (k : dB y) : vf_n64 (FP.dadd x y) := vn64 (by
  unfold dB at h k
  have := FP.Core.dadd_mag (a := x) (b := y) (K := 1087) (by omega) (by omega) (by decide)
  show (FP.Core.dadd x y).toNat % 2 ^ 63 ≤ _
  omega)
theorem dsub_vn (h : dB x) (k : dB y) : vf_n64 (FP.dsub x y) := vn64 (by
  unfold dB at h k
  have := FP.Core.dsub_mag (a := x) (b := y) (K := 1087) (by omega) (by omega) (by decide)
  show (FP.Core.dsub x y).toNat % 2 ^ 63 ≤ _
  omega)
theorem dmul_vn (h : dB x) (k : dB y) : vf_n64 (FP.dmul x y) := vn64 (by
  unfold dB at h k
  have := FP.Core.dmul_mag (a := x) (b := y) (Ka := 1087) (Kb := 1087) (by omega) (by omega) (by decide) (by decide)
  show (FP.Core.dmul x y).toNat % 2 ^ 63 ≤ _
  omega)
theorem le_of_nn64 {z : UInt64} (h : FP.Core.val64 z ≠ .nan) : vf_n64 z := vn64 (by have := (FP.Core.ne_nan z).mp h; omega)
theorem le_of_nn32 {z : UInt32} (h : FP.Core.val32 z ≠ .nan) : vf_n32 z := vn32 (by have := (FP.Core.ne_nan32 z).mp h; omega)
theorem ddiv_vn (h : dB x) (k : dB y) (h0 : y.toNat % 2 ^ 63 ≠ 0) : vf_n64 (FP.ddiv x y) := by
  refine le_of_nn64 ?_
  obtain ⟨s, c, q, e⟩ := h.fin
  obtain ⟨t, d, r, e2⟩ := k.fin
  show FP.Core.val64 (FP.Core.ddiv x y) ≠ _
  rw [FP.Core.val64_ddiv, e, e2]
  have hd : d ≠ 0 := fun z => h0 ((FP.Core.zero_bits2 y).mp ⟨t, r, by rw [e2, z]⟩)
  unfold FP.Core.quotient
  simp only [hd, if_false]
  exact FP.Core.roundRatio_ne_nan _ _ _ _ _
end OPS
section OPS2
variable {x y : UInt32}
theorem fadd_vn (h : fB x) (k : fB y) : vf_n32 (FP.fadd x y) := vn32 (by
  unfold fB at h k
  have := FP.Core.fadd_mag (a := x) (b := y) (K := 191) (by omega) (by omega) (by decide)
  show (FP.Core.fadd x y).toNat % 2 ^ 31 ≤ _
  omega)
theorem fsub_vn (h : fB x) (k : fB y) : vf_n32 (FP.fsub x y) := vn32 (by
  unfold fB at h k
  have := FP.Core.fsub_mag (a := x) (b := y) (K := 191) (by omega) (by omega) (by decide)
  show (FP.Core.fsub x y).toNat % 2 ^ 31 ≤ _
  omega)
theorem fmul_vn (h : fB x) (k : fB y) : vf_n32 (FP.fmul x y) := by
  refine le_of_nn32 ?_
  obtain ⟨s, c, q, e⟩ := h.fin
  obtain ⟨t, d, r, e2⟩ := k.fin
  show FP.Core.val32 (FP.Core.fmul x y) ≠ _
  rw [FP.Core.val32_fmul, e, e2]
  exact FP.Core.roundRatio_ne_nan _ _ _ _ _
theorem fdiv_vn (h : fB x) (k : fB y) (h0 : y.toNat % 2 ^ 31 ≠ 0) : vf_n32 (FP.fdiv x y) := by
  refine le_of_nn32 ?_
  obtain ⟨s, c, q, e⟩ := h.fin
  obtain ⟨t, d, r, e2⟩ := k.fin
  show FP.Core.val32 (FP.Core.fdiv x y) ≠ _
  rw [FP.Core.val32_fdiv, e, e2]
  have hd : d ≠ 0 := fun z => h0 ((FP.Core.zero_bits232 y).mp ⟨t, r, by rw [e2, z]⟩)
  unfold FP.Core.quotient
  simp only [hd, if_false]
  exact FP.Core.roundRatio_ne_nan _ _ _ _ _
end OPS2
/-! compares -/
theorem vn.nn64 {x : UInt64} (h : vf_n64 x) : FP.Core.val64 x ≠ .nan := (FP.Core.ne_nan x).mpr (by
  unfold vf_n64 at h
  rw [UInt64.le_iff_toNat_le, and63] at h
  exact h)
theorem vn.nn32 {x : UInt32} (h : vf_n32 x) : FP.Core.val32 x ≠ .nan := (FP.Core.ne_nan32 x).mpr (by
  unfold vf_n32 at h
  rw [UInt32.le_iff_toNat_le, and31] at h
  exact h)
def ky (x : UInt64) : Int := FP.Core.key FP.Core.b64 x.toNat
def kf (x : UInt32) : Int := FP.Core.key FP.Core.b32 x.toNat
theorem ky_e (x : UInt64) : ky x = if 2 ^ 63 ≤ x.toNat then -((x.toNat % 2 ^ 63 : Nat) : Int) else ((x.toNat % 2 ^ 63 : Nat) : Int) := by
  unfold ky FP.Core.key FP.Core.signed
  rw [FP.Core.half_b64, FP.Core.mag_toNat64]
  simp only [decide_eq_true_eq]
theorem kf_e (x : UInt32) : kf x = if 2 ^ 31 ≤ x.toNat then -((x.toNat % 2 ^ 31 : Nat) : Int) else ((x.toNat % 2 ^ 31 : Nat) : Int) := by
  unfold kf FP.Core.key FP.Core.signed
  rw [FP.Core.half_b32, FP.Core.mag_toNat32]
  simp only [decide_eq_true_eq]
/-- what a compare gives -/
def cmz (a b : Int) : Int32 := if a < b then -1 else if a = b then 0 else 1
theorem cmz_o (a b : Int) (op : CmpOp) : Op.cmpValue (some (compare a b)) op = cmz a b := by
  unfold cmz
  simp only [compare, compareOfLessAndEq]
  by_cases h1 : a < b
  · rw [if_pos h1, if_pos h1]; rfl
  · rw [if_neg h1, if_neg h1]
    by_cases h2 : a = b
    · rw [if_pos h2, if_pos h2]; rfl
    · rw [if_neg h2, if_neg h2]; rfl
theorem dcmp_ky {x y : UInt64} (h : vf_n64 x) (k : vf_n64 y) (op : CmpOp) : Op.cmpValue (FP.dcmp x y) op = cmz (ky x) (ky y) := by
  have : FP.dcmp x y = some (compare (ky x) (ky y)) := FP.Core.cmp_key FP.Core.good_b64 (FP.Core.lt_full64 x) (FP.Core.lt_full64 y) (vn.nn64 h) (vn.nn64 k)
  rw [this, cmz_o]
theorem fcmp_kf {x y : UInt32} (h : vf_n32 x) (k : vf_n32 y) (op : CmpOp) : Op.cmpValue (FP.fcmp x y) op = cmz (kf x) (kf y) := by
  have : FP.fcmp x y = some (compare (kf x) (kf y)) := FP.Core.cmp_key FP.Core.good_b32 (FP.Core.lt_full32 x) (FP.Core.lt_full32 y) (vn.nn32 h) (vn.nn32 k)
  rw [this, cmz_o]
theorem cmz_lt {a b : Int} : cmz a b < 0 ↔ a < b := by
  unfold cmz
  by_cases h1 : a < b
  · rw [if_pos h1]; exact ⟨fun _ => h1, fun _ => by decide⟩
  · rw [if_neg h1]
    by_cases h2 : a = b
    · rw [if_pos h2]; exact ⟨fun q => absurd q (by decide), fun q => absurd q h1⟩
    · rw [if_neg h2]; exact ⟨fun q => absurd q (by decide), fun q => absurd q h1⟩
theorem cmz_gt {a b : Int} : 0 < cmz a b ↔ b < a := by
  unfold cmz
  by_cases h1 : a < b
  · rw [if_pos h1]; exact ⟨fun q => absurd q (by decide), fun q => by omega⟩
  · rw [if_neg h1]
    by_cases h2 : a = b
    · rw [if_pos h2]; exact ⟨fun q => absurd q (by decide), fun q => by omega⟩
    · rw [if_neg h2]; exact ⟨fun _ => by omega, fun _ => by decide⟩
theorem cmz_eq {a b : Int} : cmz a b = 0 ↔ a = b := by
  unfold cmz
  by_cases h1 : a < b
  · rw [if_pos h1]; exact ⟨fun q => absurd q (by decide), fun q => by omega⟩
  · rw [if_neg h1]
    by_cases h2 : a = b
    · rw [if_pos h2]; exact ⟨fun _ => h2, fun _ => rfl⟩
    · rw [if_neg h2]; exact ⟨fun q => absurd q (by decide), fun q => absurd q h2⟩
