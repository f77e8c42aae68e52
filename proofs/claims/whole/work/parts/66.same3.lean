/-! both sides compute alike: floats held as doubles keep their order -/
theorem sg_mul (s : Bool) (a k : Nat) : FP.Core.signed s (a * k) = FP.Core.signed s a * (k : Int) := by
  unfold FP.Core.signed
  cases s with
  | true => simp [Int.neg_mul]
  | false => simp
theorem f2d_zval {x : UInt32} (h : FP.Core.FFin x) {K : Nat} (hK : K = 2 ^ 925) : FP.Core.zval FP.Core.b64 (FP.Core.val64 (FP.Core.f2d x)) = FP.Core.zval FP.Core.b32 (FP.Core.val32 x) * (K : Int) := by
  obtain ⟨s, c, q, e⟩ := h
  have hf := FP.Core.val32_fits x
  rw [e] at hf
  obtain ⟨c', q', hfit, -, hv⟩ := FP.Core.within_fit FP.Core.good_b64 FP.Core.within_32_64 hf
  have hr : FP.Core.val64 (FP.Core.f2d x) = .fin s c' q' := by
    rw [FP.Core.val64_f2d, e]
    exact FP.Core.roundRatio_exact FP.Core.good_b64 (by decide) hfit (by rw [Nat.mul_one] at hv ⊢; exact hv)
  have h1 : (-149 : Int) ≤ q := by have := hf.2.1; rwa [FP.Core.qmin_b32] at this
  have h2 : (-1074 : Int) ≤ q' := by have := hfit.2.1; rwa [FP.Core.qmin_b64] at this
  have key : FP.Core.inUnits c' q' (-1074) = FP.Core.inUnits c q (-149) * K := by
    have m := FP.Core.inUnits_move c (q := q) (e := -1074) (r := -149) (by decide) h1
    rw [show (-149 - -1074 : Int).toNat = 925 by decide, ← hK] at m
    rw [← m]
    unfold FP.Core.inUnits
    rw [Nat.mul_one] at hv
    by_cases z : q' ≤ q
    · rw [show (q' - q).toNat = 0 by omega, Nat.pow_zero, Nat.mul_one] at hv
      rw [← hv, Nat.mul_assoc, ← Nat.pow_add, show (q - q').toNat + (q' - -1074).toNat = (q - -1074).toNat by omega]
    · rw [show (q - q').toNat = 0 by omega, Nat.pow_zero, Nat.mul_one] at hv
      rw [hv, Nat.mul_assoc, ← Nat.pow_add, show (q' - q).toNat + (q - -1074).toNat = (q' - -1074).toNat by omega]
  rw [hr, e]
  have z1 : FP.Core.zval FP.Core.b64 (.fin s c' q') = FP.Core.signed s (FP.Core.inUnits c' q' FP.Core.b64.qmin) := rfl
  have z2 : FP.Core.zval FP.Core.b32 (.fin s c q) = FP.Core.signed s (FP.Core.inUnits c q FP.Core.b32.qmin) := rfl
  rw [z1, z2, FP.Core.qmin_b64, FP.Core.qmin_b32, key]
  exact sg_mul s _ _
theorem cmz_mul {a b : Int} {k : Int} (hk : 0 < k) : cmz (a * k) (b * k) = cmz a b := by
  have h1 : a * k < b * k ↔ a < b := Int.mul_lt_mul_right hk
  have h2 : a * k = b * k ↔ a = b := ⟨fun q => Int.eq_of_mul_eq_mul_right (by omega) q, fun q => by rw [q]⟩
  unfold cmz
  by_cases c : a < b
  · rw [if_pos c, if_pos (h1.mpr c)]
  · rw [if_neg c, if_neg (fun q => c (h1.mp q))]
    by_cases d : a = b
    · rw [if_pos d, if_pos (h2.mpr d)]
    · rw [if_neg d, if_neg (fun q => d (h2.mp q))]
theorem cmp_f2d {x y : UInt32} (hx : FP.Core.FFin x) (hy : FP.Core.FFin y) (op : CmpOp) : Op.cmpValue (FP.dcmp (FP.f2d x) (FP.f2d y)) op = Op.cmpValue (FP.fcmp x y) op := by
  have nx := hx.ne_nan
  have ny := hy.ne_nan
  have ex : FP.f2d x = FP.Core.f2d x := FP.f2d_core ((FP.Core.notNaN_iff32 x).mpr nx)
  have ey : FP.f2d y = FP.Core.f2d y := FP.f2d_core ((FP.Core.notNaN_iff32 y).mpr ny)
  rw [ex, ey]
  have h1 : FP.dcmp (FP.Core.f2d x) (FP.Core.f2d y) = some (compare (FP.Core.zval FP.Core.b64 (FP.Core.val64 (FP.Core.f2d x))) (FP.Core.zval FP.Core.b64 (FP.Core.val64 (FP.Core.f2d y)))) := FP.Core.dcmp_zval (FP.Core.f2d_fin hx).ne_nan (FP.Core.f2d_fin hy).ne_nan
  have h2 : FP.fcmp x y = some (compare (FP.Core.zval FP.Core.b32 (FP.Core.val32 x)) (FP.Core.zval FP.Core.b32 (FP.Core.val32 y))) := FP.Core.fcmp_zval nx ny
  obtain ⟨K, hK⟩ : ∃ K, K = 2 ^ 925 := ⟨_, rfl⟩
  have hp : 0 < K := by rw [hK]; exact Nat.two_pow_pos _
  rw [h1, h2, cmz_o, cmz_o, f2d_zval hx hK, f2d_zval hy hK]
  exact cmz_mul (Int.natCast_pos.mpr hp)
theorem hl_cases {x : UInt32} (h : vf_n32 x) : FP.Core.FFin x ∨ x = 2139095040 ∨ x = 4286578688 := by
  have hn := vn.nn32 h
  have h1 := (FP.Core.ne_nan32 x).mp hn
  by_cases c : FP.Core.FFin x
  · exact Or.inl c
  · refine Or.inr ?_
    rw [FP.Core.fin_bits32] at c
    have hx := x.toNat_lt
    have e : x.toNat = 2139095040 ∨ x.toNat = 4286578688 := by omega
    rcases e with e | e
    · exact Or.inl (UInt32.toNat_inj.mp e)
    · exact Or.inr (UInt32.toNat_inj.mp e)
theorem hl_f2d {x : UInt32} (h : vf_n32 x) : hlD (FP.f2d x) = FP.f2d (hlF x) := by
  rcases hl_cases h with hx | rfl | rfl
  · have c1 : FP.f2d 1568669696 = 4877398396442247168 := by decide +kernel
    have c2 : FP.f2d 3716153344 = 14100770433297022976 := by decide +kernel
    have f1 : FP.Core.FFin 1568669696 := (FP.Core.fin_bits32 _).mpr (by decide)
    have f2 : FP.Core.FFin 3716153344 := (FP.Core.fin_bits32 _).mpr (by decide)
    unfold hlD hlF
    rw [← c1, ← c2, cmp_f2d hx f1, cmp_f2d hx f2]
    split
    · decide +kernel
    · split
      · decide +kernel
      · rfl
  · decide +kernel
  · decide +kernel


theorem dneg_f2d {x : UInt32} (h : fB x) : FP.dneg (FP.f2d x) = FP.f2d (FP.fneg x) := by
  have k := fneg_fB h
  rw [h.f2d, k.f2d]
  refine FP.Core.val64_inj ?_ ?_
  · rw [← h.f2d]
    exact (dneg_dB (f2d_dB h)).nn
  · have e1 : FP.Core.val64 (FP.dneg (FP.Core.f2d x)) = FP.Core.negate (FP.Core.val64 (FP.Core.f2d x)) := FP.val64_dneg _
    have e2 : FP.Core.val32 (FP.fneg x) = FP.Core.negate (FP.Core.val32 x) := FP.val32_fneg _
    rw [e1, FP.Core.val64_f2d, FP.Core.val64_f2d, e2, FP.Core.negate_round]
theorem d2f_f2d {x : UInt32} (h : fB x) : FP.d2f (FP.f2d x) = x := by
  rw [(f2d_dB h).d2f, h.f2d]
  exact FP.Core.d2f_f2d h.nn
/-- what the class computes with floats is what the reference does -/
theorem jFc_e {op : Nat} {a b : UInt32} (ha : fB a) (hb : fB b) (ho : 166 ≤ op ∧ op ≤ 169) : hlD (FP.f2d (jFc op a b)) = FP.f2d (jF op a b) := by
  rw [hl_f2d (jFc_vn ha hb ho)]
  congr 1
  unfold jFc jF
  split
  · decide +kernel
  · rfl
theorem jDc_e {op : Nat} {a b : UInt64} : hlD (jDc op a b) = jD op a b := by
  unfold jDc jD
  split
  · decide +kernel
  · rfl

