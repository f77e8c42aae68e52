/-! the class: arithmetic -/
def jFc (op : Nat) (a b : UInt32) : UInt32 := if op = 169 ∧ Op.cmpValue (FP.fcmp b 0) .l = 0 then 0 else jF0 op a b
def jDc (op : Nat) (a b : UInt64) : UInt64 := if op = 174 ∧ Op.cmpValue (FP.dcmp b 0) .l = 0 then 0 else jD0 op a b

set_option maxRecDepth 100000 in
set_option maxHeartbeats 1000000 in
theorem k_divides {l : Launch} {G : fr_G} {σ : fr_S} {op : Nat} (hop : op < 256) : CT l G yy_Ar_divides rm_Ar_divides [.int (nI (op))] σ (some (.int (b2i (dvO op)))) (σ) := by
  intro Post hp0
  have hp := hp0
  show PX l G yy_Ar_divides rm_Ar_divides _ false 742 0 0 0 [(0, .int (nI (op)))] [] σ
  refine px_iload_n dx_Ar_divides_0 rfl ?_
  refine px_sipush (v := 147) dx_Ar_divides_1 rfl ?_
  refine px_icmp_eqN (a := op) (b := 147) dx_Ar_divides_4 (by omega) (by omega) (fun c_4 => ?_) (fun c_4 => ?_)
  · refine px_iconst (v := 1) dx_Ar_divides_28 rfl ?_
    refine px_goto dx_Ar_divides_29 ?_
    exact px_zret dx_Ar_divides_33 rfl (by decide) (by (have e : dvO op = true := by (simp only [dvO, Bool.or_eq_true, decide_eq_true_eq]; omega)); rw [e] at hp; exact hp)
  · refine px_iload_n dx_Ar_divides_7 rfl ?_
    refine px_sipush (v := 148) dx_Ar_divides_8 rfl ?_
    refine px_icmp_eqN (a := op) (b := 148) dx_Ar_divides_11 (by omega) (by omega) (fun c_11 => ?_) (fun c_11 => ?_)
    · refine px_iconst (v := 1) dx_Ar_divides_28 rfl ?_
      refine px_goto dx_Ar_divides_29 ?_
      exact px_zret dx_Ar_divides_33 rfl (by decide) (by (have e : dvO op = true := by (simp only [dvO, Bool.or_eq_true, decide_eq_true_eq]; omega)); rw [e] at hp; exact hp)
    · refine px_iload_n dx_Ar_divides_14 rfl ?_
      refine px_sipush (v := 158) dx_Ar_divides_15 rfl ?_
      refine px_icmp_eqN (a := op) (b := 158) dx_Ar_divides_18 (by omega) (by omega) (fun c_18 => ?_) (fun c_18 => ?_)
      · refine px_iconst (v := 1) dx_Ar_divides_28 rfl ?_
        refine px_goto dx_Ar_divides_29 ?_
        exact px_zret dx_Ar_divides_33 rfl (by decide) (by (have e : dvO op = true := by (simp only [dvO, Bool.or_eq_true, decide_eq_true_eq]; omega)); rw [e] at hp; exact hp)
      · refine px_iload_n dx_Ar_divides_21 rfl ?_
        refine px_sipush (v := 159) dx_Ar_divides_22 rfl ?_
        refine px_icmp_neN (a := op) (b := 159) dx_Ar_divides_25 (by omega) (by omega) (fun c_25 => ?_) (fun c_25 => ?_)
        · refine px_iconst (v := 0) dx_Ar_divides_32 rfl ?_
          exact px_zret dx_Ar_divides_33 rfl (by decide) (by (have e : dvO op = false := by (simp only [dvO, Bool.or_eq_false_iff, decide_eq_false_iff_not]; omega)); rw [e] at hp; exact hp)
        · refine px_iconst (v := 1) dx_Ar_divides_28 rfl ?_
          refine px_goto dx_Ar_divides_29 ?_
          exact px_zret dx_Ar_divides_33 rfl (by decide) (by (have e : dvO op = true := by (simp only [dvO, Bool.or_eq_true, decide_eq_true_eq]; omega)); rw [e] at hp; exact hp)

theorem a31 (b : Int32) : b &&& 31 &&& 31 = b &&& 31 := by
  rw [Int32.and_assoc]
  rfl
theorem u31 (b : Int32) : (b &&& 31).toUInt32 &&& Int32.toUInt32 31 = b.toUInt32 &&& Int32.toUInt32 31 := by
  rw [Int32.toUInt32_and, UInt32.and_assoc]
  rfl

set_option maxRecDepth 100000 in
set_option maxHeartbeats 1000000 in
theorem k_ofInts {l : Launch} {G : fr_G} {σ : fr_S} {op : Nat} (hop : op < 256) {a b : Int32} (hz : op = 147 ∨ op = 148 → ¬ b = 0) : CT l G yy_Ar_ofInts rm_Ar_ofInts [.int (nI (op)), .int (a), .int (b)] σ (some (.int (jI op a b))) (σ) := by
  intro Post hp0
  have hp := hp0
  show PX l G yy_Ar_ofInts rm_Ar_ofInts _ false 742 0 0 0 [(0, .int (nI (op))), (1, .int (a)), (2, .int (b))] [] σ
  refine px_iload_n dx_Ar_ofInts_0 rfl ?_
  by_cases k_1_0 : op ∈ ([144] : List Nat)
  · refine px_tabG (e := op) (off := 55) [144] dx_Ar_ofInts_1 (by omega) k_1_0 (by decide) rfl ?_
    refine px_iload_n dx_Ar_ofInts_56 rfl ?_
    refine px_iload_n dx_Ar_ofInts_57 rfl ?_
    refine px_iadd dx_Ar_ofInts_58 ?_
    exact px_iret dx_Ar_ofInts_59 rfl (by (have e : jI op a b = a + b := by simp only [jI, k_1_0,  if_true, if_false]); rw [e] at hp; exact hp)
  by_cases k_1_1 : op ∈ ([145] : List Nat)
  · refine px_tabG (e := op) (off := 59) [145] dx_Ar_ofInts_1 (by omega) k_1_1 (by decide) rfl ?_
    refine px_iload_n dx_Ar_ofInts_60 rfl ?_
    refine px_iload_n dx_Ar_ofInts_61 rfl ?_
    refine px_isub dx_Ar_ofInts_62 ?_
    exact px_iret dx_Ar_ofInts_63 rfl (by (have e : jI op a b = a - b := by simp only [jI, k_1_0, k_1_1,  if_true, if_false]); rw [e] at hp; exact hp)
  by_cases k_1_2 : op ∈ ([146] : List Nat)
  · refine px_tabG (e := op) (off := 63) [146] dx_Ar_ofInts_1 (by omega) k_1_2 (by decide) rfl ?_
    refine px_iload_n dx_Ar_ofInts_64 rfl ?_
    refine px_iload_n dx_Ar_ofInts_65 rfl ?_
    refine px_imul dx_Ar_ofInts_66 ?_
    exact px_iret dx_Ar_ofInts_67 rfl (by (have e : jI op a b = a * b := by simp only [jI, k_1_0, k_1_1, k_1_2,  if_true, if_false]); rw [e] at hp; exact hp)
  by_cases k_1_3 : op ∈ ([147] : List Nat)
  · refine px_tabG (e := op) (off := 67) [147] dx_Ar_ofInts_1 (by omega) k_1_3 (by decide) rfl ?_
    refine px_iload_n dx_Ar_ofInts_68 rfl ?_
    refine px_if_ne dx_Ar_ofInts_69 (fun c_69 => ?_) (fun c_69 => ?_)
    · refine px_iload_n dx_Ar_ofInts_76 rfl ?_
      refine px_iload_n dx_Ar_ofInts_77 rfl ?_
      refine px_idiv dx_Ar_ofInts_78 (by assumption) ?_
      exact px_iret dx_Ar_ofInts_79 rfl (by (have e : jI op a b = a / b := by simp only [jI, k_1_0, k_1_1, k_1_2, k_1_3,  if_true, if_false]); rw [e] at hp; exact hp)
    · refine px_iconst (v := 0) dx_Ar_ofInts_72 rfl ?_
      refine px_goto dx_Ar_ofInts_73 ?_
      exact px_iret dx_Ar_ofInts_79 rfl (by exact absurd (by first | assumption | omega) (hz (by first | (have q := k_1_3; simp only [List.mem_cons, List.not_mem_nil, or_false] at q; omega) | (have q := kn_1; simp only [List.mem_cons, List.not_mem_nil, or_false, not_or] at q; omega))))
  by_cases k_1_4 : op ∈ ([148] : List Nat)
  · refine px_tabG (e := op) (off := 79) [148] dx_Ar_ofInts_1 (by omega) k_1_4 (by decide) rfl ?_
    refine px_iload_n dx_Ar_ofInts_80 rfl ?_
    refine px_if_ne dx_Ar_ofInts_81 (fun c_81 => ?_) (fun c_81 => ?_)
    · refine px_iload_n dx_Ar_ofInts_88 rfl ?_
      refine px_iload_n dx_Ar_ofInts_89 rfl ?_
      refine px_irem dx_Ar_ofInts_90 (by assumption) ?_
      exact px_iret dx_Ar_ofInts_91 rfl (by (have e : jI op a b = a - a / b * b := by simp only [jI, k_1_0, k_1_1, k_1_2, k_1_3, k_1_4,  if_true, if_false]); rw [e] at hp; exact hp)
    · refine px_iconst (v := 0) dx_Ar_ofInts_84 rfl ?_
      refine px_goto dx_Ar_ofInts_85 ?_
      exact px_iret dx_Ar_ofInts_91 rfl (by exact absurd (by first | assumption | omega) (hz (by first | (have q := k_1_4; simp only [List.mem_cons, List.not_mem_nil, or_false] at q; omega) | (have q := kn_1; simp only [List.mem_cons, List.not_mem_nil, or_false, not_or] at q; omega))))
  by_cases k_1_5 : op ∈ ([149] : List Nat)
  · refine px_tabG (e := op) (off := 91) [149] dx_Ar_ofInts_1 (by omega) k_1_5 (by decide) rfl ?_
    refine px_iload_n dx_Ar_ofInts_92 rfl ?_
    refine px_iload_n dx_Ar_ofInts_93 rfl ?_
    refine px_iand dx_Ar_ofInts_94 ?_
    exact px_iret dx_Ar_ofInts_95 rfl (by (have e : jI op a b = a &&& b := by simp only [jI, k_1_0, k_1_1, k_1_2, k_1_3, k_1_4, k_1_5,  if_true, if_false]); rw [e] at hp; exact hp)
  by_cases k_1_6 : op ∈ ([150] : List Nat)
  · refine px_tabG (e := op) (off := 95) [150] dx_Ar_ofInts_1 (by omega) k_1_6 (by decide) rfl ?_
    refine px_iload_n dx_Ar_ofInts_96 rfl ?_
    refine px_iload_n dx_Ar_ofInts_97 rfl ?_
    refine px_ior dx_Ar_ofInts_98 ?_
    exact px_iret dx_Ar_ofInts_99 rfl (by (have e : jI op a b = a ||| b := by simp only [jI, k_1_0, k_1_1, k_1_2, k_1_3, k_1_4, k_1_5, k_1_6,  if_true, if_false]); rw [e] at hp; exact hp)
  by_cases k_1_7 : op ∈ ([151] : List Nat)
  · refine px_tabG (e := op) (off := 99) [151] dx_Ar_ofInts_1 (by omega) k_1_7 (by decide) rfl ?_
    refine px_iload_n dx_Ar_ofInts_100 rfl ?_
    refine px_iload_n dx_Ar_ofInts_101 rfl ?_
    refine px_ixor dx_Ar_ofInts_102 ?_
    exact px_iret dx_Ar_ofInts_103 rfl (by (have e : jI op a b = a ^^^ b := by simp only [jI, k_1_0, k_1_1, k_1_2, k_1_3, k_1_4, k_1_5, k_1_6, k_1_7,  if_true, if_false]); rw [e] at hp; exact hp)
  by_cases k_1_8 : op ∈ ([152] : List Nat)
  · refine px_tabG (e := op) (off := 103) [152] dx_Ar_ofInts_1 (by omega) k_1_8 (by decide) rfl ?_
    refine px_iload_n dx_Ar_ofInts_104 rfl ?_
    refine px_iload_n dx_Ar_ofInts_105 rfl ?_
    refine px_bipush (v := 31) dx_Ar_ofInts_106 rfl ?_
    refine px_iand dx_Ar_ofInts_108 ?_
    refine px_ishl dx_Ar_ofInts_109 ?_
    exact px_iret dx_Ar_ofInts_110 rfl (by rw [a31]; (have e : jI op a b = a <<< (b &&& 31) := by simp only [jI, k_1_0, k_1_1, k_1_2, k_1_3, k_1_4, k_1_5, k_1_6, k_1_7, k_1_8,  if_true, if_false]); rw [e] at hp; exact hp)
  by_cases k_1_9 : op ∈ ([153] : List Nat)
  · refine px_tabG (e := op) (off := 110) [153] dx_Ar_ofInts_1 (by omega) k_1_9 (by decide) rfl ?_
    refine px_iload_n dx_Ar_ofInts_111 rfl ?_
    refine px_iload_n dx_Ar_ofInts_112 rfl ?_
    refine px_bipush (v := 31) dx_Ar_ofInts_113 rfl ?_
    refine px_iand dx_Ar_ofInts_115 ?_
    refine px_ishr dx_Ar_ofInts_116 ?_
    exact px_iret dx_Ar_ofInts_117 rfl (by rw [a31]; (have e : jI op a b = a >>> (b &&& 31) := by simp only [jI, k_1_0, k_1_1, k_1_2, k_1_3, k_1_4, k_1_5, k_1_6, k_1_7, k_1_8, k_1_9,  if_true, if_false]); rw [e] at hp; exact hp)
  have kn_1 : op ∉ ([144, 145, 146, 147, 148, 149, 150, 151, 152, 153] : List Nat) := by simp only [List.mem_cons, List.not_mem_nil, or_false, not_or] at *; omega
  refine px_tabD (e := op) [144, 145, 146, 147, 148, 149, 150, 151, 152, 153] dx_Ar_ofInts_1 (by omega) kn_1 9 144 ⟨rfl, rfl⟩ (by decide) rfl ?_
  refine px_iload_n dx_Ar_ofInts_118 rfl ?_
  refine px_iload_n dx_Ar_ofInts_119 rfl ?_
  refine px_bipush (v := 31) dx_Ar_ofInts_120 rfl ?_
  refine px_iand dx_Ar_ofInts_122 ?_
  refine px_iushr dx_Ar_ofInts_123 ?_
  exact px_iret dx_Ar_ofInts_124 rfl (by rw [u31]; (have e : jI op a b = (a.toUInt32 >>> (b.toUInt32 &&& Int32.toUInt32 31)).toInt32 := by simp only [jI, k_1_0, k_1_1, k_1_2, k_1_3, k_1_4, k_1_5, k_1_6, k_1_7, k_1_8, k_1_9,  if_true, if_false]); rw [e] at hp; exact hp)
set_option maxRecDepth 100000 in
set_option maxHeartbeats 1000000 in
theorem k_held {l : Launch} {G : fr_G} {σ : fr_S} {v : UInt64} : CT l G yy_Ar_held rm_Ar_held [.double (v)] σ (some (.double (hlD v))) (σ) := by
  intro Post hp0
  have hp := hp0
  show PX l G yy_Ar_held rm_Ar_held _ false 742 0 0 0 [(0, .double (v))] [] σ
  refine px_dload_n dx_Ar_held_0 rfl ?_
  refine px_ldc2d dx_Ar_held_1 kk_Ar_9 ?_
  refine px_dcmp dx_Ar_held_4 ?_
  refine px_if_gt dx_Ar_held_5 (fun c_5 => ?_) (fun c_5 => ?_)
  · refine px_dconst0 dx_Ar_held_16 ?_
    refine px_goto dx_Ar_held_17 ?_
    exact px_dret dx_Ar_held_21 rfl (by (have e : hlD v = 0 := by (unfold hlD; rw [if_pos c_5])); rw [e] at hp; exact hp)
  · refine px_dload_n dx_Ar_held_8 rfl ?_
    refine px_ldc2d dx_Ar_held_9 kk_Ar_11 ?_
    refine px_dcmp dx_Ar_held_12 ?_
    refine px_if_ge dx_Ar_held_13 (fun c_13 => ?_) (fun c_13 => ?_)
    · refine px_dload_n dx_Ar_held_20 rfl ?_
      exact px_dret dx_Ar_held_21 rfl (by (have e : hlD v = v := by (unfold hlD; rw [if_neg c_5]; rw [if_neg (not_lt_ge c_13)])); rw [e] at hp; exact hp)
    · refine px_dconst0 dx_Ar_held_16 ?_
      refine px_goto dx_Ar_held_17 ?_
      exact px_dret dx_Ar_held_21 rfl (by (have e : hlD v = 0 := by (unfold hlD; rw [if_neg c_5]; rw [if_pos (ge_lt c_13)])); rw [e] at hp; exact hp)
set_option maxRecDepth 100000 in
set_option maxHeartbeats 1000000 in
theorem k_ofFloats {l : Launch} {G : fr_G} {σ : fr_S} {op : Nat} (hop : op < 256) (ho : 166 ≤ op ∧ op ≤ 169) {a b : UInt32} (ha : fB a) (hb : fB b) (hb0 : op = 169 → ¬ Op.cmpValue (FP.fcmp b 0) .l = 0 → b.toNat % 2 ^ 31 ≠ 0) : CT l G yy_Ar_ofFloats rm_Ar_ofFloats [.int (nI (op)), .float (a), .float (b)] σ (some (.float (jFc op a b))) (σ) := by
  intro Post hp0
  have hp := hp0
  show PX l G yy_Ar_ofFloats rm_Ar_ofFloats _ false 742 0 0 0 [(0, .int (nI (op))), (1, .float (a)), (2, .float (b))] [] σ
  refine px_iload_n dx_Ar_ofFloats_0 rfl ?_
  by_cases k_1_0 : op ∈ ([166] : List Nat)
  · refine px_tabG (e := op) (off := 27) [166] dx_Ar_ofFloats_1 (by omega) k_1_0 (by decide) rfl ?_
    refine px_fload_n dx_Ar_ofFloats_28 rfl ?_
    refine px_fload_n dx_Ar_ofFloats_29 rfl ?_
    refine px_fadd dx_Ar_ofFloats_30 (fadd_vn ha hb) ?_
    exact px_fret dx_Ar_ofFloats_31 rfl (by (have q : op = 166 := by simpa using k_1_0); (have e : jFc op a b = FP.fadd a b := by (unfold jFc; rw [if_neg (show ¬ (op = 169 ∧ _) from fun w => by omega)]; unfold jF0; rw [if_pos q])); rw [e] at hp; exact hp)
  by_cases k_1_1 : op ∈ ([167] : List Nat)
  · refine px_tabG (e := op) (off := 31) [167] dx_Ar_ofFloats_1 (by omega) k_1_1 (by decide) rfl ?_
    refine px_fload_n dx_Ar_ofFloats_32 rfl ?_
    refine px_fload_n dx_Ar_ofFloats_33 rfl ?_
    refine px_fsub dx_Ar_ofFloats_34 (fsub_vn ha hb) ?_
    exact px_fret dx_Ar_ofFloats_35 rfl (by (have q : op = 167 := by simpa using k_1_1); (have e : jFc op a b = FP.fsub a b := by (unfold jFc; rw [if_neg (show ¬ (op = 169 ∧ _) from fun w => by omega)]; unfold jF0; rw [if_neg (show ¬ op = 166 by omega), if_pos q])); rw [e] at hp; exact hp)
  by_cases k_1_2 : op ∈ ([168] : List Nat)
  · refine px_tabG (e := op) (off := 35) [168] dx_Ar_ofFloats_1 (by omega) k_1_2 (by decide) rfl ?_
    refine px_fload_n dx_Ar_ofFloats_36 rfl ?_
    refine px_fload_n dx_Ar_ofFloats_37 rfl ?_
    refine px_fmul dx_Ar_ofFloats_38 (fmul_vn ha hb) ?_
    exact px_fret dx_Ar_ofFloats_39 rfl (by (have q : op = 168 := by simpa using k_1_2); (have e : jFc op a b = FP.fmul a b := by (unfold jFc; rw [if_neg (show ¬ (op = 169 ∧ _) from fun w => by omega)]; unfold jF0; rw [if_neg (show ¬ op = 166 by omega), if_neg (show ¬ op = 167 by omega), if_pos q])); rw [e] at hp; exact hp)
  have kn_1 : op ∉ ([166, 167, 168] : List Nat) := by simp only [List.mem_cons, List.not_mem_nil, or_false, not_or] at *; omega
  refine px_tabD (e := op) [166, 167, 168] dx_Ar_ofFloats_1 (by omega) kn_1 2 166 ⟨rfl, rfl⟩ (by decide) rfl ?_
  refine px_fload_n dx_Ar_ofFloats_40 rfl ?_
  refine px_fconst0 dx_Ar_ofFloats_41 ?_
  refine px_fcmp dx_Ar_ofFloats_42 ?_
  refine px_if_ne dx_Ar_ofFloats_43 (fun c_43 => ?_) (fun c_43 => ?_)
  · refine px_fload_n dx_Ar_ofFloats_50 rfl ?_
    refine px_fload_n dx_Ar_ofFloats_51 rfl ?_
    refine px_fdiv dx_Ar_ofFloats_52 (fdiv_vn ha hb (hb0 (by have q := kn_1; simp only [List.mem_cons, List.not_mem_nil, or_false, not_or] at q; omega) (by first | assumption | (exfalso; omega)))) ?_
    exact px_fret dx_Ar_ofFloats_53 rfl (by (have q : op = 169 := by (simp only [List.mem_cons, List.not_mem_nil, or_false, not_or] at kn_1; omega)); (have e : jFc op a b = FP.fdiv a b := by (unfold jFc; rw [if_neg (fun w => c_43 w.2)]; unfold jF0; rw [if_neg (show ¬ op = 166 by omega), if_neg (show ¬ op = 167 by omega), if_neg (show ¬ op = 168 by omega)])); rw [e] at hp; exact hp)
  · refine px_fconst0 dx_Ar_ofFloats_46 ?_
    refine px_goto dx_Ar_ofFloats_47 ?_
    exact px_fret dx_Ar_ofFloats_53 rfl (by (have q : op = 169 := by (simp only [List.mem_cons, List.not_mem_nil, or_false, not_or] at kn_1; omega)); (have e : jFc op a b = 0 := by (unfold jFc; rw [if_pos ⟨q, by simpa using c_43⟩])); rw [e] at hp; exact hp)
set_option maxRecDepth 100000 in
set_option maxHeartbeats 1000000 in
theorem k_ofDoubles {l : Launch} {G : fr_G} {σ : fr_S} {op : Nat} (hop : op < 256) (ho : 171 ≤ op ∧ op ≤ 174) {a b : UInt64} (ha : dB a) (hb : dB b) (hb0 : op = 174 → ¬ Op.cmpValue (FP.dcmp b 0) .l = 0 → b.toNat % 2 ^ 63 ≠ 0) : CT l G yy_Ar_ofDoubles rm_Ar_ofDoubles [.int (nI (op)), .double (a), .double (b)] σ (some (.double (jDc op a b))) (σ) := by
  intro Post hp0
  have hp := hp0
  show PX l G yy_Ar_ofDoubles rm_Ar_ofDoubles _ false 742 0 0 0 [(0, .int (nI (op))), (1, .double (a)), (3, .double (b))] [] σ
  refine px_iload_n dx_Ar_ofDoubles_0 rfl ?_
  by_cases k_1_0 : op ∈ ([171] : List Nat)
  · refine px_tabG (e := op) (off := 27) [171] dx_Ar_ofDoubles_1 (by omega) k_1_0 (by decide) rfl ?_
    refine px_dload_n dx_Ar_ofDoubles_28 rfl ?_
    refine px_dload_n dx_Ar_ofDoubles_29 rfl ?_
    refine px_dadd dx_Ar_ofDoubles_30 (dadd_vn ha hb) ?_
    exact px_dret dx_Ar_ofDoubles_31 rfl (by (have q : op = 171 := by simpa using k_1_0); (have e : jDc op a b = FP.dadd a b := by (unfold jDc; rw [if_neg (show ¬ (op = 174 ∧ _) from fun w => by omega)]; unfold jD0; rw [if_pos q])); rw [e] at hp; exact hp)
  by_cases k_1_1 : op ∈ ([172] : List Nat)
  · refine px_tabG (e := op) (off := 31) [172] dx_Ar_ofDoubles_1 (by omega) k_1_1 (by decide) rfl ?_
    refine px_dload_n dx_Ar_ofDoubles_32 rfl ?_
    refine px_dload_n dx_Ar_ofDoubles_33 rfl ?_
    refine px_dsub dx_Ar_ofDoubles_34 (dsub_vn ha hb) ?_
    exact px_dret dx_Ar_ofDoubles_35 rfl (by (have q : op = 172 := by simpa using k_1_1); (have e : jDc op a b = FP.dsub a b := by (unfold jDc; rw [if_neg (show ¬ (op = 174 ∧ _) from fun w => by omega)]; unfold jD0; rw [if_neg (show ¬ op = 171 by omega), if_pos q])); rw [e] at hp; exact hp)
  by_cases k_1_2 : op ∈ ([173] : List Nat)
  · refine px_tabG (e := op) (off := 35) [173] dx_Ar_ofDoubles_1 (by omega) k_1_2 (by decide) rfl ?_
    refine px_dload_n dx_Ar_ofDoubles_36 rfl ?_
    refine px_dload_n dx_Ar_ofDoubles_37 rfl ?_
    refine px_dmul dx_Ar_ofDoubles_38 (dmul_vn ha hb) ?_
    exact px_dret dx_Ar_ofDoubles_39 rfl (by (have q : op = 173 := by simpa using k_1_2); (have e : jDc op a b = FP.dmul a b := by (unfold jDc; rw [if_neg (show ¬ (op = 174 ∧ _) from fun w => by omega)]; unfold jD0; rw [if_neg (show ¬ op = 171 by omega), if_neg (show ¬ op = 172 by omega), if_pos q])); rw [e] at hp; exact hp)
  have kn_1 : op ∉ ([171, 172, 173] : List Nat) := by simp only [List.mem_cons, List.not_mem_nil, or_false, not_or] at *; omega
  refine px_tabD (e := op) [171, 172, 173] dx_Ar_ofDoubles_1 (by omega) kn_1 2 171 ⟨rfl, rfl⟩ (by decide) rfl ?_
  refine px_dload_n dx_Ar_ofDoubles_40 rfl ?_
  refine px_dconst0 dx_Ar_ofDoubles_41 ?_
  refine px_dcmp dx_Ar_ofDoubles_42 ?_
  refine px_if_ne dx_Ar_ofDoubles_43 (fun c_43 => ?_) (fun c_43 => ?_)
  · refine px_dload_n dx_Ar_ofDoubles_50 rfl ?_
    refine px_dload_n dx_Ar_ofDoubles_51 rfl ?_
    refine px_ddiv dx_Ar_ofDoubles_52 (ddiv_vn ha hb (hb0 (by have q := kn_1; simp only [List.mem_cons, List.not_mem_nil, or_false, not_or] at q; omega) (by first | assumption | (exfalso; omega)))) ?_
    exact px_dret dx_Ar_ofDoubles_53 rfl (by (have q : op = 174 := by (simp only [List.mem_cons, List.not_mem_nil, or_false, not_or] at kn_1; omega)); (have e : jDc op a b = FP.ddiv a b := by (unfold jDc; rw [if_neg (fun w => c_43 w.2)]; unfold jD0; rw [if_neg (show ¬ op = 171 by omega), if_neg (show ¬ op = 172 by omega), if_neg (show ¬ op = 173 by omega)])); rw [e] at hp; exact hp)
  · refine px_dconst0 dx_Ar_ofDoubles_46 ?_
    refine px_goto dx_Ar_ofDoubles_47 ?_
    exact px_dret dx_Ar_ofDoubles_53 rfl (by (have q : op = 174 := by (simp only [List.mem_cons, List.not_mem_nil, or_false, not_or] at kn_1; omega)); (have e : jDc op a b = 0 := by (unfold jDc; rw [if_pos ⟨q, by simpa using c_43⟩])); rw [e] at hp; exact hp)

/-- how the class compares -/
def cmD (a b : UInt64) : Int32 := if Op.cmpValue (FP.dcmp a b) .g < 0 then -1 else if 0 < Op.cmpValue (FP.dcmp a b) .l then 1 else 0
def cmJ (a b : Int64) : Int32 := if lg_cmp a b < 0 then -1 else if lg_cmp a b = 0 then 0 else 1
def hdC (op : Nat) (x y : Int64) : Bool := if op ∈ [50, 56] then decide (lg_cmp x y = 0) else if op ∈ [51, 57] then decide (¬ lg_cmp x y = 0) else if op ∈ [52, 58] then decide (¬ 0 ≤ lg_cmp x y) else if op ∈ [53, 59] then decide (¬ lg_cmp x y < 0) else if op ∈ [54, 60] then decide (¬ lg_cmp x y ≤ 0) else decide (¬ 0 < lg_cmp x y)

set_option maxRecDepth 100000 in
set_option maxHeartbeats 1000000 in
theorem k_ofLongs {l : Launch} {G : fr_G} {σ : fr_S} {op : Nat} (hop : op < 256) (ho : 155 ≤ op ∧ op ≤ 159) {a b : Int64} (hz : op = 158 ∨ op = 159 → ¬ b = 0) : CT l G yy_Ar_ofLongs rm_Ar_ofLongs [.int (nI (op)), .long (a), .long (b)] σ (some (.long (jL op a b))) (σ) := by
  intro Post hp0
  have hp := hp0
  show PX l G yy_Ar_ofLongs rm_Ar_ofLongs _ false 742 0 0 0 [(0, .int (nI (op))), (1, .long (a)), (3, .long (b))] [] σ
  refine px_iload_n dx_Ar_ofLongs_0 rfl ?_
  by_cases k_1_0 : op ∈ ([155] : List Nat)
  · refine px_tabG (e := op) (off := 31) [155] dx_Ar_ofLongs_1 (by omega) k_1_0 (by decide) rfl ?_
    refine px_lload_n dx_Ar_ofLongs_32 rfl ?_
    refine px_lload_n dx_Ar_ofLongs_33 rfl ?_
    refine px_ladd dx_Ar_ofLongs_34 ?_
    exact px_lret dx_Ar_ofLongs_35 rfl (by (have e : jL op a b = a + b := by simp only [jL, k_1_0,  if_true, if_false]); rw [e] at hp; exact hp)
  by_cases k_1_1 : op ∈ ([156] : List Nat)
  · refine px_tabG (e := op) (off := 35) [156] dx_Ar_ofLongs_1 (by omega) k_1_1 (by decide) rfl ?_
    refine px_lload_n dx_Ar_ofLongs_36 rfl ?_
    refine px_lload_n dx_Ar_ofLongs_37 rfl ?_
    refine px_lsub dx_Ar_ofLongs_38 ?_
    exact px_lret dx_Ar_ofLongs_39 rfl (by (have e : jL op a b = a - b := by simp only [jL, k_1_0, k_1_1,  if_true, if_false]); rw [e] at hp; exact hp)
  by_cases k_1_2 : op ∈ ([157] : List Nat)
  · refine px_tabG (e := op) (off := 39) [157] dx_Ar_ofLongs_1 (by omega) k_1_2 (by decide) rfl ?_
    refine px_lload_n dx_Ar_ofLongs_40 rfl ?_
    refine px_lload_n dx_Ar_ofLongs_41 rfl ?_
    refine px_lmul dx_Ar_ofLongs_42 ?_
    exact px_lret dx_Ar_ofLongs_43 rfl (by (have e : jL op a b = a * b := by simp only [jL, k_1_0, k_1_1, k_1_2,  if_true, if_false]); rw [e] at hp; exact hp)
  by_cases k_1_3 : op ∈ ([158] : List Nat)
  · refine px_tabG (e := op) (off := 43) [158] dx_Ar_ofLongs_1 (by omega) k_1_3 (by decide) rfl ?_
    refine px_lload_n dx_Ar_ofLongs_44 rfl ?_
    refine px_lconst (v := 0) dx_Ar_ofLongs_45 rfl ?_
    refine px_lcmp dx_Ar_ofLongs_46 ?_
    refine px_if_ne dx_Ar_ofLongs_47 (fun c_47 => ?_) (fun c_47 => ?_)
    · refine px_lload_n dx_Ar_ofLongs_54 rfl ?_
      refine px_lload_n dx_Ar_ofLongs_55 rfl ?_
      refine px_ldiv dx_Ar_ofLongs_56 (fun q => c_47 (by rw [q]; exact lg_cmp_s _)) ?_
      exact px_lret dx_Ar_ofLongs_57 rfl (by (have e : jL op a b = a / b := by simp only [jL, k_1_0, k_1_1, k_1_2, k_1_3,  if_true, if_false]); rw [e] at hp; exact hp)
    · refine px_lconst (v := 0) dx_Ar_ofLongs_50 rfl ?_
      refine px_goto dx_Ar_ofLongs_51 ?_
      exact px_lret dx_Ar_ofLongs_57 rfl (by exact absurd ((lg_cmp_eq _ _).mp (by simpa using c_47)) (hz (by first | (have q := k_1_3; simp only [List.mem_cons, List.not_mem_nil, or_false] at q; omega) | (have q := kn_1; simp only [List.mem_cons, List.not_mem_nil, or_false, not_or] at q; omega))))
  have kn_1 : op ∉ ([155, 156, 157, 158] : List Nat) := by simp only [List.mem_cons, List.not_mem_nil, or_false, not_or] at *; omega
  refine px_tabD (e := op) [155, 156, 157, 158] dx_Ar_ofLongs_1 (by omega) kn_1 3 155 ⟨rfl, rfl⟩ (by decide) rfl ?_
  refine px_lload_n dx_Ar_ofLongs_58 rfl ?_
  refine px_lconst (v := 0) dx_Ar_ofLongs_59 rfl ?_
  refine px_lcmp dx_Ar_ofLongs_60 ?_
  refine px_if_ne dx_Ar_ofLongs_61 (fun c_61 => ?_) (fun c_61 => ?_)
  · refine px_lload_n dx_Ar_ofLongs_68 rfl ?_
    refine px_lload_n dx_Ar_ofLongs_69 rfl ?_
    refine px_lrem dx_Ar_ofLongs_70 (fun q => c_61 (by rw [q]; exact lg_cmp_s _)) ?_
    exact px_lret dx_Ar_ofLongs_71 rfl (by (have e : jL op a b = a - a / b * b := by simp only [jL, k_1_0, k_1_1, k_1_2, k_1_3,  if_true, if_false]); rw [e] at hp; exact hp)
  · refine px_lconst (v := 0) dx_Ar_ofLongs_64 rfl ?_
    refine px_goto dx_Ar_ofLongs_65 ?_
    exact px_lret dx_Ar_ofLongs_71 rfl (by exact absurd ((lg_cmp_eq _ _).mp (by simpa using c_61)) (hz (by first | (have q := k_1_3; simp only [List.mem_cons, List.not_mem_nil, or_false] at q; omega) | (have q := kn_1; simp only [List.mem_cons, List.not_mem_nil, or_false, not_or] at q; omega))))
set_option maxRecDepth 100000 in
set_option maxHeartbeats 1000000 in
theorem k_compareReals {l : Launch} {G : fr_G} {σ : fr_S} {a b : UInt64} : CT l G yy_Ar_compareReals rm_Ar_compareReals [.double (a), .double (b)] σ (some (.int (cmD a b))) (σ) := by
  intro Post hp0
  have hp := hp0
  show PX l G yy_Ar_compareReals rm_Ar_compareReals _ false 742 0 0 0 [(0, .double (a)), (2, .double (b))] [] σ
  refine px_dload_n dx_Ar_compareReals_0 rfl ?_
  refine px_dload_n dx_Ar_compareReals_1 rfl ?_
  refine px_dcmp dx_Ar_compareReals_2 ?_
  refine px_if_ge dx_Ar_compareReals_3 (fun c_3 => ?_) (fun c_3 => ?_)
  · refine px_dload_n dx_Ar_compareReals_8 rfl ?_
    refine px_dload_n dx_Ar_compareReals_9 rfl ?_
    refine px_dcmp dx_Ar_compareReals_10 ?_
    refine px_if_le dx_Ar_compareReals_11 (fun c_11 => ?_) (fun c_11 => ?_)
    · refine px_iconst (v := 0) dx_Ar_compareReals_18 rfl ?_
      exact px_iret dx_Ar_compareReals_19 rfl (by (have e : cmD a b = 0 := by (unfold cmD; rw [if_neg (not_lt_ge c_3)]; rw [if_neg (not_lt_ge c_11)])); rw [e] at hp; exact hp)
    · refine px_iconst (v := 1) dx_Ar_compareReals_14 rfl ?_
      refine px_goto dx_Ar_compareReals_15 ?_
      exact px_iret dx_Ar_compareReals_19 rfl (by (have e : cmD a b = 1 := by (unfold cmD; rw [if_neg (not_lt_ge c_3)]; rw [if_pos (ge_lt c_11)])); rw [e] at hp; exact hp)
  · refine px_iconst (v := -1) dx_Ar_compareReals_6 rfl ?_
    exact px_iret dx_Ar_compareReals_7 rfl (by (have e : cmD a b = -1 := by (unfold cmD; rw [if_pos (ge_lt c_3)])); rw [e] at hp; exact hp)
set_option maxRecDepth 100000 in
set_option maxHeartbeats 1000000 in
theorem k_compareLongs {l : Launch} {G : fr_G} {σ : fr_S} {a b : Int64} : CT l G yy_Jl_compare rm_Jl_compare [.long (a), .long (b)] σ (some (.int (cmJ a b))) (σ) := by
  intro Post hp0
  have hp := hp0
  show PX l G yy_Jl_compare rm_Jl_compare _ false 742 0 0 0 [(0, .long (a)), (2, .long (b))] [] σ
  refine px_lload_n dx_Jl_compare_0 rfl ?_
  refine px_lload_n dx_Jl_compare_1 rfl ?_
  refine px_lcmp dx_Jl_compare_2 ?_
  refine px_if_ge dx_Jl_compare_3 (fun c_3 => ?_) (fun c_3 => ?_)
  · refine px_lload_n dx_Jl_compare_10 rfl ?_
    refine px_lload_n dx_Jl_compare_11 rfl ?_
    refine px_lcmp dx_Jl_compare_12 ?_
    refine px_if_ne dx_Jl_compare_13 (fun c_13 => ?_) (fun c_13 => ?_)
    · refine px_iconst (v := 1) dx_Jl_compare_20 rfl ?_
      exact px_iret dx_Jl_compare_21 rfl (by (have e : cmJ a b = 1 := by (unfold cmJ; rw [if_neg (not_lt_ge c_3)]; rw [if_neg c_13])); rw [e] at hp; exact hp)
    · refine px_iconst (v := 0) dx_Jl_compare_16 rfl ?_
      refine px_goto dx_Jl_compare_17 ?_
      exact px_iret dx_Jl_compare_21 rfl (by (have e : cmJ a b = 0 := by (unfold cmJ; rw [if_neg (not_lt_ge c_3)]; rw [if_pos (by simpa using c_13)])); rw [e] at hp; exact hp)
  · refine px_iconst (v := -1) dx_Jl_compare_6 rfl ?_
    refine px_goto dx_Jl_compare_7 ?_
    exact px_iret dx_Jl_compare_21 rfl (by (have e : cmJ a b = -1 := by (unfold cmJ; rw [if_pos (ge_lt c_3)])); rw [e] at hp; exact hp)
set_option maxRecDepth 100000 in
set_option maxHeartbeats 1000000 in
theorem k_holds2 {l : Launch} {G : fr_G} {σ : fr_S} {f : Nat} (hF : FE f) (hR : RF σ) {s : Nat} (hS : SE s) {op kk r1 r2 : Nat} (hop : 50 ≤ op ∧ op ≤ 61) (h2 : gI σ s 2 = nI op) (h3 : gI σ s 3 = nI kk) (h10 : gI σ s 10 = nI r1) (hr1 : r1 < 10) (hkk : kk = 10) (h11 : gI σ s 11 = nI r2) (hr2 : r2 < 10) : CT l G yy_Mc_holds rm_Mc_holds [.ref (f), .ref (s)] σ (some (.int (b2i (hdC op (gL σ (f + 1) r1) (gL σ (f + 1) r2))))) (σ) := by
  intro Post hp0
  have hp := hp0
  show PX l G yy_Mc_holds rm_Mc_holds _ false 742 0 0 0 [(0, .ref (f)), (1, .ref (s))] [] σ
  have kF := kd_F hF
  have kS := kd_S hS
  refine px_aload_n dx_Mc_holds_0 rfl ?_
  refine px_aload_n dx_Mc_holds_1 rfl ?_
  refine px_getI dx_Mc_holds_2 fl_Mc_106 kS.1 (by omega) rfl ?_
  refine px_eqi (y := nI (r1)) h10 ?_
  refine px_cV (Y := yy_Mc_holds) (Yc := yy_Fr_whole) (b := f) (As := [.int (nI (r1))]) dx_Mc_holds_5 ml_Mc_109 mv_Fr_whole np_Fr_whole ⟨_, rfl⟩ (by decide) kF.1 (by omega) rfl (Nat.le_of_ble_eq_true rfl) (Nat.le_of_ble_eq_true rfl) rk_Mc_holds_Fr_whole rfl (k_whole (r := r1) hF hR (by omega)) zz_0 ?_
  refine px_lstore_n (lv' := [(2, .long (gL σ (f + 1) r1)), (0, .ref (f)), (1, .ref (s))]) dx_Mc_holds_8 (by decide) rfl ?_
  refine px_aload_n dx_Mc_holds_9 rfl ?_
  refine px_getI dx_Mc_holds_10 fl_Mc_73 kS.1 (by omega) rfl ?_
  refine px_eqi (y := nI (kk)) h3 ?_
  refine px_bipush (v := 10) dx_Mc_holds_13 rfl ?_
  refine px_icmp_neN (a := kk) (b := 10) dx_Mc_holds_15 (by omega) (by omega) (fun c_15 => ?_) (fun c_15 => ?_)
  · exfalso; omega
  · refine px_aload_n dx_Mc_holds_18 rfl ?_
    refine px_aload_n dx_Mc_holds_19 rfl ?_
    refine px_getI dx_Mc_holds_20 fl_Mc_151 kS.1 (by omega) rfl ?_
    refine px_eqi (y := nI (r2)) h11 ?_
    refine px_cV (Y := yy_Mc_holds) (Yc := yy_Fr_whole) (b := f) (As := [.int (nI (r2))]) dx_Mc_holds_23 ml_Mc_109 mv_Fr_whole np_Fr_whole ⟨_, rfl⟩ (by decide) kF.1 (by omega) rfl (Nat.le_of_ble_eq_true rfl) (Nat.le_of_ble_eq_true rfl) rk_Mc_holds_Fr_whole rfl (k_whole (r := r2) hF hR (by omega)) zz_0 ?_
    refine px_goto dx_Mc_holds_26 ?_
    refine px_lstore (lv' := [(4, .long (gL σ (f + 1) r2)), (2, .long (gL σ (f + 1) r1)), (0, .ref (f)), (1, .ref (s))]) dx_Mc_holds_30 (by decide) rfl ?_
    refine px_aload_n dx_Mc_holds_32 rfl ?_
    refine px_getI dx_Mc_holds_33 fl_Mc_154 kS.1 (by omega) rfl ?_
    refine px_eqi (y := nI (op)) h2 ?_
    by_cases k_36_0 : op ∈ ([50, 56] : List Nat)
    · refine px_tabG (e := op) (off := 60) [50, 56] dx_Mc_holds_36 (by omega) k_36_0 (by decide) rfl ?_
      refine px_lload_n dx_Mc_holds_96 rfl ?_
      refine px_lload dx_Mc_holds_97 rfl ?_
      refine px_lcmp dx_Mc_holds_99 ?_
      refine px_if_ne dx_Mc_holds_100 (fun c_100 => ?_) (fun c_100 => ?_)
      · refine px_iconst (v := 0) dx_Mc_holds_107 rfl ?_
        exact px_zret dx_Mc_holds_108 rfl (by decide) (by (have e : hdC op (gL σ (f + 1) r1) (gL σ (f + 1) r2) = false := by (unfold hdC; rw [if_pos k_36_0]; exact decide_eq_false (by simpa using c_100))); rw [e] at hp; exact hp)
      · refine px_iconst (v := 1) dx_Mc_holds_103 rfl ?_
        refine px_goto dx_Mc_holds_104 ?_
        exact px_zret dx_Mc_holds_108 rfl (by decide) (by (have e : hdC op (gL σ (f + 1) r1) (gL σ (f + 1) r2) = true := by (unfold hdC; rw [if_pos k_36_0]; exact decide_eq_true (by simpa using c_100))); rw [e] at hp; exact hp)
    by_cases k_36_1 : op ∈ ([51, 57] : List Nat)
    · refine px_tabG (e := op) (off := 73) [51, 57] dx_Mc_holds_36 (by omega) k_36_1 (by decide) rfl ?_
      refine px_lload_n dx_Mc_holds_109 rfl ?_
      refine px_lload dx_Mc_holds_110 rfl ?_
      refine px_lcmp dx_Mc_holds_112 ?_
      refine px_if_eq dx_Mc_holds_113 (fun c_113 => ?_) (fun c_113 => ?_)
      · refine px_iconst (v := 0) dx_Mc_holds_120 rfl ?_
        exact px_zret dx_Mc_holds_121 rfl (by decide) (by (have e : hdC op (gL σ (f + 1) r1) (gL σ (f + 1) r2) = false := by (unfold hdC; rw [if_neg k_36_0]; rw [if_pos k_36_1]; exact decide_eq_false (by simpa using c_113))); rw [e] at hp; exact hp)
      · refine px_iconst (v := 1) dx_Mc_holds_116 rfl ?_
        refine px_goto dx_Mc_holds_117 ?_
        exact px_zret dx_Mc_holds_121 rfl (by decide) (by (have e : hdC op (gL σ (f + 1) r1) (gL σ (f + 1) r2) = true := by (unfold hdC; rw [if_neg k_36_0]; rw [if_pos k_36_1]; exact decide_eq_true (by simpa using c_113))); rw [e] at hp; exact hp)
    by_cases k_36_2 : op ∈ ([52, 58] : List Nat)
    · refine px_tabG (e := op) (off := 86) [52, 58] dx_Mc_holds_36 (by omega) k_36_2 (by decide) rfl ?_
      refine px_lload_n dx_Mc_holds_122 rfl ?_
      refine px_lload dx_Mc_holds_123 rfl ?_
      refine px_lcmp dx_Mc_holds_125 ?_
      refine px_if_ge dx_Mc_holds_126 (fun c_126 => ?_) (fun c_126 => ?_)
      · refine px_iconst (v := 0) dx_Mc_holds_133 rfl ?_
        exact px_zret dx_Mc_holds_134 rfl (by decide) (by (have e : hdC op (gL σ (f + 1) r1) (gL σ (f + 1) r2) = false := by (unfold hdC; rw [if_neg k_36_0]; rw [if_neg k_36_1]; rw [if_pos k_36_2]; exact decide_eq_false (by simpa using c_126))); rw [e] at hp; exact hp)
      · refine px_iconst (v := 1) dx_Mc_holds_129 rfl ?_
        refine px_goto dx_Mc_holds_130 ?_
        exact px_zret dx_Mc_holds_134 rfl (by decide) (by (have e : hdC op (gL σ (f + 1) r1) (gL σ (f + 1) r2) = true := by (unfold hdC; rw [if_neg k_36_0]; rw [if_neg k_36_1]; rw [if_pos k_36_2]; exact decide_eq_true (by simpa using c_126))); rw [e] at hp; exact hp)
    by_cases k_36_3 : op ∈ ([53, 59] : List Nat)
    · refine px_tabG (e := op) (off := 99) [53, 59] dx_Mc_holds_36 (by omega) k_36_3 (by decide) rfl ?_
      refine px_lload_n dx_Mc_holds_135 rfl ?_
      refine px_lload dx_Mc_holds_136 rfl ?_
      refine px_lcmp dx_Mc_holds_138 ?_
      refine px_if_lt dx_Mc_holds_139 (fun c_139 => ?_) (fun c_139 => ?_)
      · refine px_iconst (v := 0) dx_Mc_holds_146 rfl ?_
        exact px_zret dx_Mc_holds_147 rfl (by decide) (by (have e : hdC op (gL σ (f + 1) r1) (gL σ (f + 1) r2) = false := by (unfold hdC; rw [if_neg k_36_0]; rw [if_neg k_36_1]; rw [if_neg k_36_2]; rw [if_pos k_36_3]; exact decide_eq_false (by simpa using c_139))); rw [e] at hp; exact hp)
      · refine px_iconst (v := 1) dx_Mc_holds_142 rfl ?_
        refine px_goto dx_Mc_holds_143 ?_
        exact px_zret dx_Mc_holds_147 rfl (by decide) (by (have e : hdC op (gL σ (f + 1) r1) (gL σ (f + 1) r2) = true := by (unfold hdC; rw [if_neg k_36_0]; rw [if_neg k_36_1]; rw [if_neg k_36_2]; rw [if_pos k_36_3]; exact decide_eq_true (by simpa using c_139))); rw [e] at hp; exact hp)
    by_cases k_36_4 : op ∈ ([54, 60] : List Nat)
    · refine px_tabG (e := op) (off := 112) [54, 60] dx_Mc_holds_36 (by omega) k_36_4 (by decide) rfl ?_
      refine px_lload_n dx_Mc_holds_148 rfl ?_
      refine px_lload dx_Mc_holds_149 rfl ?_
      refine px_lcmp dx_Mc_holds_151 ?_
      refine px_if_le dx_Mc_holds_152 (fun c_152 => ?_) (fun c_152 => ?_)
      · refine px_iconst (v := 0) dx_Mc_holds_159 rfl ?_
        exact px_zret dx_Mc_holds_160 rfl (by decide) (by (have e : hdC op (gL σ (f + 1) r1) (gL σ (f + 1) r2) = false := by (unfold hdC; rw [if_neg k_36_0]; rw [if_neg k_36_1]; rw [if_neg k_36_2]; rw [if_neg k_36_3]; rw [if_pos k_36_4]; exact decide_eq_false (by simpa using c_152))); rw [e] at hp; exact hp)
      · refine px_iconst (v := 1) dx_Mc_holds_155 rfl ?_
        refine px_goto dx_Mc_holds_156 ?_
        exact px_zret dx_Mc_holds_160 rfl (by decide) (by (have e : hdC op (gL σ (f + 1) r1) (gL σ (f + 1) r2) = true := by (unfold hdC; rw [if_neg k_36_0]; rw [if_neg k_36_1]; rw [if_neg k_36_2]; rw [if_neg k_36_3]; rw [if_pos k_36_4]; exact decide_eq_true (by simpa using c_152))); rw [e] at hp; exact hp)
    have kn_36 : op ∉ ([50, 51, 52, 53, 54, 56, 57, 58, 59, 60] : List Nat) := by simp only [List.mem_cons, List.not_mem_nil, or_false, not_or] at *; omega
    refine px_tabD (e := op) [50, 51, 52, 53, 54, 56, 57, 58, 59, 60] dx_Mc_holds_36 (by omega) kn_36 10 50 ⟨rfl, rfl⟩ (by decide) rfl ?_
    refine px_lload_n dx_Mc_holds_161 rfl ?_
    refine px_lload dx_Mc_holds_162 rfl ?_
    refine px_lcmp dx_Mc_holds_164 ?_
    refine px_if_gt dx_Mc_holds_165 (fun c_165 => ?_) (fun c_165 => ?_)
    · refine px_iconst (v := 0) dx_Mc_holds_172 rfl ?_
      exact px_zret dx_Mc_holds_173 rfl (by decide) (by (have e : hdC op (gL σ (f + 1) r1) (gL σ (f + 1) r2) = false := by (unfold hdC; rw [if_neg k_36_0]; rw [if_neg k_36_1]; rw [if_neg k_36_2]; rw [if_neg k_36_3]; rw [if_neg k_36_4]; exact decide_eq_false (by simpa using c_165))); rw [e] at hp; exact hp)
    · refine px_iconst (v := 1) dx_Mc_holds_168 rfl ?_
      refine px_goto dx_Mc_holds_169 ?_
      exact px_zret dx_Mc_holds_173 rfl (by decide) (by (have e : hdC op (gL σ (f + 1) r1) (gL σ (f + 1) r2) = true := by (unfold hdC; rw [if_neg k_36_0]; rw [if_neg k_36_1]; rw [if_neg k_36_2]; rw [if_neg k_36_3]; rw [if_neg k_36_4]; exact decide_eq_true (by simpa using c_165))); rw [e] at hp; exact hp)
set_option maxRecDepth 100000 in
set_option maxHeartbeats 1000000 in
theorem k_holds1 {l : Launch} {G : fr_G} {σ : fr_S} {f : Nat} (hF : FE f) (hR : RF σ) {s : Nat} (hS : SE s) {op kk r1 r2 : Nat} (hop : 50 ≤ op ∧ op ≤ 61) (h2 : gI σ s 2 = nI op) (h3 : gI σ s 3 = nI kk) (h10 : gI σ s 10 = nI r1) (hr1 : r1 < 10) (hkk : kk = 11) : CT l G yy_Mc_holds rm_Mc_holds [.ref (f), .ref (s)] σ (some (.int (b2i (hdC op (gL σ (f + 1) r1) 0)))) (σ) := by
  intro Post hp0
  have hp := hp0
  show PX l G yy_Mc_holds rm_Mc_holds _ false 742 0 0 0 [(0, .ref (f)), (1, .ref (s))] [] σ
  have kF := kd_F hF
  have kS := kd_S hS
  refine px_aload_n dx_Mc_holds_0 rfl ?_
  refine px_aload_n dx_Mc_holds_1 rfl ?_
  refine px_getI dx_Mc_holds_2 fl_Mc_106 kS.1 (by omega) rfl ?_
  refine px_eqi (y := nI (r1)) h10 ?_
  refine px_cV (Y := yy_Mc_holds) (Yc := yy_Fr_whole) (b := f) (As := [.int (nI (r1))]) dx_Mc_holds_5 ml_Mc_109 mv_Fr_whole np_Fr_whole ⟨_, rfl⟩ (by decide) kF.1 (by omega) rfl (Nat.le_of_ble_eq_true rfl) (Nat.le_of_ble_eq_true rfl) rk_Mc_holds_Fr_whole rfl (k_whole (r := r1) hF hR (by omega)) zz_0 ?_
  refine px_lstore_n (lv' := [(2, .long (gL σ (f + 1) r1)), (0, .ref (f)), (1, .ref (s))]) dx_Mc_holds_8 (by decide) rfl ?_
  refine px_aload_n dx_Mc_holds_9 rfl ?_
  refine px_getI dx_Mc_holds_10 fl_Mc_73 kS.1 (by omega) rfl ?_
  refine px_eqi (y := nI (kk)) h3 ?_
  refine px_bipush (v := 10) dx_Mc_holds_13 rfl ?_
  refine px_icmp_neN (a := kk) (b := 10) dx_Mc_holds_15 (by omega) (by omega) (fun c_15 => ?_) (fun c_15 => ?_)
  · refine px_lconst (v := 0) dx_Mc_holds_29 rfl ?_
    refine px_lstore (lv' := [(4, .long (0)), (2, .long (gL σ (f + 1) r1)), (0, .ref (f)), (1, .ref (s))]) dx_Mc_holds_30 (by decide) rfl ?_
    refine px_aload_n dx_Mc_holds_32 rfl ?_
    refine px_getI dx_Mc_holds_33 fl_Mc_154 kS.1 (by omega) rfl ?_
    refine px_eqi (y := nI (op)) h2 ?_
    by_cases k_36_0 : op ∈ ([50, 56] : List Nat)
    · refine px_tabG (e := op) (off := 60) [50, 56] dx_Mc_holds_36 (by omega) k_36_0 (by decide) rfl ?_
      refine px_lload_n dx_Mc_holds_96 rfl ?_
      refine px_lload dx_Mc_holds_97 rfl ?_
      refine px_lcmp dx_Mc_holds_99 ?_
      refine px_if_ne dx_Mc_holds_100 (fun c_100 => ?_) (fun c_100 => ?_)
      · refine px_iconst (v := 0) dx_Mc_holds_107 rfl ?_
        exact px_zret dx_Mc_holds_108 rfl (by decide) (by (have e : hdC op (gL σ (f + 1) r1) 0 = false := by (unfold hdC; rw [if_pos k_36_0]; exact decide_eq_false (by simpa using c_100))); rw [e] at hp; exact hp)
      · refine px_iconst (v := 1) dx_Mc_holds_103 rfl ?_
        refine px_goto dx_Mc_holds_104 ?_
        exact px_zret dx_Mc_holds_108 rfl (by decide) (by (have e : hdC op (gL σ (f + 1) r1) 0 = true := by (unfold hdC; rw [if_pos k_36_0]; exact decide_eq_true (by simpa using c_100))); rw [e] at hp; exact hp)
    by_cases k_36_1 : op ∈ ([51, 57] : List Nat)
    · refine px_tabG (e := op) (off := 73) [51, 57] dx_Mc_holds_36 (by omega) k_36_1 (by decide) rfl ?_
      refine px_lload_n dx_Mc_holds_109 rfl ?_
      refine px_lload dx_Mc_holds_110 rfl ?_
      refine px_lcmp dx_Mc_holds_112 ?_
      refine px_if_eq dx_Mc_holds_113 (fun c_113 => ?_) (fun c_113 => ?_)
      · refine px_iconst (v := 0) dx_Mc_holds_120 rfl ?_
        exact px_zret dx_Mc_holds_121 rfl (by decide) (by (have e : hdC op (gL σ (f + 1) r1) 0 = false := by (unfold hdC; rw [if_neg k_36_0]; rw [if_pos k_36_1]; exact decide_eq_false (by simpa using c_113))); rw [e] at hp; exact hp)
      · refine px_iconst (v := 1) dx_Mc_holds_116 rfl ?_
        refine px_goto dx_Mc_holds_117 ?_
        exact px_zret dx_Mc_holds_121 rfl (by decide) (by (have e : hdC op (gL σ (f + 1) r1) 0 = true := by (unfold hdC; rw [if_neg k_36_0]; rw [if_pos k_36_1]; exact decide_eq_true (by simpa using c_113))); rw [e] at hp; exact hp)
    by_cases k_36_2 : op ∈ ([52, 58] : List Nat)
    · refine px_tabG (e := op) (off := 86) [52, 58] dx_Mc_holds_36 (by omega) k_36_2 (by decide) rfl ?_
      refine px_lload_n dx_Mc_holds_122 rfl ?_
      refine px_lload dx_Mc_holds_123 rfl ?_
      refine px_lcmp dx_Mc_holds_125 ?_
      refine px_if_ge dx_Mc_holds_126 (fun c_126 => ?_) (fun c_126 => ?_)
      · refine px_iconst (v := 0) dx_Mc_holds_133 rfl ?_
        exact px_zret dx_Mc_holds_134 rfl (by decide) (by (have e : hdC op (gL σ (f + 1) r1) 0 = false := by (unfold hdC; rw [if_neg k_36_0]; rw [if_neg k_36_1]; rw [if_pos k_36_2]; exact decide_eq_false (by simpa using c_126))); rw [e] at hp; exact hp)
      · refine px_iconst (v := 1) dx_Mc_holds_129 rfl ?_
        refine px_goto dx_Mc_holds_130 ?_
        exact px_zret dx_Mc_holds_134 rfl (by decide) (by (have e : hdC op (gL σ (f + 1) r1) 0 = true := by (unfold hdC; rw [if_neg k_36_0]; rw [if_neg k_36_1]; rw [if_pos k_36_2]; exact decide_eq_true (by simpa using c_126))); rw [e] at hp; exact hp)
    by_cases k_36_3 : op ∈ ([53, 59] : List Nat)
    · refine px_tabG (e := op) (off := 99) [53, 59] dx_Mc_holds_36 (by omega) k_36_3 (by decide) rfl ?_
      refine px_lload_n dx_Mc_holds_135 rfl ?_
      refine px_lload dx_Mc_holds_136 rfl ?_
      refine px_lcmp dx_Mc_holds_138 ?_
      refine px_if_lt dx_Mc_holds_139 (fun c_139 => ?_) (fun c_139 => ?_)
      · refine px_iconst (v := 0) dx_Mc_holds_146 rfl ?_
        exact px_zret dx_Mc_holds_147 rfl (by decide) (by (have e : hdC op (gL σ (f + 1) r1) 0 = false := by (unfold hdC; rw [if_neg k_36_0]; rw [if_neg k_36_1]; rw [if_neg k_36_2]; rw [if_pos k_36_3]; exact decide_eq_false (by simpa using c_139))); rw [e] at hp; exact hp)
      · refine px_iconst (v := 1) dx_Mc_holds_142 rfl ?_
        refine px_goto dx_Mc_holds_143 ?_
        exact px_zret dx_Mc_holds_147 rfl (by decide) (by (have e : hdC op (gL σ (f + 1) r1) 0 = true := by (unfold hdC; rw [if_neg k_36_0]; rw [if_neg k_36_1]; rw [if_neg k_36_2]; rw [if_pos k_36_3]; exact decide_eq_true (by simpa using c_139))); rw [e] at hp; exact hp)
    by_cases k_36_4 : op ∈ ([54, 60] : List Nat)
    · refine px_tabG (e := op) (off := 112) [54, 60] dx_Mc_holds_36 (by omega) k_36_4 (by decide) rfl ?_
      refine px_lload_n dx_Mc_holds_148 rfl ?_
      refine px_lload dx_Mc_holds_149 rfl ?_
      refine px_lcmp dx_Mc_holds_151 ?_
      refine px_if_le dx_Mc_holds_152 (fun c_152 => ?_) (fun c_152 => ?_)
      · refine px_iconst (v := 0) dx_Mc_holds_159 rfl ?_
        exact px_zret dx_Mc_holds_160 rfl (by decide) (by (have e : hdC op (gL σ (f + 1) r1) 0 = false := by (unfold hdC; rw [if_neg k_36_0]; rw [if_neg k_36_1]; rw [if_neg k_36_2]; rw [if_neg k_36_3]; rw [if_pos k_36_4]; exact decide_eq_false (by simpa using c_152))); rw [e] at hp; exact hp)
      · refine px_iconst (v := 1) dx_Mc_holds_155 rfl ?_
        refine px_goto dx_Mc_holds_156 ?_
        exact px_zret dx_Mc_holds_160 rfl (by decide) (by (have e : hdC op (gL σ (f + 1) r1) 0 = true := by (unfold hdC; rw [if_neg k_36_0]; rw [if_neg k_36_1]; rw [if_neg k_36_2]; rw [if_neg k_36_3]; rw [if_pos k_36_4]; exact decide_eq_true (by simpa using c_152))); rw [e] at hp; exact hp)
    have kn_36 : op ∉ ([50, 51, 52, 53, 54, 56, 57, 58, 59, 60] : List Nat) := by simp only [List.mem_cons, List.not_mem_nil, or_false, not_or] at *; omega
    refine px_tabD (e := op) [50, 51, 52, 53, 54, 56, 57, 58, 59, 60] dx_Mc_holds_36 (by omega) kn_36 10 50 ⟨rfl, rfl⟩ (by decide) rfl ?_
    refine px_lload_n dx_Mc_holds_161 rfl ?_
    refine px_lload dx_Mc_holds_162 rfl ?_
    refine px_lcmp dx_Mc_holds_164 ?_
    refine px_if_gt dx_Mc_holds_165 (fun c_165 => ?_) (fun c_165 => ?_)
    · refine px_iconst (v := 0) dx_Mc_holds_172 rfl ?_
      exact px_zret dx_Mc_holds_173 rfl (by decide) (by (have e : hdC op (gL σ (f + 1) r1) 0 = false := by (unfold hdC; rw [if_neg k_36_0]; rw [if_neg k_36_1]; rw [if_neg k_36_2]; rw [if_neg k_36_3]; rw [if_neg k_36_4]; exact decide_eq_false (by simpa using c_165))); rw [e] at hp; exact hp)
    · refine px_iconst (v := 1) dx_Mc_holds_168 rfl ?_
      refine px_goto dx_Mc_holds_169 ?_
      exact px_zret dx_Mc_holds_173 rfl (by decide) (by (have e : hdC op (gL σ (f + 1) r1) 0 = true := by (unfold hdC; rw [if_neg k_36_0]; rw [if_neg k_36_1]; rw [if_neg k_36_2]; rw [if_neg k_36_3]; rw [if_neg k_36_4]; exact decide_eq_true (by simpa using c_165))); rw [e] at hp; exact hp)
  · exfalso; omega
