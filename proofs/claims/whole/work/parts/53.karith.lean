/-! the class: arithmetic -/
def jFc (op : Nat) (a b : UInt32) : UInt32 := if op = 169 ∧ Op.cmpValue (FP.fcmp b 0) .l = 0 then 0 else jF0 op a b
def jDc (op : Nat) (a b : UInt64) : UInt64 := if op = 174 ∧ Op.cmpValue (FP.dcmp b 0) .l = 0 then 0 else jD0 op a b

set_option maxRecDepth 100000 in
set_option maxHeartbeats 1000000 in
theorem k_divides {l : Launch} {G : fr_G} {σ : fr_S} {op : Nat} (hop : op < 256) : CT l G yy_Ar_divides rm_Ar_divides [.int (nI (op))] σ (some (.int (b2i (dvO op)))) (σ) := by
  intro Post hp0
  have hp := hp0
  show PX l G yy_Ar_divides rm_Ar_divides _ false 742 0 0 0 [(0, .int (nI (op)))] [] σ
  refine px_iload_n dx_Ar_divides_0 rfl ?_
  refine px_sipush (v := 147) dx_Ar_divides_1 rfl ?_
  refine px_icmp_eqN (a := op) (b := 147) dx_Ar_divides_4 (by omega) (by omega) (fun c_4 => ?_) (fun c_4 => ?_)
  · refine px_iconst (v := 1) dx_Ar_divides_28 rfl ?_
    refine px_goto dx_Ar_divides_29 ?_
    exact px_zret dx_Ar_divides_33 rfl (by decide) (by (have e : dvO op = true := by (simp only [dvO, Bool.or_eq_true, decide_eq_true_eq]; omega)); rw [e] at hp; exact hp)
  · refine px_iload_n dx_Ar_divides_7 rfl ?_
    refine px_sipush (v := 148) dx_Ar_divides_8 rfl ?_
    refine px_icmp_eqN (a := op) (b := 148) dx_Ar_divides_11 (by omega) (by omega) (fun c_11 => ?_) (fun c_11 => ?_)
    · refine px_iconst (v := 1) dx_Ar_divides_28 rfl ?_
      refine px_goto dx_Ar_divides_29 ?_
      exact px_zret dx_Ar_divides_33 rfl (by decide) (by (have e : dvO op = true := by (simp only [dvO, Bool.or_eq_true, decide_eq_true_eq]; omega)); rw [e] at hp; exact hp)
    · refine px_iload_n dx_Ar_divides_14 rfl ?_
      refine px_sipush (v := 158) dx_Ar_divides_15 rfl ?_
      refine px_icmp_eqN (a := op) (b := 158) dx_Ar_divides_18 (by omega) (by omega) (fun c_18 => ?_) (fun c_18 => ?_)
      · refine px_iconst (v := 1) dx_Ar_divides_28 rfl ?_
        refine px_goto dx_Ar_divides_29 ?_
        exact px_zret dx_Ar_divides_33 rfl (by decide) (by (have e : dvO op = true := by (simp only [dvO, Bool.or_eq_true, decide_eq_true_eq]; omega)); rw [e] at hp; exact hp)
      · refine px_iload_n dx_Ar_divides_21 rfl ?_
        refine px_sipush (v := 159) dx_Ar_divides_22 rfl ?_
        refine px_icmp_neN (a := op) (b := 159) dx_Ar_divides_25 (by omega) (by omega) (fun c_25 => ?_) (fun c_25 => ?_)
        · refine px_iconst (v := 0) dx_Ar_divides_32 rfl ?_
          exact px_zret dx_Ar_divides_33 rfl (by decide) (by (have e : dvO op = false := by (simp only [dvO, Bool.or_eq_false_iff, decide_eq_false_iff_not]; omega)); rw [e] at hp; exact hp)
        · refine px_iconst (v := 1) dx_Ar_divides_28 rfl ?_
          refine px_goto dx_Ar_divides_29 ?_
          exact px_zret dx_Ar_divides_33 rfl (by decide) (by (have e : dvO op = true := by (simp only [dvO, Bool.or_eq_true, decide_eq_true_eq]; omega)); rw [e] at hp; exact hp)

theorem a31 (b : Int32) : b &&& 31 &&& 31 = b &&& 31 := by
  rw [Int32.and_assoc]
  rfl
theorem u31 (b : Int32) : (b &&& 31).toUInt32 &&& Int32.toUInt32 31 = b.toUInt32 &&& Int32.toUInt32 31 := by
  rw [Int32.toUInt32_and, UInt32.and_assoc]
  rfl

set_option maxRecDepth 100000 in
set_option maxHeartbeats 1000000 in
theorem k_ofInts {l : Launch} {G : fr_G} {σ : fr_S} {op : Nat} (hop : op < 256) {a b : Int32} (hz : op = 147 ∨ op = 148 → ¬ b = 0) : CT l G yy_Ar_ofInts rm_Ar_ofInts [.int (nI (op)), .int (a), .int (b)] σ (some (.int (jI op a b))) (σ) := by
  intro Post hp0
  have hp := hp0
  show PX l G yy_Ar_ofInts rm_Ar_ofInts _ false 742 0 0 0 [(0, .int (nI (op))), (1, .int (a)), (2, .int (b))] [] σ
  refine px_iload_n dx_Ar_ofInts_0 rfl ?_
  by_cases k_1_0 : op ∈ ([144] : List Nat)
  · refine px_tabG (e := op) (off := 55) [144] dx_Ar_ofInts_1 (by omega) k_1_0 (by decide) rfl ?_
    refine px_iload_n dx_Ar_ofInts_56 rfl ?_
    refine px_iload_n dx_Ar_ofInts_57 rfl ?_
    refine px_iadd dx_Ar_ofInts_58 ?_
    exact px_iret dx_Ar_ofInts_59 rfl (by (have e : jI op a b = a + b := by simp only [jI, k_1_0,  if_true, if_false]); rw [e] at hp; exact hp)
  by_cases k_1_1 : op ∈ ([145] : List Nat)
  · refine px_tabG (e := op) (off := 59) [145] dx_Ar_ofInts_1 (by omega) k_1_1 (by decide) rfl ?_
    refine px_iload_n dx_Ar_ofInts_60 rfl ?_
    refine px_iload_n dx_Ar_ofInts_61 rfl ?_
    refine px_isub dx_Ar_ofInts_62 ?_
    exact px_iret dx_Ar_ofInts_63 rfl (by (have e : jI op a b = a - b := by simp only [jI, k_1_0, k_1_1,  if_true, if_false]); rw [e] at hp; exact hp)
  by_cases k_1_2 : op ∈ ([146] : List Nat)
  · refine px_tabG (e := op) (off := 63) [146] dx_Ar_ofInts_1 (by omega) k_1_2 (by decide) rfl ?_
    refine px_iload_n dx_Ar_ofInts_64 rfl ?_
    refine px_iload_n dx_Ar_ofInts_65 rfl ?_
    refine px_imul dx_Ar_ofInts_66 ?_
    exact px_iret dx_Ar_ofInts_67 rfl (by (have e : jI op a b = a * b := by simp only [jI, k_1_0, k_1_1, k_1_2,  if_true, if_false]); rw [e] at hp; exact hp)
  by_cases k_1_3 : op ∈ ([147] : List Nat)
  · refine px_tabG (e := op) (off := 67) [147] dx_Ar_ofInts_1 (by omega) k_1_3 (by decide) rfl ?_
    refine px_iload_n dx_Ar_ofInts_68 rfl ?_
    refine px_if_ne dx_Ar_ofInts_69 (fun c_69 => ?_) (fun c_69 => ?_)
    · refine px_iload_n dx_Ar_ofInts_76 rfl ?_
      refine px_iload_n dx_Ar_ofInts_77 rfl ?_
      refine px_idiv dx_Ar_ofInts_78 (by assumption) ?_
      exact px_iret dx_Ar_ofInts_79 rfl (by (have e : jI op a b = a / b := by simp only [jI, k_1_0, k_1_1, k_1_2, k_1_3,  if_true, if_false]); rw [e] at hp; exact hp)
    · refine px_iconst (v := 0) dx_Ar_ofInts_72 rfl ?_
      refine px_goto dx_Ar_ofInts_73 ?_
      exact px_iret dx_Ar_ofInts_79 rfl (by exact absurd (by first | assumption | omega) (hz (by first | (have q := k_1_3; simp only [List.mem_cons, List.not_mem_nil, or_false] at q; omega) | (have q := kn_1; simp only [List.mem_cons, List.not_mem_nil, or_false, not_or] at q; omega))))
  by_cases k_1_4 : op ∈ ([148] : List Nat)
  · refine px_tabG (e := op) (off := 79) [148] dx_Ar_ofInts_1 (by omega) k_1_4 (by decide) rfl ?_
    refine px_iload_n dx_Ar_ofInts_80 rfl ?_
    refine px_if_ne dx_Ar_ofInts_81 (fun c_81 => ?_) (fun c_81 => ?_)
    · refine px_iload_n dx_Ar_ofInts_88 rfl ?_
      refine px_iload_n dx_Ar_ofInts_89 rfl ?_
      refine px_irem dx_Ar_ofInts_90 (by assumption) ?_
      exact px_iret dx_Ar_ofInts_91 rfl (by (have e : jI op a b = a - a / b * b := by simp only [jI, k_1_0, k_1_1, k_1_2, k_1_3, k_1_4,  if_true, if_false]); rw [e] at hp; exact hp)
    · refine px_iconst (v := 0) dx_Ar_ofInts_84 rfl ?_
      refine px_goto dx_Ar_ofInts_85 ?_
      exact px_iret dx_Ar_ofInts_91 rfl (by exact absurd (by first | assumption | omega) (hz (by first | (have q := k_1_4; simp only [List.mem_cons, List.not_mem_nil, or_false] at q; omega) | (have q := kn_1; simp only [List.mem_cons, List.not_mem_nil, or_false, not_or] at q; omega))))
  by_cases k_1_5 : op ∈ ([149] : List Nat)
  · refine px_tabG (e := op) (off := 91) [149] dx_Ar_ofInts_1 (by omega) k_1_5 (by decide) rfl ?_
    refine px_iload_n dx_Ar_ofInts_92 rfl ?_
    refine px_iload_n dx_Ar_ofInts_93 rfl ?_
    refine px_iand dx_Ar_ofInts_94 ?_
    exact px_iret dx_Ar_ofInts_95 rfl (by (have e : jI op a b = a &&& b := by simp only [jI, k_1_0, k_1_1, k_1_2, k_1_3, k_1_4, k_1_5,  if_true, if_false]); rw [e] at hp; exact hp)
  by_cases k_1_6 : op ∈ ([150] : List Nat)
  · refine px_tabG (e := op) (off := 95) [150] dx_Ar_ofInts_1 (by omega) k_1_6 (by decide) rfl ?_
    refine px_iload_n dx_Ar_ofInts_96 rfl ?_
    refine px_iload_n dx_Ar_ofInts_97 rfl ?_
    refine px_ior dx_Ar_ofInts_98 ?_
    exact px_iret dx_Ar_ofInts_99 rfl (by (have e : jI op a b = a ||| b := by simp only [jI, k_1_0, k_1_1, k_1_2, k_1_3, k_1_4, k_1_5, k_1_6,  if_true, if_false]); rw [e] at hp; exact hp)
  by_cases k_1_7 : op ∈ ([151] : List Nat)
  · refine px_tabG (e := op) (off := 99) [151] dx_Ar_ofInts_1 (by omega) k_1_7 (by decide) rfl ?_
    refine px_iload_n dx_Ar_ofInts_100 rfl ?_
    refine px_iload_n dx_Ar_ofInts_101 rfl ?_
    refine px_ixor dx_Ar_ofInts_102 ?_
    exact px_iret dx_Ar_ofInts_103 rfl (by (have e : jI op a b = a ^^^ b := by simp only [jI, k_1_0, k_1_1, k_1_2, k_1_3, k_1_4, k_1_5, k_1_6, k_1_7,  if_true, if_false]); rw [e] at hp; exact hp)
  by_cases k_1_8 : op ∈ ([152] : List Nat)
  · refine px_tabG (e := op) (off := 103) [152] dx_Ar_ofInts_1 (by omega) k_1_8 (by decide) rfl ?_
    refine px_iload_n dx_Ar_ofInts_104 rfl ?_
    refine px_iload_n dx_Ar_ofInts_105 rfl ?_
    refine px_bipush (v := 31) dx_Ar_ofInts_106 rfl ?_
    refine px_iand dx_Ar_ofInts_108 ?_
    refine px_ishl dx_Ar_ofInts_109 ?_
    exact px_iret dx_Ar_ofInts_110 rfl (by rw [a31]; (have e : jI op a b = a <<< (b &&& 31) := by simp only [jI, k_1_0, k_1_1, k_1_2, k_1_3, k_1_4, k_1_5, k_1_6, k_1_7, k_1_8,  if_true, if_false]); rw [e] at hp; exact hp)
  by_cases k_1_9 : op ∈ ([153] : List Nat)
  · refine px_tabG (e := op) (off := 110) [153] dx_Ar_ofInts_1 (by omega) k_1_9 (by decide) rfl ?_
    refine px_iload_n dx_Ar_ofInts_111 rfl ?_
    refine px_iload_n dx_Ar_ofInts_112 rfl ?_
    refine px_bipush (v := 31) dx_Ar_ofInts_113 rfl ?_
    refine px_iand dx_Ar_ofInts_115 ?_
    refine px_ishr dx_Ar_ofInts_116 ?_
    exact px_iret dx_Ar_ofInts_117 rfl (by rw [a31]; (have e : jI op a b = a >>> (b &&& 31) := by simp only [jI, k_1_0, k_1_1, k_1_2, k_1_3, k_1_4, k_1_5, k_1_6, k_1_7, k_1_8, k_1_9,  if_true, if_false]); rw [e] at hp; exact hp)
  have kn_1 : op ∉ ([144, 145, 146, 147, 148, 149, 150, 151, 152, 153] : List Nat) := by simp only [List.mem_cons, List.not_mem_nil, or_false, not_or] at *; omega
  refine px_tabD (e := op) [144, 145, 146, 147, 148, 149, 150, 151, 152, 153] dx_Ar_ofInts_1 (by omega) kn_1 9 144 ⟨rfl, rfl⟩ (by decide) rfl ?_
  refine px_iload_n dx_Ar_ofInts_118 rfl ?_
  refine px_iload_n dx_Ar_ofInts_119 rfl ?_
  refine px_bipush (v := 31) dx_Ar_ofInts_120 rfl ?_
  refine px_iand dx_Ar_ofInts_122 ?_
  refine px_iushr dx_Ar_ofInts_123 ?_
  exact px_iret dx_Ar_ofInts_124 rfl (by rw [u31]; (have e : jI op a b = (a.toUInt32 >>> (b.toUInt32 &&& Int32.toUInt32 31)).toInt32 := by simp only [jI, k_1_0, k_1_1, k_1_2, k_1_3, k_1_4, k_1_5, k_1_6, k_1_7, k_1_8, k_1_9,  if_true, if_false]); rw [e] at hp; exact hp)
set_option maxRecDepth 100000 in
set_option maxHeartbeats 1000000 in
theorem k_held {l : Launch} {G : fr_G} {σ : fr_S} {v : UInt64} : CT l G yy_Ar_held rm_Ar_held [.double (v)] σ (some (.double (hlD v))) (σ) := by
  intro Post hp0
  have hp := hp0
  show PX l G yy_Ar_held rm_Ar_held _ false 742 0 0 0 [(0, .double (v))] [] σ
  refine px_dload_n dx_Ar_held_0 rfl ?_
  refine px_ldc2d dx_Ar_held_1 kk_Ar_9 ?_
  refine px_dcmp dx_Ar_held_4 ?_
  refine px_if_gt dx_Ar_held_5 (fun c_5 => ?_) (fun c_5 => ?_)
  · refine px_dconst0 dx_Ar_held_16 ?_
    refine px_goto dx_Ar_held_17 ?_
    exact px_dret dx_Ar_held_21 rfl (by (have e : hlD v = 0 := by (unfold hlD; rw [if_pos c_5])); rw [e] at hp; exact hp)
  · refine px_dload_n dx_Ar_held_8 rfl ?_
    refine px_ldc2d dx_Ar_held_9 kk_Ar_11 ?_
    refine px_dcmp dx_Ar_held_12 ?_
    refine px_if_ge dx_Ar_held_13 (fun c_13 => ?_) (fun c_13 => ?_)
    · refine px_dload_n dx_Ar_held_20 rfl ?_
      exact px_dret dx_Ar_held_21 rfl (by (have e : hlD v = v := by (unfold hlD; rw [if_neg c_5]; rw [if_neg (not_lt_ge c_13)])); rw [e] at hp; exact hp)
    · refine px_dconst0 dx_Ar_held_16 ?_
      refine px_goto dx_Ar_held_17 ?_
      exact px_dret dx_Ar_held_21 rfl (by (have e : hlD v = 0 := by (unfold hlD; rw [if_neg c_5]; rw [if_pos (ge_lt c_13)])); rw [e] at hp; exact hp)
set_option maxRecDepth 100000 in
set_option maxHeartbeats 1000000 in
theorem k_ofFloats {l : Launch} {G : fr_G} {σ : fr_S} {op : Nat} (hop : op < 256) (ho : 166 ≤ op ∧ op ≤ 169) {a b : UInt32} (ha : fB a) (hb : fB b) (hb0 : op = 169 → ¬ Op.cmpValue (FP.fcmp b 0) .l = 0 → b.toNat % 2 ^ 31 ≠ 0) : CT l G yy_Ar_ofFloats rm_Ar_ofFloats [.int (nI (op)), .float (a), .float (b)] σ (some (.float (jFc op a b))) (σ) := by
  intro Post hp0
  have hp := hp0
  show PX l G yy_Ar_ofFloats rm_Ar_ofFloats _ false 742 0 0 0 [(0, .int (nI (op))), (1, .float (a)), (2, .float (b))] [] σ
  refine px_iload_n dx_Ar_ofFloats_0 rfl ?_
  by_cases k_1_0 : op ∈ ([166] : List Nat)
  · refine px_tabG (e := op) (off := 27) [166] dx_Ar_ofFloats_1 (by omega) k_1_0 (by decide) rfl ?_
    refine px_fload_n dx_Ar_ofFloats_28 rfl ?_
    refine px_fload_n dx_Ar_ofFloats_29 rfl ?_
    refine px_fadd dx_Ar_ofFloats_30 (fadd_vn ha hb) ?_
    exact px_fret dx_Ar_ofFloats_31 rfl (by (have q : op = 166 := by simpa using k_1_0); (have e : jFc op a b = FP.fadd a b := by (unfold jFc; rw [if_neg (show ¬ (op = 169 ∧ _) from fun w => by omega)]; unfold jF0; rw [if_pos q])); rw [e] at hp; exact hp)
  by_cases k_1_1 : op ∈ ([167] : List Nat)
  · refine px_tabG (e := op) (off := 31) [167] dx_Ar_ofFloats_1 (by omega) k_1_1 (by decide) rfl ?_
    refine px_fload_n dx_Ar_ofFloats_32 rfl ?_
    refine px_fload_n dx_Ar_ofFloats_33 rfl ?_
    refine px_fsub dx_Ar_ofFloats_34 (fsub_vn ha hb) ?_
    exact px_fret dx_Ar_ofFloats_35 rfl (by (have q : op = 167 := by simpa using k_1_1); (have e : jFc op a b = FP.fsub a b := by (unfold jFc; rw [if_neg (show ¬ (op = 169 ∧ _) from fun w => by omega)]; unfold jF0; rw [if_neg (show ¬ op = 166 by omega), if_pos q])); rw [e] at hp; exact hp)
  by_cases k_1_2 : op ∈ ([168] : List Nat)
  · refine px_tabG (e := op) (off := 35) [168] dx_Ar_ofFloats_1 (by omega) k_1_2 (by decide) rfl ?_
    refine px_fload_n dx_Ar_ofFloats_36 rfl ?_
    refine px_fload_n dx_Ar_ofFloats_37 rfl ?_
    refine px_fmul dx_Ar_ofFloats_38 (fmul_vn ha hb) ?_
    exact px_fret dx_Ar_ofFloats_39 rfl (by (have q : op = 168 := by simpa using k_1_2); (have e : jFc op a b = FP.fmul a b := by (unfold jFc; rw [if_neg (show ¬ (op = 169 ∧ _) from fun w => by omega)]; unfold jF0; rw [if_neg (show ¬ op = 166 by omega), if_neg (show ¬ op = 167 by omega), if_pos q])); rw [e] at hp; exact hp)
  have kn_1 : op ∉ ([166, 167, 168] : List Nat) := by simp only [List.mem_cons, List.not_mem_nil, or_false, not_or] at *; omega
  refine px_tabD (e := op) [166, 167, 168] dx_Ar_ofFloats_1 (by omega) kn_1 2 166 ⟨rfl, rfl⟩ (by decide) rfl ?_
  refine px_fload_n dx_Ar_ofFloats_40 rfl ?_
  refine px_fconst0 dx_Ar_ofFloats_41 ?_
  refine px_fcmp dx_Ar_ofFloats_42 ?_
  refine px_if_ne dx_Ar_ofFloats_43 (fun c_43 => ?_) (fun c_43 => ?_)
  · refine px_fload_n dx_Ar_ofFloats_50 rfl ?_
    refine px_fload_n dx_Ar_ofFloats_51 rfl ?_
    refine px_fdiv dx_Ar_ofFloats_52 (fdiv_vn ha hb (hb0 (by have q := kn_1; simp only [List.mem_cons, List.not_mem_nil, or_false, not_or] at q; omega) (by first | assumption | (exfalso; omega)))) ?_
    exact px_fret dx_Ar_ofFloats_53 rfl (by (have q : op = 169 := by (simp only [List.mem_cons, List.not_mem_nil, or_false, not_or] at kn_1; omega)); (have e : jFc op a b = FP.fdiv a b := by (unfold jFc; rw [if_neg (fun w => c_43 w.2)]; unfold jF0; rw [if_neg (show ¬ op = 166 by omega), if_neg (show ¬ op = 167 by omega), if_neg (show ¬ op = 168 by omega)])); rw [e] at hp; exact hp)
  · refine px_fconst0 dx_Ar_ofFloats_46 ?_
    refine px_goto dx_Ar_ofFloats_47 ?_
    exact px_fret dx_Ar_ofFloats_53 rfl (by (have q : op = 169 := by (simp only [List.mem_cons, List.not_mem_nil, or_false, not_or] at kn_1; omega)); (have e : jFc op a b = 0 := by (unfold jFc; rw [if_pos ⟨q, by simpa using c_43⟩])); rw [e] at hp; exact hp)
set_option maxRecDepth 100000 in
set_option maxHeartbeats 1000000 in
theorem k_ofDoubles {l : Launch} {G : fr_G} {σ : fr_S} {op : Nat} (hop : op < 256) (ho : 171 ≤ op ∧ op ≤ 174) {a b : UInt64} (ha : dB a) (hb : dB b) (hb0 : op = 174 → ¬ Op.cmpValue (FP.dcmp b 0) .l = 0 → b.toNat % 2 ^ 63 ≠ 0) : CT l G yy_Ar_ofDoubles rm_Ar_ofDoubles [.int (nI (op)), .double (a), .double (b)] σ (some (.double (jDc op a b))) (σ) := by
  intro Post hp0
  have hp := hp0
  show PX l G yy_Ar_ofDoubles rm_Ar_ofDoubles _ false 742 0 0 0 [(0, .int (nI (op))), (1, .double (a)), (3, .double (b))] [] σ
  refine px_iload_n dx_Ar_ofDoubles_0 rfl ?_
  by_cases k_1_0 : op ∈ ([171] : List Nat)
  · refine px_tabG (e := op) (off := 27) [171] dx_Ar_ofDoubles_1 (by omega) k_1_0 (by decide) rfl ?_
    refine px_dload_n dx_Ar_ofDoubles_28 rfl ?_
    refine px_dload_n dx_Ar_ofDoubles_29 rfl ?_
    refine px_dadd dx_Ar_ofDoubles_30 (dadd_vn ha hb) ?_
    exact px_dret dx_Ar_ofDoubles_31 rfl (by (have q : op = 171 := by simpa using k_1_0); (have e : jDc op a b = FP.dadd a b := by (unfold jDc; rw [if_neg (show ¬ (op = 174 ∧ _) from fun w => by omega)]; unfold jD0; rw [if_pos q])); rw [e] at hp; exact hp)
  by_cases k_1_1 : op ∈ ([172] : List Nat)
  · refine px_tabG (e := op) (off := 31) [172] dx_Ar_ofDoubles_1 (by omega) k_1_1 (by decide) rfl ?_
    refine px_dload_n dx_Ar_ofDoubles_32 rfl ?_
    refine px_dload_n dx_Ar_ofDoubles_33 rfl ?_
    refine px_dsub dx_Ar_ofDoubles_34 (dsub_vn ha hb) ?_
    exact px_dret dx_Ar_ofDoubles_35 rfl (by (have q : op = 172 := by simpa using k_1_1); (have e : jDc op a b = FP.dsub a b := by (unfold jDc; rw [if_neg (show ¬ (op = 174 ∧ _) from fun w => by omega)]; unfold jD0; rw [if_neg (show ¬ op = 171 by omega), if_pos q])); rw [e] at hp; exact hp)
  by_cases k_1_2 : op ∈ ([173] : List Nat)
  · refine px_tabG (e := op) (off := 35) [173] dx_Ar_ofDoubles_1 (by omega) k_1_2 (by decide) rfl ?_
    refine px_dload_n dx_Ar_ofDoubles_36 rfl ?_
    refine px_dload_n dx_Ar_ofDoubles_37 rfl ?_
    refine px_dmul dx_Ar_ofDoubles_38 (dmul_vn ha hb) ?_
    exact px_dret dx_Ar_ofDoubles_39 rfl (by (have q : op = 173 := by simpa using k_1_2); (have e : jDc op a b = FP.dmul a b := by (unfold jDc; rw [if_neg (show ¬ (op = 174 ∧ _) from fun w => by omega)]; unfold jD0; rw [if_neg (show ¬ op = 171 by omega), if_neg (show ¬ op = 172 by omega), if_pos q])); rw [e] at hp; exact hp)
  have kn_1 : op ∉ ([171, 172, 173] : List Nat) := by simp only [List.mem_cons, List.not_mem_nil, or_false, not_or] at *; omega
  refine px_tabD (e := op) [171, 172, 173] dx_Ar_ofDoubles_1 (by omega) kn_1 2 171 ⟨rfl, rfl⟩ (by decide) rfl ?_
  refine px_dload_n dx_Ar_ofDoubles_40 rfl ?_
  refine px_dconst0 dx_Ar_ofDoubles_41 ?_
  refine px_dcmp dx_Ar_ofDoubles_42 ?_
  refine px_if_ne dx_Ar_ofDoubles_43 (fun c_43 => ?_) (fun c_43 => ?_)
  · refine px_dload_n dx_Ar_ofDoubles_50 rfl ?_
    refine px_dload_n dx_Ar_ofDoubles_51 rfl ?_
    refine px_ddiv dx_Ar_ofDoubles_52 (ddiv_vn ha hb (hb0 (by have q := kn_1; simp only [List.mem_cons, List.not_mem_nil, or_false, not_or] at q; omega) (by first | assumption | (exfalso; omega)))) ?_
    exact px_dret dx_Ar_ofDoubles_53 rfl (by (have q : op = 174 := by (simp only [List.mem_cons, List.not_mem_nil, or_false, not_or] at kn_1; omega)); (have e : jDc op a b = FP.ddiv a b := by (unfold jDc; rw [if_neg (fun w => c_43 w.2)]; unfold jD0; rw [if_neg (show ¬ op = 171 by omega), if_neg (show ¬ op = 172 by omega), if_neg (show ¬ op = 173 by omega)])); rw [e] at hp; exact hp)
  · refine px_dconst0 dx_Ar_ofDoubles_46 ?_
    refine px_goto dx_Ar_ofDoubles_47 ?_
    exact px_dret dx_Ar_ofDoubles_53 rfl (by (have q : op = 174 := by (simp only [List.mem_cons, List.not_mem_nil, or_false, not_or] at kn_1; omega)); (have e : jDc op a b = 0 := by (unfold jDc; rw [if_pos ⟨q, by simpa using c_43⟩])); rw [e] at hp; exact hp)
