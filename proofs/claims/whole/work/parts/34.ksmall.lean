/-! the class: small methods -/
def tt (t : Nat) : Nat := if t ∈ [1] then 1 else if t ∈ [2] then 3 else if t ∈ [3] then 2 else if t ∈ [4] then 5 else 0
theorem tt_fs {t : Nat} (h1 : 1 ≤ t) (h4 : t ≤ 4) : tt t = fsO t := by
  have : t = 1 ∨ t = 2 ∨ t = 3 ∨ t = 4 := by omega
  rcases this with rfl | rfl | rfl | rfl <;> rfl
theorem tt_b : ∀ t, t ≤ 4 → tt t ≤ 5 := by decide
/-- how many registers a type of the class takes -/
def wdc (x : Nat) : Nat := if x = 3 ∨ x = 5 ∨ x = 8 then 2 else 1
theorem wdc_tt : ∀ t, t ≤ 4 → wdc (tt t) = wdt t := by decide
theorem wdc_b (x : Nat) : 1 ≤ wdc x ∧ wdc x ≤ 2 := by unfold wdc; split <;> decide
/-- a register's type in a step's row; none beyond it -/
def tyO (T : Nat → Nat) (x : Int32) : Nat := if ¬ x < 0 ∧ x.toNatClampNeg < 10 then T x.toNatClampNeg else 0
/-- the class's question whether a register has a type -/
def hsC (t a : Nat) : Bool := if a ∈ [7] then decide (t = 1 ∨ t = 2) else if a ∈ [8] then decide (t = 3 ∨ t = 5) else decide (t = a)
def gbK (k : Nat) : Bool := decide (¬ k = 2 ∧ ¬ k = 3 ∧ ¬ k = 7)
def brK (k : Nat) : Bool := decide (k = 7 ∨ k = 10 ∨ k = 11)
theorem gbK_e : ∀ op, op < 256 → szO op ≠ 0 → gbK (kdO op) = !ens op := by decide +kernel
theorem brK_e : ∀ op, op < 256 → brK (kdO op) = brs op := by decide +kernel
def sA (Bg : Nat → Bool) (n : Nat) (x : Int32) : Bool := decide (¬ x < 0) && (decide (x.toNatClampNeg < n) && Bg x.toNatClampNeg)
theorem sA_N {Bg : Nat → Bool} {n u : Nat} (h : u < 2 ^ 31) : sA Bg n (nI u) = (decide (u < n) && Bg u) := by
  unfold sA
  rw [nI_clamp h, decide_eq_true (nI_pos h), Bool.true_and]

set_option maxRecDepth 100000 in
set_option maxHeartbeats 1000000 in
theorem k_named {l : Launch} {G : fr_G} {σ : fr_S} {s : Nat} (hS : SE s) {w2 k : Nat} (hw : w2 < 65536) (hk : k < 2 ^ 31) (h14 : k < 4 → gI σ s 14 = nI w2) : CT l G yy_St_named rm_St_named [.ref (s), .int (nI (k))] σ (some (.int (nI (if k < 4 then agW w2 k else 0)))) (σ) := by
  intro Post hp0
  have hp := hp0
  show PX l G yy_St_named rm_St_named _ false 742 0 0 0 [(0, .ref (s)), (1, .int (nI (k)))] [] σ
  have kS := kd_S hS
  refine px_iload_n dx_St_named_0 rfl ?_
  refine px_if_ltN (a := k) dx_St_named_1 (by omega) (fun c_1 => ?_) (fun c_1 => ?_)
  · refine px_iconst (v := 0) dx_St_named_23 rfl ?_
    exact px_iret dx_St_named_24 rfl (by exfalso; omega)
  · refine px_iload_n dx_St_named_4 rfl ?_
    refine px_iconst (v := 4) dx_St_named_5 rfl ?_
    refine px_icmp_geN (a := k) (b := 4) dx_St_named_6 (by omega) (by omega) (fun c_6 => ?_) (fun c_6 => ?_)
    · refine px_iconst (v := 0) dx_St_named_23 rfl ?_
      exact px_iret dx_St_named_24 rfl (by rw [if_neg (by omega)] at hp; exact hp)
    · refine px_aload_n dx_St_named_9 rfl ?_
      refine px_getI dx_St_named_10 fl_St_56 kS.1 (by omega) rfl ?_
      refine px_eqi (y := nI (w2)) (h14 c_6) ?_
      refine px_iconst (v := 4) dx_St_named_13 rfl ?_
      refine px_iload_n dx_St_named_14 rfl ?_
      refine px_imulN (a := 4) (b := k) dx_St_named_15 ?_
      refine px_ishrV (a := w2) (w := 4 * k) dx_St_named_16 (by omega) (by omega) ?_
      refine px_bipush (v := 15) dx_St_named_17 rfl ?_
      refine px_iandN (a := w2 / 2 ^ (4 * k)) (w := 4) dx_St_named_19 (by exact Nat.lt_of_le_of_lt (Nat.div_le_self _ _) (by omega)) rfl ?_
      refine px_goto dx_St_named_20 ?_
      exact px_iret dx_St_named_24 rfl (by rw [if_pos c_6] at hp; exact hp)
set_option maxRecDepth 100000 in
set_option maxHeartbeats 1000000 in
theorem k_typeOf_N {l : Launch} {G : fr_G} {σ : fr_S} {s : Nat} (hS : SE s) (hR : RF σ) {T : Nat → Nat} (hT : ∀ r, r < 10 → gI σ (s + 1) r = nI (T r)) {r : Nat} (hr : r < 2 ^ 31) : CT l G yy_St_typeOf rm_St_typeOf [.ref (s), .int (nI (r))] σ (some (.int (nI (if r < 10 then T r else 0)))) (σ) := by
  intro Post hp0
  have hp := hp0
  show PX l G yy_St_typeOf rm_St_typeOf _ false 742 0 0 0 [(0, .ref (s)), (1, .int (nI (r)))] [] σ
  have kS := kd_S hS
  refine px_iload_n dx_St_typeOf_0 rfl ?_
  refine px_if_ltN (a := r) dx_St_typeOf_1 (by omega) (fun c_1 => ?_) (fun c_1 => ?_)
  · refine px_iconst (v := 0) dx_St_typeOf_22 rfl ?_
    exact px_iret dx_St_typeOf_23 rfl (by exfalso; omega)
  · refine px_iload_n dx_St_typeOf_4 rfl ?_
    refine px_aload_n dx_St_typeOf_5 rfl ?_
    refine px_getR (r := s + 1) dx_St_typeOf_6 fl_St_15 kS.1 (by omega) rfl (hR.2.2.2.2.2 s hS) ?_
    refine px_alen (v := 10) dx_St_typeOf_9 kS.2.1 (by decide) (by omega) rfl ?_
    refine px_icmp_geN (a := r) (b := 10) dx_St_typeOf_10 (by omega) (by omega) (fun c_10 => ?_) (fun c_10 => ?_)
    · refine px_iconst (v := 0) dx_St_typeOf_22 rfl ?_
      exact px_iret dx_St_typeOf_23 rfl (by rw [if_neg (by omega)] at hp; exact hp)
    · refine px_aload_n dx_St_typeOf_13 rfl ?_
      refine px_getR (r := s + 1) dx_St_typeOf_14 fl_St_15 kS.1 (by omega) rfl (hR.2.2.2.2.2 s hS) ?_
      refine px_iload_n dx_St_typeOf_17 rfl ?_
      refine px_ialdN (j := r) dx_St_typeOf_18 kS.2.1 (by omega) (by omega) ?_
      refine px_eqi (y := nI (T r)) (hT r (by omega)) ?_
      refine px_goto dx_St_typeOf_19 ?_
      exact px_iret dx_St_typeOf_23 rfl (by rw [if_pos (by omega)] at hp; exact hp)
set_option maxRecDepth 100000 in
set_option maxHeartbeats 1000000 in
theorem k_typeOf_x {l : Launch} {G : fr_G} {σ : fr_S} {s : Nat} (hS : SE s) (hR : RF σ) {x : Int32} (hx : x < 0) : CT l G yy_St_typeOf rm_St_typeOf [.ref (s), .int (x)] σ (some (.int (0))) (σ) := by
  intro Post hp0
  have hp := hp0
  show PX l G yy_St_typeOf rm_St_typeOf _ false 742 0 0 0 [(0, .ref (s)), (1, .int (x))] [] σ
  have kS := kd_S hS
  refine px_iload_n dx_St_typeOf_0 rfl ?_
  refine px_if_lt dx_St_typeOf_1 (fun c_1 => ?_) (fun c_1 => ?_)
  · refine px_iconst (v := 0) dx_St_typeOf_22 rfl ?_
    exact px_iret dx_St_typeOf_23 rfl (by exact hp)
  · exact absurd hx c_1
theorem k_typeOf {l : Launch} {G : fr_G} {σ : fr_S} {s : Nat} (hS : SE s) (hR : RF σ) {T : Nat → Nat} (hT : ∀ r, r < 10 → gI σ (s + 1) r = nI (T r)) {x : Int32} : CT l G yy_St_typeOf rm_St_typeOf [.ref s, .int x] σ (some (.int (nI (tyO T x)))) σ := by
  by_cases h : x < 0
  · have e : tyO T x = 0 := by unfold tyO; rw [if_neg fun q => q.1 h]
    rw [e]
    exact k_typeOf_x hS hR h
  · obtain ⟨j, hj, rfl⟩ := nI_of h
    have e : tyO T (nI j) = if j < 10 then T j else 0 := by
      unfold tyO
      rw [nI_clamp hj]
      by_cases q : j < 10
      · rw [if_pos ⟨h, q⟩, if_pos q]
      · rw [if_neg fun z => q z.2, if_neg q]
    rw [e]
    exact k_typeOf_N hS hR hT hj
theorem tyO_N {T : Nat → Nat} {r : Nat} (h : r < 10) : tyO T (nI r) = T r := by
  unfold tyO
  rw [nI_clamp (by omega), if_pos ⟨nI_pos (by omega), h⟩]
theorem tyO_le {T : Nat → Nat} (h6 : ∀ r, T r ≤ 6) (x : Int32) : tyO T x ≤ 6 := by
  unfold tyO
  split
  · exact h6 _
  · exact Nat.zero_le _

set_option maxRecDepth 100000 in
set_option maxHeartbeats 1000000 in
theorem k_has {l : Launch} {G : fr_G} {σ : fr_S} {s : Nat} (hS : SE s) (hR : RF σ) {T : Nat → Nat} (hT : ∀ r, r < 10 → gI σ (s + 1) r = nI (T r)) (h6 : ∀ r, T r ≤ 6) {x : Int32} {a : Nat} (ha : a < 256) : CT l G yy_St_has rm_St_has [.ref (s), .int (x), .int (nI (a))] σ (some (.int (b2i (hsC (tyO T x) a)))) (σ) := by
  intro Post hp0
  have hp := hp0
  show PX l G yy_St_has rm_St_has _ false 742 0 0 0 [(0, .ref (s)), (1, .int (x)), (2, .int (nI (a)))] [] σ
  have kS := kd_S hS
  have ht6 := tyO_le h6 x
  refine px_aload_n dx_St_has_0 rfl ?_
  refine px_iload_n dx_St_has_1 rfl ?_
  refine px_cV (Y := yy_St_has) (Yc := yy_St_typeOf) (b := s) (As := [.int (x)]) dx_St_has_2 ml_St_69 mv_St_typeOf np_St_typeOf ⟨_, rfl⟩ (by decide) kS.1 (by omega) rfl (Nat.le_of_ble_eq_true rfl) (Nat.le_of_ble_eq_true rfl) rk_St_has_St_typeOf rfl (k_typeOf (T := T) hS hR hT) zz_0 ?_
  refine px_istore_n (lv' := [(3, .int (nI (tyO T x))), (0, .ref (s)), (1, .int (x)), (2, .int (nI (a)))]) dx_St_has_5 (by decide) rfl ?_
  refine px_iload_n dx_St_has_6 rfl ?_
  by_cases k_7_0 : a ∈ ([7] : List Nat)
  · refine px_lookG (e := a) (off := 25) [7] dx_St_has_7 (by omega) k_7_0 (by decide) (by decide) rfl ?_
    refine px_iload_n dx_St_has_32 rfl ?_
    refine px_iconst (v := 1) dx_St_has_33 rfl ?_
    refine px_icmp_eqN (a := tyO T x) (b := 1) dx_St_has_34 (by omega) (by omega) (fun c_34 => ?_) (fun c_34 => ?_)
    · refine px_iconst (v := 1) dx_St_has_42 rfl ?_
      refine px_goto dx_St_has_43 ?_
      exact px_zret dx_St_has_47 rfl (by decide) (by (have e : hsC (tyO T x) a = true := by (unfold hsC; rw [if_pos k_7_0]; exact decide_eq_true (by omega))); rw [e] at hp; exact hp)
    · refine px_iload_n dx_St_has_37 rfl ?_
      refine px_iconst (v := 2) dx_St_has_38 rfl ?_
      refine px_icmp_neN (a := tyO T x) (b := 2) dx_St_has_39 (by omega) (by omega) (fun c_39 => ?_) (fun c_39 => ?_)
      · refine px_iconst (v := 0) dx_St_has_46 rfl ?_
        exact px_zret dx_St_has_47 rfl (by decide) (by (have e : hsC (tyO T x) a = false := by (unfold hsC; rw [if_pos k_7_0]; exact decide_eq_false (by omega))); rw [e] at hp; exact hp)
      · refine px_iconst (v := 1) dx_St_has_42 rfl ?_
        refine px_goto dx_St_has_43 ?_
        exact px_zret dx_St_has_47 rfl (by decide) (by (have e : hsC (tyO T x) a = true := by (unfold hsC; rw [if_pos k_7_0]; exact decide_eq_true (by omega))); rw [e] at hp; exact hp)
  by_cases k_7_1 : a ∈ ([8] : List Nat)
  · refine px_lookG (e := a) (off := 41) [8] dx_St_has_7 (by omega) k_7_1 (by decide) (by decide) rfl ?_
    refine px_iload_n dx_St_has_48 rfl ?_
    refine px_iconst (v := 3) dx_St_has_49 rfl ?_
    refine px_icmp_eqN (a := tyO T x) (b := 3) dx_St_has_50 (by omega) (by omega) (fun c_50 => ?_) (fun c_50 => ?_)
    · refine px_iconst (v := 1) dx_St_has_58 rfl ?_
      refine px_goto dx_St_has_59 ?_
      exact px_zret dx_St_has_63 rfl (by decide) (by (have e : hsC (tyO T x) a = true := by (unfold hsC; rw [if_neg k_7_0, if_pos k_7_1]; exact decide_eq_true (by omega))); rw [e] at hp; exact hp)
    · refine px_iload_n dx_St_has_53 rfl ?_
      refine px_iconst (v := 5) dx_St_has_54 rfl ?_
      refine px_icmp_neN (a := tyO T x) (b := 5) dx_St_has_55 (by omega) (by omega) (fun c_55 => ?_) (fun c_55 => ?_)
      · refine px_iconst (v := 0) dx_St_has_62 rfl ?_
        exact px_zret dx_St_has_63 rfl (by decide) (by (have e : hsC (tyO T x) a = false := by (unfold hsC; rw [if_neg k_7_0, if_pos k_7_1]; exact decide_eq_false (by omega))); rw [e] at hp; exact hp)
      · refine px_iconst (v := 1) dx_St_has_58 rfl ?_
        refine px_goto dx_St_has_59 ?_
        exact px_zret dx_St_has_63 rfl (by decide) (by (have e : hsC (tyO T x) a = true := by (unfold hsC; rw [if_neg k_7_0, if_pos k_7_1]; exact decide_eq_true (by omega))); rw [e] at hp; exact hp)
  have kn_7 : a ∉ ([7, 8] : List Nat) := by simp only [List.mem_cons, List.not_mem_nil, or_false, not_or] at *; omega
  refine px_lookD (e := a) [7, 8] dx_St_has_7 (by omega) kn_7 (by decide) (by decide) rfl ?_
  refine px_iload_n dx_St_has_64 rfl ?_
  refine px_iload_n dx_St_has_65 rfl ?_
  refine px_icmp_neN (a := tyO T x) (b := a) dx_St_has_66 (by omega) (by omega) (fun c_66 => ?_) (fun c_66 => ?_)
  · refine px_iconst (v := 0) dx_St_has_73 rfl ?_
    exact px_zret dx_St_has_74 rfl (by decide) (by (have e : hsC (tyO T x) a = false := by (unfold hsC; rw [if_neg k_7_0, if_neg k_7_1]; exact decide_eq_false (by omega))); rw [e] at hp; exact hp)
  · refine px_iconst (v := 1) dx_St_has_69 rfl ?_
    refine px_goto dx_St_has_70 ?_
    exact px_zret dx_St_has_74 rfl (by decide) (by (have e : hsC (tyO T x) a = true := by (unfold hsC; rw [if_neg k_7_0, if_neg k_7_1]; exact decide_eq_true (by omega))); rw [e] at hp; exact hp)
set_option maxRecDepth 100000 in
set_option maxHeartbeats 1000000 in
theorem k_goes {l : Launch} {G : fr_G} {σ : fr_S} {s : Nat} (hS : SE s) {k : Nat} (hk : k < 256) (h3 : gI σ s 3 = nI k) : CT l G yy_St_goesOnBehind rm_St_goesOnBehind [.ref (s)] σ (some (.int (b2i (gbK k)))) (σ) := by
  intro Post hp0
  have hp := hp0
  show PX l G yy_St_goesOnBehind rm_St_goesOnBehind _ false 742 0 0 0 [(0, .ref (s))] [] σ
  have kS := kd_S hS
  refine px_aload_n dx_St_goesOnBehind_0 rfl ?_
  refine px_getI dx_St_goesOnBehind_1 fl_St_23 kS.1 (by omega) rfl ?_
  refine px_eqi (y := nI (k)) h3 ?_
  refine px_iconst (v := 2) dx_St_goesOnBehind_4 rfl ?_
  refine px_icmp_eqN (a := k) (b := 2) dx_St_goesOnBehind_5 (by omega) (by omega) (fun c_5 => ?_) (fun c_5 => ?_)
  · refine px_iconst (v := 0) dx_St_goesOnBehind_29 rfl ?_
    exact px_zret dx_St_goesOnBehind_30 rfl (by decide) (by (have e : gbK k = false := decide_eq_false (by omega)); rw [e] at hp; exact hp)
  · refine px_aload_n dx_St_goesOnBehind_8 rfl ?_
    refine px_getI dx_St_goesOnBehind_9 fl_St_23 kS.1 (by omega) rfl ?_
    refine px_eqi (y := nI (k)) h3 ?_
    refine px_iconst (v := 3) dx_St_goesOnBehind_12 rfl ?_
    refine px_icmp_eqN (a := k) (b := 3) dx_St_goesOnBehind_13 (by omega) (by omega) (fun c_13 => ?_) (fun c_13 => ?_)
    · refine px_iconst (v := 0) dx_St_goesOnBehind_29 rfl ?_
      exact px_zret dx_St_goesOnBehind_30 rfl (by decide) (by (have e : gbK k = false := decide_eq_false (by omega)); rw [e] at hp; exact hp)
    · refine px_aload_n dx_St_goesOnBehind_16 rfl ?_
      refine px_getI dx_St_goesOnBehind_17 fl_St_23 kS.1 (by omega) rfl ?_
      refine px_eqi (y := nI (k)) h3 ?_
      refine px_bipush (v := 7) dx_St_goesOnBehind_20 rfl ?_
      refine px_icmp_eqN (a := k) (b := 7) dx_St_goesOnBehind_22 (by omega) (by omega) (fun c_22 => ?_) (fun c_22 => ?_)
      · refine px_iconst (v := 0) dx_St_goesOnBehind_29 rfl ?_
        exact px_zret dx_St_goesOnBehind_30 rfl (by decide) (by (have e : gbK k = false := decide_eq_false (by omega)); rw [e] at hp; exact hp)
      · refine px_iconst (v := 1) dx_St_goesOnBehind_25 rfl ?_
        refine px_goto dx_St_goesOnBehind_26 ?_
        exact px_zret dx_St_goesOnBehind_30 rfl (by decide) (by (have e : gbK k = true := decide_eq_true (by omega)); rw [e] at hp; exact hp)
set_option maxRecDepth 100000 in
set_option maxHeartbeats 1000000 in
theorem k_branches {l : Launch} {G : fr_G} {σ : fr_S} {s : Nat} (hS : SE s) {k : Nat} (hk : k < 256) (h3 : gI σ s 3 = nI k) : CT l G yy_St_branches rm_St_branches [.ref (s)] σ (some (.int (b2i (brK k)))) (σ) := by
  intro Post hp0
  have hp := hp0
  show PX l G yy_St_branches rm_St_branches _ false 742 0 0 0 [(0, .ref (s))] [] σ
  have kS := kd_S hS
  refine px_aload_n dx_St_branches_0 rfl ?_
  refine px_getI dx_St_branches_1 fl_St_23 kS.1 (by omega) rfl ?_
  refine px_eqi (y := nI (k)) h3 ?_
  refine px_bipush (v := 7) dx_St_branches_4 rfl ?_
  refine px_icmp_eqN (a := k) (b := 7) dx_St_branches_6 (by omega) (by omega) (fun c_6 => ?_) (fun c_6 => ?_)
  · refine px_iconst (v := 1) dx_St_branches_27 rfl ?_
    refine px_goto dx_St_branches_28 ?_
    exact px_zret dx_St_branches_32 rfl (by decide) (by (have e : brK k = true := decide_eq_true (by omega)); rw [e] at hp; exact hp)
  · refine px_aload_n dx_St_branches_9 rfl ?_
    refine px_getI dx_St_branches_10 fl_St_23 kS.1 (by omega) rfl ?_
    refine px_eqi (y := nI (k)) h3 ?_
    refine px_bipush (v := 10) dx_St_branches_13 rfl ?_
    refine px_icmp_eqN (a := k) (b := 10) dx_St_branches_15 (by omega) (by omega) (fun c_15 => ?_) (fun c_15 => ?_)
    · refine px_iconst (v := 1) dx_St_branches_27 rfl ?_
      refine px_goto dx_St_branches_28 ?_
      exact px_zret dx_St_branches_32 rfl (by decide) (by (have e : brK k = true := decide_eq_true (by omega)); rw [e] at hp; exact hp)
    · refine px_aload_n dx_St_branches_18 rfl ?_
      refine px_getI dx_St_branches_19 fl_St_23 kS.1 (by omega) rfl ?_
      refine px_eqi (y := nI (k)) h3 ?_
      refine px_bipush (v := 11) dx_St_branches_22 rfl ?_
      refine px_icmp_neN (a := k) (b := 11) dx_St_branches_24 (by omega) (by omega) (fun c_24 => ?_) (fun c_24 => ?_)
      · refine px_iconst (v := 0) dx_St_branches_31 rfl ?_
        exact px_zret dx_St_branches_32 rfl (by decide) (by (have e : brK k = false := decide_eq_false (by omega)); rw [e] at hp; exact hp)
      · refine px_iconst (v := 1) dx_St_branches_27 rfl ?_
        refine px_goto dx_St_branches_28 ?_
        exact px_zret dx_St_branches_32 rfl (by decide) (by (have e : brK k = true := decide_eq_true (by omega)); rw [e] at hp; exact hp)
set_option maxRecDepth 100000 in
set_option maxHeartbeats 1000000 in
theorem k_widthOf {l : Launch} {G : fr_G} {σ : fr_S} {x : Nat} (hx : x < 256) : CT l G yy_V_widthOf rm_V_widthOf [.int (nI (x))] σ (some (.int (nI (wdc x)))) (σ) := by
  intro Post hp0
  have hp := hp0
  show PX l G yy_V_widthOf rm_V_widthOf _ false 742 0 0 0 [(0, .int (nI (x)))] [] σ
  refine px_iload_n dx_V_widthOf_0 rfl ?_
  refine px_iconst (v := 3) dx_V_widthOf_1 rfl ?_
  refine px_icmp_eqN (a := x) (b := 3) dx_V_widthOf_2 (by omega) (by omega) (fun c_2 => ?_) (fun c_2 => ?_)
  · refine px_iconst (v := 2) dx_V_widthOf_16 rfl ?_
    refine px_goto dx_V_widthOf_17 ?_
    exact px_iret dx_V_widthOf_21 rfl (by (have e : wdc x = 2 := by (unfold wdc; first | rw [if_pos (by omega)] | rw [if_neg (by omega)])); rw [e] at hp; exact hp)
  · refine px_iload_n dx_V_widthOf_5 rfl ?_
    refine px_iconst (v := 5) dx_V_widthOf_6 rfl ?_
    refine px_icmp_eqN (a := x) (b := 5) dx_V_widthOf_7 (by omega) (by omega) (fun c_7 => ?_) (fun c_7 => ?_)
    · refine px_iconst (v := 2) dx_V_widthOf_16 rfl ?_
      refine px_goto dx_V_widthOf_17 ?_
      exact px_iret dx_V_widthOf_21 rfl (by (have e : wdc x = 2 := by (unfold wdc; first | rw [if_pos (by omega)] | rw [if_neg (by omega)])); rw [e] at hp; exact hp)
    · refine px_iload_n dx_V_widthOf_10 rfl ?_
      refine px_bipush (v := 8) dx_V_widthOf_11 rfl ?_
      refine px_icmp_neN (a := x) (b := 8) dx_V_widthOf_13 (by omega) (by omega) (fun c_13 => ?_) (fun c_13 => ?_)
      · refine px_iconst (v := 1) dx_V_widthOf_20 rfl ?_
        exact px_iret dx_V_widthOf_21 rfl (by (have e : wdc x = 1 := by (unfold wdc; first | rw [if_pos (by omega)] | rw [if_neg (by omega)])); rw [e] at hp; exact hp)
      · refine px_iconst (v := 2) dx_V_widthOf_16 rfl ?_
        refine px_goto dx_V_widthOf_17 ?_
        exact px_iret dx_V_widthOf_21 rfl (by (have e : wdc x = 2 := by (unfold wdc; first | rw [if_pos (by omega)] | rw [if_neg (by omega)])); rw [e] at hp; exact hp)
set_option maxRecDepth 100000 in
set_option maxHeartbeats 1000000 in
theorem k_isReal {l : Launch} {G : fr_G} {σ : fr_S} {x : Nat} (hx : x < 256) : CT l G yy_V_isReal rm_V_isReal [.int (nI (x))] σ (some (.int (b2i (decide (x = 2 ∨ x = 5))))) (σ) := by
  intro Post hp0
  have hp := hp0
  show PX l G yy_V_isReal rm_V_isReal _ false 742 0 0 0 [(0, .int (nI (x)))] [] σ
  refine px_iload_n dx_V_isReal_0 rfl ?_
  refine px_iconst (v := 2) dx_V_isReal_1 rfl ?_
  refine px_icmp_eqN (a := x) (b := 2) dx_V_isReal_2 (by omega) (by omega) (fun c_2 => ?_) (fun c_2 => ?_)
  · refine px_iconst (v := 1) dx_V_isReal_10 rfl ?_
    refine px_goto dx_V_isReal_11 ?_
    exact px_zret dx_V_isReal_15 rfl (by decide) (by (have e : decide (x = 2 ∨ x = 5) = true := decide_eq_true (by omega)); rw [e] at hp; exact hp)
  · refine px_iload_n dx_V_isReal_5 rfl ?_
    refine px_iconst (v := 5) dx_V_isReal_6 rfl ?_
    refine px_icmp_neN (a := x) (b := 5) dx_V_isReal_7 (by omega) (by omega) (fun c_7 => ?_) (fun c_7 => ?_)
    · refine px_iconst (v := 0) dx_V_isReal_14 rfl ?_
      exact px_zret dx_V_isReal_15 rfl (by decide) (by (have e : decide (x = 2 ∨ x = 5) = false := decide_eq_false (by omega)); rw [e] at hp; exact hp)
    · refine px_iconst (v := 1) dx_V_isReal_10 rfl ?_
      refine px_goto dx_V_isReal_11 ?_
      exact px_zret dx_V_isReal_15 rfl (by decide) (by (have e : decide (x = 2 ∨ x = 5) = true := decide_eq_true (by omega)); rw [e] at hp; exact hp)
set_option maxRecDepth 100000 in
set_option maxHeartbeats 1000000 in
theorem k_typeTold {l : Launch} {G : fr_G} {σ : fr_S} {t : Nat} (ht : t < 256) : CT l G yy_Me_typeTold rm_Me_typeTold [.int (nI (t))] σ (some (.int (nI (tt t)))) (σ) := by
  intro Post hp0
  have hp := hp0
  show PX l G yy_Me_typeTold rm_Me_typeTold _ false 742 0 0 0 [(0, .int (nI (t)))] [] σ
  refine px_iload_n dx_Me_typeTold_0 rfl ?_
  by_cases k_1_0 : t ∈ ([1] : List Nat)
  · refine px_tabG (e := t) (off := 31) [1] dx_Me_typeTold_1 (by omega) k_1_0 (by decide) rfl ?_
    refine px_iconst (v := 1) dx_Me_typeTold_32 rfl ?_
    exact px_iret dx_Me_typeTold_33 rfl (by (have e : tt t = 1 := by unfold tt; (first | rw [if_pos k_1_0] | rw [if_neg k_1_0])); rw [e] at hp; exact hp)
  by_cases k_1_1 : t ∈ ([2] : List Nat)
  · refine px_tabG (e := t) (off := 33) [2] dx_Me_typeTold_1 (by omega) k_1_1 (by decide) rfl ?_
    refine px_iconst (v := 3) dx_Me_typeTold_34 rfl ?_
    exact px_iret dx_Me_typeTold_35 rfl (by (have e : tt t = 3 := by unfold tt; (first | rw [if_pos k_1_0] | rw [if_neg k_1_0]); (first | rw [if_pos k_1_1] | rw [if_neg k_1_1])); rw [e] at hp; exact hp)
  by_cases k_1_2 : t ∈ ([3] : List Nat)
  · refine px_tabG (e := t) (off := 35) [3] dx_Me_typeTold_1 (by omega) k_1_2 (by decide) rfl ?_
    refine px_iconst (v := 2) dx_Me_typeTold_36 rfl ?_
    exact px_iret dx_Me_typeTold_37 rfl (by (have e : tt t = 2 := by unfold tt; (first | rw [if_pos k_1_0] | rw [if_neg k_1_0]); (first | rw [if_pos k_1_1] | rw [if_neg k_1_1]); (first | rw [if_pos k_1_2] | rw [if_neg k_1_2])); rw [e] at hp; exact hp)
  by_cases k_1_3 : t ∈ ([4] : List Nat)
  · refine px_tabG (e := t) (off := 37) [4] dx_Me_typeTold_1 (by omega) k_1_3 (by decide) rfl ?_
    refine px_iconst (v := 5) dx_Me_typeTold_38 rfl ?_
    exact px_iret dx_Me_typeTold_39 rfl (by (have e : tt t = 5 := by unfold tt; (first | rw [if_pos k_1_0] | rw [if_neg k_1_0]); (first | rw [if_pos k_1_1] | rw [if_neg k_1_1]); (first | rw [if_pos k_1_2] | rw [if_neg k_1_2]); (first | rw [if_pos k_1_3] | rw [if_neg k_1_3])); rw [e] at hp; exact hp)
  have kn_1 : t ∉ ([1, 2, 3, 4] : List Nat) := by simp only [List.mem_cons, List.not_mem_nil, or_false, not_or] at *; omega
  refine px_tabD (e := t) [1, 2, 3, 4] dx_Me_typeTold_1 (by omega) kn_1 3 1 ⟨rfl, rfl⟩ (by decide) rfl ?_
  refine px_iconst (v := 0) dx_Me_typeTold_40 rfl ?_
  exact px_iret dx_Me_typeTold_41 rfl (by (have e : tt t = 0 := by unfold tt; (first | rw [if_pos k_1_0] | rw [if_neg k_1_0]); (first | rw [if_pos k_1_1] | rw [if_neg k_1_1]); (first | rw [if_pos k_1_2] | rw [if_neg k_1_2]); (first | rw [if_pos k_1_3] | rw [if_neg k_1_3])); rw [e] at hp; exact hp)
set_option maxRecDepth 100000 in
set_option maxHeartbeats 1000000 in
theorem k_parameterAt {l : Launch} {G : fr_G} {σ : fr_S} {e : Nat} (hE : ME e) (hR : RF σ) {np : Nat} {pt : Nat → Nat} (hn : np ≤ 3) (h5 : gI σ e 5 = nI np) (hp1 : ∀ k, k < 3 → gI σ (e + 1) k = nI (pt k)) {k : Nat} (hk : k < 2 ^ 31) : CT l G yy_Me_parameterAt rm_Me_parameterAt [.ref (e), .int (nI (k))] σ (some (.int (nI (if k < np then pt k else 0)))) (σ) := by
  intro Post hp0
  have hp := hp0
  show PX l G yy_Me_parameterAt rm_Me_parameterAt _ false 742 0 0 0 [(0, .ref (e)), (1, .int (nI (k)))] [] σ
  have kM := kd_M hE
  refine px_iload_n dx_Me_parameterAt_0 rfl ?_
  refine px_if_ltN (a := k) dx_Me_parameterAt_1 (by omega) (fun c_1 => ?_) (fun c_1 => ?_)
  · refine px_iconst (v := 0) dx_Me_parameterAt_30 rfl ?_
    exact px_iret dx_Me_parameterAt_31 rfl (by exfalso; omega)
  · refine px_iload_n dx_Me_parameterAt_4 rfl ?_
    refine px_aload_n dx_Me_parameterAt_5 rfl ?_
    refine px_getI dx_Me_parameterAt_6 fl_Me_32 kM.1 (by omega) rfl ?_
    refine px_eqi (y := nI (np)) h5 ?_
    refine px_icmp_geN (a := k) (b := np) dx_Me_parameterAt_9 (by omega) (by omega) (fun c_9 => ?_) (fun c_9 => ?_)
    · refine px_iconst (v := 0) dx_Me_parameterAt_30 rfl ?_
      exact px_iret dx_Me_parameterAt_31 rfl (by rw [if_neg (by omega)] at hp; exact hp)
    · refine px_iload_n dx_Me_parameterAt_12 rfl ?_
      refine px_aload_n dx_Me_parameterAt_13 rfl ?_
      refine px_getR (r := e + 1) dx_Me_parameterAt_14 fl_Me_9 kM.1 (by omega) rfl (hR.2.2.2.2.1 e hE).1 ?_
      refine px_alen (v := 3) dx_Me_parameterAt_17 kM.2.1 (by decide) (by omega) rfl ?_
      refine px_icmp_geN (a := k) (b := 3) dx_Me_parameterAt_18 (by omega) (by omega) (fun c_18 => ?_) (fun c_18 => ?_)
      · refine px_iconst (v := 0) dx_Me_parameterAt_30 rfl ?_
        exact px_iret dx_Me_parameterAt_31 rfl (by exfalso; omega)
      · refine px_aload_n dx_Me_parameterAt_21 rfl ?_
        refine px_getR (r := e + 1) dx_Me_parameterAt_22 fl_Me_9 kM.1 (by omega) rfl (hR.2.2.2.2.1 e hE).1 ?_
        refine px_iload_n dx_Me_parameterAt_25 rfl ?_
        refine px_ialdN (j := k) dx_Me_parameterAt_26 kM.2.1 (by omega) (by omega) ?_
        refine px_eqi (y := nI (pt k)) (hp1 k (by omega)) ?_
        refine px_goto dx_Me_parameterAt_27 ?_
        exact px_iret dx_Me_parameterAt_31 rfl (by rw [if_pos (by omega)] at hp; exact hp)
set_option maxRecDepth 100000 in
set_option maxHeartbeats 1000000 in
theorem k_firstArgument {l : Launch} {G : fr_G} {σ : fr_S} {e : Nat} (hE : ME e) {rg w : Nat} (h7 : gI σ e 7 = nI rg) (h6 : gI σ e 6 = nI w) (hw : w ≤ rg) : CT l G yy_Me_firstArgument rm_Me_firstArgument [.ref (e)] σ (some (.int (nI (rg - w)))) (σ) := by
  intro Post hp0
  have hp := hp0
  show PX l G yy_Me_firstArgument rm_Me_firstArgument _ false 742 0 0 0 [(0, .ref (e))] [] σ
  have kM := kd_M hE
  refine px_aload_n dx_Me_firstArgument_0 rfl ?_
  refine px_getI dx_Me_firstArgument_1 fl_Me_38 kM.1 (by omega) rfl ?_
  refine px_eqi (y := nI (rg)) h7 ?_
  refine px_aload_n dx_Me_firstArgument_4 rfl ?_
  refine px_getI dx_Me_firstArgument_5 fl_Me_35 kM.1 (by omega) rfl ?_
  refine px_eqi (y := nI (w)) h6 ?_
  refine px_isubN (a := rg) (b := w) dx_Me_firstArgument_8 (by omega) ?_
  exact px_iret dx_Me_firstArgument_9 rfl (by exact hp)
set_option maxRecDepth 100000 in
set_option maxHeartbeats 1000000 in
theorem k_unitAt {l : Launch} {G : fr_G} {σ : fr_S} {e : Nat} (hE : ME e) (hR : RF σ) {n : Nat} {U : Nat → Nat} (hn : n ≤ 40) (h8 : gI σ e 8 = nI n) (hU : ∀ k, k < 40 → gI σ (e + 2) k = nI (U k)) {k : Nat} (hk : k < 2 ^ 31) : CT l G yy_Me_unitAt rm_Me_unitAt [.ref (e), .int (nI (k))] σ (some (.int (nI (if k < n then U k else 0)))) (σ) := by
  intro Post hp0
  have hp := hp0
  show PX l G yy_Me_unitAt rm_Me_unitAt _ false 742 0 0 0 [(0, .ref (e)), (1, .int (nI (k)))] [] σ
  have kM := kd_M hE
  refine px_iload_n dx_Me_unitAt_0 rfl ?_
  refine px_if_ltN (a := k) dx_Me_unitAt_1 (by omega) (fun c_1 => ?_) (fun c_1 => ?_)
  · refine px_iconst (v := 0) dx_Me_unitAt_30 rfl ?_
    exact px_iret dx_Me_unitAt_31 rfl (by exfalso; omega)
  · refine px_iload_n dx_Me_unitAt_4 rfl ?_
    refine px_aload_n dx_Me_unitAt_5 rfl ?_
    refine px_getI dx_Me_unitAt_6 fl_Me_41 kM.1 (by omega) rfl ?_
    refine px_eqi (y := nI (n)) h8 ?_
    refine px_icmp_geN (a := k) (b := n) dx_Me_unitAt_9 (by omega) (by omega) (fun c_9 => ?_) (fun c_9 => ?_)
    · refine px_iconst (v := 0) dx_Me_unitAt_30 rfl ?_
      exact px_iret dx_Me_unitAt_31 rfl (by rw [if_neg (by omega)] at hp; exact hp)
    · refine px_iload_n dx_Me_unitAt_12 rfl ?_
      refine px_aload_n dx_Me_unitAt_13 rfl ?_
      refine px_getR (r := e + 2) dx_Me_unitAt_14 fl_Me_15 kM.1 (by omega) rfl (hR.2.2.2.2.1 e hE).2.1 ?_
      refine px_alen (v := 40) dx_Me_unitAt_17 kM.2.2.1 (by decide) (by omega) rfl ?_
      refine px_icmp_geN (a := k) (b := 40) dx_Me_unitAt_18 (by omega) (by omega) (fun c_18 => ?_) (fun c_18 => ?_)
      · refine px_iconst (v := 0) dx_Me_unitAt_30 rfl ?_
        exact px_iret dx_Me_unitAt_31 rfl (by exfalso; omega)
      · refine px_aload_n dx_Me_unitAt_21 rfl ?_
        refine px_getR (r := e + 2) dx_Me_unitAt_22 fl_Me_15 kM.1 (by omega) rfl (hR.2.2.2.2.1 e hE).2.1 ?_
        refine px_iload_n dx_Me_unitAt_25 rfl ?_
        refine px_ialdN (j := k) dx_Me_unitAt_26 kM.2.2.1 (by omega) (by omega) ?_
        refine px_eqi (y := nI (U k)) (hU k (by omega)) ?_
        refine px_goto dx_Me_unitAt_27 ?_
        exact px_iret dx_Me_unitAt_31 rfl (by rw [if_pos (by omega)] at hp; exact hp)
set_option maxRecDepth 100000 in
set_option maxHeartbeats 1000000 in
theorem k_stepAt_N {l : Launch} {G : fr_G} {σ : fr_S} {e : Nat} (hE : ME e) (hR : RF σ) {n : Nat} {Bg : Nat → Bool} (hn : n ≤ 40) (h8 : gI σ e 8 = nI n) (hB : ∀ u, u < 40 → gI σ (e + 4) u = b2i (Bg u)) {u : Nat} (hu : u < n) (hb : Bg u = true) : CT l G yy_Me_stepAt rm_Me_stepAt [.ref (e), .int (nI (u))] σ (some (.ref (e + 5 + 2 * u))) (σ) := by
  intro Post hp0
  have hp := hp0
  show PX l G yy_Me_stepAt rm_Me_stepAt _ false 742 0 0 0 [(0, .ref (e)), (1, .int (nI (u)))] [] σ
  have kM := kd_M hE
  refine px_iload_n dx_Me_stepAt_0 rfl ?_
  refine px_if_ltN (a := u) dx_Me_stepAt_1 (by omega) (fun c_1 => ?_) (fun c_1 => ?_)
  · exfalso; omega
  · refine px_iload_n dx_Me_stepAt_4 rfl ?_
    refine px_aload_n dx_Me_stepAt_5 rfl ?_
    refine px_getI dx_Me_stepAt_6 fl_Me_41 kM.1 (by omega) rfl ?_
    refine px_eqi (y := nI (n)) h8 ?_
    refine px_icmp_geN (a := u) (b := n) dx_Me_stepAt_9 (by omega) (by omega) (fun c_9 => ?_) (fun c_9 => ?_)
    · exfalso; omega
    · refine px_iload_n dx_Me_stepAt_12 rfl ?_
      refine px_bipush (v := 40) dx_Me_stepAt_13 rfl ?_
      refine px_icmp_ltN (a := u) (b := 40) dx_Me_stepAt_15 (by omega) (by omega) (fun c_15 => ?_) (fun c_15 => ?_)
      · refine px_aload_n dx_Me_stepAt_20 rfl ?_
        refine px_getR (r := e + 4) dx_Me_stepAt_21 fl_Me_24 kM.1 (by omega) rfl (hR.2.2.2.2.1 e hE).2.2.2.1 ?_
        refine px_iload_n dx_Me_stepAt_24 rfl ?_
        refine px_zaldN (j := u) dx_Me_stepAt_25 kM.2.2.2.2.1 (by omega) (by omega) ?_
        refine px_eqi (y := b2i (Bg u)) (hB u (by omega)) ?_
        refine px_if_eqB dx_Me_stepAt_26 (fun c_26 => ?_) (fun c_26 => ?_)
        · exact absurd (hb.symm.trans c_26) (by decide)
        · refine px_aload_n dx_Me_stepAt_29 rfl ?_
          refine px_getR (r := e + 3) dx_Me_stepAt_30 fl_Me_20 kM.1 (by omega) rfl (hR.2.2.2.2.1 e hE).2.2.1 ?_
          refine px_iload_n dx_Me_stepAt_33 rfl ?_
          refine px_aald26N (j := u) (r := e + 5 + 2 * u) dx_Me_stepAt_34 kM.2.2.2.1 (by omega) (by omega) ((hR.2.2.2.2.1 e hE).2.2.2.2 u (by omega)) ?_
          refine px_goto dx_Me_stepAt_35 ?_
          exact px_aret dx_Me_stepAt_39 rfl (by exact hp)
      · exfalso; omega
set_option maxRecDepth 100000 in
set_option maxHeartbeats 1000000 in
theorem k_stepAt_n {l : Launch} {G : fr_G} {σ : fr_S} {e : Nat} (hE : ME e) (hR : RF σ) {n : Nat} {Bg : Nat → Bool} (hn : n ≤ 40) (h8 : gI σ e 8 = nI n) (hB : ∀ u, u < 40 → gI σ (e + 4) u = b2i (Bg u)) {u : Nat} (hu : u < 2 ^ 31) (hb : ¬ (u < n ∧ Bg u = true)) : CT l G yy_Me_stepAt rm_Me_stepAt [.ref (e), .int (nI (u))] σ (some (.null)) (σ) := by
  intro Post hp0
  have hp := hp0
  show PX l G yy_Me_stepAt rm_Me_stepAt _ false 742 0 0 0 [(0, .ref (e)), (1, .int (nI (u)))] [] σ
  have kM := kd_M hE
  refine px_iload_n dx_Me_stepAt_0 rfl ?_
  refine px_if_ltN (a := u) dx_Me_stepAt_1 (by omega) (fun c_1 => ?_) (fun c_1 => ?_)
  · refine px_null dx_Me_stepAt_18 ?_
    exact px_aretN dx_Me_stepAt_19 rfl (by exact hp)
  · refine px_iload_n dx_Me_stepAt_4 rfl ?_
    refine px_aload_n dx_Me_stepAt_5 rfl ?_
    refine px_getI dx_Me_stepAt_6 fl_Me_41 kM.1 (by omega) rfl ?_
    refine px_eqi (y := nI (n)) h8 ?_
    refine px_icmp_geN (a := u) (b := n) dx_Me_stepAt_9 (by omega) (by omega) (fun c_9 => ?_) (fun c_9 => ?_)
    · refine px_null dx_Me_stepAt_18 ?_
      exact px_aretN dx_Me_stepAt_19 rfl (by exact hp)
    · refine px_iload_n dx_Me_stepAt_12 rfl ?_
      refine px_bipush (v := 40) dx_Me_stepAt_13 rfl ?_
      refine px_icmp_ltN (a := u) (b := 40) dx_Me_stepAt_15 (by omega) (by omega) (fun c_15 => ?_) (fun c_15 => ?_)
      · refine px_aload_n dx_Me_stepAt_20 rfl ?_
        refine px_getR (r := e + 4) dx_Me_stepAt_21 fl_Me_24 kM.1 (by omega) rfl (hR.2.2.2.2.1 e hE).2.2.2.1 ?_
        refine px_iload_n dx_Me_stepAt_24 rfl ?_
        refine px_zaldN (j := u) dx_Me_stepAt_25 kM.2.2.2.2.1 (by omega) (by omega) ?_
        refine px_eqi (y := b2i (Bg u)) (hB u (by omega)) ?_
        refine px_if_eqB dx_Me_stepAt_26 (fun c_26 => ?_) (fun c_26 => ?_)
        · refine px_null dx_Me_stepAt_38 ?_
          exact px_aretN dx_Me_stepAt_39 rfl (by exact hp)
        · exact absurd ⟨by omega, c_26⟩ hb
      · refine px_null dx_Me_stepAt_18 ?_
        exact px_aretN dx_Me_stepAt_19 rfl (by exact hp)
set_option maxRecDepth 100000 in
set_option maxHeartbeats 1000000 in
theorem k_stepAt_x {l : Launch} {G : fr_G} {σ : fr_S} {e : Nat} (hE : ME e) (hR : RF σ) {n : Nat} {Bg : Nat → Bool} (hn : n ≤ 40) (h8 : gI σ e 8 = nI n) (hB : ∀ u, u < 40 → gI σ (e + 4) u = b2i (Bg u)) {x : Int32} (hx : x < 0) : CT l G yy_Me_stepAt rm_Me_stepAt [.ref (e), .int (x)] σ (some (.null)) (σ) := by
  intro Post hp0
  have hp := hp0
  show PX l G yy_Me_stepAt rm_Me_stepAt _ false 742 0 0 0 [(0, .ref (e)), (1, .int (x))] [] σ
  have kM := kd_M hE
  refine px_iload_n dx_Me_stepAt_0 rfl ?_
  refine px_if_lt dx_Me_stepAt_1 (fun c_1 => ?_) (fun c_1 => ?_)
  · refine px_null dx_Me_stepAt_18 ?_
    exact px_aretN dx_Me_stepAt_19 rfl (by exact hp)
  · exact absurd hx c_1
theorem k_stepAt_t {l : Launch} {G : fr_G} {σ : fr_S} {e : Nat} (hE : ME e) (hR : RF σ) {n : Nat} {Bg : Nat → Bool} (hn : n ≤ 40) (h8 : gI σ e 8 = nI n) (hB : ∀ u, u < 40 → gI σ (e + 4) u = b2i (Bg u)) {x : Int32} (h : sA Bg n x = true) : CT l G yy_Me_stepAt rm_Me_stepAt [.ref e, .int x] σ (some (.ref (e + 5 + 2 * x.toNatClampNeg))) σ := by
  simp only [sA, Bool.and_eq_true, decide_eq_true_eq] at h
  obtain ⟨h1, h2, h3⟩ := h
  obtain ⟨j, hj, rfl⟩ := nI_of h1
  rw [nI_clamp hj] at h2 h3 ⊢
  exact k_stepAt_N hE hR hn h8 hB h2 h3
theorem k_stepAt_f {l : Launch} {G : fr_G} {σ : fr_S} {e : Nat} (hE : ME e) (hR : RF σ) {n : Nat} {Bg : Nat → Bool} (hn : n ≤ 40) (h8 : gI σ e 8 = nI n) (hB : ∀ u, u < 40 → gI σ (e + 4) u = b2i (Bg u)) {x : Int32} (h : sA Bg n x = false) : CT l G yy_Me_stepAt rm_Me_stepAt [.ref e, .int x] σ (some .null) σ := by
  by_cases h1 : x < 0
  · exact k_stepAt_x hE hR hn h8 hB h1
  · obtain ⟨j, hj, rfl⟩ := nI_of h1
    rw [sA_N hj] at h
    exact k_stepAt_n hE hR hn h8 hB hj fun q => by
      rw [decide_eq_true q.1, q.2] at h
      exact absurd h (by decide)

