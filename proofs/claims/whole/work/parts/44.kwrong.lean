/-! the class: the first instruction without right to its registers -/
theorem uaG_f {F : Nat → Nat → Nat} {c w2 : Nat} {row : Nat → Nat} {j : Nat} (h : isT row (agW w2 (agK F c j)) (F 4 (3 * c + j)) = false) : ∀ n, j < n → uaG F c w2 row n = false := by
  intro n
  induction n with
  | zero => intro q; exact absurd q (Nat.not_lt_zero _)
  | succ n ih =>
    intro q
    show (uaG F c w2 row n && _) = false
    by_cases e : j = n
    · subst e
      rw [h, Bool.and_false]
    · rw [ih (by omega)]
      rfl

set_option maxRecDepth 100000 in
set_option maxHeartbeats 1000000 in
theorem k_argsRight_lp {l : Launch} {G : fr_G} {σ : fr_S} {s : Nat} (hS : SE s) {g : Nat} (hG : ME g) (hR : RF σ) {F : Nat → Nat → Nat} (hW : FW F) (hFP : FP F) {m c w2 : Nat} (hc : c < F 0 0) (hCg : CM σ g F c) (hw2 : w2 < 65536) (h14 : gI σ s 14 = nI w2) {row : Nat → Nat} (hT : ∀ r, r < 10 → gI σ (s + 1) r = nI (row r)) (h6 : ∀ r, row r ≤ 6) (hP : WP row) (hpw : pwF F c ≤ 4) (hag : agOK F m c w2 (F 3 c) = true) {Post : Option Value → fr_S → Prop} (hp : Post (some (.int (b2i (uaG F c w2 row (F 3 c))))) σ) : ∀ (d : Nat) (j : Nat), F 3 c - j < d → j ≤ F 3 c → uaG F c w2 row j = true → PX l G yy_Fl_argumentsAreRight rm_Fl_argumentsAreRight (QR G false 742 0 0 Post) false 742 0 0 10 [(0, .ref (s)), (1, .ref (g)), (2, .int (nI (agK F c j))), (3, .int (nI (j)))] [] (σ) := by
  intro d
  induction d with
  | zero => intro j hd; exact absurd hd (Nat.not_lt_zero _)
  | succ d ih =>
    intro j hd hj hu
    have kS := kd_S hS
    have kM := kd_M hG
    have h3 := hW.2.2.2.1 c
    have h5 := hW.2.2.2.2.1
    have h10 := hW.2.2.2.2.2.1 m
    refine px_iload_n dx_Fl_argumentsAreRight_10 rfl ?_
    refine px_aload_n dx_Fl_argumentsAreRight_11 rfl ?_
    refine px_getI dx_Fl_argumentsAreRight_12 fl_Fl_72 kM.1 (by omega) rfl ?_
    refine px_eqi (y := nI (F 3 c)) hCg.2.1 ?_
    refine px_icmp_geN (a := j) (b := F 3 c) dx_Fl_argumentsAreRight_15 (by omega) (by omega) (fun c_15 => ?_) (fun c_15 => ?_)
    · refine px_iconst (v := 1) dx_Fl_argumentsAreRight_55 rfl ?_
      exact px_zret dx_Fl_argumentsAreRight_56 rfl (by decide) (by (obtain rfl : j = F 3 c := by omega); rw [hu] at hp; exact hp)
    · have hk2 := agK_mono F c (j + 1) (F 3 c) (by omega)
      rw [agK_s] at hk2
      have hpk : agK F c (F 3 c) = pwF F c := rfl
      have hfp := hFP c j hc (by omega)
      have hwd : 1 ≤ wdt (F 4 (3 * c + j)) := (by unfold wdt; split <;> decide)
      have hk4 : agK F c j < 4 := by omega
      have hhs := agOK_hs hag j (by omega)
      simp only [hsR, decide_eq_true_eq] at hhs
      refine px_aload_n dx_Fl_argumentsAreRight_18 rfl ?_
      refine px_iload_n dx_Fl_argumentsAreRight_19 rfl ?_
      refine px_cV (Y := yy_Fl_argumentsAreRight) (Yc := yy_Me_parameterAt) (b := g) (As := [.int (nI (j))]) dx_Fl_argumentsAreRight_20 ml_Fl_75 mv_Me_parameterAt np_Me_parameterAt ⟨_, rfl⟩ (by decide) kM.1 (by omega) rfl (Nat.le_of_ble_eq_true rfl) (Nat.le_of_ble_eq_true rfl) rk_Fl_argumentsAreRight_Me_parameterAt rfl (k_parameterAt (np := F 3 c) (pt := fun k => tt (F 4 (3 * c + k))) hG hR (by omega) hCg.2.1 hCg.2.2.2.2.2.1 (by omega)) zz_0 ?_
      refine px_eqi (y := nI (tt (F 4 (3 * c + j)))) (congrArg nI (if_pos c_15)) ?_
      refine px_istore (lv' := [(4, .int (nI (tt (F 4 (3 * c + j))))), (0, .ref (s)), (1, .ref (g)), (2, .int (nI (agK F c j))), (3, .int (nI (j)))]) dx_Fl_argumentsAreRight_23 (by decide) rfl ?_
      refine px_aload_n dx_Fl_argumentsAreRight_25 rfl ?_
      refine px_aload_n dx_Fl_argumentsAreRight_26 rfl ?_
      refine px_iload_n dx_Fl_argumentsAreRight_27 rfl ?_
      refine px_cV (Y := yy_Fl_argumentsAreRight) (Yc := yy_St_named) (b := s) (As := [.int (nI (agK F c j))]) dx_Fl_argumentsAreRight_28 ml_Fl_134 mv_St_named np_St_named ⟨_, rfl⟩ (by decide) kS.1 (by omega) rfl (Nat.le_of_ble_eq_true rfl) (Nat.le_of_ble_eq_true rfl) rk_Fl_argumentsAreRight_St_named rfl (k_named (w2 := w2) (k := agK F c j) hS hw2 (by omega) (fun _ => h14)) zz_0 ?_
      refine px_eqi (y := nI (agW w2 (agK F c j))) (congrArg nI (if_pos hk4)) ?_
      refine px_iload dx_Fl_argumentsAreRight_31 rfl ?_
      refine px_cV (Y := yy_Fl_argumentsAreRight) (Yc := yy_St_has) (b := s) (As := [.int (nI (agW w2 (agK F c j))), .int (nI (tt (F 4 (3 * c + j))))]) dx_Fl_argumentsAreRight_33 ml_Fl_104 mv_St_has np_St_has ⟨_, rfl⟩ (by decide) kS.1 (by omega) rfl (Nat.le_of_ble_eq_true rfl) (Nat.le_of_ble_eq_true rfl) rk_Fl_argumentsAreRight_St_has rfl (k_has (a := tt (F 4 (3 * c + j))) hS hR hT h6 (by have := tt_b _ (h5 (3 * c + j)); omega)) zz_0 ?_
      refine px_eqi (y := b2i (isT row (agW w2 (agK F c j)) (F 4 (3 * c + j)))) (congrArg b2i (by rw [tyO_N (by omega)]; exact hs_t hP (by omega) hfp (h5 _))) ?_
      refine px_if_neB dx_Fl_argumentsAreRight_36 (fun c_36 => ?_) (fun c_36 => ?_)
      · refine px_iload_n dx_Fl_argumentsAreRight_41 rfl ?_
        refine px_iload dx_Fl_argumentsAreRight_42 rfl ?_
        refine px_cS (Y := yy_Fl_argumentsAreRight) (Yc := yy_V_widthOf) (As := [.int (nI (tt (F 4 (3 * c + j))))]) dx_Fl_argumentsAreRight_44 ml_Fl_79 ms_V_widthOf np_V_widthOf rfl (Nat.le_of_ble_eq_true rfl) (Nat.le_of_ble_eq_true rfl) rk_Fl_argumentsAreRight_V_widthOf rfl (k_widthOf (x := tt (F 4 (3 * c + j))) (by have := tt_b _ (h5 (3 * c + j)); omega)) zz_0 ?_
        refine px_eqi (y := nI (wdt (F 4 (3 * c + j)))) (congrArg nI (wdc_w (h5 _))) ?_
        refine px_iaddN (a := agK F c j) (b := wdt (F 4 (3 * c + j))) dx_Fl_argumentsAreRight_47 ?_
        refine px_istore_n (lv' := [(2, .int (nI ((agK F c j) + (wdt (F 4 (3 * c + j)))))), (4, .int (nI (tt (F 4 (3 * c + j))))), (0, .ref (s)), (1, .ref (g)), (3, .int (nI (j)))]) dx_Fl_argumentsAreRight_48 (by decide) rfl ?_
        refine px_iinc (v := (nI (j + 1))) (lv' := [(3, .int (nI (j + 1))), (2, .int (nI ((agK F c j) + (wdt (F 4 (3 * c + j)))))), (4, .int (nI (tt (F 4 (3 * c + j))))), (0, .ref (s)), (1, .ref (g))]) dx_Fl_argumentsAreRight_49 rfl (nI_1 _) (by decide) rfl ?_
        refine px_goto dx_Fl_argumentsAreRight_52 ?_
        refine px_sub [3, 4, 1, 0] rfl ?_
        have qq := ih (j + 1) (by omega) (by omega) (by show (_ && _) = true; rw [hu, c_36]; rfl)
        rw [agK_s] at qq
        exact qq
      · refine px_iconst (v := 0) dx_Fl_argumentsAreRight_39 rfl ?_
        exact px_zret dx_Fl_argumentsAreRight_40 rfl (by decide) (by (have e : uaG F c w2 row (F 3 c) = false := uaG_f c_36 _ (by omega)); rw [e] at hp; exact hp)
set_option maxRecDepth 100000 in
set_option maxHeartbeats 1000000 in
theorem k_argsRight {l : Launch} {G : fr_G} {σ : fr_S} {s : Nat} (hS : SE s) {g : Nat} (hG : ME g) (hR : RF σ) {F : Nat → Nat → Nat} (hW : FW F) (hFP : FP F) {m c w2 : Nat} (hc : c < F 0 0) (hCg : CM σ g F c) (hw2 : w2 < 65536) (h14 : gI σ s 14 = nI w2) {row : Nat → Nat} (hT : ∀ r, r < 10 → gI σ (s + 1) r = nI (row r)) (h6 : ∀ r, row r ≤ 6) (hP : WP row) (hpw : pwF F c ≤ 4) (hag : agOK F m c w2 (F 3 c) = true) : CT l G yy_Fl_argumentsAreRight rm_Fl_argumentsAreRight [.ref (s), .ref (g)] σ (some (.int (b2i (uaG F c w2 row (F 3 c))))) (σ) := by
  intro Post hp0
  have hp := hp0
  show PX l G yy_Fl_argumentsAreRight rm_Fl_argumentsAreRight _ false 742 0 0 0 [(0, .ref (s)), (1, .ref (g))] [] σ
  refine px_aload_n dx_Fl_argumentsAreRight_0 rfl ?_
  refine px_ifnonnull dx_Fl_argumentsAreRight_1 ?_
  refine px_iconst (v := 0) dx_Fl_argumentsAreRight_6 rfl ?_
  refine px_istore_n (lv' := [(2, .int (0)), (0, .ref (s)), (1, .ref (g))]) dx_Fl_argumentsAreRight_7 (by decide) rfl ?_
  refine px_iconst (v := 0) dx_Fl_argumentsAreRight_8 rfl ?_
  refine px_istore_n (lv' := [(3, .int (0)), (2, .int (0)), (0, .ref (s)), (1, .ref (g))]) dx_Fl_argumentsAreRight_9 (by decide) rfl ?_
  refine px_sub [2, 3, 1, 0] rfl ?_
  exact k_argsRight_lp hS hG hR hW hFP hc hCg hw2 h14 hT h6 hP hpw hag hp0 (F 3 c + 1) 0 (by omega) (by omega) rfl
set_option maxRecDepth 100000 in
set_option maxHeartbeats 1000000 in
theorem k_isRight_n {l : Launch} {G : fr_G} {σ : fr_S} {q s : Nat} (hS : SE s) (hR : RF σ) {row : Nat → Nat} (hT : ∀ r, r < 10 → gI σ (s + 1) r = nI (row r)) (h6 : ∀ r, row r ≤ 6) {kk y f : Nat} (hkk : kk < 256) (hk14 : kk ≠ 14) (hy : y < 256) (hf : f < 1000) (h3 : gI σ s 3 = nI kk) (h8 : gI σ s 8 = nI y) (h10 : gI σ s 10 = nI f) (h11 : gI σ s 11 = -1) : CT l G yy_Fl_isRight rm_Fl_isRight [.ref (q), .ref (s)] σ (some (.int (b2i (inC row y f none)))) (σ) := by
  intro Post hp0
  have hp := hp0
  show PX l G yy_Fl_isRight rm_Fl_isRight _ false 742 0 0 0 [(0, .ref (q)), (1, .ref (s))] [] σ
  have kS := kd_S hS
  refine px_aload_n dx_Fl_isRight_0 rfl ?_
  refine px_getI dx_Fl_isRight_1 fl_Fl_118 kS.1 (by omega) rfl ?_
  refine px_eqi (y := nI (kk)) h3 ?_
  refine px_bipush (v := 14) dx_Fl_isRight_4 rfl ?_
  refine px_icmp_neN (a := kk) (b := 14) dx_Fl_isRight_6 (by omega) (by omega) (fun c_6 => ?_) (fun c_6 => ?_)
  · refine px_aload_n dx_Fl_isRight_22 rfl ?_
    refine px_getI dx_Fl_isRight_23 fl_Fl_101 kS.1 (by omega) rfl ?_
    refine px_eqi (y := nI (y)) h8 ?_
    refine px_if_neN (a := y) dx_Fl_isRight_26 (by omega) (fun c_26 => ?_) (fun c_26 => ?_)
    · refine px_aload_n dx_Fl_isRight_31 rfl ?_
      refine px_aload_n dx_Fl_isRight_32 rfl ?_
      refine px_getI dx_Fl_isRight_33 fl_Fl_98 kS.1 (by omega) rfl ?_
      refine px_eqi (y := nI (f)) h10 ?_
      refine px_aload_n dx_Fl_isRight_36 rfl ?_
      refine px_getI dx_Fl_isRight_37 fl_Fl_101 kS.1 (by omega) rfl ?_
      refine px_eqi (y := nI (y)) h8 ?_
      refine px_cV (Y := yy_Fl_isRight) (Yc := yy_St_has) (b := s) (As := [.int (nI (f)), .int (nI (y))]) dx_Fl_isRight_40 ml_Fl_104 mv_St_has np_St_has ⟨_, rfl⟩ (by decide) kS.1 (by omega) rfl (Nat.le_of_ble_eq_true rfl) (Nat.le_of_ble_eq_true rfl) rk_Fl_isRight_St_has rfl (k_has (a := y) hS hR hT h6 hy) zz_0 ?_
      refine px_if_eqB dx_Fl_isRight_43 (fun c_43 => ?_) (fun c_43 => ?_)
      · refine px_iconst (v := 0) dx_Fl_isRight_73 rfl ?_
        exact px_zret dx_Fl_isRight_74 rfl (by decide) (by (have e : inC row y f none = false := by (unfold inC; rw [decide_eq_false (show ¬ y = 0 by omega), Bool.false_or]; rw [c_43]; rfl)); rw [e] at hp; exact hp)
      · refine px_aload_n dx_Fl_isRight_46 rfl ?_
        refine px_getI dx_Fl_isRight_47 fl_Fl_131 kS.1 (by omega) rfl ?_
        refine px_eqi (y := -1) h11 ?_
        refine px_iconst (v := -1) dx_Fl_isRight_50 rfl ?_
        refine px_icmp_eq dx_Fl_isRight_51 (fun _ => ?_) (fun q => absurd (by decide) q)
        refine px_iconst (v := 1) dx_Fl_isRight_69 rfl ?_
        refine px_goto dx_Fl_isRight_70 ?_
        exact px_zret dx_Fl_isRight_74 rfl (by decide) (by (have e : inC row y f none = true := by (unfold inC; rw [decide_eq_false (show ¬ y = 0 by omega), Bool.false_or]; rw [c_43]; rfl)); rw [e] at hp; exact hp)
    · refine px_iconst (v := 1) dx_Fl_isRight_29 rfl ?_
      exact px_zret dx_Fl_isRight_30 rfl (by decide) (by (have e : inC row y f none = true := by (unfold inC; rw [decide_eq_true (by omega)]; rfl)); rw [e] at hp; exact hp)
  · exact absurd (by omega) hk14
set_option maxRecDepth 100000 in
set_option maxHeartbeats 1000000 in
theorem k_isRight_s {l : Launch} {G : fr_G} {σ : fr_S} {q s : Nat} (hS : SE s) (hR : RF σ) {row : Nat → Nat} (hT : ∀ r, r < 10 → gI σ (s + 1) r = nI (row r)) (h6 : ∀ r, row r ≤ 6) {kk y f : Nat} (hkk : kk < 256) (hk14 : kk ≠ 14) (hy : y < 256) (hf : f < 1000) (h3 : gI σ s 3 = nI kk) (h8 : gI σ s 8 = nI y) (h10 : gI σ s 10 = nI f) {j : Nat} (hj : j < 1000) (h11 : gI σ s 11 = nI j) : CT l G yy_Fl_isRight rm_Fl_isRight [.ref (q), .ref (s)] σ (some (.int (b2i (inC row y f (some j))))) (σ) := by
  intro Post hp0
  have hp := hp0
  show PX l G yy_Fl_isRight rm_Fl_isRight _ false 742 0 0 0 [(0, .ref (q)), (1, .ref (s))] [] σ
  have kS := kd_S hS
  refine px_aload_n dx_Fl_isRight_0 rfl ?_
  refine px_getI dx_Fl_isRight_1 fl_Fl_118 kS.1 (by omega) rfl ?_
  refine px_eqi (y := nI (kk)) h3 ?_
  refine px_bipush (v := 14) dx_Fl_isRight_4 rfl ?_
  refine px_icmp_neN (a := kk) (b := 14) dx_Fl_isRight_6 (by omega) (by omega) (fun c_6 => ?_) (fun c_6 => ?_)
  · refine px_aload_n dx_Fl_isRight_22 rfl ?_
    refine px_getI dx_Fl_isRight_23 fl_Fl_101 kS.1 (by omega) rfl ?_
    refine px_eqi (y := nI (y)) h8 ?_
    refine px_if_neN (a := y) dx_Fl_isRight_26 (by omega) (fun c_26 => ?_) (fun c_26 => ?_)
    · refine px_aload_n dx_Fl_isRight_31 rfl ?_
      refine px_aload_n dx_Fl_isRight_32 rfl ?_
      refine px_getI dx_Fl_isRight_33 fl_Fl_98 kS.1 (by omega) rfl ?_
      refine px_eqi (y := nI (f)) h10 ?_
      refine px_aload_n dx_Fl_isRight_36 rfl ?_
      refine px_getI dx_Fl_isRight_37 fl_Fl_101 kS.1 (by omega) rfl ?_
      refine px_eqi (y := nI (y)) h8 ?_
      refine px_cV (Y := yy_Fl_isRight) (Yc := yy_St_has) (b := s) (As := [.int (nI (f)), .int (nI (y))]) dx_Fl_isRight_40 ml_Fl_104 mv_St_has np_St_has ⟨_, rfl⟩ (by decide) kS.1 (by omega) rfl (Nat.le_of_ble_eq_true rfl) (Nat.le_of_ble_eq_true rfl) rk_Fl_isRight_St_has rfl (k_has (a := y) hS hR hT h6 hy) zz_0 ?_
      refine px_if_eqB dx_Fl_isRight_43 (fun c_43 => ?_) (fun c_43 => ?_)
      · refine px_iconst (v := 0) dx_Fl_isRight_73 rfl ?_
        exact px_zret dx_Fl_isRight_74 rfl (by decide) (by (have e : inC row y f (some j) = false := by (unfold inC; rw [decide_eq_false (show ¬ y = 0 by omega), Bool.false_or]; rw [c_43]; rfl)); rw [e] at hp; exact hp)
      · refine px_aload_n dx_Fl_isRight_46 rfl ?_
        refine px_getI dx_Fl_isRight_47 fl_Fl_131 kS.1 (by omega) rfl ?_
        refine px_eqi (y := nI (j)) h11 ?_
        refine px_iconst (v := -1) dx_Fl_isRight_50 rfl ?_
        refine px_icmp_eq dx_Fl_isRight_51 (fun c_51 => ?_) (fun c_51 => ?_)
        · refine px_iconst (v := 1) dx_Fl_isRight_69 rfl ?_
          refine px_goto dx_Fl_isRight_70 ?_
          exact px_zret dx_Fl_isRight_74 rfl (by decide) (by (have z := nI_pos' (n := j) (by omega)); rw [c_51] at z; exact absurd z (by decide))
        · refine px_aload_n dx_Fl_isRight_54 rfl ?_
          refine px_aload_n dx_Fl_isRight_55 rfl ?_
          refine px_getI dx_Fl_isRight_56 fl_Fl_131 kS.1 (by omega) rfl ?_
          refine px_eqi (y := nI (j)) h11 ?_
          refine px_aload_n dx_Fl_isRight_59 rfl ?_
          refine px_getI dx_Fl_isRight_60 fl_Fl_101 kS.1 (by omega) rfl ?_
          refine px_eqi (y := nI (y)) h8 ?_
          refine px_cV (Y := yy_Fl_isRight) (Yc := yy_St_has) (b := s) (As := [.int (nI (j)), .int (nI (y))]) dx_Fl_isRight_63 ml_Fl_104 mv_St_has np_St_has ⟨_, rfl⟩ (by decide) kS.1 (by omega) rfl (Nat.le_of_ble_eq_true rfl) (Nat.le_of_ble_eq_true rfl) rk_Fl_isRight_St_has rfl (k_has (a := y) hS hR hT h6 hy) zz_0 ?_
          refine px_if_eqB dx_Fl_isRight_66 (fun c_66 => ?_) (fun c_66 => ?_)
          · refine px_iconst (v := 0) dx_Fl_isRight_73 rfl ?_
            exact px_zret dx_Fl_isRight_74 rfl (by decide) (by (have e : inC row y f (some j) = false := by (unfold inC; rw [decide_eq_false (show ¬ y = 0 by omega), Bool.false_or]; rw [c_43]; (show (true && hsC (tyO row (nI j)) y) = _); rw [c_66]; rfl)); rw [e] at hp; exact hp)
          · refine px_iconst (v := 1) dx_Fl_isRight_69 rfl ?_
            refine px_goto dx_Fl_isRight_70 ?_
            exact px_zret dx_Fl_isRight_74 rfl (by decide) (by (have e : inC row y f (some j) = true := by (unfold inC; rw [decide_eq_false (show ¬ y = 0 by omega), Bool.false_or]; rw [c_43]; (show (true && hsC (tyO row (nI j)) y) = _); rw [c_66]; rfl)); rw [e] at hp; exact hp)
    · refine px_iconst (v := 1) dx_Fl_isRight_29 rfl ?_
      exact px_zret dx_Fl_isRight_30 rfl (by decide) (by (have e : inC row y f (some j) = true := by (unfold inC; rw [decide_eq_true (by omega)]; rfl)); rw [e] at hp; exact hp)
  · exact absurd (by omega) hk14
set_option maxRecDepth 100000 in
set_option maxHeartbeats 1000000 in
theorem k_isRight_c {l : Launch} {G : fr_G} {σ : fr_S} {s : Nat} (hS : SE s) (hR : RF σ) {F : Nat → Nat → Nat} (hW : FW F) (hFP : FP F) {m c w2 : Nat} (hc : c < F 0 0) (hw2 : w2 < 65536) (h14 : gI σ s 14 = nI w2) {row : Nat → Nat} (hT : ∀ r, r < 10 → gI σ (s + 1) r = nI (row r)) (h6 : ∀ r, row r ≤ 6) (hP : WP row) (hpw : pwF F c ≤ 4) (hag : agOK F m c w2 (F 3 c) = true) {q : Nat} (hq : PB q) (hCP : CP σ q F) (h3 : gI σ s 3 = nI 14) (h12 : gI σ s 12 = nI c) : CT l G yy_Fl_isRight rm_Fl_isRight [.ref (q), .ref (s)] σ (some (.int (b2i (uaG F c w2 row (F 3 c))))) (σ) := by
  intro Post hp0
  have hp := hp0
  show PX l G yy_Fl_isRight rm_Fl_isRight _ false 742 0 0 0 [(0, .ref (q)), (1, .ref (s))] [] σ
  have kS := kd_S hS
  have kP := kd_P hq
  refine px_aload_n dx_Fl_isRight_0 rfl ?_
  refine px_getI dx_Fl_isRight_1 fl_Fl_118 kS.1 (by omega) rfl ?_
  refine px_eqi (y := nI (14)) h3 ?_
  refine px_bipush (v := 14) dx_Fl_isRight_4 rfl ?_
  refine px_icmp_ne dx_Fl_isRight_6 (fun q => absurd q (by decide)) (fun _ => ?_)
  refine px_aload_n dx_Fl_isRight_9 rfl ?_
  refine px_aload_n dx_Fl_isRight_10 rfl ?_
  refine px_aload_n dx_Fl_isRight_11 rfl ?_
  refine px_getI dx_Fl_isRight_12 fl_Fl_55 kS.1 (by omega) rfl ?_
  refine px_eqi (y := nI (c)) h12 ?_
  refine px_cV (Y := yy_Fl_isRight) (Yc := yy_Pg_methodAt) (b := q) (As := [.int (nI (c))]) dx_Fl_isRight_15 ml_Fl_121 mv_Pg_methodAt np_Pg_methodAt ⟨_, rfl⟩ (by decide) kP.1 (by omega) rfl (Nat.le_of_ble_eq_true rfl) (Nat.le_of_ble_eq_true rfl) rk_Fl_isRight_Pg_methodAt rfl (k_methodAt_t hq hR hW.1 hCP.1 hc) zz_0 ?_
  refine px_cS (Y := yy_Fl_isRight) (Yc := yy_Fl_argumentsAreRight) (As := [.ref (s), .ref (q + 5 + 85 * (c))]) dx_Fl_isRight_18 ml_Fl_127 ms_Fl_argumentsAreRight np_Fl_argumentsAreRight rfl (Nat.le_of_ble_eq_true rfl) (Nat.le_of_ble_eq_true rfl) rk_Fl_isRight_Fl_argumentsAreRight rfl (k_argsRight hS (ME.m hq (by have := hW.1; omega)) hR hW hFP hc (hCP.2.2 c (by have := hW.1; omega)) hw2 h14 hT h6 hP hpw hag) zz_0 ?_
  exact px_zret dx_Fl_isRight_21 rfl (b2i_01 _) (by exact hp)

/-- an instruction has the right to its registers -/
theorem k_isRight {l : Launch} {G : fr_G} {σ : fr_S} {q : Nat} (hq : PB q) {e : Nat} (hE : ME e) (hR : RF σ) {F : Nat → Nat → Nat} (hW : FW F) (hFP : FP F) {m : Nat} (hCP : CP σ q F) (hL : SLm σ e F m) (hS : SUm σ e (stG F m) (usG F m) (bgF F m)) {u : Nat} (hu : u < 40) (hb : bgF F m u = true) (hfr : frmOK F (bgF F m) m u (pbG (bgF F m) u) = true) {row : Nat → Nat} (hT : ∀ r, r < 10 → gI σ (e + 5 + 2 * u + 1) r = nI (row r)) (h6 : ∀ r, row r ≤ 6) (hP : WP row) : CT l G yy_Fl_isRight rm_Fl_isRight [.ref q, .ref (e + 5 + 2 * u)] σ (some (.int (b2i (insG F m u row)))) σ := by
  have hfp := frm_p hfr
  have hfc := frm_C hW hfr
  have hSD := (hL.2 u hu hb).1
  have hSU := hS u hu hb
  have hSE := SE.s hE hu
  have hw0 := hW.2.2.2.2.2.2.2 (40 * m + u)
  by_cases h113 : opS (F 7 (40 * m + u)) = 113
  · have hk : kdO (opS (F 7 (40 * m + u))) = 14 := (kdO_14 _ (opS_lt _)).mpr h113
    have hag := hfp.2.2.1
    unfold nmOK at hag
    rw [h113, nmW_11 (by decide)] at hag
    unfold agT at hag
    simp only [Bool.and_eq_true, decide_eq_true_eq] at hag
    obtain ⟨hc, ⟨h4, hpw⟩, hag⟩ := hag
    have hl : u + 3 ≤ F 6 m := by
      have := hfp.2.1
      rw [h113] at this
      exact this
    have e1 : uA F m (u + 1) = F 7 (40 * m + (u + 1)) := uA_e (by omega)
    have e2 : uA F m (u + 2) = F 7 (40 * m + (u + 2)) := uA_e (by omega)
    have eG : insG F m u row = uaG F (F 7 (40 * m + (u + 1))) (F 7 (40 * m + (u + 2))) row (F 3 (F 7 (40 * m + (u + 1)))) := by
      unfold insG
      rw [h113]
      rfl
    rw [eG]
    unfold SD at hSD
    refine k_isRight_c hSE hR hW hFP hc (hW.2.2.2.2.2.2.2 _) ?_ hT h6 hP (by omega) hag hq hCP ?_ ?_
    · rw [(hSD.2.2.2.2.2.2.2 hk).2, e2]
    · rw [hSD.2.1, hk]
    · rw [hSD.2.2.2.2.2.2.1, dNum_14 hk, e1]
  · have hk : kdO (opS (F 7 (40 * m + u))) ≠ 14 := fun z => h113 ((kdO_14 _ (opS_lt _)).mp z)
    rw [← (io_e hW hfc.1 hfp.2.2.1 hfp.2.2.2.1 hP rfl).2 h113]
    have hy := usG_b hW (F := F) (m := m) (u := u)
    have hw1 := uA_lt hW m (u + 1)
    have hf := dFst_lt (op := opS (F 7 (40 * m + u))) (w1 := uA F m (u + 1)) hw0
    have hg := dsN_lt (op := opS (F 7 (40 * m + u))) hw0 hw1
    have h11 := hSD.2.2.2.2.2.1.trans dSnd_e
    cases hd : dsN (opS (F 7 (40 * m + u))) (F 7 (40 * m + u)) (uA F m (u + 1)) with
    | none =>
      rw [hd] at h11
      exact k_isRight_n hSE hR hT h6 (Nat.lt_of_le_of_lt (kdO_b _ (opS_lt _)).1 (by decide)) hk (by omega) hf hSD.2.1 hSU.2 hSD.2.2.2.2.1 h11
    | some j =>
      rw [hd] at h11
      exact k_isRight_s hSE hR hT h6 (Nat.lt_of_le_of_lt (kdO_b _ (opS_lt _)).1 (by decide)) hk (by omega) hf hSD.2.1 hSU.2 hSD.2.2.2.2.1 (hg j hd) h11


section FWC
variable {F : Nat → Nat → Nat} {m f u : Nat} {v : VS}
theorem fwC_end (h : F 6 m ≤ u) : fwC F m v f u = none := by
  cases f with
  | zero => rfl
  | succ f => unfold fwC; rw [if_neg (Nat.not_lt.mpr h)]
theorem fwC_no (hl : u < F 6 m) (h : ¬ (bgF F m u = true ∧ v.2.1 u = true ∧ insG F m u (v.1 u) = false)) : fwC F m v (f + 1) u = fwC F m v f (u + 1) := by
  rw [show fwC F m v (f + 1) u = if u < F 6 m then (if bgF F m u = true ∧ v.2.1 u = true ∧ insG F m u (v.1 u) = false then some u else fwC F m v f (u + 1)) else none from rfl, if_pos hl, if_neg h]
theorem fwC_y (hl : u < F 6 m) (h : bgF F m u = true ∧ v.2.1 u = true ∧ insG F m u (v.1 u) = false) : fwC F m v (f + 1) u = some u := by
  rw [show fwC F m v (f + 1) u = if u < F 6 m then (if bgF F m u = true ∧ v.2.1 u = true ∧ insG F m u (v.1 u) = false then some u else fwC F m v f (u + 1)) else none from rfl, if_pos hl, if_pos h]
end FWC

set_option maxRecDepth 100000 in
set_option maxHeartbeats 1000000 in
theorem k_firstWrong_lp {l : Launch} {G : fr_G} {σ : fr_S} {q : Nat} (hq : PB q) {e : Nat} (hE : ME e) (hR : RF σ) {F : Nat → Nat → Nat} (hW : FW F) (hFP : FP F) {m : Nat} (hCP : CP σ q F) (hC : CM σ e F m) (hL : SLm σ e F m) (hS : SUm σ e (stG F m) (usG F m) (bgF F m)) (hfo : ∀ u, u < F 6 m → bgF F m u = true → frmOK F (bgF F m) m u (pbG (bgF F m) u) = true) {v : VS} (hV : CV σ q e (bgF F m) v) (hVI : VI v) {Post : Option Value → fr_S → Prop} {R : Int32} (hp : Post (some (.int R)) σ) : ∀ (d : Nat) (u : Nat), 40 - u < d → u ≤ 40 → bfI (fwC F m v (40 - u) u) = R → PX l G yy_Fl_firstWrong rm_Fl_firstWrong (QR G false 742 0 0 Post) false 742 0 0 2 [(0, .ref (q)), (1, .ref (e)), (2, .int (nI (u)))] [] (σ) := by
  intro d
  induction d with
  | zero => intro u hd; exact absurd hd (Nat.not_lt_zero _)
  | succ d ih =>
    intro u hd hu hr
    have kP := kd_P hq
    have kM := kd_M hE
    have h64 := hW.2.2.2.2.2.2.1 m
    refine px_iload_n dx_Fl_firstWrong_2 rfl ?_
    refine px_aload_n dx_Fl_firstWrong_3 rfl ?_
    refine px_getI dx_Fl_firstWrong_4 fl_Fl_23 kM.1 (by omega) rfl ?_
    refine px_eqi (y := nI (F 6 m)) hC.2.2.2.2.1 ?_
    refine px_icmp_geN (a := u) (b := F 6 m) dx_Fl_firstWrong_7 (by omega) (by omega) (fun c_7 => ?_) (fun c_7 => ?_)
    · refine px_iconst (v := -1) dx_Fl_firstWrong_43 rfl ?_
      exact px_iret dx_Fl_firstWrong_44 rfl (by (have e : R = -1 := by (rw [← hr, fwC_end (by omega)]; rfl)); rw [e] at hp; exact hp)
    · refine px_aload_n dx_Fl_firstWrong_10 rfl ?_
      refine px_iload_n dx_Fl_firstWrong_11 rfl ?_
      by_cases q_12 : bgF F m u = true
      · refine px_cV (Y := yy_Fl_firstWrong) (Yc := yy_Me_stepAt) (b := e) (As := [.int (nI (u))]) dx_Fl_firstWrong_12 ml_Fl_29 mv_Me_stepAt np_Me_stepAt ⟨_, rfl⟩ (by decide) kM.1 (by omega) rfl (Nat.le_of_ble_eq_true rfl) (Nat.le_of_ble_eq_true rfl) rk_Fl_firstWrong_Me_stepAt rfl (k_stepAt_N hE hR h64 hC.2.2.2.2.1 hL.1 (by omega) q_12) zz_0 ?_
        refine px_astore_n (lv' := [(3, .ref (e + 5 + 2 * u)), (0, .ref (q)), (1, .ref (e)), (2, .int (nI (u)))]) dx_Fl_firstWrong_15 (by decide) rfl ?_
        have kS := kd_S (SE.s hE (show u < 40 by omega))
        refine px_aload_n dx_Fl_firstWrong_16 rfl ?_
        refine px_ifnull dx_Fl_firstWrong_17 ?_
        refine px_aload_n dx_Fl_firstWrong_20 rfl ?_
        refine px_getI dx_Fl_firstWrong_21 fl_Fl_33 kS.1 (by omega) rfl ?_
        refine px_eqi (y := b2i (v.2.1 u)) (hV.1 u (by omega) q_12).1 ?_
        refine px_if_eqB dx_Fl_firstWrong_24 (fun c_24 => ?_) (fun c_24 => ?_)
        · refine px_iinc (v := (nI (u + 1))) (lv' := [(2, .int (nI (u + 1))), (3, .ref (e + 5 + 2 * u)), (0, .ref (q)), (1, .ref (e))]) dx_Fl_firstWrong_37 rfl (nI_1 _) (by decide) rfl ?_
          refine px_goto dx_Fl_firstWrong_40 ?_
          refine px_sub [2, 3, 0] rfl ?_
          (rw [show 40 - u = (39 - u) + 1 by omega, fwC_no (by omega) (fun z => by have := z.2.1; rw [c_24] at this; cases this)] at hr); exact ih (u + 1) (by omega) (by omega) (by rw [show 40 - (u + 1) = 39 - u by omega]; exact hr)
        · refine px_aload_n dx_Fl_firstWrong_27 rfl ?_
          refine px_aload_n dx_Fl_firstWrong_28 rfl ?_
          refine px_cS (Y := yy_Fl_firstWrong) (Yc := yy_Fl_isRight) (As := [.ref (q), .ref (e + 5 + 2 * u)]) dx_Fl_firstWrong_29 ml_Fl_58 ms_Fl_isRight np_Fl_isRight rfl (Nat.le_of_ble_eq_true rfl) (Nat.le_of_ble_eq_true rfl) rk_Fl_firstWrong_Fl_isRight rfl (k_isRight hq hE hR hW hFP hCP hL hS (by omega) q_12 (hfo u (by omega) q_12) ((hV.1 u (by omega) q_12).2 c_24) (hVI.1 u) (hVI.2 u c_24)) zz_0 ?_
          refine px_if_neB dx_Fl_firstWrong_32 (fun c_32 => ?_) (fun c_32 => ?_)
          · refine px_iinc (v := (nI (u + 1))) (lv' := [(2, .int (nI (u + 1))), (3, .ref (e + 5 + 2 * u)), (0, .ref (q)), (1, .ref (e))]) dx_Fl_firstWrong_37 rfl (nI_1 _) (by decide) rfl ?_
            refine px_goto dx_Fl_firstWrong_40 ?_
            refine px_sub [2, 3, 0] rfl ?_
            (rw [show 40 - u = (39 - u) + 1 by omega, fwC_no (by omega) (fun z => by have := z.2.2; rw [c_32] at this; cases this)] at hr); exact ih (u + 1) (by omega) (by omega) (by rw [show 40 - (u + 1) = 39 - u by omega]; exact hr)
          · refine px_iload_n dx_Fl_firstWrong_35 rfl ?_
            exact px_iret dx_Fl_firstWrong_36 rfl (by (have e : R = nI u := by (rw [← hr, show 40 - u = (39 - u) + 1 by omega, fwC_y (by omega) ⟨q_12, c_24, by simpa using c_32⟩]; rfl)); rw [e] at hp; exact hp)
      · refine px_cV (Y := yy_Fl_firstWrong) (Yc := yy_Me_stepAt) (b := e) (As := [.int (nI (u))]) dx_Fl_firstWrong_12 ml_Fl_29 mv_Me_stepAt np_Me_stepAt ⟨_, rfl⟩ (by decide) kM.1 (by omega) rfl (Nat.le_of_ble_eq_true rfl) (Nat.le_of_ble_eq_true rfl) rk_Fl_firstWrong_Me_stepAt rfl (k_stepAt_n hE hR h64 hC.2.2.2.2.1 hL.1 (by omega) (fun z => q_12 z.2)) zz_0 ?_
        refine px_astore_nN (lv' := [(3, .null), (0, .ref (q)), (1, .ref (e)), (2, .int (nI (u)))]) dx_Fl_firstWrong_15 (by decide) rfl ?_
        refine px_aload_nN dx_Fl_firstWrong_16 rfl ?_
        refine px_ifnullN dx_Fl_firstWrong_17 ?_
        refine px_iinc (v := (nI (u + 1))) (lv' := [(2, .int (nI (u + 1))), (3, .null), (0, .ref (q)), (1, .ref (e))]) dx_Fl_firstWrong_37 rfl (nI_1 _) (by decide) rfl ?_
        refine px_goto dx_Fl_firstWrong_40 ?_
        refine px_sub [2, 3, 0] rfl ?_
        (rw [show 40 - u = (39 - u) + 1 by omega, fwC_no (by omega) (fun z => q_12 z.1)] at hr); exact ih (u + 1) (by omega) (by omega) (by rw [show 40 - (u + 1) = 39 - u by omega]; exact hr)
set_option maxRecDepth 100000 in
set_option maxHeartbeats 1000000 in
theorem k_firstWrong {l : Launch} {G : fr_G} {σ : fr_S} {q : Nat} (hq : PB q) {e : Nat} (hE : ME e) (hR : RF σ) {F : Nat → Nat → Nat} (hW : FW F) (hFP : FP F) {m : Nat} (hCP : CP σ q F) (hC : CM σ e F m) (hL : SLm σ e F m) (hS : SUm σ e (stG F m) (usG F m) (bgF F m)) (hfo : ∀ u, u < F 6 m → bgF F m u = true → frmOK F (bgF F m) m u (pbG (bgF F m) u) = true) {v : VS} (hV : CV σ q e (bgF F m) v) (hVI : VI v) : CT l G yy_Fl_firstWrong rm_Fl_firstWrong [.ref (q), .ref (e)] σ (some (.int (bfI (fwC F m v 40 0)))) (σ) := by
  intro Post hp0
  have hp := hp0
  show PX l G yy_Fl_firstWrong rm_Fl_firstWrong _ false 742 0 0 0 [(0, .ref (q)), (1, .ref (e))] [] σ
  refine px_iconst (v := 0) dx_Fl_firstWrong_0 rfl ?_
  refine px_istore_n (lv' := [(2, .int (0)), (0, .ref (q)), (1, .ref (e))]) dx_Fl_firstWrong_1 (by decide) rfl ?_
  refine px_sub [1, 2, 0] rfl ?_
  exact k_firstWrong_lp hq hE hR hW hFP hCP hC hL hS hfo hV hVI hp0 41 0 (by omega) (by omega) rfl
