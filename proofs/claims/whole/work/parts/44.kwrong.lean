/-! the class: the first instruction without right to its registers -/
theorem uaG_f {F : Nat → Nat → Nat} {c w2 : Nat} {row : Nat → Nat} {j : Nat} (h : isT row (agW w2 (agK F c j)) (F 4 (3 * c + j)) = false) : ∀ n, j < n → uaG F c w2 row n = false := by
  intro n
  induction n with
  | zero => intro q; exact absurd q (Nat.not_lt_zero _)
  | succ n ih =>
    intro q
    show (uaG F c w2 row n && _) = false
    by_cases e : j = n
    · subst e
      rw [h, Bool.and_false]
    · rw [ih (by omega)]
      rfl

set_option maxRecDepth 100000 in
set_option maxHeartbeats 1000000 in
theorem k_argsRight_lp {l : Launch} {G : fr_G} {σ : fr_S} {s : Nat} (hS : SE s) {g : Nat} (hG : ME g) (hR : RF σ) {F : Nat → Nat → Nat} (hW : FW F) (hFP : FP F) {m c w2 : Nat} (hc : c < F 0 0) (hCg : CM σ g F c) (hw2 : w2 < 65536) (h14 : gI σ s 14 = nI w2) {row : Nat → Nat} (hT : ∀ r, r < 10 → gI σ (s + 1) r = nI (row r)) (h6 : ∀ r, row r ≤ 6) (hP : WP row) (hpw : pwF F c ≤ 4) (hag : agOK F m c w2 (F 3 c) = true) {Post : Option Value → fr_S → Prop} (hp : Post (some (.int (b2i (uaG F c w2 row (F 3 c))))) σ) : ∀ (d : Nat) (j : Nat), F 3 c - j < d → j ≤ F 3 c → uaG F c w2 row j = true → PX l G yy_Fl_argumentsAreRight rm_Fl_argumentsAreRight (QR G false 742 0 0 Post) false 742 0 0 10 [(0, .ref (s)), (1, .ref (g)), (2, .int (nI (agK F c j))), (3, .int (nI (j)))] [] (σ) := by
  intro d
  induction d with
  | zero => intro j hd; exact absurd hd (Nat.not_lt_zero _)
  | succ d ih =>
    intro j hd hj hu
    have kS := kd_S hS
    have kM := kd_M hG
    have h3 := hW.2.2.2.1 c
    have h5 := hW.2.2.2.2.1
    have h10 := hW.2.2.2.2.2.1 m
    refine px_iload_n dx_Fl_argumentsAreRight_10 rfl ?_
    refine px_aload_n dx_Fl_argumentsAreRight_11 rfl ?_
    refine px_getI dx_Fl_argumentsAreRight_12 fl_Fl_72 kM.1 (by omega) rfl ?_
    refine px_eqi (y := nI (F 3 c)) hCg.2.1 ?_
    refine px_icmp_geN (a := j) (b := F 3 c) dx_Fl_argumentsAreRight_15 (by omega) (by omega) (fun c_15 => ?_) (fun c_15 => ?_)
    · refine px_iconst (v := 1) dx_Fl_argumentsAreRight_55 rfl ?_
      exact px_zret dx_Fl_argumentsAreRight_56 rfl (by decide) (by (obtain rfl : j = F 3 c := by omega); rw [hu] at hp; exact hp)
    · have hk2 := agK_mono F c (j + 1) (F 3 c) (by omega)
      rw [agK_s] at hk2
      have hpk : agK F c (F 3 c) = pwF F c := rfl
      have hfp := hFP c j hc (by omega)
      have hwd : 1 ≤ wdt (F 4 (3 * c + j)) := (by unfold wdt; split <;> decide)
      have hk4 : agK F c j < 4 := by omega
      have hhs := agOK_hs hag j (by omega)
      simp only [hsR, decide_eq_true_eq] at hhs
      refine px_aload_n dx_Fl_argumentsAreRight_18 rfl ?_
      refine px_iload_n dx_Fl_argumentsAreRight_19 rfl ?_
      refine px_cV (Y := yy_Fl_argumentsAreRight) (Yc := yy_Me_parameterAt) (b := g) (As := [.int (nI (j))]) dx_Fl_argumentsAreRight_20 ml_Fl_75 mv_Me_parameterAt np_Me_parameterAt ⟨_, rfl⟩ (by decide) kM.1 (by omega) rfl (Nat.le_of_ble_eq_true rfl) (Nat.le_of_ble_eq_true rfl) rk_Fl_argumentsAreRight_Me_parameterAt rfl (k_parameterAt (np := F 3 c) (pt := fun k => tt (F 4 (3 * c + k))) hG hR (by omega) hCg.2.1 hCg.2.2.2.2.2.1 (by omega)) zz_0 ?_
      refine px_eqi (y := nI (tt (F 4 (3 * c + j)))) (congrArg nI (if_pos c_15)) ?_
      refine px_istore (lv' := [(4, .int (nI (tt (F 4 (3 * c + j))))), (0, .ref (s)), (1, .ref (g)), (2, .int (nI (agK F c j))), (3, .int (nI (j)))]) dx_Fl_argumentsAreRight_23 (by decide) rfl ?_
      refine px_aload_n dx_Fl_argumentsAreRight_25 rfl ?_
      refine px_aload_n dx_Fl_argumentsAreRight_26 rfl ?_
      refine px_iload_n dx_Fl_argumentsAreRight_27 rfl ?_
      refine px_cV (Y := yy_Fl_argumentsAreRight) (Yc := yy_St_named) (b := s) (As := [.int (nI (agK F c j))]) dx_Fl_argumentsAreRight_28 ml_Fl_134 mv_St_named np_St_named ⟨_, rfl⟩ (by decide) kS.1 (by omega) rfl (Nat.le_of_ble_eq_true rfl) (Nat.le_of_ble_eq_true rfl) rk_Fl_argumentsAreRight_St_named rfl (k_named (w2 := w2) (k := agK F c j) hS hw2 (by omega) (fun _ => h14)) zz_0 ?_
      refine px_eqi (y := nI (agW w2 (agK F c j))) (congrArg nI (if_pos hk4)) ?_
      refine px_iload dx_Fl_argumentsAreRight_31 rfl ?_
      refine px_cV (Y := yy_Fl_argumentsAreRight) (Yc := yy_St_has) (b := s) (As := [.int (nI (agW w2 (agK F c j))), .int (nI (tt (F 4 (3 * c + j))))]) dx_Fl_argumentsAreRight_33 ml_Fl_104 mv_St_has np_St_has ⟨_, rfl⟩ (by decide) kS.1 (by omega) rfl (Nat.le_of_ble_eq_true rfl) (Nat.le_of_ble_eq_true rfl) rk_Fl_argumentsAreRight_St_has rfl (k_has (a := tt (F 4 (3 * c + j))) hS hR hT h6 (by have := tt_b _ (h5 (3 * c + j)); omega)) zz_0 ?_
      refine px_eqi (y := b2i (isT row (agW w2 (agK F c j)) (F 4 (3 * c + j)))) (congrArg b2i (by rw [tyO_N (by omega)]; exact hs_t hP (by omega) hfp (h5 _))) ?_
      refine px_if_neB dx_Fl_argumentsAreRight_36 (fun c_36 => ?_) (fun c_36 => ?_)
      · refine px_iload_n dx_Fl_argumentsAreRight_41 rfl ?_
        refine px_iload dx_Fl_argumentsAreRight_42 rfl ?_
        refine px_cS (Y := yy_Fl_argumentsAreRight) (Yc := yy_V_widthOf) (As := [.int (nI (tt (F 4 (3 * c + j))))]) dx_Fl_argumentsAreRight_44 ml_Fl_79 ms_V_widthOf np_V_widthOf rfl (Nat.le_of_ble_eq_true rfl) (Nat.le_of_ble_eq_true rfl) rk_Fl_argumentsAreRight_V_widthOf rfl (k_widthOf (x := tt (F 4 (3 * c + j))) (by have := tt_b _ (h5 (3 * c + j)); omega)) zz_0 ?_
        refine px_eqi (y := nI (wdt (F 4 (3 * c + j)))) (congrArg nI (wdc_w (h5 _))) ?_
        refine px_iaddN (a := agK F c j) (b := wdt (F 4 (3 * c + j))) dx_Fl_argumentsAreRight_47 ?_
        refine px_istore_n (lv' := [(2, .int (nI ((agK F c j) + (wdt (F 4 (3 * c + j)))))), (4, .int (nI (tt (F 4 (3 * c + j))))), (0, .ref (s)), (1, .ref (g)), (3, .int (nI (j)))]) dx_Fl_argumentsAreRight_48 (by decide) rfl ?_
        refine px_iinc (v := (nI (j + 1))) (lv' := [(3, .int (nI (j + 1))), (2, .int (nI ((agK F c j) + (wdt (F 4 (3 * c + j)))))), (4, .int (nI (tt (F 4 (3 * c + j))))), (0, .ref (s)), (1, .ref (g))]) dx_Fl_argumentsAreRight_49 rfl (nI_1 _) (by decide) rfl ?_
        refine px_goto dx_Fl_argumentsAreRight_52 ?_
        refine px_sub [3, 4, 1, 0] rfl ?_
        have qq := ih (j + 1) (by omega) (by omega) (by show (_ && _) = true; rw [hu, c_36]; rfl)
        rw [agK_s] at qq
        exact qq
      · refine px_iconst (v := 0) dx_Fl_argumentsAreRight_39 rfl ?_
        exact px_zret dx_Fl_argumentsAreRight_40 rfl (by decide) (by (have e : uaG F c w2 row (F 3 c) = false := uaG_f c_36 _ (by omega)); rw [e] at hp; exact hp)
set_option maxRecDepth 100000 in
set_option maxHeartbeats 1000000 in
theorem k_argsRight {l : Launch} {G : fr_G} {σ : fr_S} {s : Nat} (hS : SE s) {g : Nat} (hG : ME g) (hR : RF σ) {F : Nat → Nat → Nat} (hW : FW F) (hFP : FP F) {m c w2 : Nat} (hc : c < F 0 0) (hCg : CM σ g F c) (hw2 : w2 < 65536) (h14 : gI σ s 14 = nI w2) {row : Nat → Nat} (hT : ∀ r, r < 10 → gI σ (s + 1) r = nI (row r)) (h6 : ∀ r, row r ≤ 6) (hP : WP row) (hpw : pwF F c ≤ 4) (hag : agOK F m c w2 (F 3 c) = true) : CT l G yy_Fl_argumentsAreRight rm_Fl_argumentsAreRight [.ref (s), .ref (g)] σ (some (.int (b2i (uaG F c w2 row (F 3 c))))) (σ) := by
  intro Post hp0
  have hp := hp0
  show PX l G yy_Fl_argumentsAreRight rm_Fl_argumentsAreRight _ false 742 0 0 0 [(0, .ref (s)), (1, .ref (g))] [] σ
  refine px_aload_n dx_Fl_argumentsAreRight_0 rfl ?_
  refine px_ifnonnull dx_Fl_argumentsAreRight_1 ?_
  refine px_iconst (v := 0) dx_Fl_argumentsAreRight_6 rfl ?_
  refine px_istore_n (lv' := [(2, .int (0)), (0, .ref (s)), (1, .ref (g))]) dx_Fl_argumentsAreRight_7 (by decide) rfl ?_
  refine px_iconst (v := 0) dx_Fl_argumentsAreRight_8 rfl ?_
  refine px_istore_n (lv' := [(3, .int (0)), (2, .int (0)), (0, .ref (s)), (1, .ref (g))]) dx_Fl_argumentsAreRight_9 (by decide) rfl ?_
  refine px_sub [2, 3, 1, 0] rfl ?_
  exact k_argsRight_lp hS hG hR hW hFP hc hCg hw2 h14 hT h6 hP hpw hag hp0 (F 3 c + 1) 0 (by omega) (by omega) rfl
