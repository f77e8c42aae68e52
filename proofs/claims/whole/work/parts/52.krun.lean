/-! the class: small methods of running -/

set_option maxRecDepth 100000 in
set_option maxHeartbeats 1000000 in
theorem k_set {l : Launch} {G : fr_G} {σ : fr_S} {f : Nat} (hF : FE f) (hR : RF σ) {r : Nat} (hr : r < 10) {w : Int64} {d : UInt64} : CT l G yy_Fr_set rm_Fr_set [.ref (f), .int (nI (r)), .long (w), .double (d)] σ none (sD (sL σ (f + 1) r w) (f + 2) r d) := by
  intro Post hp0
  have hp := hp0
  show PX l G yy_Fr_set rm_Fr_set _ false 742 0 0 0 [(0, .ref (f)), (1, .int (nI (r))), (2, .long (w)), (4, .double (d))] [] σ
  have kF := kd_F hF
  refine px_iload_n dx_Fr_set_0 rfl ?_
  refine px_if_ltN (a := r) dx_Fr_set_1 (by omega) (fun c_1 => ?_) (fun c_1 => ?_)
  · exact px_vret dx_Fr_set_25 rfl (by (first | exact hp | (exfalso; omega)))
  · refine px_iload_n dx_Fr_set_4 rfl ?_
    refine px_bipush (v := 10) dx_Fr_set_5 rfl ?_
    refine px_icmp_geN (a := r) (b := 10) dx_Fr_set_7 (by omega) (by omega) (fun c_7 => ?_) (fun c_7 => ?_)
    · exact px_vret dx_Fr_set_25 rfl (by (first | exact hp | (exfalso; omega)))
    · refine px_aload_n dx_Fr_set_10 rfl ?_
      refine px_getR (r := f + 1) dx_Fr_set_11 fl_Fr_9 kF.1 (by omega) rfl (hR.2.2.1 f hF).1 ?_
      refine px_iload_n dx_Fr_set_14 rfl ?_
      refine px_lload_n dx_Fr_set_15 rfl ?_
      refine px_lastN (j := r) dx_Fr_set_16 kF.2.1 (by omega) (by omega) ?_
      refine px_aload_n dx_Fr_set_17 rfl ?_
      refine px_getR (r := f + 2) dx_Fr_set_18 fl_Fr_15 kF.1 (by omega) rfl (hR.2.2.1 f hF).2 ?_
      refine px_iload_n dx_Fr_set_21 rfl ?_
      refine px_dload dx_Fr_set_22 rfl ?_
      refine px_dastN (j := r) dx_Fr_set_24 kF.2.2.1 (by omega) (by omega) ?_
      exact px_vret dx_Fr_set_25 rfl (by (first | exact hp | (exfalso; omega)))
set_option maxRecDepth 100000 in
set_option maxHeartbeats 1000000 in
theorem k_whole {l : Launch} {G : fr_G} {σ : fr_S} {f : Nat} (hF : FE f) (hR : RF σ) {r : Nat} (hr : r < 10) : CT l G yy_Fr_whole rm_Fr_whole [.ref (f), .int (nI (r))] σ (some (.long (gL σ (f + 1) r))) (σ) := by
  intro Post hp0
  have hp := hp0
  show PX l G yy_Fr_whole rm_Fr_whole _ false 742 0 0 0 [(0, .ref (f)), (1, .int (nI (r)))] [] σ
  have kF := kd_F hF
  refine px_iload_n dx_Fr_whole_0 rfl ?_
  refine px_if_ltN (a := r) dx_Fr_whole_1 (by omega) (fun c_1 => ?_) (fun c_1 => ?_)
  · refine px_lconst (v := 0) dx_Fr_whole_22 rfl ?_
    exact px_lret dx_Fr_whole_23 rfl (by (first | exact hp | (exfalso; omega)))
  · refine px_iload_n dx_Fr_whole_4 rfl ?_
    refine px_aload_n dx_Fr_whole_5 rfl ?_
    refine px_getR (r := f + 1) dx_Fr_whole_6 fl_Fr_9 kF.1 (by omega) rfl (hR.2.2.1 f hF).1 ?_
    refine px_alen (v := 10) dx_Fr_whole_9 kF.2.1 (by decide) (by omega) rfl ?_
    refine px_icmp_geN (a := r) (b := 10) dx_Fr_whole_10 (by omega) (by omega) (fun c_10 => ?_) (fun c_10 => ?_)
    · refine px_lconst (v := 0) dx_Fr_whole_22 rfl ?_
      exact px_lret dx_Fr_whole_23 rfl (by (first | exact hp | (exfalso; omega)))
    · refine px_aload_n dx_Fr_whole_13 rfl ?_
      refine px_getR (r := f + 1) dx_Fr_whole_14 fl_Fr_9 kF.1 (by omega) rfl (hR.2.2.1 f hF).1 ?_
      refine px_iload_n dx_Fr_whole_17 rfl ?_
      refine px_laldN (j := r) dx_Fr_whole_18 kF.2.1 (by omega) (by omega) ?_
      refine px_goto dx_Fr_whole_19 ?_
      exact px_lret dx_Fr_whole_23 rfl (by (first | exact hp | (exfalso; omega)))
set_option maxRecDepth 100000 in
set_option maxHeartbeats 1000000 in
theorem k_real {l : Launch} {G : fr_G} {σ : fr_S} {f : Nat} (hF : FE f) (hR : RF σ) {r : Nat} (hr : r < 10) : CT l G yy_Fr_realNumber rm_Fr_realNumber [.ref (f), .int (nI (r))] σ (some (.double (gD σ (f + 2) r))) (σ) := by
  intro Post hp0
  have hp := hp0
  show PX l G yy_Fr_realNumber rm_Fr_realNumber _ false 742 0 0 0 [(0, .ref (f)), (1, .int (nI (r)))] [] σ
  have kF := kd_F hF
  refine px_iload_n dx_Fr_realNumber_0 rfl ?_
  refine px_if_ltN (a := r) dx_Fr_realNumber_1 (by omega) (fun c_1 => ?_) (fun c_1 => ?_)
  · refine px_dconst0 dx_Fr_realNumber_22 ?_
    exact px_dret dx_Fr_realNumber_23 rfl (by (first | exact hp | (exfalso; omega)))
  · refine px_iload_n dx_Fr_realNumber_4 rfl ?_
    refine px_aload_n dx_Fr_realNumber_5 rfl ?_
    refine px_getR (r := f + 2) dx_Fr_realNumber_6 fl_Fr_15 kF.1 (by omega) rfl (hR.2.2.1 f hF).2 ?_
    refine px_alen (v := 10) dx_Fr_realNumber_9 kF.2.2.1 (by decide) (by omega) rfl ?_
    refine px_icmp_geN (a := r) (b := 10) dx_Fr_realNumber_10 (by omega) (by omega) (fun c_10 => ?_) (fun c_10 => ?_)
    · refine px_dconst0 dx_Fr_realNumber_22 ?_
      exact px_dret dx_Fr_realNumber_23 rfl (by (first | exact hp | (exfalso; omega)))
    · refine px_aload_n dx_Fr_realNumber_13 rfl ?_
      refine px_getR (r := f + 2) dx_Fr_realNumber_14 fl_Fr_15 kF.1 (by omega) rfl (hR.2.2.1 f hF).2 ?_
      refine px_iload_n dx_Fr_realNumber_17 rfl ?_
      refine px_daldN (j := r) dx_Fr_realNumber_18 kF.2.2.1 (by omega) (by omega) ?_
      refine px_goto dx_Fr_realNumber_19 ?_
      exact px_dret dx_Fr_realNumber_23 rfl (by (first | exact hp | (exfalso; omega)))
set_option maxRecDepth 100000 in
set_option maxHeartbeats 1000000 in
theorem k_enterF {l : Launch} {G : fr_G} {σ : fr_S} {f : Nat} (hF : FE f) (hR : RF σ) {e : Nat} : CT l G yy_Fr_enter rm_Fr_enter [.ref (f), .ref (e)] σ none (sI (sR σ f 2 (some e)) f 3 0) := by
  intro Post hp0
  have hp := hp0
  show PX l G yy_Fr_enter rm_Fr_enter _ false 742 0 0 0 [(0, .ref (f)), (1, .ref (e))] [] σ
  have kF := kd_F hF
  refine px_aload_n dx_Fr_enter_0 rfl ?_
  refine px_aload_n dx_Fr_enter_1 rfl ?_
  refine px_putR dx_Fr_enter_2 fl_Fr_19 (fun q => by cases q) kF.1 (by omega) rfl ?_
  refine px_aload_n dx_Fr_enter_5 rfl ?_
  refine px_iconst (v := 0) dx_Fr_enter_6 rfl ?_
  refine px_putI dx_Fr_enter_7 fl_Fr_23 kF.1 (by omega) rfl ?_
  exact px_vret dx_Fr_enter_10 rfl (by exact hp)
set_option maxRecDepth 100000 in
set_option maxHeartbeats 1000000 in
theorem k_nextStep {l : Launch} {G : fr_G} {σ : fr_S} {f : Nat} (hF : FE f) (hR : RF σ) {e : Nat} (hE : ME e) {n u : Nat} {Bg : Nat → Bool} (hn : n ≤ 40) (h8 : gI σ e 8 = nI n) (hB : ∀ u, u < 40 → gI σ (e + 4) u = b2i (Bg u)) (hu : u < n) (hb : Bg u = true) (hfm : gR σ f 2 = some e) (hfu : gI σ f 3 = nI u) : CT l G yy_Fr_nextStep rm_Fr_nextStep [.ref (f)] σ (some (.ref (e + 5 + 2 * u))) (σ) := by
  intro Post hp0
  have hp := hp0
  show PX l G yy_Fr_nextStep rm_Fr_nextStep _ false 742 0 0 0 [(0, .ref (f))] [] σ
  have kF := kd_F hF
  have kM := kd_M hE
  refine px_aload_n dx_Fr_nextStep_0 rfl ?_
  refine px_getR (r := e) dx_Fr_nextStep_1 fl_Fr_19 kF.1 (by omega) rfl hfm ?_
  refine px_ifnonnull dx_Fr_nextStep_4 ?_
  refine px_aload_n dx_Fr_nextStep_11 rfl ?_
  refine px_getR (r := e) dx_Fr_nextStep_12 fl_Fr_19 kF.1 (by omega) rfl hfm ?_
  refine px_aload_n dx_Fr_nextStep_15 rfl ?_
  refine px_getI dx_Fr_nextStep_16 fl_Fr_23 kF.1 (by omega) rfl ?_
  refine px_eqi (y := nI (u)) hfu ?_
  refine px_cV (Y := yy_Fr_nextStep) (Yc := yy_Me_stepAt) (b := e) (As := [.int (nI (u))]) dx_Fr_nextStep_19 ml_Fr_27 mv_Me_stepAt np_Me_stepAt ⟨_, rfl⟩ (by decide) kM.1 (by omega) rfl (Nat.le_of_ble_eq_true rfl) (Nat.le_of_ble_eq_true rfl) rk_Fr_nextStep_Me_stepAt rfl (k_stepAt_N hE hR hn h8 hB hu hb) zz_0 ?_
  exact px_aret dx_Fr_nextStep_22 rfl (by exact hp)
set_option maxRecDepth 100000 in
set_option maxHeartbeats 1000000 in
theorem k_rest {l : Launch} {G : fr_G} {σ : fr_S}  : CT l G yy_Mc_rest rm_Mc_rest [.ref (7)] σ none (sI (sI σ 7 2 0) 7 1 0) := by
  intro Post hp0
  have hp := hp0
  show PX l G yy_Mc_rest rm_Mc_rest _ false 742 0 0 0 [(0, .ref (7))] [] σ
  refine px_aload_n dx_Mc_rest_0 rfl ?_
  refine px_iconst (v := 0) dx_Mc_rest_1 rfl ?_
  refine px_putI dx_Mc_rest_2 fl_Mc_21 rfl (by decide) rfl ?_
  refine px_aload_n dx_Mc_rest_5 rfl ?_
  refine px_iconst (v := 0) dx_Mc_rest_6 rfl ?_
  refine px_putI dx_Mc_rest_7 fl_Mc_17 rfl (by decide) rfl ?_
  exact px_vret dx_Mc_rest_10 rfl (by exact hp)
set_option maxRecDepth 100000 in
set_option maxHeartbeats 1000000 in
theorem k_stop {l : Launch} {G : fr_G} {σ : fr_S} {x : Int32} : CT l G yy_Mc_stop rm_Mc_stop [.ref (7), .int (x)] σ none (sI (sI σ 7 2 3) 7 3 x) := by
  intro Post hp0
  have hp := hp0
  show PX l G yy_Mc_stop rm_Mc_stop _ false 742 0 0 0 [(0, .ref (7)), (1, .int (x))] [] σ
  refine px_aload_n dx_Mc_stop_0 rfl ?_
  refine px_iconst (v := 3) dx_Mc_stop_1 rfl ?_
  refine px_putI dx_Mc_stop_2 fl_Mc_21 rfl (by decide) rfl ?_
  refine px_aload_n dx_Mc_stop_5 rfl ?_
  refine px_iload_n dx_Mc_stop_6 rfl ?_
  refine px_putI dx_Mc_stop_7 fl_Mc_24 rfl (by decide) rfl ?_
  exact px_vret dx_Mc_stop_10 rfl (by exact hp)
set_option maxRecDepth 100000 in
set_option maxHeartbeats 1000000 in
theorem k_frameAt {l : Launch} {G : fr_G} {σ : fr_S} (hR : RF σ) {i : Nat} (hi : i < 6) : CT l G yy_Mc_frameAt rm_Mc_frameAt [.ref (7), .int (nI (i))] σ (some (.ref (9 + 3 * i))) (σ) := by
  intro Post hp0
  have hp := hp0
  show PX l G yy_Mc_frameAt rm_Mc_frameAt _ false 742 0 0 0 [(0, .ref (7)), (1, .int (nI (i)))] [] σ
  refine px_iload_n dx_Mc_frameAt_0 rfl ?_
  refine px_if_ltN (a := i) dx_Mc_frameAt_1 (by omega) (fun c_1 => ?_) (fun c_1 => ?_)
  · refine px_null dx_Mc_frameAt_22 ?_
    exact px_aretN dx_Mc_frameAt_23 rfl (by (first | exact hp | (exfalso; omega)))
  · refine px_iload_n dx_Mc_frameAt_4 rfl ?_
    refine px_aload_n dx_Mc_frameAt_5 rfl ?_
    refine px_getR (r := 8) dx_Mc_frameAt_6 fl_Mc_11 rfl (by decide) rfl hR.1.2.2.2.2.2.2.2 ?_
    refine px_alen (v := 6) dx_Mc_frameAt_9 rfl (by decide) (by decide) rfl ?_
    refine px_icmp_geN (a := i) (b := 6) dx_Mc_frameAt_10 (by omega) (by omega) (fun c_10 => ?_) (fun c_10 => ?_)
    · refine px_null dx_Mc_frameAt_22 ?_
      exact px_aretN dx_Mc_frameAt_23 rfl (by (first | exact hp | (exfalso; omega)))
    · refine px_aload_n dx_Mc_frameAt_13 rfl ?_
      refine px_getR (r := 8) dx_Mc_frameAt_14 fl_Mc_11 rfl (by decide) rfl hR.1.2.2.2.2.2.2.2 ?_
      refine px_iload_n dx_Mc_frameAt_17 rfl ?_
      refine px_aald24N (j := i) (r := 9 + 3 * i) dx_Mc_frameAt_18 rfl (by decide) (by omega) (hR.2.1 i (by omega)) ?_
      refine px_goto dx_Mc_frameAt_19 ?_
      exact px_aret dx_Mc_frameAt_23 rfl (by (first | exact hp | (exfalso; omega)))
set_option maxRecDepth 100000 in
set_option maxHeartbeats 1000000 in
theorem k_frameAt_n {l : Launch} {G : fr_G} {σ : fr_S} (hR : RF σ) {i : Nat} (hi : 6 ≤ i) (hi2 : i < 2 ^ 31) : CT l G yy_Mc_frameAt rm_Mc_frameAt [.ref (7), .int (nI (i))] σ (some (.null)) (σ) := by
  intro Post hp0
  have hp := hp0
  show PX l G yy_Mc_frameAt rm_Mc_frameAt _ false 742 0 0 0 [(0, .ref (7)), (1, .int (nI (i)))] [] σ
  refine px_iload_n dx_Mc_frameAt_0 rfl ?_
  refine px_if_ltN (a := i) dx_Mc_frameAt_1 (by omega) (fun c_1 => ?_) (fun c_1 => ?_)
  · refine px_null dx_Mc_frameAt_22 ?_
    exact px_aretN dx_Mc_frameAt_23 rfl (by (first | exact hp | (exfalso; omega)))
  · refine px_iload_n dx_Mc_frameAt_4 rfl ?_
    refine px_aload_n dx_Mc_frameAt_5 rfl ?_
    refine px_getR (r := 8) dx_Mc_frameAt_6 fl_Mc_11 rfl (by decide) rfl hR.1.2.2.2.2.2.2.2 ?_
    refine px_alen (v := 6) dx_Mc_frameAt_9 rfl (by decide) (by decide) rfl ?_
    refine px_icmp_geN (a := i) (b := 6) dx_Mc_frameAt_10 (by omega) (by omega) (fun c_10 => ?_) (fun c_10 => ?_)
    · refine px_null dx_Mc_frameAt_22 ?_
      exact px_aretN dx_Mc_frameAt_23 rfl (by (first | exact hp | (exfalso; omega)))
    · refine px_aload_n dx_Mc_frameAt_13 rfl ?_
      refine px_getR (r := 8) dx_Mc_frameAt_14 fl_Mc_11 rfl (by decide) rfl hR.1.2.2.2.2.2.2.2 ?_
      refine px_iload_n dx_Mc_frameAt_17 rfl ?_
      refine px_aald24N (j := i) (r := 9 + 3 * i) dx_Mc_frameAt_18 rfl (by decide) (by omega) (hR.2.1 i (by omega)) ?_
      refine px_goto dx_Mc_frameAt_19 ?_
      exact px_aret dx_Mc_frameAt_23 rfl (by (first | exact hp | (exfalso; omega)))
set_option maxRecDepth 100000 in
set_option maxHeartbeats 1000000 in
theorem k_agClear {l : Launch} {G : fr_G} {σ : fr_S}  : CT l G yy_Ag_clear rm_Ag_clear [.ref (3)] σ none (sI σ 3 3 0) := by
  intro Post hp0
  have hp := hp0
  show PX l G yy_Ag_clear rm_Ag_clear _ false 742 0 0 0 [(0, .ref (3))] [] σ
  refine px_aload_n dx_Ag_clear_0 rfl ?_
  refine px_iconst (v := 0) dx_Ag_clear_1 rfl ?_
  refine px_putI dx_Ag_clear_2 fl_Ag_23 rfl (by decide) rfl ?_
  exact px_vret dx_Ag_clear_5 rfl (by exact hp)
set_option maxRecDepth 100000 in
set_option maxHeartbeats 1000000 in
theorem k_agAdd {l : Launch} {G : fr_G} {σ : fr_S} (hR : RF σ) {c : Nat} (hc3 : c ≤ 3) (hc : gI σ 3 3 = nI c) {x : Int32} {w : Int64} {d : UInt64} : CR l G yy_Ag_add rm_Ag_add [.ref (3), .int (x), .long (w), .double (d)] σ (fun r0 σ' => (3 ≤ c ∧ r0 = some (.int 0) ∧ σ' = σ) ∨ (c < 3 ∧ r0 = some (.int 1) ∧ σ' = sI (sD (sL (sI σ 4 c x) 5 c w) 6 c d) 3 3 (nI (c + 1)))) := by
  intro Post hp0
  show PX l G yy_Ag_add rm_Ag_add _ false 742 0 0 0 [(0, .ref (3)), (1, .int (x)), (2, .long (w)), (4, .double (d))] [] σ
  refine px_aload_n dx_Ag_add_0 rfl ?_
  refine px_getI dx_Ag_add_1 fl_Ag_23 rfl (by decide) rfl ?_
  refine px_eqi (y := nI (c)) hc ?_
  refine px_if_ltN (a := c) dx_Ag_add_4 (by omega) (fun c_4 => ?_) (fun c_4 => ?_)
  · refine px_iconst (v := 0) dx_Ag_add_15 rfl ?_
    exact px_zret dx_Ag_add_16 rfl (by decide) (by exact hp0 _ _ (Or.inl ⟨by omega, rfl, rfl⟩))
  · refine px_aload_n dx_Ag_add_7 rfl ?_
    refine px_getI dx_Ag_add_8 fl_Ag_23 rfl (by decide) rfl ?_
    refine px_eqi (y := nI (c)) hc ?_
    refine px_iconst (v := 3) dx_Ag_add_11 rfl ?_
    refine px_icmp_ltN (a := c) (b := 3) dx_Ag_add_12 (by omega) (by omega) (fun c_12 => ?_) (fun c_12 => ?_)
    · refine px_aload_n dx_Ag_add_17 rfl ?_
      refine px_getR (r := 4) dx_Ag_add_18 fl_Ag_9 rfl (by decide) rfl hR.1.2.2.2.2.1 ?_
      refine px_aload_n dx_Ag_add_21 rfl ?_
      refine px_getI dx_Ag_add_22 fl_Ag_23 rfl (by decide) rfl ?_
      refine px_eqi (y := nI (c)) hc ?_
      refine px_iload_n dx_Ag_add_25 rfl ?_
      refine px_iastN (j := c) dx_Ag_add_26 rfl (by decide) (by omega) ?_
      refine px_aload_n dx_Ag_add_27 rfl ?_
      refine px_getR (r := 5) dx_Ag_add_28 fl_Ag_15 rfl (by decide) rfl hR.1.2.2.2.2.2.1 ?_
      refine px_aload_n dx_Ag_add_31 rfl ?_
      refine px_getI dx_Ag_add_32 fl_Ag_23 rfl (by decide) rfl ?_
      refine px_eqi (y := nI (c)) (Eq.trans (gI_n (Or.inl (by decide))) hc) ?_
      refine px_lload_n dx_Ag_add_35 rfl ?_
      refine px_lastN (j := c) dx_Ag_add_36 rfl (by decide) (by omega) ?_
      refine px_aload_n dx_Ag_add_37 rfl ?_
      refine px_getR (r := 6) dx_Ag_add_38 fl_Ag_19 rfl (by decide) rfl hR.1.2.2.2.2.2.2.1 ?_
      refine px_aload_n dx_Ag_add_41 rfl ?_
      refine px_getI dx_Ag_add_42 fl_Ag_23 rfl (by decide) rfl ?_
      refine px_eqi (y := nI (c)) (Eq.trans gI_l (Eq.trans (gI_n (Or.inl (by decide))) hc)) ?_
      refine px_dload dx_Ag_add_45 rfl ?_
      refine px_dastN (j := c) dx_Ag_add_47 rfl (by decide) (by omega) ?_
      refine px_aload_n dx_Ag_add_48 rfl ?_
      refine px_dup dx_Ag_add_49 rfl ?_
      refine px_getI dx_Ag_add_50 fl_Ag_23 rfl (by decide) rfl ?_
      refine px_eqi (y := nI (c)) (Eq.trans gI_d (Eq.trans gI_l (Eq.trans (gI_n (Or.inl (by decide))) hc))) ?_
      refine px_iconst (v := 1) dx_Ag_add_53 rfl ?_
      refine px_iaddN (a := c) (b := 1) dx_Ag_add_54 ?_
      refine px_putI dx_Ag_add_55 fl_Ag_23 rfl (by decide) rfl ?_
      refine px_iconst (v := 1) dx_Ag_add_58 rfl ?_
      exact px_zret dx_Ag_add_59 rfl (by decide) (by exact hp0 _ _ (Or.inr ⟨by omega, rfl, rfl⟩))
    · refine px_iconst (v := 0) dx_Ag_add_15 rfl ?_
      exact px_zret dx_Ag_add_16 rfl (by decide) (by exact hp0 _ _ (Or.inl ⟨by omega, rfl, rfl⟩))
