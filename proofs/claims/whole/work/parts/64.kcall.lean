/-! the class: a call is begun, or refused; where calls stand -/
theorem suO_t {F : Nat → Nat → Nat} {a : AV} {m : Nat} (h : suO F a m = true) : F 3 m = a.1 ∧ suP F a m a.1 = true := by
  unfold suO at h
  simp only [Bool.and_eq_true, decide_eq_true_eq] at h
  exact h

set_option maxRecDepth 100000 in
set_option maxHeartbeats 1000000 in
theorem k_bc_n {l : Launch} {G : fr_G} {σ : fr_S} {q : Nat} (hq : PB q) (hPQ : gR σ 0 3 = some q) (hR : RF σ) {F : Nat → Nat → Nat} (hW : FW F) (hCP : CP σ q F) {a : AV} (hA : KA σ a) {x : Int32} (hx : imO F x = false) : CT l G yy_V_beginCall rm_V_beginCall [.ref (0), .int (x)] σ (some (.int (1))) (σ) := by
  intro Post hp0
  have hp := hp0
  show PX l G yy_V_beginCall rm_V_beginCall _ false 742 0 0 0 [(0, .ref (0)), (1, .int (x))] [] σ
  have kP := kd_P hq
  refine px_aload_n dx_V_beginCall_0 rfl ?_
  refine px_getR (r := q) dx_V_beginCall_1 fl_V_33 rfl (by decide) rfl hPQ ?_
  refine px_iload_n dx_V_beginCall_4 rfl ?_
  refine px_cV (Y := yy_V_beginCall) (Yc := yy_Pg_methodAt) (b := q) (As := [.int (x)]) dx_V_beginCall_5 ml_V_63 mv_Pg_methodAt np_Pg_methodAt ⟨_, rfl⟩ (by decide) kP.1 (by omega) rfl (Nat.le_of_ble_eq_true rfl) (Nat.le_of_ble_eq_true rfl) rk_V_beginCall_Pg_methodAt rfl (k_methodAt_f hq hR hW.1 hCP.1 hx) zz_0 ?_
  refine px_astore_nN (lv' := [(2, .null), (0, .ref (0)), (1, .int (x))]) dx_V_beginCall_8 (by decide) rfl ?_
  refine px_aload_nN dx_V_beginCall_9 rfl ?_
  refine px_ifnullN dx_V_beginCall_10 ?_
  refine px_iconst (v := 1) dx_V_beginCall_24 rfl ?_
  exact px_iret dx_V_beginCall_25 rfl (by exact hp)
set_option maxRecDepth 100000 in
set_option maxHeartbeats 1000000 in
theorem k_bc_s {l : Launch} {G : fr_G} {σ : fr_S} {q : Nat} (hq : PB q) (hPQ : gR σ 0 3 = some q) (hR : RF σ) {F : Nat → Nat → Nat} (hW : FW F) (hCP : CP σ q F) {a : AV} (hA : KA σ a) {m : Nat} (hm : m < F 0 0) (hs : suO F a m = false) : CT l G yy_V_beginCall rm_V_beginCall [.ref (0), .int (nI (m))] σ (some (.int (1))) (σ) := by
  intro Post hp0
  have hp := hp0
  show PX l G yy_V_beginCall rm_V_beginCall _ false 742 0 0 0 [(0, .ref (0)), (1, .int (nI (m)))] [] σ
  have kP := kd_P hq
  have h04 := hW.1
  have hm4 : m < 4 := by omega
  have hE := ME.m hq hm4
  have kM := kd_M hE
  refine px_aload_n dx_V_beginCall_0 rfl ?_
  refine px_getR (r := q) dx_V_beginCall_1 fl_V_33 rfl (by decide) rfl hPQ ?_
  refine px_iload_n dx_V_beginCall_4 rfl ?_
  refine px_cV (Y := yy_V_beginCall) (Yc := yy_Pg_methodAt) (b := q) (As := [.int (nI (m))]) dx_V_beginCall_5 ml_V_63 mv_Pg_methodAt np_Pg_methodAt ⟨_, rfl⟩ (by decide) kP.1 (by omega) rfl (Nat.le_of_ble_eq_true rfl) (Nat.le_of_ble_eq_true rfl) rk_V_beginCall_Pg_methodAt rfl (k_methodAt_t hq hR hW.1 hCP.1 hm) zz_0 ?_
  refine px_astore_n (lv' := [(2, .ref (q + 5 + 85 * m)), (0, .ref (0)), (1, .int (nI (m)))]) dx_V_beginCall_8 (by decide) rfl ?_
  refine px_aload_n dx_V_beginCall_9 rfl ?_
  refine px_ifnull dx_V_beginCall_10 ?_
  refine px_aload_n dx_V_beginCall_13 rfl ?_
  refine px_getR (r := 3) dx_V_beginCall_14 fl_V_19 rfl (by decide) rfl hR.1.2.1 ?_
  refine px_aload_n dx_V_beginCall_17 rfl ?_
  refine px_cV (Y := yy_V_beginCall) (Yc := yy_Ag_suit) (b := 3) (As := [.ref (q + 5 + 85 * m)]) dx_V_beginCall_18 ml_V_161 mv_Ag_suit np_Ag_suit ⟨_, rfl⟩ (by decide) rfl (by decide) rfl (Nat.le_of_ble_eq_true rfl) (Nat.le_of_ble_eq_true rfl) rk_V_beginCall_Ag_suit rfl (k_suit hE hR hW (hCP.2.2 m hm4) hA) zz_0 ?_
  refine px_if_neB dx_V_beginCall_21 (fun c_21 => ?_) (fun c_21 => ?_)
  · exact absurd (c_21.symm.trans hs) (by decide)
  · refine px_iconst (v := 1) dx_V_beginCall_24 rfl ?_
    exact px_iret dx_V_beginCall_25 rfl (by exact hp)
set_option maxRecDepth 100000 in
set_option maxHeartbeats 1000000 in
theorem k_bc_u {l : Launch} {G : fr_G} {σ : fr_S} {q : Nat} (hq : PB q) (hPQ : gR σ 0 3 = some q) (hR : RF σ) {F : Nat → Nat → Nat} (hW : FW F) (hCP : CP σ q F) {a : AV} (hA : KA σ a) {m : Nat} (hm : m < F 0 0) (hs : suO F a m = true) (hfit : gI σ q 5 = b2i (!ufO F (F 0 0))) (hu : ufO F (F 0 0) = true) : CT l G yy_V_beginCall rm_V_beginCall [.ref (0), .int (nI (m))] σ (some (.int (2))) (σ) := by
  intro Post hp0
  have hp := hp0
  show PX l G yy_V_beginCall rm_V_beginCall _ false 742 0 0 0 [(0, .ref (0)), (1, .int (nI (m)))] [] σ
  have kP := kd_P hq
  have h04 := hW.1
  have hm4 : m < 4 := by omega
  have hE := ME.m hq hm4
  have kM := kd_M hE
  refine px_aload_n dx_V_beginCall_0 rfl ?_
  refine px_getR (r := q) dx_V_beginCall_1 fl_V_33 rfl (by decide) rfl hPQ ?_
  refine px_iload_n dx_V_beginCall_4 rfl ?_
  refine px_cV (Y := yy_V_beginCall) (Yc := yy_Pg_methodAt) (b := q) (As := [.int (nI (m))]) dx_V_beginCall_5 ml_V_63 mv_Pg_methodAt np_Pg_methodAt ⟨_, rfl⟩ (by decide) kP.1 (by omega) rfl (Nat.le_of_ble_eq_true rfl) (Nat.le_of_ble_eq_true rfl) rk_V_beginCall_Pg_methodAt rfl (k_methodAt_t hq hR hW.1 hCP.1 hm) zz_0 ?_
  refine px_astore_n (lv' := [(2, .ref (q + 5 + 85 * m)), (0, .ref (0)), (1, .int (nI (m)))]) dx_V_beginCall_8 (by decide) rfl ?_
  refine px_aload_n dx_V_beginCall_9 rfl ?_
  refine px_ifnull dx_V_beginCall_10 ?_
  refine px_aload_n dx_V_beginCall_13 rfl ?_
  refine px_getR (r := 3) dx_V_beginCall_14 fl_V_19 rfl (by decide) rfl hR.1.2.1 ?_
  refine px_aload_n dx_V_beginCall_17 rfl ?_
  refine px_cV (Y := yy_V_beginCall) (Yc := yy_Ag_suit) (b := 3) (As := [.ref (q + 5 + 85 * m)]) dx_V_beginCall_18 ml_V_161 mv_Ag_suit np_Ag_suit ⟨_, rfl⟩ (by decide) rfl (by decide) rfl (Nat.le_of_ble_eq_true rfl) (Nat.le_of_ble_eq_true rfl) rk_V_beginCall_Ag_suit rfl (k_suit hE hR hW (hCP.2.2 m hm4) hA) zz_0 ?_
  refine px_if_neB dx_V_beginCall_21 (fun c_21 => ?_) (fun c_21 => ?_)
  · refine px_aload_n dx_V_beginCall_26 rfl ?_
    refine px_getR (r := q) dx_V_beginCall_27 fl_V_33 rfl (by decide) rfl hPQ ?_
    refine px_getI dx_V_beginCall_30 fl_V_165 kP.1 (by omega) rfl ?_
    refine px_eqi (y := b2i (!ufO F (F 0 0))) hfit ?_
    refine px_if_neB dx_V_beginCall_33 (fun c_33 => ?_) (fun c_33 => ?_)
    · (rw [hu] at c_33); exact absurd c_33 (by decide)
    · refine px_iconst (v := 2) dx_V_beginCall_36 rfl ?_
      exact px_iret dx_V_beginCall_37 rfl (by exact hp)
  · exact absurd (c_21.symm.trans hs) (by decide)
set_option maxRecDepth 100000 in
set_option maxHeartbeats 1000000 in
theorem k_bc_m {l : Launch} {G : fr_G} {σ : fr_S} {q : Nat} (hq : PB q) (hPQ : gR σ 0 3 = some q) (hR : RF σ) {F : Nat → Nat → Nat} (hW : FW F) (hCP : CP σ q F) {a : AV} (hA : KA σ a) {m : Nat} (hm : m < F 0 0) (hs : suO F a m = true) (hfit : gI σ q 5 = b2i (!ufO F (F 0 0))) (hu : ufO F (F 0 0) = false) (hQ : pwF F m ≤ F 5 m) {B : VM} (hX : CX σ q B) : CR l G yy_V_beginCall rm_V_beginCall [.ref (0), .int (nI (m))] σ (fun r0 σ' => r0 = some (.int 0) ∧ KS q σ σ' ∧ CX σ' q (bgB F a m B)) := by
  intro Post hp0
  show PX l G yy_V_beginCall rm_V_beginCall _ false 742 0 0 0 [(0, .ref (0)), (1, .int (nI (m)))] [] σ
  have kP := kd_P hq
  have h04 := hW.1
  have hm4 : m < 4 := by omega
  have hE := ME.m hq hm4
  have kM := kd_M hE
  refine px_aload_n dx_V_beginCall_0 rfl ?_
  refine px_getR (r := q) dx_V_beginCall_1 fl_V_33 rfl (by decide) rfl hPQ ?_
  refine px_iload_n dx_V_beginCall_4 rfl ?_
  refine px_cV (Y := yy_V_beginCall) (Yc := yy_Pg_methodAt) (b := q) (As := [.int (nI (m))]) dx_V_beginCall_5 ml_V_63 mv_Pg_methodAt np_Pg_methodAt ⟨_, rfl⟩ (by decide) kP.1 (by omega) rfl (Nat.le_of_ble_eq_true rfl) (Nat.le_of_ble_eq_true rfl) rk_V_beginCall_Pg_methodAt rfl (k_methodAt_t hq hR hW.1 hCP.1 hm) zz_0 ?_
  refine px_astore_n (lv' := [(2, .ref (q + 5 + 85 * m)), (0, .ref (0)), (1, .int (nI (m)))]) dx_V_beginCall_8 (by decide) rfl ?_
  refine px_aload_n dx_V_beginCall_9 rfl ?_
  refine px_ifnull dx_V_beginCall_10 ?_
  refine px_aload_n dx_V_beginCall_13 rfl ?_
  refine px_getR (r := 3) dx_V_beginCall_14 fl_V_19 rfl (by decide) rfl hR.1.2.1 ?_
  refine px_aload_n dx_V_beginCall_17 rfl ?_
  refine px_cV (Y := yy_V_beginCall) (Yc := yy_Ag_suit) (b := 3) (As := [.ref (q + 5 + 85 * m)]) dx_V_beginCall_18 ml_V_161 mv_Ag_suit np_Ag_suit ⟨_, rfl⟩ (by decide) rfl (by decide) rfl (Nat.le_of_ble_eq_true rfl) (Nat.le_of_ble_eq_true rfl) rk_V_beginCall_Ag_suit rfl (k_suit hE hR hW (hCP.2.2 m hm4) hA) zz_0 ?_
  refine px_if_neB dx_V_beginCall_21 (fun c_21 => ?_) (fun c_21 => ?_)
  · refine px_aload_n dx_V_beginCall_26 rfl ?_
    refine px_getR (r := q) dx_V_beginCall_27 fl_V_33 rfl (by decide) rfl hPQ ?_
    refine px_getI dx_V_beginCall_30 fl_V_165 kP.1 (by omega) rfl ?_
    refine px_eqi (y := b2i (!ufO F (F 0 0))) hfit ?_
    refine px_if_neB dx_V_beginCall_33 (fun c_33 => ?_) (fun c_33 => ?_)
    · refine px_aload_n dx_V_beginCall_38 rfl ?_
      refine px_getR (r := 7) dx_V_beginCall_39 fl_V_26 rfl (by decide) rfl hR.1.2.2.1 ?_
      refine px_aload_n dx_V_beginCall_42 rfl ?_
      refine px_aload_n dx_V_beginCall_43 rfl ?_
      refine px_getR (r := 3) dx_V_beginCall_44 fl_V_19 rfl (by decide) rfl hR.1.2.1 ?_
      refine px_cVR (Y := yy_V_beginCall) (Yc := yy_Mc_begin) (b := 7) (As := [.ref (q + 5 + 85 * m), .ref (3)]) dx_V_beginCall_47 ml_V_169 mv_Mc_begin np_Mc_begin ⟨_, rfl⟩ (by decide) rfl (by decide) rfl (Nat.le_of_ble_eq_true rfl) (Nat.le_of_ble_eq_true rfl) rk_V_beginCall_Mc_begin rfl (k_beginM hq hR hW hm hCP hA hQ (suO_t hs).1 (suO_t hs).2 hX) zz_0 (fun r_47 τ1 h_47 => ?_)
      obtain ⟨rfl, hK, hX1⟩ := h_47
      refine px_iconst (v := 0) dx_V_beginCall_50 rfl ?_
      exact px_iret dx_V_beginCall_51 rfl (by exact hp0 _ _ ⟨rfl, hK, hX1⟩)
    · (rw [hu] at c_33); exact absurd c_33 (by decide)
  · exact absurd (c_21.symm.trans hs) (by decide)
set_option maxRecDepth 100000 in
set_option maxHeartbeats 1000000 in
theorem k_unitOf_m {l : Launch} {G : fr_G} {σ : fr_S} {q : Nat} {B : VM} (hX : CX σ q B) (hb : B.1 0 0 ≤ 3 ∧ B.1 1 0 ≤ 6 ∧ B.1 4 0 ≤ 8) (hR : RF σ) {j : Nat} (h1 : B.1 0 0 = 1) (hj : j < B.1 1 0) : CT l G yy_Mc_unitOf rm_Mc_unitOf [.ref (7), .int (nI (j))] σ (some (.int (nI (B.1 3 (B.1 1 0 - 1 - j))))) (σ) := by
  intro Post hp0
  have hp := hp0
  show PX l G yy_Mc_unitOf rm_Mc_unitOf _ false 742 0 0 0 [(0, .ref (7)), (1, .int (nI (j)))] [] σ
  have kF := kd_F (FE.f (i := B.1 1 0 - 1 - j) (by omega))
  refine px_aload_n dx_Mc_unitOf_0 rfl ?_
  refine px_getI dx_Mc_unitOf_1 fl_Mc_21 rfl (by decide) rfl ?_
  refine px_eqi (y := nI (B.1 0 0)) hX.1 ?_
  refine px_iconst (v := 1) dx_Mc_unitOf_4 rfl ?_
  refine px_icmp_neN (a := B.1 0 0) (b := 1) dx_Mc_unitOf_5 (by omega) (by omega) (fun c_5 => ?_) (fun c_5 => ?_)
  · exfalso; omega
  · refine px_iload_n dx_Mc_unitOf_8 rfl ?_
    refine px_if_ltN (a := j) dx_Mc_unitOf_9 (by omega) (fun c_9 => ?_) (fun c_9 => ?_)
    · exfalso; omega
    · refine px_iload_n dx_Mc_unitOf_12 rfl ?_
      refine px_aload_n dx_Mc_unitOf_13 rfl ?_
      refine px_getI dx_Mc_unitOf_14 fl_Mc_17 rfl (by decide) rfl ?_
      refine px_eqi (y := nI (B.1 1 0)) hX.2.1 ?_
      refine px_icmp_geN (a := j) (b := B.1 1 0) dx_Mc_unitOf_17 (by omega) (by omega) (fun c_17 => ?_) (fun c_17 => ?_)
      · exfalso; omega
      · refine px_aload_n dx_Mc_unitOf_20 rfl ?_
        refine px_aload_n dx_Mc_unitOf_21 rfl ?_
        refine px_getI dx_Mc_unitOf_22 fl_Mc_17 rfl (by decide) rfl ?_
        refine px_eqi (y := nI (B.1 1 0)) hX.2.1 ?_
        refine px_iconst (v := 1) dx_Mc_unitOf_25 rfl ?_
        refine px_isubN (a := B.1 1 0) (b := 1) dx_Mc_unitOf_26 (by omega) ?_
        refine px_iload_n dx_Mc_unitOf_27 rfl ?_
        refine px_isubN (a := (B.1 1 0) - 1) (b := j) dx_Mc_unitOf_28 (by omega) ?_
        refine px_cV (Y := yy_Mc_unitOf) (Yc := yy_Mc_frameAt) (b := 7) (As := [.int (nI (((B.1 1 0) - 1) - j))]) dx_Mc_unitOf_29 ml_Mc_53 mv_Mc_frameAt np_Mc_frameAt ⟨_, rfl⟩ (by decide) rfl (by decide) rfl (Nat.le_of_ble_eq_true rfl) (Nat.le_of_ble_eq_true rfl) rk_Mc_unitOf_Mc_frameAt rfl (k_frameAt (i := B.1 1 0 - 1 - j) hR (by omega)) zz_0 ?_
        refine px_goto dx_Mc_unitOf_32 ?_
        refine px_astore_n (lv' := [(2, .ref (9 + 3 * (B.1 1 0 - 1 - j))), (0, .ref (7)), (1, .int (nI (j)))]) dx_Mc_unitOf_36 (by decide) rfl ?_
        refine px_aload_n dx_Mc_unitOf_37 rfl ?_
        refine px_ifnonnull dx_Mc_unitOf_38 ?_
        refine px_aload_n dx_Mc_unitOf_45 rfl ?_
        refine px_getI dx_Mc_unitOf_46 fl_Mc_57 kF.1 (by omega) rfl ?_
        refine px_eqi (y := nI (B.1 3 (B.1 1 0 - 1 - j))) (hX.2.2.2.2.2.2.1 _ (by omega)) ?_
        exact px_iret dx_Mc_unitOf_49 rfl (by exact hp)
set_option maxRecDepth 100000 in
set_option maxHeartbeats 1000000 in
theorem k_unitOf_n {l : Launch} {G : fr_G} {σ : fr_S} {q : Nat} {B : VM} (hX : CX σ q B) (hb : B.1 0 0 ≤ 3 ∧ B.1 1 0 ≤ 6 ∧ B.1 4 0 ≤ 8) (hR : RF σ) {x : Int32} (hx : ¬ B.1 0 0 = 1 ∨ x < 0 ∨ ¬ x < nI (B.1 1 0)) : CT l G yy_Mc_unitOf rm_Mc_unitOf [.ref (7), .int (x)] σ (some (.int (-1))) (σ) := by
  intro Post hp0
  have hp := hp0
  show PX l G yy_Mc_unitOf rm_Mc_unitOf _ false 742 0 0 0 [(0, .ref (7)), (1, .int (x))] [] σ
  refine px_aload_n dx_Mc_unitOf_0 rfl ?_
  refine px_getI dx_Mc_unitOf_1 fl_Mc_21 rfl (by decide) rfl ?_
  refine px_eqi (y := nI (B.1 0 0)) hX.1 ?_
  refine px_iconst (v := 1) dx_Mc_unitOf_4 rfl ?_
  refine px_icmp_neN (a := B.1 0 0) (b := 1) dx_Mc_unitOf_5 (by omega) (by omega) (fun c_5 => ?_) (fun c_5 => ?_)
  · refine px_null dx_Mc_unitOf_35 ?_
    refine px_astore_nN (lv' := [(2, .null), (0, .ref (7)), (1, .int (x))]) dx_Mc_unitOf_36 (by decide) rfl ?_
    refine px_aload_nN dx_Mc_unitOf_37 rfl ?_
    refine px_ifnonnullN dx_Mc_unitOf_38 ?_
    refine px_iconst (v := -1) dx_Mc_unitOf_41 rfl ?_
    refine px_goto dx_Mc_unitOf_42 ?_
    exact px_iret dx_Mc_unitOf_49 rfl (by exact hp)
  · refine px_iload_n dx_Mc_unitOf_8 rfl ?_
    refine px_if_lt dx_Mc_unitOf_9 (fun c_9 => ?_) (fun c_9 => ?_)
    · refine px_null dx_Mc_unitOf_35 ?_
      refine px_astore_nN (lv' := [(2, .null), (0, .ref (7)), (1, .int (x))]) dx_Mc_unitOf_36 (by decide) rfl ?_
      refine px_aload_nN dx_Mc_unitOf_37 rfl ?_
      refine px_ifnonnullN dx_Mc_unitOf_38 ?_
      refine px_iconst (v := -1) dx_Mc_unitOf_41 rfl ?_
      refine px_goto dx_Mc_unitOf_42 ?_
      exact px_iret dx_Mc_unitOf_49 rfl (by exact hp)
    · refine px_iload_n dx_Mc_unitOf_12 rfl ?_
      refine px_aload_n dx_Mc_unitOf_13 rfl ?_
      refine px_getI dx_Mc_unitOf_14 fl_Mc_17 rfl (by decide) rfl ?_
      refine px_eqi (y := nI (B.1 1 0)) hX.2.1 ?_
      refine px_icmp_ge dx_Mc_unitOf_17 (fun c_17 => ?_) (fun c_17 => ?_)
      · refine px_null dx_Mc_unitOf_35 ?_
        refine px_astore_nN (lv' := [(2, .null), (0, .ref (7)), (1, .int (x))]) dx_Mc_unitOf_36 (by decide) rfl ?_
        refine px_aload_nN dx_Mc_unitOf_37 rfl ?_
        refine px_ifnonnullN dx_Mc_unitOf_38 ?_
        refine px_iconst (v := -1) dx_Mc_unitOf_41 rfl ?_
        refine px_goto dx_Mc_unitOf_42 ?_
        exact px_iret dx_Mc_unitOf_49 rfl (by exact hp)
      · exfalso; rcases hx with hx | hx | hx; exact hx (by omega); exact c_9 hx; exact hx (by first | exact c_17 | exact Int32.not_le.mp c_17)
set_option maxRecDepth 100000 in
set_option maxHeartbeats 1000000 in
theorem k_at_m {l : Launch} {G : fr_G} {σ : fr_S} {q : Nat} {B : VM} (hX : CX σ q B) (hb : B.1 0 0 ≤ 3 ∧ B.1 1 0 ≤ 6 ∧ B.1 4 0 ≤ 8) (hR : RF σ) {j : Nat} (h1 : B.1 0 0 = 1) (hj : j < B.1 1 0) : CT l G yy_V_at rm_V_at [.ref (0), .int (nI (j))] σ (some (.int (nI (B.1 3 (B.1 1 0 - 1 - j))))) (σ) := by
  intro Post hp0
  have hp := hp0
  show PX l G yy_V_at rm_V_at _ false 742 0 0 0 [(0, .ref (0)), (1, .int (nI (j)))] [] σ
  refine px_aload_n dx_V_at_0 rfl ?_
  refine px_getR (r := 7) dx_V_at_1 fl_V_26 rfl (by decide) rfl hR.1.2.2.1 ?_
  refine px_iload_n dx_V_at_4 rfl ?_
  refine px_cV (Y := yy_V_at) (Yc := yy_Mc_unitOf) (b := 7) (As := [.int (nI (j))]) dx_V_at_5 ml_V_139 mv_Mc_unitOf np_Mc_unitOf ⟨_, rfl⟩ (by decide) rfl (by decide) rfl (Nat.le_of_ble_eq_true rfl) (Nat.le_of_ble_eq_true rfl) rk_V_at_Mc_unitOf rfl (k_unitOf_m hX hb hR h1 hj) zz_0 ?_
  exact px_iret dx_V_at_8 rfl (by exact hp)
set_option maxRecDepth 100000 in
set_option maxHeartbeats 1000000 in
theorem k_at_n {l : Launch} {G : fr_G} {σ : fr_S} {q : Nat} {B : VM} (hX : CX σ q B) (hb : B.1 0 0 ≤ 3 ∧ B.1 1 0 ≤ 6 ∧ B.1 4 0 ≤ 8) (hR : RF σ) {x : Int32} (hx : ¬ B.1 0 0 = 1 ∨ x < 0 ∨ ¬ x < nI (B.1 1 0)) : CT l G yy_V_at rm_V_at [.ref (0), .int (x)] σ (some (.int (-1))) (σ) := by
  intro Post hp0
  have hp := hp0
  show PX l G yy_V_at rm_V_at _ false 742 0 0 0 [(0, .ref (0)), (1, .int (x))] [] σ
  refine px_aload_n dx_V_at_0 rfl ?_
  refine px_getR (r := 7) dx_V_at_1 fl_V_26 rfl (by decide) rfl hR.1.2.2.1 ?_
  refine px_iload_n dx_V_at_4 rfl ?_
  refine px_cV (Y := yy_V_at) (Yc := yy_Mc_unitOf) (b := 7) (As := [.int (x)]) dx_V_at_5 ml_V_139 mv_Mc_unitOf np_Mc_unitOf ⟨_, rfl⟩ (by decide) rfl (by decide) rfl (Nat.le_of_ble_eq_true rfl) (Nat.le_of_ble_eq_true rfl) rk_V_at_Mc_unitOf rfl (k_unitOf_n hX hb hR hx) zz_0 ?_
  exact px_iret dx_V_at_8 rfl (by exact hp)
