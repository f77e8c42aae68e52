/-! the class: its plain methods -/
def rtB (B : VM) : Nat := if B.1 0 0 = 2 then B.1 4 0 else 0
def whB (B : VM) : Int64 := if rtB B = 1 ∨ rtB B = 3 then B.2.1 60 else 0
def vlB (B : VM) : Int64 := if rtB B = 2 ∨ rtB B = 5 then FP.d2l (B.2.2.1 60) else whB B
def rlB (B : VM) : UInt64 := if rtB B = 2 ∨ rtB B = 5 then B.2.2.1 60 else FP.l2d (whB B)

set_option maxRecDepth 100000 in
set_option maxHeartbeats 1000000 in
theorem k_returnedType {l : Launch} {G : fr_G} {σ : fr_S} {q : Nat} {B : VM} (hX : CX σ q B) (hb : B.1 0 0 ≤ 3 ∧ B.1 1 0 ≤ 6 ∧ B.1 4 0 ≤ 8) : CT l G yy_Mc_returnedType rm_Mc_returnedType [.ref (7)] σ (some (.int (nI (rtB B)))) (σ) := by
  intro Post hp0
  have hp := hp0
  show PX l G yy_Mc_returnedType rm_Mc_returnedType _ false 742 0 0 0 [(0, .ref (7))] [] σ
  refine px_aload_n dx_Mc_returnedType_0 rfl ?_
  refine px_getI dx_Mc_returnedType_1 fl_Mc_21 rfl (by decide) rfl ?_
  refine px_eqi (y := nI (B.1 0 0)) hX.1 ?_
  refine px_iconst (v := 2) dx_Mc_returnedType_4 rfl ?_
  refine px_icmp_neN (a := B.1 0 0) (b := 2) dx_Mc_returnedType_5 (by omega) (by omega) (fun c_5 => ?_) (fun c_5 => ?_)
  · refine px_iconst (v := 0) dx_Mc_returnedType_15 rfl ?_
    exact px_iret dx_Mc_returnedType_16 rfl (by (have e : rtB B = 0 := by (unfold rtB; rw [if_neg (show ¬ B.1 0 0 = 2 by omega)])); rw [e] at hp; exact hp)
  · refine px_aload_n dx_Mc_returnedType_8 rfl ?_
    refine px_getI dx_Mc_returnedType_9 fl_Mc_27 rfl (by decide) rfl ?_
    refine px_eqi (y := nI (B.1 4 0)) hX.2.2.2.1 ?_
    refine px_goto dx_Mc_returnedType_12 ?_
    exact px_iret dx_Mc_returnedType_16 rfl (by (have e : rtB B = B.1 4 0 := by (unfold rtB; rw [if_pos (show B.1 0 0 = 2 by omega)])); rw [e] at hp; exact hp)
theorem rtB_le {B : VM} (hb : B.1 0 0 ≤ 3 ∧ B.1 1 0 ≤ 6 ∧ B.1 4 0 ≤ 8) : rtB B ≤ 8 := by
  unfold rtB
  split <;> omega

set_option maxRecDepth 100000 in
set_option maxHeartbeats 1000000 in
theorem k_wholeResult {l : Launch} {G : fr_G} {σ : fr_S} {q : Nat} {B : VM} (hX : CX σ q B) (hb : B.1 0 0 ≤ 3 ∧ B.1 1 0 ≤ 6 ∧ B.1 4 0 ≤ 8) : CT l G yy_Mc_wholeResult rm_Mc_wholeResult [.ref (7)] σ (some (.long (whB B))) (σ) := by
  intro Post hp0
  have hp := hp0
  show PX l G yy_Mc_wholeResult rm_Mc_wholeResult _ false 742 0 0 0 [(0, .ref (7))] [] σ
  have hrt := rtB_le hb
  refine px_aload_n dx_Mc_wholeResult_0 rfl ?_
  refine px_cV (Y := yy_Mc_wholeResult) (Yc := yy_Mc_returnedType) (b := 7) (As := []) dx_Mc_wholeResult_1 ml_Mc_49 mv_Mc_returnedType np_Mc_returnedType ⟨_, rfl⟩ (by decide) rfl (by decide) rfl (Nat.le_of_ble_eq_true rfl) (Nat.le_of_ble_eq_true rfl) rk_Mc_wholeResult_Mc_returnedType rfl (k_returnedType hX hb) zz_0 ?_
  refine px_istore_n (lv' := [(1, .int (nI (rtB B))), (0, .ref (7))]) dx_Mc_wholeResult_4 (by decide) rfl ?_
  refine px_iload_n dx_Mc_wholeResult_5 rfl ?_
  refine px_iconst (v := 1) dx_Mc_wholeResult_6 rfl ?_
  refine px_icmp_eqN (a := rtB B) (b := 1) dx_Mc_wholeResult_7 (by omega) (by omega) (fun c_7 => ?_) (fun c_7 => ?_)
  · refine px_aload_n dx_Mc_wholeResult_15 rfl ?_
    refine px_getL dx_Mc_wholeResult_16 fl_Mc_30 rfl (by decide) rfl ?_
    refine px_eql (y := B.2.1 60) hX.2.2.2.2.1 ?_
    refine px_goto dx_Mc_wholeResult_19 ?_
    exact px_lret dx_Mc_wholeResult_23 rfl (by (have e : whB B = B.2.1 60 := by (unfold whB; rw [if_pos (show (rtB B = 1 ∨ rtB B = 3) by omega)])); rw [e] at hp; exact hp)
  · refine px_iload_n dx_Mc_wholeResult_10 rfl ?_
    refine px_iconst (v := 3) dx_Mc_wholeResult_11 rfl ?_
    refine px_icmp_neN (a := rtB B) (b := 3) dx_Mc_wholeResult_12 (by omega) (by omega) (fun c_12 => ?_) (fun c_12 => ?_)
    · refine px_lconst (v := 0) dx_Mc_wholeResult_22 rfl ?_
      exact px_lret dx_Mc_wholeResult_23 rfl (by (have e : whB B = 0 := by (unfold whB; rw [if_neg (show ¬ (rtB B = 1 ∨ rtB B = 3) by omega)])); rw [e] at hp; exact hp)
    · refine px_aload_n dx_Mc_wholeResult_15 rfl ?_
      refine px_getL dx_Mc_wholeResult_16 fl_Mc_30 rfl (by decide) rfl ?_
      refine px_eql (y := B.2.1 60) hX.2.2.2.2.1 ?_
      refine px_goto dx_Mc_wholeResult_19 ?_
      exact px_lret dx_Mc_wholeResult_23 rfl (by (have e : whB B = B.2.1 60 := by (unfold whB; rw [if_pos (show (rtB B = 1 ∨ rtB B = 3) by omega)])); rw [e] at hp; exact hp)
set_option maxRecDepth 100000 in
set_option maxHeartbeats 1000000 in
theorem k_value {l : Launch} {G : fr_G} {σ : fr_S} (hR : RF σ) {q : Nat} {B : VM} (hX : CX σ q B) (hb : B.1 0 0 ≤ 3 ∧ B.1 1 0 ≤ 6 ∧ B.1 4 0 ≤ 8) : CT l G yy_V_value rm_V_value [.ref (0)] σ (some (.long (vlB B))) (σ) := by
  intro Post hp0
  have hp := hp0
  show PX l G yy_V_value rm_V_value _ false 742 0 0 0 [(0, .ref (0))] [] σ
  have hrt := rtB_le hb
  refine px_aload_n dx_V_value_0 rfl ?_
  refine px_getR (r := 7) dx_V_value_1 fl_V_26 rfl (by decide) rfl hR.1.2.2.1 ?_
  refine px_cV (Y := yy_V_value) (Yc := yy_Mc_returnedType) (b := 7) (As := []) dx_V_value_4 ml_V_122 mv_Mc_returnedType np_Mc_returnedType ⟨_, rfl⟩ (by decide) rfl (by decide) rfl (Nat.le_of_ble_eq_true rfl) (Nat.le_of_ble_eq_true rfl) rk_V_value_Mc_returnedType rfl (k_returnedType hX hb) zz_0 ?_
  refine px_cS (Y := yy_V_value) (Yc := yy_V_isReal) (As := [.int (nI (rtB B))]) dx_V_value_7 ml_V_125 ms_V_isReal np_V_isReal rfl (Nat.le_of_ble_eq_true rfl) (Nat.le_of_ble_eq_true rfl) rk_V_value_V_isReal rfl (k_isReal (x := rtB B) (by omega)) zz_0 ?_
  refine px_if_eqB dx_V_value_10 (fun c_10 => ?_) (fun c_10 => ?_)
  · refine px_aload_n dx_V_value_24 rfl ?_
    refine px_getR (r := 7) dx_V_value_25 fl_V_26 rfl (by decide) rfl hR.1.2.2.1 ?_
    refine px_cV (Y := yy_V_value) (Yc := yy_Mc_wholeResult) (b := 7) (As := []) dx_V_value_28 ml_V_132 mv_Mc_wholeResult np_Mc_wholeResult ⟨_, rfl⟩ (by decide) rfl (by decide) rfl (Nat.le_of_ble_eq_true rfl) (Nat.le_of_ble_eq_true rfl) rk_V_value_Mc_wholeResult rfl (k_wholeResult hX hb) zz_0 ?_
    exact px_lret dx_V_value_31 rfl (by (have e : vlB B = whB B := by (unfold vlB; rw [if_neg (by simpa using c_10)])); rw [e] at hp; exact hp)
  · refine px_aload_n dx_V_value_13 rfl ?_
    refine px_getR (r := 7) dx_V_value_14 fl_V_26 rfl (by decide) rfl hR.1.2.2.1 ?_
    refine px_getD dx_V_value_17 fl_V_128 rfl (by decide) rfl ?_
    refine px_eqd (y := B.2.2.1 60) hX.2.2.2.2.2.1 ?_
    refine px_d2l dx_V_value_20 ?_
    refine px_goto dx_V_value_21 ?_
    exact px_lret dx_V_value_31 rfl (by (have e : vlB B = FP.d2l (B.2.2.1 60) := by (unfold vlB; rw [if_pos (by simpa using c_10)])); rw [e] at hp; exact hp)
set_option maxRecDepth 100000 in
set_option maxHeartbeats 1000000 in
theorem k_realV {l : Launch} {G : fr_G} {σ : fr_S} (hR : RF σ) {q : Nat} {B : VM} (hX : CX σ q B) (hb : B.1 0 0 ≤ 3 ∧ B.1 1 0 ≤ 6 ∧ B.1 4 0 ≤ 8) : CT l G yy_V_real rm_V_real [.ref (0)] σ (some (.double (rlB B))) (σ) := by
  intro Post hp0
  have hp := hp0
  show PX l G yy_V_real rm_V_real _ false 742 0 0 0 [(0, .ref (0))] [] σ
  have hrt := rtB_le hb
  refine px_aload_n dx_V_real_0 rfl ?_
  refine px_getR (r := 7) dx_V_real_1 fl_V_26 rfl (by decide) rfl hR.1.2.2.1 ?_
  refine px_cV (Y := yy_V_real) (Yc := yy_Mc_returnedType) (b := 7) (As := []) dx_V_real_4 ml_V_122 mv_Mc_returnedType np_Mc_returnedType ⟨_, rfl⟩ (by decide) rfl (by decide) rfl (Nat.le_of_ble_eq_true rfl) (Nat.le_of_ble_eq_true rfl) rk_V_real_Mc_returnedType rfl (k_returnedType hX hb) zz_0 ?_
  refine px_cS (Y := yy_V_real) (Yc := yy_V_isReal) (As := [.int (nI (rtB B))]) dx_V_real_7 ml_V_125 ms_V_isReal np_V_isReal rfl (Nat.le_of_ble_eq_true rfl) (Nat.le_of_ble_eq_true rfl) rk_V_real_V_isReal rfl (k_isReal (x := rtB B) (by omega)) zz_0 ?_
  refine px_if_eqB dx_V_real_10 (fun c_10 => ?_) (fun c_10 => ?_)
  · refine px_aload_n dx_V_real_23 rfl ?_
    refine px_getR (r := 7) dx_V_real_24 fl_V_26 rfl (by decide) rfl hR.1.2.2.1 ?_
    refine px_cV (Y := yy_V_real) (Yc := yy_Mc_wholeResult) (b := 7) (As := []) dx_V_real_27 ml_V_132 mv_Mc_wholeResult np_Mc_wholeResult ⟨_, rfl⟩ (by decide) rfl (by decide) rfl (Nat.le_of_ble_eq_true rfl) (Nat.le_of_ble_eq_true rfl) rk_V_real_Mc_wholeResult rfl (k_wholeResult hX hb) zz_0 ?_
    refine px_l2d dx_V_real_30 ?_
    exact px_dret dx_V_real_31 rfl (by (have e : rlB B = FP.l2d (whB B) := by (unfold rlB; rw [if_neg (by simpa using c_10)])); rw [e] at hp; exact hp)
  · refine px_aload_n dx_V_real_13 rfl ?_
    refine px_getR (r := 7) dx_V_real_14 fl_V_26 rfl (by decide) rfl hR.1.2.2.1 ?_
    refine px_getD dx_V_real_17 fl_V_128 rfl (by decide) rfl ?_
    refine px_eqd (y := B.2.2.1 60) hX.2.2.2.2.2.1 ?_
    refine px_goto dx_V_real_20 ?_
    exact px_dret dx_V_real_31 rfl (by (have e : rlB B = B.2.2.1 60 := by (unfold rlB; rw [if_pos (by simpa using c_10)])); rw [e] at hp; exact hp)
set_option maxRecDepth 100000 in
set_option maxHeartbeats 1000000 in
theorem k_state {l : Launch} {G : fr_G} {σ : fr_S} (hR : RF σ) {q : Nat} {B : VM} (hX : CX σ q B) (hb : B.1 0 0 ≤ 3 ∧ B.1 1 0 ≤ 6 ∧ B.1 4 0 ≤ 8) : CT l G yy_V_state rm_V_state [.ref (0)] σ (some (.int (nI (B.1 0 0)))) (σ) := by
  intro Post hp0
  have hp := hp0
  show PX l G yy_V_state rm_V_state _ false 742 0 0 0 [(0, .ref (0))] [] σ
  refine px_aload_n dx_V_state_0 rfl ?_
  refine px_getR (r := 7) dx_V_state_1 fl_V_26 rfl (by decide) rfl hR.1.2.2.1 ?_
  refine px_getI dx_V_state_4 fl_V_100 rfl (by decide) rfl ?_
  refine px_eqi (y := nI (B.1 0 0)) hX.1 ?_
  exact px_iret dx_V_state_7 rfl (by exact hp)
set_option maxRecDepth 100000 in
set_option maxHeartbeats 1000000 in
theorem k_calls {l : Launch} {G : fr_G} {σ : fr_S} (hR : RF σ) {q : Nat} {B : VM} (hX : CX σ q B) (hb : B.1 0 0 ≤ 3 ∧ B.1 1 0 ≤ 6 ∧ B.1 4 0 ≤ 8) : CT l G yy_V_calls rm_V_calls [.ref (0)] σ (some (.int (nI (if B.1 0 0 = 1 then B.1 1 0 else 0)))) (σ) := by
  intro Post hp0
  have hp := hp0
  show PX l G yy_V_calls rm_V_calls _ false 742 0 0 0 [(0, .ref (0))] [] σ
  refine px_aload_n dx_V_calls_0 rfl ?_
  refine px_getR (r := 7) dx_V_calls_1 fl_V_26 rfl (by decide) rfl hR.1.2.2.1 ?_
  refine px_getI dx_V_calls_4 fl_V_100 rfl (by decide) rfl ?_
  refine px_eqi (y := nI (B.1 0 0)) hX.1 ?_
  refine px_iconst (v := 1) dx_V_calls_7 rfl ?_
  refine px_icmp_neN (a := B.1 0 0) (b := 1) dx_V_calls_8 (by omega) (by omega) (fun c_8 => ?_) (fun c_8 => ?_)
  · refine px_iconst (v := 0) dx_V_calls_21 rfl ?_
    exact px_iret dx_V_calls_22 rfl (by (have e : (if B.1 0 0 = 1 then B.1 1 0 else 0) = 0 := if_neg (by omega)); rw [e] at hp; exact hp)
  · refine px_aload_n dx_V_calls_11 rfl ?_
    refine px_getR (r := 7) dx_V_calls_12 fl_V_26 rfl (by decide) rfl hR.1.2.2.1 ?_
    refine px_getI dx_V_calls_15 fl_V_136 rfl (by decide) rfl ?_
    refine px_eqi (y := nI (B.1 1 0)) hX.2.1 ?_
    refine px_goto dx_V_calls_18 ?_
    exact px_iret dx_V_calls_22 rfl (by (have e : (if B.1 0 0 = 1 then B.1 1 0 else 0) = B.1 1 0 := if_pos (by omega)); rw [e] at hp; exact hp)
set_option maxRecDepth 100000 in
set_option maxHeartbeats 1000000 in
theorem k_place {l : Launch} {G : fr_G} {σ : fr_S}  : CT l G yy_V_place rm_V_place [.ref (0)] σ (some (.int (gI σ 0 5))) (σ) := by
  intro Post hp0
  have hp := hp0
  show PX l G yy_V_place rm_V_place _ false 742 0 0 0 [(0, .ref (0))] [] σ
  refine px_aload_n dx_V_place_0 rfl ?_
  refine px_getI dx_V_place_1 fl_V_40 rfl (by decide) rfl ?_
  exact px_iret dx_V_place_4 rfl (by exact hp)
set_option maxRecDepth 100000 in
set_option maxHeartbeats 1000000 in
theorem k_verify_n {l : Launch} {G : fr_G} {σ : fr_S} {q : Nat} (hq : PB q) (hPQ : gR σ 0 3 = some q) (hR : RF σ) {F : Nat → Nat → Nat} (hW : FW F) (hCP : CP σ q F) {x : Int32} (hx : imO F x = false) : CT l G yy_V_verify rm_V_verify [.ref (0), .int (x)] σ (some (.int (-2))) (σ) := by
  intro Post hp0
  have hp := hp0
  show PX l G yy_V_verify rm_V_verify _ false 742 0 0 0 [(0, .ref (0)), (1, .int (x))] [] σ
  have kP := kd_P hq
  refine px_aload_n dx_V_verify_0 rfl ?_
  refine px_getR (r := q) dx_V_verify_1 fl_V_33 rfl (by decide) rfl hPQ ?_
  refine px_iload_n dx_V_verify_4 rfl ?_
  refine px_cV (Y := yy_V_verify) (Yc := yy_Pg_methodAt) (b := q) (As := [.int (x)]) dx_V_verify_5 ml_V_63 mv_Pg_methodAt np_Pg_methodAt ⟨_, rfl⟩ (by decide) kP.1 (by omega) rfl (Nat.le_of_ble_eq_true rfl) (Nat.le_of_ble_eq_true rfl) rk_V_verify_Pg_methodAt rfl (k_methodAt_f hq hR hW.1 hCP.1 hx) zz_0 ?_
  refine px_astore_nN (lv' := [(2, .null), (0, .ref (0)), (1, .int (x))]) dx_V_verify_8 (by decide) rfl ?_
  refine px_aload_nN dx_V_verify_9 rfl ?_
  refine px_ifnonnullN dx_V_verify_10 ?_
  refine px_bipush (v := -2) dx_V_verify_13 rfl ?_
  refine px_goto dx_V_verify_15 ?_
  exact px_iret dx_V_verify_22 rfl (by exact hp)
set_option maxRecDepth 100000 in
set_option maxHeartbeats 1000000 in
theorem k_verify_m {l : Launch} {G : fr_G} {σ : fr_S} {q : Nat} (hq : PB q) (hPQ : gR σ 0 3 = some q) (hR : RF σ) {F : Nat → Nat → Nat} (hW : FW F) (hCP : CP σ q F) {m : Nat} (hm : m < F 0 0) (hJ : MJ σ (q + 5 + 85 * m) F m) : CT l G yy_V_verify rm_V_verify [.ref (0), .int (nI (m))] σ (some (.int (vdM F m))) (σ) := by
  intro Post hp0
  have hp := hp0
  show PX l G yy_V_verify rm_V_verify _ false 742 0 0 0 [(0, .ref (0)), (1, .int (nI (m)))] [] σ
  have kP := kd_P hq
  have h04 := hW.1
  have kM := kd_M (ME.m hq (show m < 4 by omega))
  refine px_aload_n dx_V_verify_0 rfl ?_
  refine px_getR (r := q) dx_V_verify_1 fl_V_33 rfl (by decide) rfl hPQ ?_
  refine px_iload_n dx_V_verify_4 rfl ?_
  refine px_cV (Y := yy_V_verify) (Yc := yy_Pg_methodAt) (b := q) (As := [.int (nI (m))]) dx_V_verify_5 ml_V_63 mv_Pg_methodAt np_Pg_methodAt ⟨_, rfl⟩ (by decide) kP.1 (by omega) rfl (Nat.le_of_ble_eq_true rfl) (Nat.le_of_ble_eq_true rfl) rk_V_verify_Pg_methodAt rfl (k_methodAt_t hq hR hW.1 hCP.1 hm) zz_0 ?_
  refine px_astore_n (lv' := [(2, .ref (q + 5 + 85 * m)), (0, .ref (0)), (1, .int (nI (m)))]) dx_V_verify_8 (by decide) rfl ?_
  refine px_aload_n dx_V_verify_9 rfl ?_
  refine px_ifnonnull dx_V_verify_10 ?_
  refine px_aload_n dx_V_verify_18 rfl ?_
  refine px_getI dx_V_verify_19 fl_V_67 kM.1 (by omega) rfl ?_
  refine px_eqi (y := vdM F m) hJ.1 ?_
  exact px_iret dx_V_verify_22 rfl (by exact hp)
set_option maxRecDepth 100000 in
set_option maxHeartbeats 1000000 in
theorem k_type_n {l : Launch} {G : fr_G} {σ : fr_S} {q : Nat} (hq : PB q) (hPQ : gR σ 0 3 = some q) (hR : RF σ) {F : Nat → Nat → Nat} (hW : FW F) (hCP : CP σ q F) {x u r : Int32} (hx : imO F x = false) : CT l G yy_V_type rm_V_type [.ref (0), .int (x), .int (u), .int (r)] σ (some (.int (-1))) (σ) := by
  intro Post hp0
  have hp := hp0
  show PX l G yy_V_type rm_V_type _ false 742 0 0 0 [(0, .ref (0)), (1, .int (x)), (2, .int (u)), (3, .int (r))] [] σ
  have kP := kd_P hq
  refine px_aload_n dx_V_type_0 rfl ?_
  refine px_getR (r := q) dx_V_type_1 fl_V_33 rfl (by decide) rfl hPQ ?_
  refine px_iload_n dx_V_type_4 rfl ?_
  refine px_cV (Y := yy_V_type) (Yc := yy_Pg_methodAt) (b := q) (As := [.int (x)]) dx_V_type_5 ml_V_63 mv_Pg_methodAt np_Pg_methodAt ⟨_, rfl⟩ (by decide) kP.1 (by omega) rfl (Nat.le_of_ble_eq_true rfl) (Nat.le_of_ble_eq_true rfl) rk_V_type_Pg_methodAt rfl (k_methodAt_f hq hR hW.1 hCP.1 hx) zz_0 ?_
  refine px_astoreN (lv' := [(4, .null), (0, .ref (0)), (1, .int (x)), (2, .int (u)), (3, .int (r))]) dx_V_type_8 (by decide) rfl ?_
  refine px_aloadN dx_V_type_10 rfl ?_
  refine px_ifnonnullN dx_V_type_12 ?_
  refine px_iconst (v := -1) dx_V_type_15 rfl ?_
  refine px_goto dx_V_type_16 ?_
  exact px_iret dx_V_type_26 rfl (by exact hp)
set_option maxRecDepth 100000 in
set_option maxHeartbeats 1000000 in
theorem k_type_m {l : Launch} {G : fr_G} {σ : fr_S} {q : Nat} (hq : PB q) (hPQ : gR σ 0 3 = some q) (hR : RF σ) {F : Nat → Nat → Nat} (hW : FW F) (hCP : CP σ q F) {m : Nat} (hm : m < F 0 0) (hJ : MJ σ (q + 5 + 85 * m) F m) {p r : Nat} (hp31 : p < 2 ^ 31) (hr31 : r < 2 ^ 31) : CT l G yy_V_type rm_V_type [.ref (0), .int (nI (m)), .int (nI (p)), .int (nI (r))] σ (some (.int (tyM F m p r))) (σ) := by
  intro Post hp0
  have hp := hp0
  show PX l G yy_V_type rm_V_type _ false 742 0 0 0 [(0, .ref (0)), (1, .int (nI (m))), (2, .int (nI (p))), (3, .int (nI (r)))] [] σ
  have kP := kd_P hq
  have h04 := hW.1
  have hm4 : m < 4 := by omega
  have hE := ME.m hq hm4
  have kM := kd_M hE
  refine px_aload_n dx_V_type_0 rfl ?_
  refine px_getR (r := q) dx_V_type_1 fl_V_33 rfl (by decide) rfl hPQ ?_
  refine px_iload_n dx_V_type_4 rfl ?_
  refine px_cV (Y := yy_V_type) (Yc := yy_Pg_methodAt) (b := q) (As := [.int (nI (m))]) dx_V_type_5 ml_V_63 mv_Pg_methodAt np_Pg_methodAt ⟨_, rfl⟩ (by decide) kP.1 (by omega) rfl (Nat.le_of_ble_eq_true rfl) (Nat.le_of_ble_eq_true rfl) rk_V_type_Pg_methodAt rfl (k_methodAt_t hq hR hW.1 hCP.1 hm) zz_0 ?_
  refine px_astore (lv' := [(4, .ref (q + 5 + 85 * m)), (0, .ref (0)), (1, .int (nI (m))), (2, .int (nI (p))), (3, .int (nI (r)))]) dx_V_type_8 (by decide) rfl ?_
  refine px_aload dx_V_type_10 rfl ?_
  refine px_ifnonnull dx_V_type_12 ?_
  refine px_aload dx_V_type_19 rfl ?_
  refine px_iload_n dx_V_type_21 rfl ?_
  refine px_iload_n dx_V_type_22 rfl ?_
  refine px_cV (Y := yy_V_type) (Yc := yy_Me_typeBefore) (b := q + 5 + 85 * m) (As := [.int (nI (p)), .int (nI (r))]) dx_V_type_23 ml_V_72 mv_Me_typeBefore np_Me_typeBefore ⟨_, rfl⟩ (by decide) kM.1 (by omega) rfl (Nat.le_of_ble_eq_true rfl) (Nat.le_of_ble_eq_true rfl) rk_V_type_Me_typeBefore rfl (k_typeBefore hE hR hW (hCP.2.2 m hm4) hJ hp31 hr31) zz_0 ?_
  exact px_iret dx_V_type_26 rfl (by exact hp)
set_option maxRecDepth 100000 in
set_option maxHeartbeats 1000000 in
theorem k_type_x {l : Launch} {G : fr_G} {σ : fr_S} {q : Nat} (hq : PB q) (hPQ : gR σ 0 3 = some q) (hR : RF σ) {F : Nat → Nat → Nat} (hW : FW F) (hCP : CP σ q F) {m : Nat} (hm : m < F 0 0) (hJ : MJ σ (q + 5 + 85 * m) F m) {u r : Int32} (hu : u < 0) : CT l G yy_V_type rm_V_type [.ref (0), .int (nI (m)), .int (u), .int (r)] σ (some (.int (-1))) (σ) := by
  intro Post hp0
  have hp := hp0
  show PX l G yy_V_type rm_V_type _ false 742 0 0 0 [(0, .ref (0)), (1, .int (nI (m))), (2, .int (u)), (3, .int (r))] [] σ
  have kP := kd_P hq
  have h04 := hW.1
  have hm4 : m < 4 := by omega
  have hE := ME.m hq hm4
  have kM := kd_M hE
  refine px_aload_n dx_V_type_0 rfl ?_
  refine px_getR (r := q) dx_V_type_1 fl_V_33 rfl (by decide) rfl hPQ ?_
  refine px_iload_n dx_V_type_4 rfl ?_
  refine px_cV (Y := yy_V_type) (Yc := yy_Pg_methodAt) (b := q) (As := [.int (nI (m))]) dx_V_type_5 ml_V_63 mv_Pg_methodAt np_Pg_methodAt ⟨_, rfl⟩ (by decide) kP.1 (by omega) rfl (Nat.le_of_ble_eq_true rfl) (Nat.le_of_ble_eq_true rfl) rk_V_type_Pg_methodAt rfl (k_methodAt_t hq hR hW.1 hCP.1 hm) zz_0 ?_
  refine px_astore (lv' := [(4, .ref (q + 5 + 85 * m)), (0, .ref (0)), (1, .int (nI (m))), (2, .int (u)), (3, .int (r))]) dx_V_type_8 (by decide) rfl ?_
  refine px_aload dx_V_type_10 rfl ?_
  refine px_ifnonnull dx_V_type_12 ?_
  refine px_aload dx_V_type_19 rfl ?_
  refine px_iload_n dx_V_type_21 rfl ?_
  refine px_iload_n dx_V_type_22 rfl ?_
  refine px_cV (Y := yy_V_type) (Yc := yy_Me_typeBefore) (b := q + 5 + 85 * m) (As := [.int (u), .int (r)]) dx_V_type_23 ml_V_72 mv_Me_typeBefore np_Me_typeBefore ⟨_, rfl⟩ (by decide) kM.1 (by omega) rfl (Nat.le_of_ble_eq_true rfl) (Nat.le_of_ble_eq_true rfl) rk_V_type_Me_typeBefore rfl (k_typeBefore_x hE hR hW (hCP.2.2 m hm4) hJ hu) zz_0 ?_
  exact px_iret dx_V_type_26 rfl (by exact hp)
set_option maxRecDepth 100000 in
set_option maxHeartbeats 1000000 in
theorem k_type_y {l : Launch} {G : fr_G} {σ : fr_S} {q : Nat} (hq : PB q) (hPQ : gR σ 0 3 = some q) (hR : RF σ) {F : Nat → Nat → Nat} (hW : FW F) (hCP : CP σ q F) {m : Nat} (hm : m < F 0 0) (hJ : MJ σ (q + 5 + 85 * m) F m) {p : Nat} {r : Int32} (hp31 : p < 2 ^ 31) (hr : r < 0) : CT l G yy_V_type rm_V_type [.ref (0), .int (nI (m)), .int (nI (p)), .int (r)] σ (some (.int (-1))) (σ) := by
  intro Post hp0
  have hp := hp0
  show PX l G yy_V_type rm_V_type _ false 742 0 0 0 [(0, .ref (0)), (1, .int (nI (m))), (2, .int (nI (p))), (3, .int (r))] [] σ
  have kP := kd_P hq
  have h04 := hW.1
  have hm4 : m < 4 := by omega
  have hE := ME.m hq hm4
  have kM := kd_M hE
  refine px_aload_n dx_V_type_0 rfl ?_
  refine px_getR (r := q) dx_V_type_1 fl_V_33 rfl (by decide) rfl hPQ ?_
  refine px_iload_n dx_V_type_4 rfl ?_
  refine px_cV (Y := yy_V_type) (Yc := yy_Pg_methodAt) (b := q) (As := [.int (nI (m))]) dx_V_type_5 ml_V_63 mv_Pg_methodAt np_Pg_methodAt ⟨_, rfl⟩ (by decide) kP.1 (by omega) rfl (Nat.le_of_ble_eq_true rfl) (Nat.le_of_ble_eq_true rfl) rk_V_type_Pg_methodAt rfl (k_methodAt_t hq hR hW.1 hCP.1 hm) zz_0 ?_
  refine px_astore (lv' := [(4, .ref (q + 5 + 85 * m)), (0, .ref (0)), (1, .int (nI (m))), (2, .int (nI (p))), (3, .int (r))]) dx_V_type_8 (by decide) rfl ?_
  refine px_aload dx_V_type_10 rfl ?_
  refine px_ifnonnull dx_V_type_12 ?_
  refine px_aload dx_V_type_19 rfl ?_
  refine px_iload_n dx_V_type_21 rfl ?_
  refine px_iload_n dx_V_type_22 rfl ?_
  refine px_cV (Y := yy_V_type) (Yc := yy_Me_typeBefore) (b := q + 5 + 85 * m) (As := [.int (nI (p)), .int (r)]) dx_V_type_23 ml_V_72 mv_Me_typeBefore np_Me_typeBefore ⟨_, rfl⟩ (by decide) kM.1 (by omega) rfl (Nat.le_of_ble_eq_true rfl) (Nat.le_of_ble_eq_true rfl) rk_V_type_Me_typeBefore rfl (k_typeBefore_y hE hR hW (hCP.2.2 m hm4) hJ hp31 hr) zz_0 ?_
  exact px_iret dx_V_type_26 rfl (by exact hp)
set_option maxRecDepth 100000 in
set_option maxHeartbeats 1000000 in
theorem k_field_n {l : Launch} {G : fr_G} {σ : fr_S} {q : Nat} (hq : PB q) (hPQ : gR σ 0 3 = some q) (hR : RF σ) {F : Nat → Nat → Nat} (hW : FW F) (hCP : CP σ q F) {x : Int32} (hx : hfO F x = false) : CT l G yy_V_field rm_V_field [.ref (0), .int (x)] σ (some (.int (0))) (σ) := by
  intro Post hp0
  have hp := hp0
  show PX l G yy_V_field rm_V_field _ false 742 0 0 0 [(0, .ref (0)), (1, .int (x))] [] σ
  have kP := kd_P hq
  refine px_aload_n dx_V_field_0 rfl ?_
  refine px_getR (r := q) dx_V_field_1 fl_V_33 rfl (by decide) rfl hPQ ?_
  refine px_iload_n dx_V_field_4 rfl ?_
  refine px_cV (Y := yy_V_field) (Yc := yy_Pg_fieldAt) (b := q) (As := [.int (x)]) dx_V_field_5 ml_V_142 mv_Pg_fieldAt np_Pg_fieldAt ⟨_, rfl⟩ (by decide) kP.1 (by omega) rfl (Nat.le_of_ble_eq_true rfl) (Nat.le_of_ble_eq_true rfl) rk_V_field_Pg_fieldAt rfl (k_fieldAt_n hq hR hW.2.1 hCP.2.1 hx) zz_0 ?_
  exact px_iret dx_V_field_8 rfl (by exact hp)
set_option maxRecDepth 100000 in
set_option maxHeartbeats 1000000 in
theorem k_field_m {l : Launch} {G : fr_G} {σ : fr_S} {q : Nat} (hq : PB q) (hPQ : gR σ 0 3 = some q) (hR : RF σ) {F : Nat → Nat → Nat} (hW : FW F) (hCP : CP σ q F) {B : VM} (hX : CX σ q B) {k : Nat} (hk : k < F 1 0) : CT l G yy_V_field rm_V_field [.ref (0), .int (nI (k))] σ (some (.int (B.2.2.2 k))) (σ) := by
  intro Post hp0
  have hp := hp0
  show PX l G yy_V_field rm_V_field _ false 742 0 0 0 [(0, .ref (0)), (1, .int (nI (k)))] [] σ
  have kP := kd_P hq
  refine px_aload_n dx_V_field_0 rfl ?_
  refine px_getR (r := q) dx_V_field_1 fl_V_33 rfl (by decide) rfl hPQ ?_
  refine px_iload_n dx_V_field_4 rfl ?_
  refine px_cV (Y := yy_V_field) (Yc := yy_Pg_fieldAt) (b := q) (As := [.int (nI (k))]) dx_V_field_5 ml_V_142 mv_Pg_fieldAt np_Pg_fieldAt ⟨_, rfl⟩ (by decide) kP.1 (by omega) rfl (Nat.le_of_ble_eq_true rfl) (Nat.le_of_ble_eq_true rfl) rk_V_field_Pg_fieldAt rfl (k_fieldAt_m hq hR hW.2.1 hCP.2.1 (fl := B.2.2.2) hX.2.2.2.2.2.2.2.2.2 hk) zz_0 ?_
  exact px_iret dx_V_field_8 rfl (by exact hp)
