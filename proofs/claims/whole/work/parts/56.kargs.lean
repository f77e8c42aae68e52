/-! the class: types told, arguments -/
theorem bgF_b {F : Nat → Nat → Nat} {m v : Nat} (h : bgF F m v = true) : v < F 6 m := bgF_lt h

set_option maxRecDepth 100000 in
set_option maxHeartbeats 1000000 in
theorem k_typeBefore {l : Launch} {G : fr_G} {σ : fr_S} {e : Nat} (hE : ME e) (hR : RF σ) {F : Nat → Nat → Nat} (hW : FW F) {m : Nat} (hC : CM σ e F m) (hJ : MJ σ e F m) {p r : Nat} (hp31 : p < 2 ^ 31) (hr31 : r < 2 ^ 31) : CT l G yy_Me_typeBefore rm_Me_typeBefore [.ref (e), .int (nI (p)), .int (nI (r))] σ (some (.int (tyM F m p r))) (σ) := by
  intro Post hp0
  have hp := hp0
  show PX l G yy_Me_typeBefore rm_Me_typeBefore _ false 742 0 0 0 [(0, .ref (e)), (1, .int (nI (p))), (2, .int (nI (r)))] [] σ
  have kM := kd_M hE
  have h64 := hW.2.2.2.2.2.2.1 m
  have h10 := hW.2.2.2.2.2.1 m
  refine px_aload_n dx_Me_typeBefore_0 rfl ?_
  refine px_iload_n dx_Me_typeBefore_1 rfl ?_
  by_cases q_2 : p < F 6 m ∧ bgF F m p = true
  · refine px_cV (Y := yy_Me_typeBefore) (Yc := yy_Me_stepAt) (b := e) (As := [.int (nI (p))]) dx_Me_typeBefore_2 ml_Me_88 mv_Me_stepAt np_Me_stepAt ⟨_, rfl⟩ (by decide) kM.1 (by omega) rfl (Nat.le_of_ble_eq_true rfl) (Nat.le_of_ble_eq_true rfl) rk_Me_typeBefore_Me_stepAt rfl (k_stepAt_N hE hR h64 hC.2.2.2.2.1 hJ.2.2.1.1 q_2.1 q_2.2) zz_0 ?_
    refine px_astore_n (lv' := [(3, .ref (e + 5 + 2 * p)), (0, .ref (e)), (1, .int (nI (p))), (2, .int (nI (r)))]) dx_Me_typeBefore_5 (by decide) rfl ?_
    have hp40 : p < 40 := by (have := q_2.1; omega)
    have kS := kd_S (SE.s hE hp40)
    refine px_aload_n dx_Me_typeBefore_6 rfl ?_
    refine px_getI dx_Me_typeBefore_7 fl_Me_44 kM.1 (by omega) rfl ?_
    refine px_eqi (y := b2i (decide (fif F (bgF F m) m 40 0 none = -1))) hJ.2.1 ?_
    refine px_if_eqB dx_Me_typeBefore_10 (fun c_10 => ?_) (fun c_10 => ?_)
    · refine px_iconst (v := -1) dx_Me_typeBefore_24 rfl ?_
      exact px_iret dx_Me_typeBefore_25 rfl (by (have e : tyM F m p r = -1 := if_neg (fun z => (by simpa using c_10 : ¬ _) z.2.1)); rw [e] at hp; exact hp)
    · refine px_aload_n dx_Me_typeBefore_13 rfl ?_
      refine px_ifnull dx_Me_typeBefore_14 ?_
      refine px_aload_n dx_Me_typeBefore_17 rfl ?_
      refine px_getI dx_Me_typeBefore_18 fl_Me_76 kS.1 (by omega) rfl ?_
      refine px_eqi (y := b2i ((vrR F m).1.2.1 p)) ((hJ.2.2.2 (by simpa using c_10)).2.1 p hp40 q_2.2).1 ?_
      refine px_if_neB dx_Me_typeBefore_21 (fun c_21 => ?_) (fun c_21 => ?_)
      · refine px_iload_n dx_Me_typeBefore_26 rfl ?_
        refine px_if_ltN (a := r) dx_Me_typeBefore_27 (by omega) (fun c_27 => ?_) (fun c_27 => ?_)
        · refine px_iconst (v := -1) dx_Me_typeBefore_46 rfl ?_
          exact px_iret dx_Me_typeBefore_47 rfl (by (have e : tyM F m p r = -1 := if_neg (by omega)); rw [e] at hp; exact hp)
        · refine px_iload_n dx_Me_typeBefore_30 rfl ?_
          refine px_aload_n dx_Me_typeBefore_31 rfl ?_
          refine px_getI dx_Me_typeBefore_32 fl_Me_38 kM.1 (by omega) rfl ?_
          refine px_eqi (y := nI (F 5 m)) hC.2.2.2.1 ?_
          refine px_icmp_geN (a := r) (b := F 5 m) dx_Me_typeBefore_35 (by omega) (by omega) (fun c_35 => ?_) (fun c_35 => ?_)
          · refine px_iconst (v := -1) dx_Me_typeBefore_46 rfl ?_
            exact px_iret dx_Me_typeBefore_47 rfl (by (have e : tyM F m p r = -1 := if_neg (by omega)); rw [e] at hp; exact hp)
          · refine px_aload_n dx_Me_typeBefore_38 rfl ?_
            refine px_iload_n dx_Me_typeBefore_39 rfl ?_
            refine px_cV (Y := yy_Me_typeBefore) (Yc := yy_St_typeOf) (b := e + 5 + 2 * p) (As := [.int (nI (r))]) dx_Me_typeBefore_40 ml_Me_92 mv_St_typeOf np_St_typeOf ⟨_, rfl⟩ (by decide) kS.1 (by omega) rfl (Nat.le_of_ble_eq_true rfl) (Nat.le_of_ble_eq_true rfl) rk_Me_typeBefore_St_typeOf rfl (k_typeOf_N (T := (vrR F m).1.1 p) (SE.s hE hp40) hR ((( hJ.2.2.2 (by simpa using c_10)).2.1 p hp40 q_2.2).2 c_21) hr31) zz_0 ?_
            refine px_goto dx_Me_typeBefore_43 ?_
            exact px_iret dx_Me_typeBefore_47 rfl (by (have e : tyM F m p r = nI (if r < 10 then (vrR F m).1.1 p r else 0) := by (unfold tyM; rw [if_pos ⟨by omega, by simpa using c_10, q_2.1, q_2.2, c_21⟩, if_pos (show r < 10 by omega)])); rw [e] at hp; exact hp)
      · refine px_iconst (v := -1) dx_Me_typeBefore_24 rfl ?_
        exact px_iret dx_Me_typeBefore_25 rfl (by (have e : tyM F m p r = -1 := if_neg (fun z => by (have := z.2.2.2.2; rw [c_21] at this; cases this))); rw [e] at hp; exact hp)
  · refine px_cV (Y := yy_Me_typeBefore) (Yc := yy_Me_stepAt) (b := e) (As := [.int (nI (p))]) dx_Me_typeBefore_2 ml_Me_88 mv_Me_stepAt np_Me_stepAt ⟨_, rfl⟩ (by decide) kM.1 (by omega) rfl (Nat.le_of_ble_eq_true rfl) (Nat.le_of_ble_eq_true rfl) rk_Me_typeBefore_Me_stepAt rfl (k_stepAt_n hE hR h64 hC.2.2.2.2.1 hJ.2.2.1.1 hp31 q_2) zz_0 ?_
    refine px_astore_nN (lv' := [(3, .null), (0, .ref (e)), (1, .int (nI (p))), (2, .int (nI (r)))]) dx_Me_typeBefore_5 (by decide) rfl ?_
    refine px_aload_n dx_Me_typeBefore_6 rfl ?_
    refine px_getI dx_Me_typeBefore_7 fl_Me_44 kM.1 (by omega) rfl ?_
    refine px_eqi (y := b2i (decide (fif F (bgF F m) m 40 0 none = -1))) hJ.2.1 ?_
    refine px_if_eqB dx_Me_typeBefore_10 (fun c_10 => ?_) (fun c_10 => ?_)
    · refine px_iconst (v := -1) dx_Me_typeBefore_24 rfl ?_
      exact px_iret dx_Me_typeBefore_25 rfl (by (have e : tyM F m p r = -1 := if_neg (fun z => (by simpa using c_10 : ¬ _) z.2.1)); rw [e] at hp; exact hp)
    · refine px_aload_nN dx_Me_typeBefore_13 rfl ?_
      refine px_ifnullN dx_Me_typeBefore_14 ?_
      refine px_iconst (v := -1) dx_Me_typeBefore_24 rfl ?_
      exact px_iret dx_Me_typeBefore_25 rfl (by (have e : tyM F m p r = -1 := if_neg (fun z => q_2 ⟨z.2.2.1, z.2.2.2.1⟩)); rw [e] at hp; exact hp)
set_option maxRecDepth 100000 in
set_option maxHeartbeats 1000000 in
theorem k_typeBefore_x {l : Launch} {G : fr_G} {σ : fr_S} {e : Nat} (hE : ME e) (hR : RF σ) {F : Nat → Nat → Nat} (hW : FW F) {m : Nat} (hC : CM σ e F m) (hJ : MJ σ e F m) {x y : Int32} (hx : x < 0) : CT l G yy_Me_typeBefore rm_Me_typeBefore [.ref (e), .int (x), .int (y)] σ (some (.int (-1))) (σ) := by
  intro Post hp0
  have hp := hp0
  show PX l G yy_Me_typeBefore rm_Me_typeBefore _ false 742 0 0 0 [(0, .ref (e)), (1, .int (x)), (2, .int (y))] [] σ
  have kM := kd_M hE
  have h64 := hW.2.2.2.2.2.2.1 m
  refine px_aload_n dx_Me_typeBefore_0 rfl ?_
  refine px_iload_n dx_Me_typeBefore_1 rfl ?_
  refine px_cV (Y := yy_Me_typeBefore) (Yc := yy_Me_stepAt) (b := e) (As := [.int (x)]) dx_Me_typeBefore_2 ml_Me_88 mv_Me_stepAt np_Me_stepAt ⟨_, rfl⟩ (by decide) kM.1 (by omega) rfl (Nat.le_of_ble_eq_true rfl) (Nat.le_of_ble_eq_true rfl) rk_Me_typeBefore_Me_stepAt rfl (k_stepAt_x hE hR h64 hC.2.2.2.2.1 hJ.2.2.1.1 hx) zz_0 ?_
  refine px_astore_nN (lv' := [(3, .null), (0, .ref (e)), (1, .int (x)), (2, .int (y))]) dx_Me_typeBefore_5 (by decide) rfl ?_
  refine px_aload_n dx_Me_typeBefore_6 rfl ?_
  refine px_getI dx_Me_typeBefore_7 fl_Me_44 kM.1 (by omega) rfl ?_
  refine px_eqi (y := b2i (decide (fif F (bgF F m) m 40 0 none = -1))) hJ.2.1 ?_
  refine px_if_eqB dx_Me_typeBefore_10 (fun c_10 => ?_) (fun c_10 => ?_)
  · refine px_iconst (v := -1) dx_Me_typeBefore_24 rfl ?_
    exact px_iret dx_Me_typeBefore_25 rfl (by exact hp)
  · refine px_aload_nN dx_Me_typeBefore_13 rfl ?_
    refine px_ifnullN dx_Me_typeBefore_14 ?_
    refine px_iconst (v := -1) dx_Me_typeBefore_24 rfl ?_
    exact px_iret dx_Me_typeBefore_25 rfl (by exact hp)
set_option maxRecDepth 100000 in
set_option maxHeartbeats 1000000 in
theorem k_typeBefore_y {l : Launch} {G : fr_G} {σ : fr_S} {e : Nat} (hE : ME e) (hR : RF σ) {F : Nat → Nat → Nat} (hW : FW F) {m : Nat} (hC : CM σ e F m) (hJ : MJ σ e F m) {p : Nat} {y : Int32} (hp31 : p < 2 ^ 31) (hy : y < 0) : CT l G yy_Me_typeBefore rm_Me_typeBefore [.ref (e), .int (nI (p)), .int (y)] σ (some (.int (-1))) (σ) := by
  intro Post hp0
  have hp := hp0
  show PX l G yy_Me_typeBefore rm_Me_typeBefore _ false 742 0 0 0 [(0, .ref (e)), (1, .int (nI (p))), (2, .int (y))] [] σ
  have kM := kd_M hE
  have h64 := hW.2.2.2.2.2.2.1 m
  refine px_aload_n dx_Me_typeBefore_0 rfl ?_
  refine px_iload_n dx_Me_typeBefore_1 rfl ?_
  by_cases q_2 : p < F 6 m ∧ bgF F m p = true
  · refine px_cV (Y := yy_Me_typeBefore) (Yc := yy_Me_stepAt) (b := e) (As := [.int (nI (p))]) dx_Me_typeBefore_2 ml_Me_88 mv_Me_stepAt np_Me_stepAt ⟨_, rfl⟩ (by decide) kM.1 (by omega) rfl (Nat.le_of_ble_eq_true rfl) (Nat.le_of_ble_eq_true rfl) rk_Me_typeBefore_Me_stepAt rfl (k_stepAt_N hE hR h64 hC.2.2.2.2.1 hJ.2.2.1.1 q_2.1 q_2.2) zz_0 ?_
    refine px_astore_n (lv' := [(3, .ref (e + 5 + 2 * p)), (0, .ref (e)), (1, .int (nI (p))), (2, .int (y))]) dx_Me_typeBefore_5 (by decide) rfl ?_
    have hp40 : p < 40 := by (have := q_2.1; omega)
    have kS := kd_S (SE.s hE hp40)
    refine px_aload_n dx_Me_typeBefore_6 rfl ?_
    refine px_getI dx_Me_typeBefore_7 fl_Me_44 kM.1 (by omega) rfl ?_
    refine px_eqi (y := b2i (decide (fif F (bgF F m) m 40 0 none = -1))) hJ.2.1 ?_
    refine px_if_eqB dx_Me_typeBefore_10 (fun c_10 => ?_) (fun c_10 => ?_)
    · refine px_iconst (v := -1) dx_Me_typeBefore_24 rfl ?_
      exact px_iret dx_Me_typeBefore_25 rfl (by exact hp)
    · refine px_aload_n dx_Me_typeBefore_13 rfl ?_
      refine px_ifnull dx_Me_typeBefore_14 ?_
      refine px_aload_n dx_Me_typeBefore_17 rfl ?_
      refine px_getI dx_Me_typeBefore_18 fl_Me_76 kS.1 (by omega) rfl ?_
      refine px_eqi (y := b2i ((vrR F m).1.2.1 p)) ((hJ.2.2.2 (by simpa using c_10)).2.1 p hp40 q_2.2).1 ?_
      refine px_if_neB dx_Me_typeBefore_21 (fun c_21 => ?_) (fun c_21 => ?_)
      · refine px_iload_n dx_Me_typeBefore_26 rfl ?_
        refine px_if_lt dx_Me_typeBefore_27 (fun c_27 => ?_) (fun c_27 => ?_)
        · refine px_iconst (v := -1) dx_Me_typeBefore_46 rfl ?_
          exact px_iret dx_Me_typeBefore_47 rfl (by exact hp)
        · exact absurd hy c_27
      · refine px_iconst (v := -1) dx_Me_typeBefore_24 rfl ?_
        exact px_iret dx_Me_typeBefore_25 rfl (by exact hp)
  · refine px_cV (Y := yy_Me_typeBefore) (Yc := yy_Me_stepAt) (b := e) (As := [.int (nI (p))]) dx_Me_typeBefore_2 ml_Me_88 mv_Me_stepAt np_Me_stepAt ⟨_, rfl⟩ (by decide) kM.1 (by omega) rfl (Nat.le_of_ble_eq_true rfl) (Nat.le_of_ble_eq_true rfl) rk_Me_typeBefore_Me_stepAt rfl (k_stepAt_n hE hR h64 hC.2.2.2.2.1 hJ.2.2.1.1 hp31 q_2) zz_0 ?_
    refine px_astore_nN (lv' := [(3, .null), (0, .ref (e)), (1, .int (nI (p))), (2, .int (y))]) dx_Me_typeBefore_5 (by decide) rfl ?_
    refine px_aload_n dx_Me_typeBefore_6 rfl ?_
    refine px_getI dx_Me_typeBefore_7 fl_Me_44 kM.1 (by omega) rfl ?_
    refine px_eqi (y := b2i (decide (fif F (bgF F m) m 40 0 none = -1))) hJ.2.1 ?_
    refine px_if_eqB dx_Me_typeBefore_10 (fun c_10 => ?_) (fun c_10 => ?_)
    · refine px_iconst (v := -1) dx_Me_typeBefore_24 rfl ?_
      exact px_iret dx_Me_typeBefore_25 rfl (by exact hp)
    · refine px_aload_nN dx_Me_typeBefore_13 rfl ?_
      refine px_ifnullN dx_Me_typeBefore_14 ?_
      refine px_iconst (v := -1) dx_Me_typeBefore_24 rfl ?_
      exact px_iret dx_Me_typeBefore_25 rfl (by exact hp)
