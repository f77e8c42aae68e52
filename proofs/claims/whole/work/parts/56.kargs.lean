/-! the class: types told, arguments -/
theorem bgF_b {F : Nat → Nat → Nat} {m v : Nat} (h : bgF F m v = true) : v < F 6 m := bgF_lt h

set_option maxRecDepth 100000 in
set_option maxHeartbeats 1000000 in
theorem k_typeBefore {l : Launch} {G : fr_G} {σ : fr_S} {e : Nat} (hE : ME e) (hR : RF σ) {F : Nat → Nat → Nat} (hW : FW F) {m : Nat} (hC : CM σ e F m) (hJ : MJ σ e F m) {p r : Nat} (hp31 : p < 2 ^ 31) (hr31 : r < 2 ^ 31) : CT l G yy_Me_typeBefore rm_Me_typeBefore [.ref (e), .int (nI (p)), .int (nI (r))] σ (some (.int (tyM F m p r))) (σ) := by
  intro Post hp0
  have hp := hp0
  show PX l G yy_Me_typeBefore rm_Me_typeBefore _ false 742 0 0 0 [(0, .ref (e)), (1, .int (nI (p))), (2, .int (nI (r)))] [] σ
  have kM := kd_M hE
  have h64 := hW.2.2.2.2.2.2.1 m
  have h10 := hW.2.2.2.2.2.1 m
  refine px_aload_n dx_Me_typeBefore_0 rfl ?_
  refine px_iload_n dx_Me_typeBefore_1 rfl ?_
  by_cases q_2 : p < F 6 m ∧ bgF F m p = true
  · refine px_cV (Y := yy_Me_typeBefore) (Yc := yy_Me_stepAt) (b := e) (As := [.int (nI (p))]) dx_Me_typeBefore_2 ml_Me_88 mv_Me_stepAt np_Me_stepAt ⟨_, rfl⟩ (by decide) kM.1 (by omega) rfl (Nat.le_of_ble_eq_true rfl) (Nat.le_of_ble_eq_true rfl) rk_Me_typeBefore_Me_stepAt rfl (k_stepAt_N hE hR h64 hC.2.2.2.2.1 hJ.2.2.1.1 q_2.1 q_2.2) zz_0 ?_
    refine px_astore_n (lv' := [(3, .ref (e + 5 + 2 * p)), (0, .ref (e)), (1, .int (nI (p))), (2, .int (nI (r)))]) dx_Me_typeBefore_5 (by decide) rfl ?_
    have hp40 : p < 40 := by (have := q_2.1; omega)
    have kS := kd_S (SE.s hE hp40)
    refine px_aload_n dx_Me_typeBefore_6 rfl ?_
    refine px_getI dx_Me_typeBefore_7 fl_Me_44 kM.1 (by omega) rfl ?_
    refine px_eqi (y := b2i (decide (fif F (bgF F m) m 40 0 none = -1))) hJ.2.1 ?_
    refine px_if_eqB dx_Me_typeBefore_10 (fun c_10 => ?_) (fun c_10 => ?_)
    · refine px_iconst (v := -1) dx_Me_typeBefore_24 rfl ?_
      exact px_iret dx_Me_typeBefore_25 rfl (by (have e : tyM F m p r = -1 := if_neg (fun z => (by simpa using c_10 : ¬ _) z.2.1)); rw [e] at hp; exact hp)
    · refine px_aload_n dx_Me_typeBefore_13 rfl ?_
      refine px_ifnull dx_Me_typeBefore_14 ?_
      refine px_aload_n dx_Me_typeBefore_17 rfl ?_
      refine px_getI dx_Me_typeBefore_18 fl_Me_76 kS.1 (by omega) rfl ?_
      refine px_eqi (y := b2i ((vrR F m).1.2.1 p)) ((hJ.2.2.2 (by simpa using c_10)).2.1 p hp40 q_2.2).1 ?_
      refine px_if_neB dx_Me_typeBefore_21 (fun c_21 => ?_) (fun c_21 => ?_)
      · refine px_iload_n dx_Me_typeBefore_26 rfl ?_
        refine px_if_ltN (a := r) dx_Me_typeBefore_27 (by omega) (fun c_27 => ?_) (fun c_27 => ?_)
        · refine px_iconst (v := -1) dx_Me_typeBefore_46 rfl ?_
          exact px_iret dx_Me_typeBefore_47 rfl (by (have e : tyM F m p r = -1 := if_neg (by omega)); rw [e] at hp; exact hp)
        · refine px_iload_n dx_Me_typeBefore_30 rfl ?_
          refine px_aload_n dx_Me_typeBefore_31 rfl ?_
          refine px_getI dx_Me_typeBefore_32 fl_Me_38 kM.1 (by omega) rfl ?_
          refine px_eqi (y := nI (F 5 m)) hC.2.2.2.1 ?_
          refine px_icmp_geN (a := r) (b := F 5 m) dx_Me_typeBefore_35 (by omega) (by omega) (fun c_35 => ?_) (fun c_35 => ?_)
          · refine px_iconst (v := -1) dx_Me_typeBefore_46 rfl ?_
            exact px_iret dx_Me_typeBefore_47 rfl (by (have e : tyM F m p r = -1 := if_neg (by omega)); rw [e] at hp; exact hp)
          · refine px_aload_n dx_Me_typeBefore_38 rfl ?_
            refine px_iload_n dx_Me_typeBefore_39 rfl ?_
            refine px_cV (Y := yy_Me_typeBefore) (Yc := yy_St_typeOf) (b := e + 5 + 2 * p) (As := [.int (nI (r))]) dx_Me_typeBefore_40 ml_Me_92 mv_St_typeOf np_St_typeOf ⟨_, rfl⟩ (by decide) kS.1 (by omega) rfl (Nat.le_of_ble_eq_true rfl) (Nat.le_of_ble_eq_true rfl) rk_Me_typeBefore_St_typeOf rfl (k_typeOf_N (T := (vrR F m).1.1 p) (SE.s hE hp40) hR ((( hJ.2.2.2 (by simpa using c_10)).2.1 p hp40 q_2.2).2 c_21) hr31) zz_0 ?_
            refine px_goto dx_Me_typeBefore_43 ?_
            exact px_iret dx_Me_typeBefore_47 rfl (by (have e : tyM F m p r = nI (if r < 10 then (vrR F m).1.1 p r else 0) := by (unfold tyM; rw [if_pos ⟨by omega, by simpa using c_10, q_2.1, q_2.2, c_21⟩, if_pos (show r < 10 by omega)])); rw [e] at hp; exact hp)
      · refine px_iconst (v := -1) dx_Me_typeBefore_24 rfl ?_
        exact px_iret dx_Me_typeBefore_25 rfl (by (have e : tyM F m p r = -1 := if_neg (fun z => by (have := z.2.2.2.2; rw [c_21] at this; cases this))); rw [e] at hp; exact hp)
  · refine px_cV (Y := yy_Me_typeBefore) (Yc := yy_Me_stepAt) (b := e) (As := [.int (nI (p))]) dx_Me_typeBefore_2 ml_Me_88 mv_Me_stepAt np_Me_stepAt ⟨_, rfl⟩ (by decide) kM.1 (by omega) rfl (Nat.le_of_ble_eq_true rfl) (Nat.le_of_ble_eq_true rfl) rk_Me_typeBefore_Me_stepAt rfl (k_stepAt_n hE hR h64 hC.2.2.2.2.1 hJ.2.2.1.1 hp31 q_2) zz_0 ?_
    refine px_astore_nN (lv' := [(3, .null), (0, .ref (e)), (1, .int (nI (p))), (2, .int (nI (r)))]) dx_Me_typeBefore_5 (by decide) rfl ?_
    refine px_aload_n dx_Me_typeBefore_6 rfl ?_
    refine px_getI dx_Me_typeBefore_7 fl_Me_44 kM.1 (by omega) rfl ?_
    refine px_eqi (y := b2i (decide (fif F (bgF F m) m 40 0 none = -1))) hJ.2.1 ?_
    refine px_if_eqB dx_Me_typeBefore_10 (fun c_10 => ?_) (fun c_10 => ?_)
    · refine px_iconst (v := -1) dx_Me_typeBefore_24 rfl ?_
      exact px_iret dx_Me_typeBefore_25 rfl (by (have e : tyM F m p r = -1 := if_neg (fun z => (by simpa using c_10 : ¬ _) z.2.1)); rw [e] at hp; exact hp)
    · refine px_aload_nN dx_Me_typeBefore_13 rfl ?_
      refine px_ifnullN dx_Me_typeBefore_14 ?_
      refine px_iconst (v := -1) dx_Me_typeBefore_24 rfl ?_
      exact px_iret dx_Me_typeBefore_25 rfl (by (have e : tyM F m p r = -1 := if_neg (fun z => q_2 ⟨z.2.2.1, z.2.2.2.1⟩)); rw [e] at hp; exact hp)
set_option maxRecDepth 100000 in
set_option maxHeartbeats 1000000 in
theorem k_typeBefore_x {l : Launch} {G : fr_G} {σ : fr_S} {e : Nat} (hE : ME e) (hR : RF σ) {F : Nat → Nat → Nat} (hW : FW F) {m : Nat} (hC : CM σ e F m) (hJ : MJ σ e F m) {x y : Int32} (hx : x < 0) : CT l G yy_Me_typeBefore rm_Me_typeBefore [.ref (e), .int (x), .int (y)] σ (some (.int (-1))) (σ) := by
  intro Post hp0
  have hp := hp0
  show PX l G yy_Me_typeBefore rm_Me_typeBefore _ false 742 0 0 0 [(0, .ref (e)), (1, .int (x)), (2, .int (y))] [] σ
  have kM := kd_M hE
  have h64 := hW.2.2.2.2.2.2.1 m
  refine px_aload_n dx_Me_typeBefore_0 rfl ?_
  refine px_iload_n dx_Me_typeBefore_1 rfl ?_
  refine px_cV (Y := yy_Me_typeBefore) (Yc := yy_Me_stepAt) (b := e) (As := [.int (x)]) dx_Me_typeBefore_2 ml_Me_88 mv_Me_stepAt np_Me_stepAt ⟨_, rfl⟩ (by decide) kM.1 (by omega) rfl (Nat.le_of_ble_eq_true rfl) (Nat.le_of_ble_eq_true rfl) rk_Me_typeBefore_Me_stepAt rfl (k_stepAt_x hE hR h64 hC.2.2.2.2.1 hJ.2.2.1.1 hx) zz_0 ?_
  refine px_astore_nN (lv' := [(3, .null), (0, .ref (e)), (1, .int (x)), (2, .int (y))]) dx_Me_typeBefore_5 (by decide) rfl ?_
  refine px_aload_n dx_Me_typeBefore_6 rfl ?_
  refine px_getI dx_Me_typeBefore_7 fl_Me_44 kM.1 (by omega) rfl ?_
  refine px_eqi (y := b2i (decide (fif F (bgF F m) m 40 0 none = -1))) hJ.2.1 ?_
  refine px_if_eqB dx_Me_typeBefore_10 (fun c_10 => ?_) (fun c_10 => ?_)
  · refine px_iconst (v := -1) dx_Me_typeBefore_24 rfl ?_
    exact px_iret dx_Me_typeBefore_25 rfl (by exact hp)
  · refine px_aload_nN dx_Me_typeBefore_13 rfl ?_
    refine px_ifnullN dx_Me_typeBefore_14 ?_
    refine px_iconst (v := -1) dx_Me_typeBefore_24 rfl ?_
    exact px_iret dx_Me_typeBefore_25 rfl (by exact hp)
set_option maxRecDepth 100000 in
set_option maxHeartbeats 1000000 in
theorem k_typeBefore_y {l : Launch} {G : fr_G} {σ : fr_S} {e : Nat} (hE : ME e) (hR : RF σ) {F : Nat → Nat → Nat} (hW : FW F) {m : Nat} (hC : CM σ e F m) (hJ : MJ σ e F m) {p : Nat} {y : Int32} (hp31 : p < 2 ^ 31) (hy : y < 0) : CT l G yy_Me_typeBefore rm_Me_typeBefore [.ref (e), .int (nI (p)), .int (y)] σ (some (.int (-1))) (σ) := by
  intro Post hp0
  have hp := hp0
  show PX l G yy_Me_typeBefore rm_Me_typeBefore _ false 742 0 0 0 [(0, .ref (e)), (1, .int (nI (p))), (2, .int (y))] [] σ
  have kM := kd_M hE
  have h64 := hW.2.2.2.2.2.2.1 m
  refine px_aload_n dx_Me_typeBefore_0 rfl ?_
  refine px_iload_n dx_Me_typeBefore_1 rfl ?_
  by_cases q_2 : p < F 6 m ∧ bgF F m p = true
  · refine px_cV (Y := yy_Me_typeBefore) (Yc := yy_Me_stepAt) (b := e) (As := [.int (nI (p))]) dx_Me_typeBefore_2 ml_Me_88 mv_Me_stepAt np_Me_stepAt ⟨_, rfl⟩ (by decide) kM.1 (by omega) rfl (Nat.le_of_ble_eq_true rfl) (Nat.le_of_ble_eq_true rfl) rk_Me_typeBefore_Me_stepAt rfl (k_stepAt_N hE hR h64 hC.2.2.2.2.1 hJ.2.2.1.1 q_2.1 q_2.2) zz_0 ?_
    refine px_astore_n (lv' := [(3, .ref (e + 5 + 2 * p)), (0, .ref (e)), (1, .int (nI (p))), (2, .int (y))]) dx_Me_typeBefore_5 (by decide) rfl ?_
    have hp40 : p < 40 := by (have := q_2.1; omega)
    have kS := kd_S (SE.s hE hp40)
    refine px_aload_n dx_Me_typeBefore_6 rfl ?_
    refine px_getI dx_Me_typeBefore_7 fl_Me_44 kM.1 (by omega) rfl ?_
    refine px_eqi (y := b2i (decide (fif F (bgF F m) m 40 0 none = -1))) hJ.2.1 ?_
    refine px_if_eqB dx_Me_typeBefore_10 (fun c_10 => ?_) (fun c_10 => ?_)
    · refine px_iconst (v := -1) dx_Me_typeBefore_24 rfl ?_
      exact px_iret dx_Me_typeBefore_25 rfl (by exact hp)
    · refine px_aload_n dx_Me_typeBefore_13 rfl ?_
      refine px_ifnull dx_Me_typeBefore_14 ?_
      refine px_aload_n dx_Me_typeBefore_17 rfl ?_
      refine px_getI dx_Me_typeBefore_18 fl_Me_76 kS.1 (by omega) rfl ?_
      refine px_eqi (y := b2i ((vrR F m).1.2.1 p)) ((hJ.2.2.2 (by simpa using c_10)).2.1 p hp40 q_2.2).1 ?_
      refine px_if_neB dx_Me_typeBefore_21 (fun c_21 => ?_) (fun c_21 => ?_)
      · refine px_iload_n dx_Me_typeBefore_26 rfl ?_
        refine px_if_lt dx_Me_typeBefore_27 (fun c_27 => ?_) (fun c_27 => ?_)
        · refine px_iconst (v := -1) dx_Me_typeBefore_46 rfl ?_
          exact px_iret dx_Me_typeBefore_47 rfl (by exact hp)
        · exact absurd hy c_27
      · refine px_iconst (v := -1) dx_Me_typeBefore_24 rfl ?_
        exact px_iret dx_Me_typeBefore_25 rfl (by exact hp)
  · refine px_cV (Y := yy_Me_typeBefore) (Yc := yy_Me_stepAt) (b := e) (As := [.int (nI (p))]) dx_Me_typeBefore_2 ml_Me_88 mv_Me_stepAt np_Me_stepAt ⟨_, rfl⟩ (by decide) kM.1 (by omega) rfl (Nat.le_of_ble_eq_true rfl) (Nat.le_of_ble_eq_true rfl) rk_Me_typeBefore_Me_stepAt rfl (k_stepAt_n hE hR h64 hC.2.2.2.2.1 hJ.2.2.1.1 hp31 q_2) zz_0 ?_
    refine px_astore_nN (lv' := [(3, .null), (0, .ref (e)), (1, .int (nI (p))), (2, .int (y))]) dx_Me_typeBefore_5 (by decide) rfl ?_
    refine px_aload_n dx_Me_typeBefore_6 rfl ?_
    refine px_getI dx_Me_typeBefore_7 fl_Me_44 kM.1 (by omega) rfl ?_
    refine px_eqi (y := b2i (decide (fif F (bgF F m) m 40 0 none = -1))) hJ.2.1 ?_
    refine px_if_eqB dx_Me_typeBefore_10 (fun c_10 => ?_) (fun c_10 => ?_)
    · refine px_iconst (v := -1) dx_Me_typeBefore_24 rfl ?_
      exact px_iret dx_Me_typeBefore_25 rfl (by exact hp)
    · refine px_aload_nN dx_Me_typeBefore_13 rfl ?_
      refine px_ifnullN dx_Me_typeBefore_14 ?_
      refine px_iconst (v := -1) dx_Me_typeBefore_24 rfl ?_
      exact px_iret dx_Me_typeBefore_25 rfl (by exact hp)

/-- the class's arguments -/
def KA (σ : fr_S) (a : AV) : Prop := gI σ 3 3 = nI a.1 ∧ a.1 ≤ 3 ∧ (∀ k, k < 3 → gI σ 4 k = nI (tt (a.2.1 k))) ∧ (∀ k, a.2.1 k ≤ 4) ∧ (∀ k, k < 3 → gL σ 5 k = a.2.2.1 k) ∧ ∀ k, k < 3 → gD σ 6 k = a.2.2.2 k
theorem tt_inj (a b : Nat) (ha : a ≤ 4) (hb : b ≤ 4) : tt a = tt b ↔ a = b := (by decide : ∀ a, a < 5 → ∀ b, b < 5 → (tt a = tt b ↔ a = b)) a (by omega) b (by omega)
def agS (F : Nat → Nat → Nat) (a : AV) (m f : Nat) (σ : fr_S) : Nat → fr_S
  | 0 => σ
  | j + 1 => sD (sL (agS F a m f σ j) (f + 1) (F 5 m - pwF F m + agK F m j) (a.2.2.1 j)) (f + 2) (F 5 m - pwF F m + agK F m j) (a.2.2.2 j)
theorem agS_RF {F : Nat → Nat → Nat} {a : AV} {m f : Nat} {σ : fr_S} (h : RF σ) : ∀ j, RF (agS F a m f σ j)
  | 0 => h
  | j + 1 => RF.sd (RF.sl (agS_RF h j))
theorem agS_I {F : Nat → Nat → Nat} {a : AV} {m f : Nat} {σ : fr_S} : ∀ j, gI (agS F a m f σ j) = gI σ
  | 0 => rfl
  | j + 1 => agS_I j
theorem agS_L {F : Nat → Nat → Nat} {a : AV} {m f o k : Nat} {σ : fr_S} (h : o ≠ f + 1) : ∀ j, gL (agS F a m f σ j) o k = gL σ o k
  | 0 => rfl
  | j + 1 => (gL_n (Or.inl h)).trans (agS_L h j)
theorem agS_D {F : Nat → Nat → Nat} {a : AV} {m f o k : Nat} {σ : fr_S} (h : o ≠ f + 2) : ∀ j, gD (agS F a m f σ j) o k = gD σ o k
  | 0 => rfl
  | j + 1 => (gD_n (Or.inl h)).trans (agS_D h j)

set_option maxRecDepth 100000 in
set_option maxHeartbeats 1000000 in
theorem k_suit_lp {l : Launch} {G : fr_G} {σ : fr_S} {e : Nat} (hE : ME e) (hR : RF σ) {F : Nat → Nat → Nat} (hW : FW F) {m : Nat} (hC : CM σ e F m) {a : AV} (hA : KA σ a) (hn : F 3 m = a.1) {Post : Option Value → fr_S → Prop} (hp : Post (some (.int (b2i (suO F a m)))) σ) : ∀ (d : Nat) (j : Nat), a.1 - j < d → j ≤ a.1 → suP F a m j = true → PX l G yy_Ag_suit rm_Ag_suit (QR G false 742 0 0 Post) false 742 0 0 15 [(0, .ref (3)), (1, .ref (e)), (2, .int (nI (j)))] [] (σ) := by
  intro d
  induction d with
  | zero => intro j hd; exact absurd hd (Nat.not_lt_zero _)
  | succ d ih =>
    intro j hd hj hs
    have kM := kd_M hE
    have h3 := hW.2.2.2.1 m
    have ha3 := hA.2.1
    refine px_iload_n dx_Ag_suit_15 rfl ?_
    refine px_aload_n dx_Ag_suit_16 rfl ?_
    refine px_getI dx_Ag_suit_17 fl_Ag_23 rfl (by decide) rfl ?_
    refine px_eqi (y := nI (a.1)) hA.1 ?_
    refine px_icmp_geN (a := j) (b := a.1) dx_Ag_suit_20 (by (first | omega | exact Nat.lt_of_le_of_lt (tt_b _ (hA.2.2.2.1 _)) (by decide) | exact Nat.lt_of_le_of_lt (tt_b _ (hW.2.2.2.2.1 _)) (by decide))) (by (first | omega | exact Nat.lt_of_le_of_lt (tt_b _ (hA.2.2.2.1 _)) (by decide) | exact Nat.lt_of_le_of_lt (tt_b _ (hW.2.2.2.2.1 _)) (by decide))) (fun c_20 => ?_) (fun c_20 => ?_)
    · refine px_iconst (v := 1) dx_Ag_suit_54 rfl ?_
      exact px_zret dx_Ag_suit_55 rfl (by decide) (by (obtain rfl : j = a.1 := by omega); (have e : suO F a m = true := by (unfold suO; rw [decide_eq_true hn, hs]; rfl)); rw [e] at hp; exact hp)
    · refine px_iload_n dx_Ag_suit_23 rfl ?_
      refine px_aload_n dx_Ag_suit_24 rfl ?_
      refine px_getR (r := 4) dx_Ag_suit_25 fl_Ag_9 rfl (by decide) rfl hR.1.2.2.2.2.1 ?_
      refine px_alen (v := 3) dx_Ag_suit_28 rfl (by decide) (by decide) rfl ?_
      refine px_icmp_geN (a := j) (b := 3) dx_Ag_suit_29 (by (first | omega | exact Nat.lt_of_le_of_lt (tt_b _ (hA.2.2.2.1 _)) (by decide) | exact Nat.lt_of_le_of_lt (tt_b _ (hW.2.2.2.2.1 _)) (by decide))) (by (first | omega | exact Nat.lt_of_le_of_lt (tt_b _ (hA.2.2.2.1 _)) (by decide) | exact Nat.lt_of_le_of_lt (tt_b _ (hW.2.2.2.2.1 _)) (by decide))) (fun c_29 => ?_) (fun c_29 => ?_)
      · refine px_iconst (v := 1) dx_Ag_suit_54 rfl ?_
        exact px_zret dx_Ag_suit_55 rfl (by decide) (by exfalso; omega)
      · refine px_aload_n dx_Ag_suit_32 rfl ?_
        refine px_getR (r := 4) dx_Ag_suit_33 fl_Ag_9 rfl (by decide) rfl hR.1.2.2.2.2.1 ?_
        refine px_iload_n dx_Ag_suit_36 rfl ?_
        refine px_ialdN (j := j) dx_Ag_suit_37 rfl (by decide) (by omega) ?_
        refine px_eqi (y := nI (tt (a.2.1 j))) (hA.2.2.1 j (by omega)) ?_
        refine px_aload_n dx_Ag_suit_38 rfl ?_
        refine px_iload_n dx_Ag_suit_39 rfl ?_
        refine px_cV (Y := yy_Ag_suit) (Yc := yy_Me_parameterAt) (b := e) (As := [.int (nI (j))]) dx_Ag_suit_40 ml_Ag_32 mv_Me_parameterAt np_Me_parameterAt ⟨_, rfl⟩ (by decide) kM.1 (by omega) rfl (Nat.le_of_ble_eq_true rfl) (Nat.le_of_ble_eq_true rfl) rk_Ag_suit_Me_parameterAt rfl (k_parameterAt (np := F 3 m) (pt := fun k => tt (F 4 (3 * m + k))) hE hR (by omega) hC.2.1 hC.2.2.2.2.2.1 (by omega)) zz_0 ?_
        refine px_eqi (y := nI (tt (F 4 (3 * m + j)))) (congrArg nI (if_pos (show j < F 3 m by omega))) ?_
        refine px_icmp_eqN (a := tt (a.2.1 j)) (b := tt (F 4 (3 * m + j))) dx_Ag_suit_43 (by (first | omega | exact Nat.lt_of_le_of_lt (tt_b _ (hA.2.2.2.1 _)) (by decide) | exact Nat.lt_of_le_of_lt (tt_b _ (hW.2.2.2.2.1 _)) (by decide))) (by (first | omega | exact Nat.lt_of_le_of_lt (tt_b _ (hA.2.2.2.1 _)) (by decide) | exact Nat.lt_of_le_of_lt (tt_b _ (hW.2.2.2.2.1 _)) (by decide))) (fun c_43 => ?_) (fun c_43 => ?_)
        · refine px_iinc (v := (nI (j + 1))) (lv' := [(2, .int (nI (j + 1))), (0, .ref (3)), (1, .ref (e))]) dx_Ag_suit_48 rfl (nI_1 _) (by decide) rfl ?_
          refine px_goto dx_Ag_suit_51 ?_
          refine px_sub [1, 2, 0] rfl ?_
          exact ih (j + 1) (by omega) (by omega) (by (show (_ && decide (a.2.1 j = F 4 (3 * m + j))) = true; rw [hs, decide_eq_true ((tt_inj _ _ (hA.2.2.2.1 _) (hW.2.2.2.2.1 _)).mp c_43)]; rfl))
        · refine px_iconst (v := 0) dx_Ag_suit_46 rfl ?_
          exact px_zret dx_Ag_suit_47 rfl (by decide) (by (have e : suO F a m = false := by (unfold suO; (have z : suP F a m (j + 1) = false := by (show (_ && decide (a.2.1 j = F 4 (3 * m + j))) = false; rw [decide_eq_false (fun q => c_43 (congrArg tt q)), Bool.and_false])); (have z2 := suP_f z (a.1 - (j + 1))); rw [show j + 1 + (a.1 - (j + 1)) = a.1 by omega] at z2; rw [z2, Bool.and_false])); rw [e] at hp; exact hp)
set_option maxRecDepth 100000 in
set_option maxHeartbeats 1000000 in
theorem k_suit {l : Launch} {G : fr_G} {σ : fr_S} {e : Nat} (hE : ME e) (hR : RF σ) {F : Nat → Nat → Nat} (hW : FW F) {m : Nat} (hC : CM σ e F m) {a : AV} (hA : KA σ a) : CT l G yy_Ag_suit rm_Ag_suit [.ref (3), .ref (e)] σ (some (.int (b2i (suO F a m)))) (σ) := by
  intro Post hp0
  have hp := hp0
  show PX l G yy_Ag_suit rm_Ag_suit _ false 742 0 0 0 [(0, .ref (3)), (1, .ref (e))] [] σ
  have kM := kd_M hE
  have h3 := hW.2.2.2.1 m
  have ha3 := hA.2.1
  refine px_aload_n dx_Ag_suit_0 rfl ?_
  refine px_getI dx_Ag_suit_1 fl_Ag_23 rfl (by decide) rfl ?_
  refine px_eqi (y := nI (a.1)) hA.1 ?_
  refine px_aload_n dx_Ag_suit_4 rfl ?_
  refine px_getI dx_Ag_suit_5 fl_Ag_27 kM.1 (by omega) rfl ?_
  refine px_eqi (y := nI (F 3 m)) hC.2.1 ?_
  refine px_icmp_eqN (a := a.1) (b := F 3 m) dx_Ag_suit_8 (by omega) (by omega) (fun c_8 => ?_) (fun c_8 => ?_)
  · refine px_iconst (v := 0) dx_Ag_suit_13 rfl ?_
    refine px_istore_n (lv' := [(2, .int (0)), (0, .ref (3)), (1, .ref (e))]) dx_Ag_suit_14 (by decide) rfl ?_
    refine px_sub [1, 2, 0] rfl ?_
    exact k_suit_lp hE hR hW hC hA (by omega) hp0 (a.1 + 1) 0 (by omega) (by omega) rfl
  · refine px_iconst (v := 0) dx_Ag_suit_11 rfl ?_
    exact px_zret dx_Ag_suit_12 rfl (by decide) (by (have e : suO F a m = false := by (unfold suO; rw [decide_eq_false (show ¬ F 3 m = a.1 by omega)]; rfl)); rw [e] at hp; exact hp)
set_option maxRecDepth 100000 in
set_option maxHeartbeats 1000000 in
theorem k_copyTo_lp {l : Launch} {G : fr_G} {σ : fr_S} {f : Nat} (hF : FE f) {e : Nat} (hE : ME e) (hR0 : RF σ) {F : Nat → Nat → Nat} (hW : FW F) {m : Nat} (hC0 : CM σ e F m) {a : AV} (hA0 : KA σ a) (hQ : pwF F m ≤ F 5 m) (hn : F 3 m = a.1) (hs : suP F a m a.1 = true) {Post : Option Value → fr_S → Prop} (hp : Post none (agS F a m f σ a.1)) : ∀ (d : Nat) (j : Nat), a.1 - j < d → j ≤ a.1 → PX l G yy_Ag_copyTo rm_Ag_copyTo (QR G false 742 0 0 Post) false 742 0 0 8 [(0, .ref (3)), (1, .ref (f)), (2, .ref (e)), (3, .int (nI (F 5 m - pwF F m + agK F m j))), (4, .int (nI (j)))] [] (agS F a m f σ j) := by
  intro d
  induction d with
  | zero => intro j hd; exact absurd hd (Nat.not_lt_zero _)
  | succ d ih =>
    intro j hd hj
    have kF := kd_F hF
    have kM := kd_M hE
    have h3 := hW.2.2.2.1 m
    have ha3 := hA0.2.1
    have h10 := hW.2.2.2.2.2.1 m
    have hR := agS_RF (F := F) (a := a) (m := m) (f := f) hR0 j
    refine px_iload dx_Ag_copyTo_8 rfl ?_
    refine px_aload_n dx_Ag_copyTo_10 rfl ?_
    refine px_getI dx_Ag_copyTo_11 fl_Ag_23 rfl (by decide) rfl ?_
    refine px_eqi (y := nI (a.1)) ((congrFun (congrFun (agS_I j) 3) 3).trans hA0.1) ?_
    refine px_icmp_geN (a := j) (b := a.1) dx_Ag_copyTo_14 (by omega) (by omega) (fun c_14 => ?_) (fun c_14 => ?_)
    · exact px_vret dx_Ag_copyTo_61 rfl (by (first | (exfalso; omega) | ((obtain rfl : j = a.1 := by omega); exact hp)))
    · refine px_iload dx_Ag_copyTo_17 rfl ?_
      refine px_iconst (v := 3) dx_Ag_copyTo_19 rfl ?_
      refine px_icmp_geN (a := j) (b := 3) dx_Ag_copyTo_20 (by omega) (by omega) (fun c_20 => ?_) (fun c_20 => ?_)
      · exact px_vret dx_Ag_copyTo_61 rfl (by (first | (exfalso; omega) | ((obtain rfl : j = a.1 := by omega); exact hp)))
      · refine px_aload_n dx_Ag_copyTo_23 rfl ?_
        refine px_iload_n dx_Ag_copyTo_24 rfl ?_
        refine px_aload_n dx_Ag_copyTo_25 rfl ?_
        refine px_getR (r := 5) dx_Ag_copyTo_26 fl_Ag_15 rfl (by decide) rfl hR.1.2.2.2.2.2.1 ?_
        refine px_iload dx_Ag_copyTo_29 rfl ?_
        refine px_laldN (j := j) dx_Ag_copyTo_31 rfl (by decide) (by omega) ?_
        refine px_eql (y := a.2.2.1 j) ((agS_L (by omega) j).trans (hA0.2.2.2.2.1 j (by omega))) ?_
        refine px_aload_n dx_Ag_copyTo_32 rfl ?_
        refine px_getR (r := 6) dx_Ag_copyTo_33 fl_Ag_19 rfl (by decide) rfl hR.1.2.2.2.2.2.2.1 ?_
        refine px_iload dx_Ag_copyTo_36 rfl ?_
        refine px_daldN (j := j) dx_Ag_copyTo_38 rfl (by decide) (by omega) ?_
        refine px_eqd (y := a.2.2.2 j) ((agS_D (by omega) j).trans (hA0.2.2.2.2.2 j (by omega))) ?_
        have hk2 := agK_mono F m (j + 1) (F 3 m) (by omega)
        rw [agK_s] at hk2
        have hpk : agK F m (F 3 m) = pwF F m := rfl
        have hwd : 1 ≤ wdt (F 4 (3 * m + j)) := (by unfold wdt; split <;> decide)
        refine px_cV (Y := yy_Ag_copyTo) (Yc := yy_Fr_set) (b := f) (As := [.int (nI (F 5 m - pwF F m + agK F m j)), .long (a.2.2.1 j), .double (a.2.2.2 j)]) dx_Ag_copyTo_39 ml_Ag_40 mv_Fr_set np_Fr_set ⟨_, rfl⟩ (by decide) kF.1 (by omega) rfl (Nat.le_of_ble_eq_true rfl) (Nat.le_of_ble_eq_true rfl) rk_Ag_copyTo_Fr_set rfl (k_set (r := F 5 m - pwF F m + agK F m j) hF hR (by omega)) zz_0 ?_
        have hR := agS_RF (F := F) (a := a) (m := m) (f := f) hR0 (j + 1)
        refine px_iload_n dx_Ag_copyTo_42 rfl ?_
        refine px_aload_n dx_Ag_copyTo_43 rfl ?_
        refine px_getR (r := 4) dx_Ag_copyTo_44 fl_Ag_9 rfl (by decide) rfl hR.1.2.2.2.2.1 ?_
        refine px_iload dx_Ag_copyTo_47 rfl ?_
        refine px_ialdN (j := j) dx_Ag_copyTo_49 rfl (by decide) (by omega) ?_
        refine px_eqi (y := nI (tt (a.2.1 j))) ((congrFun (congrFun (agS_I (j + 1)) 4) j).trans (hA0.2.2.1 j (by omega))) ?_
        refine px_cS (Y := yy_Ag_copyTo) (Yc := yy_V_widthOf) (As := [.int (nI (tt (a.2.1 j)))]) dx_Ag_copyTo_50 ml_Ag_46 ms_V_widthOf np_V_widthOf rfl (Nat.le_of_ble_eq_true rfl) (Nat.le_of_ble_eq_true rfl) rk_Ag_copyTo_V_widthOf rfl (k_widthOf (x := tt (a.2.1 j)) (by have := tt_b _ (hA0.2.2.2.1 j); omega)) zz_0 ?_
        refine px_eqi (y := nI (wdt (F 4 (3 * m + j)))) (congrArg nI ((wdc_w (hA0.2.2.2.1 _)).trans (congrArg wdt (suP_t hs j (by omega))))) ?_
        refine px_iaddN (a := F 5 m - pwF F m + agK F m j) (b := wdt (F 4 (3 * m + j))) dx_Ag_copyTo_53 ?_
        refine px_istore_n (lv' := [(3, .int (nI ((F 5 m - pwF F m + agK F m j) + (wdt (F 4 (3 * m + j)))))), (0, .ref (3)), (1, .ref (f)), (2, .ref (e)), (4, .int (nI (j)))]) dx_Ag_copyTo_54 (by decide) rfl ?_
        refine px_iinc (v := (nI (j + 1))) (lv' := [(4, .int (nI (j + 1))), (3, .int (nI ((F 5 m - pwF F m + agK F m j) + (wdt (F 4 (3 * m + j)))))), (0, .ref (3)), (1, .ref (f)), (2, .ref (e))]) dx_Ag_copyTo_55 rfl (nI_1 _) (by decide) rfl ?_
        refine px_goto dx_Ag_copyTo_58 ?_
        refine px_sub [2, 3, 4, 1, 0] rfl ?_
        have qq := ih (j + 1) (by omega) (by omega)
        rw [agK_s, ← Nat.add_assoc] at qq
        exact qq
set_option maxRecDepth 100000 in
set_option maxHeartbeats 1000000 in
theorem k_copyTo {l : Launch} {G : fr_G} {σ : fr_S} {f : Nat} (hF : FE f) {e : Nat} (hE : ME e) (hR0 : RF σ) {F : Nat → Nat → Nat} (hW : FW F) {m : Nat} (hC0 : CM σ e F m) {a : AV} (hA0 : KA σ a) (hQ : pwF F m ≤ F 5 m) (hn : F 3 m = a.1) (hs : suP F a m a.1 = true) : CT l G yy_Ag_copyTo rm_Ag_copyTo [.ref (3), .ref (f), .ref (e)] σ none (agS F a m f σ a.1) := by
  intro Post hp0
  have hp := hp0
  show PX l G yy_Ag_copyTo rm_Ag_copyTo _ false 742 0 0 0 [(0, .ref (3)), (1, .ref (f)), (2, .ref (e))] [] σ
  have kF := kd_F hF
  have kM := kd_M hE
  have h3 := hW.2.2.2.1 m
  have ha3 := hA0.2.1
  have h10 := hW.2.2.2.2.2.1 m
  refine px_aload_n dx_Ag_copyTo_0 rfl ?_
  refine px_cV (Y := yy_Ag_copyTo) (Yc := yy_Me_firstArgument) (b := e) (As := []) dx_Ag_copyTo_1 ml_Ag_36 mv_Me_firstArgument np_Me_firstArgument ⟨_, rfl⟩ (by decide) kM.1 (by omega) rfl (Nat.le_of_ble_eq_true rfl) (Nat.le_of_ble_eq_true rfl) rk_Ag_copyTo_Me_firstArgument rfl (k_firstArgument (rg := F 5 m) (w := pwF F m) hE hC0.2.2.2.1 hC0.2.2.1 hQ) zz_0 ?_
  refine px_istore_n (lv' := [(3, .int (nI (F 5 m - pwF F m))), (0, .ref (3)), (1, .ref (f)), (2, .ref (e))]) dx_Ag_copyTo_4 (by decide) rfl ?_
  refine px_iconst (v := 0) dx_Ag_copyTo_5 rfl ?_
  refine px_istore (lv' := [(4, .int (0)), (3, .int (nI (F 5 m - pwF F m))), (0, .ref (3)), (1, .ref (f)), (2, .ref (e))]) dx_Ag_copyTo_6 (by decide) rfl ?_
  refine px_sub [2, 3, 4, 1, 0] rfl ?_
  exact k_copyTo_lp hF hE hR0 hW hC0 hA0 hQ hn hs hp0 (a.1 + 1) 0 (by omega) (by omega)
