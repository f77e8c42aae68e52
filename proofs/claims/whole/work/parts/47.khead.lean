/-! the class: the head, the number of units, the end -/
theorem k_takex {l : Launch} {G : fr_G} {σ : fr_S} (hR : RF σ) {b : Nat → Nat} {n : Nat} (hB : KB σ b n) {s : PS} (hP : KPs σ s) {lo hi : Nat} (hlo : lo < 256) (hhi : hi < 256) {x : Nat × PS} (hx : x = nx b n lo hi lo s) : CR l G yy_Fb_take rm_Fb_take [.ref 1, .int (nI lo), .int (nI hi)] σ (fun r0 σ' => r0 = some (.int (nI x.1)) ∧ Agp P1 σ σ' ∧ KPs σ' x.2) := hx ▸ k_take hR hB hP hlo hhi
/-- the number of units as the class holds it -/
def rdNc (u : Nat × PS) : Nat := if 1 ≤ u.1 ∧ u.1 ≤ 40 then u.1 else 0

set_option maxRecDepth 100000 in
set_option maxHeartbeats 1000000 in
theorem k_unitCount {l : Launch} {G : fr_G} {σ : fr_S} (hR : RF σ) {b : Nat → Nat} {n : Nat} (hB : KB σ b n) {s : PS} (hP : KPs σ s) : CR l G yy_Fb_takeUnitCount rm_Fb_takeUnitCount [.ref (1)] σ (fun r0 σ' => r0 = some (.int (nI (rdNc (rdN b n s)))) ∧ Agp P1 σ σ' ∧ KPs σ' (rdS (rdN b n s))) := by
  intro Post hp0
  show PX l G yy_Fb_takeUnitCount rm_Fb_takeUnitCount _ false 742 0 0 0 [(0, .ref (1))] [] σ
  have hA0 : Agp P1 σ σ := Agp.rf
  refine px_aload_n dx_Fb_takeUnitCount_0 rfl ?_
  refine px_iconst (v := 0) dx_Fb_takeUnitCount_1 rfl ?_
  refine px_sipush (v := 255) dx_Fb_takeUnitCount_2 rfl ?_
  obtain ⟨x_5, hx_5⟩ : ∃ z, z = nx b n (0) (255) (0) s := ⟨_, rfl⟩
  have hbx_5 : x_5.1 ≤ 255 := hx_5 ▸ nx_le (by decide)
  refine px_cVR (Y := yy_Fb_takeUnitCount) (Yc := yy_Fb_take) (b := 1) (As := [.int (0), .int (255)]) dx_Fb_takeUnitCount_5 ml_Fb_35 mv_Fb_take np_Fb_take ⟨_, rfl⟩ (by decide) rfl (by decide) rfl (Nat.le_of_ble_eq_true rfl) (Nat.le_of_ble_eq_true rfl) rk_Fb_takeUnitCount_Fb_take rfl (k_takex (lo := 0) (hi := 255) hR hB hP (by decide) (by decide) hx_5) zz_0 (fun r_5 τ_5 h_5 => ?_)
  obtain ⟨rfl, hA, hP⟩ := h_5
  have hB := hB.p1 hA
  have hR := hA.rfs hR
  have hA0 := hA0.tr hA
  refine px_istore_n (lv' := [(1, .int (nI (x_5.1))), (0, .ref (1))]) dx_Fb_takeUnitCount_8 (by decide) rfl ?_
  refine px_iload_n dx_Fb_takeUnitCount_9 rfl ?_
  refine px_sipush (v := 128) dx_Fb_takeUnitCount_10 rfl ?_
  refine px_icmp_ltN (a := x_5.1) (b := 128) dx_Fb_takeUnitCount_13 (by omega) (by omega) (fun c_13 => ?_) (fun c_13 => ?_)
  · refine px_iload_n dx_Fb_takeUnitCount_34 rfl ?_
    refine px_iconst (v := 1) dx_Fb_takeUnitCount_35 rfl ?_
    refine px_icmp_ltN (a := x_5.1) (b := 1) dx_Fb_takeUnitCount_36 (by omega) (by omega) (fun c_36 => ?_) (fun c_36 => ?_)
    · refine px_aload_n dx_Fb_takeUnitCount_47 rfl ?_
      refine px_getI dx_Fb_takeUnitCount_48 fl_Fb_22 rfl (by decide) rfl ?_
      refine px_eqi (y := ilI x_5.2) hP.2.1 ?_
      refine px_iconst (v := -1) dx_Fb_takeUnitCount_51 rfl ?_
      refine px_icmp_ne dx_Fb_takeUnitCount_52 (fun c_52 => ?_) (fun c_52 => ?_)
      · refine px_iconst (v := 0) dx_Fb_takeUnitCount_65 rfl ?_
        exact px_iret dx_Fb_takeUnitCount_66 rfl (by (have e0 : rdN b n s = (x_5.1, x_5.2) := by (rw [rdN_a (x := x_5) hx_5 (by omega)]; rw [show x_5.1 % 128 = x_5.1 by omega])); rw [e0] at hp0; have hs : x_5.2.2 = true := (by cases q : x_5.2.2 with | true => rfl | false => exact absurd ((ilI_e hP.1).mpr q) c_52); rw [rdS_i hs, show rdNc (x_5.1, x_5.2) = 0 from if_neg (show ¬ (1 ≤ x_5.1 ∧ x_5.1 ≤ 40) by omega)] at hp0; exact hp0 _ _ ⟨rfl, hA0, hP⟩)
      · have hs : x_5.2.2 = false := (ilI_e hP.1).mp c_52
        have hg := nx_g (by rw [← hx_5]; exact hs)
        have hx1 : 1 ≤ x_5.2.1 := by (have := hg.2.1; rw [← hx_5] at this; omega)
        refine px_aload_n dx_Fb_takeUnitCount_55 rfl ?_
        refine px_aload_n dx_Fb_takeUnitCount_56 rfl ?_
        refine px_getI dx_Fb_takeUnitCount_57 fl_Fb_19 rfl (by decide) rfl ?_
        refine px_eqi (y := nI (x_5.2.1)) (hP.2.2 hs) ?_
        refine px_iconst (v := 1) dx_Fb_takeUnitCount_60 rfl ?_
        refine px_isubN (a := x_5.2.1) (b := 1) dx_Fb_takeUnitCount_61 (by omega) ?_
        refine px_putI dx_Fb_takeUnitCount_62 fl_Fb_22 rfl (by decide) rfl ?_
        refine px_iconst (v := 0) dx_Fb_takeUnitCount_65 rfl ?_
        exact px_iret dx_Fb_takeUnitCount_66 rfl (by (have e0 : rdN b n s = (x_5.1, x_5.2) := by (rw [rdN_a (x := x_5) hx_5 (by omega)]; rw [show x_5.1 % 128 = x_5.1 by omega])); rw [e0] at hp0; rw [rdS_b hs (show x_5.1 < 1 ∨ 40 < x_5.1 by omega), show rdNc (x_5.1, x_5.2) = 0 from if_neg (show ¬ (1 ≤ x_5.1 ∧ x_5.1 ≤ 40) by omega)] at hp0; exact hp0 _ _ ⟨rfl, hA0.w ⟨rfl, Or.inr rfl⟩, by have := hP.1; (show x_5.2.1 - 1 ≤ 220); omega, gI_s, fun q => by cases q⟩)
    · refine px_iload_n dx_Fb_takeUnitCount_39 rfl ?_
      refine px_bipush (v := 40) dx_Fb_takeUnitCount_40 rfl ?_
      refine px_icmp_gtN (a := x_5.1) (b := 40) dx_Fb_takeUnitCount_42 (by omega) (by omega) (fun c_42 => ?_) (fun c_42 => ?_)
      · refine px_aload_n dx_Fb_takeUnitCount_47 rfl ?_
        refine px_getI dx_Fb_takeUnitCount_48 fl_Fb_22 rfl (by decide) rfl ?_
        refine px_eqi (y := ilI x_5.2) hP.2.1 ?_
        refine px_iconst (v := -1) dx_Fb_takeUnitCount_51 rfl ?_
        refine px_icmp_ne dx_Fb_takeUnitCount_52 (fun c_52 => ?_) (fun c_52 => ?_)
        · refine px_iconst (v := 0) dx_Fb_takeUnitCount_65 rfl ?_
          exact px_iret dx_Fb_takeUnitCount_66 rfl (by (have e0 : rdN b n s = (x_5.1, x_5.2) := by (rw [rdN_a (x := x_5) hx_5 (by omega)]; rw [show x_5.1 % 128 = x_5.1 by omega])); rw [e0] at hp0; have hs : x_5.2.2 = true := (by cases q : x_5.2.2 with | true => rfl | false => exact absurd ((ilI_e hP.1).mpr q) c_52); rw [rdS_i hs, show rdNc (x_5.1, x_5.2) = 0 from if_neg (show ¬ (1 ≤ x_5.1 ∧ x_5.1 ≤ 40) by omega)] at hp0; exact hp0 _ _ ⟨rfl, hA0, hP⟩)
        · have hs : x_5.2.2 = false := (ilI_e hP.1).mp c_52
          have hg := nx_g (by rw [← hx_5]; exact hs)
          have hx1 : 1 ≤ x_5.2.1 := by (have := hg.2.1; rw [← hx_5] at this; omega)
          refine px_aload_n dx_Fb_takeUnitCount_55 rfl ?_
          refine px_aload_n dx_Fb_takeUnitCount_56 rfl ?_
          refine px_getI dx_Fb_takeUnitCount_57 fl_Fb_19 rfl (by decide) rfl ?_
          refine px_eqi (y := nI (x_5.2.1)) (hP.2.2 hs) ?_
          refine px_iconst (v := 1) dx_Fb_takeUnitCount_60 rfl ?_
          refine px_isubN (a := x_5.2.1) (b := 1) dx_Fb_takeUnitCount_61 (by omega) ?_
          refine px_putI dx_Fb_takeUnitCount_62 fl_Fb_22 rfl (by decide) rfl ?_
          refine px_iconst (v := 0) dx_Fb_takeUnitCount_65 rfl ?_
          exact px_iret dx_Fb_takeUnitCount_66 rfl (by (have e0 : rdN b n s = (x_5.1, x_5.2) := by (rw [rdN_a (x := x_5) hx_5 (by omega)]; rw [show x_5.1 % 128 = x_5.1 by omega])); rw [e0] at hp0; rw [rdS_b hs (show x_5.1 < 1 ∨ 40 < x_5.1 by omega), show rdNc (x_5.1, x_5.2) = 0 from if_neg (show ¬ (1 ≤ x_5.1 ∧ x_5.1 ≤ 40) by omega)] at hp0; exact hp0 _ _ ⟨rfl, hA0.w ⟨rfl, Or.inr rfl⟩, by have := hP.1; (show x_5.2.1 - 1 ≤ 220); omega, gI_s, fun q => by cases q⟩)
      · refine px_iload_n dx_Fb_takeUnitCount_45 rfl ?_
        exact px_iret dx_Fb_takeUnitCount_46 rfl (by (have e0 : rdN b n s = (x_5.1, x_5.2) := by (rw [rdN_a (x := x_5) hx_5 (by omega)]; rw [show x_5.1 % 128 = x_5.1 by omega])); rw [e0] at hp0; rw [rdS_g (show 1 ≤ x_5.1 ∧ x_5.1 ≤ 40 by omega), show rdNc (x_5.1, x_5.2) = x_5.1 from if_pos (show 1 ≤ x_5.1 ∧ x_5.1 ≤ 40 by omega)] at hp0; exact hp0 _ _ ⟨rfl, hA0, hP⟩)
  · refine px_iload_n dx_Fb_takeUnitCount_16 rfl ?_
    refine px_sipush (v := 128) dx_Fb_takeUnitCount_17 rfl ?_
    refine px_isubN (a := x_5.1) (b := 128) dx_Fb_takeUnitCount_20 (by omega) ?_
    refine px_sipush (v := 128) dx_Fb_takeUnitCount_21 rfl ?_
    refine px_aload_n dx_Fb_takeUnitCount_24 rfl ?_
    refine px_iconst (v := 0) dx_Fb_takeUnitCount_25 rfl ?_
    refine px_bipush (v := 127) dx_Fb_takeUnitCount_26 rfl ?_
    obtain ⟨x_28, hx_28⟩ : ∃ z, z = nx b n (0) (127) (0) x_5.2 := ⟨_, rfl⟩
    have hbx_28 : x_28.1 ≤ 127 := hx_28 ▸ nx_le (by decide)
    refine px_cVR (Y := yy_Fb_takeUnitCount) (Yc := yy_Fb_take) (b := 1) (As := [.int (0), .int (127)]) dx_Fb_takeUnitCount_28 ml_Fb_35 mv_Fb_take np_Fb_take ⟨_, rfl⟩ (by decide) rfl (by decide) rfl (Nat.le_of_ble_eq_true rfl) (Nat.le_of_ble_eq_true rfl) rk_Fb_takeUnitCount_Fb_take rfl (k_takex (lo := 0) (hi := 127) hR hB hP (by decide) (by decide) hx_28) zz_0 (fun r_28 τ_28 h_28 => ?_)
    obtain ⟨rfl, hA, hP⟩ := h_28
    have hB := hB.p1 hA
    have hR := hA.rfs hR
    have hA0 := hA0.tr hA
    refine px_imulN (a := 128) (b := x_28.1) dx_Fb_takeUnitCount_31 ?_
    refine px_iaddN (a := x_5.1 - 128) (b := 128 * x_28.1) dx_Fb_takeUnitCount_32 ?_
    refine px_istore_n (lv' := [(1, .int (nI ((x_5.1 - 128) + (128 * x_28.1)))), (0, .ref (1))]) dx_Fb_takeUnitCount_33 (by decide) rfl ?_
    refine px_iload_n dx_Fb_takeUnitCount_34 rfl ?_
    refine px_iconst (v := 1) dx_Fb_takeUnitCount_35 rfl ?_
    refine px_icmp_ltN (a := (x_5.1 - 128) + (128 * x_28.1)) (b := 1) dx_Fb_takeUnitCount_36 (by omega) (by omega) (fun c_36 => ?_) (fun c_36 => ?_)
    · refine px_aload_n dx_Fb_takeUnitCount_47 rfl ?_
      refine px_getI dx_Fb_takeUnitCount_48 fl_Fb_22 rfl (by decide) rfl ?_
      refine px_eqi (y := ilI x_28.2) hP.2.1 ?_
      refine px_iconst (v := -1) dx_Fb_takeUnitCount_51 rfl ?_
      refine px_icmp_ne dx_Fb_takeUnitCount_52 (fun c_52 => ?_) (fun c_52 => ?_)
      · refine px_iconst (v := 0) dx_Fb_takeUnitCount_65 rfl ?_
        exact px_iret dx_Fb_takeUnitCount_66 rfl (by (have e0 : rdN b n s = (x_5.1 - 128 + 128 * x_28.1, x_28.2) := by (rw [rdN_b (x := x_5) (y := x_28) hx_5 hx_28 (by omega)]; rw [show x_5.1 % 128 = x_5.1 - 128 by omega])); rw [e0] at hp0; have hs : x_28.2.2 = true := (by cases q : x_28.2.2 with | true => rfl | false => exact absurd ((ilI_e hP.1).mpr q) c_52); rw [rdS_i hs, show rdNc ((x_5.1 - 128 + 128 * x_28.1), x_28.2) = 0 from if_neg (show ¬ (1 ≤ (x_5.1 - 128 + 128 * x_28.1) ∧ (x_5.1 - 128 + 128 * x_28.1) ≤ 40) by omega)] at hp0; exact hp0 _ _ ⟨rfl, hA0, hP⟩)
      · have hs : x_28.2.2 = false := (ilI_e hP.1).mp c_52
        have hg := nx_g (by rw [← hx_28]; exact hs)
        have hx1 : 1 ≤ x_28.2.1 := by (have := hg.2.1; rw [← hx_28] at this; omega)
        refine px_aload_n dx_Fb_takeUnitCount_55 rfl ?_
        refine px_aload_n dx_Fb_takeUnitCount_56 rfl ?_
        refine px_getI dx_Fb_takeUnitCount_57 fl_Fb_19 rfl (by decide) rfl ?_
        refine px_eqi (y := nI (x_28.2.1)) (hP.2.2 hs) ?_
        refine px_iconst (v := 1) dx_Fb_takeUnitCount_60 rfl ?_
        refine px_isubN (a := x_28.2.1) (b := 1) dx_Fb_takeUnitCount_61 (by omega) ?_
        refine px_putI dx_Fb_takeUnitCount_62 fl_Fb_22 rfl (by decide) rfl ?_
        refine px_iconst (v := 0) dx_Fb_takeUnitCount_65 rfl ?_
        exact px_iret dx_Fb_takeUnitCount_66 rfl (by (have e0 : rdN b n s = (x_5.1 - 128 + 128 * x_28.1, x_28.2) := by (rw [rdN_b (x := x_5) (y := x_28) hx_5 hx_28 (by omega)]; rw [show x_5.1 % 128 = x_5.1 - 128 by omega])); rw [e0] at hp0; rw [rdS_b hs (show (x_5.1 - 128 + 128 * x_28.1) < 1 ∨ 40 < (x_5.1 - 128 + 128 * x_28.1) by omega), show rdNc ((x_5.1 - 128 + 128 * x_28.1), x_28.2) = 0 from if_neg (show ¬ (1 ≤ (x_5.1 - 128 + 128 * x_28.1) ∧ (x_5.1 - 128 + 128 * x_28.1) ≤ 40) by omega)] at hp0; exact hp0 _ _ ⟨rfl, hA0.w ⟨rfl, Or.inr rfl⟩, by have := hP.1; (show x_28.2.1 - 1 ≤ 220); omega, gI_s, fun q => by cases q⟩)
    · refine px_iload_n dx_Fb_takeUnitCount_39 rfl ?_
      refine px_bipush (v := 40) dx_Fb_takeUnitCount_40 rfl ?_
      refine px_icmp_gtN (a := (x_5.1 - 128) + (128 * x_28.1)) (b := 40) dx_Fb_takeUnitCount_42 (by omega) (by omega) (fun c_42 => ?_) (fun c_42 => ?_)
      · refine px_aload_n dx_Fb_takeUnitCount_47 rfl ?_
        refine px_getI dx_Fb_takeUnitCount_48 fl_Fb_22 rfl (by decide) rfl ?_
        refine px_eqi (y := ilI x_28.2) hP.2.1 ?_
        refine px_iconst (v := -1) dx_Fb_takeUnitCount_51 rfl ?_
        refine px_icmp_ne dx_Fb_takeUnitCount_52 (fun c_52 => ?_) (fun c_52 => ?_)
        · refine px_iconst (v := 0) dx_Fb_takeUnitCount_65 rfl ?_
          exact px_iret dx_Fb_takeUnitCount_66 rfl (by (have e0 : rdN b n s = (x_5.1 - 128 + 128 * x_28.1, x_28.2) := by (rw [rdN_b (x := x_5) (y := x_28) hx_5 hx_28 (by omega)]; rw [show x_5.1 % 128 = x_5.1 - 128 by omega])); rw [e0] at hp0; have hs : x_28.2.2 = true := (by cases q : x_28.2.2 with | true => rfl | false => exact absurd ((ilI_e hP.1).mpr q) c_52); rw [rdS_i hs, show rdNc ((x_5.1 - 128 + 128 * x_28.1), x_28.2) = 0 from if_neg (show ¬ (1 ≤ (x_5.1 - 128 + 128 * x_28.1) ∧ (x_5.1 - 128 + 128 * x_28.1) ≤ 40) by omega)] at hp0; exact hp0 _ _ ⟨rfl, hA0, hP⟩)
        · have hs : x_28.2.2 = false := (ilI_e hP.1).mp c_52
          have hg := nx_g (by rw [← hx_28]; exact hs)
          have hx1 : 1 ≤ x_28.2.1 := by (have := hg.2.1; rw [← hx_28] at this; omega)
          refine px_aload_n dx_Fb_takeUnitCount_55 rfl ?_
          refine px_aload_n dx_Fb_takeUnitCount_56 rfl ?_
          refine px_getI dx_Fb_takeUnitCount_57 fl_Fb_19 rfl (by decide) rfl ?_
          refine px_eqi (y := nI (x_28.2.1)) (hP.2.2 hs) ?_
          refine px_iconst (v := 1) dx_Fb_takeUnitCount_60 rfl ?_
          refine px_isubN (a := x_28.2.1) (b := 1) dx_Fb_takeUnitCount_61 (by omega) ?_
          refine px_putI dx_Fb_takeUnitCount_62 fl_Fb_22 rfl (by decide) rfl ?_
          refine px_iconst (v := 0) dx_Fb_takeUnitCount_65 rfl ?_
          exact px_iret dx_Fb_takeUnitCount_66 rfl (by (have e0 : rdN b n s = (x_5.1 - 128 + 128 * x_28.1, x_28.2) := by (rw [rdN_b (x := x_5) (y := x_28) hx_5 hx_28 (by omega)]; rw [show x_5.1 % 128 = x_5.1 - 128 by omega])); rw [e0] at hp0; rw [rdS_b hs (show (x_5.1 - 128 + 128 * x_28.1) < 1 ∨ 40 < (x_5.1 - 128 + 128 * x_28.1) by omega), show rdNc ((x_5.1 - 128 + 128 * x_28.1), x_28.2) = 0 from if_neg (show ¬ (1 ≤ (x_5.1 - 128 + 128 * x_28.1) ∧ (x_5.1 - 128 + 128 * x_28.1) ≤ 40) by omega)] at hp0; exact hp0 _ _ ⟨rfl, hA0.w ⟨rfl, Or.inr rfl⟩, by have := hP.1; (show x_28.2.1 - 1 ≤ 220); omega, gI_s, fun q => by cases q⟩)
      · refine px_iload_n dx_Fb_takeUnitCount_45 rfl ?_
        exact px_iret dx_Fb_takeUnitCount_46 rfl (by (have e0 : rdN b n s = (x_5.1 - 128 + 128 * x_28.1, x_28.2) := by (rw [rdN_b (x := x_5) (y := x_28) hx_5 hx_28 (by omega)]; rw [show x_5.1 % 128 = x_5.1 - 128 by omega])); rw [e0] at hp0; rw [rdS_g (show 1 ≤ (x_5.1 - 128 + 128 * x_28.1) ∧ (x_5.1 - 128 + 128 * x_28.1) ≤ 40 by omega), show rdNc ((x_5.1 - 128 + 128 * x_28.1), x_28.2) = (x_5.1 - 128 + 128 * x_28.1) from if_pos (show 1 ≤ (x_5.1 - 128 + 128 * x_28.1) ∧ (x_5.1 - 128 + 128 * x_28.1) ≤ 40 by omega)] at hp0; exact hp0 _ _ ⟨rfl, hA0, hP⟩)
set_option maxRecDepth 100000 in
set_option maxHeartbeats 1000000 in
theorem k_takeHead_lp {l : Launch} {G : fr_G} {σ : fr_S} (hR0 : RF σ) {b : Nat → Nat} {n : Nat} (hB0 : KB σ b n) {Post : Option Value → fr_S → Prop} (hp0 : ∀ r σ', (fun r0 σ' => r0 = none ∧ Agp P1 σ σ' ∧ KPs σ' (rdC b n (rdH b n) 4).2) r σ' → Post r σ') : ∀ (d : Nat) (j : Nat) (σ1 : fr_S), 4 - j < d → j ≤ 4 → Agp P1 σ σ1 → KPs σ1 (rdC b n (rdH b n) j).2 → PX l G yy_Fb_takeHead rm_Fb_takeHead (QR G false 742 0 0 Post) false 742 0 0 48 [(0, .ref (1)), (1, .int (nI (j)))] [] (σ1) := by
  intro d
  induction d with
  | zero => intro j σ1 hd; exact absurd hd (Nat.not_lt_zero _)
  | succ d ih =>
    intro j σ1 hd hj hA0 hP
    have hR := hA0.rfs hR0
    have hB := hB0.p1 hA0
    refine px_iload_n dx_Fb_takeHead_48 rfl ?_
    refine px_iconst (v := 4) dx_Fb_takeHead_49 rfl ?_
    refine px_icmp_geN (a := j) (b := 4) dx_Fb_takeHead_50 (by omega) (by omega) (fun c_50 => ?_) (fun c_50 => ?_)
    · exact px_vret dx_Fb_takeHead_68 rfl (by (obtain rfl : j = 4 := by omega); exact hp0 _ _ ⟨rfl, hA0, hP⟩)
    · refine px_aload_n dx_Fb_takeHead_53 rfl ?_
      refine px_iconst (v := 0) dx_Fb_takeHead_54 rfl ?_
      refine px_sipush (v := 255) dx_Fb_takeHead_55 rfl ?_
      obtain ⟨x_58, hx_58⟩ : ∃ z, z = nx b n (0) (255) (0) ((rdC b n (rdH b n) j).2) := ⟨_, rfl⟩
      have hbx_58 : x_58.1 ≤ 255 := hx_58 ▸ nx_le (by decide)
      refine px_cVR (Y := yy_Fb_takeHead) (Yc := yy_Fb_take) (b := 1) (As := [.int (0), .int (255)]) dx_Fb_takeHead_58 ml_Fb_35 mv_Fb_take np_Fb_take ⟨_, rfl⟩ (by decide) rfl (by decide) rfl (Nat.le_of_ble_eq_true rfl) (Nat.le_of_ble_eq_true rfl) rk_Fb_takeHead_Fb_take rfl (k_takex (lo := 0) (hi := 255) hR hB hP (by decide) (by decide) hx_58) zz_0 (fun r_58 τ_58 h_58 => ?_)
      obtain ⟨rfl, hA, hP⟩ := h_58
      have hB := hB.p1 hA
      have hR := hA.rfs hR
      have hA0 := hA0.tr hA
      refine px_pop dx_Fb_takeHead_61 rfl ?_
      refine px_iinc (v := (nI (j + 1))) (lv' := [(1, .int (nI (j + 1))), (0, .ref (1))]) dx_Fb_takeHead_62 rfl (nI_1 _) (by decide) rfl ?_
      refine px_goto dx_Fb_takeHead_65 ?_
      refine px_sub [1, 0] rfl ?_
      exact ih (j + 1) _ (by omega) (by omega) hA0 (by rw [hx_58] at hP; exact hP)
set_option maxRecDepth 100000 in
set_option maxHeartbeats 1000000 in
theorem k_takeHead {l : Launch} {G : fr_G} {σ : fr_S} (hR0 : RF σ) {b : Nat → Nat} {n : Nat} (hB0 : KB σ b n) : CR l G yy_Fb_takeHead rm_Fb_takeHead [.ref (1)] σ (fun r0 σ' => r0 = none ∧ Agp P1 σ σ' ∧ KPs σ' (rdC b n (rdH b n) 4).2) := by
  intro Post hp0
  show PX l G yy_Fb_takeHead rm_Fb_takeHead _ false 742 0 0 0 [(0, .ref (1))] [] σ
  refine px_aload_n dx_Fb_takeHead_0 rfl ?_
  refine px_iconst (v := 0) dx_Fb_takeHead_1 rfl ?_
  refine px_putI dx_Fb_takeHead_2 fl_Fb_19 rfl (by decide) rfl ?_
  refine px_aload_n dx_Fb_takeHead_5 rfl ?_
  refine px_iconst (v := -1) dx_Fb_takeHead_6 rfl ?_
  refine px_putI dx_Fb_takeHead_7 fl_Fb_22 rfl (by decide) rfl ?_
  obtain ⟨σ1, hσ1⟩ : ∃ z, z = sI (sI σ 1 2 0) 1 3 (-1) := ⟨_, rfl⟩
  rw [← hσ1]
  have hA0 : Agp P1 σ σ1 := by (rw [hσ1]; exact (Agp.rf.w ⟨rfl, Or.inl rfl⟩).w ⟨rfl, Or.inr rfl⟩)
  have hP : KPs σ1 (0, false) := by (rw [hσ1]; exact ⟨Nat.zero_le _, gI_s, fun _ => (gI_n (Or.inr (by decide))).trans gI_s⟩)
  have hB := hB0.p1 hA0
  have hR := hA0.rfs hR0
  refine px_aload_n dx_Fb_takeHead_10 rfl ?_
  refine px_bipush (v := 100) dx_Fb_takeHead_11 rfl ?_
  refine px_bipush (v := 100) dx_Fb_takeHead_13 rfl ?_
  obtain ⟨x_15, hx_15⟩ : ∃ z, z = nx b n (100) (100) (100) (0, false) := ⟨_, rfl⟩
  have hbx_15 : x_15.1 ≤ 100 := hx_15 ▸ nx_le (by decide)
  refine px_cVR (Y := yy_Fb_takeHead) (Yc := yy_Fb_take) (b := 1) (As := [.int (100), .int (100)]) dx_Fb_takeHead_15 ml_Fb_35 mv_Fb_take np_Fb_take ⟨_, rfl⟩ (by decide) rfl (by decide) rfl (Nat.le_of_ble_eq_true rfl) (Nat.le_of_ble_eq_true rfl) rk_Fb_takeHead_Fb_take rfl (k_takex (lo := 100) (hi := 100) hR hB hP (by decide) (by decide) hx_15) zz_0 (fun r_15 τ_15 h_15 => ?_)
  obtain ⟨rfl, hA, hP⟩ := h_15
  have hB := hB.p1 hA
  have hR := hA.rfs hR
  have hA0 := hA0.tr hA
  refine px_pop dx_Fb_takeHead_18 rfl ?_
  refine px_aload_n dx_Fb_takeHead_19 rfl ?_
  refine px_bipush (v := 101) dx_Fb_takeHead_20 rfl ?_
  refine px_bipush (v := 101) dx_Fb_takeHead_22 rfl ?_
  obtain ⟨x_24, hx_24⟩ : ∃ z, z = nx b n (101) (101) (101) x_15.2 := ⟨_, rfl⟩
  have hbx_24 : x_24.1 ≤ 101 := hx_24 ▸ nx_le (by decide)
  refine px_cVR (Y := yy_Fb_takeHead) (Yc := yy_Fb_take) (b := 1) (As := [.int (101), .int (101)]) dx_Fb_takeHead_24 ml_Fb_35 mv_Fb_take np_Fb_take ⟨_, rfl⟩ (by decide) rfl (by decide) rfl (Nat.le_of_ble_eq_true rfl) (Nat.le_of_ble_eq_true rfl) rk_Fb_takeHead_Fb_take rfl (k_takex (lo := 101) (hi := 101) hR hB hP (by decide) (by decide) hx_24) zz_0 (fun r_24 τ_24 h_24 => ?_)
  obtain ⟨rfl, hA, hP⟩ := h_24
  have hB := hB.p1 hA
  have hR := hA.rfs hR
  have hA0 := hA0.tr hA
  refine px_pop dx_Fb_takeHead_27 rfl ?_
  refine px_aload_n dx_Fb_takeHead_28 rfl ?_
  refine px_bipush (v := 120) dx_Fb_takeHead_29 rfl ?_
  refine px_bipush (v := 120) dx_Fb_takeHead_31 rfl ?_
  obtain ⟨x_33, hx_33⟩ : ∃ z, z = nx b n (120) (120) (120) x_24.2 := ⟨_, rfl⟩
  have hbx_33 : x_33.1 ≤ 120 := hx_33 ▸ nx_le (by decide)
  refine px_cVR (Y := yy_Fb_takeHead) (Yc := yy_Fb_take) (b := 1) (As := [.int (120), .int (120)]) dx_Fb_takeHead_33 ml_Fb_35 mv_Fb_take np_Fb_take ⟨_, rfl⟩ (by decide) rfl (by decide) rfl (Nat.le_of_ble_eq_true rfl) (Nat.le_of_ble_eq_true rfl) rk_Fb_takeHead_Fb_take rfl (k_takex (lo := 120) (hi := 120) hR hB hP (by decide) (by decide) hx_33) zz_0 (fun r_33 τ_33 h_33 => ?_)
  obtain ⟨rfl, hA, hP⟩ := h_33
  have hB := hB.p1 hA
  have hR := hA.rfs hR
  have hA0 := hA0.tr hA
  refine px_pop dx_Fb_takeHead_36 rfl ?_
  refine px_aload_n dx_Fb_takeHead_37 rfl ?_
  refine px_bipush (v := 10) dx_Fb_takeHead_38 rfl ?_
  refine px_bipush (v := 10) dx_Fb_takeHead_40 rfl ?_
  obtain ⟨x_42, hx_42⟩ : ∃ z, z = nx b n (10) (10) (10) x_33.2 := ⟨_, rfl⟩
  have hbx_42 : x_42.1 ≤ 10 := hx_42 ▸ nx_le (by decide)
  refine px_cVR (Y := yy_Fb_takeHead) (Yc := yy_Fb_take) (b := 1) (As := [.int (10), .int (10)]) dx_Fb_takeHead_42 ml_Fb_35 mv_Fb_take np_Fb_take ⟨_, rfl⟩ (by decide) rfl (by decide) rfl (Nat.le_of_ble_eq_true rfl) (Nat.le_of_ble_eq_true rfl) rk_Fb_takeHead_Fb_take rfl (k_takex (lo := 10) (hi := 10) hR hB hP (by decide) (by decide) hx_42) zz_0 (fun r_42 τ_42 h_42 => ?_)
  obtain ⟨rfl, hA, hP⟩ := h_42
  have hB := hB.p1 hA
  have hR := hA.rfs hR
  have hA0 := hA0.tr hA
  refine px_pop dx_Fb_takeHead_45 rfl ?_
  refine px_iconst (v := 0) dx_Fb_takeHead_46 rfl ?_
  refine px_istore_n (lv' := [(1, .int (0)), (0, .ref (1))]) dx_Fb_takeHead_47 (by decide) rfl ?_
  refine px_sub [1, 0] rfl ?_
  exact k_takeHead_lp (σ := σ) hR0 hB0 hp0 5 0 _ (by omega) (by omega) hA0 (by (show KPs _ (nx b n 10 10 0 (nx b n 120 120 0 (nx b n 101 101 0 (nx b n 100 100 0 (0, false)).2).2).2).2); rw [hx_42, nx_d (d' := 0), hx_33, nx_d (d := 120) (d' := 0), hx_24, nx_d (d := 101) (d' := 0), hx_15, nx_d (d := 100) (d' := 0)] at hP; exact hP)

theorem tlV_lt {b : Nat → Nat} (h : ∀ k, b k < 256) : tlV b < 2 ^ 32 := by
  have := h 4
  have := h 5
  have := h 6
  have := h 7
  unfold tlV
  omega

set_option maxRecDepth 100000 in
set_option maxHeartbeats 1000000 in
theorem k_takeEnd {l : Launch} {G : fr_G} {σ : fr_S} (hR : RF σ) {b : Nat → Nat} {n : Nat} (hB : KB σ b n) {s : PS} (hP : KPs σ s) : CR l G yy_Fb_takeEnd rm_Fb_takeEnd [.ref (1)] σ (fun r0 σ' => r0 = none ∧ Agp P1 σ σ' ∧ KPs σ' (rdE b n (tlV b) s)) := by
  intro Post hp0
  show PX l G yy_Fb_takeEnd rm_Fb_takeEnd _ false 742 0 0 0 [(0, .ref (1))] [] σ
  have hn := hB.2.1
  have hs2 := hP.1
  refine px_aload_n dx_Fb_takeEnd_0 rfl ?_
  refine px_getI dx_Fb_takeEnd_1 fl_Fb_22 rfl (by decide) rfl ?_
  refine px_eqi (y := ilI s) hP.2.1 ?_
  refine px_iconst (v := -1) dx_Fb_takeEnd_4 rfl ?_
  refine px_icmp_ne dx_Fb_takeEnd_5 (fun c_5 => ?_) (fun c_5 => ?_)
  · refine px_aload_n dx_Fb_takeEnd_27 rfl ?_
    refine px_getI dx_Fb_takeEnd_28 fl_Fb_22 rfl (by decide) rfl ?_
    refine px_eqi (y := ilI s) hP.2.1 ?_
    refine px_iconst (v := -1) dx_Fb_takeEnd_31 rfl ?_
    refine px_icmp_ne dx_Fb_takeEnd_32 (fun c_32 => ?_) (fun c_32 => ?_)
    · exact px_vret dx_Fb_takeEnd_52 rfl (by (have hs : s.2 = true := (by cases q : s.2 with | true => rfl | false => exact absurd ((ilI_e hP.1).mpr q) c_5); (have e : rdE b n (tlV b) s = s := by (have e0 : rdE0 n s = s := by (unfold rdE0; rw [if_neg (by rw [hs]; simp)])); unfold rdE; rw [e0, if_neg (by rw [hs]; simp)]); rw [e] at hp0; exact hp0 _ _ ⟨rfl, Agp.rf, hP⟩))
    · exact absurd c_32 c_5
  · have hs : s.2 = false := (ilI_e hP.1).mp c_5
    refine px_aload_n dx_Fb_takeEnd_8 rfl ?_
    refine px_getI dx_Fb_takeEnd_9 fl_Fb_19 rfl (by decide) rfl ?_
    refine px_eqi (y := nI (s.1)) (hP.2.2 hs) ?_
    refine px_aload_n dx_Fb_takeEnd_12 rfl ?_
    refine px_getI dx_Fb_takeEnd_13 fl_Fb_15 rfl (by decide) rfl ?_
    refine px_eqi (y := nI (n)) hB.1 ?_
    refine px_icmp_geN (a := s.1) (b := n) dx_Fb_takeEnd_16 (by omega) (by omega) (fun c_16 => ?_) (fun c_16 => ?_)
    · refine px_aload_n dx_Fb_takeEnd_27 rfl ?_
      refine px_getI dx_Fb_takeEnd_28 fl_Fb_22 rfl (by decide) rfl ?_
      refine px_eqi (y := ilI s) hP.2.1 ?_
      refine px_iconst (v := -1) dx_Fb_takeEnd_31 rfl ?_
      refine px_icmp_ne dx_Fb_takeEnd_32 (fun c_32 => ?_) (fun c_32 => ?_)
      · exact px_vret dx_Fb_takeEnd_52 rfl (by exact absurd c_5 c_32)
      · refine px_aload_n dx_Fb_takeEnd_35 rfl ?_
        refine px_cV (Y := yy_Fb_takeEnd) (Yc := yy_Fb_dueCheck) (b := 1) (As := []) dx_Fb_takeEnd_36 ml_Fb_31 mv_Fb_dueCheck np_Fb_dueCheck ⟨_, rfl⟩ (by decide) rfl (by decide) rfl (Nat.le_of_ble_eq_true rfl) (Nat.le_of_ble_eq_true rfl) rk_Fb_takeEnd_Fb_dueCheck rfl (k_dueCheck hR hB) zz_0 ?_
        refine px_aload_n dx_Fb_takeEnd_39 rfl ?_
        refine px_cV (Y := yy_Fb_takeEnd) (Yc := yy_Fb_toldCheck) (b := 1) (As := []) dx_Fb_takeEnd_40 ml_Fb_39 mv_Fb_toldCheck np_Fb_toldCheck ⟨_, rfl⟩ (by decide) rfl (by decide) rfl (Nat.le_of_ble_eq_true rfl) (Nat.le_of_ble_eq_true rfl) rk_Fb_takeEnd_Fb_toldCheck rfl (k_toldCheck hR hB) zz_0 ?_
        refine px_lcmp dx_Fb_takeEnd_43 ?_
        refine px_if_eq dx_Fb_takeEnd_44 (fun c_44 => ?_) (fun c_44 => ?_)
        · exact px_vret dx_Fb_takeEnd_52 rfl (by (have e : rdE b n (tlV b) s = s := by (have e0 : rdE0 n s = s := by (unfold rdE0; rw [if_neg (by omega)])); unfold rdE; rw [e0, if_neg (fun q => q.2 (lg_cmp_e (ckV_lt _ _) (tlV_lt hB.2.2.2) c_44).symm)]); rw [e] at hp0; exact hp0 _ _ ⟨rfl, Agp.rf, hP⟩)
        · refine px_aload_n dx_Fb_takeEnd_47 rfl ?_
          refine px_iconst (v := 4) dx_Fb_takeEnd_48 rfl ?_
          refine px_putI dx_Fb_takeEnd_49 fl_Fb_22 rfl (by decide) rfl ?_
          exact px_vret dx_Fb_takeEnd_52 rfl (by (have e : rdE b n (tlV b) s = (4, true) := by (have e0 : rdE0 n s = s := by (unfold rdE0; rw [if_neg (by omega)])); unfold rdE; rw [e0, if_pos ⟨hs, fun q => c_44 (by rw [q]; exact lg_cmp_s _)⟩]); rw [e] at hp0; exact hp0 _ _ ⟨rfl, Agp.rf.w ⟨rfl, Or.inr rfl⟩, by decide, gI_s, fun q => by cases q⟩)
    · refine px_aload_n dx_Fb_takeEnd_19 rfl ?_
      refine px_aload_n dx_Fb_takeEnd_20 rfl ?_
      refine px_getI dx_Fb_takeEnd_21 fl_Fb_19 rfl (by decide) rfl ?_
      refine px_eqi (y := nI (s.1)) (hP.2.2 hs) ?_
      refine px_putI dx_Fb_takeEnd_24 fl_Fb_22 rfl (by decide) rfl ?_
      refine px_aload_n dx_Fb_takeEnd_27 rfl ?_
      refine px_getI dx_Fb_takeEnd_28 fl_Fb_22 rfl (by decide) rfl ?_
      refine px_eqi (y := nI ((s.1))) gI_s ?_
      refine px_iconst (v := -1) dx_Fb_takeEnd_31 rfl ?_
      refine px_icmp_ne dx_Fb_takeEnd_32 (fun c_32 => ?_) (fun c_32 => ?_)
      · exact px_vret dx_Fb_takeEnd_52 rfl (by (have e : rdE b n (tlV b) s = (s.1, true) := by (have e0 : rdE0 n s = (s.1, true) := by (unfold rdE0; rw [if_pos ⟨hs, by omega⟩])); unfold rdE; rw [e0, if_neg (fun q => Bool.noConfusion q.1)]); rw [e] at hp0; exact hp0 _ _ ⟨rfl, Agp.rf.w ⟨rfl, Or.inr rfl⟩, hP.1, gI_s, fun q => by cases q⟩)
      · (have z := nI_pos' (n := s.1) (by omega)); rw [c_32] at z; exact absurd z (by decide)
