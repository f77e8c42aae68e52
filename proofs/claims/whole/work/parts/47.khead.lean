/-! the class: the head, the number of units, the end -/
theorem k_takex {l : Launch} {G : fr_G} {σ : fr_S} (hR : RF σ) {b : Nat → Nat} {n : Nat} (hB : KB σ b n) {s : PS} (hP : KPs σ s) {lo hi : Nat} (hlo : lo < 256) (hhi : hi < 256) {x : Nat × PS} (hx : x = nx b n lo hi lo s) : CR l G yy_Fb_take rm_Fb_take [.ref 1, .int (nI lo), .int (nI hi)] σ (fun r0 σ' => r0 = some (.int (nI x.1)) ∧ Agp P1 σ σ' ∧ KPs σ' x.2) := hx ▸ k_take hR hB hP hlo hhi
/-- the number of units as the class holds it -/
def rdNc (u : Nat × PS) : Nat := if 1 ≤ u.1 ∧ u.1 ≤ 40 then u.1 else 0

set_option maxRecDepth 100000 in
set_option maxHeartbeats 1000000 in
theorem k_unitCount {l : Launch} {G : fr_G} {σ : fr_S} (hR : RF σ) {b : Nat → Nat} {n : Nat} (hB : KB σ b n) {s : PS} (hP : KPs σ s) : CR l G yy_Fb_takeUnitCount rm_Fb_takeUnitCount [.ref (1)] σ (fun r0 σ' => r0 = some (.int (nI (rdNc (rdN b n s)))) ∧ Agp P1 σ σ' ∧ KPs σ' (rdS (rdN b n s))) := by
  intro Post hp0
  show PX l G yy_Fb_takeUnitCount rm_Fb_takeUnitCount _ false 742 0 0 0 [(0, .ref (1))] [] σ
  have hA0 : Agp P1 σ σ := Agp.rf
  refine px_aload_n dx_Fb_takeUnitCount_0 rfl ?_
  refine px_iconst (v := 0) dx_Fb_takeUnitCount_1 rfl ?_
  refine px_sipush (v := 255) dx_Fb_takeUnitCount_2 rfl ?_
  obtain ⟨x_5, hx_5⟩ : ∃ z, z = nx b n (0) (255) (0) s := ⟨_, rfl⟩
  have hbx_5 : x_5.1 ≤ 255 := hx_5 ▸ nx_le (by decide)
  refine px_cVR (Y := yy_Fb_takeUnitCount) (Yc := yy_Fb_take) (b := 1) (As := [.int (0), .int (255)]) dx_Fb_takeUnitCount_5 ml_Fb_35 mv_Fb_take np_Fb_take ⟨_, rfl⟩ (by decide) rfl (by decide) rfl (Nat.le_of_ble_eq_true rfl) (Nat.le_of_ble_eq_true rfl) rk_Fb_takeUnitCount_Fb_take rfl (k_takex (lo := 0) (hi := 255) hR hB hP (by decide) (by decide) hx_5) zz_0 (fun r_5 τ_5 h_5 => ?_)
  obtain ⟨rfl, hA, hP⟩ := h_5
  have hB := hB.p1 hA
  have hR := hA.rfs hR
  have hA0 := hA0.tr hA
  refine px_istore_n (lv' := [(1, .int (nI (x_5.1))), (0, .ref (1))]) dx_Fb_takeUnitCount_8 (by decide) rfl ?_
  refine px_iload_n dx_Fb_takeUnitCount_9 rfl ?_
  refine px_sipush (v := 128) dx_Fb_takeUnitCount_10 rfl ?_
  refine px_icmp_ltN (a := x_5.1) (b := 128) dx_Fb_takeUnitCount_13 (by omega) (by omega) (fun c_13 => ?_) (fun c_13 => ?_)
  · refine px_iload_n dx_Fb_takeUnitCount_34 rfl ?_
    refine px_iconst (v := 1) dx_Fb_takeUnitCount_35 rfl ?_
    refine px_icmp_ltN (a := x_5.1) (b := 1) dx_Fb_takeUnitCount_36 (by omega) (by omega) (fun c_36 => ?_) (fun c_36 => ?_)
    · refine px_aload_n dx_Fb_takeUnitCount_47 rfl ?_
      refine px_getI dx_Fb_takeUnitCount_48 fl_Fb_22 rfl (by decide) rfl ?_
      refine px_eqi (y := ilI x_5.2) hP.2.1 ?_
      refine px_iconst (v := -1) dx_Fb_takeUnitCount_51 rfl ?_
      refine px_icmp_ne dx_Fb_takeUnitCount_52 (fun c_52 => ?_) (fun c_52 => ?_)
      · refine px_iconst (v := 0) dx_Fb_takeUnitCount_65 rfl ?_
        exact px_iret dx_Fb_takeUnitCount_66 rfl (by (have e0 : rdN b n s = (x_5.1, x_5.2) := by (rw [rdN_a (x := x_5) hx_5 (by omega)]; rw [show x_5.1 % 128 = x_5.1 by omega])); rw [e0] at hp0; have hs : x_5.2.2 = true := (by cases q : x_5.2.2 with | true => rfl | false => exact absurd ((ilI_e hP.1).mpr q) c_52); rw [rdS_i hs, show rdNc (x_5.1, x_5.2) = 0 from if_neg (show ¬ (1 ≤ x_5.1 ∧ x_5.1 ≤ 40) by omega)] at hp0; exact hp0 _ _ ⟨rfl, hA0, hP⟩)
      · have hs : x_5.2.2 = false := (ilI_e hP.1).mp c_52
        have hg := nx_g (by rw [← hx_5]; exact hs)
        have hx1 : 1 ≤ x_5.2.1 := by (have := hg.2.1; rw [← hx_5] at this; omega)
        refine px_aload_n dx_Fb_takeUnitCount_55 rfl ?_
        refine px_aload_n dx_Fb_takeUnitCount_56 rfl ?_
        refine px_getI dx_Fb_takeUnitCount_57 fl_Fb_19 rfl (by decide) rfl ?_
        refine px_eqi (y := nI (x_5.2.1)) (hP.2.2 hs) ?_
        refine px_iconst (v := 1) dx_Fb_takeUnitCount_60 rfl ?_
        refine px_isubN (a := x_5.2.1) (b := 1) dx_Fb_takeUnitCount_61 (by omega) ?_
        refine px_putI dx_Fb_takeUnitCount_62 fl_Fb_22 rfl (by decide) rfl ?_
        refine px_iconst (v := 0) dx_Fb_takeUnitCount_65 rfl ?_
        exact px_iret dx_Fb_takeUnitCount_66 rfl (by (have e0 : rdN b n s = (x_5.1, x_5.2) := by (rw [rdN_a (x := x_5) hx_5 (by omega)]; rw [show x_5.1 % 128 = x_5.1 by omega])); rw [e0] at hp0; rw [rdS_b hs (show x_5.1 < 1 ∨ 40 < x_5.1 by omega), show rdNc (x_5.1, x_5.2) = 0 from if_neg (show ¬ (1 ≤ x_5.1 ∧ x_5.1 ≤ 40) by omega)] at hp0; exact hp0 _ _ ⟨rfl, hA0.w ⟨rfl, Or.inr rfl⟩, by have := hP.1; (show x_5.2.1 - 1 ≤ 220); omega, gI_s, fun q => by cases q⟩)
    · refine px_iload_n dx_Fb_takeUnitCount_39 rfl ?_
      refine px_bipush (v := 40) dx_Fb_takeUnitCount_40 rfl ?_
      refine px_icmp_gtN (a := x_5.1) (b := 40) dx_Fb_takeUnitCount_42 (by omega) (by omega) (fun c_42 => ?_) (fun c_42 => ?_)
      · refine px_aload_n dx_Fb_takeUnitCount_47 rfl ?_
        refine px_getI dx_Fb_takeUnitCount_48 fl_Fb_22 rfl (by decide) rfl ?_
        refine px_eqi (y := ilI x_5.2) hP.2.1 ?_
        refine px_iconst (v := -1) dx_Fb_takeUnitCount_51 rfl ?_
        refine px_icmp_ne dx_Fb_takeUnitCount_52 (fun c_52 => ?_) (fun c_52 => ?_)
        · refine px_iconst (v := 0) dx_Fb_takeUnitCount_65 rfl ?_
          exact px_iret dx_Fb_takeUnitCount_66 rfl (by (have e0 : rdN b n s = (x_5.1, x_5.2) := by (rw [rdN_a (x := x_5) hx_5 (by omega)]; rw [show x_5.1 % 128 = x_5.1 by omega])); rw [e0] at hp0; have hs : x_5.2.2 = true := (by cases q : x_5.2.2 with | true => rfl | false => exact absurd ((ilI_e hP.1).mpr q) c_52); rw [rdS_i hs, show rdNc (x_5.1, x_5.2) = 0 from if_neg (show ¬ (1 ≤ x_5.1 ∧ x_5.1 ≤ 40) by omega)] at hp0; exact hp0 _ _ ⟨rfl, hA0, hP⟩)
        · have hs : x_5.2.2 = false := (ilI_e hP.1).mp c_52
          have hg := nx_g (by rw [← hx_5]; exact hs)
          have hx1 : 1 ≤ x_5.2.1 := by (have := hg.2.1; rw [← hx_5] at this; omega)
          refine px_aload_n dx_Fb_takeUnitCount_55 rfl ?_
          refine px_aload_n dx_Fb_takeUnitCount_56 rfl ?_
          refine px_getI dx_Fb_takeUnitCount_57 fl_Fb_19 rfl (by decide) rfl ?_
          refine px_eqi (y := nI (x_5.2.1)) (hP.2.2 hs) ?_
          refine px_iconst (v := 1) dx_Fb_takeUnitCount_60 rfl ?_
          refine px_isubN (a := x_5.2.1) (b := 1) dx_Fb_takeUnitCount_61 (by omega) ?_
          refine px_putI dx_Fb_takeUnitCount_62 fl_Fb_22 rfl (by decide) rfl ?_
          refine px_iconst (v := 0) dx_Fb_takeUnitCount_65 rfl ?_
          exact px_iret dx_Fb_takeUnitCount_66 rfl (by (have e0 : rdN b n s = (x_5.1, x_5.2) := by (rw [rdN_a (x := x_5) hx_5 (by omega)]; rw [show x_5.1 % 128 = x_5.1 by omega])); rw [e0] at hp0; rw [rdS_b hs (show x_5.1 < 1 ∨ 40 < x_5.1 by omega), show rdNc (x_5.1, x_5.2) = 0 from if_neg (show ¬ (1 ≤ x_5.1 ∧ x_5.1 ≤ 40) by omega)] at hp0; exact hp0 _ _ ⟨rfl, hA0.w ⟨rfl, Or.inr rfl⟩, by have := hP.1; (show x_5.2.1 - 1 ≤ 220); omega, gI_s, fun q => by cases q⟩)
      · refine px_iload_n dx_Fb_takeUnitCount_45 rfl ?_
        exact px_iret dx_Fb_takeUnitCount_46 rfl (by (have e0 : rdN b n s = (x_5.1, x_5.2) := by (rw [rdN_a (x := x_5) hx_5 (by omega)]; rw [show x_5.1 % 128 = x_5.1 by omega])); rw [e0] at hp0; rw [rdS_g (show 1 ≤ x_5.1 ∧ x_5.1 ≤ 40 by omega), show rdNc (x_5.1, x_5.2) = x_5.1 from if_pos (show 1 ≤ x_5.1 ∧ x_5.1 ≤ 40 by omega)] at hp0; exact hp0 _ _ ⟨rfl, hA0, hP⟩)
  · refine px_iload_n dx_Fb_takeUnitCount_16 rfl ?_
    refine px_sipush (v := 128) dx_Fb_takeUnitCount_17 rfl ?_
    refine px_isubN (a := x_5.1) (b := 128) dx_Fb_takeUnitCount_20 (by omega) ?_
    refine px_sipush (v := 128) dx_Fb_takeUnitCount_21 rfl ?_
    refine px_aload_n dx_Fb_takeUnitCount_24 rfl ?_
    refine px_iconst (v := 0) dx_Fb_takeUnitCount_25 rfl ?_
    refine px_bipush (v := 127) dx_Fb_takeUnitCount_26 rfl ?_
    obtain ⟨x_28, hx_28⟩ : ∃ z, z = nx b n (0) (127) (0) x_5.2 := ⟨_, rfl⟩
    have hbx_28 : x_28.1 ≤ 127 := hx_28 ▸ nx_le (by decide)
    refine px_cVR (Y := yy_Fb_takeUnitCount) (Yc := yy_Fb_take) (b := 1) (As := [.int (0), .int (127)]) dx_Fb_takeUnitCount_28 ml_Fb_35 mv_Fb_take np_Fb_take ⟨_, rfl⟩ (by decide) rfl (by decide) rfl (Nat.le_of_ble_eq_true rfl) (Nat.le_of_ble_eq_true rfl) rk_Fb_takeUnitCount_Fb_take rfl (k_takex (lo := 0) (hi := 127) hR hB hP (by decide) (by decide) hx_28) zz_0 (fun r_28 τ_28 h_28 => ?_)
    obtain ⟨rfl, hA, hP⟩ := h_28
    have hB := hB.p1 hA
    have hR := hA.rfs hR
    have hA0 := hA0.tr hA
    refine px_imulN (a := 128) (b := x_28.1) dx_Fb_takeUnitCount_31 ?_
    refine px_iaddN (a := x_5.1 - 128) (b := 128 * x_28.1) dx_Fb_takeUnitCount_32 ?_
    refine px_istore_n (lv' := [(1, .int (nI ((x_5.1 - 128) + (128 * x_28.1)))), (0, .ref (1))]) dx_Fb_takeUnitCount_33 (by decide) rfl ?_
    refine px_iload_n dx_Fb_takeUnitCount_34 rfl ?_
    refine px_iconst (v := 1) dx_Fb_takeUnitCount_35 rfl ?_
    refine px_icmp_ltN (a := (x_5.1 - 128) + (128 * x_28.1)) (b := 1) dx_Fb_takeUnitCount_36 (by omega) (by omega) (fun c_36 => ?_) (fun c_36 => ?_)
    · refine px_aload_n dx_Fb_takeUnitCount_47 rfl ?_
      refine px_getI dx_Fb_takeUnitCount_48 fl_Fb_22 rfl (by decide) rfl ?_
      refine px_eqi (y := ilI x_28.2) hP.2.1 ?_
      refine px_iconst (v := -1) dx_Fb_takeUnitCount_51 rfl ?_
      refine px_icmp_ne dx_Fb_takeUnitCount_52 (fun c_52 => ?_) (fun c_52 => ?_)
      · refine px_iconst (v := 0) dx_Fb_takeUnitCount_65 rfl ?_
        exact px_iret dx_Fb_takeUnitCount_66 rfl (by (have e0 : rdN b n s = (x_5.1 - 128 + 128 * x_28.1, x_28.2) := by (rw [rdN_b (x := x_5) (y := x_28) hx_5 hx_28 (by omega)]; rw [show x_5.1 % 128 = x_5.1 - 128 by omega])); rw [e0] at hp0; have hs : x_28.2.2 = true := (by cases q : x_28.2.2 with | true => rfl | false => exact absurd ((ilI_e hP.1).mpr q) c_52); rw [rdS_i hs, show rdNc ((x_5.1 - 128 + 128 * x_28.1), x_28.2) = 0 from if_neg (show ¬ (1 ≤ (x_5.1 - 128 + 128 * x_28.1) ∧ (x_5.1 - 128 + 128 * x_28.1) ≤ 40) by omega)] at hp0; exact hp0 _ _ ⟨rfl, hA0, hP⟩)
      · have hs : x_28.2.2 = false := (ilI_e hP.1).mp c_52
        have hg := nx_g (by rw [← hx_28]; exact hs)
        have hx1 : 1 ≤ x_28.2.1 := by (have := hg.2.1; rw [← hx_28] at this; omega)
        refine px_aload_n dx_Fb_takeUnitCount_55 rfl ?_
        refine px_aload_n dx_Fb_takeUnitCount_56 rfl ?_
        refine px_getI dx_Fb_takeUnitCount_57 fl_Fb_19 rfl (by decide) rfl ?_
        refine px_eqi (y := nI (x_28.2.1)) (hP.2.2 hs) ?_
        refine px_iconst (v := 1) dx_Fb_takeUnitCount_60 rfl ?_
        refine px_isubN (a := x_28.2.1) (b := 1) dx_Fb_takeUnitCount_61 (by omega) ?_
        refine px_putI dx_Fb_takeUnitCount_62 fl_Fb_22 rfl (by decide) rfl ?_
        refine px_iconst (v := 0) dx_Fb_takeUnitCount_65 rfl ?_
        exact px_iret dx_Fb_takeUnitCount_66 rfl (by (have e0 : rdN b n s = (x_5.1 - 128 + 128 * x_28.1, x_28.2) := by (rw [rdN_b (x := x_5) (y := x_28) hx_5 hx_28 (by omega)]; rw [show x_5.1 % 128 = x_5.1 - 128 by omega])); rw [e0] at hp0; rw [rdS_b hs (show (x_5.1 - 128 + 128 * x_28.1) < 1 ∨ 40 < (x_5.1 - 128 + 128 * x_28.1) by omega), show rdNc ((x_5.1 - 128 + 128 * x_28.1), x_28.2) = 0 from if_neg (show ¬ (1 ≤ (x_5.1 - 128 + 128 * x_28.1) ∧ (x_5.1 - 128 + 128 * x_28.1) ≤ 40) by omega)] at hp0; exact hp0 _ _ ⟨rfl, hA0.w ⟨rfl, Or.inr rfl⟩, by have := hP.1; (show x_28.2.1 - 1 ≤ 220); omega, gI_s, fun q => by cases q⟩)
    · refine px_iload_n dx_Fb_takeUnitCount_39 rfl ?_
      refine px_bipush (v := 40) dx_Fb_takeUnitCount_40 rfl ?_
      refine px_icmp_gtN (a := (x_5.1 - 128) + (128 * x_28.1)) (b := 40) dx_Fb_takeUnitCount_42 (by omega) (by omega) (fun c_42 => ?_) (fun c_42 => ?_)
      · refine px_aload_n dx_Fb_takeUnitCount_47 rfl ?_
        refine px_getI dx_Fb_takeUnitCount_48 fl_Fb_22 rfl (by decide) rfl ?_
        refine px_eqi (y := ilI x_28.2) hP.2.1 ?_
        refine px_iconst (v := -1) dx_Fb_takeUnitCount_51 rfl ?_
        refine px_icmp_ne dx_Fb_takeUnitCount_52 (fun c_52 => ?_) (fun c_52 => ?_)
        · refine px_iconst (v := 0) dx_Fb_takeUnitCount_65 rfl ?_
          exact px_iret dx_Fb_takeUnitCount_66 rfl (by (have e0 : rdN b n s = (x_5.1 - 128 + 128 * x_28.1, x_28.2) := by (rw [rdN_b (x := x_5) (y := x_28) hx_5 hx_28 (by omega)]; rw [show x_5.1 % 128 = x_5.1 - 128 by omega])); rw [e0] at hp0; have hs : x_28.2.2 = true := (by cases q : x_28.2.2 with | true => rfl | false => exact absurd ((ilI_e hP.1).mpr q) c_52); rw [rdS_i hs, show rdNc ((x_5.1 - 128 + 128 * x_28.1), x_28.2) = 0 from if_neg (show ¬ (1 ≤ (x_5.1 - 128 + 128 * x_28.1) ∧ (x_5.1 - 128 + 128 * x_28.1) ≤ 40) by omega)] at hp0; exact hp0 _ _ ⟨rfl, hA0, hP⟩)
        · have hs : x_28.2.2 = false := (ilI_e hP.1).mp c_52
          have hg := nx_g (by rw [← hx_28]; exact hs)
          have hx1 : 1 ≤ x_28.2.1 := by (have := hg.2.1; rw [← hx_28] at this; omega)
          refine px_aload_n dx_Fb_takeUnitCount_55 rfl ?_
          refine px_aload_n dx_Fb_takeUnitCount_56 rfl ?_
          refine px_getI dx_Fb_takeUnitCount_57 fl_Fb_19 rfl (by decide) rfl ?_
          refine px_eqi (y := nI (x_28.2.1)) (hP.2.2 hs) ?_
          refine px_iconst (v := 1) dx_Fb_takeUnitCount_60 rfl ?_
          refine px_isubN (a := x_28.2.1) (b := 1) dx_Fb_takeUnitCount_61 (by omega) ?_
          refine px_putI dx_Fb_takeUnitCount_62 fl_Fb_22 rfl (by decide) rfl ?_
          refine px_iconst (v := 0) dx_Fb_takeUnitCount_65 rfl ?_
          exact px_iret dx_Fb_takeUnitCount_66 rfl (by (have e0 : rdN b n s = (x_5.1 - 128 + 128 * x_28.1, x_28.2) := by (rw [rdN_b (x := x_5) (y := x_28) hx_5 hx_28 (by omega)]; rw [show x_5.1 % 128 = x_5.1 - 128 by omega])); rw [e0] at hp0; rw [rdS_b hs (show (x_5.1 - 128 + 128 * x_28.1) < 1 ∨ 40 < (x_5.1 - 128 + 128 * x_28.1) by omega), show rdNc ((x_5.1 - 128 + 128 * x_28.1), x_28.2) = 0 from if_neg (show ¬ (1 ≤ (x_5.1 - 128 + 128 * x_28.1) ∧ (x_5.1 - 128 + 128 * x_28.1) ≤ 40) by omega)] at hp0; exact hp0 _ _ ⟨rfl, hA0.w ⟨rfl, Or.inr rfl⟩, by have := hP.1; (show x_28.2.1 - 1 ≤ 220); omega, gI_s, fun q => by cases q⟩)
      · refine px_iload_n dx_Fb_takeUnitCount_45 rfl ?_
        exact px_iret dx_Fb_takeUnitCount_46 rfl (by (have e0 : rdN b n s = (x_5.1 - 128 + 128 * x_28.1, x_28.2) := by (rw [rdN_b (x := x_5) (y := x_28) hx_5 hx_28 (by omega)]; rw [show x_5.1 % 128 = x_5.1 - 128 by omega])); rw [e0] at hp0; rw [rdS_g (show 1 ≤ (x_5.1 - 128 + 128 * x_28.1) ∧ (x_5.1 - 128 + 128 * x_28.1) ≤ 40 by omega), show rdNc ((x_5.1 - 128 + 128 * x_28.1), x_28.2) = (x_5.1 - 128 + 128 * x_28.1) from if_pos (show 1 ≤ (x_5.1 - 128 + 128 * x_28.1) ∧ (x_5.1 - 128 + 128 * x_28.1) ≤ 40 by omega)] at hp0; exact hp0 _ _ ⟨rfl, hA0, hP⟩)
set_option maxRecDepth 100000 in
set_option maxHeartbeats 1000000 in
theorem k_takeHead_lp {l : Launch} {G : fr_G} {σ : fr_S} (hR0 : RF σ) {b : Nat → Nat} {n : Nat} (hB0 : KB σ b n) {Post : Option Value → fr_S → Prop} (hp0 : ∀ r σ', (fun r0 σ' => r0 = none ∧ Agp P1 σ σ' ∧ KPs σ' (rdC b n (rdH b n) 4).2) r σ' → Post r σ') : ∀ (d : Nat) (j : Nat) (σ1 : fr_S), 4 - j < d → j ≤ 4 → Agp P1 σ σ1 → KPs σ1 (rdC b n (rdH b n) j).2 → PX l G yy_Fb_takeHead rm_Fb_takeHead (QR G false 742 0 0 Post) false 742 0 0 48 [(0, .ref (1)), (1, .int (nI (j)))] [] (σ1) := by
  intro d
  induction d with
  | zero => intro j σ1 hd; exact absurd hd (Nat.not_lt_zero _)
  | succ d ih =>
    intro j σ1 hd hj hA0 hP
    have hR := hA0.rfs hR0
    have hB := hB0.p1 hA0
    refine px_iload_n dx_Fb_takeHead_48 rfl ?_
    refine px_iconst (v := 4) dx_Fb_takeHead_49 rfl ?_
    refine px_icmp_geN (a := j) (b := 4) dx_Fb_takeHead_50 (by omega) (by omega) (fun c_50 => ?_) (fun c_50 => ?_)
    · exact px_vret dx_Fb_takeHead_68 rfl (by (obtain rfl : j = 4 := by omega); exact hp0 _ _ ⟨rfl, hA0, hP⟩)
    · refine px_aload_n dx_Fb_takeHead_53 rfl ?_
      refine px_iconst (v := 0) dx_Fb_takeHead_54 rfl ?_
      refine px_sipush (v := 255) dx_Fb_takeHead_55 rfl ?_
      obtain ⟨x_58, hx_58⟩ : ∃ z, z = nx b n (0) (255) (0) ((rdC b n (rdH b n) j).2) := ⟨_, rfl⟩
      have hbx_58 : x_58.1 ≤ 255 := hx_58 ▸ nx_le (by decide)
      refine px_cVR (Y := yy_Fb_takeHead) (Yc := yy_Fb_take) (b := 1) (As := [.int (0), .int (255)]) dx_Fb_takeHead_58 ml_Fb_35 mv_Fb_take np_Fb_take ⟨_, rfl⟩ (by decide) rfl (by decide) rfl (Nat.le_of_ble_eq_true rfl) (Nat.le_of_ble_eq_true rfl) rk_Fb_takeHead_Fb_take rfl (k_takex (lo := 0) (hi := 255) hR hB hP (by decide) (by decide) hx_58) zz_0 (fun r_58 τ_58 h_58 => ?_)
      obtain ⟨rfl, hA, hP⟩ := h_58
      have hB := hB.p1 hA
      have hR := hA.rfs hR
      have hA0 := hA0.tr hA
      refine px_pop dx_Fb_takeHead_61 rfl ?_
      refine px_iinc (v := (nI (j + 1))) (lv' := [(1, .int (nI (j + 1))), (0, .ref (1))]) dx_Fb_takeHead_62 rfl (nI_1 _) (by decide) rfl ?_
      refine px_goto dx_Fb_takeHead_65 ?_
      refine px_sub [1, 0] rfl ?_
      exact ih (j + 1) _ (by omega) (by omega) hA0 (by rw [hx_58] at hP; exact hP)
set_option maxRecDepth 100000 in
set_option maxHeartbeats 1000000 in
theorem k_takeHead {l : Launch} {G : fr_G} {σ : fr_S} (hR0 : RF σ) {b : Nat → Nat} {n : Nat} (hB0 : KB σ b n) : CR l G yy_Fb_takeHead rm_Fb_takeHead [.ref (1)] σ (fun r0 σ' => r0 = none ∧ Agp P1 σ σ' ∧ KPs σ' (rdC b n (rdH b n) 4).2) := by
  intro Post hp0
  show PX l G yy_Fb_takeHead rm_Fb_takeHead _ false 742 0 0 0 [(0, .ref (1))] [] σ
  refine px_aload_n dx_Fb_takeHead_0 rfl ?_
  refine px_iconst (v := 0) dx_Fb_takeHead_1 rfl ?_
  refine px_putI dx_Fb_takeHead_2 fl_Fb_19 rfl (by decide) rfl ?_
  refine px_aload_n dx_Fb_takeHead_5 rfl ?_
  refine px_iconst (v := -1) dx_Fb_takeHead_6 rfl ?_
  refine px_putI dx_Fb_takeHead_7 fl_Fb_22 rfl (by decide) rfl ?_
  obtain ⟨σ1, hσ1⟩ : ∃ z, z = sI (sI σ 1 2 0) 1 3 (-1) := ⟨_, rfl⟩
  rw [← hσ1]
  have hA0 : Agp P1 σ σ1 := by (rw [hσ1]; exact (Agp.rf.w ⟨rfl, Or.inl rfl⟩).w ⟨rfl, Or.inr rfl⟩)
  have hP : KPs σ1 (0, false) := by (rw [hσ1]; exact ⟨Nat.zero_le _, gI_s, fun _ => (gI_n (Or.inr (by decide))).trans gI_s⟩)
  have hB := hB0.p1 hA0
  have hR := hA0.rfs hR0
  refine px_aload_n dx_Fb_takeHead_10 rfl ?_
  refine px_bipush (v := 100) dx_Fb_takeHead_11 rfl ?_
  refine px_bipush (v := 100) dx_Fb_takeHead_13 rfl ?_
  obtain ⟨x_15, hx_15⟩ : ∃ z, z = nx b n (100) (100) (100) (0, false) := ⟨_, rfl⟩
  have hbx_15 : x_15.1 ≤ 100 := hx_15 ▸ nx_le (by decide)
  refine px_cVR (Y := yy_Fb_takeHead) (Yc := yy_Fb_take) (b := 1) (As := [.int (100), .int (100)]) dx_Fb_takeHead_15 ml_Fb_35 mv_Fb_take np_Fb_take ⟨_, rfl⟩ (by decide) rfl (by decide) rfl (Nat.le_of_ble_eq_true rfl) (Nat.le_of_ble_eq_true rfl) rk_Fb_takeHead_Fb_take rfl (k_takex (lo := 100) (hi := 100) hR hB hP (by decide) (by decide) hx_15) zz_0 (fun r_15 τ_15 h_15 => ?_)
  obtain ⟨rfl, hA, hP⟩ := h_15
  have hB := hB.p1 hA
  have hR := hA.rfs hR
  have hA0 := hA0.tr hA
  refine px_pop dx_Fb_takeHead_18 rfl ?_
  refine px_aload_n dx_Fb_takeHead_19 rfl ?_
  refine px_bipush (v := 101) dx_Fb_takeHead_20 rfl ?_
  refine px_bipush (v := 101) dx_Fb_takeHead_22 rfl ?_
  obtain ⟨x_24, hx_24⟩ : ∃ z, z = nx b n (101) (101) (101) x_15.2 := ⟨_, rfl⟩
  have hbx_24 : x_24.1 ≤ 101 := hx_24 ▸ nx_le (by decide)
  refine px_cVR (Y := yy_Fb_takeHead) (Yc := yy_Fb_take) (b := 1) (As := [.int (101), .int (101)]) dx_Fb_takeHead_24 ml_Fb_35 mv_Fb_take np_Fb_take ⟨_, rfl⟩ (by decide) rfl (by decide) rfl (Nat.le_of_ble_eq_true rfl) (Nat.le_of_ble_eq_true rfl) rk_Fb_takeHead_Fb_take rfl (k_takex (lo := 101) (hi := 101) hR hB hP (by decide) (by decide) hx_24) zz_0 (fun r_24 τ_24 h_24 => ?_)
  obtain ⟨rfl, hA, hP⟩ := h_24
  have hB := hB.p1 hA
  have hR := hA.rfs hR
  have hA0 := hA0.tr hA
  refine px_pop dx_Fb_takeHead_27 rfl ?_
  refine px_aload_n dx_Fb_takeHead_28 rfl ?_
  refine px_bipush (v := 120) dx_Fb_takeHead_29 rfl ?_
  refine px_bipush (v := 120) dx_Fb_takeHead_31 rfl ?_
  obtain ⟨x_33, hx_33⟩ : ∃ z, z = nx b n (120) (120) (120) x_24.2 := ⟨_, rfl⟩
  have hbx_33 : x_33.1 ≤ 120 := hx_33 ▸ nx_le (by decide)
  refine px_cVR (Y := yy_Fb_takeHead) (Yc := yy_Fb_take) (b := 1) (As := [.int (120), .int (120)]) dx_Fb_takeHead_33 ml_Fb_35 mv_Fb_take np_Fb_take ⟨_, rfl⟩ (by decide) rfl (by decide) rfl (Nat.le_of_ble_eq_true rfl) (Nat.le_of_ble_eq_true rfl) rk_Fb_takeHead_Fb_take rfl (k_takex (lo := 120) (hi := 120) hR hB hP (by decide) (by decide) hx_33) zz_0 (fun r_33 τ_33 h_33 => ?_)
  obtain ⟨rfl, hA, hP⟩ := h_33
  have hB := hB.p1 hA
  have hR := hA.rfs hR
  have hA0 := hA0.tr hA
  refine px_pop dx_Fb_takeHead_36 rfl ?_
  refine px_aload_n dx_Fb_takeHead_37 rfl ?_
  refine px_bipush (v := 10) dx_Fb_takeHead_38 rfl ?_
  refine px_bipush (v := 10) dx_Fb_takeHead_40 rfl ?_
  obtain ⟨x_42, hx_42⟩ : ∃ z, z = nx b n (10) (10) (10) x_33.2 := ⟨_, rfl⟩
  have hbx_42 : x_42.1 ≤ 10 := hx_42 ▸ nx_le (by decide)
  refine px_cVR (Y := yy_Fb_takeHead) (Yc := yy_Fb_take) (b := 1) (As := [.int (10), .int (10)]) dx_Fb_takeHead_42 ml_Fb_35 mv_Fb_take np_Fb_take ⟨_, rfl⟩ (by decide) rfl (by decide) rfl (Nat.le_of_ble_eq_true rfl) (Nat.le_of_ble_eq_true rfl) rk_Fb_takeHead_Fb_take rfl (k_takex (lo := 10) (hi := 10) hR hB hP (by decide) (by decide) hx_42) zz_0 (fun r_42 τ_42 h_42 => ?_)
  obtain ⟨rfl, hA, hP⟩ := h_42
  have hB := hB.p1 hA
  have hR := hA.rfs hR
  have hA0 := hA0.tr hA
  refine px_pop dx_Fb_takeHead_45 rfl ?_
  refine px_iconst (v := 0) dx_Fb_takeHead_46 rfl ?_
  refine px_istore_n (lv' := [(1, .int (0)), (0, .ref (1))]) dx_Fb_takeHead_47 (by decide) rfl ?_
  refine px_sub [1, 0] rfl ?_
  exact k_takeHead_lp (σ := σ) hR0 hB0 hp0 5 0 _ (by omega) (by omega) hA0 (by (show KPs _ (nx b n 10 10 0 (nx b n 120 120 0 (nx b n 101 101 0 (nx b n 100 100 0 (0, false)).2).2).2).2); rw [hx_42, nx_d (d' := 0), hx_33, nx_d (d := 120) (d' := 0), hx_24, nx_d (d := 101) (d' := 0), hx_15, nx_d (d := 100) (d' := 0)] at hP; exact hP)

theorem tlV_lt {b : Nat → Nat} (h : ∀ k, b k < 256) : tlV b < 2 ^ 32 := by
  have := h 4
  have := h 5
  have := h 6
  have := h 7
  unfold tlV
  omega

set_option maxRecDepth 100000 in
set_option maxHeartbeats 1000000 in
theorem k_takeEnd {l : Launch} {G : fr_G} {σ : fr_S} (hR : RF σ) {b : Nat → Nat} {n : Nat} (hB : KB σ b n) {s : PS} (hP : KPs σ s) : CR l G yy_Fb_takeEnd rm_Fb_takeEnd [.ref (1)] σ (fun r0 σ' => r0 = none ∧ Agp P1 σ σ' ∧ KPs σ' (rdE b n (tlV b) s)) := by
  intro Post hp0
  show PX l G yy_Fb_takeEnd rm_Fb_takeEnd _ false 742 0 0 0 [(0, .ref (1))] [] σ
  have hn := hB.2.1
  have hs2 := hP.1
  refine px_aload_n dx_Fb_takeEnd_0 rfl ?_
  refine px_getI dx_Fb_takeEnd_1 fl_Fb_22 rfl (by decide) rfl ?_
  refine px_eqi (y := ilI s) hP.2.1 ?_
  refine px_iconst (v := -1) dx_Fb_takeEnd_4 rfl ?_
  refine px_icmp_ne dx_Fb_takeEnd_5 (fun c_5 => ?_) (fun c_5 => ?_)
  · refine px_aload_n dx_Fb_takeEnd_27 rfl ?_
    refine px_getI dx_Fb_takeEnd_28 fl_Fb_22 rfl (by decide) rfl ?_
    refine px_eqi (y := ilI s) hP.2.1 ?_
    refine px_iconst (v := -1) dx_Fb_takeEnd_31 rfl ?_
    refine px_icmp_ne dx_Fb_takeEnd_32 (fun c_32 => ?_) (fun c_32 => ?_)
    · exact px_vret dx_Fb_takeEnd_52 rfl (by (have hs : s.2 = true := (by cases q : s.2 with | true => rfl | false => exact absurd ((ilI_e hP.1).mpr q) c_5); (have e : rdE b n (tlV b) s = s := by (have e0 : rdE0 n s = s := by (unfold rdE0; rw [if_neg (by rw [hs]; simp)])); unfold rdE; rw [e0, if_neg (by rw [hs]; simp)]); rw [e] at hp0; exact hp0 _ _ ⟨rfl, Agp.rf, hP⟩))
    · exact absurd c_32 c_5
  · have hs : s.2 = false := (ilI_e hP.1).mp c_5
    refine px_aload_n dx_Fb_takeEnd_8 rfl ?_
    refine px_getI dx_Fb_takeEnd_9 fl_Fb_19 rfl (by decide) rfl ?_
    refine px_eqi (y := nI (s.1)) (hP.2.2 hs) ?_
    refine px_aload_n dx_Fb_takeEnd_12 rfl ?_
    refine px_getI dx_Fb_takeEnd_13 fl_Fb_15 rfl (by decide) rfl ?_
    refine px_eqi (y := nI (n)) hB.1 ?_
    refine px_icmp_geN (a := s.1) (b := n) dx_Fb_takeEnd_16 (by omega) (by omega) (fun c_16 => ?_) (fun c_16 => ?_)
    · refine px_aload_n dx_Fb_takeEnd_27 rfl ?_
      refine px_getI dx_Fb_takeEnd_28 fl_Fb_22 rfl (by decide) rfl ?_
      refine px_eqi (y := ilI s) hP.2.1 ?_
      refine px_iconst (v := -1) dx_Fb_takeEnd_31 rfl ?_
      refine px_icmp_ne dx_Fb_takeEnd_32 (fun c_32 => ?_) (fun c_32 => ?_)
      · exact px_vret dx_Fb_takeEnd_52 rfl (by exact absurd c_5 c_32)
      · refine px_aload_n dx_Fb_takeEnd_35 rfl ?_
        refine px_cV (Y := yy_Fb_takeEnd) (Yc := yy_Fb_dueCheck) (b := 1) (As := []) dx_Fb_takeEnd_36 ml_Fb_31 mv_Fb_dueCheck np_Fb_dueCheck ⟨_, rfl⟩ (by decide) rfl (by decide) rfl (Nat.le_of_ble_eq_true rfl) (Nat.le_of_ble_eq_true rfl) rk_Fb_takeEnd_Fb_dueCheck rfl (k_dueCheck hR hB) zz_0 ?_
        refine px_aload_n dx_Fb_takeEnd_39 rfl ?_
        refine px_cV (Y := yy_Fb_takeEnd) (Yc := yy_Fb_toldCheck) (b := 1) (As := []) dx_Fb_takeEnd_40 ml_Fb_39 mv_Fb_toldCheck np_Fb_toldCheck ⟨_, rfl⟩ (by decide) rfl (by decide) rfl (Nat.le_of_ble_eq_true rfl) (Nat.le_of_ble_eq_true rfl) rk_Fb_takeEnd_Fb_toldCheck rfl (k_toldCheck hR hB) zz_0 ?_
        refine px_lcmp dx_Fb_takeEnd_43 ?_
        refine px_if_eq dx_Fb_takeEnd_44 (fun c_44 => ?_) (fun c_44 => ?_)
        · exact px_vret dx_Fb_takeEnd_52 rfl (by (have e : rdE b n (tlV b) s = s := by (have e0 : rdE0 n s = s := by (unfold rdE0; rw [if_neg (by omega)])); unfold rdE; rw [e0, if_neg (fun q => q.2 (lg_cmp_e (ckV_lt _ _) (tlV_lt hB.2.2.2) c_44).symm)]); rw [e] at hp0; exact hp0 _ _ ⟨rfl, Agp.rf, hP⟩)
        · refine px_aload_n dx_Fb_takeEnd_47 rfl ?_
          refine px_iconst (v := 4) dx_Fb_takeEnd_48 rfl ?_
          refine px_putI dx_Fb_takeEnd_49 fl_Fb_22 rfl (by decide) rfl ?_
          exact px_vret dx_Fb_takeEnd_52 rfl (by (have e : rdE b n (tlV b) s = (4, true) := by (have e0 : rdE0 n s = s := by (unfold rdE0; rw [if_neg (by omega)])); unfold rdE; rw [e0, if_pos ⟨hs, fun q => c_44 (by rw [q]; exact lg_cmp_s _)⟩]); rw [e] at hp0; exact hp0 _ _ ⟨rfl, Agp.rf.w ⟨rfl, Or.inr rfl⟩, by decide, gI_s, fun q => by cases q⟩)
    · refine px_aload_n dx_Fb_takeEnd_19 rfl ?_
      refine px_aload_n dx_Fb_takeEnd_20 rfl ?_
      refine px_getI dx_Fb_takeEnd_21 fl_Fb_19 rfl (by decide) rfl ?_
      refine px_eqi (y := nI (s.1)) (hP.2.2 hs) ?_
      refine px_putI dx_Fb_takeEnd_24 fl_Fb_22 rfl (by decide) rfl ?_
      refine px_aload_n dx_Fb_takeEnd_27 rfl ?_
      refine px_getI dx_Fb_takeEnd_28 fl_Fb_22 rfl (by decide) rfl ?_
      refine px_eqi (y := nI ((s.1))) gI_s ?_
      refine px_iconst (v := -1) dx_Fb_takeEnd_31 rfl ?_
      refine px_icmp_ne dx_Fb_takeEnd_32 (fun c_32 => ?_) (fun c_32 => ?_)
      · exact px_vret dx_Fb_takeEnd_52 rfl (by (have e : rdE b n (tlV b) s = (s.1, true) := by (have e0 : rdE0 n s = (s.1, true) := by (unfold rdE0; rw [if_pos ⟨hs, by omega⟩])); unfold rdE; rw [e0, if_neg (fun q => Bool.noConfusion q.1)]); rw [e] at hp0; exact hp0 _ _ ⟨rfl, Agp.rf.w ⟨rfl, Or.inr rfl⟩, hP.1, gI_s, fun q => by cases q⟩)
      · (have z := nI_pos' (n := s.1) (by omega)); rw [c_32] at z; exact absurd z (by decide)

def P2 (o k : Nat) : Prop := o = 2 ∨ (o = 1 ∧ k = 1)
theorem shr_8i {c k : Nat} (hc : c < 2 ^ 32) (hk : k < 4) : (lN c >>> ((nI (8 * k)).toInt64 &&& 63)).toInt32 &&& 255 = nI (c / 256 ^ k % 256) := by
  rw [← shr_8 hc hk, Int64.toInt32_and]
  rfl

set_option maxRecDepth 100000 in
set_option maxHeartbeats 1000000 in
theorem k_putHead_lp {l : Launch} {G : fr_G} {σ : fr_S} (hR0 : RF σ) {b : Nat → Nat} {n : Nat} (hb : ∀ k, b k < 256) (hn : n ≤ 212) {Post : Option Value → fr_S → Prop} (hp0 : ∀ r σ', (fun r0 σ' => (212 < n ∧ r0 = some (.int 0) ∧ σ' = σ) ∨ (n ≤ 212 ∧ r0 = some (.int 1) ∧ Agp P2 σ σ' ∧ KB σ' (slB b n) (n + 8))) r σ' → Post r σ') : ∀ (d : Nat) (k : Nat) (σ1 : fr_S), 4 - k < d → k ≤ 4 → Agp P2 σ σ1 → gI σ1 1 1 = nI (n + 8) → (∀ y, y < 220 → gI σ1 2 y = nI (if y < 4 + k then slB b n y else hdB b n y)) → PX l G yy_Fb_putHead rm_Fb_putHead (QR G false 742 0 0 Post) false 742 0 0 87 [(0, .ref (1)), (1, .long (lN (ckV (hdB b n) (n + 8)))), (3, .int (nI (k)))] [] (σ1) := by
  intro d
  induction d with
  | zero => intro k σ1 hd; exact absurd hd (Nat.not_lt_zero _)
  | succ d ih =>
    intro k σ1 hd hk hA hN hB
    have hR := hA.rfs hR0
    refine px_iload_n dx_Fb_putHead_87 rfl ?_
    refine px_iconst (v := 4) dx_Fb_putHead_88 rfl ?_
    refine px_icmp_geN (a := k) (b := 4) dx_Fb_putHead_89 (by omega) (by omega) (fun c_89 => ?_) (fun c_89 => ?_)
    · refine px_iconst (v := 1) dx_Fb_putHead_117 rfl ?_
      exact px_zret dx_Fb_putHead_118 rfl (by decide) (by obtain rfl : k = 4 := (by omega); exact hp0 _ _ (Or.inr ⟨hn, rfl, hA, hN, by omega, fun y hy => (hB y hy).trans (by (by_cases q : y < 4 + 4; rw [if_pos q]; rw [if_neg q]; unfold slB; rw [if_neg (by omega)])), slB_lt hb n⟩))
    · refine px_aload_n dx_Fb_putHead_92 rfl ?_
      refine px_getR (r := 2) dx_Fb_putHead_93 fl_Fb_9 rfl (by decide) rfl hR.fb ?_
      refine px_iconst (v := 4) dx_Fb_putHead_96 rfl ?_
      refine px_iload_n dx_Fb_putHead_97 rfl ?_
      refine px_iaddN (a := 4) (b := k) dx_Fb_putHead_98 ?_
      refine px_lload_n dx_Fb_putHead_99 rfl ?_
      refine px_bipush (v := 8) dx_Fb_putHead_100 rfl ?_
      refine px_iload_n dx_Fb_putHead_102 rfl ?_
      refine px_imulN (a := 8) (b := k) dx_Fb_putHead_103 ?_
      refine px_lshr dx_Fb_putHead_104 ?_
      refine px_l2i dx_Fb_putHead_105 ?_
      refine px_sipush (v := 255) dx_Fb_putHead_106 rfl ?_
      refine px_iand dx_Fb_putHead_109 ?_
      refine px_eqi (y := nI (ckV (hdB b n) (n + 8) / 256 ^ k % 256)) (shr_8i (ckV_lt _ _) (by omega)) ?_
      refine px_iastN (j := 4 + k) dx_Fb_putHead_110 rfl (by decide) (by omega) ?_
      refine px_iinc (v := (nI (k + 1))) (lv' := [(3, .int (nI (k + 1))), (0, .ref (1)), (1, .long (lN (ckV (hdB b n) (n + 8))))]) dx_Fb_putHead_111 rfl (nI_1 _) (by decide) rfl ?_
      refine px_goto dx_Fb_putHead_114 ?_
      refine px_sub [1, 2, 0] rfl ?_
      refine ih (k + 1) (sI σ1 2 (4 + k) (nI (ckV (hdB b n) (n + 8) / 256 ^ k % 256))) (by omega) (by omega) (hA.w (Or.inl rfl)) ((gI_n (Or.inl (by decide))).trans hN) (fun y hy => ?_)
      by_cases e : y = 4 + k
      · subst e
        rw [gI_s, if_pos (by omega)]
        unfold slB
        rw [if_pos (by omega), show 4 + k - 4 = k by omega]
      · rw [gI_n (Or.inr e), hB y hy]
        by_cases q : y < 4 + k
        · rw [if_pos q, if_pos (by omega)]
        · rw [if_neg q, if_neg (by omega)]
set_option maxRecDepth 100000 in
set_option maxHeartbeats 1000000 in
theorem k_putHead {l : Launch} {G : fr_G} {σ : fr_S} (hR0 : RF σ) {b : Nat → Nat} {n : Nat} (hB : KB σ b n) : CR l G yy_Fb_putHead rm_Fb_putHead [.ref (1)] σ (fun r0 σ' => (212 < n ∧ r0 = some (.int 0) ∧ σ' = σ) ∨ (n ≤ 212 ∧ r0 = some (.int 1) ∧ Agp P2 σ σ' ∧ KB σ' (slB b n) (n + 8))) := by
  intro Post hp0
  show PX l G yy_Fb_putHead rm_Fb_putHead _ false 742 0 0 0 [(0, .ref (1))] [] σ
  have hR := hR0
  have hn := hB.2.1
  refine px_aload_n dx_Fb_putHead_0 rfl ?_
  refine px_getI dx_Fb_putHead_1 fl_Fb_15 rfl (by decide) rfl ?_
  refine px_eqi (y := nI (n)) hB.1 ?_
  refine px_if_ltN (a := n) dx_Fb_putHead_4 (by omega) (fun c_4 => ?_) (fun c_4 => ?_)
  · refine px_iconst (v := 0) dx_Fb_putHead_17 rfl ?_
    exact px_zret dx_Fb_putHead_18 rfl (by decide) (by exact hp0 _ _ (Or.inl ⟨by omega, rfl, rfl⟩))
  · refine px_aload_n dx_Fb_putHead_7 rfl ?_
    refine px_getI dx_Fb_putHead_8 fl_Fb_15 rfl (by decide) rfl ?_
    refine px_eqi (y := nI (n)) hB.1 ?_
    refine px_sipush (v := 212) dx_Fb_putHead_11 rfl ?_
    refine px_icmp_leN (a := n) (b := 212) dx_Fb_putHead_14 (by omega) (by omega) (fun c_14 => ?_) (fun c_14 => ?_)
    · refine px_aload_n dx_Fb_putHead_19 rfl ?_
      refine px_getR (r := 2) dx_Fb_putHead_20 fl_Fb_9 rfl (by decide) rfl hR.fb ?_
      refine px_iconst (v := 0) dx_Fb_putHead_23 rfl ?_
      refine px_aload_n dx_Fb_putHead_24 rfl ?_
      refine px_getR (r := 2) dx_Fb_putHead_25 fl_Fb_9 rfl (by decide) rfl hR.fb ?_
      refine px_bipush (v := 8) dx_Fb_putHead_28 rfl ?_
      refine px_aload_n dx_Fb_putHead_30 rfl ?_
      refine px_getI dx_Fb_putHead_31 fl_Fb_15 rfl (by decide) rfl ?_
      refine px_eqi (y := nI (n)) hB.1 ?_
      refine px_copyi (a0 := 2) (a := 2) (sp := 0) (dp := 8) (cn := n) dx_Fb_putHead_34 cw_Fb_25 rfl rfl (by decide) (by decide) (by omega) (by omega) (by omega) (by omega) (by omega) (by first | rfl | decide) (by first | rfl | decide) (by first | rfl | decide) (Nat.le_of_ble_eq_true rfl) (Nat.le_of_ble_eq_true rfl) ?_
      obtain ⟨σ1, hσ1⟩ : ∃ z, z = cpI (σ) (2) (2) (0) (8) (n) := ⟨_, rfl⟩
      rw [← hσ1]
      have hn2 : n ≤ 212 := by omega
      have hA1 : Agp P2 σ σ1 := by (rw [hσ1]; exact ⟨fun o k h => cpI_n (fun z => h (Or.inl z)), rfl⟩)
      have hR := hA1.rfs hR
      have hN : gI σ1 1 1 = nI n := by (rw [hσ1, cpI_n (by decide)]; exact hB.1)
      have hB1 : ∀ k, k < 220 → gI σ1 2 k = nI (shB b n k) := fun k hk => by (rw [hσ1, cpI_s]; unfold shB; by_cases q : 8 ≤ k ∧ k < 8 + n; rw [if_pos q, if_pos (by omega), Nat.zero_add]; exact hB.2.2.1 _ (by omega); rw [if_neg q, if_neg (by omega)]; exact hB.2.2.1 k hk)
      refine px_aload_n dx_Fb_putHead_37 rfl ?_
      refine px_dup dx_Fb_putHead_38 rfl ?_
      refine px_getI dx_Fb_putHead_39 fl_Fb_15 rfl (by decide) rfl ?_
      refine px_eqi (y := nI (n)) hN ?_
      refine px_bipush (v := 8) dx_Fb_putHead_42 rfl ?_
      refine px_iaddN (a := n) (b := 8) dx_Fb_putHead_44 ?_
      refine px_putI dx_Fb_putHead_45 fl_Fb_15 rfl (by decide) rfl ?_
      refine px_aload_n dx_Fb_putHead_48 rfl ?_
      refine px_getR (r := 2) dx_Fb_putHead_49 fl_Fb_9 rfl (by decide) rfl hR.fb ?_
      refine px_iconst (v := 0) dx_Fb_putHead_52 rfl ?_
      refine px_bipush (v := 100) dx_Fb_putHead_53 rfl ?_
      refine px_iastN (j := 0) dx_Fb_putHead_55 rfl (by decide) (by decide) ?_
      refine px_aload_n dx_Fb_putHead_56 rfl ?_
      refine px_getR (r := 2) dx_Fb_putHead_57 fl_Fb_9 rfl (by decide) rfl hR.fb ?_
      refine px_iconst (v := 1) dx_Fb_putHead_60 rfl ?_
      refine px_bipush (v := 101) dx_Fb_putHead_61 rfl ?_
      refine px_iastN (j := 1) dx_Fb_putHead_63 rfl (by decide) (by decide) ?_
      refine px_aload_n dx_Fb_putHead_64 rfl ?_
      refine px_getR (r := 2) dx_Fb_putHead_65 fl_Fb_9 rfl (by decide) rfl hR.fb ?_
      refine px_iconst (v := 2) dx_Fb_putHead_68 rfl ?_
      refine px_bipush (v := 120) dx_Fb_putHead_69 rfl ?_
      refine px_iastN (j := 2) dx_Fb_putHead_71 rfl (by decide) (by decide) ?_
      refine px_aload_n dx_Fb_putHead_72 rfl ?_
      refine px_getR (r := 2) dx_Fb_putHead_73 fl_Fb_9 rfl (by decide) rfl hR.fb ?_
      refine px_iconst (v := 3) dx_Fb_putHead_76 rfl ?_
      refine px_bipush (v := 10) dx_Fb_putHead_77 rfl ?_
      refine px_iastN (j := 3) dx_Fb_putHead_79 rfl (by decide) (by decide) ?_
      obtain ⟨σ2, hσ2⟩ : ∃ z, z = sI (sI (sI (sI (sI σ1 1 1 (nI (n + 8))) 2 0 100) 2 1 101) 2 2 120) 2 3 10 := ⟨_, rfl⟩
      rw [← hσ2]
      have hA2 : Agp P2 σ σ2 := by (rw [hσ2]; exact ((((hA1.w (Or.inr ⟨rfl, rfl⟩)).w (Or.inl rfl)).w (Or.inl rfl)).w (Or.inl rfl)).w (Or.inl rfl))
      have hR := hA2.rfs hR0
      have hB2 : KB σ2 (hdB b n) (n + 8) := by
        rw [hσ2]
        refine ⟨(gI_n (Or.inl (by decide))).trans ((gI_n (Or.inl (by decide))).trans ((gI_n (Or.inl (by decide))).trans ((gI_n (Or.inl (by decide))).trans gI_s))), by omega, fun k hk => ?_, hdB_lt hB.2.2.2 n⟩
        unfold hdB
        by_cases e3 : k = 3
        · subst e3
          exact gI_s
        · by_cases e2 : k = 2
          · subst e2
            exact (gI_n (Or.inr (by decide))).trans gI_s
          · by_cases e1 : k = 1
            · subst e1
              exact (gI_n (Or.inr (by decide))).trans ((gI_n (Or.inr (by decide))).trans gI_s)
            · by_cases e0 : k = 0
              · subst e0
                exact (gI_n (Or.inr (by decide))).trans ((gI_n (Or.inr (by decide))).trans ((gI_n (Or.inr (by decide))).trans gI_s))
              · rw [if_neg e0, if_neg e1, if_neg e2, if_neg e3, gI_n (Or.inr e3), gI_n (Or.inr e2), gI_n (Or.inr e1), gI_n (Or.inr e0), gI_n (Or.inl (by decide))]
                exact hB1 k hk
      refine px_aload_n dx_Fb_putHead_80 rfl ?_
      refine px_cV (Y := yy_Fb_putHead) (Yc := yy_Fb_dueCheck) (b := 1) (As := []) dx_Fb_putHead_81 ml_Fb_31 mv_Fb_dueCheck np_Fb_dueCheck ⟨_, rfl⟩ (by decide) rfl (by decide) rfl (Nat.le_of_ble_eq_true rfl) (Nat.le_of_ble_eq_true rfl) rk_Fb_putHead_Fb_dueCheck rfl (k_dueCheck hR hB2) zz_0 ?_
      refine px_lstore_n (lv' := [(1, .long (lN (ckV (hdB b n) (n + 8)))), (0, .ref (1))]) dx_Fb_putHead_84 (by decide) rfl ?_
      refine px_iconst (v := 0) dx_Fb_putHead_85 rfl ?_
      refine px_istore_n (lv' := [(3, .int (0)), (1, .long (lN (ckV (hdB b n) (n + 8)))), (0, .ref (1))]) dx_Fb_putHead_86 (by decide) rfl ?_
      refine px_sub [2, 1, 0] rfl ?_
      exact k_putHead_lp (σ := σ) hR0 hB.2.2.2 hn2 hp0 5 0 _ (by omega) (Nat.zero_le _) hA2 hB2.1 (fun y hy => (hB2.2.2.1 y hy).trans (by (by_cases q : y < 4 + 0; rw [if_pos q]; unfold slB; rw [if_neg (by omega)]; rw [if_neg q])))
    · refine px_iconst (v := 0) dx_Fb_putHead_17 rfl ?_
      exact px_zret dx_Fb_putHead_18 rfl (by decide) (by exact hp0 _ _ (Or.inl ⟨by omega, rfl, rfl⟩))
