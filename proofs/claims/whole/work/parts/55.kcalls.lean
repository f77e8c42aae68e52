/-! the class: a call ends, a call begins -/
def lvS (σ : fr_S) (us D : Nat) (w : Int64) (d : UInt64) : fr_S := if D = 1 then sI (sI (sD (sL (sI σ 7 4 (nI us)) 7 5 w) 7 6 d) 7 1 (nI (D - 1))) 7 2 2 else sI (sD (sL (sI σ 7 4 (nI us)) 7 5 w) 7 6 d) 7 1 (nI (D - 1))
theorem gL_si {σ : fr_S} {o k : Nat} {v : Int32} : gL (sI σ o k v) = gL σ := rfl
theorem gD_si {σ : fr_S} {o k : Nat} {v : Int32} : gD (sI σ o k v) = gD σ := rfl
theorem gD_sl {σ : fr_S} {o k : Nat} {v : Int64} : gD (sL σ o k v) = gD σ := rfl
theorem RF.si {σ : fr_S} {o k : Nat} {v : Int32} (h : RF σ) : RF (sI σ o k v) := h
theorem RF.sl {σ : fr_S} {o k : Nat} {v : Int64} (h : RF σ) : RF (sL σ o k v) := h
theorem RF.sd {σ : fr_S} {o k : Nat} {v : UInt64} (h : RF σ) : RF (sD σ o k v) := h
theorem RF.sr {σ : fr_S} {f : Nat} (hF : FE f) {v : Option Nat} (h : RF σ) : RF (sR σ f 2 v) := by
  have kF := kd_F hF
  have n : ∀ o k, ¬ (o = f ∧ k = 2) → gR (sR σ f 2 v) o k = gR σ o k := fun o k q => by
    show (if o = f ∧ k = 2 then v else σ.2.2.2 o k) = _
    rw [if_neg q]
    rfl
  obtain ⟨h1, h2, h3, h4, h5, h6⟩ := h
  refine ⟨⟨?_, ?_, ?_, ?_, ?_, ?_, ?_, ?_⟩, fun i hi => ?_, fun g hg => ⟨?_, ?_⟩, fun q hq => ?_, fun e he => ?_, fun s hs => ?_⟩
  · exact (n _ _ (by omega)).trans h1.1
  · exact (n _ _ (by omega)).trans h1.2.1
  · exact (n _ _ (by omega)).trans h1.2.2.1
  · exact (n _ _ (by omega)).trans h1.2.2.2.1
  · exact (n _ _ (by omega)).trans h1.2.2.2.2.1
  · exact (n _ _ (by omega)).trans h1.2.2.2.2.2.1
  · exact (n _ _ (by omega)).trans h1.2.2.2.2.2.2.1
  · exact (n _ _ (by omega)).trans h1.2.2.2.2.2.2.2
  · exact (n _ _ (by omega)).trans (h2 i hi)
  · exact (n _ _ (by omega)).trans (h3 g hg).1
  · exact (n _ _ (by omega)).trans (h3 g hg).2
  · have := hq.h27
    obtain ⟨a, b, c, d, e⟩ := h4 q hq
    exact ⟨(n _ _ (by omega)).trans a, (n _ _ (by omega)).trans b, (n _ _ (by omega)).trans c, (n _ _ (by omega)).trans d, fun m hm => (n _ _ (by omega)).trans (e m hm)⟩
  · have := he.h32
    obtain ⟨a, b, c, d, f'⟩ := h5 e he
    exact ⟨(n _ _ (by omega)).trans a, (n _ _ (by omega)).trans b, (n _ _ (by omega)).trans c, (n _ _ (by omega)).trans d, fun m hm => (n _ _ (by omega)).trans (f' m hm)⟩
  · have := (kd_S hs).2.2
    exact (n _ _ (by omega)).trans (h6 s hs)

set_option maxRecDepth 100000 in
set_option maxHeartbeats 1000000 in
theorem k_leave3 {l : Launch} {G : fr_G} {σ : fr_S} {f : Nat} (hF : FE f) (hR : RF σ) {s : Nat} (hS : SE s) {us D r1 : Nat} (h8 : gI σ s 8 = nI us) (h10 : gI σ s 10 = nI r1) (hD : gI σ 7 1 = nI D) (hD1 : 1 ≤ D) (hD6 : D ≤ 6) (h3 : gI σ s 3 = nI 3) (hr1 : r1 < 10) : CT l G yy_Mc_leave rm_Mc_leave [.ref (7), .ref (f), .ref (s)] σ none (lvS σ us D (gL σ (f + 1) r1) (gD σ (f + 2) r1)) := by
  intro Post hp0
  have hp := hp0
  show PX l G yy_Mc_leave rm_Mc_leave _ false 742 0 0 0 [(0, .ref (7)), (1, .ref (f)), (2, .ref (s))] [] σ
  have kF := kd_F hF
  have kS := kd_S hS
  refine px_aload_n dx_Mc_leave_0 rfl ?_
  refine px_getI dx_Mc_leave_1 fl_Mc_73 kS.1 (by omega) rfl ?_
  refine px_eqi (y := nI (3)) h3 ?_
  refine px_iconst (v := 3) dx_Mc_leave_4 rfl ?_
  refine px_icmp_ne dx_Mc_leave_5 (fun q => absurd q (by decide)) (fun _ => ?_)
  refine px_iconst (v := 1) dx_Mc_leave_8 rfl ?_
  refine px_goto dx_Mc_leave_9 ?_
  refine px_istore_n (lv' := [(3, .int (1)), (0, .ref (7)), (1, .ref (f)), (2, .ref (s))]) dx_Mc_leave_13 (by decide) rfl ?_
  refine px_aload_n dx_Mc_leave_14 rfl ?_
  refine px_aload_n dx_Mc_leave_15 rfl ?_
  refine px_getI dx_Mc_leave_16 fl_Mc_123 kS.1 (by omega) rfl ?_
  refine px_eqi (y := nI (us)) h8 ?_
  refine px_putI dx_Mc_leave_19 fl_Mc_27 rfl (by decide) rfl ?_
  refine px_aload_n dx_Mc_leave_22 rfl ?_
  refine px_iload_n dx_Mc_leave_23 rfl ?_
  refine px_if_eq dx_Mc_leave_24 (fun q => absurd q (by decide)) (fun _ => ?_)
  refine px_aload_n dx_Mc_leave_27 rfl ?_
  refine px_aload_n dx_Mc_leave_28 rfl ?_
  refine px_getI dx_Mc_leave_29 fl_Mc_106 kS.1 (by omega) rfl ?_
  refine px_eqi (y := nI (r1)) (Eq.trans (gI_n (Or.inr (by decide))) h10) ?_
  refine px_cV (Y := yy_Mc_leave) (Yc := yy_Fr_whole) (b := f) (As := [.int (nI (r1))]) dx_Mc_leave_32 ml_Mc_109 mv_Fr_whole np_Fr_whole ⟨_, rfl⟩ (by decide) kF.1 (by omega) rfl (Nat.le_of_ble_eq_true rfl) (Nat.le_of_ble_eq_true rfl) rk_Mc_leave_Fr_whole rfl (k_whole (r := r1) hF (by exact hR) hr1) zz_0 ?_
  refine px_goto dx_Mc_leave_35 ?_
  refine px_putL dx_Mc_leave_39 fl_Mc_30 rfl (by decide) rfl ?_
  refine px_aload_n dx_Mc_leave_42 rfl ?_
  refine px_iload_n dx_Mc_leave_43 rfl ?_
  refine px_if_eq dx_Mc_leave_44 (fun q => absurd q (by decide)) (fun _ => ?_)
  refine px_aload_n dx_Mc_leave_47 rfl ?_
  refine px_aload_n dx_Mc_leave_48 rfl ?_
  refine px_getI dx_Mc_leave_49 fl_Mc_106 kS.1 (by omega) rfl ?_
  refine px_eqi (y := nI (r1)) (Eq.trans gI_l (Eq.trans (gI_n (Or.inr (by decide))) h10)) ?_
  refine px_cV (Y := yy_Mc_leave) (Yc := yy_Fr_realNumber) (b := f) (As := [.int (nI (r1))]) dx_Mc_leave_52 ml_Mc_126 mv_Fr_realNumber np_Fr_realNumber ⟨_, rfl⟩ (by decide) kF.1 (by omega) rfl (Nat.le_of_ble_eq_true rfl) (Nat.le_of_ble_eq_true rfl) rk_Mc_leave_Fr_realNumber rfl (k_real (r := r1) hF (by exact hR) hr1) zz_0 ?_
  refine px_goto dx_Mc_leave_55 ?_
  refine px_putD dx_Mc_leave_59 fl_Mc_34 rfl (by decide) rfl ?_
  refine px_aload_n dx_Mc_leave_62 rfl ?_
  refine px_dup dx_Mc_leave_63 rfl ?_
  refine px_getI dx_Mc_leave_64 fl_Mc_17 rfl (by decide) rfl ?_
  refine px_eqi (y := nI (D)) (Eq.trans gI_d (Eq.trans gI_l (Eq.trans (gI_n (Or.inr (by decide))) hD))) ?_
  refine px_iconst (v := 1) dx_Mc_leave_67 rfl ?_
  refine px_isubN (a := D) (b := 1) dx_Mc_leave_68 (by omega) ?_
  refine px_putI dx_Mc_leave_69 fl_Mc_17 rfl (by decide) rfl ?_
  refine px_aload_n dx_Mc_leave_72 rfl ?_
  refine px_getI dx_Mc_leave_73 fl_Mc_17 rfl (by decide) rfl ?_
  refine px_eqi (y := nI ((D - 1))) gI_s ?_
  refine px_if_neN (a := (D - 1)) dx_Mc_leave_76 (by omega) (fun c_76 => ?_) (fun c_76 => ?_)
  · exact px_vret dx_Mc_leave_84 rfl (by (have e : lvS σ us D (gL σ (f + 1) r1) (gD σ (f + 2) r1) = sI (sD (sL (sI σ 7 4 (nI (us))) 7 5 (gL σ (f + 1) r1)) 7 6 (gD σ (f + 2) r1)) 7 1 (nI (D - 1)) := if_neg (by omega)); rw [e] at hp; exact hp)
  · refine px_aload_n dx_Mc_leave_79 rfl ?_
    refine px_iconst (v := 2) dx_Mc_leave_80 rfl ?_
    refine px_putI dx_Mc_leave_81 fl_Mc_21 rfl (by decide) rfl ?_
    exact px_vret dx_Mc_leave_84 rfl (by (have e : lvS σ us D (gL σ (f + 1) r1) (gD σ (f + 2) r1) = sI (sI (sD (sL (sI σ 7 4 (nI (us))) 7 5 (gL σ (f + 1) r1)) 7 6 (gD σ (f + 2) r1)) 7 1 (nI (D - 1))) 7 2 2 := if_pos (by omega)); rw [e] at hp; exact hp)
set_option maxRecDepth 100000 in
set_option maxHeartbeats 1000000 in
theorem k_leave2 {l : Launch} {G : fr_G} {σ : fr_S} {f : Nat} (hF : FE f) (hR : RF σ) {s : Nat} (hS : SE s) {us D r1 : Nat} (h8 : gI σ s 8 = nI us) (h10 : gI σ s 10 = nI r1) (hD : gI σ 7 1 = nI D) (hD1 : 1 ≤ D) (hD6 : D ≤ 6) (h3 : gI σ s 3 = nI 2) : CT l G yy_Mc_leave rm_Mc_leave [.ref (7), .ref (f), .ref (s)] σ none (lvS σ us D 0 0) := by
  intro Post hp0
  have hp := hp0
  show PX l G yy_Mc_leave rm_Mc_leave _ false 742 0 0 0 [(0, .ref (7)), (1, .ref (f)), (2, .ref (s))] [] σ
  have kF := kd_F hF
  have kS := kd_S hS
  refine px_aload_n dx_Mc_leave_0 rfl ?_
  refine px_getI dx_Mc_leave_1 fl_Mc_73 kS.1 (by omega) rfl ?_
  refine px_eqi (y := nI (2)) h3 ?_
  refine px_iconst (v := 3) dx_Mc_leave_4 rfl ?_
  refine px_icmp_ne dx_Mc_leave_5 (fun _ => ?_) (fun q => absurd q (by decide))
  refine px_iconst (v := 0) dx_Mc_leave_12 rfl ?_
  refine px_istore_n (lv' := [(3, .int (0)), (0, .ref (7)), (1, .ref (f)), (2, .ref (s))]) dx_Mc_leave_13 (by decide) rfl ?_
  refine px_aload_n dx_Mc_leave_14 rfl ?_
  refine px_aload_n dx_Mc_leave_15 rfl ?_
  refine px_getI dx_Mc_leave_16 fl_Mc_123 kS.1 (by omega) rfl ?_
  refine px_eqi (y := nI (us)) h8 ?_
  refine px_putI dx_Mc_leave_19 fl_Mc_27 rfl (by decide) rfl ?_
  refine px_aload_n dx_Mc_leave_22 rfl ?_
  refine px_iload_n dx_Mc_leave_23 rfl ?_
  refine px_if_eq dx_Mc_leave_24 (fun _ => ?_) (fun q => absurd (by decide) q)
  refine px_lconst (v := 0) dx_Mc_leave_38 rfl ?_
  refine px_putL dx_Mc_leave_39 fl_Mc_30 rfl (by decide) rfl ?_
  refine px_aload_n dx_Mc_leave_42 rfl ?_
  refine px_iload_n dx_Mc_leave_43 rfl ?_
  refine px_if_eq dx_Mc_leave_44 (fun _ => ?_) (fun q => absurd (by decide) q)
  refine px_dconst0 dx_Mc_leave_58 ?_
  refine px_putD dx_Mc_leave_59 fl_Mc_34 rfl (by decide) rfl ?_
  refine px_aload_n dx_Mc_leave_62 rfl ?_
  refine px_dup dx_Mc_leave_63 rfl ?_
  refine px_getI dx_Mc_leave_64 fl_Mc_17 rfl (by decide) rfl ?_
  refine px_eqi (y := nI (D)) (Eq.trans gI_d (Eq.trans gI_l (Eq.trans (gI_n (Or.inr (by decide))) hD))) ?_
  refine px_iconst (v := 1) dx_Mc_leave_67 rfl ?_
  refine px_isubN (a := D) (b := 1) dx_Mc_leave_68 (by omega) ?_
  refine px_putI dx_Mc_leave_69 fl_Mc_17 rfl (by decide) rfl ?_
  refine px_aload_n dx_Mc_leave_72 rfl ?_
  refine px_getI dx_Mc_leave_73 fl_Mc_17 rfl (by decide) rfl ?_
  refine px_eqi (y := nI ((D - 1))) gI_s ?_
  refine px_if_neN (a := (D - 1)) dx_Mc_leave_76 (by omega) (fun c_76 => ?_) (fun c_76 => ?_)
  · exact px_vret dx_Mc_leave_84 rfl (by (have e : lvS σ us D 0 0 = sI (sD (sL (sI σ 7 4 (nI (us))) 7 5 0) 7 6 0) 7 1 (nI (D - 1)) := if_neg (by omega)); rw [e] at hp; exact hp)
  · refine px_aload_n dx_Mc_leave_79 rfl ?_
    refine px_iconst (v := 2) dx_Mc_leave_80 rfl ?_
    refine px_putI dx_Mc_leave_81 fl_Mc_21 rfl (by decide) rfl ?_
    exact px_vret dx_Mc_leave_84 rfl (by (have e : lvS σ us D 0 0 = sI (sI (sD (sL (sI σ 7 4 (nI (us))) 7 5 0) 7 6 0) 7 1 (nI (D - 1))) 7 2 2 := if_pos (by omega)); rw [e] at hp; exact hp)
