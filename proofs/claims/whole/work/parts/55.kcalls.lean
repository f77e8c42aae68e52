/-! the class: a call ends, a call begins -/
def lvS (σ : fr_S) (us D : Nat) (w : Int64) (d : UInt64) : fr_S := if D = 1 then sI (sI (sD (sL (sI σ 7 4 (nI us)) 7 5 w) 7 6 d) 7 1 (nI (D - 1))) 7 2 2 else sI (sD (sL (sI σ 7 4 (nI us)) 7 5 w) 7 6 d) 7 1 (nI (D - 1))
theorem gL_si {σ : fr_S} {o k : Nat} {v : Int32} : gL (sI σ o k v) = gL σ := rfl
theorem gD_si {σ : fr_S} {o k : Nat} {v : Int32} : gD (sI σ o k v) = gD σ := rfl
theorem gD_sl {σ : fr_S} {o k : Nat} {v : Int64} : gD (sL σ o k v) = gD σ := rfl
theorem RF.si {σ : fr_S} {o k : Nat} {v : Int32} (h : RF σ) : RF (sI σ o k v) := h
theorem RF.sl {σ : fr_S} {o k : Nat} {v : Int64} (h : RF σ) : RF (sL σ o k v) := h
theorem RF.sd {σ : fr_S} {o k : Nat} {v : UInt64} (h : RF σ) : RF (sD σ o k v) := h
theorem RF.sr {σ : fr_S} {f : Nat} (hF : FE f) {v : Option Nat} (h : RF σ) : RF (sR σ f 2 v) := by
  have kF := kd_F hF
  have n : ∀ o k, ¬ (o = f ∧ k = 2) → gR (sR σ f 2 v) o k = gR σ o k := fun o k q => by
    show (if o = f ∧ k = 2 then v else σ.2.2.2 o k) = _
    rw [if_neg q]
    rfl
  obtain ⟨h1, h2, h3, h4, h5, h6⟩ := h
  refine ⟨⟨?_, ?_, ?_, ?_, ?_, ?_, ?_, ?_⟩, fun i hi => ?_, fun g hg => ⟨?_, ?_⟩, fun q hq => ?_, fun e he => ?_, fun s hs => ?_⟩
  · exact (n _ _ (by omega)).trans h1.1
  · exact (n _ _ (by omega)).trans h1.2.1
  · exact (n _ _ (by omega)).trans h1.2.2.1
  · exact (n _ _ (by omega)).trans h1.2.2.2.1
  · exact (n _ _ (by omega)).trans h1.2.2.2.2.1
  · exact (n _ _ (by omega)).trans h1.2.2.2.2.2.1
  · exact (n _ _ (by omega)).trans h1.2.2.2.2.2.2.1
  · exact (n _ _ (by omega)).trans h1.2.2.2.2.2.2.2
  · exact (n _ _ (by omega)).trans (h2 i hi)
  · exact (n _ _ (by omega)).trans (h3 g hg).1
  · exact (n _ _ (by omega)).trans (h3 g hg).2
  · have := hq.h27
    obtain ⟨a, b, c, d, e⟩ := h4 q hq
    exact ⟨(n _ _ (by omega)).trans a, (n _ _ (by omega)).trans b, (n _ _ (by omega)).trans c, (n _ _ (by omega)).trans d, fun m hm => (n _ _ (by omega)).trans (e m hm)⟩
  · have := he.h32
    obtain ⟨a, b, c, d, f'⟩ := h5 e he
    exact ⟨(n _ _ (by omega)).trans a, (n _ _ (by omega)).trans b, (n _ _ (by omega)).trans c, (n _ _ (by omega)).trans d, fun m hm => (n _ _ (by omega)).trans (f' m hm)⟩
  · have := (kd_S hs).2.2
    exact (n _ _ (by omega)).trans (h6 s hs)

set_option maxRecDepth 100000 in
set_option maxHeartbeats 1000000 in
theorem k_leave3 {l : Launch} {G : fr_G} {σ : fr_S} {f : Nat} (hF : FE f) (hR : RF σ) {s : Nat} (hS : SE s) {us D r1 : Nat} (h8 : gI σ s 8 = nI us) (h10 : gI σ s 10 = nI r1) (hD : gI σ 7 1 = nI D) (hD1 : 1 ≤ D) (hD6 : D ≤ 6) (h3 : gI σ s 3 = nI 3) (hr1 : r1 < 10) : CT l G yy_Mc_leave rm_Mc_leave [.ref (7), .ref (f), .ref (s)] σ none (lvS σ us D (gL σ (f + 1) r1) (gD σ (f + 2) r1)) := by
  intro Post hp0
  have hp := hp0
  show PX l G yy_Mc_leave rm_Mc_leave _ false 742 0 0 0 [(0, .ref (7)), (1, .ref (f)), (2, .ref (s))] [] σ
  have kF := kd_F hF
  have kS := kd_S hS
  refine px_aload_n dx_Mc_leave_0 rfl ?_
  refine px_getI dx_Mc_leave_1 fl_Mc_73 kS.1 (by omega) rfl ?_
  refine px_eqi (y := nI (3)) h3 ?_
  refine px_iconst (v := 3) dx_Mc_leave_4 rfl ?_
  refine px_icmp_ne dx_Mc_leave_5 (fun q => absurd q (by decide)) (fun _ => ?_)
  refine px_iconst (v := 1) dx_Mc_leave_8 rfl ?_
  refine px_goto dx_Mc_leave_9 ?_
  refine px_istore_n (lv' := [(3, .int (1)), (0, .ref (7)), (1, .ref (f)), (2, .ref (s))]) dx_Mc_leave_13 (by decide) rfl ?_
  refine px_aload_n dx_Mc_leave_14 rfl ?_
  refine px_aload_n dx_Mc_leave_15 rfl ?_
  refine px_getI dx_Mc_leave_16 fl_Mc_123 kS.1 (by omega) rfl ?_
  refine px_eqi (y := nI (us)) h8 ?_
  refine px_putI dx_Mc_leave_19 fl_Mc_27 rfl (by decide) rfl ?_
  refine px_aload_n dx_Mc_leave_22 rfl ?_
  refine px_iload_n dx_Mc_leave_23 rfl ?_
  refine px_if_eq dx_Mc_leave_24 (fun q => absurd q (by decide)) (fun _ => ?_)
  refine px_aload_n dx_Mc_leave_27 rfl ?_
  refine px_aload_n dx_Mc_leave_28 rfl ?_
  refine px_getI dx_Mc_leave_29 fl_Mc_106 kS.1 (by omega) rfl ?_
  refine px_eqi (y := nI (r1)) (Eq.trans (gI_n (Or.inr (by decide))) h10) ?_
  refine px_cV (Y := yy_Mc_leave) (Yc := yy_Fr_whole) (b := f) (As := [.int (nI (r1))]) dx_Mc_leave_32 ml_Mc_109 mv_Fr_whole np_Fr_whole ⟨_, rfl⟩ (by decide) kF.1 (by omega) rfl (Nat.le_of_ble_eq_true rfl) (Nat.le_of_ble_eq_true rfl) rk_Mc_leave_Fr_whole rfl (k_whole (r := r1) hF (by exact hR) hr1) zz_0 ?_
  refine px_goto dx_Mc_leave_35 ?_
  refine px_putL dx_Mc_leave_39 fl_Mc_30 rfl (by decide) rfl ?_
  refine px_aload_n dx_Mc_leave_42 rfl ?_
  refine px_iload_n dx_Mc_leave_43 rfl ?_
  refine px_if_eq dx_Mc_leave_44 (fun q => absurd q (by decide)) (fun _ => ?_)
  refine px_aload_n dx_Mc_leave_47 rfl ?_
  refine px_aload_n dx_Mc_leave_48 rfl ?_
  refine px_getI dx_Mc_leave_49 fl_Mc_106 kS.1 (by omega) rfl ?_
  refine px_eqi (y := nI (r1)) (Eq.trans gI_l (Eq.trans (gI_n (Or.inr (by decide))) h10)) ?_
  refine px_cV (Y := yy_Mc_leave) (Yc := yy_Fr_realNumber) (b := f) (As := [.int (nI (r1))]) dx_Mc_leave_52 ml_Mc_126 mv_Fr_realNumber np_Fr_realNumber ⟨_, rfl⟩ (by decide) kF.1 (by omega) rfl (Nat.le_of_ble_eq_true rfl) (Nat.le_of_ble_eq_true rfl) rk_Mc_leave_Fr_realNumber rfl (k_real (r := r1) hF (by exact hR) hr1) zz_0 ?_
  refine px_goto dx_Mc_leave_55 ?_
  refine px_putD dx_Mc_leave_59 fl_Mc_34 rfl (by decide) rfl ?_
  refine px_aload_n dx_Mc_leave_62 rfl ?_
  refine px_dup dx_Mc_leave_63 rfl ?_
  refine px_getI dx_Mc_leave_64 fl_Mc_17 rfl (by decide) rfl ?_
  refine px_eqi (y := nI (D)) (Eq.trans gI_d (Eq.trans gI_l (Eq.trans (gI_n (Or.inr (by decide))) hD))) ?_
  refine px_iconst (v := 1) dx_Mc_leave_67 rfl ?_
  refine px_isubN (a := D) (b := 1) dx_Mc_leave_68 (by omega) ?_
  refine px_putI dx_Mc_leave_69 fl_Mc_17 rfl (by decide) rfl ?_
  refine px_aload_n dx_Mc_leave_72 rfl ?_
  refine px_getI dx_Mc_leave_73 fl_Mc_17 rfl (by decide) rfl ?_
  refine px_eqi (y := nI ((D - 1))) gI_s ?_
  refine px_if_neN (a := (D - 1)) dx_Mc_leave_76 (by omega) (fun c_76 => ?_) (fun c_76 => ?_)
  · exact px_vret dx_Mc_leave_84 rfl (by (have e : lvS σ us D (gL σ (f + 1) r1) (gD σ (f + 2) r1) = sI (sD (sL (sI σ 7 4 (nI (us))) 7 5 (gL σ (f + 1) r1)) 7 6 (gD σ (f + 2) r1)) 7 1 (nI (D - 1)) := if_neg (by omega)); rw [e] at hp; exact hp)
  · refine px_aload_n dx_Mc_leave_79 rfl ?_
    refine px_iconst (v := 2) dx_Mc_leave_80 rfl ?_
    refine px_putI dx_Mc_leave_81 fl_Mc_21 rfl (by decide) rfl ?_
    exact px_vret dx_Mc_leave_84 rfl (by (have e : lvS σ us D (gL σ (f + 1) r1) (gD σ (f + 2) r1) = sI (sI (sD (sL (sI σ 7 4 (nI (us))) 7 5 (gL σ (f + 1) r1)) 7 6 (gD σ (f + 2) r1)) 7 1 (nI (D - 1))) 7 2 2 := if_pos (by omega)); rw [e] at hp; exact hp)
set_option maxRecDepth 100000 in
set_option maxHeartbeats 1000000 in
theorem k_leave2 {l : Launch} {G : fr_G} {σ : fr_S} {f : Nat} (hF : FE f) (hR : RF σ) {s : Nat} (hS : SE s) {us D r1 : Nat} (h8 : gI σ s 8 = nI us) (h10 : gI σ s 10 = nI r1) (hD : gI σ 7 1 = nI D) (hD1 : 1 ≤ D) (hD6 : D ≤ 6) (h3 : gI σ s 3 = nI 2) : CT l G yy_Mc_leave rm_Mc_leave [.ref (7), .ref (f), .ref (s)] σ none (lvS σ us D 0 0) := by
  intro Post hp0
  have hp := hp0
  show PX l G yy_Mc_leave rm_Mc_leave _ false 742 0 0 0 [(0, .ref (7)), (1, .ref (f)), (2, .ref (s))] [] σ
  have kF := kd_F hF
  have kS := kd_S hS
  refine px_aload_n dx_Mc_leave_0 rfl ?_
  refine px_getI dx_Mc_leave_1 fl_Mc_73 kS.1 (by omega) rfl ?_
  refine px_eqi (y := nI (2)) h3 ?_
  refine px_iconst (v := 3) dx_Mc_leave_4 rfl ?_
  refine px_icmp_ne dx_Mc_leave_5 (fun _ => ?_) (fun q => absurd q (by decide))
  refine px_iconst (v := 0) dx_Mc_leave_12 rfl ?_
  refine px_istore_n (lv' := [(3, .int (0)), (0, .ref (7)), (1, .ref (f)), (2, .ref (s))]) dx_Mc_leave_13 (by decide) rfl ?_
  refine px_aload_n dx_Mc_leave_14 rfl ?_
  refine px_aload_n dx_Mc_leave_15 rfl ?_
  refine px_getI dx_Mc_leave_16 fl_Mc_123 kS.1 (by omega) rfl ?_
  refine px_eqi (y := nI (us)) h8 ?_
  refine px_putI dx_Mc_leave_19 fl_Mc_27 rfl (by decide) rfl ?_
  refine px_aload_n dx_Mc_leave_22 rfl ?_
  refine px_iload_n dx_Mc_leave_23 rfl ?_
  refine px_if_eq dx_Mc_leave_24 (fun _ => ?_) (fun q => absurd (by decide) q)
  refine px_lconst (v := 0) dx_Mc_leave_38 rfl ?_
  refine px_putL dx_Mc_leave_39 fl_Mc_30 rfl (by decide) rfl ?_
  refine px_aload_n dx_Mc_leave_42 rfl ?_
  refine px_iload_n dx_Mc_leave_43 rfl ?_
  refine px_if_eq dx_Mc_leave_44 (fun _ => ?_) (fun q => absurd (by decide) q)
  refine px_dconst0 dx_Mc_leave_58 ?_
  refine px_putD dx_Mc_leave_59 fl_Mc_34 rfl (by decide) rfl ?_
  refine px_aload_n dx_Mc_leave_62 rfl ?_
  refine px_dup dx_Mc_leave_63 rfl ?_
  refine px_getI dx_Mc_leave_64 fl_Mc_17 rfl (by decide) rfl ?_
  refine px_eqi (y := nI (D)) (Eq.trans gI_d (Eq.trans gI_l (Eq.trans (gI_n (Or.inr (by decide))) hD))) ?_
  refine px_iconst (v := 1) dx_Mc_leave_67 rfl ?_
  refine px_isubN (a := D) (b := 1) dx_Mc_leave_68 (by omega) ?_
  refine px_putI dx_Mc_leave_69 fl_Mc_17 rfl (by decide) rfl ?_
  refine px_aload_n dx_Mc_leave_72 rfl ?_
  refine px_getI dx_Mc_leave_73 fl_Mc_17 rfl (by decide) rfl ?_
  refine px_eqi (y := nI ((D - 1))) gI_s ?_
  refine px_if_neN (a := (D - 1)) dx_Mc_leave_76 (by omega) (fun c_76 => ?_) (fun c_76 => ?_)
  · exact px_vret dx_Mc_leave_84 rfl (by (have e : lvS σ us D 0 0 = sI (sD (sL (sI σ 7 4 (nI (us))) 7 5 0) 7 6 0) 7 1 (nI (D - 1)) := if_neg (by omega)); rw [e] at hp; exact hp)
  · refine px_aload_n dx_Mc_leave_79 rfl ?_
    refine px_iconst (v := 2) dx_Mc_leave_80 rfl ?_
    refine px_putI dx_Mc_leave_81 fl_Mc_21 rfl (by decide) rfl ?_
    exact px_vret dx_Mc_leave_84 rfl (by (have e : lvS σ us D 0 0 = sI (sI (sD (sL (sI σ 7 4 (nI (us))) 7 5 0) 7 6 0) 7 1 (nI (D - 1))) 7 2 2 := if_pos (by omega)); rw [e] at hp; exact hp)

def enS (F : Nat → Nat → Nat) (c w2 f f' g : Nat) (σ : fr_S) : Nat → fr_S
  | 0 => sI (sR σ f' 2 (some g)) f' 3 0
  | j + 1 => sD (sL (enS F c w2 f f' g σ j) (f' + 1) (F 5 c - pwF F c + agK F c j) (gL σ (f + 1) (agW w2 (agK F c j)))) (f' + 2) (F 5 c - pwF F c + agK F c j) (gD σ (f + 2) (agW w2 (agK F c j)))
section ENS
variable {F : Nat → Nat → Nat} {c w2 f f' g : Nat} {σ : fr_S}
theorem enS_RF (hF : FE f') (h : RF σ) : ∀ j, RF (enS F c w2 f f' g σ j)
  | 0 => RF.si (RF.sr hF h)
  | j + 1 => RF.sd (RF.sl (enS_RF hF h j))
theorem enS_I {o k : Nat} (h : ¬ (o = f' ∧ k = 3)) : ∀ j, gI (enS F c w2 f f' g σ j) o k = gI σ o k
  | 0 => gI_n (by omega)
  | j + 1 => enS_I h j
theorem enS_L {o k : Nat} (h : o ≠ f' + 1) : ∀ j, gL (enS F c w2 f f' g σ j) o k = gL σ o k
  | 0 => rfl
  | j + 1 => (gL_n (Or.inl h)).trans (enS_L h j)
theorem enS_D {o k : Nat} (h : o ≠ f' + 2) : ∀ j, gD (enS F c w2 f f' g σ j) o k = gD σ o k
  | 0 => rfl
  | j + 1 => (gD_n (Or.inl h)).trans (enS_D h j)
end ENS
theorem FE.sep {f f' : Nat} (h : FE f) (h' : FE f') (hn : f ≠ f') : f + 1 ≠ f' + 1 ∧ f + 2 ≠ f' + 2 ∧ f + 1 ≠ f' ∧ f + 2 ≠ f' := by
  obtain ⟨i, hi, rfl⟩ := h
  obtain ⟨j, hj, rfl⟩ := h'
  omega

set_option maxRecDepth 100000 in
set_option maxHeartbeats 1000000 in
theorem k_enter_lp {l : Launch} {G : fr_G} {σ : fr_S} {f : Nat} (hF : FE f) (hR : RF σ) {s : Nat} (hS : SE s) {g : Nat} (hG : ME g) {F : Nat → Nat → Nat} (hW : FW F) {m c w2 D : Nat} (hc : c < F 0 0) (hCg : CM σ g F c) (hw2 : w2 < 65536) (h14 : gI σ s 14 = nI w2) (hpw : pwF F c ≤ 4) (hQ : pwF F c ≤ F 5 c) (hag : agOK F m c w2 (F 3 c) = true) (hD5 : D < 6) (hff : f ≠ 9 + 3 * D) (hD : gI σ 7 1 = nI D) {Post : Option Value → fr_S → Prop} (hp : Post none (sI (enS F c w2 f (9 + 3 * D) g σ (F 3 c)) 7 1 (nI (D + 1)))) : ∀ (d : Nat) (j : Nat), F 3 c - j < d → j ≤ F 3 c → PX l G yy_Mc_enter rm_Mc_enter (QR G false 742 0 0 Post) false 742 0 0 37 [(0, .ref (7)), (1, .ref (g)), (2, .ref (f)), (3, .ref (s)), (4, .ref (9 + 3 * D)), (5, .int (nI (agK F c j))), (6, .int (nI (j)))] [] (enS F c w2 f (9 + 3 * D) g σ j) := by
  intro d
  induction d with
  | zero => intro j hd; exact absurd hd (Nat.not_lt_zero _)
  | succ d ih =>
    intro j hd hj
    have kF := kd_F hF
    have kS := kd_S hS
    have kM := kd_M hG
    have hF2 : FE (9 + 3 * D) := FE.f hD5
    have kF2 := kd_F hF2
    have hsp := hF.sep hF2 hff
    have h3 := hW.2.2.2.1 c
    have h5 := hW.2.2.2.2.1
    have h10 := hW.2.2.2.2.2.1 m
    have h10c := hW.2.2.2.2.2.1 c
    have g32 := hG.h32
    have hRj := enS_RF (F := F) (c := c) (w2 := w2) (f := f) (g := g) hF2 hR j
    refine px_iload dx_Mc_enter_37 rfl ?_
    refine px_aload_n dx_Mc_enter_39 rfl ?_
    refine px_getI dx_Mc_enter_40 fl_Mc_134 kM.1 (by omega) rfl ?_
    refine px_eqi (y := nI (F 3 c)) ((enS_I (by omega) j).trans hCg.2.1) ?_
    refine px_icmp_geN (a := j) (b := F 3 c) dx_Mc_enter_43 (by omega) (by omega) (fun c_43 => ?_) (fun c_43 => ?_)
    · obtain rfl : j = F 3 c := by omega
      refine px_aload_n dx_Mc_enter_98 rfl ?_
      refine px_dup dx_Mc_enter_99 rfl ?_
      refine px_getI dx_Mc_enter_100 fl_Mc_17 rfl (by decide) rfl ?_
      refine px_eqi (y := nI (D)) ((enS_I (by omega) _).trans hD) ?_
      refine px_iconst (v := 1) dx_Mc_enter_103 rfl ?_
      refine px_iaddN (a := D) (b := 1) dx_Mc_enter_104 ?_
      refine px_putI dx_Mc_enter_105 fl_Mc_17 rfl (by decide) rfl ?_
      exact px_vret dx_Mc_enter_108 rfl (by exact hp)
    · have hk2 := agK_mono F c (j + 1) (F 3 c) (by omega)
      rw [agK_s] at hk2
      have hpk : agK F c (F 3 c) = pwF F c := rfl
      have hwd : 1 ≤ wdt (F 4 (3 * c + j)) := (by unfold wdt; split <;> decide)
      have hk4 : agK F c j < 4 := by omega
      have hhs := agOK_hs hag j (by omega)
      simp only [hsR, decide_eq_true_eq] at hhs
      refine px_aload_n dx_Mc_enter_46 rfl ?_
      refine px_iload dx_Mc_enter_47 rfl ?_
      refine px_cV (Y := yy_Mc_enter) (Yc := yy_St_named) (b := s) (As := [.int (nI (agK F c j))]) dx_Mc_enter_49 ml_Mc_139 mv_St_named np_St_named ⟨_, rfl⟩ (by decide) kS.1 (by omega) rfl (Nat.le_of_ble_eq_true rfl) (Nat.le_of_ble_eq_true rfl) rk_Mc_enter_St_named rfl (k_named (w2 := w2) (k := agK F c j) hS hw2 (by omega) (fun _ => (enS_I (by omega) j).trans h14)) zz_0 ?_
      refine px_eqi (y := nI (agW w2 (agK F c j))) (congrArg nI (if_pos hk4)) ?_
      refine px_istore (lv' := [(7, .int (nI (agW w2 (agK F c j)))), (0, .ref (7)), (1, .ref (g)), (2, .ref (f)), (3, .ref (s)), (4, .ref (9 + 3 * D)), (5, .int (nI (agK F c j))), (6, .int (nI (j)))]) dx_Mc_enter_52 (by decide) rfl ?_
      refine px_aload dx_Mc_enter_54 rfl ?_
      refine px_aload_n dx_Mc_enter_56 rfl ?_
      refine px_cV (Y := yy_Mc_enter) (Yc := yy_Me_firstArgument) (b := g) (As := []) dx_Mc_enter_57 ml_Mc_142 mv_Me_firstArgument np_Me_firstArgument ⟨_, rfl⟩ (by decide) kM.1 (by omega) rfl (Nat.le_of_ble_eq_true rfl) (Nat.le_of_ble_eq_true rfl) rk_Mc_enter_Me_firstArgument rfl (k_firstArgument (rg := F 5 c) (w := pwF F c) hG ((enS_I (by omega) j).trans hCg.2.2.2.1) ((enS_I (by omega) j).trans hCg.2.2.1) hQ) zz_0 ?_
      refine px_iload dx_Mc_enter_60 rfl ?_
      refine px_iaddN (a := F 5 c - pwF F c) (b := agK F c j) dx_Mc_enter_62 ?_
      refine px_aload_n dx_Mc_enter_63 rfl ?_
      refine px_iload dx_Mc_enter_64 rfl ?_
      refine px_cV (Y := yy_Mc_enter) (Yc := yy_Fr_whole) (b := f) (As := [.int (nI (agW w2 (agK F c j)))]) dx_Mc_enter_66 ml_Mc_109 mv_Fr_whole np_Fr_whole ⟨_, rfl⟩ (by decide) kF.1 (by omega) rfl (Nat.le_of_ble_eq_true rfl) (Nat.le_of_ble_eq_true rfl) rk_Mc_enter_Fr_whole rfl (k_whole (r := agW w2 (agK F c j)) hF hRj (by omega)) zz_0 ?_
      refine px_eql (y := gL σ (f + 1) (agW w2 (agK F c j))) (enS_L hsp.1 j) ?_
      refine px_aload_n dx_Mc_enter_69 rfl ?_
      refine px_iload dx_Mc_enter_70 rfl ?_
      refine px_cV (Y := yy_Mc_enter) (Yc := yy_Fr_realNumber) (b := f) (As := [.int (nI (agW w2 (agK F c j)))]) dx_Mc_enter_72 ml_Mc_126 mv_Fr_realNumber np_Fr_realNumber ⟨_, rfl⟩ (by decide) kF.1 (by omega) rfl (Nat.le_of_ble_eq_true rfl) (Nat.le_of_ble_eq_true rfl) rk_Mc_enter_Fr_realNumber rfl (k_real (r := agW w2 (agK F c j)) hF hRj (by omega)) zz_0 ?_
      refine px_eqd (y := gD σ (f + 2) (agW w2 (agK F c j))) (enS_D hsp.2.1 j) ?_
      refine px_cV (Y := yy_Mc_enter) (Yc := yy_Fr_set) (b := 9 + 3 * D) (As := [.int (nI ((F 5 c - pwF F c) + (agK F c j))), .long (gL σ (f + 1) (agW w2 (agK F c j))), .double (gD σ (f + 2) (agW w2 (agK F c j)))]) dx_Mc_enter_75 ml_Mc_86 mv_Fr_set np_Fr_set ⟨_, rfl⟩ (by decide) kF2.1 (by omega) rfl (Nat.le_of_ble_eq_true rfl) (Nat.le_of_ble_eq_true rfl) rk_Mc_enter_Fr_set rfl (k_set (r := (F 5 c - pwF F c) + (agK F c j)) hF2 hRj (by omega)) zz_0 ?_
      have eS : sD (sL (enS F c w2 f (9 + 3 * D) g σ j) (9 + 3 * D + 1) (F 5 c - pwF F c + agK F c j) (gL σ (f + 1) (agW w2 (agK F c j)))) (9 + 3 * D + 2) (F 5 c - pwF F c + agK F c j) (gD σ (f + 2) (agW w2 (agK F c j))) = enS F c w2 f (9 + 3 * D) g σ (j + 1) := rfl
      rw [eS]
      have hRj2 := enS_RF (F := F) (c := c) (w2 := w2) (f := f) (g := g) hF2 hR (j + 1)
      have hCj : CM (enS F c w2 f (9 + 3 * D) g σ (j + 1)) g F c := hCg.cg fun o k z => enS_I (by omega) _
      refine px_iload dx_Mc_enter_78 rfl ?_
      refine px_aload_n dx_Mc_enter_80 rfl ?_
      refine px_iload dx_Mc_enter_81 rfl ?_
      refine px_cV (Y := yy_Mc_enter) (Yc := yy_Me_parameterAt) (b := g) (As := [.int (nI (j))]) dx_Mc_enter_83 ml_Mc_145 mv_Me_parameterAt np_Me_parameterAt ⟨_, rfl⟩ (by decide) kM.1 (by omega) rfl (Nat.le_of_ble_eq_true rfl) (Nat.le_of_ble_eq_true rfl) rk_Mc_enter_Me_parameterAt rfl (k_parameterAt (np := F 3 c) (pt := fun k => tt (F 4 (3 * c + k))) hG hRj2 (by omega) (hCj.2.1) hCj.2.2.2.2.2.1 (by omega)) zz_0 ?_
      refine px_eqi (y := nI (tt (F 4 (3 * c + j)))) (congrArg nI (if_pos c_43)) ?_
      refine px_cS (Y := yy_Mc_enter) (Yc := yy_V_widthOf) (As := [.int (nI (tt (F 4 (3 * c + j))))]) dx_Mc_enter_86 ml_Mc_148 ms_V_widthOf np_V_widthOf rfl (Nat.le_of_ble_eq_true rfl) (Nat.le_of_ble_eq_true rfl) rk_Mc_enter_V_widthOf rfl (k_widthOf (x := tt (F 4 (3 * c + j))) (by have := tt_b _ (h5 (3 * c + j)); omega)) zz_0 ?_
      refine px_eqi (y := nI (wdt (F 4 (3 * c + j)))) (congrArg nI (wdc_w (h5 _))) ?_
      refine px_iaddN (a := agK F c j) (b := wdt (F 4 (3 * c + j))) dx_Mc_enter_89 ?_
      refine px_istore (lv' := [(5, .int (nI ((agK F c j) + (wdt (F 4 (3 * c + j)))))), (7, .int (nI (agW w2 (agK F c j)))), (0, .ref (7)), (1, .ref (g)), (2, .ref (f)), (3, .ref (s)), (4, .ref (9 + 3 * D)), (6, .int (nI (j)))]) dx_Mc_enter_90 (by decide) rfl ?_
      refine px_iinc (v := (nI (j + 1))) (lv' := [(6, .int (nI (j + 1))), (5, .int (nI ((agK F c j) + (wdt (F 4 (3 * c + j)))))), (7, .int (nI (agW w2 (agK F c j)))), (0, .ref (7)), (1, .ref (g)), (2, .ref (f)), (3, .ref (s)), (4, .ref (9 + 3 * D))]) dx_Mc_enter_92 rfl (nI_1 _) (by decide) rfl ?_
      refine px_goto dx_Mc_enter_95 ?_
      refine px_sub [3, 4, 5, 6, 7, 1, 0] rfl ?_
      have qq := ih (j + 1) (by omega) (by omega)
      rw [agK_s] at qq
      exact qq
set_option maxRecDepth 100000 in
set_option maxHeartbeats 1000000 in
theorem k_enter {l : Launch} {G : fr_G} {σ : fr_S} {f : Nat} (hF : FE f) (hR : RF σ) {s : Nat} (hS : SE s) {g : Nat} (hG : ME g) {F : Nat → Nat → Nat} (hW : FW F) {m c w2 D : Nat} (hc : c < F 0 0) (hCg : CM σ g F c) (hw2 : w2 < 65536) (h14 : gI σ s 14 = nI w2) (hpw : pwF F c ≤ 4) (hQ : pwF F c ≤ F 5 c) (hag : agOK F m c w2 (F 3 c) = true) (hD5 : D < 6) (hff : f ≠ 9 + 3 * D) (hD : gI σ 7 1 = nI D) : CT l G yy_Mc_enter rm_Mc_enter [.ref (7), .ref (g), .ref (f), .ref (s)] σ none (sI (enS F c w2 f (9 + 3 * D) g σ (F 3 c)) 7 1 (nI (D + 1))) := by
  intro Post hp0
  have hp := hp0
  show PX l G yy_Mc_enter rm_Mc_enter _ false 742 0 0 0 [(0, .ref (7)), (1, .ref (g)), (2, .ref (f)), (3, .ref (s))] [] σ
  have kF := kd_F hF
  have kS := kd_S hS
  have kM := kd_M hG
  have hF2 : FE (9 + 3 * D) := FE.f hD5
  have kF2 := kd_F hF2
  have hsp := hF.sep hF2 hff
  have h3 := hW.2.2.2.1 c
  have h5 := hW.2.2.2.2.1
  have h10 := hW.2.2.2.2.2.1 m
  have h10c := hW.2.2.2.2.2.1 c
  have g32 := hG.h32
  refine px_aload_n dx_Mc_enter_0 rfl ?_
  refine px_aload_n dx_Mc_enter_1 rfl ?_
  refine px_getI dx_Mc_enter_2 fl_Mc_17 rfl (by decide) rfl ?_
  refine px_eqi (y := nI (D)) hD ?_
  refine px_cV (Y := yy_Mc_enter) (Yc := yy_Mc_frameAt) (b := 7) (As := [.int (nI (D))]) dx_Mc_enter_5 ml_Mc_53 mv_Mc_frameAt np_Mc_frameAt ⟨_, rfl⟩ (by decide) rfl (by decide) rfl (Nat.le_of_ble_eq_true rfl) (Nat.le_of_ble_eq_true rfl) rk_Mc_enter_Mc_frameAt rfl (k_frameAt hR hD5) zz_0 ?_
  refine px_astore (lv' := [(4, .ref (9 + 3 * D)), (0, .ref (7)), (1, .ref (g)), (2, .ref (f)), (3, .ref (s))]) dx_Mc_enter_8 (by decide) rfl ?_
  refine px_aload dx_Mc_enter_10 rfl ?_
  refine px_ifnull dx_Mc_enter_12 ?_
  refine px_aload_n dx_Mc_enter_15 rfl ?_
  refine px_ifnonnull dx_Mc_enter_16 ?_
  refine px_aload dx_Mc_enter_25 rfl ?_
  refine px_aload_n dx_Mc_enter_27 rfl ?_
  refine px_cV (Y := yy_Mc_enter) (Yc := yy_Fr_enter) (b := 9 + 3 * D) (As := [.ref (g)]) dx_Mc_enter_28 ml_Mc_39 mv_Fr_enter np_Fr_enter ⟨_, rfl⟩ (by decide) kF2.1 (by omega) rfl (Nat.le_of_ble_eq_true rfl) (Nat.le_of_ble_eq_true rfl) rk_Mc_enter_Fr_enter rfl (k_enterF hF2 hR) zz_0 ?_
  refine px_iconst (v := 0) dx_Mc_enter_31 rfl ?_
  refine px_istore (lv' := [(5, .int (0)), (4, .ref (9 + 3 * D)), (0, .ref (7)), (1, .ref (g)), (2, .ref (f)), (3, .ref (s))]) dx_Mc_enter_32 (by decide) rfl ?_
  refine px_iconst (v := 0) dx_Mc_enter_34 rfl ?_
  refine px_istore (lv' := [(6, .int (0)), (5, .int (0)), (4, .ref (9 + 3 * D)), (0, .ref (7)), (1, .ref (g)), (2, .ref (f)), (3, .ref (s))]) dx_Mc_enter_35 (by decide) rfl ?_
  refine px_sub [3, 4, 5, 6, 2, 1, 0] rfl ?_
  exact k_enter_lp hF hR hS hG hW hc hCg hw2 h14 hpw hQ hag hD5 hff hD hp0 (F 3 c + 1) 0 (by omega) (by omega)
set_option maxRecDepth 100000 in
set_option maxHeartbeats 1000000 in
theorem k_enter_n {l : Launch} {G : fr_G} {σ : fr_S} (hR : RF σ) {f g s D : Nat} (hD6 : 6 ≤ D) (hD7 : D < 100) (hD : gI σ 7 1 = nI D) : CT l G yy_Mc_enter rm_Mc_enter [.ref (7), .ref (g), .ref (f), .ref (s)] σ none (sI (sI σ 7 2 3) 7 3 2) := by
  intro Post hp0
  have hp := hp0
  show PX l G yy_Mc_enter rm_Mc_enter _ false 742 0 0 0 [(0, .ref (7)), (1, .ref (g)), (2, .ref (f)), (3, .ref (s))] [] σ
  refine px_aload_n dx_Mc_enter_0 rfl ?_
  refine px_aload_n dx_Mc_enter_1 rfl ?_
  refine px_getI dx_Mc_enter_2 fl_Mc_17 rfl (by decide) rfl ?_
  refine px_eqi (y := nI (D)) hD ?_
  refine px_cV (Y := yy_Mc_enter) (Yc := yy_Mc_frameAt) (b := 7) (As := [.int (nI (D))]) dx_Mc_enter_5 ml_Mc_53 mv_Mc_frameAt np_Mc_frameAt ⟨_, rfl⟩ (by decide) rfl (by decide) rfl (Nat.le_of_ble_eq_true rfl) (Nat.le_of_ble_eq_true rfl) rk_Mc_enter_Mc_frameAt rfl (k_frameAt_n hR hD6 (by omega)) zz_0 ?_
  refine px_astoreN (lv' := [(4, .null), (0, .ref (7)), (1, .ref (g)), (2, .ref (f)), (3, .ref (s))]) dx_Mc_enter_8 (by decide) rfl ?_
  refine px_aloadN dx_Mc_enter_10 rfl ?_
  refine px_ifnullN dx_Mc_enter_12 ?_
  refine px_aload_n dx_Mc_enter_19 rfl ?_
  refine px_iconst (v := 2) dx_Mc_enter_20 rfl ?_
  refine px_cV (Y := yy_Mc_enter) (Yc := yy_Mc_stop) (b := 7) (As := [.int (2)]) dx_Mc_enter_21 ml_Mc_130 mv_Mc_stop np_Mc_stop ⟨_, rfl⟩ (by decide) rfl (by decide) rfl (Nat.le_of_ble_eq_true rfl) (Nat.le_of_ble_eq_true rfl) rk_Mc_enter_Mc_stop rfl (k_stop (x := 2)) zz_0 ?_
  exact px_vret dx_Mc_enter_24 rfl (by exact hp)
