/-! the class: one instruction -/
theorem KS.lv {q : Nat} {σ : fr_S} {us D : Nat} {w : Int64} {d : UInt64} : KS q σ (lvS σ us D w d) := by
  unfold lvS
  split
  · exact ((((KS.rf.i (Or.inl (by omega))).l (by omega)).d (by omega)).i (Or.inl (by omega))).i (Or.inl (by omega))
  · exact (((KS.rf.i (Or.inl (by omega))).l (by omega)).d (by omega)).i (Or.inl (by omega))
theorem KS.en {q : Nat} {σ : fr_S} {F : Nat → Nat → Nat} {c w2 f g i : Nat} (hi : i < 6) : ∀ j, KS q σ (enS F c w2 f (9 + 3 * i) g σ j)
  | 0 => (KS.rf.r (by omega)).i (Or.inl (by omega))
  | j + 1 => ((KS.en hi j).l (by omega)).d (by omega)
theorem kd_o1 : ∀ op, op < 256 → (kdO op = 3 → usO op ≠ 0) ∧ (kdO op = 4 → usO op ≠ 0 ∧ stO op ≠ 0) ∧ (kdO op = 9 → usO op ≠ 0 ∧ stO op ≠ 0) := by decide +kernel
theorem kd_o2 : ∀ op, op < 256 → (kdO op = 10 → usO op ≠ 0 ∧ 50 ≤ op ∧ op ≤ 61) ∧ (kdO op = 11 → usO op ≠ 0 ∧ 50 ≤ op ∧ op ≤ 61) := by decide +kernel
theorem kd_o3 : ∀ op, op < 256 → (kdO op = 12 → stO op ≠ 0 ∧ op = 96) ∧ (kdO op = 13 → usO op ≠ 0 ∧ op = 103) := by decide +kernel
theorem kd_o4 : ∀ op, op < 256 → (kdO op = 6 → stO op ≠ 0) ∧ (kdO op = 8 → stO op ≠ 0) := by decide +kernel
theorem rb_5 {F : Nat → Nat → Nat} (hW : FW F) {m u : Nat} (h : frmOK F (bgF F m) m u (pbG (bgF F m) u) = true) (hk : kdO (opS (F 7 (40 * m + u))) = 5) : rbC F m (pbG (bgF F m) u) ≠ 0 := by
  rw [← ft_e hW] at h
  unfold ftC at h
  simp only [Bool.and_eq_true] at h
  obtain ⟨-, -, -, hk2⟩ := h
  unfold kdC at hk2
  rw [if_neg (by rw [hk]; decide), if_neg (by rw [hk]; decide), if_pos (by rw [hk]; decide)] at hk2
  unfold owC at hk2
  simp only [Bool.and_eq_true, decide_eq_true_eq] at hk2
  exact hk2.1
theorem hX_u {B : VM} {i u n : Nat} (h : B.1 1 0 = n) : (aI B 3 i u).1 1 0 = n := by
  show uf B.1 3 i u 1 0 = n
  rw [uf_n (Or.inl (by decide)), h]
theorem gW_e {B : VM} {i r : Nat} (h : B.1 1 0 - 1 = i) : gW B r = B.2.1 (10 * i + r) := by
  unfold gW bs
  rw [h]
theorem gE_e {B : VM} {i r : Nat} (h : B.1 1 0 - 1 = i) : gE B r = B.2.2.1 (10 * i + r) := by
  unfold gE bs
  rw [h]
theorem stop_1 {X : VM} {x n : Nat} (h : X.1 1 0 = n) : (aI (aI X 0 0 3) 5 0 x).1 1 0 = n := by
  show uf (uf X.1 0 0 3) 5 0 x 1 0 = n
  rw [uf_n (Or.inl (by decide)), uf_n (Or.inl (by decide)), h]

set_option maxRecDepth 100000 in
set_option maxHeartbeats 1000000 in
theorem k_perform {l : Launch} {G : fr_G} {σ : fr_S} {q : Nat} (hq : PB q) (hRa : RF σ) {F : Nat → Nat → Nat} (hW : FW F) (hQ : ∀ c, c < F 0 0 → pwF F c ≤ F 5 c) {m p : Nat} (hm : m < F 0 0) (hp40 : p < 40) (hb : bgF F m p = true) (hfm : frmOK F (bgF F m) m p (pbG (bgF F m) p) = true) (hCPa : CP σ q F) (hL : SLm σ (q + 5 + 85 * m) F m) (hS : SUm σ (q + 5 + 85 * m) (stG F m) (usG F m) (bgF F m)) {B : VM} {i : Nat} (hX : CX σ q B) (hD : B.1 1 0 = i + 1) (hi : i < 6) (hBp : B.1 3 i = p) (hdB : ∀ k, dB (B.2.2.1 k)) {op w w1 w2 : Nat} (hw : w = F 7 (40 * m + p)) (hop : op = opS w) (hw1 : w1 = uA F m (p + 1)) (hw2 : w2 = uA F m (p + 2)) (hz : op = 147 ∨ op = 148 → ¬ gW B (opN w1) = 0 → ¬ (gW B (opN w1)).toInt32 = 0) : CR l G yy_Mc_perform rm_Mc_perform [.ref (7), .ref (q), .ref (9 + 3 * i), .ref (q + 5 + 85 * m + 5 + 2 * p)] σ (fun r0 σ' => r0 = none ∧ KS q σ σ' ∧ CX σ' q (stB F B m p op w w1 w2)) := by
  intro Post hp0
  show PX l G yy_Mc_perform rm_Mc_perform _ false 742 0 0 0 [(0, .ref (7)), (1, .ref (q)), (2, .ref (9 + 3 * i)), (3, .ref (q + 5 + 85 * m + 5 + 2 * p))] [] σ
  have h27 := hq.h27
  have h04 := hW.1
  have hE := ME.m hq (show m < 4 by omega)
  have hS9 := SE.s hE hp40
  have kS := kd_S hS9
  have hF : FE (9 + 3 * i) := FE.f hi
  have kF := kd_F hF
  have kP := kd_P hq
  have h256 : op < 256 := hop ▸ opS_lt _
  have hDi : B.1 1 0 - 1 = i := by omega
  have hXn : CXn σ q B (i + 1) := hD ▸ hX
  have hSDa := (hL.2 p hp40 hb).1
  rw [← hw, ← hw1, ← hw2] at hSDa
  have hSUa := hS p hp40 hb
  have hSDu := hSDa
  unfold SD at hSDa
  rw [← hop] at hSDa
  have hk1 := kd_o1 op h256
  have hk2 := kd_o2 op h256
  have hk3 := kd_o3 op h256
  have hk4 := kd_o4 op h256
  have hkb := kdO_b op h256
  have hfc := frm_C hW hfm
  have hdr := hfc.2
  rw [← hw, ← hop] at hdr
  have hwl : w < 65536 := hw ▸ hW.2.2.2.2.2.2.2 _
  have hszl := szO_le op
  have h6 := hW.2.2.2.2.2.2.1 m
  have hrb5 : kdO op = 5 → rbC F m (pbG (bgF F m) p) ≠ 0 := fun z => rb_5 hW hfm (by rw [← hw, ← hop]; exact z)
  have hdrl : stG F m p ≠ 0 → dRes op w < 10 := fun z => by have := hdr z; have := wdc_12 (stG F m p); omega
  replace hdr := hdrl
  have hbre : brs op = true → nI p + dNum op w w1 = tgO F m p := fun z => by (have y := br_e hfc.1 (by rw [← hw]; exact hop) z); rw [← hw, ← hw1] at y; exact y
  refine px_aload_n dx_Mc_perform_0 rfl ?_
  refine px_getI dx_Mc_perform_1 fl_Mc_57 kF.1 (by omega) rfl ?_
  refine px_eqi (y := nI (p)) ((hX.2.2.2.2.2.2.1 i hi).trans (congrArg nI hBp)) ?_
  refine px_istore (lv' := [(4, .int (nI (p))), (0, .ref (7)), (1, .ref (q)), (2, .ref (9 + 3 * i)), (3, .ref (q + 5 + 85 * m + 5 + 2 * p))]) dx_Mc_perform_4 (by decide) rfl ?_
  refine px_aload_n dx_Mc_perform_6 rfl ?_
  refine px_iload dx_Mc_perform_7 rfl ?_
  refine px_aload_n dx_Mc_perform_9 rfl ?_
  refine px_getI dx_Mc_perform_10 fl_Mc_68 kS.1 (by omega) rfl ?_
  refine px_eqi (y := nI (szO op)) hSDa.2.2.1 ?_
  refine px_iaddN (a := p) (b := szO op) dx_Mc_perform_13 ?_
  refine px_putI dx_Mc_perform_14 fl_Mc_57 kF.1 (by omega) rfl ?_
  obtain ⟨σ0, hσ0⟩ : ∃ z, z = sI σ (9 + 3 * i) 3 (nI (p + (szO op))) := ⟨_, rfl⟩
  rw [← hσ0]
  have hX0 : CXn σ0 q (aI B 3 i (p + szO op)) (i + 1) := by (rw [hσ0]; exact (hXn.u h27 hi))
  have hK0 : KS q σ σ0 := by (rw [hσ0]; exact KS.rf.i (Or.inl (by omega)))
  have hR := hK0.rfs hRa
  have hSD : SD σ0 (q + 5 + 85 * m + 5 + 2 * p) w w1 w2 := hSDu.cg (fun k _ => hK0.1 _ _ (by omega) (by omega))
  have hSU : SU σ0 (q + 5 + 85 * m + 5 + 2 * p) (stG F m p) (usG F m p) := ⟨(hK0.1 _ _ (by omega) (by omega)).trans hSUa.1, (hK0.1 _ _ (by omega) (by omega)).trans hSUa.2⟩
  unfold SD at hSD
  rw [← hop] at hSD
  have hCP : CP σ0 q F := hCPa.cg (fun k h3 h4 => hK0.1 _ _ (by omega) (by omega)) (fun m hm o k z => hK0.1 _ _ (by omega) (by omega))
  have hB1 := hX_u (i := i) (u := p + szO op) hD
  have hSx : ∀ r, r < 10 → gL σ0 (9 + 3 * i + 1) r = B.2.1 (10 * i + r) ∧ gD σ0 (9 + 3 * i + 2) r = B.2.2.1 (10 * i + r) := fun r hr => hX0.2.2.2.2.2.2.2.2.1 i hi r hr
  refine px_aload_n dx_Mc_perform_17 rfl ?_
  refine px_getI dx_Mc_perform_18 fl_Mc_73 kS.1 (by omega) rfl ?_
  refine px_eqi (y := nI (kdO op)) hSD.2.1 ?_
  by_cases k_21_0 : kdO op ∈ ([2, 3] : List Nat)
  · refine px_tabG (e := kdO op) (off := 67) [2, 3] dx_Mc_perform_21 (by omega) k_21_0 (by decide) rfl ?_
    have hk : kdO op = 2 ∨ kdO op = 3 := by simpa using k_21_0
    rcases hk with hk | hk
    · have hD7 : gI σ0 7 1 = nI (i + 1) := hX0.2.1.trans (congrArg nI hB1)
      refine px_aload_n dx_Mc_perform_88 rfl ?_
      refine px_aload_n dx_Mc_perform_89 rfl ?_
      refine px_aload_n dx_Mc_perform_90 rfl ?_
      refine px_cV (Y := yy_Mc_perform) (Yc := yy_Mc_leave) (b := 7) (As := [.ref (9 + 3 * i), .ref (q + 5 + 85 * m + 5 + 2 * p)]) dx_Mc_perform_91 ml_Mc_76 mv_Mc_leave np_Mc_leave ⟨_, rfl⟩ (by decide) rfl (by decide) rfl (Nat.le_of_ble_eq_true rfl) (Nat.le_of_ble_eq_true rfl) rk_Mc_perform_Mc_leave rfl (k_leave2 (us := usG F m p) (D := i + 1) (r1 := dFst op w w1) hF hR hS9 hSU.2 hSD.2.2.2.2.1 hD7 (by omega) (by omega) (hSD.2.1.trans (by rw [hk]))) zz_0 ?_
      refine px_goto dx_Mc_perform_94 ?_
      exact px_vret dx_Mc_perform_244 rfl (by (have e : stB F B m p op w w1 w2 = lvB (aI B 3 i (p + szO op)) (usG F m p) 0 0 := by (unfold stB; rw [hDi, if_pos (show kdO op ∈ ([2] : List Nat) by rw [hk]; decide)])); (have hl := CX.lv h27 (hX0.le (Nat.le_of_eq hB1)) (us := usG F m p) (w := 0) (d := 0)); rw [hB1] at hl; exact hp0 _ _ ⟨rfl, hK0.tr KS.lv, by rw [e]; exact hl⟩)
    · have hko := hk1.1 hk
      have hfr := frm_R hW hfm (by rw [← hw, ← hop]; exact hko)
      rw [← hw, ← hop, ← hw1] at hfr
      have e10 : dFst op w w1 = opN w := by (unfold dFst; rw [hk]; rfl)
      rw [e10] at hfr
      have hD7 : gI σ0 7 1 = nI (i + 1) := hX0.2.1.trans (congrArg nI hB1)
      have hs := hSx (opN w) hfr.1
      refine px_aload_n dx_Mc_perform_88 rfl ?_
      refine px_aload_n dx_Mc_perform_89 rfl ?_
      refine px_aload_n dx_Mc_perform_90 rfl ?_
      refine px_cV (Y := yy_Mc_perform) (Yc := yy_Mc_leave) (b := 7) (As := [.ref (9 + 3 * i), .ref (q + 5 + 85 * m + 5 + 2 * p)]) dx_Mc_perform_91 ml_Mc_76 mv_Mc_leave np_Mc_leave ⟨_, rfl⟩ (by decide) rfl (by decide) rfl (Nat.le_of_ble_eq_true rfl) (Nat.le_of_ble_eq_true rfl) rk_Mc_perform_Mc_leave rfl (k_leave3 (us := usG F m p) (D := i + 1) (r1 := opN w) hF hR hS9 hSU.2 (hSD.2.2.2.2.1.trans (by rw [e10])) hD7 (by omega) (by omega) (hSD.2.1.trans (by rw [hk])) hfr.1) zz_0 ?_
      refine px_goto dx_Mc_perform_94 ?_
      exact px_vret dx_Mc_perform_244 rfl (by (have e : stB F B m p op w w1 w2 = lvB (aI B 3 i (p + szO op)) (usG F m p) (gW B (opN w)) (gE B (opN w)) := by (unfold stB; rw [hDi, if_neg (show ¬ kdO op ∈ ([2] : List Nat) by rw [hk]; decide), if_pos (show kdO op ∈ ([3] : List Nat) by rw [hk]; decide)])); rw [hs.1, hs.2]; (have hl := CX.lv h27 (hX0.le (Nat.le_of_eq hB1)) (us := usG F m p) (w := B.2.1 (10 * i + opN w)) (d := B.2.2.1 (10 * i + opN w))); rw [hB1] at hl; exact hp0 _ _ ⟨rfl, hK0.tr KS.lv, by rw [e, gW_e hDi, gE_e hDi]; exact hl⟩)
    all_goals skip
  by_cases k_21_1 : kdO op ∈ ([4] : List Nat)
  · refine px_tabG (e := kdO op) (off := 76) [4] dx_Mc_perform_21 (by omega) k_21_1 (by decide) rfl ?_
    have hk : kdO op = 4 := by simpa using k_21_1
    have hko := hk1.2.1 hk
    have hfr := frm_R hW hfm (by rw [← hw, ← hop]; exact hko.1)
    rw [← hw, ← hop, ← hw1] at hfr
    have hto := hdr (by unfold stG stD; rw [← hw, ← hop, if_neg (by omega)]; exact hko.2)
    refine px_aload_n dx_Mc_perform_97 rfl ?_
    refine px_aload_n dx_Mc_perform_98 rfl ?_
    have e9 : dRes op w = opA w := by (unfold dRes; rw [hk]; rfl)
    have e10 : dFst op w w1 = opB w := by (unfold dFst; rw [hk]; rfl)
    have hs := hSx (opB w) (by omega)
    refine px_cS (Y := yy_Mc_perform) (Yc := yy_Mc_convert) (As := [.ref (9 + 3 * i), .ref (q + 5 + 85 * m + 5 + 2 * p)]) dx_Mc_perform_99 ml_Mc_80 ms_Mc_convert np_Mc_convert rfl (Nat.le_of_ble_eq_true rfl) (Nat.le_of_ble_eq_true rfl) rk_Mc_perform_Mc_convert rfl (k_convert (r1 := opB w) (to := opA w) hF hR hS9 h256 hSD.1 (hSD.2.2.2.1.trans (by rw [e9])) (hSD.2.2.2.2.1.trans (by rw [e10])) (by omega) (by omega) (by rw [hs.2]; exact hdB _)) zz_0 ?_
    refine px_goto dx_Mc_perform_102 ?_
    exact px_vret dx_Mc_perform_244 rfl (by ((have e : stB F B m p op w w1 w2 = kset (aI B 3 i (p + szO op)) i (opA w) (kvL op (gW B (opB w)) (gE B (opB w))) (kvE op (gW B (opB w)) (gE B (opB w))) := by (unfold stB; rw [hDi, if_neg (show ¬ kdO op ∈ ([2] : List Nat) by rw [hk]; decide), if_neg (show ¬ kdO op ∈ ([3] : List Nat) by rw [hk]; decide), if_pos (show kdO op ∈ ([4] : List Nat) by rw [hk]; decide)])); rw [hs.1, hs.2]; exact hp0 _ _ ⟨rfl, (hK0.l (by omega)).d (by omega), by rw [e, gW_e hDi, gE_e hDi]; exact (hX0.set hi (by omega)).le (Nat.le_of_eq hB1)⟩))
  by_cases k_21_2 : kdO op ∈ ([5] : List Nat)
  · refine px_tabG (e := kdO op) (off := 84) [5] dx_Mc_perform_21 (by omega) k_21_2 (by decide) rfl ?_
    have hk : kdO op = 5 := by simpa using k_21_2
    have hto : dRes op w < 10 := hdr (by unfold stG; rw [← hw, ← hop, if_pos hk]; exact hrb5 hk)
    refine px_aload_n dx_Mc_perform_105 rfl ?_
    refine px_aload_n dx_Mc_perform_106 rfl ?_
    refine px_getI dx_Mc_perform_107 fl_Mc_83 kS.1 (by omega) rfl ?_
    refine px_eqi (y := nI (dRes op w)) hSD.2.2.2.1 ?_
    refine px_aload_n dx_Mc_perform_110 rfl ?_
    refine px_getL dx_Mc_perform_111 fl_Mc_30 rfl (by decide) rfl ?_
    refine px_eql (y := B.2.1 60) hX0.2.2.2.2.1 ?_
    refine px_aload_n dx_Mc_perform_114 rfl ?_
    refine px_getD dx_Mc_perform_115 fl_Mc_34 rfl (by decide) rfl ?_
    refine px_eqd (y := B.2.2.1 60) hX0.2.2.2.2.2.1 ?_
    refine px_cV (Y := yy_Mc_perform) (Yc := yy_Fr_set) (b := 9 + 3 * i) (As := [.int (nI (dRes op w)), .long (B.2.1 60), .double (B.2.2.1 60)]) dx_Mc_perform_118 ml_Mc_86 mv_Fr_set np_Fr_set ⟨_, rfl⟩ (by decide) kF.1 (by omega) rfl (Nat.le_of_ble_eq_true rfl) (Nat.le_of_ble_eq_true rfl) rk_Mc_perform_Fr_set rfl (k_set (r := dRes op w) hF hR (by omega)) zz_0 ?_
    refine px_goto dx_Mc_perform_121 ?_
    exact px_vret dx_Mc_perform_244 rfl (by (have e9 : dRes op w = opN w := by (unfold dRes; rw [hk]; rfl)); (have e : stB F B m p op w w1 w2 = kset (aI B 3 i (p + szO op)) i (opN w) (B.2.1 60) (B.2.2.1 60) := by (unfold stB; rw [hDi, if_neg (show ¬ kdO op ∈ ([2] : List Nat) by rw [hk]; decide), if_neg (show ¬ kdO op ∈ ([3] : List Nat) by rw [hk]; decide), if_neg (show ¬ kdO op ∈ ([4] : List Nat) by rw [hk]; decide), if_pos (show kdO op ∈ ([5] : List Nat) by rw [hk]; decide)])); exact hp0 _ _ ⟨rfl, (hK0.l (by omega)).d (by omega), by rw [e, e9]; exact (hX0.set hi (by omega)).le (Nat.le_of_eq hB1)⟩)
  by_cases k_21_3 : kdO op ∈ ([6, 8] : List Nat)
  · refine px_tabG (e := kdO op) (off := 103) [6, 8] dx_Mc_perform_21 (by omega) k_21_3 (by decide) rfl ?_
    have hk : kdO op = 6 ∨ kdO op = 8 := by simpa using k_21_3
    have hto := hdr (by unfold stG stD; rw [← hw, ← hop, if_neg (by omega)]; rcases hk with hk | hk; exact hk4.1 hk; exact hk4.2 hk)
    refine px_aload_n dx_Mc_perform_124 rfl ?_
    refine px_aload_n dx_Mc_perform_125 rfl ?_
    refine px_getI dx_Mc_perform_126 fl_Mc_83 kS.1 (by omega) rfl ?_
    refine px_eqi (y := nI (dRes op w)) hSD.2.2.2.1 ?_
    refine px_aload_n dx_Mc_perform_129 rfl ?_
    refine px_getI dx_Mc_perform_130 fl_Mc_90 kS.1 (by omega) rfl ?_
    refine px_eqi (y := dNum op w w1) hSD.2.2.2.2.2.2.1 ?_
    refine px_i2l dx_Mc_perform_133 ?_
    refine px_dconst0 dx_Mc_perform_134 ?_
    refine px_cV (Y := yy_Mc_perform) (Yc := yy_Fr_set) (b := 9 + 3 * i) (As := [.int (nI (dRes op w)), .long ((dNum op w w1).toInt64), .double (0)]) dx_Mc_perform_135 ml_Mc_86 mv_Fr_set np_Fr_set ⟨_, rfl⟩ (by decide) kF.1 (by omega) rfl (Nat.le_of_ble_eq_true rfl) (Nat.le_of_ble_eq_true rfl) rk_Mc_perform_Fr_set rfl (k_set (r := dRes op w) hF hR (by omega)) zz_0 ?_
    refine px_goto dx_Mc_perform_138 ?_
    exact px_vret dx_Mc_perform_244 rfl (by (have e : stB F B m p op w w1 w2 = kset (aI B 3 i (p + szO op)) i (dRes op w) (dNum op w w1).toInt64 0 := by (unfold stB; rw [hDi, if_neg (show ¬ kdO op ∈ ([2] : List Nat) by rcases hk with hk | hk <;> rw [hk] <;> decide), if_neg (show ¬ kdO op ∈ ([3] : List Nat) by rcases hk with hk | hk <;> rw [hk] <;> decide), if_neg (show ¬ kdO op ∈ ([4] : List Nat) by rcases hk with hk | hk <;> rw [hk] <;> decide), if_neg (show ¬ kdO op ∈ ([5] : List Nat) by rcases hk with hk | hk <;> rw [hk] <;> decide), if_pos (show kdO op ∈ ([6, 8] : List Nat) by rcases hk with hk | hk <;> rw [hk] <;> decide)])); exact hp0 _ _ ⟨rfl, (hK0.l (by omega)).d (by omega), by rw [e]; exact (hX0.set hi (by omega)).le (Nat.le_of_eq hB1)⟩)
  by_cases k_21_4 : kdO op ∈ ([7] : List Nat)
  · refine px_tabG (e := kdO op) (off := 120) [7] dx_Mc_perform_21 (by omega) k_21_4 (by decide) rfl ?_
    have hk : kdO op = 7 := by simpa using k_21_4
    have hbr : brs op = true := by (rw [← brK_e op h256, hk]; rfl)
    have htg := mgo_p ((frm_p hfm).2.2.2.2.2.resolve_left (by rw [← hw, ← hop, hbr]; exact fun q => Bool.noConfusion q))
    refine px_aload_n dx_Mc_perform_141 rfl ?_
    refine px_iload dx_Mc_perform_142 rfl ?_
    refine px_aload_n dx_Mc_perform_144 rfl ?_
    refine px_getI dx_Mc_perform_145 fl_Mc_90 kS.1 (by omega) rfl ?_
    refine px_eqi (y := dNum op w w1) hSD.2.2.2.2.2.2.1 ?_
    refine px_iadd dx_Mc_perform_148 ?_
    refine px_eqi (y := nI ((tgO F m p).toNatClampNeg)) ((hbre hbr).trans htg.2.2) ?_
    refine px_putI dx_Mc_perform_149 fl_Mc_57 kF.1 (by omega) rfl ?_
    refine px_goto dx_Mc_perform_152 ?_
    exact px_vret dx_Mc_perform_244 rfl (by (have e : stB F B m p op w w1 w2 = aI (aI B 3 i (p + szO op)) 3 i (tgO F m p).toNatClampNeg := by (unfold stB; rw [hDi, if_neg (show ¬ kdO op ∈ ([2] : List Nat) by rw [hk]; decide), if_neg (show ¬ kdO op ∈ ([3] : List Nat) by rw [hk]; decide), if_neg (show ¬ kdO op ∈ ([4] : List Nat) by rw [hk]; decide), if_neg (show ¬ kdO op ∈ ([5] : List Nat) by rw [hk]; decide), if_neg (show ¬ kdO op ∈ ([6, 8] : List Nat) by rw [hk]; decide), if_pos (show kdO op ∈ ([7] : List Nat) by rw [hk]; decide)])); exact hp0 _ _ ⟨rfl, hK0.i (Or.inl (by omega)), by rw [e]; exact (hX0.u h27 hi).le (Nat.le_of_eq (hX_u hB1))⟩)
  by_cases k_21_5 : kdO op ∈ ([9] : List Nat)
  · refine px_tabG (e := kdO op) (off := 134) [9] dx_Mc_perform_21 (by omega) k_21_5 (by decide) rfl ?_
    have hk : kdO op = 9 := by simpa using k_21_5
    have hko2 := hk1.2.2 hk
    have hko := hko2.1
    have hfr := frm_R hW hfm (by rw [← hw, ← hop]; exact hko)
    rw [← hw, ← hop, ← hw1] at hfr
    have hto := hdr (by unfold stG stD; rw [← hw, ← hop, if_neg (by omega)]; exact hko2.2)
    have e9 : dRes op w = opN w := by (unfold dRes; rw [hk]; rfl)
    have e10 : dFst op w w1 = opS w1 := by (unfold dFst; rw [hk]; rfl)
    have e11 : dsN op w w1 = some (opN w1) := by (unfold dsN; rw [hk]; rfl)
    have hr2 := hfr.2 _ e11
    have e12 : dSnd op w w1 = nI (opN w1) := by (unfold dSnd; rw [hk]; rfl)
    rw [e10] at hfr
    rw [e9] at hto
    have hsa := hSx (opS w1) hfr.1
    have hsb := hSx (opN w1) hr2
    have hus : usG F m p = usO op := by (unfold usG usD; rw [← hw, ← hop, if_neg (by omega)])
    refine px_aload_n dx_Mc_perform_155 rfl ?_
    refine px_aload_n dx_Mc_perform_156 rfl ?_
    refine px_aload_n dx_Mc_perform_157 rfl ?_
    refine px_cV (Y := yy_Mc_perform) (Yc := yy_Mc_combine) (b := 7) (As := [.ref (9 + 3 * i), .ref (q + 5 + 85 * m + 5 + 2 * p)]) dx_Mc_perform_158 ml_Mc_93 mv_Mc_combine np_Mc_combine ⟨_, rfl⟩ (by decide) rfl (by decide) rfl (Nat.le_of_ble_eq_true rfl) (Nat.le_of_ble_eq_true rfl) rk_Mc_perform_Mc_combine rfl (k_combine (us := usO op) (r1 := opS w1) (r2 := opN w1) (to := opN w) hF hR hS9 h256 hk rfl hSD.1 (hSU.2.trans (by rw [hus])) (hSD.2.2.2.1.trans (by rw [e9])) (hSD.2.2.2.2.1.trans (by rw [e10])) (hSD.2.2.2.2.2.1.trans e12) hfr.1 hr2 hto (by rw [hsa.2]; exact hdB _) (by rw [hsb.2]; exact hdB _) (by rw [hsb.1, ← gW_e hDi]; exact hz)) zz_0 ?_
    refine px_goto dx_Mc_perform_161 ?_
    exact px_vret dx_Mc_perform_244 rfl (by rw [hsa.1, hsb.1, hsa.2, hsb.2]; unfold cbS; by_cases z : dvO op = true ∧ B.2.1 (10 * i + opN w1) = 0; rw [if_pos z]; (have e : stB F B m p op w w1 w2 = aI (aI (aI B 3 i (p + szO op)) 0 0 3) 5 0 1 := by (unfold stB; rw [hDi, if_neg (show ¬ kdO op ∈ ([2] : List Nat) by rw [hk]; decide), if_neg (show ¬ kdO op ∈ ([3] : List Nat) by rw [hk]; decide), if_neg (show ¬ kdO op ∈ ([4] : List Nat) by rw [hk]; decide), if_neg (show ¬ kdO op ∈ ([5] : List Nat) by rw [hk]; decide), if_neg (show ¬ kdO op ∈ ([6, 8] : List Nat) by rw [hk]; decide), if_neg (show ¬ kdO op ∈ ([7] : List Nat) by rw [hk]; decide), if_pos (show kdO op ∈ ([9] : List Nat) by rw [hk]; decide), if_pos (show dvO op = true ∧ gW B (opN w1) = 0 by rw [gW_e hDi]; exact z)])); exact hp0 _ _ ⟨rfl, (hK0.i (Or.inl (by omega))).i (Or.inl (by omega)), by rw [e]; exact (hX0.stop h27 (x := 1)).le (Nat.le_of_eq (stop_1 hB1))⟩; rw [if_neg z]; (have e : stB F B m p op w w1 w2 = kset (aI B 3 i (p + szO op)) i (opN w) (cbW op (usO op) (gW B (opS w1)) (gW B (opN w1)) (gE B (opS w1)) (gE B (opN w1))) (cbE op (usO op) (gW B (opS w1)) (gW B (opN w1)) (gE B (opS w1)) (gE B (opN w1))) := by (unfold stB; rw [hDi, if_neg (show ¬ kdO op ∈ ([2] : List Nat) by rw [hk]; decide), if_neg (show ¬ kdO op ∈ ([3] : List Nat) by rw [hk]; decide), if_neg (show ¬ kdO op ∈ ([4] : List Nat) by rw [hk]; decide), if_neg (show ¬ kdO op ∈ ([5] : List Nat) by rw [hk]; decide), if_neg (show ¬ kdO op ∈ ([6, 8] : List Nat) by rw [hk]; decide), if_neg (show ¬ kdO op ∈ ([7] : List Nat) by rw [hk]; decide), if_pos (show kdO op ∈ ([9] : List Nat) by rw [hk]; decide), if_neg (show ¬ (dvO op = true ∧ gW B (opN w1) = 0) by rw [gW_e hDi]; exact z)])); exact hp0 _ _ ⟨rfl, (hK0.l (by omega)).d (by omega), by rw [e]; simp only [gW_e hDi, gE_e hDi]; exact (hX0.set hi (by omega)).le (Nat.le_of_eq hB1)⟩)
  by_cases k_21_6 : kdO op ∈ ([10, 11] : List Nat)
  · refine px_tabG (e := kdO op) (off := 143) [10, 11] dx_Mc_perform_21 (by omega) k_21_6 (by decide) rfl ?_
    have hk : kdO op = 10 ∨ kdO op = 11 := by simpa using k_21_6
    rcases hk with hk | hk
    · have hko := (hk2.1 hk).1
      have ho := (hk2.1 hk).2
      have hfr := frm_R hW hfm (by rw [← hw, ← hop]; exact hko)
      rw [← hw, ← hop, ← hw1] at hfr
      have e10 : dFst op w w1 = opA w := by (unfold dFst; rw [hk]; rfl)
      have e11 : dsN op w w1 = some (opB w) := by (unfold dsN; rw [hk]; rfl)
      have hr2 := hfr.2 _ e11
      have hsb := hSx (opB w) hr2
      have e12 : dSnd op w w1 = nI (opB w) := by (unfold dSnd; rw [hk]; rfl)
      rw [e10] at hfr
      have hsa := hSx (opA w) hfr.1
      have hbr : brs op = true := by (rw [← brK_e op h256, hk]; rfl)
      have htg := mgo_p ((frm_p hfm).2.2.2.2.2.resolve_left (by rw [← hw, ← hop, hbr]; exact fun q => Bool.noConfusion q))
      refine px_aload_n dx_Mc_perform_164 rfl ?_
      refine px_aload_n dx_Mc_perform_165 rfl ?_
      refine px_cS (Y := yy_Mc_perform) (Yc := yy_Mc_holds) (As := [.ref (9 + 3 * i), .ref (q + 5 + 85 * m + 5 + 2 * p)]) dx_Mc_perform_166 ml_Mc_96 ms_Mc_holds np_Mc_holds rfl (Nat.le_of_ble_eq_true rfl) (Nat.le_of_ble_eq_true rfl) rk_Mc_perform_Mc_holds rfl (k_holds2 (op := op) (kk := 10) (r1 := opA w) (r2 := opB w) hF hR hS9 ho hSD.1 (hSD.2.1.trans (by rw [hk])) (hSD.2.2.2.2.1.trans (by rw [e10])) hfr.1 rfl (hSD.2.2.2.2.2.1.trans e12) hr2) zz_0 ?_
      refine px_if_eqB dx_Mc_perform_169 (fun c_169 => ?_) (fun c_169 => ?_)
      · exact px_vret dx_Mc_perform_244 rfl (by rw [hsa.1, hsb.1, ← gW_e hDi, ← gW_e hDi] at c_169; (have e : stB F B m p op w w1 w2 = (aI B 3 i (p + szO op)) := by (unfold stB; rw [hDi, if_neg (show ¬ kdO op ∈ ([2] : List Nat) by rw [hk]; decide), if_neg (show ¬ kdO op ∈ ([3] : List Nat) by rw [hk]; decide), if_neg (show ¬ kdO op ∈ ([4] : List Nat) by rw [hk]; decide), if_neg (show ¬ kdO op ∈ ([5] : List Nat) by rw [hk]; decide), if_neg (show ¬ kdO op ∈ ([6, 8] : List Nat) by rw [hk]; decide), if_neg (show ¬ kdO op ∈ ([7] : List Nat) by rw [hk]; decide), if_neg (show ¬ kdO op ∈ ([9] : List Nat) by rw [hk]; decide), if_pos (show kdO op ∈ ([10] : List Nat) by rw [hk]; decide), if_neg (show ¬ hdC op (gW B (opA w)) (gW B (opB w)) = true by rw [c_169]; decide)])); exact hp0 _ _ ⟨rfl, hK0, by rw [e]; exact hX0.le (Nat.le_of_eq hB1)⟩)
      · refine px_aload_n dx_Mc_perform_172 rfl ?_
        refine px_iload dx_Mc_perform_173 rfl ?_
        refine px_aload_n dx_Mc_perform_175 rfl ?_
        refine px_getI dx_Mc_perform_176 fl_Mc_90 kS.1 (by omega) rfl ?_
        refine px_eqi (y := dNum op w w1) hSD.2.2.2.2.2.2.1 ?_
        refine px_iadd dx_Mc_perform_179 ?_
        refine px_eqi (y := nI ((tgO F m p).toNatClampNeg)) ((hbre hbr).trans htg.2.2) ?_
        refine px_putI dx_Mc_perform_180 fl_Mc_57 kF.1 (by omega) rfl ?_
        refine px_goto dx_Mc_perform_183 ?_
        exact px_vret dx_Mc_perform_244 rfl (by rw [hsa.1, hsb.1, ← gW_e hDi, ← gW_e hDi] at c_169; (have e : stB F B m p op w w1 w2 = aI (aI B 3 i (p + szO op)) 3 i (tgO F m p).toNatClampNeg := by (unfold stB; rw [hDi, if_neg (show ¬ kdO op ∈ ([2] : List Nat) by rw [hk]; decide), if_neg (show ¬ kdO op ∈ ([3] : List Nat) by rw [hk]; decide), if_neg (show ¬ kdO op ∈ ([4] : List Nat) by rw [hk]; decide), if_neg (show ¬ kdO op ∈ ([5] : List Nat) by rw [hk]; decide), if_neg (show ¬ kdO op ∈ ([6, 8] : List Nat) by rw [hk]; decide), if_neg (show ¬ kdO op ∈ ([7] : List Nat) by rw [hk]; decide), if_neg (show ¬ kdO op ∈ ([9] : List Nat) by rw [hk]; decide), if_pos (show kdO op ∈ ([10] : List Nat) by rw [hk]; decide), if_pos c_169])); exact hp0 _ _ ⟨rfl, hK0.i (Or.inl (by omega)), by rw [e]; exact (hX0.u h27 hi).le (Nat.le_of_eq (hX_u hB1))⟩)
    · have hko := (hk2.2 hk).1
      have ho := (hk2.2 hk).2
      have hfr := frm_R hW hfm (by rw [← hw, ← hop]; exact hko)
      rw [← hw, ← hop, ← hw1] at hfr
      have e10 : dFst op w w1 = opN w := by (unfold dFst; rw [hk]; rfl)
      rw [e10] at hfr
      have hsa := hSx (opN w) hfr.1
      have hbr : brs op = true := by (rw [← brK_e op h256, hk]; rfl)
      have htg := mgo_p ((frm_p hfm).2.2.2.2.2.resolve_left (by rw [← hw, ← hop, hbr]; exact fun q => Bool.noConfusion q))
      refine px_aload_n dx_Mc_perform_164 rfl ?_
      refine px_aload_n dx_Mc_perform_165 rfl ?_
      refine px_cS (Y := yy_Mc_perform) (Yc := yy_Mc_holds) (As := [.ref (9 + 3 * i), .ref (q + 5 + 85 * m + 5 + 2 * p)]) dx_Mc_perform_166 ml_Mc_96 ms_Mc_holds np_Mc_holds rfl (Nat.le_of_ble_eq_true rfl) (Nat.le_of_ble_eq_true rfl) rk_Mc_perform_Mc_holds rfl (k_holds1 (op := op) (kk := 11) (r1 := opN w) (r2 := 0) hF hR hS9 ho hSD.1 (hSD.2.1.trans (by rw [hk])) (hSD.2.2.2.2.1.trans (by rw [e10])) hfr.1 rfl) zz_0 ?_
      refine px_if_eqB dx_Mc_perform_169 (fun c_169 => ?_) (fun c_169 => ?_)
      · exact px_vret dx_Mc_perform_244 rfl (by rw [hsa.1, ← gW_e hDi] at c_169; (have e : stB F B m p op w w1 w2 = (aI B 3 i (p + szO op)) := by (unfold stB; rw [hDi, if_neg (show ¬ kdO op ∈ ([2] : List Nat) by rw [hk]; decide), if_neg (show ¬ kdO op ∈ ([3] : List Nat) by rw [hk]; decide), if_neg (show ¬ kdO op ∈ ([4] : List Nat) by rw [hk]; decide), if_neg (show ¬ kdO op ∈ ([5] : List Nat) by rw [hk]; decide), if_neg (show ¬ kdO op ∈ ([6, 8] : List Nat) by rw [hk]; decide), if_neg (show ¬ kdO op ∈ ([7] : List Nat) by rw [hk]; decide), if_neg (show ¬ kdO op ∈ ([9] : List Nat) by rw [hk]; decide), if_neg (show ¬ kdO op ∈ ([10] : List Nat) by rw [hk]; decide), if_pos (show kdO op ∈ ([11] : List Nat) by rw [hk]; decide), if_neg (show ¬ hdC op (gW B (opN w)) 0 = true by rw [c_169]; decide)])); exact hp0 _ _ ⟨rfl, hK0, by rw [e]; exact hX0.le (Nat.le_of_eq hB1)⟩)
      · refine px_aload_n dx_Mc_perform_172 rfl ?_
        refine px_iload dx_Mc_perform_173 rfl ?_
        refine px_aload_n dx_Mc_perform_175 rfl ?_
        refine px_getI dx_Mc_perform_176 fl_Mc_90 kS.1 (by omega) rfl ?_
        refine px_eqi (y := dNum op w w1) hSD.2.2.2.2.2.2.1 ?_
        refine px_iadd dx_Mc_perform_179 ?_
        refine px_eqi (y := nI ((tgO F m p).toNatClampNeg)) ((hbre hbr).trans htg.2.2) ?_
        refine px_putI dx_Mc_perform_180 fl_Mc_57 kF.1 (by omega) rfl ?_
        refine px_goto dx_Mc_perform_183 ?_
        exact px_vret dx_Mc_perform_244 rfl (by rw [hsa.1, ← gW_e hDi] at c_169; (have e : stB F B m p op w w1 w2 = aI (aI B 3 i (p + szO op)) 3 i (tgO F m p).toNatClampNeg := by (unfold stB; rw [hDi, if_neg (show ¬ kdO op ∈ ([2] : List Nat) by rw [hk]; decide), if_neg (show ¬ kdO op ∈ ([3] : List Nat) by rw [hk]; decide), if_neg (show ¬ kdO op ∈ ([4] : List Nat) by rw [hk]; decide), if_neg (show ¬ kdO op ∈ ([5] : List Nat) by rw [hk]; decide), if_neg (show ¬ kdO op ∈ ([6, 8] : List Nat) by rw [hk]; decide), if_neg (show ¬ kdO op ∈ ([7] : List Nat) by rw [hk]; decide), if_neg (show ¬ kdO op ∈ ([9] : List Nat) by rw [hk]; decide), if_neg (show ¬ kdO op ∈ ([10] : List Nat) by rw [hk]; decide), if_pos (show kdO op ∈ ([11] : List Nat) by rw [hk]; decide), if_pos c_169])); exact hp0 _ _ ⟨rfl, hK0.i (Or.inl (by omega)), by rw [e]; exact (hX0.u h27 hi).le (Nat.le_of_eq (hX_u hB1))⟩)
    all_goals skip
  by_cases k_21_7 : kdO op ∈ ([12] : List Nat)
  · refine px_tabG (e := kdO op) (off := 165) [12] dx_Mc_perform_21 (by omega) k_21_7 (by decide) rfl ?_
    have hk : kdO op = 12 := by simpa using k_21_7
    have hko := hk3.1 hk
    have hop0 := hko.2
    have hto := hdr (by unfold stG stD; rw [← hw, ← hop, if_neg (by omega)]; exact hko.1)
    have hw1e : w1 = F 7 (40 * m + (p + 1)) := by (rw [hw1]; exact uA_e (by have z := (frm_p hfm).2.1; rw [← hw, ← hop, hop0] at z; exact Nat.lt_of_lt_of_le (by show p + 1 < p + 2; omega) z))
    have hnm := (frm_p hfm).2.2.1
    unfold nmOK at hnm
    rw [← hw, ← hop, ← hw1e, hop0, nmW_10 (by decide)] at hnm
    simp only [Bool.and_eq_true, hsR, decide_eq_true_eq] at hnm
    have hf1 := hnm.2
    have h14f := hW.2.1
    have hnum : dNum op w w1 = nI w1 := by (unfold dNum; rw [hk]; exact nmI_p (by omega))
    have e9 : dRes op w = opN w := by (unfold dRes; rw [hk]; rfl)
    refine px_aload_n dx_Mc_perform_186 rfl ?_
    refine px_aload_n dx_Mc_perform_187 rfl ?_
    refine px_getI dx_Mc_perform_188 fl_Mc_83 kS.1 (by omega) rfl ?_
    refine px_eqi (y := nI (dRes op w)) hSD.2.2.2.1 ?_
    refine px_aload_n dx_Mc_perform_191 rfl ?_
    refine px_aload_n dx_Mc_perform_192 rfl ?_
    refine px_getI dx_Mc_perform_193 fl_Mc_90 kS.1 (by omega) rfl ?_
    refine px_eqi (y := dNum op w w1) hSD.2.2.2.2.2.2.1 ?_
    refine px_eqi (y := nI (w1)) hnum ?_
    refine px_cV (Y := yy_Mc_perform) (Yc := yy_Pg_fieldAt) (b := q) (As := [.int (nI (w1))]) dx_Mc_perform_196 ml_Mc_100 mv_Pg_fieldAt np_Pg_fieldAt ⟨_, rfl⟩ (by decide) kP.1 (by omega) rfl (Nat.le_of_ble_eq_true rfl) (Nat.le_of_ble_eq_true rfl) rk_Mc_perform_Pg_fieldAt rfl (k_fieldAt_m hq hR hW.2.1 hCP.2.1 (fl := B.2.2.2) hX0.2.2.2.2.2.2.2.2.2 hf1) zz_0 ?_
    refine px_i2l dx_Mc_perform_199 ?_
    refine px_dconst0 dx_Mc_perform_200 ?_
    refine px_cV (Y := yy_Mc_perform) (Yc := yy_Fr_set) (b := 9 + 3 * i) (As := [.int (nI (dRes op w)), .long ((B.2.2.2 w1).toInt64), .double (0)]) dx_Mc_perform_201 ml_Mc_86 mv_Fr_set np_Fr_set ⟨_, rfl⟩ (by decide) kF.1 (by omega) rfl (Nat.le_of_ble_eq_true rfl) (Nat.le_of_ble_eq_true rfl) rk_Mc_perform_Fr_set rfl (k_set (r := dRes op w) hF hR (by omega)) zz_0 ?_
    refine px_goto dx_Mc_perform_204 ?_
    exact px_vret dx_Mc_perform_244 rfl (by (have e : stB F B m p op w w1 w2 = kset (aI B 3 i (p + szO op)) i (opN w) (B.2.2.2 w1).toInt64 0 := by (unfold stB; rw [hDi, if_neg (show ¬ kdO op ∈ ([2] : List Nat) by rw [hk]; decide), if_neg (show ¬ kdO op ∈ ([3] : List Nat) by rw [hk]; decide), if_neg (show ¬ kdO op ∈ ([4] : List Nat) by rw [hk]; decide), if_neg (show ¬ kdO op ∈ ([5] : List Nat) by rw [hk]; decide), if_neg (show ¬ kdO op ∈ ([6, 8] : List Nat) by rw [hk]; decide), if_neg (show ¬ kdO op ∈ ([7] : List Nat) by rw [hk]; decide), if_neg (show ¬ kdO op ∈ ([9] : List Nat) by rw [hk]; decide), if_neg (show ¬ kdO op ∈ ([10] : List Nat) by rw [hk]; decide), if_neg (show ¬ kdO op ∈ ([11] : List Nat) by rw [hk]; decide), if_pos (show kdO op ∈ ([12] : List Nat) by rw [hk]; decide)])); exact hp0 _ _ ⟨rfl, (hK0.l (by omega)).d (by omega), by rw [e, ← e9]; exact (hX0.set hi (by omega)).le (Nat.le_of_eq hB1)⟩)
  by_cases k_21_8 : kdO op ∈ ([13] : List Nat)
  · refine px_tabG (e := kdO op) (off := 186) [13] dx_Mc_perform_21 (by omega) k_21_8 (by decide) rfl ?_
    have hk : kdO op = 13 := by simpa using k_21_8
    have hko3 := hk3.2 hk
    have hko := hko3.1
    have hop0 := hko3.2
    have hfr := frm_R hW hfm (by rw [← hw, ← hop]; exact hko)
    rw [← hw, ← hop, ← hw1] at hfr
    have hw1e : w1 = F 7 (40 * m + (p + 1)) := by (rw [hw1]; exact uA_e (by have z := (frm_p hfm).2.1; rw [← hw, ← hop, hop0] at z; exact Nat.lt_of_lt_of_le (by show p + 1 < p + 2; omega) z))
    have hnm := (frm_p hfm).2.2.1
    unfold nmOK at hnm
    rw [← hw, ← hop, ← hw1e, hop0, nmW_10 (by decide)] at hnm
    simp only [Bool.and_eq_true, hsR, decide_eq_true_eq] at hnm
    have hf1 := hnm.2
    have h14f := hW.2.1
    have hnum : dNum op w w1 = nI w1 := by (unfold dNum; rw [hk]; exact nmI_p (by omega))
    have e10 : dFst op w w1 = opN w := by (unfold dFst; rw [hk]; rfl)
    have hfl := hfr.1
    have hs := hSx (dFst op w w1) hfl
    refine px_aload_n dx_Mc_perform_207 rfl ?_
    refine px_aload_n dx_Mc_perform_208 rfl ?_
    refine px_getI dx_Mc_perform_209 fl_Mc_90 kS.1 (by omega) rfl ?_
    refine px_eqi (y := dNum op w w1) hSD.2.2.2.2.2.2.1 ?_
    refine px_eqi (y := nI (w1)) hnum ?_
    refine px_aload_n dx_Mc_perform_212 rfl ?_
    refine px_aload_n dx_Mc_perform_213 rfl ?_
    refine px_getI dx_Mc_perform_214 fl_Mc_106 kS.1 (by omega) rfl ?_
    refine px_eqi (y := nI (dFst op w w1)) hSD.2.2.2.2.1 ?_
    refine px_cV (Y := yy_Mc_perform) (Yc := yy_Fr_whole) (b := 9 + 3 * i) (As := [.int (nI (dFst op w w1))]) dx_Mc_perform_217 ml_Mc_109 mv_Fr_whole np_Fr_whole ⟨_, rfl⟩ (by decide) kF.1 (by omega) rfl (Nat.le_of_ble_eq_true rfl) (Nat.le_of_ble_eq_true rfl) rk_Mc_perform_Fr_whole rfl (k_whole (r := dFst op w w1) hF hR hfl) zz_0 ?_
    refine px_l2i dx_Mc_perform_220 ?_
    refine px_cV (Y := yy_Mc_perform) (Yc := yy_Pg_setField) (b := q) (As := [.int (nI (w1)), .int ((gL σ0 (9 + 3 * i + 1) (dFst op w w1)).toInt32)]) dx_Mc_perform_221 ml_Mc_112 mv_Pg_setField np_Pg_setField ⟨_, rfl⟩ (by decide) kP.1 (by omega) rfl (Nat.le_of_ble_eq_true rfl) (Nat.le_of_ble_eq_true rfl) rk_Mc_perform_Pg_setField rfl (k_setField hq hR hW.2.1 hCP.2.1 hf1) zz_0 ?_
    refine px_goto dx_Mc_perform_224 ?_
    exact px_vret dx_Mc_perform_244 rfl (by rw [hs.1]; (have e : stB F B m p op w w1 w2 = aF (aI B 3 i (p + szO op)) w1 (gW B (opN w)).toInt32 := by (unfold stB; rw [hDi, if_neg (show ¬ kdO op ∈ ([2] : List Nat) by rw [hk]; decide), if_neg (show ¬ kdO op ∈ ([3] : List Nat) by rw [hk]; decide), if_neg (show ¬ kdO op ∈ ([4] : List Nat) by rw [hk]; decide), if_neg (show ¬ kdO op ∈ ([5] : List Nat) by rw [hk]; decide), if_neg (show ¬ kdO op ∈ ([6, 8] : List Nat) by rw [hk]; decide), if_neg (show ¬ kdO op ∈ ([7] : List Nat) by rw [hk]; decide), if_neg (show ¬ kdO op ∈ ([9] : List Nat) by rw [hk]; decide), if_neg (show ¬ kdO op ∈ ([10] : List Nat) by rw [hk]; decide), if_neg (show ¬ kdO op ∈ ([11] : List Nat) by rw [hk]; decide), if_neg (show ¬ kdO op ∈ ([12] : List Nat) by rw [hk]; decide), if_pos (show kdO op ∈ ([13] : List Nat) by rw [hk]; decide)])); exact hp0 _ _ ⟨rfl, hK0.i (Or.inr rfl), by rw [e, gW_e hDi, ← e10]; exact (hX0.fld h27).le (Nat.le_of_eq hB1)⟩)
  by_cases k_21_9 : kdO op ∈ ([14] : List Nat)
  · refine px_tabG (e := kdO op) (off := 206) [14] dx_Mc_perform_21 (by omega) k_21_9 (by decide) rfl ?_
    have hk : kdO op = 14 := by simpa using k_21_9
    have hop0 : op = 113 := (kdO_14 op h256).mp hk
    have hpl := (frm_p hfm).2.1
    rw [← hw, ← hop, hop0] at hpl
    replace hpl : p + 3 ≤ F 6 m := hpl
    have hw1e : w1 = F 7 (40 * m + (p + 1)) := by (rw [hw1]; exact uA_e (by omega))
    have hw2e : w2 = F 7 (40 * m + (p + 2)) := by (rw [hw2]; exact uA_e (by omega))
    have hag := (frm_p hfm).2.2.1
    unfold nmOK at hag
    rw [← hw, ← hop, hop0, nmW_11 (by decide)] at hag
    unfold agT at hag
    rw [← hw1e, ← hw2e, ← hw] at hag
    simp only [Bool.and_eq_true, decide_eq_true_eq] at hag
    obtain ⟨hc, ⟨h4, hpw⟩, hag⟩ := hag
    have hnum : dNum op w w1 = nI w1 := dNum_14 hk
    have hw2l : w2 < 65536 := hw2e ▸ hW.2.2.2.2.2.2.2 _
    have hD7 : gI σ0 7 1 = nI (i + 1) := hX0.2.1.trans (congrArg nI hB1)
    refine px_aload_n dx_Mc_perform_227 rfl ?_
    refine px_aload_n dx_Mc_perform_228 rfl ?_
    refine px_aload_n dx_Mc_perform_229 rfl ?_
    refine px_getI dx_Mc_perform_230 fl_Mc_90 kS.1 (by omega) rfl ?_
    refine px_eqi (y := dNum op w w1) hSD.2.2.2.2.2.2.1 ?_
    refine px_eqi (y := nI (w1)) hnum ?_
    refine px_cV (Y := yy_Mc_perform) (Yc := yy_Pg_methodAt) (b := q) (As := [.int (nI (w1))]) dx_Mc_perform_233 ml_Mc_116 mv_Pg_methodAt np_Pg_methodAt ⟨_, rfl⟩ (by decide) kP.1 (by omega) rfl (Nat.le_of_ble_eq_true rfl) (Nat.le_of_ble_eq_true rfl) rk_Mc_perform_Pg_methodAt rfl (k_methodAt_t hq hR hW.1 hCP.1 hc) zz_0 ?_
    refine px_aload_n dx_Mc_perform_236 rfl ?_
    refine px_aload_n dx_Mc_perform_237 rfl ?_
    by_cases q_238 : i + 1 < 6
    · refine px_cV (Y := yy_Mc_perform) (Yc := yy_Mc_enter) (b := 7) (As := [.ref (q + 5 + 85 * w1), .ref (9 + 3 * i), .ref (q + 5 + 85 * m + 5 + 2 * p)]) dx_Mc_perform_238 ml_Mc_120 mv_Mc_enter np_Mc_enter ⟨_, rfl⟩ (by decide) rfl (by decide) rfl (Nat.le_of_ble_eq_true rfl) (Nat.le_of_ble_eq_true rfl) rk_Mc_perform_Mc_enter rfl (k_enter (m := m) (c := w1) (w2 := w2) (D := i + 1) hF hR hS9 (ME.m hq (by omega)) hW hc (hCP.2.2 w1 (by omega)) hw2l (hSD.2.2.2.2.2.2.2 hk).2 (by omega) (hQ w1 hc) hag q_238 (by omega) hD7) zz_0 ?_
      refine px_goto dx_Mc_perform_241 ?_
      exact px_vret dx_Mc_perform_244 rfl (by (have e : stB F B m p op w w1 w2 = aI (enB F w1 w2 i (i + 1) (aI B 3 i (p + szO op)) (F 3 w1)) 1 0 (i + 1 + 1) := by (unfold stB; rw [hDi, if_neg (show ¬ kdO op ∈ ([2] : List Nat) by rw [hk]; decide), if_neg (show ¬ kdO op ∈ ([3] : List Nat) by rw [hk]; decide), if_neg (show ¬ kdO op ∈ ([4] : List Nat) by rw [hk]; decide), if_neg (show ¬ kdO op ∈ ([5] : List Nat) by rw [hk]; decide), if_neg (show ¬ kdO op ∈ ([6, 8] : List Nat) by rw [hk]; decide), if_neg (show ¬ kdO op ∈ ([7] : List Nat) by rw [hk]; decide), if_neg (show ¬ kdO op ∈ ([9] : List Nat) by rw [hk]; decide), if_neg (show ¬ kdO op ∈ ([10] : List Nat) by rw [hk]; decide), if_neg (show ¬ kdO op ∈ ([11] : List Nat) by rw [hk]; decide), if_neg (show ¬ kdO op ∈ ([12] : List Nat) by rw [hk]; decide), if_neg (show ¬ kdO op ∈ ([13] : List Nat) by rw [hk]; decide), if_pos (show kdO op ∈ ([14] : List Nat) by rw [hk]; decide), hD, if_neg (show ¬ 6 ≤ i + 1 by omega)])); exact hp0 _ _ ⟨rfl, (hK0.tr (KS.en q_238 _)).i (Or.inl (by omega)), by rw [e]; exact ((CXn.en h27 hX0 hW hi q_238 (hQ w1 hc) hag (F 3 w1) (Nat.le_refl _)).o h27).le (Nat.le_of_eq aI_0)⟩)
    · refine px_cV (Y := yy_Mc_perform) (Yc := yy_Mc_enter) (b := 7) (As := [.ref (q + 5 + 85 * w1), .ref (9 + 3 * i), .ref (q + 5 + 85 * m + 5 + 2 * p)]) dx_Mc_perform_238 ml_Mc_120 mv_Mc_enter np_Mc_enter ⟨_, rfl⟩ (by decide) rfl (by decide) rfl (Nat.le_of_ble_eq_true rfl) (Nat.le_of_ble_eq_true rfl) rk_Mc_perform_Mc_enter rfl (k_enter_n (D := i + 1) hR (by omega) (by omega) hD7) zz_0 ?_
      refine px_goto dx_Mc_perform_241 ?_
      exact px_vret dx_Mc_perform_244 rfl (by (have e : stB F B m p op w w1 w2 = aI (aI (aI B 3 i (p + szO op)) 0 0 3) 5 0 2 := by (unfold stB; rw [hDi, if_neg (show ¬ kdO op ∈ ([2] : List Nat) by rw [hk]; decide), if_neg (show ¬ kdO op ∈ ([3] : List Nat) by rw [hk]; decide), if_neg (show ¬ kdO op ∈ ([4] : List Nat) by rw [hk]; decide), if_neg (show ¬ kdO op ∈ ([5] : List Nat) by rw [hk]; decide), if_neg (show ¬ kdO op ∈ ([6, 8] : List Nat) by rw [hk]; decide), if_neg (show ¬ kdO op ∈ ([7] : List Nat) by rw [hk]; decide), if_neg (show ¬ kdO op ∈ ([9] : List Nat) by rw [hk]; decide), if_neg (show ¬ kdO op ∈ ([10] : List Nat) by rw [hk]; decide), if_neg (show ¬ kdO op ∈ ([11] : List Nat) by rw [hk]; decide), if_neg (show ¬ kdO op ∈ ([12] : List Nat) by rw [hk]; decide), if_neg (show ¬ kdO op ∈ ([13] : List Nat) by rw [hk]; decide), if_pos (show kdO op ∈ ([14] : List Nat) by rw [hk]; decide), hD, if_pos (show 6 ≤ i + 1 by omega)])); exact hp0 _ _ ⟨rfl, (hK0.i (Or.inl (by omega))).i (Or.inl (by omega)), by rw [e]; exact (hX0.stop h27 (x := 2)).le (Nat.le_of_eq (stop_1 hB1))⟩)
  have kn_21 : kdO op ∉ ([2, 3, 4, 5, 6, 7, 8, 9, 10, 11, 12, 13, 14] : List Nat) := by simp only [List.mem_cons, List.not_mem_nil, or_false, not_or] at *; omega
  refine px_tabD (e := kdO op) [2, 3, 4, 5, 6, 7, 8, 9, 10, 11, 12, 13, 14] dx_Mc_perform_21 (by omega) kn_21 12 2 ⟨rfl, rfl⟩ (by decide) rfl ?_
  exact px_vret dx_Mc_perform_244 rfl (by (have hkn : kdO op ∉ ([2, 3, 4, 5, 6, 7, 8, 9, 10, 11, 12, 13, 14] : List Nat) := by simpa using kn_21); (have e : stB F B m p op w w1 w2 = (aI B 3 i (p + szO op)) := by (unfold stB; rw [hDi, if_neg (show ¬ kdO op ∈ ([2] : List Nat) by intro z; exact hkn (by simp only [List.mem_cons, List.not_mem_nil, or_false] at z ⊢; omega)), if_neg (show ¬ kdO op ∈ ([3] : List Nat) by intro z; exact hkn (by simp only [List.mem_cons, List.not_mem_nil, or_false] at z ⊢; omega)), if_neg (show ¬ kdO op ∈ ([4] : List Nat) by intro z; exact hkn (by simp only [List.mem_cons, List.not_mem_nil, or_false] at z ⊢; omega)), if_neg (show ¬ kdO op ∈ ([5] : List Nat) by intro z; exact hkn (by simp only [List.mem_cons, List.not_mem_nil, or_false] at z ⊢; omega)), if_neg (show ¬ kdO op ∈ ([6, 8] : List Nat) by intro z; exact hkn (by simp only [List.mem_cons, List.not_mem_nil, or_false] at z ⊢; omega)), if_neg (show ¬ kdO op ∈ ([7] : List Nat) by intro z; exact hkn (by simp only [List.mem_cons, List.not_mem_nil, or_false] at z ⊢; omega)), if_neg (show ¬ kdO op ∈ ([9] : List Nat) by intro z; exact hkn (by simp only [List.mem_cons, List.not_mem_nil, or_false] at z ⊢; omega)), if_neg (show ¬ kdO op ∈ ([10] : List Nat) by intro z; exact hkn (by simp only [List.mem_cons, List.not_mem_nil, or_false] at z ⊢; omega)), if_neg (show ¬ kdO op ∈ ([11] : List Nat) by intro z; exact hkn (by simp only [List.mem_cons, List.not_mem_nil, or_false] at z ⊢; omega)), if_neg (show ¬ kdO op ∈ ([12] : List Nat) by intro z; exact hkn (by simp only [List.mem_cons, List.not_mem_nil, or_false] at z ⊢; omega)), if_neg (show ¬ kdO op ∈ ([13] : List Nat) by intro z; exact hkn (by simp only [List.mem_cons, List.not_mem_nil, or_false] at z ⊢; omega)), if_neg (show ¬ kdO op ∈ ([14] : List Nat) by intro z; exact hkn (by simp only [List.mem_cons, List.not_mem_nil, or_false] at z ⊢; omega))])); exact hp0 _ _ ⟨rfl, hK0, by rw [e]; exact hX0.le (Nat.le_of_eq hB1)⟩)
