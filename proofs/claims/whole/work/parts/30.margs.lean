/-! the reference: arguments, calls -/
section RT
variable {σ : fr_S} {o k x y : Nat}
theorem gI_l {v : Int64} : gI (sL σ o k v) x y = gI σ x y := rfl
theorem gI_d {v : UInt64} : gI (sD σ o k v) x y = gI σ x y := rfl
theorem gI_r {v : Option Nat} : gI (sR σ o k v) x y = gI σ x y := rfl
theorem gL_i {v : Int32} : gL (sI σ o k v) x y = gL σ x y := rfl
theorem gL_d {v : UInt64} : gL (sD σ o k v) x y = gL σ x y := rfl
theorem gL_r {v : Option Nat} : gL (sR σ o k v) x y = gL σ x y := rfl
theorem gD_i {v : Int32} : gD (sI σ o k v) x y = gD σ x y := rfl
theorem gD_l {v : Int64} : gD (sL σ o k v) x y = gD σ x y := rfl
theorem gD_r {v : Option Nat} : gD (sR σ o k v) x y = gD σ x y := rfl
theorem gR_i {v : Int32} : gR (sI σ o k v) x y = gR σ x y := rfl
theorem gR_l {v : Int64} : gR (sL σ o k v) x y = gR σ x y := rfl
theorem gR_d {v : UInt64} : gR (sD σ o k v) x y = gR σ x y := rfl
end RT
def adA (a : AV) (t : Nat) (w : Int64) (d : UInt64) : AV := (a.1 + 1, va_up a.2.1 a.1 t, va_up a.2.2.1 a.1 w, va_up a.2.2.2 a.1 d)
theorem RP.arg {σ : fr_S} {b : Nat → Nat} {n : Nat} {pl : Int32} {F : Nat → Nat → Nat} {a : AV} {A : VM} (h : RP σ b n pl F a A) {t : Nat} {w : Int64} {d : UInt64} (ht : t ≤ 4) (h3 : ¬ a.1 = 3) : RP (sI (sD (sL (sI σ 733 a.1 (nI t)) 734 a.1 w) 735 a.1 d) 717 22 (nI (a.1 + 1))) b n pl F (adA a t w d) A := by
  obtain ⟨⟨b1, b2, b3, b4⟩, r, p, ⟨f, fw, v, mv⟩, ⟨c, hc⟩, ⟨a1, a2, a3, a4, a5, a6⟩, ⟨m1, m2, m3, m4, m5, m6, m7, m8, m9, m10⟩, ab⟩ := h
  have k1 : ∀ o, 717 ≤ o → o ≤ 740 → o ≠ 733 → ∀ k, (o ≠ 717 ∨ k ≠ 22) → gI (sI (sD (sL (sI σ 733 a.1 (nI t)) 734 a.1 w) 735 a.1 d) 717 22 (nI (a.1 + 1))) o k = gI σ o k := fun o h1 h2 h3 k h4 => (gI_n h4).trans (gI_n (Or.inl h3))
  have k2 : ∀ o, o ≠ 734 → ∀ k, gL (sI (sD (sL (sI σ 733 a.1 (nI t)) 734 a.1 w) 735 a.1 d) 717 22 (nI (a.1 + 1))) o k = gL σ o k := fun o h k => gL_n (σ := sI σ 733 a.1 (nI t)) (Or.inl h)
  have k3 : ∀ o, o ≠ 735 → ∀ k, gD (sI (sD (sL (sI σ 733 a.1 (nI t)) 734 a.1 w) 735 a.1 d) 717 22 (nI (a.1 + 1))) o k = gD σ o k := fun o h k => gD_n (σ := sL (sI σ 733 a.1 (nI t)) 734 a.1 w) (Or.inl h)
  have k4 : ∀ o, 718 ≤ o → o ≤ 740 → o ≠ 733 → ∀ k, gI (sI (sD (sL (sI σ 733 a.1 (nI t)) 734 a.1 w) 735 a.1 d) 717 22 (nI (a.1 + 1))) o k = gI σ o k := fun o h1 h2 h3 k => k1 o (by omega) h2 h3 k (Or.inl (by omega))
  refine ⟨⟨(k1 _ (by decide) (by decide) (by decide) _ (by decide)).trans b1, b2, fun k hk => (k4 _ (by decide) (by decide) (by decide) _).trans (b3 k hk), b4⟩, r, (k1 _ (by decide) (by decide) (by decide) _ (by decide)).trans p, ⟨fun x k hx hk => (k4 _ (by omega) (by omega) (by omega) _).trans (f x k hx hk), fw, v, fun m hm => (mv m hm).ag fun o q1 q2 k => k4 o (by omega) (by omega) (by omega) k⟩, ⟨c, (k1 _ (by decide) (by decide) (by decide) _ (by decide)).trans hc⟩,
    ⟨gI_s, by show a.1 + 1 ≤ 3; omega, fun k hk => ?_, fun k => ?_, fun k hk => ?_, fun k hk => ?_⟩,
    ⟨(k1 _ (by decide) (by decide) (by decide) _ (by decide)).trans m1, (k1 _ (by decide) (by decide) (by decide) _ (by decide)).trans m2, fun k hk => (k4 _ (by decide) (by decide) (by decide) _).trans (m3 k hk), fun k hk => (k4 _ (by decide) (by decide) (by decide) _).trans (m4 k hk), (k1 _ (by decide) (by decide) (by decide) _ (by decide)).trans m5, fun k hk => (k2 _ (by decide) _).trans (m6 k hk), (k2 _ (by decide) _).trans m7, fun k hk => (k3 _ (by decide) _).trans (m8 k hk), (k3 _ (by decide) _).trans m9, fun k hk => (k4 _ (by decide) (by decide) (by decide) _).trans (m10 k hk)⟩, ab⟩
  · refine (gI_n (Or.inl (by decide))).trans ?_
    show gI (sI σ 733 a.1 (nI t)) 733 k = nI (va_up a.2.1 a.1 t k)
    by_cases e : k = a.1
    · subst e
      rw [gI_s, up_s]
    · rw [gI_n (Or.inr e), up_n e, a3 k hk]
  · show va_up a.2.1 a.1 t k ≤ 4
    unfold va_up
    split
    · exact ht
    · exact a4 k
  · show gL (sL (sI σ 733 a.1 (nI t)) 734 a.1 w) 734 k = va_up a.2.2.1 a.1 w k
    by_cases e : k = a.1
    · subst e
      rw [gL_s, up_s]
    · rw [gL_n (Or.inr e), up_n e]
      exact a5 k hk
  · show gD (sD (sL (sI σ 733 a.1 (nI t)) 734 a.1 w) 735 a.1 d) 735 k = va_up a.2.2.2 a.1 d k
    by_cases e : k = a.1
    · subst e
      rw [gD_s, up_s]
    · rw [gD_n (Or.inr e), up_n e]
      exact a6 k hk

set_option maxRecDepth 100000 in
set_option maxHeartbeats 1000000 in
theorem m_addArgument {l : Launch} {G : fr_G} {σ : fr_S} {b : Nat → Nat} {n : Nat} {pl : Int32} {F : Nat → Nat → Nat} {a : AV} {A : VM} (hP : RP σ b n pl F a A) {t : Nat} (ht : t ≤ 4) {w : Int64} {d : UInt64} : CR l G yy_Mo_addArgument rm_Mo_addArgument [.ref (717), .int (nI (t)), .long (w), .double (d)] σ (fun r0 σ' => r0 = some (.int (b2i (decide (¬ a.1 = 3)))) ∧ RP σ' b n pl F (if a.1 = 3 then a else adA a t w d) A ∧ AgC σ σ') := by
  intro Post hp0
  show PX l G yy_Mo_addArgument rm_Mo_addArgument _ false 742 0 0 0 [(0, .ref (717)), (1, .int (nI (t))), (2, .long (w)), (4, .double (d))] [] σ
  have hn220 := hP.1.2.1
  have hW := hP.2.2.2.1.2.1.fw
  have h04 := hW.1
  have h14 := hW.2.1
  have hb0 := hP.2.2.2.2.2.2.2.1
  have hb1 := hP.2.2.2.2.2.2.2.2.1
  have hb4 := hP.2.2.2.2.2.2.2.2.2.2.2
  have ha3 := hP.2.2.2.2.2.1.2.1
  refine px_aload_n dx_Mo_addArgument_0 rfl ?_
  refine px_getI dx_Mo_addArgument_1 fl_Mo_298 rfl (by decide) rfl ?_
  refine px_eqi (y := nI (a.1)) hP.2.2.2.2.2.1.1 ?_
  refine px_iconst (v := 3) dx_Mo_addArgument_4 rfl ?_
  refine px_icmp_neN (a := a.1) (b := 3) dx_Mo_addArgument_5 (by omega) (by omega) (fun c_5 => ?_) (fun c_5 => ?_)
  · refine px_aload_n dx_Mo_addArgument_10 rfl ?_
    refine px_getR (r := 733) dx_Mo_addArgument_11 fl_Mo_60 rfl (by decide) rfl (hP.2.1 23) ?_
    refine px_aload_n dx_Mo_addArgument_14 rfl ?_
    refine px_getI dx_Mo_addArgument_15 fl_Mo_298 rfl (by decide) rfl ?_
    refine px_eqi (y := nI (a.1)) hP.2.2.2.2.2.1.1 ?_
    refine px_iload_n dx_Mo_addArgument_18 rfl ?_
    refine px_iastN (j := a.1) dx_Mo_addArgument_19 rfl (by decide) (by omega) ?_
    refine px_aload_n dx_Mo_addArgument_20 rfl ?_
    refine px_getR (r := 734) dx_Mo_addArgument_21 fl_Mo_63 rfl (by decide) rfl (hP.2.1 24) ?_
    refine px_aload_n dx_Mo_addArgument_24 rfl ?_
    refine px_getI dx_Mo_addArgument_25 fl_Mo_298 rfl (by decide) rfl ?_
    refine px_eqi (y := nI (a.1)) (Eq.trans (gI_n (Or.inl (by decide))) hP.2.2.2.2.2.1.1) ?_
    refine px_lload_n dx_Mo_addArgument_28 rfl ?_
    refine px_lastN (j := a.1) dx_Mo_addArgument_29 rfl (by decide) (by omega) ?_
    refine px_aload_n dx_Mo_addArgument_30 rfl ?_
    refine px_getR (r := 735) dx_Mo_addArgument_31 fl_Mo_67 rfl (by decide) rfl (hP.2.1 25) ?_
    refine px_aload_n dx_Mo_addArgument_34 rfl ?_
    refine px_getI dx_Mo_addArgument_35 fl_Mo_298 rfl (by decide) rfl ?_
    refine px_eqi (y := nI (a.1)) (Eq.trans gI_l (Eq.trans (gI_n (Or.inl (by decide))) hP.2.2.2.2.2.1.1)) ?_
    refine px_dload dx_Mo_addArgument_38 rfl ?_
    refine px_dastN (j := a.1) dx_Mo_addArgument_40 rfl (by decide) (by omega) ?_
    refine px_aload_n dx_Mo_addArgument_41 rfl ?_
    refine px_dup dx_Mo_addArgument_42 rfl ?_
    refine px_getI dx_Mo_addArgument_43 fl_Mo_298 rfl (by decide) rfl ?_
    refine px_eqi (y := nI (a.1)) (Eq.trans gI_d (Eq.trans gI_l (Eq.trans (gI_n (Or.inl (by decide))) hP.2.2.2.2.2.1.1))) ?_
    refine px_iconst (v := 1) dx_Mo_addArgument_46 rfl ?_
    refine px_iaddN (a := a.1) (b := 1) dx_Mo_addArgument_47 ?_
    refine px_putI dx_Mo_addArgument_48 fl_Mo_298 rfl (by decide) rfl ?_
    refine px_iconst (v := 1) dx_Mo_addArgument_51 rfl ?_
    exact px_zret dx_Mo_addArgument_52 rfl (by decide) (by exact hp0 _ _ ⟨by rw [decide_eq_true c_5]; rfl, by rw [if_neg c_5]; exact hP.arg ht c_5, ((((AgC.rf).i (by decide)).l (by decide)).d (by decide)).i (by decide)⟩)
  · refine px_iconst (v := 0) dx_Mo_addArgument_8 rfl ?_
    exact px_zret dx_Mo_addArgument_9 rfl (by decide) (by exact hp0 _ _ ⟨by rw [decide_eq_false (fun q => q c_5)]; rfl, by rw [if_pos c_5]; exact hP, AgC.rf⟩)
set_option maxRecDepth 100000 in
set_option maxHeartbeats 1000000 in
theorem m_pass_1 {l : Launch} {G : fr_G} {σ : fr_S} {b : Nat → Nat} {n : Nat} {pl : Int32} {F : Nat → Nat → Nat} {a : AV} {A : VM} (hP : RP σ b n pl F a A) {v : Int64} : CR l G yy_Mo_pass rm_Mo_pass [.ref (717), .int (1), .long (v)] σ (fun r0 σ' => r0 = some (.int (b2i (decide (¬ a.1 = 3)))) ∧ RP σ' b n pl F (if a.1 = 3 then a else adA a 1 v.toInt32.toInt64 0) A ∧ AgC σ σ') := by
  intro Post hp0
  show PX l G yy_Mo_pass rm_Mo_pass _ false 742 0 0 0 [(0, .ref (717)), (1, .int (1)), (2, .long (v))] [] σ
  have hn220 := hP.1.2.1
  have hW := hP.2.2.2.1.2.1.fw
  have h04 := hW.1
  have h14 := hW.2.1
  have hb0 := hP.2.2.2.2.2.2.2.1
  have hb1 := hP.2.2.2.2.2.2.2.2.1
  have hb4 := hP.2.2.2.2.2.2.2.2.2.2.2
  have ha3 := hP.2.2.2.2.2.1.2.1
  refine px_aload_n dx_Mo_pass_0 rfl ?_
  refine px_iconst (v := 0) dx_Mo_pass_1 rfl ?_
  refine px_putI dx_Mo_pass_2 fl_Mo_86 rfl (by decide) rfl ?_
  refine px_iload_n dx_Mo_pass_5 rfl ?_
  refine px_iconst (v := 1) dx_Mo_pass_6 rfl ?_
  refine px_icmp_eq dx_Mo_pass_7 (fun _ => ?_) (fun q => absurd (by decide) q)
  refine px_aload_n dx_Mo_pass_17 rfl ?_
  refine px_iload_n dx_Mo_pass_18 rfl ?_
  refine px_iload_n dx_Mo_pass_19 rfl ?_
  refine px_iconst (v := 1) dx_Mo_pass_20 rfl ?_
  refine px_icmp_ne dx_Mo_pass_21 (fun q => absurd q (by decide)) (fun _ => ?_)
  refine px_lload_n dx_Mo_pass_24 rfl ?_
  refine px_l2i dx_Mo_pass_25 ?_
  refine px_i2l dx_Mo_pass_26 ?_
  refine px_goto dx_Mo_pass_27 ?_
  refine px_dconst0 dx_Mo_pass_31 ?_
  refine px_cVR (Y := yy_Mo_pass) (Yc := yy_Mo_addArgument) (b := 717) (As := [.int (1), .long (v.toInt32.toInt64), .double (0)]) dx_Mo_pass_32 ml_Mo_301 mv_Mo_addArgument np_Mo_addArgument ⟨_, rfl⟩ (by decide) rfl (by decide) rfl (Nat.le_of_ble_eq_true rfl) (Nat.le_of_ble_eq_true rfl) rk_Mo_pass_Mo_addArgument rfl (m_addArgument (t := 1) (w := v.toInt32.toInt64) (d := 0) hP.c (by decide)) zz_0 (fun r_32 τ1 h_32 => ?_)
  obtain ⟨rfl, hP2, hA2⟩ := h_32
  exact px_zret dx_Mo_pass_35 rfl (b2i_01 _) (by exact hp0 _ _ ⟨rfl, hP2, ((AgC.rf).i (by decide)).tr hA2⟩)
set_option maxRecDepth 100000 in
set_option maxHeartbeats 1000000 in
theorem m_pass_2 {l : Launch} {G : fr_G} {σ : fr_S} {b : Nat → Nat} {n : Nat} {pl : Int32} {F : Nat → Nat → Nat} {a : AV} {A : VM} (hP : RP σ b n pl F a A) {v : Int64} : CR l G yy_Mo_pass rm_Mo_pass [.ref (717), .int (2), .long (v)] σ (fun r0 σ' => r0 = some (.int (b2i (decide (¬ a.1 = 3)))) ∧ RP σ' b n pl F (if a.1 = 3 then a else adA a 2 v 0) A ∧ AgC σ σ') := by
  intro Post hp0
  show PX l G yy_Mo_pass rm_Mo_pass _ false 742 0 0 0 [(0, .ref (717)), (1, .int (2)), (2, .long (v))] [] σ
  have hn220 := hP.1.2.1
  have hW := hP.2.2.2.1.2.1.fw
  have h04 := hW.1
  have h14 := hW.2.1
  have hb0 := hP.2.2.2.2.2.2.2.1
  have hb1 := hP.2.2.2.2.2.2.2.2.1
  have hb4 := hP.2.2.2.2.2.2.2.2.2.2.2
  have ha3 := hP.2.2.2.2.2.1.2.1
  refine px_aload_n dx_Mo_pass_0 rfl ?_
  refine px_iconst (v := 0) dx_Mo_pass_1 rfl ?_
  refine px_putI dx_Mo_pass_2 fl_Mo_86 rfl (by decide) rfl ?_
  refine px_iload_n dx_Mo_pass_5 rfl ?_
  refine px_iconst (v := 1) dx_Mo_pass_6 rfl ?_
  refine px_icmp_eq dx_Mo_pass_7 (fun q => absurd q (by decide)) (fun _ => ?_)
  refine px_iload_n dx_Mo_pass_10 rfl ?_
  refine px_iconst (v := 2) dx_Mo_pass_11 rfl ?_
  refine px_icmp_eq dx_Mo_pass_12 (fun _ => ?_) (fun q => absurd (by decide) q)
  refine px_aload_n dx_Mo_pass_17 rfl ?_
  refine px_iload_n dx_Mo_pass_18 rfl ?_
  refine px_iload_n dx_Mo_pass_19 rfl ?_
  refine px_iconst (v := 1) dx_Mo_pass_20 rfl ?_
  refine px_icmp_ne dx_Mo_pass_21 (fun _ => ?_) (fun q => absurd q (by decide))
  refine px_lload_n dx_Mo_pass_30 rfl ?_
  refine px_dconst0 dx_Mo_pass_31 ?_
  refine px_cVR (Y := yy_Mo_pass) (Yc := yy_Mo_addArgument) (b := 717) (As := [.int (2), .long (v), .double (0)]) dx_Mo_pass_32 ml_Mo_301 mv_Mo_addArgument np_Mo_addArgument ⟨_, rfl⟩ (by decide) rfl (by decide) rfl (Nat.le_of_ble_eq_true rfl) (Nat.le_of_ble_eq_true rfl) rk_Mo_pass_Mo_addArgument rfl (m_addArgument (t := 2) (w := v) (d := 0) hP.c (by decide)) zz_0 (fun r_32 τ1 h_32 => ?_)
  obtain ⟨rfl, hP2, hA2⟩ := h_32
  exact px_zret dx_Mo_pass_35 rfl (b2i_01 _) (by exact hp0 _ _ ⟨rfl, hP2, ((AgC.rf).i (by decide)).tr hA2⟩)
set_option maxRecDepth 100000 in
set_option maxHeartbeats 1000000 in
theorem m_pass_n {l : Launch} {G : fr_G} {σ : fr_S} {b : Nat → Nat} {n : Nat} {pl : Int32} {F : Nat → Nat → Nat} {a : AV} {A : VM} (hP : RP σ b n pl F a A) {x : Int32} {v : Int64} (h1 : ¬ x = 1) (h2 : ¬ x = 2) : CR l G yy_Mo_pass rm_Mo_pass [.ref (717), .int (x), .long (v)] σ (fun r0 σ' => r0 = some (.int 0) ∧ RP σ' b n pl F a A ∧ AgC σ σ') := by
  intro Post hp0
  show PX l G yy_Mo_pass rm_Mo_pass _ false 742 0 0 0 [(0, .ref (717)), (1, .int (x)), (2, .long (v))] [] σ
  have hn220 := hP.1.2.1
  have hW := hP.2.2.2.1.2.1.fw
  have h04 := hW.1
  have h14 := hW.2.1
  have hb0 := hP.2.2.2.2.2.2.2.1
  have hb1 := hP.2.2.2.2.2.2.2.2.1
  have hb4 := hP.2.2.2.2.2.2.2.2.2.2.2
  have ha3 := hP.2.2.2.2.2.1.2.1
  refine px_aload_n dx_Mo_pass_0 rfl ?_
  refine px_iconst (v := 0) dx_Mo_pass_1 rfl ?_
  refine px_putI dx_Mo_pass_2 fl_Mo_86 rfl (by decide) rfl ?_
  refine px_iload_n dx_Mo_pass_5 rfl ?_
  refine px_iconst (v := 1) dx_Mo_pass_6 rfl ?_
  refine px_icmp_eq dx_Mo_pass_7 (fun c_7 => ?_) (fun c_7 => ?_)
  · first | exact absurd c_7 h1 | exact absurd c_12 h2
  · refine px_iload_n dx_Mo_pass_10 rfl ?_
    refine px_iconst (v := 2) dx_Mo_pass_11 rfl ?_
    refine px_icmp_eq dx_Mo_pass_12 (fun c_12 => ?_) (fun c_12 => ?_)
    · first | exact absurd c_7 h1 | exact absurd c_12 h2
    · refine px_iconst (v := 0) dx_Mo_pass_15 rfl ?_
      exact px_zret dx_Mo_pass_16 rfl (by decide) (by exact hp0 _ _ ⟨rfl, hP.c, (AgC.rf).i (by decide)⟩)
/-- a number that may be passed -/
def inR (v : UInt64) : Prop := ¬ Op.cmpValue (FP.dcmp v 14100770433297022976) .l < 0 ∧ Op.cmpValue (FP.dcmp v 4877398396442247168) .g ≤ 0
theorem inR_dB {v : UInt64} (hv : vf_n64 v) (h : inR v) : dB v := by
  have a1 : vf_n64 4877398396442247168 := vn64 (by decide)
  have a2 : vf_n64 14100770433297022976 := vn64 (by decide)
  have k1 : ky 4877398396442247168 = 4877398396442247168 := by rw [ky_e]; decide
  have k2 : ky 14100770433297022976 = -4877398396442247168 := by rw [ky_e]; decide
  obtain ⟨h1, h2⟩ := h
  rw [dcmp_ky hv a2, cmz_lt, k2, ky_e] at h1
  rw [dcmp_ky hv a1] at h2
  have h3 : ¬ ky 4877398396442247168 < ky v := fun q => not_lt_ge h2 (cmz_gt.mpr q)
  rw [k1, ky_e] at h3
  unfold dB
  split at h1
  · rename_i hs
    rw [if_pos hs] at h3
    omega
  · rename_i hs
    rw [if_neg hs] at h3
    omega

set_option maxRecDepth 100000 in
set_option maxHeartbeats 1000000 in
theorem m_passReal_3 {l : Launch} {G : fr_G} {σ : fr_S} {b : Nat → Nat} {n : Nat} {pl : Int32} {F : Nat → Nat → Nat} {a : AV} {A : VM} (hP : RP σ b n pl F a A) {v : UInt64} (hv : vf_n64 v) (hr : inR v) : CR l G yy_Mo_passReal rm_Mo_passReal [.ref (717), .int (3), .double (v)] σ (fun r0 σ' => r0 = some (.int (b2i (decide (¬ a.1 = 3)))) ∧ RP σ' b n pl F (if a.1 = 3 then a else adA a 3 0 (FP.f2d (FP.d2f v))) A ∧ AgC σ σ') := by
  intro Post hp0
  show PX l G yy_Mo_passReal rm_Mo_passReal _ false 742 0 0 0 [(0, .ref (717)), (1, .int (3)), (2, .double (v))] [] σ
  have hn220 := hP.1.2.1
  have hW := hP.2.2.2.1.2.1.fw
  have h04 := hW.1
  have h14 := hW.2.1
  have hb0 := hP.2.2.2.2.2.2.2.1
  have hb1 := hP.2.2.2.2.2.2.2.2.1
  have hb4 := hP.2.2.2.2.2.2.2.2.2.2.2
  have ha3 := hP.2.2.2.2.2.1.2.1
  have hvB := inR_dB hv hr
  refine px_aload_n dx_Mo_passReal_0 rfl ?_
  refine px_iconst (v := 0) dx_Mo_passReal_1 rfl ?_
  refine px_putI dx_Mo_passReal_2 fl_Mo_86 rfl (by decide) rfl ?_
  refine px_iload_n dx_Mo_passReal_5 rfl ?_
  refine px_iconst (v := 3) dx_Mo_passReal_6 rfl ?_
  refine px_icmp_eq dx_Mo_passReal_7 (fun _ => ?_) (fun q => absurd (by decide) q)
  refine px_dload_n dx_Mo_passReal_17 rfl ?_
  refine px_ldc2d dx_Mo_passReal_18 kk_Mo_305 ?_
  refine px_dcmp dx_Mo_passReal_21 ?_
  refine px_if_lt dx_Mo_passReal_22 (fun c_22 => ?_) (fun c_22 => ?_)
  · first | exact absurd c_22 hr.1 | exact absurd hr.2 c_30
  · refine px_dload_n dx_Mo_passReal_25 rfl ?_
    refine px_ldc2d dx_Mo_passReal_26 kk_Mo_307 ?_
    refine px_dcmp dx_Mo_passReal_29 ?_
    refine px_if_le dx_Mo_passReal_30 (fun c_30 => ?_) (fun c_30 => ?_)
    · refine px_aload_n dx_Mo_passReal_35 rfl ?_
      refine px_iload_n dx_Mo_passReal_36 rfl ?_
      refine px_lconst (v := 0) dx_Mo_passReal_37 rfl ?_
      refine px_iload_n dx_Mo_passReal_38 rfl ?_
      refine px_iconst (v := 3) dx_Mo_passReal_39 rfl ?_
      refine px_icmp_ne dx_Mo_passReal_40 (fun q => absurd q (by decide)) (fun _ => ?_)
      refine px_dload_n dx_Mo_passReal_43 rfl ?_
      refine px_d2f dx_Mo_passReal_44 (d2f_fB hvB).vn ?_
      refine px_f2d dx_Mo_passReal_45 (f2d_dB (d2f_fB hvB)).vn ?_
      refine px_goto dx_Mo_passReal_46 ?_
      refine px_cVR (Y := yy_Mo_passReal) (Yc := yy_Mo_addArgument) (b := 717) (As := [.int (3), .long (0), .double (FP.f2d (FP.d2f v))]) dx_Mo_passReal_50 ml_Mo_301 mv_Mo_addArgument np_Mo_addArgument ⟨_, rfl⟩ (by decide) rfl (by decide) rfl (Nat.le_of_ble_eq_true rfl) (Nat.le_of_ble_eq_true rfl) rk_Mo_passReal_Mo_addArgument rfl (m_addArgument (t := 3) (w := 0) (d := FP.f2d (FP.d2f v)) hP.c (by decide)) zz_0 (fun r_50 τ1 h_50 => ?_)
      obtain ⟨rfl, hP2, hA2⟩ := h_50
      exact px_zret dx_Mo_passReal_53 rfl (b2i_01 _) (by exact hp0 _ _ ⟨rfl, hP2, ((AgC.rf).i (by decide)).tr hA2⟩)
    · first | exact absurd c_22 hr.1 | exact absurd hr.2 c_30
set_option maxRecDepth 100000 in
set_option maxHeartbeats 1000000 in
theorem m_passReal_4 {l : Launch} {G : fr_G} {σ : fr_S} {b : Nat → Nat} {n : Nat} {pl : Int32} {F : Nat → Nat → Nat} {a : AV} {A : VM} (hP : RP σ b n pl F a A) {v : UInt64} (hv : vf_n64 v) (hr : inR v) : CR l G yy_Mo_passReal rm_Mo_passReal [.ref (717), .int (4), .double (v)] σ (fun r0 σ' => r0 = some (.int (b2i (decide (¬ a.1 = 3)))) ∧ RP σ' b n pl F (if a.1 = 3 then a else adA a 4 0 v) A ∧ AgC σ σ') := by
  intro Post hp0
  show PX l G yy_Mo_passReal rm_Mo_passReal _ false 742 0 0 0 [(0, .ref (717)), (1, .int (4)), (2, .double (v))] [] σ
  have hn220 := hP.1.2.1
  have hW := hP.2.2.2.1.2.1.fw
  have h04 := hW.1
  have h14 := hW.2.1
  have hb0 := hP.2.2.2.2.2.2.2.1
  have hb1 := hP.2.2.2.2.2.2.2.2.1
  have hb4 := hP.2.2.2.2.2.2.2.2.2.2.2
  have ha3 := hP.2.2.2.2.2.1.2.1
  have hvB := inR_dB hv hr
  refine px_aload_n dx_Mo_passReal_0 rfl ?_
  refine px_iconst (v := 0) dx_Mo_passReal_1 rfl ?_
  refine px_putI dx_Mo_passReal_2 fl_Mo_86 rfl (by decide) rfl ?_
  refine px_iload_n dx_Mo_passReal_5 rfl ?_
  refine px_iconst (v := 3) dx_Mo_passReal_6 rfl ?_
  refine px_icmp_eq dx_Mo_passReal_7 (fun q => absurd q (by decide)) (fun _ => ?_)
  refine px_iload_n dx_Mo_passReal_10 rfl ?_
  refine px_iconst (v := 4) dx_Mo_passReal_11 rfl ?_
  refine px_icmp_eq dx_Mo_passReal_12 (fun _ => ?_) (fun q => absurd (by decide) q)
  refine px_dload_n dx_Mo_passReal_17 rfl ?_
  refine px_ldc2d dx_Mo_passReal_18 kk_Mo_305 ?_
  refine px_dcmp dx_Mo_passReal_21 ?_
  refine px_if_lt dx_Mo_passReal_22 (fun c_22 => ?_) (fun c_22 => ?_)
  · first | exact absurd c_22 hr.1 | exact absurd hr.2 c_30
  · refine px_dload_n dx_Mo_passReal_25 rfl ?_
    refine px_ldc2d dx_Mo_passReal_26 kk_Mo_307 ?_
    refine px_dcmp dx_Mo_passReal_29 ?_
    refine px_if_le dx_Mo_passReal_30 (fun c_30 => ?_) (fun c_30 => ?_)
    · refine px_aload_n dx_Mo_passReal_35 rfl ?_
      refine px_iload_n dx_Mo_passReal_36 rfl ?_
      refine px_lconst (v := 0) dx_Mo_passReal_37 rfl ?_
      refine px_iload_n dx_Mo_passReal_38 rfl ?_
      refine px_iconst (v := 3) dx_Mo_passReal_39 rfl ?_
      refine px_icmp_ne dx_Mo_passReal_40 (fun _ => ?_) (fun q => absurd q (by decide))
      refine px_dload_n dx_Mo_passReal_49 rfl ?_
      refine px_cVR (Y := yy_Mo_passReal) (Yc := yy_Mo_addArgument) (b := 717) (As := [.int (4), .long (0), .double (v)]) dx_Mo_passReal_50 ml_Mo_301 mv_Mo_addArgument np_Mo_addArgument ⟨_, rfl⟩ (by decide) rfl (by decide) rfl (Nat.le_of_ble_eq_true rfl) (Nat.le_of_ble_eq_true rfl) rk_Mo_passReal_Mo_addArgument rfl (m_addArgument (t := 4) (w := 0) (d := v) hP.c (by decide)) zz_0 (fun r_50 τ1 h_50 => ?_)
      obtain ⟨rfl, hP2, hA2⟩ := h_50
      exact px_zret dx_Mo_passReal_53 rfl (b2i_01 _) (by exact hp0 _ _ ⟨rfl, hP2, ((AgC.rf).i (by decide)).tr hA2⟩)
    · first | exact absurd c_22 hr.1 | exact absurd hr.2 c_30
set_option maxRecDepth 100000 in
set_option maxHeartbeats 1000000 in
theorem m_passReal_n {l : Launch} {G : fr_G} {σ : fr_S} {b : Nat → Nat} {n : Nat} {pl : Int32} {F : Nat → Nat → Nat} {a : AV} {A : VM} (hP : RP σ b n pl F a A) {x : Int32} {v : UInt64} (hr : (¬ x = 3 ∧ ¬ x = 4) ∨ ¬ inR v) : CR l G yy_Mo_passReal rm_Mo_passReal [.ref (717), .int (x), .double (v)] σ (fun r0 σ' => r0 = some (.int 0) ∧ RP σ' b n pl F a A ∧ AgC σ σ') := by
  intro Post hp0
  show PX l G yy_Mo_passReal rm_Mo_passReal _ false 742 0 0 0 [(0, .ref (717)), (1, .int (x)), (2, .double (v))] [] σ
  have hn220 := hP.1.2.1
  have hW := hP.2.2.2.1.2.1.fw
  have h04 := hW.1
  have h14 := hW.2.1
  have hb0 := hP.2.2.2.2.2.2.2.1
  have hb1 := hP.2.2.2.2.2.2.2.2.1
  have hb4 := hP.2.2.2.2.2.2.2.2.2.2.2
  have ha3 := hP.2.2.2.2.2.1.2.1
  refine px_aload_n dx_Mo_passReal_0 rfl ?_
  refine px_iconst (v := 0) dx_Mo_passReal_1 rfl ?_
  refine px_putI dx_Mo_passReal_2 fl_Mo_86 rfl (by decide) rfl ?_
  refine px_iload_n dx_Mo_passReal_5 rfl ?_
  refine px_iconst (v := 3) dx_Mo_passReal_6 rfl ?_
  refine px_icmp_eq dx_Mo_passReal_7 (fun c_7 => ?_) (fun c_7 => ?_)
  · refine px_dload_n dx_Mo_passReal_17 rfl ?_
    refine px_ldc2d dx_Mo_passReal_18 kk_Mo_305 ?_
    refine px_dcmp dx_Mo_passReal_21 ?_
    refine px_if_lt dx_Mo_passReal_22 (fun c_22 => ?_) (fun c_22 => ?_)
    · refine px_iconst (v := 0) dx_Mo_passReal_33 rfl ?_
      exact px_zret dx_Mo_passReal_34 rfl (by decide) (by exact hp0 _ _ ⟨rfl, hP.c, (AgC.rf).i (by decide)⟩)
    · refine px_dload_n dx_Mo_passReal_25 rfl ?_
      refine px_ldc2d dx_Mo_passReal_26 kk_Mo_307 ?_
      refine px_dcmp dx_Mo_passReal_29 ?_
      refine px_if_le dx_Mo_passReal_30 (fun c_30 => ?_) (fun c_30 => ?_)
      · exact hr.elim (fun q => by first | exact absurd c_7 q.1 | exact absurd c_12 q.2) (fun q => absurd ⟨c_22, c_30⟩ q)
      · refine px_iconst (v := 0) dx_Mo_passReal_33 rfl ?_
        exact px_zret dx_Mo_passReal_34 rfl (by decide) (by exact hp0 _ _ ⟨rfl, hP.c, (AgC.rf).i (by decide)⟩)
  · refine px_iload_n dx_Mo_passReal_10 rfl ?_
    refine px_iconst (v := 4) dx_Mo_passReal_11 rfl ?_
    refine px_icmp_eq dx_Mo_passReal_12 (fun c_12 => ?_) (fun c_12 => ?_)
    · refine px_dload_n dx_Mo_passReal_17 rfl ?_
      refine px_ldc2d dx_Mo_passReal_18 kk_Mo_305 ?_
      refine px_dcmp dx_Mo_passReal_21 ?_
      refine px_if_lt dx_Mo_passReal_22 (fun c_22 => ?_) (fun c_22 => ?_)
      · refine px_iconst (v := 0) dx_Mo_passReal_33 rfl ?_
        exact px_zret dx_Mo_passReal_34 rfl (by decide) (by exact hp0 _ _ ⟨rfl, hP.c, (AgC.rf).i (by decide)⟩)
      · refine px_dload_n dx_Mo_passReal_25 rfl ?_
        refine px_ldc2d dx_Mo_passReal_26 kk_Mo_307 ?_
        refine px_dcmp dx_Mo_passReal_29 ?_
        refine px_if_le dx_Mo_passReal_30 (fun c_30 => ?_) (fun c_30 => ?_)
        · exact hr.elim (fun q => by first | exact absurd c_7 q.1 | exact absurd c_12 q.2) (fun q => absurd ⟨c_22, c_30⟩ q)
        · refine px_iconst (v := 0) dx_Mo_passReal_33 rfl ?_
          exact px_zret dx_Mo_passReal_34 rfl (by decide) (by exact hp0 _ _ ⟨rfl, hP.c, (AgC.rf).i (by decide)⟩)
    · refine px_iconst (v := 0) dx_Mo_passReal_15 rfl ?_
      exact px_zret dx_Mo_passReal_16 rfl (by decide) (by exact hp0 _ _ ⟨rfl, hP.c, (AgC.rf).i (by decide)⟩)
