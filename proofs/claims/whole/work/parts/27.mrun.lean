/-! the reference: it runs -/
theorem MX.c {σ0 σ : fr_S} {F : Nat → Nat → Nat} {A : VM} (H : MX σ0 σ F A) {v : Int32} : MX σ0 (sI σ 717 0 v) F A := by
  obtain ⟨r, m, w, h, b, q⟩ := H
  exact ⟨r, ⟨Eq.trans (gI_n (Or.inl (by decide))) m.1, Eq.trans (gI_n (Or.inl (by decide))) m.2.1, fun i hi => Eq.trans (gI_n (Or.inl (by decide))) (m.2.2.1 i hi), fun i hi => Eq.trans (gI_n (Or.inl (by decide))) (m.2.2.2.1 i hi), fun i hi => Eq.trans (gI_n (Or.inl (by decide))) (m.2.2.2.2.1 i hi), fun i hi => Eq.trans (gI_n (Or.inl (by decide))) (m.2.2.2.2.2.1 i hi), fun i hi => Eq.trans (gI_n (Or.inl (by decide))) (m.2.2.2.2.2.2.1 i hi), fun i hi => Eq.trans (gI_n (Or.inl (by decide))) (m.2.2.2.2.2.2.2 i hi)⟩, w,
    ⟨Eq.trans (gI_n (Or.inr (by decide))) h.1, Eq.trans (gI_n (Or.inr (by decide))) h.2.1, fun i hi => Eq.trans (gI_n (Or.inl (by decide))) (h.2.2.1 i hi), fun i hi => Eq.trans (gI_n (Or.inl (by decide))) (h.2.2.2.1 i hi), Eq.trans (gI_n (Or.inr (by decide))) h.2.2.2.2.1, h.2.2.2.2.2.1, h.2.2.2.2.2.2.1, h.2.2.2.2.2.2.2.1, h.2.2.2.2.2.2.2.2.1, fun i hi => Eq.trans (gI_n (Or.inl (by decide))) (h.2.2.2.2.2.2.2.2.2 i hi)⟩, b,
    ⟨fun o ho k => (gI_n (Or.inl (by rintro rfl; simp at ho))).trans (q.1 o ho k), fun k hk => (gI_n (Or.inr (by rintro rfl; simp at hk))).trans (q.2.1 k hk), q.2.2.1, q.2.2.2.1, q.2.2.2.2⟩⟩
def cmA (A : VM) : Nat := A.1 2 (A.1 1 0 - 1)
def cpA (A : VM) : Nat := A.1 3 (A.1 1 0 - 1)
def rnA (F : Nat → Nat → Nat) : Nat → VM → Nat × Nat × VM
  | 0, A => (0, 0, A)
  | k + 1, A => if A.1 0 0 = 1 then (if (onA F A (cmA A) (cpA A)).1 = 0 then ((rnA F k (onA F A (cmA A) (cpA A)).2).1 + 1, (rnA F k (onA F A (cmA A) (cpA A)).2).2) else (1, (onA F A (cmA A) (cpA A)).1, (onA F A (cmA A) (cpA A)).2)) else (0, 0, A)
def idA (A : VM) (s : Nat) : VM := aD (aW (aI (aI (aI A 0 0 s) 1 0 0) 4 0 0) 60 0) 60 0
theorem MX.id {σ0 σ : fr_S} {F : Nat → Nat → Nat} {A : VM} (H : MX σ0 σ F A) {s : Nat} (hs : s ≤ 3) : MX σ0 (idS σ (nI s)) F (idA A s) := ((((H.st hs).dp (Nat.zero_le _)).ot (Nat.zero_le _)).ow).od
/-- what a run comes to: what stopped it, the answer, the machine -/
def rnX (F : Nat → Nat → Nat) (A : VM) (x : Int32) : Nat × Int32 × VM := if x < 0 ∨ 200 < x then (1, 0, A) else if A.1 0 0 ≠ 1 then (2, 0, A) else if (rnA F x.toNatClampNeg A).2.1 = 0 then (0, nI (rnA F x.toNatClampNeg A).1, (rnA F x.toNatClampNeg A).2.2) else ((rnA F x.toNatClampNeg A).2.1, 0, idA (rnA F x.toNatClampNeg A).2.2 3)
/-- what a step wants -/
def ST (F : Nat → Nat → Nat) (A : VM) : Prop := 1 ≤ A.1 1 0 ∧ cmA A < F 0 0 ∧ cpA A < 40 ∧ (∃ Bg bf, frmOK F Bg (cmA A) (cpA A) bf = true) ∧ DA A ∧ (jns (opS (F 7 (40 * cmA A + cpA A))) = true → jnO (opS (F 7 (40 * cmA A + cpA A))) = 1 → ¬ gW A (opN (F 7 (40 * cmA A + (cpA A + 1)))) = 0 → ¬ (gW A (opN (F 7 (40 * cmA A + (cpA A + 1))))).toInt32 = 0) ∧ ∀ c, c < F 0 0 → pwF F c ≤ F 5 c
theorem onA_le (F : Nat → Nat → Nat) (A : VM) (m p : Nat) : (onA F A m p).1 ≤ 4 := by
  unfold onA
  repeat' split
  all_goals first | exact Nat.le_refl 4 | exact Nat.zero_le _ | exact (by decide : 3 ≤ 4)
theorem m_fail {l : Launch} {G : fr_G} {σ : fr_S} {x : Int32} : CT l G yy_Mo_fail rm_Mo_fail [.ref 717, .int x] σ (some (.int 0)) (sI σ 717 0 x) := by
  intro Post hp
  show PX l G yy_Mo_fail rm_Mo_fail _ false 742 0 0 0 [(0, .ref 717), (1, .int x)] [] σ
  refine px_aload_n dx_Mo_fail_0 rfl ?_
  refine px_iload_n dx_Mo_fail_1 rfl ?_
  refine px_putI dx_Mo_fail_2 fl_Mo_86 rfl (by decide) rfl ?_
  refine px_iconst (v := 0) dx_Mo_fail_5 rfl ?_
  exact px_iret dx_Mo_fail_6 rfl hp
theorem rnA_0 {F : Nat → Nat → Nat} {A : VM} (h : ¬ A.1 0 0 = 1) : ∀ n, rnA F n A = (0, 0, A)
  | 0 => rfl
  | n + 1 => by
    unfold rnA
    rw [if_neg h]
theorem rnA_s {F : Nat → Nat → Nat} {A : VM} {n : Nat} (h : A.1 0 0 = 1) (h0 : (onA F A (cmA A) (cpA A)).1 = 0) : rnA F (n + 1) A = ((rnA F n (onA F A (cmA A) (cpA A)).2).1 + 1, (rnA F n (onA F A (cmA A) (cpA A)).2).2) := by
  show (if _ then _ else _) = _
  rw [if_pos h, if_pos h0]
theorem rnA_e {F : Nat → Nat → Nat} {A : VM} {n : Nat} (h : A.1 0 0 = 1) (h0 : ¬ (onA F A (cmA A) (cpA A)).1 = 0) : rnA F (n + 1) A = (1, (onA F A (cmA A) (cpA A)).1, (onA F A (cmA A) (cpA A)).2) := by
  show (if _ then _ else _) = _
  rw [if_pos h, if_neg h0]

theorem nn_clamp {x : Int32} (h : ¬ x < 0) : x = nI x.toNatClampNeg := by
  have h1 : 0 ≤ x.toInt := by
    rw [Int32.lt_iff_toInt_lt] at h
    have : (0 : Int32).toInt = 0 := rfl
    omega
  apply Int32.toInt_inj.mp
  have h2 := x.toInt_lt
  have h3 : (x.toNatClampNeg : Int) = x.toInt := Int.toNat_of_nonneg h1
  rw [nI_toInt (by omega)]
  exact h3.symm
theorem le200 {x : Int32} (h : ¬ x < 0) (h2 : x ≤ 200) : x.toNatClampNeg ≤ 200 := by
  have h1 : 0 ≤ x.toInt := by
    rw [Int32.lt_iff_toInt_lt] at h
    have : (0 : Int32).toInt = 0 := rfl
    omega
  rw [Int32.le_iff_toInt_le] at h2
  have : (200 : Int32).toInt = 200 := rfl
  have h3 : (x.toNatClampNeg : Int) = x.toInt := Int.toNat_of_nonneg h1
  omega

set_option maxRecDepth 100000 in
set_option maxHeartbeats 1000000 in
theorem m_run_lp {l : Launch} {G : fr_G} {σ : fr_S} {F : Nat → Nat → Nat} {A : VM} {σ0 : fr_S} {I : VM → Prop} (hI : ∀ A, I A → A.1 0 0 = 1 → ST F A ∧ ((onA F A (cmA A) (cpA A)).1 = 0 → I (onA F A (cmA A) (cpA A)).2)) {n : Nat} (hn : n ≤ 200) {Post : Option Value → fr_S → Prop} (hp0 : ∀ r σ', (fun r0 σ' => r0 = some (.int (if (rnA F n A).2.1 = 0 then nI (rnA F n A).1 else 0)) ∧ gI σ' 717 0 = nI (rnA F n A).2.1 ∧ MX σ0 σ' F (if (rnA F n A).2.1 = 0 then (rnA F n A).2.2 else idA (rnA F n A).2.2 3)) r σ' → Post r σ') : ∀ (d : Nat) (did : Nat) (σ1 : fr_S) (A1 : VM) (c : Nat), n - did < d → did ≤ n → MX σ0 σ1 F A1 → gI σ1 717 0 = nI c → c ≤ 4 → (c = 0 → I A1) → (c = 0 → rnA F n A = (did + (rnA F (n - did) A1).1, (rnA F (n - did) A1).2)) → (¬ c = 0 → rnA F n A = (did, c, A1)) → PX l G yy_Mo_run rm_Mo_run (QR G false 742 0 0 Post) false 742 0 0 38 [(0, .ref (717)), (1, .int (nI (n))), (2, .int (nI (did)))] [] (σ1) := by
  intro d
  induction d with
  | zero => intro did σ1 A1 c hd; exact absurd hd (Nat.not_lt_zero _)
  | succ d ih =>
    intro did σ1 A1 c hd hdn hX hcd hc4 hIA hE hE2
    have b3 := hX.2.2.2.2.1.1
    refine px_iload_n dx_Mo_run_38 rfl ?_
    refine px_iload_n dx_Mo_run_39 rfl ?_
    refine px_icmp_geN (a := did) (b := n) dx_Mo_run_40 (by omega) (by omega) (fun c_40 => ?_) (fun c_40 => ?_)
    · refine px_aload_n dx_Mo_run_72 rfl ?_
      refine px_getI dx_Mo_run_73 fl_Mo_86 rfl (by decide) rfl ?_
      refine px_eqi (y := nI (c)) hcd ?_
      refine px_if_neN (a := c) dx_Mo_run_76 (by omega) (fun c_76 => ?_) (fun c_76 => ?_)
      · refine px_aload_n dx_Mo_run_81 rfl ?_
        refine px_iconst (v := 3) dx_Mo_run_82 rfl ?_
        refine px_cV (Y := yy_Mo_run) (Yc := yy_Mo_idle) (b := 717) (As := [.int (3)]) dx_Mo_run_83 ml_Mo_124 mv_Mo_idle np_Mo_idle ⟨_, rfl⟩ (by decide) rfl (by decide) rfl (Nat.le_of_ble_eq_true rfl) (Nat.le_of_ble_eq_true rfl) rk_Mo_run_Mo_idle rfl (m_idle (x := 3)) zz_0 ?_
        refine px_iconst (v := 0) dx_Mo_run_86 rfl ?_
        exact px_iret dx_Mo_run_87 rfl (by (have e := hE2 c_76); exact hp0 _ _ ⟨by rw [e]; exact (if_neg c_76).symm ▸ rfl, by rw [e]; exact hcd, by rw [e]; exact (if_neg c_76).symm ▸ hX.id (by decide)⟩)
      · refine px_iload_n dx_Mo_run_79 rfl ?_
        exact px_iret dx_Mo_run_80 rfl (by (have e0 : c = 0 := c_76); (have e := hE e0); (have e2 : rnA F (n - did) A1 = (0, 0, A1) := (by first | (rw [show n - did = 0 by omega]; rfl) | exact rnA_0 (by assumption) _ | exact absurd e0 (by assumption))); (rw [e2] at e); exact hp0 _ _ ⟨by rw [e]; rfl, by rw [e]; exact hcd.trans (by rw [e0]), by rw [e]; exact hX⟩)
    · refine px_aload_n dx_Mo_run_43 rfl ?_
      refine px_getI dx_Mo_run_44 fl_Mo_127 rfl (by decide) rfl ?_
      refine px_eqi (y := nI (A1.1 0 0)) hX.2.2.2.1.1 ?_
      refine px_iconst (v := 1) dx_Mo_run_47 rfl ?_
      refine px_icmp_neN (a := A1.1 0 0) (b := 1) dx_Mo_run_48 (by omega) (by omega) (fun c_48 => ?_) (fun c_48 => ?_)
      · refine px_aload_n dx_Mo_run_72 rfl ?_
        refine px_getI dx_Mo_run_73 fl_Mo_86 rfl (by decide) rfl ?_
        refine px_eqi (y := nI (c)) hcd ?_
        refine px_if_neN (a := c) dx_Mo_run_76 (by omega) (fun c_76 => ?_) (fun c_76 => ?_)
        · refine px_aload_n dx_Mo_run_81 rfl ?_
          refine px_iconst (v := 3) dx_Mo_run_82 rfl ?_
          refine px_cV (Y := yy_Mo_run) (Yc := yy_Mo_idle) (b := 717) (As := [.int (3)]) dx_Mo_run_83 ml_Mo_124 mv_Mo_idle np_Mo_idle ⟨_, rfl⟩ (by decide) rfl (by decide) rfl (Nat.le_of_ble_eq_true rfl) (Nat.le_of_ble_eq_true rfl) rk_Mo_run_Mo_idle rfl (m_idle (x := 3)) zz_0 ?_
          refine px_iconst (v := 0) dx_Mo_run_86 rfl ?_
          exact px_iret dx_Mo_run_87 rfl (by (have e := hE2 c_76); exact hp0 _ _ ⟨by rw [e]; exact (if_neg c_76).symm ▸ rfl, by rw [e]; exact hcd, by rw [e]; exact (if_neg c_76).symm ▸ hX.id (by decide)⟩)
        · refine px_iload_n dx_Mo_run_79 rfl ?_
          exact px_iret dx_Mo_run_80 rfl (by (have e0 : c = 0 := c_76); (have e := hE e0); (have e2 : rnA F (n - did) A1 = (0, 0, A1) := (by first | (rw [show n - did = 0 by omega]; rfl) | exact rnA_0 (by assumption) _ | exact absurd e0 (by assumption))); (rw [e2] at e); exact hp0 _ _ ⟨by rw [e]; rfl, by rw [e]; exact hcd.trans (by rw [e0]), by rw [e]; exact hX⟩)
      · refine px_aload_n dx_Mo_run_51 rfl ?_
        refine px_getI dx_Mo_run_52 fl_Mo_86 rfl (by decide) rfl ?_
        refine px_eqi (y := nI (c)) hcd ?_
        refine px_if_neN (a := c) dx_Mo_run_55 (by omega) (fun c_55 => ?_) (fun c_55 => ?_)
        · refine px_aload_n dx_Mo_run_72 rfl ?_
          refine px_getI dx_Mo_run_73 fl_Mo_86 rfl (by decide) rfl ?_
          refine px_eqi (y := nI (c)) hcd ?_
          refine px_if_neN (a := c) dx_Mo_run_76 (by omega) (fun c_76 => ?_) (fun c_76 => ?_)
          · refine px_aload_n dx_Mo_run_81 rfl ?_
            refine px_iconst (v := 3) dx_Mo_run_82 rfl ?_
            refine px_cV (Y := yy_Mo_run) (Yc := yy_Mo_idle) (b := 717) (As := [.int (3)]) dx_Mo_run_83 ml_Mo_124 mv_Mo_idle np_Mo_idle ⟨_, rfl⟩ (by decide) rfl (by decide) rfl (Nat.le_of_ble_eq_true rfl) (Nat.le_of_ble_eq_true rfl) rk_Mo_run_Mo_idle rfl (m_idle (x := 3)) zz_0 ?_
            refine px_iconst (v := 0) dx_Mo_run_86 rfl ?_
            exact px_iret dx_Mo_run_87 rfl (by (have e := hE2 c_76); exact hp0 _ _ ⟨by rw [e]; exact (if_neg c_76).symm ▸ rfl, by rw [e]; exact hcd, by rw [e]; exact (if_neg c_76).symm ▸ hX.id (by decide)⟩)
          · refine px_iload_n dx_Mo_run_79 rfl ?_
            exact px_iret dx_Mo_run_80 rfl (by (have e0 : c = 0 := c_76); (have e := hE e0); (have e2 : rnA F (n - did) A1 = (0, 0, A1) := (by first | (rw [show n - did = 0 by omega]; rfl) | exact rnA_0 (by assumption) _ | exact absurd e0 (by assumption))); (rw [e2] at e); exact hp0 _ _ ⟨by rw [e]; rfl, by rw [e]; exact hcd.trans (by rw [e0]), by rw [e]; exact hX⟩)
        · obtain ⟨hs, hnx⟩ := hI A1 (hIA c_55) c_48
          obtain ⟨Bg, bf, hbf⟩ := hs.2.2.2.1
          refine px_aload_n dx_Mo_run_58 rfl ?_
          refine px_aload_n dx_Mo_run_59 rfl ?_
          refine px_cVR (Y := yy_Mo_run) (Yc := yy_Mo_one) (b := 717) (As := []) dx_Mo_run_60 ml_Mo_375 mv_Mo_one np_Mo_one ⟨_, rfl⟩ (by decide) rfl (by decide) rfl (Nat.le_of_ble_eq_true rfl) (Nat.le_of_ble_eq_true rfl) rk_Mo_run_Mo_one rfl (m_one (A := A1) (Bg := Bg) (bf := bf) (m := cmA A1) (p := cpA A1) hX hs.1 hs.2.1 hs.2.2.1 rfl rfl hbf hs.2.2.2.2.1 hs.2.2.2.2.2.1 hs.2.2.2.2.2.2) zz_0 (fun r_60 τ1 h_60 => ?_)
          obtain ⟨rfl, hX2⟩ := h_60
          have ho4 := onA_le F A1 (cmA A1) (cpA A1)
          refine px_putI dx_Mo_run_63 fl_Mo_86 rfl (by decide) rfl ?_
          refine px_iinc (v := (nI (did + 1))) (lv' := [(2, .int (nI (did + 1))), (0, .ref (717)), (1, .int (nI (n)))]) dx_Mo_run_66 rfl (nI_1 _) (by decide) rfl ?_
          refine px_goto dx_Mo_run_69 ?_
          refine px_sub [1, 2, 0] rfl ?_
          refine ih (did + 1) _ _ (onA F A1 (cmA A1) (cpA A1)).1 (by omega) (by omega) hX2.c gI_s ho4 (fun q => hnx q) (fun q => ?_) (fun q => ?_)
          · rw [hE c_55, show n - did = (n - (did + 1)) + 1 by omega, rnA_s c_48 q]
            show (_, _) = (_, _)
            rw [Nat.add_assoc, Nat.add_comm 1]
          · rw [hE c_55, show n - did = (n - (did + 1)) + 1 by omega, rnA_e c_48 q]
set_option maxRecDepth 100000 in
set_option maxHeartbeats 1000000 in
theorem m_run {l : Launch} {G : fr_G} {σ : fr_S} {F : Nat → Nat → Nat} {A : VM} {σ0 : fr_S} {I : VM → Prop} (hI : ∀ A, I A → A.1 0 0 = 1 → ST F A ∧ ((onA F A (cmA A) (cpA A)).1 = 0 → I (onA F A (cmA A) (cpA A)).2)) (hIA : I A) (hX : MX σ0 σ F A) {x : Int32} : CR l G yy_Mo_run rm_Mo_run [.ref (717), .int (x)] σ (fun r0 σ' => r0 = some (.int (rnX F A x).2.1) ∧ gI σ' 717 0 = nI (rnX F A x).1 ∧ MX σ0 σ' F (rnX F A x).2.2) := by
  intro Post hp0
  show PX l G yy_Mo_run rm_Mo_run _ false 742 0 0 0 [(0, .ref (717)), (1, .int (x))] [] σ
  have b3 := hX.2.2.2.2.1.1
  refine px_aload_n dx_Mo_run_0 rfl ?_
  refine px_iconst (v := 0) dx_Mo_run_1 rfl ?_
  refine px_putI dx_Mo_run_2 fl_Mo_86 rfl (by decide) rfl ?_
  refine px_iload_n dx_Mo_run_5 rfl ?_
  refine px_if_lt dx_Mo_run_6 (fun c_6 => ?_) (fun c_6 => ?_)
  · refine px_aload_n dx_Mo_run_16 rfl ?_
    refine px_iconst (v := 1) dx_Mo_run_17 rfl ?_
    refine px_cV (Y := yy_Mo_run) (Yc := yy_Mo_fail) (b := 717) (As := [.int (1)]) dx_Mo_run_18 ml_Mo_147 mv_Mo_fail np_Mo_fail ⟨_, rfl⟩ (by decide) rfl (by decide) rfl (Nat.le_of_ble_eq_true rfl) (Nat.le_of_ble_eq_true rfl) rk_Mo_run_Mo_fail rfl (m_fail (x := 1)) zz_0 ?_
    exact px_iret dx_Mo_run_21 rfl (by (have eX : rnX F A x = (1, 0, A) := by (unfold rnX; rw [if_pos (by first | exact Or.inl c_6 | exact Or.inr (ge_lt c_13))])); exact hp0 _ _ ⟨by rw [eX], by rw [eX]; exact gI_s, by rw [eX]; exact hX.c.c⟩)
  · refine px_iload_n dx_Mo_run_9 rfl ?_
    refine px_sipush (v := 200) dx_Mo_run_10 rfl ?_
    refine px_icmp_le dx_Mo_run_13 (fun c_13 => ?_) (fun c_13 => ?_)
    · refine px_aload_n dx_Mo_run_22 rfl ?_
      refine px_getI dx_Mo_run_23 fl_Mo_127 rfl (by decide) rfl ?_
      refine px_eqi (y := nI (A.1 0 0)) ((gI_n (Or.inr (by decide))).trans hX.2.2.2.1.1) ?_
      refine px_iconst (v := 1) dx_Mo_run_26 rfl ?_
      refine px_icmp_eqN (a := A.1 0 0) (b := 1) dx_Mo_run_27 (by omega) (by omega) (fun c_27 => ?_) (fun c_27 => ?_)
      · have hxn : x = nI x.toNatClampNeg := nn_clamp c_6
        have hx2 : x.toNatClampNeg ≤ 200 := le200 c_6 c_13
        have eX : rnX F A x = (if (rnA F x.toNatClampNeg A).2.1 = 0 then (0, nI (rnA F x.toNatClampNeg A).1, (rnA F x.toNatClampNeg A).2.2) else ((rnA F x.toNatClampNeg A).2.1, 0, idA (rnA F x.toNatClampNeg A).2.2 3)) := by (unfold rnX; rw [if_neg (fun q => q.elim c_6 (not_lt_ge c_13)), if_neg (fun q => q c_27)])
        refine px_iconst (v := 0) dx_Mo_run_36 rfl ?_
        refine px_istore_n (lv' := [(2, .int (0)), (0, .ref (717)), (1, .int (x))]) dx_Mo_run_37 (by decide) rfl ?_
        refine px_sub [1, 2, 0] rfl ?_
        refine px_eqv (lv2 := [(0, .ref 717), (1, .int (nI x.toNatClampNeg)), (2, .int (nI 0))]) (by rw [← hxn]; rfl) ?_
        refine m_run_lp (σ := σ) (A := A) (σ0 := σ0) hI hx2 (fun r σ' h => hp0 r σ' ?_) (x.toNatClampNeg + 1) 0 _ A 0 (by omega) (Nat.zero_le _) hX.c gI_s (Nat.zero_le _) (fun _ => hIA) (fun _ => ?_) (fun q => absurd rfl q)
        · obtain ⟨h1, h2, h3⟩ := h
          rw [eX]
          by_cases q : (rnA F x.toNatClampNeg A).2.1 = 0
          · rw [if_pos q] at h1 h3 ⊢
            exact ⟨h1, by rw [h2, q], h3⟩
          · rw [if_neg q] at h1 h3 ⊢
            exact ⟨h1, h2, h3⟩
        · show _ = (_, _)
          rw [Nat.zero_add, Nat.sub_zero]
      · refine px_aload_n dx_Mo_run_30 rfl ?_
        refine px_iconst (v := 2) dx_Mo_run_31 rfl ?_
        refine px_cV (Y := yy_Mo_run) (Yc := yy_Mo_fail) (b := 717) (As := [.int (2)]) dx_Mo_run_32 ml_Mo_147 mv_Mo_fail np_Mo_fail ⟨_, rfl⟩ (by decide) rfl (by decide) rfl (Nat.le_of_ble_eq_true rfl) (Nat.le_of_ble_eq_true rfl) rk_Mo_run_Mo_fail rfl (m_fail (x := 2)) zz_0 ?_
        exact px_iret dx_Mo_run_35 rfl (by (have eX : rnX F A x = (2, 0, A) := by (unfold rnX; rw [if_neg (fun q => q.elim c_6 (not_lt_ge c_13)), if_pos c_27])); exact hp0 _ _ ⟨by rw [eX], by rw [eX]; exact gI_s, by rw [eX]; exact hX.c.c⟩)
    · refine px_aload_n dx_Mo_run_16 rfl ?_
      refine px_iconst (v := 1) dx_Mo_run_17 rfl ?_
      refine px_cV (Y := yy_Mo_run) (Yc := yy_Mo_fail) (b := 717) (As := [.int (1)]) dx_Mo_run_18 ml_Mo_147 mv_Mo_fail np_Mo_fail ⟨_, rfl⟩ (by decide) rfl (by decide) rfl (Nat.le_of_ble_eq_true rfl) (Nat.le_of_ble_eq_true rfl) rk_Mo_run_Mo_fail rfl (m_fail (x := 1)) zz_0 ?_
      exact px_iret dx_Mo_run_21 rfl (by (have eX : rnX F A x = (1, 0, A) := by (unfold rnX; rw [if_pos (by first | exact Or.inl c_6 | exact Or.inr (ge_lt c_13))])); exact hp0 _ _ ⟨by rw [eX], by rw [eX]; exact gI_s, by rw [eX]; exact hX.c.c⟩)

