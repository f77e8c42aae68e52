/-! the reference: a method is verified -/
/-- of method m's verification alone -/
def VO (σ σ' : fr_S) (m : Nat) : Prop := Ag [717, 728, 730, 731, 732] σ σ' ∧ (∀ k, k ≠ 20 → k ≠ 21 → gI σ' 717 k = gI σ 717 k) ∧ (∀ k, k ≠ m → gI σ' 728 k = gI σ 728 k) ∧ SP m 730 σ σ' ∧ ∀ j, (j < 400 * m ∨ 400 * m + 400 ≤ j) → gI σ' 731 j = gI σ 731 j
theorem VO.rf {σ : fr_S} {m : Nat} : VO σ σ m := ⟨Ag.rf, fun _ _ _ => rfl, fun _ _ => rfl, fun _ _ => rfl, fun _ _ => rfl⟩
theorem VO.tr {a b c : fr_S} {m : Nat} (h : VO a b m) (h2 : VO b c m) : VO a c m := ⟨h.1.tr h2.1, fun k hk hl => (h2.2.1 k hk hl).trans (h.2.1 k hk hl), fun k hk => (h2.2.2.1 k hk).trans (h.2.2.1 k hk), fun j hj => (h2.2.2.2.1 j hj).trans (h.2.2.2.1 j hj), fun j hj => (h2.2.2.2.2 j hj).trans (h.2.2.2.2 j hj)⟩
theorem FO.vo {a b : fr_S} {m : Nat} (h : FO a b m) : VO a b m := ⟨h.1.mono (by decide), fun k hk _ => h.2.1 k hk, fun k _ => h.1.1 728 (by decide) k, h.2.2.1, h.2.2.2⟩
theorem VO.pi {a b : fr_S} {F : Nat → Nat → Nat} {m : Nat} {T : Nat → Nat → Nat} {N : Nat → Nat} (h : PI a b F m T N) : VO a b m := by
  obtain ⟨h1, h2, h3, h4, h5, h6⟩ := h
  exact ⟨h5.mono (by decide), fun k _ hk => h6 k hk, fun k _ => h5.1 728 (by decide) k, fun j _ => h5.1 730 (by decide) j, fun j _ => h5.1 731 (by decide) j⟩
/-- a cell of the method's own is written -/
theorem VO.w {a b : fr_S} {m o k : Nat} {v : Int32} (h : VO a b m) (hc : (o = 717 ∧ (k = 20 ∨ k = 21)) ∨ (o = 728 ∧ k = m) ∨ (o = 730 ∧ 40 * m ≤ k ∧ k < 40 * m + 40) ∨ (o = 731 ∧ 400 * m ≤ k ∧ k < 400 * m + 400) ∨ o = 732) : VO a (sI b o k v) m := by
  refine ⟨ag_sI h.1 ?_, fun j hj hl => ?_, fun j hj => ?_, fun j hj => ?_, fun j hj => ?_⟩
  · simp only [List.mem_cons, List.not_mem_nil, or_false]
    omega
  · rw [gI_n (by omega)]
    exact h.2.1 j hj hl
  · rw [gI_n (by omega)]
    exact h.2.2.1 j hj
  · rw [gI_n (by omega)]
    exact h.2.2.2.1 j hj
  · rw [gI_n (by omega)]
    exact h.2.2.2.2 j hj
theorem VO.ag {a b : fr_S} {m : Nat} {S : List Nat} (h : Ag S a b) (hs : ∀ o ∈ S, o = 732) : VO a b m := by
  have q : ∀ o, o ≠ 732 → o ∉ S := fun o ho hm => ho (hs o hm)
  exact ⟨h.mono (fun o ho => by rw [hs o ho]; decide), fun k _ _ => h.1 717 (q _ (by decide)) k, fun k _ => h.1 728 (q _ (by decide)) k, fun j _ => h.1 730 (q _ (by decide)) j, fun j _ => h.1 731 (q _ (by decide)) j⟩
theorem v_0_c {F : Nat → Nat → Nat} {m : Nat} {c : Bool} : flS (fun _ _ => 0, fun _ => false, c) 0 (bgN F m (F 3 m)) = v_0 F m := by
  unfold v_0 flS
  simp
theorem bgN_ok {F : Nat → Nat → Nat} (hW : FW F) {m : Nat} (hQ : pwF F m ≤ F 5 m) : ∀ k, k ≤ F 3 m → WP (bgN F m k) ∧ (∀ r, bgN F m k r ≤ 6)
  | 0, _ => ⟨fun _ _ => ⟨Nat.zero_le _, ⟨fun q => by simp [bgN] at q, fun q => by simp [bgN] at q⟩⟩, fun _ => Nat.zero_le _⟩
  | k + 1, h => by
    obtain ⟨a, b⟩ := bgN_ok hW hQ k (by omega)
    have h5 := hW.2.2.2.2.2.1 m
    have hm := agK_mono F m (k + 1) (F 3 m) h
    rw [agK_s] at hm
    have e : agK F m (F 3 m) = pwF F m := rfl
    exact ⟨stT_WP a (hW.2.2.2.2.1 _) (by omega), stN_le6 b⟩
theorem RC.vo {σ : fr_S} {m : Nat} {Rc : Nat → Bool} (h : RC σ m Rc) {σ' : fr_S} (e : ∀ j, gI σ' 730 j = gI σ 730 j) : RC σ' m Rc := fun p hp => by rw [e]; exact h p hp
theorem TY.vo {σ : fr_S} {m : Nat} {T : Nat → Nat → Nat} (h : TY σ m T) {σ' : fr_S} (e : ∀ j, gI σ' 731 j = gI σ 731 j) : TY σ' m T := fun p hp r hr => by rw [e]; exact h p hp r hr

set_option maxRecDepth 100000 in
set_option maxHeartbeats 4000000 in
theorem m_begin_l4 {l : Launch} {G : fr_G} {σ : fr_S} (hM : MR σ) {F : Nat → Nat → Nat} (hF : MF σ F) (hW : FW F) {m : Nat} (hm : m < 4) (hQ : pwF F m ≤ F 5 m) {c : Bool} (hC : gI σ 717 20 = b2i c) {Post : Option Value → fr_S → Prop} (hq : ∀ σ', MR σ' → VR σ' m (v_0 F m) → VO σ σ' m → Post none σ') : ∀ (d : Nat) (k : Nat) (σ1 : fr_S), F 3 m - k < d → k ≤ F 3 m → VO σ σ1 m → RC σ1 m (fun _ => false) → TY σ1 m (fun _ _ => 0) → gI σ1 717 20 = b2i c → NW σ1 (bgN F m k) → PX l G yy_Mo_begin rm_Mo_begin (QR G false 742 0 0 Post) false 742 0 0 94 [(0, .ref (717)), (1, .int (nI (m))), (2, .int (nI (F 5 m - pwF F m + agK F m k))), (3, .int (nI (k)))] [] (σ1) := by
  intro d
  induction d with
  | zero => intro k σ1 hd; exact absurd hd (Nat.not_lt_zero _)
  | succ d ih =>
    intro k σ1 hd hk hA hR hT hC1 hN
    have hM1 := hM.ag hA.1
    have hF1 := hF.ag hA.1 (fun o h1 h2 => by simp; omega)
    have h5 := hW.2.2.2.2.2.1 m
    have h3 := hW.2.2.2.1 m
    refine px_iload_n dx_Mo_begin_94 rfl ?_
    refine px_aload_n dx_Mo_begin_95 rfl ?_
    refine px_getR (r := 722) dx_Mo_begin_96 fl_Mo_26 rfl (by decide) rfl (hM1 9) ?_
    refine px_iload_n dx_Mo_begin_99 rfl ?_
    refine px_ialdN (j := m) dx_Mo_begin_100 rfl (by decide) (by omega) ?_
    refine px_eqi (y := nI (F 3 m)) (hF1.2.2.2.1 m (by omega)) ?_
    refine px_icmp_geN (a := k) (b := F 3 m) dx_Mo_begin_101 (by first | omega | (have := agK_le F m k; omega)) (by first | omega | (have := agK_le F m k; omega)) (fun c_101 => ?_) (fun c_101 => ?_)
    · obtain rfl : k = F 3 m := by omega
      refine px_aload_n dx_Mo_begin_141 rfl ?_
      refine px_iload_n dx_Mo_begin_142 rfl ?_
      refine px_iconst (v := 0) dx_Mo_begin_143 rfl ?_
      refine px_cVR (Y := yy_Mo_begin) (Yc := yy_Mo_flow) (b := 717) (As := [.int (nI (m)), .int (0)]) dx_Mo_begin_144 ml_Mo_277 mv_Mo_flow np_Mo_flow ⟨_, rfl⟩ (by decide) rfl (by decide) rfl (Nat.le_of_ble_eq_true rfl) (Nat.le_of_ble_eq_true rfl) rk_Mo_begin_Mo_flow rfl (m_flow (p := 0) (v := (fun _ _ => 0, fun _ => false, c)) hM1 ⟨hT, hR, hC1⟩ hN hm (by decide) (bgN_ok hW hQ _ (Nat.le_refl _)).1 (fun q => absurd q Bool.false_ne_true) (fun _ _ => Nat.zero_le _) (bgN_ok hW hQ _ (Nat.le_refl _)).2) zz_0 (fun r_144 τ2 h_144 => ?_)
      obtain ⟨rfl, hM9, hV9, hN9, hO9⟩ := h_144
      exact px_vret dx_Mo_begin_147 rfl (by exact hq τ2 hM9 (by rw [← v_0_c (c := c)]; exact hV9) (hA.tr hO9.vo))
    · refine px_aload_n dx_Mo_begin_104 rfl ?_
      refine px_iload_n dx_Mo_begin_105 rfl ?_
      refine px_aload_n dx_Mo_begin_106 rfl ?_
      refine px_getR (r := 723) dx_Mo_begin_107 fl_Mo_29 rfl (by decide) rfl (hM1 10) ?_
      refine px_iconst (v := 3) dx_Mo_begin_110 rfl ?_
      refine px_iload_n dx_Mo_begin_111 rfl ?_
      refine px_imulN (a := 3) (b := m) dx_Mo_begin_112 ?_
      refine px_iload_n dx_Mo_begin_113 rfl ?_
      refine px_iaddN (a := 3 * m) (b := k) dx_Mo_begin_114 ?_
      refine px_ialdN (j := (3 * m) + k) dx_Mo_begin_115 rfl (by decide) (by omega) ?_
      refine px_eqi (y := nI (F 4 ((3 * m) + k))) (hF1.2.2.2.2.1 ((3 * m) + k) (by omega)) ?_
      refine px_cVR (Y := yy_Mo_begin) (Yc := yy_Mo_set) (b := 717) (As := [.int (nI (F 5 m - pwF F m + agK F m k)), .int (nI (F 4 ((3 * m) + k)))]) dx_Mo_begin_116 ml_Mo_263 mv_Mo_set np_Mo_set ⟨_, rfl⟩ (by decide) rfl (by decide) rfl (Nat.le_of_ble_eq_true rfl) (Nat.le_of_ble_eq_true rfl) rk_Mo_begin_Mo_set rfl (m_set_p hM1 hN (bgN_ok hW hQ k (by omega)).1 (hW.2.2.2.2.1 _) (by have hx := agK_mono F m (k + 1) (F 3 m) (by omega); rw [agK_s] at hx; have e : agK F m (F 3 m) = pwF F m := rfl; omega)) zz_0 (fun r_116 τ1 h_116 => ?_)
      obtain ⟨rfl, hA2, hN2⟩ := h_116
      have hA3 : VO σ τ1 m := hA.tr (VO.ag hA2 (by decide))
      have hM1 := hM.ag hA3.1
      have hF1 := hF.ag hA3.1 (fun o h1 h2 => by simp; omega)
      refine px_iload_n dx_Mo_begin_119 rfl ?_
      refine px_aload_n dx_Mo_begin_120 rfl ?_
      refine px_getR (r := 723) dx_Mo_begin_121 fl_Mo_29 rfl (by decide) rfl (hM1 10) ?_
      refine px_iconst (v := 3) dx_Mo_begin_124 rfl ?_
      refine px_iload_n dx_Mo_begin_125 rfl ?_
      refine px_imulN (a := 3) (b := m) dx_Mo_begin_126 ?_
      refine px_iload_n dx_Mo_begin_127 rfl ?_
      refine px_iaddN (a := 3 * m) (b := k) dx_Mo_begin_128 ?_
      refine px_ialdN (j := (3 * m) + k) dx_Mo_begin_129 rfl (by decide) (by omega) ?_
      refine px_eqi (y := nI (F 4 ((3 * m) + k))) (hF1.2.2.2.2.1 ((3 * m) + k) (by omega)) ?_
      refine px_cS (Y := yy_Mo_begin) (Yc := yy_Mo_words) (As := [.int (nI (F 4 ((3 * m) + k)))]) dx_Mo_begin_130 ml_Mo_99 ms_Mo_words np_Mo_words rfl (Nat.le_of_ble_eq_true rfl) (Nat.le_of_ble_eq_true rfl) rk_Mo_begin_Mo_words rfl (m_words (Nat.lt_of_le_of_lt (hW.2.2.2.2.1 _) (by decide))) zz_0 ?_
      refine px_iaddN (a := F 5 m - pwF F m + agK F m k) (b := wdt (F 4 ((3 * m) + k))) dx_Mo_begin_133 ?_
      refine px_istore_n (lv' := [(2, .int (nI ((F 5 m - pwF F m + agK F m k) + (wdt (F 4 ((3 * m) + k)))))), (0, .ref (717)), (1, .int (nI (m))), (3, .int (nI (k)))]) dx_Mo_begin_134 (by decide) rfl ?_
      refine px_iinc (v := (nI (k + 1))) (lv' := [(3, .int (nI (k + 1))), (2, .int (nI ((F 5 m - pwF F m + agK F m k) + (wdt (F 4 ((3 * m) + k)))))), (0, .ref (717)), (1, .int (nI (m)))]) dx_Mo_begin_135 rfl (nI_1 _) (by decide) rfl ?_
      refine px_goto dx_Mo_begin_138 ?_
      refine px_sub [2, 3, 1, 0] rfl ?_
      rw [show (F 5 m - pwF F m + agK F m k) + (wdt (F 4 (3 * m + k))) = F 5 m - pwF F m + agK F m (k + 1) by rw [agK_s, Nat.add_assoc]]
      exact ih (k + 1) τ1 (by omega) (by omega) hA3 (hR.vo fun j => hA2.1 730 (by decide) j) (hT.vo fun j => hA2.1 731 (by decide) j) ((hA2.1 717 (by decide) 20).trans hC1) hN2
set_option maxRecDepth 100000 in
set_option maxHeartbeats 4000000 in
theorem m_begin_l3 {l : Launch} {G : fr_G} {σ : fr_S} (hM : MR σ) {F : Nat → Nat → Nat} (hF : MF σ F) (hW : FW F) {m : Nat} (hm : m < 4) (hQ : pwF F m ≤ F 5 m) {c : Bool} (hC : gI σ 717 20 = b2i c) {Post : Option Value → fr_S → Prop} (hq : ∀ σ', MR σ' → VR σ' m (v_0 F m) → VO σ σ' m → Post none σ') : ∀ (d : Nat) (i : Nat) (σ1 : fr_S), 10 - i < d → i ≤ 10 → VO σ σ1 m → RC σ1 m (fun _ => false) → TY σ1 m (fun _ _ => 0) → (∀ r, r < 10 → r < i → gI σ1 732 r = 0) → gI σ1 717 20 = b2i c → PX l G yy_Mo_begin rm_Mo_begin (QR G false 742 0 0 Post) false 742 0 0 60 [(0, .ref (717)), (1, .int (nI (m))), (2, .int (nI (i)))] [] (σ1) := by
  intro d
  induction d with
  | zero => intro i σ1 hd; exact absurd hd (Nat.not_lt_zero _)
  | succ d ih =>
    intro i σ1 hd hi hA hR hT hZ hC1
    have hM1 := hM.ag hA.1
    have hF1 := hF.ag hA.1 (fun o h1 h2 => by simp; omega)
    have h5 := hW.2.2.2.2.2.1 m
    have h3 := hW.2.2.2.1 m
    refine px_iload_n dx_Mo_begin_60 rfl ?_
    refine px_bipush (v := 10) dx_Mo_begin_61 rfl ?_
    refine px_icmp_geN (a := i) (b := 10) dx_Mo_begin_63 (by omega) (by omega) (fun c_63 => ?_) (fun c_63 => ?_)
    · refine px_aload_n dx_Mo_begin_79 rfl ?_
      refine px_getR (r := 724) dx_Mo_begin_80 fl_Mo_32 rfl (by decide) rfl (hM1 11) ?_
      refine px_iload_n dx_Mo_begin_83 rfl ?_
      refine px_ialdN (j := m) dx_Mo_begin_84 rfl (by decide) (by omega) ?_
      refine px_eqi (y := nI (F 5 m)) (hF1.2.2.2.2.2.1 m (by omega)) ?_
      refine px_aload_n dx_Mo_begin_85 rfl ?_
      refine px_iload_n dx_Mo_begin_86 rfl ?_
      refine px_cV (Y := yy_Mo_begin) (Yc := yy_Mo_paramWords) (b := 717) (As := [.int (nI (m))]) dx_Mo_begin_87 ml_Mo_107 mv_Mo_paramWords np_Mo_paramWords ⟨_, rfl⟩ (by decide) rfl (by decide) rfl (Nat.le_of_ble_eq_true rfl) (Nat.le_of_ble_eq_true rfl) rk_Mo_begin_Mo_paramWords rfl (m_paramWords (pt := fun k => F 4 (3 * m + k)) hM1 (by omega) (hW.2.2.2.1 _) (hF1.2.2.2.1 _ (by omega)) (fun k hk => hF1.2.2.2.2.1 _ (by omega)) (fun k => Nat.lt_of_le_of_lt (hW.2.2.2.2.1 _) (by decide))) zz_0 ?_
      refine px_isubN (a := F 5 m) (b := pwF F m) dx_Mo_begin_90 (by omega) ?_
      refine px_istore_n (lv' := [(2, .int (nI ((F 5 m) - (pwF F m)))), (0, .ref (717)), (1, .int (nI (m)))]) dx_Mo_begin_91 (by decide) rfl ?_
      refine px_iconst (v := 0) dx_Mo_begin_92 rfl ?_
      refine px_istore_n (lv' := [(3, .int (0)), (2, .int (nI ((F 5 m) - (pwF F m)))), (0, .ref (717)), (1, .int (nI (m)))]) dx_Mo_begin_93 (by decide) rfl ?_
      refine px_sub [2, 3, 1, 0] rfl ?_
      exact m_begin_l4 (σ := σ) hM hF hW hm hQ hC hq (F 3 m + 1) 0 σ1 (by omega) (by omega) hA hR hT hC1 (fun r hr => (hZ r hr (by omega)).trans rfl)
    · refine px_aload_n dx_Mo_begin_66 rfl ?_
      refine px_getR (r := 732) dx_Mo_begin_67 fl_Mo_57 rfl (by decide) rfl (hM1 19) ?_
      refine px_iload_n dx_Mo_begin_70 rfl ?_
      refine px_iconst (v := 0) dx_Mo_begin_71 rfl ?_
      refine px_iastN (j := i) dx_Mo_begin_72 rfl (by decide) (by omega) ?_
      refine px_iinc (v := (nI (i + 1))) (lv' := [(2, .int (nI (i + 1))), (0, .ref (717)), (1, .int (nI (m)))]) dx_Mo_begin_73 rfl (nI_1 _) (by decide) rfl ?_
      refine px_goto dx_Mo_begin_76 ?_
      refine px_sub [1, 2, 0] rfl ?_
      exact ih (i + 1) (sI σ1 732 i 0) (by omega) (by omega) (hA.w (by omega)) (hR.vo fun j => gI_n (Or.inl (by decide))) (hT.vo fun j => gI_n (Or.inl (by decide))) (fun r hr hi => if h : r = i then (by subst h; rw [gI_s]) else (by rw [gI_n (Or.inr h)]; exact hZ r hr (by omega))) ((gI_n (Or.inl (by decide))).trans hC1)
set_option maxRecDepth 100000 in
set_option maxHeartbeats 4000000 in
theorem m_begin_l2 {l : Launch} {G : fr_G} {σ : fr_S} (hM : MR σ) {F : Nat → Nat → Nat} (hF : MF σ F) (hW : FW F) {m : Nat} (hm : m < 4) (hQ : pwF F m ≤ F 5 m) {c : Bool} (hC : gI σ 717 20 = b2i c) {Post : Option Value → fr_S → Prop} (hq : ∀ σ', MR σ' → VR σ' m (v_0 F m) → VO σ σ' m → Post none σ') : ∀ (d : Nat) (i : Nat) (σ1 : fr_S), 400 - i < d → i ≤ 400 → VO σ σ1 m → RC σ1 m (fun _ => false) → (∀ r, r < 400 → r < i → gI σ1 731 (400 * m + r) = 0) → gI σ1 717 20 = b2i c → PX l G yy_Mo_begin rm_Mo_begin (QR G false 742 0 0 Post) false 742 0 0 32 [(0, .ref (717)), (1, .int (nI (m))), (2, .int (nI (400 * m + i)))] [] (σ1) := by
  intro d
  induction d with
  | zero => intro i σ1 hd; exact absurd hd (Nat.not_lt_zero _)
  | succ d ih =>
    intro i σ1 hd hi hA hR hZ hC1
    have hM1 := hM.ag hA.1
    have hF1 := hF.ag hA.1 (fun o h1 h2 => by simp; omega)
    have h5 := hW.2.2.2.2.2.1 m
    have h3 := hW.2.2.2.1 m
    refine px_iload_n dx_Mo_begin_32 rfl ?_
    refine px_sipush (v := 400) dx_Mo_begin_33 rfl ?_
    refine px_iload_n dx_Mo_begin_36 rfl ?_
    refine px_imulN (a := 400) (b := m) dx_Mo_begin_37 ?_
    refine px_sipush (v := 400) dx_Mo_begin_38 rfl ?_
    refine px_iaddN (a := 400 * m) (b := 400) dx_Mo_begin_41 ?_
    refine px_icmp_geN (a := 400 * m + i) (b := (400 * m) + 400) dx_Mo_begin_42 (by omega) (by omega) (fun c_42 => ?_) (fun c_42 => ?_)
    · refine px_iconst (v := 0) dx_Mo_begin_58 rfl ?_
      refine px_istore_n (lv' := [(2, .int (0)), (0, .ref (717)), (1, .int (nI (m)))]) dx_Mo_begin_59 (by decide) rfl ?_
      refine px_sub [1, 2, 0] rfl ?_
      exact m_begin_l3 (σ := σ) hM hF hW hm hQ hC hq 11 0 σ1 (by omega) (by omega) hA hR (fun p hp r hr => by (have e := hZ (10 * p + r) (by omega) (by omega); rw [show 400 * m + (10 * p + r) = 10 * (40 * m + p) + r by omega] at e; rw [e]; rfl)) (fun r _ h => absurd h (Nat.not_lt_zero _)) hC1
    · refine px_aload_n dx_Mo_begin_45 rfl ?_
      refine px_getR (r := 731) dx_Mo_begin_46 fl_Mo_54 rfl (by decide) rfl (hM1 18) ?_
      refine px_iload_n dx_Mo_begin_49 rfl ?_
      refine px_iconst (v := 0) dx_Mo_begin_50 rfl ?_
      refine px_iastN (j := 400 * m + i) dx_Mo_begin_51 rfl (by decide) (by omega) ?_
      refine px_iinc (v := (nI (400 * m + i + 1))) (lv' := [(2, .int (nI (400 * m + i + 1))), (0, .ref (717)), (1, .int (nI (m)))]) dx_Mo_begin_52 rfl (nI_1 _) (by decide) rfl ?_
      refine px_goto dx_Mo_begin_55 ?_
      refine px_sub [1, 2, 0] rfl ?_
      exact ih (i + 1) (sI σ1 731 (400 * m + i) 0) (by omega) (by omega) (hA.w (by omega)) (hR.vo fun j => gI_n (Or.inl (by decide))) (fun r hr hi => if h : r = i then (by subst h; rw [gI_s]) else (by rw [gI_n (Or.inr (by omega))]; exact hZ r hr (by omega))) ((gI_n (Or.inl (by decide))).trans hC1)
set_option maxRecDepth 100000 in
set_option maxHeartbeats 4000000 in
theorem m_begin_l1 {l : Launch} {G : fr_G} {σ : fr_S} (hM : MR σ) {F : Nat → Nat → Nat} (hF : MF σ F) (hW : FW F) {m : Nat} (hm : m < 4) (hQ : pwF F m ≤ F 5 m) {c : Bool} (hC : gI σ 717 20 = b2i c) {Post : Option Value → fr_S → Prop} (hq : ∀ σ', MR σ' → VR σ' m (v_0 F m) → VO σ σ' m → Post none σ') : ∀ (d : Nat) (i : Nat) (σ1 : fr_S), 40 - i < d → i ≤ 40 → VO σ σ1 m → (∀ r, r < 40 → r < i → gI σ1 730 (40 * m + r) = 0) → gI σ1 717 20 = b2i c → PX l G yy_Mo_begin rm_Mo_begin (QR G false 742 0 0 Post) false 742 0 0 2 [(0, .ref (717)), (1, .int (nI (m))), (2, .int (nI (i)))] [] (σ1) := by
  intro d
  induction d with
  | zero => intro i σ1 hd; exact absurd hd (Nat.not_lt_zero _)
  | succ d ih =>
    intro i σ1 hd hi hA hZ hC1
    have hM1 := hM.ag hA.1
    have hF1 := hF.ag hA.1 (fun o h1 h2 => by simp; omega)
    have h5 := hW.2.2.2.2.2.1 m
    have h3 := hW.2.2.2.1 m
    refine px_iload_n dx_Mo_begin_2 rfl ?_
    refine px_bipush (v := 40) dx_Mo_begin_3 rfl ?_
    refine px_icmp_geN (a := i) (b := 40) dx_Mo_begin_5 (by omega) (by omega) (fun c_5 => ?_) (fun c_5 => ?_)
    · refine px_sipush (v := 400) dx_Mo_begin_26 rfl ?_
      refine px_iload_n dx_Mo_begin_29 rfl ?_
      refine px_imulN (a := 400) (b := m) dx_Mo_begin_30 ?_
      refine px_istore_n (lv' := [(2, .int (nI (400 * m))), (0, .ref (717)), (1, .int (nI (m)))]) dx_Mo_begin_31 (by decide) rfl ?_
      refine px_sub [1, 2, 0] rfl ?_
      exact m_begin_l2 (σ := σ) hM hF hW hm hQ hC hq 401 0 σ1 (by omega) (by omega) hA (fun p hp => (hZ p hp (by omega)).trans rfl) (fun r _ h => absurd h (Nat.not_lt_zero _)) hC1
    · refine px_aload_n dx_Mo_begin_8 rfl ?_
      refine px_getR (r := 730) dx_Mo_begin_9 fl_Mo_51 rfl (by decide) rfl (hM1 17) ?_
      refine px_bipush (v := 40) dx_Mo_begin_12 rfl ?_
      refine px_iload_n dx_Mo_begin_14 rfl ?_
      refine px_imulN (a := 40) (b := m) dx_Mo_begin_15 ?_
      refine px_iload_n dx_Mo_begin_16 rfl ?_
      refine px_iaddN (a := 40 * m) (b := i) dx_Mo_begin_17 ?_
      refine px_iconst (v := 0) dx_Mo_begin_18 rfl ?_
      refine px_zastN (j := (40 * m) + i) dx_Mo_begin_19 rfl (by decide) (by omega) (by decide) ?_
      refine px_iinc (v := (nI (i + 1))) (lv' := [(2, .int (nI (i + 1))), (0, .ref (717)), (1, .int (nI (m)))]) dx_Mo_begin_20 rfl (nI_1 _) (by decide) rfl ?_
      refine px_goto dx_Mo_begin_23 ?_
      refine px_sub [1, 2, 0] rfl ?_
      exact ih (i + 1) (sI σ1 730 ((40 * m) + i) 0) (by omega) (by omega) (hA.w (by omega)) (fun r hr hi => if h : r = i then (by subst h; rw [gI_s]) else (by rw [gI_n (Or.inr (by omega))]; exact hZ r hr (by omega))) ((gI_n (Or.inl (by decide))).trans hC1)
set_option maxRecDepth 100000 in
set_option maxHeartbeats 4000000 in
theorem m_begin {l : Launch} {G : fr_G} {σ : fr_S} (hM : MR σ) {F : Nat → Nat → Nat} (hF : MF σ F) (hW : FW F) {m : Nat} (hm : m < 4) (hQ : pwF F m ≤ F 5 m) {c : Bool} (hC : gI σ 717 20 = b2i c) : CR l G yy_Mo_begin rm_Mo_begin [.ref (717), .int (nI (m))] σ (fun r0 σ' => r0 = none ∧ MR σ' ∧ VR σ' m (v_0 F m) ∧ VO σ σ' m) := by
  intro Post hp0
  show PX l G yy_Mo_begin rm_Mo_begin _ false 742 0 0 0 [(0, .ref (717)), (1, .int (nI (m)))] [] σ
  refine px_iconst (v := 0) dx_Mo_begin_0 rfl ?_
  refine px_istore_n (lv' := [(2, .int (0)), (0, .ref (717)), (1, .int (nI (m)))]) dx_Mo_begin_1 (by decide) rfl ?_
  refine px_sub [1, 2, 0] rfl ?_
  exact m_begin_l1 (σ := σ) hM hF hW hm hQ hC (fun σ' a b c => hp0 _ _ ⟨rfl, a, b, c⟩) 41 0 σ (by omega) (by omega) VO.rf (fun _ _ h => absurd h (Nat.not_lt_zero _)) hC
theorem VR.w {σ : fr_S} {m : Nat} {v : VS} (h : VR σ m v) {k : Nat} {x : Int32} : VR (sI σ 728 k x) m v := ⟨h.1.vo fun j => gI_n (Or.inl (by decide)), h.2.1.vo fun j => gI_n (Or.inl (by decide)), (gI_n (Or.inl (by decide))).trans h.2.2⟩
theorem frm_p {F : Nat → Nat → Nat} {Bg : Nat → Bool} {m p : Nat} {bf : Option Nat} (h : frmOK F Bg m p bf = true) : szO (opS (F 7 (40 * m + p))) ≠ 0 ∧ p + szO (opS (F 7 (40 * m + p))) ≤ F 6 m ∧ nmOK F m p = true ∧ kOK F m p bf = true ∧ (ens (opS (F 7 (40 * m + p))) = true ∨ mgN F Bg m (p + szO (opS (F 7 (40 * m + p)))) (decide (opS (F 7 (40 * m + p)) = 113)) = true) ∧ (brs (opS (F 7 (40 * m + p))) = false ∨ mgo F Bg m (tgO F m p) false = true) := by
  simp only [frmOK, Bool.and_eq_true, Bool.or_eq_true, decide_eq_true_eq, Bool.not_eq_true'] at h
  obtain ⟨⟨h1, h2⟩, ⟨h3, h4⟩, h5, h6⟩ := h
  exact ⟨h1, h2, h3, h4, h5, h6⟩
theorem mgN_p {F : Nat → Nat → Nat} {Bg : Nat → Bool} {m j : Nat} {b : Bool} (h : mgN F Bg m j b = true) : j < F 6 m ∧ Bg j = true := by
  simp only [mgN, Bool.and_eq_true, decide_eq_true_eq] at h
  exact ⟨h.1, h.2.1⟩
theorem mgo_p {F : Nat → Nat → Nat} {Bg : Nat → Bool} {m : Nat} {x : Int32} {b : Bool} (h : mgo F Bg m x b = true) : x.toNatClampNeg < F 6 m ∧ Bg x.toNatClampNeg = true ∧ x = nI x.toNatClampNeg := by
  simp only [mgo, Bool.and_eq_true, decide_eq_true_eq] at h
  obtain ⟨j, hj, e⟩ := nI_of h.1
  refine ⟨(mgN_p h.2).1, (mgN_p h.2).2, ?_⟩
  rw [e, nI_clamp hj]
theorem m_targetN {l : Launch} {G : fr_G} {σ : fr_S} (hM : MR σ) {F : Nat → Nat → Nat} (hF : MF σ F) (hW : FW F) {m p : Nat} (hm : m < 4) (hpl : p < 40) {Bg : Nat → Bool} (h : mgo F Bg m (tgO F m p) false = true) : CT l G yy_Mo_target rm_Mo_target [.ref 717, .int (nI m), .int (nI p)] σ (some (.int (nI (tgO F m p).toNatClampNeg))) σ := by
  have q := m_target (l := l) (G := G) hM hF hW hm hpl
  rw [(mgo_p h).2.2] at q
  exact q
theorem NW_ex (σ : fr_S) : ∃ N, NW σ N := ⟨fun r => (gI σ 732 r).toBitVec.toNat, fun r _ => by
  show _ = Int32.ofNat _
  apply Int32.toBitVec_inj.mp
  show (gI σ 732 r).toBitVec = BitVec.ofNat 32 (gI σ 732 r).toBitVec.toNat
  simp⟩

set_option maxRecDepth 100000 in
set_option maxHeartbeats 4000000 in
theorem m_step1_b {l : Launch} {G : fr_G} {σ0 σ : fr_S} {F : Nat → Nat → Nat} (hW : FW F) {m p : Nat} {bf : Option Nat} {v : VS} {Bg : Nat → Bool} {X : Int32} (hm : m < 4) (hpl : p < 40) (hfr : frmOK F Bg m p bf = true) (hVI : VI v) (hR : v.2.1 p = true)  (hM : MR σ) (hF : MF σ F) (hV : VR σ m v) (hN : NW σ (insN F m p bf (v.1 p))) (hb : gI σ 728 m = X) (hA : VO σ0 σ m) {Post : Option Value → fr_S → Prop} (hp0 : ∀ r σ', (fun r0 σ' => r0 = none ∧ MR σ' ∧ VR σ' m (stepV F m p bf v) ∧ gI σ' 728 m = X ∧ VO σ0 σ' m) r σ' → Post r σ') : PX l G yy_Mo_step1 rm_Mo_step1 (QR G false 742 0 0 Post) false 742 0 0 38 [(0, .ref 717), (1, .int (nI m)), (2, .int (nI p)), (3, .int (bfI bf)), (4, .int (nI (opS (F 7 (40 * m + p)))))] [] σ := by
  have h6 := hW.2.2.2.2.2.2.1 m
  have hWN := insN_WP hW (bf := bf) (frm_p hfr).2.2.1 (frm_p hfr).2.2.2.1 (hVI.2 p hR)
  have hN6 := insN_le6 (F := F) (m := m) (p := p) (bf := bf) (hVI.1 p)
  refine px_iload dx_Mo_step1_38 rfl ?_
  refine px_cS (Y := yy_Mo_step1) (Yc := yy_Mo_branches) (As := [.int (nI (opS (F 7 (40 * m + p))))]) dx_Mo_step1_40 ml_Mo_237 ms_Mo_branches np_Mo_branches rfl (Nat.le_of_ble_eq_true rfl) (Nat.le_of_ble_eq_true rfl) rk_Mo_step1_Mo_branches rfl (m_branches (opS_lt _)) zz_0 ?_
  refine px_if_eqB dx_Mo_step1_43 (fun c_43 => ?_) (fun c_43 => ?_)
  · refine px_iload dx_Mo_step1_57 rfl ?_
    refine px_cS (Y := yy_Mo_step1) (Yc := yy_Mo_ends) (As := [.int (nI (opS (F 7 (40 * m + p))))]) dx_Mo_step1_59 ml_Mo_230 ms_Mo_ends np_Mo_ends rfl (Nat.le_of_ble_eq_true rfl) (Nat.le_of_ble_eq_true rfl) rk_Mo_step1_Mo_ends rfl (m_ends (opS_lt _)) zz_0 ?_
    refine px_if_neB dx_Mo_step1_62 (fun c_62 => ?_) (fun c_62 => ?_)
    · exact px_vret dx_Mo_step1_77 rfl (by exact hp0 _ _ ⟨rfl, hM, by (unfold stepV; first | (simp only [*, if_true, if_false, Bool.false_eq_true]; done) | (simp only [*, if_true, if_false, Bool.false_eq_true]; exact hV)), hb, hA⟩)
    · have hnx := (frm_p hfr).2.2.2.2.1.resolve_left (by rw [c_62]; exact fun q => Bool.noConfusion q)
      refine px_aload_n dx_Mo_step1_65 rfl ?_
      refine px_iload_n dx_Mo_step1_66 rfl ?_
      refine px_iload_n dx_Mo_step1_67 rfl ?_
      refine px_iload dx_Mo_step1_68 rfl ?_
      refine px_cS (Y := yy_Mo_step1) (Yc := yy_Mo_sizeOf) (As := [.int (nI (opS (F 7 (40 * m + p))))]) dx_Mo_step1_70 ml_Mo_221 ms_Mo_sizeOf np_Mo_sizeOf rfl (Nat.le_of_ble_eq_true rfl) (Nat.le_of_ble_eq_true rfl) rk_Mo_step1_Mo_sizeOf rfl (m_sizeOf (opS_lt _)) zz_0 ?_
      refine px_iaddN (a := p) (b := szO (opS (F 7 (40 * m + p)))) dx_Mo_step1_73 ?_
      refine px_cVR (Y := yy_Mo_step1) (Yc := yy_Mo_flow) (b := 717) (As := [.int (nI (m)), .int (nI (p + (szO (opS (F 7 (40 * m + p))))))]) dx_Mo_step1_74 ml_Mo_277 mv_Mo_flow np_Mo_flow ⟨_, rfl⟩ (by decide) rfl (by decide) rfl (Nat.le_of_ble_eq_true rfl) (Nat.le_of_ble_eq_true rfl) rk_Mo_step1_Mo_flow rfl (m_flow (v := v) hM hV hN hm (by have := (mgN_p hnx).1; omega) hWN (hVI.2 _) hVI.1 hN6) zz_0 (fun r_74 τ2 h_74 => ?_)
      obtain ⟨rfl, hM, hV, hN, hO⟩ := h_74
      have hVI := flS_VI (p := p + (szO (opS (F 7 (40 * m + p))))) hVI hWN hN6
      have hF := hF.ag hO.1 (fun o h1 h2 => by simp; omega)
      have hA := hA.tr hO.vo
      have hb := (hO.1.1 728 (by decide) m).trans hb
      exact px_vret dx_Mo_step1_77 rfl (by exact hp0 _ _ ⟨rfl, hM, by (unfold stepV; first | (simp only [*, if_true, if_false, Bool.false_eq_true]; done) | (simp only [*, if_true, if_false, Bool.false_eq_true]; exact hV)), hb, hA⟩)
  · have htg : mgo F Bg m (tgO F m p) false = true := (frm_p hfr).2.2.2.2.2.resolve_left (by rw [c_43]; exact fun q => Bool.noConfusion q)
    refine px_aload_n dx_Mo_step1_46 rfl ?_
    refine px_iload_n dx_Mo_step1_47 rfl ?_
    refine px_aload_n dx_Mo_step1_48 rfl ?_
    refine px_iload_n dx_Mo_step1_49 rfl ?_
    refine px_iload_n dx_Mo_step1_50 rfl ?_
    refine px_cV (Y := yy_Mo_step1) (Yc := yy_Mo_target) (b := 717) (As := [.int (nI (m)), .int (nI (p))]) dx_Mo_step1_51 ml_Mo_240 mv_Mo_target np_Mo_target ⟨_, rfl⟩ (by decide) rfl (by decide) rfl (Nat.le_of_ble_eq_true rfl) (Nat.le_of_ble_eq_true rfl) rk_Mo_step1_Mo_target rfl (m_targetN hM hF hW hm hpl htg) zz_0 ?_
    refine px_cVR (Y := yy_Mo_step1) (Yc := yy_Mo_flow) (b := 717) (As := [.int (nI (m)), .int (nI ((tgO F m p).toNatClampNeg))]) dx_Mo_step1_54 ml_Mo_277 mv_Mo_flow np_Mo_flow ⟨_, rfl⟩ (by decide) rfl (by decide) rfl (Nat.le_of_ble_eq_true rfl) (Nat.le_of_ble_eq_true rfl) rk_Mo_step1_Mo_flow rfl (m_flow (v := v) hM hV hN hm (by have := (mgo_p htg).1; omega) hWN (hVI.2 _) hVI.1 hN6) zz_0 (fun r_54 τ2 h_54 => ?_)
    obtain ⟨rfl, hM, hV, hN, hO⟩ := h_54
    have hVI := flS_VI (p := (tgO F m p).toNatClampNeg) hVI hWN hN6
    have hF := hF.ag hO.1 (fun o h1 h2 => by simp; omega)
    have hA := hA.tr hO.vo
    have hb := (hO.1.1 728 (by decide) m).trans hb
    refine px_iload dx_Mo_step1_57 rfl ?_
    refine px_cS (Y := yy_Mo_step1) (Yc := yy_Mo_ends) (As := [.int (nI (opS (F 7 (40 * m + p))))]) dx_Mo_step1_59 ml_Mo_230 ms_Mo_ends np_Mo_ends rfl (Nat.le_of_ble_eq_true rfl) (Nat.le_of_ble_eq_true rfl) rk_Mo_step1_Mo_ends rfl (m_ends (opS_lt _)) zz_0 ?_
    refine px_if_neB dx_Mo_step1_62 (fun c_62 => ?_) (fun c_62 => ?_)
    · exact px_vret dx_Mo_step1_77 rfl (by exact hp0 _ _ ⟨rfl, hM, by (unfold stepV; first | (simp only [*, if_true, if_false, Bool.false_eq_true]; done) | (simp only [*, if_true, if_false, Bool.false_eq_true]; exact hV)), hb, hA⟩)
    · have hnx := (frm_p hfr).2.2.2.2.1.resolve_left (by rw [c_62]; exact fun q => Bool.noConfusion q)
      refine px_aload_n dx_Mo_step1_65 rfl ?_
      refine px_iload_n dx_Mo_step1_66 rfl ?_
      refine px_iload_n dx_Mo_step1_67 rfl ?_
      refine px_iload dx_Mo_step1_68 rfl ?_
      refine px_cS (Y := yy_Mo_step1) (Yc := yy_Mo_sizeOf) (As := [.int (nI (opS (F 7 (40 * m + p))))]) dx_Mo_step1_70 ml_Mo_221 ms_Mo_sizeOf np_Mo_sizeOf rfl (Nat.le_of_ble_eq_true rfl) (Nat.le_of_ble_eq_true rfl) rk_Mo_step1_Mo_sizeOf rfl (m_sizeOf (opS_lt _)) zz_0 ?_
      refine px_iaddN (a := p) (b := szO (opS (F 7 (40 * m + p)))) dx_Mo_step1_73 ?_
      refine px_cVR (Y := yy_Mo_step1) (Yc := yy_Mo_flow) (b := 717) (As := [.int (nI (m)), .int (nI (p + (szO (opS (F 7 (40 * m + p))))))]) dx_Mo_step1_74 ml_Mo_277 mv_Mo_flow np_Mo_flow ⟨_, rfl⟩ (by decide) rfl (by decide) rfl (Nat.le_of_ble_eq_true rfl) (Nat.le_of_ble_eq_true rfl) rk_Mo_step1_Mo_flow rfl (m_flow (v := flS v ((tgO F m p).toNatClampNeg) (insN F m p bf (v.1 p))) hM hV hN hm (by have := (mgN_p hnx).1; omega) hWN (hVI.2 _) hVI.1 hN6) zz_0 (fun r_74 τ3 h_74 => ?_)
      obtain ⟨rfl, hM, hV, hN, hO⟩ := h_74
      have hVI := flS_VI (p := p + (szO (opS (F 7 (40 * m + p))))) hVI hWN hN6
      have hF := hF.ag hO.1 (fun o h1 h2 => by simp; omega)
      have hA := hA.tr hO.vo
      have hb := (hO.1.1 728 (by decide) m).trans hb
      exact px_vret dx_Mo_step1_77 rfl (by exact hp0 _ _ ⟨rfl, hM, by (unfold stepV; first | (simp only [*, if_true, if_false, Bool.false_eq_true]; done) | (simp only [*, if_true, if_false, Bool.false_eq_true]; exact hV)), hb, hA⟩)
theorem bfI_ge {bt : Option Nat} (h : ∀ q, bt = some q → q < 40) (hc : ¬ 0 ≤ bfI bt) : bt = none := by
  cases bt with
  | none => rfl
  | some q => exact absurd (nI_pos' (Nat.lt_trans (h q rfl) (by decide))) hc
theorem stepV_VI {F : Nat → Nat → Nat} (hW : FW F) {Bg : Nat → Bool} {m p : Nat} {bf : Option Nat} {v : VS} (hfr : frmOK F Bg m p bf = true) (hVI : VI v) (hR : v.2.1 p = true) : VI (stepV F m p bf v) := by
  have hWN := insN_WP hW (bf := bf) (frm_p hfr).2.2.1 (frm_p hfr).2.2.2.1 (hVI.2 p hR)
  have hN6 := insN_le6 (F := F) (m := m) (p := p) (bf := bf) (hVI.1 p)
  unfold stepV
  split
  · split
    · exact flS_VI hVI hWN hN6
    · exact hVI
  · refine flS_VI ?_ hWN hN6
    split
    · exact flS_VI hVI hWN hN6
    · exact hVI
theorem stepV_LE {F : Nat → Nat → Nat} (hW : FW F) {Bg : Nat → Bool} {m p : Nat} {bf : Option Nat} {v : VS} (hfr : frmOK F Bg m p bf = true) : LE v (stepV F m p bf v) := by
  have h6 := hW.2.2.2.2.2.2.1 m
  have h5 := frm_p hfr
  have ht : brs (opS (F 7 (40 * m + p))) = true → (tgO F m p).toNatClampNeg < 40 := fun h => by
    have := (mgo_p (h5.2.2.2.2.2.resolve_left (by rw [h]; exact fun q => Bool.noConfusion q))).1
    omega
  have hn : ens (opS (F 7 (40 * m + p))) ≠ true → p + szO (opS (F 7 (40 * m + p))) < 40 := fun h => by
    have := (mgN_p (h5.2.2.2.2.1.resolve_left h)).1
    omega
  unfold stepV
  split
  · split
    · rename_i h
      exact flS_LE (ht h)
    · exact LE.rf
  · rename_i h0
    refine LE.tr ?_ (flS_LE (hn h0))
    split
    · rename_i h
      exact flS_LE (ht h)
    · exact LE.rf
theorem rnd_LE {F : Nat → Nat → Nat} (hW : FW F) {Bg : Nat → Bool} {m : Nat} : ∀ {f p : Nat} {bf : Option Nat} {v : VS} {bt : Option Nat}, fif F Bg m f p bf = -1 → p ≤ 40 → LE v (rnd F Bg m f p bf v bt).1
  | 0, _, _, _, _, _, _ => LE.rf
  | f + 1, p, bf, v, bt, h, hp => by
    have h6 := hW.2.2.2.2.2.2.1 m
    unfold rnd
    split
    · rename_i hl
      split
      · rename_i hb
        have hfr : frmOK F Bg m p bf = true := by
          cases q : frmOK F Bg m p bf with
          | true => rfl
          | false =>
            rw [fif_bad hl hb q] at h
            have := nI_pos (n := p) (by omega)
            rw [h] at this
            exact absurd (by decide) this
        rw [fif_ok hl hb hfr] at h
        split
        · exact (stepV_LE hW hfr).tr (rnd_LE hW h (by omega))
        · exact rnd_LE hW h (by omega)
      · rename_i hb
        rw [fif_no hl (by simpa using hb)] at h
        exact rnd_LE hW h (by omega)
    · exact LE.rf
theorem fif_cs {F : Nat → Nat → Nat} {Bg : Nat → Bool} {m : Nat} (hW : FW F) : ∀ {f p : Nat} {bf : Option Nat}, fif F Bg m f p bf = -1 ∨ ∃ q, q < 40 ∧ fif F Bg m f p bf = nI q
  | 0, _, _ => Or.inl rfl
  | f + 1, p, bf => by
    have h6 := hW.2.2.2.2.2.2.1 m
    unfold fif
    split
    · split
      · split
        · exact fif_cs hW
        · exact Or.inr ⟨p, by omega, rfl⟩
      · exact fif_cs hW
    · exact Or.inl rfl

set_option maxRecDepth 100000 in
set_option maxHeartbeats 4000000 in
theorem m_step1 {l : Launch} {G : fr_G} {σ : fr_S} {F : Nat → Nat → Nat} (hM : MR σ) (hF : MF σ F) (hW : FW F) (hFP : FP F) {m p : Nat} {bf bt : Option Nat} {v : VS} {Bg : Nat → Bool} (hm : m < 4) (hpl : p < 40) (hfr : frmOK F Bg m p bf = true) (hVI : VI v) (hR : v.2.1 p = true) (hV : VR σ m v) (hb : gI σ 728 m = bfI bt) (hbf : ∀ q, bf = some q → q < 40) (hbt : ∀ q, bt = some q → q < 40) : CR l G yy_Mo_step1 rm_Mo_step1 [.ref (717), .int (nI (m)), .int (nI (p)), .int (bfI bf)] σ (fun r0 σ' => r0 = none ∧ MR σ' ∧ VR σ' m (stepV F m p bf v) ∧ gI σ' 728 m = bfI (if insG F m p (v.1 p) = false ∧ bt = none then some p else bt) ∧ VO σ σ' m) := by
  intro Post hp0
  show PX l G yy_Mo_step1 rm_Mo_step1 _ false 742 0 0 0 [(0, .ref (717)), (1, .int (nI (m))), (2, .int (nI (p))), (3, .int (bfI bf))] [] σ
  obtain ⟨N0, hN0⟩ := NW_ex σ
  have hI : PI σ σ F m v.1 N0 := ⟨hM, hF, hV.1, hN0, Ag.rf, fun _ _ => rfl⟩
  refine px_aload_n dx_Mo_step1_0 rfl ?_
  refine px_iload_n dx_Mo_step1_1 rfl ?_
  refine px_iload_n dx_Mo_step1_2 rfl ?_
  refine px_cV (Y := yy_Mo_step1) (Yc := yy_Mo_op) (b := 717) (As := [.int (nI (m)), .int (nI (p))]) dx_Mo_step1_3 ml_Mo_173 mv_Mo_op np_Mo_op ⟨_, rfl⟩ (by decide) rfl (by decide) rfl (Nat.le_of_ble_eq_true rfl) (Nat.le_of_ble_eq_true rfl) rk_Mo_step1_Mo_op rfl (m_op hM (by omega) (hF.2.2.2.2.2.2.2 (40 * m + p) (by omega)) (hW.2.2.2.2.2.2.2 _)) zz_0 ?_
  refine px_istore (lv' := [(4, .int (nI (opS (F 7 (40 * m + p))))), (0, .ref (717)), (1, .int (nI (m))), (2, .int (nI (p))), (3, .int (bfI bf))]) dx_Mo_step1_6 (by decide) rfl ?_
  refine px_aload_n dx_Mo_step1_8 rfl ?_
  refine px_iload_n dx_Mo_step1_9 rfl ?_
  refine px_iload_n dx_Mo_step1_10 rfl ?_
  refine px_iload_n dx_Mo_step1_11 rfl ?_
  refine px_cVR (Y := yy_Mo_step1) (Yc := yy_Mo_pass1) (b := 717) (As := [.int (nI (m)), .int (nI (p)), .int (bfI bf)]) dx_Mo_step1_12 ml_Mo_292 mv_Mo_pass1 np_Mo_pass1 ⟨_, rfl⟩ (by decide) rfl (by decide) rfl (Nat.le_of_ble_eq_true rfl) (Nat.le_of_ble_eq_true rfl) rk_Mo_step1_Mo_pass1 rfl (m_pass1 hW hFP hm hpl (hVI.1 p) (hVI.2 p hR) (frm_p hfr).2.2.1 (frm_p hfr).2.2.2.1 hbf hI) zz_0 (fun r_12 τ1 h_12 => ?_)
  obtain ⟨rfl, hI9, h21⟩ := h_12
  have hM := hI9.1
  have hb1 : gI τ1 728 m = bfI bt := (hI9.2.2.2.2.1.1 728 (by decide) m).trans hb
  have hV1 : VR τ1 m v := ⟨hI9.2.2.1, hV.2.1.vo fun j => hI9.2.2.2.2.1.1 730 (by decide) j, (hI9.2.2.2.2.2 20 (by decide)).trans hV.2.2⟩
  refine px_aload_n dx_Mo_step1_15 rfl ?_
  refine px_getI dx_Mo_step1_16 fl_Mo_252 rfl (by decide) rfl ?_
  refine px_eqi (y := b2i (!insG F m p (v.1 p))) h21 ?_
  refine px_if_eqB dx_Mo_step1_19 (fun c_19 => ?_) (fun c_19 => ?_)
  · refine px_sub [1, 2, 3, 4, 0] rfl ?_
    exact m_step1_b (Bg := Bg) hW hm hpl hfr hVI hR hM hI9.2.1 hV1 hI9.2.2.2.1 (X := bfI (if insG F m p (v.1 p) = false ∧ bt = none then some p else bt)) (by rw [if_neg (by first | (rintro ⟨q1, -⟩; rw [q1] at c_19; exact absurd c_19 (by decide)) | (rintro ⟨-, q2⟩; rw [q2] at c_28; exact absurd c_28 (by decide)))]; exact hb1) (VO.pi hI9) hp0
  · refine px_aload_n dx_Mo_step1_22 rfl ?_
    refine px_getR (r := 728) dx_Mo_step1_23 fl_Mo_44 rfl (by decide) rfl (hM 15) ?_
    refine px_iload_n dx_Mo_step1_26 rfl ?_
    refine px_ialdN (j := m) dx_Mo_step1_27 rfl (by decide) (by omega) ?_
    refine px_eqi (y := bfI bt) hb1 ?_
    refine px_if_ge dx_Mo_step1_28 (fun c_28 => ?_) (fun c_28 => ?_)
    · refine px_sub [1, 2, 3, 4, 0] rfl ?_
      exact m_step1_b (Bg := Bg) hW hm hpl hfr hVI hR hM hI9.2.1 hV1 hI9.2.2.2.1 (X := bfI (if insG F m p (v.1 p) = false ∧ bt = none then some p else bt)) (by rw [if_neg (by first | (rintro ⟨q1, -⟩; rw [q1] at c_19; exact absurd c_19 (by decide)) | (rintro ⟨-, q2⟩; rw [q2] at c_28; exact absurd c_28 (by decide)))]; exact hb1) (VO.pi hI9) hp0
    · refine px_aload_n dx_Mo_step1_31 rfl ?_
      refine px_getR (r := 728) dx_Mo_step1_32 fl_Mo_44 rfl (by decide) rfl (hM 15) ?_
      refine px_iload_n dx_Mo_step1_35 rfl ?_
      refine px_iload_n dx_Mo_step1_36 rfl ?_
      refine px_iastN (j := m) dx_Mo_step1_37 rfl (by decide) (by omega) ?_
      refine px_sub [1, 2, 3, 4, 0] rfl ?_
      exact m_step1_b (σ := sI τ1 728 m (nI p)) (Bg := Bg) hW hm hpl hfr hVI hR hM (hI9.2.1.ag (S := [728]) (ag_sI Ag.rf (by decide)) (fun o h1 h2 => by simp; omega)) hV1.w (hI9.2.2.2.1.ag0 fun k => gI_n (Or.inl (by decide))) (X := bfI (if insG F m p (v.1 p) = false ∧ bt = none then some p else bt)) (by rw [if_pos ⟨by simpa using c_19, bfI_ge hbt c_28⟩, gI_s]; rfl) ((VO.pi hI9).w (Or.inr (Or.inl ⟨rfl, rfl⟩))) hp0
/-- a method's verification: what is outside of the method's parts stays -/
def VX (σ σ' : fr_S) (m : Nat) : Prop := Ag [717, 727, 728, 729, 730, 731, 732] σ σ' ∧ (∀ k, k ≠ 20 → k ≠ 21 → gI σ' 717 k = gI σ 717 k) ∧ (∀ k, k ≠ m → gI σ' 727 k = gI σ 727 k ∧ gI σ' 728 k = gI σ 728 k) ∧ SP m 729 σ σ' ∧ SP m 730 σ σ' ∧ ∀ j, (j < 400 * m ∨ 400 * m + 400 ≤ j) → gI σ' 731 j = gI σ 731 j
theorem VO.vx {σ0 σ' : fr_S} {m : Nat} {X : Int32} {τ : fr_S} (a : Ag [729] σ0 τ) (hs : SP m 729 σ0 τ) (h : VO (sI (sI τ 727 m X) 728 m (-1)) σ' m) : VX σ0 σ' m := by
  have h1 : Ag [727, 728, 729] σ0 (sI (sI τ 727 m X) 728 m (-1)) := ag_sI (ag_sI (a.mono (by decide)) (by decide)) (by decide)
  refine ⟨(h1.mono (by decide)).tr (h.1.mono (by decide)), fun k hk hl => (h.2.1 k hk hl).trans (h1.1 717 (by decide) k), fun k hk => ⟨?_, ?_⟩, fun j hj => ?_, fun j hj => ?_, fun j hj => ?_⟩
  · rw [h.1.1 727 (by decide), gI_n (Or.inl (by decide)), gI_n (Or.inr hk)]
    exact a.1 727 (by decide) k
  · rw [h.2.2.1 k hk, gI_n (Or.inr hk), gI_n (Or.inl (by decide))]
    exact a.1 728 (by decide) k
  · rw [h.1.1 729 (by decide), gI_n (Or.inl (by decide)), gI_n (Or.inl (by decide))]
    exact hs j hj
  · rw [h.2.2.2.1 j hj]
    exact h1.1 730 (by decide) j
  · rw [h.2.2.2.2 j hj]
    exact h1.1 731 (by decide) j
/-- what verifying a method of the right form finds -/
def vrR (F : Nat → Nat → Nat) (m : Nat) : VS × Option Nat := fixV F (bgF F m) m 1000 (v_0 F m) none
theorem v_0_VI {F : Nat → Nat → Nat} (hW : FW F) {m : Nat} (hQ : pwF F m ≤ F 5 m) : VI (v_0 F m) :=
  flS_VI ⟨fun _ _ => Nat.zero_le _, fun _ q => absurd q Bool.false_ne_true⟩ (bgN_ok hW hQ _ (Nat.le_refl _)).1 (bgN_ok hW hQ _ (Nat.le_refl _)).2

set_option maxRecDepth 100000 in
set_option maxHeartbeats 4000000 in
theorem m_verify_l2 {l : Launch} {G : fr_G} {σ : fr_S} {F : Nat → Nat → Nat} (hM : MR σ) (hF : MF σ F) (hW : FW F) (hFP : FP F) {m : Nat} {Bg : Nat → Bool} (hm : m < 4) (hB : ∀ j, j < 40 → gI σ 729 (40 * m + j) = b2i (Bg j)) {Post : Option Value → fr_S → Prop} {QF : List Frame → Array Value → State → State → Prop} {R : VS × Option Nat} (hq : ∀ σ', VR σ' m R.1 → VI R.1 → gI σ' 728 m = bfI R.2 → (∀ q, R.2 = some q → q < 40) → VO σ σ' m → PX l G yy_Mo_verifyMethod rm_Mo_verifyMethod QF false 742 0 0 43 [(0, .ref 717), (1, .int (nI m))] [] σ') : ∀ (d : Nat) (f p : Nat) (bf : Option Nat) (v : VS) (bt : Option Nat) (σ1 : fr_S), f < d → p ≤ 40 → F 6 m ≤ p + f → fif F Bg m f p bf = -1 → VI v → VR σ1 m v → gI σ1 728 m = bfI bt → VO σ σ1 m → (∀ q, bf = some q → q < 40) → (∀ q, bt = some q → q < 40) → rnd F Bg m f p bf v bt = R → PX l G yy_Mo_verifyMethod rm_Mo_verifyMethod QF false 742 0 0 66 [(0, .ref (717)), (1, .int (nI (m))), (2, .int (bfI bf)), (3, .int (nI (p)))] [] (σ1) := by
  intro d
  induction d with
  | zero => intro f p bf v bt σ1 hd; exact absurd hd (Nat.not_lt_zero _)
  | succ d ih =>
    intro f p bf v bt σ1 hd hpf h40 hfi hVI hV hb hA hbf hbt hE
    have hM1 := hM.ag hA.1
    have hF1 := hF.ag hA.1 (fun o h1 h2 => by simp; omega)
    have h6 := hW.2.2.2.2.2.2.1 m
    have hB1 : ∀ j, j < 40 → gI σ1 729 (40 * m + j) = b2i (Bg j) := fun j hj => (hA.1.1 729 (by decide) _).trans (hB j hj)
    refine px_iload_n dx_Mo_verifyMethod_66 rfl ?_
    refine px_aload_n dx_Mo_verifyMethod_67 rfl ?_
    refine px_getR (r := 725) dx_Mo_verifyMethod_68 fl_Mo_35 rfl (by decide) rfl (hM1 12) ?_
    refine px_iload_n dx_Mo_verifyMethod_71 rfl ?_
    refine px_ialdN (j := m) dx_Mo_verifyMethod_72 rfl (by decide) (by omega) ?_
    refine px_eqi (y := nI (F 6 m)) (hF1.2.2.2.2.2.2.1 m (by omega)) ?_
    refine px_icmp_geN (a := p) (b := F 6 m) dx_Mo_verifyMethod_73 (by omega) (by omega) (fun c_73 => ?_) (fun c_73 => ?_)
    · refine px_goto dx_Mo_verifyMethod_122 ?_
      refine px_sub [0, 1] rfl ?_
      exact hq σ1 (by rw [← hE]; unfold rnd; cases f <;> first | exact hV | (dsimp only; rw [if_neg (by omega)]; exact hV)) (by rw [← hE]; unfold rnd; cases f <;> first | exact hVI | (dsimp only; rw [if_neg (by omega)]; exact hVI)) (by rw [← hE]; unfold rnd; cases f <;> first | exact hb | (dsimp only; rw [if_neg (by omega)]; exact hb)) (by rw [← hE]; unfold rnd; cases f <;> first | exact hbt | (dsimp only; rw [if_neg (by omega)]; exact hbt)) hA
    · obtain ⟨f', rfl⟩ : ∃ f', f = f' + 1 := ⟨f - 1, by omega⟩
      refine px_aload_n dx_Mo_verifyMethod_76 rfl ?_
      refine px_getR (r := 729) dx_Mo_verifyMethod_77 fl_Mo_47 rfl (by decide) rfl (hM1 16) ?_
      refine px_bipush (v := 40) dx_Mo_verifyMethod_80 rfl ?_
      refine px_iload_n dx_Mo_verifyMethod_82 rfl ?_
      refine px_imulN (a := 40) (b := m) dx_Mo_verifyMethod_83 ?_
      refine px_iload_n dx_Mo_verifyMethod_84 rfl ?_
      refine px_iaddN (a := 40 * m) (b := p) dx_Mo_verifyMethod_85 ?_
      refine px_zaldN (j := (40 * m) + p) dx_Mo_verifyMethod_86 rfl (by decide) (by omega) ?_
      refine px_eqi (y := b2i (Bg p)) (hB1 p (by omega)) ?_
      refine px_if_neB dx_Mo_verifyMethod_87 (fun c_87 => ?_) (fun c_87 => ?_)
      · have hfr : frmOK F Bg m p bf = true := by
          cases q : frmOK F Bg m p bf with
          | true => rfl
          | false =>
            rw [fif_bad c_73 c_87 q] at hfi
            have := nI_pos (n := p) (by omega)
            rw [hfi] at this
            exact absurd (by decide) this
        refine px_aload_n dx_Mo_verifyMethod_93 rfl ?_
        refine px_getR (r := 730) dx_Mo_verifyMethod_94 fl_Mo_51 rfl (by decide) rfl (hM1 17) ?_
        refine px_bipush (v := 40) dx_Mo_verifyMethod_97 rfl ?_
        refine px_iload_n dx_Mo_verifyMethod_99 rfl ?_
        refine px_imulN (a := 40) (b := m) dx_Mo_verifyMethod_100 ?_
        refine px_iload_n dx_Mo_verifyMethod_101 rfl ?_
        refine px_iaddN (a := 40 * m) (b := p) dx_Mo_verifyMethod_102 ?_
        refine px_zaldN (j := (40 * m) + p) dx_Mo_verifyMethod_103 rfl (by decide) (by omega) ?_
        refine px_eqi (y := b2i (v.2.1 p)) (hV.2.1 p (by omega)) ?_
        refine px_if_eqB dx_Mo_verifyMethod_104 (fun c_104 => ?_) (fun c_104 => ?_)
        · refine px_iload_n dx_Mo_verifyMethod_114 rfl ?_
          refine px_istore_n (lv' := [(2, .int (nI (p))), (0, .ref (717)), (1, .int (nI (m))), (3, .int (nI (p)))]) dx_Mo_verifyMethod_115 (by decide) rfl ?_
          refine px_iinc (v := (nI (p + 1))) (lv' := [(3, .int (nI (p + 1))), (2, .int (nI (p))), (0, .ref (717)), (1, .int (nI (m)))]) dx_Mo_verifyMethod_116 rfl (nI_1 _) (by decide) rfl ?_
          refine px_goto dx_Mo_verifyMethod_119 ?_
          refine px_sub [2, 3, 1, 0] rfl ?_
          exact ih f' (p + 1) (some p) v bt σ1 (by omega) (by omega) (by omega) (fif_ok c_73 c_87 hfr ▸ hfi) hVI hV hb hA (fun q e => by cases e; omega) hbt (by rw [← hE]; conv => rhs; unfold rnd; rw [if_pos c_73, if_pos c_87, if_neg (by rw [c_104]; decide)])
        · refine px_aload_n dx_Mo_verifyMethod_107 rfl ?_
          refine px_iload_n dx_Mo_verifyMethod_108 rfl ?_
          refine px_iload_n dx_Mo_verifyMethod_109 rfl ?_
          refine px_iload_n dx_Mo_verifyMethod_110 rfl ?_
          refine px_cVR (Y := yy_Mo_verifyMethod) (Yc := yy_Mo_step1) (b := 717) (As := [.int (nI (m)), .int (nI (p)), .int (bfI bf)]) dx_Mo_verifyMethod_111 ml_Mo_289 mv_Mo_step1 np_Mo_step1 ⟨_, rfl⟩ (by decide) rfl (by decide) rfl (Nat.le_of_ble_eq_true rfl) (Nat.le_of_ble_eq_true rfl) rk_Mo_verifyMethod_Mo_step1 rfl (m_step1 (Bg := Bg) hM1 hF1 hW hFP hm (by omega) hfr hVI c_104 hV hb hbf hbt) zz_0 (fun r_111 τ1 h_111 => ?_)
          obtain ⟨rfl, hM2, hV2, hb2, hA2⟩ := h_111
          refine px_iload_n dx_Mo_verifyMethod_114 rfl ?_
          refine px_istore_n (lv' := [(2, .int (nI (p))), (0, .ref (717)), (1, .int (nI (m))), (3, .int (nI (p)))]) dx_Mo_verifyMethod_115 (by decide) rfl ?_
          refine px_iinc (v := (nI (p + 1))) (lv' := [(3, .int (nI (p + 1))), (2, .int (nI (p))), (0, .ref (717)), (1, .int (nI (m)))]) dx_Mo_verifyMethod_116 rfl (nI_1 _) (by decide) rfl ?_
          refine px_goto dx_Mo_verifyMethod_119 ?_
          refine px_sub [2, 3, 1, 0] rfl ?_
          exact ih f' (p + 1) (some p) (stepV F m p bf v) (if insG F m p (v.1 p) = false ∧ bt = none then some p else bt) τ1 (by omega) (by omega) (by omega) (fif_ok c_73 c_87 hfr ▸ hfi) (stepV_VI hW hfr hVI c_104) hV2 hb2 (hA.tr hA2) (fun q e => by cases e; omega) (fun q e => by (split at e; cases e; omega; exact hbt q e)) (by rw [← hE]; conv => rhs; unfold rnd; rw [if_pos c_73, if_pos c_87, if_pos c_104])
      · refine px_goto dx_Mo_verifyMethod_90 ?_
        refine px_iinc (v := (nI (p + 1))) (lv' := [(3, .int (nI (p + 1))), (0, .ref (717)), (1, .int (nI (m))), (2, .int (bfI bf))]) dx_Mo_verifyMethod_116 rfl (nI_1 _) (by decide) rfl ?_
        refine px_goto dx_Mo_verifyMethod_119 ?_
        refine px_sub [1, 2, 3, 0] rfl ?_
        exact ih f' (p + 1) bf v bt σ1 (by omega) (by omega) (by omega) (fif_no c_73 c_87 ▸ hfi) hVI hV hb hA hbf hbt (by rw [← hE]; conv => rhs; unfold rnd; rw [if_pos c_73, if_neg (by rw [c_87]; decide)])
set_option maxRecDepth 100000 in
set_option maxHeartbeats 4000000 in
theorem m_verify_l1 {l : Launch} {G : fr_G} {σ : fr_S} {F : Nat → Nat → Nat} (hM : MR σ) (hF : MF σ F) (hW : FW F) (hFP : FP F) {m : Nat} {Bg : Nat → Bool} (hm : m < 4) (hB : ∀ j, j < 40 → gI σ 729 (40 * m + j) = b2i (Bg j)) (hfi : fif F Bg m 40 0 none = -1) {Post : Option Value → fr_S → Prop} {R : VS × Option Nat} (hq : ∀ σ', VR σ' m R.1 → gI σ' 728 m = bfI R.2 → VO σ σ' m → Post none σ') : ∀ (d : Nat) (k : Nat) (v : VS) (bt : Option Nat) (σ1 : fr_S), k < d → VI v → VR σ1 m v → (v.2.2 = false → gI σ1 728 m = bfI bt) → VO σ σ1 m → (∀ q, bt = some q → q < 40) → (v.2.2 = true → mu v < k) → fixV F Bg m k v bt = R → PX l G yy_Mo_verifyMethod rm_Mo_verifyMethod (QR G false 742 0 0 Post) false 742 0 0 43 [(0, .ref (717)), (1, .int (nI (m)))] [] (σ1) := by
  intro d
  induction d with
  | zero => intro k v bt σ1 hd; exact absurd hd (Nat.not_lt_zero _)
  | succ d ih =>
    intro k v bt σ1 hd hVI hV hb hA hbt hmu hE
    have hM1 := hM.ag hA.1
    have hF1 := hF.ag hA.1 (fun o h1 h2 => by simp; omega)
    have h6 := hW.2.2.2.2.2.2.1 m
    have hB1 : ∀ j, j < 40 → gI σ1 729 (40 * m + j) = b2i (Bg j) := fun j hj => (hA.1.1 729 (by decide) _).trans (hB j hj)
    refine px_aload_n dx_Mo_verifyMethod_43 rfl ?_
    refine px_getI dx_Mo_verifyMethod_44 fl_Mo_274 rfl (by decide) rfl ?_
    refine px_eqi (y := b2i (v.2.2)) hV.2.2 ?_
    refine px_if_eqB dx_Mo_verifyMethod_47 (fun c_47 => ?_) (fun c_47 => ?_)
    · exact px_vret dx_Mo_verifyMethod_125 rfl (by (have e : fixV F Bg m k v bt = (v, bt) := by cases k <;> simp [fixV, c_47]); rw [e] at hE; subst hE; exact hq σ1 hV (hb c_47) hA)
    · refine px_aload_n dx_Mo_verifyMethod_50 rfl ?_
      refine px_iconst (v := 0) dx_Mo_verifyMethod_51 rfl ?_
      refine px_putZ dx_Mo_verifyMethod_52 fl_Mo_274 rfl (by decide) rfl (by decide) ?_
      refine px_aload_n dx_Mo_verifyMethod_55 rfl ?_
      refine px_getR (r := 728) dx_Mo_verifyMethod_56 fl_Mo_44 rfl (by decide) rfl (hM1 15) ?_
      refine px_iload_n dx_Mo_verifyMethod_59 rfl ?_
      refine px_iconst (v := -1) dx_Mo_verifyMethod_60 rfl ?_
      refine px_iastN (j := m) dx_Mo_verifyMethod_61 rfl (by decide) (by omega) ?_
      refine px_iconst (v := -1) dx_Mo_verifyMethod_62 rfl ?_
      refine px_istore_n (lv' := [(2, .int (-1)), (0, .ref (717)), (1, .int (nI (m)))]) dx_Mo_verifyMethod_63 (by decide) rfl ?_
      refine px_iconst (v := 0) dx_Mo_verifyMethod_64 rfl ?_
      refine px_istore_n (lv' := [(3, .int (0)), (2, .int (-1)), (0, .ref (717)), (1, .int (nI (m)))]) dx_Mo_verifyMethod_65 (by decide) rfl ?_
      refine px_sub [2, 3, 1, 0] rfl ?_
      obtain ⟨k', rfl⟩ : ∃ k', k = k' + 1 := ⟨k - 1, by have := hmu c_47; omega⟩
      have hL := rnd_LE hW (v := (v.1, v.2.1, false)) (bt := none) hfi (Nat.zero_le _)
      exact m_verify_l2 (σ := σ) (Post := Post) hM hF hW hFP hm hB (R := rnd F Bg m 40 0 none (v.1, v.2.1, false) none) (fun σ' a b c e f => ih k' _ _ σ' (by omega) b a (fun _ => c) f e (fun q => by have := (hL.2.1 q).resolve_left Bool.false_ne_true; have q1 := hmu c_47; have q2 : mu (v.1, v.2.1, false) = mu v := rfl; omega) (by rw [← hE]; conv => rhs; unfold fixV; rw [if_pos c_47])) 41 40 0 none (v.1, v.2.1, false) none (sI (sI σ1 717 20 0) 728 m (-1)) (by omega) (by omega) (by omega) hfi hVI ⟨hV.1.vo fun j => by (rw [gI_n (Or.inl (by decide)), gI_n (Or.inl (by decide))]), hV.2.1.vo fun j => by (rw [gI_n (Or.inl (by decide)), gI_n (Or.inl (by decide))]), by (rw [gI_n (Or.inl (by decide)), gI_s]; rfl)⟩ (by rw [gI_s]; rfl) ((hA.w (Or.inl ⟨rfl, Or.inl rfl⟩)).w (Or.inr (Or.inl ⟨rfl, rfl⟩))) (fun q e => by cases e) (fun q e => by cases e) rfl
set_option maxRecDepth 100000 in
set_option maxHeartbeats 4000000 in
theorem m_verifyMethod {l : Launch} {G : fr_G} {σ : fr_S} {F : Nat → Nat → Nat} (hM : MR σ) (hF : MF σ F) (hW : FW F) (hFP : FP F) {m : Nat} (hm : m < 4) (hQ : pwF F m ≤ F 5 m) {c : Bool} (hC : gI σ 717 20 = b2i c) : CR l G yy_Mo_verifyMethod rm_Mo_verifyMethod [.ref (717), .int (nI (m))] σ (fun r0 σ' => r0 = none ∧ MR σ' ∧ VX σ σ' m ∧ gI σ' 727 m = fif F (bgF F m) m 40 0 none ∧ (∀ j, j < 40 → gI σ' 729 (40 * m + j) = b2i (bgF F m j)) ∧ (fif F (bgF F m) m 40 0 none = -1 → TY σ' m (vrR F m).1.1 ∧ RC σ' m (vrR F m).1.2.1 ∧ gI σ' 728 m = bfI (vrR F m).2) ∧ (fif F (bgF F m) m 40 0 none ≠ -1 → gI σ' 728 m = -1) ∧ ∃ c, gI σ' 717 20 = b2i c) := by
  intro Post hp0
  show PX l G yy_Mo_verifyMethod rm_Mo_verifyMethod _ false 742 0 0 0 [(0, .ref (717)), (1, .int (nI (m)))] [] σ
  refine px_aload_n dx_Mo_verifyMethod_0 rfl ?_
  refine px_iload_n dx_Mo_verifyMethod_1 rfl ?_
  refine px_cVR (Y := yy_Mo_verifyMethod) (Yc := yy_Mo_findBeginnings) (b := 717) (As := [.int (nI (m))]) dx_Mo_verifyMethod_2 ml_Mo_280 mv_Mo_findBeginnings np_Mo_findBeginnings ⟨_, rfl⟩ (by decide) rfl (by decide) rfl (Nat.le_of_ble_eq_true rfl) (Nat.le_of_ble_eq_true rfl) rk_Mo_verifyMethod_Mo_findBeginnings rfl (m_findBeginnings hM hF hW hm) zz_0 (fun r_2 τ1 h_2 => ?_)
  obtain ⟨rfl, hA1, hB1, hS1⟩ := h_2
  have hM1 := hM.ag hA1
  have hF1 := hF.ag hA1 (fun o h1 h2 => by simp; omega)
  have hC1 : gI τ1 717 20 = b2i c := (hA1.1 717 (by decide) 20).trans hC
  refine px_aload_n dx_Mo_verifyMethod_5 rfl ?_
  refine px_getR (r := 727) dx_Mo_verifyMethod_6 fl_Mo_41 rfl (by decide) rfl (hM1 14) ?_
  refine px_iload_n dx_Mo_verifyMethod_9 rfl ?_
  refine px_aload_n dx_Mo_verifyMethod_10 rfl ?_
  refine px_iload_n dx_Mo_verifyMethod_11 rfl ?_
  refine px_cV (Y := yy_Mo_verifyMethod) (Yc := yy_Mo_firstIllFormed) (b := 717) (As := [.int (nI (m))]) dx_Mo_verifyMethod_12 ml_Mo_283 mv_Mo_firstIllFormed np_Mo_firstIllFormed ⟨_, rfl⟩ (by decide) rfl (by decide) rfl (Nat.le_of_ble_eq_true rfl) (Nat.le_of_ble_eq_true rfl) rk_Mo_verifyMethod_Mo_firstIllFormed rfl (m_firstIllFormed (Bg := bgF F m) hM1 hF1 hW hm hB1) zz_0 ?_
  refine px_iastN (j := m) dx_Mo_verifyMethod_15 rfl (by decide) (by omega) ?_
  refine px_aload_n dx_Mo_verifyMethod_16 rfl ?_
  refine px_getR (r := 728) dx_Mo_verifyMethod_17 fl_Mo_44 rfl (by decide) rfl (hM1 15) ?_
  refine px_iload_n dx_Mo_verifyMethod_20 rfl ?_
  refine px_iconst (v := -1) dx_Mo_verifyMethod_21 rfl ?_
  refine px_iastN (j := m) dx_Mo_verifyMethod_22 rfl (by decide) (by omega) ?_
  refine px_aload_n dx_Mo_verifyMethod_23 rfl ?_
  refine px_getR (r := 727) dx_Mo_verifyMethod_24 fl_Mo_41 rfl (by decide) rfl (hM1 14) ?_
  refine px_iload_n dx_Mo_verifyMethod_27 rfl ?_
  refine px_ialdN (j := m) dx_Mo_verifyMethod_28 rfl (by decide) (by omega) ?_
  refine px_eqi (y := fif F (bgF F m) m 40 0 none) ((gI_n (Or.inl (by decide))).trans gI_s) ?_
  refine px_if_lt dx_Mo_verifyMethod_29 (fun c_29 => ?_) (fun c_29 => ?_)
  · have hF3 : MF (sI (sI τ1 727 m (fif F (bgF F m) m 40 0 none)) 728 m (-1)) F := hF1.ag (S := [727, 728]) (ag_sI (ag_sI Ag.rf (by decide)) (by decide)) (fun o h1 h2 => by simp; omega)
    refine px_aload_n dx_Mo_verifyMethod_33 rfl ?_
    refine px_iload_n dx_Mo_verifyMethod_34 rfl ?_
    refine px_cVR (Y := yy_Mo_verifyMethod) (Yc := yy_Mo_begin) (b := 717) (As := [.int (nI (m))]) dx_Mo_verifyMethod_35 ml_Mo_286 mv_Mo_begin np_Mo_begin ⟨_, rfl⟩ (by decide) rfl (by decide) rfl (Nat.le_of_ble_eq_true rfl) (Nat.le_of_ble_eq_true rfl) rk_Mo_verifyMethod_Mo_begin rfl (m_begin (σ := sI (sI τ1 727 m (fif F (bgF F m) m 40 0 none)) 728 m (-1)) (c := c) hM1 hF3 hW hm hQ ((gI_n (Or.inl (by decide))).trans ((gI_n (Or.inl (by decide))).trans hC1))) zz_0 (fun r_35 τ2 h_35 => ?_)
    obtain ⟨rfl, hM2, hV2, hO2⟩ := h_35
    refine px_aload_n dx_Mo_verifyMethod_38 rfl ?_
    refine px_iconst (v := 1) dx_Mo_verifyMethod_39 rfl ?_
    refine px_putZ dx_Mo_verifyMethod_40 fl_Mo_274 rfl (by decide) rfl (by decide) ?_
    have hfi : fif F (bgF F m) m 40 0 none = -1 := by
      rcases fif_cs hW (Bg := bgF F m) (m := m) (f := 40) (p := 0) (bf := none) with q | ⟨q, hq1, hq2⟩
      · exact q
      · rw [hq2] at c_29
        exact absurd c_29 (nI_pos (by omega))
    have hO3 : VO (sI (sI τ1 727 m (fif F (bgF F m) m 40 0 none)) 728 m (-1)) (sI τ2 717 20 1) m := hO2.w (Or.inl ⟨rfl, Or.inl rfl⟩)
    exact m_verify_l1 (σ := sI (sI τ1 727 m (fif F (bgF F m) m 40 0 none)) 728 m (-1)) (Bg := bgF F m) hM1 hF3 hW hFP hm (fun j hj => (gI_n (Or.inl (by decide))).trans ((gI_n (Or.inl (by decide))).trans (hB1 j hj))) hfi (R := vrR F m) (fun σ' a b d => hp0 _ _ ⟨rfl, MR.ag (σ := sI (sI τ1 727 m (fif F (bgF F m) m 40 0 none)) 728 m (-1)) hM1 d.1, VO.vx hA1 hS1 d, (d.1.1 727 (by decide) m).trans ((gI_n (Or.inl (by decide))).trans gI_s), fun j hj => (d.1.1 729 (by decide) _).trans ((gI_n (Or.inl (by decide))).trans ((gI_n (Or.inl (by decide))).trans (hB1 j hj))), fun _ => ⟨a.1, a.2.1, b⟩, fun q => absurd hfi q, _, a.2.2⟩) 1001 1000 (v_0 F m) none (sI τ2 717 20 1) (by omega) (v_0_VI hW hQ) ⟨hV2.1.vo fun j => gI_n (Or.inl (by decide)), hV2.2.1.vo fun j => gI_n (Or.inl (by decide)), gI_s.trans (by simp [v_0, flS, b2i])⟩ (fun q => by simp [v_0, flS] at q) hO3 (fun q e => by cases e) (fun _ => Nat.lt_of_le_of_lt (mu_le _) (by decide)) rfl
  · exact px_vret dx_Mo_verifyMethod_32 rfl (by exact hp0 _ _ ⟨rfl, hM1, VO.vx hA1 hS1 VO.rf, (gI_n (Or.inl (by decide))).trans gI_s, fun j hj => (gI_n (Or.inl (by decide))).trans ((gI_n (Or.inl (by decide))).trans (hB1 j hj)), fun q => absurd (by rw [q]; decide) c_29, fun _ => gI_s, c, (gI_n (Or.inl (by decide))).trans ((gI_n (Or.inl (by decide))).trans hC1)⟩)
