/-! the class: a method is read -/
def KM (σ : fr_S) (e : Nat) (F : Nat → Nat → Nat) (m w : Nat) : Prop := gI σ e 4 = nI (tt (F 2 m)) ∧ gI σ e 5 = nI (F 3 m) ∧ gI σ e 6 = nI w ∧ gI σ e 7 = nI (F 5 m) ∧ gI σ e 8 = nI (F 6 m) ∧ (∀ k, k < 3 → gI σ (e + 1) k = nI (tt (F 4 (3 * m + k)))) ∧ ∀ j, j < 40 → gI σ (e + 2) j = nI (F 7 (40 * m + j))
def PR (e o k : Nat) : Prop := P1 o k ∨ (o = e ∧ 4 ≤ k ∧ k ≤ 8) ∨ o = e + 1 ∨ o = e + 2
theorem ME.h32 {e : Nat} (hE : ME e) : 32 ≤ e := by obtain ⟨q, m, hq, hm, rfl⟩ := hE; rcases hq with rfl | rfl <;> omega
section KMS
variable {σ σ' : fr_S} {e : Nat} {F : Nat → Nat → Nat} {m w : Nat}
theorem CM.km (h : CM σ e F m) : KM σ e F m (pwF F m) := h
theorem KM.cm (h : KM σ e F m w) (hw : w = pwF F m) : CM σ e F m := by subst hw; exact h
theorem KM.p1 (hE : ME e) (h : KM σ e F m w) (a : Agp P1 σ σ') : KM σ' e F m w := by
  have := (kd_M hE).2.2.2.2.2
  have he : 32 ≤ e := by obtain ⟨q, m, hq, hm, rfl⟩ := hE; rcases hq with rfl | rfl <;> omega
  obtain ⟨a4, a5, a6, a7, a8, ap, au⟩ := h
  exact ⟨(a.1 _ _ (by unfold P1; omega)).trans a4, (a.1 _ _ (by unfold P1; omega)).trans a5, (a.1 _ _ (by unfold P1; omega)).trans a6, (a.1 _ _ (by unfold P1; omega)).trans a7, (a.1 _ _ (by unfold P1; omega)).trans a8, fun k hk => (a.1 _ _ (by unfold P1; omega)).trans (ap k hk), fun j hj => (a.1 _ _ (by unfold P1; omega)).trans (au j hj)⟩
theorem KM.w4 (h : KM σ e F m w) {t : Nat} : KM (sI σ e 4 (nI (tt t))) e (uf F 2 m t) m w := by
  obtain ⟨a4, a5, a6, a7, a8, ap, au⟩ := h
  refine ⟨by rw [uf_s]; exact gI_s, (gI_n (Or.inr (by decide))).trans a5, (gI_n (Or.inr (by decide))).trans a6, (gI_n (Or.inr (by decide))).trans a7, (gI_n (Or.inr (by decide))).trans a8, fun k hk => (gI_n (Or.inl (by omega))).trans (ap k hk), fun j hj => (gI_n (Or.inl (by omega))).trans (au j hj)⟩
theorem KM.w5 (h : KM σ e F m w) {t : Nat} : KM (sI σ e 5 (nI t)) e (uf F 3 m t) m w := by
  obtain ⟨a4, a5, a6, a7, a8, ap, au⟩ := h
  refine ⟨(gI_n (Or.inr (by decide))).trans a4, by rw [uf_s]; exact gI_s, (gI_n (Or.inr (by decide))).trans a6, (gI_n (Or.inr (by decide))).trans a7, (gI_n (Or.inr (by decide))).trans a8, fun k hk => (gI_n (Or.inl (by omega))).trans (ap k hk), fun j hj => (gI_n (Or.inl (by omega))).trans (au j hj)⟩
theorem KM.w6 (h : KM σ e F m w) {t : Nat} {x : Int32} (hx : x = nI t) : KM (sI σ e 6 x) e F m t := by
  obtain ⟨a4, a5, a6, a7, a8, ap, au⟩ := h
  refine ⟨(gI_n (Or.inr (by decide))).trans a4, (gI_n (Or.inr (by decide))).trans a5, gI_s.trans hx, (gI_n (Or.inr (by decide))).trans a7, (gI_n (Or.inr (by decide))).trans a8, fun k hk => (gI_n (Or.inl (by omega))).trans (ap k hk), fun j hj => (gI_n (Or.inl (by omega))).trans (au j hj)⟩
theorem KM.w7 (h : KM σ e F m w) {t : Nat} : KM (sI σ e 7 (nI t)) e (uf F 5 m t) m w := by
  obtain ⟨a4, a5, a6, a7, a8, ap, au⟩ := h
  refine ⟨(gI_n (Or.inr (by decide))).trans a4, (gI_n (Or.inr (by decide))).trans a5, (gI_n (Or.inr (by decide))).trans a6, by rw [uf_s]; exact gI_s, (gI_n (Or.inr (by decide))).trans a8, fun k hk => (gI_n (Or.inl (by omega))).trans (ap k hk), fun j hj => (gI_n (Or.inl (by omega))).trans (au j hj)⟩
theorem KM.w8 (h : KM σ e F m w) {t : Nat} : KM (sI σ e 8 (nI t)) e (uf F 6 m t) m w := by
  obtain ⟨a4, a5, a6, a7, a8, ap, au⟩ := h
  refine ⟨(gI_n (Or.inr (by decide))).trans a4, (gI_n (Or.inr (by decide))).trans a5, (gI_n (Or.inr (by decide))).trans a6, (gI_n (Or.inr (by decide))).trans a7, by rw [uf_s]; exact gI_s, fun k hk => (gI_n (Or.inl (by omega))).trans (ap k hk), fun j hj => (gI_n (Or.inl (by omega))).trans (au j hj)⟩
theorem KM.wp (h : KM σ e F m w) {k t : Nat} : KM (sI σ (e + 1) k (nI (tt t))) e (uf F 4 (3 * m + k) t) m w := by
  obtain ⟨a4, a5, a6, a7, a8, ap, au⟩ := h
  refine ⟨(gI_n (Or.inl (by omega))).trans a4, (gI_n (Or.inl (by omega))).trans a5, (gI_n (Or.inl (by omega))).trans a6, (gI_n (Or.inl (by omega))).trans a7, (gI_n (Or.inl (by omega))).trans a8, fun i hi => ?_, fun j hj => (gI_n (Or.inl (by omega))).trans (au j hj)⟩
  by_cases c : i = k
  · subst c
    rw [gI_s, uf_s]
  · rw [gI_n (Or.inr c), uf_n (Or.inr (by omega))]
    exact ap i hi
theorem KM.wu (h : KM σ e F m w) {k t : Nat} : KM (sI σ (e + 2) k (nI t)) e (uf F 7 (40 * m + k) t) m w := by
  obtain ⟨a4, a5, a6, a7, a8, ap, au⟩ := h
  refine ⟨(gI_n (Or.inl (by omega))).trans a4, (gI_n (Or.inl (by omega))).trans a5, (gI_n (Or.inl (by omega))).trans a6, (gI_n (Or.inl (by omega))).trans a7, (gI_n (Or.inl (by omega))).trans a8, fun i hi => (gI_n (Or.inl (by omega))).trans (ap i hi), fun i hi => ?_⟩
  by_cases c : i = k
  · subst c
    rw [gI_s, uf_s]
  · rw [gI_n (Or.inr c), uf_n (Or.inr (by omega))]
    exact au i hi
theorem KPs.wr (h32 : 32 ≤ e) {s : PS} (h : KPs σ s) {o k : Nat} {x : Int32} (ho : e ≤ o) : KPs (sI σ o k x) s := ⟨h.1, (gI_n (Or.inl (by omega))).trans h.2.1, fun q => (gI_n (Or.inl (by omega))).trans (h.2.2 q)⟩
theorem KB.wr (h32 : 32 ≤ e) {b : Nat → Nat} {n : Nat} (h : KB σ b n) {o k : Nat} {x : Int32} (ho : e ≤ o) : KB (sI σ o k x) b n := ⟨(gI_n (Or.inl (by omega))).trans h.1, h.2.1, fun j hj => (gI_n (Or.inl (by omega))).trans (h.2.2.1 j hj), h.2.2.2⟩
theorem KB.pr (h32 : 32 ≤ e) {b : Nat → Nat} {n : Nat} (h : KB σ b n) (a : Agp (PR e) σ σ') : KB σ' b n := ⟨(a.1 1 1 (by unfold PR P1; omega)).trans h.1, h.2.1, fun j hj => (a.1 2 j (by unfold PR P1; omega)).trans (h.2.2.1 j hj), h.2.2.2⟩
end KMS


theorem rtC_o {b : Nat → Nat} {n m : Nat} {q : (Nat → Nat → Nat) × PS} {a y : Nat} (h : a = 3 ∨ a = 4) : (rtC b n m q).1 a y = q.1 a y := by
  show (rdU b n m _ _).1 a y = _
  rw [rdU_o (by omega)]
  show uf (uf _ _ _ _) _ _ _ _ _ = _
  rw [uf_n (Or.inl (by omega)), uf_n (Or.inl (by omega))]
theorem rtC_pw {b : Nat → Nat} {n m : Nat} {q : (Nat → Nat → Nat) × PS} : pwF (rtC b n m q).1 m = pwF q.1 m := by
  unfold pwF
  rw [rtC_o (Or.inl rfl)]
  exact sw_cg fun j _ => rtC_o (Or.inr rfl)

set_option maxRecDepth 100000 in
set_option maxHeartbeats 1000000 in
theorem k_readFrom_l2 {l : Launch} {G : fr_G} {σ : fr_S} {e : Nat} (hE : ME e) (hR0 : RF σ) {b : Nat → Nat} {n : Nat} (hB0 : KB σ b n) {m : Nat} {Post : Option Value → fr_S → Prop} {cnt : Nat} (hcnt : cnt ≤ 40) {F3 : Nat → Nat → Nat} {s3 : PS} {w : Nat} (h63 : ∀ j, (rdU b n m j (F3, s3)).1 6 m = cnt) (hq : ∀ σ', Agp (PR e) σ σ' → KPs σ' (rdU b n m cnt (F3, s3)).2 → KM σ' e (rdU b n m cnt (F3, s3)).1 m w → FW8 (rdU b n m cnt (F3, s3)).1 → Post none σ') : ∀ (d : Nat) (j : Nat) (σ1 : fr_S), cnt - j < d → j ≤ cnt → Agp (PR e) σ σ1 → KPs σ1 (rdU b n m j (F3, s3)).2 → KM σ1 e (rdU b n m j (F3, s3)).1 m w → FW8 (rdU b n m j (F3, s3)).1 → PX l G yy_Me_readFrom rm_Me_readFrom (QR G false 742 0 0 Post) false 742 0 0 110 [(0, .ref (e)), (1, .ref (1)), (2, .int (nI (j)))] [] (σ1) := by
  intro d
  induction d with
  | zero => intro j σ1 hd; exact absurd hd (Nat.not_lt_zero _)
  | succ d ih =>
    intro j σ1 hd hj hA0 hP hK hW8
    have h32 := hE.h32
    have kM := kd_M hE
    have hR := hA0.rfs hR0
    have hB := hB0.pr h32 hA0
    refine px_iload_n dx_Me_readFrom_110 rfl ?_
    refine px_aload_n dx_Me_readFrom_111 rfl ?_
    refine px_getI dx_Me_readFrom_112 fl_Me_41 kM.1 (by omega) rfl ?_
    refine px_eqi (y := nI (cnt)) (hK.2.2.2.2.1.trans (congrArg nI (h63 j))) ?_
    refine px_icmp_geN (a := j) (b := cnt) dx_Me_readFrom_115 (by omega) (by omega) (fun c_115 => ?_) (fun c_115 => ?_)
    · exact px_vret dx_Me_readFrom_162 rfl (by (obtain rfl : j = cnt := by omega); exact hq _ hA0 hP hK hW8)
    · refine px_iload_n dx_Me_readFrom_118 rfl ?_
      refine px_aload_n dx_Me_readFrom_119 rfl ?_
      refine px_getR (r := e + 2) dx_Me_readFrom_120 fl_Me_15 kM.1 (by omega) rfl (hR.2.2.2.2.1 e hE).2.1 ?_
      refine px_alen (v := 40) dx_Me_readFrom_123 kM.2.2.1 (by decide) (by omega) rfl ?_
      refine px_icmp_geN (a := j) (b := 40) dx_Me_readFrom_124 (by omega) (by omega) (fun c_124 => ?_) (fun c_124 => ?_)
      · exact px_vret dx_Me_readFrom_162 rfl (by (obtain rfl : j = cnt := by omega); exact hq _ hA0 hP hK hW8)
      · refine px_aload_n dx_Me_readFrom_127 rfl ?_
        refine px_iconst (v := 0) dx_Me_readFrom_128 rfl ?_
        refine px_sipush (v := 255) dx_Me_readFrom_129 rfl ?_
        obtain ⟨x_132, hx_132⟩ : ∃ z, z = nx b n (0) (255) (0) ((rdU b n m j (F3, s3)).2) := ⟨_, rfl⟩
        have hbx_132 : x_132.1 ≤ 255 := hx_132 ▸ nx_le (by decide)
        refine px_cVR (Y := yy_Me_readFrom) (Yc := yy_Fb_take) (b := 1) (As := [.int (0), .int (255)]) dx_Me_readFrom_132 ml_Me_52 mv_Fb_take np_Fb_take ⟨_, rfl⟩ (by decide) rfl (by decide) rfl (Nat.le_of_ble_eq_true rfl) (Nat.le_of_ble_eq_true rfl) rk_Me_readFrom_Fb_take rfl (k_takex (lo := 0) (hi := 255) hR hB hP (by decide) (by decide) hx_132) zz_0 (fun r_132 τ_132 h_132 => ?_)
        obtain ⟨rfl, hA, hP⟩ := h_132
        have hB := hB.p1 hA
        have hR := hA.rfs hR
        have hA0 := hA0.tr (hA.mono fun o k h => Or.inl h)
        have hK := hK.p1 hE hA
        refine px_istore_n (lv' := [(3, .int (nI (x_132.1))), (0, .ref (e)), (1, .ref (1)), (2, .int (nI (j)))]) dx_Me_readFrom_135 (by decide) rfl ?_
        refine px_aload_n dx_Me_readFrom_136 rfl ?_
        refine px_getR (r := e + 2) dx_Me_readFrom_137 fl_Me_15 kM.1 (by omega) rfl (hR.2.2.2.2.1 e hE).2.1 ?_
        refine px_iload_n dx_Me_readFrom_140 rfl ?_
        refine px_iload_n dx_Me_readFrom_141 rfl ?_
        refine px_sipush (v := 256) dx_Me_readFrom_142 rfl ?_
        refine px_aload_n dx_Me_readFrom_145 rfl ?_
        refine px_iconst (v := 0) dx_Me_readFrom_146 rfl ?_
        refine px_sipush (v := 255) dx_Me_readFrom_147 rfl ?_
        obtain ⟨x_150, hx_150⟩ : ∃ z, z = nx b n (0) (255) (0) x_132.2 := ⟨_, rfl⟩
        have hbx_150 : x_150.1 ≤ 255 := hx_150 ▸ nx_le (by decide)
        refine px_cVR (Y := yy_Me_readFrom) (Yc := yy_Fb_take) (b := 1) (As := [.int (0), .int (255)]) dx_Me_readFrom_150 ml_Me_52 mv_Fb_take np_Fb_take ⟨_, rfl⟩ (by decide) rfl (by decide) rfl (Nat.le_of_ble_eq_true rfl) (Nat.le_of_ble_eq_true rfl) rk_Me_readFrom_Fb_take rfl (k_takex (lo := 0) (hi := 255) hR hB hP (by decide) (by decide) hx_150) zz_0 (fun r_150 τ_150 h_150 => ?_)
        obtain ⟨rfl, hA, hP⟩ := h_150
        have hB := hB.p1 hA
        have hR := hA.rfs hR
        have hA0 := hA0.tr (hA.mono fun o k h => Or.inl h)
        have hK := hK.p1 hE hA
        refine px_imulN (a := 256) (b := x_150.1) dx_Me_readFrom_153 ?_
        refine px_iaddN (a := x_132.1) (b := 256 * x_150.1) dx_Me_readFrom_154 ?_
        refine px_iastN (j := j) dx_Me_readFrom_155 kM.2.2.1 (by omega) (by omega) ?_
        refine px_iinc (v := (nI (j + 1))) (lv' := [(2, .int (nI (j + 1))), (3, .int (nI (x_132.1))), (0, .ref (e)), (1, .ref (1))]) dx_Me_readFrom_156 rfl (nI_1 _) (by decide) rfl ?_
        refine px_goto dx_Me_readFrom_159 ?_
        refine px_sub [2, 3, 0] rfl ?_
        have hK := hK.wu (k := j) (t := x_132.1 + 256 * x_150.1)
        have hP := hP.wr h32 (o := e + 2) (k := j) (x := nI (x_132.1 + 256 * x_150.1)) (by omega)
        exact ih (j + 1) _ (by omega) (by omega) (hA0.w (by unfold PR; omega)) (by rw [hx_150, hx_132] at hP; rw [hx_150, hx_132]; exact hP) (by rw [hx_150, hx_132] at hK; rw [hx_150, hx_132]; exact hK) (by have := hW8.w (a := 7) (k := 40 * m + j) (v := x_132.1 + 256 * x_150.1) (by show _ ≤ 65535; omega); rw [hx_150, hx_132] at this; exact this)

theorem rdNc_le {u : Nat × PS} : rdNc u ≤ 40 := by
  unfold rdNc
  split <;> omega

set_option maxRecDepth 100000 in
set_option maxHeartbeats 1000000 in
theorem k_readFrom_m {l : Launch} {G : fr_G} {σ σ1 : fr_S} {e : Nat} (hE : ME e) (hR0 : RF σ) {b : Nat → Nat} {n : Nat} (hB0 : KB σ b n) {m : Nat} {F1 : Nat → Nat → Nat} {s1 : PS} (hW1 : FW8 F1) (hA0 : Agp (PR e) σ σ1) (hP : KPs σ1 s1) (hK : KM σ1 e F1 m (pwF F1 m)) {Post : Option Value → fr_S → Prop} (hp0 : ∀ r σ', (fun r0 σ' => r0 = none ∧ Agp (PR e) σ σ' ∧ KPs σ' (rtC b n m (F1, s1)).2 ∧ CM σ' e (rtC b n m (F1, s1)).1 m ∧ FW8 (rtC b n m (F1, s1)).1) r σ' → Post r σ') : PX l G yy_Me_readFrom rm_Me_readFrom (QR G false 742 0 0 Post) false 742 0 0 86 [(0, .ref e), (1, .ref 1)] [] σ1 := by
  have h32 := hE.h32
  have kM := kd_M hE
  have hR := hA0.rfs hR0
  have hB := hB0.pr h32 hA0
  have hp6 := pwF_le hW1.fw m
  refine px_aload_n dx_Me_readFrom_86 rfl ?_
  refine px_aload_n dx_Me_readFrom_87 rfl ?_
  refine px_aload_n dx_Me_readFrom_88 rfl ?_
  refine px_getI dx_Me_readFrom_89 fl_Me_35 kM.1 (by omega) rfl ?_
  refine px_eqi (y := nI (pwF F1 m)) hK.2.2.1 ?_
  refine px_bipush (v := 10) dx_Me_readFrom_92 rfl ?_
  obtain ⟨x_94, hx_94⟩ : ∃ z, z = nx b n (pwF F1 m) (10) (pwF F1 m) s1 := ⟨_, rfl⟩
  have hbx_94 : x_94.1 ≤ 10 := hx_94 ▸ nx_le (by omega)
  refine px_cVR (Y := yy_Me_readFrom) (Yc := yy_Fb_take) (b := 1) (As := [.int (nI (pwF F1 m)), .int (10)]) dx_Me_readFrom_94 ml_Me_52 mv_Fb_take np_Fb_take ⟨_, rfl⟩ (by decide) rfl (by decide) rfl (Nat.le_of_ble_eq_true rfl) (Nat.le_of_ble_eq_true rfl) rk_Me_readFrom_Fb_take rfl (k_takex (lo := pwF F1 m) (hi := 10) hR hB hP (by omega) (by decide) hx_94) zz_0 (fun r_94 τ_94 h_94 => ?_)
  obtain ⟨rfl, hA, hP⟩ := h_94
  have hB := hB.p1 hA
  have hR := hA.rfs hR
  have hA0 := hA0.tr (hA.mono fun o k h => Or.inl h)
  have hK := hK.p1 hE hA
  refine px_putI dx_Me_readFrom_97 fl_Me_38 kM.1 (by omega) rfl ?_
  obtain ⟨σ_100, hσ_100⟩ : ∃ z, z = sI τ_94 e 7 (nI (x_94.1)) := ⟨_, rfl⟩
  rw [← hσ_100]
  have hK := hK.w7 (t := x_94.1)
  rw [← hσ_100] at hK
  have hP := hP.wr h32 (o := e) (k := 7) (x := nI x_94.1) (by omega)
  rw [← hσ_100] at hP
  have hB := hB.wr h32 (o := e) (k := 7) (x := nI x_94.1) (by omega)
  rw [← hσ_100] at hB
  have hA0 := hA0.w (o := e) (k := 7) (v := nI x_94.1) (by unfold PR; omega)
  rw [← hσ_100] at hA0
  have hR := hA0.rfs hR0
  have hW2 := hW1.w (a := 5) (k := m) (v := x_94.1) (by show _ ≤ 10; omega)
  refine px_aload_n dx_Me_readFrom_100 rfl ?_
  refine px_aload_n dx_Me_readFrom_101 rfl ?_
  refine px_cVR (Y := yy_Me_readFrom) (Yc := yy_Fb_takeUnitCount) (b := 1) (As := []) dx_Me_readFrom_102 ml_Me_65 mv_Fb_takeUnitCount np_Fb_takeUnitCount ⟨_, rfl⟩ (by decide) rfl (by decide) rfl (Nat.le_of_ble_eq_true rfl) (Nat.le_of_ble_eq_true rfl) rk_Me_readFrom_Fb_takeUnitCount rfl (k_unitCount hR hB hP) zz_0 (fun r_102 τ_102 h_102 => ?_)
  obtain ⟨rfl, hA, hP⟩ := h_102
  have hB := hB.p1 hA
  have hR := hA.rfs hR
  have hA0 := hA0.tr (hA.mono fun o k h => Or.inl h)
  have hK := hK.p1 hE hA
  refine px_putI dx_Me_readFrom_105 fl_Me_41 kM.1 (by omega) rfl ?_
  obtain ⟨σ_108, hσ_108⟩ : ∃ z, z = sI τ_102 e 8 (nI (rdNc (rdN b n x_94.2))) := ⟨_, rfl⟩
  rw [← hσ_108]
  have hK := hK.w8 (t := rdNc (rdN b n x_94.2))
  rw [← hσ_108] at hK
  have hP := hP.wr h32 (o := e) (k := 8) (x := nI (rdNc (rdN b n x_94.2))) (by omega)
  rw [← hσ_108] at hP
  have hB := hB.wr h32 (o := e) (k := 8) (x := nI (rdNc (rdN b n x_94.2))) (by omega)
  rw [← hσ_108] at hB
  have hA0 := hA0.w (o := e) (k := 8) (v := nI (rdNc (rdN b n x_94.2))) (by unfold PR; omega)
  rw [← hσ_108] at hA0
  have hR := hA0.rfs hR0
  have hW3 := hW2.w (a := 6) (k := m) (v := rdNc (rdN b n x_94.2)) rdNc_le
  refine px_iconst (v := 0) dx_Me_readFrom_108 rfl ?_
  refine px_istore_n (lv' := [(2, .int (0)), (0, .ref (e)), (1, .ref (1))]) dx_Me_readFrom_109 (by decide) rfl ?_
  have er : rtC b n m (F1, s1) = rdU b n m (rdNc (rdN b n x_94.2)) (uf (uf F1 5 m x_94.1) 6 m (rdNc (rdN b n x_94.2)), rdS (rdN b n x_94.2)) := by (rw [hx_94]; rfl)
  refine px_sub [1, 2, 0] rfl ?_
  exact k_readFrom_l2 (σ := σ) hE hR0 hB0 (cnt := rdNc (rdN b n x_94.2)) rdNc_le (F3 := uf (uf F1 5 m x_94.1) 6 m (rdNc (rdN b n x_94.2))) (s3 := rdS (rdN b n x_94.2)) (w := pwF F1 m) (fun j => by rw [rdU_o (by decide)]; exact uf_s) (fun σ' a1 b1 c1 d1 => hp0 _ _ ⟨rfl, a1, by rw [er]; exact b1, by (have z := rtC_pw (b := b) (n := n) (m := m) (q := (F1, s1))); rw [er] at z ⊢; exact c1.cm z.symm, by rw [er]; exact d1⟩) (rdNc (rdN b n x_94.2) + 1) 0 _ (by omega) (by omega) hA0 hP hK hW3

theorem agK_uf {F : Nat → Nat → Nat} {m j t : Nat} : agK (uf F 4 (3 * m + j) t) m (j + 1) = agK F m j + wdt t := by
  rw [agK_s, uf_s]
  congr 1
  exact sw_cg fun i hi => uf_n (Or.inr (by omega))


theorem KM.cm2 {σ : fr_S} {e : Nat} {F : Nat → Nat → Nat} {m w w' : Nat} (h : KM σ e F m w) (hw : w = w') : KM σ e F m w' := by subst hw; exact h

set_option maxRecDepth 100000 in
set_option maxHeartbeats 1000000 in
theorem k_readFrom_l1 {l : Launch} {G : fr_G} {σ : fr_S} {e : Nat} (hE : ME e) (hR0 : RF σ) {b : Nat → Nat} {n : Nat} (hB0 : KB σ b n) {m p : Nat} (hp3 : p ≤ 3) {F2 : Nat → Nat → Nat} {s2 : PS} (h3 : F2 3 m = p) {Post : Option Value → fr_S → Prop} (hp0 : ∀ r σ', (fun r0 σ' => r0 = none ∧ Agp (PR e) σ σ' ∧ KPs σ' (rtC b n m (rdP b n m true p (F2, s2))).2 ∧ CM σ' e (rtC b n m (rdP b n m true p (F2, s2))).1 m ∧ FW8 (rtC b n m (rdP b n m true p (F2, s2))).1) r σ' → Post r σ') : ∀ (d : Nat) (j : Nat) (σ1 : fr_S), p - j < d → j ≤ p → Agp (PR e) σ σ1 → KPs σ1 (rdP b n m true j (F2, s2)).2 → KM σ1 e (rdP b n m true j (F2, s2)).1 m (agK (rdP b n m true j (F2, s2)).1 m j) → FW8 (rdP b n m true j (F2, s2)).1 → PX l G yy_Me_readFrom rm_Me_readFrom (QR G false 742 0 0 Post) false 742 0 0 30 [(0, .ref (e)), (1, .ref (1)), (2, .int (nI (j)))] [] (σ1) := by
  intro d
  induction d with
  | zero => intro j σ1 hd; exact absurd hd (Nat.not_lt_zero _)
  | succ d ih =>
    intro j σ1 hd hj hA0 hP hK hW8
    have h32 := hE.h32
    have kM := kd_M hE
    have hR := hA0.rfs hR0
    have hB := hB0.pr h32 hA0
    refine px_iload_n dx_Me_readFrom_30 rfl ?_
    refine px_aload_n dx_Me_readFrom_31 rfl ?_
    refine px_getI dx_Me_readFrom_32 fl_Me_32 kM.1 (by omega) rfl ?_
    refine px_eqi (y := nI (p)) (hK.2.1.trans (congrArg nI ((rdP_o (by decide) _).trans h3))) ?_
    refine px_icmp_geN (a := j) (b := p) dx_Me_readFrom_35 (by omega) (by omega) (fun c_35 => ?_) (fun c_35 => ?_)
    · refine px_sub [0, 1] rfl ?_
      obtain rfl : j = p := by omega
      exact k_readFrom_m (σ := σ) hE hR0 hB0 hW8 hA0 hP (hK.cm2 (by (show _ = sw _ ((rdP b n m true j (F2, s2)).1 3 m)); rw [rdP_o (by decide), show (F2, s2).1 3 m = j from h3]; rfl)) hp0
    · refine px_iload_n dx_Me_readFrom_38 rfl ?_
      refine px_aload_n dx_Me_readFrom_39 rfl ?_
      refine px_getR (r := e + 1) dx_Me_readFrom_40 fl_Me_9 kM.1 (by omega) rfl (hR.2.2.2.2.1 e hE).1 ?_
      refine px_alen (v := 3) dx_Me_readFrom_43 kM.2.1 (by decide) (by omega) rfl ?_
      refine px_icmp_geN (a := j) (b := 3) dx_Me_readFrom_44 (by omega) (by omega) (fun c_44 => ?_) (fun c_44 => ?_)
      · exfalso; omega
      · refine px_aload_n dx_Me_readFrom_47 rfl ?_
        refine px_getR (r := e + 1) dx_Me_readFrom_48 fl_Me_9 kM.1 (by omega) rfl (hR.2.2.2.2.1 e hE).1 ?_
        refine px_iload_n dx_Me_readFrom_51 rfl ?_
        refine px_aload_n dx_Me_readFrom_52 rfl ?_
        refine px_iconst (v := 1) dx_Me_readFrom_53 rfl ?_
        refine px_iconst (v := 4) dx_Me_readFrom_54 rfl ?_
        obtain ⟨x_55, hx_55⟩ : ∃ z, z = nx b n (1) (4) (1) ((rdP b n m true j (F2, s2)).2) := ⟨_, rfl⟩
        have hbx_55 : x_55.1 ≤ 4 := hx_55 ▸ nx_le (by decide)
        refine px_cVR (Y := yy_Me_readFrom) (Yc := yy_Fb_take) (b := 1) (As := [.int (1), .int (4)]) dx_Me_readFrom_55 ml_Me_52 mv_Fb_take np_Fb_take ⟨_, rfl⟩ (by decide) rfl (by decide) rfl (Nat.le_of_ble_eq_true rfl) (Nat.le_of_ble_eq_true rfl) rk_Me_readFrom_Fb_take rfl (k_takex (lo := 1) (hi := 4) hR hB hP (by decide) (by decide) hx_55) zz_0 (fun r_55 τ_55 h_55 => ?_)
        obtain ⟨rfl, hA, hP⟩ := h_55
        have hB := hB.p1 hA
        have hR := hA.rfs hR
        have hA0 := hA0.tr (hA.mono fun o k h => Or.inl h)
        have hK := hK.p1 hE hA
        refine px_cS (Y := yy_Me_readFrom) (Yc := yy_Me_typeTold) (As := [.int (nI (x_55.1))]) dx_Me_readFrom_58 ml_Me_58 ms_Me_typeTold np_Me_typeTold rfl (Nat.le_of_ble_eq_true rfl) (Nat.le_of_ble_eq_true rfl) rk_Me_readFrom_Me_typeTold rfl (k_typeTold (t := x_55.1) (by omega)) zz_0 ?_
        refine px_iastN (j := j) dx_Me_readFrom_61 kM.2.1 (by omega) (by omega) ?_
        obtain ⟨σ_62, hσ_62⟩ : ∃ z, z = sI τ_55 (e + 1) j (nI (tt x_55.1)) := ⟨_, rfl⟩
        rw [← hσ_62]
        have hK := hK.wp (k := j) (t := x_55.1)
        rw [← hσ_62] at hK
        have hP := hP.wr h32 (o := e + 1) (k := j) (x := nI (tt x_55.1)) (by omega)
        rw [← hσ_62] at hP
        have hB := hB.wr h32 (o := e + 1) (k := j) (x := nI (tt x_55.1)) (by omega)
        rw [← hσ_62] at hB
        have hA0 := hA0.w (o := e + 1) (k := j) (v := nI (tt x_55.1)) (by unfold PR; omega)
        rw [← hσ_62] at hA0
        have hR := hA0.rfs hR0
        have hW8 := hW8.w (a := 4) (k := 3 * m + j) (v := x_55.1) hbx_55
        refine px_aload_n dx_Me_readFrom_62 rfl ?_
        refine px_dup dx_Me_readFrom_63 rfl ?_
        refine px_getI dx_Me_readFrom_64 fl_Me_35 kM.1 (by omega) rfl ?_
        refine px_eqi (y := nI (agK (rdP b n m true j (F2, s2)).1 m j)) hK.2.2.1 ?_
        refine px_aload_n dx_Me_readFrom_67 rfl ?_
        refine px_getR (r := e + 1) dx_Me_readFrom_68 fl_Me_9 kM.1 (by omega) rfl (hR.2.2.2.2.1 e hE).1 ?_
        refine px_iload_n dx_Me_readFrom_71 rfl ?_
        refine px_ialdN (j := j) dx_Me_readFrom_72 kM.2.1 (by omega) (by omega) ?_
        refine px_eqi (y := nI (tt x_55.1)) ((hK.2.2.2.2.2.1 j (by omega)).trans (by rw [uf_s])) ?_
        refine px_cS (Y := yy_Me_readFrom) (Yc := yy_V_widthOf) (As := [.int (nI (tt x_55.1))]) dx_Me_readFrom_73 ml_Me_62 ms_V_widthOf np_V_widthOf rfl (Nat.le_of_ble_eq_true rfl) (Nat.le_of_ble_eq_true rfl) rk_Me_readFrom_V_widthOf rfl (k_widthOf (x := tt x_55.1) (by have := tt_b _ hbx_55; omega)) zz_0 ?_
        refine px_eqi (y := nI (wdt x_55.1)) (congrArg nI (wdc_w hbx_55)) ?_
        refine px_iaddN (a := agK (rdP b n m true j (F2, s2)).1 m j) (b := wdt x_55.1) dx_Me_readFrom_76 ?_
        refine px_putI dx_Me_readFrom_77 fl_Me_35 kM.1 (by omega) rfl ?_
        refine px_iinc (v := (nI (j + 1))) (lv' := [(2, .int (nI (j + 1))), (0, .ref (e)), (1, .ref (1))]) dx_Me_readFrom_80 rfl (nI_1 _) (by decide) rfl ?_
        refine px_goto dx_Me_readFrom_83 ?_
        refine px_sub [1, 2, 0] rfl ?_
        have hK := hK.w6 (t := agK (rdP b n m true j (F2, s2)).1 m j + wdt x_55.1) (x := nI (agK (rdP b n m true j (F2, s2)).1 m j + wdt x_55.1)) rfl
        have hP := hP.wr h32 (o := e) (k := 6) (x := nI (agK (rdP b n m true j (F2, s2)).1 m j + wdt x_55.1)) (by omega)
        have e1 : (rdP b n m true (j + 1) (F2, s2)) = (uf (rdP b n m true j (F2, s2)).1 4 (3 * m + j) x_55.1, x_55.2) := by (rw [hx_55]; rfl)
        exact ih (j + 1) _ (by omega) (by omega) (hA0.w (by unfold PR; omega)) (by rw [e1]; exact hP) (by rw [e1]; exact hK.cm2 agK_uf.symm) (by rw [e1]; exact hW8)
set_option maxRecDepth 100000 in
set_option maxHeartbeats 1000000 in
theorem k_readFrom {l : Launch} {G : fr_G} {σ : fr_S} {e : Nat} (hE : ME e) (hR0 : RF σ) {b : Nat → Nat} {n : Nat} (hB0 : KB σ b n) {m : Nat} {F : Nat → Nat → Nat} {s : PS} (hW0 : FW8 F) (hC : CM σ e F m) (hP0 : KPs σ s) : CR l G yy_Me_readFrom rm_Me_readFrom [.ref (e), .ref (1)] σ (fun r0 σ' => r0 = none ∧ Agp (PR e) σ σ' ∧ KPs σ' (rdMC b n m F s).2 ∧ CM σ' e (rdMC b n m F s).1 m ∧ FW8 (rdMC b n m F s).1) := by
  intro Post hp0
  show PX l G yy_Me_readFrom rm_Me_readFrom _ false 742 0 0 0 [(0, .ref (e)), (1, .ref (1))] [] σ
  have h32 := hE.h32
  have kM := kd_M hE
  have hR := hR0
  have hB := hB0
  have hP := hP0
  have hK := hC.km
  have hW8 := hW0
  have hA0 : Agp (PR e) σ σ := Agp.rf
  refine px_aload_n dx_Me_readFrom_0 rfl ?_
  refine px_aload_n dx_Me_readFrom_1 rfl ?_
  refine px_iconst (v := 0) dx_Me_readFrom_2 rfl ?_
  refine px_iconst (v := 4) dx_Me_readFrom_3 rfl ?_
  obtain ⟨x_4, hx_4⟩ : ∃ z, z = nx b n (0) (4) (0) s := ⟨_, rfl⟩
  have hbx_4 : x_4.1 ≤ 4 := hx_4 ▸ nx_le (by decide)
  refine px_cVR (Y := yy_Me_readFrom) (Yc := yy_Fb_take) (b := 1) (As := [.int (0), .int (4)]) dx_Me_readFrom_4 ml_Me_52 mv_Fb_take np_Fb_take ⟨_, rfl⟩ (by decide) rfl (by decide) rfl (Nat.le_of_ble_eq_true rfl) (Nat.le_of_ble_eq_true rfl) rk_Me_readFrom_Fb_take rfl (k_takex (lo := 0) (hi := 4) hR hB hP (by decide) (by decide) hx_4) zz_0 (fun r_4 τ_4 h_4 => ?_)
  obtain ⟨rfl, hA, hP⟩ := h_4
  have hB := hB.p1 hA
  have hR := hA.rfs hR
  have hA0 := hA0.tr (hA.mono fun o k h => Or.inl h)
  have hK := hK.p1 hE hA
  refine px_cS (Y := yy_Me_readFrom) (Yc := yy_Me_typeTold) (As := [.int (nI (x_4.1))]) dx_Me_readFrom_7 ml_Me_58 ms_Me_typeTold np_Me_typeTold rfl (Nat.le_of_ble_eq_true rfl) (Nat.le_of_ble_eq_true rfl) rk_Me_readFrom_Me_typeTold rfl (k_typeTold (t := x_4.1) (by omega)) zz_0 ?_
  refine px_putI dx_Me_readFrom_10 fl_Me_28 kM.1 (by omega) rfl ?_
  obtain ⟨σ_13, hσ_13⟩ : ∃ z, z = sI τ_4 e 4 (nI (tt x_4.1)) := ⟨_, rfl⟩
  rw [← hσ_13]
  have hK := hK.w4 (t := x_4.1)
  rw [← hσ_13] at hK
  have hP := hP.wr h32 (o := e) (k := 4) (x := nI (tt x_4.1)) (by omega)
  rw [← hσ_13] at hP
  have hB := hB.wr h32 (o := e) (k := 4) (x := nI (tt x_4.1)) (by omega)
  rw [← hσ_13] at hB
  have hA0 := hA0.w (o := e) (k := 4) (v := nI (tt x_4.1)) (by unfold PR; omega)
  rw [← hσ_13] at hA0
  have hR := hA0.rfs hR0
  have hW8 := hW8.w (a := 2) (k := m) (v := x_4.1) hbx_4
  refine px_aload_n dx_Me_readFrom_13 rfl ?_
  refine px_aload_n dx_Me_readFrom_14 rfl ?_
  refine px_iconst (v := 0) dx_Me_readFrom_15 rfl ?_
  refine px_iconst (v := 3) dx_Me_readFrom_16 rfl ?_
  obtain ⟨x_17, hx_17⟩ : ∃ z, z = nx b n (0) (3) (0) x_4.2 := ⟨_, rfl⟩
  have hbx_17 : x_17.1 ≤ 3 := hx_17 ▸ nx_le (by decide)
  refine px_cVR (Y := yy_Me_readFrom) (Yc := yy_Fb_take) (b := 1) (As := [.int (0), .int (3)]) dx_Me_readFrom_17 ml_Me_52 mv_Fb_take np_Fb_take ⟨_, rfl⟩ (by decide) rfl (by decide) rfl (Nat.le_of_ble_eq_true rfl) (Nat.le_of_ble_eq_true rfl) rk_Me_readFrom_Fb_take rfl (k_takex (lo := 0) (hi := 3) hR hB hP (by decide) (by decide) hx_17) zz_0 (fun r_17 τ_17 h_17 => ?_)
  obtain ⟨rfl, hA, hP⟩ := h_17
  have hB := hB.p1 hA
  have hR := hA.rfs hR
  have hA0 := hA0.tr (hA.mono fun o k h => Or.inl h)
  have hK := hK.p1 hE hA
  refine px_putI dx_Me_readFrom_20 fl_Me_32 kM.1 (by omega) rfl ?_
  obtain ⟨σ_23, hσ_23⟩ : ∃ z, z = sI τ_17 e 5 (nI (x_17.1)) := ⟨_, rfl⟩
  rw [← hσ_23]
  have hK := hK.w5 (t := x_17.1)
  rw [← hσ_23] at hK
  have hP := hP.wr h32 (o := e) (k := 5) (x := nI (x_17.1)) (by omega)
  rw [← hσ_23] at hP
  have hB := hB.wr h32 (o := e) (k := 5) (x := nI (x_17.1)) (by omega)
  rw [← hσ_23] at hB
  have hA0 := hA0.w (o := e) (k := 5) (v := nI (x_17.1)) (by unfold PR; omega)
  rw [← hσ_23] at hA0
  have hR := hA0.rfs hR0
  have hW8 := hW8.w (a := 3) (k := m) (v := x_17.1) hbx_17
  refine px_aload_n dx_Me_readFrom_23 rfl ?_
  refine px_iconst (v := 0) dx_Me_readFrom_24 rfl ?_
  refine px_putI dx_Me_readFrom_25 fl_Me_35 kM.1 (by omega) rfl ?_
  obtain ⟨σ_28, hσ_28⟩ : ∃ z, z = sI σ_23 e 6 0 := ⟨_, rfl⟩
  rw [← hσ_28]
  have hK := hK.w6 (t := 0) (x := 0) rfl
  rw [← hσ_28] at hK
  have hP := hP.wr h32 (o := e) (k := 6) (x := 0) (by omega)
  rw [← hσ_28] at hP
  have hB := hB.wr h32 (o := e) (k := 6) (x := 0) (by omega)
  rw [← hσ_28] at hB
  have hA0 := hA0.w (o := e) (k := 6) (v := 0) (by unfold PR; omega)
  rw [← hσ_28] at hA0
  have hR := hA0.rfs hR0
  refine px_iconst (v := 0) dx_Me_readFrom_28 rfl ?_
  refine px_istore_n (lv' := [(2, .int (0)), (0, .ref (e)), (1, .ref (1))]) dx_Me_readFrom_29 (by decide) rfl ?_
  have eq : rqC b n m F s = rdP b n m true x_17.1 (uf (uf F 2 m x_4.1) 3 m x_17.1, x_17.2) := by (rw [hx_17, hx_4]; rfl)
  refine px_sub [1, 2, 0] rfl ?_
  exact k_readFrom_l1 (σ := σ) hE hR0 hB0 (p := x_17.1) hbx_17 (F2 := uf (uf F 2 m x_4.1) 3 m x_17.1) (s2 := x_17.2) uf_s (by rw [← eq]; exact hp0) (x_17.1 + 1) 0 _ (by omega) (by omega) hA0 hP hK hW8
