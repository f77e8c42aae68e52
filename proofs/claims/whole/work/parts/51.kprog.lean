/-! the class: a program is read -/
def PRq (q o k : Nat) : Prop := P1 o k ∨ (q ≤ o ∧ o < q + 345 ∧ o ≠ q + 3)
section PRS
variable {σ σ' : fr_S} {q : Nat} {F F' : Nat → Nat → Nat}
theorem KPs.wq {s : PS} (h : KPs σ s) {o k : Nat} {x : Int32} (ho : o ≠ 1) : KPs (sI σ o k x) s := ⟨h.1, (gI_n (Or.inl (by omega))).trans h.2.1, fun q => (gI_n (Or.inl (by omega))).trans (h.2.2 q)⟩
theorem KB.wq {b : Nat → Nat} {n : Nat} (h : KB σ b n) {o k : Nat} {x : Int32} (ho : o ≠ 1 ∧ o ≠ 2) : KB (sI σ o k x) b n := ⟨(gI_n (Or.inl (by omega))).trans h.1, h.2.1, fun j hj => (gI_n (Or.inl (by omega))).trans (h.2.2.1 j hj), h.2.2.2⟩
theorem PB.h27 (hq : PB q) : 27 ≤ q := by rcases hq with rfl | rfl <;> omega
theorem KB.pq {b : Nat → Nat} {n : Nat} (hq : PB q) (h : KB σ b n) (a : Agp (PRq q) σ σ') : KB σ' b n := by
  have := hq.h27
  exact ⟨(a.1 1 1 (by unfold PRq P1; omega)).trans h.1, h.2.1, fun j hj => (a.1 2 j (by unfold PRq P1; omega)).trans (h.2.2.1 j hj), h.2.2.2⟩
theorem CM.ef {e m : Nat} (h : CM σ e F m) (hf : ∀ a y, (a = 2 ∨ a = 3 ∨ a = 5 ∨ a = 6) ∧ y = m ∨ a = 4 ∧ 3 * m ≤ y ∧ y < 3 * m + 3 ∨ a = 7 ∧ 40 * m ≤ y ∧ y < 40 * m + 40 → F' a y = F a y) (h3 : F 3 m ≤ 3) : CM σ e F' m := by
  obtain ⟨a4, a5, a6, a7, a8, ap, au⟩ := h
  have e3 := hf 3 m (by omega)
  have ep : pwF F' m = pwF F m := by
    unfold pwF
    rw [e3]
    exact sw_cg fun j hj => hf 4 _ (by omega)
  refine ⟨a4.trans (by rw [hf 2 m (by omega)]), a5.trans (by rw [e3]), a6.trans (by rw [ep]), a7.trans (by rw [hf 5 m (by omega)]), a8.trans (by rw [hf 6 m (by omega)]), fun k hk => (ap k hk).trans (by rw [hf 4 _ (by omega)]), fun j hj => (au j hj).trans (by rw [hf 7 _ (by omega)])⟩
theorem CP.p1 (hq : PB q) (h : CP σ q F) (a : Agp P1 σ σ') : CP σ' q F := by
  have := hq.h27
  exact h.cg (fun k _ _ => a.1 _ _ (by unfold P1; omega)) fun m hm o k z => a.1 _ _ (by unfold P1; omega)
theorem CP.w3 (hW : FW8 F) (h : CP σ q F) {v : Nat} : CP (sI σ q 3 (nI v)) q (uf F 0 0 v) := by
  refine ⟨by rw [uf_s]; exact gI_s, (gI_n (Or.inr (by decide))).trans (h.2.1.trans (by rw [uf_n (Or.inl (by decide))])), fun m hm => ?_⟩
  refine ((h.2.2 m hm).cg fun o k z => gI_n (Or.inl (by omega))).ef (fun a y z => uf_n (Or.inl (by omega))) (hW.fw.2.2.2.1 m)
theorem CP.w4 (hW : FW8 F) (h : CP σ q F) {v : Nat} : CP (sI σ q 4 (nI v)) q (uf F 1 0 v) := by
  refine ⟨(gI_n (Or.inr (by decide))).trans (h.1.trans (by rw [uf_n (Or.inl (by decide))])), by rw [uf_s]; exact gI_s, fun m hm => ?_⟩
  refine ((h.2.2 m hm).cg fun o k z => gI_n (Or.inl (by omega))).ef (fun a y z => uf_n (Or.inl (by omega))) (hW.fw.2.2.2.1 m)
theorem CP.rd (hq : PB q) (hW : FW8 F) {j : Nat} (hj : j < 4) (h : CP σ q F) (a : Agp (PR (q + 5 + 85 * j)) σ σ') (hC : CM σ' (q + 5 + 85 * j) F' j) (ho : OT j F F') : CP σ' q F' := by
  have h27 := hq.h27
  refine ⟨(a.1 _ _ (by unfold PR P1; omega)).trans (h.1.trans (by rw [ho 0 0 (by omega)])), (a.1 _ _ (by unfold PR P1; omega)).trans (h.2.1.trans (by rw [ho 1 0 (by omega)])), fun m hm => ?_⟩
  by_cases e : m = j
  · subst e
    exact hC
  · refine ((h.2.2 m hm).cg fun o k z => a.1 _ _ (by unfold PR P1; omega)).ef (fun x y z => ho x y (by omega)) (hW.fw.2.2.2.1 m)
theorem PR.qq {j o k : Nat} (hj : j < 4) (h : PR (q + 5 + 85 * j) o k) : PRq q o k := by
  unfold PR at h
  unfold PRq
  rcases h with h | h | h | h
  · exact Or.inl h
  · exact Or.inr (by omega)
  · exact Or.inr (by omega)
  · exact Or.inr (by omega)
end PRS

set_option maxRecDepth 100000 in
set_option maxHeartbeats 1000000 in
theorem k_readProg_lp {l : Launch} {G : fr_G} {σ : fr_S} {q : Nat} (hq : PB q) (hR0 : RF σ) {b : Nat → Nat} {n : Nat} (hB0 : KB σ b n) {F : Nat → Nat → Nat} {Post : Option Value → fr_S → Prop} (hp0 : ∀ r σ', (fun r0 σ' => r0 = some (.int (ilI (rCE b n F))) ∧ Agp (PRq q) σ σ' ∧ CP σ' q (rCF b n F).1 ∧ FW8 (rCF b n F).1 ∧ ∀ k, k < 4 → gI σ' (q + 2) k = 0) r σ' → Post r σ') : ∀ (d : Nat) (j : Nat) (σ1 : fr_S), (rC1 b n).1 - j < d → j ≤ (rC1 b n).1 → Agp (PRq q) σ σ1 → KPs σ1 (rLC b n (uf (uf F 0 0 (rC1 b n).1) 1 0 (rC2 b n).1, (rC2 b n).2) j).2 → CP σ1 q (rLC b n (uf (uf F 0 0 (rC1 b n).1) 1 0 (rC2 b n).1, (rC2 b n).2) j).1 → FW8 (rLC b n (uf (uf F 0 0 (rC1 b n).1) 1 0 (rC2 b n).1, (rC2 b n).2) j).1 → PX l G yy_Pg_readFrom rm_Pg_readFrom (QR G false 742 0 0 Post) false 742 0 0 26 [(0, .ref (q)), (1, .ref (1)), (2, .int (nI (j)))] [] (σ1) := by
  intro d
  induction d with
  | zero => intro j σ1 hd; exact absurd hd (Nat.not_lt_zero _)
  | succ d ih =>
    intro j σ1 hd hj hA0 hP hC hW8
    have kP := kd_P hq
    have h27 := hq.h27
    have hr4 : (rC1 b n).1 ≤ 4 := nx_le (by decide)
    have hR := hA0.rfs hR0
    have hB := hB0.pq hq hA0
    have h00 : (rLC b n (uf (uf F 0 0 (rC1 b n).1) 1 0 (rC2 b n).1, (rC2 b n).2) j).1 0 0 = (rC1 b n).1 := by (rw [rLC_o (by decide)]; show uf (uf F 0 0 (rC1 b n).1) 1 0 (rC2 b n).1 0 0 = _; rw [uf_n (Or.inl (by decide)), uf_s])
    refine px_iload_n dx_Pg_readFrom_26 rfl ?_
    refine px_aload_n dx_Pg_readFrom_27 rfl ?_
    refine px_getI dx_Pg_readFrom_28 fl_Pg_28 kP.1 (by omega) rfl ?_
    refine px_eqi (y := nI ((rC1 b n).1)) (hC.1.trans (congrArg nI h00)) ?_
    refine px_icmp_geN (a := j) (b := (rC1 b n).1) dx_Pg_readFrom_31 (by omega) (by omega) (fun c_31 => ?_) (fun c_31 => ?_)
    · obtain rfl : j = (rC1 b n).1 := by omega
      refine px_aload_n dx_Pg_readFrom_59 rfl ?_
      refine px_cVR (Y := yy_Pg_readFrom) (Yc := yy_Fb_takeEnd) (b := 1) (As := []) dx_Pg_readFrom_60 ml_Pg_57 mv_Fb_takeEnd np_Fb_takeEnd ⟨_, rfl⟩ (by decide) rfl (by decide) rfl (Nat.le_of_ble_eq_true rfl) (Nat.le_of_ble_eq_true rfl) rk_Pg_readFrom_Fb_takeEnd rfl (k_takeEnd hR hB hP) zz_0 (fun r_60 τ2 h_60 => ?_)
      obtain ⟨rfl, hA, hP⟩ := h_60
      have hB := hB.p1 hA
      have hR := hA.rfs hR
      have hA0 := hA0.tr (hA.mono fun o k h => Or.inl h)
      have hC := CP.p1 hq hC hA
      replace hP : KPs τ2 (rCE b n F) := hP
      refine px_aload_n dx_Pg_readFrom_63 rfl ?_
      refine px_getR (r := q + 2) dx_Pg_readFrom_64 fl_Pg_17 kP.1 (by omega) rfl (hR.2.2.2.1 q hq).2.1 ?_
      refine px_iconst (v := 0) dx_Pg_readFrom_67 rfl ?_
      refine px_cSR (Y := yy_Pg_readFrom) (Yc := yy_Ja_fill) (As := [.ref (q + 2), .int (0)]) dx_Pg_readFrom_68 ml_Pg_60 ms_Ja_fill np_Ja_fill rfl (Nat.le_of_ble_eq_true rfl) (Nat.le_of_ble_eq_true rfl) rk_Pg_readFrom_Ja_fill rfl (k_fill (a := q + 2) (N0 := 4) (x := 0) kP.2.2.1 (by omega) (by decide)) zz_0 (fun r_68 τ3 h_68 => ?_)
      obtain ⟨rfl, hA, hFl⟩ := h_68
      have hP : KPs τ3 (rCE b n F) := ⟨hP.1, (hA.1 _ _ (by omega)).trans hP.2.1, fun z => (hA.1 _ _ (by omega)).trans (hP.2.2 z)⟩
      have hA0 := hA0.tr (hA.mono fun o k (h : o = q + 2) => Or.inr (by omega))
      have hC : CP τ3 q (rCF b n F).1 := hC.cg (fun k _ _ => hA.1 _ _ (by omega)) (fun m hm o k z => hA.1 _ _ (by omega))
      refine px_aload_n dx_Pg_readFrom_71 rfl ?_
      refine px_getI dx_Pg_readFrom_72 fl_Pg_66 rfl (by decide) rfl ?_
      refine px_eqi (y := ilI (rCE b n F)) hP.2.1 ?_
      exact px_iret dx_Pg_readFrom_75 rfl (by exact hp0 _ _ ⟨rfl, hA0, hC, hW8, hFl⟩)
    · refine px_iload_n dx_Pg_readFrom_34 rfl ?_
      refine px_aload_n dx_Pg_readFrom_35 rfl ?_
      refine px_getR (r := q + 1) dx_Pg_readFrom_36 fl_Pg_11 kP.1 (by omega) rfl (hR.2.2.2.1 q hq).1 ?_
      refine px_alen (v := 4) dx_Pg_readFrom_39 kP.2.1 (by decide) (by omega) rfl ?_
      refine px_icmp_geN (a := j) (b := 4) dx_Pg_readFrom_40 (by omega) (by omega) (fun c_40 => ?_) (fun c_40 => ?_)
      · exfalso; have : (rC1 b n).1 ≤ 4 := nx_le (by decide); omega
      · have hj4 : j < 4 := by omega
        have hE := ME.m hq hj4
        have kM := kd_M hE
        refine px_aload_n dx_Pg_readFrom_43 rfl ?_
        refine px_getR (r := q + 1) dx_Pg_readFrom_44 fl_Pg_11 kP.1 (by omega) rfl (hR.2.2.2.1 q hq).1 ?_
        refine px_iload_n dx_Pg_readFrom_47 rfl ?_
        refine px_aald25N (j := j) (r := q + 5 + 85 * j) dx_Pg_readFrom_48 kP.2.1 (by omega) (by omega) ((hR.2.2.2.1 q hq).2.2.2.2 j (by omega)) ?_
        refine px_aload_n dx_Pg_readFrom_49 rfl ?_
        refine px_cVR (Y := yy_Pg_readFrom) (Yc := yy_Me_readFrom) (b := q + 5 + 85 * j) (As := [.ref (1)]) dx_Pg_readFrom_50 ml_Pg_53 mv_Me_readFrom np_Me_readFrom ⟨_, rfl⟩ (by decide) kM.1 (by omega) rfl (Nat.le_of_ble_eq_true rfl) (Nat.le_of_ble_eq_true rfl) rk_Pg_readFrom_Me_readFrom rfl (k_readFrom (m := j) (F := (rLC b n (uf (uf F 0 0 (rC1 b n).1) 1 0 (rC2 b n).1, (rC2 b n).2) j).1) (s := (rLC b n (uf (uf F 0 0 (rC1 b n).1) 1 0 (rC2 b n).1, (rC2 b n).2) j).2) hE hR hB hW8 (hC.2.2 j hj4) hP) zz_0 (fun r_50 τ1 h_50 => ?_)
        obtain ⟨rfl, hA, hP, hCj, hW9⟩ := h_50
        refine px_iinc (v := (nI (j + 1))) (lv' := [(2, .int (nI (j + 1))), (0, .ref (q)), (1, .ref (1))]) dx_Pg_readFrom_53 rfl (nI_1 _) (by decide) rfl ?_
        refine px_goto dx_Pg_readFrom_56 ?_
        refine px_sub [1, 2, 0] rfl ?_
        exact ih (j + 1) _ (by omega) (by omega) (hA0.tr (hA.mono fun o k h => PR.qq hj4 h)) hP (CP.rd hq hW8 hj4 hC hA hCj rdMC_ot) hW9
set_option maxRecDepth 100000 in
set_option maxHeartbeats 1000000 in
theorem k_readProg {l : Launch} {G : fr_G} {σ : fr_S} {q : Nat} (hq : PB q) (hR0 : RF σ) {b : Nat → Nat} {n : Nat} (hB0 : KB σ b n) {F : Nat → Nat → Nat} (hW0 : FW8 F) (hC0 : CP σ q F) : CR l G yy_Pg_readFrom rm_Pg_readFrom [.ref (q), .ref (1)] σ (fun r0 σ' => r0 = some (.int (ilI (rCE b n F))) ∧ Agp (PRq q) σ σ' ∧ CP σ' q (rCF b n F).1 ∧ FW8 (rCF b n F).1 ∧ ∀ k, k < 4 → gI σ' (q + 2) k = 0) := by
  intro Post hp0
  show PX l G yy_Pg_readFrom rm_Pg_readFrom _ false 742 0 0 0 [(0, .ref (q)), (1, .ref (1))] [] σ
  have kP := kd_P hq
  have h27 := hq.h27
  have hr4 : (rC1 b n).1 ≤ 4 := nx_le (by decide)
  have hR := hR0
  have hB := hB0
  have hC := hC0
  refine px_aload_n dx_Pg_readFrom_0 rfl ?_
  refine px_cVR (Y := yy_Pg_readFrom) (Yc := yy_Fb_takeHead) (b := 1) (As := []) dx_Pg_readFrom_1 ml_Pg_44 mv_Fb_takeHead np_Fb_takeHead ⟨_, rfl⟩ (by decide) rfl (by decide) rfl (Nat.le_of_ble_eq_true rfl) (Nat.le_of_ble_eq_true rfl) rk_Pg_readFrom_Fb_takeHead rfl (k_takeHead hR hB) zz_0 (fun r_1 τ_1 h_1 => ?_)
  obtain ⟨rfl, hA, hP⟩ := h_1
  have hB := hB.p1 hA
  have hR := hA.rfs hR
  have hA0 : Agp (PRq q) σ τ_1 := hA.mono fun o k h => Or.inl h
  have hC := CP.p1 hq hC hA
  replace hP : KPs τ_1 (rC0 b n) := hP
  refine px_aload_n dx_Pg_readFrom_4 rfl ?_
  refine px_aload_n dx_Pg_readFrom_5 rfl ?_
  refine px_iconst (v := 1) dx_Pg_readFrom_6 rfl ?_
  refine px_iconst (v := 4) dx_Pg_readFrom_7 rfl ?_
  refine px_cVR (Y := yy_Pg_readFrom) (Yc := yy_Fb_take) (b := 1) (As := [.int (1), .int (4)]) dx_Pg_readFrom_8 ml_Pg_49 mv_Fb_take np_Fb_take ⟨_, rfl⟩ (by decide) rfl (by decide) rfl (Nat.le_of_ble_eq_true rfl) (Nat.le_of_ble_eq_true rfl) rk_Pg_readFrom_Fb_take rfl (k_takex (x := rC1 b n) hR hB hP (by decide) (by decide) rfl) zz_0 (fun r_8 τ_8 h_8 => ?_)
  obtain ⟨rfl, hA, hP⟩ := h_8
  have hB := hB.p1 hA
  have hR := hA.rfs hR
  have hA0 := hA0.tr (hA.mono fun o k h => Or.inl h)
  have hC := CP.p1 hq hC hA
  refine px_putI dx_Pg_readFrom_11 fl_Pg_28 kP.1 (by omega) rfl ?_
  obtain ⟨σ_14, hσ_14⟩ : ∃ z, z = sI τ_8 q 3 (nI ((rC1 b n).1)) := ⟨_, rfl⟩
  rw [← hσ_14]
  have hC : CP σ_14 q (uf F 0 0 (rC1 b n).1) := by (rw [hσ_14]; exact CP.w3 hW0 hC)
  have hP : KPs σ_14 (rC1 b n).2 := by (rw [hσ_14]; exact hP.wq (by omega))
  have hB : KB σ_14 b n := by (rw [hσ_14]; exact hB.wq (by omega))
  have hA0 : Agp (PRq q) σ σ_14 := by (rw [hσ_14]; exact hA0.w (Or.inr (by omega)))
  have hR := hA0.rfs hR0
  have hW1 : FW8 (uf F 0 0 (rC1 b n).1) := hW0.w (nx_le (by decide))
  refine px_aload_n dx_Pg_readFrom_14 rfl ?_
  refine px_aload_n dx_Pg_readFrom_15 rfl ?_
  refine px_iconst (v := 0) dx_Pg_readFrom_16 rfl ?_
  refine px_iconst (v := 4) dx_Pg_readFrom_17 rfl ?_
  refine px_cVR (Y := yy_Pg_readFrom) (Yc := yy_Fb_take) (b := 1) (As := [.int (0), .int (4)]) dx_Pg_readFrom_18 ml_Pg_49 mv_Fb_take np_Fb_take ⟨_, rfl⟩ (by decide) rfl (by decide) rfl (Nat.le_of_ble_eq_true rfl) (Nat.le_of_ble_eq_true rfl) rk_Pg_readFrom_Fb_take rfl (k_takex (x := rC2 b n) hR hB hP (by decide) (by decide) rfl) zz_0 (fun r_18 τ_18 h_18 => ?_)
  obtain ⟨rfl, hA, hP⟩ := h_18
  have hB := hB.p1 hA
  have hR := hA.rfs hR
  have hA0 := hA0.tr (hA.mono fun o k h => Or.inl h)
  have hC := CP.p1 hq hC hA
  refine px_putI dx_Pg_readFrom_21 fl_Pg_32 kP.1 (by omega) rfl ?_
  obtain ⟨σ_24, hσ_24⟩ : ∃ z, z = sI τ_18 q 4 (nI ((rC2 b n).1)) := ⟨_, rfl⟩
  rw [← hσ_24]
  have hC : CP σ_24 q (uf (uf F 0 0 (rC1 b n).1) 1 0 (rC2 b n).1) := by (rw [hσ_24]; exact CP.w4 hW1 hC)
  have hP : KPs σ_24 (rC2 b n).2 := by (rw [hσ_24]; exact hP.wq (by omega))
  have hA0 : Agp (PRq q) σ σ_24 := by (rw [hσ_24]; exact hA0.w (Or.inr (by omega)))
  have hW2 : FW8 (uf (uf F 0 0 (rC1 b n).1) 1 0 (rC2 b n).1) := hW1.w (nx_le (by decide))
  refine px_iconst (v := 0) dx_Pg_readFrom_24 rfl ?_
  refine px_istore_n (lv' := [(2, .int (0)), (0, .ref (q)), (1, .ref (1))]) dx_Pg_readFrom_25 (by decide) rfl ?_
  refine px_sub [1, 2, 0] rfl ?_
  exact k_readProg_lp (σ := σ) hq hR0 hB0 hp0 ((rC1 b n).1 + 1) 0 _ (by omega) (by omega) hA0 hP hC hW2
