/-! the class: a call begins -/
def agB (F : Nat → Nat → Nat) (a : AV) (m : Nat) (B : VM) : Nat → VM
  | 0 => B
  | j + 1 => kset (agB F a m B j) 0 (F 5 m - pwF F m + agK F m j) (a.2.2.1 j) (a.2.2.2 j)
def bgB (F : Nat → Nat → Nat) (a : AV) (m : Nat) (B : VM) : VM := aI (aI (aI (agB F a m (aI (aI B 2 0 m) 3 0 0) a.1) 1 0 1) 0 0 1) 5 0 0
theorem bgB_1 {F : Nat → Nat → Nat} {a : AV} {m : Nat} {B : VM} : (bgB F a m B).1 1 0 = 1 := by
  show uf (uf (uf (agB F a m (aI (aI B 2 0 m) 3 0 0) a.1).1 1 0 1) 0 0 1) 5 0 0 1 0 = 1
  rw [uf_n (Or.inl (by decide)), uf_n (Or.inl (by decide)), uf_s]
theorem KS.ag {q : Nat} {σ0 σ : fr_S} {F : Nat → Nat → Nat} {a : AV} {m : Nat} (h : KS q σ0 σ) : ∀ j, KS q σ0 (agS F a m 9 σ j)
  | 0 => h
  | j + 1 => ((KS.ag h j).l (by omega)).d (by omega)
theorem CXn.ag {σ : fr_S} {q n : Nat} {B : VM} (h : CXn σ q B n) {F : Nat → Nat → Nat} (hW : FW F) {m : Nat} {a : AV} (hQ : pwF F m ≤ F 5 m) (hn : F 3 m = a.1) : ∀ j, j ≤ a.1 → CXn (agS F a m 9 σ j) q (agB F a m B j) n
  | 0, _ => h
  | j + 1, hj => by
    have hk2 := agK_mono F m (j + 1) (F 3 m) (by omega)
    rw [agK_s] at hk2
    have hpk : agK F m (F 3 m) = pwF F m := rfl
    have hwd : 1 ≤ wdt (F 4 (3 * m + j)) := by unfold wdt; split <;> decide
    have h10 := hW.2.2.2.2.2.1 m
    exact (CXn.ag h hW hQ hn j (by omega)).set (i := 0) (by decide) (by omega)

set_option maxRecDepth 100000 in
set_option maxHeartbeats 1000000 in
theorem k_beginM {l : Launch} {G : fr_G} {σ : fr_S} {q : Nat} (hq : PB q) (hRa : RF σ) {F : Nat → Nat → Nat} (hW : FW F) {m : Nat} (hm : m < F 0 0) (hCP : CP σ q F) {a : AV} (hA : KA σ a) (hQ : pwF F m ≤ F 5 m) (hn : F 3 m = a.1) (hs : suP F a m a.1 = true) {B : VM} (hX : CX σ q B) : CR l G yy_Mc_begin rm_Mc_begin [.ref (7), .ref (q + 5 + 85 * m), .ref (3)] σ (fun r0 σ' => r0 = none ∧ KS q σ σ' ∧ CX σ' q (bgB F a m B)) := by
  intro Post hp0
  show PX l G yy_Mc_begin rm_Mc_begin _ false 742 0 0 0 [(0, .ref (7)), (1, .ref (q + 5 + 85 * m)), (2, .ref (3))] [] σ
  have h27 := hq.h27
  have h04 := hW.1
  have hm4 : m < 4 := by omega
  have hE := ME.m hq hm4
  have hF9 : FE 9 := FE.f (i := 0) (by decide)
  have hR0 := hRa.2.1
  refine px_aload_n dx_Mc_begin_0 rfl ?_
  refine px_getR (r := 8) dx_Mc_begin_1 fl_Mc_11 rfl (by decide) rfl hRa.1.2.2.2.2.2.2.2 ?_
  refine px_iconst (v := 0) dx_Mc_begin_4 rfl ?_
  refine px_aald24N (j := 0) (r := 9) dx_Mc_begin_5 rfl (by decide) (by decide) (hR0 0 (by decide)) ?_
  refine px_astore_n (lv' := [(3, .ref (9)), (0, .ref (7)), (1, .ref (q + 5 + 85 * m)), (2, .ref (3))]) dx_Mc_begin_6 (by decide) rfl ?_
  refine px_aload_n dx_Mc_begin_7 rfl ?_
  refine px_aload_n dx_Mc_begin_8 rfl ?_
  refine px_cV (Y := yy_Mc_begin) (Yc := yy_Fr_enter) (b := 9) (As := [.ref (q + 5 + 85 * m)]) dx_Mc_begin_9 ml_Mc_39 mv_Fr_enter np_Fr_enter ⟨_, rfl⟩ (by decide) rfl (by decide) rfl (Nat.le_of_ble_eq_true rfl) (Nat.le_of_ble_eq_true rfl) rk_Mc_begin_Fr_enter rfl (k_enterF (f := 9) (e := q + 5 + 85 * m) hF9 hRa) zz_0 ?_
  obtain ⟨σ1, hσ1⟩ : ∃ z, z = sI (sR σ 9 2 (some (q + 5 + 85 * m))) 9 3 0 := ⟨_, rfl⟩
  rw [← hσ1]
  have hK1 : KS q σ σ1 := by (rw [hσ1]; exact (KS.rf.r (by omega)).i (Or.inl (by omega)))
  have hX1 : CXn σ1 q (aI (aI B 2 0 m) 3 0 0) 1 := by (rw [hσ1]; exact (CXn.fr h27 (hX.le (Nat.zero_le _)) (n := 0) (c := m) (by decide)))
  have hR1 := hK1.rfs hRa
  have hC1 : CM σ1 (q + 5 + 85 * m) F m := (KS.cp hq hq hK1 hCP).2.2 m hm4
  have hA1 : KA σ1 a := ⟨(hK1.1 _ _ (by omega) (by omega)).trans hA.1, hA.2.1, fun k hk => (hK1.1 _ _ (by omega) (by omega)).trans (hA.2.2.1 k hk), hA.2.2.2.1, fun k hk => ((hK1.2.2 _ _ (by omega)).1).trans (hA.2.2.2.2.1 k hk), fun k hk => ((hK1.2.2 _ _ (by omega)).2).trans (hA.2.2.2.2.2 k hk)⟩
  refine px_aload_n dx_Mc_begin_12 rfl ?_
  refine px_aload_n dx_Mc_begin_13 rfl ?_
  refine px_aload_n dx_Mc_begin_14 rfl ?_
  refine px_cV (Y := yy_Mc_begin) (Yc := yy_Ag_copyTo) (b := 3) (As := [.ref (9), .ref (q + 5 + 85 * m)]) dx_Mc_begin_15 ml_Mc_43 mv_Ag_copyTo np_Ag_copyTo ⟨_, rfl⟩ (by decide) rfl (by decide) rfl (Nat.le_of_ble_eq_true rfl) (Nat.le_of_ble_eq_true rfl) rk_Mc_begin_Ag_copyTo rfl (k_copyTo (f := 9) hF9 hE hR1 hW hC1 hA1 hQ hn hs) zz_0 ?_
  refine px_aload_n dx_Mc_begin_18 rfl ?_
  refine px_iconst (v := 1) dx_Mc_begin_19 rfl ?_
  refine px_putI dx_Mc_begin_20 fl_Mc_17 rfl (by decide) rfl ?_
  refine px_aload_n dx_Mc_begin_23 rfl ?_
  refine px_iconst (v := 1) dx_Mc_begin_24 rfl ?_
  refine px_putI dx_Mc_begin_25 fl_Mc_21 rfl (by decide) rfl ?_
  refine px_aload_n dx_Mc_begin_28 rfl ?_
  refine px_iconst (v := 0) dx_Mc_begin_29 rfl ?_
  refine px_putI dx_Mc_begin_30 fl_Mc_24 rfl (by decide) rfl ?_
  exact px_vret dx_Mc_begin_33 rfl (by have hf := (((CXn.ag hX1 hW hQ hn a.1 (Nat.le_refl _)).o h27 (D := 1)).c h27 (D := 1)).t h27 (D := 0); exact hp0 _ _ ⟨rfl, (((KS.ag hK1 a.1).i (Or.inl (by omega))).i (Or.inl (by omega))).i (Or.inl (by omega)), hf.le (Nat.le_of_eq bgB_1)⟩)
