/-! the class: a method's verification begins, and follows every way -/
theorem E_ne {q e : Nat} (hq : PB q) (hE : ME e) : q + 4 ≠ e ∧ q + 4 ≠ e + 1 ∧ q + 4 ≠ e + 2 ∧ q + 4 ≠ e + 4 ∧ q + 3 ≠ e ∧ q + 3 ≠ e + 1 ∧ q + 3 ≠ e + 2 ∧ q + 3 ≠ e + 4 := by
  have kM := kd_M hE
  have kP := kd_P hq
  have f : ∀ {a b : Nat}, kd a ≠ kd b → a ≠ b := fun h z => h (congrArg kd z)
  refine ⟨f ?_, f ?_, f ?_, f ?_, f ?_, f ?_, f ?_, f ?_⟩
  · rw [kP.2.2.2.2.1, kM.1]; decide
  · rw [kP.2.2.2.2.1, kM.2.1]; decide
  · rw [kP.2.2.2.2.1, kM.2.2.1]; decide
  · rw [kP.2.2.2.2.1, kM.2.2.2.2.1]; decide
  · rw [kP.2.2.2.1, kM.1]; decide
  · rw [kP.2.2.2.1, kM.2.1]; decide
  · rw [kP.2.2.2.1, kM.2.2.1]; decide
  · rw [kP.2.2.2.1, kM.2.2.2.2.1]; decide
theorem PF.no {q e o k : Nat} (hq : PB q) (hE : ME e) (h : PF q e o k) : o ≠ e ∧ o ≠ e + 1 ∧ o ≠ e + 2 ∧ o ≠ e + 4 ∧ ∀ u, u < 40 → o = e + 5 + 2 * u → k = 0 := by
  have n := E_ne hq hE
  rcases h with h | h | ⟨u, hu, h⟩
  · refine ⟨by omega, by omega, by omega, by omega, fun u hu z => ?_⟩
    have := S_ne hq (SE.s hE hu)
    omega
  · refine ⟨by omega, by omega, by omega, by omega, fun u hu z => ?_⟩
    have := S_ne hq (SE.s hE hu)
    omega
  · exact ⟨by omega, by omega, by omega, by omega, fun v hv z => by omega⟩
section PFS
variable {σ σ' : fr_S} {q e : Nat} {F : Nat → Nat → Nat} {m : Nat}
theorem CM.pf (hq : PB q) (hE : ME e) (h : CM σ e F m) (a : Agp (PF q e) σ σ') : CM σ' e F m := h.cg fun o k z => a.1 o k fun w => by
  have := w.no hq hE
  omega
theorem SLm.pf (hq : PB q) (hE : ME e) (h : SLm σ e F m) (a : Agp (PF q e) σ σ') : SLm σ' e F m := h.cg (fun u _ => a.1 _ _ fun w => (w.no hq hE).2.2.2.1 rfl) fun u hu k h2 _ _ => a.1 _ _ fun w => by
  have := (w.no hq hE).2.2.2.2 u hu rfl
  omega
theorem SUm.pf (hq : PB q) (hE : ME e) {X Y : Nat → Nat} {B : Nat → Bool} (h : SUm σ e X Y B) (a : Agp (PF q e) σ σ') : SUm σ' e X Y B := fun u hu hb => by
  have n := fun k (hk : k ≠ 0) => a.1 (e + 5 + 2 * u) k fun w => hk ((w.no hq hE).2.2.2.2 u hu rfl)
  obtain ⟨z1, z2⟩ := h u hu hb
  exact ⟨(n 7 (by decide)).trans z1, (n 8 (by decide)).trans z2⟩
theorem wdc_w {t : Nat} (h : t ≤ 4) : wdc (tt t) = wdt t := wdc_tt t h
end PFS

set_option maxRecDepth 100000 in
set_option maxHeartbeats 1000000 in
theorem k_begin_lp {l : Launch} {G : fr_G} {σ : fr_S} {q : Nat} (hq : PB q) {e : Nat} (hE : ME e) (hRf : RF σ) {F : Nat → Nat → Nat} (hW : FW F) (hFP : FP F) {m : Nat} (hm : m < F 0 0) (hQ : pwF F m ≤ F 5 m) (h1 : 1 ≤ F 6 m) (hCm : CM σ e F m) (hLm : SLm σ e F m) (hr0 : ∀ u, u < 40 → bgF F m u = true → gI σ (e + 5 + 2 * u) 0 = 0) {c : Bool} (hc : gI σ (q + 3) 1 = b2i c) {Post : Option Value → fr_S → Prop} (hp0 : ∀ r σ', (fun r0 σ' => r0 = none ∧ Agp (PF q e) σ σ' ∧ CV σ' q e (bgF F m) (v_0 F m)) r σ' → Post r σ') : ∀ (d : Nat) (k : Nat) (σ1 : fr_S), F 3 m - k < d → k ≤ F 3 m → Agp (P4 q) σ σ1 → AN σ1 q (bgN F m k) → PX l G yy_Fl_begin rm_Fl_begin (QR G false 742 0 0 Post) false 742 0 0 15 [(0, .ref (q + 3)), (1, .ref (e)), (2, .int (nI (F 5 m - pwF F m + agK F m k))), (3, .int (nI (k)))] [] (σ1) := by
  intro d
  induction d with
  | zero => intro k σ1 hd; exact absurd hd (Nat.not_lt_zero _)
  | succ d ih =>
    intro k σ1 hd hk hA hN
    have kP := kd_P hq
    have kM := kd_M hE
    have hne := E_ne hq hE
    have h64 := hW.2.2.2.2.2.2.1 m
    have h3 := hW.2.2.2.1 m
    have h5 := hW.2.2.2.2.1
    have h10 := hW.2.2.2.2.2.1 m
    have hR := hA.rfs hRf
    have hC : CM σ1 e F m := hCm.pf hq hE (hA.mono fun o k h => P4.pf h)
    have hL : SLm σ1 e F m := hLm.pf hq hE (hA.mono fun o k h => P4.pf h)
    refine px_iload_n dx_Fl_begin_15 rfl ?_
    refine px_aload_n dx_Fl_begin_16 rfl ?_
    refine px_getI dx_Fl_begin_17 fl_Fl_72 kM.1 (by omega) rfl ?_
    refine px_eqi (y := nI (F 3 m)) hC.2.1 ?_
    refine px_icmp_geN (a := k) (b := F 3 m) dx_Fl_begin_20 (by (first | omega | exact Nat.lt_of_le_of_lt (wdc_12 _ |>.elim Nat.le_of_eq Nat.le_of_eq) (by decide))) (by (first | omega | exact Nat.lt_of_le_of_lt (wdc_12 _ |>.elim Nat.le_of_eq Nat.le_of_eq) (by decide))) (fun c_20 => ?_) (fun c_20 => ?_)
    · obtain rfl : k = F 3 m := by omega
      have hb0 : bgF F m 0 = true := by (show bgc F m 40 0 0 = true; rw [bgc_s h1]; rfl)
      have kS := kd_S (SE.s hE (show 0 < 40 by decide))
      refine px_aload_n dx_Fl_begin_57 rfl ?_
      refine px_aload_n dx_Fl_begin_58 rfl ?_
      refine px_iconst (v := 0) dx_Fl_begin_59 rfl ?_
      refine px_cV (Y := yy_Fl_begin) (Yc := yy_Me_stepAt) (b := e) (As := [.int (0)]) dx_Fl_begin_60 ml_Fl_29 mv_Me_stepAt np_Me_stepAt ⟨_, rfl⟩ (by decide) kM.1 (by omega) rfl (Nat.le_of_ble_eq_true rfl) (Nat.le_of_ble_eq_true rfl) rk_Fl_begin_Me_stepAt rfl (k_stepAt_N (u := 0) hE hR h64 hC.2.2.2.2.1 hL.1 h1 hb0) zz_0 ?_
      refine px_cVR (Y := yy_Fl_begin) (Yc := yy_Fl_join) (b := q + 3) (As := [.ref (e + 5 + 2 * 0)]) dx_Fl_begin_63 ml_Fl_49 mv_Fl_join np_Fl_join ⟨_, rfl⟩ (by decide) kP.2.2.2.1 (by omega) rfl (Nat.le_of_ble_eq_true rfl) (Nat.le_of_ble_eq_true rfl) rk_Fl_begin_Fl_join rfl (k_joinV (Bg := bgF F m) (v := (fun _ _ => 0, fun _ => false, c)) hq hE hR ⟨fun p hp hb => ⟨(hA.1 _ _ (by have := S_ne hq (SE.s hE hp); unfold P4; omega)).trans (hr0 p hp hb), fun z => by cases z⟩, (hA.1 _ _ (by unfold P4; omega)).trans hc⟩ hN (bgN_ok hW hQ _ (Nat.le_refl _)).2 ⟨fun _ _ => Nat.zero_le _, fun _ z => by cases z⟩ (p := 0) (by omega) hb0) zz_0 (fun r_63 τ1 h_63 => ?_)
      obtain ⟨rfl, hA1, hV1, -⟩ := h_63
      exact px_vret dx_Fl_begin_66 rfl (by exact hp0 _ _ ⟨rfl, (hA.mono fun o k h => P4.pf h).tr hA1, by rw [← v_0_c (c := c)]; exact hV1⟩)
    · have hk2 := agK_mono F m (k + 1) (F 3 m) (by omega)
      rw [agK_s] at hk2
      have hpw : agK F m (F 3 m) = pwF F m := rfl
      have hbo := bgN_ok hW hQ k (by omega)
      have hfp := hFP m k hm (by omega)
      have hwd : wdt (F 4 (3 * m + k)) = 1 ∨ wdt (F 4 (3 * m + k)) = 2 := by (have := wdt_le (F 4 (3 * m + k)); have : 1 ≤ wdt (F 4 (3 * m + k)) := (by unfold wdt; split <;> decide); omega)
      refine px_aload_n dx_Fl_begin_23 rfl ?_
      refine px_iload_n dx_Fl_begin_24 rfl ?_
      refine px_cV (Y := yy_Fl_begin) (Yc := yy_Me_parameterAt) (b := e) (As := [.int (nI (k))]) dx_Fl_begin_25 ml_Fl_75 mv_Me_parameterAt np_Me_parameterAt ⟨_, rfl⟩ (by decide) kM.1 (by omega) rfl (Nat.le_of_ble_eq_true rfl) (Nat.le_of_ble_eq_true rfl) rk_Fl_begin_Me_parameterAt rfl (k_parameterAt (np := F 3 m) (pt := fun k => tt (F 4 (3 * m + k))) hE hR (by omega) hC.2.1 hC.2.2.2.2.2.1 (by omega)) zz_0 ?_
      refine px_eqi (y := nI (tt (F 4 (3 * m + k)))) (congrArg nI (if_pos c_20)) ?_
      refine px_istore (lv' := [(4, .int (nI (tt (F 4 (3 * m + k))))), (0, .ref (q + 3)), (1, .ref (e)), (2, .int (nI (F 5 m - pwF F m + agK F m k))), (3, .int (nI (k)))]) dx_Fl_begin_28 (by decide) rfl ?_
      refine px_iload dx_Fl_begin_30 rfl ?_
      refine px_cS (Y := yy_Fl_begin) (Yc := yy_V_widthOf) (As := [.int (nI (tt (F 4 (3 * m + k))))]) dx_Fl_begin_32 ml_Fl_79 ms_V_widthOf np_V_widthOf rfl (Nat.le_of_ble_eq_true rfl) (Nat.le_of_ble_eq_true rfl) rk_Fl_begin_V_widthOf rfl (k_widthOf (x := tt (F 4 (3 * m + k))) (by have := tt_b _ (h5 (3 * m + k)); omega)) zz_0 ?_
      refine px_eqi (y := nI (wdt (F 4 (3 * m + k)))) (congrArg nI (wdc_w (h5 _))) ?_
      refine px_istore (lv' := [(5, .int (nI (wdt (F 4 (3 * m + k))))), (4, .int (nI (tt (F 4 (3 * m + k))))), (0, .ref (q + 3)), (1, .ref (e)), (2, .int (nI (F 5 m - pwF F m + agK F m k))), (3, .int (nI (k)))]) dx_Fl_begin_35 (by decide) rfl ?_
      refine px_aload_n dx_Fl_begin_37 rfl ?_
      refine px_iload_n dx_Fl_begin_38 rfl ?_
      refine px_iload dx_Fl_begin_39 rfl ?_
      refine px_iload dx_Fl_begin_41 rfl ?_
      refine px_cVR (Y := yy_Fl_begin) (Yc := yy_Fl_setTypes) (b := q + 3) (As := [.int (nI (F 5 m - pwF F m + agK F m k)), .int (nI (wdt (F 4 (3 * m + k)))), .int (nI (tt (F 4 (3 * m + k))))]) dx_Fl_begin_43 ml_Fl_82 mv_Fl_setTypes np_Fl_setTypes ⟨_, rfl⟩ (by decide) kP.2.2.2.1 (by omega) rfl (Nat.le_of_ble_eq_true rfl) (Nat.le_of_ble_eq_true rfl) rk_Fl_begin_Fl_setTypes rfl (k_setTypes (N := bgN F m k) (r := F 5 m - pwF F m + agK F m k) (w := wdt (F 4 (3 * m + k))) (t := tt (F 4 (3 * m + k))) hq hR hN hwd (by omega) (tt_b _ (h5 _)) hbo.2) zz_0 (fun r_43 τ1 h_43 => ?_)
      obtain ⟨rfl, hA1, hN1⟩ := h_43
      refine px_iload_n dx_Fl_begin_46 rfl ?_
      refine px_iload dx_Fl_begin_47 rfl ?_
      refine px_iaddN (a := F 5 m - pwF F m + agK F m k) (b := wdt (F 4 (3 * m + k))) dx_Fl_begin_49 ?_
      refine px_istore_n (lv' := [(2, .int (nI ((F 5 m - pwF F m + agK F m k) + (wdt (F 4 (3 * m + k)))))), (5, .int (nI (wdt (F 4 (3 * m + k))))), (4, .int (nI (tt (F 4 (3 * m + k))))), (0, .ref (q + 3)), (1, .ref (e)), (3, .int (nI (k)))]) dx_Fl_begin_50 (by decide) rfl ?_
      refine px_iinc (v := (nI (k + 1))) (lv' := [(3, .int (nI (k + 1))), (2, .int (nI ((F 5 m - pwF F m + agK F m k) + (wdt (F 4 (3 * m + k)))))), (5, .int (nI (wdt (F 4 (3 * m + k))))), (4, .int (nI (tt (F 4 (3 * m + k))))), (0, .ref (q + 3)), (1, .ref (e))]) dx_Fl_begin_51 rfl (nI_1 _) (by decide) rfl ?_
      refine px_goto dx_Fl_begin_54 ?_
      refine px_sub [4, 5, 1, 0] rfl ?_
      have qq := ih (k + 1) _ (by omega) (by omega) (hA.tr hA1) (by rw [show bgN F m (k + 1) = stC (bgN F m k) (F 5 m - pwF F m + agK F m k) (wdt (F 4 (3 * m + k))) (tt (F 4 (3 * m + k))) from (stC_e hbo.1 hfp (h5 _) (by omega)).symm]; exact hN1)
      rw [agK_s, ← Nat.add_assoc] at qq
      exact qq
set_option maxRecDepth 100000 in
set_option maxHeartbeats 1000000 in
theorem k_begin {l : Launch} {G : fr_G} {σ : fr_S} {q : Nat} (hq : PB q) {e : Nat} (hE : ME e) (hRf : RF σ) {F : Nat → Nat → Nat} (hW : FW F) (hFP : FP F) {m : Nat} (hm : m < F 0 0) (hQ : pwF F m ≤ F 5 m) (h1 : 1 ≤ F 6 m) (hCm : CM σ e F m) (hLm : SLm σ e F m) (hr0 : ∀ u, u < 40 → bgF F m u = true → gI σ (e + 5 + 2 * u) 0 = 0) {c : Bool} (hc : gI σ (q + 3) 1 = b2i c) : CR l G yy_Fl_begin rm_Fl_begin [.ref (q + 3), .ref (e)] σ (fun r0 σ' => r0 = none ∧ Agp (PF q e) σ σ' ∧ CV σ' q e (bgF F m) (v_0 F m)) := by
  intro Post hp0
  show PX l G yy_Fl_begin rm_Fl_begin _ false 742 0 0 0 [(0, .ref (q + 3)), (1, .ref (e))] [] σ
  have kP := kd_P hq
  have kM := kd_M hE
  have hne := E_ne hq hE
  have h64 := hW.2.2.2.2.2.2.1 m
  have h3 := hW.2.2.2.1 m
  have h5 := hW.2.2.2.2.1
  have h10 := hW.2.2.2.2.2.1 m
  have hR := hRf
  have hC := hCm
  refine px_aload_n dx_Fl_begin_0 rfl ?_
  refine px_getR (r := q + 4) dx_Fl_begin_1 fl_Fl_9 kP.2.2.2.1 (by omega) rfl (hR.2.2.2.1 q hq).2.2.2.1 ?_
  refine px_iconst (v := 0) dx_Fl_begin_4 rfl ?_
  refine px_cSR (Y := yy_Fl_begin) (Yc := yy_Ja_fill) (As := [.ref (q + 4), .int (0)]) dx_Fl_begin_5 ml_Fl_62 ms_Ja_fill np_Ja_fill rfl (Nat.le_of_ble_eq_true rfl) (Nat.le_of_ble_eq_true rfl) rk_Fl_begin_Ja_fill rfl (k_fill (a := q + 4) (N0 := 10) (x := 0) kP.2.2.2.2.1 (by omega) (by decide)) zz_0 (fun r_5 σ1 h_5 => ?_)
  obtain ⟨rfl, hA, hFl⟩ := h_5
  replace hA : Agp (P4 q) σ σ1 := hA
  have hR := hA.rfs hRf
  have hC : CM σ1 e F m := hCm.pf hq hE (hA.mono fun o k h => P4.pf h)
  have hL : SLm σ1 e F m := hLm.pf hq hE (hA.mono fun o k h => P4.pf h)
  refine px_aload_n dx_Fl_begin_8 rfl ?_
  refine px_cV (Y := yy_Fl_begin) (Yc := yy_Me_firstArgument) (b := e) (As := []) dx_Fl_begin_9 ml_Fl_68 mv_Me_firstArgument np_Me_firstArgument ⟨_, rfl⟩ (by decide) kM.1 (by omega) rfl (Nat.le_of_ble_eq_true rfl) (Nat.le_of_ble_eq_true rfl) rk_Fl_begin_Me_firstArgument rfl (k_firstArgument (rg := F 5 m) (w := pwF F m) hE hC.2.2.2.1 hC.2.2.1 hQ) zz_0 ?_
  refine px_istore_n (lv' := [(2, .int (nI (F 5 m - pwF F m))), (0, .ref (q + 3)), (1, .ref (e))]) dx_Fl_begin_12 (by decide) rfl ?_
  refine px_iconst (v := 0) dx_Fl_begin_13 rfl ?_
  refine px_istore_n (lv' := [(3, .int (0)), (2, .int (nI (F 5 m - pwF F m))), (0, .ref (q + 3)), (1, .ref (e))]) dx_Fl_begin_14 (by decide) rfl ?_
  refine px_sub [2, 3, 1, 0] rfl ?_
  exact k_begin_lp (σ := σ) hq hE hRf hW hFP hm hQ h1 hCm hLm hr0 hc hp0 (F 3 m + 1) 0 _ (by omega) (by omega) hA (fun r hr => hFl r hr)

theorem fif_all {F : Nat → Nat → Nat} (hW : FW F) {m : Nat} : ∀ {f p : Nat}, fif F (bgF F m) m f p (pbG (bgF F m) p) = -1 → 40 ≤ p + f → ∀ u, p ≤ u → u < F 6 m → bgF F m u = true → frmOK F (bgF F m) m u (pbG (bgF F m) u) = true
  | 0, p, _, h, u, hu, hl, _ => by
    have := hW.2.2.2.2.2.2.1 m
    omega
  | f + 1, p, hf, h, u, hu, hl, hb => by
    have h6 := hW.2.2.2.2.2.2.1 m
    have hp : p < F 6 m := by omega
    by_cases h2 : bgF F m p = true
    · obtain ⟨a, b⟩ := fif_frm hW (by omega) hp h2 hf
      by_cases e : u = p
      · subst e
        exact a
      · refine fif_all hW (f := f) (p := p + 1) ?_ (by omega) u (by omega) hl hb
        rw [show pbG (bgF F m) (p + 1) = some p from if_pos h2]
        exact b
    · rw [fif_no hp (by simpa using h2)] at hf
      have e : u ≠ p := fun z => h2 (z ▸ hb)
      refine fif_all hW (f := f) (p := p + 1) ?_ (by omega) u (by omega) hl hb
      rw [show pbG (bgF F m) (p + 1) = pbG (bgF F m) p from if_neg h2]
      exact hf
theorem st_b : ∀ op, op < 256 → (stO op ≤ 5 ∨ stO op = 7 ∨ stO op = 8) ∧ (usO op ≤ 5 ∨ usO op = 7 ∨ usO op = 8) := by decide +kernel
theorem stG_b {F : Nat → Nat → Nat} (hW : FW F) {m u : Nat} : stG F m u ≤ 5 ∨ stG F m u = 7 ∨ stG F m u = 8 := by
  unfold stG
  split
  · exact Or.inl (rbC_b hW _ _)
  · exact (st_b _ (opS_lt _)).1
theorem usG_b {F : Nat → Nat → Nat} (hW : FW F) {m u : Nat} : usG F m u ≤ 5 ∨ usG F m u = 7 ∨ usG F m u = 8 := by
  unfold usG
  split
  · exact Or.inl (tt_b _ (hW.2.2.1 m))
  · exact (st_b _ (opS_lt _)).2
theorem st5 : ∀ op, op < 256 → kdO op = 5 → stO op ≠ 0 := by decide +kernel
/-- what the form of an instruction gives the flow -/
theorem frm_C {F : Nat → Nat → Nat} (hW : FW F) {m u : Nat} (h : frmOK F (bgF F m) m u (pbG (bgF F m) u) = true) : cpl F m u = true ∧ (stG F m u ≠ 0 → dRes (opS (F 7 (40 * m + u))) (F 7 (40 * m + u)) + wdc (stG F m u) ≤ 10) := by
  rw [← ft_e hW] at h
  unfold ftC at h
  simp only [Bool.and_eq_true] at h
  obtain ⟨hc, hr, -, hk⟩ := h
  refine ⟨hc, fun hx => ?_⟩
  have h5 := hW.2.2.2.2.2.1 m
  unfold rgC at hr
  simp only [Bool.and_eq_true, Bool.or_eq_true, decide_eq_true_eq] at hr
  have h1 := hr.1
  unfold stG at hx ⊢
  by_cases c : kdO (opS (F 7 (40 * m + u))) = 5
  · rw [if_pos c] at hx ⊢
    have h0 := st5 _ (opS_lt _) c
    unfold kdC at hk
    rw [if_neg (by rw [c]; decide), if_neg (by rw [c]; decide), if_pos (by rw [c]; decide)] at hk
    unfold owC at hk
    simp only [Bool.and_eq_true, decide_eq_true_eq] at hk
    rw [hk.2]
    omega
  · rw [if_neg c] at hx ⊢
    unfold stD at hx ⊢
    omega
/-- a branch goes where both sides say -/
theorem br_e {F : Nat → Nat → Nat} {m u : Nat} (hc : cpl F m u = true) {op : Nat} (hop : op = opS (F 7 (40 * m + u))) (hb : brs op = true) : nI u + dNum op (F 7 (40 * m + u)) (uA F m (u + 1)) = tgO F m u := by
  have h256 : op < 256 := hop ▸ opS_lt _
  have hc' := hc
  unfold cpl at hc'
  simp only [decide_eq_true_eq] at hc'
  rw [← hop] at hc'
  unfold tgO
  rw [← hop]
  simp only [brs, Bool.or_eq_true, Bool.and_eq_true, decide_eq_true_eq] at hb
  by_cases q : op = 40
  · rw [if_pos q, q]
    rfl
  · rw [if_neg q]
    have hk : kdO op = 10 ∨ kdO op = 11 := by
      rcases Nat.lt_or_ge op 56 with z | z
      · exact Or.inl (g_50 op h256 (by omega)).1
      · exact Or.inr (g_56 op h256 (by omega)).1
    have hs : 2 ≤ szO op := sz_2 (by omega)
    rw [uA_e (by omega)]
    congr 1
    unfold dNum
    rcases hk with hk | hk <;> rw [hk] <;> rfl
section ROC
variable {F : Nat → Nat → Nat} {m f u : Nat} {v R : VS}
theorem roC_end (h : F 6 m ≤ u) : roC F m f u v = v := by
  cases f with
  | zero => rfl
  | succ f => unfold roC; rw [if_neg (Nat.not_lt.mpr h)]
theorem roC_no (hl : u < F 6 m) (h : ¬ (bgF F m u = true ∧ v.2.1 u = true)) : roC F m (f + 1) u v = roC F m f (u + 1) v := by
  rw [show roC F m (f + 1) u v = if u < F 6 m then (if bgF F m u = true ∧ v.2.1 u = true then roC F m f (u + 1) (stpC F m u v) else roC F m f (u + 1) v) else v from rfl, if_pos hl, if_neg h]
theorem roC_y (hl : u < F 6 m) (h : bgF F m u = true ∧ v.2.1 u = true) : roC F m (f + 1) u v = roC F m f (u + 1) (stpC F m u v) := by
  rw [show roC F m (f + 1) u v = if u < F 6 m then (if bgF F m u = true ∧ v.2.1 u = true then roC F m f (u + 1) (stpC F m u v) else roC F m f (u + 1) v) else v from rfl, if_pos hl, if_pos h]
end ROC

