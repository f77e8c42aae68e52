/-! the class: a method's verification begins, and follows every way -/
theorem E_ne {q e : Nat} (hq : PB q) (hE : ME e) : q + 4 ≠ e ∧ q + 4 ≠ e + 1 ∧ q + 4 ≠ e + 2 ∧ q + 4 ≠ e + 4 ∧ q + 3 ≠ e ∧ q + 3 ≠ e + 1 ∧ q + 3 ≠ e + 2 ∧ q + 3 ≠ e + 4 := by
  have kM := kd_M hE
  have kP := kd_P hq
  have f : ∀ {a b : Nat}, kd a ≠ kd b → a ≠ b := fun h z => h (congrArg kd z)
  refine ⟨f ?_, f ?_, f ?_, f ?_, f ?_, f ?_, f ?_, f ?_⟩
  · rw [kP.2.2.2.2.1, kM.1]; decide
  · rw [kP.2.2.2.2.1, kM.2.1]; decide
  · rw [kP.2.2.2.2.1, kM.2.2.1]; decide
  · rw [kP.2.2.2.2.1, kM.2.2.2.2.1]; decide
  · rw [kP.2.2.2.1, kM.1]; decide
  · rw [kP.2.2.2.1, kM.2.1]; decide
  · rw [kP.2.2.2.1, kM.2.2.1]; decide
  · rw [kP.2.2.2.1, kM.2.2.2.2.1]; decide
theorem PF.no {q e o k : Nat} (hq : PB q) (hE : ME e) (h : PF q e o k) : o ≠ e ∧ o ≠ e + 1 ∧ o ≠ e + 2 ∧ o ≠ e + 4 ∧ ∀ u, u < 40 → o = e + 5 + 2 * u → k = 0 := by
  have n := E_ne hq hE
  rcases h with h | h | ⟨u, hu, h⟩
  · refine ⟨by omega, by omega, by omega, by omega, fun u hu z => ?_⟩
    have := S_ne hq (SE.s hE hu)
    omega
  · refine ⟨by omega, by omega, by omega, by omega, fun u hu z => ?_⟩
    have := S_ne hq (SE.s hE hu)
    omega
  · exact ⟨by omega, by omega, by omega, by omega, fun v hv z => by omega⟩
section PFS
variable {σ σ' : fr_S} {q e : Nat} {F : Nat → Nat → Nat} {m : Nat}
theorem CM.pf (hq : PB q) (hE : ME e) (h : CM σ e F m) (a : Agp (PF q e) σ σ') : CM σ' e F m := h.cg fun o k z => a.1 o k fun w => by
  have := w.no hq hE
  omega
theorem SLm.pf (hq : PB q) (hE : ME e) (h : SLm σ e F m) (a : Agp (PF q e) σ σ') : SLm σ' e F m := h.cg (fun u _ => a.1 _ _ fun w => (w.no hq hE).2.2.2.1 rfl) fun u hu k h2 _ _ => a.1 _ _ fun w => by
  have := (w.no hq hE).2.2.2.2 u hu rfl
  omega
theorem SUm.pf (hq : PB q) (hE : ME e) {X Y : Nat → Nat} {B : Nat → Bool} (h : SUm σ e X Y B) (a : Agp (PF q e) σ σ') : SUm σ' e X Y B := fun u hu hb => by
  have n := fun k (hk : k ≠ 0) => a.1 (e + 5 + 2 * u) k fun w => hk ((w.no hq hE).2.2.2.2 u hu rfl)
  obtain ⟨z1, z2⟩ := h u hu hb
  exact ⟨(n 7 (by decide)).trans z1, (n 8 (by decide)).trans z2⟩
theorem wdc_w {t : Nat} (h : t ≤ 4) : wdc (tt t) = wdt t := wdc_tt t h
end PFS

set_option maxRecDepth 100000 in
set_option maxHeartbeats 1000000 in
theorem k_begin_lp {l : Launch} {G : fr_G} {σ : fr_S} {q : Nat} (hq : PB q) {e : Nat} (hE : ME e) (hRf : RF σ) {F : Nat → Nat → Nat} (hW : FW F) (hFP : FP F) {m : Nat} (hm : m < F 0 0) (hQ : pwF F m ≤ F 5 m) (h1 : 1 ≤ F 6 m) (hCm : CM σ e F m) (hLm : SLm σ e F m) (hr0 : ∀ u, u < 40 → bgF F m u = true → gI σ (e + 5 + 2 * u) 0 = 0) {c : Bool} (hc : gI σ (q + 3) 1 = b2i c) {Post : Option Value → fr_S → Prop} (hp0 : ∀ r σ', (fun r0 σ' => r0 = none ∧ Agp (PF q e) σ σ' ∧ CV σ' q e (bgF F m) (v_0 F m)) r σ' → Post r σ') : ∀ (d : Nat) (k : Nat) (σ1 : fr_S), F 3 m - k < d → k ≤ F 3 m → Agp (P4 q) σ σ1 → AN σ1 q (bgN F m k) → PX l G yy_Fl_begin rm_Fl_begin (QR G false 742 0 0 Post) false 742 0 0 15 [(0, .ref (q + 3)), (1, .ref (e)), (2, .int (nI (F 5 m - pwF F m + agK F m k))), (3, .int (nI (k)))] [] (σ1) := by
  intro d
  induction d with
  | zero => intro k σ1 hd; exact absurd hd (Nat.not_lt_zero _)
  | succ d ih =>
    intro k σ1 hd hk hA hN
    have kP := kd_P hq
    have kM := kd_M hE
    have hne := E_ne hq hE
    have h64 := hW.2.2.2.2.2.2.1 m
    have h3 := hW.2.2.2.1 m
    have h5 := hW.2.2.2.2.1
    have h10 := hW.2.2.2.2.2.1 m
    have hR := hA.rfs hRf
    have hC : CM σ1 e F m := hCm.pf hq hE (hA.mono fun o k h => P4.pf h)
    have hL : SLm σ1 e F m := hLm.pf hq hE (hA.mono fun o k h => P4.pf h)
    refine px_iload_n dx_Fl_begin_15 rfl ?_
    refine px_aload_n dx_Fl_begin_16 rfl ?_
    refine px_getI dx_Fl_begin_17 fl_Fl_72 kM.1 (by omega) rfl ?_
    refine px_eqi (y := nI (F 3 m)) hC.2.1 ?_
    refine px_icmp_geN (a := k) (b := F 3 m) dx_Fl_begin_20 (by (first | omega | exact Nat.lt_of_le_of_lt (wdc_12 _ |>.elim Nat.le_of_eq Nat.le_of_eq) (by decide))) (by (first | omega | exact Nat.lt_of_le_of_lt (wdc_12 _ |>.elim Nat.le_of_eq Nat.le_of_eq) (by decide))) (fun c_20 => ?_) (fun c_20 => ?_)
    · obtain rfl : k = F 3 m := by omega
      have hb0 : bgF F m 0 = true := by (show bgc F m 40 0 0 = true; rw [bgc_s h1]; rfl)
      have kS := kd_S (SE.s hE (show 0 < 40 by decide))
      refine px_aload_n dx_Fl_begin_57 rfl ?_
      refine px_aload_n dx_Fl_begin_58 rfl ?_
      refine px_iconst (v := 0) dx_Fl_begin_59 rfl ?_
      refine px_cV (Y := yy_Fl_begin) (Yc := yy_Me_stepAt) (b := e) (As := [.int (0)]) dx_Fl_begin_60 ml_Fl_29 mv_Me_stepAt np_Me_stepAt ⟨_, rfl⟩ (by decide) kM.1 (by omega) rfl (Nat.le_of_ble_eq_true rfl) (Nat.le_of_ble_eq_true rfl) rk_Fl_begin_Me_stepAt rfl (k_stepAt_N (u := 0) hE hR h64 hC.2.2.2.2.1 hL.1 h1 hb0) zz_0 ?_
      refine px_cVR (Y := yy_Fl_begin) (Yc := yy_Fl_join) (b := q + 3) (As := [.ref (e + 5 + 2 * 0)]) dx_Fl_begin_63 ml_Fl_49 mv_Fl_join np_Fl_join ⟨_, rfl⟩ (by decide) kP.2.2.2.1 (by omega) rfl (Nat.le_of_ble_eq_true rfl) (Nat.le_of_ble_eq_true rfl) rk_Fl_begin_Fl_join rfl (k_joinV (Bg := bgF F m) (v := (fun _ _ => 0, fun _ => false, c)) hq hE hR ⟨fun p hp hb => ⟨(hA.1 _ _ (by have := S_ne hq (SE.s hE hp); unfold P4; omega)).trans (hr0 p hp hb), fun z => by cases z⟩, (hA.1 _ _ (by unfold P4; omega)).trans hc⟩ hN (bgN_ok hW hQ _ (Nat.le_refl _)).2 ⟨fun _ _ => Nat.zero_le _, fun _ z => by cases z⟩ (p := 0) (by omega) hb0) zz_0 (fun r_63 τ1 h_63 => ?_)
      obtain ⟨rfl, hA1, hV1, -⟩ := h_63
      exact px_vret dx_Fl_begin_66 rfl (by exact hp0 _ _ ⟨rfl, (hA.mono fun o k h => P4.pf h).tr hA1, by rw [← v_0_c (c := c)]; exact hV1⟩)
    · have hk2 := agK_mono F m (k + 1) (F 3 m) (by omega)
      rw [agK_s] at hk2
      have hpw : agK F m (F 3 m) = pwF F m := rfl
      have hbo := bgN_ok hW hQ k (by omega)
      have hfp := hFP m k hm (by omega)
      have hwd : wdt (F 4 (3 * m + k)) = 1 ∨ wdt (F 4 (3 * m + k)) = 2 := by (have := wdt_le (F 4 (3 * m + k)); have : 1 ≤ wdt (F 4 (3 * m + k)) := (by unfold wdt; split <;> decide); omega)
      refine px_aload_n dx_Fl_begin_23 rfl ?_
      refine px_iload_n dx_Fl_begin_24 rfl ?_
      refine px_cV (Y := yy_Fl_begin) (Yc := yy_Me_parameterAt) (b := e) (As := [.int (nI (k))]) dx_Fl_begin_25 ml_Fl_75 mv_Me_parameterAt np_Me_parameterAt ⟨_, rfl⟩ (by decide) kM.1 (by omega) rfl (Nat.le_of_ble_eq_true rfl) (Nat.le_of_ble_eq_true rfl) rk_Fl_begin_Me_parameterAt rfl (k_parameterAt (np := F 3 m) (pt := fun k => tt (F 4 (3 * m + k))) hE hR (by omega) hC.2.1 hC.2.2.2.2.2.1 (by omega)) zz_0 ?_
      refine px_eqi (y := nI (tt (F 4 (3 * m + k)))) (congrArg nI (if_pos c_20)) ?_
      refine px_istore (lv' := [(4, .int (nI (tt (F 4 (3 * m + k))))), (0, .ref (q + 3)), (1, .ref (e)), (2, .int (nI (F 5 m - pwF F m + agK F m k))), (3, .int (nI (k)))]) dx_Fl_begin_28 (by decide) rfl ?_
      refine px_iload dx_Fl_begin_30 rfl ?_
      refine px_cS (Y := yy_Fl_begin) (Yc := yy_V_widthOf) (As := [.int (nI (tt (F 4 (3 * m + k))))]) dx_Fl_begin_32 ml_Fl_79 ms_V_widthOf np_V_widthOf rfl (Nat.le_of_ble_eq_true rfl) (Nat.le_of_ble_eq_true rfl) rk_Fl_begin_V_widthOf rfl (k_widthOf (x := tt (F 4 (3 * m + k))) (by have := tt_b _ (h5 (3 * m + k)); omega)) zz_0 ?_
      refine px_eqi (y := nI (wdt (F 4 (3 * m + k)))) (congrArg nI (wdc_w (h5 _))) ?_
      refine px_istore (lv' := [(5, .int (nI (wdt (F 4 (3 * m + k))))), (4, .int (nI (tt (F 4 (3 * m + k))))), (0, .ref (q + 3)), (1, .ref (e)), (2, .int (nI (F 5 m - pwF F m + agK F m k))), (3, .int (nI (k)))]) dx_Fl_begin_35 (by decide) rfl ?_
      refine px_aload_n dx_Fl_begin_37 rfl ?_
      refine px_iload_n dx_Fl_begin_38 rfl ?_
      refine px_iload dx_Fl_begin_39 rfl ?_
      refine px_iload dx_Fl_begin_41 rfl ?_
      refine px_cVR (Y := yy_Fl_begin) (Yc := yy_Fl_setTypes) (b := q + 3) (As := [.int (nI (F 5 m - pwF F m + agK F m k)), .int (nI (wdt (F 4 (3 * m + k)))), .int (nI (tt (F 4 (3 * m + k))))]) dx_Fl_begin_43 ml_Fl_82 mv_Fl_setTypes np_Fl_setTypes ⟨_, rfl⟩ (by decide) kP.2.2.2.1 (by omega) rfl (Nat.le_of_ble_eq_true rfl) (Nat.le_of_ble_eq_true rfl) rk_Fl_begin_Fl_setTypes rfl (k_setTypes (N := bgN F m k) (r := F 5 m - pwF F m + agK F m k) (w := wdt (F 4 (3 * m + k))) (t := tt (F 4 (3 * m + k))) hq hR hN hwd (by omega) (tt_b _ (h5 _)) hbo.2) zz_0 (fun r_43 τ1 h_43 => ?_)
      obtain ⟨rfl, hA1, hN1⟩ := h_43
      refine px_iload_n dx_Fl_begin_46 rfl ?_
      refine px_iload dx_Fl_begin_47 rfl ?_
      refine px_iaddN (a := F 5 m - pwF F m + agK F m k) (b := wdt (F 4 (3 * m + k))) dx_Fl_begin_49 ?_
      refine px_istore_n (lv' := [(2, .int (nI ((F 5 m - pwF F m + agK F m k) + (wdt (F 4 (3 * m + k)))))), (5, .int (nI (wdt (F 4 (3 * m + k))))), (4, .int (nI (tt (F 4 (3 * m + k))))), (0, .ref (q + 3)), (1, .ref (e)), (3, .int (nI (k)))]) dx_Fl_begin_50 (by decide) rfl ?_
      refine px_iinc (v := (nI (k + 1))) (lv' := [(3, .int (nI (k + 1))), (2, .int (nI ((F 5 m - pwF F m + agK F m k) + (wdt (F 4 (3 * m + k)))))), (5, .int (nI (wdt (F 4 (3 * m + k))))), (4, .int (nI (tt (F 4 (3 * m + k))))), (0, .ref (q + 3)), (1, .ref (e))]) dx_Fl_begin_51 rfl (nI_1 _) (by decide) rfl ?_
      refine px_goto dx_Fl_begin_54 ?_
      refine px_sub [4, 5, 1, 0] rfl ?_
      have qq := ih (k + 1) _ (by omega) (by omega) (hA.tr hA1) (by rw [show bgN F m (k + 1) = stC (bgN F m k) (F 5 m - pwF F m + agK F m k) (wdt (F 4 (3 * m + k))) (tt (F 4 (3 * m + k))) from (stC_e hbo.1 hfp (h5 _) (by omega)).symm]; exact hN1)
      rw [agK_s, ← Nat.add_assoc] at qq
      exact qq
set_option maxRecDepth 100000 in
set_option maxHeartbeats 1000000 in
theorem k_begin {l : Launch} {G : fr_G} {σ : fr_S} {q : Nat} (hq : PB q) {e : Nat} (hE : ME e) (hRf : RF σ) {F : Nat → Nat → Nat} (hW : FW F) (hFP : FP F) {m : Nat} (hm : m < F 0 0) (hQ : pwF F m ≤ F 5 m) (h1 : 1 ≤ F 6 m) (hCm : CM σ e F m) (hLm : SLm σ e F m) (hr0 : ∀ u, u < 40 → bgF F m u = true → gI σ (e + 5 + 2 * u) 0 = 0) {c : Bool} (hc : gI σ (q + 3) 1 = b2i c) : CR l G yy_Fl_begin rm_Fl_begin [.ref (q + 3), .ref (e)] σ (fun r0 σ' => r0 = none ∧ Agp (PF q e) σ σ' ∧ CV σ' q e (bgF F m) (v_0 F m)) := by
  intro Post hp0
  show PX l G yy_Fl_begin rm_Fl_begin _ false 742 0 0 0 [(0, .ref (q + 3)), (1, .ref (e))] [] σ
  have kP := kd_P hq
  have kM := kd_M hE
  have hne := E_ne hq hE
  have h64 := hW.2.2.2.2.2.2.1 m
  have h3 := hW.2.2.2.1 m
  have h5 := hW.2.2.2.2.1
  have h10 := hW.2.2.2.2.2.1 m
  have hR := hRf
  have hC := hCm
  refine px_aload_n dx_Fl_begin_0 rfl ?_
  refine px_getR (r := q + 4) dx_Fl_begin_1 fl_Fl_9 kP.2.2.2.1 (by omega) rfl (hR.2.2.2.1 q hq).2.2.2.1 ?_
  refine px_iconst (v := 0) dx_Fl_begin_4 rfl ?_
  refine px_cSR (Y := yy_Fl_begin) (Yc := yy_Ja_fill) (As := [.ref (q + 4), .int (0)]) dx_Fl_begin_5 ml_Fl_62 ms_Ja_fill np_Ja_fill rfl (Nat.le_of_ble_eq_true rfl) (Nat.le_of_ble_eq_true rfl) rk_Fl_begin_Ja_fill rfl (k_fill (a := q + 4) (N0 := 10) (x := 0) kP.2.2.2.2.1 (by omega) (by decide)) zz_0 (fun r_5 σ1 h_5 => ?_)
  obtain ⟨rfl, hA, hFl⟩ := h_5
  replace hA : Agp (P4 q) σ σ1 := hA
  have hR := hA.rfs hRf
  have hC : CM σ1 e F m := hCm.pf hq hE (hA.mono fun o k h => P4.pf h)
  have hL : SLm σ1 e F m := hLm.pf hq hE (hA.mono fun o k h => P4.pf h)
  refine px_aload_n dx_Fl_begin_8 rfl ?_
  refine px_cV (Y := yy_Fl_begin) (Yc := yy_Me_firstArgument) (b := e) (As := []) dx_Fl_begin_9 ml_Fl_68 mv_Me_firstArgument np_Me_firstArgument ⟨_, rfl⟩ (by decide) kM.1 (by omega) rfl (Nat.le_of_ble_eq_true rfl) (Nat.le_of_ble_eq_true rfl) rk_Fl_begin_Me_firstArgument rfl (k_firstArgument (rg := F 5 m) (w := pwF F m) hE hC.2.2.2.1 hC.2.2.1 hQ) zz_0 ?_
  refine px_istore_n (lv' := [(2, .int (nI (F 5 m - pwF F m))), (0, .ref (q + 3)), (1, .ref (e))]) dx_Fl_begin_12 (by decide) rfl ?_
  refine px_iconst (v := 0) dx_Fl_begin_13 rfl ?_
  refine px_istore_n (lv' := [(3, .int (0)), (2, .int (nI (F 5 m - pwF F m))), (0, .ref (q + 3)), (1, .ref (e))]) dx_Fl_begin_14 (by decide) rfl ?_
  refine px_sub [2, 3, 1, 0] rfl ?_
  exact k_begin_lp (σ := σ) hq hE hRf hW hFP hm hQ h1 hCm hLm hr0 hc hp0 (F 3 m + 1) 0 _ (by omega) (by omega) hA (fun r hr => hFl r hr)

theorem fif_all {F : Nat → Nat → Nat} (hW : FW F) {m : Nat} : ∀ {f p : Nat}, fif F (bgF F m) m f p (pbG (bgF F m) p) = -1 → 40 ≤ p + f → ∀ u, p ≤ u → u < F 6 m → bgF F m u = true → frmOK F (bgF F m) m u (pbG (bgF F m) u) = true
  | 0, p, _, h, u, hu, hl, _ => by
    have := hW.2.2.2.2.2.2.1 m
    omega
  | f + 1, p, hf, h, u, hu, hl, hb => by
    have h6 := hW.2.2.2.2.2.2.1 m
    have hp : p < F 6 m := by omega
    by_cases h2 : bgF F m p = true
    · obtain ⟨a, b⟩ := fif_frm hW (by omega) hp h2 hf
      by_cases e : u = p
      · subst e
        exact a
      · refine fif_all hW (f := f) (p := p + 1) ?_ (by omega) u (by omega) hl hb
        rw [show pbG (bgF F m) (p + 1) = some p from if_pos h2]
        exact b
    · rw [fif_no hp (by simpa using h2)] at hf
      have e : u ≠ p := fun z => h2 (z ▸ hb)
      refine fif_all hW (f := f) (p := p + 1) ?_ (by omega) u (by omega) hl hb
      rw [show pbG (bgF F m) (p + 1) = pbG (bgF F m) p from if_neg h2]
      exact hf
theorem st_b : ∀ op, op < 256 → (stO op ≤ 5 ∨ stO op = 7 ∨ stO op = 8) ∧ (usO op ≤ 5 ∨ usO op = 7 ∨ usO op = 8) := by decide +kernel
theorem stG_b {F : Nat → Nat → Nat} (hW : FW F) {m u : Nat} : stG F m u ≤ 5 ∨ stG F m u = 7 ∨ stG F m u = 8 := by
  unfold stG
  split
  · exact Or.inl (rbC_b hW _ _)
  · exact (st_b _ (opS_lt _)).1
theorem usG_b {F : Nat → Nat → Nat} (hW : FW F) {m u : Nat} : usG F m u ≤ 5 ∨ usG F m u = 7 ∨ usG F m u = 8 := by
  unfold usG
  split
  · exact Or.inl (tt_b _ (hW.2.2.1 m))
  · exact (st_b _ (opS_lt _)).2
theorem st5 : ∀ op, op < 256 → kdO op = 5 → stO op ≠ 0 := by decide +kernel
/-- what the form of an instruction gives the flow -/
theorem frm_C {F : Nat → Nat → Nat} (hW : FW F) {m u : Nat} (h : frmOK F (bgF F m) m u (pbG (bgF F m) u) = true) : cpl F m u = true ∧ (stG F m u ≠ 0 → dRes (opS (F 7 (40 * m + u))) (F 7 (40 * m + u)) + wdc (stG F m u) ≤ 10) := by
  rw [← ft_e hW] at h
  unfold ftC at h
  simp only [Bool.and_eq_true] at h
  obtain ⟨hc, hr, -, hk⟩ := h
  refine ⟨hc, fun hx => ?_⟩
  have h5 := hW.2.2.2.2.2.1 m
  unfold rgC at hr
  simp only [Bool.and_eq_true, Bool.or_eq_true, decide_eq_true_eq] at hr
  have h1 := hr.1
  unfold stG at hx ⊢
  by_cases c : kdO (opS (F 7 (40 * m + u))) = 5
  · rw [if_pos c] at hx ⊢
    have h0 := st5 _ (opS_lt _) c
    unfold kdC at hk
    rw [if_neg (by rw [c]; decide), if_neg (by rw [c]; decide), if_pos (by rw [c]; decide)] at hk
    unfold owC at hk
    simp only [Bool.and_eq_true, decide_eq_true_eq] at hk
    rw [hk.2]
    omega
  · rw [if_neg c] at hx ⊢
    unfold stD at hx ⊢
    omega
/-- a branch goes where both sides say -/
theorem br_e {F : Nat → Nat → Nat} {m u : Nat} (hc : cpl F m u = true) {op : Nat} (hop : op = opS (F 7 (40 * m + u))) (hb : brs op = true) : nI u + dNum op (F 7 (40 * m + u)) (uA F m (u + 1)) = tgO F m u := by
  have h256 : op < 256 := hop ▸ opS_lt _
  have hc' := hc
  unfold cpl at hc'
  simp only [decide_eq_true_eq] at hc'
  rw [← hop] at hc'
  unfold tgO
  rw [← hop]
  simp only [brs, Bool.or_eq_true, Bool.and_eq_true, decide_eq_true_eq] at hb
  by_cases q : op = 40
  · rw [if_pos q, q]
    rfl
  · rw [if_neg q]
    have hk : kdO op = 10 ∨ kdO op = 11 := by
      rcases Nat.lt_or_ge op 56 with z | z
      · exact Or.inl (g_50 op h256 (by omega)).1
      · exact Or.inr (g_56 op h256 (by omega)).1
    have hs : 2 ≤ szO op := sz_2 (by omega)
    rw [uA_e (by omega)]
    congr 1
    unfold dNum
    rcases hk with hk | hk <;> rw [hk] <;> rfl
section ROC
variable {F : Nat → Nat → Nat} {m f u : Nat} {v R : VS}
theorem roC_end (h : F 6 m ≤ u) : roC F m f u v = v := by
  cases f with
  | zero => rfl
  | succ f => unfold roC; rw [if_neg (Nat.not_lt.mpr h)]
theorem roC_no (hl : u < F 6 m) (h : ¬ (bgF F m u = true ∧ v.2.1 u = true)) : roC F m (f + 1) u v = roC F m f (u + 1) v := by
  rw [show roC F m (f + 1) u v = if u < F 6 m then (if bgF F m u = true ∧ v.2.1 u = true then roC F m f (u + 1) (stpC F m u v) else roC F m f (u + 1) v) else v from rfl, if_pos hl, if_neg h]
theorem roC_y (hl : u < F 6 m) (h : bgF F m u = true ∧ v.2.1 u = true) : roC F m (f + 1) u v = roC F m f (u + 1) (stpC F m u v) := by
  rw [show roC F m (f + 1) u v = if u < F 6 m then (if bgF F m u = true ∧ v.2.1 u = true then roC F m f (u + 1) (stpC F m u v) else roC F m f (u + 1) v) else v from rfl, if_pos hl, if_pos h]
end ROC

set_option maxRecDepth 100000 in
set_option maxHeartbeats 1000000 in
theorem k_follow_l2 {l : Launch} {G : fr_G} {σ : fr_S} {q : Nat} (hq : PB q) {e : Nat} (hE : ME e) (hRf : RF σ) {F : Nat → Nat → Nat} (hW : FW F) (hFP : FP F) {m : Nat} (hm : m < F 0 0) (hQ : pwF F m ≤ F 5 m) (h1 : 1 ≤ F 6 m) (hCm : CM σ e F m) (hLm : SLm σ e F m) (hS0 : SUm σ e (stG F m) (usG F m) (bgF F m)) (hfo : ∀ u, u < F 6 m → bgF F m u = true → frmOK F (bgF F m) m u (pbG (bgF F m) u) = true) {Post : Option Value → fr_S → Prop} {QF : List Frame → Array Value → State → State → Prop} {R : VS} {i : Nat} (hq2 : ∀ σ', Agp (PF q e) σ σ' → CV σ' q e (bgF F m) R → VI R → PX l G yy_Fl_follow rm_Fl_follow QF false 742 0 0 122 [(0, .ref (q + 3)), (1, .ref (e)), (2, .int (nI (i)))] [] σ') : ∀ (d : Nat) (u : Nat) (v : VS) (σ1 : fr_S), 40 - u < d → u ≤ 40 → Agp (PF q e) σ σ1 → CV σ1 q e (bgF F m) v → VI v → roC F m (40 - u) u v = R → PX l G yy_Fl_follow rm_Fl_follow QF false 742 0 0 33 [(0, .ref (q + 3)), (1, .ref (e)), (2, .int (nI (i))), (3, .int (nI (u)))] [] (σ1) := by
  intro d
  induction d with
  | zero => intro u v σ1 hd; exact absurd hd (Nat.not_lt_zero _)
  | succ d ih =>
    intro u v σ1 hd hu hA hV hVI hr
    have kP := kd_P hq
    have kM := kd_M hE
    have hne := E_ne hq hE
    have h64 := hW.2.2.2.2.2.2.1 m
    have h3 := hW.2.2.2.1 m
    have h5 := hW.2.2.2.2.1
    have h10 := hW.2.2.2.2.2.1 m
    have hR := hA.rfs hRf
    have hC : CM σ1 e F m := hCm.pf hq hE hA
    have hL : SLm σ1 e F m := hLm.pf hq hE hA
    have hS : SUm σ1 e (stG F m) (usG F m) (bgF F m) := hS0.pf hq hE hA
    refine px_iload_n dx_Fl_follow_33 rfl ?_
    refine px_aload_n dx_Fl_follow_34 rfl ?_
    refine px_getI dx_Fl_follow_35 fl_Fl_23 kM.1 (by omega) rfl ?_
    refine px_eqi (y := nI (F 6 m)) hC.2.2.2.2.1 ?_
    refine px_icmp_geN (a := u) (b := F 6 m) dx_Fl_follow_38 (by omega) (by omega) (fun c_38 => ?_) (fun c_38 => ?_)
    · refine px_sub [0, 1, 2] rfl ?_
      (rw [roC_end (by omega)] at hr); subst hr; exact hq2 _ hA hV hVI
    · refine px_aload_n dx_Fl_follow_41 rfl ?_
      refine px_iload_n dx_Fl_follow_42 rfl ?_
      by_cases q_43 : bgF F m u = true
      · refine px_cV (Y := yy_Fl_follow) (Yc := yy_Me_stepAt) (b := e) (As := [.int (nI (u))]) dx_Fl_follow_43 ml_Fl_29 mv_Me_stepAt np_Me_stepAt ⟨_, rfl⟩ (by decide) kM.1 (by omega) rfl (Nat.le_of_ble_eq_true rfl) (Nat.le_of_ble_eq_true rfl) rk_Fl_follow_Me_stepAt rfl (k_stepAt_N hE hR h64 hC.2.2.2.2.1 hL.1 (by omega) q_43) zz_0 ?_
        refine px_astore (lv' := [(4, .ref (e + 5 + 2 * u)), (0, .ref (q + 3)), (1, .ref (e)), (2, .int (nI (i))), (3, .int (nI (u)))]) dx_Fl_follow_46 (by decide) rfl ?_
        have kS := kd_S (SE.s hE (show u < 40 by omega))
        refine px_aload dx_Fl_follow_48 rfl ?_
        refine px_ifnull dx_Fl_follow_50 ?_
        refine px_aload dx_Fl_follow_53 rfl ?_
        refine px_getI dx_Fl_follow_55 fl_Fl_33 kS.1 (by omega) rfl ?_
        refine px_eqi (y := b2i (v.2.1 u)) (hV.1 u (by omega) q_43).1 ?_
        refine px_if_neB dx_Fl_follow_58 (fun c_58 => ?_) (fun c_58 => ?_)
        · have hu40 : u < 40 := by omega
          have huF : u < F 6 m := by omega
          have hfr := hfo u huF q_43
          have hfp := frm_p hfr
          have hfc := frm_C hW hfr
          have kS := kd_S (SE.s hE hu40)
          have hWN := insN_WP hW (bf := pbG (bgF F m) u) hfp.2.2.1 hfp.2.2.2.1 (hVI.2 u c_58)
          have hN6 := insN_le6 (F := F) (m := m) (p := u) (bf := pbG (bgF F m) u) (hVI.1 u)
          have hge := gbK_e (opS (F 7 (40 * m + u))) (opS_lt _) (by have := hfp.1; omega)
          have hbe := brK_e (opS (F 7 (40 * m + u))) (opS_lt _)
          have hkb := kdO_b (opS (F 7 (40 * m + u))) (opS_lt _)
          refine px_aload_n dx_Fl_follow_64 rfl ?_
          refine px_aload dx_Fl_follow_65 rfl ?_
          refine px_cVR (Y := yy_Fl_follow) (Yc := yy_Fl_passOver) (b := q + 3) (As := [.ref (e + 5 + 2 * u)]) dx_Fl_follow_67 ml_Fl_38 mv_Fl_passOver np_Fl_passOver ⟨_, rfl⟩ (by decide) kP.2.2.2.1 (by omega) rfl (Nat.le_of_ble_eq_true rfl) (Nat.le_of_ble_eq_true rfl) rk_Fl_follow_Fl_passOver rfl (k_passOver (op := opS (F 7 (40 * m + u))) (w := F 7 (40 * m + u)) (w1 := uA F m (u + 1)) (w2 := uA F m (u + 2)) (x := stG F m u) (y := usG F m u) (T := v.1 u) hq hR (SE.s hE hu40) (hW.2.2.2.2.2.2.2 _) rfl (hL.2 u hu40 q_43).1 (hS u hu40 q_43) ((hV.1 u hu40 q_43).2 c_58) (hVI.1 u) (stG_b hW) (usG_b hW) hfc.2) zz_0 (fun r_67 τ1 h_67 => ?_)
          obtain ⟨rfl, hA1, hN1⟩ := h_67
          have hV1 := hV.p4 hq hE hA1
          have hA1 := hA.tr (hA1.mono fun o k h => P4.pf h)
          rw [(io_e hW hfc.1 hfp.2.2.1 hfp.2.2.2.1 (hVI.2 u c_58) rfl).1] at hN1
          have hR := hA1.rfs hRf
          have hC : CM τ1 e F m := hCm.pf hq hE hA1
          have hL : SLm τ1 e F m := hLm.pf hq hE hA1
          refine px_aload dx_Fl_follow_70 rfl ?_
          refine px_cV (Y := yy_Fl_follow) (Yc := yy_St_goesOnBehind) (b := e + 5 + 2 * u) (As := []) dx_Fl_follow_72 ml_Fl_42 mv_St_goesOnBehind np_St_goesOnBehind ⟨_, rfl⟩ (by decide) kS.1 (by omega) rfl (Nat.le_of_ble_eq_true rfl) (Nat.le_of_ble_eq_true rfl) rk_Fl_follow_St_goesOnBehind rfl (k_goes (k := kdO (opS (F 7 (40 * m + u)))) (SE.s hE hu40) (by omega) (hL.2 u hu40 q_43).1.2.1) zz_0 ?_
          refine px_if_eqB dx_Fl_follow_75 (fun c_75 => ?_) (fun c_75 => ?_)
          · refine px_aload dx_Fl_follow_93 rfl ?_
            refine px_cV (Y := yy_Fl_follow) (Yc := yy_St_branches) (b := e + 5 + 2 * u) (As := []) dx_Fl_follow_95 ml_Fl_52 mv_St_branches np_St_branches ⟨_, rfl⟩ (by decide) kS.1 (by omega) rfl (Nat.le_of_ble_eq_true rfl) (Nat.le_of_ble_eq_true rfl) rk_Fl_follow_St_branches rfl (k_branches (k := kdO (opS (F 7 (40 * m + u)))) (SE.s hE hu40) (by omega) (hL.2 u hu40 q_43).1.2.1) zz_0 ?_
            refine px_if_eqB dx_Fl_follow_98 (fun c_98 => ?_) (fun c_98 => ?_)
            · refine px_iinc (v := (nI (u + 1))) (lv' := [(3, .int (nI (u + 1))), (4, .ref (e + 5 + 2 * u)), (0, .ref (q + 3)), (1, .ref (e)), (2, .int (nI (i)))]) dx_Fl_follow_116 rfl (nI_1 _) (by decide) rfl ?_
              refine px_goto dx_Fl_follow_119 ?_
              refine px_sub [2, 3, 4, 0] rfl ?_
              (rw [show 40 - u = (39 - u) + 1 by omega, roC_y huF ⟨q_43, c_58⟩] at hr)
              have he : ens (opS (F 7 (40 * m + u))) = true := by (rw [hge] at c_75; revert c_75; cases ens (opS (F 7 (40 * m + u))) <;> decide)
              have hbr : brs (opS (F 7 (40 * m + u))) = false := by (rw [← hbe]; simpa using c_98)
              have ev : stpC F m u v = v := by (unfold stpC; rw [he, hbr]; rfl)
              rw [ev] at hr
              exact ih (u + 1) _ _ (by omega) (by omega) hA1 hV1 hVI (by rw [show 40 - (u + 1) = 39 - u by omega]; exact hr)
            · have hbr : brs (opS (F 7 (40 * m + u))) = true := by (rw [← hbe]; simpa using c_98)
              have htg := mgo_p (hfp.2.2.2.2.2.resolve_left (by rw [hbr]; exact fun q => Bool.noConfusion q))
              refine px_aload_n dx_Fl_follow_101 rfl ?_
              refine px_aload_n dx_Fl_follow_102 rfl ?_
              refine px_iload_n dx_Fl_follow_103 rfl ?_
              refine px_aload dx_Fl_follow_104 rfl ?_
              refine px_getI dx_Fl_follow_106 fl_Fl_55 kS.1 (by omega) rfl ?_
              refine px_eqi (y := dNum (opS (F 7 (40 * m + u))) (F 7 (40 * m + u)) (uA F m (u + 1))) (hL.2 u hu40 q_43).1.2.2.2.2.2.2.1 ?_
              refine px_iadd dx_Fl_follow_109 ?_
              refine px_eqi (y := nI ((tgO F m u).toNatClampNeg)) ((br_e hfc.1 rfl hbr).trans htg.2.2) ?_
              refine px_cV (Y := yy_Fl_follow) (Yc := yy_Me_stepAt) (b := e) (As := [.int (nI ((tgO F m u).toNatClampNeg))]) dx_Fl_follow_110 ml_Fl_29 mv_Me_stepAt np_Me_stepAt ⟨_, rfl⟩ (by decide) kM.1 (by omega) rfl (Nat.le_of_ble_eq_true rfl) (Nat.le_of_ble_eq_true rfl) rk_Fl_follow_Me_stepAt rfl (k_stepAt_N hE hR h64 hC.2.2.2.2.1 hL.1 htg.1 htg.2.1) zz_0 ?_
              refine px_cVR (Y := yy_Fl_follow) (Yc := yy_Fl_join) (b := q + 3) (As := [.ref (e + 5 + 2 * ((tgO F m u).toNatClampNeg))]) dx_Fl_follow_113 ml_Fl_49 mv_Fl_join np_Fl_join ⟨_, rfl⟩ (by decide) kP.2.2.2.1 (by omega) rfl (Nat.le_of_ble_eq_true rfl) (Nat.le_of_ble_eq_true rfl) rk_Fl_follow_Fl_join rfl (k_joinV (Bg := bgF F m) (v := v) hq hE hR hV1 hN1 hN6 hVI (p := (tgO F m u).toNatClampNeg) (by have := htg.1; omega) htg.2.1) zz_0 (fun r_113 τ3 h_113 => ?_)
              obtain ⟨rfl, hJ3, hV3, hN3⟩ := h_113
              have hA3 := hA1.tr hJ3
              have hVI3 := flS_VI (p := (tgO F m u).toNatClampNeg) hVI hWN hN6
              have hR := hA3.rfs hRf
              have hC : CM τ3 e F m := hCm.pf hq hE hA3
              have hL : SLm τ3 e F m := hLm.pf hq hE hA3
              refine px_iinc (v := (nI (u + 1))) (lv' := [(3, .int (nI (u + 1))), (4, .ref (e + 5 + 2 * u)), (0, .ref (q + 3)), (1, .ref (e)), (2, .int (nI (i)))]) dx_Fl_follow_116 rfl (nI_1 _) (by decide) rfl ?_
              refine px_goto dx_Fl_follow_119 ?_
              refine px_sub [2, 3, 4, 0] rfl ?_
              (rw [show 40 - u = (39 - u) + 1 by omega, roC_y huF ⟨q_43, c_58⟩] at hr)
              have he : ens (opS (F 7 (40 * m + u))) = true := by (rw [hge] at c_75; revert c_75; cases ens (opS (F 7 (40 * m + u))) <;> decide)
              have ev : stpC F m u v = flS (v) (tgO F m u).toNatClampNeg (insN F m u (pbG (bgF F m) u) (v.1 u)) := by (unfold stpC; rw [he, hbr]; rfl)
              rw [ev] at hr
              exact ih (u + 1) _ _ (by omega) (by omega) hA3 hV3 hVI3 (by rw [show 40 - (u + 1) = 39 - u by omega]; exact hr)
          · have hnx := mgN_p (hfp.2.2.2.2.1.resolve_left (by rw [hge] at c_75; revert c_75; cases ens (opS (F 7 (40 * m + u))) <;> decide))
            refine px_aload_n dx_Fl_follow_78 rfl ?_
            refine px_aload_n dx_Fl_follow_79 rfl ?_
            refine px_iload_n dx_Fl_follow_80 rfl ?_
            refine px_aload dx_Fl_follow_81 rfl ?_
            refine px_getI dx_Fl_follow_83 fl_Fl_46 kS.1 (by omega) rfl ?_
            refine px_eqi (y := nI (szO (opS (F 7 (40 * m + u))))) (hL.2 u hu40 q_43).1.2.2.1 ?_
            refine px_iaddN (a := u) (b := szO (opS (F 7 (40 * m + u)))) dx_Fl_follow_86 ?_
            refine px_cV (Y := yy_Fl_follow) (Yc := yy_Me_stepAt) (b := e) (As := [.int (nI (u + (szO (opS (F 7 (40 * m + u))))))]) dx_Fl_follow_87 ml_Fl_29 mv_Me_stepAt np_Me_stepAt ⟨_, rfl⟩ (by decide) kM.1 (by omega) rfl (Nat.le_of_ble_eq_true rfl) (Nat.le_of_ble_eq_true rfl) rk_Fl_follow_Me_stepAt rfl (k_stepAt_N hE hR h64 hC.2.2.2.2.1 hL.1 hnx.1 hnx.2) zz_0 ?_
            refine px_cVR (Y := yy_Fl_follow) (Yc := yy_Fl_join) (b := q + 3) (As := [.ref (e + 5 + 2 * (u + szO (opS (F 7 (40 * m + u)))))]) dx_Fl_follow_90 ml_Fl_49 mv_Fl_join np_Fl_join ⟨_, rfl⟩ (by decide) kP.2.2.2.1 (by omega) rfl (Nat.le_of_ble_eq_true rfl) (Nat.le_of_ble_eq_true rfl) rk_Fl_follow_Fl_join rfl (k_joinV (Bg := bgF F m) (v := v) hq hE hR hV1 hN1 hN6 hVI (p := u + szO (opS (F 7 (40 * m + u)))) (by have := hnx.1; omega) hnx.2) zz_0 (fun r_90 τ2 h_90 => ?_)
            obtain ⟨rfl, hJ2, hV2, hN2⟩ := h_90
            have hA2 := hA1.tr hJ2
            have hVI2 := flS_VI (p := u + szO (opS (F 7 (40 * m + u)))) hVI hWN hN6
            have hR := hA2.rfs hRf
            have hC : CM τ2 e F m := hCm.pf hq hE hA2
            have hL : SLm τ2 e F m := hLm.pf hq hE hA2
            refine px_aload dx_Fl_follow_93 rfl ?_
            refine px_cV (Y := yy_Fl_follow) (Yc := yy_St_branches) (b := e + 5 + 2 * u) (As := []) dx_Fl_follow_95 ml_Fl_52 mv_St_branches np_St_branches ⟨_, rfl⟩ (by decide) kS.1 (by omega) rfl (Nat.le_of_ble_eq_true rfl) (Nat.le_of_ble_eq_true rfl) rk_Fl_follow_St_branches rfl (k_branches (k := kdO (opS (F 7 (40 * m + u)))) (SE.s hE hu40) (by omega) (hL.2 u hu40 q_43).1.2.1) zz_0 ?_
            refine px_if_eqB dx_Fl_follow_98 (fun c_98 => ?_) (fun c_98 => ?_)
            · refine px_iinc (v := (nI (u + 1))) (lv' := [(3, .int (nI (u + 1))), (4, .ref (e + 5 + 2 * u)), (0, .ref (q + 3)), (1, .ref (e)), (2, .int (nI (i)))]) dx_Fl_follow_116 rfl (nI_1 _) (by decide) rfl ?_
              refine px_goto dx_Fl_follow_119 ?_
              refine px_sub [2, 3, 4, 0] rfl ?_
              (rw [show 40 - u = (39 - u) + 1 by omega, roC_y huF ⟨q_43, c_58⟩] at hr)
              have he : ens (opS (F 7 (40 * m + u))) = false := by (rw [hge] at c_75; revert c_75; cases ens (opS (F 7 (40 * m + u))) <;> decide)
              have hbr : brs (opS (F 7 (40 * m + u))) = false := by (rw [← hbe]; simpa using c_98)
              have ev : stpC F m u v = flS v (u + szO (opS (F 7 (40 * m + u)))) (insN F m u (pbG (bgF F m) u) (v.1 u)) := by (unfold stpC; rw [he, hbr]; rfl)
              rw [ev] at hr
              exact ih (u + 1) _ _ (by omega) (by omega) hA2 hV2 hVI2 (by rw [show 40 - (u + 1) = 39 - u by omega]; exact hr)
            · have hbr : brs (opS (F 7 (40 * m + u))) = true := by (rw [← hbe]; simpa using c_98)
              have htg := mgo_p (hfp.2.2.2.2.2.resolve_left (by rw [hbr]; exact fun q => Bool.noConfusion q))
              refine px_aload_n dx_Fl_follow_101 rfl ?_
              refine px_aload_n dx_Fl_follow_102 rfl ?_
              refine px_iload_n dx_Fl_follow_103 rfl ?_
              refine px_aload dx_Fl_follow_104 rfl ?_
              refine px_getI dx_Fl_follow_106 fl_Fl_55 kS.1 (by omega) rfl ?_
              refine px_eqi (y := dNum (opS (F 7 (40 * m + u))) (F 7 (40 * m + u)) (uA F m (u + 1))) (hL.2 u hu40 q_43).1.2.2.2.2.2.2.1 ?_
              refine px_iadd dx_Fl_follow_109 ?_
              refine px_eqi (y := nI ((tgO F m u).toNatClampNeg)) ((br_e hfc.1 rfl hbr).trans htg.2.2) ?_
              refine px_cV (Y := yy_Fl_follow) (Yc := yy_Me_stepAt) (b := e) (As := [.int (nI ((tgO F m u).toNatClampNeg))]) dx_Fl_follow_110 ml_Fl_29 mv_Me_stepAt np_Me_stepAt ⟨_, rfl⟩ (by decide) kM.1 (by omega) rfl (Nat.le_of_ble_eq_true rfl) (Nat.le_of_ble_eq_true rfl) rk_Fl_follow_Me_stepAt rfl (k_stepAt_N hE hR h64 hC.2.2.2.2.1 hL.1 htg.1 htg.2.1) zz_0 ?_
              refine px_cVR (Y := yy_Fl_follow) (Yc := yy_Fl_join) (b := q + 3) (As := [.ref (e + 5 + 2 * ((tgO F m u).toNatClampNeg))]) dx_Fl_follow_113 ml_Fl_49 mv_Fl_join np_Fl_join ⟨_, rfl⟩ (by decide) kP.2.2.2.1 (by omega) rfl (Nat.le_of_ble_eq_true rfl) (Nat.le_of_ble_eq_true rfl) rk_Fl_follow_Fl_join rfl (k_joinV (Bg := bgF F m) (v := (flS v (u + szO (opS (F 7 (40 * m + u)))) (insN F m u (pbG (bgF F m) u) (v.1 u)))) hq hE hR hV2 hN2 hN6 hVI2 (p := (tgO F m u).toNatClampNeg) (by have := htg.1; omega) htg.2.1) zz_0 (fun r_113 τ3 h_113 => ?_)
              obtain ⟨rfl, hJ3, hV3, hN3⟩ := h_113
              have hA3 := hA2.tr hJ3
              have hVI3 := flS_VI (p := (tgO F m u).toNatClampNeg) hVI2 hWN hN6
              have hR := hA3.rfs hRf
              have hC : CM τ3 e F m := hCm.pf hq hE hA3
              have hL : SLm τ3 e F m := hLm.pf hq hE hA3
              refine px_iinc (v := (nI (u + 1))) (lv' := [(3, .int (nI (u + 1))), (4, .ref (e + 5 + 2 * u)), (0, .ref (q + 3)), (1, .ref (e)), (2, .int (nI (i)))]) dx_Fl_follow_116 rfl (nI_1 _) (by decide) rfl ?_
              refine px_goto dx_Fl_follow_119 ?_
              refine px_sub [2, 3, 4, 0] rfl ?_
              (rw [show 40 - u = (39 - u) + 1 by omega, roC_y huF ⟨q_43, c_58⟩] at hr)
              have he : ens (opS (F 7 (40 * m + u))) = false := by (rw [hge] at c_75; revert c_75; cases ens (opS (F 7 (40 * m + u))) <;> decide)
              have ev : stpC F m u v = flS (flS v (u + szO (opS (F 7 (40 * m + u)))) (insN F m u (pbG (bgF F m) u) (v.1 u))) (tgO F m u).toNatClampNeg (insN F m u (pbG (bgF F m) u) (v.1 u)) := by (unfold stpC; rw [he, hbr]; rfl)
              rw [ev] at hr
              exact ih (u + 1) _ _ (by omega) (by omega) hA3 hV3 hVI3 (by rw [show 40 - (u + 1) = 39 - u by omega]; exact hr)
        · refine px_goto dx_Fl_follow_61 ?_
          refine px_iinc (v := (nI (u + 1))) (lv' := [(3, .int (nI (u + 1))), (4, .ref (e + 5 + 2 * u)), (0, .ref (q + 3)), (1, .ref (e)), (2, .int (nI (i)))]) dx_Fl_follow_116 rfl (nI_1 _) (by decide) rfl ?_
          refine px_goto dx_Fl_follow_119 ?_
          refine px_sub [2, 3, 4, 0] rfl ?_
          (rw [show 40 - u = (39 - u) + 1 by omega, roC_no (by omega) (fun z => by have := z.2; rw [c_58] at this; cases this)] at hr); exact ih (u + 1) v _ (by omega) (by omega) hA hV hVI (by rw [show 40 - (u + 1) = 39 - u by omega]; exact hr)
      · refine px_cV (Y := yy_Fl_follow) (Yc := yy_Me_stepAt) (b := e) (As := [.int (nI (u))]) dx_Fl_follow_43 ml_Fl_29 mv_Me_stepAt np_Me_stepAt ⟨_, rfl⟩ (by decide) kM.1 (by omega) rfl (Nat.le_of_ble_eq_true rfl) (Nat.le_of_ble_eq_true rfl) rk_Fl_follow_Me_stepAt rfl (k_stepAt_n hE hR h64 hC.2.2.2.2.1 hL.1 (by omega) (fun z => q_43 z.2)) zz_0 ?_
        refine px_astoreN (lv' := [(4, .null), (0, .ref (q + 3)), (1, .ref (e)), (2, .int (nI (i))), (3, .int (nI (u)))]) dx_Fl_follow_46 (by decide) rfl ?_
        refine px_aloadN dx_Fl_follow_48 rfl ?_
        refine px_ifnullN dx_Fl_follow_50 ?_
        refine px_iinc (v := (nI (u + 1))) (lv' := [(3, .int (nI (u + 1))), (4, .null), (0, .ref (q + 3)), (1, .ref (e)), (2, .int (nI (i)))]) dx_Fl_follow_116 rfl (nI_1 _) (by decide) rfl ?_
        refine px_goto dx_Fl_follow_119 ?_
        refine px_sub [2, 3, 4, 0] rfl ?_
        (rw [show 40 - u = (39 - u) + 1 by omega, roC_no (by omega) (fun z => q_43 z.1)] at hr); exact ih (u + 1) v _ (by omega) (by omega) hA hV hVI (by rw [show 40 - (u + 1) = 39 - u by omega]; exact hr)

theorem fxC_n {F : Nat → Nat → Nat} {m k : Nat} {v : VS} (h : v.2.2 = false) : fxC F m k v = v := by
  cases k with
  | zero => rfl
  | succ k => unfold fxC; rw [if_neg (by rw [h]; decide)]
theorem fxC_s {F : Nat → Nat → Nat} {m k : Nat} {v : VS} (h : v.2.2 = true) : fxC F m (k + 1) v = fxC F m k (roC F m 40 0 (v.1, v.2.1, false)) := by
  conv => lhs; unfold fxC
  rw [if_pos h]

set_option maxRecDepth 100000 in
set_option maxHeartbeats 1000000 in
theorem k_follow_l1 {l : Launch} {G : fr_G} {σ : fr_S} {q : Nat} (hq : PB q) {e : Nat} (hE : ME e) (hRf : RF σ) {F : Nat → Nat → Nat} (hW : FW F) (hFP : FP F) {m : Nat} (hm : m < F 0 0) (hQ : pwF F m ≤ F 5 m) (h1 : 1 ≤ F 6 m) (hCm : CM σ e F m) (hLm : SLm σ e F m) (hS0 : SUm σ e (stG F m) (usG F m) (bgF F m)) (hfo : ∀ u, u < F 6 m → bgF F m u = true → frmOK F (bgF F m) m u (pbG (bgF F m) u) = true) {Post : Option Value → fr_S → Prop} {R : VS} (hp0 : ∀ r σ', (fun r0 σ' => r0 = none ∧ Agp (PF q e) σ σ' ∧ CV σ' q e (bgF F m) R ∧ VI R) r σ' → Post r σ') : ∀ (d : Nat) (i : Nat) (v : VS) (σ1 : fr_S), 1000 - i < d → i ≤ 1000 → Agp (PF q e) σ σ1 → CV σ1 q e (bgF F m) v → VI v → fxC F m (1000 - i) v = R → PX l G yy_Fl_follow rm_Fl_follow (QR G false 742 0 0 Post) false 742 0 0 12 [(0, .ref (q + 3)), (1, .ref (e)), (2, .int (nI (i)))] [] (σ1) := by
  intro d
  induction d with
  | zero => intro i v σ1 hd; exact absurd hd (Nat.not_lt_zero _)
  | succ d ih =>
    intro i v σ1 hd hi hA hV hVI hr
    have kP := kd_P hq
    have kM := kd_M hE
    have hne := E_ne hq hE
    have h64 := hW.2.2.2.2.2.2.1 m
    have h3 := hW.2.2.2.1 m
    have h5 := hW.2.2.2.2.1
    have h10 := hW.2.2.2.2.2.1 m
    have hR := hA.rfs hRf
    have hC : CM σ1 e F m := hCm.pf hq hE hA
    have hL : SLm σ1 e F m := hLm.pf hq hE hA
    have hS : SUm σ1 e (stG F m) (usG F m) (bgF F m) := hS0.pf hq hE hA
    refine px_iload_n dx_Fl_follow_12 rfl ?_
    refine px_sipush (v := 1000) dx_Fl_follow_13 rfl ?_
    refine px_icmp_geN (a := i) (b := 1000) dx_Fl_follow_16 (by omega) (by omega) (fun c_16 => ?_) (fun c_16 => ?_)
    · exact px_vret dx_Fl_follow_128 rfl (by (have e : R = v := by (rw [← hr, show 1000 - i = 0 by omega]; rfl)); rw [e] at hp0; exact hp0 _ _ ⟨rfl, hA, hV, hVI⟩)
    · refine px_aload_n dx_Fl_follow_19 rfl ?_
      refine px_getI dx_Fl_follow_20 fl_Fl_15 kP.2.2.2.1 (by omega) rfl ?_
      refine px_eqi (y := b2i (v.2.2)) hV.2 ?_
      refine px_if_eqB dx_Fl_follow_23 (fun c_23 => ?_) (fun c_23 => ?_)
      · exact px_vret dx_Fl_follow_128 rfl (by (have e : R = v := by (rw [← hr]; exact fxC_n c_23)); rw [e] at hp0; exact hp0 _ _ ⟨rfl, hA, hV, hVI⟩)
      · refine px_aload_n dx_Fl_follow_26 rfl ?_
        refine px_iconst (v := 0) dx_Fl_follow_27 rfl ?_
        refine px_putZ dx_Fl_follow_28 fl_Fl_15 kP.2.2.2.1 (by omega) rfl (by decide) ?_
        refine px_iconst (v := 0) dx_Fl_follow_31 rfl ?_
        refine px_istore_n (lv' := [(3, .int (0)), (0, .ref (q + 3)), (1, .ref (e)), (2, .int (nI (i)))]) dx_Fl_follow_32 (by decide) rfl ?_
        refine px_sub [1, 2, 3, 0] rfl ?_
        refine k_follow_l2 (σ := σ) (Post := Post) (i := i) hq hE hRf hW hFP hm hQ h1 hCm hLm hS0 hfo (R := roC F m 40 0 (v.1, v.2.1, false)) (fun σ2 hA2 hV2 hVI2 => ?_) 41 0 (v.1, v.2.1, false) _ (by omega) (by omega) (hA.w (Or.inr (Or.inl ⟨rfl, rfl⟩))) ⟨fun p hp hb => (by have := S_ne hq (SE.s hE hp); exact ⟨(gI_n (Or.inl (by omega))).trans (hV.1 p hp hb).1, fun z r hr => (gI_n (Or.inl (by omega))).trans ((hV.1 p hp hb).2 z r hr)⟩), gI_s⟩ hVI rfl
        refine px_iinc (v := (nI (i + 1))) (lv' := [(2, .int (nI (i + 1))), (0, .ref (q + 3)), (1, .ref (e))]) dx_Fl_follow_122 rfl (nI_1 _) (by decide) rfl ?_
        refine px_goto dx_Fl_follow_125 ?_
        refine px_sub [1, 2, 0] rfl ?_
        exact ih (i + 1) _ _ (by omega) (by omega) hA2 hV2 hVI2 (by rw [← hr, show 1000 - i = (1000 - (i + 1)) + 1 by omega, fxC_s c_23])
        all_goals skip
set_option maxRecDepth 100000 in
set_option maxHeartbeats 1000000 in
theorem k_follow {l : Launch} {G : fr_G} {σ : fr_S} {q : Nat} (hq : PB q) {e : Nat} (hE : ME e) (hRf : RF σ) {F : Nat → Nat → Nat} (hW : FW F) (hFP : FP F) {m : Nat} (hm : m < F 0 0) (hQ : pwF F m ≤ F 5 m) (h1 : 1 ≤ F 6 m) (hCm : CM σ e F m) (hLm : SLm σ e F m) (hS0 : SUm σ e (stG F m) (usG F m) (bgF F m)) (hfo : ∀ u, u < F 6 m → bgF F m u = true → frmOK F (bgF F m) m u (pbG (bgF F m) u) = true) (hr0 : ∀ u, u < 40 → bgF F m u = true → gI σ (e + 5 + 2 * u) 0 = 0) {c : Bool} (hc : gI σ (q + 3) 1 = b2i c) : CR l G yy_Fl_follow rm_Fl_follow [.ref (q + 3), .ref (e)] σ (fun r0 σ' => r0 = none ∧ Agp (PF q e) σ σ' ∧ CV σ' q e (bgF F m) (fxC F m 1000 (v_0 F m)) ∧ VI (fxC F m 1000 (v_0 F m))) := by
  intro Post hp0
  show PX l G yy_Fl_follow rm_Fl_follow _ false 742 0 0 0 [(0, .ref (q + 3)), (1, .ref (e))] [] σ
  have kP := kd_P hq
  have kM := kd_M hE
  have hne := E_ne hq hE
  have h64 := hW.2.2.2.2.2.2.1 m
  have h3 := hW.2.2.2.1 m
  have h5 := hW.2.2.2.2.1
  have h10 := hW.2.2.2.2.2.1 m
  have hR := hRf
  have hC := hCm
  refine px_aload_n dx_Fl_follow_0 rfl ?_
  refine px_aload_n dx_Fl_follow_1 rfl ?_
  refine px_cVR (Y := yy_Fl_follow) (Yc := yy_Fl_begin) (b := q + 3) (As := [.ref (e)]) dx_Fl_follow_2 ml_Fl_19 mv_Fl_begin np_Fl_begin ⟨_, rfl⟩ (by decide) kP.2.2.2.1 (by omega) rfl (Nat.le_of_ble_eq_true rfl) (Nat.le_of_ble_eq_true rfl) rk_Fl_follow_Fl_begin rfl (k_begin hq hE hRf hW hFP hm hQ h1 hCm hLm hr0 hc) zz_0 (fun r_2 σ1 h_2 => ?_)
  obtain ⟨rfl, hA, hV⟩ := h_2
  have hR := hA.rfs hRf
  refine px_aload_n dx_Fl_follow_5 rfl ?_
  refine px_iconst (v := 1) dx_Fl_follow_6 rfl ?_
  refine px_putZ dx_Fl_follow_7 fl_Fl_15 kP.2.2.2.1 (by omega) rfl (by decide) ?_
  refine px_iconst (v := 0) dx_Fl_follow_10 rfl ?_
  refine px_istore_n (lv' := [(2, .int (0)), (0, .ref (q + 3)), (1, .ref (e))]) dx_Fl_follow_11 (by decide) rfl ?_
  refine px_sub [1, 2, 0] rfl ?_
  exact k_follow_l1 (σ := σ) hq hE hRf hW hFP hm hQ h1 hCm hLm hS0 hfo hp0 1001 0 (v_0 F m) _ (by omega) (by omega) (hA.w (Or.inr (Or.inl ⟨rfl, rfl⟩))) ⟨fun p hp hb => (by have := S_ne hq (SE.s hE hp); exact ⟨(gI_n (Or.inl (by omega))).trans (hV.1 p hp hb).1, fun z r hr => (gI_n (Or.inl (by omega))).trans ((hV.1 p hp hb).2 z r hr)⟩), gI_s.trans (by rw [show (v_0 F m).2.2 = true from by simpa using v_0_t (F := F) (m := m)]; rfl)⟩ (v_0_VI hW hQ) rfl
