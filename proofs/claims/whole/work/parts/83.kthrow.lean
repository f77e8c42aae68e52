/-! the class: load, seal, call -/
abbrev rx_load : Room := { frames := 7, cells := 1, slots := 6, locals := 155 }
abbrev rx_seal : Room := { frames := 7, cells := 1, slots := 6, locals := 155 }
abbrev rx_call : Room := { frames := 6, cells := 1, slots := 6, locals := 94 }
abbrev rx_run : Room := { frames := 6, cells := 1, slots := 6, locals := 108 }
theorem lk_take : Cond.methodLink "PairVm" 59 yn_V_takeFile ∈ al_W := al_in 596 (by decide +kernel) rfl
/-- a program's part and what stands beside it, where only some numbers change -/
theorem KP.al {σ σ' : fr_S} {q : Nat} {b b' : Nat → Nat} {n n' : Nat} {pl : Int32} {F : Nat → Nat → Nat} {a a' : AV} {B B' : VM} (h : KP σ q b n pl F a B) (hB : KB σ' b' n') (hA : KA σ' a') (hX : CX σ' q B') (hR : RF σ') (hr : gR σ' 0 3 = gR σ 0 3 ∧ gR σ' 0 4 = gR σ 0 4) (h5 : gI σ' 0 5 = gI σ 0 5) (e : ∀ o k, 27 ≤ o → o < 717 → o ≠ q + 2 → gI σ' o k = gI σ o k) : KP σ' q b' n' pl F a' B' := by
  obtain ⟨hq, _, ⟨h3, h4⟩, _, hpl, hPP, ⟨F', hCP', hW8'⟩, ⟨⟨c1, hc⟩, ⟨c2, hc'⟩⟩, _, _⟩ := h
  have hfar := (OTq.far hq).1
  have b1 := (kd_P hq).2.2.2.2.2
  have b2 := (kd_P (OTq.pb q)).2.2.2.2.2
  have z1 := hq.h27
  have z2 := (OTq.pb q).h27
  have z3 : q ≤ 372 := by rcases hq with e | e <;> omega
  have z4 : OTq q ≤ 372 := by rcases OTq.pb q with e | e <;> omega
  exact ⟨hq, hR, ⟨hr.1.trans h3, hr.2.trans h4⟩, hB, h5.trans hpl, hPP.al (fun o k g1 g2 g3 _ => e o k (by omega) (by omega) g3), ⟨F', hCP'.al (fun o k g1 g2 _ _ => e o k (by omega) (by omega) (by omega)), hW8'⟩, ⟨⟨c1, (e _ _ (by omega) (by omega) (by omega)).trans hc⟩, ⟨c2, (e _ _ (by omega) (by omega) (by omega)).trans hc'⟩⟩, hA, hX⟩
set_option maxRecDepth 100000 in
theorem k_load {l : Launch} {G : fr_G} {σ : fr_S} (hfl : l.flags = pinnedFlags ++ [noTraceFlag]) {q : Nat} {b : Nat → Nat} {n : Nat} {pl : Int32} {F : Nat → Nat → Nat} {a : AV} {B : VM} (hK : KP σ q b n pl F a B) (Fr : Nat → Nat → Nat) : CE l G yy_V_load rx_load [.ref 0] σ (TKr q b n Fr a B σ) (TKt q b n Fr F a B σ) := by
  show PX l G yy_V_load rx_load _ false 742 0 0 0 [(0, .ref 0)] [] σ
  refine px_aload_n dx_V_load_0 rfl ?_
  refine px_cVE (Yc := yy_V_takeFile) (Rc := rx_takeFile) (b := 0) (ci := 0) (z := 0) (As := []) (st := []) dx_V_load_1 lk_take mw_V_load mv_V_takeFile ⟨_, rfl⟩ (by decide) rfl (by decide) np_V_takeFile (Nat.le_of_ble_eq_true rfl) (Nat.le_of_ble_eq_true rfl) ⟨by decide, by decide, by decide, by decide⟩ rfl (k_takeFile hfl hK Fr) (fun r σ' h => ?_) (fun E σ' h => h)
  obtain ⟨hg, F2, B2, rfl, hh⟩ := h
  exact px_wk (QF := QR G false 742 0 0 (TKr q b n Fr a B σ)) (px_iret dx_V_load_4 rfl ⟨hg, F2, B2, rfl, hh⟩) (fun _ _ _ _ h _ _ => Or.inl h)
def SLr (q : Nat) (b : Nat → Nat) (n : Nat) (Fr : Nat → Nat → Nat) (a : AV) (B : VM) (σ : fr_S) (r0 : Option Value) (σ' : fr_S) : Prop := n ≤ 212 ∧ ∃ σ1, KO σ σ1 ∧ TKr q (slB b n) (n + 8) Fr a B σ1 r0 σ'
def SLt (q : Nat) (b : Nat → Nat) (n : Nat) (pl : Int32) (Fr F : Nat → Nat → Nat) (a : AV) (B : VM) (σ : fr_S) (E : String) (σ' : fr_S) : Prop := (212 < n ∧ E = ex_I ∧ KP σ' q b n pl F a B ∧ KO σ σ') ∨ (n ≤ 212 ∧ ∃ σ1, KO σ σ1 ∧ TKt q (slB b n) (n + 8) Fr F a B σ1 E σ')
set_option maxRecDepth 100000 in
theorem k_seal {l : Launch} {G : fr_G} {σ : fr_S} (hfl : l.flags = pinnedFlags ++ [noTraceFlag]) {q : Nat} {b : Nat → Nat} {n : Nat} {pl : Int32} {F : Nat → Nat → Nat} {a : AV} {B : VM} (hK : KP σ q b n pl F a B) (Fr : Nat → Nat → Nat) : CE l G yy_V_seal rx_seal [.ref 0] σ (SLr q b n Fr a B σ) (SLt q b n pl Fr F a B σ) := by
  have hR := hK.2.1
  show PX l G yy_V_seal rx_seal _ false 742 0 0 0 [(0, .ref 0)] [] σ
  refine px_aload_n dx_V_seal_0 rfl ?_
  refine px_getR (r := 1) dx_V_seal_1 fl_V_10 rfl (by decide) rfl hR.1.1 ?_
  refine px_cVR (Y := yy_V_seal) (Yc := yy_Fb_putHead) (b := 1) (As := []) dx_V_seal_4 ml_V_48 mv_Fb_putHead np_Fb_putHead ⟨_, rfl⟩ (by decide) rfl (by decide) rfl (Nat.le_of_ble_eq_true rfl) (Nat.le_of_ble_eq_true rfl) ⟨rfl, rfl, Nat.le_of_ble_eq_true rfl, Nat.le_of_ble_eq_true rfl⟩ rfl (k_putHead hR hK.2.2.2.1) zz_0 (fun r τ h => ?_)
  rcases h with ⟨hn, rfl, rfl⟩ | ⟨hn, rfl, hA, hB⟩
  · refine px_if_ne dx_V_seal_7 (fun c => absurd rfl c) (fun _ => ?_)
    exact px_thI hfl dx_V_seal_10 dx_V_seal_13 dx_V_seal_14 dx_V_seal_16 dx_V_seal_19 rfl mw_V_seal (tx := "there are more than 212 bytes") (by decide) ⟨by decide, by decide, by decide, by decide⟩ (Or.inl ⟨hn, rfl, hK, KO.rf⟩)
  · refine px_if_ne dx_V_seal_7 (fun _ => ?_) (fun c => absurd c (by decide))
    have eI : ∀ o k, o ≠ 2 → ¬ (o = 1 ∧ k = 1) → gI τ o k = gI σ o k := fun o k h1 h2 => hA.1 o k (by unfold P2; omega)
    have hK1 : KP τ q (slB b n) (n + 8) pl F a B := by
      have hq27 := hK.1.h27
      obtain ⟨_, _, _, _, _, _, _, _, hAg, hX⟩ := id hK
      exact hK.al hB (hAg.al (fun o k h => eI o k (by omega) (by omega)) (fun o k _ => ⟨hA.L o k, hA.D o k⟩)) (hX.al (fun o k h => eI o k (by omega) (by omega)) (fun o k _ _ => ⟨hA.L o k, hA.D o k⟩) (fun o k _ _ => hA.R o k)) (hA.rfs hR) ⟨hA.R 0 3, hA.R 0 4⟩ (eI 0 5 (by decide) (by decide)) (fun o k h1 _ _ => eI o k (by omega) (by omega))
    have hO : KO σ τ := fun o k ho => ⟨eI o k (by omega) (by omega), hA.L o k, hA.D o k, hA.R o k⟩
    refine px_aload_n dx_V_seal_20 rfl ?_
    refine px_cVE (Yc := yy_V_takeFile) (Rc := rx_takeFile) (b := 0) (ci := 0) (z := 0) (As := []) (st := []) dx_V_seal_21 lk_take mw_V_seal mv_V_takeFile ⟨_, rfl⟩ (by decide) rfl (by decide) np_V_takeFile (Nat.le_of_ble_eq_true rfl) (Nat.le_of_ble_eq_true rfl) ⟨by decide, by decide, by decide, by decide⟩ rfl (k_takeFile hfl hK1 Fr) (fun r σ' h => ?_) (fun E σ' h => Or.inr ⟨hn, τ, hO, h⟩)
    obtain ⟨hg, F2, B2, rfl, hh⟩ := h
    exact px_wk (QF := QR G false 742 0 0 (SLr q b n Fr a B σ)) (px_iret dx_V_seal_24 rfl ⟨hn, τ, hO, hg, F2, B2, rfl, hh⟩) (fun _ _ _ _ h _ _ => Or.inl h)
def CAr (q : Nat) (b : Nat → Nat) (n : Nat) (pl : Int32) (F : Nat → Nat → Nat) (a : AV) (B : VM) (σ : fr_S) (x : Int32) (r0 : Option Value) (σ' : fr_S) : Prop := r0 = none ∧ ∃ m, m < F 0 0 ∧ x = nI m ∧ suO F a m = true ∧ ufO F (F 0 0) = false ∧ KP σ' q b n pl F (a_0 a) (bgB F a m B) ∧ KO σ σ'
def CAt (q : Nat) (b : Nat → Nat) (n : Nat) (pl : Int32) (F : Nat → Nat → Nat) (a : AV) (B : VM) (σ : fr_S) (x : Int32) (E : String) (σ' : fr_S) : Prop := ((E = ex_I ∧ (imO F x = false ∨ ∃ m, m < F 0 0 ∧ x = nI m ∧ suO F a m = false)) ∨ (E = ex_S ∧ ∃ m, m < F 0 0 ∧ x = nI m ∧ suO F a m = true ∧ ufO F (F 0 0) = true)) ∧ KP σ' q b n pl F (a_0 a) B ∧ KO σ σ'
theorem KP.ag0 {σ : fr_S} {q : Nat} {b : Nat → Nat} {n : Nat} {pl : Int32} {F : Nat → Nat → Nat} {a : AV} {B : VM} (h : KP σ q b n pl F a B) : KP (sI σ 3 3 0) q b n pl F (a_0 a) B := by
  have hq27 := h.1.h27
  obtain ⟨_, hR, _, hB, _, _, _, _, hA, hX⟩ := id h
  have e : ∀ o k, o ≠ 3 → gI (sI σ 3 3 0) o k = gI σ o k := fun o k ho => gI_n (Or.inl ho)
  obtain ⟨a1, a2, a3, a4, a5, a6⟩ := hA
  refine h.al (hB.al fun o k ho => e o k (by omega)) ⟨gI_s, Nat.zero_le _, fun k hk => (e _ _ (by decide)).trans (a3 k hk), a4, a5, a6⟩ (hX.al (fun o k ho => e o k (by omega)) (fun _ _ _ _ => ⟨rfl, rfl⟩) (fun _ _ _ _ => rfl)) hR ⟨rfl, rfl⟩ (e _ _ (by decide)) (fun o k h1 _ _ => e o k (by omega))
theorem KO.w3 {σ σ1 : fr_S} (h : KO σ σ1) {k : Nat} {v : Int32} : KO σ (sI σ1 3 k v) := h.tr fun o x ho => ⟨gI_n (Or.inl (by omega)), rfl, rfl, rfl⟩
set_option maxRecDepth 100000 in
theorem k_call_b {l : Launch} {G : fr_G} {σ : fr_S} (hfl : l.flags = pinnedFlags ++ [noTraceFlag]) (hR : RF σ) {x : Int32} {v : Nat} (hv : v ≤ 2) {PR : Option Value → fr_S → Prop} {PT : String → fr_S → Prop} (h0 : v = 0 → PR none (sI σ 3 3 0)) (h1 : v = 1 → PT ex_I (sI σ 3 3 0)) (h2 : v = 2 → PT ex_S (sI σ 3 3 0)) : PX l G yy_V_call rx_call (QX yy_V_call G PR PT) false 742 0 0 5 [(0, .ref 0), (1, .int x)] [.int (nI v)] σ := by
  refine px_istore_n (lv' := [(2, .int (nI v)), (0, .ref 0), (1, .int x)]) dx_V_call_5 (by decide) rfl ?_
  refine px_aload_n dx_V_call_6 rfl ?_
  refine px_getR (r := 3) dx_V_call_7 fl_V_19 rfl (by decide) rfl hR.1.2.1 ?_
  refine px_cV (Y := yy_V_call) (Yc := yy_Ag_clear) (b := 3) (As := []) dx_V_call_10 ml_V_88 mv_Ag_clear np_Ag_clear ⟨_, rfl⟩ (by decide) rfl (by decide) rfl (Nat.le_of_ble_eq_true rfl) (Nat.le_of_ble_eq_true rfl) ⟨rfl, rfl, Nat.le_of_ble_eq_true rfl, Nat.le_of_ble_eq_true rfl⟩ rfl k_agClear zz_0 ?_
  refine px_iload_n dx_V_call_13 rfl ?_
  refine px_iconst (v := nI 1) dx_V_call_14 rfl ?_
  refine px_icmp_neN dx_V_call_15 (by omega) (by decide) (fun c => ?_) (fun c => ?_)
  · refine px_iload_n dx_V_call_28 rfl ?_
    refine px_iconst (v := nI 2) dx_V_call_29 rfl ?_
    refine px_icmp_neN dx_V_call_30 (by omega) (by decide) (fun d => ?_) (fun d => ?_)
    · exact px_wk (QF := QR G false 742 0 0 PR) (px_vret dx_V_call_43 rfl (h0 (by omega))) (fun _ _ _ _ h _ _ => Or.inl h)
    · exact px_thS hfl dx_V_call_33 dx_V_call_36 dx_V_call_37 dx_V_call_39 dx_V_call_42 rfl mw_V_call (tx := "some method isn't fit") (by decide) ⟨by decide, by decide, by decide, by decide⟩ (h2 d)
  · exact px_thI hfl dx_V_call_18 dx_V_call_21 dx_V_call_22 dx_V_call_24 dx_V_call_27 rfl mw_V_call (tx := "no such method, or other parameters") (by decide) ⟨by decide, by decide, by decide, by decide⟩ (h1 c)
theorem imO_t {F : Nat → Nat → Nat} {x : Int32} (h : imO F x = true) (h4 : F 0 0 ≤ 4) : ∃ m, m < F 0 0 ∧ x = nI m := by
  unfold imO at h
  rw [decide_eq_true_eq] at h
  have e := nn_clamp h.1
  refine ⟨x.toNatClampNeg, ?_, e⟩
  have h2 := h.2
  rw [e] at h2
  have hb : x.toNatClampNeg < 2 ^ 31 := by
    have := Int32.toInt_lt x
    have e2 : x.toNatClampNeg = x.toInt.toNat := rfl
    omega
  exact (nI_ltI hb (by omega)).mp h2
theorem KS.ko {q : Nat} (hq : q + 350 < 742) (h3 : q ≤ 372) {σ σ' : fr_S} (h : KS q σ σ') : KO σ σ' := fun o k ho => ⟨h.1 o k (by omega) (by omega), (h.2.2 o k (by omega)).1, (h.2.2 o k (by omega)).2, h.2.1 o k (by omega)⟩
/-- behind running -/
theorem KP.ks {σ σ' : fr_S} {q : Nat} {b : Nat → Nat} {n : Nat} {pl : Int32} {F : Nat → Nat → Nat} {a : AV} {B B' : VM} (h : KP σ q b n pl F a B) (hS : KS q σ σ') (hX' : CX σ' q B') : KP σ' q b n pl F a B' := by
  have hq27 := h.1.h27
  obtain ⟨_, hR, _, hB, _, _, _, _, hA, hX⟩ := id h
  exact h.al (hB.al fun o k ho => hS.1 o k (by omega) (by omega)) (hA.al (fun o k ho => hS.1 o k (by omega) (by omega)) (fun o k ho => hS.2.2 o k (by omega))) hX' (hS.rfs hR) ⟨hS.2.1 0 3 (by omega), hS.2.1 0 4 (by omega)⟩ (hS.1 0 5 (by omega) (by omega)) (fun o k h1 _ h3 => hS.1 o k (by omega) h3)
set_option maxRecDepth 100000 in
theorem k_callV {l : Launch} {G : fr_G} {σ : fr_S} (hfl : l.flags = pinnedFlags ++ [noTraceFlag]) {q : Nat} {b : Nat → Nat} {n : Nat} {pl : Int32} {F : Nat → Nat → Nat} {a : AV} {B : VM} (hK : KP σ q b n pl F a B) {x : Int32} : CE l G yy_V_call rx_call [.ref 0, .int x] σ (CAr q b n pl F a B σ x) (CAt q b n pl F a B σ x) := by
  obtain ⟨hq, hR, ⟨h3, h4⟩, hB, hpl, ⟨hCP, hW8, hFV, hMJ, hfit⟩, _, _, hA, hX⟩ := id hK
  have hq372 : q ≤ 372 := by rcases hq with e | e <;> omega
  show PX l G yy_V_call rx_call _ false 742 0 0 0 [(0, .ref 0), (1, .int x)] [] σ
  refine px_aload_n dx_V_call_0 rfl ?_
  refine px_iload_n dx_V_call_1 rfl ?_
  have rk : RK rx_call rm_V_beginCall yy_V_beginCall 0 0 := ⟨rfl, rfl, Nat.le_of_ble_eq_true rfl, Nat.le_of_ble_eq_true rfl⟩
  by_cases c : imO F x = true
  · obtain ⟨m, hm, rfl⟩ := imO_t c (hW8 0 0)
    by_cases cs : suO F a m = true
    · have hf := hfit (by omega)
      by_cases cu : ufO F (F 0 0) = true
      · refine px_cV (Y := yy_V_call) (Yc := yy_V_beginCall) (b := 0) (As := [.int (nI m)]) dx_V_call_2 ml_V_84 mv_V_beginCall np_V_beginCall ⟨_, rfl⟩ (by decide) rfl (by decide) rfl (Nat.le_of_ble_eq_true rfl) (Nat.le_of_ble_eq_true rfl) rk rfl (k_bc_u hq h3 hR hW8.fw hCP hA hm cs hf cu) zz_0 ?_
        exact k_call_b hfl hR (v := 2) (by decide) (fun e => absurd e (by decide)) (fun e => absurd e (by decide)) (fun _ => ⟨Or.inr ⟨rfl, m, hm, rfl, cs, cu⟩, hK.ag0, KO.rf.w3⟩)
      · have cu' : ufO F (F 0 0) = false := by simpa using cu
        refine px_cVR (Y := yy_V_call) (Yc := yy_V_beginCall) (b := 0) (As := [.int (nI m)]) dx_V_call_2 ml_V_84 mv_V_beginCall np_V_beginCall ⟨_, rfl⟩ (by decide) rfl (by decide) rfl (Nat.le_of_ble_eq_true rfl) (Nat.le_of_ble_eq_true rfl) rk rfl (k_bc_m hq h3 hR hW8.fw hCP hA hm cs hf cu' (hFV.2.1 m hm) hX) zz_0 (fun r τ h => ?_)
        obtain ⟨rfl, hS, hX1⟩ := h
        exact k_call_b hfl (hS.rfs hR) (v := 0) (by decide) (fun _ => ⟨rfl, m, hm, rfl, cs, cu', (hK.ks hS hX1).ag0, (hS.ko (kd_P hq).2.2.2.2.2 hq372).w3⟩) (fun e => absurd e (by decide)) (fun e => absurd e (by decide))
    · have cs' : suO F a m = false := by simpa using cs
      refine px_cV (Y := yy_V_call) (Yc := yy_V_beginCall) (b := 0) (As := [.int (nI m)]) dx_V_call_2 ml_V_84 mv_V_beginCall np_V_beginCall ⟨_, rfl⟩ (by decide) rfl (by decide) rfl (Nat.le_of_ble_eq_true rfl) (Nat.le_of_ble_eq_true rfl) rk rfl (k_bc_s hq h3 hR hW8.fw hCP hA hm cs') zz_0 ?_
      exact k_call_b hfl hR (v := 1) (by decide) (fun e => absurd e (by decide)) (fun _ => ⟨Or.inl ⟨rfl, Or.inr ⟨m, hm, rfl, cs'⟩⟩, hK.ag0, KO.rf.w3⟩) (fun e => absurd e (by decide))
  · have c' : imO F x = false := by simpa using c
    refine px_cV (Y := yy_V_call) (Yc := yy_V_beginCall) (b := 0) (As := [.int x]) dx_V_call_2 ml_V_84 mv_V_beginCall np_V_beginCall ⟨_, rfl⟩ (by decide) rfl (by decide) rfl (Nat.le_of_ble_eq_true rfl) (Nat.le_of_ble_eq_true rfl) rk rfl (k_bc_n hq h3 hR hW8.fw hCP hA c') zz_0 ?_
    exact k_call_b hfl hR (v := 1) (by decide) (fun e => absurd e (by decide)) (fun _ => ⟨Or.inl ⟨rfl, Or.inl c'⟩, hK.ag0, KO.rf.w3⟩) (fun e => absurd e (by decide))

