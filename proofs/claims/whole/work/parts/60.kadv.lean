/-! the class: running -/
def mB (B : VM) : Nat := B.1 2 (B.1 1 0 - 1)
def pB (B : VM) : Nat := B.1 3 (B.1 1 0 - 1)
def stpB (F : Nat → Nat → Nat) (B : VM) : VM := stB F B (mB B) (pB B) (opS (F 7 (40 * mB B + pB B))) (F 7 (40 * mB B + pB B)) (uA F (mB B) (pB B + 1)) (uA F (mB B) (pB B + 2))
def rnB (F : Nat → Nat → Nat) : Nat → VM → Nat × VM
  | 0, B => (0, B)
  | k + 1, B => if B.1 0 0 = 1 then (if (stpB F B).1 0 0 = 3 then (rnB F k (stpB F B)).1 else (rnB F k (stpB F B)).1 + 1, (rnB F k (stpB F B)).2) else (0, B)
/-- where the class may go on -/
def SB (F : Nat → Nat → Nat) (B : VM) : Prop := 1 ≤ B.1 1 0 ∧ B.1 1 0 ≤ 6 ∧ mB B < F 0 0 ∧ pB B < 40 ∧ bgF F (mB B) (pB B) = true ∧ fif F (bgF F (mB B)) (mB B) 40 0 none = -1 ∧ (∀ k, dB (B.2.2.1 k)) ∧ (opS (F 7 (40 * mB B + pB B)) = 147 ∨ opS (F 7 (40 * mB B + pB B)) = 148 → ¬ gW B (opN (uA F (mB B) (pB B + 1))) = 0 → ¬ (gW B (opN (uA F (mB B) (pB B + 1)))).toInt32 = 0)
theorem KS.cp {q q' : Nat} (hq : PB q) (hq' : PB q') {σ σ' : fr_S} {F : Nat → Nat → Nat} (h : KS q' σ σ') (c : CP σ q F) : CP σ' q F := by
  have h27 := hq.h27
  refine c.cg (fun k a b => h.1 _ _ (by omega) ?_) fun m hm o k z => h.1 _ _ ?_ ?_
  · rcases hq with rfl | rfl <;> rcases hq' with rfl | rfl <;> omega
  · omega
  · rcases hq with rfl | rfl <;> rcases hq' with rfl | rfl <;> omega
theorem KS.mj {q q' : Nat} (hq : PB q) (hq' : PB q') {σ σ' : fr_S} {F : Nat → Nat → Nat} {m : Nat} (hm : m < 4) (h : KS q' σ σ') (c : MJ σ (q + 5 + 85 * m) F m) : MJ σ' (q + 5 + 85 * m) F m := by
  have h27 := hq.h27
  refine c.cg fun o k a b => h.1 _ _ (by omega) ?_
  rcases hq with rfl | rfl <;> rcases hq' with rfl | rfl <;> omega

set_option maxRecDepth 100000 in
set_option maxHeartbeats 1000000 in
theorem k_advance_lp {l : Launch} {G : fr_G} {σ : fr_S} {q : Nat} (hq : PB q) (hRa : RF σ) {F : Nat → Nat → Nat} (hW : FW F) (hQ : ∀ c, c < F 0 0 → pwF F c ≤ F 5 c) (hCPa : CP σ q F) (hMJ : ∀ m, m < F 0 0 → MJ σ (q + 5 + 85 * m) F m) {J : VM → Prop} (hJs : ∀ B, J B → B.1 0 0 = 1 → SB F B ∧ J (stpB F B)) (hJb : ∀ B, J B → B.1 0 0 ≤ 3 ∧ B.1 1 0 ≤ 6) {lim : Nat} (hlim : lim ≤ 200) {Post : Option Value → fr_S → Prop} {R : Nat × VM} (hp0 : ∀ r σ', (fun r0 σ' => r0 = some (.int (nI R.1)) ∧ KS q σ σ' ∧ CX σ' q R.2) r σ' → Post r σ') : ∀ (d : Nat) (i : Nat) (c : Nat) (B : VM) (σ1 : fr_S), lim - i < d → i ≤ lim → KS q σ σ1 → CX σ1 q B → J B → (c + (rnB F (lim - i) B).1, (rnB F (lim - i) B).2) = R → PX l G yy_Mc_advance rm_Mc_advance (QR G false 742 0 0 Post) false 742 0 0 5 [(0, .ref (7)), (1, .ref (q)), (2, .int (nI (lim))), (3, .int (nI (c))), (4, .int (nI (i)))] [] (σ1) := by
  intro d
  induction d with
  | zero => intro i c B σ1 hd; exact absurd hd (Nat.not_lt_zero _)
  | succ d ih =>
    intro i c B σ1 hd hi hK hX hJ hr
    have h04 := hW.1
    have h27 := hq.h27
    have hR := hK.rfs hRa
    have hCP := KS.cp hq hq hK hCPa
    have hb6 := hJb B hJ
    refine px_iload dx_Mc_advance_5 rfl ?_
    refine px_iload_n dx_Mc_advance_7 rfl ?_
    refine px_icmp_geN (a := i) (b := lim) dx_Mc_advance_8 (by omega) (by omega) (fun c_8 => ?_) (fun c_8 => ?_)
    · refine px_iload_n dx_Mc_advance_85 rfl ?_
      exact px_iret dx_Mc_advance_86 rfl (by (have e : R = (c, B) := by (rw [← hr, show lim - i = 0 by omega]; rfl)); rw [e] at hp0; exact hp0 _ _ ⟨rfl, hK, hX⟩)
    · refine px_aload_n dx_Mc_advance_11 rfl ?_
      refine px_getI dx_Mc_advance_12 fl_Mc_21 rfl (by decide) rfl ?_
      refine px_eqi (y := nI (B.1 0 0)) hX.1 ?_
      refine px_iconst (v := 1) dx_Mc_advance_15 rfl ?_
      refine px_icmp_neN (a := B.1 0 0) (b := 1) dx_Mc_advance_16 (by omega) (by omega) (fun c_16 => ?_) (fun c_16 => ?_)
      · refine px_iload_n dx_Mc_advance_85 rfl ?_
        exact px_iret dx_Mc_advance_86 rfl (by (have e : R = (c, B) := by (rw [← hr]; cases lim - i with | zero => rfl | succ k => (show (c + (if B.1 0 0 = 1 then _ else _ : Nat × VM).1, (if B.1 0 0 = 1 then _ else _ : Nat × VM).2) = _; rw [if_neg c_16]; rfl))); rw [e] at hp0; exact hp0 _ _ ⟨rfl, hK, hX⟩)
      · obtain ⟨hSB, hJ1⟩ := hJs B hJ c_16
        have hSB0 := hSB
        obtain ⟨d1, d6, dm, dp, db, df, dd, dz⟩ := hSB
        have hm4 : mB B < 4 := by omega
        have hE := ME.m hq hm4
        have kM := kd_M hE
        have hFE : FE (9 + 3 * (B.1 1 0 - 1)) := FE.f (by omega)
        have kF := kd_F hFE
        have hMm := KS.mj hq hq hm4 hK (hMJ _ dm)
        have kS := kd_S (SE.s hE dp)
        have h64 := hW.2.2.2.2.2.2.1 (mB B)
        refine px_aload_n dx_Mc_advance_19 rfl ?_
        refine px_aload_n dx_Mc_advance_20 rfl ?_
        refine px_getI dx_Mc_advance_21 fl_Mc_17 rfl (by decide) rfl ?_
        refine px_eqi (y := nI (B.1 1 0)) hX.2.1 ?_
        refine px_iconst (v := 1) dx_Mc_advance_24 rfl ?_
        refine px_isubN (a := B.1 1 0) (b := 1) dx_Mc_advance_25 (by omega) ?_
        refine px_cV (Y := yy_Mc_advance) (Yc := yy_Mc_frameAt) (b := 7) (As := [.int (nI ((B.1 1 0) - 1))]) dx_Mc_advance_26 ml_Mc_53 mv_Mc_frameAt np_Mc_frameAt ⟨_, rfl⟩ (by decide) rfl (by decide) rfl (Nat.le_of_ble_eq_true rfl) (Nat.le_of_ble_eq_true rfl) rk_Mc_advance_Mc_frameAt rfl (k_frameAt (i := B.1 1 0 - 1) hR (by omega)) zz_0 ?_
        refine px_astore (lv' := [(5, .ref (9 + 3 * (B.1 1 0 - 1))), (0, .ref (7)), (1, .ref (q)), (2, .int (nI (lim))), (3, .int (nI (c))), (4, .int (nI (i)))]) dx_Mc_advance_29 (by decide) rfl ?_
        refine px_aload dx_Mc_advance_31 rfl ?_
        refine px_ifnonnull dx_Mc_advance_33 ?_
        refine px_aload dx_Mc_advance_40 rfl ?_
        refine px_cV (Y := yy_Mc_advance) (Yc := yy_Fr_nextStep) (b := 9 + 3 * (B.1 1 0 - 1)) (As := []) dx_Mc_advance_42 ml_Mc_60 mv_Fr_nextStep np_Fr_nextStep ⟨_, rfl⟩ (by decide) kF.1 (by omega) rfl (Nat.le_of_ble_eq_true rfl) (Nat.le_of_ble_eq_true rfl) rk_Mc_advance_Fr_nextStep rfl (k_nextStep (e := q + 5 + 85 * mB B) (n := F 6 (mB B)) (u := pB B) (Bg := bgF F (mB B)) hFE hR hE h64 (hCP.2.2 _ hm4).2.2.2.2.1 hMm.2.2.1.1 (bgF_lt db) db (hX.2.2.2.2.2.2.2.1 _ (by omega) (by omega)) (hX.2.2.2.2.2.2.1 _ (by omega))) zz_0 ?_
        refine px_astore (lv' := [(6, .ref (q + 5 + 85 * mB B + 5 + 2 * pB B)), (5, .ref (9 + 3 * (B.1 1 0 - 1))), (0, .ref (7)), (1, .ref (q)), (2, .int (nI (lim))), (3, .int (nI (c))), (4, .int (nI (i)))]) dx_Mc_advance_45 (by decide) rfl ?_
        refine px_aload dx_Mc_advance_47 rfl ?_
        refine px_ifnull dx_Mc_advance_49 ?_
        refine px_aload dx_Mc_advance_52 rfl ?_
        refine px_ifnonnull dx_Mc_advance_54 ?_
        refine px_aload_n dx_Mc_advance_59 rfl ?_
        refine px_aload_n dx_Mc_advance_60 rfl ?_
        refine px_aload dx_Mc_advance_61 rfl ?_
        refine px_aload dx_Mc_advance_63 rfl ?_
        refine px_cVR (Y := yy_Mc_advance) (Yc := yy_Mc_perform) (b := 7) (As := [.ref (q), .ref (9 + 3 * (B.1 1 0 - 1)), .ref (q + 5 + 85 * mB B + 5 + 2 * pB B)]) dx_Mc_advance_65 ml_Mc_64 mv_Mc_perform np_Mc_perform ⟨_, rfl⟩ (by decide) rfl (by decide) rfl (Nat.le_of_ble_eq_true rfl) (Nat.le_of_ble_eq_true rfl) rk_Mc_advance_Mc_perform rfl (k_perform (m := mB B) (p := pB B) (i := B.1 1 0 - 1) hq hR hW hQ dm dp db (fif_all hW (f := 40) (p := 0) df (by omega) _ (by omega) (bgF_lt db) db) hCP hMm.2.2.1 (hMm.2.2.2 df).1 hX (by omega) (by omega) rfl dd rfl rfl rfl rfl dz) zz_0 (fun r_65 τ1 h_65 => ?_)
        obtain ⟨rfl, hK1, hX1⟩ := h_65
        replace hX1 : CX τ1 q (stpB F B) := hX1
        have hK2 := hK.tr hK1
        have hb6s := hJb _ hJ1
        refine px_aload_n dx_Mc_advance_68 rfl ?_
        refine px_getI dx_Mc_advance_69 fl_Mc_21 rfl (by decide) rfl ?_
        refine px_eqi (y := nI ((stpB F B).1 0 0)) hX1.1 ?_
        refine px_iconst (v := 3) dx_Mc_advance_72 rfl ?_
        refine px_icmp_eqN (a := (stpB F B).1 0 0) (b := 3) dx_Mc_advance_73 (by omega) (by omega) (fun c_73 => ?_) (fun c_73 => ?_)
        · refine px_iinc (v := (nI (i + 1))) (lv' := [(4, .int (nI (i + 1))), (6, .ref (q + 5 + 85 * mB B + 5 + 2 * pB B)), (5, .ref (9 + 3 * (B.1 1 0 - 1))), (0, .ref (7)), (1, .ref (q)), (2, .int (nI (lim))), (3, .int (nI (c)))]) dx_Mc_advance_79 rfl (nI_1 _) (by decide) rfl ?_
          refine px_goto dx_Mc_advance_82 ?_
          refine px_sub [3, 4, 5, 6, 0] rfl ?_
          have eq : rnB F (lim - i) B = ((rnB F (lim - (i + 1)) (stpB F B)).1, (rnB F (lim - (i + 1)) (stpB F B)).2) := by (rw [show lim - i = (lim - (i + 1)) + 1 by omega]; show (if B.1 0 0 = 1 then _ else _) = _; rw [if_pos c_16, if_pos (show (stpB F B).1 0 0 = 3 by omega)])
          rw [eq] at hr
          exact ih (i + 1) c (stpB F B) τ1 (by omega) (by omega) hK2 hX1 hJ1 (Eq.trans (by first | rfl | (show (_, _) = (_, _); congr 1; omega)) hr)
        · refine px_iinc (v := (nI (c + 1))) (lv' := [(3, .int (nI (c + 1))), (6, .ref (q + 5 + 85 * mB B + 5 + 2 * pB B)), (5, .ref (9 + 3 * (B.1 1 0 - 1))), (0, .ref (7)), (1, .ref (q)), (2, .int (nI (lim))), (4, .int (nI (i)))]) dx_Mc_advance_76 rfl (nI_1 _) (by decide) rfl ?_
          refine px_iinc (v := (nI (i + 1))) (lv' := [(4, .int (nI (i + 1))), (3, .int (nI (c + 1))), (6, .ref (q + 5 + 85 * mB B + 5 + 2 * pB B)), (5, .ref (9 + 3 * (B.1 1 0 - 1))), (0, .ref (7)), (1, .ref (q)), (2, .int (nI (lim)))]) dx_Mc_advance_79 rfl (nI_1 _) (by decide) rfl ?_
          refine px_goto dx_Mc_advance_82 ?_
          refine px_sub [4, 5, 6, 1, 0] rfl ?_
          have eq : rnB F (lim - i) B = ((rnB F (lim - (i + 1)) (stpB F B)).1 + 1, (rnB F (lim - (i + 1)) (stpB F B)).2) := by (rw [show lim - i = (lim - (i + 1)) + 1 by omega]; show (if B.1 0 0 = 1 then _ else _) = _; rw [if_pos c_16, if_neg (show ¬ (stpB F B).1 0 0 = 3 by omega)])
          rw [eq] at hr
          exact ih (i + 1) (c + 1) (stpB F B) τ1 (by omega) (by omega) hK2 hX1 hJ1 (Eq.trans (by first | rfl | (show (_, _) = (_, _); congr 1; omega)) hr)
set_option maxRecDepth 100000 in
set_option maxHeartbeats 1000000 in
theorem k_advance {l : Launch} {G : fr_G} {σ : fr_S} {q : Nat} (hq : PB q) (hRa : RF σ) {F : Nat → Nat → Nat} (hW : FW F) (hQ : ∀ c, c < F 0 0 → pwF F c ≤ F 5 c) (hCPa : CP σ q F) (hMJ : ∀ m, m < F 0 0 → MJ σ (q + 5 + 85 * m) F m) {J : VM → Prop} (hJs : ∀ B, J B → B.1 0 0 = 1 → SB F B ∧ J (stpB F B)) (hJb : ∀ B, J B → B.1 0 0 ≤ 3 ∧ B.1 1 0 ≤ 6) {lim : Nat} (hlim : lim ≤ 200) {B : VM} (hX0 : CX σ q B) (hJ0 : J B) : CR l G yy_Mc_advance rm_Mc_advance [.ref (7), .ref (q), .int (nI (lim))] σ (fun r0 σ' => r0 = some (.int (nI (rnB F lim B).1)) ∧ KS q σ σ' ∧ CX σ' q (rnB F lim B).2) := by
  intro Post hp0
  show PX l G yy_Mc_advance rm_Mc_advance _ false 742 0 0 0 [(0, .ref (7)), (1, .ref (q)), (2, .int (nI (lim)))] [] σ
  refine px_iconst (v := 0) dx_Mc_advance_0 rfl ?_
  refine px_istore_n (lv' := [(3, .int (0)), (0, .ref (7)), (1, .ref (q)), (2, .int (nI (lim)))]) dx_Mc_advance_1 (by decide) rfl ?_
  refine px_iconst (v := 0) dx_Mc_advance_2 rfl ?_
  refine px_istore (lv' := [(4, .int (0)), (3, .int (0)), (0, .ref (7)), (1, .ref (q)), (2, .int (nI (lim)))]) dx_Mc_advance_3 (by decide) rfl ?_
  refine px_sub [2, 3, 4, 1, 0] rfl ?_
  exact k_advance_lp (σ := σ) hq hRa hW hQ hCPa hMJ hJs hJb hlim hp0 (lim + 1) 0 0 B σ (by omega) (by omega) KS.rf hX0 hJ0 (by rw [Nat.zero_add]; rfl)
