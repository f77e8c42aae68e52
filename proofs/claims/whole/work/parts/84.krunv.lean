/-! the class: run -/
theorem ite_V {P : VM → Prop} {c : Prop} [Decidable c] {a b : VM} (ha : P a) (hb : P b) : P (if c then a else b) := by
  split
  · exact ha
  · exact hb
def P5v (B X : VM) : Prop := X.1 0 0 = 3 ∨ X.1 5 0 = B.1 5 0
theorem stB_5 {F : Nat → Nat → Nat} {B : VM} {m p op w w1 w2 : Nat} : P5v B (stB F B m p op w w1 w2) := by
  have lv : ∀ (X : VM) (us : Nat) (w : Int64) (d : UInt64), X.1 5 0 = B.1 5 0 → P5v B (lvB X us w d) := fun X us w d h => by
    unfold lvB
    exact ite_V (Or.inr h) (Or.inr h)
  unfold stB
  refine ite_V (lv _ _ _ _ rfl) ?_
  refine ite_V (lv _ _ _ _ rfl) ?_
  refine ite_V (Or.inr rfl) ?_
  refine ite_V (Or.inr rfl) ?_
  refine ite_V (Or.inr rfl) ?_
  refine ite_V (Or.inr rfl) ?_
  refine ite_V (ite_V (Or.inl rfl) (Or.inr rfl)) ?_
  refine ite_V (ite_V (Or.inr rfl) (Or.inr rfl)) ?_
  refine ite_V (ite_V (Or.inr rfl) (Or.inr rfl)) ?_
  refine ite_V (Or.inr rfl) ?_
  refine ite_V (Or.inr rfl) ?_
  refine ite_V (ite_V (Or.inl rfl) (Or.inr ?_)) (Or.inr rfl)
  rw [aI_n (Or.inl (by decide)), (enB_1 _).1]
  rfl
theorem rn5 {F : Nat → Nat → Nat} (G : GF F) : ∀ n {A B : VM}, RL F A B → B.1 5 0 = 0 → (rnA F n A).2.1 = 0 → (rnB F n B).2.1 5 0 = 0
  | 0, _, _, _, h5, _ => h5
  | n + 1, A, B, h, h5, h0 => by
    rcases h.step G with ⟨k1, k2⟩ | ⟨c, k1, k2, k3, k4⟩
    · have n3 : ¬ (stpB F B).1 0 0 = 3 := by
        rcases k2 with q | q
        · have := q.c2
          omega
        · have e1 := q.1.c
          have e2 := q.2
          omega
      have e5 : (stpB F B).1 5 0 = 0 := by
        rcases stB_5 (F := F) (B := B) (m := mB B) (p := pB B) (op := opS (F 7 (40 * mB B + pB B))) (w := F 7 (40 * mB B + pB B)) (w1 := uA F (mB B) (pB B + 1)) (w2 := uA F (mB B) (pB B + 2)) with e | e
        · exact absurd e n3
        · exact e.trans h5
      have eA := rnA_s (n := n) h.c1 k1
      have eB : rnB F (n + 1) B = ((rnB F n (stpB F B)).1 + 1, (rnB F n (stpB F B)).2) := by
        show (if B.1 0 0 = 1 then _ else _) = _
        rw [if_pos h.c2, if_neg n3]
      rw [eA] at h0
      rw [eB]
      rcases k2 with q | q
      · exact rn5 G n q e5 h0
      · have e1 := q.1.c
        have e2 := q.2
        show (rnB F n (stpB F B)).2.1 5 0 = 0
        rw [rnB_0 (by omega)]
        exact e5
    · have eA := rnA_e (F := F) (A := A) (n := n) h.c1 (by rw [k2]; omega)
      rw [eA] at h0
      have h0' : (onA F A (cmA A) (cpA A)).1 = 0 := h0
      rw [k2] at h0'
      omega
/-- how both machines stand to each other, beside a file -/
def BG (F : Nat → Nat → Nat) (A B : VM) : Prop := ((GF F ∧ RL F A B) ∨ NR A B) ∧ (B.1 0 0 = 1 → B.1 5 0 = 0)
theorem BG.bm {F : Nat → Nat → Nat} {A B : VM} (h : BG F A B) : BM F A B := h.1.imp And.right id
def RNr (q : Nat) (b : Nat → Nat) (n : Nat) (pl : Int32) (F : Nat → Nat → Nat) (a : AV) (B : VM) (σ : fr_S) (Fr : Nat → Nat → Nat) (A : VM) (x : Int32) (r0 : Option Value) (σ' : fr_S) : Prop := ¬ (x < 0 ∨ 200 < x) ∧ A.1 0 0 = 1 ∧ (rnA Fr x.toNatClampNeg A).2.1 = 0 ∧ r0 = some (.int (nI (rnA Fr x.toNatClampNeg A).1)) ∧ ∃ B2, BG Fr (rnA Fr x.toNatClampNeg A).2.2 B2 ∧ KP σ' q b n pl F a B2 ∧ KO σ σ'
def RNt (q : Nat) (b : Nat → Nat) (n : Nat) (pl : Int32) (F : Nat → Nat → Nat) (a : AV) (B : VM) (σ : fr_S) (Fr : Nat → Nat → Nat) (A : VM) (x : Int32) (E : String) (σ' : fr_S) : Prop := ((x < 0 ∨ 200 < x) ∧ E = ex_I ∧ σ' = σ) ∨ (¬ (x < 0 ∨ 200 < x) ∧ ¬ A.1 0 0 = 1 ∧ E = ex_S ∧ σ' = σ) ∨ (¬ (x < 0 ∨ 200 < x) ∧ A.1 0 0 = 1 ∧ (((rnA Fr x.toNatClampNeg A).2.1 = 3 ∧ E = ex_A) ∨ ((rnA Fr x.toNatClampNeg A).2.1 = 4 ∧ E = ex_U)) ∧ ∃ B2, BG Fr (idA (rnA Fr x.toNatClampNeg A).2.2 3) B2 ∧ KP σ' q b n pl F a B2 ∧ KO σ σ')
theorem TH.fe {A B : VM} (h : TH A B) : FE2 A B := ⟨h.ff, by rw [h.c]; decide, h.b1, h.b4, h.da, h.db⟩
set_option maxRecDepth 100000 in
theorem k_run {l : Launch} {G : fr_G} {σ : fr_S} (hfl : l.flags = pinnedFlags ++ [noTraceFlag]) {q : Nat} {b : Nat → Nat} {n : Nat} {pl : Int32} {F : Nat → Nat → Nat} {a : AV} {B : VM} (hK : KP σ q b n pl F a B) {Fr : Nat → Nat → Nat} (hE : EqF Fr F) {A : VM} (hBG : BG Fr A B) {x : Int32} : CE l G yy_V_run rx_run [.ref 0, .int x] σ (RNr q b n pl F a B σ Fr A x) (RNt q b n pl F a B σ Fr A x) := by
  obtain ⟨hq, hR, ⟨h3, h4⟩, hB, hpl, ⟨hCP, hW8, hFV, hMJ, hfit⟩, _, _, hA, hX⟩ := id hK
  have hq372 : q ≤ 372 := by rcases hq with e | e <;> omega
  have fe := hBG.bm.fe
  have st := (st_e hBG.bm).1
  have i1 : ∀ pc : Nat, pc = 11 → (x < 0 ∨ 200 < x) → PX l G yy_V_run rx_run (QX yy_V_run G (RNr q b n pl F a B σ Fr A x) (RNt q b n pl F a B σ Fr A x)) false 742 0 0 pc [(0, .ref 0), (1, .int x)] [] σ := fun pc e c => by
    subst e
    exact px_thI hfl dx_V_run_11 dx_V_run_14 dx_V_run_15 dx_V_run_17 dx_V_run_20 rfl mw_V_run (tx := "n isn't 0 .. 200") (by decide) ⟨by decide, by decide, by decide, by decide⟩ (Or.inl ⟨c, rfl, rfl⟩)
  show PX l G yy_V_run rx_run _ false 742 0 0 0 [(0, .ref 0), (1, .int x)] [] σ
  refine px_iload_n dx_V_run_0 rfl ?_
  refine px_if_lt dx_V_run_1 (fun c => i1 _ rfl (Or.inl c)) (fun c => ?_)
  refine px_iload_n dx_V_run_4 rfl ?_
  refine px_sipush (v := 200) dx_V_run_5 rfl ?_
  refine px_icmp_le dx_V_run_8 (fun d => ?_) (fun d => i1 _ rfl (Or.inr (Int32.not_le.mp d)))
  have hx : ¬ (x < 0 ∨ 200 < x) := fun z => z.elim c (fun z => absurd d (Int32.not_le.mpr z))
  refine px_aload_n dx_V_run_21 rfl ?_
  refine px_getR (r := 7) dx_V_run_22 fl_V_26 rfl (by decide) rfl hR.1.2.2.1 ?_
  refine px_getI dx_V_run_25 fl_V_100 rfl (by decide) rfl ?_
  refine px_eqi (y := nI (B.1 0 0)) hX.1 ?_
  refine px_iconst (v := nI 1) dx_V_run_28 rfl ?_
  have b0 := fe.b0
  refine px_icmp_eqN dx_V_run_29 (by omega) (by decide) (fun h1 => ?_) (fun h1 => ?_)
  · have a1 : A.1 0 0 = 1 := by rw [← st]; exact h1
    have gr : GF Fr ∧ RL Fr A B := by
      rcases hBG.1 with z | z
      · exact z
      · exact absurd a1 z.c1
    obtain ⟨hG, hRL⟩ := gr
    have h5 := hBG.2 h1
    obtain ⟨N, hN⟩ : ∃ N, N = x.toNatClampNeg := ⟨_, rfl⟩
    have hN200 : N ≤ 200 := by rw [hN]; exact le200 c d
    have hxN : x = nI N := by rw [hN]; exact nn_clamp c
    refine px_aload_n dx_V_run_42 rfl ?_
    refine px_getR (r := 7) dx_V_run_43 fl_V_26 rfl (by decide) rfl hR.1.2.2.1 ?_
    refine px_aload_n dx_V_run_46 rfl ?_
    refine px_getR (r := q) dx_V_run_47 fl_V_33 rfl (by decide) rfl h3 ?_
    refine px_iload_n dx_V_run_50 rfl ?_
    refine px_eqi (y := nI N) hxN ?_
    refine px_cVR (Y := yy_V_run) (Yc := yy_Mc_advance) (b := 7) (As := [.ref q, .int (nI N)]) dx_V_run_51 ml_V_105 mv_Mc_advance np_Mc_advance ⟨_, rfl⟩ (by decide) rfl (by decide) rfl (Nat.le_of_ble_eq_true rfl) (Nat.le_of_ble_eq_true rfl) ⟨rfl, rfl, Nat.le_of_ble_eq_true rfl, Nat.le_of_ble_eq_true rfl⟩ rfl (k_advance hq hR hW8.fw hFV.2.1 hCP hMJ (run_J2 hE hG) run_b hN200 hX (Or.inl ⟨A, Or.inl hRL⟩)) zz_0 (fun r τ h => ?_)
    obtain ⟨rfl, hS, hX1⟩ := h
    rw [hE.rB hG N (Or.inl hRL)] at hX1 ⊢
    have hK1 := hK.ks hS hX1
    have hO1 : KO σ τ := hS.ko (kd_P hq).2.2.2.2.2 hq372
    refine px_istore_n (lv' := [(2, .int (nI (rnB Fr N B).1)), (0, .ref 0), (1, .int x)]) dx_V_run_54 (by decide) rfl ?_
    refine px_aload_n dx_V_run_55 rfl ?_
    refine px_getR (r := 7) dx_V_run_56 fl_V_26 rfl (by decide) rfl ((hS.2.1 0 2 (by omega)).trans hR.1.2.2.1) ?_
    refine px_getI dx_V_run_59 fl_V_109 rfl (by decide) rfl ?_
    refine px_eqi (y := nI ((rnB Fr N B).2.1 5 0)) hX1.2.2.1 ?_
    refine px_iconst (v := nI 1) dx_V_run_62 rfl ?_
    rcases rn_rel hG N (Or.inl hRL) with ⟨e1, e2, e3⟩ | ⟨cc, k1, k2, k3, k4⟩
    · have t0 := rn5 hG N hRL h5 e1
      rw [t0]
      refine px_icmp_neN dx_V_run_63 (by decide) (by decide) (fun _ => ?_) (fun z => absurd z (by decide))
      refine px_aload_n dx_V_run_76 rfl ?_
      refine px_getR (r := 7) dx_V_run_77 fl_V_26 rfl (by decide) rfl ((hS.2.1 0 2 (by omega)).trans hR.1.2.2.1) ?_
      refine px_getI dx_V_run_80 fl_V_109 rfl (by decide) rfl ?_
      refine px_eqi (y := nI 0) (by have := hX1.2.2.1; rw [t0] at this; exact this) ?_
      refine px_iconst (v := nI 2) dx_V_run_83 rfl ?_
      refine px_icmp_neN dx_V_run_84 (by decide) (by decide) (fun _ => ?_) (fun z => absurd z (by decide))
      refine px_iload_n dx_V_run_97 rfl ?_
      rw [e2]
      refine px_wk (QF := QR G false 742 0 0 (RNr q b n pl F a B σ Fr A x)) (px_iret dx_V_run_98 rfl ?_) (fun _ _ _ _ h _ _ => Or.inl h)
      unfold RNr
      rw [← hN]
      exact ⟨hx, a1, e1, rfl, (rnB Fr N B).2, ⟨e3.imp (fun z => ⟨hG, z⟩) id, fun _ => t0⟩, hK1, hO1⟩
    · have c0 := k3.c
      have hBG2 : BG Fr (idA (rnA Fr N A).2.2 3) (rnB Fr N B).2 := ⟨Or.inr (NR.id k3.fe (Or.inr rfl) c0 k3.b1 k3.b4 k3.ff k3.db), fun z => by omega⟩
      rw [k4]
      rcases k1 with k1 | k1
      · subst k1
        refine px_icmp_neN dx_V_run_63 (by decide) (by decide) (fun z => absurd rfl z) (fun _ => ?_)
        refine px_thA hfl dx_V_run_66 dx_V_run_69 dx_V_run_70 dx_V_run_72 dx_V_run_75 rfl mw_V_run (tx := "a division by 0") (by decide) ⟨by decide, by decide, by decide, by decide⟩ ?_
        unfold RNt
        rw [← hN]
        exact Or.inr (Or.inr ⟨hx, a1, Or.inl ⟨k2, rfl⟩, _, hBG2, hK1, hO1⟩)
      · subst k1
        refine px_icmp_neN dx_V_run_63 (by decide) (by decide) (fun _ => ?_) (fun z => absurd z (by decide))
        refine px_aload_n dx_V_run_76 rfl ?_
        refine px_getR (r := 7) dx_V_run_77 fl_V_26 rfl (by decide) rfl ((hS.2.1 0 2 (by omega)).trans hR.1.2.2.1) ?_
        refine px_getI dx_V_run_80 fl_V_109 rfl (by decide) rfl ?_
        refine px_eqi (y := nI 2) (by have := hX1.2.2.1; rw [k4] at this; exact this) ?_
        refine px_iconst (v := nI 2) dx_V_run_83 rfl ?_
        refine px_icmp_neN dx_V_run_84 (by decide) (by decide) (fun z => absurd rfl z) (fun _ => ?_)
        refine px_thU hfl dx_V_run_87 dx_V_run_90 dx_V_run_91 dx_V_run_93 dx_V_run_96 rfl mw_V_run (tx := "a seventh call") (by decide) ⟨by decide, by decide, by decide, by decide⟩ ?_
        unfold RNt
        rw [← hN]
        exact Or.inr (Or.inr ⟨hx, a1, Or.inr ⟨k2, rfl⟩, _, hBG2, hK1, hO1⟩)
  · have a1 : ¬ A.1 0 0 = 1 := by rw [← st]; exact h1
    exact px_thS hfl dx_V_run_32 dx_V_run_35 dx_V_run_36 dx_V_run_38 dx_V_run_41 rfl mw_V_run (tx := "the machine doesn't run") (by decide) ⟨by decide, by decide, by decide, by decide⟩ (Or.inr (Or.inl ⟨hx, a1, rfl, rfl⟩))

