/-! the class: a program is judged -/
def CVr (σ : fr_S) (e : Nat) (Bg : Nat → Bool) (v : VS) : Prop := ∀ p, p < 40 → Bg p = true → gI σ (e + 5 + 2 * p) 0 = b2i (v.2.1 p) ∧ (v.2.1 p = true → ∀ r, r < 10 → gI σ (e + 5 + 2 * p + 1) r = nI (v.1 p r))
/-- a method is laid out -/
def LO (σ : fr_S) (e : Nat) (F : Nat → Nat → Nat) (m : Nat) : Prop := SLm σ e F m ∧ ∀ u, u < 40 → bgF F m u = true → SL0 σ e F m u
/-- a method is judged -/
def MJ (σ : fr_S) (e : Nat) (F : Nat → Nat → Nat) (m : Nat) : Prop := gI σ e 10 = vdM F m ∧ gI σ e 9 = b2i (decide (fif F (bgF F m) m 40 0 none = -1)) ∧ SLm σ e F m ∧ (fif F (bgF F m) m 40 0 none = -1 → SUm σ e (stG F m) (usG F m) (bgF F m) ∧ CVr σ e (bgF F m) (vrR F m).1 ∧ VI (vrR F m).1)
/-- what judging a program changes -/
def PJ (q o k : Nat) : Prop := q ≤ o ∧ o < q + 345 ∧ ¬ kdK o k ∧ o ≠ q + 2 ∧ (o = q → k = 5)
def PJm (q e o k : Nat) : Prop := (e ≤ o ∧ o < e + 85) ∨ o = q + 3 ∨ o = q + 4 ∨ (o = q ∧ k = 5)
section MJS
variable {σ σ' : fr_S} {e : Nat} {F : Nat → Nat → Nat} {m : Nat}
theorem LO.cg (h : LO σ e F m) (a : ∀ o k, e ≤ o → o < e + 85 → gI σ' o k = gI σ o k) : LO σ' e F m := by
  refine ⟨h.1.cg (fun u hu => a _ _ (by omega) (by omega)) (fun u hu k _ _ _ => a _ _ (by omega) (by omega)), fun u hu hb => ?_⟩
  obtain ⟨⟨b, c⟩, d⟩ := h.2 u hu hb
  exact ⟨⟨(a _ _ (by omega) (by omega)).trans b, (a _ _ (by omega) (by omega)).trans c⟩, (a _ _ (by omega) (by omega)).trans d⟩
theorem SUm.cg {X Y : Nat → Nat} {B : Nat → Bool} (h : SUm σ e X Y B) (a : ∀ u, u < 40 → ∀ k, k = 7 ∨ k = 8 → gI σ' (e + 5 + 2 * u) k = gI σ (e + 5 + 2 * u) k) : SUm σ' e X Y B := fun u hu hb => by
  obtain ⟨b, c⟩ := h u hu hb
  exact ⟨(a u hu 7 (Or.inl rfl)).trans b, (a u hu 8 (Or.inr rfl)).trans c⟩
theorem CVr.cg {B : Nat → Bool} {v : VS} (h : CVr σ e B v) (a : ∀ u, u < 40 → gI σ' (e + 5 + 2 * u) 0 = gI σ (e + 5 + 2 * u) 0 ∧ ∀ k, gI σ' (e + 5 + 2 * u + 1) k = gI σ (e + 5 + 2 * u + 1) k) : CVr σ' e B v := fun u hu hb => by
  obtain ⟨b, c⟩ := h u hu hb
  exact ⟨(a u hu).1.trans b, fun z r hr => ((a u hu).2 r).trans (c z r hr)⟩
theorem MJ.cg (h : MJ σ e F m) (a : ∀ o k, e ≤ o → o < e + 85 → gI σ' o k = gI σ o k) : MJ σ' e F m := by
  obtain ⟨b, c, d, f⟩ := h
  refine ⟨(a _ _ (by omega) (by omega)).trans b, (a _ _ (by omega) (by omega)).trans c, d.cg (fun u hu => a _ _ (by omega) (by omega)) (fun u hu k _ _ _ => a _ _ (by omega) (by omega)), fun z => ?_⟩
  obtain ⟨x, y, w⟩ := f z
  exact ⟨x.cg fun u hu k _ => a _ _ (by omega) (by omega), y.cg fun u hu => ⟨a _ _ (by omega) (by omega), fun k => a _ _ (by omega) (by omega)⟩, w⟩
end MJS
theorem PJ.of {q m o k : Nat} (hq : PB q) (hm : m < 4) (h : PJm q (q + 5 + 85 * m) o k) (hk : ¬ kdK o k) : PJ q o k := by
  unfold PJm at h
  unfold PJ
  refine ⟨by omega, by omega, hk, by omega, by omega⟩
theorem kdK_no {o k : Nat} (h5 : (kd o).1 = 5 → ¬ k ≤ 4) (h7 : (kd o).1 = 7 → ¬ (4 ≤ k ∧ k ≤ 8)) (h20 : (kd o).1 = 20 → (kd o).2 = 10) : ¬ kdK o k := by
  rintro (h | h | h)
  · exact h5 h.1 h.2
  · exact h7 h.1 h.2
  · have := h20 h.1
    rcases h.2 with z | z <;> omega
section PJS
variable {q e o k : Nat}
theorem PLo.kk (hE : ME e) (h : PLo e o k) : ¬ kdK o k := by
  rcases h with rfl | ⟨u, hu, rfl, -⟩
  · have := (kd_M hE).2.2.2.2.1
    refine kdK_no ?_ ?_ ?_ <;> rw [this] <;> intro z <;> cases z
  · have := (kd_S (SE.s hE hu)).1
    refine kdK_no ?_ ?_ ?_ <;> rw [this] <;> intro z <;> cases z
theorem PF.kk (hq : PB q) (hE : ME e) (h : PF q e o k) : ¬ kdK o k := by
  rcases h with rfl | ⟨rfl, -⟩ | ⟨u, hu, ⟨rfl, -⟩ | rfl⟩
  · have := (kd_P hq).2.2.2.2.1
    refine kdK_no ?_ ?_ ?_ <;> rw [this] <;> intro z <;> first | rfl | cases z
  · have := (kd_P hq).2.2.2.1
    refine kdK_no ?_ ?_ ?_ <;> rw [this] <;> intro z <;> cases z
  · have := (kd_S (SE.s hE hu)).1
    refine kdK_no ?_ ?_ ?_ <;> rw [this] <;> intro z <;> cases z
  · have := (kd_S (SE.s hE hu)).2.1
    refine kdK_no ?_ ?_ ?_ <;> rw [this] <;> intro z <;> first | rfl | cases z
theorem E910.kk (hE : ME e) (h : k = 9 ∨ k = 10) : ¬ kdK e k := by
  have := (kd_M hE).1
  refine kdK_no ?_ ?_ ?_ <;> rw [this] <;> intro z <;> first | omega | cases z
theorem Q5.kk (hq : PB q) : ¬ kdK q 5 := by
  have := (kd_P hq).1
  refine kdK_no ?_ ?_ ?_ <;> rw [this] <;> intro z <;> first | omega | cases z
theorem PLo.m (h : PLo e o k) : PJm q e o k := by
  have := h.o
  exact Or.inl (by omega)
theorem PSU.m (h : PSU e o k) : PJm q e o k := by
  have := h.no
  exact Or.inl (by omega)
theorem PF.m (h : PF q e o k) : PJm q e o k := by
  rcases h with h | h | ⟨u, hu, h⟩
  · exact Or.inr (Or.inr (Or.inl h))
  · exact Or.inr (Or.inl h.1)
  · exact Or.inl (by omega)
end PJS


def PJn (q e o k : Nat) : Prop := PJm q e o k ∧ ¬ kdK o k
def P910 (q e o k : Nat) : Prop := (o = e ∧ (k = 9 ∨ k = 10)) ∨ (o = q ∧ k = 5)
theorem P910.n {q e o k : Nat} (hq : PB q) (hE : ME e) (h : P910 q e o k) : PJn q e o k := by
  rcases h with ⟨rfl, h⟩ | ⟨rfl, rfl⟩
  · exact ⟨Or.inl (by omega), E910.kk hE h⟩
  · exact ⟨Or.inr (Or.inr (Or.inr ⟨rfl, rfl⟩)), Q5.kk hq⟩
section JW
variable {σ σ' : fr_S} {q e : Nat} {F : Nat → Nat → Nat} {m : Nat}
theorem SLm.w9 (hl : q < e) (h : SLm σ e F m) (a : Agp (P910 q e) σ σ') : SLm σ' e F m := h.cg (fun u _ => a.1 _ _ (by unfold P910; omega)) (fun u _ k _ _ _ => a.1 _ _ (by unfold P910; omega))
theorem SUm.w9 (hl : q < e) {X Y : Nat → Nat} {B : Nat → Bool} (h : SUm σ e X Y B) (a : Agp (P910 q e) σ σ') : SUm σ' e X Y B := h.cg (fun u _ k _ => a.1 _ _ (by unfold P910; omega))
theorem CVr.w9 (hl : q < e) {B : Nat → Bool} {v : VS} (h : CVr σ e B v) (a : Agp (P910 q e) σ σ') : CVr σ' e B v := h.cg (fun u _ => ⟨a.1 _ _ (by unfold P910; omega), fun k => a.1 _ _ (by unfold P910; omega)⟩)
theorem PJn.rf' (h : Agp (PJn q e) σ σ') (r : RF σ) : RF σ' := h.rfs r
theorem PJn.cp (hq : PB q) (h : Agp (PJn q e) σ σ') (c : CP σ q F) : CP σ' q F := c.kk hq fun o k z => h.1 o k fun w => w.2 z
end JW
/-- one method more is judged -/
theorem judge_step {σ σ1 σ' : fr_S} {q : Nat} (hq : PB q) {F : Nat → Nat → Nat} {j : Nat} (hj : j < F 0 0) (h4 : F 0 0 ≤ 4) (hA : Agp (PJ q) σ σ1) (hM : ∀ m, m < j → MJ σ1 (q + 5 + 85 * m) F m) (hL : ∀ m, j ≤ m → m < F 0 0 → LO σ1 (q + 5 + 85 * m) F m) (a : Agp (PJn q (q + 5 + 85 * j)) σ1 σ') (hJ : MJ σ' (q + 5 + 85 * j) F j) : Agp (PJ q) σ σ' ∧ (∀ m, m < j + 1 → MJ σ' (q + 5 + 85 * m) F m) ∧ (∀ m, j + 1 ≤ m → m < F 0 0 → LO σ' (q + 5 + 85 * m) F m) := by
  have other : ∀ m, m ≠ j → ∀ o k, q + 5 + 85 * m ≤ o → o < q + 5 + 85 * m + 85 → gI σ' o k = gI σ1 o k := fun m hm o k h1 h2 => a.1 o k fun w => by
    have := w.1
    unfold PJm at this
    omega
  refine ⟨hA.tr (a.mono fun o k h => PJ.of hq (by omega) h.1 h.2), fun m hm => ?_, fun m h1 h2 => (hL m (by omega) h2).cg (other m (by omega))⟩
  by_cases e : m = j
  · subst e
    exact hJ
  · exact (hM m (by omega)).cg (other m e)

set_option maxRecDepth 100000 in
set_option maxHeartbeats 1000000 in
theorem k_judge_l2 {l : Launch} {G : fr_G} {σ : fr_S} {q : Nat} (hq : PB q) (hRf : RF σ) {F : Nat → Nat → Nat} (hW : FW F) (hFV : FV F) (hCP0 : CP σ q F) {Post : Option Value → fr_S → Prop} (hp0 : ∀ r σ', (fun r0 σ' => r0 = none ∧ Agp (PJ q) σ σ' ∧ (∀ m, m < F 0 0 → MJ σ' (q + 5 + 85 * m) F m) ∧ gI σ' q 5 = b2i (!ufO F (F 0 0)) ∧ ∃ c, gI σ' (q + 3) 1 = b2i c) r σ' → Post r σ') : ∀ (d : Nat) (j : Nat) (σ1 : fr_S), F 0 0 - j < d → j ≤ F 0 0 → Agp (PJ q) σ σ1 → (∀ m, m < j → MJ σ1 (q + 5 + 85 * m) F m) → (∀ m, j ≤ m → m < F 0 0 → LO σ1 (q + 5 + 85 * m) F m) → gI σ1 q 5 = b2i (!ufO F j) → (∃ c, gI σ1 (q + 3) 1 = b2i c) → PX l G yy_Pg_judge rm_Pg_judge (QR G false 742 0 0 Post) false 742 0 0 41 [(0, .ref (q)), (1, .int (nI (j)))] [] (σ1) := by
  intro d
  induction d with
  | zero => intro j σ1 hd; exact absurd hd (Nat.not_lt_zero _)
  | succ d ih =>
    intro j σ1 hd hj hA hM hL hfit hc
    have kP := kd_P hq
    have h04 := hW.1
    have hR := hA.rfs hRf
    have hCP : CP σ1 q F := hCP0.kk hq fun o k h => hA.1 o k fun w => w.2.2.1 h
    refine px_iload_n dx_Pg_judge_41 rfl ?_
    refine px_aload_n dx_Pg_judge_42 rfl ?_
    refine px_getI dx_Pg_judge_43 fl_Pg_28 kP.1 (by omega) rfl ?_
    refine px_eqi (y := nI (F 0 0)) hCP.1 ?_
    refine px_icmp_geN (a := j) (b := F 0 0) dx_Pg_judge_46 (by omega) (by omega) (fun c_46 => ?_) (fun c_46 => ?_)
    · exact px_vret dx_Pg_judge_139 rfl (by (obtain rfl : j = F 0 0 := by omega); exact hp0 _ _ ⟨rfl, hA, hM, hfit, hc⟩)
    · refine px_iload_n dx_Pg_judge_49 rfl ?_
      refine px_aload_n dx_Pg_judge_50 rfl ?_
      refine px_getR (r := q + 1) dx_Pg_judge_51 fl_Pg_11 kP.1 (by omega) rfl (hR.2.2.2.1 q hq).1 ?_
      refine px_alen (v := 4) dx_Pg_judge_54 kP.2.1 (by decide) (by omega) rfl ?_
      refine px_icmp_geN (a := j) (b := 4) dx_Pg_judge_55 (by omega) (by omega) (fun c_55 => ?_) (fun c_55 => ?_)
      · exact px_vret dx_Pg_judge_139 rfl (by exfalso; omega)
      · have hj4 : j < 4 := by omega
        have hjF : j < F 0 0 := by omega
        have hE := ME.m hq hj4
        have kM := kd_M hE
        have hC := hCP.2.2 j hj4
        have hLO := hL j (Nat.le_refl _) hjF
        obtain ⟨c, hc⟩ := hc
        refine px_aload_n dx_Pg_judge_58 rfl ?_
        refine px_getR (r := q + 1) dx_Pg_judge_59 fl_Pg_11 kP.1 (by omega) rfl (hR.2.2.2.1 q hq).1 ?_
        refine px_iload_n dx_Pg_judge_62 rfl ?_
        refine px_aald25N (j := j) (r := q + 5 + 85 * j) dx_Pg_judge_63 kP.2.1 (by omega) (by omega) ((hR.2.2.2.1 q hq).2.2.2.2 j (by omega)) ?_
        refine px_astore_n (lv' := [(2, .ref (q + 5 + 85 * j)), (0, .ref (q)), (1, .int (nI (j)))]) dx_Pg_judge_64 (by decide) rfl ?_
        refine px_aload_n dx_Pg_judge_65 rfl ?_
        refine px_aload_n dx_Pg_judge_66 rfl ?_
        refine px_aload_n dx_Pg_judge_67 rfl ?_
        refine px_cS (Y := yy_Pg_judge) (Yc := yy_Fo_firstFault) (As := [.ref (q), .ref (q + 5 + 85 * j)]) dx_Pg_judge_68 ml_Pg_72 ms_Fo_firstFault np_Fo_firstFault rfl (Nat.le_of_ble_eq_true rfl) (Nat.le_of_ble_eq_true rfl) rk_Pg_judge_Fo_firstFault rfl (k_firstFault hq hE hR hW hj4 hCP hC hLO.1 (fun u hu hb => (hLO.2 u hu hb).1)) zz_0 ?_
        refine px_putI dx_Pg_judge_71 fl_Pg_78 kM.1 (by omega) rfl ?_
        refine px_aload_n dx_Pg_judge_74 rfl ?_
        refine px_aload_n dx_Pg_judge_75 rfl ?_
        refine px_getI dx_Pg_judge_76 fl_Pg_78 kM.1 (by omega) rfl ?_
        refine px_eqi (y := (fif F (bgF F j) j 40 0 none)) gI_s ?_
        refine px_iconst (v := -1) dx_Pg_judge_79 rfl ?_
        refine px_icmp_ne dx_Pg_judge_80 (fun c_80 => ?_) (fun c_80 => ?_)
        · refine px_iconst (v := 0) dx_Pg_judge_87 rfl ?_
          refine px_putZ dx_Pg_judge_88 fl_Pg_81 kM.1 (by omega) rfl (by decide) ?_
          refine px_aload_n dx_Pg_judge_91 rfl ?_
          refine px_getI dx_Pg_judge_92 fl_Pg_81 kM.1 (by omega) rfl ?_
          refine px_eqi (y := 0) gI_s ?_
          refine px_if_eq dx_Pg_judge_95 (fun _ => ?_) (fun q => absurd (by decide) q)
          refine px_aload_n dx_Pg_judge_120 rfl ?_
          refine px_getI dx_Pg_judge_121 fl_Pg_78 kM.1 (by omega) rfl ?_
          refine px_eqi (y := (fif F (bgF F j) j 40 0 none)) (Eq.trans (gI_n (Or.inr (by decide))) gI_s) ?_
          refine px_iconst (v := -1) dx_Pg_judge_124 rfl ?_
          refine px_icmp_eq dx_Pg_judge_125 (fun c_125 => ?_) (fun c_125 => ?_)
          · refine px_iinc (v := (nI (j + 1))) (lv' := [(1, .int (nI (j + 1))), (2, .ref (q + 5 + 85 * j)), (0, .ref (q))]) dx_Pg_judge_133 rfl (nI_1 _) (by decide) rfl ?_
            refine px_goto dx_Pg_judge_136 ?_
            refine px_sub [2, 0] rfl ?_
            exact absurd c_125 c_80
          · refine px_aload_n dx_Pg_judge_128 rfl ?_
            refine px_iconst (v := 0) dx_Pg_judge_129 rfl ?_
            refine px_putZ dx_Pg_judge_130 fl_Pg_35 kP.1 (by omega) rfl (by decide) ?_
            refine px_iinc (v := (nI (j + 1))) (lv' := [(1, .int (nI (j + 1))), (2, .ref (q + 5 + 85 * j)), (0, .ref (q))]) dx_Pg_judge_133 rfl (nI_1 _) (by decide) rfl ?_
            refine px_goto dx_Pg_judge_136 ?_
            refine px_sub [2, 0] rfl ?_
            have hX : fif F (bgF F j) j 40 0 none ≠ -1 := c_80
            have aW : Agp (P910 q (q + 5 + 85 * j)) σ1 (sI (sI (sI σ1 (q + 5 + 85 * j) 10 (fif F (bgF F j) j 40 0 none)) (q + 5 + 85 * j) 9 0) q 5 0) := (((Agp.rf.w (Or.inl ⟨rfl, Or.inr rfl⟩)).w (Or.inl ⟨rfl, Or.inl rfl⟩)).w (Or.inr ⟨rfl, rfl⟩))
            have hvd : vdM F j = fif F (bgF F j) j 40 0 none := if_neg hX
            obtain ⟨g1, g2, g3⟩ := judge_step hq hjF h04 hA hM hL (aW.mono fun o k h => P910.n hq hE h) ⟨(gI_n (Or.inl (by omega))).trans ((gI_n (Or.inr (by decide))).trans (gI_s.trans hvd.symm)), (gI_n (Or.inl (by omega))).trans (gI_s.trans (by rw [decide_eq_false hX]; rfl)), hLO.1.w9 (by omega) aW, fun z => absurd z hX⟩
            exact ih (j + 1) _ (by omega) (by omega) g1 g2 g3 (gI_s.trans (by (show (0 : Int32) = b2i (!(ufO F j || decide (¬ vdM F j = -1))); rw [hvd, decide_eq_true hX, Bool.or_true]; rfl))) ⟨c, (gI_n (Or.inl (by omega))).trans ((gI_n (Or.inl (by omega))).trans ((gI_n (Or.inl (by omega))).trans hc))⟩
        · refine px_iconst (v := 1) dx_Pg_judge_83 rfl ?_
          refine px_goto dx_Pg_judge_84 ?_
          refine px_putZ dx_Pg_judge_88 fl_Pg_81 kM.1 (by omega) rfl (by decide) ?_
          refine px_aload_n dx_Pg_judge_91 rfl ?_
          refine px_getI dx_Pg_judge_92 fl_Pg_81 kM.1 (by omega) rfl ?_
          refine px_eqi (y := 1) gI_s ?_
          refine px_if_eq dx_Pg_judge_95 (fun q => absurd q (by decide)) (fun _ => ?_)
          refine px_aload_n dx_Pg_judge_98 rfl ?_
          refine px_aload_n dx_Pg_judge_99 rfl ?_
          have hXf : fif F (bgF F j) j 40 0 none = -1 := c_80
          obtain ⟨τ0, hτ0⟩ : ∃ z, z = sI (sI σ1 (q + 5 + 85 * j) 10 (fif F (bgF F j) j 40 0 none)) (q + 5 + 85 * j) 9 1 := ⟨_, rfl⟩
          rw [← hτ0]
          have hA0 : Agp (P910 q (q + 5 + 85 * j)) σ1 τ0 := by (rw [hτ0]; exact (Agp.rf.w (Or.inl ⟨rfl, Or.inr rfl⟩)).w (Or.inl ⟨rfl, Or.inl rfl⟩))
          have hB0 := hA0.mono fun o k h => P910.n hq hE h
          have hR0 := hB0.rfs hR
          have hCP0 := PJn.cp hq hB0 hCP
          have hL0 := hLO.1.w9 (by omega) hA0
          have hS0 : SUm τ0 (q + 5 + 85 * j) (stD F j) (usD F j) (bgF F j) := SUm.w9 (by omega) (fun u hu hb => (hLO.2 u hu hb).1) hA0
          refine px_cVR (Y := yy_Pg_judge) (Yc := yy_Pg_giveTypes) (b := q) (As := [.ref (q + 5 + 85 * j)]) dx_Pg_judge_100 ml_Pg_84 mv_Pg_giveTypes np_Pg_giveTypes ⟨_, rfl⟩ (by decide) kP.1 (by omega) rfl (Nat.le_of_ble_eq_true rfl) (Nat.le_of_ble_eq_true rfl) rk_Pg_judge_Pg_giveTypes rfl (k_giveTypes hq hE hR0 hW hj4 hCP0 (hCP0.2.2 j hj4) hL0 hS0) zz_0 (fun r_100 τ1 h_100 => ?_)
          obtain ⟨rfl, hA1, hS1⟩ := h_100
          have hB1 := hB0.tr (hA1.mono fun o k h => (⟨PSU.m h, h.kk hE⟩ : PJn q (q + 5 + 85 * j) o k))
          have hR1 := hB1.rfs hR
          have hCP1 := PJn.cp hq hB1 hCP
          have hL1 : SLm τ1 (q + 5 + 85 * j) F j := hL0.cg (fun u hu => hA1.1 _ _ fun w => by have := w.no; omega) (fun u hu k _ _ _ => hA1.1 _ _ fun w => by have := w.no; omega)
          have hR := hR1
          have hr1 : ∀ u, u < 40 → bgF F j u = true → gI τ1 (q + 5 + 85 * j + 5 + 2 * u) 0 = 0 := fun u hu hb => (hA1.1 _ _ fun w => by have := w.no; omega).trans ((hA0.1 _ _ (by unfold P910; omega)).trans (hLO.2 u hu hb).2)
          have hc1 : gI τ1 (q + 3) 1 = b2i c := (hA1.1 _ _ fun w => by have := w.no; omega).trans ((hA0.1 _ _ (by unfold P910; omega)).trans hc)
          have hfo : ∀ u, u < F 6 j → bgF F j u = true → frmOK F (bgF F j) j u (pbG (bgF F j) u) = true := fun u h1 h2 => fif_all hW (f := 40) (p := 0) hXf (by omega) u (by omega) h1 h2
          refine px_aload_n dx_Pg_judge_103 rfl ?_
          refine px_getR (r := q + 3) dx_Pg_judge_104 fl_Pg_24 kP.1 (by omega) rfl (hR.2.2.2.1 q hq).2.2.1 ?_
          refine px_aload_n dx_Pg_judge_107 rfl ?_
          refine px_cVR (Y := yy_Pg_judge) (Yc := yy_Fl_follow) (b := q + 3) (As := [.ref (q + 5 + 85 * j)]) dx_Pg_judge_108 ml_Pg_88 mv_Fl_follow np_Fl_follow ⟨_, rfl⟩ (by decide) kP.2.2.2.1 (by omega) rfl (Nat.le_of_ble_eq_true rfl) (Nat.le_of_ble_eq_true rfl) rk_Pg_judge_Fl_follow rfl (k_follow hq hE hR1 hW hFV.1 hjF (hFV.2.1 j hjF) (hFV.2.2 j hjF) (hCP1.2.2 j hj4) hL1 hS1 hfo hr1 hc1) zz_0 (fun r_108 τ2 h_108 => ?_)
          obtain ⟨rfl, hA2, hV2, hI2⟩ := h_108
          rw [← (vr_q hW hXf).1] at hV2 hI2
          have hB2 := hB1.tr (hA2.mono fun o k h => (⟨PF.m h, h.kk hq hE⟩ : PJn q (q + 5 + 85 * j) o k))
          have hCP2 := PJn.cp hq hB2 hCP
          have hL2 := hL1.pf hq hE hA2
          have hS2 := hS1.pf hq hE hA2
          have hR := hA2.rfs hR1
          refine px_aload_n dx_Pg_judge_111 rfl ?_
          refine px_aload_n dx_Pg_judge_112 rfl ?_
          refine px_aload_n dx_Pg_judge_113 rfl ?_
          refine px_cS (Y := yy_Pg_judge) (Yc := yy_Fl_firstWrong) (As := [.ref (q), .ref (q + 5 + 85 * j)]) dx_Pg_judge_114 ml_Pg_91 ms_Fl_firstWrong np_Fl_firstWrong rfl (Nat.le_of_ble_eq_true rfl) (Nat.le_of_ble_eq_true rfl) rk_Pg_judge_Fl_firstWrong rfl (k_firstWrong hq hE hR hW hFV.1 hCP2 (hCP2.2.2 j hj4) hL2 hS2 hfo hV2 hI2) zz_0 ?_
          refine px_putI dx_Pg_judge_117 fl_Pg_78 kM.1 (by omega) rfl ?_
          refine px_aload_n dx_Pg_judge_120 rfl ?_
          refine px_getI dx_Pg_judge_121 fl_Pg_78 kM.1 (by omega) rfl ?_
          refine px_eqi (y := (bfI (fwC F j (vrR F j).1 40 0))) gI_s ?_
          refine px_iconst (v := -1) dx_Pg_judge_124 rfl ?_
          refine px_icmp_eq dx_Pg_judge_125 (fun c_125 => ?_) (fun c_125 => ?_)
          · refine px_iinc (v := (nI (j + 1))) (lv' := [(1, .int (nI (j + 1))), (2, .ref (q + 5 + 85 * j)), (0, .ref (q))]) dx_Pg_judge_133 rfl (nI_1 _) (by decide) rfl ?_
            refine px_goto dx_Pg_judge_136 ?_
            refine px_sub [2, 0] rfl ?_
            have aW : Agp (P910 q (q + 5 + 85 * j)) τ2 (sI τ2 (q + 5 + 85 * j) 10 (bfI (fwC F j (vrR F j).1 40 0))) := (Agp.rf.w (Or.inl ⟨rfl, Or.inr rfl⟩))
            have hvd : vdM F j = bfI (fwC F j (vrR F j).1 40 0) := (if_pos hXf).trans (congrArg bfI (vr_q hW hXf).2)
            have h9 : gI τ2 (q + 5 + 85 * j) 9 = 1 := (hA2.1 _ _ fun w => (w.no hq hE).1 rfl).trans ((hA1.1 _ _ fun w => by have := w.no; omega).trans (by (rw [hτ0]; exact gI_s)))
            obtain ⟨g1, g2, g3⟩ := judge_step hq hjF h04 hA hM hL (hB2.tr (aW.mono fun o k h => P910.n hq hE h)) ⟨(gI_s).trans hvd.symm, ((gI_n (Or.inr (by decide))).trans (h9.trans (by rw [decide_eq_true hXf]; rfl))), hL2.w9 (by omega) aW, fun _ => ⟨hS2.w9 (by omega) aW, CVr.w9 (by omega) hV2.1 aW, hI2⟩⟩
            have hq5 : gI τ2 q 5 = b2i (!ufO F j) := (hA2.1 _ _ fun w => by (have := S_ne hq (SE.s hE (show 0 < 40 by decide)); rcases w with w | w | ⟨u, hu, w⟩ <;> omega)).trans ((hA1.1 _ _ fun w => by have := w.no; omega).trans ((by rw [hτ0]; exact (gI_n (Or.inl (by omega))).trans (gI_n (Or.inl (by omega))) : gI τ0 q 5 = gI σ1 q 5).trans hfit))
            exact ih (j + 1) _ (by omega) (by omega) g1 g2 g3 ((gI_n (Or.inl (by omega))).trans (hq5.trans (by (show b2i (!ufO F j) = b2i (!(ufO F j || decide (¬ vdM F j = -1))); rw [hvd, decide_eq_false (fun z => z c_125), Bool.or_false])))) ⟨_, (gI_n (Or.inl (by omega))).trans hV2.2⟩
          · refine px_aload_n dx_Pg_judge_128 rfl ?_
            refine px_iconst (v := 0) dx_Pg_judge_129 rfl ?_
            refine px_putZ dx_Pg_judge_130 fl_Pg_35 kP.1 (by omega) rfl (by decide) ?_
            refine px_iinc (v := (nI (j + 1))) (lv' := [(1, .int (nI (j + 1))), (2, .ref (q + 5 + 85 * j)), (0, .ref (q))]) dx_Pg_judge_133 rfl (nI_1 _) (by decide) rfl ?_
            refine px_goto dx_Pg_judge_136 ?_
            refine px_sub [2, 0] rfl ?_
            have aW : Agp (P910 q (q + 5 + 85 * j)) τ2 (sI (sI τ2 (q + 5 + 85 * j) 10 (bfI (fwC F j (vrR F j).1 40 0))) q 5 0) := ((Agp.rf.w (Or.inl ⟨rfl, Or.inr rfl⟩)).w (Or.inr ⟨rfl, rfl⟩))
            have hvd : vdM F j = bfI (fwC F j (vrR F j).1 40 0) := (if_pos hXf).trans (congrArg bfI (vr_q hW hXf).2)
            have h9 : gI τ2 (q + 5 + 85 * j) 9 = 1 := (hA2.1 _ _ fun w => (w.no hq hE).1 rfl).trans ((hA1.1 _ _ fun w => by have := w.no; omega).trans (by (rw [hτ0]; exact gI_s)))
            obtain ⟨g1, g2, g3⟩ := judge_step hq hjF h04 hA hM hL (hB2.tr (aW.mono fun o k h => P910.n hq hE h)) ⟨((gI_n (Or.inl (by omega))).trans gI_s).trans hvd.symm, (gI_n (Or.inl (by omega))).trans ((gI_n (Or.inr (by decide))).trans (h9.trans (by rw [decide_eq_true hXf]; rfl))), hL2.w9 (by omega) aW, fun _ => ⟨hS2.w9 (by omega) aW, CVr.w9 (by omega) hV2.1 aW, hI2⟩⟩
            have hq5 : gI τ2 q 5 = b2i (!ufO F j) := (hA2.1 _ _ fun w => by (have := S_ne hq (SE.s hE (show 0 < 40 by decide)); rcases w with w | w | ⟨u, hu, w⟩ <;> omega)).trans ((hA1.1 _ _ fun w => by have := w.no; omega).trans ((by rw [hτ0]; exact (gI_n (Or.inl (by omega))).trans (gI_n (Or.inl (by omega))) : gI τ0 q 5 = gI σ1 q 5).trans hfit))
            exact ih (j + 1) _ (by omega) (by omega) g1 g2 g3 (gI_s.trans (by (show (0 : Int32) = b2i (!(ufO F j || decide (¬ vdM F j = -1))); rw [hvd, decide_eq_true c_125, Bool.or_true]; rfl))) ⟨_, (gI_n (Or.inl (by omega))).trans ((gI_n (Or.inl (by omega))).trans hV2.2)⟩
set_option maxRecDepth 100000 in
set_option maxHeartbeats 1000000 in
theorem k_judge_l1 {l : Launch} {G : fr_G} {σ : fr_S} {q : Nat} (hq : PB q) (hRf : RF σ) {F : Nat → Nat → Nat} (hW : FW F) (hFV : FV F) (hCP0 : CP σ q F) {Post : Option Value → fr_S → Prop} (hp0 : ∀ r σ', (fun r0 σ' => r0 = none ∧ Agp (PJ q) σ σ' ∧ (∀ m, m < F 0 0 → MJ σ' (q + 5 + 85 * m) F m) ∧ gI σ' q 5 = b2i (!ufO F (F 0 0)) ∧ ∃ c, gI σ' (q + 3) 1 = b2i c) r σ' → Post r σ') : ∀ (d : Nat) (j : Nat) (σ1 : fr_S), F 0 0 - j < d → j ≤ F 0 0 → Agp (PJ q) σ σ1 → (∀ m, m < j → LO σ1 (q + 5 + 85 * m) F m) → gI σ1 q 5 = 1 → (∃ c, gI σ1 (q + 3) 1 = b2i c) → PX l G yy_Pg_judge rm_Pg_judge (QR G false 742 0 0 Post) false 742 0 0 7 [(0, .ref (q)), (1, .int (nI (j)))] [] (σ1) := by
  intro d
  induction d with
  | zero => intro j σ1 hd; exact absurd hd (Nat.not_lt_zero _)
  | succ d ih =>
    intro j σ1 hd hj hA hL hfit hc
    have kP := kd_P hq
    have h04 := hW.1
    have hR := hA.rfs hRf
    have hCP : CP σ1 q F := hCP0.kk hq fun o k h => hA.1 o k fun w => w.2.2.1 h
    refine px_iload_n dx_Pg_judge_7 rfl ?_
    refine px_aload_n dx_Pg_judge_8 rfl ?_
    refine px_getI dx_Pg_judge_9 fl_Pg_28 kP.1 (by omega) rfl ?_
    refine px_eqi (y := nI (F 0 0)) hCP.1 ?_
    refine px_icmp_geN (a := j) (b := F 0 0) dx_Pg_judge_12 (by omega) (by omega) (fun c_12 => ?_) (fun c_12 => ?_)
    · obtain rfl : j = F 0 0 := by omega
      refine px_iconst (v := 0) dx_Pg_judge_39 rfl ?_
      refine px_istore_n (lv' := [(1, .int (0)), (0, .ref (q))]) dx_Pg_judge_40 (by decide) rfl ?_
      refine px_sub [1, 0] rfl ?_
      exact k_judge_l2 (σ := σ) hq hRf hW hFV hCP0 hp0 (F 0 0 + 1) 0 σ1 (by omega) (by omega) hA (fun m h => absurd h (Nat.not_lt_zero _)) (fun m _ h => hL m h) hfit hc
    · refine px_iload_n dx_Pg_judge_15 rfl ?_
      refine px_aload_n dx_Pg_judge_16 rfl ?_
      refine px_getR (r := q + 1) dx_Pg_judge_17 fl_Pg_11 kP.1 (by omega) rfl (hR.2.2.2.1 q hq).1 ?_
      refine px_alen (v := 4) dx_Pg_judge_20 kP.2.1 (by decide) (by omega) rfl ?_
      refine px_icmp_geN (a := j) (b := 4) dx_Pg_judge_21 (by omega) (by omega) (fun c_21 => ?_) (fun c_21 => ?_)
      · exfalso; omega
      · have hj4 : j < 4 := by omega
        have hE := ME.m hq hj4
        have kM := kd_M hE
        refine px_aload_n dx_Pg_judge_24 rfl ?_
        refine px_getR (r := q + 1) dx_Pg_judge_25 fl_Pg_11 kP.1 (by omega) rfl (hR.2.2.2.1 q hq).1 ?_
        refine px_iload_n dx_Pg_judge_28 rfl ?_
        refine px_aald25N (j := j) (r := q + 5 + 85 * j) dx_Pg_judge_29 kP.2.1 (by omega) (by omega) ((hR.2.2.2.1 q hq).2.2.2.2 j (by omega)) ?_
        refine px_cVR (Y := yy_Pg_judge) (Yc := yy_Me_layOut) (b := q + 5 + 85 * j) (As := []) dx_Pg_judge_30 ml_Pg_69 mv_Me_layOut np_Me_layOut ⟨_, rfl⟩ (by decide) kM.1 (by omega) rfl (Nat.le_of_ble_eq_true rfl) (Nat.le_of_ble_eq_true rfl) rk_Pg_judge_Me_layOut rfl (k_layOut hE hW hj4 hR (hCP.2.2 j hj4)) zz_0 (fun r_30 τ1 h_30 => ?_)
        obtain ⟨rfl, hA1, hL1, hS1⟩ := h_30
        refine px_iinc (v := (nI (j + 1))) (lv' := [(1, .int (nI (j + 1))), (0, .ref (q))]) dx_Pg_judge_33 rfl (nI_1 _) (by decide) rfl ?_
        refine px_goto dx_Pg_judge_36 ?_
        refine px_sub [1, 0] rfl ?_
        exact ih (j + 1) _ (by omega) (by omega) (hA.tr (hA1.mono fun o k h => PJ.of hq hj4 h.m (h.kk hE))) (fun m hm => if e : m = j then (by subst e; exact ⟨hL1, hS1⟩) else (hL m (by omega)).cg fun o k h1 h2 => hA1.1 _ _ fun w => by have := w.o; omega) ((hA1.1 _ _ fun w => by have := w.o; omega).trans hfit) (by obtain ⟨c, hc⟩ := hc; exact ⟨c, (hA1.1 _ _ fun w => by have := w.o; omega).trans hc⟩)
set_option maxRecDepth 100000 in
set_option maxHeartbeats 1000000 in
theorem k_judge {l : Launch} {G : fr_G} {σ : fr_S} {q : Nat} (hq : PB q) (hRf : RF σ) {F : Nat → Nat → Nat} (hW : FW F) (hFV : FV F) (hCP0 : CP σ q F) (hc0 : ∃ c, gI σ (q + 3) 1 = b2i c) : CR l G yy_Pg_judge rm_Pg_judge [.ref (q)] σ (fun r0 σ' => r0 = none ∧ Agp (PJ q) σ σ' ∧ (∀ m, m < F 0 0 → MJ σ' (q + 5 + 85 * m) F m) ∧ gI σ' q 5 = b2i (!ufO F (F 0 0)) ∧ ∃ c, gI σ' (q + 3) 1 = b2i c) := by
  intro Post hp0
  show PX l G yy_Pg_judge rm_Pg_judge _ false 742 0 0 0 [(0, .ref (q))] [] σ
  have kP := kd_P hq
  refine px_aload_n dx_Pg_judge_0 rfl ?_
  refine px_iconst (v := 1) dx_Pg_judge_1 rfl ?_
  refine px_putZ dx_Pg_judge_2 fl_Pg_35 kP.1 (by omega) rfl (by decide) ?_
  refine px_iconst (v := 0) dx_Pg_judge_5 rfl ?_
  refine px_istore_n (lv' := [(1, .int (0)), (0, .ref (q))]) dx_Pg_judge_6 (by decide) rfl ?_
  refine px_sub [1, 0] rfl ?_
  exact k_judge_l1 (σ := σ) hq hRf hW hFV hCP0 hp0 (F 0 0 + 1) 0 _ (by omega) (by omega) (Agp.rf.w ⟨Nat.le_refl _, by omega, Q5.kk hq, by omega, fun _ => rfl⟩) (fun m h => absurd h (Nat.not_lt_zero _)) gI_s (by obtain ⟨c, hc⟩ := hc0; exact ⟨c, (gI_n (Or.inl (by omega))).trans hc⟩)
