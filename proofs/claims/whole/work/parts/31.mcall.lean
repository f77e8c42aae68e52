/-! the reference: a method is called -/
def suP (F : Nat → Nat → Nat) (a : AV) (m : Nat) : Nat → Bool
  | 0 => true
  | k + 1 => suP F a m k && decide (a.2.1 k = F 4 (3 * m + k))
def suO (F : Nat → Nat → Nat) (a : AV) (m : Nat) : Bool := decide (F 3 m = a.1) && suP F a m a.1
theorem suP_f {F : Nat → Nat → Nat} {a : AV} {m k : Nat} (h : suP F a m k = false) : ∀ j, suP F a m (k + j) = false
  | 0 => h
  | j + 1 => by
    show (suP F a m (k + j) && _) = false
    rw [suP_f h j]
    rfl
theorem suP_t {F : Nat → Nat → Nat} {a : AV} {m : Nat} : ∀ {n : Nat}, suP F a m n = true → ∀ j, j < n → a.2.1 j = F 4 (3 * m + j)
  | 0, _, j, hj => absurd hj (Nat.not_lt_zero _)
  | n + 1, h, j, hj => by
    simp only [suP, Bool.and_eq_true, decide_eq_true_eq] at h
    by_cases e : j = n
    · subst e
      exact h.2
    · exact suP_t h.1 j (by omega)
/-- some method isn't fit -/
def ufO (F : Nat → Nat → Nat) : Nat → Bool
  | 0 => false
  | k + 1 => ufO F k || decide (¬ vdM F k = -1)
def agA (F : Nat → Nat → Nat) (a : AV) (m : Nat) (A : VM) : Nat → VM
  | 0 => A
  | k + 1 => aD (aW (agA F a m A k) (F 5 m - pwF F m + agK F m k) (a.2.2.1 k)) (F 5 m - pwF F m + agK F m k) (a.2.2.2 k)
def beA (F : Nat → Nat → Nat) (a : AV) (A : VM) (m : Nat) : VM := agA F a m (entA (idA A 1) m) a.1
/-- a call: what refuses it, and the machine -/
def caR (F : Nat → Nat → Nat) (a : AV) (A : VM) (m : Nat) : Nat × VM := if suO F a m = false then (1, A) else if ufO F (F 0 0) = true then (2, A) else (0, beA F a A m)
theorem idS_c {σ : fr_S} {s : Int32} : gI (idS σ s) 717 0 = gI σ 717 0 := by
  show gI (sI (sI (sI σ 717 26 s) 717 27 0) 717 32 0) 717 0 = _
  rw [gI_n (Or.inr (by decide)), gI_n (Or.inr (by decide)), gI_n (Or.inr (by decide))]
def a_0 (a : AV) : AV := (0, a.2)
theorem RP.a0 {σ : fr_S} {b : Nat → Nat} {n : Nat} {pl : Int32} {F : Nat → Nat → Nat} {a : AV} {A : VM} (h : RP σ b n pl F a A) : RP (sI σ 717 22 0) b n pl F (a_0 a) A := by
  obtain ⟨⟨b1, b2, b3, b4⟩, r, p, ⟨f, fw, v, mv⟩, ⟨c, hc⟩, ⟨a1, a2, a3, a4, a5, a6⟩, ⟨m1, m2, m3, m4, m5, m6, m7, m8, m9, m10⟩, ab⟩ := h
  have k4 : ∀ o, 718 ≤ o → ∀ k, gI (sI σ 717 22 0) o k = gI σ o k := fun o h1 k => gI_n (Or.inl (by omega))
  exact ⟨⟨(gI_n (Or.inr (by decide))).trans b1, b2, fun k hk => (k4 _ (by decide) _).trans (b3 k hk), b4⟩, r, (gI_n (Or.inr (by decide))).trans p, ⟨fun x k hx hk => (k4 _ (by omega) _).trans (f x k hx hk), fw, v, fun m hm => (mv m hm).ag fun o q1 q2 k => k4 o (by omega) k⟩, ⟨c, (gI_n (Or.inr (by decide))).trans hc⟩,
    ⟨gI_s, Nat.zero_le _, fun k hk => (k4 _ (by decide) _).trans (a3 k hk), a4, a5, a6⟩,
    ⟨(gI_n (Or.inr (by decide))).trans m1, (gI_n (Or.inr (by decide))).trans m2, fun k hk => (k4 _ (by decide) _).trans (m3 k hk), fun k hk => (k4 _ (by decide) _).trans (m4 k hk), (gI_n (Or.inr (by decide))).trans m5, m6, m7, m8, m9, fun k hk => (k4 _ (by decide) _).trans (m10 k hk)⟩, ab⟩

set_option maxRecDepth 100000 in
set_option maxHeartbeats 1000000 in
theorem m_call_l3 {l : Launch} {G : fr_G} {σ : fr_S} {b : Nat → Nat} {n : Nat} {pl : Int32} {F : Nat → Nat → Nat} {a : AV} {A : VM} {σ0 : fr_S} (hP0 : RP σ0 b n pl F (a_0 a) A) (ha3 : a.1 ≤ 3) {m : Nat} (hm : m < F 0 0) (hsu : suO F a m = true) (huf : ufO F (F 0 0) = false) {Post : Option Value → fr_S → Prop} (hp0 : ∀ r σ', (fun r0 σ' => r0 = none ∧ gI σ' 717 0 = nI (caR F a A m).1 ∧ MX σ0 σ' F (caR F a A m).2) r σ' → Post r σ') : ∀ (d : Nat) (k : Nat) (σ1 : fr_S) (A1 : VM), a.1 - k < d → k ≤ a.1 → MX σ0 σ1 F A1 → gI σ1 717 0 = 0 → agA F a m (entA (idA A 1) m) k = A1 → PX l G yy_Mo_call rm_Mo_call (QR G false 742 0 0 Post) false 742 0 0 175 [(0, .ref (717)), (2, .int (nI (a.1))), (4, .int (nI (F 5 m - pwF F m + agK F m k))), (5, .int (nI (k)))] [] (σ1) := by
  intro d
  induction d with
  | zero => intro k σ1 A1 hd; exact absurd hd (Nat.not_lt_zero _)
  | succ d ih =>
    intro k σ1 A1 hd hk hX hcd hE
    have hq0 := hP0.2.2.2.1.2.2.1.2.1 m hm
    have hW := hP0.2.2.2.1.2.1.fw
    have h04 := hW.1
    have h510 := hW.2.2.2.2.2.1 m
    have hq := hP0.2.2.2.1.2.2.1.2.1 m hm
    have hsu2 := hsu
    simp only [suO, Bool.and_eq_true, decide_eq_true_eq] at hsu2
    have hs : k < a.1 → agK F m k + 1 ≤ pwF F m ∧ a.2.1 k = F 4 (3 * m + k) := fun q => by
      have q2 := wdt_1 (F 4 (3 * m + k))
      have q3 := agK_mono F m (k + 1) (F 3 m) (by omega)
      rw [agK_s] at q3
      have q4 : agK F m (F 3 m) = pwF F m := rfl
      exact ⟨by omega, suP_t hsu2.2 k q⟩
    refine px_iload dx_Mo_call_175 rfl ?_
    refine px_iload_n dx_Mo_call_177 rfl ?_
    refine px_icmp_geN (a := k) (b := a.1) dx_Mo_call_178 (by omega) (by omega) (fun c_178 => ?_) (fun c_178 => ?_)
    · exact px_vret dx_Mo_call_230 rfl (by (obtain rfl : k = a.1 := by omega); (have e : caR F a A m = (0, A1) := by (unfold caR; rw [if_neg (by rw [hsu]; decide), if_neg (by rw [huf]; decide)]; unfold beA; rw [hE])); exact hp0 _ _ ⟨rfl, by rw [e]; exact hcd, by rw [e]; exact hX⟩)
    · refine px_aload_n dx_Mo_call_181 rfl ?_
      refine px_getR (r := 738) dx_Mo_call_182 fl_Mo_77 rfl (by decide) rfl (hX.1 30) ?_
      refine px_iload dx_Mo_call_185 rfl ?_
      refine px_aload_n dx_Mo_call_187 rfl ?_
      refine px_getR (r := 734) dx_Mo_call_188 fl_Mo_63 rfl (by decide) rfl (hX.1 24) ?_
      refine px_iload dx_Mo_call_191 rfl ?_
      refine px_laldN (j := k) dx_Mo_call_193 rfl (by decide) (by omega) ?_
      refine px_eql (y := a.2.2.1 k) ((hX.2.2.2.2.2.2.2.1 734 (by decide) _).trans (hP0.2.2.2.2.2.1.2.2.2.2.1 k (by omega))) ?_
      refine px_lastN (j := F 5 m - pwF F m + agK F m k) dx_Mo_call_194 rfl (by decide) (by omega) ?_
      obtain ⟨A_194, hA_194⟩ : ∃ X, X = aW A1 (F 5 m - pwF F m + agK F m k) (a.2.2.1 k) := ⟨_, rfl⟩
      have hX : MX _ (sL σ1 738 (F 5 m - pwF F m + agK F m k) (a.2.2.1 k)) F A_194 := hA_194 ▸ MX.w hX (k := (F 5 m - pwF F m + agK F m k)) (v := (a.2.2.1 k)) (by omega)
      have hd_A_194 : A_194.1 1 0 = A1.1 1 0 := by rw [hA_194]; exact rfl
      refine px_aload_n dx_Mo_call_195 rfl ?_
      refine px_getR (r := 739) dx_Mo_call_196 fl_Mo_80 rfl (by decide) rfl (hX.1 31) ?_
      refine px_iload dx_Mo_call_199 rfl ?_
      refine px_aload_n dx_Mo_call_201 rfl ?_
      refine px_getR (r := 735) dx_Mo_call_202 fl_Mo_67 rfl (by decide) rfl (hX.1 25) ?_
      refine px_iload dx_Mo_call_205 rfl ?_
      refine px_daldN (j := k) dx_Mo_call_207 rfl (by decide) (by omega) ?_
      refine px_eqd (y := a.2.2.2 k) ((hX.2.2.2.2.2.2.2.2.1 735 (by decide) _).trans (hP0.2.2.2.2.2.1.2.2.2.2.2 k (by omega))) ?_
      refine px_dastN (j := F 5 m - pwF F m + agK F m k) dx_Mo_call_208 rfl (by decide) (by omega) ?_
      obtain ⟨A_208, hA_208⟩ : ∃ X, X = aD A_194 (F 5 m - pwF F m + agK F m k) (a.2.2.2 k) := ⟨_, rfl⟩
      have hX : MX _ (sD (sL σ1 738 (F 5 m - pwF F m + agK F m k) (a.2.2.1 k)) 739 (F 5 m - pwF F m + agK F m k) (a.2.2.2 k)) F A_208 := hA_208 ▸ MX.d hX (k := (F 5 m - pwF F m + agK F m k)) (v := (a.2.2.2 k)) (by omega)
      have hd_A_208 : A_208.1 1 0 = A1.1 1 0 := by rw [hA_208]; exact Eq.trans rfl hd_A_194
      refine px_iload dx_Mo_call_209 rfl ?_
      refine px_aload_n dx_Mo_call_211 rfl ?_
      refine px_getR (r := 733) dx_Mo_call_212 fl_Mo_60 rfl (by decide) rfl (hX.1 23) ?_
      refine px_iload dx_Mo_call_215 rfl ?_
      refine px_ialdN (j := k) dx_Mo_call_217 rfl (by decide) (by omega) ?_
      refine px_eqi (y := nI (a.2.1 k)) ((hX.2.2.2.2.2.1 733 (by decide) _).trans (hP0.2.2.2.2.2.1.2.2.1 k (by omega))) ?_
      refine px_cS (Y := yy_Mo_call) (Yc := yy_Mo_words) (As := [.int (nI (a.2.1 k))]) dx_Mo_call_218 ml_Mo_99 ms_Mo_words np_Mo_words rfl (Nat.le_of_ble_eq_true rfl) (Nat.le_of_ble_eq_true rfl) rk_Mo_call_Mo_words rfl (m_words (t := a.2.1 k) (Nat.lt_of_le_of_lt (hP0.2.2.2.2.2.1.2.2.2.1 _) (by decide))) zz_0 ?_
      refine px_iaddN (a := F 5 m - pwF F m + agK F m k) (b := wdt (a.2.1 k)) dx_Mo_call_221 ?_
      refine px_istore (lv' := [(4, .int (nI ((F 5 m - pwF F m + agK F m k) + (wdt (a.2.1 k))))), (0, .ref (717)), (2, .int (nI (a.1))), (5, .int (nI (k)))]) dx_Mo_call_222 (by decide) rfl ?_
      refine px_iinc (v := (nI (k + 1))) (lv' := [(5, .int (nI (k + 1))), (4, .int (nI ((F 5 m - pwF F m + agK F m k) + (wdt (a.2.1 k))))), (0, .ref (717)), (2, .int (nI (a.1)))]) dx_Mo_call_224 rfl (nI_1 _) (by decide) rfl ?_
      refine px_goto dx_Mo_call_227 ?_
      refine px_sub [2, 3, 1, 0] rfl ?_
      rw [Nat.add_assoc, (hs (by omega)).2]
      exact ih (k + 1) (sD (sL σ1 738 (F 5 m - pwF F m + agK F m k) (a.2.2.1 k)) 739 (F 5 m - pwF F m + agK F m k) (a.2.2.2 k)) A_208 (by omega) (by omega) hX (by exact hcd) (by (subst hA_208; subst hA_194; rw [← hE]; rfl))
set_option maxRecDepth 100000 in
set_option maxHeartbeats 1000000 in
theorem m_enterk_lp {l : Launch} {G : fr_G} {σ : fr_S} {σ0 : fr_S} {F : Nat → Nat → Nat} {A : VM} {c : Nat} {κ : Int32} (h6 : A.1 1 0 < 6) {Post : Option Value → fr_S → Prop} (hp0 : ∀ r σ', (fun r0 σ' => r0 = none ∧ MX σ0 σ' F (entA A c) ∧ gI σ' 717 0 = κ) r σ' → Post r σ') : ∀ (d : Nat) (j : Nat) (σ1 : fr_S) (A1 : VM), 10 - j < d → j ≤ 10 → MX σ0 σ1 F A1 → zrA (aI (aI A 2 (A.1 1 0) c) 3 (A.1 1 0) 0) (10 * A.1 1 0) j = A1 → A1.1 1 0 = A.1 1 0 → gI σ1 717 0 = κ → PX l G yy_Mo_enter rm_Mo_enter (QR G false 742 0 0 Post) false 742 0 0 28 [(0, .ref (717)), (1, .int (nI (c))), (2, .int (nI (10 * A.1 1 0 + j)))] [] (σ1) := by
  intro d
  induction d with
  | zero => intro j σ1 A1 hd; exact absurd hd (Nat.not_lt_zero _)
  | succ d ih =>
    intro j σ1 A1 hd hj hX hE hdd hk0
    refine px_iload_n dx_Mo_enter_28 rfl ?_
    refine px_bipush (v := 10) dx_Mo_enter_29 rfl ?_
    refine px_aload_n dx_Mo_enter_31 rfl ?_
    refine px_getI dx_Mo_enter_32 fl_Mo_130 rfl (by decide) rfl ?_
    refine px_eqi (y := nI (A1.1 1 0)) hX.2.2.2.1.2.1 ?_
    refine px_imulN (a := 10) (b := A1.1 1 0) dx_Mo_enter_35 ?_
    refine px_bipush (v := 10) dx_Mo_enter_36 rfl ?_
    refine px_iaddN (a := 10 * (A1.1 1 0)) (b := 10) dx_Mo_enter_38 ?_
    refine px_icmp_geN (a := 10 * A.1 1 0 + j) (b := (10 * (A1.1 1 0)) + 10) dx_Mo_enter_39 (by omega) (by omega) (fun c_39 => ?_) (fun c_39 => ?_)
    · refine px_aload_n dx_Mo_enter_62 rfl ?_
      refine px_dup dx_Mo_enter_63 rfl ?_
      refine px_getI dx_Mo_enter_64 fl_Mo_130 rfl (by decide) rfl ?_
      refine px_eqi (y := nI (A1.1 1 0)) hX.2.2.2.1.2.1 ?_
      refine px_iconst (v := 1) dx_Mo_enter_67 rfl ?_
      refine px_iaddN (a := A1.1 1 0) (b := 1) dx_Mo_enter_68 ?_
      refine px_putI dx_Mo_enter_69 fl_Mo_130 rfl (by decide) rfl ?_
      obtain ⟨A_69, hA_69⟩ : ∃ X, X = aI A1 1 0 ((A1.1 1 0) + 1) := ⟨_, rfl⟩
      have hX : MX _ (sI σ1 717 27 (nI ((A1.1 1 0) + 1))) F A_69 := hA_69 ▸ MX.dp hX (v := ((A1.1 1 0) + 1)) (by omega)
      have hd_A_69 : A_69.1 1 0 = ((A1.1 1 0) + 1) := by rw [hA_69]; exact aI_s
      exact px_vret dx_Mo_enter_72 rfl (by (have e : entA A c = A_69 := by (obtain rfl : j = 10 := (by omega); subst hA_69; unfold entA; rw [hE, hdd])); exact hp0 _ _ ⟨rfl, by (rw [e]; exact hX), (gI_n (Or.inr (by decide))).trans hk0⟩)
    · refine px_aload_n dx_Mo_enter_42 rfl ?_
      refine px_getR (r := 738) dx_Mo_enter_43 fl_Mo_77 rfl (by decide) rfl (hX.1 30) ?_
      refine px_iload_n dx_Mo_enter_46 rfl ?_
      refine px_lconst (v := 0) dx_Mo_enter_47 rfl ?_
      refine px_lastN (j := 10 * A.1 1 0 + j) dx_Mo_enter_48 rfl (by decide) (by omega) ?_
      obtain ⟨A_48, hA_48⟩ : ∃ X, X = aW A1 (10 * A.1 1 0 + j) 0 := ⟨_, rfl⟩
      have hX : MX _ (sL σ1 738 (10 * A.1 1 0 + j) 0) F A_48 := hA_48 ▸ MX.w hX (k := (10 * A.1 1 0 + j)) (v := 0) (by omega)
      have hd_A_48 : A_48.1 1 0 = A1.1 1 0 := by rw [hA_48]; exact rfl
      refine px_aload_n dx_Mo_enter_49 rfl ?_
      refine px_getR (r := 739) dx_Mo_enter_50 fl_Mo_80 rfl (by decide) rfl (hX.1 31) ?_
      refine px_iload_n dx_Mo_enter_53 rfl ?_
      refine px_dconst0 dx_Mo_enter_54 ?_
      refine px_dastN (j := 10 * A.1 1 0 + j) dx_Mo_enter_55 rfl (by decide) (by omega) ?_
      obtain ⟨A_55, hA_55⟩ : ∃ X, X = aD A_48 (10 * A.1 1 0 + j) 0 := ⟨_, rfl⟩
      have hX : MX _ (sD (sL σ1 738 (10 * A.1 1 0 + j) 0) 739 (10 * A.1 1 0 + j) 0) F A_55 := hA_55 ▸ MX.d hX (k := (10 * A.1 1 0 + j)) (v := 0) (by omega)
      have hd_A_55 : A_55.1 1 0 = A1.1 1 0 := by rw [hA_55]; exact Eq.trans rfl hd_A_48
      refine px_iinc (v := (nI (10 * A.1 1 0 + j + 1))) (lv' := [(2, .int (nI (10 * A.1 1 0 + j + 1))), (0, .ref (717)), (1, .int (nI (c)))]) dx_Mo_enter_56 rfl (nI_1 _) (by decide) rfl ?_
      refine px_goto dx_Mo_enter_59 ?_
      refine px_sub [1, 2, 0] rfl ?_
      exact ih (j + 1) (sD (sL σ1 738 (10 * A.1 1 0 + j) 0) 739 (10 * A.1 1 0 + j) 0) A_55 (by omega) (by omega) hX (by (subst hA_55; subst hA_48; rw [← hE]; rfl)) (hd_A_55.trans hdd) hk0
set_option maxRecDepth 100000 in
set_option maxHeartbeats 1000000 in
theorem m_enterk {l : Launch} {G : fr_G} {σ : fr_S} {σ0 : fr_S} {F : Nat → Nat → Nat} {A : VM} (hX : MX σ0 σ F A) {κ : Int32} (hk0 : gI σ 717 0 = κ) (h6 : A.1 1 0 < 6) {c : Nat} (hc : c ≤ 3) : CR l G yy_Mo_enter rm_Mo_enter [.ref (717), .int (nI (c))] σ (fun r0 σ' => r0 = none ∧ MX σ0 σ' F (entA A c) ∧ gI σ' 717 0 = κ) := by
  intro Post hp0
  show PX l G yy_Mo_enter rm_Mo_enter _ false 742 0 0 0 [(0, .ref (717)), (1, .int (nI (c)))] [] σ
  refine px_aload_n dx_Mo_enter_0 rfl ?_
  refine px_getR (r := 736) dx_Mo_enter_1 fl_Mo_71 rfl (by decide) rfl (hX.1 28) ?_
  refine px_aload_n dx_Mo_enter_4 rfl ?_
  refine px_getI dx_Mo_enter_5 fl_Mo_130 rfl (by decide) rfl ?_
  refine px_eqi (y := nI (A.1 1 0)) hX.2.2.2.1.2.1 ?_
  refine px_iload_n dx_Mo_enter_8 rfl ?_
  refine px_iastN (j := A.1 1 0) dx_Mo_enter_9 rfl (by decide) (by omega) ?_
  obtain ⟨A_9, hA_9⟩ : ∃ X, X = aI A 2 (A.1 1 0) (c) := ⟨_, rfl⟩
  have hX : MX _ (sI σ 736 (A.1 1 0) (nI (c))) F A_9 := hA_9 ▸ MX.fm hX (k := (A.1 1 0)) (v := (c)) (by omega)
  have hd_A_9 : A_9.1 1 0 = A.1 1 0 := by rw [hA_9]; exact (aI_n (Or.inl (by decide)))
  refine px_aload_n dx_Mo_enter_10 rfl ?_
  refine px_getR (r := 737) dx_Mo_enter_11 fl_Mo_74 rfl (by decide) rfl (hX.1 29) ?_
  refine px_aload_n dx_Mo_enter_14 rfl ?_
  refine px_getI dx_Mo_enter_15 fl_Mo_130 rfl (by decide) rfl ?_
  refine px_eqi (y := nI (A.1 1 0)) (hX.2.2.2.1.2.1.trans (congrArg nI hd_A_9)) ?_
  refine px_iconst (v := 0) dx_Mo_enter_18 rfl ?_
  refine px_iastN (j := A.1 1 0) dx_Mo_enter_19 rfl (by decide) (by omega) ?_
  obtain ⟨A_19, hA_19⟩ : ∃ X, X = aI A_9 3 (A.1 1 0) 0 := ⟨_, rfl⟩
  have hX : MX _ (sI (sI σ 736 (A.1 1 0) (nI (c))) 737 (A.1 1 0) 0) F A_19 := hA_19 ▸ MX.fp hX (k := (A.1 1 0)) (v := 0) (by omega)
  have hd_A_19 : A_19.1 1 0 = A.1 1 0 := by rw [hA_19]; exact Eq.trans (aI_n (Or.inl (by decide))) hd_A_9
  refine px_bipush (v := 10) dx_Mo_enter_20 rfl ?_
  refine px_aload_n dx_Mo_enter_22 rfl ?_
  refine px_getI dx_Mo_enter_23 fl_Mo_130 rfl (by decide) rfl ?_
  refine px_eqi (y := nI (A.1 1 0)) (hX.2.2.2.1.2.1.trans (congrArg nI hd_A_19)) ?_
  refine px_imulN (a := 10) (b := A.1 1 0) dx_Mo_enter_26 ?_
  refine px_istore_n (lv' := [(2, .int (nI (10 * (A.1 1 0)))), (0, .ref (717)), (1, .int (nI (c)))]) dx_Mo_enter_27 (by decide) rfl ?_
  refine px_sub [1, 2, 0] rfl ?_
  exact m_enterk_lp (σ := σ) (A := A) (c := c) h6 hp0 11 0 _ A_19 (by omega) (Nat.zero_le _) hX (by (subst hA_19; subst hA_9; rfl)) hd_A_19 ((gI_n (Or.inl (by decide))).trans ((gI_n (Or.inl (by decide))).trans hk0))
set_option maxRecDepth 100000 in
set_option maxHeartbeats 1000000 in
theorem m_call_b {l : Launch} {G : fr_G} {b : Nat → Nat} {n : Nat} {pl : Int32} {F : Nat → Nat → Nat} {a : AV} {A : VM} {σ0 : fr_S} (hP0 : RP σ0 b n pl F (a_0 a) A) (ha3 : a.1 ≤ 3) {m : Nat} (hm : m < F 0 0) (hsu : suO F a m = true) (huf : ufO F (F 0 0) = false) {Post : Option Value → fr_S → Prop} (hp0 : ∀ r σ', (fun r0 σ' => r0 = none ∧ gI σ' 717 0 = nI (caR F a A m).1 ∧ MX σ0 σ' F (caR F a A m).2) r σ' → Post r σ') {σ1 : fr_S} (hX : MX σ0 σ1 F A) (hcd : gI σ1 717 0 = 0) : PX l G yy_Mo_call rm_Mo_call (QR G false 742 0 0 Post) false 742 0 0 148 [(0, .ref 717), (1, .int (nI m)), (2, .int (nI a.1))] [] σ1 := by
  have hq0 := hP0.2.2.2.1.2.2.1.2.1 m hm
  have hW := hP0.2.2.2.1.2.1.fw
  have h04 := hW.1
  have h510 := hW.2.2.2.2.2.1 m
  refine px_aload_n dx_Mo_call_148 rfl ?_
  refine px_iconst (v := 1) dx_Mo_call_149 rfl ?_
  have hXi := hX.id (s := 1) (by decide)
  refine px_cV (Y := yy_Mo_call) (Yc := yy_Mo_idle) (b := 717) (As := [.int (1)]) dx_Mo_call_150 ml_Mo_124 mv_Mo_idle np_Mo_idle ⟨_, rfl⟩ (by decide) rfl (by decide) rfl (Nat.le_of_ble_eq_true rfl) (Nat.le_of_ble_eq_true rfl) rk_Mo_call_Mo_idle rfl (m_idle (x := 1)) zz_0 ?_
  have hX : MX σ0 (idS σ1 (nI 1)) F (idA A 1) := hXi
  have hd0 : (idA A 1).1 1 0 = 0 := rfl
  refine px_aload_n dx_Mo_call_153 rfl ?_
  refine px_iload_n dx_Mo_call_154 rfl ?_
  have hki : gI (idS σ1 (nI 1)) 717 0 = 0 := idS_c.trans hcd
  refine px_cVR (Y := yy_Mo_call) (Yc := yy_Mo_enter) (b := 717) (As := [.int (nI (m))]) dx_Mo_call_155 ml_Mo_309 mv_Mo_enter np_Mo_enter ⟨_, rfl⟩ (by decide) rfl (by decide) rfl (Nat.le_of_ble_eq_true rfl) (Nat.le_of_ble_eq_true rfl) rk_Mo_call_Mo_enter rfl (m_enterk (A := idA A 1) hX hki (by omega) (c := m) (by omega)) zz_0 (fun r_155 τ_155 h_155 => ?_)
  obtain ⟨rfl, hX, hcd2⟩ := h_155
  obtain ⟨B_155, hB_155⟩ : ∃ X, X = entA (idA A 1) m := ⟨_, rfl⟩
  rw [← hB_155] at hX
  refine px_aload_n dx_Mo_call_158 rfl ?_
  refine px_getR (r := 724) dx_Mo_call_159 fl_Mo_32 rfl (by decide) rfl (hX.1 11) ?_
  refine px_iload_n dx_Mo_call_162 rfl ?_
  refine px_ialdN (j := m) dx_Mo_call_163 rfl (by decide) (by omega) ?_
  refine px_eqi (y := nI (F 5 m)) (hX.2.1.2.2.2.2.2.1 m (by omega)) ?_
  refine px_aload_n dx_Mo_call_164 rfl ?_
  refine px_iload_n dx_Mo_call_165 rfl ?_
  refine px_cV (Y := yy_Mo_call) (Yc := yy_Mo_paramWords) (b := 717) (As := [.int (nI (m))]) dx_Mo_call_166 ml_Mo_107 mv_Mo_paramWords np_Mo_paramWords ⟨_, rfl⟩ (by decide) rfl (by decide) rfl (Nat.le_of_ble_eq_true rfl) (Nat.le_of_ble_eq_true rfl) rk_Mo_call_Mo_paramWords rfl (m_paramWords (m := m) (pt := fun k => F 4 (3 * m + k)) (np := F 3 m) hX.1 (by omega) (hX.2.2.1.2.2.2.1 _) (hX.2.1.2.2.2.1 _ (by omega)) (fun k hk => hX.2.1.2.2.2.2.1 _ (by have := hX.2.2.1.2.2.2.1 m; omega)) (fun k => Nat.lt_of_le_of_lt (hX.2.2.1.2.2.2.2.1 _) (by decide))) zz_0 ?_
  refine px_isubN (a := F 5 m) (b := pwF F m) dx_Mo_call_169 (by omega) ?_
  refine px_istore (lv' := [(4, .int (nI ((F 5 m) - (pwF F m)))), (0, .ref (717)), (1, .int (nI (m))), (2, .int (nI (a.1)))]) dx_Mo_call_170 (by decide) rfl ?_
  refine px_iconst (v := 0) dx_Mo_call_172 rfl ?_
  refine px_istore (lv' := [(5, .int (0)), (4, .int (nI ((F 5 m) - (pwF F m)))), (0, .ref (717)), (1, .int (nI (m))), (2, .int (nI (a.1)))]) dx_Mo_call_173 (by decide) rfl ?_
  refine px_sub [2, 4, 1, 0] rfl ?_
  refine px_eqv (lv2 := [(0, .ref 717), (2, .int (nI a.1)), (4, .int (nI (F 5 m - pwF F m + agK F m 0))), (5, .int (nI 0))]) rfl ?_
  exact m_call_l3 (σ := σ0) hP0 ha3 hm hsu huf hp0 (a.1 + 1) 0 _ B_155 (by omega) (Nat.zero_le _) hX (by exact hcd2) (by (subst hB_155; rfl))
theorem bfI_n {bt : Option Nat} (hq : ∀ q, bt = some q → q < 40) (h : bfI bt < 0) : bfI bt = -1 := by
  cases bt with
  | none => rfl
  | some q => exact absurd h (nI_pos (Nat.lt_trans (hq q rfl) (by decide)))
theorem rnd_bt {F : Nat → Nat → Nat} {Bg : Nat → Bool} {m : Nat} (h6 : F 6 m ≤ 40) : ∀ {f p : Nat} {bf : Option Nat} {v : VS} {bt : Option Nat}, (∀ q, bt = some q → q < 40) → ∀ q, (rnd F Bg m f p bf v bt).2 = some q → q < 40
  | 0, _, _, _, _, h => h
  | f + 1, p, bf, v, bt, h => by
    unfold rnd
    split
    · rename_i hp
      split
      · split
        · refine rnd_bt h6 fun q e => ?_
          split at e
          · cases e
            omega
          · exact h q e
        · exact rnd_bt h6 h
      · exact rnd_bt h6 h
    · exact h
theorem fixV_bt {F : Nat → Nat → Nat} {Bg : Nat → Bool} {m : Nat} (h6 : F 6 m ≤ 40) : ∀ {k : Nat} {v : VS} {bt : Option Nat}, (∀ q, bt = some q → q < 40) → ∀ q, (fixV F Bg m k v bt).2 = some q → q < 40
  | 0, _, _, h => h
  | k + 1, v, bt, h => by
    unfold fixV
    split
    · exact fixV_bt h6 (rnd_bt h6 fun q e => by cases e)
    · exact h
theorem vrR_bt {F : Nat → Nat → Nat} {m : Nat} (h6 : F 6 m ≤ 40) : ∀ q, (vrR F m).2 = some q → q < 40 := fixV_bt h6 fun q e => by cases e

set_option maxRecDepth 100000 in
set_option maxHeartbeats 1000000 in
theorem m_call_l2 {l : Launch} {G : fr_G} {σ : fr_S} {b : Nat → Nat} {n : Nat} {pl : Int32} {F : Nat → Nat → Nat} {a : AV} {A : VM} {σ0 : fr_S} (hP0 : RP σ0 b n pl F (a_0 a) A) (ha3 : a.1 ≤ 3) {m : Nat} (hm : m < F 0 0) (hsu : suO F a m = true) {Post : Option Value → fr_S → Prop} (hp0 : ∀ r σ', (fun r0 σ' => r0 = none ∧ gI σ' 717 0 = nI (caR F a A m).1 ∧ MX σ0 σ' F (caR F a A m).2) r σ' → Post r σ') : ∀ (d : Nat) (k : Nat) (uf : Bool) (σ1 : fr_S), F 0 0 - k < d → k ≤ F 0 0 → MX σ0 σ1 F A → gI σ1 717 0 = nI (if uf = true then 2 else 0) → uf = ufO F k → PX l G yy_Mo_call rm_Mo_call (QR G false 742 0 0 Post) false 742 0 0 98 [(0, .ref (717)), (1, .int (nI (m))), (2, .int (nI (a.1))), (4, .int (nI (k)))] [] (σ1) := by
  intro d
  induction d with
  | zero => intro k uf σ1 hd; exact absurd hd (Nat.not_lt_zero _)
  | succ d ih =>
    intro k uf σ1 hd hk hX hcd hu
    have hq0 := hP0.2.2.2.1.2.2.1.2.1 m hm
    have hW := hP0.2.2.2.1.2.1.fw
    have h04 := hW.1
    have h510 := hW.2.2.2.2.2.1 m
    have hu2 : (if uf = true then 2 else 0) ≤ 2 := by split <;> decide
    refine px_iload dx_Mo_call_98 rfl ?_
    refine px_aload_n dx_Mo_call_100 rfl ?_
    refine px_getR (r := 719) dx_Mo_call_101 fl_Mo_17 rfl (by decide) rfl (hX.1 6) ?_
    refine px_iconst (v := 0) dx_Mo_call_104 rfl ?_
    refine px_ialdN (j := 0) dx_Mo_call_105 rfl (by decide) (by decide) ?_
    refine px_eqi (y := nI (F 0 0)) hX.2.1.1 ?_
    refine px_icmp_geN (a := k) (b := F 0 0) dx_Mo_call_106 (by omega) (by omega) (fun c_106 => ?_) (fun c_106 => ?_)
    · have ek : k = F 0 0 := by omega
      refine px_aload_n dx_Mo_call_140 rfl ?_
      refine px_getI dx_Mo_call_141 fl_Mo_86 rfl (by decide) rfl ?_
      refine px_eqi (y := nI (if uf = true then 2 else 0)) hcd ?_
      refine px_if_eqN (a := if uf = true then 2 else 0) dx_Mo_call_144 (by omega) (fun c_144 => ?_) (fun c_144 => ?_)
      · refine px_sub [0, 1, 2] rfl ?_
        cases uf with
        | true => exact absurd c_144 (by decide)
        | false => exact m_call_b hP0 ha3 hm hsu (ek ▸ hu).symm hp0 hX hcd
      · exact px_vret dx_Mo_call_147 rfl (by (cases uf with | false => exact absurd rfl c_144 | true => ((have e : caR F a A m = (2, A) := by (unfold caR; rw [if_neg (by rw [hsu]; decide), if_pos (ek ▸ hu).symm])); exact hp0 _ _ ⟨rfl, by rw [e]; exact hcd, by rw [e]; exact hX⟩)))
    · refine px_aload_n dx_Mo_call_109 rfl ?_
      refine px_getR (r := 727) dx_Mo_call_110 fl_Mo_41 rfl (by decide) rfl (hX.1 14) ?_
      refine px_iload dx_Mo_call_113 rfl ?_
      refine px_ialdN (j := k) dx_Mo_call_115 rfl (by decide) (by omega) ?_
      refine px_eqi (y := fif F (bgF F k) k 40 0 none) ((hX.2.2.2.2.2.1 727 (by decide) _).trans (hP0.2.2.2.1.2.2.2 k (by omega)).1) ?_
      refine px_if_ge dx_Mo_call_116 (fun c_116 => ?_) (fun c_116 => ?_)
      · refine px_aload_n dx_Mo_call_129 rfl ?_
        refine px_iconst (v := 2) dx_Mo_call_130 rfl ?_
        refine px_putI dx_Mo_call_131 fl_Mo_86 rfl (by decide) rfl ?_
        refine px_iinc (v := (nI (k + 1))) (lv' := [(4, .int (nI (k + 1))), (0, .ref (717)), (1, .int (nI (m))), (2, .int (nI (a.1)))]) dx_Mo_call_134 rfl (nI_1 _) (by decide) rfl ?_
        refine px_goto dx_Mo_call_137 ?_
        refine px_sub [1, 2, 3, 0] rfl ?_
        have hv : ¬ vdM F k = -1 := by (have hff : ¬ fif F (bgF F k) k 40 0 none = -1 := (fun q => by (rw [q] at c_116; exact absurd c_116 (by decide))); unfold vdM; rw [if_neg hff]; exact hff)
        exact ih (k + 1) true (sI σ1 717 0 2) (by omega) (by omega) hX.c gI_s (by (show true = (ufO F k || _); rw [decide_eq_true hv, Bool.or_true]))
      · have hff : fif F (bgF F k) k 40 0 none = -1 := (fif_cs hW).elim id (fun q => by (obtain ⟨j, hj, e⟩ := q; rw [e] at c_116; exact absurd (Int32.le_iff_toInt_le.mpr (by rw [nI_toInt (by omega)]; exact Int.natCast_nonneg _)) c_116))
        refine px_aload_n dx_Mo_call_119 rfl ?_
        refine px_getR (r := 728) dx_Mo_call_120 fl_Mo_44 rfl (by decide) rfl (hX.1 15) ?_
        refine px_iload dx_Mo_call_123 rfl ?_
        refine px_ialdN (j := k) dx_Mo_call_125 rfl (by decide) (by omega) ?_
        refine px_eqi (y := bfI (vrR F k).2) ((hX.2.2.2.2.2.1 728 (by decide) _).trans ((hP0.2.2.2.1.2.2.2 k (by omega)).2.2.1 hff).2.2) ?_
        refine px_if_lt dx_Mo_call_126 (fun c_126 => ?_) (fun c_126 => ?_)
        · refine px_iinc (v := (nI (k + 1))) (lv' := [(4, .int (nI (k + 1))), (0, .ref (717)), (1, .int (nI (m))), (2, .int (nI (a.1)))]) dx_Mo_call_134 rfl (nI_1 _) (by decide) rfl ?_
          refine px_goto dx_Mo_call_137 ?_
          refine px_sub [1, 2, 3, 0] rfl ?_
          have hv : vdM F k = -1 := by (unfold vdM; rw [if_pos hff]; exact bfI_n (vrR_bt (hW.2.2.2.2.2.2.1 k)) c_126)
          exact ih (k + 1) uf (σ1) (by omega) (by omega) hX hcd (by (show uf = (ufO F k || _); rw [decide_eq_false (fun q => q hv), Bool.or_false]; exact hu))
        · refine px_aload_n dx_Mo_call_129 rfl ?_
          refine px_iconst (v := 2) dx_Mo_call_130 rfl ?_
          refine px_putI dx_Mo_call_131 fl_Mo_86 rfl (by decide) rfl ?_
          refine px_iinc (v := (nI (k + 1))) (lv' := [(4, .int (nI (k + 1))), (0, .ref (717)), (1, .int (nI (m))), (2, .int (nI (a.1)))]) dx_Mo_call_134 rfl (nI_1 _) (by decide) rfl ?_
          refine px_goto dx_Mo_call_137 ?_
          refine px_sub [1, 2, 3, 0] rfl ?_
          have hv : ¬ vdM F k = -1 := by (unfold vdM; rw [if_pos hff]; exact fun q => c_126 (by rw [q]; decide))
          exact ih (k + 1) true (sI σ1 717 0 2) (by omega) (by omega) hX.c gI_s (by (show true = (ufO F k || _); rw [decide_eq_true hv, Bool.or_true]))
theorem suO_f {F : Nat → Nat → Nat} {a : AV} {m k : Nat} (hk : k ≤ a.1) (h : (decide (F 3 m = a.1) && suP F a m k) = false) : suO F a m = false := by
  unfold suO
  cases q1 : decide (F 3 m = a.1) with
  | false => rfl
  | true =>
    rw [q1, Bool.true_and] at h
    have := suP_f h (a.1 - k)
    rw [show k + (a.1 - k) = a.1 by omega] at this
    rw [this]
    rfl

set_option maxRecDepth 100000 in
set_option maxHeartbeats 1000000 in
theorem m_call_l1 {l : Launch} {G : fr_G} {σ : fr_S} {b : Nat → Nat} {n : Nat} {pl : Int32} {F : Nat → Nat → Nat} {a : AV} {A : VM} {σ0 : fr_S} (hP0 : RP σ0 b n pl F (a_0 a) A) (ha3 : a.1 ≤ 3) {m : Nat} (hm : m < F 0 0) {σ1 : fr_S} (hX : MX σ0 σ1 F A) (hcd : gI σ1 717 0 = 0) {Post : Option Value → fr_S → Prop} (hp0 : ∀ r σ', (fun r0 σ' => r0 = none ∧ gI σ' 717 0 = nI (caR F a A m).1 ∧ MX σ0 σ' F (caR F a A m).2) r σ' → Post r σ') : ∀ (d : Nat) (k : Nat) (gd : Bool), a.1 - k < d → k ≤ a.1 → gd = (decide (F 3 m = a.1) && suP F a m k) → PX l G yy_Mo_call rm_Mo_call (QR G false 742 0 0 Post) false 742 0 0 42 [(0, .ref (717)), (1, .int (nI (m))), (2, .int (nI (a.1))), (3, .int (b2i (gd))), (4, .int (nI (k)))] [] (σ1) := by
  intro d
  induction d with
  | zero => intro k gd hd; exact absurd hd (Nat.not_lt_zero _)
  | succ d ih =>
    intro k gd hd hk hg
    have hq0 := hP0.2.2.2.1.2.2.1.2.1 m hm
    have hW := hP0.2.2.2.1.2.1.fw
    have h04 := hW.1
    have h510 := hW.2.2.2.2.2.1 m
    refine px_iload dx_Mo_call_42 rfl ?_
    refine px_iload_n dx_Mo_call_44 rfl ?_
    refine px_icmp_geN (a := k) (b := a.1) dx_Mo_call_45 (by omega) (by omega) (fun c_45 => ?_) (fun c_45 => ?_)
    · have hsf : gd = suO F a m := by (obtain rfl : k = a.1 := (by omega); exact hg)
      refine px_iload_n dx_Mo_call_85 rfl ?_
      refine px_if_neB dx_Mo_call_86 (fun c_86 => ?_) (fun c_86 => ?_)
      · refine px_iconst (v := 0) dx_Mo_call_95 rfl ?_
        refine px_istore (lv' := [(4, .int (0)), (0, .ref (717)), (1, .int (nI (m))), (2, .int (nI (a.1))), (3, .int (b2i (gd)))]) dx_Mo_call_96 (by decide) rfl ?_
        refine px_sub [1, 2, 3, 0] rfl ?_
        exact m_call_l2 (σ := σ0) hP0 ha3 hm (hsf.symm.trans c_86) hp0 (F 0 0 + 1) 0 false _ (by omega) (Nat.zero_le _) hX hcd rfl
      · refine px_aload_n dx_Mo_call_89 rfl ?_
        refine px_iconst (v := 1) dx_Mo_call_90 rfl ?_
        refine px_putI dx_Mo_call_91 fl_Mo_86 rfl (by decide) rfl ?_
        exact px_vret dx_Mo_call_94 rfl (by (have hsu : suO F a m = false := by (rw [← hsf]; exact c_86)); (have e : caR F a A m = (1, A) := by (unfold caR; rw [if_pos hsu])); exact hp0 _ _ ⟨rfl, by rw [e]; exact gI_s, by rw [e]; exact hX.c⟩)
    · refine px_iload_n dx_Mo_call_48 rfl ?_
      refine px_if_eqB dx_Mo_call_49 (fun c_49 => ?_) (fun c_49 => ?_)
      · have hsf : gd = suO F a m := c_49.trans (suO_f (by omega) (c_49 ▸ hg.symm)).symm
        refine px_iload_n dx_Mo_call_85 rfl ?_
        refine px_if_neB dx_Mo_call_86 (fun c_86 => ?_) (fun c_86 => ?_)
        · refine px_iconst (v := 0) dx_Mo_call_95 rfl ?_
          refine px_istore (lv' := [(4, .int (0)), (0, .ref (717)), (1, .int (nI (m))), (2, .int (nI (a.1))), (3, .int (b2i (gd)))]) dx_Mo_call_96 (by decide) rfl ?_
          refine px_sub [1, 2, 3, 0] rfl ?_
          exact m_call_l2 (σ := σ0) hP0 ha3 hm (hsf.symm.trans c_86) hp0 (F 0 0 + 1) 0 false _ (by omega) (Nat.zero_le _) hX hcd rfl
        · refine px_aload_n dx_Mo_call_89 rfl ?_
          refine px_iconst (v := 1) dx_Mo_call_90 rfl ?_
          refine px_putI dx_Mo_call_91 fl_Mo_86 rfl (by decide) rfl ?_
          exact px_vret dx_Mo_call_94 rfl (by (have hsu : suO F a m = false := by (rw [← hsf]; exact c_86)); (have e : caR F a A m = (1, A) := by (unfold caR; rw [if_pos hsu])); exact hp0 _ _ ⟨rfl, by rw [e]; exact gI_s, by rw [e]; exact hX.c⟩)
      · have hg2 := hg.symm.trans c_49
        simp only [Bool.and_eq_true, decide_eq_true_eq] at hg2
        have h33 := hW.2.2.2.1 m
        have h44 := hW.2.2.2.2.1 (3 * m + k)
        have h45 := hP0.2.2.2.2.2.1.2.2.2.1 k
        have h46 : (a_0 a).2.1 k = a.2.1 k := rfl
        refine px_aload_n dx_Mo_call_52 rfl ?_
        refine px_getR (r := 733) dx_Mo_call_53 fl_Mo_60 rfl (by decide) rfl (hX.1 23) ?_
        refine px_iload dx_Mo_call_56 rfl ?_
        refine px_ialdN (j := k) dx_Mo_call_58 rfl (by decide) (by omega) ?_
        refine px_eqi (y := nI (a.2.1 k)) ((hX.2.2.2.2.2.1 733 (by decide) _).trans (hP0.2.2.2.2.2.1.2.2.1 k (by omega))) ?_
        refine px_aload_n dx_Mo_call_59 rfl ?_
        refine px_getR (r := 723) dx_Mo_call_60 fl_Mo_29 rfl (by decide) rfl (hX.1 10) ?_
        refine px_iconst (v := 3) dx_Mo_call_63 rfl ?_
        refine px_iload_n dx_Mo_call_64 rfl ?_
        refine px_imulN (a := 3) (b := m) dx_Mo_call_65 ?_
        refine px_iload dx_Mo_call_66 rfl ?_
        refine px_iaddN (a := 3 * m) (b := k) dx_Mo_call_68 ?_
        refine px_ialdN (j := (3 * m) + k) dx_Mo_call_69 rfl (by decide) (by omega) ?_
        refine px_eqi (y := nI (F 4 ((3 * m) + k))) (hX.2.1.2.2.2.2.1 ((3 * m) + k) (by omega)) ?_
        refine px_icmp_neN (a := a.2.1 k) (b := F 4 ((3 * m) + k)) dx_Mo_call_70 (by omega) (by omega) (fun c_70 => ?_) (fun c_70 => ?_)
        · refine px_iconst (v := 0) dx_Mo_call_77 rfl ?_
          refine px_istore_n (lv' := [(3, .int (0)), (0, .ref (717)), (1, .int (nI (m))), (2, .int (nI (a.1))), (4, .int (nI (k)))]) dx_Mo_call_78 (by decide) rfl ?_
          refine px_iinc (v := (nI (k + 1))) (lv' := [(4, .int (nI (k + 1))), (3, .int (0)), (0, .ref (717)), (1, .int (nI (m))), (2, .int (nI (a.1)))]) dx_Mo_call_79 rfl (nI_1 _) (by decide) rfl ?_
          refine px_goto dx_Mo_call_82 ?_
          refine px_sub [2, 3, 4, 1, 0] rfl ?_
          exact ih (k + 1) false (by omega) (by omega) (by (rw [c_49] at hg; show false = (_ && (suP F a m k && _)); rw [← Bool.and_assoc, ← hg, Bool.true_and]; exact (decide_eq_false c_70).symm))
        · refine px_iconst (v := 1) dx_Mo_call_73 rfl ?_
          refine px_goto dx_Mo_call_74 ?_
          refine px_istore_n (lv' := [(3, .int (1)), (0, .ref (717)), (1, .int (nI (m))), (2, .int (nI (a.1))), (4, .int (nI (k)))]) dx_Mo_call_78 (by decide) rfl ?_
          refine px_iinc (v := (nI (k + 1))) (lv' := [(4, .int (nI (k + 1))), (3, .int (1)), (0, .ref (717)), (1, .int (nI (m))), (2, .int (nI (a.1)))]) dx_Mo_call_79 rfl (nI_1 _) (by decide) rfl ?_
          refine px_goto dx_Mo_call_82 ?_
          refine px_sub [2, 3, 4, 1, 0] rfl ?_
          exact ih (k + 1) true (by omega) (by omega) (by (rw [c_49] at hg; show true = (_ && (suP F a m k && _)); rw [← Bool.and_assoc, ← hg, Bool.true_and]; exact (decide_eq_true c_70).symm))
set_option maxRecDepth 100000 in
set_option maxHeartbeats 1000000 in
theorem m_call_m {l : Launch} {G : fr_G} {σ : fr_S} {b : Nat → Nat} {n : Nat} {pl : Int32} {F : Nat → Nat → Nat} {a : AV} {A : VM} (hP : RP σ b n pl F a A) {m : Nat} (hm : m < F 0 0) : CR l G yy_Mo_call rm_Mo_call [.ref (717), .int (nI (m))] σ (fun r0 σ' => r0 = none ∧ gI σ' 717 0 = nI (caR F a A m).1 ∧ RP σ' b n pl F (a_0 a) (caR F a A m).2 ∧ AgC σ σ') := by
  intro Post hp0
  show PX l G yy_Mo_call rm_Mo_call _ false 742 0 0 0 [(0, .ref (717)), (1, .int (nI (m)))] [] σ
  have hn220 := hP.1.2.1
  have hW := hP.2.2.2.1.2.1.fw
  have h04 := hW.1
  have h14 := hW.2.1
  have hb0 := hP.2.2.2.2.2.2.2.1
  have hb1 := hP.2.2.2.2.2.2.2.2.1
  have hb4 := hP.2.2.2.2.2.2.2.2.2.2.2
  have ha3 := hP.2.2.2.2.2.1.2.1
  have h33 := hW.2.2.2.1 m
  refine px_aload_n dx_Mo_call_0 rfl ?_
  refine px_iconst (v := 0) dx_Mo_call_1 rfl ?_
  refine px_putI dx_Mo_call_2 fl_Mo_86 rfl (by decide) rfl ?_
  refine px_aload_n dx_Mo_call_5 rfl ?_
  refine px_getI dx_Mo_call_6 fl_Mo_298 rfl (by decide) rfl ?_
  refine px_eqi (y := nI (a.1)) (Eq.trans (gI_n (Or.inr (by decide))) hP.2.2.2.2.2.1.1) ?_
  refine px_istore_n (lv' := [(2, .int (nI (a.1))), (0, .ref (717)), (1, .int (nI (m)))]) dx_Mo_call_9 (by decide) rfl ?_
  refine px_aload_n dx_Mo_call_10 rfl ?_
  refine px_iconst (v := 0) dx_Mo_call_11 rfl ?_
  refine px_putI dx_Mo_call_12 fl_Mo_298 rfl (by decide) rfl ?_
  refine px_aload_n dx_Mo_call_15 rfl ?_
  refine px_iload_n dx_Mo_call_16 rfl ?_
  refine px_cV (Y := yy_Mo_call) (Yc := yy_Mo_isMethod) (b := 717) (As := [.int (nI (m))]) dx_Mo_call_17 ml_Mo_295 mv_Mo_isMethod np_Mo_isMethod ⟨_, rfl⟩ (by decide) rfl (by decide) rfl (Nat.le_of_ble_eq_true rfl) (Nat.le_of_ble_eq_true rfl) rk_Mo_call_Mo_isMethod rfl (m_isMethod (σ := sI (sI σ 717 0 0) 717 22 0) (n := n) (b := b) (pl := pl) (F := F) (a := a_0 a) (A := A) hP.c.a0) zz_0 ?_
  refine px_if_eqB dx_Mo_call_20 (fun c_20 => ?_) (fun c_20 => ?_)
  · refine px_iconst (v := 0) dx_Mo_call_37 rfl ?_
    refine px_istore_n (lv' := [(3, .int (0)), (2, .int (nI (a.1))), (0, .ref (717)), (1, .int (nI (m)))]) dx_Mo_call_38 (by decide) rfl ?_
    refine px_iconst (v := 0) dx_Mo_call_39 rfl ?_
    refine px_istore (lv' := [(4, .int (0)), (3, .int (0)), (2, .int (nI (a.1))), (0, .ref (717)), (1, .int (nI (m)))]) dx_Mo_call_40 (by decide) rfl ?_
    exact absurd c_20 (by rw [im_nI h04 hm]; decide)
  · refine px_aload_n dx_Mo_call_23 rfl ?_
    refine px_getR (r := 722) dx_Mo_call_24 fl_Mo_26 rfl (by decide) rfl (hP.2.1 9) ?_
    refine px_iload_n dx_Mo_call_27 rfl ?_
    refine px_ialdN (j := m) dx_Mo_call_28 rfl (by decide) (by omega) ?_
    refine px_eqi (y := nI (F 3 m)) (Eq.trans (gI_n (Or.inl (by decide))) (Eq.trans (gI_n (Or.inl (by decide))) (hP.2.2.2.1.1 3 m (by decide) (by first | decide | (show _ < 8; omega))))) ?_
    refine px_iload_n dx_Mo_call_29 rfl ?_
    refine px_icmp_neN (a := F 3 m) (b := a.1) dx_Mo_call_30 (by omega) (by omega) (fun c_30 => ?_) (fun c_30 => ?_)
    · refine px_iconst (v := 0) dx_Mo_call_37 rfl ?_
      refine px_istore_n (lv' := [(3, .int (0)), (2, .int (nI (a.1))), (0, .ref (717)), (1, .int (nI (m)))]) dx_Mo_call_38 (by decide) rfl ?_
      refine px_iconst (v := 0) dx_Mo_call_39 rfl ?_
      refine px_istore (lv' := [(4, .int (0)), (3, .int (0)), (2, .int (nI (a.1))), (0, .ref (717)), (1, .int (nI (m)))]) dx_Mo_call_40 (by decide) rfl ?_
      refine px_sub [3, 4, 2, 1, 0] rfl ?_
      exact m_call_l1 (σ := σ) hP.c.a0 ha3 hm hP.c.a0.mx ((gI_n (Or.inr (by decide))).trans gI_s) (fun r σ' h => hp0 r σ' ⟨h.1, h.2.1, hP.c.a0.mv h.2.2, (((AgC.rf).i (by decide)).i (by decide)).tr (AgC.m h.2.2.2.2.2.2.2)⟩) (a.1 + 1) 0 false (by omega) (Nat.zero_le _) (by (show false = (_ && true); rw [Bool.and_true, decide_eq_false c_30]))
    · refine px_iconst (v := 1) dx_Mo_call_33 rfl ?_
      refine px_goto dx_Mo_call_34 ?_
      refine px_istore_n (lv' := [(3, .int (1)), (2, .int (nI (a.1))), (0, .ref (717)), (1, .int (nI (m)))]) dx_Mo_call_38 (by decide) rfl ?_
      refine px_iconst (v := 0) dx_Mo_call_39 rfl ?_
      refine px_istore (lv' := [(4, .int (0)), (3, .int (1)), (2, .int (nI (a.1))), (0, .ref (717)), (1, .int (nI (m)))]) dx_Mo_call_40 (by decide) rfl ?_
      refine px_sub [3, 4, 2, 1, 0] rfl ?_
      exact m_call_l1 (σ := σ) hP.c.a0 ha3 hm hP.c.a0.mx ((gI_n (Or.inr (by decide))).trans gI_s) (fun r σ' h => hp0 r σ' ⟨h.1, h.2.1, hP.c.a0.mv h.2.2, (((AgC.rf).i (by decide)).i (by decide)).tr (AgC.m h.2.2.2.2.2.2.2)⟩) (a.1 + 1) 0 true (by omega) (Nat.zero_le _) (by (show true = (_ && true); rw [Bool.and_true, decide_eq_true c_30]))
set_option maxRecDepth 100000 in
set_option maxHeartbeats 1000000 in
theorem m_call_n {l : Launch} {G : fr_G} {σ : fr_S} {b : Nat → Nat} {n : Nat} {pl : Int32} {F : Nat → Nat → Nat} {a : AV} {A : VM} (hP : RP σ b n pl F a A) {x : Int32} (hx : imO F x = false) : CR l G yy_Mo_call rm_Mo_call [.ref (717), .int (x)] σ (fun r0 σ' => r0 = none ∧ gI σ' 717 0 = 1 ∧ RP σ' b n pl F (a_0 a) A ∧ AgC σ σ') := by
  intro Post hp0
  show PX l G yy_Mo_call rm_Mo_call _ false 742 0 0 0 [(0, .ref (717)), (1, .int (x))] [] σ
  have hn220 := hP.1.2.1
  have hW := hP.2.2.2.1.2.1.fw
  have h04 := hW.1
  have h14 := hW.2.1
  have hb0 := hP.2.2.2.2.2.2.2.1
  have hb1 := hP.2.2.2.2.2.2.2.2.1
  have hb4 := hP.2.2.2.2.2.2.2.2.2.2.2
  have ha3 := hP.2.2.2.2.2.1.2.1
  refine px_aload_n dx_Mo_call_0 rfl ?_
  refine px_iconst (v := 0) dx_Mo_call_1 rfl ?_
  refine px_putI dx_Mo_call_2 fl_Mo_86 rfl (by decide) rfl ?_
  refine px_aload_n dx_Mo_call_5 rfl ?_
  refine px_getI dx_Mo_call_6 fl_Mo_298 rfl (by decide) rfl ?_
  refine px_eqi (y := nI (a.1)) (Eq.trans (gI_n (Or.inr (by decide))) hP.2.2.2.2.2.1.1) ?_
  refine px_istore_n (lv' := [(2, .int (nI (a.1))), (0, .ref (717)), (1, .int (x))]) dx_Mo_call_9 (by decide) rfl ?_
  refine px_aload_n dx_Mo_call_10 rfl ?_
  refine px_iconst (v := 0) dx_Mo_call_11 rfl ?_
  refine px_putI dx_Mo_call_12 fl_Mo_298 rfl (by decide) rfl ?_
  refine px_aload_n dx_Mo_call_15 rfl ?_
  refine px_iload_n dx_Mo_call_16 rfl ?_
  refine px_cV (Y := yy_Mo_call) (Yc := yy_Mo_isMethod) (b := 717) (As := [.int (x)]) dx_Mo_call_17 ml_Mo_295 mv_Mo_isMethod np_Mo_isMethod ⟨_, rfl⟩ (by decide) rfl (by decide) rfl (Nat.le_of_ble_eq_true rfl) (Nat.le_of_ble_eq_true rfl) rk_Mo_call_Mo_isMethod rfl (m_isMethod (σ := sI (sI σ 717 0 0) 717 22 0) (n := n) (b := b) (pl := pl) (F := F) (a := a_0 a) (A := A) hP.c.a0) zz_0 ?_
  refine px_if_eqB dx_Mo_call_20 (fun c_20 => ?_) (fun c_20 => ?_)
  · refine px_iconst (v := 0) dx_Mo_call_37 rfl ?_
    refine px_istore_n (lv' := [(3, .int (0)), (2, .int (nI (a.1))), (0, .ref (717)), (1, .int (x))]) dx_Mo_call_38 (by decide) rfl ?_
    refine px_iconst (v := 0) dx_Mo_call_39 rfl ?_
    refine px_istore (lv' := [(4, .int (0)), (3, .int (0)), (2, .int (nI (a.1))), (0, .ref (717)), (1, .int (x))]) dx_Mo_call_40 (by decide) rfl ?_
    refine px_iload dx_Mo_call_42 rfl ?_
    refine px_iload_n dx_Mo_call_44 rfl ?_
    refine px_icmp_geN (a := 0) (b := a.1) dx_Mo_call_45 (by omega) (by omega) (fun c_45 => ?_) (fun c_45 => ?_)
    · refine px_iload_n dx_Mo_call_85 rfl ?_
      refine px_if_ne dx_Mo_call_86 (fun q => absurd q (by decide)) (fun _ => ?_)
      refine px_aload_n dx_Mo_call_89 rfl ?_
      refine px_iconst (v := 1) dx_Mo_call_90 rfl ?_
      refine px_putI dx_Mo_call_91 fl_Mo_86 rfl (by decide) rfl ?_
      exact px_vret dx_Mo_call_94 rfl (by exact hp0 _ _ ⟨rfl, gI_s, hP.c.a0.c, (((AgC.rf).i (by decide)).i (by decide)).i (by decide)⟩)
    · refine px_iload_n dx_Mo_call_48 rfl ?_
      refine px_if_eq dx_Mo_call_49 (fun _ => ?_) (fun q => absurd (by decide) q)
      refine px_iload_n dx_Mo_call_85 rfl ?_
      refine px_if_ne dx_Mo_call_86 (fun q => absurd q (by decide)) (fun _ => ?_)
      refine px_aload_n dx_Mo_call_89 rfl ?_
      refine px_iconst (v := 1) dx_Mo_call_90 rfl ?_
      refine px_putI dx_Mo_call_91 fl_Mo_86 rfl (by decide) rfl ?_
      exact px_vret dx_Mo_call_94 rfl (by exact hp0 _ _ ⟨rfl, gI_s, hP.c.a0.c, (((AgC.rf).i (by decide)).i (by decide)).i (by decide)⟩)
  · exact absurd (hx.symm.trans c_20) (by decide)
