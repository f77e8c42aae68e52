/-! the reference: the form of instructions -/
def sw (pt : Nat → Nat) : Nat → Nat
  | 0 => 0
  | k + 1 => sw pt k + wdt (pt k)
theorem wdt_le (t : Nat) : wdt t ≤ 2 := by unfold wdt; split <;> decide
theorem sw_le (pt : Nat → Nat) : ∀ k, sw pt k ≤ 2 * k
  | 0 => Nat.le_refl _
  | k + 1 => by have := sw_le pt k; have := wdt_le (pt k); show sw pt k + wdt (pt k) ≤ _; omega
/-- the file as the reference holds it: F 0 0 methods, F 1 0 fields, F 2 returns, F 3 parameters' numbers, F 4 (3 m + k) their types, F 5 registers, F 6 units' numbers, F 7 (40 m + k) units -/
def MF (σ : fr_S) (F : Nat → Nat → Nat) : Prop := gI σ 719 0 = nI (F 0 0) ∧ gI σ 720 0 = nI (F 1 0) ∧ (∀ m, m < 4 → gI σ 721 m = nI (F 2 m)) ∧ (∀ m, m < 4 → gI σ 722 m = nI (F 3 m)) ∧ (∀ k, k < 12 → gI σ 723 k = nI (F 4 k)) ∧ (∀ m, m < 4 → gI σ 724 m = nI (F 5 m)) ∧ (∀ m, m < 4 → gI σ 725 m = nI (F 6 m)) ∧ (∀ j, j < 320 → gI σ 726 j = nI (F 7 j))
def FW (F : Nat → Nat → Nat) : Prop := F 0 0 ≤ 4 ∧ F 1 0 ≤ 4 ∧ (∀ m, F 2 m ≤ 4) ∧ (∀ m, F 3 m ≤ 3) ∧ (∀ k, F 4 k ≤ 4) ∧ (∀ m, F 5 m ≤ 10) ∧ (∀ m, F 6 m ≤ 40) ∧ (∀ j, F 7 j < 65536)

set_option maxRecDepth 100000 in
set_option maxHeartbeats 4000000 in
theorem m_paramWords_lp {l : Launch} {G : fr_G} {σ : fr_S} (hM : MR σ) {m np : Nat} {pt : Nat → Nat} (hm : m < 8) (hn : np ≤ 3) (h1 : gI σ 722 m = nI np) (h2 : ∀ k, k < np → gI σ 723 (3 * m + k) = nI (pt k)) (h3 : ∀ k, pt k < 256) {Post : Option Value → fr_S → Prop} (hp : Post (some (.int (nI (sw pt np)))) σ) : ∀ (d : Nat) (j : Nat), np - j < d → j ≤ np → PX l G yy_Mo_paramWords rm_Mo_paramWords (QR G false 742 0 0 Post) false 742 0 0 4 [(0, .ref (717)), (1, .int (nI (m))), (2, .int (nI (sw pt j))), (3, .int (nI (j)))] [] (σ) := by
  intro d
  induction d with
  | zero => intro j hd; exact absurd hd (Nat.not_lt_zero _)
  | succ d ih =>
    intro j hd hj
    have hs := sw_le pt j
    refine px_iload_n dx_Mo_paramWords_4 rfl ?_
    refine px_aload_n dx_Mo_paramWords_5 rfl ?_
    refine px_getR (r := 722) dx_Mo_paramWords_6 fl_Mo_26 rfl (by decide) rfl (hM 9) ?_
    refine px_iload_n dx_Mo_paramWords_9 rfl ?_
    refine px_ialdN (j := m) dx_Mo_paramWords_10 rfl (by decide) (by omega) ?_
    refine px_eqi (y := nI (np)) h1 ?_
    refine px_icmp_geN (a := j) (b := np) dx_Mo_paramWords_11 (by omega) (by omega) (fun c_11 => ?_) (fun c_11 => ?_)
    · refine px_iload_n dx_Mo_paramWords_36 rfl ?_
      exact px_iret dx_Mo_paramWords_37 rfl (by (have e : j = np := by omega); rw [e]; exact hp)
    · refine px_iload_n dx_Mo_paramWords_14 rfl ?_
      refine px_aload_n dx_Mo_paramWords_15 rfl ?_
      refine px_getR (r := 723) dx_Mo_paramWords_16 fl_Mo_29 rfl (by decide) rfl (hM 10) ?_
      refine px_iconst (v := 3) dx_Mo_paramWords_19 rfl ?_
      refine px_iload_n dx_Mo_paramWords_20 rfl ?_
      refine px_imulN (a := 3) (b := m) dx_Mo_paramWords_21 ?_
      refine px_iload_n dx_Mo_paramWords_22 rfl ?_
      refine px_iaddN (a := 3 * m) (b := j) dx_Mo_paramWords_23 ?_
      refine px_ialdN (j := (3 * m) + j) dx_Mo_paramWords_24 rfl (by decide) (by omega) ?_
      refine px_eqi (y := nI (pt j)) (h2 j (by omega)) ?_
      refine px_cS (Y := yy_Mo_paramWords) (Yc := yy_Mo_words) (As := [.int (nI (pt j))]) dx_Mo_paramWords_25 ml_Mo_99 ms_Mo_words np_Mo_words rfl (Nat.le_of_ble_eq_true rfl) (Nat.le_of_ble_eq_true rfl) rk_Mo_paramWords_Mo_words rfl (m_words (h3 _)) zz_0 ?_
      refine px_iaddN (a := sw pt j) (b := wdt (pt j)) dx_Mo_paramWords_28 ?_
      refine px_istore_n (lv' := [(2, .int (nI ((sw pt j) + (wdt (pt j))))), (0, .ref (717)), (1, .int (nI (m))), (3, .int (nI (j)))]) dx_Mo_paramWords_29 (by decide) rfl ?_
      refine px_iinc (v := (nI (j + 1))) (lv' := [(3, .int (nI (j + 1))), (2, .int (nI ((sw pt j) + (wdt (pt j))))), (0, .ref (717)), (1, .int (nI (m)))]) dx_Mo_paramWords_30 rfl (nI_1 _) (by decide) rfl ?_
      refine px_goto dx_Mo_paramWords_33 ?_
      refine px_sub [2, 3, 1, 0] rfl ?_
      exact ih (j + 1) (by omega) (by omega)
set_option maxRecDepth 100000 in
set_option maxHeartbeats 4000000 in
theorem m_paramWords {l : Launch} {G : fr_G} {σ : fr_S} (hM : MR σ) {m np : Nat} {pt : Nat → Nat} (hm : m < 8) (hn : np ≤ 3) (h1 : gI σ 722 m = nI np) (h2 : ∀ k, k < np → gI σ 723 (3 * m + k) = nI (pt k)) (h3 : ∀ k, pt k < 256) : CT l G yy_Mo_paramWords rm_Mo_paramWords [.ref (717), .int (nI (m))] σ (some (.int (nI (sw pt np)))) (σ) := by
  intro Post hp0
  have hp := hp0
  show PX l G yy_Mo_paramWords rm_Mo_paramWords _ false 742 0 0 0 [(0, .ref (717)), (1, .int (nI (m)))] [] σ
  refine px_iconst (v := 0) dx_Mo_paramWords_0 rfl ?_
  refine px_istore_n (lv' := [(2, .int (0)), (0, .ref (717)), (1, .int (nI (m)))]) dx_Mo_paramWords_1 (by decide) rfl ?_
  refine px_iconst (v := 0) dx_Mo_paramWords_2 rfl ?_
  refine px_istore_n (lv' := [(3, .int (0)), (2, .int (0)), (0, .ref (717)), (1, .int (nI (m)))]) dx_Mo_paramWords_3 (by decide) rfl ?_
  refine px_sub [2, 3, 1, 0] rfl ?_
  exact m_paramWords_lp hM hm hn h1 h2 h3 hp (np + 1) 0 (by omega) (by omega)
theorem m_number_p {l : Launch} {G : fr_G} {σ : fr_S} (hM : MR σ) {m p w : Nat} (h : 40 * m + (p + 1) < 320) (hw : gI σ 726 (40 * m + (p + 1)) = nI w) (hw2 : w < 65536) (hn : w ≤ 32767) : CT l G yy_Mo_number rm_Mo_number [.ref 717, .int (nI m), .int (nI p)] σ (some (.int (nI w))) σ := by
  have := m_number (l := l) (G := G) hM h hw hw2
  rwa [nmI_p hn] at this

def pwF (F : Nat → Nat → Nat) (c : Nat) : Nat := sw (fun k => F 4 (3 * c + k)) (F 3 c)
def hsR (F : Nat → Nat → Nat) (m r t : Nat) : Bool := decide (r + wdt t ≤ F 5 m)
theorem pwF_le {F : Nat → Nat → Nat} (hW : FW F) (c : Nat) : pwF F c ≤ 6 := by
  have h := sw_le (fun k => F 4 (3 * c + k)) (F 3 c)
  have := hW.2.2.2.1 c
  unfold pwF
  omega
theorem opS_lt (w : Nat) : opS w < 256 := Nat.mod_lt _ (by decide)
theorem opA_lt (w : Nat) : opA w < 16 := Nat.mod_lt _ (by decide)
theorem opB_lt {w : Nat} (h : w < 65536) : opB w < 16 := by unfold opB; omega
theorem opN_lt {w : Nat} (h : w < 65536) : opN w < 256 := by unfold opN; omega
theorem agW_lt (w k : Nat) : agW w k < 16 := Nat.mod_lt _ (by decide)

set_option maxRecDepth 100000 in
set_option maxHeartbeats 4000000 in
theorem m_has {l : Launch} {G : fr_G} {σ : fr_S} (hM : MR σ) {F : Nat → Nat → Nat} (hF : MF σ F) (hW : FW F) {m r t : Nat} (hm : m < 4) (hr : r < 100000) (ht : t < 256) : CT l G yy_Mo_has rm_Mo_has [.ref (717), .int (nI (m)), .int (nI (r)), .int (nI (t))] σ (some (.int (b2i (hsR F m r t)))) (σ) := by
  intro Post hp0
  have hp := hp0
  show PX l G yy_Mo_has rm_Mo_has _ false 742 0 0 0 [(0, .ref (717)), (1, .int (nI (m))), (2, .int (nI (r))), (3, .int (nI (t)))] [] σ
  refine px_iload_n dx_Mo_has_0 rfl ?_
  refine px_iload_n dx_Mo_has_1 rfl ?_
  refine px_cS (Y := yy_Mo_has) (Yc := yy_Mo_words) (As := [.int (nI (t))]) dx_Mo_has_2 ml_Mo_99 ms_Mo_words np_Mo_words rfl (Nat.le_of_ble_eq_true rfl) (Nat.le_of_ble_eq_true rfl) rk_Mo_has_Mo_words rfl (m_words (ht)) zz_0 ?_
  refine px_iaddN (a := r) (b := wdt (t)) dx_Mo_has_5 ?_
  refine px_aload_n dx_Mo_has_6 rfl ?_
  refine px_getR (r := 724) dx_Mo_has_7 fl_Mo_32 rfl (by decide) rfl (hM 11) ?_
  refine px_iload_n dx_Mo_has_10 rfl ?_
  refine px_ialdN (j := m) dx_Mo_has_11 rfl (by decide) (by omega) ?_
  refine px_eqi (y := nI (F 5 m)) (hF.2.2.2.2.2.1 m (by omega)) ?_
  refine px_icmp_gtN (a := r + (wdt (t))) (b := F 5 m) dx_Mo_has_12 (by (have := wdt_le t; have := hW.2.2.2.2.2.1 m; omega)) (by (have := wdt_le t; have := hW.2.2.2.2.2.1 m; omega)) (fun c_12 => ?_) (fun c_12 => ?_)
  · refine px_iconst (v := 0) dx_Mo_has_19 rfl ?_
    exact px_zret dx_Mo_has_20 rfl (by decide) (by (have e : hsR F m r t = false := by (simp only [hsR, decide_eq_true_eq, decide_eq_false_iff_not]; omega)); rw [e] at hp; exact hp)
  · refine px_iconst (v := 1) dx_Mo_has_15 rfl ?_
    refine px_goto dx_Mo_has_16 ?_
    exact px_zret dx_Mo_has_20 rfl (by decide) (by (have e : hsR F m r t = true := by (simp only [hsR, decide_eq_true_eq, decide_eq_false_iff_not]; omega)); rw [e] at hp; exact hp)
set_option maxRecDepth 100000 in
set_option maxHeartbeats 4000000 in
theorem m_argument {l : Launch} {G : fr_G} {σ : fr_S} (hM : MR σ) {F : Nat → Nat → Nat} (hF : MF σ F) (hW : FW F) {m p k : Nat} (hm : m < 4) (hpl : p < 40) (hk : k < 8) : CT l G yy_Mo_argument rm_Mo_argument [.ref (717), .int (nI (m)), .int (nI (p)), .int (nI (k))] σ (some (.int (nI (agW (F 7 (40 * m + (p + 2))) k)))) (σ) := by
  intro Post hp0
  have hp := hp0
  show PX l G yy_Mo_argument rm_Mo_argument _ false 742 0 0 0 [(0, .ref (717)), (1, .int (nI (m))), (2, .int (nI (p))), (3, .int (nI (k)))] [] σ
  refine px_aload_n dx_Mo_argument_0 rfl ?_
  refine px_iload_n dx_Mo_argument_1 rfl ?_
  refine px_iload_n dx_Mo_argument_2 rfl ?_
  refine px_iconst (v := 2) dx_Mo_argument_3 rfl ?_
  refine px_iaddN (a := p) (b := 2) dx_Mo_argument_4 ?_
  refine px_cV (Y := yy_Mo_argument) (Yc := yy_Mo_unit) (b := 717) (As := [.int (nI (m)), .int (nI (p + 2))]) dx_Mo_argument_5 ml_Mo_159 mv_Mo_unit np_Mo_unit ⟨_, rfl⟩ (by decide) rfl (by decide) rfl (Nat.le_of_ble_eq_true rfl) (Nat.le_of_ble_eq_true rfl) rk_Mo_argument_Mo_unit rfl (m_unit hM (by omega) (hF.2.2.2.2.2.2.2 (40 * m + (p + 2)) (by omega))) zz_0 ?_
  refine px_iconst (v := 4) dx_Mo_argument_8 rfl ?_
  refine px_iload_n dx_Mo_argument_9 rfl ?_
  refine px_imulN (a := 4) (b := k) dx_Mo_argument_10 ?_
  refine px_ishrV (a := F 7 (40 * m + (p + 2))) (w := 4 * k) dx_Mo_argument_11 (by (have := hW.2.2.2.2.2.2.2 (40 * m + (p + 2)); omega)) (by omega) ?_
  refine px_bipush (v := 15) dx_Mo_argument_12 rfl ?_
  refine px_iandN (a := (F 7 (40 * m + (p + 2))) / 2 ^ (4 * k)) (w := 4) dx_Mo_argument_14 (by (have := hW.2.2.2.2.2.2.2 (40 * m + (p + 2)); exact Nat.lt_of_le_of_lt (Nat.div_le_self _ _) (by omega))) rfl ?_
  exact px_iret dx_Mo_argument_15 rfl (by exact hp)
def agK (F : Nat → Nat → Nat) (c j : Nat) : Nat := sw (fun k => F 4 (3 * c + k)) j
/-- the registers that a 113 names, up to the j-th parameter -/
def agOK (F : Nat → Nat → Nat) (m c w2 : Nat) : Nat → Bool
  | 0 => true
  | j + 1 => (agOK F m c w2 j && hsR F m (agW w2 (agK F c j)) (F 4 (3 * c + j))) && (decide (¬ wdt (F 4 (3 * c + j)) = 2) || decide (agW w2 (agK F c j + 1) = agW w2 (agK F c j) + 1))
def agT (F : Nat → Nat → Nat) (m p : Nat) : Bool := decide (F 7 (40 * m + (p + 1)) < F 0 0) && (decide (opB (F 7 (40 * m + p)) ≤ 4 ∧ opB (F 7 (40 * m + p)) = pwF F (F 7 (40 * m + (p + 1)))) && agOK F m (F 7 (40 * m + (p + 1))) (F 7 (40 * m + (p + 2))) (F 3 (F 7 (40 * m + (p + 1)))))
theorem agK_le (F : Nat → Nat → Nat) (c : Nat) : ∀ j, agK F c j ≤ 2 * j := fun j => sw_le _ j
theorem agK_s (F : Nat → Nat → Nat) (c j : Nat) : agK F c (j + 1) = agK F c j + wdt (F 4 (3 * c + j)) := rfl
theorem agK_mono (F : Nat → Nat → Nat) (c : Nat) : ∀ i j, i ≤ j → agK F c i ≤ agK F c j := by
  intro i j h
  induction h with
  | refl => exact Nat.le_refl _
  | step _ ih => exact Nat.le_trans ih (by rw [agK_s]; omega)

set_option maxRecDepth 100000 in
set_option maxHeartbeats 4000000 in
theorem m_argumentsThere_lp {l : Launch} {G : fr_G} {σ : fr_S} (hM : MR σ) {F : Nat → Nat → Nat} (hF : MF σ F) (hW : FW F) {m p c : Nat} (hm : m < 4) (hpl : p < 40) (hc : c < F 0 0) {b : Nat} {Post : Option Value → fr_S → Prop} (hq : Post (some (.int (b2i (agOK F m c (F 7 (40 * m + (p + 2))) (F 3 c))))) σ) : ∀ (d : Nat) (j : Nat) (gb : Bool), F 3 c - j < d → j ≤ F 3 c → gb = agOK F m c (F 7 (40 * m + (p + 2))) j → PX l G yy_Mo_argumentsThere rm_Mo_argumentsThere (QR G false 742 0 0 Post) false 742 0 0 58 [(0, .ref (717)), (1, .int (nI (m))), (2, .int (nI (p))), (3, .int (nI (c))), (4, .int (nI (b))), (5, .int (nI (agK F c j))), (6, .int (b2i (gb))), (7, .int (nI (j)))] [] (σ) := by
  intro d
  induction d with
  | zero => intro j gb hd; exact absurd hd (Nat.not_lt_zero _)
  | succ d ih =>
    intro j gb hd hj hg
    have hc4 := hW.1
    have h3 := hW.2.2.2.1 c
    have hk := agK_le F c j
    refine px_iload dx_Mo_argumentsThere_58 rfl ?_
    refine px_aload_n dx_Mo_argumentsThere_60 rfl ?_
    refine px_getR (r := 722) dx_Mo_argumentsThere_61 fl_Mo_26 rfl (by decide) rfl (hM 9) ?_
    refine px_iload_n dx_Mo_argumentsThere_64 rfl ?_
    refine px_ialdN (j := c) dx_Mo_argumentsThere_65 rfl (by decide) (by omega) ?_
    refine px_eqi (y := nI (F 3 c)) (hF.2.2.2.1 c (by omega)) ?_
    refine px_icmp_geN (a := j) (b := F 3 c) dx_Mo_argumentsThere_66 (by first | omega | (have := agW_lt (F 7 (40 * m + (p + 2))) (agK F c j); have := agW_lt (F 7 (40 * m + (p + 2))) (agK F c j + 1); omega) | (have := wdt_le (F 4 (3 * c + j)); omega)) (by first | omega | (have := agW_lt (F 7 (40 * m + (p + 2))) (agK F c j); have := agW_lt (F 7 (40 * m + (p + 2))) (agK F c j + 1); omega) | (have := wdt_le (F 4 (3 * c + j)); omega)) (fun c_66 => ?_) (fun c_66 => ?_)
    · refine px_iload dx_Mo_argumentsThere_172 rfl ?_
      exact px_zret dx_Mo_argumentsThere_174 rfl (b2i_01 _) (by (have e : j = F 3 c := by omega); subst e; rw [hg]; exact hq)
    · refine px_aload_n dx_Mo_argumentsThere_69 rfl ?_
      refine px_getR (r := 723) dx_Mo_argumentsThere_70 fl_Mo_29 rfl (by decide) rfl (hM 10) ?_
      refine px_iconst (v := 3) dx_Mo_argumentsThere_73 rfl ?_
      refine px_iload_n dx_Mo_argumentsThere_74 rfl ?_
      refine px_imulN (a := 3) (b := c) dx_Mo_argumentsThere_75 ?_
      refine px_iload dx_Mo_argumentsThere_76 rfl ?_
      refine px_iaddN (a := 3 * c) (b := j) dx_Mo_argumentsThere_78 ?_
      refine px_ialdN (j := (3 * c) + j) dx_Mo_argumentsThere_79 rfl (by decide) (by omega) ?_
      refine px_eqi (y := nI (F 4 ((3 * c) + j))) (hF.2.2.2.2.1 ((3 * c) + j) (by omega)) ?_
      refine px_istore (lv' := [(8, .int (nI (F 4 ((3 * c) + j)))), (0, .ref (717)), (1, .int (nI (m))), (2, .int (nI (p))), (3, .int (nI (c))), (4, .int (nI (b))), (5, .int (nI (agK F c j))), (6, .int (b2i (gb))), (7, .int (nI (j)))]) dx_Mo_argumentsThere_80 (by decide) rfl ?_
      refine px_iload dx_Mo_argumentsThere_82 rfl ?_
      refine px_if_eqB dx_Mo_argumentsThere_84 (fun c_84 => ?_) (fun c_84 => ?_)
      · refine px_iconst (v := 0) dx_Mo_argumentsThere_109 rfl ?_
        refine px_istore (lv' := [(6, .int (0)), (8, .int (nI (F 4 ((3 * c) + j)))), (0, .ref (717)), (1, .int (nI (m))), (2, .int (nI (p))), (3, .int (nI (c))), (4, .int (nI (b))), (5, .int (nI (agK F c j))), (7, .int (nI (j)))]) dx_Mo_argumentsThere_110 (by decide) rfl ?_
        refine px_iload dx_Mo_argumentsThere_112 rfl ?_
        refine px_cS (Y := yy_Mo_argumentsThere) (Yc := yy_Mo_words) (As := [.int (nI (F 4 ((3 * c) + j)))]) dx_Mo_argumentsThere_114 ml_Mo_99 ms_Mo_words np_Mo_words rfl (Nat.le_of_ble_eq_true rfl) (Nat.le_of_ble_eq_true rfl) rk_Mo_argumentsThere_Mo_words rfl (m_words (Nat.lt_of_le_of_lt (hW.2.2.2.2.1 _) (by decide))) zz_0 ?_
        refine px_iconst (v := 2) dx_Mo_argumentsThere_117 rfl ?_
        refine px_icmp_neN (a := wdt (F 4 ((3 * c) + j))) (b := 2) dx_Mo_argumentsThere_118 (by first | omega | (have := agW_lt (F 7 (40 * m + (p + 2))) (agK F c j); have := agW_lt (F 7 (40 * m + (p + 2))) (agK F c j + 1); omega) | (have := wdt_le (F 4 (3 * c + j)); omega)) (by first | omega | (have := agW_lt (F 7 (40 * m + (p + 2))) (agK F c j); have := agW_lt (F 7 (40 * m + (p + 2))) (agK F c j + 1); omega) | (have := wdt_le (F 4 (3 * c + j)); omega)) (fun c_118 => ?_) (fun c_118 => ?_)
        · refine px_iload dx_Mo_argumentsThere_156 rfl ?_
          refine px_iload dx_Mo_argumentsThere_158 rfl ?_
          refine px_cS (Y := yy_Mo_argumentsThere) (Yc := yy_Mo_words) (As := [.int (nI (F 4 ((3 * c) + j)))]) dx_Mo_argumentsThere_160 ml_Mo_99 ms_Mo_words np_Mo_words rfl (Nat.le_of_ble_eq_true rfl) (Nat.le_of_ble_eq_true rfl) rk_Mo_argumentsThere_Mo_words rfl (m_words (Nat.lt_of_le_of_lt (hW.2.2.2.2.1 _) (by decide))) zz_0 ?_
          refine px_iaddN (a := agK F c j) (b := wdt (F 4 ((3 * c) + j))) dx_Mo_argumentsThere_163 ?_
          refine px_istore (lv' := [(5, .int (nI ((agK F c j) + (wdt (F 4 ((3 * c) + j)))))), (6, .int (0)), (8, .int (nI (F 4 ((3 * c) + j)))), (0, .ref (717)), (1, .int (nI (m))), (2, .int (nI (p))), (3, .int (nI (c))), (4, .int (nI (b))), (7, .int (nI (j)))]) dx_Mo_argumentsThere_164 (by decide) rfl ?_
          refine px_iinc (v := (nI (j + 1))) (lv' := [(7, .int (nI (j + 1))), (5, .int (nI ((agK F c j) + (wdt (F 4 ((3 * c) + j)))))), (6, .int (0)), (8, .int (nI (F 4 ((3 * c) + j)))), (0, .ref (717)), (1, .int (nI (m))), (2, .int (nI (p))), (3, .int (nI (c))), (4, .int (nI (b)))]) dx_Mo_argumentsThere_166 rfl (nI_1 _) (by decide) rfl ?_
          refine px_goto dx_Mo_argumentsThere_169 ?_
          refine px_sub [4, 5, 6, 7, 8, 1, 2, 0] rfl ?_
          exact ih (j + 1) (false) (by omega) (by omega) (by simp only [agOK]; simp_all)
        · refine px_iload dx_Mo_argumentsThere_121 rfl ?_
          refine px_if_eq dx_Mo_argumentsThere_123 (fun _ => ?_) (fun q => absurd (by decide) q)
          refine px_iconst (v := 0) dx_Mo_argumentsThere_153 rfl ?_
          refine px_istore (lv' := [(6, .int (0)), (8, .int (nI (F 4 ((3 * c) + j)))), (0, .ref (717)), (1, .int (nI (m))), (2, .int (nI (p))), (3, .int (nI (c))), (4, .int (nI (b))), (5, .int (nI (agK F c j))), (7, .int (nI (j)))]) dx_Mo_argumentsThere_154 (by decide) rfl ?_
          refine px_iload dx_Mo_argumentsThere_156 rfl ?_
          refine px_iload dx_Mo_argumentsThere_158 rfl ?_
          refine px_cS (Y := yy_Mo_argumentsThere) (Yc := yy_Mo_words) (As := [.int (nI (F 4 ((3 * c) + j)))]) dx_Mo_argumentsThere_160 ml_Mo_99 ms_Mo_words np_Mo_words rfl (Nat.le_of_ble_eq_true rfl) (Nat.le_of_ble_eq_true rfl) rk_Mo_argumentsThere_Mo_words rfl (m_words (Nat.lt_of_le_of_lt (hW.2.2.2.2.1 _) (by decide))) zz_0 ?_
          refine px_iaddN (a := agK F c j) (b := wdt (F 4 ((3 * c) + j))) dx_Mo_argumentsThere_163 ?_
          refine px_istore (lv' := [(5, .int (nI ((agK F c j) + (wdt (F 4 ((3 * c) + j)))))), (6, .int (0)), (8, .int (nI (F 4 ((3 * c) + j)))), (0, .ref (717)), (1, .int (nI (m))), (2, .int (nI (p))), (3, .int (nI (c))), (4, .int (nI (b))), (7, .int (nI (j)))]) dx_Mo_argumentsThere_164 (by decide) rfl ?_
          refine px_iinc (v := (nI (j + 1))) (lv' := [(7, .int (nI (j + 1))), (5, .int (nI ((agK F c j) + (wdt (F 4 ((3 * c) + j)))))), (6, .int (0)), (8, .int (nI (F 4 ((3 * c) + j)))), (0, .ref (717)), (1, .int (nI (m))), (2, .int (nI (p))), (3, .int (nI (c))), (4, .int (nI (b)))]) dx_Mo_argumentsThere_166 rfl (nI_1 _) (by decide) rfl ?_
          refine px_goto dx_Mo_argumentsThere_169 ?_
          refine px_sub [4, 5, 6, 7, 8, 1, 2, 0] rfl ?_
          exact ih (j + 1) (false) (by omega) (by omega) (by simp only [agOK]; simp_all)
      · refine px_aload_n dx_Mo_argumentsThere_87 rfl ?_
        refine px_iload_n dx_Mo_argumentsThere_88 rfl ?_
        refine px_aload_n dx_Mo_argumentsThere_89 rfl ?_
        refine px_iload_n dx_Mo_argumentsThere_90 rfl ?_
        refine px_iload_n dx_Mo_argumentsThere_91 rfl ?_
        refine px_iload dx_Mo_argumentsThere_92 rfl ?_
        refine px_cV (Y := yy_Mo_argumentsThere) (Yc := yy_Mo_argument) (b := 717) (As := [.int (nI (m)), .int (nI (p)), .int (nI (agK F c j))]) dx_Mo_argumentsThere_94 ml_Mo_185 mv_Mo_argument np_Mo_argument ⟨_, rfl⟩ (by decide) rfl (by decide) rfl (Nat.le_of_ble_eq_true rfl) (Nat.le_of_ble_eq_true rfl) rk_Mo_argumentsThere_Mo_argument rfl (m_argument hM hF hW hm (by omega) (by omega)) zz_0 ?_
        refine px_iload dx_Mo_argumentsThere_97 rfl ?_
        refine px_cV (Y := yy_Mo_argumentsThere) (Yc := yy_Mo_has) (b := 717) (As := [.int (nI (m)), .int (nI (agW (F 7 (40 * m + (p + 2))) (agK F c j))), .int (nI (F 4 ((3 * c) + j)))]) dx_Mo_argumentsThere_99 ml_Mo_189 mv_Mo_has np_Mo_has ⟨_, rfl⟩ (by decide) rfl (by decide) rfl (Nat.le_of_ble_eq_true rfl) (Nat.le_of_ble_eq_true rfl) rk_Mo_argumentsThere_Mo_has rfl (m_has hM hF hW hm (Nat.lt_trans (agW_lt _ _) (by decide)) (Nat.lt_of_le_of_lt (hW.2.2.2.2.1 _) (by decide))) zz_0 ?_
        refine px_if_eqB dx_Mo_argumentsThere_102 (fun c_102 => ?_) (fun c_102 => ?_)
        · refine px_iconst (v := 0) dx_Mo_argumentsThere_109 rfl ?_
          refine px_istore (lv' := [(6, .int (0)), (8, .int (nI (F 4 ((3 * c) + j)))), (0, .ref (717)), (1, .int (nI (m))), (2, .int (nI (p))), (3, .int (nI (c))), (4, .int (nI (b))), (5, .int (nI (agK F c j))), (7, .int (nI (j)))]) dx_Mo_argumentsThere_110 (by decide) rfl ?_
          refine px_iload dx_Mo_argumentsThere_112 rfl ?_
          refine px_cS (Y := yy_Mo_argumentsThere) (Yc := yy_Mo_words) (As := [.int (nI (F 4 ((3 * c) + j)))]) dx_Mo_argumentsThere_114 ml_Mo_99 ms_Mo_words np_Mo_words rfl (Nat.le_of_ble_eq_true rfl) (Nat.le_of_ble_eq_true rfl) rk_Mo_argumentsThere_Mo_words rfl (m_words (Nat.lt_of_le_of_lt (hW.2.2.2.2.1 _) (by decide))) zz_0 ?_
          refine px_iconst (v := 2) dx_Mo_argumentsThere_117 rfl ?_
          refine px_icmp_neN (a := wdt (F 4 ((3 * c) + j))) (b := 2) dx_Mo_argumentsThere_118 (by first | omega | (have := agW_lt (F 7 (40 * m + (p + 2))) (agK F c j); have := agW_lt (F 7 (40 * m + (p + 2))) (agK F c j + 1); omega) | (have := wdt_le (F 4 (3 * c + j)); omega)) (by first | omega | (have := agW_lt (F 7 (40 * m + (p + 2))) (agK F c j); have := agW_lt (F 7 (40 * m + (p + 2))) (agK F c j + 1); omega) | (have := wdt_le (F 4 (3 * c + j)); omega)) (fun c_118 => ?_) (fun c_118 => ?_)
          · refine px_iload dx_Mo_argumentsThere_156 rfl ?_
            refine px_iload dx_Mo_argumentsThere_158 rfl ?_
            refine px_cS (Y := yy_Mo_argumentsThere) (Yc := yy_Mo_words) (As := [.int (nI (F 4 ((3 * c) + j)))]) dx_Mo_argumentsThere_160 ml_Mo_99 ms_Mo_words np_Mo_words rfl (Nat.le_of_ble_eq_true rfl) (Nat.le_of_ble_eq_true rfl) rk_Mo_argumentsThere_Mo_words rfl (m_words (Nat.lt_of_le_of_lt (hW.2.2.2.2.1 _) (by decide))) zz_0 ?_
            refine px_iaddN (a := agK F c j) (b := wdt (F 4 ((3 * c) + j))) dx_Mo_argumentsThere_163 ?_
            refine px_istore (lv' := [(5, .int (nI ((agK F c j) + (wdt (F 4 ((3 * c) + j)))))), (6, .int (0)), (8, .int (nI (F 4 ((3 * c) + j)))), (0, .ref (717)), (1, .int (nI (m))), (2, .int (nI (p))), (3, .int (nI (c))), (4, .int (nI (b))), (7, .int (nI (j)))]) dx_Mo_argumentsThere_164 (by decide) rfl ?_
            refine px_iinc (v := (nI (j + 1))) (lv' := [(7, .int (nI (j + 1))), (5, .int (nI ((agK F c j) + (wdt (F 4 ((3 * c) + j)))))), (6, .int (0)), (8, .int (nI (F 4 ((3 * c) + j)))), (0, .ref (717)), (1, .int (nI (m))), (2, .int (nI (p))), (3, .int (nI (c))), (4, .int (nI (b)))]) dx_Mo_argumentsThere_166 rfl (nI_1 _) (by decide) rfl ?_
            refine px_goto dx_Mo_argumentsThere_169 ?_
            refine px_sub [4, 5, 6, 7, 8, 1, 2, 0] rfl ?_
            exact ih (j + 1) (false) (by omega) (by omega) (by simp only [agOK]; simp_all)
          · refine px_iload dx_Mo_argumentsThere_121 rfl ?_
            refine px_if_eq dx_Mo_argumentsThere_123 (fun _ => ?_) (fun q => absurd (by decide) q)
            refine px_iconst (v := 0) dx_Mo_argumentsThere_153 rfl ?_
            refine px_istore (lv' := [(6, .int (0)), (8, .int (nI (F 4 ((3 * c) + j)))), (0, .ref (717)), (1, .int (nI (m))), (2, .int (nI (p))), (3, .int (nI (c))), (4, .int (nI (b))), (5, .int (nI (agK F c j))), (7, .int (nI (j)))]) dx_Mo_argumentsThere_154 (by decide) rfl ?_
            refine px_iload dx_Mo_argumentsThere_156 rfl ?_
            refine px_iload dx_Mo_argumentsThere_158 rfl ?_
            refine px_cS (Y := yy_Mo_argumentsThere) (Yc := yy_Mo_words) (As := [.int (nI (F 4 ((3 * c) + j)))]) dx_Mo_argumentsThere_160 ml_Mo_99 ms_Mo_words np_Mo_words rfl (Nat.le_of_ble_eq_true rfl) (Nat.le_of_ble_eq_true rfl) rk_Mo_argumentsThere_Mo_words rfl (m_words (Nat.lt_of_le_of_lt (hW.2.2.2.2.1 _) (by decide))) zz_0 ?_
            refine px_iaddN (a := agK F c j) (b := wdt (F 4 ((3 * c) + j))) dx_Mo_argumentsThere_163 ?_
            refine px_istore (lv' := [(5, .int (nI ((agK F c j) + (wdt (F 4 ((3 * c) + j)))))), (6, .int (0)), (8, .int (nI (F 4 ((3 * c) + j)))), (0, .ref (717)), (1, .int (nI (m))), (2, .int (nI (p))), (3, .int (nI (c))), (4, .int (nI (b))), (7, .int (nI (j)))]) dx_Mo_argumentsThere_164 (by decide) rfl ?_
            refine px_iinc (v := (nI (j + 1))) (lv' := [(7, .int (nI (j + 1))), (5, .int (nI ((agK F c j) + (wdt (F 4 ((3 * c) + j)))))), (6, .int (0)), (8, .int (nI (F 4 ((3 * c) + j)))), (0, .ref (717)), (1, .int (nI (m))), (2, .int (nI (p))), (3, .int (nI (c))), (4, .int (nI (b)))]) dx_Mo_argumentsThere_166 rfl (nI_1 _) (by decide) rfl ?_
            refine px_goto dx_Mo_argumentsThere_169 ?_
            refine px_sub [4, 5, 6, 7, 8, 1, 2, 0] rfl ?_
            exact ih (j + 1) (false) (by omega) (by omega) (by simp only [agOK]; simp_all)
        · refine px_iconst (v := 1) dx_Mo_argumentsThere_105 rfl ?_
          refine px_goto dx_Mo_argumentsThere_106 ?_
          refine px_istore (lv' := [(6, .int (1)), (8, .int (nI (F 4 ((3 * c) + j)))), (0, .ref (717)), (1, .int (nI (m))), (2, .int (nI (p))), (3, .int (nI (c))), (4, .int (nI (b))), (5, .int (nI (agK F c j))), (7, .int (nI (j)))]) dx_Mo_argumentsThere_110 (by decide) rfl ?_
          refine px_iload dx_Mo_argumentsThere_112 rfl ?_
          refine px_cS (Y := yy_Mo_argumentsThere) (Yc := yy_Mo_words) (As := [.int (nI (F 4 ((3 * c) + j)))]) dx_Mo_argumentsThere_114 ml_Mo_99 ms_Mo_words np_Mo_words rfl (Nat.le_of_ble_eq_true rfl) (Nat.le_of_ble_eq_true rfl) rk_Mo_argumentsThere_Mo_words rfl (m_words (Nat.lt_of_le_of_lt (hW.2.2.2.2.1 _) (by decide))) zz_0 ?_
          refine px_iconst (v := 2) dx_Mo_argumentsThere_117 rfl ?_
          refine px_icmp_neN (a := wdt (F 4 ((3 * c) + j))) (b := 2) dx_Mo_argumentsThere_118 (by first | omega | (have := agW_lt (F 7 (40 * m + (p + 2))) (agK F c j); have := agW_lt (F 7 (40 * m + (p + 2))) (agK F c j + 1); omega) | (have := wdt_le (F 4 (3 * c + j)); omega)) (by first | omega | (have := agW_lt (F 7 (40 * m + (p + 2))) (agK F c j); have := agW_lt (F 7 (40 * m + (p + 2))) (agK F c j + 1); omega) | (have := wdt_le (F 4 (3 * c + j)); omega)) (fun c_118 => ?_) (fun c_118 => ?_)
          · refine px_iload dx_Mo_argumentsThere_156 rfl ?_
            refine px_iload dx_Mo_argumentsThere_158 rfl ?_
            refine px_cS (Y := yy_Mo_argumentsThere) (Yc := yy_Mo_words) (As := [.int (nI (F 4 ((3 * c) + j)))]) dx_Mo_argumentsThere_160 ml_Mo_99 ms_Mo_words np_Mo_words rfl (Nat.le_of_ble_eq_true rfl) (Nat.le_of_ble_eq_true rfl) rk_Mo_argumentsThere_Mo_words rfl (m_words (Nat.lt_of_le_of_lt (hW.2.2.2.2.1 _) (by decide))) zz_0 ?_
            refine px_iaddN (a := agK F c j) (b := wdt (F 4 ((3 * c) + j))) dx_Mo_argumentsThere_163 ?_
            refine px_istore (lv' := [(5, .int (nI ((agK F c j) + (wdt (F 4 ((3 * c) + j)))))), (6, .int (1)), (8, .int (nI (F 4 ((3 * c) + j)))), (0, .ref (717)), (1, .int (nI (m))), (2, .int (nI (p))), (3, .int (nI (c))), (4, .int (nI (b))), (7, .int (nI (j)))]) dx_Mo_argumentsThere_164 (by decide) rfl ?_
            refine px_iinc (v := (nI (j + 1))) (lv' := [(7, .int (nI (j + 1))), (5, .int (nI ((agK F c j) + (wdt (F 4 ((3 * c) + j)))))), (6, .int (1)), (8, .int (nI (F 4 ((3 * c) + j)))), (0, .ref (717)), (1, .int (nI (m))), (2, .int (nI (p))), (3, .int (nI (c))), (4, .int (nI (b)))]) dx_Mo_argumentsThere_166 rfl (nI_1 _) (by decide) rfl ?_
            refine px_goto dx_Mo_argumentsThere_169 ?_
            refine px_sub [4, 5, 6, 7, 8, 1, 2, 0] rfl ?_
            exact ih (j + 1) (true) (by omega) (by omega) (by simp only [agOK]; simp_all)
          · refine px_iload dx_Mo_argumentsThere_121 rfl ?_
            refine px_if_eq dx_Mo_argumentsThere_123 (fun q => absurd q (by decide)) (fun _ => ?_)
            refine px_aload_n dx_Mo_argumentsThere_126 rfl ?_
            refine px_iload_n dx_Mo_argumentsThere_127 rfl ?_
            refine px_iload_n dx_Mo_argumentsThere_128 rfl ?_
            refine px_iload dx_Mo_argumentsThere_129 rfl ?_
            refine px_iconst (v := 1) dx_Mo_argumentsThere_131 rfl ?_
            refine px_iaddN (a := agK F c j) (b := 1) dx_Mo_argumentsThere_132 ?_
            refine px_cV (Y := yy_Mo_argumentsThere) (Yc := yy_Mo_argument) (b := 717) (As := [.int (nI (m)), .int (nI (p)), .int (nI ((agK F c j) + 1))]) dx_Mo_argumentsThere_133 ml_Mo_185 mv_Mo_argument np_Mo_argument ⟨_, rfl⟩ (by decide) rfl (by decide) rfl (Nat.le_of_ble_eq_true rfl) (Nat.le_of_ble_eq_true rfl) rk_Mo_argumentsThere_Mo_argument rfl (m_argument hM hF hW hm (by omega) (by omega)) zz_0 ?_
            refine px_aload_n dx_Mo_argumentsThere_136 rfl ?_
            refine px_iload_n dx_Mo_argumentsThere_137 rfl ?_
            refine px_iload_n dx_Mo_argumentsThere_138 rfl ?_
            refine px_iload dx_Mo_argumentsThere_139 rfl ?_
            refine px_cV (Y := yy_Mo_argumentsThere) (Yc := yy_Mo_argument) (b := 717) (As := [.int (nI (m)), .int (nI (p)), .int (nI (agK F c j))]) dx_Mo_argumentsThere_141 ml_Mo_185 mv_Mo_argument np_Mo_argument ⟨_, rfl⟩ (by decide) rfl (by decide) rfl (Nat.le_of_ble_eq_true rfl) (Nat.le_of_ble_eq_true rfl) rk_Mo_argumentsThere_Mo_argument rfl (m_argument hM hF hW hm (by omega) (by omega)) zz_0 ?_
            refine px_iconst (v := 1) dx_Mo_argumentsThere_144 rfl ?_
            refine px_iaddN (a := agW (F 7 (40 * m + (p + 2))) (agK F c j)) (b := 1) dx_Mo_argumentsThere_145 ?_
            refine px_icmp_neN (a := agW (F 7 (40 * m + (p + 2))) ((agK F c j) + 1)) (b := (agW (F 7 (40 * m + (p + 2))) (agK F c j)) + 1) dx_Mo_argumentsThere_146 (by first | omega | (have := agW_lt (F 7 (40 * m + (p + 2))) (agK F c j); have := agW_lt (F 7 (40 * m + (p + 2))) (agK F c j + 1); omega) | (have := wdt_le (F 4 (3 * c + j)); omega)) (by first | omega | (have := agW_lt (F 7 (40 * m + (p + 2))) (agK F c j); have := agW_lt (F 7 (40 * m + (p + 2))) (agK F c j + 1); omega) | (have := wdt_le (F 4 (3 * c + j)); omega)) (fun c_146 => ?_) (fun c_146 => ?_)
            · refine px_iconst (v := 0) dx_Mo_argumentsThere_153 rfl ?_
              refine px_istore (lv' := [(6, .int (0)), (8, .int (nI (F 4 ((3 * c) + j)))), (0, .ref (717)), (1, .int (nI (m))), (2, .int (nI (p))), (3, .int (nI (c))), (4, .int (nI (b))), (5, .int (nI (agK F c j))), (7, .int (nI (j)))]) dx_Mo_argumentsThere_154 (by decide) rfl ?_
              refine px_iload dx_Mo_argumentsThere_156 rfl ?_
              refine px_iload dx_Mo_argumentsThere_158 rfl ?_
              refine px_cS (Y := yy_Mo_argumentsThere) (Yc := yy_Mo_words) (As := [.int (nI (F 4 ((3 * c) + j)))]) dx_Mo_argumentsThere_160 ml_Mo_99 ms_Mo_words np_Mo_words rfl (Nat.le_of_ble_eq_true rfl) (Nat.le_of_ble_eq_true rfl) rk_Mo_argumentsThere_Mo_words rfl (m_words (Nat.lt_of_le_of_lt (hW.2.2.2.2.1 _) (by decide))) zz_0 ?_
              refine px_iaddN (a := agK F c j) (b := wdt (F 4 ((3 * c) + j))) dx_Mo_argumentsThere_163 ?_
              refine px_istore (lv' := [(5, .int (nI ((agK F c j) + (wdt (F 4 ((3 * c) + j)))))), (6, .int (0)), (8, .int (nI (F 4 ((3 * c) + j)))), (0, .ref (717)), (1, .int (nI (m))), (2, .int (nI (p))), (3, .int (nI (c))), (4, .int (nI (b))), (7, .int (nI (j)))]) dx_Mo_argumentsThere_164 (by decide) rfl ?_
              refine px_iinc (v := (nI (j + 1))) (lv' := [(7, .int (nI (j + 1))), (5, .int (nI ((agK F c j) + (wdt (F 4 ((3 * c) + j)))))), (6, .int (0)), (8, .int (nI (F 4 ((3 * c) + j)))), (0, .ref (717)), (1, .int (nI (m))), (2, .int (nI (p))), (3, .int (nI (c))), (4, .int (nI (b)))]) dx_Mo_argumentsThere_166 rfl (nI_1 _) (by decide) rfl ?_
              refine px_goto dx_Mo_argumentsThere_169 ?_
              refine px_sub [4, 5, 6, 7, 8, 1, 2, 0] rfl ?_
              exact ih (j + 1) (false) (by omega) (by omega) (by simp only [agOK]; simp_all)
            · refine px_iconst (v := 1) dx_Mo_argumentsThere_149 rfl ?_
              refine px_goto dx_Mo_argumentsThere_150 ?_
              refine px_istore (lv' := [(6, .int (1)), (8, .int (nI (F 4 ((3 * c) + j)))), (0, .ref (717)), (1, .int (nI (m))), (2, .int (nI (p))), (3, .int (nI (c))), (4, .int (nI (b))), (5, .int (nI (agK F c j))), (7, .int (nI (j)))]) dx_Mo_argumentsThere_154 (by decide) rfl ?_
              refine px_iload dx_Mo_argumentsThere_156 rfl ?_
              refine px_iload dx_Mo_argumentsThere_158 rfl ?_
              refine px_cS (Y := yy_Mo_argumentsThere) (Yc := yy_Mo_words) (As := [.int (nI (F 4 ((3 * c) + j)))]) dx_Mo_argumentsThere_160 ml_Mo_99 ms_Mo_words np_Mo_words rfl (Nat.le_of_ble_eq_true rfl) (Nat.le_of_ble_eq_true rfl) rk_Mo_argumentsThere_Mo_words rfl (m_words (Nat.lt_of_le_of_lt (hW.2.2.2.2.1 _) (by decide))) zz_0 ?_
              refine px_iaddN (a := agK F c j) (b := wdt (F 4 ((3 * c) + j))) dx_Mo_argumentsThere_163 ?_
              refine px_istore (lv' := [(5, .int (nI ((agK F c j) + (wdt (F 4 ((3 * c) + j)))))), (6, .int (1)), (8, .int (nI (F 4 ((3 * c) + j)))), (0, .ref (717)), (1, .int (nI (m))), (2, .int (nI (p))), (3, .int (nI (c))), (4, .int (nI (b))), (7, .int (nI (j)))]) dx_Mo_argumentsThere_164 (by decide) rfl ?_
              refine px_iinc (v := (nI (j + 1))) (lv' := [(7, .int (nI (j + 1))), (5, .int (nI ((agK F c j) + (wdt (F 4 ((3 * c) + j)))))), (6, .int (1)), (8, .int (nI (F 4 ((3 * c) + j)))), (0, .ref (717)), (1, .int (nI (m))), (2, .int (nI (p))), (3, .int (nI (c))), (4, .int (nI (b)))]) dx_Mo_argumentsThere_166 rfl (nI_1 _) (by decide) rfl ?_
              refine px_goto dx_Mo_argumentsThere_169 ?_
              refine px_sub [4, 5, 6, 7, 8, 1, 2, 0] rfl ?_
              exact ih (j + 1) (true) (by omega) (by omega) (by simp only [agOK]; simp_all)
set_option maxRecDepth 100000 in
set_option maxHeartbeats 4000000 in
theorem m_argumentsThere {l : Launch} {G : fr_G} {σ : fr_S} (hM : MR σ) {F : Nat → Nat → Nat} (hF : MF σ F) (hW : FW F) {m p : Nat} (hm : m < 4) (hpl : p < 40) : CT l G yy_Mo_argumentsThere rm_Mo_argumentsThere [.ref (717), .int (nI (m)), .int (nI (p))] σ (some (.int (b2i (agT F m p)))) (σ) := by
  intro Post hp0
  have hp := hp0
  show PX l G yy_Mo_argumentsThere rm_Mo_argumentsThere _ false 742 0 0 0 [(0, .ref (717)), (1, .int (nI (m))), (2, .int (nI (p)))] [] σ
  have hp0 := hp
  have hc4 := hW.1
  refine px_aload_n dx_Mo_argumentsThere_0 rfl ?_
  refine px_iload_n dx_Mo_argumentsThere_1 rfl ?_
  refine px_iload_n dx_Mo_argumentsThere_2 rfl ?_
  by_cases hn : F 7 (40 * m + (p + 1)) ≤ 32767
  · refine px_cV (Y := yy_Mo_argumentsThere) (Yc := yy_Mo_number) (b := 717) (As := [.int (nI (m)), .int (nI (p))]) dx_Mo_argumentsThere_3 ml_Mo_176 mv_Mo_number np_Mo_number ⟨_, rfl⟩ (by decide) rfl (by decide) rfl (Nat.le_of_ble_eq_true rfl) (Nat.le_of_ble_eq_true rfl) rk_Mo_argumentsThere_Mo_number rfl (m_number_p hM (by omega) (hF.2.2.2.2.2.2.2 (40 * m + (p + 1)) (by omega)) (hW.2.2.2.2.2.2.2 _) hn) zz_0 ?_
    refine px_istore_n (lv' := [(3, .int (nI (F 7 (40 * m + (p + 1))))), (0, .ref (717)), (1, .int (nI (m))), (2, .int (nI (p)))]) dx_Mo_argumentsThere_6 (by decide) rfl ?_
    refine px_iload_n dx_Mo_argumentsThere_7 rfl ?_
    refine px_if_ltN (a := F 7 (40 * m + (p + 1))) dx_Mo_argumentsThere_8 (by first | omega | (have := opB_lt (hW.2.2.2.2.2.2.2 (40 * m + p)); omega) | (have := pwF_le hW (F 7 (40 * m + (p + 1))); omega)) (fun c_8 => ?_) (fun c_8 => ?_)
    · refine px_iconst (v := 0) dx_Mo_argumentsThere_21 rfl ?_
      exact px_zret dx_Mo_argumentsThere_22 rfl (by decide) (by (have e : agT F m p = false := by (simp only [agT, Bool.and_eq_false_iff, decide_eq_false_iff_not]; first | (left; omega) | (right; left; omega))); rw [e] at hp0; exact hp0)
    · refine px_iload_n dx_Mo_argumentsThere_11 rfl ?_
      refine px_aload_n dx_Mo_argumentsThere_12 rfl ?_
      refine px_getR (r := 719) dx_Mo_argumentsThere_13 fl_Mo_17 rfl (by decide) rfl (hM 6) ?_
      refine px_iconst (v := 0) dx_Mo_argumentsThere_16 rfl ?_
      refine px_ialdN (j := 0) dx_Mo_argumentsThere_17 rfl (by decide) (by decide) ?_
      refine px_eqi (y := nI (F 0 0)) hF.1 ?_
      refine px_icmp_ltN (a := F 7 (40 * m + (p + 1))) (b := F 0 0) dx_Mo_argumentsThere_18 (by first | omega | (have := opB_lt (hW.2.2.2.2.2.2.2 (40 * m + p)); omega) | (have := pwF_le hW (F 7 (40 * m + (p + 1))); omega)) (by first | omega | (have := opB_lt (hW.2.2.2.2.2.2.2 (40 * m + p)); omega) | (have := pwF_le hW (F 7 (40 * m + (p + 1))); omega)) (fun c_18 => ?_) (fun c_18 => ?_)
      · refine px_aload_n dx_Mo_argumentsThere_23 rfl ?_
        refine px_iload_n dx_Mo_argumentsThere_24 rfl ?_
        refine px_iload_n dx_Mo_argumentsThere_25 rfl ?_
        refine px_cV (Y := yy_Mo_argumentsThere) (Yc := yy_Mo_regB) (b := 717) (As := [.int (nI (m)), .int (nI (p))]) dx_Mo_argumentsThere_26 ml_Mo_182 mv_Mo_regB np_Mo_regB ⟨_, rfl⟩ (by decide) rfl (by decide) rfl (Nat.le_of_ble_eq_true rfl) (Nat.le_of_ble_eq_true rfl) rk_Mo_argumentsThere_Mo_regB rfl (m_regB hM (by omega) (hF.2.2.2.2.2.2.2 (40 * m + p) (by omega)) (hW.2.2.2.2.2.2.2 _)) zz_0 ?_
        refine px_istore (lv' := [(4, .int (nI (opB (F 7 (40 * m + p))))), (3, .int (nI (F 7 (40 * m + (p + 1))))), (0, .ref (717)), (1, .int (nI (m))), (2, .int (nI (p)))]) dx_Mo_argumentsThere_29 (by decide) rfl ?_
        refine px_iload dx_Mo_argumentsThere_31 rfl ?_
        refine px_iconst (v := 4) dx_Mo_argumentsThere_33 rfl ?_
        refine px_icmp_gtN (a := opB (F 7 (40 * m + p))) (b := 4) dx_Mo_argumentsThere_34 (by first | omega | (have := opB_lt (hW.2.2.2.2.2.2.2 (40 * m + p)); omega) | (have := pwF_le hW (F 7 (40 * m + (p + 1))); omega)) (by first | omega | (have := opB_lt (hW.2.2.2.2.2.2.2 (40 * m + p)); omega) | (have := pwF_le hW (F 7 (40 * m + (p + 1))); omega)) (fun c_34 => ?_) (fun c_34 => ?_)
        · refine px_iconst (v := 0) dx_Mo_argumentsThere_47 rfl ?_
          exact px_zret dx_Mo_argumentsThere_48 rfl (by decide) (by (have e : agT F m p = false := by (simp only [agT, Bool.and_eq_false_iff, decide_eq_false_iff_not]; first | (left; omega) | (right; left; omega))); rw [e] at hp0; exact hp0)
        · refine px_iload dx_Mo_argumentsThere_37 rfl ?_
          refine px_aload_n dx_Mo_argumentsThere_39 rfl ?_
          refine px_iload_n dx_Mo_argumentsThere_40 rfl ?_
          refine px_cV (Y := yy_Mo_argumentsThere) (Yc := yy_Mo_paramWords) (b := 717) (As := [.int (nI (F 7 (40 * m + (p + 1))))]) dx_Mo_argumentsThere_41 ml_Mo_107 mv_Mo_paramWords np_Mo_paramWords ⟨_, rfl⟩ (by decide) rfl (by decide) rfl (Nat.le_of_ble_eq_true rfl) (Nat.le_of_ble_eq_true rfl) rk_Mo_argumentsThere_Mo_paramWords rfl (m_paramWords (pt := fun k => F 4 (3 * (F 7 (40 * m + (p + 1))) + k)) hM (by omega) (hW.2.2.2.1 _) (hF.2.2.2.1 _ (by omega)) (fun k hk => hF.2.2.2.2.1 _ (by have := hW.2.2.2.1 (F 7 (40 * m + (p + 1))); omega)) (fun k => Nat.lt_of_le_of_lt (hW.2.2.2.2.1 _) (by decide))) zz_0 ?_
          refine px_icmp_eqN (a := opB (F 7 (40 * m + p))) (b := pwF F (F 7 (40 * m + (p + 1)))) dx_Mo_argumentsThere_44 (by first | omega | (have := opB_lt (hW.2.2.2.2.2.2.2 (40 * m + p)); omega) | (have := pwF_le hW (F 7 (40 * m + (p + 1))); omega)) (by first | omega | (have := opB_lt (hW.2.2.2.2.2.2.2 (40 * m + p)); omega) | (have := pwF_le hW (F 7 (40 * m + (p + 1))); omega)) (fun c_44 => ?_) (fun c_44 => ?_)
          · refine px_iconst (v := 0) dx_Mo_argumentsThere_49 rfl ?_
            refine px_istore (lv' := [(5, .int (0)), (4, .int (nI (opB (F 7 (40 * m + p))))), (3, .int (nI (F 7 (40 * m + (p + 1))))), (0, .ref (717)), (1, .int (nI (m))), (2, .int (nI (p)))]) dx_Mo_argumentsThere_50 (by decide) rfl ?_
            refine px_iconst (v := 1) dx_Mo_argumentsThere_52 rfl ?_
            refine px_istore (lv' := [(6, .int (1)), (5, .int (0)), (4, .int (nI (opB (F 7 (40 * m + p))))), (3, .int (nI (F 7 (40 * m + (p + 1))))), (0, .ref (717)), (1, .int (nI (m))), (2, .int (nI (p)))]) dx_Mo_argumentsThere_53 (by decide) rfl ?_
            refine px_iconst (v := 0) dx_Mo_argumentsThere_55 rfl ?_
            refine px_istore (lv' := [(7, .int (0)), (6, .int (1)), (5, .int (0)), (4, .int (nI (opB (F 7 (40 * m + p))))), (3, .int (nI (F 7 (40 * m + (p + 1))))), (0, .ref (717)), (1, .int (nI (m))), (2, .int (nI (p)))]) dx_Mo_argumentsThere_56 (by decide) rfl ?_
            refine px_sub [5, 6, 7, 4, 3, 2, 1, 0] rfl ?_
            refine m_argumentsThere_lp hM hF hW hm hpl c_18 ?_ 4 0 true (by have := hW.2.2.2.1 (F 7 (40 * m + (p + 1))); omega) (Nat.zero_le _) rfl
            (have e : agT F m p = agOK F m (F 7 (40 * m + (p + 1))) (F 7 (40 * m + (p + 2))) (F 3 (F 7 (40 * m + (p + 1)))) := by (simp only [agT]; simp_all))
            rw [e] at hp0
            exact hp0
          · refine px_iconst (v := 0) dx_Mo_argumentsThere_47 rfl ?_
            exact px_zret dx_Mo_argumentsThere_48 rfl (by decide) (by (have e : agT F m p = false := by (simp only [agT, Bool.and_eq_false_iff, decide_eq_false_iff_not]; first | (left; omega) | (right; left; omega))); rw [e] at hp0; exact hp0)
      · refine px_iconst (v := 0) dx_Mo_argumentsThere_21 rfl ?_
        exact px_zret dx_Mo_argumentsThere_22 rfl (by decide) (by (have e : agT F m p = false := by (simp only [agT, Bool.and_eq_false_iff, decide_eq_false_iff_not]; first | (left; omega) | (right; left; omega))); rw [e] at hp0; exact hp0)
  · refine px_cV (Y := yy_Mo_argumentsThere) (Yc := yy_Mo_number) (b := 717) (As := [.int (nI (m)), .int (nI (p))]) dx_Mo_argumentsThere_3 ml_Mo_176 mv_Mo_number np_Mo_number ⟨_, rfl⟩ (by decide) rfl (by decide) rfl (Nat.le_of_ble_eq_true rfl) (Nat.le_of_ble_eq_true rfl) rk_Mo_argumentsThere_Mo_number rfl (m_number hM (by omega) (hF.2.2.2.2.2.2.2 (40 * m + (p + 1)) (by omega)) (hW.2.2.2.2.2.2.2 _)) zz_0 ?_
    refine px_istore_n (lv' := [(3, .int (nmI (F 7 (40 * m + (p + 1))))), (0, .ref (717)), (1, .int (nI (m))), (2, .int (nI (p)))]) dx_Mo_argumentsThere_6 (by decide) rfl ?_
    refine px_iload_n dx_Mo_argumentsThere_7 rfl ?_
    refine px_if_lt dx_Mo_argumentsThere_8 (fun c_8 => ?_) (fun c_8 => ?_)
    · refine px_iconst (v := 0) dx_Mo_argumentsThere_21 rfl ?_
      exact px_zret dx_Mo_argumentsThere_22 rfl (by decide) (by (have e : agT F m p = false := by (simp only [agT, Bool.and_eq_false_iff, decide_eq_false_iff_not]; first | (left; omega) | (right; left; omega))); rw [e] at hp0; exact hp0)
    · exact absurd (nmI_n hn (hW.2.2.2.2.2.2.2 _)) c_8
