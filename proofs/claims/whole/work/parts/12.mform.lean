/-! the reference: the form of instructions -/
def sw (pt : Nat → Nat) : Nat → Nat
  | 0 => 0
  | k + 1 => sw pt k + wdt (pt k)
theorem wdt_le (t : Nat) : wdt t ≤ 2 := by unfold wdt; split <;> decide
theorem sw_le (pt : Nat → Nat) : ∀ k, sw pt k ≤ 2 * k
  | 0 => Nat.le_refl _
  | k + 1 => by have := sw_le pt k; have := wdt_le (pt k); show sw pt k + wdt (pt k) ≤ _; omega
/-- the file as the reference holds it: F 0 0 methods, F 1 0 fields, F 2 returns, F 3 parameters' numbers, F 4 (3 m + k) their types, F 5 registers, F 6 units' numbers, F 7 (40 m + k) units -/
def MF (σ : fr_S) (F : Nat → Nat → Nat) : Prop := gI σ 719 0 = nI (F 0 0) ∧ gI σ 720 0 = nI (F 1 0) ∧ (∀ m, m < 4 → gI σ 721 m = nI (F 2 m)) ∧ (∀ m, m < 4 → gI σ 722 m = nI (F 3 m)) ∧ (∀ k, k < 12 → gI σ 723 k = nI (F 4 k)) ∧ (∀ m, m < 4 → gI σ 724 m = nI (F 5 m)) ∧ (∀ m, m < 4 → gI σ 725 m = nI (F 6 m)) ∧ (∀ j, j < 320 → gI σ 726 j = nI (F 7 j))
def FW (F : Nat → Nat → Nat) : Prop := F 0 0 ≤ 4 ∧ F 1 0 ≤ 4 ∧ (∀ m, F 2 m ≤ 4) ∧ (∀ m, F 3 m ≤ 3) ∧ (∀ k, F 4 k ≤ 4) ∧ (∀ m, F 5 m ≤ 10) ∧ (∀ m, F 6 m ≤ 40) ∧ (∀ j, F 7 j < 65536)

set_option maxRecDepth 100000 in
set_option maxHeartbeats 4000000 in
theorem m_paramWords_lp {l : Launch} {G : fr_G} {σ : fr_S} (hM : MR σ) {m np : Nat} {pt : Nat → Nat} (hm : m < 8) (hn : np ≤ 3) (h1 : gI σ 722 m = nI np) (h2 : ∀ k, k < np → gI σ 723 (3 * m + k) = nI (pt k)) (h3 : ∀ k, pt k < 256) {Post : Option Value → fr_S → Prop} (hp : Post (some (.int (nI (sw pt np)))) σ) : ∀ (d : Nat) (j : Nat), np - j < d → j ≤ np → PX l G yy_Mo_paramWords rm_Mo_paramWords (QR G false 742 0 0 Post) false 742 0 0 4 [(0, .ref (717)), (1, .int (nI (m))), (2, .int (nI (sw pt j))), (3, .int (nI (j)))] [] (σ) := by
  intro d
  induction d with
  | zero => intro j hd; exact absurd hd (Nat.not_lt_zero _)
  | succ d ih =>
    intro j hd hj
    have hs := sw_le pt j
    refine px_iload_n dx_Mo_paramWords_4 rfl ?_
    refine px_aload_n dx_Mo_paramWords_5 rfl ?_
    refine px_getR (r := 722) dx_Mo_paramWords_6 fl_Mo_26 rfl (by decide) rfl (hM 9) ?_
    refine px_iload_n dx_Mo_paramWords_9 rfl ?_
    refine px_ialdN (j := m) dx_Mo_paramWords_10 rfl (by decide) (by omega) ?_
    refine px_eqi (y := nI (np)) h1 ?_
    refine px_icmp_geN (a := j) (b := np) dx_Mo_paramWords_11 (by omega) (by omega) (fun c_11 => ?_) (fun c_11 => ?_)
    · refine px_iload_n dx_Mo_paramWords_36 rfl ?_
      exact px_iret dx_Mo_paramWords_37 rfl (by (have e : j = np := by omega); rw [e]; exact hp)
    · refine px_iload_n dx_Mo_paramWords_14 rfl ?_
      refine px_aload_n dx_Mo_paramWords_15 rfl ?_
      refine px_getR (r := 723) dx_Mo_paramWords_16 fl_Mo_29 rfl (by decide) rfl (hM 10) ?_
      refine px_iconst (v := 3) dx_Mo_paramWords_19 rfl ?_
      refine px_iload_n dx_Mo_paramWords_20 rfl ?_
      refine px_imulN (a := 3) (b := m) dx_Mo_paramWords_21 ?_
      refine px_iload_n dx_Mo_paramWords_22 rfl ?_
      refine px_iaddN (a := 3 * m) (b := j) dx_Mo_paramWords_23 ?_
      refine px_ialdN (j := (3 * m) + j) dx_Mo_paramWords_24 rfl (by decide) (by omega) ?_
      refine px_eqi (y := nI (pt j)) (h2 j (by omega)) ?_
      refine px_cS (Y := yy_Mo_paramWords) (Yc := yy_Mo_words) (As := [.int (nI (pt j))]) dx_Mo_paramWords_25 ml_Mo_99 ms_Mo_words np_Mo_words rfl (Nat.le_of_ble_eq_true rfl) (Nat.le_of_ble_eq_true rfl) rk_Mo_paramWords_Mo_words rfl (m_words (h3 _)) zz_0 ?_
      refine px_iaddN (a := sw pt j) (b := wdt (pt j)) dx_Mo_paramWords_28 ?_
      refine px_istore_n (lv' := [(2, .int (nI ((sw pt j) + (wdt (pt j))))), (0, .ref (717)), (1, .int (nI (m))), (3, .int (nI (j)))]) dx_Mo_paramWords_29 (by decide) rfl ?_
      refine px_iinc (v := (nI (j + 1))) (lv' := [(3, .int (nI (j + 1))), (2, .int (nI ((sw pt j) + (wdt (pt j))))), (0, .ref (717)), (1, .int (nI (m)))]) dx_Mo_paramWords_30 rfl (nI_1 _) (by decide) rfl ?_
      refine px_goto dx_Mo_paramWords_33 ?_
      refine px_sub [2, 3, 1, 0] rfl ?_
      exact ih (j + 1) (by omega) (by omega)
set_option maxRecDepth 100000 in
set_option maxHeartbeats 4000000 in
theorem m_paramWords {l : Launch} {G : fr_G} {σ : fr_S} (hM : MR σ) {m np : Nat} {pt : Nat → Nat} (hm : m < 8) (hn : np ≤ 3) (h1 : gI σ 722 m = nI np) (h2 : ∀ k, k < np → gI σ 723 (3 * m + k) = nI (pt k)) (h3 : ∀ k, pt k < 256) : CT l G yy_Mo_paramWords rm_Mo_paramWords [.ref (717), .int (nI (m))] σ (some (.int (nI (sw pt np)))) (σ) := by
  intro Post hp0
  have hp := hp0
  show PX l G yy_Mo_paramWords rm_Mo_paramWords _ false 742 0 0 0 [(0, .ref (717)), (1, .int (nI (m)))] [] σ
  refine px_iconst (v := 0) dx_Mo_paramWords_0 rfl ?_
  refine px_istore_n (lv' := [(2, .int (0)), (0, .ref (717)), (1, .int (nI (m)))]) dx_Mo_paramWords_1 (by decide) rfl ?_
  refine px_iconst (v := 0) dx_Mo_paramWords_2 rfl ?_
  refine px_istore_n (lv' := [(3, .int (0)), (2, .int (0)), (0, .ref (717)), (1, .int (nI (m)))]) dx_Mo_paramWords_3 (by decide) rfl ?_
  refine px_sub [2, 3, 1, 0] rfl ?_
  exact m_paramWords_lp hM hm hn h1 h2 h3 hp (np + 1) 0 (by omega) (by omega)
theorem m_number_p {l : Launch} {G : fr_G} {σ : fr_S} (hM : MR σ) {m p w : Nat} (h : 40 * m + (p + 1) < 320) (hw : gI σ 726 (40 * m + (p + 1)) = nI w) (hw2 : w < 65536) (hn : w ≤ 32767) : CT l G yy_Mo_number rm_Mo_number [.ref 717, .int (nI m), .int (nI p)] σ (some (.int (nI w))) σ := by
  have := m_number (l := l) (G := G) hM h hw hw2
  rwa [nmI_p hn] at this

def pwF (F : Nat → Nat → Nat) (c : Nat) : Nat := sw (fun k => F 4 (3 * c + k)) (F 3 c)
def hsR (F : Nat → Nat → Nat) (m r t : Nat) : Bool := decide (r + wdt t ≤ F 5 m)
theorem pwF_le {F : Nat → Nat → Nat} (hW : FW F) (c : Nat) : pwF F c ≤ 6 := by
  have h := sw_le (fun k => F 4 (3 * c + k)) (F 3 c)
  have := hW.2.2.2.1 c
  unfold pwF
  omega
theorem opS_lt (w : Nat) : opS w < 256 := Nat.mod_lt _ (by decide)
theorem opA_lt (w : Nat) : opA w < 16 := Nat.mod_lt _ (by decide)
theorem opB_lt {w : Nat} (h : w < 65536) : opB w < 16 := by unfold opB; omega
theorem opN_lt {w : Nat} (h : w < 65536) : opN w < 256 := by unfold opN; omega
theorem agW_lt (w k : Nat) : agW w k < 16 := Nat.mod_lt _ (by decide)

set_option maxRecDepth 100000 in
set_option maxHeartbeats 4000000 in
theorem m_has {l : Launch} {G : fr_G} {σ : fr_S} (hM : MR σ) {F : Nat → Nat → Nat} (hF : MF σ F) (hW : FW F) {m r t : Nat} (hm : m < 4) (hr : r < 100000) (ht : t < 256) : CT l G yy_Mo_has rm_Mo_has [.ref (717), .int (nI (m)), .int (nI (r)), .int (nI (t))] σ (some (.int (b2i (hsR F m r t)))) (σ) := by
  intro Post hp0
  have hp := hp0
  show PX l G yy_Mo_has rm_Mo_has _ false 742 0 0 0 [(0, .ref (717)), (1, .int (nI (m))), (2, .int (nI (r))), (3, .int (nI (t)))] [] σ
  refine px_iload_n dx_Mo_has_0 rfl ?_
  refine px_iload_n dx_Mo_has_1 rfl ?_
  refine px_cS (Y := yy_Mo_has) (Yc := yy_Mo_words) (As := [.int (nI (t))]) dx_Mo_has_2 ml_Mo_99 ms_Mo_words np_Mo_words rfl (Nat.le_of_ble_eq_true rfl) (Nat.le_of_ble_eq_true rfl) rk_Mo_has_Mo_words rfl (m_words (ht)) zz_0 ?_
  refine px_iaddN (a := r) (b := wdt (t)) dx_Mo_has_5 ?_
  refine px_aload_n dx_Mo_has_6 rfl ?_
  refine px_getR (r := 724) dx_Mo_has_7 fl_Mo_32 rfl (by decide) rfl (hM 11) ?_
  refine px_iload_n dx_Mo_has_10 rfl ?_
  refine px_ialdN (j := m) dx_Mo_has_11 rfl (by decide) (by omega) ?_
  refine px_eqi (y := nI (F 5 m)) (hF.2.2.2.2.2.1 m (by omega)) ?_
  refine px_icmp_gtN (a := r + (wdt (t))) (b := F 5 m) dx_Mo_has_12 (by (have := wdt_le t; have := hW.2.2.2.2.2.1 m; omega)) (by (have := wdt_le t; have := hW.2.2.2.2.2.1 m; omega)) (fun c_12 => ?_) (fun c_12 => ?_)
  · refine px_iconst (v := 0) dx_Mo_has_19 rfl ?_
    exact px_zret dx_Mo_has_20 rfl (by decide) (by (have e : hsR F m r t = false := by (simp only [hsR, decide_eq_true_eq, decide_eq_false_iff_not]; omega)); rw [e] at hp; exact hp)
  · refine px_iconst (v := 1) dx_Mo_has_15 rfl ?_
    refine px_goto dx_Mo_has_16 ?_
    exact px_zret dx_Mo_has_20 rfl (by decide) (by (have e : hsR F m r t = true := by (simp only [hsR, decide_eq_true_eq, decide_eq_false_iff_not]; omega)); rw [e] at hp; exact hp)
set_option maxRecDepth 100000 in
set_option maxHeartbeats 4000000 in
theorem m_argument {l : Launch} {G : fr_G} {σ : fr_S} (hM : MR σ) {F : Nat → Nat → Nat} (hF : MF σ F) (hW : FW F) {m p k : Nat} (hm : m < 4) (hpl : p < 40) (hk : k < 8) : CT l G yy_Mo_argument rm_Mo_argument [.ref (717), .int (nI (m)), .int (nI (p)), .int (nI (k))] σ (some (.int (nI (agW (F 7 (40 * m + (p + 2))) k)))) (σ) := by
  intro Post hp0
  have hp := hp0
  show PX l G yy_Mo_argument rm_Mo_argument _ false 742 0 0 0 [(0, .ref (717)), (1, .int (nI (m))), (2, .int (nI (p))), (3, .int (nI (k)))] [] σ
  refine px_aload_n dx_Mo_argument_0 rfl ?_
  refine px_iload_n dx_Mo_argument_1 rfl ?_
  refine px_iload_n dx_Mo_argument_2 rfl ?_
  refine px_iconst (v := 2) dx_Mo_argument_3 rfl ?_
  refine px_iaddN (a := p) (b := 2) dx_Mo_argument_4 ?_
  refine px_cV (Y := yy_Mo_argument) (Yc := yy_Mo_unit) (b := 717) (As := [.int (nI (m)), .int (nI (p + 2))]) dx_Mo_argument_5 ml_Mo_159 mv_Mo_unit np_Mo_unit ⟨_, rfl⟩ (by decide) rfl (by decide) rfl (Nat.le_of_ble_eq_true rfl) (Nat.le_of_ble_eq_true rfl) rk_Mo_argument_Mo_unit rfl (m_unit hM (by omega) (hF.2.2.2.2.2.2.2 (40 * m + (p + 2)) (by omega))) zz_0 ?_
  refine px_iconst (v := 4) dx_Mo_argument_8 rfl ?_
  refine px_iload_n dx_Mo_argument_9 rfl ?_
  refine px_imulN (a := 4) (b := k) dx_Mo_argument_10 ?_
  refine px_ishrV (a := F 7 (40 * m + (p + 2))) (w := 4 * k) dx_Mo_argument_11 (by (have := hW.2.2.2.2.2.2.2 (40 * m + (p + 2)); omega)) (by omega) ?_
  refine px_bipush (v := 15) dx_Mo_argument_12 rfl ?_
  refine px_iandN (a := (F 7 (40 * m + (p + 2))) / 2 ^ (4 * k)) (w := 4) dx_Mo_argument_14 (by (have := hW.2.2.2.2.2.2.2 (40 * m + (p + 2)); exact Nat.lt_of_le_of_lt (Nat.div_le_self _ _) (by omega))) rfl ?_
  exact px_iret dx_Mo_argument_15 rfl (by exact hp)
def agK (F : Nat → Nat → Nat) (c j : Nat) : Nat := sw (fun k => F 4 (3 * c + k)) j
/-- the registers that a 113 names, up to the j-th parameter -/
def agOK (F : Nat → Nat → Nat) (m c w2 : Nat) : Nat → Bool
  | 0 => true
  | j + 1 => (agOK F m c w2 j && hsR F m (agW w2 (agK F c j)) (F 4 (3 * c + j))) && (decide (¬ wdt (F 4 (3 * c + j)) = 2) || decide (agW w2 (agK F c j + 1) = agW w2 (agK F c j) + 1))
def agT (F : Nat → Nat → Nat) (m p : Nat) : Bool := decide (F 7 (40 * m + (p + 1)) < F 0 0) && (decide (opB (F 7 (40 * m + p)) ≤ 4 ∧ opB (F 7 (40 * m + p)) = pwF F (F 7 (40 * m + (p + 1)))) && agOK F m (F 7 (40 * m + (p + 1))) (F 7 (40 * m + (p + 2))) (F 3 (F 7 (40 * m + (p + 1)))))
theorem agK_le (F : Nat → Nat → Nat) (c : Nat) : ∀ j, agK F c j ≤ 2 * j := fun j => sw_le _ j
theorem agK_s (F : Nat → Nat → Nat) (c j : Nat) : agK F c (j + 1) = agK F c j + wdt (F 4 (3 * c + j)) := rfl
theorem agK_mono (F : Nat → Nat → Nat) (c : Nat) : ∀ i j, i ≤ j → agK F c i ≤ agK F c j := by
  intro i j h
  induction h with
  | refl => exact Nat.le_refl _
  | step _ ih => exact Nat.le_trans ih (by rw [agK_s]; omega)

set_option maxRecDepth 100000 in
set_option maxHeartbeats 4000000 in
theorem m_argumentsThere_lp {l : Launch} {G : fr_G} {σ : fr_S} (hM : MR σ) {F : Nat → Nat → Nat} (hF : MF σ F) (hW : FW F) {m p c : Nat} (hm : m < 4) (hpl : p < 40) (hc : c < F 0 0) {b : Nat} {Post : Option Value → fr_S → Prop} (hq : Post (some (.int (b2i (agOK F m c (F 7 (40 * m + (p + 2))) (F 3 c))))) σ) : ∀ (d : Nat) (j : Nat) (gb : Bool), F 3 c - j < d → j ≤ F 3 c → gb = agOK F m c (F 7 (40 * m + (p + 2))) j → PX l G yy_Mo_argumentsThere rm_Mo_argumentsThere (QR G false 742 0 0 Post) false 742 0 0 58 [(0, .ref (717)), (1, .int (nI (m))), (2, .int (nI (p))), (3, .int (nI (c))), (4, .int (nI (b))), (5, .int (nI (agK F c j))), (6, .int (b2i (gb))), (7, .int (nI (j)))] [] (σ) := by
  intro d
  induction d with
  | zero => intro j gb hd; exact absurd hd (Nat.not_lt_zero _)
  | succ d ih =>
    intro j gb hd hj hg
    have hc4 := hW.1
    have h3 := hW.2.2.2.1 c
    have hk := agK_le F c j
    refine px_iload dx_Mo_argumentsThere_58 rfl ?_
    refine px_aload_n dx_Mo_argumentsThere_60 rfl ?_
    refine px_getR (r := 722) dx_Mo_argumentsThere_61 fl_Mo_26 rfl (by decide) rfl (hM 9) ?_
    refine px_iload_n dx_Mo_argumentsThere_64 rfl ?_
    refine px_ialdN (j := c) dx_Mo_argumentsThere_65 rfl (by decide) (by omega) ?_
    refine px_eqi (y := nI (F 3 c)) (hF.2.2.2.1 c (by omega)) ?_
    refine px_icmp_geN (a := j) (b := F 3 c) dx_Mo_argumentsThere_66 (by first | omega | (have := agW_lt (F 7 (40 * m + (p + 2))) (agK F c j); have := agW_lt (F 7 (40 * m + (p + 2))) (agK F c j + 1); omega) | (have := wdt_le (F 4 (3 * c + j)); omega)) (by first | omega | (have := agW_lt (F 7 (40 * m + (p + 2))) (agK F c j); have := agW_lt (F 7 (40 * m + (p + 2))) (agK F c j + 1); omega) | (have := wdt_le (F 4 (3 * c + j)); omega)) (fun c_66 => ?_) (fun c_66 => ?_)
    · refine px_iload dx_Mo_argumentsThere_172 rfl ?_
      exact px_zret dx_Mo_argumentsThere_174 rfl (b2i_01 _) (by (have e : j = F 3 c := by omega); subst e; rw [hg]; exact hq)
    · refine px_aload_n dx_Mo_argumentsThere_69 rfl ?_
      refine px_getR (r := 723) dx_Mo_argumentsThere_70 fl_Mo_29 rfl (by decide) rfl (hM 10) ?_
      refine px_iconst (v := 3) dx_Mo_argumentsThere_73 rfl ?_
      refine px_iload_n dx_Mo_argumentsThere_74 rfl ?_
      refine px_imulN (a := 3) (b := c) dx_Mo_argumentsThere_75 ?_
      refine px_iload dx_Mo_argumentsThere_76 rfl ?_
      refine px_iaddN (a := 3 * c) (b := j) dx_Mo_argumentsThere_78 ?_
      refine px_ialdN (j := (3 * c) + j) dx_Mo_argumentsThere_79 rfl (by decide) (by omega) ?_
      refine px_eqi (y := nI (F 4 ((3 * c) + j))) (hF.2.2.2.2.1 ((3 * c) + j) (by omega)) ?_
      refine px_istore (lv' := [(8, .int (nI (F 4 ((3 * c) + j)))), (0, .ref (717)), (1, .int (nI (m))), (2, .int (nI (p))), (3, .int (nI (c))), (4, .int (nI (b))), (5, .int (nI (agK F c j))), (6, .int (b2i (gb))), (7, .int (nI (j)))]) dx_Mo_argumentsThere_80 (by decide) rfl ?_
      refine px_iload dx_Mo_argumentsThere_82 rfl ?_
      refine px_if_eqB dx_Mo_argumentsThere_84 (fun c_84 => ?_) (fun c_84 => ?_)
      · refine px_iconst (v := 0) dx_Mo_argumentsThere_109 rfl ?_
        refine px_istore (lv' := [(6, .int (0)), (8, .int (nI (F 4 ((3 * c) + j)))), (0, .ref (717)), (1, .int (nI (m))), (2, .int (nI (p))), (3, .int (nI (c))), (4, .int (nI (b))), (5, .int (nI (agK F c j))), (7, .int (nI (j)))]) dx_Mo_argumentsThere_110 (by decide) rfl ?_
        refine px_iload dx_Mo_argumentsThere_112 rfl ?_
        refine px_cS (Y := yy_Mo_argumentsThere) (Yc := yy_Mo_words) (As := [.int (nI (F 4 ((3 * c) + j)))]) dx_Mo_argumentsThere_114 ml_Mo_99 ms_Mo_words np_Mo_words rfl (Nat.le_of_ble_eq_true rfl) (Nat.le_of_ble_eq_true rfl) rk_Mo_argumentsThere_Mo_words rfl (m_words (Nat.lt_of_le_of_lt (hW.2.2.2.2.1 _) (by decide))) zz_0 ?_
        refine px_iconst (v := 2) dx_Mo_argumentsThere_117 rfl ?_
        refine px_icmp_neN (a := wdt (F 4 ((3 * c) + j))) (b := 2) dx_Mo_argumentsThere_118 (by first | omega | (have := agW_lt (F 7 (40 * m + (p + 2))) (agK F c j); have := agW_lt (F 7 (40 * m + (p + 2))) (agK F c j + 1); omega) | (have := wdt_le (F 4 (3 * c + j)); omega)) (by first | omega | (have := agW_lt (F 7 (40 * m + (p + 2))) (agK F c j); have := agW_lt (F 7 (40 * m + (p + 2))) (agK F c j + 1); omega) | (have := wdt_le (F 4 (3 * c + j)); omega)) (fun c_118 => ?_) (fun c_118 => ?_)
        · refine px_iload dx_Mo_argumentsThere_156 rfl ?_
          refine px_iload dx_Mo_argumentsThere_158 rfl ?_
          refine px_cS (Y := yy_Mo_argumentsThere) (Yc := yy_Mo_words) (As := [.int (nI (F 4 ((3 * c) + j)))]) dx_Mo_argumentsThere_160 ml_Mo_99 ms_Mo_words np_Mo_words rfl (Nat.le_of_ble_eq_true rfl) (Nat.le_of_ble_eq_true rfl) rk_Mo_argumentsThere_Mo_words rfl (m_words (Nat.lt_of_le_of_lt (hW.2.2.2.2.1 _) (by decide))) zz_0 ?_
          refine px_iaddN (a := agK F c j) (b := wdt (F 4 ((3 * c) + j))) dx_Mo_argumentsThere_163 ?_
          refine px_istore (lv' := [(5, .int (nI ((agK F c j) + (wdt (F 4 ((3 * c) + j)))))), (6, .int (0)), (8, .int (nI (F 4 ((3 * c) + j)))), (0, .ref (717)), (1, .int (nI (m))), (2, .int (nI (p))), (3, .int (nI (c))), (4, .int (nI (b))), (7, .int (nI (j)))]) dx_Mo_argumentsThere_164 (by decide) rfl ?_
          refine px_iinc (v := (nI (j + 1))) (lv' := [(7, .int (nI (j + 1))), (5, .int (nI ((agK F c j) + (wdt (F 4 ((3 * c) + j)))))), (6, .int (0)), (8, .int (nI (F 4 ((3 * c) + j)))), (0, .ref (717)), (1, .int (nI (m))), (2, .int (nI (p))), (3, .int (nI (c))), (4, .int (nI (b)))]) dx_Mo_argumentsThere_166 rfl (nI_1 _) (by decide) rfl ?_
          refine px_goto dx_Mo_argumentsThere_169 ?_
          refine px_sub [4, 5, 6, 7, 8, 1, 2, 0] rfl ?_
          exact ih (j + 1) (false) (by omega) (by omega) (by simp only [agOK]; simp_all)
        · refine px_iload dx_Mo_argumentsThere_121 rfl ?_
          refine px_if_eq dx_Mo_argumentsThere_123 (fun _ => ?_) (fun q => absurd (by decide) q)
          refine px_iconst (v := 0) dx_Mo_argumentsThere_153 rfl ?_
          refine px_istore (lv' := [(6, .int (0)), (8, .int (nI (F 4 ((3 * c) + j)))), (0, .ref (717)), (1, .int (nI (m))), (2, .int (nI (p))), (3, .int (nI (c))), (4, .int (nI (b))), (5, .int (nI (agK F c j))), (7, .int (nI (j)))]) dx_Mo_argumentsThere_154 (by decide) rfl ?_
          refine px_iload dx_Mo_argumentsThere_156 rfl ?_
          refine px_iload dx_Mo_argumentsThere_158 rfl ?_
          refine px_cS (Y := yy_Mo_argumentsThere) (Yc := yy_Mo_words) (As := [.int (nI (F 4 ((3 * c) + j)))]) dx_Mo_argumentsThere_160 ml_Mo_99 ms_Mo_words np_Mo_words rfl (Nat.le_of_ble_eq_true rfl) (Nat.le_of_ble_eq_true rfl) rk_Mo_argumentsThere_Mo_words rfl (m_words (Nat.lt_of_le_of_lt (hW.2.2.2.2.1 _) (by decide))) zz_0 ?_
          refine px_iaddN (a := agK F c j) (b := wdt (F 4 ((3 * c) + j))) dx_Mo_argumentsThere_163 ?_
          refine px_istore (lv' := [(5, .int (nI ((agK F c j) + (wdt (F 4 ((3 * c) + j)))))), (6, .int (0)), (8, .int (nI (F 4 ((3 * c) + j)))), (0, .ref (717)), (1, .int (nI (m))), (2, .int (nI (p))), (3, .int (nI (c))), (4, .int (nI (b))), (7, .int (nI (j)))]) dx_Mo_argumentsThere_164 (by decide) rfl ?_
          refine px_iinc (v := (nI (j + 1))) (lv' := [(7, .int (nI (j + 1))), (5, .int (nI ((agK F c j) + (wdt (F 4 ((3 * c) + j)))))), (6, .int (0)), (8, .int (nI (F 4 ((3 * c) + j)))), (0, .ref (717)), (1, .int (nI (m))), (2, .int (nI (p))), (3, .int (nI (c))), (4, .int (nI (b)))]) dx_Mo_argumentsThere_166 rfl (nI_1 _) (by decide) rfl ?_
          refine px_goto dx_Mo_argumentsThere_169 ?_
          refine px_sub [4, 5, 6, 7, 8, 1, 2, 0] rfl ?_
          exact ih (j + 1) (false) (by omega) (by omega) (by simp only [agOK]; simp_all)
      · refine px_aload_n dx_Mo_argumentsThere_87 rfl ?_
        refine px_iload_n dx_Mo_argumentsThere_88 rfl ?_
        refine px_aload_n dx_Mo_argumentsThere_89 rfl ?_
        refine px_iload_n dx_Mo_argumentsThere_90 rfl ?_
        refine px_iload_n dx_Mo_argumentsThere_91 rfl ?_
        refine px_iload dx_Mo_argumentsThere_92 rfl ?_
        refine px_cV (Y := yy_Mo_argumentsThere) (Yc := yy_Mo_argument) (b := 717) (As := [.int (nI (m)), .int (nI (p)), .int (nI (agK F c j))]) dx_Mo_argumentsThere_94 ml_Mo_185 mv_Mo_argument np_Mo_argument ⟨_, rfl⟩ (by decide) rfl (by decide) rfl (Nat.le_of_ble_eq_true rfl) (Nat.le_of_ble_eq_true rfl) rk_Mo_argumentsThere_Mo_argument rfl (m_argument hM hF hW hm (by omega) (by omega)) zz_0 ?_
        refine px_iload dx_Mo_argumentsThere_97 rfl ?_
        refine px_cV (Y := yy_Mo_argumentsThere) (Yc := yy_Mo_has) (b := 717) (As := [.int (nI (m)), .int (nI (agW (F 7 (40 * m + (p + 2))) (agK F c j))), .int (nI (F 4 ((3 * c) + j)))]) dx_Mo_argumentsThere_99 ml_Mo_189 mv_Mo_has np_Mo_has ⟨_, rfl⟩ (by decide) rfl (by decide) rfl (Nat.le_of_ble_eq_true rfl) (Nat.le_of_ble_eq_true rfl) rk_Mo_argumentsThere_Mo_has rfl (m_has hM hF hW hm (Nat.lt_trans (agW_lt _ _) (by decide)) (Nat.lt_of_le_of_lt (hW.2.2.2.2.1 _) (by decide))) zz_0 ?_
        refine px_if_eqB dx_Mo_argumentsThere_102 (fun c_102 => ?_) (fun c_102 => ?_)
        · refine px_iconst (v := 0) dx_Mo_argumentsThere_109 rfl ?_
          refine px_istore (lv' := [(6, .int (0)), (8, .int (nI (F 4 ((3 * c) + j)))), (0, .ref (717)), (1, .int (nI (m))), (2, .int (nI (p))), (3, .int (nI (c))), (4, .int (nI (b))), (5, .int (nI (agK F c j))), (7, .int (nI (j)))]) dx_Mo_argumentsThere_110 (by decide) rfl ?_
          refine px_iload dx_Mo_argumentsThere_112 rfl ?_
          refine px_cS (Y := yy_Mo_argumentsThere) (Yc := yy_Mo_words) (As := [.int (nI (F 4 ((3 * c) + j)))]) dx_Mo_argumentsThere_114 ml_Mo_99 ms_Mo_words np_Mo_words rfl (Nat.le_of_ble_eq_true rfl) (Nat.le_of_ble_eq_true rfl) rk_Mo_argumentsThere_Mo_words rfl (m_words (Nat.lt_of_le_of_lt (hW.2.2.2.2.1 _) (by decide))) zz_0 ?_
          refine px_iconst (v := 2) dx_Mo_argumentsThere_117 rfl ?_
          refine px_icmp_neN (a := wdt (F 4 ((3 * c) + j))) (b := 2) dx_Mo_argumentsThere_118 (by first | omega | (have := agW_lt (F 7 (40 * m + (p + 2))) (agK F c j); have := agW_lt (F 7 (40 * m + (p + 2))) (agK F c j + 1); omega) | (have := wdt_le (F 4 (3 * c + j)); omega)) (by first | omega | (have := agW_lt (F 7 (40 * m + (p + 2))) (agK F c j); have := agW_lt (F 7 (40 * m + (p + 2))) (agK F c j + 1); omega) | (have := wdt_le (F 4 (3 * c + j)); omega)) (fun c_118 => ?_) (fun c_118 => ?_)
          · refine px_iload dx_Mo_argumentsThere_156 rfl ?_
            refine px_iload dx_Mo_argumentsThere_158 rfl ?_
            refine px_cS (Y := yy_Mo_argumentsThere) (Yc := yy_Mo_words) (As := [.int (nI (F 4 ((3 * c) + j)))]) dx_Mo_argumentsThere_160 ml_Mo_99 ms_Mo_words np_Mo_words rfl (Nat.le_of_ble_eq_true rfl) (Nat.le_of_ble_eq_true rfl) rk_Mo_argumentsThere_Mo_words rfl (m_words (Nat.lt_of_le_of_lt (hW.2.2.2.2.1 _) (by decide))) zz_0 ?_
            refine px_iaddN (a := agK F c j) (b := wdt (F 4 ((3 * c) + j))) dx_Mo_argumentsThere_163 ?_
            refine px_istore (lv' := [(5, .int (nI ((agK F c j) + (wdt (F 4 ((3 * c) + j)))))), (6, .int (0)), (8, .int (nI (F 4 ((3 * c) + j)))), (0, .ref (717)), (1, .int (nI (m))), (2, .int (nI (p))), (3, .int (nI (c))), (4, .int (nI (b))), (7, .int (nI (j)))]) dx_Mo_argumentsThere_164 (by decide) rfl ?_
            refine px_iinc (v := (nI (j + 1))) (lv' := [(7, .int (nI (j + 1))), (5, .int (nI ((agK F c j) + (wdt (F 4 ((3 * c) + j)))))), (6, .int (0)), (8, .int (nI (F 4 ((3 * c) + j)))), (0, .ref (717)), (1, .int (nI (m))), (2, .int (nI (p))), (3, .int (nI (c))), (4, .int (nI (b)))]) dx_Mo_argumentsThere_166 rfl (nI_1 _) (by decide) rfl ?_
            refine px_goto dx_Mo_argumentsThere_169 ?_
            refine px_sub [4, 5, 6, 7, 8, 1, 2, 0] rfl ?_
            exact ih (j + 1) (false) (by omega) (by omega) (by simp only [agOK]; simp_all)
          · refine px_iload dx_Mo_argumentsThere_121 rfl ?_
            refine px_if_eq dx_Mo_argumentsThere_123 (fun _ => ?_) (fun q => absurd (by decide) q)
            refine px_iconst (v := 0) dx_Mo_argumentsThere_153 rfl ?_
            refine px_istore (lv' := [(6, .int (0)), (8, .int (nI (F 4 ((3 * c) + j)))), (0, .ref (717)), (1, .int (nI (m))), (2, .int (nI (p))), (3, .int (nI (c))), (4, .int (nI (b))), (5, .int (nI (agK F c j))), (7, .int (nI (j)))]) dx_Mo_argumentsThere_154 (by decide) rfl ?_
            refine px_iload dx_Mo_argumentsThere_156 rfl ?_
            refine px_iload dx_Mo_argumentsThere_158 rfl ?_
            refine px_cS (Y := yy_Mo_argumentsThere) (Yc := yy_Mo_words) (As := [.int (nI (F 4 ((3 * c) + j)))]) dx_Mo_argumentsThere_160 ml_Mo_99 ms_Mo_words np_Mo_words rfl (Nat.le_of_ble_eq_true rfl) (Nat.le_of_ble_eq_true rfl) rk_Mo_argumentsThere_Mo_words rfl (m_words (Nat.lt_of_le_of_lt (hW.2.2.2.2.1 _) (by decide))) zz_0 ?_
            refine px_iaddN (a := agK F c j) (b := wdt (F 4 ((3 * c) + j))) dx_Mo_argumentsThere_163 ?_
            refine px_istore (lv' := [(5, .int (nI ((agK F c j) + (wdt (F 4 ((3 * c) + j)))))), (6, .int (0)), (8, .int (nI (F 4 ((3 * c) + j)))), (0, .ref (717)), (1, .int (nI (m))), (2, .int (nI (p))), (3, .int (nI (c))), (4, .int (nI (b))), (7, .int (nI (j)))]) dx_Mo_argumentsThere_164 (by decide) rfl ?_
            refine px_iinc (v := (nI (j + 1))) (lv' := [(7, .int (nI (j + 1))), (5, .int (nI ((agK F c j) + (wdt (F 4 ((3 * c) + j)))))), (6, .int (0)), (8, .int (nI (F 4 ((3 * c) + j)))), (0, .ref (717)), (1, .int (nI (m))), (2, .int (nI (p))), (3, .int (nI (c))), (4, .int (nI (b)))]) dx_Mo_argumentsThere_166 rfl (nI_1 _) (by decide) rfl ?_
            refine px_goto dx_Mo_argumentsThere_169 ?_
            refine px_sub [4, 5, 6, 7, 8, 1, 2, 0] rfl ?_
            exact ih (j + 1) (false) (by omega) (by omega) (by simp only [agOK]; simp_all)
        · refine px_iconst (v := 1) dx_Mo_argumentsThere_105 rfl ?_
          refine px_goto dx_Mo_argumentsThere_106 ?_
          refine px_istore (lv' := [(6, .int (1)), (8, .int (nI (F 4 ((3 * c) + j)))), (0, .ref (717)), (1, .int (nI (m))), (2, .int (nI (p))), (3, .int (nI (c))), (4, .int (nI (b))), (5, .int (nI (agK F c j))), (7, .int (nI (j)))]) dx_Mo_argumentsThere_110 (by decide) rfl ?_
          refine px_iload dx_Mo_argumentsThere_112 rfl ?_
          refine px_cS (Y := yy_Mo_argumentsThere) (Yc := yy_Mo_words) (As := [.int (nI (F 4 ((3 * c) + j)))]) dx_Mo_argumentsThere_114 ml_Mo_99 ms_Mo_words np_Mo_words rfl (Nat.le_of_ble_eq_true rfl) (Nat.le_of_ble_eq_true rfl) rk_Mo_argumentsThere_Mo_words rfl (m_words (Nat.lt_of_le_of_lt (hW.2.2.2.2.1 _) (by decide))) zz_0 ?_
          refine px_iconst (v := 2) dx_Mo_argumentsThere_117 rfl ?_
          refine px_icmp_neN (a := wdt (F 4 ((3 * c) + j))) (b := 2) dx_Mo_argumentsThere_118 (by first | omega | (have := agW_lt (F 7 (40 * m + (p + 2))) (agK F c j); have := agW_lt (F 7 (40 * m + (p + 2))) (agK F c j + 1); omega) | (have := wdt_le (F 4 (3 * c + j)); omega)) (by first | omega | (have := agW_lt (F 7 (40 * m + (p + 2))) (agK F c j); have := agW_lt (F 7 (40 * m + (p + 2))) (agK F c j + 1); omega) | (have := wdt_le (F 4 (3 * c + j)); omega)) (fun c_118 => ?_) (fun c_118 => ?_)
          · refine px_iload dx_Mo_argumentsThere_156 rfl ?_
            refine px_iload dx_Mo_argumentsThere_158 rfl ?_
            refine px_cS (Y := yy_Mo_argumentsThere) (Yc := yy_Mo_words) (As := [.int (nI (F 4 ((3 * c) + j)))]) dx_Mo_argumentsThere_160 ml_Mo_99 ms_Mo_words np_Mo_words rfl (Nat.le_of_ble_eq_true rfl) (Nat.le_of_ble_eq_true rfl) rk_Mo_argumentsThere_Mo_words rfl (m_words (Nat.lt_of_le_of_lt (hW.2.2.2.2.1 _) (by decide))) zz_0 ?_
            refine px_iaddN (a := agK F c j) (b := wdt (F 4 ((3 * c) + j))) dx_Mo_argumentsThere_163 ?_
            refine px_istore (lv' := [(5, .int (nI ((agK F c j) + (wdt (F 4 ((3 * c) + j)))))), (6, .int (1)), (8, .int (nI (F 4 ((3 * c) + j)))), (0, .ref (717)), (1, .int (nI (m))), (2, .int (nI (p))), (3, .int (nI (c))), (4, .int (nI (b))), (7, .int (nI (j)))]) dx_Mo_argumentsThere_164 (by decide) rfl ?_
            refine px_iinc (v := (nI (j + 1))) (lv' := [(7, .int (nI (j + 1))), (5, .int (nI ((agK F c j) + (wdt (F 4 ((3 * c) + j)))))), (6, .int (1)), (8, .int (nI (F 4 ((3 * c) + j)))), (0, .ref (717)), (1, .int (nI (m))), (2, .int (nI (p))), (3, .int (nI (c))), (4, .int (nI (b)))]) dx_Mo_argumentsThere_166 rfl (nI_1 _) (by decide) rfl ?_
            refine px_goto dx_Mo_argumentsThere_169 ?_
            refine px_sub [4, 5, 6, 7, 8, 1, 2, 0] rfl ?_
            exact ih (j + 1) (true) (by omega) (by omega) (by simp only [agOK]; simp_all)
          · refine px_iload dx_Mo_argumentsThere_121 rfl ?_
            refine px_if_eq dx_Mo_argumentsThere_123 (fun q => absurd q (by decide)) (fun _ => ?_)
            refine px_aload_n dx_Mo_argumentsThere_126 rfl ?_
            refine px_iload_n dx_Mo_argumentsThere_127 rfl ?_
            refine px_iload_n dx_Mo_argumentsThere_128 rfl ?_
            refine px_iload dx_Mo_argumentsThere_129 rfl ?_
            refine px_iconst (v := 1) dx_Mo_argumentsThere_131 rfl ?_
            refine px_iaddN (a := agK F c j) (b := 1) dx_Mo_argumentsThere_132 ?_
            refine px_cV (Y := yy_Mo_argumentsThere) (Yc := yy_Mo_argument) (b := 717) (As := [.int (nI (m)), .int (nI (p)), .int (nI ((agK F c j) + 1))]) dx_Mo_argumentsThere_133 ml_Mo_185 mv_Mo_argument np_Mo_argument ⟨_, rfl⟩ (by decide) rfl (by decide) rfl (Nat.le_of_ble_eq_true rfl) (Nat.le_of_ble_eq_true rfl) rk_Mo_argumentsThere_Mo_argument rfl (m_argument hM hF hW hm (by omega) (by omega)) zz_0 ?_
            refine px_aload_n dx_Mo_argumentsThere_136 rfl ?_
            refine px_iload_n dx_Mo_argumentsThere_137 rfl ?_
            refine px_iload_n dx_Mo_argumentsThere_138 rfl ?_
            refine px_iload dx_Mo_argumentsThere_139 rfl ?_
            refine px_cV (Y := yy_Mo_argumentsThere) (Yc := yy_Mo_argument) (b := 717) (As := [.int (nI (m)), .int (nI (p)), .int (nI (agK F c j))]) dx_Mo_argumentsThere_141 ml_Mo_185 mv_Mo_argument np_Mo_argument ⟨_, rfl⟩ (by decide) rfl (by decide) rfl (Nat.le_of_ble_eq_true rfl) (Nat.le_of_ble_eq_true rfl) rk_Mo_argumentsThere_Mo_argument rfl (m_argument hM hF hW hm (by omega) (by omega)) zz_0 ?_
            refine px_iconst (v := 1) dx_Mo_argumentsThere_144 rfl ?_
            refine px_iaddN (a := agW (F 7 (40 * m + (p + 2))) (agK F c j)) (b := 1) dx_Mo_argumentsThere_145 ?_
            refine px_icmp_neN (a := agW (F 7 (40 * m + (p + 2))) ((agK F c j) + 1)) (b := (agW (F 7 (40 * m + (p + 2))) (agK F c j)) + 1) dx_Mo_argumentsThere_146 (by first | omega | (have := agW_lt (F 7 (40 * m + (p + 2))) (agK F c j); have := agW_lt (F 7 (40 * m + (p + 2))) (agK F c j + 1); omega) | (have := wdt_le (F 4 (3 * c + j)); omega)) (by first | omega | (have := agW_lt (F 7 (40 * m + (p + 2))) (agK F c j); have := agW_lt (F 7 (40 * m + (p + 2))) (agK F c j + 1); omega) | (have := wdt_le (F 4 (3 * c + j)); omega)) (fun c_146 => ?_) (fun c_146 => ?_)
            · refine px_iconst (v := 0) dx_Mo_argumentsThere_153 rfl ?_
              refine px_istore (lv' := [(6, .int (0)), (8, .int (nI (F 4 ((3 * c) + j)))), (0, .ref (717)), (1, .int (nI (m))), (2, .int (nI (p))), (3, .int (nI (c))), (4, .int (nI (b))), (5, .int (nI (agK F c j))), (7, .int (nI (j)))]) dx_Mo_argumentsThere_154 (by decide) rfl ?_
              refine px_iload dx_Mo_argumentsThere_156 rfl ?_
              refine px_iload dx_Mo_argumentsThere_158 rfl ?_
              refine px_cS (Y := yy_Mo_argumentsThere) (Yc := yy_Mo_words) (As := [.int (nI (F 4 ((3 * c) + j)))]) dx_Mo_argumentsThere_160 ml_Mo_99 ms_Mo_words np_Mo_words rfl (Nat.le_of_ble_eq_true rfl) (Nat.le_of_ble_eq_true rfl) rk_Mo_argumentsThere_Mo_words rfl (m_words (Nat.lt_of_le_of_lt (hW.2.2.2.2.1 _) (by decide))) zz_0 ?_
              refine px_iaddN (a := agK F c j) (b := wdt (F 4 ((3 * c) + j))) dx_Mo_argumentsThere_163 ?_
              refine px_istore (lv' := [(5, .int (nI ((agK F c j) + (wdt (F 4 ((3 * c) + j)))))), (6, .int (0)), (8, .int (nI (F 4 ((3 * c) + j)))), (0, .ref (717)), (1, .int (nI (m))), (2, .int (nI (p))), (3, .int (nI (c))), (4, .int (nI (b))), (7, .int (nI (j)))]) dx_Mo_argumentsThere_164 (by decide) rfl ?_
              refine px_iinc (v := (nI (j + 1))) (lv' := [(7, .int (nI (j + 1))), (5, .int (nI ((agK F c j) + (wdt (F 4 ((3 * c) + j)))))), (6, .int (0)), (8, .int (nI (F 4 ((3 * c) + j)))), (0, .ref (717)), (1, .int (nI (m))), (2, .int (nI (p))), (3, .int (nI (c))), (4, .int (nI (b)))]) dx_Mo_argumentsThere_166 rfl (nI_1 _) (by decide) rfl ?_
              refine px_goto dx_Mo_argumentsThere_169 ?_
              refine px_sub [4, 5, 6, 7, 8, 1, 2, 0] rfl ?_
              exact ih (j + 1) (false) (by omega) (by omega) (by simp only [agOK]; simp_all)
            · refine px_iconst (v := 1) dx_Mo_argumentsThere_149 rfl ?_
              refine px_goto dx_Mo_argumentsThere_150 ?_
              refine px_istore (lv' := [(6, .int (1)), (8, .int (nI (F 4 ((3 * c) + j)))), (0, .ref (717)), (1, .int (nI (m))), (2, .int (nI (p))), (3, .int (nI (c))), (4, .int (nI (b))), (5, .int (nI (agK F c j))), (7, .int (nI (j)))]) dx_Mo_argumentsThere_154 (by decide) rfl ?_
              refine px_iload dx_Mo_argumentsThere_156 rfl ?_
              refine px_iload dx_Mo_argumentsThere_158 rfl ?_
              refine px_cS (Y := yy_Mo_argumentsThere) (Yc := yy_Mo_words) (As := [.int (nI (F 4 ((3 * c) + j)))]) dx_Mo_argumentsThere_160 ml_Mo_99 ms_Mo_words np_Mo_words rfl (Nat.le_of_ble_eq_true rfl) (Nat.le_of_ble_eq_true rfl) rk_Mo_argumentsThere_Mo_words rfl (m_words (Nat.lt_of_le_of_lt (hW.2.2.2.2.1 _) (by decide))) zz_0 ?_
              refine px_iaddN (a := agK F c j) (b := wdt (F 4 ((3 * c) + j))) dx_Mo_argumentsThere_163 ?_
              refine px_istore (lv' := [(5, .int (nI ((agK F c j) + (wdt (F 4 ((3 * c) + j)))))), (6, .int (1)), (8, .int (nI (F 4 ((3 * c) + j)))), (0, .ref (717)), (1, .int (nI (m))), (2, .int (nI (p))), (3, .int (nI (c))), (4, .int (nI (b))), (7, .int (nI (j)))]) dx_Mo_argumentsThere_164 (by decide) rfl ?_
              refine px_iinc (v := (nI (j + 1))) (lv' := [(7, .int (nI (j + 1))), (5, .int (nI ((agK F c j) + (wdt (F 4 ((3 * c) + j)))))), (6, .int (1)), (8, .int (nI (F 4 ((3 * c) + j)))), (0, .ref (717)), (1, .int (nI (m))), (2, .int (nI (p))), (3, .int (nI (c))), (4, .int (nI (b)))]) dx_Mo_argumentsThere_166 rfl (nI_1 _) (by decide) rfl ?_
              refine px_goto dx_Mo_argumentsThere_169 ?_
              refine px_sub [4, 5, 6, 7, 8, 1, 2, 0] rfl ?_
              exact ih (j + 1) (true) (by omega) (by omega) (by simp only [agOK]; simp_all)
set_option maxRecDepth 100000 in
set_option maxHeartbeats 4000000 in
theorem m_argumentsThere {l : Launch} {G : fr_G} {σ : fr_S} (hM : MR σ) {F : Nat → Nat → Nat} (hF : MF σ F) (hW : FW F) {m p : Nat} (hm : m < 4) (hpl : p < 40) : CT l G yy_Mo_argumentsThere rm_Mo_argumentsThere [.ref (717), .int (nI (m)), .int (nI (p))] σ (some (.int (b2i (agT F m p)))) (σ) := by
  intro Post hp0
  have hp := hp0
  show PX l G yy_Mo_argumentsThere rm_Mo_argumentsThere _ false 742 0 0 0 [(0, .ref (717)), (1, .int (nI (m))), (2, .int (nI (p)))] [] σ
  have hp0 := hp
  have hc4 := hW.1
  refine px_aload_n dx_Mo_argumentsThere_0 rfl ?_
  refine px_iload_n dx_Mo_argumentsThere_1 rfl ?_
  refine px_iload_n dx_Mo_argumentsThere_2 rfl ?_
  by_cases hn : F 7 (40 * m + (p + 1)) ≤ 32767
  · refine px_cV (Y := yy_Mo_argumentsThere) (Yc := yy_Mo_number) (b := 717) (As := [.int (nI (m)), .int (nI (p))]) dx_Mo_argumentsThere_3 ml_Mo_176 mv_Mo_number np_Mo_number ⟨_, rfl⟩ (by decide) rfl (by decide) rfl (Nat.le_of_ble_eq_true rfl) (Nat.le_of_ble_eq_true rfl) rk_Mo_argumentsThere_Mo_number rfl (m_number_p hM (by omega) (hF.2.2.2.2.2.2.2 (40 * m + (p + 1)) (by omega)) (hW.2.2.2.2.2.2.2 _) hn) zz_0 ?_
    refine px_istore_n (lv' := [(3, .int (nI (F 7 (40 * m + (p + 1))))), (0, .ref (717)), (1, .int (nI (m))), (2, .int (nI (p)))]) dx_Mo_argumentsThere_6 (by decide) rfl ?_
    refine px_iload_n dx_Mo_argumentsThere_7 rfl ?_
    refine px_if_ltN (a := F 7 (40 * m + (p + 1))) dx_Mo_argumentsThere_8 (by first | omega | (have := opB_lt (hW.2.2.2.2.2.2.2 (40 * m + p)); omega) | (have := pwF_le hW (F 7 (40 * m + (p + 1))); omega)) (fun c_8 => ?_) (fun c_8 => ?_)
    · refine px_iconst (v := 0) dx_Mo_argumentsThere_21 rfl ?_
      exact px_zret dx_Mo_argumentsThere_22 rfl (by decide) (by (have e : agT F m p = false := by (simp only [agT, Bool.and_eq_false_iff, decide_eq_false_iff_not]; first | (left; omega) | (right; left; omega))); rw [e] at hp0; exact hp0)
    · refine px_iload_n dx_Mo_argumentsThere_11 rfl ?_
      refine px_aload_n dx_Mo_argumentsThere_12 rfl ?_
      refine px_getR (r := 719) dx_Mo_argumentsThere_13 fl_Mo_17 rfl (by decide) rfl (hM 6) ?_
      refine px_iconst (v := 0) dx_Mo_argumentsThere_16 rfl ?_
      refine px_ialdN (j := 0) dx_Mo_argumentsThere_17 rfl (by decide) (by decide) ?_
      refine px_eqi (y := nI (F 0 0)) hF.1 ?_
      refine px_icmp_ltN (a := F 7 (40 * m + (p + 1))) (b := F 0 0) dx_Mo_argumentsThere_18 (by first | omega | (have := opB_lt (hW.2.2.2.2.2.2.2 (40 * m + p)); omega) | (have := pwF_le hW (F 7 (40 * m + (p + 1))); omega)) (by first | omega | (have := opB_lt (hW.2.2.2.2.2.2.2 (40 * m + p)); omega) | (have := pwF_le hW (F 7 (40 * m + (p + 1))); omega)) (fun c_18 => ?_) (fun c_18 => ?_)
      · refine px_aload_n dx_Mo_argumentsThere_23 rfl ?_
        refine px_iload_n dx_Mo_argumentsThere_24 rfl ?_
        refine px_iload_n dx_Mo_argumentsThere_25 rfl ?_
        refine px_cV (Y := yy_Mo_argumentsThere) (Yc := yy_Mo_regB) (b := 717) (As := [.int (nI (m)), .int (nI (p))]) dx_Mo_argumentsThere_26 ml_Mo_182 mv_Mo_regB np_Mo_regB ⟨_, rfl⟩ (by decide) rfl (by decide) rfl (Nat.le_of_ble_eq_true rfl) (Nat.le_of_ble_eq_true rfl) rk_Mo_argumentsThere_Mo_regB rfl (m_regB hM (by omega) (hF.2.2.2.2.2.2.2 (40 * m + p) (by omega)) (hW.2.2.2.2.2.2.2 _)) zz_0 ?_
        refine px_istore (lv' := [(4, .int (nI (opB (F 7 (40 * m + p))))), (3, .int (nI (F 7 (40 * m + (p + 1))))), (0, .ref (717)), (1, .int (nI (m))), (2, .int (nI (p)))]) dx_Mo_argumentsThere_29 (by decide) rfl ?_
        refine px_iload dx_Mo_argumentsThere_31 rfl ?_
        refine px_iconst (v := 4) dx_Mo_argumentsThere_33 rfl ?_
        refine px_icmp_gtN (a := opB (F 7 (40 * m + p))) (b := 4) dx_Mo_argumentsThere_34 (by first | omega | (have := opB_lt (hW.2.2.2.2.2.2.2 (40 * m + p)); omega) | (have := pwF_le hW (F 7 (40 * m + (p + 1))); omega)) (by first | omega | (have := opB_lt (hW.2.2.2.2.2.2.2 (40 * m + p)); omega) | (have := pwF_le hW (F 7 (40 * m + (p + 1))); omega)) (fun c_34 => ?_) (fun c_34 => ?_)
        · refine px_iconst (v := 0) dx_Mo_argumentsThere_47 rfl ?_
          exact px_zret dx_Mo_argumentsThere_48 rfl (by decide) (by (have e : agT F m p = false := by (simp only [agT, Bool.and_eq_false_iff, decide_eq_false_iff_not]; first | (left; omega) | (right; left; omega))); rw [e] at hp0; exact hp0)
        · refine px_iload dx_Mo_argumentsThere_37 rfl ?_
          refine px_aload_n dx_Mo_argumentsThere_39 rfl ?_
          refine px_iload_n dx_Mo_argumentsThere_40 rfl ?_
          refine px_cV (Y := yy_Mo_argumentsThere) (Yc := yy_Mo_paramWords) (b := 717) (As := [.int (nI (F 7 (40 * m + (p + 1))))]) dx_Mo_argumentsThere_41 ml_Mo_107 mv_Mo_paramWords np_Mo_paramWords ⟨_, rfl⟩ (by decide) rfl (by decide) rfl (Nat.le_of_ble_eq_true rfl) (Nat.le_of_ble_eq_true rfl) rk_Mo_argumentsThere_Mo_paramWords rfl (m_paramWords (pt := fun k => F 4 (3 * (F 7 (40 * m + (p + 1))) + k)) hM (by omega) (hW.2.2.2.1 _) (hF.2.2.2.1 _ (by omega)) (fun k hk => hF.2.2.2.2.1 _ (by have := hW.2.2.2.1 (F 7 (40 * m + (p + 1))); omega)) (fun k => Nat.lt_of_le_of_lt (hW.2.2.2.2.1 _) (by decide))) zz_0 ?_
          refine px_icmp_eqN (a := opB (F 7 (40 * m + p))) (b := pwF F (F 7 (40 * m + (p + 1)))) dx_Mo_argumentsThere_44 (by first | omega | (have := opB_lt (hW.2.2.2.2.2.2.2 (40 * m + p)); omega) | (have := pwF_le hW (F 7 (40 * m + (p + 1))); omega)) (by first | omega | (have := opB_lt (hW.2.2.2.2.2.2.2 (40 * m + p)); omega) | (have := pwF_le hW (F 7 (40 * m + (p + 1))); omega)) (fun c_44 => ?_) (fun c_44 => ?_)
          · refine px_iconst (v := 0) dx_Mo_argumentsThere_49 rfl ?_
            refine px_istore (lv' := [(5, .int (0)), (4, .int (nI (opB (F 7 (40 * m + p))))), (3, .int (nI (F 7 (40 * m + (p + 1))))), (0, .ref (717)), (1, .int (nI (m))), (2, .int (nI (p)))]) dx_Mo_argumentsThere_50 (by decide) rfl ?_
            refine px_iconst (v := 1) dx_Mo_argumentsThere_52 rfl ?_
            refine px_istore (lv' := [(6, .int (1)), (5, .int (0)), (4, .int (nI (opB (F 7 (40 * m + p))))), (3, .int (nI (F 7 (40 * m + (p + 1))))), (0, .ref (717)), (1, .int (nI (m))), (2, .int (nI (p)))]) dx_Mo_argumentsThere_53 (by decide) rfl ?_
            refine px_iconst (v := 0) dx_Mo_argumentsThere_55 rfl ?_
            refine px_istore (lv' := [(7, .int (0)), (6, .int (1)), (5, .int (0)), (4, .int (nI (opB (F 7 (40 * m + p))))), (3, .int (nI (F 7 (40 * m + (p + 1))))), (0, .ref (717)), (1, .int (nI (m))), (2, .int (nI (p)))]) dx_Mo_argumentsThere_56 (by decide) rfl ?_
            refine px_sub [5, 6, 7, 4, 3, 2, 1, 0] rfl ?_
            refine m_argumentsThere_lp hM hF hW hm hpl c_18 ?_ 4 0 true (by have := hW.2.2.2.1 (F 7 (40 * m + (p + 1))); omega) (Nat.zero_le _) rfl
            (have e : agT F m p = agOK F m (F 7 (40 * m + (p + 1))) (F 7 (40 * m + (p + 2))) (F 3 (F 7 (40 * m + (p + 1)))) := by (simp only [agT]; simp_all))
            rw [e] at hp0
            exact hp0
          · refine px_iconst (v := 0) dx_Mo_argumentsThere_47 rfl ?_
            exact px_zret dx_Mo_argumentsThere_48 rfl (by decide) (by (have e : agT F m p = false := by (simp only [agT, Bool.and_eq_false_iff, decide_eq_false_iff_not]; first | (left; omega) | (right; left; omega))); rw [e] at hp0; exact hp0)
      · refine px_iconst (v := 0) dx_Mo_argumentsThere_21 rfl ?_
        exact px_zret dx_Mo_argumentsThere_22 rfl (by decide) (by (have e : agT F m p = false := by (simp only [agT, Bool.and_eq_false_iff, decide_eq_false_iff_not]; first | (left; omega) | (right; left; omega))); rw [e] at hp0; exact hp0)
  · refine px_cV (Y := yy_Mo_argumentsThere) (Yc := yy_Mo_number) (b := 717) (As := [.int (nI (m)), .int (nI (p))]) dx_Mo_argumentsThere_3 ml_Mo_176 mv_Mo_number np_Mo_number ⟨_, rfl⟩ (by decide) rfl (by decide) rfl (Nat.le_of_ble_eq_true rfl) (Nat.le_of_ble_eq_true rfl) rk_Mo_argumentsThere_Mo_number rfl (m_number hM (by omega) (hF.2.2.2.2.2.2.2 (40 * m + (p + 1)) (by omega)) (hW.2.2.2.2.2.2.2 _)) zz_0 ?_
    refine px_istore_n (lv' := [(3, .int (nmI (F 7 (40 * m + (p + 1))))), (0, .ref (717)), (1, .int (nI (m))), (2, .int (nI (p)))]) dx_Mo_argumentsThere_6 (by decide) rfl ?_
    refine px_iload_n dx_Mo_argumentsThere_7 rfl ?_
    refine px_if_lt dx_Mo_argumentsThere_8 (fun c_8 => ?_) (fun c_8 => ?_)
    · refine px_iconst (v := 0) dx_Mo_argumentsThere_21 rfl ?_
      exact px_zret dx_Mo_argumentsThere_22 rfl (by decide) (by (have e : agT F m p = false := by (simp only [agT, Bool.and_eq_false_iff, decide_eq_false_iff_not]; first | (left; omega) | (right; left; omega))); rw [e] at hp0; exact hp0)
    · exact absurd (nmI_n hn (hW.2.2.2.2.2.2.2 _)) c_8
/-- the registers, fields and methods that an instruction names are there -/
def nmW (F : Nat → Nat → Nat) (m p w w1 op : Nat) : Bool :=
  if cvt op = true then hsR F m (opA w) (gvO op) && hsR F m (opB w) (tkO op)
  else if jns op = true then (hsR F m (opN w) (jnO op) && hsR F m (opS w1) (jnO op)) && hsR F m (opN w1) (jnO op)
  else if cps op = true then (hsR F m (opN w) 1 && hsR F m (opS w1) (cpO op)) && hsR F m (opN w1) (cpO op)
  else if 50 ≤ op ∧ op ≤ 55 then hsR F m (opA w) 1 && hsR F m (opB w) 1
  else if 56 ≤ op ∧ op ≤ 61 then hsR F m (opN w) 1
  else if op = 1 then hsR F m (opA w) 1 && hsR F m (opB w) 1
  else if op = 4 then hsR F m (opA w) 2 && hsR F m (opB w) 2
  else if op ∈ [10, 15, 19] then hsR F m (opN w) 1
  else if op ∈ [11, 16, 22] then hsR F m (opN w) 2
  else if op = 18 then hsR F m (opA w) 1
  else if op ∈ [96, 103] then hsR F m (opN w) 1 && decide (w1 < F 1 0)
  else if op = 113 then agT F m p
  else true
def nmOK (F : Nat → Nat → Nat) (m p : Nat) : Bool := nmW F m p (F 7 (40 * m + p)) (F 7 (40 * m + (p + 1))) (opS (F 7 (40 * m + p)))
section NMW
variable {F : Nat → Nat → Nat} {m p w w1 op : Nat}
theorem nmW_0 (h : cvt op = true) : nmW F m p w w1 op = (hsR F m (opA w) (gvO op) && hsR F m (opB w) (tkO op)) := by unfold nmW; rw [if_pos h]
theorem nmW_1 (h0 : cvt op = false) (h : jns op = true) : nmW F m p w w1 op = ((hsR F m (opN w) (jnO op) && hsR F m (opS w1) (jnO op)) && hsR F m (opN w1) (jnO op)) := by unfold nmW; rw [if_neg (by simp [h0]), if_pos h]
theorem nmW_2 (h0 : cvt op = false) (h1 : jns op = false) (h : cps op = true) : nmW F m p w w1 op = ((hsR F m (opN w) 1 && hsR F m (opS w1) (cpO op)) && hsR F m (opN w1) (cpO op)) := by unfold nmW; rw [if_neg (by simp [h0]), if_neg (by simp [h1]), if_pos h]
theorem nmW_3 (h1 : 50 ≤ op) (h2 : op ≤ 55) : nmW F m p w w1 op = (hsR F m (opA w) 1 && hsR F m (opB w) 1) := by
  have h : op = 50 ∨ op = 51 ∨ op = 52 ∨ op = 53 ∨ op = 54 ∨ op = 55 := by omega
  rcases h with rfl | rfl | rfl | rfl | rfl | rfl <;> simp [nmW, cvt, jns, cps]
theorem nmW_4 (h1 : 56 ≤ op) (h2 : op ≤ 61) : nmW F m p w w1 op = hsR F m (opN w) 1 := by
  have h : op = 56 ∨ op = 57 ∨ op = 58 ∨ op = 59 ∨ op = 60 ∨ op = 61 := by omega
  rcases h with rfl | rfl | rfl | rfl | rfl | rfl <;> simp [nmW, cvt, jns, cps]
theorem nmW_5 (h : op ∈ [1]) : nmW F m p w w1 op = (hsR F m (opA w) 1 && hsR F m (opB w) 1) := by
  simp only [List.mem_cons, List.not_mem_nil, or_false] at h; subst h; simp [nmW, cvt, jns, cps]
theorem nmW_6 (h : op ∈ [4]) : nmW F m p w w1 op = (hsR F m (opA w) 2 && hsR F m (opB w) 2) := by
  simp only [List.mem_cons, List.not_mem_nil, or_false] at h; subst h; simp [nmW, cvt, jns, cps]
theorem nmW_7 (h : op ∈ [10, 15, 19]) : nmW F m p w w1 op = hsR F m (opN w) 1 := by
  simp only [List.mem_cons, List.not_mem_nil, or_false] at h; rcases h with rfl | rfl | rfl <;> simp [nmW, cvt, jns, cps]
theorem nmW_8 (h : op ∈ [11, 16, 22]) : nmW F m p w w1 op = hsR F m (opN w) 2 := by
  simp only [List.mem_cons, List.not_mem_nil, or_false] at h; rcases h with rfl | rfl | rfl <;> simp [nmW, cvt, jns, cps]
theorem nmW_9 (h : op ∈ [18]) : nmW F m p w w1 op = hsR F m (opA w) 1 := by
  simp only [List.mem_cons, List.not_mem_nil, or_false] at h; subst h; simp [nmW, cvt, jns, cps]
theorem nmW_10 (h : op ∈ [96, 103]) : nmW F m p w w1 op = (hsR F m (opN w) 1 && decide (w1 < F 1 0)) := by
  simp only [List.mem_cons, List.not_mem_nil, or_false] at h; rcases h with rfl | rfl <;> simp [nmW, cvt, jns, cps]
theorem nmW_11 (h : op ∈ [113]) : nmW F m p w w1 op = agT F m p := by
  simp only [List.mem_cons, List.not_mem_nil, or_false] at h; subst h; simp [nmW, cvt, jns, cps]
theorem nmW_12 (h0 : cvt op = false) (h1 : jns op = false) (h2 : cps op = false) (h3 : ¬ (50 ≤ op ∧ op ≤ 55)) (h4 : ¬ (56 ≤ op ∧ op ≤ 61)) (h : op ∉ [1, 4, 10, 11, 15, 16, 18, 19, 22, 96, 103, 113]) : nmW F m p w w1 op = true := by
  simp only [List.mem_cons, List.not_mem_nil, or_false, not_or] at h
  simp [nmW, h0, h1, h2, h3, h4, h]
end NMW
theorem gvO_lt (op : Nat) : gvO op < 256 := by unfold gvO; repeat' split
                                               all_goals decide
theorem tkO_lt (op : Nat) : tkO op < 256 := by unfold tkO; repeat' split
                                               all_goals decide
theorem jnO_lt (op : Nat) : jnO op < 256 := by unfold jnO; repeat' split
                                               all_goals decide
theorem cpO_lt (op : Nat) : cpO op < 256 := by unfold cpO; repeat' split
                                               all_goals decide
theorem opS_lt5 (w : Nat) : opS w < 100000 := Nat.lt_trans (opS_lt w) (by decide)
theorem opA_lt5 (w : Nat) : opA w < 100000 := Nat.lt_trans (opA_lt w) (by decide)
theorem opB_lt5 {F : Nat → Nat → Nat} (hW : FW F) (j : Nat) : opB (F 7 j) < 100000 := Nat.lt_trans (opB_lt (hW.2.2.2.2.2.2.2 j)) (by decide)
theorem opN_lt5 {F : Nat → Nat → Nat} (hW : FW F) (j : Nat) : opN (F 7 j) < 100000 := Nat.lt_trans (opN_lt (hW.2.2.2.2.2.2.2 j)) (by decide)

set_option maxRecDepth 100000 in
set_option maxHeartbeats 4000000 in
theorem m_namesGood {l : Launch} {G : fr_G} {σ : fr_S} (hM : MR σ) {F : Nat → Nat → Nat} (hF : MF σ F) (hW : FW F) {m p : Nat} (hm : m < 4) (hpl : p < 40) : CT l G yy_Mo_namesGood rm_Mo_namesGood [.ref (717), .int (nI (m)), .int (nI (p))] σ (some (.int (b2i (nmOK F m p)))) (σ) := by
  intro Post hp0
  have hp := hp0
  show PX l G yy_Mo_namesGood rm_Mo_namesGood _ false 742 0 0 0 [(0, .ref (717)), (1, .int (nI (m))), (2, .int (nI (p)))] [] σ
  refine px_aload_n dx_Mo_namesGood_0 rfl ?_
  refine px_iload_n dx_Mo_namesGood_1 rfl ?_
  refine px_iload_n dx_Mo_namesGood_2 rfl ?_
  refine px_cV (Y := yy_Mo_namesGood) (Yc := yy_Mo_op) (b := 717) (As := [.int (nI (m)), .int (nI (p))]) dx_Mo_namesGood_3 ml_Mo_173 mv_Mo_op np_Mo_op ⟨_, rfl⟩ (by decide) rfl (by decide) rfl (Nat.le_of_ble_eq_true rfl) (Nat.le_of_ble_eq_true rfl) rk_Mo_namesGood_Mo_op rfl (m_op hM (by omega) (hF.2.2.2.2.2.2.2 (40 * m + p) (by omega)) (hW.2.2.2.2.2.2.2 _)) zz_0 ?_
  refine px_istore_n (lv' := [(3, .int (nI (opS (F 7 (40 * m + p))))), (0, .ref (717)), (1, .int (nI (m))), (2, .int (nI (p)))]) dx_Mo_namesGood_6 (by decide) rfl ?_
  refine px_iload_n dx_Mo_namesGood_7 rfl ?_
  refine px_cS (Y := yy_Mo_namesGood) (Yc := yy_Mo_converts) (As := [.int (nI (opS (F 7 (40 * m + p))))]) dx_Mo_namesGood_8 ml_Mo_163 ms_Mo_converts np_Mo_converts rfl (Nat.le_of_ble_eq_true rfl) (Nat.le_of_ble_eq_true rfl) rk_Mo_namesGood_Mo_converts rfl (m_converts (opS_lt _)) zz_0 ?_
  refine px_if_eqB dx_Mo_namesGood_11 (fun c_11 => ?_) (fun c_11 => ?_)
  · refine px_iload_n dx_Mo_namesGood_56 rfl ?_
    refine px_cS (Y := yy_Mo_namesGood) (Yc := yy_Mo_joins) (As := [.int (nI (opS (F 7 (40 * m + p))))]) dx_Mo_namesGood_57 ml_Mo_170 ms_Mo_joins np_Mo_joins rfl (Nat.le_of_ble_eq_true rfl) (Nat.le_of_ble_eq_true rfl) rk_Mo_namesGood_Mo_joins rfl (m_joins (opS_lt _)) zz_0 ?_
    refine px_if_eqB dx_Mo_namesGood_60 (fun c_60 => ?_) (fun c_60 => ?_)
    · refine px_iload_n dx_Mo_namesGood_123 rfl ?_
      refine px_cS (Y := yy_Mo_namesGood) (Yc := yy_Mo_compares) (As := [.int (nI (opS (F 7 (40 * m + p))))]) dx_Mo_namesGood_124 ml_Mo_167 ms_Mo_compares np_Mo_compares rfl (Nat.le_of_ble_eq_true rfl) (Nat.le_of_ble_eq_true rfl) rk_Mo_namesGood_Mo_compares rfl (m_compares (opS_lt _)) zz_0 ?_
      refine px_if_eqB dx_Mo_namesGood_127 (fun c_127 => ?_) (fun c_127 => ?_)
      · refine px_iload_n dx_Mo_namesGood_187 rfl ?_
        refine px_bipush (v := 50) dx_Mo_namesGood_188 rfl ?_
        refine px_icmp_ltN (a := opS (F 7 (40 * m + p))) (b := 50) dx_Mo_namesGood_190 (by first | omega | (have := opS_lt (F 7 (40 * m + p)); omega) | (have := hW.2.1; omega) | (have := hW.2.2.2.2.2.2.2 (40 * m + (p + 1)); omega)) (by first | omega | (have := opS_lt (F 7 (40 * m + p)); omega) | (have := hW.2.1; omega) | (have := hW.2.2.2.2.2.2.2 (40 * m + (p + 1)); omega)) (fun c_190 => ?_) (fun c_190 => ?_)
        · refine px_iload_n dx_Mo_namesGood_235 rfl ?_
          refine px_bipush (v := 56) dx_Mo_namesGood_236 rfl ?_
          refine px_icmp_ltN (a := opS (F 7 (40 * m + p))) (b := 56) dx_Mo_namesGood_238 (by first | omega | (have := opS_lt (F 7 (40 * m + p)); omega) | (have := hW.2.1; omega) | (have := hW.2.2.2.2.2.2.2 (40 * m + (p + 1)); omega)) (by first | omega | (have := opS_lt (F 7 (40 * m + p)); omega) | (have := hW.2.1; omega) | (have := hW.2.2.2.2.2.2.2 (40 * m + (p + 1)); omega)) (fun c_238 => ?_) (fun c_238 => ?_)
          · refine px_iload_n dx_Mo_namesGood_260 rfl ?_
            by_cases k_261_0 : opS (F 7 (40 * m + p)) ∈ ([1] : List Nat)
            · refine px_lookG (e := opS (F 7 (40 * m + p))) (off := 107) [1] dx_Mo_namesGood_261 (by first | omega | (have := opS_lt (F 7 (40 * m + p)); omega) | (have := hW.2.1; omega) | (have := hW.2.2.2.2.2.2.2 (40 * m + (p + 1)); omega)) k_261_0 (by decide) (by decide) rfl ?_
              refine px_aload_n dx_Mo_namesGood_368 rfl ?_
              refine px_iload_n dx_Mo_namesGood_369 rfl ?_
              refine px_aload_n dx_Mo_namesGood_370 rfl ?_
              refine px_iload_n dx_Mo_namesGood_371 rfl ?_
              refine px_iload_n dx_Mo_namesGood_372 rfl ?_
              refine px_cV (Y := yy_Mo_namesGood) (Yc := yy_Mo_regA) (b := 717) (As := [.int (nI (m)), .int (nI (p))]) dx_Mo_namesGood_373 ml_Mo_193 mv_Mo_regA np_Mo_regA ⟨_, rfl⟩ (by decide) rfl (by decide) rfl (Nat.le_of_ble_eq_true rfl) (Nat.le_of_ble_eq_true rfl) rk_Mo_namesGood_Mo_regA rfl (m_regA hM (by omega) (hF.2.2.2.2.2.2.2 (40 * m + p) (by omega)) (hW.2.2.2.2.2.2.2 _)) zz_0 ?_
              refine px_iconst (v := 1) dx_Mo_namesGood_376 rfl ?_
              refine px_cV (Y := yy_Mo_namesGood) (Yc := yy_Mo_has) (b := 717) (As := [.int (nI (m)), .int (nI (opA (F 7 (40 * m + p)))), .int (1)]) dx_Mo_namesGood_377 ml_Mo_189 mv_Mo_has np_Mo_has ⟨_, rfl⟩ (by decide) rfl (by decide) rfl (Nat.le_of_ble_eq_true rfl) (Nat.le_of_ble_eq_true rfl) rk_Mo_namesGood_Mo_has rfl (m_has (t := 1) hM hF hW hm (opA_lt5 _) (by decide)) zz_0 ?_
              refine px_if_eqB dx_Mo_namesGood_380 (fun c_380 => ?_) (fun c_380 => ?_)
              · refine px_iconst (v := 0) dx_Mo_namesGood_402 rfl ?_
                exact px_zret dx_Mo_namesGood_403 rfl (by decide) (by (have e : nmOK F m p = false := by (unfold nmOK; rw [nmW_5 (by assumption)]; simp_all)); rw [e] at hp0; exact hp0)
              · refine px_aload_n dx_Mo_namesGood_383 rfl ?_
                refine px_iload_n dx_Mo_namesGood_384 rfl ?_
                refine px_aload_n dx_Mo_namesGood_385 rfl ?_
                refine px_iload_n dx_Mo_namesGood_386 rfl ?_
                refine px_iload_n dx_Mo_namesGood_387 rfl ?_
                refine px_cV (Y := yy_Mo_namesGood) (Yc := yy_Mo_regB) (b := 717) (As := [.int (nI (m)), .int (nI (p))]) dx_Mo_namesGood_388 ml_Mo_182 mv_Mo_regB np_Mo_regB ⟨_, rfl⟩ (by decide) rfl (by decide) rfl (Nat.le_of_ble_eq_true rfl) (Nat.le_of_ble_eq_true rfl) rk_Mo_namesGood_Mo_regB rfl (m_regB hM (by omega) (hF.2.2.2.2.2.2.2 (40 * m + p) (by omega)) (hW.2.2.2.2.2.2.2 _)) zz_0 ?_
                refine px_iconst (v := 1) dx_Mo_namesGood_391 rfl ?_
                refine px_cV (Y := yy_Mo_namesGood) (Yc := yy_Mo_has) (b := 717) (As := [.int (nI (m)), .int (nI (opB (F 7 (40 * m + p)))), .int (1)]) dx_Mo_namesGood_392 ml_Mo_189 mv_Mo_has np_Mo_has ⟨_, rfl⟩ (by decide) rfl (by decide) rfl (Nat.le_of_ble_eq_true rfl) (Nat.le_of_ble_eq_true rfl) rk_Mo_namesGood_Mo_has rfl (m_has (t := 1) hM hF hW hm (opB_lt5 hW _) (by decide)) zz_0 ?_
                refine px_if_eqB dx_Mo_namesGood_395 (fun c_395 => ?_) (fun c_395 => ?_)
                · refine px_iconst (v := 0) dx_Mo_namesGood_402 rfl ?_
                  exact px_zret dx_Mo_namesGood_403 rfl (by decide) (by (have e : nmOK F m p = false := by (unfold nmOK; rw [nmW_5 (by assumption)]; simp_all)); rw [e] at hp0; exact hp0)
                · refine px_iconst (v := 1) dx_Mo_namesGood_398 rfl ?_
                  refine px_goto dx_Mo_namesGood_399 ?_
                  exact px_zret dx_Mo_namesGood_403 rfl (by decide) (by (have e : nmOK F m p = true := by (unfold nmOK; rw [nmW_5 (by assumption)]; simp_all)); rw [e] at hp0; exact hp0)
            by_cases k_261_1 : opS (F 7 (40 * m + p)) ∈ ([4] : List Nat)
            · refine px_lookG (e := opS (F 7 (40 * m + p))) (off := 143) [4] dx_Mo_namesGood_261 (by first | omega | (have := opS_lt (F 7 (40 * m + p)); omega) | (have := hW.2.1; omega) | (have := hW.2.2.2.2.2.2.2 (40 * m + (p + 1)); omega)) k_261_1 (by decide) (by decide) rfl ?_
              refine px_aload_n dx_Mo_namesGood_404 rfl ?_
              refine px_iload_n dx_Mo_namesGood_405 rfl ?_
              refine px_aload_n dx_Mo_namesGood_406 rfl ?_
              refine px_iload_n dx_Mo_namesGood_407 rfl ?_
              refine px_iload_n dx_Mo_namesGood_408 rfl ?_
              refine px_cV (Y := yy_Mo_namesGood) (Yc := yy_Mo_regA) (b := 717) (As := [.int (nI (m)), .int (nI (p))]) dx_Mo_namesGood_409 ml_Mo_193 mv_Mo_regA np_Mo_regA ⟨_, rfl⟩ (by decide) rfl (by decide) rfl (Nat.le_of_ble_eq_true rfl) (Nat.le_of_ble_eq_true rfl) rk_Mo_namesGood_Mo_regA rfl (m_regA hM (by omega) (hF.2.2.2.2.2.2.2 (40 * m + p) (by omega)) (hW.2.2.2.2.2.2.2 _)) zz_0 ?_
              refine px_iconst (v := 2) dx_Mo_namesGood_412 rfl ?_
              refine px_cV (Y := yy_Mo_namesGood) (Yc := yy_Mo_has) (b := 717) (As := [.int (nI (m)), .int (nI (opA (F 7 (40 * m + p)))), .int (2)]) dx_Mo_namesGood_413 ml_Mo_189 mv_Mo_has np_Mo_has ⟨_, rfl⟩ (by decide) rfl (by decide) rfl (Nat.le_of_ble_eq_true rfl) (Nat.le_of_ble_eq_true rfl) rk_Mo_namesGood_Mo_has rfl (m_has (t := 2) hM hF hW hm (opA_lt5 _) (by decide)) zz_0 ?_
              refine px_if_eqB dx_Mo_namesGood_416 (fun c_416 => ?_) (fun c_416 => ?_)
              · refine px_iconst (v := 0) dx_Mo_namesGood_438 rfl ?_
                exact px_zret dx_Mo_namesGood_439 rfl (by decide) (by (have e : nmOK F m p = false := by (unfold nmOK; rw [nmW_6 (by assumption)]; simp_all)); rw [e] at hp0; exact hp0)
              · refine px_aload_n dx_Mo_namesGood_419 rfl ?_
                refine px_iload_n dx_Mo_namesGood_420 rfl ?_
                refine px_aload_n dx_Mo_namesGood_421 rfl ?_
                refine px_iload_n dx_Mo_namesGood_422 rfl ?_
                refine px_iload_n dx_Mo_namesGood_423 rfl ?_
                refine px_cV (Y := yy_Mo_namesGood) (Yc := yy_Mo_regB) (b := 717) (As := [.int (nI (m)), .int (nI (p))]) dx_Mo_namesGood_424 ml_Mo_182 mv_Mo_regB np_Mo_regB ⟨_, rfl⟩ (by decide) rfl (by decide) rfl (Nat.le_of_ble_eq_true rfl) (Nat.le_of_ble_eq_true rfl) rk_Mo_namesGood_Mo_regB rfl (m_regB hM (by omega) (hF.2.2.2.2.2.2.2 (40 * m + p) (by omega)) (hW.2.2.2.2.2.2.2 _)) zz_0 ?_
                refine px_iconst (v := 2) dx_Mo_namesGood_427 rfl ?_
                refine px_cV (Y := yy_Mo_namesGood) (Yc := yy_Mo_has) (b := 717) (As := [.int (nI (m)), .int (nI (opB (F 7 (40 * m + p)))), .int (2)]) dx_Mo_namesGood_428 ml_Mo_189 mv_Mo_has np_Mo_has ⟨_, rfl⟩ (by decide) rfl (by decide) rfl (Nat.le_of_ble_eq_true rfl) (Nat.le_of_ble_eq_true rfl) rk_Mo_namesGood_Mo_has rfl (m_has (t := 2) hM hF hW hm (opB_lt5 hW _) (by decide)) zz_0 ?_
                refine px_if_eqB dx_Mo_namesGood_431 (fun c_431 => ?_) (fun c_431 => ?_)
                · refine px_iconst (v := 0) dx_Mo_namesGood_438 rfl ?_
                  exact px_zret dx_Mo_namesGood_439 rfl (by decide) (by (have e : nmOK F m p = false := by (unfold nmOK; rw [nmW_6 (by assumption)]; simp_all)); rw [e] at hp0; exact hp0)
                · refine px_iconst (v := 1) dx_Mo_namesGood_434 rfl ?_
                  refine px_goto dx_Mo_namesGood_435 ?_
                  exact px_zret dx_Mo_namesGood_439 rfl (by decide) (by (have e : nmOK F m p = true := by (unfold nmOK; rw [nmW_6 (by assumption)]; simp_all)); rw [e] at hp0; exact hp0)
            by_cases k_261_2 : opS (F 7 (40 * m + p)) ∈ ([10, 15, 19] : List Nat)
            · refine px_lookG (e := opS (F 7 (40 * m + p))) (off := 179) [10, 15, 19] dx_Mo_namesGood_261 (by first | omega | (have := opS_lt (F 7 (40 * m + p)); omega) | (have := hW.2.1; omega) | (have := hW.2.2.2.2.2.2.2 (40 * m + (p + 1)); omega)) k_261_2 (by decide) (by decide) rfl ?_
              refine px_aload_n dx_Mo_namesGood_440 rfl ?_
              refine px_iload_n dx_Mo_namesGood_441 rfl ?_
              refine px_aload_n dx_Mo_namesGood_442 rfl ?_
              refine px_iload_n dx_Mo_namesGood_443 rfl ?_
              refine px_iload_n dx_Mo_namesGood_444 rfl ?_
              refine px_cV (Y := yy_Mo_namesGood) (Yc := yy_Mo_regAA) (b := 717) (As := [.int (nI (m)), .int (nI (p))]) dx_Mo_namesGood_445 ml_Mo_179 mv_Mo_regAA np_Mo_regAA ⟨_, rfl⟩ (by decide) rfl (by decide) rfl (Nat.le_of_ble_eq_true rfl) (Nat.le_of_ble_eq_true rfl) rk_Mo_namesGood_Mo_regAA rfl (m_regAA hM (by omega) (hF.2.2.2.2.2.2.2 (40 * m + p) (by omega)) (hW.2.2.2.2.2.2.2 _)) zz_0 ?_
              refine px_iconst (v := 1) dx_Mo_namesGood_448 rfl ?_
              refine px_cV (Y := yy_Mo_namesGood) (Yc := yy_Mo_has) (b := 717) (As := [.int (nI (m)), .int (nI (opN (F 7 (40 * m + p)))), .int (1)]) dx_Mo_namesGood_449 ml_Mo_189 mv_Mo_has np_Mo_has ⟨_, rfl⟩ (by decide) rfl (by decide) rfl (Nat.le_of_ble_eq_true rfl) (Nat.le_of_ble_eq_true rfl) rk_Mo_namesGood_Mo_has rfl (m_has (t := 1) hM hF hW hm (opN_lt5 hW _) (by decide)) zz_0 ?_
              exact px_zret dx_Mo_namesGood_452 rfl (b2i_01 _) (by (have e : nmOK F m p = hsR F m (opN (F 7 (40 * m + p))) (1) := by (unfold nmOK; rw [nmW_7 (by assumption)])); rw [e] at hp0; exact hp0)
            by_cases k_261_3 : opS (F 7 (40 * m + p)) ∈ ([11, 16, 22] : List Nat)
            · refine px_lookG (e := opS (F 7 (40 * m + p))) (off := 192) [11, 16, 22] dx_Mo_namesGood_261 (by first | omega | (have := opS_lt (F 7 (40 * m + p)); omega) | (have := hW.2.1; omega) | (have := hW.2.2.2.2.2.2.2 (40 * m + (p + 1)); omega)) k_261_3 (by decide) (by decide) rfl ?_
              refine px_aload_n dx_Mo_namesGood_453 rfl ?_
              refine px_iload_n dx_Mo_namesGood_454 rfl ?_
              refine px_aload_n dx_Mo_namesGood_455 rfl ?_
              refine px_iload_n dx_Mo_namesGood_456 rfl ?_
              refine px_iload_n dx_Mo_namesGood_457 rfl ?_
              refine px_cV (Y := yy_Mo_namesGood) (Yc := yy_Mo_regAA) (b := 717) (As := [.int (nI (m)), .int (nI (p))]) dx_Mo_namesGood_458 ml_Mo_179 mv_Mo_regAA np_Mo_regAA ⟨_, rfl⟩ (by decide) rfl (by decide) rfl (Nat.le_of_ble_eq_true rfl) (Nat.le_of_ble_eq_true rfl) rk_Mo_namesGood_Mo_regAA rfl (m_regAA hM (by omega) (hF.2.2.2.2.2.2.2 (40 * m + p) (by omega)) (hW.2.2.2.2.2.2.2 _)) zz_0 ?_
              refine px_iconst (v := 2) dx_Mo_namesGood_461 rfl ?_
              refine px_cV (Y := yy_Mo_namesGood) (Yc := yy_Mo_has) (b := 717) (As := [.int (nI (m)), .int (nI (opN (F 7 (40 * m + p)))), .int (2)]) dx_Mo_namesGood_462 ml_Mo_189 mv_Mo_has np_Mo_has ⟨_, rfl⟩ (by decide) rfl (by decide) rfl (Nat.le_of_ble_eq_true rfl) (Nat.le_of_ble_eq_true rfl) rk_Mo_namesGood_Mo_has rfl (m_has (t := 2) hM hF hW hm (opN_lt5 hW _) (by decide)) zz_0 ?_
              exact px_zret dx_Mo_namesGood_465 rfl (b2i_01 _) (by (have e : nmOK F m p = hsR F m (opN (F 7 (40 * m + p))) (2) := by (unfold nmOK; rw [nmW_8 (by assumption)])); rw [e] at hp0; exact hp0)
            by_cases k_261_4 : opS (F 7 (40 * m + p)) ∈ ([18] : List Nat)
            · refine px_lookG (e := opS (F 7 (40 * m + p))) (off := 205) [18] dx_Mo_namesGood_261 (by first | omega | (have := opS_lt (F 7 (40 * m + p)); omega) | (have := hW.2.1; omega) | (have := hW.2.2.2.2.2.2.2 (40 * m + (p + 1)); omega)) k_261_4 (by decide) (by decide) rfl ?_
              refine px_aload_n dx_Mo_namesGood_466 rfl ?_
              refine px_iload_n dx_Mo_namesGood_467 rfl ?_
              refine px_aload_n dx_Mo_namesGood_468 rfl ?_
              refine px_iload_n dx_Mo_namesGood_469 rfl ?_
              refine px_iload_n dx_Mo_namesGood_470 rfl ?_
              refine px_cV (Y := yy_Mo_namesGood) (Yc := yy_Mo_regA) (b := 717) (As := [.int (nI (m)), .int (nI (p))]) dx_Mo_namesGood_471 ml_Mo_193 mv_Mo_regA np_Mo_regA ⟨_, rfl⟩ (by decide) rfl (by decide) rfl (Nat.le_of_ble_eq_true rfl) (Nat.le_of_ble_eq_true rfl) rk_Mo_namesGood_Mo_regA rfl (m_regA hM (by omega) (hF.2.2.2.2.2.2.2 (40 * m + p) (by omega)) (hW.2.2.2.2.2.2.2 _)) zz_0 ?_
              refine px_iconst (v := 1) dx_Mo_namesGood_474 rfl ?_
              refine px_cV (Y := yy_Mo_namesGood) (Yc := yy_Mo_has) (b := 717) (As := [.int (nI (m)), .int (nI (opA (F 7 (40 * m + p)))), .int (1)]) dx_Mo_namesGood_475 ml_Mo_189 mv_Mo_has np_Mo_has ⟨_, rfl⟩ (by decide) rfl (by decide) rfl (Nat.le_of_ble_eq_true rfl) (Nat.le_of_ble_eq_true rfl) rk_Mo_namesGood_Mo_has rfl (m_has (t := 1) hM hF hW hm (opA_lt5 _) (by decide)) zz_0 ?_
              exact px_zret dx_Mo_namesGood_478 rfl (b2i_01 _) (by (have e : nmOK F m p = hsR F m (opA (F 7 (40 * m + p))) (1) := by (unfold nmOK; rw [nmW_9 (by assumption)])); rw [e] at hp0; exact hp0)
            by_cases k_261_5 : opS (F 7 (40 * m + p)) ∈ ([96, 103] : List Nat)
            · refine px_lookG (e := opS (F 7 (40 * m + p))) (off := 218) [96, 103] dx_Mo_namesGood_261 (by first | omega | (have := opS_lt (F 7 (40 * m + p)); omega) | (have := hW.2.1; omega) | (have := hW.2.2.2.2.2.2.2 (40 * m + (p + 1)); omega)) k_261_5 (by decide) (by decide) rfl ?_
              refine px_aload_n dx_Mo_namesGood_479 rfl ?_
              refine px_iload_n dx_Mo_namesGood_480 rfl ?_
              refine px_aload_n dx_Mo_namesGood_481 rfl ?_
              refine px_iload_n dx_Mo_namesGood_482 rfl ?_
              refine px_iload_n dx_Mo_namesGood_483 rfl ?_
              refine px_cV (Y := yy_Mo_namesGood) (Yc := yy_Mo_regAA) (b := 717) (As := [.int (nI (m)), .int (nI (p))]) dx_Mo_namesGood_484 ml_Mo_179 mv_Mo_regAA np_Mo_regAA ⟨_, rfl⟩ (by decide) rfl (by decide) rfl (Nat.le_of_ble_eq_true rfl) (Nat.le_of_ble_eq_true rfl) rk_Mo_namesGood_Mo_regAA rfl (m_regAA hM (by omega) (hF.2.2.2.2.2.2.2 (40 * m + p) (by omega)) (hW.2.2.2.2.2.2.2 _)) zz_0 ?_
              refine px_iconst (v := 1) dx_Mo_namesGood_487 rfl ?_
              refine px_cV (Y := yy_Mo_namesGood) (Yc := yy_Mo_has) (b := 717) (As := [.int (nI (m)), .int (nI (opN (F 7 (40 * m + p)))), .int (1)]) dx_Mo_namesGood_488 ml_Mo_189 mv_Mo_has np_Mo_has ⟨_, rfl⟩ (by decide) rfl (by decide) rfl (Nat.le_of_ble_eq_true rfl) (Nat.le_of_ble_eq_true rfl) rk_Mo_namesGood_Mo_has rfl (m_has (t := 1) hM hF hW hm (opN_lt5 hW _) (by decide)) zz_0 ?_
              refine px_if_eqB dx_Mo_namesGood_491 (fun c_491 => ?_) (fun c_491 => ?_)
              · refine px_iconst (v := 0) dx_Mo_namesGood_522 rfl ?_
                exact px_zret dx_Mo_namesGood_523 rfl (by decide) (by (have e : nmOK F m p = false := by (unfold nmOK; rw [nmW_10 (by assumption)]; have h14 := hW.2.1; first | (simp_all; done) | (simp_all; omega) | (simp only [Bool.and_eq_false_iff, decide_eq_false_iff_not]; right; omega))); rw [e] at hp0; exact hp0)
              · refine px_aload_n dx_Mo_namesGood_494 rfl ?_
                refine px_iload_n dx_Mo_namesGood_495 rfl ?_
                refine px_iload_n dx_Mo_namesGood_496 rfl ?_
                by_cases hn : F 7 (40 * m + (p + 1)) ≤ 32767
                · refine px_cV (Y := yy_Mo_namesGood) (Yc := yy_Mo_number) (b := 717) (As := [.int (nI (m)), .int (nI (p))]) dx_Mo_namesGood_497 ml_Mo_176 mv_Mo_number np_Mo_number ⟨_, rfl⟩ (by decide) rfl (by decide) rfl (Nat.le_of_ble_eq_true rfl) (Nat.le_of_ble_eq_true rfl) rk_Mo_namesGood_Mo_number rfl (m_number_p hM (by omega) (hF.2.2.2.2.2.2.2 (40 * m + (p + 1)) (by omega)) (hW.2.2.2.2.2.2.2 _) hn) zz_0 ?_
                  refine px_if_ltN (a := F 7 (40 * m + (p + 1))) dx_Mo_namesGood_500 (by first | omega | (have := opS_lt (F 7 (40 * m + p)); omega) | (have := hW.2.1; omega) | (have := hW.2.2.2.2.2.2.2 (40 * m + (p + 1)); omega)) (fun c_500 => ?_) (fun c_500 => ?_)
                  · refine px_iconst (v := 0) dx_Mo_namesGood_522 rfl ?_
                    exact px_zret dx_Mo_namesGood_523 rfl (by decide) (by (have e : nmOK F m p = false := by (unfold nmOK; rw [nmW_10 (by assumption)]; have h14 := hW.2.1; first | (simp_all; done) | (simp_all; omega) | (simp only [Bool.and_eq_false_iff, decide_eq_false_iff_not]; right; omega))); rw [e] at hp0; exact hp0)
                  · refine px_aload_n dx_Mo_namesGood_503 rfl ?_
                    refine px_iload_n dx_Mo_namesGood_504 rfl ?_
                    refine px_iload_n dx_Mo_namesGood_505 rfl ?_
                    by_cases hn : F 7 (40 * m + (p + 1)) ≤ 32767
                    · refine px_cV (Y := yy_Mo_namesGood) (Yc := yy_Mo_number) (b := 717) (As := [.int (nI (m)), .int (nI (p))]) dx_Mo_namesGood_506 ml_Mo_176 mv_Mo_number np_Mo_number ⟨_, rfl⟩ (by decide) rfl (by decide) rfl (Nat.le_of_ble_eq_true rfl) (Nat.le_of_ble_eq_true rfl) rk_Mo_namesGood_Mo_number rfl (m_number_p hM (by omega) (hF.2.2.2.2.2.2.2 (40 * m + (p + 1)) (by omega)) (hW.2.2.2.2.2.2.2 _) hn) zz_0 ?_
                      refine px_aload_n dx_Mo_namesGood_509 rfl ?_
                      refine px_getR (r := 720) dx_Mo_namesGood_510 fl_Mo_20 rfl (by decide) rfl (hM 7) ?_
                      refine px_iconst (v := 0) dx_Mo_namesGood_513 rfl ?_
                      refine px_ialdN (j := 0) dx_Mo_namesGood_514 rfl (by decide) (by decide) ?_
                      refine px_eqi (y := nI (F 1 0)) hF.2.1 ?_
                      refine px_icmp_geN (a := F 7 (40 * m + (p + 1))) (b := F 1 0) dx_Mo_namesGood_515 (by first | omega | (have := opS_lt (F 7 (40 * m + p)); omega) | (have := hW.2.1; omega) | (have := hW.2.2.2.2.2.2.2 (40 * m + (p + 1)); omega)) (by first | omega | (have := opS_lt (F 7 (40 * m + p)); omega) | (have := hW.2.1; omega) | (have := hW.2.2.2.2.2.2.2 (40 * m + (p + 1)); omega)) (fun c_515 => ?_) (fun c_515 => ?_)
                      · refine px_iconst (v := 0) dx_Mo_namesGood_522 rfl ?_
                        exact px_zret dx_Mo_namesGood_523 rfl (by decide) (by (have e : nmOK F m p = false := by (unfold nmOK; rw [nmW_10 (by assumption)]; have h14 := hW.2.1; first | (simp_all; done) | (simp_all; omega) | (simp only [Bool.and_eq_false_iff, decide_eq_false_iff_not]; right; omega))); rw [e] at hp0; exact hp0)
                      · refine px_iconst (v := 1) dx_Mo_namesGood_518 rfl ?_
                        refine px_goto dx_Mo_namesGood_519 ?_
                        exact px_zret dx_Mo_namesGood_523 rfl (by decide) (by (have e : nmOK F m p = true := by (unfold nmOK; rw [nmW_10 (by assumption)]; have h14 := hW.2.1; first | (simp_all; done) | (simp_all; omega) | (simp only [Bool.and_eq_false_iff, decide_eq_false_iff_not]; right; omega))); rw [e] at hp0; exact hp0)
                    · refine px_cV (Y := yy_Mo_namesGood) (Yc := yy_Mo_number) (b := 717) (As := [.int (nI (m)), .int (nI (p))]) dx_Mo_namesGood_506 ml_Mo_176 mv_Mo_number np_Mo_number ⟨_, rfl⟩ (by decide) rfl (by decide) rfl (Nat.le_of_ble_eq_true rfl) (Nat.le_of_ble_eq_true rfl) rk_Mo_namesGood_Mo_number rfl (m_number hM (by omega) (hF.2.2.2.2.2.2.2 (40 * m + (p + 1)) (by omega)) (hW.2.2.2.2.2.2.2 _)) zz_0 ?_
                      refine px_aload_n dx_Mo_namesGood_509 rfl ?_
                      refine px_getR (r := 720) dx_Mo_namesGood_510 fl_Mo_20 rfl (by decide) rfl (hM 7) ?_
                      refine px_iconst (v := 0) dx_Mo_namesGood_513 rfl ?_
                      refine px_ialdN (j := 0) dx_Mo_namesGood_514 rfl (by decide) (by decide) ?_
                      refine px_eqi (y := nI (F 1 0)) hF.2.1 ?_
                      refine px_icmp_ge dx_Mo_namesGood_515 (fun c_515 => ?_) (fun c_515 => ?_)
                      · refine px_iconst (v := 0) dx_Mo_namesGood_522 rfl ?_
                        exact px_zret dx_Mo_namesGood_523 rfl (by decide) (by (have e : nmOK F m p = false := by (unfold nmOK; rw [nmW_10 (by assumption)]; have h14 := hW.2.1; first | (simp_all; done) | (simp_all; omega) | (simp only [Bool.and_eq_false_iff, decide_eq_false_iff_not]; right; omega))); rw [e] at hp0; exact hp0)
                      · refine px_iconst (v := 1) dx_Mo_namesGood_518 rfl ?_
                        refine px_goto dx_Mo_namesGood_519 ?_
                        exact px_zret dx_Mo_namesGood_523 rfl (by decide) (by (have e : nmOK F m p = true := by (unfold nmOK; rw [nmW_10 (by assumption)]; have h14 := hW.2.1; first | (simp_all; done) | (simp_all; omega) | (simp only [Bool.and_eq_false_iff, decide_eq_false_iff_not]; right; omega))); rw [e] at hp0; exact hp0)
                · refine px_cV (Y := yy_Mo_namesGood) (Yc := yy_Mo_number) (b := 717) (As := [.int (nI (m)), .int (nI (p))]) dx_Mo_namesGood_497 ml_Mo_176 mv_Mo_number np_Mo_number ⟨_, rfl⟩ (by decide) rfl (by decide) rfl (Nat.le_of_ble_eq_true rfl) (Nat.le_of_ble_eq_true rfl) rk_Mo_namesGood_Mo_number rfl (m_number hM (by omega) (hF.2.2.2.2.2.2.2 (40 * m + (p + 1)) (by omega)) (hW.2.2.2.2.2.2.2 _)) zz_0 ?_
                  refine px_if_lt dx_Mo_namesGood_500 (fun c_500 => ?_) (fun c_500 => ?_)
                  · refine px_iconst (v := 0) dx_Mo_namesGood_522 rfl ?_
                    exact px_zret dx_Mo_namesGood_523 rfl (by decide) (by (have e : nmOK F m p = false := by (unfold nmOK; rw [nmW_10 (by assumption)]; have h14 := hW.2.1; first | (simp_all; done) | (simp_all; omega) | (simp only [Bool.and_eq_false_iff, decide_eq_false_iff_not]; right; omega))); rw [e] at hp0; exact hp0)
                  · exact absurd (nmI_n hn (hW.2.2.2.2.2.2.2 _)) c_500
            by_cases k_261_6 : opS (F 7 (40 * m + p)) ∈ ([113] : List Nat)
            · refine px_lookG (e := opS (F 7 (40 * m + p))) (off := 263) [113] dx_Mo_namesGood_261 (by first | omega | (have := opS_lt (F 7 (40 * m + p)); omega) | (have := hW.2.1; omega) | (have := hW.2.2.2.2.2.2.2 (40 * m + (p + 1)); omega)) k_261_6 (by decide) (by decide) rfl ?_
              refine px_aload_n dx_Mo_namesGood_524 rfl ?_
              refine px_iload_n dx_Mo_namesGood_525 rfl ?_
              refine px_iload_n dx_Mo_namesGood_526 rfl ?_
              refine px_cV (Y := yy_Mo_namesGood) (Yc := yy_Mo_argumentsThere) (b := 717) (As := [.int (nI (m)), .int (nI (p))]) dx_Mo_namesGood_527 ml_Mo_214 mv_Mo_argumentsThere np_Mo_argumentsThere ⟨_, rfl⟩ (by decide) rfl (by decide) rfl (Nat.le_of_ble_eq_true rfl) (Nat.le_of_ble_eq_true rfl) rk_Mo_namesGood_Mo_argumentsThere rfl (m_argumentsThere hM hF hW hm hpl) zz_0 ?_
              exact px_zret dx_Mo_namesGood_530 rfl (b2i_01 _) (by (have e : nmOK F m p = agT F m p := by (unfold nmOK; rw [nmW_11 (by assumption)])); rw [e] at hp0; exact hp0)
            have kn_261 : opS (F 7 (40 * m + p)) ∉ ([1, 4, 10, 11, 15, 16, 18, 19, 22, 96, 103, 113] : List Nat) := by simp only [List.mem_cons, List.not_mem_nil, or_false, not_or] at *; omega
            refine px_lookD (e := opS (F 7 (40 * m + p))) [1, 4, 10, 11, 15, 16, 18, 19, 22, 96, 103, 113] dx_Mo_namesGood_261 (by first | omega | (have := opS_lt (F 7 (40 * m + p)); omega) | (have := hW.2.1; omega) | (have := hW.2.2.2.2.2.2.2 (40 * m + (p + 1)); omega)) kn_261 (by decide) (by decide) rfl ?_
            refine px_iconst (v := 1) dx_Mo_namesGood_531 rfl ?_
            exact px_zret dx_Mo_namesGood_532 rfl (by decide) (by (have e : nmOK F m p = true := by (unfold nmOK; rw [nmW_12 (by assumption) (by assumption) (by assumption) (by omega) (by omega) (by assumption)])); rw [e] at hp0; exact hp0)
          · refine px_iload_n dx_Mo_namesGood_241 rfl ?_
            refine px_bipush (v := 61) dx_Mo_namesGood_242 rfl ?_
            refine px_icmp_gtN (a := opS (F 7 (40 * m + p))) (b := 61) dx_Mo_namesGood_244 (by first | omega | (have := opS_lt (F 7 (40 * m + p)); omega) | (have := hW.2.1; omega) | (have := hW.2.2.2.2.2.2.2 (40 * m + (p + 1)); omega)) (by first | omega | (have := opS_lt (F 7 (40 * m + p)); omega) | (have := hW.2.1; omega) | (have := hW.2.2.2.2.2.2.2 (40 * m + (p + 1)); omega)) (fun c_244 => ?_) (fun c_244 => ?_)
            · refine px_iload_n dx_Mo_namesGood_260 rfl ?_
              by_cases k_261_0 : opS (F 7 (40 * m + p)) ∈ ([1] : List Nat)
              · refine px_lookG (e := opS (F 7 (40 * m + p))) (off := 107) [1] dx_Mo_namesGood_261 (by first | omega | (have := opS_lt (F 7 (40 * m + p)); omega) | (have := hW.2.1; omega) | (have := hW.2.2.2.2.2.2.2 (40 * m + (p + 1)); omega)) k_261_0 (by decide) (by decide) rfl ?_
                refine px_aload_n dx_Mo_namesGood_368 rfl ?_
                refine px_iload_n dx_Mo_namesGood_369 rfl ?_
                refine px_aload_n dx_Mo_namesGood_370 rfl ?_
                refine px_iload_n dx_Mo_namesGood_371 rfl ?_
                refine px_iload_n dx_Mo_namesGood_372 rfl ?_
                refine px_cV (Y := yy_Mo_namesGood) (Yc := yy_Mo_regA) (b := 717) (As := [.int (nI (m)), .int (nI (p))]) dx_Mo_namesGood_373 ml_Mo_193 mv_Mo_regA np_Mo_regA ⟨_, rfl⟩ (by decide) rfl (by decide) rfl (Nat.le_of_ble_eq_true rfl) (Nat.le_of_ble_eq_true rfl) rk_Mo_namesGood_Mo_regA rfl (m_regA hM (by omega) (hF.2.2.2.2.2.2.2 (40 * m + p) (by omega)) (hW.2.2.2.2.2.2.2 _)) zz_0 ?_
                refine px_iconst (v := 1) dx_Mo_namesGood_376 rfl ?_
                refine px_cV (Y := yy_Mo_namesGood) (Yc := yy_Mo_has) (b := 717) (As := [.int (nI (m)), .int (nI (opA (F 7 (40 * m + p)))), .int (1)]) dx_Mo_namesGood_377 ml_Mo_189 mv_Mo_has np_Mo_has ⟨_, rfl⟩ (by decide) rfl (by decide) rfl (Nat.le_of_ble_eq_true rfl) (Nat.le_of_ble_eq_true rfl) rk_Mo_namesGood_Mo_has rfl (m_has (t := 1) hM hF hW hm (opA_lt5 _) (by decide)) zz_0 ?_
                refine px_if_eqB dx_Mo_namesGood_380 (fun c_380 => ?_) (fun c_380 => ?_)
                · refine px_iconst (v := 0) dx_Mo_namesGood_402 rfl ?_
                  exact px_zret dx_Mo_namesGood_403 rfl (by decide) (by (have e : nmOK F m p = false := by (unfold nmOK; rw [nmW_5 (by assumption)]; simp_all)); rw [e] at hp0; exact hp0)
                · refine px_aload_n dx_Mo_namesGood_383 rfl ?_
                  refine px_iload_n dx_Mo_namesGood_384 rfl ?_
                  refine px_aload_n dx_Mo_namesGood_385 rfl ?_
                  refine px_iload_n dx_Mo_namesGood_386 rfl ?_
                  refine px_iload_n dx_Mo_namesGood_387 rfl ?_
                  refine px_cV (Y := yy_Mo_namesGood) (Yc := yy_Mo_regB) (b := 717) (As := [.int (nI (m)), .int (nI (p))]) dx_Mo_namesGood_388 ml_Mo_182 mv_Mo_regB np_Mo_regB ⟨_, rfl⟩ (by decide) rfl (by decide) rfl (Nat.le_of_ble_eq_true rfl) (Nat.le_of_ble_eq_true rfl) rk_Mo_namesGood_Mo_regB rfl (m_regB hM (by omega) (hF.2.2.2.2.2.2.2 (40 * m + p) (by omega)) (hW.2.2.2.2.2.2.2 _)) zz_0 ?_
                  refine px_iconst (v := 1) dx_Mo_namesGood_391 rfl ?_
                  refine px_cV (Y := yy_Mo_namesGood) (Yc := yy_Mo_has) (b := 717) (As := [.int (nI (m)), .int (nI (opB (F 7 (40 * m + p)))), .int (1)]) dx_Mo_namesGood_392 ml_Mo_189 mv_Mo_has np_Mo_has ⟨_, rfl⟩ (by decide) rfl (by decide) rfl (Nat.le_of_ble_eq_true rfl) (Nat.le_of_ble_eq_true rfl) rk_Mo_namesGood_Mo_has rfl (m_has (t := 1) hM hF hW hm (opB_lt5 hW _) (by decide)) zz_0 ?_
                  refine px_if_eqB dx_Mo_namesGood_395 (fun c_395 => ?_) (fun c_395 => ?_)
                  · refine px_iconst (v := 0) dx_Mo_namesGood_402 rfl ?_
                    exact px_zret dx_Mo_namesGood_403 rfl (by decide) (by (have e : nmOK F m p = false := by (unfold nmOK; rw [nmW_5 (by assumption)]; simp_all)); rw [e] at hp0; exact hp0)
                  · refine px_iconst (v := 1) dx_Mo_namesGood_398 rfl ?_
                    refine px_goto dx_Mo_namesGood_399 ?_
                    exact px_zret dx_Mo_namesGood_403 rfl (by decide) (by (have e : nmOK F m p = true := by (unfold nmOK; rw [nmW_5 (by assumption)]; simp_all)); rw [e] at hp0; exact hp0)
              by_cases k_261_1 : opS (F 7 (40 * m + p)) ∈ ([4] : List Nat)
              · refine px_lookG (e := opS (F 7 (40 * m + p))) (off := 143) [4] dx_Mo_namesGood_261 (by first | omega | (have := opS_lt (F 7 (40 * m + p)); omega) | (have := hW.2.1; omega) | (have := hW.2.2.2.2.2.2.2 (40 * m + (p + 1)); omega)) k_261_1 (by decide) (by decide) rfl ?_
                refine px_aload_n dx_Mo_namesGood_404 rfl ?_
                refine px_iload_n dx_Mo_namesGood_405 rfl ?_
                refine px_aload_n dx_Mo_namesGood_406 rfl ?_
                refine px_iload_n dx_Mo_namesGood_407 rfl ?_
                refine px_iload_n dx_Mo_namesGood_408 rfl ?_
                refine px_cV (Y := yy_Mo_namesGood) (Yc := yy_Mo_regA) (b := 717) (As := [.int (nI (m)), .int (nI (p))]) dx_Mo_namesGood_409 ml_Mo_193 mv_Mo_regA np_Mo_regA ⟨_, rfl⟩ (by decide) rfl (by decide) rfl (Nat.le_of_ble_eq_true rfl) (Nat.le_of_ble_eq_true rfl) rk_Mo_namesGood_Mo_regA rfl (m_regA hM (by omega) (hF.2.2.2.2.2.2.2 (40 * m + p) (by omega)) (hW.2.2.2.2.2.2.2 _)) zz_0 ?_
                refine px_iconst (v := 2) dx_Mo_namesGood_412 rfl ?_
                refine px_cV (Y := yy_Mo_namesGood) (Yc := yy_Mo_has) (b := 717) (As := [.int (nI (m)), .int (nI (opA (F 7 (40 * m + p)))), .int (2)]) dx_Mo_namesGood_413 ml_Mo_189 mv_Mo_has np_Mo_has ⟨_, rfl⟩ (by decide) rfl (by decide) rfl (Nat.le_of_ble_eq_true rfl) (Nat.le_of_ble_eq_true rfl) rk_Mo_namesGood_Mo_has rfl (m_has (t := 2) hM hF hW hm (opA_lt5 _) (by decide)) zz_0 ?_
                refine px_if_eqB dx_Mo_namesGood_416 (fun c_416 => ?_) (fun c_416 => ?_)
                · refine px_iconst (v := 0) dx_Mo_namesGood_438 rfl ?_
                  exact px_zret dx_Mo_namesGood_439 rfl (by decide) (by (have e : nmOK F m p = false := by (unfold nmOK; rw [nmW_6 (by assumption)]; simp_all)); rw [e] at hp0; exact hp0)
                · refine px_aload_n dx_Mo_namesGood_419 rfl ?_
                  refine px_iload_n dx_Mo_namesGood_420 rfl ?_
                  refine px_aload_n dx_Mo_namesGood_421 rfl ?_
                  refine px_iload_n dx_Mo_namesGood_422 rfl ?_
                  refine px_iload_n dx_Mo_namesGood_423 rfl ?_
                  refine px_cV (Y := yy_Mo_namesGood) (Yc := yy_Mo_regB) (b := 717) (As := [.int (nI (m)), .int (nI (p))]) dx_Mo_namesGood_424 ml_Mo_182 mv_Mo_regB np_Mo_regB ⟨_, rfl⟩ (by decide) rfl (by decide) rfl (Nat.le_of_ble_eq_true rfl) (Nat.le_of_ble_eq_true rfl) rk_Mo_namesGood_Mo_regB rfl (m_regB hM (by omega) (hF.2.2.2.2.2.2.2 (40 * m + p) (by omega)) (hW.2.2.2.2.2.2.2 _)) zz_0 ?_
                  refine px_iconst (v := 2) dx_Mo_namesGood_427 rfl ?_
                  refine px_cV (Y := yy_Mo_namesGood) (Yc := yy_Mo_has) (b := 717) (As := [.int (nI (m)), .int (nI (opB (F 7 (40 * m + p)))), .int (2)]) dx_Mo_namesGood_428 ml_Mo_189 mv_Mo_has np_Mo_has ⟨_, rfl⟩ (by decide) rfl (by decide) rfl (Nat.le_of_ble_eq_true rfl) (Nat.le_of_ble_eq_true rfl) rk_Mo_namesGood_Mo_has rfl (m_has (t := 2) hM hF hW hm (opB_lt5 hW _) (by decide)) zz_0 ?_
                  refine px_if_eqB dx_Mo_namesGood_431 (fun c_431 => ?_) (fun c_431 => ?_)
                  · refine px_iconst (v := 0) dx_Mo_namesGood_438 rfl ?_
                    exact px_zret dx_Mo_namesGood_439 rfl (by decide) (by (have e : nmOK F m p = false := by (unfold nmOK; rw [nmW_6 (by assumption)]; simp_all)); rw [e] at hp0; exact hp0)
                  · refine px_iconst (v := 1) dx_Mo_namesGood_434 rfl ?_
                    refine px_goto dx_Mo_namesGood_435 ?_
                    exact px_zret dx_Mo_namesGood_439 rfl (by decide) (by (have e : nmOK F m p = true := by (unfold nmOK; rw [nmW_6 (by assumption)]; simp_all)); rw [e] at hp0; exact hp0)
              by_cases k_261_2 : opS (F 7 (40 * m + p)) ∈ ([10, 15, 19] : List Nat)
              · refine px_lookG (e := opS (F 7 (40 * m + p))) (off := 179) [10, 15, 19] dx_Mo_namesGood_261 (by first | omega | (have := opS_lt (F 7 (40 * m + p)); omega) | (have := hW.2.1; omega) | (have := hW.2.2.2.2.2.2.2 (40 * m + (p + 1)); omega)) k_261_2 (by decide) (by decide) rfl ?_
                refine px_aload_n dx_Mo_namesGood_440 rfl ?_
                refine px_iload_n dx_Mo_namesGood_441 rfl ?_
                refine px_aload_n dx_Mo_namesGood_442 rfl ?_
                refine px_iload_n dx_Mo_namesGood_443 rfl ?_
                refine px_iload_n dx_Mo_namesGood_444 rfl ?_
                refine px_cV (Y := yy_Mo_namesGood) (Yc := yy_Mo_regAA) (b := 717) (As := [.int (nI (m)), .int (nI (p))]) dx_Mo_namesGood_445 ml_Mo_179 mv_Mo_regAA np_Mo_regAA ⟨_, rfl⟩ (by decide) rfl (by decide) rfl (Nat.le_of_ble_eq_true rfl) (Nat.le_of_ble_eq_true rfl) rk_Mo_namesGood_Mo_regAA rfl (m_regAA hM (by omega) (hF.2.2.2.2.2.2.2 (40 * m + p) (by omega)) (hW.2.2.2.2.2.2.2 _)) zz_0 ?_
                refine px_iconst (v := 1) dx_Mo_namesGood_448 rfl ?_
                refine px_cV (Y := yy_Mo_namesGood) (Yc := yy_Mo_has) (b := 717) (As := [.int (nI (m)), .int (nI (opN (F 7 (40 * m + p)))), .int (1)]) dx_Mo_namesGood_449 ml_Mo_189 mv_Mo_has np_Mo_has ⟨_, rfl⟩ (by decide) rfl (by decide) rfl (Nat.le_of_ble_eq_true rfl) (Nat.le_of_ble_eq_true rfl) rk_Mo_namesGood_Mo_has rfl (m_has (t := 1) hM hF hW hm (opN_lt5 hW _) (by decide)) zz_0 ?_
                exact px_zret dx_Mo_namesGood_452 rfl (b2i_01 _) (by (have e : nmOK F m p = hsR F m (opN (F 7 (40 * m + p))) (1) := by (unfold nmOK; rw [nmW_7 (by assumption)])); rw [e] at hp0; exact hp0)
              by_cases k_261_3 : opS (F 7 (40 * m + p)) ∈ ([11, 16, 22] : List Nat)
              · refine px_lookG (e := opS (F 7 (40 * m + p))) (off := 192) [11, 16, 22] dx_Mo_namesGood_261 (by first | omega | (have := opS_lt (F 7 (40 * m + p)); omega) | (have := hW.2.1; omega) | (have := hW.2.2.2.2.2.2.2 (40 * m + (p + 1)); omega)) k_261_3 (by decide) (by decide) rfl ?_
                refine px_aload_n dx_Mo_namesGood_453 rfl ?_
                refine px_iload_n dx_Mo_namesGood_454 rfl ?_
                refine px_aload_n dx_Mo_namesGood_455 rfl ?_
                refine px_iload_n dx_Mo_namesGood_456 rfl ?_
                refine px_iload_n dx_Mo_namesGood_457 rfl ?_
                refine px_cV (Y := yy_Mo_namesGood) (Yc := yy_Mo_regAA) (b := 717) (As := [.int (nI (m)), .int (nI (p))]) dx_Mo_namesGood_458 ml_Mo_179 mv_Mo_regAA np_Mo_regAA ⟨_, rfl⟩ (by decide) rfl (by decide) rfl (Nat.le_of_ble_eq_true rfl) (Nat.le_of_ble_eq_true rfl) rk_Mo_namesGood_Mo_regAA rfl (m_regAA hM (by omega) (hF.2.2.2.2.2.2.2 (40 * m + p) (by omega)) (hW.2.2.2.2.2.2.2 _)) zz_0 ?_
                refine px_iconst (v := 2) dx_Mo_namesGood_461 rfl ?_
                refine px_cV (Y := yy_Mo_namesGood) (Yc := yy_Mo_has) (b := 717) (As := [.int (nI (m)), .int (nI (opN (F 7 (40 * m + p)))), .int (2)]) dx_Mo_namesGood_462 ml_Mo_189 mv_Mo_has np_Mo_has ⟨_, rfl⟩ (by decide) rfl (by decide) rfl (Nat.le_of_ble_eq_true rfl) (Nat.le_of_ble_eq_true rfl) rk_Mo_namesGood_Mo_has rfl (m_has (t := 2) hM hF hW hm (opN_lt5 hW _) (by decide)) zz_0 ?_
                exact px_zret dx_Mo_namesGood_465 rfl (b2i_01 _) (by (have e : nmOK F m p = hsR F m (opN (F 7 (40 * m + p))) (2) := by (unfold nmOK; rw [nmW_8 (by assumption)])); rw [e] at hp0; exact hp0)
              by_cases k_261_4 : opS (F 7 (40 * m + p)) ∈ ([18] : List Nat)
              · refine px_lookG (e := opS (F 7 (40 * m + p))) (off := 205) [18] dx_Mo_namesGood_261 (by first | omega | (have := opS_lt (F 7 (40 * m + p)); omega) | (have := hW.2.1; omega) | (have := hW.2.2.2.2.2.2.2 (40 * m + (p + 1)); omega)) k_261_4 (by decide) (by decide) rfl ?_
                refine px_aload_n dx_Mo_namesGood_466 rfl ?_
                refine px_iload_n dx_Mo_namesGood_467 rfl ?_
                refine px_aload_n dx_Mo_namesGood_468 rfl ?_
                refine px_iload_n dx_Mo_namesGood_469 rfl ?_
                refine px_iload_n dx_Mo_namesGood_470 rfl ?_
                refine px_cV (Y := yy_Mo_namesGood) (Yc := yy_Mo_regA) (b := 717) (As := [.int (nI (m)), .int (nI (p))]) dx_Mo_namesGood_471 ml_Mo_193 mv_Mo_regA np_Mo_regA ⟨_, rfl⟩ (by decide) rfl (by decide) rfl (Nat.le_of_ble_eq_true rfl) (Nat.le_of_ble_eq_true rfl) rk_Mo_namesGood_Mo_regA rfl (m_regA hM (by omega) (hF.2.2.2.2.2.2.2 (40 * m + p) (by omega)) (hW.2.2.2.2.2.2.2 _)) zz_0 ?_
                refine px_iconst (v := 1) dx_Mo_namesGood_474 rfl ?_
                refine px_cV (Y := yy_Mo_namesGood) (Yc := yy_Mo_has) (b := 717) (As := [.int (nI (m)), .int (nI (opA (F 7 (40 * m + p)))), .int (1)]) dx_Mo_namesGood_475 ml_Mo_189 mv_Mo_has np_Mo_has ⟨_, rfl⟩ (by decide) rfl (by decide) rfl (Nat.le_of_ble_eq_true rfl) (Nat.le_of_ble_eq_true rfl) rk_Mo_namesGood_Mo_has rfl (m_has (t := 1) hM hF hW hm (opA_lt5 _) (by decide)) zz_0 ?_
                exact px_zret dx_Mo_namesGood_478 rfl (b2i_01 _) (by (have e : nmOK F m p = hsR F m (opA (F 7 (40 * m + p))) (1) := by (unfold nmOK; rw [nmW_9 (by assumption)])); rw [e] at hp0; exact hp0)
              by_cases k_261_5 : opS (F 7 (40 * m + p)) ∈ ([96, 103] : List Nat)
              · refine px_lookG (e := opS (F 7 (40 * m + p))) (off := 218) [96, 103] dx_Mo_namesGood_261 (by first | omega | (have := opS_lt (F 7 (40 * m + p)); omega) | (have := hW.2.1; omega) | (have := hW.2.2.2.2.2.2.2 (40 * m + (p + 1)); omega)) k_261_5 (by decide) (by decide) rfl ?_
                refine px_aload_n dx_Mo_namesGood_479 rfl ?_
                refine px_iload_n dx_Mo_namesGood_480 rfl ?_
                refine px_aload_n dx_Mo_namesGood_481 rfl ?_
                refine px_iload_n dx_Mo_namesGood_482 rfl ?_
                refine px_iload_n dx_Mo_namesGood_483 rfl ?_
                refine px_cV (Y := yy_Mo_namesGood) (Yc := yy_Mo_regAA) (b := 717) (As := [.int (nI (m)), .int (nI (p))]) dx_Mo_namesGood_484 ml_Mo_179 mv_Mo_regAA np_Mo_regAA ⟨_, rfl⟩ (by decide) rfl (by decide) rfl (Nat.le_of_ble_eq_true rfl) (Nat.le_of_ble_eq_true rfl) rk_Mo_namesGood_Mo_regAA rfl (m_regAA hM (by omega) (hF.2.2.2.2.2.2.2 (40 * m + p) (by omega)) (hW.2.2.2.2.2.2.2 _)) zz_0 ?_
                refine px_iconst (v := 1) dx_Mo_namesGood_487 rfl ?_
                refine px_cV (Y := yy_Mo_namesGood) (Yc := yy_Mo_has) (b := 717) (As := [.int (nI (m)), .int (nI (opN (F 7 (40 * m + p)))), .int (1)]) dx_Mo_namesGood_488 ml_Mo_189 mv_Mo_has np_Mo_has ⟨_, rfl⟩ (by decide) rfl (by decide) rfl (Nat.le_of_ble_eq_true rfl) (Nat.le_of_ble_eq_true rfl) rk_Mo_namesGood_Mo_has rfl (m_has (t := 1) hM hF hW hm (opN_lt5 hW _) (by decide)) zz_0 ?_
                refine px_if_eqB dx_Mo_namesGood_491 (fun c_491 => ?_) (fun c_491 => ?_)
                · refine px_iconst (v := 0) dx_Mo_namesGood_522 rfl ?_
                  exact px_zret dx_Mo_namesGood_523 rfl (by decide) (by (have e : nmOK F m p = false := by (unfold nmOK; rw [nmW_10 (by assumption)]; have h14 := hW.2.1; first | (simp_all; done) | (simp_all; omega) | (simp only [Bool.and_eq_false_iff, decide_eq_false_iff_not]; right; omega))); rw [e] at hp0; exact hp0)
                · refine px_aload_n dx_Mo_namesGood_494 rfl ?_
                  refine px_iload_n dx_Mo_namesGood_495 rfl ?_
                  refine px_iload_n dx_Mo_namesGood_496 rfl ?_
                  by_cases hn : F 7 (40 * m + (p + 1)) ≤ 32767
                  · refine px_cV (Y := yy_Mo_namesGood) (Yc := yy_Mo_number) (b := 717) (As := [.int (nI (m)), .int (nI (p))]) dx_Mo_namesGood_497 ml_Mo_176 mv_Mo_number np_Mo_number ⟨_, rfl⟩ (by decide) rfl (by decide) rfl (Nat.le_of_ble_eq_true rfl) (Nat.le_of_ble_eq_true rfl) rk_Mo_namesGood_Mo_number rfl (m_number_p hM (by omega) (hF.2.2.2.2.2.2.2 (40 * m + (p + 1)) (by omega)) (hW.2.2.2.2.2.2.2 _) hn) zz_0 ?_
                    refine px_if_ltN (a := F 7 (40 * m + (p + 1))) dx_Mo_namesGood_500 (by first | omega | (have := opS_lt (F 7 (40 * m + p)); omega) | (have := hW.2.1; omega) | (have := hW.2.2.2.2.2.2.2 (40 * m + (p + 1)); omega)) (fun c_500 => ?_) (fun c_500 => ?_)
                    · refine px_iconst (v := 0) dx_Mo_namesGood_522 rfl ?_
                      exact px_zret dx_Mo_namesGood_523 rfl (by decide) (by (have e : nmOK F m p = false := by (unfold nmOK; rw [nmW_10 (by assumption)]; have h14 := hW.2.1; first | (simp_all; done) | (simp_all; omega) | (simp only [Bool.and_eq_false_iff, decide_eq_false_iff_not]; right; omega))); rw [e] at hp0; exact hp0)
                    · refine px_aload_n dx_Mo_namesGood_503 rfl ?_
                      refine px_iload_n dx_Mo_namesGood_504 rfl ?_
                      refine px_iload_n dx_Mo_namesGood_505 rfl ?_
                      by_cases hn : F 7 (40 * m + (p + 1)) ≤ 32767
                      · refine px_cV (Y := yy_Mo_namesGood) (Yc := yy_Mo_number) (b := 717) (As := [.int (nI (m)), .int (nI (p))]) dx_Mo_namesGood_506 ml_Mo_176 mv_Mo_number np_Mo_number ⟨_, rfl⟩ (by decide) rfl (by decide) rfl (Nat.le_of_ble_eq_true rfl) (Nat.le_of_ble_eq_true rfl) rk_Mo_namesGood_Mo_number rfl (m_number_p hM (by omega) (hF.2.2.2.2.2.2.2 (40 * m + (p + 1)) (by omega)) (hW.2.2.2.2.2.2.2 _) hn) zz_0 ?_
                        refine px_aload_n dx_Mo_namesGood_509 rfl ?_
                        refine px_getR (r := 720) dx_Mo_namesGood_510 fl_Mo_20 rfl (by decide) rfl (hM 7) ?_
                        refine px_iconst (v := 0) dx_Mo_namesGood_513 rfl ?_
                        refine px_ialdN (j := 0) dx_Mo_namesGood_514 rfl (by decide) (by decide) ?_
                        refine px_eqi (y := nI (F 1 0)) hF.2.1 ?_
                        refine px_icmp_geN (a := F 7 (40 * m + (p + 1))) (b := F 1 0) dx_Mo_namesGood_515 (by first | omega | (have := opS_lt (F 7 (40 * m + p)); omega) | (have := hW.2.1; omega) | (have := hW.2.2.2.2.2.2.2 (40 * m + (p + 1)); omega)) (by first | omega | (have := opS_lt (F 7 (40 * m + p)); omega) | (have := hW.2.1; omega) | (have := hW.2.2.2.2.2.2.2 (40 * m + (p + 1)); omega)) (fun c_515 => ?_) (fun c_515 => ?_)
                        · refine px_iconst (v := 0) dx_Mo_namesGood_522 rfl ?_
                          exact px_zret dx_Mo_namesGood_523 rfl (by decide) (by (have e : nmOK F m p = false := by (unfold nmOK; rw [nmW_10 (by assumption)]; have h14 := hW.2.1; first | (simp_all; done) | (simp_all; omega) | (simp only [Bool.and_eq_false_iff, decide_eq_false_iff_not]; right; omega))); rw [e] at hp0; exact hp0)
                        · refine px_iconst (v := 1) dx_Mo_namesGood_518 rfl ?_
                          refine px_goto dx_Mo_namesGood_519 ?_
                          exact px_zret dx_Mo_namesGood_523 rfl (by decide) (by (have e : nmOK F m p = true := by (unfold nmOK; rw [nmW_10 (by assumption)]; have h14 := hW.2.1; first | (simp_all; done) | (simp_all; omega) | (simp only [Bool.and_eq_false_iff, decide_eq_false_iff_not]; right; omega))); rw [e] at hp0; exact hp0)
                      · refine px_cV (Y := yy_Mo_namesGood) (Yc := yy_Mo_number) (b := 717) (As := [.int (nI (m)), .int (nI (p))]) dx_Mo_namesGood_506 ml_Mo_176 mv_Mo_number np_Mo_number ⟨_, rfl⟩ (by decide) rfl (by decide) rfl (Nat.le_of_ble_eq_true rfl) (Nat.le_of_ble_eq_true rfl) rk_Mo_namesGood_Mo_number rfl (m_number hM (by omega) (hF.2.2.2.2.2.2.2 (40 * m + (p + 1)) (by omega)) (hW.2.2.2.2.2.2.2 _)) zz_0 ?_
                        refine px_aload_n dx_Mo_namesGood_509 rfl ?_
                        refine px_getR (r := 720) dx_Mo_namesGood_510 fl_Mo_20 rfl (by decide) rfl (hM 7) ?_
                        refine px_iconst (v := 0) dx_Mo_namesGood_513 rfl ?_
                        refine px_ialdN (j := 0) dx_Mo_namesGood_514 rfl (by decide) (by decide) ?_
                        refine px_eqi (y := nI (F 1 0)) hF.2.1 ?_
                        refine px_icmp_ge dx_Mo_namesGood_515 (fun c_515 => ?_) (fun c_515 => ?_)
                        · refine px_iconst (v := 0) dx_Mo_namesGood_522 rfl ?_
                          exact px_zret dx_Mo_namesGood_523 rfl (by decide) (by (have e : nmOK F m p = false := by (unfold nmOK; rw [nmW_10 (by assumption)]; have h14 := hW.2.1; first | (simp_all; done) | (simp_all; omega) | (simp only [Bool.and_eq_false_iff, decide_eq_false_iff_not]; right; omega))); rw [e] at hp0; exact hp0)
                        · refine px_iconst (v := 1) dx_Mo_namesGood_518 rfl ?_
                          refine px_goto dx_Mo_namesGood_519 ?_
                          exact px_zret dx_Mo_namesGood_523 rfl (by decide) (by (have e : nmOK F m p = true := by (unfold nmOK; rw [nmW_10 (by assumption)]; have h14 := hW.2.1; first | (simp_all; done) | (simp_all; omega) | (simp only [Bool.and_eq_false_iff, decide_eq_false_iff_not]; right; omega))); rw [e] at hp0; exact hp0)
                  · refine px_cV (Y := yy_Mo_namesGood) (Yc := yy_Mo_number) (b := 717) (As := [.int (nI (m)), .int (nI (p))]) dx_Mo_namesGood_497 ml_Mo_176 mv_Mo_number np_Mo_number ⟨_, rfl⟩ (by decide) rfl (by decide) rfl (Nat.le_of_ble_eq_true rfl) (Nat.le_of_ble_eq_true rfl) rk_Mo_namesGood_Mo_number rfl (m_number hM (by omega) (hF.2.2.2.2.2.2.2 (40 * m + (p + 1)) (by omega)) (hW.2.2.2.2.2.2.2 _)) zz_0 ?_
                    refine px_if_lt dx_Mo_namesGood_500 (fun c_500 => ?_) (fun c_500 => ?_)
                    · refine px_iconst (v := 0) dx_Mo_namesGood_522 rfl ?_
                      exact px_zret dx_Mo_namesGood_523 rfl (by decide) (by (have e : nmOK F m p = false := by (unfold nmOK; rw [nmW_10 (by assumption)]; have h14 := hW.2.1; first | (simp_all; done) | (simp_all; omega) | (simp only [Bool.and_eq_false_iff, decide_eq_false_iff_not]; right; omega))); rw [e] at hp0; exact hp0)
                    · exact absurd (nmI_n hn (hW.2.2.2.2.2.2.2 _)) c_500
              by_cases k_261_6 : opS (F 7 (40 * m + p)) ∈ ([113] : List Nat)
              · refine px_lookG (e := opS (F 7 (40 * m + p))) (off := 263) [113] dx_Mo_namesGood_261 (by first | omega | (have := opS_lt (F 7 (40 * m + p)); omega) | (have := hW.2.1; omega) | (have := hW.2.2.2.2.2.2.2 (40 * m + (p + 1)); omega)) k_261_6 (by decide) (by decide) rfl ?_
                refine px_aload_n dx_Mo_namesGood_524 rfl ?_
                refine px_iload_n dx_Mo_namesGood_525 rfl ?_
                refine px_iload_n dx_Mo_namesGood_526 rfl ?_
                refine px_cV (Y := yy_Mo_namesGood) (Yc := yy_Mo_argumentsThere) (b := 717) (As := [.int (nI (m)), .int (nI (p))]) dx_Mo_namesGood_527 ml_Mo_214 mv_Mo_argumentsThere np_Mo_argumentsThere ⟨_, rfl⟩ (by decide) rfl (by decide) rfl (Nat.le_of_ble_eq_true rfl) (Nat.le_of_ble_eq_true rfl) rk_Mo_namesGood_Mo_argumentsThere rfl (m_argumentsThere hM hF hW hm hpl) zz_0 ?_
                exact px_zret dx_Mo_namesGood_530 rfl (b2i_01 _) (by (have e : nmOK F m p = agT F m p := by (unfold nmOK; rw [nmW_11 (by assumption)])); rw [e] at hp0; exact hp0)
              have kn_261 : opS (F 7 (40 * m + p)) ∉ ([1, 4, 10, 11, 15, 16, 18, 19, 22, 96, 103, 113] : List Nat) := by simp only [List.mem_cons, List.not_mem_nil, or_false, not_or] at *; omega
              refine px_lookD (e := opS (F 7 (40 * m + p))) [1, 4, 10, 11, 15, 16, 18, 19, 22, 96, 103, 113] dx_Mo_namesGood_261 (by first | omega | (have := opS_lt (F 7 (40 * m + p)); omega) | (have := hW.2.1; omega) | (have := hW.2.2.2.2.2.2.2 (40 * m + (p + 1)); omega)) kn_261 (by decide) (by decide) rfl ?_
              refine px_iconst (v := 1) dx_Mo_namesGood_531 rfl ?_
              exact px_zret dx_Mo_namesGood_532 rfl (by decide) (by (have e : nmOK F m p = true := by (unfold nmOK; rw [nmW_12 (by assumption) (by assumption) (by assumption) (by omega) (by omega) (by assumption)])); rw [e] at hp0; exact hp0)
            · refine px_aload_n dx_Mo_namesGood_247 rfl ?_
              refine px_iload_n dx_Mo_namesGood_248 rfl ?_
              refine px_aload_n dx_Mo_namesGood_249 rfl ?_
              refine px_iload_n dx_Mo_namesGood_250 rfl ?_
              refine px_iload_n dx_Mo_namesGood_251 rfl ?_
              refine px_cV (Y := yy_Mo_namesGood) (Yc := yy_Mo_regAA) (b := 717) (As := [.int (nI (m)), .int (nI (p))]) dx_Mo_namesGood_252 ml_Mo_179 mv_Mo_regAA np_Mo_regAA ⟨_, rfl⟩ (by decide) rfl (by decide) rfl (Nat.le_of_ble_eq_true rfl) (Nat.le_of_ble_eq_true rfl) rk_Mo_namesGood_Mo_regAA rfl (m_regAA hM (by omega) (hF.2.2.2.2.2.2.2 (40 * m + p) (by omega)) (hW.2.2.2.2.2.2.2 _)) zz_0 ?_
              refine px_iconst (v := 1) dx_Mo_namesGood_255 rfl ?_
              refine px_cV (Y := yy_Mo_namesGood) (Yc := yy_Mo_has) (b := 717) (As := [.int (nI (m)), .int (nI (opN (F 7 (40 * m + p)))), .int (1)]) dx_Mo_namesGood_256 ml_Mo_189 mv_Mo_has np_Mo_has ⟨_, rfl⟩ (by decide) rfl (by decide) rfl (Nat.le_of_ble_eq_true rfl) (Nat.le_of_ble_eq_true rfl) rk_Mo_namesGood_Mo_has rfl (m_has (t := 1) hM hF hW hm (opN_lt5 hW _) (by decide)) zz_0 ?_
              exact px_zret dx_Mo_namesGood_259 rfl (b2i_01 _) (by (have e : nmOK F m p = hsR F m (opN (F 7 (40 * m + p))) (1) := by (unfold nmOK; rw [nmW_4 (by omega) (by omega)])); rw [e] at hp0; exact hp0)
        · refine px_iload_n dx_Mo_namesGood_193 rfl ?_
          refine px_bipush (v := 55) dx_Mo_namesGood_194 rfl ?_
          refine px_icmp_gtN (a := opS (F 7 (40 * m + p))) (b := 55) dx_Mo_namesGood_196 (by first | omega | (have := opS_lt (F 7 (40 * m + p)); omega) | (have := hW.2.1; omega) | (have := hW.2.2.2.2.2.2.2 (40 * m + (p + 1)); omega)) (by first | omega | (have := opS_lt (F 7 (40 * m + p)); omega) | (have := hW.2.1; omega) | (have := hW.2.2.2.2.2.2.2 (40 * m + (p + 1)); omega)) (fun c_196 => ?_) (fun c_196 => ?_)
          · refine px_iload_n dx_Mo_namesGood_235 rfl ?_
            refine px_bipush (v := 56) dx_Mo_namesGood_236 rfl ?_
            refine px_icmp_ltN (a := opS (F 7 (40 * m + p))) (b := 56) dx_Mo_namesGood_238 (by first | omega | (have := opS_lt (F 7 (40 * m + p)); omega) | (have := hW.2.1; omega) | (have := hW.2.2.2.2.2.2.2 (40 * m + (p + 1)); omega)) (by first | omega | (have := opS_lt (F 7 (40 * m + p)); omega) | (have := hW.2.1; omega) | (have := hW.2.2.2.2.2.2.2 (40 * m + (p + 1)); omega)) (fun c_238 => ?_) (fun c_238 => ?_)
            · refine px_iload_n dx_Mo_namesGood_260 rfl ?_
              by_cases k_261_0 : opS (F 7 (40 * m + p)) ∈ ([1] : List Nat)
              · refine px_lookG (e := opS (F 7 (40 * m + p))) (off := 107) [1] dx_Mo_namesGood_261 (by first | omega | (have := opS_lt (F 7 (40 * m + p)); omega) | (have := hW.2.1; omega) | (have := hW.2.2.2.2.2.2.2 (40 * m + (p + 1)); omega)) k_261_0 (by decide) (by decide) rfl ?_
                refine px_aload_n dx_Mo_namesGood_368 rfl ?_
                refine px_iload_n dx_Mo_namesGood_369 rfl ?_
                refine px_aload_n dx_Mo_namesGood_370 rfl ?_
                refine px_iload_n dx_Mo_namesGood_371 rfl ?_
                refine px_iload_n dx_Mo_namesGood_372 rfl ?_
                refine px_cV (Y := yy_Mo_namesGood) (Yc := yy_Mo_regA) (b := 717) (As := [.int (nI (m)), .int (nI (p))]) dx_Mo_namesGood_373 ml_Mo_193 mv_Mo_regA np_Mo_regA ⟨_, rfl⟩ (by decide) rfl (by decide) rfl (Nat.le_of_ble_eq_true rfl) (Nat.le_of_ble_eq_true rfl) rk_Mo_namesGood_Mo_regA rfl (m_regA hM (by omega) (hF.2.2.2.2.2.2.2 (40 * m + p) (by omega)) (hW.2.2.2.2.2.2.2 _)) zz_0 ?_
                refine px_iconst (v := 1) dx_Mo_namesGood_376 rfl ?_
                refine px_cV (Y := yy_Mo_namesGood) (Yc := yy_Mo_has) (b := 717) (As := [.int (nI (m)), .int (nI (opA (F 7 (40 * m + p)))), .int (1)]) dx_Mo_namesGood_377 ml_Mo_189 mv_Mo_has np_Mo_has ⟨_, rfl⟩ (by decide) rfl (by decide) rfl (Nat.le_of_ble_eq_true rfl) (Nat.le_of_ble_eq_true rfl) rk_Mo_namesGood_Mo_has rfl (m_has (t := 1) hM hF hW hm (opA_lt5 _) (by decide)) zz_0 ?_
                refine px_if_eqB dx_Mo_namesGood_380 (fun c_380 => ?_) (fun c_380 => ?_)
                · refine px_iconst (v := 0) dx_Mo_namesGood_402 rfl ?_
                  exact px_zret dx_Mo_namesGood_403 rfl (by decide) (by (have e : nmOK F m p = false := by (unfold nmOK; rw [nmW_5 (by assumption)]; simp_all)); rw [e] at hp0; exact hp0)
                · refine px_aload_n dx_Mo_namesGood_383 rfl ?_
                  refine px_iload_n dx_Mo_namesGood_384 rfl ?_
                  refine px_aload_n dx_Mo_namesGood_385 rfl ?_
                  refine px_iload_n dx_Mo_namesGood_386 rfl ?_
                  refine px_iload_n dx_Mo_namesGood_387 rfl ?_
                  refine px_cV (Y := yy_Mo_namesGood) (Yc := yy_Mo_regB) (b := 717) (As := [.int (nI (m)), .int (nI (p))]) dx_Mo_namesGood_388 ml_Mo_182 mv_Mo_regB np_Mo_regB ⟨_, rfl⟩ (by decide) rfl (by decide) rfl (Nat.le_of_ble_eq_true rfl) (Nat.le_of_ble_eq_true rfl) rk_Mo_namesGood_Mo_regB rfl (m_regB hM (by omega) (hF.2.2.2.2.2.2.2 (40 * m + p) (by omega)) (hW.2.2.2.2.2.2.2 _)) zz_0 ?_
                  refine px_iconst (v := 1) dx_Mo_namesGood_391 rfl ?_
                  refine px_cV (Y := yy_Mo_namesGood) (Yc := yy_Mo_has) (b := 717) (As := [.int (nI (m)), .int (nI (opB (F 7 (40 * m + p)))), .int (1)]) dx_Mo_namesGood_392 ml_Mo_189 mv_Mo_has np_Mo_has ⟨_, rfl⟩ (by decide) rfl (by decide) rfl (Nat.le_of_ble_eq_true rfl) (Nat.le_of_ble_eq_true rfl) rk_Mo_namesGood_Mo_has rfl (m_has (t := 1) hM hF hW hm (opB_lt5 hW _) (by decide)) zz_0 ?_
                  refine px_if_eqB dx_Mo_namesGood_395 (fun c_395 => ?_) (fun c_395 => ?_)
                  · refine px_iconst (v := 0) dx_Mo_namesGood_402 rfl ?_
                    exact px_zret dx_Mo_namesGood_403 rfl (by decide) (by (have e : nmOK F m p = false := by (unfold nmOK; rw [nmW_5 (by assumption)]; simp_all)); rw [e] at hp0; exact hp0)
                  · refine px_iconst (v := 1) dx_Mo_namesGood_398 rfl ?_
                    refine px_goto dx_Mo_namesGood_399 ?_
                    exact px_zret dx_Mo_namesGood_403 rfl (by decide) (by (have e : nmOK F m p = true := by (unfold nmOK; rw [nmW_5 (by assumption)]; simp_all)); rw [e] at hp0; exact hp0)
              by_cases k_261_1 : opS (F 7 (40 * m + p)) ∈ ([4] : List Nat)
              · refine px_lookG (e := opS (F 7 (40 * m + p))) (off := 143) [4] dx_Mo_namesGood_261 (by first | omega | (have := opS_lt (F 7 (40 * m + p)); omega) | (have := hW.2.1; omega) | (have := hW.2.2.2.2.2.2.2 (40 * m + (p + 1)); omega)) k_261_1 (by decide) (by decide) rfl ?_
                refine px_aload_n dx_Mo_namesGood_404 rfl ?_
                refine px_iload_n dx_Mo_namesGood_405 rfl ?_
                refine px_aload_n dx_Mo_namesGood_406 rfl ?_
                refine px_iload_n dx_Mo_namesGood_407 rfl ?_
                refine px_iload_n dx_Mo_namesGood_408 rfl ?_
                refine px_cV (Y := yy_Mo_namesGood) (Yc := yy_Mo_regA) (b := 717) (As := [.int (nI (m)), .int (nI (p))]) dx_Mo_namesGood_409 ml_Mo_193 mv_Mo_regA np_Mo_regA ⟨_, rfl⟩ (by decide) rfl (by decide) rfl (Nat.le_of_ble_eq_true rfl) (Nat.le_of_ble_eq_true rfl) rk_Mo_namesGood_Mo_regA rfl (m_regA hM (by omega) (hF.2.2.2.2.2.2.2 (40 * m + p) (by omega)) (hW.2.2.2.2.2.2.2 _)) zz_0 ?_
                refine px_iconst (v := 2) dx_Mo_namesGood_412 rfl ?_
                refine px_cV (Y := yy_Mo_namesGood) (Yc := yy_Mo_has) (b := 717) (As := [.int (nI (m)), .int (nI (opA (F 7 (40 * m + p)))), .int (2)]) dx_Mo_namesGood_413 ml_Mo_189 mv_Mo_has np_Mo_has ⟨_, rfl⟩ (by decide) rfl (by decide) rfl (Nat.le_of_ble_eq_true rfl) (Nat.le_of_ble_eq_true rfl) rk_Mo_namesGood_Mo_has rfl (m_has (t := 2) hM hF hW hm (opA_lt5 _) (by decide)) zz_0 ?_
                refine px_if_eqB dx_Mo_namesGood_416 (fun c_416 => ?_) (fun c_416 => ?_)
                · refine px_iconst (v := 0) dx_Mo_namesGood_438 rfl ?_
                  exact px_zret dx_Mo_namesGood_439 rfl (by decide) (by (have e : nmOK F m p = false := by (unfold nmOK; rw [nmW_6 (by assumption)]; simp_all)); rw [e] at hp0; exact hp0)
                · refine px_aload_n dx_Mo_namesGood_419 rfl ?_
                  refine px_iload_n dx_Mo_namesGood_420 rfl ?_
                  refine px_aload_n dx_Mo_namesGood_421 rfl ?_
                  refine px_iload_n dx_Mo_namesGood_422 rfl ?_
                  refine px_iload_n dx_Mo_namesGood_423 rfl ?_
                  refine px_cV (Y := yy_Mo_namesGood) (Yc := yy_Mo_regB) (b := 717) (As := [.int (nI (m)), .int (nI (p))]) dx_Mo_namesGood_424 ml_Mo_182 mv_Mo_regB np_Mo_regB ⟨_, rfl⟩ (by decide) rfl (by decide) rfl (Nat.le_of_ble_eq_true rfl) (Nat.le_of_ble_eq_true rfl) rk_Mo_namesGood_Mo_regB rfl (m_regB hM (by omega) (hF.2.2.2.2.2.2.2 (40 * m + p) (by omega)) (hW.2.2.2.2.2.2.2 _)) zz_0 ?_
                  refine px_iconst (v := 2) dx_Mo_namesGood_427 rfl ?_
                  refine px_cV (Y := yy_Mo_namesGood) (Yc := yy_Mo_has) (b := 717) (As := [.int (nI (m)), .int (nI (opB (F 7 (40 * m + p)))), .int (2)]) dx_Mo_namesGood_428 ml_Mo_189 mv_Mo_has np_Mo_has ⟨_, rfl⟩ (by decide) rfl (by decide) rfl (Nat.le_of_ble_eq_true rfl) (Nat.le_of_ble_eq_true rfl) rk_Mo_namesGood_Mo_has rfl (m_has (t := 2) hM hF hW hm (opB_lt5 hW _) (by decide)) zz_0 ?_
                  refine px_if_eqB dx_Mo_namesGood_431 (fun c_431 => ?_) (fun c_431 => ?_)
                  · refine px_iconst (v := 0) dx_Mo_namesGood_438 rfl ?_
                    exact px_zret dx_Mo_namesGood_439 rfl (by decide) (by (have e : nmOK F m p = false := by (unfold nmOK; rw [nmW_6 (by assumption)]; simp_all)); rw [e] at hp0; exact hp0)
                  · refine px_iconst (v := 1) dx_Mo_namesGood_434 rfl ?_
                    refine px_goto dx_Mo_namesGood_435 ?_
                    exact px_zret dx_Mo_namesGood_439 rfl (by decide) (by (have e : nmOK F m p = true := by (unfold nmOK; rw [nmW_6 (by assumption)]; simp_all)); rw [e] at hp0; exact hp0)
              by_cases k_261_2 : opS (F 7 (40 * m + p)) ∈ ([10, 15, 19] : List Nat)
              · refine px_lookG (e := opS (F 7 (40 * m + p))) (off := 179) [10, 15, 19] dx_Mo_namesGood_261 (by first | omega | (have := opS_lt (F 7 (40 * m + p)); omega) | (have := hW.2.1; omega) | (have := hW.2.2.2.2.2.2.2 (40 * m + (p + 1)); omega)) k_261_2 (by decide) (by decide) rfl ?_
                refine px_aload_n dx_Mo_namesGood_440 rfl ?_
                refine px_iload_n dx_Mo_namesGood_441 rfl ?_
                refine px_aload_n dx_Mo_namesGood_442 rfl ?_
                refine px_iload_n dx_Mo_namesGood_443 rfl ?_
                refine px_iload_n dx_Mo_namesGood_444 rfl ?_
                refine px_cV (Y := yy_Mo_namesGood) (Yc := yy_Mo_regAA) (b := 717) (As := [.int (nI (m)), .int (nI (p))]) dx_Mo_namesGood_445 ml_Mo_179 mv_Mo_regAA np_Mo_regAA ⟨_, rfl⟩ (by decide) rfl (by decide) rfl (Nat.le_of_ble_eq_true rfl) (Nat.le_of_ble_eq_true rfl) rk_Mo_namesGood_Mo_regAA rfl (m_regAA hM (by omega) (hF.2.2.2.2.2.2.2 (40 * m + p) (by omega)) (hW.2.2.2.2.2.2.2 _)) zz_0 ?_
                refine px_iconst (v := 1) dx_Mo_namesGood_448 rfl ?_
                refine px_cV (Y := yy_Mo_namesGood) (Yc := yy_Mo_has) (b := 717) (As := [.int (nI (m)), .int (nI (opN (F 7 (40 * m + p)))), .int (1)]) dx_Mo_namesGood_449 ml_Mo_189 mv_Mo_has np_Mo_has ⟨_, rfl⟩ (by decide) rfl (by decide) rfl (Nat.le_of_ble_eq_true rfl) (Nat.le_of_ble_eq_true rfl) rk_Mo_namesGood_Mo_has rfl (m_has (t := 1) hM hF hW hm (opN_lt5 hW _) (by decide)) zz_0 ?_
                exact px_zret dx_Mo_namesGood_452 rfl (b2i_01 _) (by (have e : nmOK F m p = hsR F m (opN (F 7 (40 * m + p))) (1) := by (unfold nmOK; rw [nmW_7 (by assumption)])); rw [e] at hp0; exact hp0)
              by_cases k_261_3 : opS (F 7 (40 * m + p)) ∈ ([11, 16, 22] : List Nat)
              · refine px_lookG (e := opS (F 7 (40 * m + p))) (off := 192) [11, 16, 22] dx_Mo_namesGood_261 (by first | omega | (have := opS_lt (F 7 (40 * m + p)); omega) | (have := hW.2.1; omega) | (have := hW.2.2.2.2.2.2.2 (40 * m + (p + 1)); omega)) k_261_3 (by decide) (by decide) rfl ?_
                refine px_aload_n dx_Mo_namesGood_453 rfl ?_
                refine px_iload_n dx_Mo_namesGood_454 rfl ?_
                refine px_aload_n dx_Mo_namesGood_455 rfl ?_
                refine px_iload_n dx_Mo_namesGood_456 rfl ?_
                refine px_iload_n dx_Mo_namesGood_457 rfl ?_
                refine px_cV (Y := yy_Mo_namesGood) (Yc := yy_Mo_regAA) (b := 717) (As := [.int (nI (m)), .int (nI (p))]) dx_Mo_namesGood_458 ml_Mo_179 mv_Mo_regAA np_Mo_regAA ⟨_, rfl⟩ (by decide) rfl (by decide) rfl (Nat.le_of_ble_eq_true rfl) (Nat.le_of_ble_eq_true rfl) rk_Mo_namesGood_Mo_regAA rfl (m_regAA hM (by omega) (hF.2.2.2.2.2.2.2 (40 * m + p) (by omega)) (hW.2.2.2.2.2.2.2 _)) zz_0 ?_
                refine px_iconst (v := 2) dx_Mo_namesGood_461 rfl ?_
                refine px_cV (Y := yy_Mo_namesGood) (Yc := yy_Mo_has) (b := 717) (As := [.int (nI (m)), .int (nI (opN (F 7 (40 * m + p)))), .int (2)]) dx_Mo_namesGood_462 ml_Mo_189 mv_Mo_has np_Mo_has ⟨_, rfl⟩ (by decide) rfl (by decide) rfl (Nat.le_of_ble_eq_true rfl) (Nat.le_of_ble_eq_true rfl) rk_Mo_namesGood_Mo_has rfl (m_has (t := 2) hM hF hW hm (opN_lt5 hW _) (by decide)) zz_0 ?_
                exact px_zret dx_Mo_namesGood_465 rfl (b2i_01 _) (by (have e : nmOK F m p = hsR F m (opN (F 7 (40 * m + p))) (2) := by (unfold nmOK; rw [nmW_8 (by assumption)])); rw [e] at hp0; exact hp0)
              by_cases k_261_4 : opS (F 7 (40 * m + p)) ∈ ([18] : List Nat)
              · refine px_lookG (e := opS (F 7 (40 * m + p))) (off := 205) [18] dx_Mo_namesGood_261 (by first | omega | (have := opS_lt (F 7 (40 * m + p)); omega) | (have := hW.2.1; omega) | (have := hW.2.2.2.2.2.2.2 (40 * m + (p + 1)); omega)) k_261_4 (by decide) (by decide) rfl ?_
                refine px_aload_n dx_Mo_namesGood_466 rfl ?_
                refine px_iload_n dx_Mo_namesGood_467 rfl ?_
                refine px_aload_n dx_Mo_namesGood_468 rfl ?_
                refine px_iload_n dx_Mo_namesGood_469 rfl ?_
                refine px_iload_n dx_Mo_namesGood_470 rfl ?_
                refine px_cV (Y := yy_Mo_namesGood) (Yc := yy_Mo_regA) (b := 717) (As := [.int (nI (m)), .int (nI (p))]) dx_Mo_namesGood_471 ml_Mo_193 mv_Mo_regA np_Mo_regA ⟨_, rfl⟩ (by decide) rfl (by decide) rfl (Nat.le_of_ble_eq_true rfl) (Nat.le_of_ble_eq_true rfl) rk_Mo_namesGood_Mo_regA rfl (m_regA hM (by omega) (hF.2.2.2.2.2.2.2 (40 * m + p) (by omega)) (hW.2.2.2.2.2.2.2 _)) zz_0 ?_
                refine px_iconst (v := 1) dx_Mo_namesGood_474 rfl ?_
                refine px_cV (Y := yy_Mo_namesGood) (Yc := yy_Mo_has) (b := 717) (As := [.int (nI (m)), .int (nI (opA (F 7 (40 * m + p)))), .int (1)]) dx_Mo_namesGood_475 ml_Mo_189 mv_Mo_has np_Mo_has ⟨_, rfl⟩ (by decide) rfl (by decide) rfl (Nat.le_of_ble_eq_true rfl) (Nat.le_of_ble_eq_true rfl) rk_Mo_namesGood_Mo_has rfl (m_has (t := 1) hM hF hW hm (opA_lt5 _) (by decide)) zz_0 ?_
                exact px_zret dx_Mo_namesGood_478 rfl (b2i_01 _) (by (have e : nmOK F m p = hsR F m (opA (F 7 (40 * m + p))) (1) := by (unfold nmOK; rw [nmW_9 (by assumption)])); rw [e] at hp0; exact hp0)
              by_cases k_261_5 : opS (F 7 (40 * m + p)) ∈ ([96, 103] : List Nat)
              · refine px_lookG (e := opS (F 7 (40 * m + p))) (off := 218) [96, 103] dx_Mo_namesGood_261 (by first | omega | (have := opS_lt (F 7 (40 * m + p)); omega) | (have := hW.2.1; omega) | (have := hW.2.2.2.2.2.2.2 (40 * m + (p + 1)); omega)) k_261_5 (by decide) (by decide) rfl ?_
                refine px_aload_n dx_Mo_namesGood_479 rfl ?_
                refine px_iload_n dx_Mo_namesGood_480 rfl ?_
                refine px_aload_n dx_Mo_namesGood_481 rfl ?_
                refine px_iload_n dx_Mo_namesGood_482 rfl ?_
                refine px_iload_n dx_Mo_namesGood_483 rfl ?_
                refine px_cV (Y := yy_Mo_namesGood) (Yc := yy_Mo_regAA) (b := 717) (As := [.int (nI (m)), .int (nI (p))]) dx_Mo_namesGood_484 ml_Mo_179 mv_Mo_regAA np_Mo_regAA ⟨_, rfl⟩ (by decide) rfl (by decide) rfl (Nat.le_of_ble_eq_true rfl) (Nat.le_of_ble_eq_true rfl) rk_Mo_namesGood_Mo_regAA rfl (m_regAA hM (by omega) (hF.2.2.2.2.2.2.2 (40 * m + p) (by omega)) (hW.2.2.2.2.2.2.2 _)) zz_0 ?_
                refine px_iconst (v := 1) dx_Mo_namesGood_487 rfl ?_
                refine px_cV (Y := yy_Mo_namesGood) (Yc := yy_Mo_has) (b := 717) (As := [.int (nI (m)), .int (nI (opN (F 7 (40 * m + p)))), .int (1)]) dx_Mo_namesGood_488 ml_Mo_189 mv_Mo_has np_Mo_has ⟨_, rfl⟩ (by decide) rfl (by decide) rfl (Nat.le_of_ble_eq_true rfl) (Nat.le_of_ble_eq_true rfl) rk_Mo_namesGood_Mo_has rfl (m_has (t := 1) hM hF hW hm (opN_lt5 hW _) (by decide)) zz_0 ?_
                refine px_if_eqB dx_Mo_namesGood_491 (fun c_491 => ?_) (fun c_491 => ?_)
                · refine px_iconst (v := 0) dx_Mo_namesGood_522 rfl ?_
                  exact px_zret dx_Mo_namesGood_523 rfl (by decide) (by (have e : nmOK F m p = false := by (unfold nmOK; rw [nmW_10 (by assumption)]; have h14 := hW.2.1; first | (simp_all; done) | (simp_all; omega) | (simp only [Bool.and_eq_false_iff, decide_eq_false_iff_not]; right; omega))); rw [e] at hp0; exact hp0)
                · refine px_aload_n dx_Mo_namesGood_494 rfl ?_
                  refine px_iload_n dx_Mo_namesGood_495 rfl ?_
                  refine px_iload_n dx_Mo_namesGood_496 rfl ?_
                  by_cases hn : F 7 (40 * m + (p + 1)) ≤ 32767
                  · refine px_cV (Y := yy_Mo_namesGood) (Yc := yy_Mo_number) (b := 717) (As := [.int (nI (m)), .int (nI (p))]) dx_Mo_namesGood_497 ml_Mo_176 mv_Mo_number np_Mo_number ⟨_, rfl⟩ (by decide) rfl (by decide) rfl (Nat.le_of_ble_eq_true rfl) (Nat.le_of_ble_eq_true rfl) rk_Mo_namesGood_Mo_number rfl (m_number_p hM (by omega) (hF.2.2.2.2.2.2.2 (40 * m + (p + 1)) (by omega)) (hW.2.2.2.2.2.2.2 _) hn) zz_0 ?_
                    refine px_if_ltN (a := F 7 (40 * m + (p + 1))) dx_Mo_namesGood_500 (by first | omega | (have := opS_lt (F 7 (40 * m + p)); omega) | (have := hW.2.1; omega) | (have := hW.2.2.2.2.2.2.2 (40 * m + (p + 1)); omega)) (fun c_500 => ?_) (fun c_500 => ?_)
                    · refine px_iconst (v := 0) dx_Mo_namesGood_522 rfl ?_
                      exact px_zret dx_Mo_namesGood_523 rfl (by decide) (by (have e : nmOK F m p = false := by (unfold nmOK; rw [nmW_10 (by assumption)]; have h14 := hW.2.1; first | (simp_all; done) | (simp_all; omega) | (simp only [Bool.and_eq_false_iff, decide_eq_false_iff_not]; right; omega))); rw [e] at hp0; exact hp0)
                    · refine px_aload_n dx_Mo_namesGood_503 rfl ?_
                      refine px_iload_n dx_Mo_namesGood_504 rfl ?_
                      refine px_iload_n dx_Mo_namesGood_505 rfl ?_
                      by_cases hn : F 7 (40 * m + (p + 1)) ≤ 32767
                      · refine px_cV (Y := yy_Mo_namesGood) (Yc := yy_Mo_number) (b := 717) (As := [.int (nI (m)), .int (nI (p))]) dx_Mo_namesGood_506 ml_Mo_176 mv_Mo_number np_Mo_number ⟨_, rfl⟩ (by decide) rfl (by decide) rfl (Nat.le_of_ble_eq_true rfl) (Nat.le_of_ble_eq_true rfl) rk_Mo_namesGood_Mo_number rfl (m_number_p hM (by omega) (hF.2.2.2.2.2.2.2 (40 * m + (p + 1)) (by omega)) (hW.2.2.2.2.2.2.2 _) hn) zz_0 ?_
                        refine px_aload_n dx_Mo_namesGood_509 rfl ?_
                        refine px_getR (r := 720) dx_Mo_namesGood_510 fl_Mo_20 rfl (by decide) rfl (hM 7) ?_
                        refine px_iconst (v := 0) dx_Mo_namesGood_513 rfl ?_
                        refine px_ialdN (j := 0) dx_Mo_namesGood_514 rfl (by decide) (by decide) ?_
                        refine px_eqi (y := nI (F 1 0)) hF.2.1 ?_
                        refine px_icmp_geN (a := F 7 (40 * m + (p + 1))) (b := F 1 0) dx_Mo_namesGood_515 (by first | omega | (have := opS_lt (F 7 (40 * m + p)); omega) | (have := hW.2.1; omega) | (have := hW.2.2.2.2.2.2.2 (40 * m + (p + 1)); omega)) (by first | omega | (have := opS_lt (F 7 (40 * m + p)); omega) | (have := hW.2.1; omega) | (have := hW.2.2.2.2.2.2.2 (40 * m + (p + 1)); omega)) (fun c_515 => ?_) (fun c_515 => ?_)
                        · refine px_iconst (v := 0) dx_Mo_namesGood_522 rfl ?_
                          exact px_zret dx_Mo_namesGood_523 rfl (by decide) (by (have e : nmOK F m p = false := by (unfold nmOK; rw [nmW_10 (by assumption)]; have h14 := hW.2.1; first | (simp_all; done) | (simp_all; omega) | (simp only [Bool.and_eq_false_iff, decide_eq_false_iff_not]; right; omega))); rw [e] at hp0; exact hp0)
                        · refine px_iconst (v := 1) dx_Mo_namesGood_518 rfl ?_
                          refine px_goto dx_Mo_namesGood_519 ?_
                          exact px_zret dx_Mo_namesGood_523 rfl (by decide) (by (have e : nmOK F m p = true := by (unfold nmOK; rw [nmW_10 (by assumption)]; have h14 := hW.2.1; first | (simp_all; done) | (simp_all; omega) | (simp only [Bool.and_eq_false_iff, decide_eq_false_iff_not]; right; omega))); rw [e] at hp0; exact hp0)
                      · refine px_cV (Y := yy_Mo_namesGood) (Yc := yy_Mo_number) (b := 717) (As := [.int (nI (m)), .int (nI (p))]) dx_Mo_namesGood_506 ml_Mo_176 mv_Mo_number np_Mo_number ⟨_, rfl⟩ (by decide) rfl (by decide) rfl (Nat.le_of_ble_eq_true rfl) (Nat.le_of_ble_eq_true rfl) rk_Mo_namesGood_Mo_number rfl (m_number hM (by omega) (hF.2.2.2.2.2.2.2 (40 * m + (p + 1)) (by omega)) (hW.2.2.2.2.2.2.2 _)) zz_0 ?_
                        refine px_aload_n dx_Mo_namesGood_509 rfl ?_
                        refine px_getR (r := 720) dx_Mo_namesGood_510 fl_Mo_20 rfl (by decide) rfl (hM 7) ?_
                        refine px_iconst (v := 0) dx_Mo_namesGood_513 rfl ?_
                        refine px_ialdN (j := 0) dx_Mo_namesGood_514 rfl (by decide) (by decide) ?_
                        refine px_eqi (y := nI (F 1 0)) hF.2.1 ?_
                        refine px_icmp_ge dx_Mo_namesGood_515 (fun c_515 => ?_) (fun c_515 => ?_)
                        · refine px_iconst (v := 0) dx_Mo_namesGood_522 rfl ?_
                          exact px_zret dx_Mo_namesGood_523 rfl (by decide) (by (have e : nmOK F m p = false := by (unfold nmOK; rw [nmW_10 (by assumption)]; have h14 := hW.2.1; first | (simp_all; done) | (simp_all; omega) | (simp only [Bool.and_eq_false_iff, decide_eq_false_iff_not]; right; omega))); rw [e] at hp0; exact hp0)
                        · refine px_iconst (v := 1) dx_Mo_namesGood_518 rfl ?_
                          refine px_goto dx_Mo_namesGood_519 ?_
                          exact px_zret dx_Mo_namesGood_523 rfl (by decide) (by (have e : nmOK F m p = true := by (unfold nmOK; rw [nmW_10 (by assumption)]; have h14 := hW.2.1; first | (simp_all; done) | (simp_all; omega) | (simp only [Bool.and_eq_false_iff, decide_eq_false_iff_not]; right; omega))); rw [e] at hp0; exact hp0)
                  · refine px_cV (Y := yy_Mo_namesGood) (Yc := yy_Mo_number) (b := 717) (As := [.int (nI (m)), .int (nI (p))]) dx_Mo_namesGood_497 ml_Mo_176 mv_Mo_number np_Mo_number ⟨_, rfl⟩ (by decide) rfl (by decide) rfl (Nat.le_of_ble_eq_true rfl) (Nat.le_of_ble_eq_true rfl) rk_Mo_namesGood_Mo_number rfl (m_number hM (by omega) (hF.2.2.2.2.2.2.2 (40 * m + (p + 1)) (by omega)) (hW.2.2.2.2.2.2.2 _)) zz_0 ?_
                    refine px_if_lt dx_Mo_namesGood_500 (fun c_500 => ?_) (fun c_500 => ?_)
                    · refine px_iconst (v := 0) dx_Mo_namesGood_522 rfl ?_
                      exact px_zret dx_Mo_namesGood_523 rfl (by decide) (by (have e : nmOK F m p = false := by (unfold nmOK; rw [nmW_10 (by assumption)]; have h14 := hW.2.1; first | (simp_all; done) | (simp_all; omega) | (simp only [Bool.and_eq_false_iff, decide_eq_false_iff_not]; right; omega))); rw [e] at hp0; exact hp0)
                    · exact absurd (nmI_n hn (hW.2.2.2.2.2.2.2 _)) c_500
              by_cases k_261_6 : opS (F 7 (40 * m + p)) ∈ ([113] : List Nat)
              · refine px_lookG (e := opS (F 7 (40 * m + p))) (off := 263) [113] dx_Mo_namesGood_261 (by first | omega | (have := opS_lt (F 7 (40 * m + p)); omega) | (have := hW.2.1; omega) | (have := hW.2.2.2.2.2.2.2 (40 * m + (p + 1)); omega)) k_261_6 (by decide) (by decide) rfl ?_
                refine px_aload_n dx_Mo_namesGood_524 rfl ?_
                refine px_iload_n dx_Mo_namesGood_525 rfl ?_
                refine px_iload_n dx_Mo_namesGood_526 rfl ?_
                refine px_cV (Y := yy_Mo_namesGood) (Yc := yy_Mo_argumentsThere) (b := 717) (As := [.int (nI (m)), .int (nI (p))]) dx_Mo_namesGood_527 ml_Mo_214 mv_Mo_argumentsThere np_Mo_argumentsThere ⟨_, rfl⟩ (by decide) rfl (by decide) rfl (Nat.le_of_ble_eq_true rfl) (Nat.le_of_ble_eq_true rfl) rk_Mo_namesGood_Mo_argumentsThere rfl (m_argumentsThere hM hF hW hm hpl) zz_0 ?_
                exact px_zret dx_Mo_namesGood_530 rfl (b2i_01 _) (by (have e : nmOK F m p = agT F m p := by (unfold nmOK; rw [nmW_11 (by assumption)])); rw [e] at hp0; exact hp0)
              have kn_261 : opS (F 7 (40 * m + p)) ∉ ([1, 4, 10, 11, 15, 16, 18, 19, 22, 96, 103, 113] : List Nat) := by simp only [List.mem_cons, List.not_mem_nil, or_false, not_or] at *; omega
              refine px_lookD (e := opS (F 7 (40 * m + p))) [1, 4, 10, 11, 15, 16, 18, 19, 22, 96, 103, 113] dx_Mo_namesGood_261 (by first | omega | (have := opS_lt (F 7 (40 * m + p)); omega) | (have := hW.2.1; omega) | (have := hW.2.2.2.2.2.2.2 (40 * m + (p + 1)); omega)) kn_261 (by decide) (by decide) rfl ?_
              refine px_iconst (v := 1) dx_Mo_namesGood_531 rfl ?_
              exact px_zret dx_Mo_namesGood_532 rfl (by decide) (by (have e : nmOK F m p = true := by (unfold nmOK; rw [nmW_12 (by assumption) (by assumption) (by assumption) (by omega) (by omega) (by assumption)])); rw [e] at hp0; exact hp0)
            · refine px_iload_n dx_Mo_namesGood_241 rfl ?_
              refine px_bipush (v := 61) dx_Mo_namesGood_242 rfl ?_
              refine px_icmp_gtN (a := opS (F 7 (40 * m + p))) (b := 61) dx_Mo_namesGood_244 (by first | omega | (have := opS_lt (F 7 (40 * m + p)); omega) | (have := hW.2.1; omega) | (have := hW.2.2.2.2.2.2.2 (40 * m + (p + 1)); omega)) (by first | omega | (have := opS_lt (F 7 (40 * m + p)); omega) | (have := hW.2.1; omega) | (have := hW.2.2.2.2.2.2.2 (40 * m + (p + 1)); omega)) (fun c_244 => ?_) (fun c_244 => ?_)
              · refine px_iload_n dx_Mo_namesGood_260 rfl ?_
                by_cases k_261_0 : opS (F 7 (40 * m + p)) ∈ ([1] : List Nat)
                · refine px_lookG (e := opS (F 7 (40 * m + p))) (off := 107) [1] dx_Mo_namesGood_261 (by first | omega | (have := opS_lt (F 7 (40 * m + p)); omega) | (have := hW.2.1; omega) | (have := hW.2.2.2.2.2.2.2 (40 * m + (p + 1)); omega)) k_261_0 (by decide) (by decide) rfl ?_
                  refine px_aload_n dx_Mo_namesGood_368 rfl ?_
                  refine px_iload_n dx_Mo_namesGood_369 rfl ?_
                  refine px_aload_n dx_Mo_namesGood_370 rfl ?_
                  refine px_iload_n dx_Mo_namesGood_371 rfl ?_
                  refine px_iload_n dx_Mo_namesGood_372 rfl ?_
                  refine px_cV (Y := yy_Mo_namesGood) (Yc := yy_Mo_regA) (b := 717) (As := [.int (nI (m)), .int (nI (p))]) dx_Mo_namesGood_373 ml_Mo_193 mv_Mo_regA np_Mo_regA ⟨_, rfl⟩ (by decide) rfl (by decide) rfl (Nat.le_of_ble_eq_true rfl) (Nat.le_of_ble_eq_true rfl) rk_Mo_namesGood_Mo_regA rfl (m_regA hM (by omega) (hF.2.2.2.2.2.2.2 (40 * m + p) (by omega)) (hW.2.2.2.2.2.2.2 _)) zz_0 ?_
                  refine px_iconst (v := 1) dx_Mo_namesGood_376 rfl ?_
                  refine px_cV (Y := yy_Mo_namesGood) (Yc := yy_Mo_has) (b := 717) (As := [.int (nI (m)), .int (nI (opA (F 7 (40 * m + p)))), .int (1)]) dx_Mo_namesGood_377 ml_Mo_189 mv_Mo_has np_Mo_has ⟨_, rfl⟩ (by decide) rfl (by decide) rfl (Nat.le_of_ble_eq_true rfl) (Nat.le_of_ble_eq_true rfl) rk_Mo_namesGood_Mo_has rfl (m_has (t := 1) hM hF hW hm (opA_lt5 _) (by decide)) zz_0 ?_
                  refine px_if_eqB dx_Mo_namesGood_380 (fun c_380 => ?_) (fun c_380 => ?_)
                  · refine px_iconst (v := 0) dx_Mo_namesGood_402 rfl ?_
                    exact px_zret dx_Mo_namesGood_403 rfl (by decide) (by (have e : nmOK F m p = false := by (unfold nmOK; rw [nmW_5 (by assumption)]; simp_all)); rw [e] at hp0; exact hp0)
                  · refine px_aload_n dx_Mo_namesGood_383 rfl ?_
                    refine px_iload_n dx_Mo_namesGood_384 rfl ?_
                    refine px_aload_n dx_Mo_namesGood_385 rfl ?_
                    refine px_iload_n dx_Mo_namesGood_386 rfl ?_
                    refine px_iload_n dx_Mo_namesGood_387 rfl ?_
                    refine px_cV (Y := yy_Mo_namesGood) (Yc := yy_Mo_regB) (b := 717) (As := [.int (nI (m)), .int (nI (p))]) dx_Mo_namesGood_388 ml_Mo_182 mv_Mo_regB np_Mo_regB ⟨_, rfl⟩ (by decide) rfl (by decide) rfl (Nat.le_of_ble_eq_true rfl) (Nat.le_of_ble_eq_true rfl) rk_Mo_namesGood_Mo_regB rfl (m_regB hM (by omega) (hF.2.2.2.2.2.2.2 (40 * m + p) (by omega)) (hW.2.2.2.2.2.2.2 _)) zz_0 ?_
                    refine px_iconst (v := 1) dx_Mo_namesGood_391 rfl ?_
                    refine px_cV (Y := yy_Mo_namesGood) (Yc := yy_Mo_has) (b := 717) (As := [.int (nI (m)), .int (nI (opB (F 7 (40 * m + p)))), .int (1)]) dx_Mo_namesGood_392 ml_Mo_189 mv_Mo_has np_Mo_has ⟨_, rfl⟩ (by decide) rfl (by decide) rfl (Nat.le_of_ble_eq_true rfl) (Nat.le_of_ble_eq_true rfl) rk_Mo_namesGood_Mo_has rfl (m_has (t := 1) hM hF hW hm (opB_lt5 hW _) (by decide)) zz_0 ?_
                    refine px_if_eqB dx_Mo_namesGood_395 (fun c_395 => ?_) (fun c_395 => ?_)
                    · refine px_iconst (v := 0) dx_Mo_namesGood_402 rfl ?_
                      exact px_zret dx_Mo_namesGood_403 rfl (by decide) (by (have e : nmOK F m p = false := by (unfold nmOK; rw [nmW_5 (by assumption)]; simp_all)); rw [e] at hp0; exact hp0)
                    · refine px_iconst (v := 1) dx_Mo_namesGood_398 rfl ?_
                      refine px_goto dx_Mo_namesGood_399 ?_
                      exact px_zret dx_Mo_namesGood_403 rfl (by decide) (by (have e : nmOK F m p = true := by (unfold nmOK; rw [nmW_5 (by assumption)]; simp_all)); rw [e] at hp0; exact hp0)
                by_cases k_261_1 : opS (F 7 (40 * m + p)) ∈ ([4] : List Nat)
                · refine px_lookG (e := opS (F 7 (40 * m + p))) (off := 143) [4] dx_Mo_namesGood_261 (by first | omega | (have := opS_lt (F 7 (40 * m + p)); omega) | (have := hW.2.1; omega) | (have := hW.2.2.2.2.2.2.2 (40 * m + (p + 1)); omega)) k_261_1 (by decide) (by decide) rfl ?_
                  refine px_aload_n dx_Mo_namesGood_404 rfl ?_
                  refine px_iload_n dx_Mo_namesGood_405 rfl ?_
                  refine px_aload_n dx_Mo_namesGood_406 rfl ?_
                  refine px_iload_n dx_Mo_namesGood_407 rfl ?_
                  refine px_iload_n dx_Mo_namesGood_408 rfl ?_
                  refine px_cV (Y := yy_Mo_namesGood) (Yc := yy_Mo_regA) (b := 717) (As := [.int (nI (m)), .int (nI (p))]) dx_Mo_namesGood_409 ml_Mo_193 mv_Mo_regA np_Mo_regA ⟨_, rfl⟩ (by decide) rfl (by decide) rfl (Nat.le_of_ble_eq_true rfl) (Nat.le_of_ble_eq_true rfl) rk_Mo_namesGood_Mo_regA rfl (m_regA hM (by omega) (hF.2.2.2.2.2.2.2 (40 * m + p) (by omega)) (hW.2.2.2.2.2.2.2 _)) zz_0 ?_
                  refine px_iconst (v := 2) dx_Mo_namesGood_412 rfl ?_
                  refine px_cV (Y := yy_Mo_namesGood) (Yc := yy_Mo_has) (b := 717) (As := [.int (nI (m)), .int (nI (opA (F 7 (40 * m + p)))), .int (2)]) dx_Mo_namesGood_413 ml_Mo_189 mv_Mo_has np_Mo_has ⟨_, rfl⟩ (by decide) rfl (by decide) rfl (Nat.le_of_ble_eq_true rfl) (Nat.le_of_ble_eq_true rfl) rk_Mo_namesGood_Mo_has rfl (m_has (t := 2) hM hF hW hm (opA_lt5 _) (by decide)) zz_0 ?_
                  refine px_if_eqB dx_Mo_namesGood_416 (fun c_416 => ?_) (fun c_416 => ?_)
                  · refine px_iconst (v := 0) dx_Mo_namesGood_438 rfl ?_
                    exact px_zret dx_Mo_namesGood_439 rfl (by decide) (by (have e : nmOK F m p = false := by (unfold nmOK; rw [nmW_6 (by assumption)]; simp_all)); rw [e] at hp0; exact hp0)
                  · refine px_aload_n dx_Mo_namesGood_419 rfl ?_
                    refine px_iload_n dx_Mo_namesGood_420 rfl ?_
                    refine px_aload_n dx_Mo_namesGood_421 rfl ?_
                    refine px_iload_n dx_Mo_namesGood_422 rfl ?_
                    refine px_iload_n dx_Mo_namesGood_423 rfl ?_
                    refine px_cV (Y := yy_Mo_namesGood) (Yc := yy_Mo_regB) (b := 717) (As := [.int (nI (m)), .int (nI (p))]) dx_Mo_namesGood_424 ml_Mo_182 mv_Mo_regB np_Mo_regB ⟨_, rfl⟩ (by decide) rfl (by decide) rfl (Nat.le_of_ble_eq_true rfl) (Nat.le_of_ble_eq_true rfl) rk_Mo_namesGood_Mo_regB rfl (m_regB hM (by omega) (hF.2.2.2.2.2.2.2 (40 * m + p) (by omega)) (hW.2.2.2.2.2.2.2 _)) zz_0 ?_
                    refine px_iconst (v := 2) dx_Mo_namesGood_427 rfl ?_
                    refine px_cV (Y := yy_Mo_namesGood) (Yc := yy_Mo_has) (b := 717) (As := [.int (nI (m)), .int (nI (opB (F 7 (40 * m + p)))), .int (2)]) dx_Mo_namesGood_428 ml_Mo_189 mv_Mo_has np_Mo_has ⟨_, rfl⟩ (by decide) rfl (by decide) rfl (Nat.le_of_ble_eq_true rfl) (Nat.le_of_ble_eq_true rfl) rk_Mo_namesGood_Mo_has rfl (m_has (t := 2) hM hF hW hm (opB_lt5 hW _) (by decide)) zz_0 ?_
                    refine px_if_eqB dx_Mo_namesGood_431 (fun c_431 => ?_) (fun c_431 => ?_)
                    · refine px_iconst (v := 0) dx_Mo_namesGood_438 rfl ?_
                      exact px_zret dx_Mo_namesGood_439 rfl (by decide) (by (have e : nmOK F m p = false := by (unfold nmOK; rw [nmW_6 (by assumption)]; simp_all)); rw [e] at hp0; exact hp0)
                    · refine px_iconst (v := 1) dx_Mo_namesGood_434 rfl ?_
                      refine px_goto dx_Mo_namesGood_435 ?_
                      exact px_zret dx_Mo_namesGood_439 rfl (by decide) (by (have e : nmOK F m p = true := by (unfold nmOK; rw [nmW_6 (by assumption)]; simp_all)); rw [e] at hp0; exact hp0)
                by_cases k_261_2 : opS (F 7 (40 * m + p)) ∈ ([10, 15, 19] : List Nat)
                · refine px_lookG (e := opS (F 7 (40 * m + p))) (off := 179) [10, 15, 19] dx_Mo_namesGood_261 (by first | omega | (have := opS_lt (F 7 (40 * m + p)); omega) | (have := hW.2.1; omega) | (have := hW.2.2.2.2.2.2.2 (40 * m + (p + 1)); omega)) k_261_2 (by decide) (by decide) rfl ?_
                  refine px_aload_n dx_Mo_namesGood_440 rfl ?_
                  refine px_iload_n dx_Mo_namesGood_441 rfl ?_
                  refine px_aload_n dx_Mo_namesGood_442 rfl ?_
                  refine px_iload_n dx_Mo_namesGood_443 rfl ?_
                  refine px_iload_n dx_Mo_namesGood_444 rfl ?_
                  refine px_cV (Y := yy_Mo_namesGood) (Yc := yy_Mo_regAA) (b := 717) (As := [.int (nI (m)), .int (nI (p))]) dx_Mo_namesGood_445 ml_Mo_179 mv_Mo_regAA np_Mo_regAA ⟨_, rfl⟩ (by decide) rfl (by decide) rfl (Nat.le_of_ble_eq_true rfl) (Nat.le_of_ble_eq_true rfl) rk_Mo_namesGood_Mo_regAA rfl (m_regAA hM (by omega) (hF.2.2.2.2.2.2.2 (40 * m + p) (by omega)) (hW.2.2.2.2.2.2.2 _)) zz_0 ?_
                  refine px_iconst (v := 1) dx_Mo_namesGood_448 rfl ?_
                  refine px_cV (Y := yy_Mo_namesGood) (Yc := yy_Mo_has) (b := 717) (As := [.int (nI (m)), .int (nI (opN (F 7 (40 * m + p)))), .int (1)]) dx_Mo_namesGood_449 ml_Mo_189 mv_Mo_has np_Mo_has ⟨_, rfl⟩ (by decide) rfl (by decide) rfl (Nat.le_of_ble_eq_true rfl) (Nat.le_of_ble_eq_true rfl) rk_Mo_namesGood_Mo_has rfl (m_has (t := 1) hM hF hW hm (opN_lt5 hW _) (by decide)) zz_0 ?_
                  exact px_zret dx_Mo_namesGood_452 rfl (b2i_01 _) (by (have e : nmOK F m p = hsR F m (opN (F 7 (40 * m + p))) (1) := by (unfold nmOK; rw [nmW_7 (by assumption)])); rw [e] at hp0; exact hp0)
                by_cases k_261_3 : opS (F 7 (40 * m + p)) ∈ ([11, 16, 22] : List Nat)
                · refine px_lookG (e := opS (F 7 (40 * m + p))) (off := 192) [11, 16, 22] dx_Mo_namesGood_261 (by first | omega | (have := opS_lt (F 7 (40 * m + p)); omega) | (have := hW.2.1; omega) | (have := hW.2.2.2.2.2.2.2 (40 * m + (p + 1)); omega)) k_261_3 (by decide) (by decide) rfl ?_
                  refine px_aload_n dx_Mo_namesGood_453 rfl ?_
                  refine px_iload_n dx_Mo_namesGood_454 rfl ?_
                  refine px_aload_n dx_Mo_namesGood_455 rfl ?_
                  refine px_iload_n dx_Mo_namesGood_456 rfl ?_
                  refine px_iload_n dx_Mo_namesGood_457 rfl ?_
                  refine px_cV (Y := yy_Mo_namesGood) (Yc := yy_Mo_regAA) (b := 717) (As := [.int (nI (m)), .int (nI (p))]) dx_Mo_namesGood_458 ml_Mo_179 mv_Mo_regAA np_Mo_regAA ⟨_, rfl⟩ (by decide) rfl (by decide) rfl (Nat.le_of_ble_eq_true rfl) (Nat.le_of_ble_eq_true rfl) rk_Mo_namesGood_Mo_regAA rfl (m_regAA hM (by omega) (hF.2.2.2.2.2.2.2 (40 * m + p) (by omega)) (hW.2.2.2.2.2.2.2 _)) zz_0 ?_
                  refine px_iconst (v := 2) dx_Mo_namesGood_461 rfl ?_
                  refine px_cV (Y := yy_Mo_namesGood) (Yc := yy_Mo_has) (b := 717) (As := [.int (nI (m)), .int (nI (opN (F 7 (40 * m + p)))), .int (2)]) dx_Mo_namesGood_462 ml_Mo_189 mv_Mo_has np_Mo_has ⟨_, rfl⟩ (by decide) rfl (by decide) rfl (Nat.le_of_ble_eq_true rfl) (Nat.le_of_ble_eq_true rfl) rk_Mo_namesGood_Mo_has rfl (m_has (t := 2) hM hF hW hm (opN_lt5 hW _) (by decide)) zz_0 ?_
                  exact px_zret dx_Mo_namesGood_465 rfl (b2i_01 _) (by (have e : nmOK F m p = hsR F m (opN (F 7 (40 * m + p))) (2) := by (unfold nmOK; rw [nmW_8 (by assumption)])); rw [e] at hp0; exact hp0)
                by_cases k_261_4 : opS (F 7 (40 * m + p)) ∈ ([18] : List Nat)
                · refine px_lookG (e := opS (F 7 (40 * m + p))) (off := 205) [18] dx_Mo_namesGood_261 (by first | omega | (have := opS_lt (F 7 (40 * m + p)); omega) | (have := hW.2.1; omega) | (have := hW.2.2.2.2.2.2.2 (40 * m + (p + 1)); omega)) k_261_4 (by decide) (by decide) rfl ?_
                  refine px_aload_n dx_Mo_namesGood_466 rfl ?_
                  refine px_iload_n dx_Mo_namesGood_467 rfl ?_
                  refine px_aload_n dx_Mo_namesGood_468 rfl ?_
                  refine px_iload_n dx_Mo_namesGood_469 rfl ?_
                  refine px_iload_n dx_Mo_namesGood_470 rfl ?_
                  refine px_cV (Y := yy_Mo_namesGood) (Yc := yy_Mo_regA) (b := 717) (As := [.int (nI (m)), .int (nI (p))]) dx_Mo_namesGood_471 ml_Mo_193 mv_Mo_regA np_Mo_regA ⟨_, rfl⟩ (by decide) rfl (by decide) rfl (Nat.le_of_ble_eq_true rfl) (Nat.le_of_ble_eq_true rfl) rk_Mo_namesGood_Mo_regA rfl (m_regA hM (by omega) (hF.2.2.2.2.2.2.2 (40 * m + p) (by omega)) (hW.2.2.2.2.2.2.2 _)) zz_0 ?_
                  refine px_iconst (v := 1) dx_Mo_namesGood_474 rfl ?_
                  refine px_cV (Y := yy_Mo_namesGood) (Yc := yy_Mo_has) (b := 717) (As := [.int (nI (m)), .int (nI (opA (F 7 (40 * m + p)))), .int (1)]) dx_Mo_namesGood_475 ml_Mo_189 mv_Mo_has np_Mo_has ⟨_, rfl⟩ (by decide) rfl (by decide) rfl (Nat.le_of_ble_eq_true rfl) (Nat.le_of_ble_eq_true rfl) rk_Mo_namesGood_Mo_has rfl (m_has (t := 1) hM hF hW hm (opA_lt5 _) (by decide)) zz_0 ?_
                  exact px_zret dx_Mo_namesGood_478 rfl (b2i_01 _) (by (have e : nmOK F m p = hsR F m (opA (F 7 (40 * m + p))) (1) := by (unfold nmOK; rw [nmW_9 (by assumption)])); rw [e] at hp0; exact hp0)
                by_cases k_261_5 : opS (F 7 (40 * m + p)) ∈ ([96, 103] : List Nat)
                · refine px_lookG (e := opS (F 7 (40 * m + p))) (off := 218) [96, 103] dx_Mo_namesGood_261 (by first | omega | (have := opS_lt (F 7 (40 * m + p)); omega) | (have := hW.2.1; omega) | (have := hW.2.2.2.2.2.2.2 (40 * m + (p + 1)); omega)) k_261_5 (by decide) (by decide) rfl ?_
                  refine px_aload_n dx_Mo_namesGood_479 rfl ?_
                  refine px_iload_n dx_Mo_namesGood_480 rfl ?_
                  refine px_aload_n dx_Mo_namesGood_481 rfl ?_
                  refine px_iload_n dx_Mo_namesGood_482 rfl ?_
                  refine px_iload_n dx_Mo_namesGood_483 rfl ?_
                  refine px_cV (Y := yy_Mo_namesGood) (Yc := yy_Mo_regAA) (b := 717) (As := [.int (nI (m)), .int (nI (p))]) dx_Mo_namesGood_484 ml_Mo_179 mv_Mo_regAA np_Mo_regAA ⟨_, rfl⟩ (by decide) rfl (by decide) rfl (Nat.le_of_ble_eq_true rfl) (Nat.le_of_ble_eq_true rfl) rk_Mo_namesGood_Mo_regAA rfl (m_regAA hM (by omega) (hF.2.2.2.2.2.2.2 (40 * m + p) (by omega)) (hW.2.2.2.2.2.2.2 _)) zz_0 ?_
                  refine px_iconst (v := 1) dx_Mo_namesGood_487 rfl ?_
                  refine px_cV (Y := yy_Mo_namesGood) (Yc := yy_Mo_has) (b := 717) (As := [.int (nI (m)), .int (nI (opN (F 7 (40 * m + p)))), .int (1)]) dx_Mo_namesGood_488 ml_Mo_189 mv_Mo_has np_Mo_has ⟨_, rfl⟩ (by decide) rfl (by decide) rfl (Nat.le_of_ble_eq_true rfl) (Nat.le_of_ble_eq_true rfl) rk_Mo_namesGood_Mo_has rfl (m_has (t := 1) hM hF hW hm (opN_lt5 hW _) (by decide)) zz_0 ?_
                  refine px_if_eqB dx_Mo_namesGood_491 (fun c_491 => ?_) (fun c_491 => ?_)
                  · refine px_iconst (v := 0) dx_Mo_namesGood_522 rfl ?_
                    exact px_zret dx_Mo_namesGood_523 rfl (by decide) (by (have e : nmOK F m p = false := by (unfold nmOK; rw [nmW_10 (by assumption)]; have h14 := hW.2.1; first | (simp_all; done) | (simp_all; omega) | (simp only [Bool.and_eq_false_iff, decide_eq_false_iff_not]; right; omega))); rw [e] at hp0; exact hp0)
                  · refine px_aload_n dx_Mo_namesGood_494 rfl ?_
                    refine px_iload_n dx_Mo_namesGood_495 rfl ?_
                    refine px_iload_n dx_Mo_namesGood_496 rfl ?_
                    by_cases hn : F 7 (40 * m + (p + 1)) ≤ 32767
                    · refine px_cV (Y := yy_Mo_namesGood) (Yc := yy_Mo_number) (b := 717) (As := [.int (nI (m)), .int (nI (p))]) dx_Mo_namesGood_497 ml_Mo_176 mv_Mo_number np_Mo_number ⟨_, rfl⟩ (by decide) rfl (by decide) rfl (Nat.le_of_ble_eq_true rfl) (Nat.le_of_ble_eq_true rfl) rk_Mo_namesGood_Mo_number rfl (m_number_p hM (by omega) (hF.2.2.2.2.2.2.2 (40 * m + (p + 1)) (by omega)) (hW.2.2.2.2.2.2.2 _) hn) zz_0 ?_
                      refine px_if_ltN (a := F 7 (40 * m + (p + 1))) dx_Mo_namesGood_500 (by first | omega | (have := opS_lt (F 7 (40 * m + p)); omega) | (have := hW.2.1; omega) | (have := hW.2.2.2.2.2.2.2 (40 * m + (p + 1)); omega)) (fun c_500 => ?_) (fun c_500 => ?_)
                      · refine px_iconst (v := 0) dx_Mo_namesGood_522 rfl ?_
                        exact px_zret dx_Mo_namesGood_523 rfl (by decide) (by (have e : nmOK F m p = false := by (unfold nmOK; rw [nmW_10 (by assumption)]; have h14 := hW.2.1; first | (simp_all; done) | (simp_all; omega) | (simp only [Bool.and_eq_false_iff, decide_eq_false_iff_not]; right; omega))); rw [e] at hp0; exact hp0)
                      · refine px_aload_n dx_Mo_namesGood_503 rfl ?_
                        refine px_iload_n dx_Mo_namesGood_504 rfl ?_
                        refine px_iload_n dx_Mo_namesGood_505 rfl ?_
                        by_cases hn : F 7 (40 * m + (p + 1)) ≤ 32767
                        · refine px_cV (Y := yy_Mo_namesGood) (Yc := yy_Mo_number) (b := 717) (As := [.int (nI (m)), .int (nI (p))]) dx_Mo_namesGood_506 ml_Mo_176 mv_Mo_number np_Mo_number ⟨_, rfl⟩ (by decide) rfl (by decide) rfl (Nat.le_of_ble_eq_true rfl) (Nat.le_of_ble_eq_true rfl) rk_Mo_namesGood_Mo_number rfl (m_number_p hM (by omega) (hF.2.2.2.2.2.2.2 (40 * m + (p + 1)) (by omega)) (hW.2.2.2.2.2.2.2 _) hn) zz_0 ?_
                          refine px_aload_n dx_Mo_namesGood_509 rfl ?_
                          refine px_getR (r := 720) dx_Mo_namesGood_510 fl_Mo_20 rfl (by decide) rfl (hM 7) ?_
                          refine px_iconst (v := 0) dx_Mo_namesGood_513 rfl ?_
                          refine px_ialdN (j := 0) dx_Mo_namesGood_514 rfl (by decide) (by decide) ?_
                          refine px_eqi (y := nI (F 1 0)) hF.2.1 ?_
                          refine px_icmp_geN (a := F 7 (40 * m + (p + 1))) (b := F 1 0) dx_Mo_namesGood_515 (by first | omega | (have := opS_lt (F 7 (40 * m + p)); omega) | (have := hW.2.1; omega) | (have := hW.2.2.2.2.2.2.2 (40 * m + (p + 1)); omega)) (by first | omega | (have := opS_lt (F 7 (40 * m + p)); omega) | (have := hW.2.1; omega) | (have := hW.2.2.2.2.2.2.2 (40 * m + (p + 1)); omega)) (fun c_515 => ?_) (fun c_515 => ?_)
                          · refine px_iconst (v := 0) dx_Mo_namesGood_522 rfl ?_
                            exact px_zret dx_Mo_namesGood_523 rfl (by decide) (by (have e : nmOK F m p = false := by (unfold nmOK; rw [nmW_10 (by assumption)]; have h14 := hW.2.1; first | (simp_all; done) | (simp_all; omega) | (simp only [Bool.and_eq_false_iff, decide_eq_false_iff_not]; right; omega))); rw [e] at hp0; exact hp0)
                          · refine px_iconst (v := 1) dx_Mo_namesGood_518 rfl ?_
                            refine px_goto dx_Mo_namesGood_519 ?_
                            exact px_zret dx_Mo_namesGood_523 rfl (by decide) (by (have e : nmOK F m p = true := by (unfold nmOK; rw [nmW_10 (by assumption)]; have h14 := hW.2.1; first | (simp_all; done) | (simp_all; omega) | (simp only [Bool.and_eq_false_iff, decide_eq_false_iff_not]; right; omega))); rw [e] at hp0; exact hp0)
                        · refine px_cV (Y := yy_Mo_namesGood) (Yc := yy_Mo_number) (b := 717) (As := [.int (nI (m)), .int (nI (p))]) dx_Mo_namesGood_506 ml_Mo_176 mv_Mo_number np_Mo_number ⟨_, rfl⟩ (by decide) rfl (by decide) rfl (Nat.le_of_ble_eq_true rfl) (Nat.le_of_ble_eq_true rfl) rk_Mo_namesGood_Mo_number rfl (m_number hM (by omega) (hF.2.2.2.2.2.2.2 (40 * m + (p + 1)) (by omega)) (hW.2.2.2.2.2.2.2 _)) zz_0 ?_
                          refine px_aload_n dx_Mo_namesGood_509 rfl ?_
                          refine px_getR (r := 720) dx_Mo_namesGood_510 fl_Mo_20 rfl (by decide) rfl (hM 7) ?_
                          refine px_iconst (v := 0) dx_Mo_namesGood_513 rfl ?_
                          refine px_ialdN (j := 0) dx_Mo_namesGood_514 rfl (by decide) (by decide) ?_
                          refine px_eqi (y := nI (F 1 0)) hF.2.1 ?_
                          refine px_icmp_ge dx_Mo_namesGood_515 (fun c_515 => ?_) (fun c_515 => ?_)
                          · refine px_iconst (v := 0) dx_Mo_namesGood_522 rfl ?_
                            exact px_zret dx_Mo_namesGood_523 rfl (by decide) (by (have e : nmOK F m p = false := by (unfold nmOK; rw [nmW_10 (by assumption)]; have h14 := hW.2.1; first | (simp_all; done) | (simp_all; omega) | (simp only [Bool.and_eq_false_iff, decide_eq_false_iff_not]; right; omega))); rw [e] at hp0; exact hp0)
                          · refine px_iconst (v := 1) dx_Mo_namesGood_518 rfl ?_
                            refine px_goto dx_Mo_namesGood_519 ?_
                            exact px_zret dx_Mo_namesGood_523 rfl (by decide) (by (have e : nmOK F m p = true := by (unfold nmOK; rw [nmW_10 (by assumption)]; have h14 := hW.2.1; first | (simp_all; done) | (simp_all; omega) | (simp only [Bool.and_eq_false_iff, decide_eq_false_iff_not]; right; omega))); rw [e] at hp0; exact hp0)
                    · refine px_cV (Y := yy_Mo_namesGood) (Yc := yy_Mo_number) (b := 717) (As := [.int (nI (m)), .int (nI (p))]) dx_Mo_namesGood_497 ml_Mo_176 mv_Mo_number np_Mo_number ⟨_, rfl⟩ (by decide) rfl (by decide) rfl (Nat.le_of_ble_eq_true rfl) (Nat.le_of_ble_eq_true rfl) rk_Mo_namesGood_Mo_number rfl (m_number hM (by omega) (hF.2.2.2.2.2.2.2 (40 * m + (p + 1)) (by omega)) (hW.2.2.2.2.2.2.2 _)) zz_0 ?_
                      refine px_if_lt dx_Mo_namesGood_500 (fun c_500 => ?_) (fun c_500 => ?_)
                      · refine px_iconst (v := 0) dx_Mo_namesGood_522 rfl ?_
                        exact px_zret dx_Mo_namesGood_523 rfl (by decide) (by (have e : nmOK F m p = false := by (unfold nmOK; rw [nmW_10 (by assumption)]; have h14 := hW.2.1; first | (simp_all; done) | (simp_all; omega) | (simp only [Bool.and_eq_false_iff, decide_eq_false_iff_not]; right; omega))); rw [e] at hp0; exact hp0)
                      · exact absurd (nmI_n hn (hW.2.2.2.2.2.2.2 _)) c_500
                by_cases k_261_6 : opS (F 7 (40 * m + p)) ∈ ([113] : List Nat)
                · refine px_lookG (e := opS (F 7 (40 * m + p))) (off := 263) [113] dx_Mo_namesGood_261 (by first | omega | (have := opS_lt (F 7 (40 * m + p)); omega) | (have := hW.2.1; omega) | (have := hW.2.2.2.2.2.2.2 (40 * m + (p + 1)); omega)) k_261_6 (by decide) (by decide) rfl ?_
                  refine px_aload_n dx_Mo_namesGood_524 rfl ?_
                  refine px_iload_n dx_Mo_namesGood_525 rfl ?_
                  refine px_iload_n dx_Mo_namesGood_526 rfl ?_
                  refine px_cV (Y := yy_Mo_namesGood) (Yc := yy_Mo_argumentsThere) (b := 717) (As := [.int (nI (m)), .int (nI (p))]) dx_Mo_namesGood_527 ml_Mo_214 mv_Mo_argumentsThere np_Mo_argumentsThere ⟨_, rfl⟩ (by decide) rfl (by decide) rfl (Nat.le_of_ble_eq_true rfl) (Nat.le_of_ble_eq_true rfl) rk_Mo_namesGood_Mo_argumentsThere rfl (m_argumentsThere hM hF hW hm hpl) zz_0 ?_
                  exact px_zret dx_Mo_namesGood_530 rfl (b2i_01 _) (by (have e : nmOK F m p = agT F m p := by (unfold nmOK; rw [nmW_11 (by assumption)])); rw [e] at hp0; exact hp0)
                have kn_261 : opS (F 7 (40 * m + p)) ∉ ([1, 4, 10, 11, 15, 16, 18, 19, 22, 96, 103, 113] : List Nat) := by simp only [List.mem_cons, List.not_mem_nil, or_false, not_or] at *; omega
                refine px_lookD (e := opS (F 7 (40 * m + p))) [1, 4, 10, 11, 15, 16, 18, 19, 22, 96, 103, 113] dx_Mo_namesGood_261 (by first | omega | (have := opS_lt (F 7 (40 * m + p)); omega) | (have := hW.2.1; omega) | (have := hW.2.2.2.2.2.2.2 (40 * m + (p + 1)); omega)) kn_261 (by decide) (by decide) rfl ?_
                refine px_iconst (v := 1) dx_Mo_namesGood_531 rfl ?_
                exact px_zret dx_Mo_namesGood_532 rfl (by decide) (by (have e : nmOK F m p = true := by (unfold nmOK; rw [nmW_12 (by assumption) (by assumption) (by assumption) (by omega) (by omega) (by assumption)])); rw [e] at hp0; exact hp0)
              · refine px_aload_n dx_Mo_namesGood_247 rfl ?_
                refine px_iload_n dx_Mo_namesGood_248 rfl ?_
                refine px_aload_n dx_Mo_namesGood_249 rfl ?_
                refine px_iload_n dx_Mo_namesGood_250 rfl ?_
                refine px_iload_n dx_Mo_namesGood_251 rfl ?_
                refine px_cV (Y := yy_Mo_namesGood) (Yc := yy_Mo_regAA) (b := 717) (As := [.int (nI (m)), .int (nI (p))]) dx_Mo_namesGood_252 ml_Mo_179 mv_Mo_regAA np_Mo_regAA ⟨_, rfl⟩ (by decide) rfl (by decide) rfl (Nat.le_of_ble_eq_true rfl) (Nat.le_of_ble_eq_true rfl) rk_Mo_namesGood_Mo_regAA rfl (m_regAA hM (by omega) (hF.2.2.2.2.2.2.2 (40 * m + p) (by omega)) (hW.2.2.2.2.2.2.2 _)) zz_0 ?_
                refine px_iconst (v := 1) dx_Mo_namesGood_255 rfl ?_
                refine px_cV (Y := yy_Mo_namesGood) (Yc := yy_Mo_has) (b := 717) (As := [.int (nI (m)), .int (nI (opN (F 7 (40 * m + p)))), .int (1)]) dx_Mo_namesGood_256 ml_Mo_189 mv_Mo_has np_Mo_has ⟨_, rfl⟩ (by decide) rfl (by decide) rfl (Nat.le_of_ble_eq_true rfl) (Nat.le_of_ble_eq_true rfl) rk_Mo_namesGood_Mo_has rfl (m_has (t := 1) hM hF hW hm (opN_lt5 hW _) (by decide)) zz_0 ?_
                exact px_zret dx_Mo_namesGood_259 rfl (b2i_01 _) (by (have e : nmOK F m p = hsR F m (opN (F 7 (40 * m + p))) (1) := by (unfold nmOK; rw [nmW_4 (by omega) (by omega)])); rw [e] at hp0; exact hp0)
          · refine px_aload_n dx_Mo_namesGood_199 rfl ?_
            refine px_iload_n dx_Mo_namesGood_200 rfl ?_
            refine px_aload_n dx_Mo_namesGood_201 rfl ?_
            refine px_iload_n dx_Mo_namesGood_202 rfl ?_
            refine px_iload_n dx_Mo_namesGood_203 rfl ?_
            refine px_cV (Y := yy_Mo_namesGood) (Yc := yy_Mo_regA) (b := 717) (As := [.int (nI (m)), .int (nI (p))]) dx_Mo_namesGood_204 ml_Mo_193 mv_Mo_regA np_Mo_regA ⟨_, rfl⟩ (by decide) rfl (by decide) rfl (Nat.le_of_ble_eq_true rfl) (Nat.le_of_ble_eq_true rfl) rk_Mo_namesGood_Mo_regA rfl (m_regA hM (by omega) (hF.2.2.2.2.2.2.2 (40 * m + p) (by omega)) (hW.2.2.2.2.2.2.2 _)) zz_0 ?_
            refine px_iconst (v := 1) dx_Mo_namesGood_207 rfl ?_
            refine px_cV (Y := yy_Mo_namesGood) (Yc := yy_Mo_has) (b := 717) (As := [.int (nI (m)), .int (nI (opA (F 7 (40 * m + p)))), .int (1)]) dx_Mo_namesGood_208 ml_Mo_189 mv_Mo_has np_Mo_has ⟨_, rfl⟩ (by decide) rfl (by decide) rfl (Nat.le_of_ble_eq_true rfl) (Nat.le_of_ble_eq_true rfl) rk_Mo_namesGood_Mo_has rfl (m_has (t := 1) hM hF hW hm (opA_lt5 _) (by decide)) zz_0 ?_
            refine px_if_eqB dx_Mo_namesGood_211 (fun c_211 => ?_) (fun c_211 => ?_)
            · refine px_iconst (v := 0) dx_Mo_namesGood_233 rfl ?_
              exact px_zret dx_Mo_namesGood_234 rfl (by decide) (by (have e : nmOK F m p = false := by (unfold nmOK; rw [nmW_3 (by omega) (by omega)]; simp_all)); rw [e] at hp0; exact hp0)
            · refine px_aload_n dx_Mo_namesGood_214 rfl ?_
              refine px_iload_n dx_Mo_namesGood_215 rfl ?_
              refine px_aload_n dx_Mo_namesGood_216 rfl ?_
              refine px_iload_n dx_Mo_namesGood_217 rfl ?_
              refine px_iload_n dx_Mo_namesGood_218 rfl ?_
              refine px_cV (Y := yy_Mo_namesGood) (Yc := yy_Mo_regB) (b := 717) (As := [.int (nI (m)), .int (nI (p))]) dx_Mo_namesGood_219 ml_Mo_182 mv_Mo_regB np_Mo_regB ⟨_, rfl⟩ (by decide) rfl (by decide) rfl (Nat.le_of_ble_eq_true rfl) (Nat.le_of_ble_eq_true rfl) rk_Mo_namesGood_Mo_regB rfl (m_regB hM (by omega) (hF.2.2.2.2.2.2.2 (40 * m + p) (by omega)) (hW.2.2.2.2.2.2.2 _)) zz_0 ?_
              refine px_iconst (v := 1) dx_Mo_namesGood_222 rfl ?_
              refine px_cV (Y := yy_Mo_namesGood) (Yc := yy_Mo_has) (b := 717) (As := [.int (nI (m)), .int (nI (opB (F 7 (40 * m + p)))), .int (1)]) dx_Mo_namesGood_223 ml_Mo_189 mv_Mo_has np_Mo_has ⟨_, rfl⟩ (by decide) rfl (by decide) rfl (Nat.le_of_ble_eq_true rfl) (Nat.le_of_ble_eq_true rfl) rk_Mo_namesGood_Mo_has rfl (m_has (t := 1) hM hF hW hm (opB_lt5 hW _) (by decide)) zz_0 ?_
              refine px_if_eqB dx_Mo_namesGood_226 (fun c_226 => ?_) (fun c_226 => ?_)
              · refine px_iconst (v := 0) dx_Mo_namesGood_233 rfl ?_
                exact px_zret dx_Mo_namesGood_234 rfl (by decide) (by (have e : nmOK F m p = false := by (unfold nmOK; rw [nmW_3 (by omega) (by omega)]; simp_all)); rw [e] at hp0; exact hp0)
              · refine px_iconst (v := 1) dx_Mo_namesGood_229 rfl ?_
                refine px_goto dx_Mo_namesGood_230 ?_
                exact px_zret dx_Mo_namesGood_234 rfl (by decide) (by (have e : nmOK F m p = true := by (unfold nmOK; rw [nmW_3 (by omega) (by omega)]; simp_all)); rw [e] at hp0; exact hp0)
      · refine px_aload_n dx_Mo_namesGood_130 rfl ?_
        refine px_iload_n dx_Mo_namesGood_131 rfl ?_
        refine px_aload_n dx_Mo_namesGood_132 rfl ?_
        refine px_iload_n dx_Mo_namesGood_133 rfl ?_
        refine px_iload_n dx_Mo_namesGood_134 rfl ?_
        refine px_cV (Y := yy_Mo_namesGood) (Yc := yy_Mo_regAA) (b := 717) (As := [.int (nI (m)), .int (nI (p))]) dx_Mo_namesGood_135 ml_Mo_179 mv_Mo_regAA np_Mo_regAA ⟨_, rfl⟩ (by decide) rfl (by decide) rfl (Nat.le_of_ble_eq_true rfl) (Nat.le_of_ble_eq_true rfl) rk_Mo_namesGood_Mo_regAA rfl (m_regAA hM (by omega) (hF.2.2.2.2.2.2.2 (40 * m + p) (by omega)) (hW.2.2.2.2.2.2.2 _)) zz_0 ?_
        refine px_iconst (v := 1) dx_Mo_namesGood_138 rfl ?_
        refine px_cV (Y := yy_Mo_namesGood) (Yc := yy_Mo_has) (b := 717) (As := [.int (nI (m)), .int (nI (opN (F 7 (40 * m + p)))), .int (1)]) dx_Mo_namesGood_139 ml_Mo_189 mv_Mo_has np_Mo_has ⟨_, rfl⟩ (by decide) rfl (by decide) rfl (Nat.le_of_ble_eq_true rfl) (Nat.le_of_ble_eq_true rfl) rk_Mo_namesGood_Mo_has rfl (m_has (t := 1) hM hF hW hm (opN_lt5 hW _) (by decide)) zz_0 ?_
        refine px_if_eqB dx_Mo_namesGood_142 (fun c_142 => ?_) (fun c_142 => ?_)
        · refine px_iconst (v := 0) dx_Mo_namesGood_185 rfl ?_
          exact px_zret dx_Mo_namesGood_186 rfl (by decide) (by (have e : nmOK F m p = false := by (unfold nmOK; rw [nmW_2 (by assumption) (by assumption) (by assumption)]; simp_all)); rw [e] at hp0; exact hp0)
        · refine px_aload_n dx_Mo_namesGood_145 rfl ?_
          refine px_iload_n dx_Mo_namesGood_146 rfl ?_
          refine px_aload_n dx_Mo_namesGood_147 rfl ?_
          refine px_iload_n dx_Mo_namesGood_148 rfl ?_
          refine px_iload_n dx_Mo_namesGood_149 rfl ?_
          refine px_cV (Y := yy_Mo_namesGood) (Yc := yy_Mo_regC) (b := 717) (As := [.int (nI (m)), .int (nI (p))]) dx_Mo_namesGood_150 ml_Mo_205 mv_Mo_regC np_Mo_regC ⟨_, rfl⟩ (by decide) rfl (by decide) rfl (Nat.le_of_ble_eq_true rfl) (Nat.le_of_ble_eq_true rfl) rk_Mo_namesGood_Mo_regC rfl (m_regC hM (by omega) (hF.2.2.2.2.2.2.2 (40 * m + (p + 1)) (by omega)) (hW.2.2.2.2.2.2.2 _)) zz_0 ?_
          refine px_iload_n dx_Mo_namesGood_153 rfl ?_
          refine px_cS (Y := yy_Mo_namesGood) (Yc := yy_Mo_compared) (As := [.int (nI (opS (F 7 (40 * m + p))))]) dx_Mo_namesGood_154 ml_Mo_211 ms_Mo_compared np_Mo_compared rfl (Nat.le_of_ble_eq_true rfl) (Nat.le_of_ble_eq_true rfl) rk_Mo_namesGood_Mo_compared rfl (m_compared (opS_lt _)) zz_0 ?_
          refine px_cV (Y := yy_Mo_namesGood) (Yc := yy_Mo_has) (b := 717) (As := [.int (nI (m)), .int (nI (opS (F 7 (40 * m + (p + 1))))), .int (nI (cpO (opS (F 7 (40 * m + p)))))]) dx_Mo_namesGood_157 ml_Mo_189 mv_Mo_has np_Mo_has ⟨_, rfl⟩ (by decide) rfl (by decide) rfl (Nat.le_of_ble_eq_true rfl) (Nat.le_of_ble_eq_true rfl) rk_Mo_namesGood_Mo_has rfl (m_has (t := cpO (opS (F 7 (40 * m + p)))) hM hF hW hm (opS_lt5 _) (cpO_lt _)) zz_0 ?_
          refine px_if_eqB dx_Mo_namesGood_160 (fun c_160 => ?_) (fun c_160 => ?_)
          · refine px_iconst (v := 0) dx_Mo_namesGood_185 rfl ?_
            exact px_zret dx_Mo_namesGood_186 rfl (by decide) (by (have e : nmOK F m p = false := by (unfold nmOK; rw [nmW_2 (by assumption) (by assumption) (by assumption)]; simp_all)); rw [e] at hp0; exact hp0)
          · refine px_aload_n dx_Mo_namesGood_163 rfl ?_
            refine px_iload_n dx_Mo_namesGood_164 rfl ?_
            refine px_aload_n dx_Mo_namesGood_165 rfl ?_
            refine px_iload_n dx_Mo_namesGood_166 rfl ?_
            refine px_iload_n dx_Mo_namesGood_167 rfl ?_
            refine px_cV (Y := yy_Mo_namesGood) (Yc := yy_Mo_regD) (b := 717) (As := [.int (nI (m)), .int (nI (p))]) dx_Mo_namesGood_168 ml_Mo_208 mv_Mo_regD np_Mo_regD ⟨_, rfl⟩ (by decide) rfl (by decide) rfl (Nat.le_of_ble_eq_true rfl) (Nat.le_of_ble_eq_true rfl) rk_Mo_namesGood_Mo_regD rfl (m_regD hM (by omega) (hF.2.2.2.2.2.2.2 (40 * m + (p + 1)) (by omega)) (hW.2.2.2.2.2.2.2 _)) zz_0 ?_
            refine px_iload_n dx_Mo_namesGood_171 rfl ?_
            refine px_cS (Y := yy_Mo_namesGood) (Yc := yy_Mo_compared) (As := [.int (nI (opS (F 7 (40 * m + p))))]) dx_Mo_namesGood_172 ml_Mo_211 ms_Mo_compared np_Mo_compared rfl (Nat.le_of_ble_eq_true rfl) (Nat.le_of_ble_eq_true rfl) rk_Mo_namesGood_Mo_compared rfl (m_compared (opS_lt _)) zz_0 ?_
            refine px_cV (Y := yy_Mo_namesGood) (Yc := yy_Mo_has) (b := 717) (As := [.int (nI (m)), .int (nI (opN (F 7 (40 * m + (p + 1))))), .int (nI (cpO (opS (F 7 (40 * m + p)))))]) dx_Mo_namesGood_175 ml_Mo_189 mv_Mo_has np_Mo_has ⟨_, rfl⟩ (by decide) rfl (by decide) rfl (Nat.le_of_ble_eq_true rfl) (Nat.le_of_ble_eq_true rfl) rk_Mo_namesGood_Mo_has rfl (m_has (t := cpO (opS (F 7 (40 * m + p)))) hM hF hW hm (opN_lt5 hW _) (cpO_lt _)) zz_0 ?_
            refine px_if_eqB dx_Mo_namesGood_178 (fun c_178 => ?_) (fun c_178 => ?_)
            · refine px_iconst (v := 0) dx_Mo_namesGood_185 rfl ?_
              exact px_zret dx_Mo_namesGood_186 rfl (by decide) (by (have e : nmOK F m p = false := by (unfold nmOK; rw [nmW_2 (by assumption) (by assumption) (by assumption)]; simp_all)); rw [e] at hp0; exact hp0)
            · refine px_iconst (v := 1) dx_Mo_namesGood_181 rfl ?_
              refine px_goto dx_Mo_namesGood_182 ?_
              exact px_zret dx_Mo_namesGood_186 rfl (by decide) (by (have e : nmOK F m p = true := by (unfold nmOK; rw [nmW_2 (by assumption) (by assumption) (by assumption)]; simp_all)); rw [e] at hp0; exact hp0)
    · refine px_iload_n dx_Mo_namesGood_63 rfl ?_
      refine px_cS (Y := yy_Mo_namesGood) (Yc := yy_Mo_joined) (As := [.int (nI (opS (F 7 (40 * m + p))))]) dx_Mo_namesGood_64 ml_Mo_202 ms_Mo_joined np_Mo_joined rfl (Nat.le_of_ble_eq_true rfl) (Nat.le_of_ble_eq_true rfl) rk_Mo_namesGood_Mo_joined rfl (m_joined (opS_lt _)) zz_0 ?_
      refine px_istore (lv' := [(4, .int (nI (jnO (opS (F 7 (40 * m + p)))))), (3, .int (nI (opS (F 7 (40 * m + p))))), (0, .ref (717)), (1, .int (nI (m))), (2, .int (nI (p)))]) dx_Mo_namesGood_67 (by decide) rfl ?_
      refine px_aload_n dx_Mo_namesGood_69 rfl ?_
      refine px_iload_n dx_Mo_namesGood_70 rfl ?_
      refine px_aload_n dx_Mo_namesGood_71 rfl ?_
      refine px_iload_n dx_Mo_namesGood_72 rfl ?_
      refine px_iload_n dx_Mo_namesGood_73 rfl ?_
      refine px_cV (Y := yy_Mo_namesGood) (Yc := yy_Mo_regAA) (b := 717) (As := [.int (nI (m)), .int (nI (p))]) dx_Mo_namesGood_74 ml_Mo_179 mv_Mo_regAA np_Mo_regAA ⟨_, rfl⟩ (by decide) rfl (by decide) rfl (Nat.le_of_ble_eq_true rfl) (Nat.le_of_ble_eq_true rfl) rk_Mo_namesGood_Mo_regAA rfl (m_regAA hM (by omega) (hF.2.2.2.2.2.2.2 (40 * m + p) (by omega)) (hW.2.2.2.2.2.2.2 _)) zz_0 ?_
      refine px_iload dx_Mo_namesGood_77 rfl ?_
      refine px_cV (Y := yy_Mo_namesGood) (Yc := yy_Mo_has) (b := 717) (As := [.int (nI (m)), .int (nI (opN (F 7 (40 * m + p)))), .int (nI (jnO (opS (F 7 (40 * m + p)))))]) dx_Mo_namesGood_79 ml_Mo_189 mv_Mo_has np_Mo_has ⟨_, rfl⟩ (by decide) rfl (by decide) rfl (Nat.le_of_ble_eq_true rfl) (Nat.le_of_ble_eq_true rfl) rk_Mo_namesGood_Mo_has rfl (m_has (t := jnO (opS (F 7 (40 * m + p)))) hM hF hW hm (opN_lt5 hW _) (jnO_lt _)) zz_0 ?_
      refine px_if_eqB dx_Mo_namesGood_82 (fun c_82 => ?_) (fun c_82 => ?_)
      · refine px_iconst (v := 0) dx_Mo_namesGood_121 rfl ?_
        exact px_zret dx_Mo_namesGood_122 rfl (by decide) (by (have e : nmOK F m p = false := by (unfold nmOK; rw [nmW_1 (by assumption) (by assumption)]; simp_all)); rw [e] at hp0; exact hp0)
      · refine px_aload_n dx_Mo_namesGood_85 rfl ?_
        refine px_iload_n dx_Mo_namesGood_86 rfl ?_
        refine px_aload_n dx_Mo_namesGood_87 rfl ?_
        refine px_iload_n dx_Mo_namesGood_88 rfl ?_
        refine px_iload_n dx_Mo_namesGood_89 rfl ?_
        refine px_cV (Y := yy_Mo_namesGood) (Yc := yy_Mo_regC) (b := 717) (As := [.int (nI (m)), .int (nI (p))]) dx_Mo_namesGood_90 ml_Mo_205 mv_Mo_regC np_Mo_regC ⟨_, rfl⟩ (by decide) rfl (by decide) rfl (Nat.le_of_ble_eq_true rfl) (Nat.le_of_ble_eq_true rfl) rk_Mo_namesGood_Mo_regC rfl (m_regC hM (by omega) (hF.2.2.2.2.2.2.2 (40 * m + (p + 1)) (by omega)) (hW.2.2.2.2.2.2.2 _)) zz_0 ?_
        refine px_iload dx_Mo_namesGood_93 rfl ?_
        refine px_cV (Y := yy_Mo_namesGood) (Yc := yy_Mo_has) (b := 717) (As := [.int (nI (m)), .int (nI (opS (F 7 (40 * m + (p + 1))))), .int (nI (jnO (opS (F 7 (40 * m + p)))))]) dx_Mo_namesGood_95 ml_Mo_189 mv_Mo_has np_Mo_has ⟨_, rfl⟩ (by decide) rfl (by decide) rfl (Nat.le_of_ble_eq_true rfl) (Nat.le_of_ble_eq_true rfl) rk_Mo_namesGood_Mo_has rfl (m_has (t := jnO (opS (F 7 (40 * m + p)))) hM hF hW hm (opS_lt5 _) (jnO_lt _)) zz_0 ?_
        refine px_if_eqB dx_Mo_namesGood_98 (fun c_98 => ?_) (fun c_98 => ?_)
        · refine px_iconst (v := 0) dx_Mo_namesGood_121 rfl ?_
          exact px_zret dx_Mo_namesGood_122 rfl (by decide) (by (have e : nmOK F m p = false := by (unfold nmOK; rw [nmW_1 (by assumption) (by assumption)]; simp_all)); rw [e] at hp0; exact hp0)
        · refine px_aload_n dx_Mo_namesGood_101 rfl ?_
          refine px_iload_n dx_Mo_namesGood_102 rfl ?_
          refine px_aload_n dx_Mo_namesGood_103 rfl ?_
          refine px_iload_n dx_Mo_namesGood_104 rfl ?_
          refine px_iload_n dx_Mo_namesGood_105 rfl ?_
          refine px_cV (Y := yy_Mo_namesGood) (Yc := yy_Mo_regD) (b := 717) (As := [.int (nI (m)), .int (nI (p))]) dx_Mo_namesGood_106 ml_Mo_208 mv_Mo_regD np_Mo_regD ⟨_, rfl⟩ (by decide) rfl (by decide) rfl (Nat.le_of_ble_eq_true rfl) (Nat.le_of_ble_eq_true rfl) rk_Mo_namesGood_Mo_regD rfl (m_regD hM (by omega) (hF.2.2.2.2.2.2.2 (40 * m + (p + 1)) (by omega)) (hW.2.2.2.2.2.2.2 _)) zz_0 ?_
          refine px_iload dx_Mo_namesGood_109 rfl ?_
          refine px_cV (Y := yy_Mo_namesGood) (Yc := yy_Mo_has) (b := 717) (As := [.int (nI (m)), .int (nI (opN (F 7 (40 * m + (p + 1))))), .int (nI (jnO (opS (F 7 (40 * m + p)))))]) dx_Mo_namesGood_111 ml_Mo_189 mv_Mo_has np_Mo_has ⟨_, rfl⟩ (by decide) rfl (by decide) rfl (Nat.le_of_ble_eq_true rfl) (Nat.le_of_ble_eq_true rfl) rk_Mo_namesGood_Mo_has rfl (m_has (t := jnO (opS (F 7 (40 * m + p)))) hM hF hW hm (opN_lt5 hW _) (jnO_lt _)) zz_0 ?_
          refine px_if_eqB dx_Mo_namesGood_114 (fun c_114 => ?_) (fun c_114 => ?_)
          · refine px_iconst (v := 0) dx_Mo_namesGood_121 rfl ?_
            exact px_zret dx_Mo_namesGood_122 rfl (by decide) (by (have e : nmOK F m p = false := by (unfold nmOK; rw [nmW_1 (by assumption) (by assumption)]; simp_all)); rw [e] at hp0; exact hp0)
          · refine px_iconst (v := 1) dx_Mo_namesGood_117 rfl ?_
            refine px_goto dx_Mo_namesGood_118 ?_
            exact px_zret dx_Mo_namesGood_122 rfl (by decide) (by (have e : nmOK F m p = true := by (unfold nmOK; rw [nmW_1 (by assumption) (by assumption)]; simp_all)); rw [e] at hp0; exact hp0)
  · refine px_aload_n dx_Mo_namesGood_14 rfl ?_
    refine px_iload_n dx_Mo_namesGood_15 rfl ?_
    refine px_aload_n dx_Mo_namesGood_16 rfl ?_
    refine px_iload_n dx_Mo_namesGood_17 rfl ?_
    refine px_iload_n dx_Mo_namesGood_18 rfl ?_
    refine px_cV (Y := yy_Mo_namesGood) (Yc := yy_Mo_regA) (b := 717) (As := [.int (nI (m)), .int (nI (p))]) dx_Mo_namesGood_19 ml_Mo_193 mv_Mo_regA np_Mo_regA ⟨_, rfl⟩ (by decide) rfl (by decide) rfl (Nat.le_of_ble_eq_true rfl) (Nat.le_of_ble_eq_true rfl) rk_Mo_namesGood_Mo_regA rfl (m_regA hM (by omega) (hF.2.2.2.2.2.2.2 (40 * m + p) (by omega)) (hW.2.2.2.2.2.2.2 _)) zz_0 ?_
    refine px_iload_n dx_Mo_namesGood_22 rfl ?_
    refine px_cS (Y := yy_Mo_namesGood) (Yc := yy_Mo_gives) (As := [.int (nI (opS (F 7 (40 * m + p))))]) dx_Mo_namesGood_23 ml_Mo_196 ms_Mo_gives np_Mo_gives rfl (Nat.le_of_ble_eq_true rfl) (Nat.le_of_ble_eq_true rfl) rk_Mo_namesGood_Mo_gives rfl (m_gives (opS_lt _)) zz_0 ?_
    refine px_cV (Y := yy_Mo_namesGood) (Yc := yy_Mo_has) (b := 717) (As := [.int (nI (m)), .int (nI (opA (F 7 (40 * m + p)))), .int (nI (gvO (opS (F 7 (40 * m + p)))))]) dx_Mo_namesGood_26 ml_Mo_189 mv_Mo_has np_Mo_has ⟨_, rfl⟩ (by decide) rfl (by decide) rfl (Nat.le_of_ble_eq_true rfl) (Nat.le_of_ble_eq_true rfl) rk_Mo_namesGood_Mo_has rfl (m_has (t := gvO (opS (F 7 (40 * m + p)))) hM hF hW hm (opA_lt5 _) (gvO_lt _)) zz_0 ?_
    refine px_if_eqB dx_Mo_namesGood_29 (fun c_29 => ?_) (fun c_29 => ?_)
    · refine px_iconst (v := 0) dx_Mo_namesGood_54 rfl ?_
      exact px_zret dx_Mo_namesGood_55 rfl (by decide) (by (have e : nmOK F m p = false := by (unfold nmOK; rw [nmW_0 (by assumption)]; simp_all)); rw [e] at hp0; exact hp0)
    · refine px_aload_n dx_Mo_namesGood_32 rfl ?_
      refine px_iload_n dx_Mo_namesGood_33 rfl ?_
      refine px_aload_n dx_Mo_namesGood_34 rfl ?_
      refine px_iload_n dx_Mo_namesGood_35 rfl ?_
      refine px_iload_n dx_Mo_namesGood_36 rfl ?_
      refine px_cV (Y := yy_Mo_namesGood) (Yc := yy_Mo_regB) (b := 717) (As := [.int (nI (m)), .int (nI (p))]) dx_Mo_namesGood_37 ml_Mo_182 mv_Mo_regB np_Mo_regB ⟨_, rfl⟩ (by decide) rfl (by decide) rfl (Nat.le_of_ble_eq_true rfl) (Nat.le_of_ble_eq_true rfl) rk_Mo_namesGood_Mo_regB rfl (m_regB hM (by omega) (hF.2.2.2.2.2.2.2 (40 * m + p) (by omega)) (hW.2.2.2.2.2.2.2 _)) zz_0 ?_
      refine px_iload_n dx_Mo_namesGood_40 rfl ?_
      refine px_cS (Y := yy_Mo_namesGood) (Yc := yy_Mo_takes) (As := [.int (nI (opS (F 7 (40 * m + p))))]) dx_Mo_namesGood_41 ml_Mo_199 ms_Mo_takes np_Mo_takes rfl (Nat.le_of_ble_eq_true rfl) (Nat.le_of_ble_eq_true rfl) rk_Mo_namesGood_Mo_takes rfl (m_takes (opS_lt _)) zz_0 ?_
      refine px_cV (Y := yy_Mo_namesGood) (Yc := yy_Mo_has) (b := 717) (As := [.int (nI (m)), .int (nI (opB (F 7 (40 * m + p)))), .int (nI (tkO (opS (F 7 (40 * m + p)))))]) dx_Mo_namesGood_44 ml_Mo_189 mv_Mo_has np_Mo_has ⟨_, rfl⟩ (by decide) rfl (by decide) rfl (Nat.le_of_ble_eq_true rfl) (Nat.le_of_ble_eq_true rfl) rk_Mo_namesGood_Mo_has rfl (m_has (t := tkO (opS (F 7 (40 * m + p)))) hM hF hW hm (opB_lt5 hW _) (tkO_lt _)) zz_0 ?_
      refine px_if_eqB dx_Mo_namesGood_47 (fun c_47 => ?_) (fun c_47 => ?_)
      · refine px_iconst (v := 0) dx_Mo_namesGood_54 rfl ?_
        exact px_zret dx_Mo_namesGood_55 rfl (by decide) (by (have e : nmOK F m p = false := by (unfold nmOK; rw [nmW_0 (by assumption)]; simp_all)); rw [e] at hp0; exact hp0)
      · refine px_iconst (v := 1) dx_Mo_namesGood_50 rfl ?_
        refine px_goto dx_Mo_namesGood_51 ?_
        exact px_zret dx_Mo_namesGood_55 rfl (by decide) (by (have e : nmOK F m p = true := by (unfold nmOK; rw [nmW_0 (by assumption)]; simp_all)); rw [e] at hp0; exact hp0)
