/-! the reference: the form of instructions -/
def sw (pt : Nat → Nat) : Nat → Nat
  | 0 => 0
  | k + 1 => sw pt k + wdt (pt k)
theorem wdt_le (t : Nat) : wdt t ≤ 2 := by unfold wdt; split <;> decide
theorem sw_le (pt : Nat → Nat) : ∀ k, sw pt k ≤ 2 * k
  | 0 => Nat.le_refl _
  | k + 1 => by have := sw_le pt k; have := wdt_le (pt k); show sw pt k + wdt (pt k) ≤ _; omega
/-- the file as the reference holds it: F 0 0 methods, F 1 0 fields, F 2 returns, F 3 parameters' numbers, F 4 (3 m + k) their types, F 5 registers, F 6 units' numbers, F 7 (40 m + k) units -/
def MF (σ : fr_S) (F : Nat → Nat → Nat) : Prop := gI σ 719 0 = nI (F 0 0) ∧ gI σ 720 0 = nI (F 1 0) ∧ (∀ m, m < 4 → gI σ 721 m = nI (F 2 m)) ∧ (∀ m, m < 4 → gI σ 722 m = nI (F 3 m)) ∧ (∀ k, k < 12 → gI σ 723 k = nI (F 4 k)) ∧ (∀ m, m < 4 → gI σ 724 m = nI (F 5 m)) ∧ (∀ m, m < 4 → gI σ 725 m = nI (F 6 m)) ∧ (∀ j, j < 160 → gI σ 726 j = nI (F 7 j))
def FW (F : Nat → Nat → Nat) : Prop := F 0 0 ≤ 4 ∧ F 1 0 ≤ 4 ∧ (∀ m, F 2 m ≤ 4) ∧ (∀ m, F 3 m ≤ 3) ∧ (∀ k, F 4 k ≤ 4) ∧ (∀ m, F 5 m ≤ 10) ∧ (∀ m, F 6 m ≤ 40) ∧ (∀ j, F 7 j < 65536)

set_option maxRecDepth 100000 in
set_option maxHeartbeats 4000000 in
theorem m_paramWords_lp {l : Launch} {G : fr_G} {σ : fr_S} (hM : MR σ) {m np : Nat} {pt : Nat → Nat} (hm : m < 8) (hn : np ≤ 3) (h1 : gI σ 722 m = nI np) (h2 : ∀ k, k < np → gI σ 723 (3 * m + k) = nI (pt k)) (h3 : ∀ k, pt k < 256) {Post : Option Value → fr_S → Prop} (hp : Post (some (.int (nI (sw pt np)))) σ) : ∀ (d : Nat) (j : Nat), np - j < d → j ≤ np → PX l G yy_Mo_paramWords rm_Mo_paramWords (QR G false 742 0 0 Post) false 742 0 0 4 [(0, .ref (717)), (1, .int (nI (m))), (2, .int (nI (sw pt j))), (3, .int (nI (j)))] [] (σ) := by
  intro d
  induction d with
  | zero => intro j hd; exact absurd hd (Nat.not_lt_zero _)
  | succ d ih =>
    intro j hd hj
    have hs := sw_le pt j
    refine px_iload_n dx_Mo_paramWords_4 rfl ?_
    refine px_aload_n dx_Mo_paramWords_5 rfl ?_
    refine px_getR (r := 722) dx_Mo_paramWords_6 fl_Mo_26 rfl (by decide) rfl (hM 9) ?_
    refine px_iload_n dx_Mo_paramWords_9 rfl ?_
    refine px_ialdN (j := m) dx_Mo_paramWords_10 rfl (by decide) (by omega) ?_
    refine px_eqi (y := nI (np)) h1 ?_
    refine px_icmp_geN (a := j) (b := np) dx_Mo_paramWords_11 (by omega) (by omega) (fun c_11 => ?_) (fun c_11 => ?_)
    · refine px_iload_n dx_Mo_paramWords_36 rfl ?_
      exact px_iret dx_Mo_paramWords_37 rfl (by (have e : j = np := by omega); rw [e]; exact hp)
    · refine px_iload_n dx_Mo_paramWords_14 rfl ?_
      refine px_aload_n dx_Mo_paramWords_15 rfl ?_
      refine px_getR (r := 723) dx_Mo_paramWords_16 fl_Mo_29 rfl (by decide) rfl (hM 10) ?_
      refine px_iconst (v := 3) dx_Mo_paramWords_19 rfl ?_
      refine px_iload_n dx_Mo_paramWords_20 rfl ?_
      refine px_imulN (a := 3) (b := m) dx_Mo_paramWords_21 ?_
      refine px_iload_n dx_Mo_paramWords_22 rfl ?_
      refine px_iaddN (a := 3 * m) (b := j) dx_Mo_paramWords_23 ?_
      refine px_ialdN (j := (3 * m) + j) dx_Mo_paramWords_24 rfl (by decide) (by omega) ?_
      refine px_eqi (y := nI (pt j)) (h2 j (by omega)) ?_
      refine px_cS (Y := yy_Mo_paramWords) (Yc := yy_Mo_words) (As := [.int (nI (pt j))]) dx_Mo_paramWords_25 ml_Mo_99 ms_Mo_words np_Mo_words rfl (Nat.le_of_ble_eq_true rfl) (Nat.le_of_ble_eq_true rfl) rk_Mo_paramWords_Mo_words rfl (m_words (h3 _)) zz_0 ?_
      refine px_iaddN (a := sw pt j) (b := wdt (pt j)) dx_Mo_paramWords_28 ?_
      refine px_istore_n (lv' := [(2, .int (nI ((sw pt j) + (wdt (pt j))))), (0, .ref (717)), (1, .int (nI (m))), (3, .int (nI (j)))]) dx_Mo_paramWords_29 (by decide) rfl ?_
      refine px_iinc (v := (nI (j + 1))) (lv' := [(3, .int (nI (j + 1))), (2, .int (nI ((sw pt j) + (wdt (pt j))))), (0, .ref (717)), (1, .int (nI (m)))]) dx_Mo_paramWords_30 rfl (nI_1 _) (by decide) rfl ?_
      refine px_goto dx_Mo_paramWords_33 ?_
      refine px_sub [2, 3, 1, 0] rfl ?_
      exact ih (j + 1) (by omega) (by omega)
set_option maxRecDepth 100000 in
set_option maxHeartbeats 4000000 in
theorem m_paramWords {l : Launch} {G : fr_G} {σ : fr_S} (hM : MR σ) {m np : Nat} {pt : Nat → Nat} (hm : m < 8) (hn : np ≤ 3) (h1 : gI σ 722 m = nI np) (h2 : ∀ k, k < np → gI σ 723 (3 * m + k) = nI (pt k)) (h3 : ∀ k, pt k < 256) : CT l G yy_Mo_paramWords rm_Mo_paramWords [.ref (717), .int (nI (m))] σ (some (.int (nI (sw pt np)))) (σ) := by
  intro Post hp
  show PX l G yy_Mo_paramWords rm_Mo_paramWords _ false 742 0 0 0 [(0, .ref (717)), (1, .int (nI (m)))] [] σ
  refine px_iconst (v := 0) dx_Mo_paramWords_0 rfl ?_
  refine px_istore_n (lv' := [(2, .int (0)), (0, .ref (717)), (1, .int (nI (m)))]) dx_Mo_paramWords_1 (by decide) rfl ?_
  refine px_iconst (v := 0) dx_Mo_paramWords_2 rfl ?_
  refine px_istore_n (lv' := [(3, .int (0)), (2, .int (0)), (0, .ref (717)), (1, .int (nI (m)))]) dx_Mo_paramWords_3 (by decide) rfl ?_
  refine px_sub [2, 3, 1, 0] rfl ?_
  exact m_paramWords_lp hM hm hn h1 h2 h3 hp (np + 1) 0 (by omega) (by omega)
