/-! the class: a file's bytes -/
def KB (σ : fr_S) (b : Nat → Nat) (n : Nat) : Prop := gI σ 1 1 = nI n ∧ n ≤ 220 ∧ (∀ k, k < 220 → gI σ 2 k = nI (b k)) ∧ ∀ k, b k < 256
/-- where the reading is -/
def KPs (σ : fr_S) (s : PS) : Prop := s.1 ≤ 220 ∧ gI σ 1 3 = ilI s ∧ (s.2 = false → gI σ 1 2 = nI s.1)
theorem RF.fb {σ : fr_S} (h : RF σ) : gR σ 1 0 = some 2 := h.1.2.2.2.1
theorem ilI_e {s : PS} (h : s.1 ≤ 220) : (ilI s = -1 ↔ s.2 = false) := by
  unfold ilI
  cases s.2 with
  | false => exact ⟨fun _ => rfl, fun _ => rfl⟩
  | true =>
    refine ⟨fun q => ?_, fun q => by cases q⟩
    have z := nI_pos' (n := s.1) (by omega)
    rw [if_pos rfl] at q
    rw [q] at z
    exact absurd z (by decide)
theorem nx_d {b : Nat → Nat} {n lo hi d d' : Nat} {s : PS} : (nx b n lo hi d s).2 = (nx b n lo hi d' s).2 := by
  unfold nx
  split
  · rfl
  · split <;> rfl
def P1 (o k : Nat) : Prop := o = 1 ∧ (k = 2 ∨ k = 3)
theorem KB.p1 {σ σ' : fr_S} {b : Nat → Nat} {n : Nat} (h : KB σ b n) (a : Agp P1 σ σ') : KB σ' b n := ⟨(a.1 1 1 (by unfold P1; omega)).trans h.1, h.2.1, fun k hk => (a.1 2 k (by unfold P1; omega)).trans (h.2.2.1 k hk), h.2.2.2⟩

set_option maxRecDepth 100000 in
set_option maxHeartbeats 1000000 in
theorem k_append {l : Launch} {G : fr_G} {σ : fr_S} (hR : RF σ) {b : Nat → Nat} {n : Nat} (hB : KB σ b n) {x : Int32} : CR l G yy_Fb_append rm_Fb_append [.ref (1), .int (x)] σ (fun r0 σ' => (220 ≤ n ∧ r0 = some (.int 0) ∧ σ' = σ) ∨ (n < 220 ∧ r0 = some (.int 1) ∧ σ' = sI (sI σ 2 n (nI (byO x))) 1 1 (nI (n + 1)))) := by
  intro Post hp0
  show PX l G yy_Fb_append rm_Fb_append _ false 742 0 0 0 [(0, .ref (1)), (1, .int (x))] [] σ
  have hn := hB.2.1
  refine px_aload_n dx_Fb_append_0 rfl ?_
  refine px_getI dx_Fb_append_1 fl_Fb_15 rfl (by decide) rfl ?_
  refine px_eqi (y := nI (n)) hB.1 ?_
  refine px_if_ltN (a := n) dx_Fb_append_4 (by omega) (fun c_4 => ?_) (fun c_4 => ?_)
  · refine px_iconst (v := 0) dx_Fb_append_19 rfl ?_
    exact px_zret dx_Fb_append_20 rfl (by decide) (by exact hp0 _ _ (Or.inl ⟨by omega, rfl, rfl⟩))
  · refine px_aload_n dx_Fb_append_7 rfl ?_
    refine px_getI dx_Fb_append_8 fl_Fb_15 rfl (by decide) rfl ?_
    refine px_eqi (y := nI (n)) hB.1 ?_
    refine px_aload_n dx_Fb_append_11 rfl ?_
    refine px_getR (r := 2) dx_Fb_append_12 fl_Fb_9 rfl (by decide) rfl hR.fb ?_
    refine px_alen (v := 220) dx_Fb_append_15 rfl (by decide) (by decide) rfl ?_
    refine px_icmp_ltN (a := n) (b := 220) dx_Fb_append_16 (by omega) (by omega) (fun c_16 => ?_) (fun c_16 => ?_)
    · refine px_aload_n dx_Fb_append_21 rfl ?_
      refine px_getR (r := 2) dx_Fb_append_22 fl_Fb_9 rfl (by decide) rfl hR.fb ?_
      refine px_aload_n dx_Fb_append_25 rfl ?_
      refine px_getI dx_Fb_append_26 fl_Fb_15 rfl (by decide) rfl ?_
      refine px_eqi (y := nI (n)) hB.1 ?_
      refine px_iload_n dx_Fb_append_29 rfl ?_
      refine px_sipush (v := 255) dx_Fb_append_30 rfl ?_
      refine px_iand dx_Fb_append_33 ?_
      refine px_eqi (y := nI (byO x)) (byO_and x) ?_
      refine px_iastN (j := n) dx_Fb_append_34 rfl (by decide) (by omega) ?_
      refine px_aload_n dx_Fb_append_35 rfl ?_
      refine px_dup dx_Fb_append_36 rfl ?_
      refine px_getI dx_Fb_append_37 fl_Fb_15 rfl (by decide) rfl ?_
      refine px_eqi (y := nI (n)) (Eq.trans (gI_n (Or.inl (by decide))) hB.1) ?_
      refine px_iconst (v := 1) dx_Fb_append_40 rfl ?_
      refine px_iaddN (a := n) (b := 1) dx_Fb_append_41 ?_
      refine px_putI dx_Fb_append_42 fl_Fb_15 rfl (by decide) rfl ?_
      refine px_iconst (v := 1) dx_Fb_append_45 rfl ?_
      exact px_zret dx_Fb_append_46 rfl (by decide) (by exact hp0 _ _ (Or.inr ⟨by omega, rfl, rfl⟩))
    · refine px_iconst (v := 0) dx_Fb_append_19 rfl ?_
      exact px_zret dx_Fb_append_20 rfl (by decide) (by exact hp0 _ _ (Or.inl ⟨by omega, rfl, rfl⟩))
set_option maxRecDepth 100000 in
set_option maxHeartbeats 1000000 in
theorem k_clear {l : Launch} {G : fr_G} {σ : fr_S}  : CT l G yy_Fb_clear rm_Fb_clear [.ref (1)] σ none (sI σ 1 1 0) := by
  intro Post hp0
  have hp := hp0
  show PX l G yy_Fb_clear rm_Fb_clear _ false 742 0 0 0 [(0, .ref (1))] [] σ
  refine px_aload_n dx_Fb_clear_0 rfl ?_
  refine px_iconst (v := 0) dx_Fb_clear_1 rfl ?_
  refine px_putI dx_Fb_clear_2 fl_Fb_15 rfl (by decide) rfl ?_
  exact px_vret dx_Fb_clear_5 rfl (by exact hp)
set_option maxRecDepth 100000 in
set_option maxHeartbeats 1000000 in
theorem k_dueCheck_lp {l : Launch} {G : fr_G} {σ : fr_S} (hR : RF σ) {b : Nat → Nat} {n : Nat} (hB : KB σ b n) {Post : Option Value → fr_S → Prop} (hp : Post (some (.long (lN (ckV b n)))) σ) : ∀ (d : Nat) (j : Nat), n - j < d → j = 0 ∨ 8 + j ≤ n → PX l G yy_Fb_dueCheck rm_Fb_dueCheck (QR G false 742 0 0 Post) false 742 0 0 8 [(0, .ref (1)), (1, .long (lN (ckS b j).1)), (3, .long (lN (ckS b j).2)), (5, .int (nI (8 + j)))] [] (σ) := by
  intro d
  induction d with
  | zero => intro j hd; exact absurd hd (Nat.not_lt_zero _)
  | succ d ih =>
    intro j hd hj
    have hn := hB.2.1
    have hck := ckS_lt b j
    have hck1 := ckS_lt b (j + 1)
    have hb8 := hB.2.2.2 (8 + j)
    refine px_iload dx_Fb_dueCheck_8 rfl ?_
    refine px_aload_n dx_Fb_dueCheck_10 rfl ?_
    refine px_getI dx_Fb_dueCheck_11 fl_Fb_15 rfl (by decide) rfl ?_
    refine px_eqi (y := nI (n)) hB.1 ?_
    refine px_icmp_geN (a := 8 + j) (b := n) dx_Fb_dueCheck_14 (by omega) (by omega) (fun c_14 => ?_) (fun c_14 => ?_)
    · refine px_ldc2 dx_Fb_dueCheck_56 kk_Fb_44 ?_
      refine px_lload_n dx_Fb_dueCheck_59 rfl ?_
      refine px_lmul dx_Fb_dueCheck_60 ?_
      refine px_lload_n dx_Fb_dueCheck_61 rfl ?_
      refine px_ladd dx_Fb_dueCheck_62 ?_
      exact px_lret dx_Fb_dueCheck_63 rfl (by (have e : (65536 * (lN (ckS b j).2)) + (lN (ckS b j).1) = lN (ckV b n) := by (obtain rfl : j = n - 8 := by omega); (rw [show (65536 : Int64) = lN 65536 from rfl, lN_mul, lN_add]; rfl)); rw [e]; exact hp)
    · refine px_iload dx_Fb_dueCheck_17 rfl ?_
      refine px_aload_n dx_Fb_dueCheck_19 rfl ?_
      refine px_getR (r := 2) dx_Fb_dueCheck_20 fl_Fb_9 rfl (by decide) rfl hR.fb ?_
      refine px_alen (v := 220) dx_Fb_dueCheck_23 rfl (by decide) (by decide) rfl ?_
      refine px_icmp_geN (a := 8 + j) (b := 220) dx_Fb_dueCheck_24 (by omega) (by omega) (fun c_24 => ?_) (fun c_24 => ?_)
      · refine px_ldc2 dx_Fb_dueCheck_56 kk_Fb_44 ?_
        refine px_lload_n dx_Fb_dueCheck_59 rfl ?_
        refine px_lmul dx_Fb_dueCheck_60 ?_
        refine px_lload_n dx_Fb_dueCheck_61 rfl ?_
        refine px_ladd dx_Fb_dueCheck_62 ?_
        exact px_lret dx_Fb_dueCheck_63 rfl (by (have e : (65536 * (lN (ckS b j).2)) + (lN (ckS b j).1) = lN (ckV b n) := by (obtain rfl : j = n - 8 := by omega); (rw [show (65536 : Int64) = lN 65536 from rfl, lN_mul, lN_add]; rfl)); rw [e]; exact hp)
      · refine px_lload_n dx_Fb_dueCheck_27 rfl ?_
        refine px_aload_n dx_Fb_dueCheck_28 rfl ?_
        refine px_getR (r := 2) dx_Fb_dueCheck_29 fl_Fb_9 rfl (by decide) rfl hR.fb ?_
        refine px_iload dx_Fb_dueCheck_32 rfl ?_
        refine px_ialdN (j := 8 + j) dx_Fb_dueCheck_34 rfl (by decide) (by omega) ?_
        refine px_eqi (y := nI (b (8 + j))) (hB.2.2.1 (8 + j) (by omega)) ?_
        refine px_i2l dx_Fb_dueCheck_35 ?_
        refine px_eql (y := lN (b (8 + j))) (nI_l (by omega)) ?_
        refine px_ladd dx_Fb_dueCheck_36 ?_
        refine px_eql (y := lN ((ckS b j).1 + b (8 + j))) (lN_add _ _) ?_
        refine px_ldc2 dx_Fb_dueCheck_37 kk_Fb_42 ?_
        refine px_lrem dx_Fb_dueCheck_40 (by decide) ?_
        refine px_eql (y := lN (ckS b (j + 1)).1) (pk_lRem (b := 65521) (by omega) (by decide) (by decide)) ?_
        refine px_lstore_n (lv' := [(1, .long (lN (ckS b (j + 1)).1)), (0, .ref (1)), (3, .long (lN (ckS b j).2)), (5, .int (nI (8 + j)))]) dx_Fb_dueCheck_41 (by decide) rfl ?_
        refine px_lload_n dx_Fb_dueCheck_42 rfl ?_
        refine px_lload_n dx_Fb_dueCheck_43 rfl ?_
        refine px_ladd dx_Fb_dueCheck_44 ?_
        refine px_eql (y := lN ((ckS b j).2 + (ckS b (j + 1)).1)) (lN_add _ _) ?_
        refine px_ldc2 dx_Fb_dueCheck_45 kk_Fb_42 ?_
        refine px_lrem dx_Fb_dueCheck_48 (by decide) ?_
        refine px_eql (y := lN (ckS b (j + 1)).2) (pk_lRem (b := 65521) (by omega) (by decide) (by decide)) ?_
        refine px_lstore_n (lv' := [(3, .long (lN (ckS b (j + 1)).2)), (1, .long (lN (ckS b (j + 1)).1)), (0, .ref (1)), (5, .int (nI (8 + j)))]) dx_Fb_dueCheck_49 (by decide) rfl ?_
        refine px_iinc (v := (nI (8 + j + 1))) (lv' := [(5, .int (nI (8 + j + 1))), (3, .long (lN (ckS b (j + 1)).2)), (1, .long (lN (ckS b (j + 1)).1)), (0, .ref (1))]) dx_Fb_dueCheck_50 rfl (nI_1 _) (by decide) rfl ?_
        refine px_goto dx_Fb_dueCheck_53 ?_
        refine px_sub [3, 2, 1, 0] rfl ?_
        exact ih (j + 1) (by omega) (by omega)
set_option maxRecDepth 100000 in
set_option maxHeartbeats 1000000 in
theorem k_dueCheck {l : Launch} {G : fr_G} {σ : fr_S} (hR : RF σ) {b : Nat → Nat} {n : Nat} (hB : KB σ b n) : CT l G yy_Fb_dueCheck rm_Fb_dueCheck [.ref (1)] σ (some (.long (lN (ckV b n)))) (σ) := by
  intro Post hp0
  have hp := hp0
  show PX l G yy_Fb_dueCheck rm_Fb_dueCheck _ false 742 0 0 0 [(0, .ref (1))] [] σ
  refine px_lconst (v := 1) dx_Fb_dueCheck_0 rfl ?_
  refine px_lstore_n (lv' := [(1, .long (1)), (0, .ref (1))]) dx_Fb_dueCheck_1 (by decide) rfl ?_
  refine px_lconst (v := 0) dx_Fb_dueCheck_2 rfl ?_
  refine px_lstore_n (lv' := [(3, .long (0)), (1, .long (1)), (0, .ref (1))]) dx_Fb_dueCheck_3 (by decide) rfl ?_
  refine px_bipush (v := 8) dx_Fb_dueCheck_4 rfl ?_
  refine px_istore (lv' := [(5, .int (8)), (3, .long (0)), (1, .long (1)), (0, .ref (1))]) dx_Fb_dueCheck_6 (by decide) rfl ?_
  refine px_sub [3, 2, 1, 0] rfl ?_
  exact k_dueCheck_lp hR hB hp0 (n + 1) 0 (by omega) (Or.inl rfl)

/-- the check that is told -/
def tlV (b : Nat → Nat) : Nat := (((0 * 256 + b 7) * 256 + b 6) * 256 + b 5) * 256 + b 4

set_option maxRecDepth 100000 in
set_option maxHeartbeats 1000000 in
theorem k_toldCheck {l : Launch} {G : fr_G} {σ : fr_S} (hR : RF σ) {b : Nat → Nat} {n : Nat} (hB : KB σ b n) : CT l G yy_Fb_toldCheck rm_Fb_toldCheck [.ref (1)] σ (some (.long (lN (tlV b)))) (σ) := by
  intro Post hp0
  have hp := hp0
  show PX l G yy_Fb_toldCheck rm_Fb_toldCheck _ false 742 0 0 0 [(0, .ref (1))] [] σ
  refine px_lconst (v := 0) dx_Fb_toldCheck_0 rfl ?_
  refine px_lstore_n (lv' := [(1, .long (0)), (0, .ref (1))]) dx_Fb_toldCheck_1 (by decide) rfl ?_
  refine px_iconst (v := 3) dx_Fb_toldCheck_2 rfl ?_
  refine px_istore_n (lv' := [(3, .int (3)), (1, .long (0)), (0, .ref (1))]) dx_Fb_toldCheck_3 (by decide) rfl ?_
  refine px_iload_n dx_Fb_toldCheck_4 rfl ?_
  refine px_if_lt dx_Fb_toldCheck_5 (fun q => absurd q (by decide)) (fun _ => ?_)
  refine px_lload_n dx_Fb_toldCheck_8 rfl ?_
  refine px_ldc2 dx_Fb_toldCheck_9 kk_Fb_46 ?_
  refine px_lmul dx_Fb_toldCheck_12 ?_
  refine px_eql (y := lN (0 * 256)) (lN_mul 0 256) ?_
  refine px_aload_n dx_Fb_toldCheck_13 rfl ?_
  refine px_getR (r := 2) dx_Fb_toldCheck_14 fl_Fb_9 rfl (by decide) rfl hR.fb ?_
  refine px_iconst (v := 4) dx_Fb_toldCheck_17 rfl ?_
  refine px_iload_n dx_Fb_toldCheck_18 rfl ?_
  refine px_iadd dx_Fb_toldCheck_19 ?_
  refine px_iald dx_Fb_toldCheck_20 rfl (by decide) (by unfold vp_in; decide) ?_
  refine px_eqi (y := nI (b 7)) (by rw [show (4 + 3 : Int32).toNatClampNeg = 7 by decide]; exact hB.2.2.1 7 (by decide)) ?_
  refine px_i2l dx_Fb_toldCheck_21 ?_
  refine px_eql (y := lN (b 7)) (nI_l (by have := hB.2.2.2 7; omega)) ?_
  refine px_ladd dx_Fb_toldCheck_22 ?_
  refine px_eql (y := lN (0 * 256 + b 7)) (lN_add _ _) ?_
  refine px_lstore_n (lv' := [(1, .long (lN (0 * 256 + b 7))), (3, .int (3)), (0, .ref (1))]) dx_Fb_toldCheck_23 (by decide) rfl ?_
  refine px_iinc (v := (2)) (lv' := [(3, .int (2)), (1, .long (lN (0 * 256 + b 7))), (0, .ref (1))]) dx_Fb_toldCheck_24 rfl (by decide) (by decide) rfl ?_
  refine px_goto dx_Fb_toldCheck_27 ?_
  refine px_iload_n dx_Fb_toldCheck_4 rfl ?_
  refine px_if_lt dx_Fb_toldCheck_5 (fun q => absurd q (by decide)) (fun _ => ?_)
  refine px_lload_n dx_Fb_toldCheck_8 rfl ?_
  refine px_ldc2 dx_Fb_toldCheck_9 kk_Fb_46 ?_
  refine px_lmul dx_Fb_toldCheck_12 ?_
  refine px_eql (y := lN ((0 * 256 + b 7) * 256)) (lN_mul (0 * 256 + b 7) 256) ?_
  refine px_aload_n dx_Fb_toldCheck_13 rfl ?_
  refine px_getR (r := 2) dx_Fb_toldCheck_14 fl_Fb_9 rfl (by decide) rfl hR.fb ?_
  refine px_iconst (v := 4) dx_Fb_toldCheck_17 rfl ?_
  refine px_iload_n dx_Fb_toldCheck_18 rfl ?_
  refine px_iadd dx_Fb_toldCheck_19 ?_
  refine px_iald dx_Fb_toldCheck_20 rfl (by decide) (by unfold vp_in; decide) ?_
  refine px_eqi (y := nI (b 6)) (by rw [show (4 + 2 : Int32).toNatClampNeg = 6 by decide]; exact hB.2.2.1 6 (by decide)) ?_
  refine px_i2l dx_Fb_toldCheck_21 ?_
  refine px_eql (y := lN (b 6)) (nI_l (by have := hB.2.2.2 6; omega)) ?_
  refine px_ladd dx_Fb_toldCheck_22 ?_
  refine px_eql (y := lN ((0 * 256 + b 7) * 256 + b 6)) (lN_add _ _) ?_
  refine px_lstore_n (lv' := [(1, .long (lN ((0 * 256 + b 7) * 256 + b 6))), (3, .int (2)), (0, .ref (1))]) dx_Fb_toldCheck_23 (by decide) rfl ?_
  refine px_iinc (v := (1)) (lv' := [(3, .int (1)), (1, .long (lN ((0 * 256 + b 7) * 256 + b 6))), (0, .ref (1))]) dx_Fb_toldCheck_24 rfl (by decide) (by decide) rfl ?_
  refine px_goto dx_Fb_toldCheck_27 ?_
  refine px_iload_n dx_Fb_toldCheck_4 rfl ?_
  refine px_if_lt dx_Fb_toldCheck_5 (fun q => absurd q (by decide)) (fun _ => ?_)
  refine px_lload_n dx_Fb_toldCheck_8 rfl ?_
  refine px_ldc2 dx_Fb_toldCheck_9 kk_Fb_46 ?_
  refine px_lmul dx_Fb_toldCheck_12 ?_
  refine px_eql (y := lN (((0 * 256 + b 7) * 256 + b 6) * 256)) (lN_mul ((0 * 256 + b 7) * 256 + b 6) 256) ?_
  refine px_aload_n dx_Fb_toldCheck_13 rfl ?_
  refine px_getR (r := 2) dx_Fb_toldCheck_14 fl_Fb_9 rfl (by decide) rfl hR.fb ?_
  refine px_iconst (v := 4) dx_Fb_toldCheck_17 rfl ?_
  refine px_iload_n dx_Fb_toldCheck_18 rfl ?_
  refine px_iadd dx_Fb_toldCheck_19 ?_
  refine px_iald dx_Fb_toldCheck_20 rfl (by decide) (by unfold vp_in; decide) ?_
  refine px_eqi (y := nI (b 5)) (by rw [show (4 + 1 : Int32).toNatClampNeg = 5 by decide]; exact hB.2.2.1 5 (by decide)) ?_
  refine px_i2l dx_Fb_toldCheck_21 ?_
  refine px_eql (y := lN (b 5)) (nI_l (by have := hB.2.2.2 5; omega)) ?_
  refine px_ladd dx_Fb_toldCheck_22 ?_
  refine px_eql (y := lN (((0 * 256 + b 7) * 256 + b 6) * 256 + b 5)) (lN_add _ _) ?_
  refine px_lstore_n (lv' := [(1, .long (lN (((0 * 256 + b 7) * 256 + b 6) * 256 + b 5))), (3, .int (1)), (0, .ref (1))]) dx_Fb_toldCheck_23 (by decide) rfl ?_
  refine px_iinc (v := (0)) (lv' := [(3, .int (0)), (1, .long (lN (((0 * 256 + b 7) * 256 + b 6) * 256 + b 5))), (0, .ref (1))]) dx_Fb_toldCheck_24 rfl (by decide) (by decide) rfl ?_
  refine px_goto dx_Fb_toldCheck_27 ?_
  refine px_iload_n dx_Fb_toldCheck_4 rfl ?_
  refine px_if_lt dx_Fb_toldCheck_5 (fun q => absurd q (by decide)) (fun _ => ?_)
  refine px_lload_n dx_Fb_toldCheck_8 rfl ?_
  refine px_ldc2 dx_Fb_toldCheck_9 kk_Fb_46 ?_
  refine px_lmul dx_Fb_toldCheck_12 ?_
  refine px_eql (y := lN ((((0 * 256 + b 7) * 256 + b 6) * 256 + b 5) * 256)) (lN_mul (((0 * 256 + b 7) * 256 + b 6) * 256 + b 5) 256) ?_
  refine px_aload_n dx_Fb_toldCheck_13 rfl ?_
  refine px_getR (r := 2) dx_Fb_toldCheck_14 fl_Fb_9 rfl (by decide) rfl hR.fb ?_
  refine px_iconst (v := 4) dx_Fb_toldCheck_17 rfl ?_
  refine px_iload_n dx_Fb_toldCheck_18 rfl ?_
  refine px_iadd dx_Fb_toldCheck_19 ?_
  refine px_iald dx_Fb_toldCheck_20 rfl (by decide) (by unfold vp_in; decide) ?_
  refine px_eqi (y := nI (b 4)) (by rw [show (4 + 0 : Int32).toNatClampNeg = 4 by decide]; exact hB.2.2.1 4 (by decide)) ?_
  refine px_i2l dx_Fb_toldCheck_21 ?_
  refine px_eql (y := lN (b 4)) (nI_l (by have := hB.2.2.2 4; omega)) ?_
  refine px_ladd dx_Fb_toldCheck_22 ?_
  refine px_eql (y := lN ((((0 * 256 + b 7) * 256 + b 6) * 256 + b 5) * 256 + b 4)) (lN_add _ _) ?_
  refine px_lstore_n (lv' := [(1, .long (lN ((((0 * 256 + b 7) * 256 + b 6) * 256 + b 5) * 256 + b 4))), (3, .int (0)), (0, .ref (1))]) dx_Fb_toldCheck_23 (by decide) rfl ?_
  refine px_iinc (v := (-1)) (lv' := [(3, .int (-1)), (1, .long (lN ((((0 * 256 + b 7) * 256 + b 6) * 256 + b 5) * 256 + b 4))), (0, .ref (1))]) dx_Fb_toldCheck_24 rfl (by decide) (by decide) rfl ?_
  refine px_goto dx_Fb_toldCheck_27 ?_
  refine px_iload_n dx_Fb_toldCheck_4 rfl ?_
  refine px_if_lt dx_Fb_toldCheck_5 (fun _ => ?_) (fun q => absurd (by decide) q)
  refine px_lload_n dx_Fb_toldCheck_30 rfl ?_
  exact px_lret dx_Fb_toldCheck_31 rfl (by exact hp)

theorem neg_lt {k : Nat} (h : k < 2 ^ 31) : (-1 : Int32) < nI k := by
  rw [Int32.lt_iff_toInt_lt, nI_toInt h]
  have : (-1 : Int32).toInt = -1 := by decide
  omega

set_option maxRecDepth 100000 in
set_option maxHeartbeats 1000000 in
theorem k_take {l : Launch} {G : fr_G} {σ : fr_S} (hR : RF σ) {b : Nat → Nat} {n : Nat} (hB : KB σ b n) {s : PS} (hP : KPs σ s) {lo hi : Nat} (hlo : lo < 256) (hhi : hi < 256) : CR l G yy_Fb_take rm_Fb_take [.ref (1), .int (nI (lo)), .int (nI (hi))] σ (fun r0 σ' => r0 = some (.int (nI (nx b n lo hi lo s).1)) ∧ Agp P1 σ σ' ∧ KPs σ' (nx b n lo hi lo s).2) := by
  intro Post hp0
  show PX l G yy_Fb_take rm_Fb_take _ false 742 0 0 0 [(0, .ref (1)), (1, .int (nI (lo))), (2, .int (nI (hi)))] [] σ
  have hn := hB.2.1
  have hs2 := hP.1
  have hbs := hB.2.2.2 s.1
  refine px_aload_n dx_Fb_take_0 rfl ?_
  refine px_getI dx_Fb_take_1 fl_Fb_22 rfl (by decide) rfl ?_
  refine px_eqi (y := ilI s) hP.2.1 ?_
  refine px_iconst (v := -1) dx_Fb_take_4 rfl ?_
  refine px_icmp_eq dx_Fb_take_5 (fun c_5 => ?_) (fun c_5 => ?_)
  · have hs : s.2 = false := (ilI_e hP.1).mp c_5
    refine px_aload_n dx_Fb_take_10 rfl ?_
    refine px_getI dx_Fb_take_11 fl_Fb_19 rfl (by decide) rfl ?_
    refine px_eqi (y := nI (s.1)) (hP.2.2 hs) ?_
    refine px_if_ltN (a := s.1) dx_Fb_take_14 (by (first | omega | exact Nat.lt_trans (hB.2.2.2 _) (by decide))) (fun c_14 => ?_) (fun c_14 => ?_)
    · refine px_iconst (v := -1) dx_Fb_take_52 rfl ?_
      refine px_istore_n (lv' := [(3, .int (-1)), (0, .ref (1)), (1, .int (nI (lo))), (2, .int (nI (hi)))]) dx_Fb_take_53 (by decide) rfl ?_
      refine px_iload_n dx_Fb_take_54 rfl ?_
      refine px_iload_n dx_Fb_take_55 rfl ?_
      refine px_icmp_lt dx_Fb_take_56 (fun c_56 => ?_) (fun c_56 => ?_)
      · refine px_aload_n dx_Fb_take_64 rfl ?_
        refine px_aload_n dx_Fb_take_65 rfl ?_
        refine px_getI dx_Fb_take_66 fl_Fb_19 rfl (by decide) rfl ?_
        refine px_eqi (y := nI (s.1)) (hP.2.2 hs) ?_
        refine px_putI dx_Fb_take_69 fl_Fb_22 rfl (by decide) rfl ?_
        refine px_iload_n dx_Fb_take_72 rfl ?_
        exact px_iret dx_Fb_take_73 rfl (by exfalso; omega)
      · refine px_iload_n dx_Fb_take_59 rfl ?_
        refine px_iload_n dx_Fb_take_60 rfl ?_
        refine px_icmp_le dx_Fb_take_61 (fun c_61 => ?_) (fun c_61 => ?_)
        · refine px_aload_n dx_Fb_take_74 rfl ?_
          refine px_dup dx_Fb_take_75 rfl ?_
          refine px_getI dx_Fb_take_76 fl_Fb_19 rfl (by decide) rfl ?_
          refine px_eqi (y := nI (s.1)) (hP.2.2 hs) ?_
          refine px_iconst (v := 1) dx_Fb_take_79 rfl ?_
          refine px_iaddN (a := s.1) (b := 1) dx_Fb_take_80 ?_
          refine px_putI dx_Fb_take_81 fl_Fb_19 rfl (by decide) rfl ?_
          refine px_iload_n dx_Fb_take_84 rfl ?_
          exact px_iret dx_Fb_take_85 rfl (by exfalso; omega)
        · refine px_aload_n dx_Fb_take_64 rfl ?_
          refine px_aload_n dx_Fb_take_65 rfl ?_
          refine px_getI dx_Fb_take_66 fl_Fb_19 rfl (by decide) rfl ?_
          refine px_eqi (y := nI (s.1)) (hP.2.2 hs) ?_
          refine px_putI dx_Fb_take_69 fl_Fb_22 rfl (by decide) rfl ?_
          refine px_iload_n dx_Fb_take_72 rfl ?_
          exact px_iret dx_Fb_take_73 rfl (by exfalso; omega)
    · refine px_aload_n dx_Fb_take_17 rfl ?_
      refine px_getI dx_Fb_take_18 fl_Fb_19 rfl (by decide) rfl ?_
      refine px_eqi (y := nI (s.1)) (hP.2.2 hs) ?_
      refine px_aload_n dx_Fb_take_21 rfl ?_
      refine px_getI dx_Fb_take_22 fl_Fb_15 rfl (by decide) rfl ?_
      refine px_eqi (y := nI (n)) hB.1 ?_
      refine px_icmp_geN (a := s.1) (b := n) dx_Fb_take_25 (by (first | omega | exact Nat.lt_trans (hB.2.2.2 _) (by decide))) (by (first | omega | exact Nat.lt_trans (hB.2.2.2 _) (by decide))) (fun c_25 => ?_) (fun c_25 => ?_)
      · refine px_iconst (v := -1) dx_Fb_take_52 rfl ?_
        refine px_istore_n (lv' := [(3, .int (-1)), (0, .ref (1)), (1, .int (nI (lo))), (2, .int (nI (hi)))]) dx_Fb_take_53 (by decide) rfl ?_
        refine px_iload_n dx_Fb_take_54 rfl ?_
        refine px_iload_n dx_Fb_take_55 rfl ?_
        refine px_icmp_lt dx_Fb_take_56 (fun c_56 => ?_) (fun c_56 => ?_)
        · refine px_aload_n dx_Fb_take_64 rfl ?_
          refine px_aload_n dx_Fb_take_65 rfl ?_
          refine px_getI dx_Fb_take_66 fl_Fb_19 rfl (by decide) rfl ?_
          refine px_eqi (y := nI (s.1)) (hP.2.2 hs) ?_
          refine px_putI dx_Fb_take_69 fl_Fb_22 rfl (by decide) rfl ?_
          refine px_iload_n dx_Fb_take_72 rfl ?_
          exact px_iret dx_Fb_take_73 rfl (by (have e : nx b n lo hi lo s = (lo, (s.1, true)) := by (unfold nx; rw [if_neg (show ¬ s.2 = true by rw [hs]; decide), if_neg (show ¬ (s.1 < n ∧ lo ≤ b s.1 ∧ b s.1 ≤ hi) by omega)])); rw [e] at hp0; exact hp0 _ _ ⟨rfl, Agp.rf.w ⟨rfl, Or.inr rfl⟩, hP.1, gI_s, fun q => by cases q⟩)
        · refine px_iload_n dx_Fb_take_59 rfl ?_
          refine px_iload_n dx_Fb_take_60 rfl ?_
          refine px_icmp_le dx_Fb_take_61 (fun c_61 => ?_) (fun c_61 => ?_)
          · refine px_aload_n dx_Fb_take_74 rfl ?_
            refine px_dup dx_Fb_take_75 rfl ?_
            refine px_getI dx_Fb_take_76 fl_Fb_19 rfl (by decide) rfl ?_
            refine px_eqi (y := nI (s.1)) (hP.2.2 hs) ?_
            refine px_iconst (v := 1) dx_Fb_take_79 rfl ?_
            refine px_iaddN (a := s.1) (b := 1) dx_Fb_take_80 ?_
            refine px_putI dx_Fb_take_81 fl_Fb_19 rfl (by decide) rfl ?_
            refine px_iload_n dx_Fb_take_84 rfl ?_
            exact px_iret dx_Fb_take_85 rfl (by exact absurd (show (-1 : Int32) < nI lo from neg_lt (by omega)) (by first | exact c_56 | exact Int32.not_lt.mpr c_56))
          · refine px_aload_n dx_Fb_take_64 rfl ?_
            refine px_aload_n dx_Fb_take_65 rfl ?_
            refine px_getI dx_Fb_take_66 fl_Fb_19 rfl (by decide) rfl ?_
            refine px_eqi (y := nI (s.1)) (hP.2.2 hs) ?_
            refine px_putI dx_Fb_take_69 fl_Fb_22 rfl (by decide) rfl ?_
            refine px_iload_n dx_Fb_take_72 rfl ?_
            exact px_iret dx_Fb_take_73 rfl (by (have e : nx b n lo hi lo s = (lo, (s.1, true)) := by (unfold nx; rw [if_neg (show ¬ s.2 = true by rw [hs]; decide), if_neg (show ¬ (s.1 < n ∧ lo ≤ b s.1 ∧ b s.1 ≤ hi) by omega)])); rw [e] at hp0; exact hp0 _ _ ⟨rfl, Agp.rf.w ⟨rfl, Or.inr rfl⟩, hP.1, gI_s, fun q => by cases q⟩)
      · refine px_aload_n dx_Fb_take_28 rfl ?_
        refine px_getI dx_Fb_take_29 fl_Fb_19 rfl (by decide) rfl ?_
        refine px_eqi (y := nI (s.1)) (hP.2.2 hs) ?_
        refine px_aload_n dx_Fb_take_32 rfl ?_
        refine px_getR (r := 2) dx_Fb_take_33 fl_Fb_9 rfl (by decide) rfl hR.fb ?_
        refine px_alen (v := 220) dx_Fb_take_36 rfl (by decide) (by decide) rfl ?_
        refine px_icmp_geN (a := s.1) (b := 220) dx_Fb_take_37 (by (first | omega | exact Nat.lt_trans (hB.2.2.2 _) (by decide))) (by (first | omega | exact Nat.lt_trans (hB.2.2.2 _) (by decide))) (fun c_37 => ?_) (fun c_37 => ?_)
        · refine px_iconst (v := -1) dx_Fb_take_52 rfl ?_
          refine px_istore_n (lv' := [(3, .int (-1)), (0, .ref (1)), (1, .int (nI (lo))), (2, .int (nI (hi)))]) dx_Fb_take_53 (by decide) rfl ?_
          refine px_iload_n dx_Fb_take_54 rfl ?_
          refine px_iload_n dx_Fb_take_55 rfl ?_
          refine px_icmp_lt dx_Fb_take_56 (fun c_56 => ?_) (fun c_56 => ?_)
          · refine px_aload_n dx_Fb_take_64 rfl ?_
            refine px_aload_n dx_Fb_take_65 rfl ?_
            refine px_getI dx_Fb_take_66 fl_Fb_19 rfl (by decide) rfl ?_
            refine px_eqi (y := nI (s.1)) (hP.2.2 hs) ?_
            refine px_putI dx_Fb_take_69 fl_Fb_22 rfl (by decide) rfl ?_
            refine px_iload_n dx_Fb_take_72 rfl ?_
            exact px_iret dx_Fb_take_73 rfl (by exfalso; omega)
          · refine px_iload_n dx_Fb_take_59 rfl ?_
            refine px_iload_n dx_Fb_take_60 rfl ?_
            refine px_icmp_le dx_Fb_take_61 (fun c_61 => ?_) (fun c_61 => ?_)
            · refine px_aload_n dx_Fb_take_74 rfl ?_
              refine px_dup dx_Fb_take_75 rfl ?_
              refine px_getI dx_Fb_take_76 fl_Fb_19 rfl (by decide) rfl ?_
              refine px_eqi (y := nI (s.1)) (hP.2.2 hs) ?_
              refine px_iconst (v := 1) dx_Fb_take_79 rfl ?_
              refine px_iaddN (a := s.1) (b := 1) dx_Fb_take_80 ?_
              refine px_putI dx_Fb_take_81 fl_Fb_19 rfl (by decide) rfl ?_
              refine px_iload_n dx_Fb_take_84 rfl ?_
              exact px_iret dx_Fb_take_85 rfl (by exfalso; omega)
            · refine px_aload_n dx_Fb_take_64 rfl ?_
              refine px_aload_n dx_Fb_take_65 rfl ?_
              refine px_getI dx_Fb_take_66 fl_Fb_19 rfl (by decide) rfl ?_
              refine px_eqi (y := nI (s.1)) (hP.2.2 hs) ?_
              refine px_putI dx_Fb_take_69 fl_Fb_22 rfl (by decide) rfl ?_
              refine px_iload_n dx_Fb_take_72 rfl ?_
              exact px_iret dx_Fb_take_73 rfl (by exfalso; omega)
        · refine px_aload_n dx_Fb_take_40 rfl ?_
          refine px_getR (r := 2) dx_Fb_take_41 fl_Fb_9 rfl (by decide) rfl hR.fb ?_
          refine px_aload_n dx_Fb_take_44 rfl ?_
          refine px_getI dx_Fb_take_45 fl_Fb_19 rfl (by decide) rfl ?_
          refine px_eqi (y := nI (s.1)) (hP.2.2 hs) ?_
          refine px_ialdN (j := s.1) dx_Fb_take_48 rfl (by decide) (by omega) ?_
          refine px_eqi (y := nI (b s.1)) (hB.2.2.1 s.1 (by omega)) ?_
          refine px_goto dx_Fb_take_49 ?_
          refine px_istore_n (lv' := [(3, .int (nI (b s.1))), (0, .ref (1)), (1, .int (nI (lo))), (2, .int (nI (hi)))]) dx_Fb_take_53 (by decide) rfl ?_
          refine px_iload_n dx_Fb_take_54 rfl ?_
          refine px_iload_n dx_Fb_take_55 rfl ?_
          refine px_icmp_ltN (a := b s.1) (b := lo) dx_Fb_take_56 (by (first | omega | exact Nat.lt_trans (hB.2.2.2 _) (by decide))) (by (first | omega | exact Nat.lt_trans (hB.2.2.2 _) (by decide))) (fun c_56 => ?_) (fun c_56 => ?_)
          · refine px_aload_n dx_Fb_take_64 rfl ?_
            refine px_aload_n dx_Fb_take_65 rfl ?_
            refine px_getI dx_Fb_take_66 fl_Fb_19 rfl (by decide) rfl ?_
            refine px_eqi (y := nI (s.1)) (hP.2.2 hs) ?_
            refine px_putI dx_Fb_take_69 fl_Fb_22 rfl (by decide) rfl ?_
            refine px_iload_n dx_Fb_take_72 rfl ?_
            exact px_iret dx_Fb_take_73 rfl (by (have e : nx b n lo hi lo s = (lo, (s.1, true)) := by (unfold nx; rw [if_neg (show ¬ s.2 = true by rw [hs]; decide), if_neg (show ¬ (s.1 < n ∧ lo ≤ b s.1 ∧ b s.1 ≤ hi) by omega)])); rw [e] at hp0; exact hp0 _ _ ⟨rfl, Agp.rf.w ⟨rfl, Or.inr rfl⟩, hP.1, gI_s, fun q => by cases q⟩)
          · refine px_iload_n dx_Fb_take_59 rfl ?_
            refine px_iload_n dx_Fb_take_60 rfl ?_
            refine px_icmp_leN (a := b s.1) (b := hi) dx_Fb_take_61 (by (first | omega | exact Nat.lt_trans (hB.2.2.2 _) (by decide))) (by (first | omega | exact Nat.lt_trans (hB.2.2.2 _) (by decide))) (fun c_61 => ?_) (fun c_61 => ?_)
            · refine px_aload_n dx_Fb_take_74 rfl ?_
              refine px_dup dx_Fb_take_75 rfl ?_
              refine px_getI dx_Fb_take_76 fl_Fb_19 rfl (by decide) rfl ?_
              refine px_eqi (y := nI (s.1)) (hP.2.2 hs) ?_
              refine px_iconst (v := 1) dx_Fb_take_79 rfl ?_
              refine px_iaddN (a := s.1) (b := 1) dx_Fb_take_80 ?_
              refine px_putI dx_Fb_take_81 fl_Fb_19 rfl (by decide) rfl ?_
              refine px_iload_n dx_Fb_take_84 rfl ?_
              exact px_iret dx_Fb_take_85 rfl (by (have e : nx b n lo hi lo s = (b s.1, (s.1 + 1, false)) := by (unfold nx; rw [if_neg (show ¬ s.2 = true by rw [hs]; decide), if_pos ⟨by omega, by omega, by omega⟩])); rw [e] at hp0; exact hp0 _ _ ⟨rfl, Agp.rf.w ⟨rfl, Or.inl rfl⟩, show s.1 + 1 ≤ 220 by omega, (gI_n (Or.inr (by decide))).trans (hP.2.1.trans ((ilI_e hP.1).mpr hs)), fun _ => gI_s⟩)
            · refine px_aload_n dx_Fb_take_64 rfl ?_
              refine px_aload_n dx_Fb_take_65 rfl ?_
              refine px_getI dx_Fb_take_66 fl_Fb_19 rfl (by decide) rfl ?_
              refine px_eqi (y := nI (s.1)) (hP.2.2 hs) ?_
              refine px_putI dx_Fb_take_69 fl_Fb_22 rfl (by decide) rfl ?_
              refine px_iload_n dx_Fb_take_72 rfl ?_
              exact px_iret dx_Fb_take_73 rfl (by (have e : nx b n lo hi lo s = (lo, (s.1, true)) := by (unfold nx; rw [if_neg (show ¬ s.2 = true by rw [hs]; decide), if_neg (show ¬ (s.1 < n ∧ lo ≤ b s.1 ∧ b s.1 ≤ hi) by omega)])); rw [e] at hp0; exact hp0 _ _ ⟨rfl, Agp.rf.w ⟨rfl, Or.inr rfl⟩, hP.1, gI_s, fun q => by cases q⟩)
  · refine px_iload_n dx_Fb_take_8 rfl ?_
    exact px_iret dx_Fb_take_9 rfl (by (have hs : s.2 = true := by (cases q : s.2 with | true => rfl | false => exact absurd ((ilI_e hP.1).mpr q) c_5)); (have e : nx b n lo hi lo s = (lo, s) := by (unfold nx; rw [if_pos hs])); rw [e] at hp0; exact hp0 _ _ ⟨rfl, Agp.rf, hP⟩)
