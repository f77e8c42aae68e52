/-! the reference: the whole file is read -/
def ckS (b : Nat → Nat) : Nat → Nat × Nat
  | 0 => (1, 0)
  | k + 1 => (((ckS b k).1 + b (8 + k)) % 65521, ((ckS b k).2 + ((ckS b k).1 + b (8 + k)) % 65521) % 65521)
/-- the check that is due -/
def ckV (b : Nat → Nat) (n : Nat) : Nat := 65536 * (ckS b (n - 8)).2 + (ckS b (n - 8)).1
theorem ckS_lt (b : Nat → Nat) : ∀ k, (ckS b k).1 < 65521 ∧ (ckS b k).2 < 65521
  | 0 => ⟨(by decide : 1 < 65521), (by decide : 0 < 65521)⟩
  | k + 1 => ⟨Nat.mod_lt _ (by decide), Nat.mod_lt _ (by decide)⟩
theorem ckV_lt (b : Nat → Nat) (n : Nat) : ckV b n < 2 ^ 32 := by
  have := ckS_lt b (n - 8)
  unfold ckV
  omega
theorem lN_bv (n : Nat) : (lN n).toBitVec = BitVec.ofNat 64 n := rfl
theorem lor_8 {c x k : Nat} (hk : k < 4) (hc : c < 256 ^ k) (hx : x < 256) : (lN c ||| ((nI x).toInt64 <<< ((nI (8 * k)).toInt64 &&& 63))) = lN (c + x * 256 ^ k) := by
  have hx' : x < 2 ^ 8 := hx
  rw [nI_l (by omega), nI_l (by omega)]
  have key : ∀ i, i ≤ 24 → c < 2 ^ i → (lN c ||| (lN x <<< (lN i &&& 63))) = lN (c + x * 2 ^ i) := by
    intro i hi hc2
    have h1 : c < 2 ^ 24 := Nat.lt_of_lt_of_le hc2 (Nat.pow_le_pow_right (by decide) hi)
    have h2 : x * 2 ^ i < 2 ^ 32 := Nat.lt_of_lt_of_le (Nat.mul_lt_mul_of_pos_right hx' (Nat.two_pow_pos i)) (by rw [← Nat.pow_add]; exact Nat.pow_le_pow_right (by decide) (by omega))
    apply Int64.toBitVec_inj.mp
    rw [Int64.toBitVec_or, Int64.toBitVec_shiftLeft, Int64.toBitVec_and, lN_bv, lN_bv, lN_bv, lN_bv]
    apply BitVec.eq_of_toNat_eq
    have e63 : (63 : Int64).toBitVec = BitVec.ofNat 64 63 := rfl
    have e1 : ((BitVec.ofNat 64 i &&& (63 : Int64).toBitVec).smod 64).toNat = i := by
      rw [e63]
      exact (show ∀ i, i ≤ 24 → ((BitVec.ofNat 64 i &&& BitVec.ofNat 64 63).smod 64).toNat = i by decide +kernel) i hi
    have m1 : c % 2 ^ 64 = c := Nat.mod_eq_of_lt (by omega)
    have m2 : x % 2 ^ 64 = x := Nat.mod_eq_of_lt (by omega)
    have m3 : x * 2 ^ i % 2 ^ 64 = x * 2 ^ i := Nat.mod_eq_of_lt (Nat.lt_trans h2 (by decide))
    have m4 : (c + x * 2 ^ i) % 2 ^ 64 = c + x * 2 ^ i := Nat.mod_eq_of_lt (by omega)
    rw [BitVec.toNat_or, BitVec.shiftLeft_eq', BitVec.toNat_shiftLeft, e1, BitVec.toNat_ofNat, BitVec.toNat_ofNat, BitVec.toNat_ofNat, m1, m2, m4, Nat.shiftLeft_eq, m3, ← Nat.shiftLeft_eq, Nat.or_comm, ← Nat.shiftLeft_add_eq_or_of_lt hc2, Nat.add_comm]
  have e : (256 : Nat) ^ k = 2 ^ (8 * k) := by rw [Nat.pow_mul]
  rw [e] at hc ⊢
  exact key (8 * k) (by omega) hc

set_option maxRecDepth 100000 in
set_option maxHeartbeats 1000000 in
theorem m_checkOf_lp {l : Launch} {G : fr_G} {σ : fr_S} (hM : MR σ) {b : Nat → Nat} {n : Nat} (hB : MB σ b n) {Post : Option Value → fr_S → Prop} (hp : Post (some (.long (lN (ckV b n)))) σ) : ∀ (d : Nat) (i : Nat), n - i < d → i = 0 ∨ 8 + i ≤ n → PX l G yy_Mo_checkOf rm_Mo_checkOf (QR G false 742 0 0 Post) false 742 0 0 7 [(0, .ref (717)), (2, .int (nI ((ckS b i).1))), (3, .int (nI ((ckS b i).2))), (4, .int (nI (8 + i)))] [] (σ) := by
  intro d
  induction d with
  | zero => intro i hd; exact absurd hd (Nat.not_lt_zero _)
  | succ d ih =>
    intro i hd hi
    have hn := hB.2.1
    have hck := ckS_lt b i
    have hb8 := hB.2.2.2 (8 + i)
    refine px_iload dx_Mo_checkOf_7 rfl ?_
    refine px_aload_n dx_Mo_checkOf_9 rfl ?_
    refine px_getI dx_Mo_checkOf_10 fl_Mo_89 rfl (by decide) rfl ?_
    refine px_eqi (y := nI (n)) hB.1 ?_
    refine px_icmp_geN (a := 8 + i) (b := n) dx_Mo_checkOf_13 (by omega) (by omega) (fun c_13 => ?_) (fun c_13 => ?_)
    · refine px_ldc2 dx_Mo_checkOf_42 kk_Mo_111 ?_
      refine px_iload_n dx_Mo_checkOf_45 rfl ?_
      refine px_i2l dx_Mo_checkOf_46 ?_
      refine px_lmul dx_Mo_checkOf_47 ?_
      refine px_iload_n dx_Mo_checkOf_48 rfl ?_
      refine px_i2l dx_Mo_checkOf_49 ?_
      refine px_ladd dx_Mo_checkOf_50 ?_
      exact px_lret dx_Mo_checkOf_51 rfl (by (have e : (65536 * ((nI ((ckS b i).2)).toInt64)) + ((nI ((ckS b i).1)).toInt64) = lN (ckV b n) := by (obtain rfl : i = n - 8 := by omega); (rw [nI_l (by omega), nI_l (by omega), show (65536 : Int64) = lN 65536 from rfl, lN_mul, lN_add]; rfl)); rw [e]; exact hp)
    · refine px_iload_n dx_Mo_checkOf_16 rfl ?_
      refine px_aload_n dx_Mo_checkOf_17 rfl ?_
      refine px_getR (r := 718) dx_Mo_checkOf_18 fl_Mo_7 rfl (by decide) rfl (hM 2) ?_
      refine px_iload dx_Mo_checkOf_21 rfl ?_
      refine px_ialdN (j := 8 + i) dx_Mo_checkOf_23 rfl (by decide) (by omega) ?_
      refine px_eqi (y := nI (b (8 + i))) (hB.2.2.1 (8 + i) (by omega)) ?_
      refine px_iaddN (a := (ckS b i).1) (b := b (8 + i)) dx_Mo_checkOf_24 ?_
      refine px_ldc dx_Mo_checkOf_25 kk_Mo_110 ?_
      refine px_iremN (a := ((ckS b i).1) + (b (8 + i))) (b := 65521) dx_Mo_checkOf_27 (by omega) (by decide) (by decide) ?_
      refine px_istore_n (lv' := [(2, .int (nI ((((ckS b i).1) + (b (8 + i))) % 65521))), (0, .ref (717)), (3, .int (nI ((ckS b i).2))), (4, .int (nI (8 + i)))]) dx_Mo_checkOf_28 (by decide) rfl ?_
      refine px_iload_n dx_Mo_checkOf_29 rfl ?_
      refine px_iload_n dx_Mo_checkOf_30 rfl ?_
      refine px_iaddN (a := (ckS b i).2) (b := (((ckS b i).1) + (b (8 + i))) % 65521) dx_Mo_checkOf_31 ?_
      refine px_ldc dx_Mo_checkOf_32 kk_Mo_110 ?_
      refine px_iremN (a := ((ckS b i).2) + ((((ckS b i).1) + (b (8 + i))) % 65521)) (b := 65521) dx_Mo_checkOf_34 (by omega) (by decide) (by decide) ?_
      refine px_istore_n (lv' := [(3, .int (nI ((((ckS b i).2) + ((((ckS b i).1) + (b (8 + i))) % 65521)) % 65521))), (2, .int (nI ((((ckS b i).1) + (b (8 + i))) % 65521))), (0, .ref (717)), (4, .int (nI (8 + i)))]) dx_Mo_checkOf_35 (by decide) rfl ?_
      refine px_iinc (v := (nI (8 + i + 1))) (lv' := [(4, .int (nI (8 + i + 1))), (3, .int (nI ((((ckS b i).2) + ((((ckS b i).1) + (b (8 + i))) % 65521)) % 65521))), (2, .int (nI ((((ckS b i).1) + (b (8 + i))) % 65521))), (0, .ref (717))]) dx_Mo_checkOf_36 rfl (nI_1 _) (by decide) rfl ?_
      refine px_goto dx_Mo_checkOf_39 ?_
      refine px_sub [3, 2, 1, 0] rfl ?_
      rw [show (8 + i) + 1 = 8 + (i + 1) by omega]
      exact ih (i + 1) (by omega) (by omega)
set_option maxRecDepth 100000 in
set_option maxHeartbeats 1000000 in
theorem m_checkOf {l : Launch} {G : fr_G} {σ : fr_S} (hM : MR σ) {b : Nat → Nat} {n : Nat} (hB : MB σ b n) : CT l G yy_Mo_checkOf rm_Mo_checkOf [.ref (717), .int (nI (8))] σ (some (.long (lN (ckV b n)))) (σ) := by
  intro Post hp0
  have hp := hp0
  show PX l G yy_Mo_checkOf rm_Mo_checkOf _ false 742 0 0 0 [(0, .ref (717)), (1, .int (nI (8)))] [] σ
  refine px_iconst (v := 1) dx_Mo_checkOf_0 rfl ?_
  refine px_istore_n (lv' := [(2, .int (1)), (0, .ref (717)), (1, .int (nI (8)))]) dx_Mo_checkOf_1 (by decide) rfl ?_
  refine px_iconst (v := 0) dx_Mo_checkOf_2 rfl ?_
  refine px_istore_n (lv' := [(3, .int (0)), (2, .int (1)), (0, .ref (717)), (1, .int (nI (8)))]) dx_Mo_checkOf_3 (by decide) rfl ?_
  refine px_iload_n dx_Mo_checkOf_4 rfl ?_
  refine px_istore (lv' := [(4, .int (nI (8))), (3, .int (0)), (2, .int (1)), (0, .ref (717)), (1, .int (nI (8)))]) dx_Mo_checkOf_5 (by decide) rfl ?_
  refine px_sub [3, 2, 1, 0] rfl ?_
  exact m_checkOf_lp hM hB hp (n + 1) 0 (by omega) (Or.inl rfl)
theorem RD.i {σ : fr_S} {b : Nat → Nat} {n : Nat} {F : Nat → Nat → Nat} (hM : MR σ) (hB : MB σ b n) (hF : MF8 σ F) (hW : FW8 F) : RD σ (sI (sI σ 717 3 0) 717 5 0) b n F (0, false) := by
  refine ⟨hM, ⟨?_, hB.2.1, fun k hk => ?_, hB.2.2.2⟩, ⟨Nat.zero_le _, ?_, gI_s⟩, hF.o (S := [717]) (ag_sI (ag_sI Ag.rf (by decide)) (by decide)) (fun o _ _ => by simp; omega), hW, ag_sI (ag_sI Ag.rf (by decide)) (by decide), fun k h3 h5 => ?_⟩
  · rw [gI_n (Or.inr (by decide)), gI_n (Or.inr (by decide))]
    exact hB.1
  · rw [gI_n (Or.inl (by decide)), gI_n (Or.inl (by decide))]
    exact hB.2.2.1 k hk
  · rw [gI_n (Or.inr (by decide)), gI_s]
    rfl
  · rw [gI_n (Or.inr h5), gI_n (Or.inr h3)]
def rdC (b : Nat → Nat) (n : Nat) (s : PS) : Nat → Nat × PS
  | 0 => (0, s)
  | k + 1 => ((rdC b n s k).1 + (nx b n 0 255 0 (rdC b n s k).2).1 * 256 ^ k, (nx b n 0 255 0 (rdC b n s k).2).2)
/-- methods are read, until the file is ill -/
def rdL (b : Nat → Nat) (n : Nat) (q : (Nat → Nat → Nat) × PS) : Nat → (Nat → Nat → Nat) × PS
  | 0 => q
  | k + 1 => if (rdL b n q k).2.2 = true then rdL b n q k else rdM b n (4 + k) (rdL b n q k).1 (rdL b n q k).2
theorem rdL_ill {b : Nat → Nat} {n : Nat} {q : (Nat → Nat → Nat) × PS} {j : Nat} (h : (rdL b n q j).2.2 = true) : ∀ c, rdL b n q (j + c) = rdL b n q j
  | 0 => rfl
  | c + 1 => by
    have e := rdL_ill h c
    show (if (rdL b n q (j + c)).2.2 = true then rdL b n q (j + c) else _) = _
    rw [e, if_pos h]
theorem rdM_o {b : Nat → Nat} {n m : Nat} {F : Nat → Nat → Nat} {s : PS} {a y : Nat} (h : a ≤ 1) : (rdM b n m F s).1 a y = F a y := by
  unfold rdM rdT
  split
  · dsimp only
    rw [uf_n (Or.inl (by omega)), rdP_o (by omega)]
    dsimp only
    rw [uf_n (Or.inl (by omega)), uf_n (Or.inl (by omega))]
  · rw [rdU_o (by omega)]
    dsimp only
    rw [uf_n (Or.inl (by omega)), uf_n (Or.inl (by omega)), rdP_o (by omega)]
    dsimp only
    rw [uf_n (Or.inl (by omega)), uf_n (Or.inl (by omega))]
theorem rdL_o {b : Nat → Nat} {n : Nat} {q : (Nat → Nat → Nat) × PS} {a y : Nat} (h : a ≤ 1) : ∀ k, (rdL b n q k).1 a y = q.1 a y
  | 0 => rfl
  | k + 1 => by
    show (if (rdL b n q k).2.2 = true then rdL b n q k else _).1 a y = _
    split
    · exact rdL_o h k
    · rw [rdM_o h]
      exact rdL_o h k
/-- the end: nothing may stand behind, and the check is the one that is due -/
def rdE0 (n : Nat) (s : PS) : PS := if s.2 = false ∧ s.1 < n then (s.1, true) else s
def rdE (b : Nat → Nat) (n c : Nat) (s : PS) : PS := if (rdE0 n s).2 = false ∧ c ≠ ckV b n then (4, true) else rdE0 n s
/-- the head: the check that is told, and the numbers of methods and of fields -/
def rdH (b : Nat → Nat) (n : Nat) : PS := (nx b n 10 10 0 (nx b n 120 120 0 (nx b n 101 101 0 (nx b n 100 100 0 (0, false)).2).2).2).2
def rdF (b : Nat → Nat) (n : Nat) (F : Nat → Nat → Nat) : (Nat → Nat → Nat) × PS :=
  let c := rdC b n (rdH b n) 4
  let r6 := nx b n 1 4 0 c.2
  let r7 := nx b n 0 4 0 r6.2
  let q := rdL b n (uf (uf F 0 1 r6.1) 1 1 r7.1, r7.2) r6.1
  (q.1, rdE b n c.1 q.2)
def ilI (s : PS) : Int32 := if s.2 = true then nI s.1 else -1

theorem lg_cmp_s (x : Int64) : lg_cmp x x = 0 := by
  unfold lg_cmp
  first
    | simp
    | (rw [if_neg (by simp), if_neg (by simp)])
theorem lg_cmp_e {a b : Nat} (ha : a < 2 ^ 32) (hb : b < 2 ^ 32) (h : lg_cmp (lN a) (lN b) = 0) : a = b := by
  have q := (lg_cmp_eq _ _).mp h
  exact (pk_lEQ (by omega) (by omega)).mp q

set_option maxRecDepth 100000 in
set_option maxHeartbeats 1000000 in
theorem m_readFile_e {l : Launch} {G : fr_G} {σ0 σ : fr_S} {b : Nat → Nat} {n c : Nat} {F1 : Nat → Nat → Nat} {s1 : PS} (hc : c < 2 ^ 32) (hR : RD σ0 σ b n F1 s1) {Post : Option Value → fr_S → Prop} (hp0 : ∀ r σ', (fun r0 σ' => r0 = none ∧ ∃ τ, RD σ0 τ b n F1 (rdE b n c s1) ∧ σ' = sI τ 717 4 (ilI (rdE b n c s1))) r σ' → Post r σ') : PX l G yy_Mo_readFile rm_Mo_readFile (QR G false 742 0 0 Post) false 742 0 0 134 [(0, .ref 717), (1, .long (lN c))] [] σ := by
  have hnb := hR.2.1.2.1
  have hs2 := hR.2.2.1.1
  refine px_aload_n dx_Mo_readFile_134 rfl ?_
  refine px_getI dx_Mo_readFile_135 fl_Mo_92 rfl (by decide) rfl ?_
  refine px_eqi (y := b2i (s1.2)) hR.2.2.1.2.2 ?_
  refine px_if_neB dx_Mo_readFile_138 (fun c_138 => ?_) (fun c_138 => ?_)
  · refine px_aload_n dx_Mo_readFile_157 rfl ?_
    refine px_getI dx_Mo_readFile_158 fl_Mo_92 rfl (by decide) rfl ?_
    refine px_eqi (y := b2i (s1.2)) hR.2.2.1.2.2 ?_
    refine px_if_neB dx_Mo_readFile_161 (fun c_161 => ?_) (fun c_161 => ?_)
    · refine px_aload_n dx_Mo_readFile_185 rfl ?_
      refine px_aload_n dx_Mo_readFile_186 rfl ?_
      refine px_getI dx_Mo_readFile_187 fl_Mo_92 rfl (by decide) rfl ?_
      refine px_eqi (y := b2i (s1.2)) hR.2.2.1.2.2 ?_
      refine px_if_eqB dx_Mo_readFile_190 (fun c_190 => ?_) (fun c_190 => ?_)
      · refine px_iconst (v := -1) dx_Mo_readFile_200 rfl ?_
        refine px_putI dx_Mo_readFile_201 fl_Mo_13 rfl (by decide) rfl ?_
        exact px_vret dx_Mo_readFile_204 rfl (by (have e : rdE b n c s1 = s1 := by (have e0 : rdE0 n s1 = s1 := by (unfold rdE0; first | rw [if_neg (by omega)] | rw [if_neg (fun q => Bool.noConfusion (c_138.symm.trans q.1))])); unfold rdE; rw [e0]; first | rw [if_neg (fun q => Bool.noConfusion (c_161.symm.trans q.1))] | rw [if_neg (fun q => q.2 (lg_cmp_e hc (ckV_lt _ _) c_172))]); exact hp0 _ _ ⟨rfl, _, by rw [e]; exact hR, by rw [e]; unfold ilI; rw [if_neg (by first | (rw [c_190]; decide) | (intro q; exact Bool.noConfusion (c_190.symm.trans q)))]⟩)
      · refine px_aload_n dx_Mo_readFile_193 rfl ?_
        refine px_getI dx_Mo_readFile_194 fl_Mo_96 rfl (by decide) rfl ?_
        refine px_eqi (y := nI (s1.1)) hR.2.2.1.2.1 ?_
        refine px_goto dx_Mo_readFile_197 ?_
        refine px_putI dx_Mo_readFile_201 fl_Mo_13 rfl (by decide) rfl ?_
        exact px_vret dx_Mo_readFile_204 rfl (by (have e : rdE b n c s1 = s1 := by (have e0 : rdE0 n s1 = s1 := by (unfold rdE0; first | rw [if_neg (by omega)] | rw [if_neg (fun q => Bool.noConfusion (c_138.symm.trans q.1))])); unfold rdE; rw [e0]; first | rw [if_neg (fun q => Bool.noConfusion (c_161.symm.trans q.1))] | rw [if_neg (fun q => q.2 (lg_cmp_e hc (ckV_lt _ _) c_172))]); exact hp0 _ _ ⟨rfl, _, by rw [e]; exact hR, by rw [e]; unfold ilI; rw [if_pos (by first | exact c_190 | rfl)]⟩)
    · refine px_lload_n dx_Mo_readFile_164 rfl ?_
      refine px_aload_n dx_Mo_readFile_165 rfl ?_
      refine px_bipush (v := 8) dx_Mo_readFile_166 rfl ?_
      refine px_cV (Y := yy_Mo_readFile) (Yc := yy_Mo_checkOf) (b := 717) (As := [.int (8)]) dx_Mo_readFile_168 ml_Mo_117 mv_Mo_checkOf np_Mo_checkOf ⟨_, rfl⟩ (by decide) rfl (by decide) rfl (Nat.le_of_ble_eq_true rfl) (Nat.le_of_ble_eq_true rfl) rk_Mo_readFile_Mo_checkOf rfl (m_checkOf hR.1 hR.2.1) zz_0 ?_
      refine px_lcmp dx_Mo_readFile_171 ?_
      refine px_if_eq dx_Mo_readFile_172 (fun c_172 => ?_) (fun c_172 => ?_)
      · refine px_aload_n dx_Mo_readFile_185 rfl ?_
        refine px_aload_n dx_Mo_readFile_186 rfl ?_
        refine px_getI dx_Mo_readFile_187 fl_Mo_92 rfl (by decide) rfl ?_
        refine px_eqi (y := b2i (s1.2)) hR.2.2.1.2.2 ?_
        refine px_if_eqB dx_Mo_readFile_190 (fun c_190 => ?_) (fun c_190 => ?_)
        · refine px_iconst (v := -1) dx_Mo_readFile_200 rfl ?_
          refine px_putI dx_Mo_readFile_201 fl_Mo_13 rfl (by decide) rfl ?_
          exact px_vret dx_Mo_readFile_204 rfl (by (have e : rdE b n c s1 = s1 := by (have e0 : rdE0 n s1 = s1 := by (unfold rdE0; first | rw [if_neg (by omega)] | rw [if_neg (fun q => Bool.noConfusion (c_138.symm.trans q.1))])); unfold rdE; rw [e0]; first | rw [if_neg (fun q => Bool.noConfusion (c_161.symm.trans q.1))] | rw [if_neg (fun q => q.2 (lg_cmp_e hc (ckV_lt _ _) c_172))]); exact hp0 _ _ ⟨rfl, _, by rw [e]; exact hR, by rw [e]; unfold ilI; rw [if_neg (by first | (rw [c_190]; decide) | (intro q; exact Bool.noConfusion (c_190.symm.trans q)))]⟩)
        · refine px_aload_n dx_Mo_readFile_193 rfl ?_
          refine px_getI dx_Mo_readFile_194 fl_Mo_96 rfl (by decide) rfl ?_
          refine px_eqi (y := nI (s1.1)) hR.2.2.1.2.1 ?_
          refine px_goto dx_Mo_readFile_197 ?_
          refine px_putI dx_Mo_readFile_201 fl_Mo_13 rfl (by decide) rfl ?_
          exact px_vret dx_Mo_readFile_204 rfl (by (have e : rdE b n c s1 = s1 := by (have e0 : rdE0 n s1 = s1 := by (unfold rdE0; first | rw [if_neg (by omega)] | rw [if_neg (fun q => Bool.noConfusion (c_138.symm.trans q.1))])); unfold rdE; rw [e0]; first | rw [if_neg (fun q => Bool.noConfusion (c_161.symm.trans q.1))] | rw [if_neg (fun q => q.2 (lg_cmp_e hc (ckV_lt _ _) c_172))]); exact hp0 _ _ ⟨rfl, _, by rw [e]; exact hR, by rw [e]; unfold ilI; rw [if_pos (by first | exact c_190 | rfl)]⟩)
      · refine px_aload_n dx_Mo_readFile_175 rfl ?_
        refine px_iconst (v := 1) dx_Mo_readFile_176 rfl ?_
        refine px_putZ dx_Mo_readFile_177 fl_Mo_92 rfl (by decide) rfl (by decide) ?_
        obtain ⟨s_177, hs_177⟩ : ∃ X : PS, X = (s1.1, true) := ⟨_, rfl⟩
        have hR := RD.s hR (s' := s_177) (k := 5) (v := 1) (by rw [hs_177]; exact hR.2.2.1.1) (Or.inr ⟨rfl, by rw [hs_177]; rfl, by rw [hs_177]⟩)
        refine px_aload_n dx_Mo_readFile_180 rfl ?_
        refine px_iconst (v := 4) dx_Mo_readFile_181 rfl ?_
        refine px_putI dx_Mo_readFile_182 fl_Mo_96 rfl (by decide) rfl ?_
        obtain ⟨s_182, hs_182⟩ : ∃ X : PS, X = (4, true) := ⟨_, rfl⟩
        have hR := RD.s hR (s' := s_182) (k := 3) (v := nI 4) (by rw [hs_182]; decide) (Or.inl ⟨rfl, by rw [hs_182], by rw [hs_182, hs_177]⟩)
        refine px_aload_n dx_Mo_readFile_185 rfl ?_
        refine px_aload_n dx_Mo_readFile_186 rfl ?_
        refine px_getI dx_Mo_readFile_187 fl_Mo_92 rfl (by decide) rfl ?_
        refine px_eqi (y := b2i (s_182.2)) hR.2.2.1.2.2 ?_
        refine px_if_eqB dx_Mo_readFile_190 (fun c_190 => ?_) (fun c_190 => ?_)
        · exact Bool.noConfusion ((show s_182.2 = true by rw [hs_182]).symm.trans c_190)
        · refine px_aload_n dx_Mo_readFile_193 rfl ?_
          refine px_getI dx_Mo_readFile_194 fl_Mo_96 rfl (by decide) rfl ?_
          refine px_eqi (y := nI (s_182.1)) hR.2.2.1.2.1 ?_
          refine px_goto dx_Mo_readFile_197 ?_
          refine px_putI dx_Mo_readFile_201 fl_Mo_13 rfl (by decide) rfl ?_
          exact px_vret dx_Mo_readFile_204 rfl (by (have e : rdE b n c s1 = (4, true) := by first | exact Bool.noConfusion (c_138.symm.trans c_161) | skip; (have e0 : rdE0 n s1 = s1 := by (unfold rdE0; rw [if_neg (by omega)])); unfold rdE; rw [e0, if_pos ⟨c_161, fun q => c_172 (by rw [q]; exact lg_cmp_s _)⟩]); exact hp0 _ _ ⟨rfl, _, by rw [e]; rw [← hs_182]; exact hR, by rw [e]; unfold ilI; rw [if_pos (by first | exact c_190 | rfl)]; first | (rw [hs_182]; done) | (rw [hs_182]; rfl)⟩)
  · refine px_aload_n dx_Mo_readFile_141 rfl ?_
    refine px_getI dx_Mo_readFile_142 fl_Mo_96 rfl (by decide) rfl ?_
    refine px_eqi (y := nI (s1.1)) hR.2.2.1.2.1 ?_
    refine px_aload_n dx_Mo_readFile_145 rfl ?_
    refine px_getI dx_Mo_readFile_146 fl_Mo_89 rfl (by decide) rfl ?_
    refine px_eqi (y := nI (n)) hR.2.1.1 ?_
    refine px_icmp_geN (a := s1.1) (b := n) dx_Mo_readFile_149 (by omega) (by omega) (fun c_149 => ?_) (fun c_149 => ?_)
    · refine px_aload_n dx_Mo_readFile_157 rfl ?_
      refine px_getI dx_Mo_readFile_158 fl_Mo_92 rfl (by decide) rfl ?_
      refine px_eqi (y := b2i (s1.2)) hR.2.2.1.2.2 ?_
      refine px_if_neB dx_Mo_readFile_161 (fun c_161 => ?_) (fun c_161 => ?_)
      · refine px_aload_n dx_Mo_readFile_185 rfl ?_
        refine px_aload_n dx_Mo_readFile_186 rfl ?_
        refine px_getI dx_Mo_readFile_187 fl_Mo_92 rfl (by decide) rfl ?_
        refine px_eqi (y := b2i (s1.2)) hR.2.2.1.2.2 ?_
        refine px_if_eqB dx_Mo_readFile_190 (fun c_190 => ?_) (fun c_190 => ?_)
        · refine px_iconst (v := -1) dx_Mo_readFile_200 rfl ?_
          refine px_putI dx_Mo_readFile_201 fl_Mo_13 rfl (by decide) rfl ?_
          exact px_vret dx_Mo_readFile_204 rfl (by (have e : rdE b n c s1 = s1 := by (have e0 : rdE0 n s1 = s1 := by (unfold rdE0; first | rw [if_neg (by omega)] | rw [if_neg (fun q => Bool.noConfusion (c_138.symm.trans q.1))])); unfold rdE; rw [e0]; first | rw [if_neg (fun q => Bool.noConfusion (c_161.symm.trans q.1))] | rw [if_neg (fun q => q.2 (lg_cmp_e hc (ckV_lt _ _) c_172))]); exact hp0 _ _ ⟨rfl, _, by rw [e]; exact hR, by rw [e]; unfold ilI; rw [if_neg (by first | (rw [c_190]; decide) | (intro q; exact Bool.noConfusion (c_190.symm.trans q)))]⟩)
        · refine px_aload_n dx_Mo_readFile_193 rfl ?_
          refine px_getI dx_Mo_readFile_194 fl_Mo_96 rfl (by decide) rfl ?_
          refine px_eqi (y := nI (s1.1)) hR.2.2.1.2.1 ?_
          refine px_goto dx_Mo_readFile_197 ?_
          refine px_putI dx_Mo_readFile_201 fl_Mo_13 rfl (by decide) rfl ?_
          exact px_vret dx_Mo_readFile_204 rfl (by (have e : rdE b n c s1 = s1 := by (have e0 : rdE0 n s1 = s1 := by (unfold rdE0; first | rw [if_neg (by omega)] | rw [if_neg (fun q => Bool.noConfusion (c_138.symm.trans q.1))])); unfold rdE; rw [e0]; first | rw [if_neg (fun q => Bool.noConfusion (c_161.symm.trans q.1))] | rw [if_neg (fun q => q.2 (lg_cmp_e hc (ckV_lt _ _) c_172))]); exact hp0 _ _ ⟨rfl, _, by rw [e]; exact hR, by rw [e]; unfold ilI; rw [if_pos (by first | exact c_190 | rfl)]⟩)
      · refine px_lload_n dx_Mo_readFile_164 rfl ?_
        refine px_aload_n dx_Mo_readFile_165 rfl ?_
        refine px_bipush (v := 8) dx_Mo_readFile_166 rfl ?_
        refine px_cV (Y := yy_Mo_readFile) (Yc := yy_Mo_checkOf) (b := 717) (As := [.int (8)]) dx_Mo_readFile_168 ml_Mo_117 mv_Mo_checkOf np_Mo_checkOf ⟨_, rfl⟩ (by decide) rfl (by decide) rfl (Nat.le_of_ble_eq_true rfl) (Nat.le_of_ble_eq_true rfl) rk_Mo_readFile_Mo_checkOf rfl (m_checkOf hR.1 hR.2.1) zz_0 ?_
        refine px_lcmp dx_Mo_readFile_171 ?_
        refine px_if_eq dx_Mo_readFile_172 (fun c_172 => ?_) (fun c_172 => ?_)
        · refine px_aload_n dx_Mo_readFile_185 rfl ?_
          refine px_aload_n dx_Mo_readFile_186 rfl ?_
          refine px_getI dx_Mo_readFile_187 fl_Mo_92 rfl (by decide) rfl ?_
          refine px_eqi (y := b2i (s1.2)) hR.2.2.1.2.2 ?_
          refine px_if_eqB dx_Mo_readFile_190 (fun c_190 => ?_) (fun c_190 => ?_)
          · refine px_iconst (v := -1) dx_Mo_readFile_200 rfl ?_
            refine px_putI dx_Mo_readFile_201 fl_Mo_13 rfl (by decide) rfl ?_
            exact px_vret dx_Mo_readFile_204 rfl (by (have e : rdE b n c s1 = s1 := by (have e0 : rdE0 n s1 = s1 := by (unfold rdE0; first | rw [if_neg (by omega)] | rw [if_neg (fun q => Bool.noConfusion (c_138.symm.trans q.1))])); unfold rdE; rw [e0]; first | rw [if_neg (fun q => Bool.noConfusion (c_161.symm.trans q.1))] | rw [if_neg (fun q => q.2 (lg_cmp_e hc (ckV_lt _ _) c_172))]); exact hp0 _ _ ⟨rfl, _, by rw [e]; exact hR, by rw [e]; unfold ilI; rw [if_neg (by first | (rw [c_190]; decide) | (intro q; exact Bool.noConfusion (c_190.symm.trans q)))]⟩)
          · refine px_aload_n dx_Mo_readFile_193 rfl ?_
            refine px_getI dx_Mo_readFile_194 fl_Mo_96 rfl (by decide) rfl ?_
            refine px_eqi (y := nI (s1.1)) hR.2.2.1.2.1 ?_
            refine px_goto dx_Mo_readFile_197 ?_
            refine px_putI dx_Mo_readFile_201 fl_Mo_13 rfl (by decide) rfl ?_
            exact px_vret dx_Mo_readFile_204 rfl (by (have e : rdE b n c s1 = s1 := by (have e0 : rdE0 n s1 = s1 := by (unfold rdE0; first | rw [if_neg (by omega)] | rw [if_neg (fun q => Bool.noConfusion (c_138.symm.trans q.1))])); unfold rdE; rw [e0]; first | rw [if_neg (fun q => Bool.noConfusion (c_161.symm.trans q.1))] | rw [if_neg (fun q => q.2 (lg_cmp_e hc (ckV_lt _ _) c_172))]); exact hp0 _ _ ⟨rfl, _, by rw [e]; exact hR, by rw [e]; unfold ilI; rw [if_pos (by first | exact c_190 | rfl)]⟩)
        · refine px_aload_n dx_Mo_readFile_175 rfl ?_
          refine px_iconst (v := 1) dx_Mo_readFile_176 rfl ?_
          refine px_putZ dx_Mo_readFile_177 fl_Mo_92 rfl (by decide) rfl (by decide) ?_
          obtain ⟨s_177, hs_177⟩ : ∃ X : PS, X = (s1.1, true) := ⟨_, rfl⟩
          have hR := RD.s hR (s' := s_177) (k := 5) (v := 1) (by rw [hs_177]; exact hR.2.2.1.1) (Or.inr ⟨rfl, by rw [hs_177]; rfl, by rw [hs_177]⟩)
          refine px_aload_n dx_Mo_readFile_180 rfl ?_
          refine px_iconst (v := 4) dx_Mo_readFile_181 rfl ?_
          refine px_putI dx_Mo_readFile_182 fl_Mo_96 rfl (by decide) rfl ?_
          obtain ⟨s_182, hs_182⟩ : ∃ X : PS, X = (4, true) := ⟨_, rfl⟩
          have hR := RD.s hR (s' := s_182) (k := 3) (v := nI 4) (by rw [hs_182]; decide) (Or.inl ⟨rfl, by rw [hs_182], by rw [hs_182, hs_177]⟩)
          refine px_aload_n dx_Mo_readFile_185 rfl ?_
          refine px_aload_n dx_Mo_readFile_186 rfl ?_
          refine px_getI dx_Mo_readFile_187 fl_Mo_92 rfl (by decide) rfl ?_
          refine px_eqi (y := b2i (s_182.2)) hR.2.2.1.2.2 ?_
          refine px_if_eqB dx_Mo_readFile_190 (fun c_190 => ?_) (fun c_190 => ?_)
          · exact Bool.noConfusion ((show s_182.2 = true by rw [hs_182]).symm.trans c_190)
          · refine px_aload_n dx_Mo_readFile_193 rfl ?_
            refine px_getI dx_Mo_readFile_194 fl_Mo_96 rfl (by decide) rfl ?_
            refine px_eqi (y := nI (s_182.1)) hR.2.2.1.2.1 ?_
            refine px_goto dx_Mo_readFile_197 ?_
            refine px_putI dx_Mo_readFile_201 fl_Mo_13 rfl (by decide) rfl ?_
            exact px_vret dx_Mo_readFile_204 rfl (by (have e : rdE b n c s1 = (4, true) := by first | exact Bool.noConfusion (c_138.symm.trans c_161) | skip; (have e0 : rdE0 n s1 = s1 := by (unfold rdE0; rw [if_neg (by omega)])); unfold rdE; rw [e0, if_pos ⟨c_161, fun q => c_172 (by rw [q]; exact lg_cmp_s _)⟩]); exact hp0 _ _ ⟨rfl, _, by rw [e]; rw [← hs_182]; exact hR, by rw [e]; unfold ilI; rw [if_pos (by first | exact c_190 | rfl)]; first | (rw [hs_182]; done) | (rw [hs_182]; rfl)⟩)
    · refine px_aload_n dx_Mo_readFile_152 rfl ?_
      refine px_iconst (v := 1) dx_Mo_readFile_153 rfl ?_
      refine px_putZ dx_Mo_readFile_154 fl_Mo_92 rfl (by decide) rfl (by decide) ?_
      obtain ⟨s_154, hs_154⟩ : ∃ X : PS, X = (s1.1, true) := ⟨_, rfl⟩
      have hR := RD.s hR (s' := s_154) (k := 5) (v := 1) (by rw [hs_154]; exact hR.2.2.1.1) (Or.inr ⟨rfl, by rw [hs_154]; rfl, by rw [hs_154]⟩)
      refine px_aload_n dx_Mo_readFile_157 rfl ?_
      refine px_getI dx_Mo_readFile_158 fl_Mo_92 rfl (by decide) rfl ?_
      refine px_eqi (y := b2i (s_154.2)) hR.2.2.1.2.2 ?_
      refine px_if_neB dx_Mo_readFile_161 (fun c_161 => ?_) (fun c_161 => ?_)
      · refine px_aload_n dx_Mo_readFile_185 rfl ?_
        refine px_aload_n dx_Mo_readFile_186 rfl ?_
        refine px_getI dx_Mo_readFile_187 fl_Mo_92 rfl (by decide) rfl ?_
        refine px_eqi (y := b2i (s_154.2)) hR.2.2.1.2.2 ?_
        refine px_if_eqB dx_Mo_readFile_190 (fun c_190 => ?_) (fun c_190 => ?_)
        · exact Bool.noConfusion ((show s_154.2 = true by rw [hs_154]).symm.trans c_190)
        · refine px_aload_n dx_Mo_readFile_193 rfl ?_
          refine px_getI dx_Mo_readFile_194 fl_Mo_96 rfl (by decide) rfl ?_
          refine px_eqi (y := nI (s_154.1)) hR.2.2.1.2.1 ?_
          refine px_goto dx_Mo_readFile_197 ?_
          refine px_putI dx_Mo_readFile_201 fl_Mo_13 rfl (by decide) rfl ?_
          exact px_vret dx_Mo_readFile_204 rfl (by (have e : rdE b n c s1 = (s1.1, true) := by (have e0 : rdE0 n s1 = (s1.1, true) := by (unfold rdE0; rw [if_pos ⟨c_138, by omega⟩])); unfold rdE; rw [e0, if_neg (fun q => Bool.noConfusion q.1)]); exact hp0 _ _ ⟨rfl, _, by rw [e]; rw [← hs_154]; exact hR, by rw [e]; unfold ilI; rw [if_pos (by first | exact c_190 | rfl)]; first | (rw [hs_154]; done) | (rw [hs_154]; rfl)⟩)
      · exact Bool.noConfusion ((show s_154.2 = true by rw [hs_154]).symm.trans c_161)
set_option maxRecDepth 100000 in
set_option maxHeartbeats 1000000 in
theorem m_readFile_l2 {l : Launch} {G : fr_G} {σ : fr_S} {σ0 : fr_S} {b : Nat → Nat} {n c : Nat} {q : (Nat → Nat → Nat) × PS} (hcn : q.1 0 1 ≤ 4) {QF : List Frame → Array Value → State → State → Prop} (hq : ∀ σ', RD σ0 σ' b n (rdL b n q (q.1 0 1)).1 (rdL b n q (q.1 0 1)).2 → PX l G yy_Mo_readFile rm_Mo_readFile QF false 742 0 0 134 [(0, .ref 717), (1, .long (lN c))] [] σ') : ∀ (d : Nat) (k : Nat) (σ1 : fr_S) (F1 : Nat → Nat → Nat) (s1 : PS), q.1 0 1 - k < d → k ≤ q.1 0 1 → RD σ0 σ1 b n F1 s1 → rdL b n q k = (F1, s1) → PX l G yy_Mo_readFile rm_Mo_readFile QF false 742 0 0 104 [(0, .ref (717)), (1, .long (lN c)), (3, .int (nI (k)))] [] (σ1) := by
  intro d
  induction d with
  | zero => intro k σ1 F1 s1 hd; exact absurd hd (Nat.not_lt_zero _)
  | succ d ih =>
    intro k σ1 F1 s1 hd hk hR hE
    have hnb := hR.2.1.2.1
    have h3 : F1 0 1 = q.1 0 1 := by (have e := rdL_o (b := b) (n := n) (q := q) (a := 0) (y := 1) (by decide) k; rw [hE] at e; exact e)
    refine px_iload_n dx_Mo_readFile_104 rfl ?_
    refine px_aload_n dx_Mo_readFile_105 rfl ?_
    refine px_getR (r := 719) dx_Mo_readFile_106 fl_Mo_17 rfl (by decide) rfl (hR.1 6) ?_
    refine px_iconst (v := 1) dx_Mo_readFile_109 rfl ?_
    refine px_ialdN (j := 1) dx_Mo_readFile_110 rfl (by decide) (by decide) ?_
    refine px_eqi (y := nI (F1 0 1)) (hR.2.2.2.1 0 1 (by decide) (by first | decide | (show _ < 2; omega))) ?_
    refine px_icmp_geN (a := k) (b := F1 0 1) dx_Mo_readFile_111 (by omega) (by omega) (fun c_111 => ?_) (fun c_111 => ?_)
    · refine px_sub [0, 1] rfl ?_
      exact hq σ1 (by (have e : rdL b n q (q.1 0 1) = (F1, s1) := by first | ((have ek : k = q.1 0 1 := by omega); rw [← ek]; exact hE) | ((have ek : q.1 0 1 = k + (q.1 0 1 - k) := by omega); rw [ek, rdL_ill (by rw [hE]; exact c_118)]; exact hE)); rw [e]; exact hR)
    · refine px_aload_n dx_Mo_readFile_114 rfl ?_
      refine px_getI dx_Mo_readFile_115 fl_Mo_92 rfl (by decide) rfl ?_
      refine px_eqi (y := b2i (s1.2)) hR.2.2.1.2.2 ?_
      refine px_if_neB dx_Mo_readFile_118 (fun c_118 => ?_) (fun c_118 => ?_)
      · refine px_sub [0, 1] rfl ?_
        exact hq σ1 (by (have e : rdL b n q (q.1 0 1) = (F1, s1) := by first | ((have ek : k = q.1 0 1 := by omega); rw [← ek]; exact hE) | ((have ek : q.1 0 1 = k + (q.1 0 1 - k) := by omega); rw [ek, rdL_ill (by rw [hE]; exact c_118)]; exact hE)); rw [e]; exact hR)
      · refine px_aload_n dx_Mo_readFile_121 rfl ?_
        refine px_iconst (v := 4) dx_Mo_readFile_122 rfl ?_
        refine px_iload_n dx_Mo_readFile_123 rfl ?_
        refine px_iaddN (a := 4) (b := k) dx_Mo_readFile_124 ?_
        refine px_cVR (Y := yy_Mo_readFile) (Yc := yy_Mo_readMethod) (b := 717) (As := [.int (nI (4 + k))]) dx_Mo_readFile_125 ml_Mo_113 mv_Mo_readMethod np_Mo_readMethod ⟨_, rfl⟩ (by decide) rfl (by decide) rfl (Nat.le_of_ble_eq_true rfl) (Nat.le_of_ble_eq_true rfl) rk_Mo_readFile_Mo_readMethod rfl (m_readMethod (m := 4 + k) (by omega) hR) zz_0 (fun r_125 τ_125 h_125 => ?_)
        obtain ⟨rfl, hR⟩ := h_125
        refine px_iinc (v := (nI (k + 1))) (lv' := [(3, .int (nI (k + 1))), (0, .ref (717)), (1, .long (lN c))]) dx_Mo_readFile_128 rfl (nI_1 _) (by decide) rfl ?_
        refine px_goto dx_Mo_readFile_131 ?_
        refine px_sub [1, 2, 0] rfl ?_
        exact ih (k + 1) τ_125 _ _ (by omega) (by omega) hR (by (show (if (rdL b n q k).2.2 = true then _ else _) = _); rw [hE, if_neg (fun h => Bool.noConfusion (c_118.symm.trans h))])
def rdG (b : Nat → Nat) (n c : Nat) (F : Nat → Nat → Nat) (s : PS) : (Nat → Nat → Nat) × PS :=
  ((rdL b n (uf (uf F 0 1 (nx b n 1 4 0 s).1) 1 1 (nx b n 0 4 0 (nx b n 1 4 0 s).2).1, (nx b n 0 4 0 (nx b n 1 4 0 s).2).2) (nx b n 1 4 0 s).1).1, rdE b n c (rdL b n (uf (uf F 0 1 (nx b n 1 4 0 s).1) 1 1 (nx b n 0 4 0 (nx b n 1 4 0 s).2).1, (nx b n 0 4 0 (nx b n 1 4 0 s).2).2) (nx b n 1 4 0 s).1).2)

set_option maxRecDepth 100000 in
set_option maxHeartbeats 1000000 in
theorem m_readFile_m {l : Launch} {G : fr_G} {σ0 σ : fr_S} {b : Nat → Nat} {n c : Nat} {F : Nat → Nat → Nat} {s : PS} (hc : c < 2 ^ 32) (hR : RD σ0 σ b n F s) {Post : Option Value → fr_S → Prop} (hp0 : ∀ r σ', (fun r0 σ' => r0 = none ∧ ∃ τ, RD σ0 τ b n (rdG b n c F s).1 (rdG b n c F s).2 ∧ σ' = sI τ 717 4 (ilI (rdG b n c F s).2)) r σ' → Post r σ') : PX l G yy_Mo_readFile rm_Mo_readFile (QR G false 742 0 0 Post) false 742 0 0 78 [(0, .ref 717), (1, .long (lN c))] [] σ := by
  have hnb := hR.2.1.2.1
  refine px_aload_n dx_Mo_readFile_78 rfl ?_
  refine px_getR (r := 719) dx_Mo_readFile_79 fl_Mo_17 rfl (by decide) rfl (hR.1 6) ?_
  refine px_iconst (v := 1) dx_Mo_readFile_82 rfl ?_
  refine px_aload_n dx_Mo_readFile_83 rfl ?_
  refine px_iconst (v := 1) dx_Mo_readFile_84 rfl ?_
  refine px_iconst (v := 4) dx_Mo_readFile_85 rfl ?_
  obtain ⟨x_86, hx_86⟩ : ∃ x, x = nx b n (1) (4) 0 s := ⟨_, rfl⟩
  have hb_86 : x_86.1 ≤ 4 := hx_86 ▸ nx_le (Nat.zero_le _)
  refine px_cVR (Y := yy_Mo_readFile) (Yc := yy_Mo_next) (b := 717) (As := [.int (1), .int (4)]) dx_Mo_readFile_86 ml_Mo_103 mv_Mo_next np_Mo_next ⟨_, rfl⟩ (by decide) rfl (by decide) rfl (Nat.le_of_ble_eq_true rfl) (Nat.le_of_ble_eq_true rfl) rk_Mo_readFile_Mo_next rfl (m_nextx (lo := 1) (hi := 4) hR (by decide) (by decide) hx_86) zz_0 (fun r_86 τ_86 h_86 => ?_)
  obtain ⟨rfl, hR⟩ := h_86
  refine px_iastN (j := 1) dx_Mo_readFile_89 rfl (by decide) (by decide) ?_
  obtain ⟨F_89, hF_89⟩ : ∃ X, X = uf F 0 1 (x_86.1) := ⟨_, rfl⟩
  have hR := hF_89 ▸ RD.w hR (a := 0) (k := 1) (v := (x_86.1)) (by decide) (by show _ ≤ 4; omega)
  refine px_aload_n dx_Mo_readFile_90 rfl ?_
  refine px_getR (r := 720) dx_Mo_readFile_91 fl_Mo_20 rfl (by decide) rfl (hR.1 7) ?_
  refine px_iconst (v := 1) dx_Mo_readFile_94 rfl ?_
  refine px_aload_n dx_Mo_readFile_95 rfl ?_
  refine px_iconst (v := 0) dx_Mo_readFile_96 rfl ?_
  refine px_iconst (v := 4) dx_Mo_readFile_97 rfl ?_
  obtain ⟨x_98, hx_98⟩ : ∃ x, x = nx b n (0) (4) 0 x_86.2 := ⟨_, rfl⟩
  have hb_98 : x_98.1 ≤ 4 := hx_98 ▸ nx_le (Nat.zero_le _)
  refine px_cVR (Y := yy_Mo_readFile) (Yc := yy_Mo_next) (b := 717) (As := [.int (0), .int (4)]) dx_Mo_readFile_98 ml_Mo_103 mv_Mo_next np_Mo_next ⟨_, rfl⟩ (by decide) rfl (by decide) rfl (Nat.le_of_ble_eq_true rfl) (Nat.le_of_ble_eq_true rfl) rk_Mo_readFile_Mo_next rfl (m_nextx (lo := 0) (hi := 4) hR (by decide) (by decide) hx_98) zz_0 (fun r_98 τ_98 h_98 => ?_)
  obtain ⟨rfl, hR⟩ := h_98
  refine px_iastN (j := 1) dx_Mo_readFile_101 rfl (by decide) (by decide) ?_
  obtain ⟨F_101, hF_101⟩ : ∃ X, X = uf F_89 1 1 (x_98.1) := ⟨_, rfl⟩
  have hR := hF_101 ▸ RD.w hR (a := 1) (k := 1) (v := (x_98.1)) (by decide) (by show _ ≤ 4; omega)
  refine px_iconst (v := 0) dx_Mo_readFile_102 rfl ?_
  refine px_istore_n (lv' := [(3, .int (0)), (0, .ref (717)), (1, .long (lN c))]) dx_Mo_readFile_103 (by decide) rfl ?_
  refine px_sub [1, 2, 0] rfl ?_
  have e0 : F_101 0 1 = x_86.1 := by rw [hF_101, uf_n (Or.inl (by decide)), hF_89, uf_s]
  have eG : rdG b n c F s = ((rdL b n (F_101, x_98.2) (F_101 0 1)).1, rdE b n c (rdL b n (F_101, x_98.2) (F_101 0 1)).2) := by (rw [e0]; simp only [rdG, ← hx_86, ← hx_98, ← hF_89, ← hF_101])
  exact m_readFile_l2 (σ := σ0) (q := (F_101, x_98.2)) (by show F_101 0 1 ≤ 4; omega) (fun σ' h => m_readFile_e hc h (fun r σ'' hh => hp0 r σ'' (by rw [eG]; exact hh))) (F_101 0 1 + 1) 0 (sI τ_98 720 1 (nI (x_98.1))) F_101 x_98.2 (by show F_101 0 1 - 0 < _; omega) (Nat.zero_le _) hR rfl
set_option maxRecDepth 100000 in
set_option maxHeartbeats 1000000 in
theorem m_readFile_l1 {l : Launch} {G : fr_G} {σ : fr_S} {σ0 : fr_S} {b : Nat → Nat} {n : Nat} {F : Nat → Nat → Nat} {s : PS} {QF : List Frame → Array Value → State → State → Prop} (hq : ∀ σ' c s', rdC b n s 4 = (c, s') → c < 256 ^ 4 → RD σ0 σ' b n F s' → PX l G yy_Mo_readFile rm_Mo_readFile QF false 742 0 0 78 [(0, .ref 717), (1, .long (lN c))] [] σ') : ∀ (d : Nat) (k : Nat) (c : Nat) (σ1 : fr_S) (s1 : PS), 4 - k < d → k ≤ 4 → RD σ0 σ1 b n F s1 → rdC b n s k = (c, s1) → c < 256 ^ k → PX l G yy_Mo_readFile rm_Mo_readFile QF false 742 0 0 50 [(0, .ref (717)), (1, .long (lN c)), (3, .int (nI (k)))] [] (σ1) := by
  intro d
  induction d with
  | zero => intro k c σ1 s1 hd; exact absurd hd (Nat.not_lt_zero _)
  | succ d ih =>
    intro k c σ1 s1 hd hk hR hE hc
    have hnb := hR.2.1.2.1
    refine px_iload_n dx_Mo_readFile_50 rfl ?_
    refine px_iconst (v := 4) dx_Mo_readFile_51 rfl ?_
    refine px_icmp_geN (a := k) (b := 4) dx_Mo_readFile_52 (by omega) (by omega) (fun c_52 => ?_) (fun c_52 => ?_)
    · refine px_sub [0, 1] rfl ?_
      obtain rfl : k = 4 := by omega
      exact hq σ1 c s1 hE hc hR
    · refine px_lload_n dx_Mo_readFile_55 rfl ?_
      refine px_aload_n dx_Mo_readFile_56 rfl ?_
      refine px_iconst (v := 0) dx_Mo_readFile_57 rfl ?_
      refine px_sipush (v := 255) dx_Mo_readFile_58 rfl ?_
      obtain ⟨x_61, hx_61⟩ : ∃ x, x = nx b n (0) (255) 0 s1 := ⟨_, rfl⟩
      have hb_61 : x_61.1 ≤ 255 := hx_61 ▸ nx_le (Nat.zero_le _)
      refine px_cVR (Y := yy_Mo_readFile) (Yc := yy_Mo_next) (b := 717) (As := [.int (0), .int (255)]) dx_Mo_readFile_61 ml_Mo_103 mv_Mo_next np_Mo_next ⟨_, rfl⟩ (by decide) rfl (by decide) rfl (Nat.le_of_ble_eq_true rfl) (Nat.le_of_ble_eq_true rfl) rk_Mo_readFile_Mo_next rfl (m_nextx (lo := 0) (hi := 255) hR (by decide) (by decide) hx_61) zz_0 (fun r_61 τ_61 h_61 => ?_)
      obtain ⟨rfl, hR⟩ := h_61
      refine px_i2l dx_Mo_readFile_64 ?_
      refine px_bipush (v := 8) dx_Mo_readFile_65 rfl ?_
      refine px_iload_n dx_Mo_readFile_67 rfl ?_
      refine px_imulN (a := 8) (b := k) dx_Mo_readFile_68 ?_
      refine px_lshl dx_Mo_readFile_69 ?_
      refine px_lor dx_Mo_readFile_70 ?_
      refine px_eql (y := lN (c + x_61.1 * 256 ^ k)) (lor_8 (by omega) hc (by omega)) ?_
      refine px_lstore_n (lv' := [(1, .long (lN (c + x_61.1 * 256 ^ k))), (0, .ref (717)), (3, .int (nI (k)))]) dx_Mo_readFile_71 (by decide) rfl ?_
      refine px_iinc (v := (nI (k + 1))) (lv' := [(3, .int (nI (k + 1))), (1, .long (lN (c + x_61.1 * 256 ^ k))), (0, .ref (717))]) dx_Mo_readFile_72 rfl (nI_1 _) (by decide) rfl ?_
      refine px_goto dx_Mo_readFile_75 ?_
      refine px_sub [2, 1, 0] rfl ?_
      exact ih (k + 1) (c + x_61.1 * 256 ^ k) τ_61 x_61.2 (by omega) (by omega) hR (by simp only [rdC, hE, ← hx_61]) (by (rw [Nat.pow_succ]; have h1 : x_61.1 * 256 ^ k ≤ 255 * 256 ^ k := Nat.mul_le_mul_right _ hb_61; omega))
theorem rdF_G {b : Nat → Nat} {n : Nat} {F : Nat → Nat → Nat} {c : Nat} {s : PS} (h : rdC b n (rdH b n) 4 = (c, s)) : rdF b n F = rdG b n c F s := by
  unfold rdF rdG
  rw [h]

set_option maxRecDepth 100000 in
set_option maxHeartbeats 1000000 in
theorem m_readFile {l : Launch} {G : fr_G} {σ : fr_S} (hM : MR σ) {b : Nat → Nat} {n : Nat} {F : Nat → Nat → Nat} (hB : MB σ b n) (hF : MF8 σ F) (hW : FW8 F) : CR l G yy_Mo_readFile rm_Mo_readFile [.ref (717)] σ (fun r0 σ' => r0 = none ∧ ∃ τ, RD σ τ b n (rdF b n F).1 (rdF b n F).2 ∧ σ' = sI τ 717 4 (ilI (rdF b n F).2)) := by
  intro Post hp0
  show PX l G yy_Mo_readFile rm_Mo_readFile _ false 742 0 0 0 [(0, .ref (717))] [] σ
  refine px_aload_n dx_Mo_readFile_0 rfl ?_
  refine px_iconst (v := 0) dx_Mo_readFile_1 rfl ?_
  refine px_putI dx_Mo_readFile_2 fl_Mo_96 rfl (by decide) rfl ?_
  refine px_aload_n dx_Mo_readFile_5 rfl ?_
  refine px_iconst (v := 0) dx_Mo_readFile_6 rfl ?_
  refine px_putZ dx_Mo_readFile_7 fl_Mo_92 rfl (by decide) rfl (by decide) ?_
  have hR : RD σ (sI (sI σ 717 3 0) 717 5 0) b n F (0, false) := RD.i hM hB hF hW
  refine px_aload_n dx_Mo_readFile_10 rfl ?_
  refine px_bipush (v := 100) dx_Mo_readFile_11 rfl ?_
  refine px_bipush (v := 100) dx_Mo_readFile_13 rfl ?_
  obtain ⟨x_15, hx_15⟩ : ∃ x, x = nx b n (100) (100) 0 (0, false) := ⟨_, rfl⟩
  have hb_15 : x_15.1 ≤ 100 := hx_15 ▸ nx_le (Nat.zero_le _)
  refine px_cVR (Y := yy_Mo_readFile) (Yc := yy_Mo_next) (b := 717) (As := [.int (100), .int (100)]) dx_Mo_readFile_15 ml_Mo_103 mv_Mo_next np_Mo_next ⟨_, rfl⟩ (by decide) rfl (by decide) rfl (Nat.le_of_ble_eq_true rfl) (Nat.le_of_ble_eq_true rfl) rk_Mo_readFile_Mo_next rfl (m_nextx (lo := 100) (hi := 100) hR (by decide) (by decide) hx_15) zz_0 (fun r_15 τ_15 h_15 => ?_)
  obtain ⟨rfl, hR⟩ := h_15
  refine px_pop dx_Mo_readFile_18 rfl ?_
  refine px_aload_n dx_Mo_readFile_19 rfl ?_
  refine px_bipush (v := 101) dx_Mo_readFile_20 rfl ?_
  refine px_bipush (v := 101) dx_Mo_readFile_22 rfl ?_
  obtain ⟨x_24, hx_24⟩ : ∃ x, x = nx b n (101) (101) 0 x_15.2 := ⟨_, rfl⟩
  have hb_24 : x_24.1 ≤ 101 := hx_24 ▸ nx_le (Nat.zero_le _)
  refine px_cVR (Y := yy_Mo_readFile) (Yc := yy_Mo_next) (b := 717) (As := [.int (101), .int (101)]) dx_Mo_readFile_24 ml_Mo_103 mv_Mo_next np_Mo_next ⟨_, rfl⟩ (by decide) rfl (by decide) rfl (Nat.le_of_ble_eq_true rfl) (Nat.le_of_ble_eq_true rfl) rk_Mo_readFile_Mo_next rfl (m_nextx (lo := 101) (hi := 101) hR (by decide) (by decide) hx_24) zz_0 (fun r_24 τ_24 h_24 => ?_)
  obtain ⟨rfl, hR⟩ := h_24
  refine px_pop dx_Mo_readFile_27 rfl ?_
  refine px_aload_n dx_Mo_readFile_28 rfl ?_
  refine px_bipush (v := 120) dx_Mo_readFile_29 rfl ?_
  refine px_bipush (v := 120) dx_Mo_readFile_31 rfl ?_
  obtain ⟨x_33, hx_33⟩ : ∃ x, x = nx b n (120) (120) 0 x_24.2 := ⟨_, rfl⟩
  have hb_33 : x_33.1 ≤ 120 := hx_33 ▸ nx_le (Nat.zero_le _)
  refine px_cVR (Y := yy_Mo_readFile) (Yc := yy_Mo_next) (b := 717) (As := [.int (120), .int (120)]) dx_Mo_readFile_33 ml_Mo_103 mv_Mo_next np_Mo_next ⟨_, rfl⟩ (by decide) rfl (by decide) rfl (Nat.le_of_ble_eq_true rfl) (Nat.le_of_ble_eq_true rfl) rk_Mo_readFile_Mo_next rfl (m_nextx (lo := 120) (hi := 120) hR (by decide) (by decide) hx_33) zz_0 (fun r_33 τ_33 h_33 => ?_)
  obtain ⟨rfl, hR⟩ := h_33
  refine px_pop dx_Mo_readFile_36 rfl ?_
  refine px_aload_n dx_Mo_readFile_37 rfl ?_
  refine px_bipush (v := 10) dx_Mo_readFile_38 rfl ?_
  refine px_bipush (v := 10) dx_Mo_readFile_40 rfl ?_
  obtain ⟨x_42, hx_42⟩ : ∃ x, x = nx b n (10) (10) 0 x_33.2 := ⟨_, rfl⟩
  have hb_42 : x_42.1 ≤ 10 := hx_42 ▸ nx_le (Nat.zero_le _)
  refine px_cVR (Y := yy_Mo_readFile) (Yc := yy_Mo_next) (b := 717) (As := [.int (10), .int (10)]) dx_Mo_readFile_42 ml_Mo_103 mv_Mo_next np_Mo_next ⟨_, rfl⟩ (by decide) rfl (by decide) rfl (Nat.le_of_ble_eq_true rfl) (Nat.le_of_ble_eq_true rfl) rk_Mo_readFile_Mo_next rfl (m_nextx (lo := 10) (hi := 10) hR (by decide) (by decide) hx_42) zz_0 (fun r_42 τ_42 h_42 => ?_)
  obtain ⟨rfl, hR⟩ := h_42
  refine px_pop dx_Mo_readFile_45 rfl ?_
  refine px_lconst (v := 0) dx_Mo_readFile_46 rfl ?_
  refine px_lstore_n (lv' := [(1, .long (0)), (0, .ref (717))]) dx_Mo_readFile_47 (by decide) rfl ?_
  refine px_iconst (v := 0) dx_Mo_readFile_48 rfl ?_
  refine px_istore_n (lv' := [(3, .int (0)), (1, .long (0)), (0, .ref (717))]) dx_Mo_readFile_49 (by decide) rfl ?_
  refine px_sub [2, 1, 0] rfl ?_
  have eH : rdH b n = x_42.2 := by simp only [rdH, ← hx_15, ← hx_24, ← hx_33, ← hx_42]
  exact m_readFile_l1 (σ := σ) (s := x_42.2) (fun σ' c s' e hc h => m_readFile_m (by omega) h (fun r σ'' hh => hp0 r σ'' (by rw [rdF_G (c := c) (s := s') (by rw [eH]; exact e)]; exact hh))) 5 0 0 τ_42 x_42.2 (by omega) (Nat.zero_le _) hR rfl (by decide)
