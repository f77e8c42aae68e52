/-! the reference: a file that was read is kept, and its methods are verified -/
def KD (σ0 σ : fr_S) (F : Nat → Nat → Nat) : Prop := MR σ ∧ MF8 σ F ∧ FW8 F ∧ Ag [719, 720, 721, 722, 723, 724, 725, 726] σ0 σ
theorem KD.w {σ0 σ : fr_S} {F : Nat → Nat → Nat} (h : KD σ0 σ F) {a k v : Nat} (ha : a < 8) (hv : v ≤ bnd a) : KD σ0 (sI σ (719 + a) k (nI v)) (uf F a k v) := by
  obtain ⟨h1, h2, h3, h4⟩ := h
  refine ⟨h1, h2.w, h3.w hv, ag_sI h4 ?_⟩
  have : a = 0 ∨ a = 1 ∨ a = 2 ∨ a = 3 ∨ a = 4 ∨ a = 5 ∨ a = 6 ∨ a = 7 := by omega
  rcases this with rfl | rfl | rfl | rfl | rfl | rfl | rfl | rfl <;> decide
/-- one entry is taken from where the file was read to -/
def ku (F : Nat → Nat → Nat) (a o k : Nat) : Nat → Nat → Nat := uf F a k (F a (k + o))
def kst (F : Nat → Nat → Nat) (k : Nat) : Nat → Nat → Nat := ku (ku (ku (ku F 2 4 k) 3 4 k) 5 4 k) 6 4 k
def kc4 (F : Nat → Nat → Nat) : Nat → Nat → Nat → Nat
  | 0 => F
  | k + 1 => kst (kc4 F k) k
def kc1 (F : Nat → Nat → Nat) (a o : Nat) : Nat → Nat → Nat → Nat
  | 0 => F
  | k + 1 => ku (kc1 F a o k) a o k
def kpF (F : Nat → Nat → Nat) : Nat → Nat → Nat := kc1 (kc1 (kc4 (ku (ku F 0 1 0) 1 1 0) 4) 4 12 12) 7 160 160
/-- what verifying has found of a method -/
def MVd (σ : fr_S) (F : Nat → Nat → Nat) (m : Nat) : Prop := gI σ 727 m = fif F (bgF F m) m 40 0 none ∧ (∀ j, j < 40 → gI σ 729 (40 * m + j) = b2i (bgF F m j)) ∧ (fif F (bgF F m) m 40 0 none = -1 → TY σ m (vrR F m).1.1 ∧ RC σ m (vrR F m).1.2.1 ∧ gI σ 728 m = bfI (vrR F m).2) ∧ (fif F (bgF F m) m 40 0 none ≠ -1 → gI σ 728 m = -1)
theorem MVd.vx {σ σ' : fr_S} {F : Nat → Nat → Nat} {m m' : Nat} (h : MVd σ F m') (a : VX σ σ' m) (hne : m' ≠ m) : MVd σ' F m' := by
  obtain ⟨a1, a2, a3, a4, a5, a6⟩ := a
  obtain ⟨h1, h2, h3, h4⟩ := h
  refine ⟨(a3 m' hne).1.trans h1, fun j hj => (a4 _ (by omega)).trans (h2 j hj), fun e => ?_, fun e => (a3 m' hne).2.trans (h4 e)⟩
  obtain ⟨q1, q2, q3⟩ := h3 e
  exact ⟨fun p hp r hr => (a6 _ (by omega)).trans (q1 p hp r hr), fun p hp => (a5 _ (by omega)).trans (q2 p hp), (a3 m' hne).2.trans q3⟩
theorem MVd.ag {σ σ' : fr_S} {F : Nat → Nat → Nat} {m : Nat} (h : MVd σ F m) (e : ∀ o, 727 ≤ o → o ≤ 731 → ∀ k, gI σ' o k = gI σ o k) : MVd σ' F m := by
  obtain ⟨h1, h2, h3, h4⟩ := h
  refine ⟨(e 727 (by decide) (by decide) _).trans h1, fun j hj => (e 729 (by decide) (by decide) _).trans (h2 j hj), fun q => ?_, fun q => (e 728 (by decide) (by decide) _).trans (h4 q)⟩
  obtain ⟨q1, q2, q3⟩ := h3 q
  exact ⟨fun p hp r hr => (e 731 (by decide) (by decide) _).trans (q1 p hp r hr), fun p hp => (e 730 (by decide) (by decide) _).trans (q2 p hp), (e 728 (by decide) (by decide) _).trans q3⟩
/-- the machine rests -/
def idS (σ : fr_S) (s : Int32) : fr_S := sD (sL (sI (sI (sI σ 717 26 s) 717 27 0) 717 32 0) 717 33 0) 717 34 0

set_option maxRecDepth 100000 in
set_option maxHeartbeats 1000000 in
theorem m_idle {l : Launch} {G : fr_G} {σ : fr_S} {x : Int32} : CT l G yy_Mo_idle rm_Mo_idle [.ref (717), .int (x)] σ none (idS σ x) := by
  intro Post hp0
  have hp := hp0
  show PX l G yy_Mo_idle rm_Mo_idle _ false 742 0 0 0 [(0, .ref (717)), (1, .int (x))] [] σ
  refine px_aload_n dx_Mo_idle_0 rfl ?_
  refine px_iload_n dx_Mo_idle_1 rfl ?_
  refine px_putI dx_Mo_idle_2 fl_Mo_127 rfl (by decide) rfl ?_
  refine px_aload_n dx_Mo_idle_5 rfl ?_
  refine px_iconst (v := 0) dx_Mo_idle_6 rfl ?_
  refine px_putI dx_Mo_idle_7 fl_Mo_130 rfl (by decide) rfl ?_
  refine px_aload_n dx_Mo_idle_10 rfl ?_
  refine px_iconst (v := 0) dx_Mo_idle_11 rfl ?_
  refine px_putI dx_Mo_idle_12 fl_Mo_133 rfl (by decide) rfl ?_
  refine px_aload_n dx_Mo_idle_15 rfl ?_
  refine px_lconst (v := 0) dx_Mo_idle_16 rfl ?_
  refine px_putL dx_Mo_idle_17 fl_Mo_136 rfl (by decide) rfl ?_
  refine px_aload_n dx_Mo_idle_20 rfl ?_
  refine px_dconst0 dx_Mo_idle_21 ?_
  refine px_putD dx_Mo_idle_22 fl_Mo_140 rfl (by decide) rfl ?_
  exact px_vret dx_Mo_idle_25 rfl (by exact hp)
set_option maxRecDepth 100000 in
set_option maxHeartbeats 1000000 in
theorem m_keepFile_l5 {l : Launch} {G : fr_G} {σ : fr_S} {σ0 : fr_S} {F : Nat → Nat → Nat} (hW : FW8 F) {Post : Option Value → fr_S → Prop} (hp0 : ∀ r σ', (fun r0 σ' => r0 = none ∧ ∃ τ, MR τ ∧ MF8 τ F ∧ FW8 F ∧ (∀ m, m < F 0 0 → MVd τ F m) ∧ (∃ c, gI τ 717 20 = b2i c) ∧ (∀ k, k < 4 → gI τ 740 k = 0) ∧ Ag [717, 719, 720, 721, 722, 723, 724, 725, 726, 727, 728, 729, 730, 731, 732, 740] σ0 τ ∧ (∀ k, k ≠ 20 → k ≠ 21 → gI τ 717 k = gI σ0 717 k) ∧ σ' = idS τ 0) r σ' → Post r σ') : ∀ (d : Nat) (j : Nat) (σ1 : fr_S), 4 - j < d → j ≤ 4 → MR σ1 → MF8 σ1 F → (∀ m, m < F 0 0 → MVd σ1 F m) → (∃ c, gI σ1 717 20 = b2i c) → Ag [717, 719, 720, 721, 722, 723, 724, 725, 726, 727, 728, 729, 730, 731, 732, 740] σ0 σ1 → (∀ k, k ≠ 20 → k ≠ 21 → gI σ1 717 k = gI σ0 717 k) → (∀ k, k < 4 → k < j → gI σ1 740 k = 0) → PX l G yy_Mo_keepFile rm_Mo_keepFile (QR G false 742 0 0 Post) false 742 0 0 178 [(0, .ref (717)), (1, .int (nI (j)))] [] (σ1) := by
  intro d
  induction d with
  | zero => intro j σ1 hd; exact absurd hd (Nat.not_lt_zero _)
  | succ d ih =>
    intro j σ1 hd hj hM hF hV hC hA hK hZ
    refine px_iload_n dx_Mo_keepFile_178 rfl ?_
    refine px_iconst (v := 4) dx_Mo_keepFile_179 rfl ?_
    refine px_icmp_geN (a := j) (b := 4) dx_Mo_keepFile_180 (by omega) (by omega) (fun c_180 => ?_) (fun c_180 => ?_)
    · refine px_aload_n dx_Mo_keepFile_196 rfl ?_
      refine px_iconst (v := 0) dx_Mo_keepFile_197 rfl ?_
      refine px_cV (Y := yy_Mo_keepFile) (Yc := yy_Mo_idle) (b := 717) (As := [.int (0)]) dx_Mo_keepFile_198 ml_Mo_124 mv_Mo_idle np_Mo_idle ⟨_, rfl⟩ (by decide) rfl (by decide) rfl (Nat.le_of_ble_eq_true rfl) (Nat.le_of_ble_eq_true rfl) rk_Mo_keepFile_Mo_idle rfl (m_idle (x := 0)) zz_0 ?_
      exact px_vret dx_Mo_keepFile_201 rfl (by exact hp0 _ _ ⟨rfl, σ1, hM, hF, hW, hV, hC, fun k hk => hZ k hk (by omega), hA, hK, rfl⟩)
    · refine px_aload_n dx_Mo_keepFile_183 rfl ?_
      refine px_getR (r := 740) dx_Mo_keepFile_184 fl_Mo_83 rfl (by decide) rfl (hM 35) ?_
      refine px_iload_n dx_Mo_keepFile_187 rfl ?_
      refine px_iconst (v := 0) dx_Mo_keepFile_188 rfl ?_
      refine px_iastN (j := j) dx_Mo_keepFile_189 rfl (by decide) (by omega) ?_
      refine px_iinc (v := (nI (j + 1))) (lv' := [(1, .int (nI (j + 1))), (0, .ref (717))]) dx_Mo_keepFile_190 rfl (nI_1 _) (by decide) rfl ?_
      refine px_goto dx_Mo_keepFile_193 ?_
      refine px_sub [1, 0] rfl ?_
      exact ih (j + 1) (sI σ1 740 j 0) (by omega) (by omega) hM (hF.o (S := [740]) (ag_sI Ag.rf (by decide)) (fun o _ _ => by simp; omega)) (fun m hm => (hV m hm).ag fun o h1 h2 k => gI_n (Or.inl (by omega))) (by obtain ⟨c, hc⟩ := hC; exact ⟨c, (gI_n (Or.inl (by decide))).trans hc⟩) (ag_sI hA (by decide)) (fun k h1 h2 => (gI_n (Or.inl (by decide))).trans (hK k h1 h2)) (fun k hk hkj => if h : k = j then (by subst h; exact gI_s) else (gI_n (Or.inr h)).trans (hZ k hk (by omega)))
set_option maxRecDepth 100000 in
set_option maxHeartbeats 1000000 in
theorem m_keepFile_l4 {l : Launch} {G : fr_G} {σ : fr_S} {σ0 : fr_S} {F : Nat → Nat → Nat} (hW : FW8 F) (hFP : FP F) (hQ : ∀ m, m < F 0 0 → pwF F m ≤ F 5 m) {Post : Option Value → fr_S → Prop} (hp0 : ∀ r σ', (fun r0 σ' => r0 = none ∧ ∃ τ, MR τ ∧ MF8 τ F ∧ FW8 F ∧ (∀ m, m < F 0 0 → MVd τ F m) ∧ (∃ c, gI τ 717 20 = b2i c) ∧ (∀ k, k < 4 → gI τ 740 k = 0) ∧ Ag [717, 719, 720, 721, 722, 723, 724, 725, 726, 727, 728, 729, 730, 731, 732, 740] σ0 τ ∧ (∀ k, k ≠ 20 → k ≠ 21 → gI τ 717 k = gI σ0 717 k) ∧ σ' = idS τ 0) r σ' → Post r σ') : ∀ (d : Nat) (m : Nat) (σ1 : fr_S), F 0 0 - m < d → m ≤ F 0 0 → MR σ1 → MF8 σ1 F → (∀ q, q < m → MVd σ1 F q) → (∃ c, gI σ1 717 20 = b2i c) → Ag [717, 719, 720, 721, 722, 723, 724, 725, 726, 727, 728, 729, 730, 731, 732, 740] σ0 σ1 → (∀ k, k ≠ 20 → k ≠ 21 → gI σ1 717 k = gI σ0 717 k) → PX l G yy_Mo_keepFile rm_Mo_keepFile (QR G false 742 0 0 Post) false 742 0 0 155 [(0, .ref (717)), (1, .int (nI (m)))] [] (σ1) := by
  intro d
  induction d with
  | zero => intro m σ1 hd; exact absurd hd (Nat.not_lt_zero _)
  | succ d ih =>
    intro m σ1 hd hm hM hF hV hC hA hK
    obtain ⟨c, hc⟩ := id hC
    have h4 := hW 0 0
    have h4b : bnd 0 = 4 := rfl
    refine px_iload_n dx_Mo_keepFile_155 rfl ?_
    refine px_aload_n dx_Mo_keepFile_156 rfl ?_
    refine px_getR (r := 719) dx_Mo_keepFile_157 fl_Mo_17 rfl (by decide) rfl (hM 6) ?_
    refine px_iconst (v := 0) dx_Mo_keepFile_160 rfl ?_
    refine px_ialdN (j := 0) dx_Mo_keepFile_161 rfl (by decide) (by decide) ?_
    refine px_eqi (y := nI (F 0 0)) (hF 0 0 (by decide) (by decide)) ?_
    refine px_icmp_geN (a := m) (b := F 0 0) dx_Mo_keepFile_162 (by omega) (by omega) (fun c_162 => ?_) (fun c_162 => ?_)
    · refine px_iconst (v := 0) dx_Mo_keepFile_176 rfl ?_
      refine px_istore_n (lv' := [(1, .int (0)), (0, .ref (717))]) dx_Mo_keepFile_177 (by decide) rfl ?_
      refine px_sub [1, 0] rfl ?_
      exact m_keepFile_l5 (σ := σ) (σ0 := σ0) hW hp0 5 0 σ1 (by omega) (Nat.zero_le _) hM hF (fun q hq => hV q (by omega)) hC hA hK (fun k _ h => absurd h (Nat.not_lt_zero _))
    · refine px_aload_n dx_Mo_keepFile_165 rfl ?_
      refine px_iload_n dx_Mo_keepFile_166 rfl ?_
      refine px_cVR (Y := yy_Mo_keepFile) (Yc := yy_Mo_verifyMethod) (b := 717) (As := [.int (nI (m))]) dx_Mo_keepFile_167 ml_Mo_121 mv_Mo_verifyMethod np_Mo_verifyMethod ⟨_, rfl⟩ (by decide) rfl (by decide) rfl (Nat.le_of_ble_eq_true rfl) (Nat.le_of_ble_eq_true rfl) rk_Mo_keepFile_Mo_verifyMethod rfl (m_verifyMethod hM hF.mf hW.fw hFP (by omega) (hQ m (by omega)) hc) zz_0 (fun r_167 τ1 h_167 => ?_)
      obtain ⟨rfl, hM2, hX, hv1, hv2, hv3, hv4, hc2⟩ := h_167
      refine px_iinc (v := (nI (m + 1))) (lv' := [(1, .int (nI (m + 1))), (0, .ref (717))]) dx_Mo_keepFile_170 rfl (nI_1 _) (by decide) rfl ?_
      refine px_goto dx_Mo_keepFile_173 ?_
      refine px_sub [1, 0] rfl ?_
      exact ih (m + 1) τ1 (by omega) (by omega) hM2 (hF.o hX.1 (fun o _ _ => by simp; omega)) (fun q hq => if h : q = m then (by subst h; exact ⟨hv1, hv2, hv3, hv4⟩) else (hV q (by omega)).vx hX h) hc2 (hA.tr (hX.1.mono (by decide))) (fun k h1 h2 => (hX.2.1 k h1 h2).trans (hK k h1 h2))
set_option maxRecDepth 100000 in
set_option maxHeartbeats 1000000 in
theorem m_keepFile_l3 {l : Launch} {G : fr_G} {σ : fr_S} {σ0 : fr_S} {F : Nat → Nat → Nat} {QF : List Frame → Array Value → State → State → Prop} (hq : ∀ σ', KD σ0 σ' (kc1 F 7 160 160) → PX l G yy_Mo_keepFile rm_Mo_keepFile QF false 742 0 0 153 [(0, .ref 717), (1, .int (nI 160))] [] σ') : ∀ (d : Nat) (j : Nat) (σ1 : fr_S) (F1 : Nat → Nat → Nat), 160 - j < d → j ≤ 160 → KD σ0 σ1 F1 → kc1 F 7 160 j = F1 → PX l G yy_Mo_keepFile rm_Mo_keepFile QF false 742 0 0 124 [(0, .ref (717)), (1, .int (nI (j)))] [] (σ1) := by
  intro d
  induction d with
  | zero => intro j σ1 F1 hd; exact absurd hd (Nat.not_lt_zero _)
  | succ d ih =>
    intro j σ1 F1 hd hj hK hE
    refine px_iload_n dx_Mo_keepFile_124 rfl ?_
    refine px_sipush (v := 160) dx_Mo_keepFile_125 rfl ?_
    refine px_icmp_geN (a := j) (b := 160) dx_Mo_keepFile_128 (by omega) (by omega) (fun c_128 => ?_) (fun c_128 => ?_)
    · obtain rfl : j = 160 := by omega
      exact hq σ1 (by rw [hE]; exact hK)
    · refine px_aload_n dx_Mo_keepFile_131 rfl ?_
      refine px_getR (r := 726) dx_Mo_keepFile_132 fl_Mo_38 rfl (by decide) rfl (hK.1 13) ?_
      refine px_iload_n dx_Mo_keepFile_135 rfl ?_
      refine px_aload_n dx_Mo_keepFile_136 rfl ?_
      refine px_getR (r := 726) dx_Mo_keepFile_137 fl_Mo_38 rfl (by decide) rfl (hK.1 13) ?_
      refine px_iload_n dx_Mo_keepFile_140 rfl ?_
      refine px_sipush (v := 160) dx_Mo_keepFile_141 rfl ?_
      refine px_iaddN (a := j) (b := 160) dx_Mo_keepFile_144 ?_
      refine px_ialdN (j := j + 160) dx_Mo_keepFile_145 rfl (by decide) (by first | decide | omega) ?_
      refine px_eqi (y := nI (F1 7 (j + 160))) (hK.2.1 7 (j + 160) (by decide) (by first | decide | (show _ < 320; omega))) ?_
      refine px_iastN (j := j) dx_Mo_keepFile_146 rfl (by decide) (by first | decide | omega) ?_
      obtain ⟨F_146, hF_146⟩ : ∃ X, X = uf F1 7 j (F1 7 (j + 160)) := ⟨_, rfl⟩
      have hK := hF_146 ▸ KD.w hK (a := 7) (k := j) (v := F1 7 (j + 160)) (by decide) (hK.2.2.1 _ _)
      refine px_iinc (v := (nI (j + 1))) (lv' := [(1, .int (nI (j + 1))), (0, .ref (717))]) dx_Mo_keepFile_147 rfl (nI_1 _) (by decide) rfl ?_
      refine px_goto dx_Mo_keepFile_150 ?_
      refine px_sub [1, 0] rfl ?_
      exact ih (j + 1) (sI σ1 726 j (nI (F1 7 (j + 160)))) F_146 (by omega) (by omega) hK (by (show ku (kc1 F 7 160 j) 7 160 j = _); rw [hE]; simp only [ku, ← hF_146])
set_option maxRecDepth 100000 in
set_option maxHeartbeats 1000000 in
theorem m_keepFile_l2 {l : Launch} {G : fr_G} {σ : fr_S} {σ0 : fr_S} {F : Nat → Nat → Nat} {QF : List Frame → Array Value → State → State → Prop} (hq : ∀ σ', KD σ0 σ' (kc1 F 4 12 12) → PX l G yy_Mo_keepFile rm_Mo_keepFile QF false 742 0 0 122 [(0, .ref 717), (1, .int (nI 12))] [] σ') : ∀ (d : Nat) (j : Nat) (σ1 : fr_S) (F1 : Nat → Nat → Nat), 12 - j < d → j ≤ 12 → KD σ0 σ1 F1 → kc1 F 4 12 j = F1 → PX l G yy_Mo_keepFile rm_Mo_keepFile QF false 742 0 0 95 [(0, .ref (717)), (1, .int (nI (j)))] [] (σ1) := by
  intro d
  induction d with
  | zero => intro j σ1 F1 hd; exact absurd hd (Nat.not_lt_zero _)
  | succ d ih =>
    intro j σ1 F1 hd hj hK hE
    refine px_iload_n dx_Mo_keepFile_95 rfl ?_
    refine px_bipush (v := 12) dx_Mo_keepFile_96 rfl ?_
    refine px_icmp_geN (a := j) (b := 12) dx_Mo_keepFile_98 (by omega) (by omega) (fun c_98 => ?_) (fun c_98 => ?_)
    · obtain rfl : j = 12 := by omega
      exact hq σ1 (by rw [hE]; exact hK)
    · refine px_aload_n dx_Mo_keepFile_101 rfl ?_
      refine px_getR (r := 723) dx_Mo_keepFile_102 fl_Mo_29 rfl (by decide) rfl (hK.1 10) ?_
      refine px_iload_n dx_Mo_keepFile_105 rfl ?_
      refine px_aload_n dx_Mo_keepFile_106 rfl ?_
      refine px_getR (r := 723) dx_Mo_keepFile_107 fl_Mo_29 rfl (by decide) rfl (hK.1 10) ?_
      refine px_iload_n dx_Mo_keepFile_110 rfl ?_
      refine px_bipush (v := 12) dx_Mo_keepFile_111 rfl ?_
      refine px_iaddN (a := j) (b := 12) dx_Mo_keepFile_113 ?_
      refine px_ialdN (j := j + 12) dx_Mo_keepFile_114 rfl (by decide) (by first | decide | omega) ?_
      refine px_eqi (y := nI (F1 4 (j + 12))) (hK.2.1 4 (j + 12) (by decide) (by first | decide | (show _ < 24; omega))) ?_
      refine px_iastN (j := j) dx_Mo_keepFile_115 rfl (by decide) (by first | decide | omega) ?_
      obtain ⟨F_115, hF_115⟩ : ∃ X, X = uf F1 4 j (F1 4 (j + 12)) := ⟨_, rfl⟩
      have hK := hF_115 ▸ KD.w hK (a := 4) (k := j) (v := F1 4 (j + 12)) (by decide) (hK.2.2.1 _ _)
      refine px_iinc (v := (nI (j + 1))) (lv' := [(1, .int (nI (j + 1))), (0, .ref (717))]) dx_Mo_keepFile_116 rfl (nI_1 _) (by decide) rfl ?_
      refine px_goto dx_Mo_keepFile_119 ?_
      refine px_sub [1, 0] rfl ?_
      exact ih (j + 1) (sI σ1 723 j (nI (F1 4 (j + 12)))) F_115 (by omega) (by omega) hK (by (show ku (kc1 F 4 12 j) 4 12 j = _); rw [hE]; simp only [ku, ← hF_115])
set_option maxRecDepth 100000 in
set_option maxHeartbeats 1000000 in
theorem m_keepFile_l1 {l : Launch} {G : fr_G} {σ : fr_S} {σ0 : fr_S} {F : Nat → Nat → Nat} {QF : List Frame → Array Value → State → State → Prop} (hq : ∀ σ', KD σ0 σ' (kc4 F 4) → PX l G yy_Mo_keepFile rm_Mo_keepFile QF false 742 0 0 93 [(0, .ref 717), (1, .int (nI 4))] [] σ') : ∀ (d : Nat) (j : Nat) (σ1 : fr_S) (F1 : Nat → Nat → Nat), 4 - j < d → j ≤ 4 → KD σ0 σ1 F1 → kc4 F j = F1 → PX l G yy_Mo_keepFile rm_Mo_keepFile QF false 742 0 0 26 [(0, .ref (717)), (1, .int (nI (j)))] [] (σ1) := by
  intro d
  induction d with
  | zero => intro j σ1 F1 hd; exact absurd hd (Nat.not_lt_zero _)
  | succ d ih =>
    intro j σ1 F1 hd hj hK hE
    refine px_iload_n dx_Mo_keepFile_26 rfl ?_
    refine px_iconst (v := 4) dx_Mo_keepFile_27 rfl ?_
    refine px_icmp_geN (a := j) (b := 4) dx_Mo_keepFile_28 (by omega) (by omega) (fun c_28 => ?_) (fun c_28 => ?_)
    · obtain rfl : j = 4 := by omega
      exact hq σ1 (by rw [hE]; exact hK)
    · refine px_aload_n dx_Mo_keepFile_31 rfl ?_
      refine px_getR (r := 721) dx_Mo_keepFile_32 fl_Mo_23 rfl (by decide) rfl (hK.1 8) ?_
      refine px_iload_n dx_Mo_keepFile_35 rfl ?_
      refine px_aload_n dx_Mo_keepFile_36 rfl ?_
      refine px_getR (r := 721) dx_Mo_keepFile_37 fl_Mo_23 rfl (by decide) rfl (hK.1 8) ?_
      refine px_iload_n dx_Mo_keepFile_40 rfl ?_
      refine px_iconst (v := 4) dx_Mo_keepFile_41 rfl ?_
      refine px_iaddN (a := j) (b := 4) dx_Mo_keepFile_42 ?_
      refine px_ialdN (j := j + 4) dx_Mo_keepFile_43 rfl (by decide) (by first | decide | omega) ?_
      refine px_eqi (y := nI (F1 2 (j + 4))) (hK.2.1 2 (j + 4) (by decide) (by first | decide | (show _ < 8; omega))) ?_
      refine px_iastN (j := j) dx_Mo_keepFile_44 rfl (by decide) (by first | decide | omega) ?_
      obtain ⟨F_44, hF_44⟩ : ∃ X, X = uf F1 2 j (F1 2 (j + 4)) := ⟨_, rfl⟩
      have hK := hF_44 ▸ KD.w hK (a := 2) (k := j) (v := F1 2 (j + 4)) (by decide) (hK.2.2.1 _ _)
      refine px_aload_n dx_Mo_keepFile_45 rfl ?_
      refine px_getR (r := 722) dx_Mo_keepFile_46 fl_Mo_26 rfl (by decide) rfl (hK.1 9) ?_
      refine px_iload_n dx_Mo_keepFile_49 rfl ?_
      refine px_aload_n dx_Mo_keepFile_50 rfl ?_
      refine px_getR (r := 722) dx_Mo_keepFile_51 fl_Mo_26 rfl (by decide) rfl (hK.1 9) ?_
      refine px_iload_n dx_Mo_keepFile_54 rfl ?_
      refine px_iconst (v := 4) dx_Mo_keepFile_55 rfl ?_
      refine px_iaddN (a := j) (b := 4) dx_Mo_keepFile_56 ?_
      refine px_ialdN (j := j + 4) dx_Mo_keepFile_57 rfl (by decide) (by first | decide | omega) ?_
      refine px_eqi (y := nI (F_44 3 (j + 4))) (hK.2.1 3 (j + 4) (by decide) (by first | decide | (show _ < 8; omega))) ?_
      refine px_iastN (j := j) dx_Mo_keepFile_58 rfl (by decide) (by first | decide | omega) ?_
      obtain ⟨F_58, hF_58⟩ : ∃ X, X = uf F_44 3 j (F_44 3 (j + 4)) := ⟨_, rfl⟩
      have hK := hF_58 ▸ KD.w hK (a := 3) (k := j) (v := F_44 3 (j + 4)) (by decide) (hK.2.2.1 _ _)
      refine px_aload_n dx_Mo_keepFile_59 rfl ?_
      refine px_getR (r := 724) dx_Mo_keepFile_60 fl_Mo_32 rfl (by decide) rfl (hK.1 11) ?_
      refine px_iload_n dx_Mo_keepFile_63 rfl ?_
      refine px_aload_n dx_Mo_keepFile_64 rfl ?_
      refine px_getR (r := 724) dx_Mo_keepFile_65 fl_Mo_32 rfl (by decide) rfl (hK.1 11) ?_
      refine px_iload_n dx_Mo_keepFile_68 rfl ?_
      refine px_iconst (v := 4) dx_Mo_keepFile_69 rfl ?_
      refine px_iaddN (a := j) (b := 4) dx_Mo_keepFile_70 ?_
      refine px_ialdN (j := j + 4) dx_Mo_keepFile_71 rfl (by decide) (by first | decide | omega) ?_
      refine px_eqi (y := nI (F_58 5 (j + 4))) (hK.2.1 5 (j + 4) (by decide) (by first | decide | (show _ < 8; omega))) ?_
      refine px_iastN (j := j) dx_Mo_keepFile_72 rfl (by decide) (by first | decide | omega) ?_
      obtain ⟨F_72, hF_72⟩ : ∃ X, X = uf F_58 5 j (F_58 5 (j + 4)) := ⟨_, rfl⟩
      have hK := hF_72 ▸ KD.w hK (a := 5) (k := j) (v := F_58 5 (j + 4)) (by decide) (hK.2.2.1 _ _)
      refine px_aload_n dx_Mo_keepFile_73 rfl ?_
      refine px_getR (r := 725) dx_Mo_keepFile_74 fl_Mo_35 rfl (by decide) rfl (hK.1 12) ?_
      refine px_iload_n dx_Mo_keepFile_77 rfl ?_
      refine px_aload_n dx_Mo_keepFile_78 rfl ?_
      refine px_getR (r := 725) dx_Mo_keepFile_79 fl_Mo_35 rfl (by decide) rfl (hK.1 12) ?_
      refine px_iload_n dx_Mo_keepFile_82 rfl ?_
      refine px_iconst (v := 4) dx_Mo_keepFile_83 rfl ?_
      refine px_iaddN (a := j) (b := 4) dx_Mo_keepFile_84 ?_
      refine px_ialdN (j := j + 4) dx_Mo_keepFile_85 rfl (by decide) (by first | decide | omega) ?_
      refine px_eqi (y := nI (F_72 6 (j + 4))) (hK.2.1 6 (j + 4) (by decide) (by first | decide | (show _ < 8; omega))) ?_
      refine px_iastN (j := j) dx_Mo_keepFile_86 rfl (by decide) (by first | decide | omega) ?_
      obtain ⟨F_86, hF_86⟩ : ∃ X, X = uf F_72 6 j (F_72 6 (j + 4)) := ⟨_, rfl⟩
      have hK := hF_86 ▸ KD.w hK (a := 6) (k := j) (v := F_72 6 (j + 4)) (by decide) (hK.2.2.1 _ _)
      refine px_iinc (v := (nI (j + 1))) (lv' := [(1, .int (nI (j + 1))), (0, .ref (717))]) dx_Mo_keepFile_87 rfl (nI_1 _) (by decide) rfl ?_
      refine px_goto dx_Mo_keepFile_90 ?_
      refine px_sub [1, 0] rfl ?_
      exact ih (j + 1) (sI (sI (sI (sI σ1 721 j (nI (F1 2 (j + 4)))) 722 j (nI (F_44 3 (j + 4)))) 724 j (nI (F_58 5 (j + 4)))) 725 j (nI (F_72 6 (j + 4)))) F_86 (by omega) (by omega) hK (by (show kst (kc4 F j) j = _); rw [hE]; simp only [kst, ku, ← hF_44, ← hF_58, ← hF_72, ← hF_86])
set_option maxRecDepth 100000 in
set_option maxHeartbeats 1000000 in
theorem m_keepFile {l : Launch} {G : fr_G} {σ : fr_S} {F : Nat → Nat → Nat} (hM : MR σ) (hF : MF8 σ F) (hW : FW8 F) (hFP : FP (kpF F)) (hQ : ∀ m, m < kpF F 0 0 → pwF (kpF F) m ≤ kpF F 5 m) (hC : ∃ c, gI σ 717 20 = b2i c) : CR l G yy_Mo_keepFile rm_Mo_keepFile [.ref (717)] σ (fun r0 σ' => r0 = none ∧ ∃ τ, MR τ ∧ MF8 τ (kpF F) ∧ FW8 (kpF F) ∧ (∀ m, m < kpF F 0 0 → MVd τ (kpF F) m) ∧ (∃ c, gI τ 717 20 = b2i c) ∧ (∀ k, k < 4 → gI τ 740 k = 0) ∧ Ag [717, 719, 720, 721, 722, 723, 724, 725, 726, 727, 728, 729, 730, 731, 732, 740] σ τ ∧ (∀ k, k ≠ 20 → k ≠ 21 → gI τ 717 k = gI σ 717 k) ∧ σ' = idS τ 0) := by
  intro Post hp0
  show PX l G yy_Mo_keepFile rm_Mo_keepFile _ false 742 0 0 0 [(0, .ref (717))] [] σ
  have hK : KD σ σ F := ⟨hM, hF, hW, Ag.rf⟩
  refine px_aload_n dx_Mo_keepFile_0 rfl ?_
  refine px_getR (r := 719) dx_Mo_keepFile_1 fl_Mo_17 rfl (by decide) rfl (hK.1 6) ?_
  refine px_iconst (v := 0) dx_Mo_keepFile_4 rfl ?_
  refine px_aload_n dx_Mo_keepFile_5 rfl ?_
  refine px_getR (r := 719) dx_Mo_keepFile_6 fl_Mo_17 rfl (by decide) rfl (hK.1 6) ?_
  refine px_iconst (v := 1) dx_Mo_keepFile_9 rfl ?_
  refine px_ialdN (j := 1) dx_Mo_keepFile_10 rfl (by decide) (by decide) ?_
  refine px_eqi (y := nI (F 0 1)) (hK.2.1 0 1 (by decide) (by first | decide | (show _ < 2; omega))) ?_
  refine px_iastN (j := 0) dx_Mo_keepFile_11 rfl (by decide) (by decide) ?_
  obtain ⟨F_11, hF_11⟩ : ∃ X, X = uf F 0 0 (F 0 1) := ⟨_, rfl⟩
  have hK := hF_11 ▸ KD.w hK (a := 0) (k := 0) (v := F 0 1) (by decide) (hK.2.2.1 _ _)
  refine px_aload_n dx_Mo_keepFile_12 rfl ?_
  refine px_getR (r := 720) dx_Mo_keepFile_13 fl_Mo_20 rfl (by decide) rfl (hK.1 7) ?_
  refine px_iconst (v := 0) dx_Mo_keepFile_16 rfl ?_
  refine px_aload_n dx_Mo_keepFile_17 rfl ?_
  refine px_getR (r := 720) dx_Mo_keepFile_18 fl_Mo_20 rfl (by decide) rfl (hK.1 7) ?_
  refine px_iconst (v := 1) dx_Mo_keepFile_21 rfl ?_
  refine px_ialdN (j := 1) dx_Mo_keepFile_22 rfl (by decide) (by decide) ?_
  refine px_eqi (y := nI (F_11 1 1)) (hK.2.1 1 1 (by decide) (by first | decide | (show _ < 2; omega))) ?_
  refine px_iastN (j := 0) dx_Mo_keepFile_23 rfl (by decide) (by decide) ?_
  obtain ⟨F_23, hF_23⟩ : ∃ X, X = uf F_11 1 0 (F_11 1 1) := ⟨_, rfl⟩
  have hK := hF_23 ▸ KD.w hK (a := 1) (k := 0) (v := F_11 1 1) (by decide) (hK.2.2.1 _ _)
  refine px_iconst (v := 0) dx_Mo_keepFile_24 rfl ?_
  refine px_istore_n (lv' := [(1, .int (0)), (0, .ref (717))]) dx_Mo_keepFile_25 (by decide) rfl ?_
  refine px_sub [1, 0] rfl ?_
  have e0 : F_23 = ku (ku F 0 1 0) 1 1 0 := by simp only [ku, ← hF_11, ← hF_23]
  rw [e0] at hK
  refine m_keepFile_l1 (σ := σ) (fun σ1 h1 => ?_) 5 0 _ _ (by omega) (Nat.zero_le _) hK rfl
  refine px_iconst (v := 0) dx_Mo_keepFile_93 rfl ?_
  refine px_istore_n (lv' := [(1, .int 0), (0, .ref 717)]) dx_Mo_keepFile_94 (by decide) rfl ?_
  refine px_sub [1, 0] rfl ?_
  refine m_keepFile_l2 (σ := σ) (fun σ2 h2 => ?_) 13 0 _ _ (by omega) (Nat.zero_le _) h1 rfl
  refine px_iconst (v := 0) dx_Mo_keepFile_122 rfl ?_
  refine px_istore_n (lv' := [(1, .int 0), (0, .ref 717)]) dx_Mo_keepFile_123 (by decide) rfl ?_
  refine px_sub [1, 0] rfl ?_
  refine m_keepFile_l3 (σ := σ) (fun σ3 h3 => ?_) 161 0 _ _ (by omega) (Nat.zero_le _) h2 rfl
  refine px_iconst (v := 0) dx_Mo_keepFile_153 rfl ?_
  refine px_istore_n (lv' := [(1, .int 0), (0, .ref 717)]) dx_Mo_keepFile_154 (by decide) rfl ?_
  refine px_sub [1, 0] rfl ?_
  exact m_keepFile_l4 (σ := σ) (σ0 := σ) (F := kpF F) h3.2.2.1 hFP hQ hp0 (kpF F 0 0 + 1) 0 σ3 (by omega) (Nat.zero_le _) h3.1 h3.2.1 (fun q hq => absurd hq (Nat.not_lt_zero _)) (by obtain ⟨c, hc⟩ := hC; exact ⟨c, (h3.2.2.2.1 717 (by decide) 20).trans hc⟩) (h3.2.2.2.mono (by decide)) (fun k _ _ => h3.2.2.2.1 717 (by decide) k)
