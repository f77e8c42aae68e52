/-! the reference: files are loaded and sealed -/
theorem rdM_k {b : Nat → Nat} {n m : Nat} {F : Nat → Nat → Nat} {s : PS} {a y : Nat} (hm : 4 ≤ m) (h : (a = 0 ∧ y = 0) ∨ (a = 1 ∧ y = 0) ∨ ((a = 2 ∨ a = 3 ∨ a = 5 ∨ a = 6) ∧ y < 4) ∨ (a = 4 ∧ y < 12) ∨ (a = 7 ∧ y < 160)) : (rdM b n m F s).1 a y = F a y := rdM_ot a y (by omega)
theorem rdL_k {b : Nat → Nat} {n : Nat} {q : (Nat → Nat → Nat) × PS} {a y : Nat} (h : (a = 0 ∧ y = 0) ∨ (a = 1 ∧ y = 0) ∨ ((a = 2 ∨ a = 3 ∨ a = 5 ∨ a = 6) ∧ y < 4) ∨ (a = 4 ∧ y < 12) ∨ (a = 7 ∧ y < 160)) : ∀ k, (rdL b n q k).1 a y = q.1 a y
  | 0 => rfl
  | k + 1 => by
    show (if (rdL b n q k).2.2 = true then rdL b n q k else _).1 a y = _
    split
    · exact rdL_k h k
    · rw [rdM_k (by omega) h]
      exact rdL_k h k
theorem rdF_k {b : Nat → Nat} {n : Nat} {F : Nat → Nat → Nat} {a y : Nat} (h : (a = 0 ∧ y = 0) ∨ (a = 1 ∧ y = 0) ∨ ((a = 2 ∨ a = 3 ∨ a = 5 ∨ a = 6) ∧ y < 4) ∨ (a = 4 ∧ y < 12) ∨ (a = 7 ∧ y < 160)) : (rdF b n F).1 a y = F a y := by
  show (rdL b n _ _).1 a y = _
  rw [rdL_k h]
  dsimp only
  rw [uf_n (by omega), uf_n (by omega)]
theorem rdF_eq {b : Nat → Nat} {n : Nat} {F : Nat → Nat → Nat} (hW : FW F) : EqF F (rdF b n F).1 := by
  refine ⟨rdF_k (by omega), rdF_k (by omega), fun m hm => ?_⟩
  have h4 := hW.1
  have h3 := hW.2.2.2.1 m
  have h6 := hW.2.2.2.2.2.2.1 m
  exact ⟨rdF_k (by omega), rdF_k (by omega), rdF_k (by omega), rdF_k (by omega), fun k hk => rdF_k (by omega), fun j hj => rdF_k (by omega)⟩
theorem EqF.fv {F F' : Nat → Nat → Nat} (h : EqF F F') (v : FV F) : FV F' := by
  obtain ⟨v1, v2, v3⟩ := v
  refine ⟨fun c j hc hj => ?_, fun m hm => ?_, fun m hm => ?_⟩
  · have q := h.2.2 c (h.1 ▸ hc)
    rw [q.2.2.2.2.1 j (q.2.1 ▸ hj)]
    exact v1 c j (h.1 ▸ hc) (q.2.1 ▸ hj)
  · have hm' := h.1 ▸ hm
    rw [h.pw hm', (h.2.2 m hm').2.2.1]
    exact v2 m hm'
  · have hm' := h.1 ▸ hm
    rw [(h.2.2 m hm').2.2.2.1]
    exact v3 m hm'
/-- a file that is ill was read -/
theorem RP.ill {σ τ : fr_S} {b : Nat → Nat} {n : Nat} {pl : Int32} {F : Nat → Nat → Nat} {a : AV} {A : VM} (h : RP σ b n pl F a A) {s : PS} (q : RD σ τ b n (rdF b n F).1 s) {x : Int32} : RP (sI (sI (sI τ 717 4 x) 717 1 0) 717 0 1) b 0 x (rdF b n F).1 a A := by
  obtain ⟨⟨b1, b2, b3, b4⟩, r, p, ⟨f, fw, v, mv⟩, ⟨c, hc⟩, ⟨a1, a2, a3, a4, a5, a6⟩, ⟨m1, m2, m3, m4, m5, m6, m7, m8, m9, m10⟩, ab⟩ := h
  obtain ⟨q1, q2, -, q4, q5, q6, q7⟩ := q
  have e := rdF_eq (b := b) (n := n) fw.fw
  have k1 : ∀ o, 717 ≤ o → o ≠ 717 → ∀ k, gI (sI (sI (sI τ 717 4 x) 717 1 0) 717 0 1) o k = gI τ o k := fun o _ h k => (gI_n (Or.inl h)).trans ((gI_n (Or.inl h)).trans (gI_n (Or.inl h)))
  have k2 : ∀ k, k ≠ 4 → k ≠ 1 → k ≠ 0 → gI (sI (sI (sI τ 717 4 x) 717 1 0) 717 0 1) 717 k = gI τ 717 k := fun k h1 h2 h3 => (gI_n (Or.inr h3)).trans ((gI_n (Or.inr h2)).trans (gI_n (Or.inr h1)))
  have g : ∀ o, 727 ≤ o → ∀ k, gI τ o k = gI σ o k := fun o ho k => q6.1 o (by simp [fL]; omega) k
  have gl : ∀ o k, gL τ o k = gL σ o k := fun o k => by unfold gL; rw [q6.2]
  have gd : ∀ o k, gD τ o k = gD σ o k := fun o k => by unfold gD; rw [q6.2]
  have g7 : ∀ k, k ≠ 3 → k ≠ 5 → gI τ 717 k = gI σ 717 k := q7
  refine ⟨⟨(gI_n (Or.inr (by decide))).trans gI_s, Nat.zero_le _, fun k hk => (k1 718 (by decide) (by decide) k).trans (q2.2.2.1 k hk), b4⟩, q1, (gI_n (Or.inr (by decide))).trans ((gI_n (Or.inr (by decide))).trans gI_s), ⟨fun y k hy hk => (k1 _ (by omega) (by omega) k).trans (q4 y k hy hk), q5, e.fv v, fun m hm => (MVd.eq e fw.fw (e.1 ▸ hm)).mpr ((mv m (e.1 ▸ hm)).ag fun o h1 h2 k => (k1 o (by omega) (by omega) k).trans (g o (by omega) k))⟩, ⟨c, (k2 20 (by decide) (by decide) (by decide)).trans ((g7 20 (by decide) (by decide)).trans hc)⟩,
    ⟨(k2 22 (by decide) (by decide) (by decide)).trans ((g7 22 (by decide) (by decide)).trans a1), a2, fun k hk => (k1 _ (by decide) (by decide) k).trans ((g _ (by decide) k).trans (a3 k hk)), a4, fun k hk => (gl _ k).trans (a5 k hk), fun k hk => (gd _ k).trans (a6 k hk)⟩,
    ⟨(k2 26 (by decide) (by decide) (by decide)).trans ((g7 26 (by decide) (by decide)).trans m1), (k2 27 (by decide) (by decide) (by decide)).trans ((g7 27 (by decide) (by decide)).trans m2), fun k hk => (k1 _ (by decide) (by decide) k).trans ((g _ (by decide) k).trans (m3 k hk)), fun k hk => (k1 _ (by decide) (by decide) k).trans ((g _ (by decide) k).trans (m4 k hk)), (k2 32 (by decide) (by decide) (by decide)).trans ((g7 32 (by decide) (by decide)).trans m5), fun k hk => (gl _ k).trans (m6 k hk), (gl _ _).trans m7, fun k hk => (gd _ k).trans (m8 k hk), (gd _ _).trans m9, fun k hk => (k1 _ (by decide) (by decide) k).trans ((g _ (by decide) k).trans (m10 k hk))⟩, ab⟩
/-- the machine when a file was loaded -/
def ldA (A : VM) : VM := idA (A.1, A.2.1, A.2.2.1, fun _ => 0) 0
def kL : List Nat := [717, 719, 720, 721, 722, 723, 724, 725, 726, 727, 728, 729, 730, 731, 732, 740]
/-- a file was read and kept -/
theorem RP.keep {σ τ : fr_S} {b : Nat → Nat} {n : Nat} {pl x : Int32} {F F2 : Nat → Nat → Nat} {a : AV} {A : VM} (h : RP σ b n pl F a A) (hc : ∃ c, gI τ 717 20 = b2i c) (g : ∀ o, o ∉ kL → ∀ k, gI τ o k = gI σ o k) (gl : ∀ o k, gL τ o k = gL σ o k) (gd : ∀ o k, gD τ o k = gD σ o k) (g7 : ∀ k, k ∈ [22, 26, 27, 32] → gI τ 717 k = gI σ 717 k) (g1 : gI τ 717 1 = 0) (g4 : gI τ 717 4 = x) (r : MR τ) (f : MF8 τ F2) (w : FW8 F2) (v : FV F2) (mv : ∀ m, m < F2 0 0 → MVd τ F2 m) (z : ∀ k, k < 4 → gI τ 740 k = 0) : RP (idS τ 0) b 0 x F2 a (ldA A) := by
  obtain ⟨⟨b1, b2, b3, b4⟩, -, -, -, -, ⟨a1, a2, a3, a4, a5, a6⟩, ⟨m1, m2, m3, m4, m5, m6, m7, m8, m9, m10⟩, ab⟩ := h
  have hX : MX τ τ F2 (A.1, A.2.1, A.2.2.1, fun _ => 0) := ⟨r, f.mf, w.fw, ⟨(g7 26 (by decide)).trans m1, (g7 27 (by decide)).trans m2, fun k hk => (g 736 (by decide) k).trans (m3 k hk), fun k hk => (g 737 (by decide) k).trans (m4 k hk), (g7 32 (by decide)).trans m5, fun k hk => (gl _ k).trans (m6 k hk), (gl _ _).trans m7, fun k hk => (gd _ k).trans (m8 k hk), (gd _ _).trans m9, z⟩, ab, AgM.rf⟩
  have hR : RP τ b 0 x F2 a (A.1, A.2.1, A.2.2.1, fun _ => 0) := ⟨⟨g1, Nat.zero_le _, fun k hk => (g 718 (by decide) k).trans (b3 k hk), b4⟩, r, g4, ⟨f, w, v, mv⟩, hc, ⟨(g7 22 (by decide)).trans a1, a2, fun k hk => (g 733 (by decide) k).trans (a3 k hk), a4, fun k hk => (gl _ k).trans (a5 k hk), fun k hk => (gd _ k).trans (a6 k hk)⟩, hX.2.2.2.1, ab⟩
  exact hR.mv (hX.id (s := 0) (by decide))

set_option maxRecDepth 100000 in
set_option maxHeartbeats 1000000 in
theorem m_load_i {l : Launch} {G : fr_G} {σ : fr_S} {b : Nat → Nat} {n : Nat} {pl : Int32} {F : Nat → Nat → Nat} {a : AV} {A : VM} (hP : RP σ b n pl F a A) (hi : (rdF b n F).2.2 = true) : CR l G yy_Mo_load rm_Mo_load [.ref (717)] σ (fun r0 σ' => r0 = some (.int 0) ∧ gI σ' 717 0 = 1 ∧ RP σ' b 0 (ilI (rdF b n F).2) (rdF b n F).1 a A ∧ AgC σ σ') := by
  intro Post hp0
  show PX l G yy_Mo_load rm_Mo_load _ false 742 0 0 0 [(0, .ref (717))] [] σ
  have hn220 := hP.1.2.1
  have hW := hP.2.2.2.1.2.1.fw
  have h04 := hW.1
  have h14 := hW.2.1
  have hb0 := hP.2.2.2.2.2.2.2.1
  have hb1 := hP.2.2.2.2.2.2.2.2.1
  have hb4 := hP.2.2.2.2.2.2.2.2.2.2.2
  have ha3 := hP.2.2.2.2.2.1.2.1
  refine px_aload_n dx_Mo_load_0 rfl ?_
  refine px_iconst (v := 0) dx_Mo_load_1 rfl ?_
  refine px_putI dx_Mo_load_2 fl_Mo_86 rfl (by decide) rfl ?_
  refine px_aload_n dx_Mo_load_5 rfl ?_
  have hPc : RP (sI σ 717 0 0) b n pl F a A := hP.c
  refine px_cVR (Y := yy_Mo_load) (Yc := yy_Mo_readFile) (b := 717) (As := []) dx_Mo_load_6 ml_Mo_144 mv_Mo_readFile np_Mo_readFile ⟨_, rfl⟩ (by decide) rfl (by decide) rfl (Nat.le_of_ble_eq_true rfl) (Nat.le_of_ble_eq_true rfl) rk_Mo_load_Mo_readFile rfl (m_readFile (σ := sI σ 717 0 0) hPc.2.1 hPc.1 hPc.2.2.2.1.1 hP.2.2.2.1.2.1) zz_0 (fun r_6 σq h_6 => ?_)
  obtain ⟨rfl, τ1, hRD, rfl⟩ := h_6
  refine px_aload_n dx_Mo_load_9 rfl ?_
  refine px_iconst (v := 0) dx_Mo_load_10 rfl ?_
  refine px_putI dx_Mo_load_11 fl_Mo_89 rfl (by decide) rfl ?_
  refine px_aload_n dx_Mo_load_14 rfl ?_
  refine px_getI dx_Mo_load_15 fl_Mo_92 rfl (by decide) rfl ?_
  refine px_eqi (y := b2i ((rdF b n F).2.2)) (Eq.trans (gI_n (Or.inr (by decide))) (Eq.trans (gI_n (Or.inr (by decide))) hRD.2.2.1.2.2)) ?_
  refine px_if_eqB dx_Mo_load_18 (fun c_18 => ?_) (fun c_18 => ?_)
  · exact absurd (hi.symm.trans c_18) (by decide)
  · refine px_aload_n dx_Mo_load_21 rfl ?_
    refine px_iconst (v := 1) dx_Mo_load_22 rfl ?_
    refine px_cV (Y := yy_Mo_load) (Yc := yy_Mo_fail) (b := 717) (As := [.int (1)]) dx_Mo_load_23 ml_Mo_147 mv_Mo_fail np_Mo_fail ⟨_, rfl⟩ (by decide) rfl (by decide) rfl (Nat.le_of_ble_eq_true rfl) (Nat.le_of_ble_eq_true rfl) rk_Mo_load_Mo_fail rfl (m_fail (x := 1)) zz_0 ?_
    exact px_iret dx_Mo_load_26 rfl (by exact hp0 _ _ ⟨rfl, gI_s, hPc.ill hRD, (((((AgC.rf.i (by decide)).tr (AgC.g hRD.2.2.2.2.2.1 (by decide))).i (by decide)).i (by decide)).i (by decide))⟩)
theorem idS_C {σ : fr_S} {s : Int32} : AgC σ (idS σ s) := ((((AgC.rf.i (o := 717) (by decide)).i (o := 717) (by decide)).i (o := 717) (by decide)).l (o := 717) (by decide)).d (o := 717) (by decide)

set_option maxRecDepth 100000 in
set_option maxHeartbeats 1000000 in
theorem m_load_g {l : Launch} {G : fr_G} {σ : fr_S} {b : Nat → Nat} {n : Nat} {pl : Int32} {F : Nat → Nat → Nat} {a : AV} {A : VM} (hP : RP σ b n pl F a A) (hi : (rdF b n F).2.2 = false) : CR l G yy_Mo_load rm_Mo_load [.ref (717)] σ (fun r0 σ' => r0 = some (.int (nI (kpF (rdF b n F).1 0 0))) ∧ gI σ' 717 0 = 0 ∧ RP σ' b 0 (-1) (kpF (rdF b n F).1) a (ldA A) ∧ AgC σ σ') := by
  intro Post hp0
  show PX l G yy_Mo_load rm_Mo_load _ false 742 0 0 0 [(0, .ref (717))] [] σ
  have hn220 := hP.1.2.1
  have hW := hP.2.2.2.1.2.1.fw
  have h04 := hW.1
  have h14 := hW.2.1
  have hb0 := hP.2.2.2.2.2.2.2.1
  have hb1 := hP.2.2.2.2.2.2.2.2.1
  have hb4 := hP.2.2.2.2.2.2.2.2.2.2.2
  have ha3 := hP.2.2.2.2.2.1.2.1
  refine px_aload_n dx_Mo_load_0 rfl ?_
  refine px_iconst (v := 0) dx_Mo_load_1 rfl ?_
  refine px_putI dx_Mo_load_2 fl_Mo_86 rfl (by decide) rfl ?_
  refine px_aload_n dx_Mo_load_5 rfl ?_
  have hPc : RP (sI σ 717 0 0) b n pl F a A := hP.c
  refine px_cVR (Y := yy_Mo_load) (Yc := yy_Mo_readFile) (b := 717) (As := []) dx_Mo_load_6 ml_Mo_144 mv_Mo_readFile np_Mo_readFile ⟨_, rfl⟩ (by decide) rfl (by decide) rfl (Nat.le_of_ble_eq_true rfl) (Nat.le_of_ble_eq_true rfl) rk_Mo_load_Mo_readFile rfl (m_readFile (σ := sI σ 717 0 0) hPc.2.1 hPc.1 hPc.2.2.2.1.1 hP.2.2.2.1.2.1) zz_0 (fun r_6 σq h_6 => ?_)
  obtain ⟨rfl, τ1, hRD, rfl⟩ := h_6
  refine px_aload_n dx_Mo_load_9 rfl ?_
  refine px_iconst (v := 0) dx_Mo_load_10 rfl ?_
  refine px_putI dx_Mo_load_11 fl_Mo_89 rfl (by decide) rfl ?_
  refine px_aload_n dx_Mo_load_14 rfl ?_
  refine px_getI dx_Mo_load_15 fl_Mo_92 rfl (by decide) rfl ?_
  refine px_eqi (y := b2i ((rdF b n F).2.2)) (Eq.trans (gI_n (Or.inr (by decide))) (Eq.trans (gI_n (Or.inr (by decide))) hRD.2.2.1.2.2)) ?_
  refine px_if_eqB dx_Mo_load_18 (fun c_18 => ?_) (fun c_18 => ?_)
  · refine px_aload_n dx_Mo_load_27 rfl ?_
    have hFg := rdF_fv hi
    have hMt : MR (sI (sI τ1 717 4 (ilI (rdF b n F).2)) 717 1 0) := hRD.1
    refine px_cVR (Y := yy_Mo_load) (Yc := yy_Mo_keepFile) (b := 717) (As := []) dx_Mo_load_28 ml_Mo_150 mv_Mo_keepFile np_Mo_keepFile ⟨_, rfl⟩ (by decide) rfl (by decide) rfl (Nat.le_of_ble_eq_true rfl) (Nat.le_of_ble_eq_true rfl) rk_Mo_load_Mo_keepFile rfl (m_keepFile (σ := sI (sI τ1 717 4 (ilI (rdF b n F).2)) 717 1 0) (F := (rdF b n F).1) hMt (fun x k hx hk => (gI_n (Or.inl (by omega))).trans ((gI_n (Or.inl (by omega))).trans (hRD.2.2.2.1 x k hx hk))) hRD.2.2.2.2.1 hFg.1 hFg.2.1 (hP.2.2.2.2.1.imp fun c hc => (gI_n (Or.inr (by decide))).trans ((gI_n (Or.inr (by decide))).trans ((hRD.2.2.2.2.2.2 20 (by decide) (by decide)).trans ((gI_n (Or.inr (by decide))).trans hc))))) zz_0 (fun r_28 σr h_28 => ?_)
    obtain ⟨rfl, τ2, k1, k2, k3, k4, k5, k6, k7, k8, rfl⟩ := h_28
    have hRk : RP (idS τ2 0) b 0 (-1) (kpF (rdF b n F).1) a (ldA A) := hP.keep k5 (fun o ho k => (k7.1 o ho k).trans ((gI_n (Or.inl (by rintro rfl; simp [kL] at ho))).trans ((gI_n (Or.inl (by rintro rfl; simp [kL] at ho))).trans ((hRD.2.2.2.2.2.1.1 o (fun q => ho (by simp [fL] at q; simp [kL]; omega)) k).trans (gI_n (Or.inl (by rintro rfl; simp [kL] at ho))))))) (fun o k => by show gL τ2 o k = gL σ o k; unfold gL; rw [k7.2]; show (sI (sI τ1 717 4 (ilI (rdF b n F).2)) 717 1 0).2.1 o k = _; show τ1.2.1 o k = _; rw [hRD.2.2.2.2.2.1.2]; rfl) (fun o k => by show gD τ2 o k = gD σ o k; unfold gD; rw [k7.2]; show τ1.2.2.1 o k = _; rw [hRD.2.2.2.2.2.1.2]; rfl) (fun k hk => (k8 k (by rintro rfl; simp at hk) (by rintro rfl; simp at hk)).trans ((gI_n (Or.inr (by rintro rfl; simp at hk))).trans ((gI_n (Or.inr (by rintro rfl; simp at hk))).trans ((hRD.2.2.2.2.2.2 k (by rintro rfl; simp at hk) (by rintro rfl; simp at hk)).trans (gI_n (Or.inr (by rintro rfl; simp at hk))))))) ((k8 1 (by decide) (by decide)).trans gI_s) ((k8 4 (by decide) (by decide)).trans ((gI_n (Or.inr (by decide))).trans (gI_s.trans (by unfold ilI; rw [if_neg (by rw [hi]; decide)])))) k1 k2 k3 hFg k4 k6
    have hMt : MR (idS τ2 0) := k1
    refine px_aload_n dx_Mo_load_31 rfl ?_
    refine px_getR (r := 719) dx_Mo_load_32 fl_Mo_17 rfl (by decide) rfl (hMt 6) ?_
    refine px_iconst (v := 0) dx_Mo_load_35 rfl ?_
    refine px_ialdN (j := 0) dx_Mo_load_36 rfl (by decide) (by decide) ?_
    refine px_eqi (y := nI (kpF (rdF b n F).1 0 0)) (hRk.2.2.2.1.1 0 0 (by decide) (by decide)) ?_
    exact px_iret dx_Mo_load_37 rfl (by exact hp0 _ _ ⟨rfl, idS_c.trans ((k8 0 (by decide) (by decide)).trans ((gI_n (Or.inr (by decide))).trans ((gI_n (Or.inr (by decide))).trans ((hRD.2.2.2.2.2.2 0 (by decide) (by decide)).trans gI_s)))), hRk, ((((((AgC.rf.i (by decide)).tr (AgC.g hRD.2.2.2.2.2.1 (by decide))).i (by decide)).i (by decide)).tr (AgC.g k7 (by decide))).tr idS_C)⟩)
  · exact absurd (hi.symm.trans c_18) (by decide)
/-- bytes moved by eight, and a head before them -/
def shB (b : Nat → Nat) (n k : Nat) : Nat := if 8 ≤ k ∧ k < n + 8 then b (k - 8) else b k
def hdB (b : Nat → Nat) (n k : Nat) : Nat := if k = 0 then 100 else if k = 1 then 101 else if k = 2 then 120 else if k = 3 then 10 else shB b n k
def slB (b : Nat → Nat) (n k : Nat) : Nat := if 4 ≤ k ∧ k < 8 then ckV (hdB b n) (n + 8) / 256 ^ (k - 4) % 256 else hdB b n k
def slv : Nat → Int32
  | 0 => -1
  | i + 1 => nI i
theorem slv_s (i : Nat) : nI i + (-1) = slv i := by
  cases i with
  | zero => rfl
  | succ i =>
    show nI (i + 1) + (-1) = nI i
    rw [← nI_add, Int32.add_assoc]
    exact Int32.add_zero _
theorem shB_lt {b : Nat → Nat} (h : ∀ k, b k < 256) (n k : Nat) : shB b n k < 256 := by unfold shB; split <;> exact h _
theorem hdB_lt {b : Nat → Nat} (h : ∀ k, b k < 256) (n k : Nat) : hdB b n k < 256 := by
  unfold hdB
  repeat' split
  all_goals first | decide | exact shB_lt h n k
theorem slB_lt {b : Nat → Nat} (h : ∀ k, b k < 256) (n k : Nat) : slB b n k < 256 := by
  unfold slB
  split
  · exact Nat.mod_lt _ (by decide)
  · exact hdB_lt h n k
theorem shr_8 {c k : Nat} (hc : c < 2 ^ 32) (hk : k < 4) : ((lN c >>> ((nI (8 * k)).toInt64 &&& 63)) &&& 255).toInt32 = nI (c / 256 ^ k % 256) := by
  have key : ((lN c >>> ((nI (8 * k)).toInt64 &&& 63)) &&& 255) = lN (c / 256 ^ k % 256) := by
    apply Int64.toBitVec_inj.mp
    apply BitVec.eq_of_toNat_eq
    have hk2 : k = 0 ∨ k = 1 ∨ k = 2 ∨ k = 3 := by omega
    have e1 : ((lN c >>> ((nI (8 * k)).toInt64 &&& 63)) &&& 255).toBitVec = ((lN c).toBitVec.sshiftRight (8 * k)) &&& 255#64 := by
      rcases hk2 with rfl | rfl | rfl | rfl <;> rfl
    rw [e1, BitVec.toNat_and]
    show ((lN c).toBitVec.sshiftRight (8 * k)).toNat &&& (2 ^ 8 - 1) = _
    rw [Nat.and_two_pow_sub_one_eq_mod]
    have e2 : (lN c).toBitVec.msb = false := by
      rw [BitVec.msb_eq_decide, lN_bv, BitVec.toNat_ofNat]
      exact decide_eq_false (by omega)
    rw [BitVec.sshiftRight_eq_of_msb_false e2, BitVec.toNat_ushiftRight, lN_bv, BitVec.toNat_ofNat, Nat.mod_eq_of_lt (by omega : c < 2 ^ 64), Nat.shiftRight_eq_div_pow, lN_bv, BitVec.toNat_ofNat]
    rw [show (2 : Nat) ^ (8 * k) = 256 ^ k by rw [Nat.pow_mul]]
    exact (Nat.mod_eq_of_lt (by have := Nat.mod_lt (c / 256 ^ k) (show 0 < 256 by decide); omega)).symm
  rw [key]
  exact lN_i _

/-- what a load comes to -/
def QLD (σ : fr_S) (b : Nat → Nat) (n : Nat) (F : Nat → Nat → Nat) (a : AV) (A : VM) (r0 : Option Value) (σ' : fr_S) : Prop :=
  ((rdF b n F).2.2 = true ∧ r0 = some (.int 0) ∧ gI σ' 717 0 = 1 ∧ RP σ' b 0 (ilI (rdF b n F).2) (rdF b n F).1 a A ∧ AgC σ σ')
  ∨ ((rdF b n F).2.2 = false ∧ r0 = some (.int (nI (kpF (rdF b n F).1 0 0))) ∧ gI σ' 717 0 = 0 ∧ RP σ' b 0 (-1) (kpF (rdF b n F).1) a (ldA A) ∧ AgC σ σ')
theorem m_load {l : Launch} {G : fr_G} {σ : fr_S} {b : Nat → Nat} {n : Nat} {pl : Int32} {F : Nat → Nat → Nat} {a : AV} {A : VM} (hP : RP σ b n pl F a A) : CR l G yy_Mo_load rm_Mo_load [.ref 717] σ (QLD σ b n F a A) := by
  cases hi : (rdF b n F).2.2 with
  | true => exact fun Post hp => m_load_i hP hi Post fun r σ' h => hp r σ' (Or.inl ⟨hi, h⟩)
  | false => exact fun Post hp => m_load_g hP hi Post fun r σ' h => hp r σ' (Or.inr ⟨hi, h⟩)
/-- while bytes are sealed -/
def SA (σ σ' : fr_S) : Prop := (∀ o, o ≠ 717 → o ≠ 718 → ∀ k, gI σ' o k = gI σ o k) ∧ (∀ k, k ≠ 0 → k ≠ 1 → gI σ' 717 k = gI σ 717 k) ∧ σ'.2 = σ.2
theorem SA.b {σ σ' : fr_S} (h : SA σ σ') {k : Nat} {v : Int32} : SA σ (sI σ' 718 k v) := ⟨fun o h1 h2 y => (gI_n (Or.inl h2)).trans (h.1 o h1 h2 y), fun y h1 h2 => (gI_n (Or.inl (by decide))).trans (h.2.1 y h1 h2), h.2.2⟩
theorem SA.c {σ σ' : fr_S} (h : SA σ σ') {v : Int32} : SA σ (sI σ' 717 0 v) := ⟨fun o h1 h2 y => (gI_n (Or.inl h1)).trans (h.1 o h1 h2 y), fun y h1 h2 => (gI_n (Or.inr h1)).trans (h.2.1 y h1 h2), h.2.2⟩
theorem SA.n {σ σ' : fr_S} (h : SA σ σ') {v : Int32} : SA σ (sI σ' 717 1 v) := ⟨fun o h1 h2 y => (gI_n (Or.inl h1)).trans (h.1 o h1 h2 y), fun y h1 h2 => (gI_n (Or.inr h2)).trans (h.2.1 y h1 h2), h.2.2⟩
theorem SA.rf {σ : fr_S} : SA σ σ := ⟨fun _ _ _ _ => rfl, fun _ _ _ => rfl, rfl⟩
theorem SA.rp {σ σ' : fr_S} (h : SA σ σ') {b b' : Nat → Nat} {n n' : Nat} {pl : Int32} {F : Nat → Nat → Nat} {a : AV} {A : VM} (hP : RP σ b n pl F a A) (hB : MB σ' b' n') : RP σ' b' n' pl F a A :=
  ⟨hB, hP.2.cg (fun o h1 h2 h3 k => h.1 o (by omega) (by omega) k) (fun k hk => h.2.1 k (by rintro rfl; simp at hk) (by rintro rfl; simp at hk)) (fun o _ _ k => by unfold gL; rw [h.2.2]) (fun o _ _ k => by unfold gD; rw [h.2.2]) fun k => by unfold gR; rw [h.2.2]⟩
theorem SA.ag {σ σ' : fr_S} (h : SA σ σ') : AgC σ σ' := ⟨fun o ho k => ⟨h.1 o (by omega) (by omega) k, by unfold gL; rw [h.2.2], by unfold gD; rw [h.2.2]⟩, fun o k => by unfold gR; rw [h.2.2]⟩
theorem SA.mr {σ σ' : fr_S} (h : SA σ σ') (r : MR σ) : MR σ' := fun k => by unfold gR; rw [h.2.2]; exact r k

set_option maxRecDepth 100000 in
set_option maxHeartbeats 1000000 in
theorem m_seal_l1 {l : Launch} {G : fr_G} {σ0 : fr_S} {b : Nat → Nat} {n : Nat} (hMr : MR σ0) (hb : ∀ k, b k < 256) (hn : n ≤ 212) {QF : List Frame → Array Value → State → State → Prop} (hq : ∀ σ', SA σ0 σ' → gI σ' 717 1 = nI n → (∀ k, k < 220 → gI σ' 718 k = nI (shB b n k)) → PX l G yy_Mo_seal rm_Mo_seal QF false 742 0 0 53 [(0, .ref 717)] [] σ') : ∀ (j : Nat) (σ1 : fr_S), j ≤ n → SA σ0 σ1 → gI σ1 717 1 = nI n → (∀ k, k < 220 → gI σ1 718 k = nI (if 8 + j ≤ k ∧ k < n + 8 then b (k - 8) else b k)) → PX l G yy_Mo_seal rm_Mo_seal QF false 742 0 0 28 [(0, .ref 717), (1, .int (slv j))] [] σ1 := by
  intro j
  induction j with
  | zero =>
    intro σ1 hj hA hN hB
    have hMs := hA.mr hMr
    show PX l G yy_Mo_seal rm_Mo_seal QF false 742 0 0 28 [(0, .ref 717), (1, .int (-1))] [] σ1
    refine px_iload_n dx_Mo_seal_28 rfl ?_
    refine px_if_lt dx_Mo_seal_29 (fun _ => ?_) (fun q => absurd (by decide) q)
    refine px_sub [0] rfl ?_
    exact hq σ1 hA hN fun k hk => (hB k hk).trans (by (unfold shB; rw [Nat.add_zero]))
  | succ i ih =>
    intro σ1 hj hA hN hB
    have hMs := hA.mr hMr
    show PX l G yy_Mo_seal rm_Mo_seal QF false 742 0 0 28 [(0, .ref 717), (1, .int (nI i))] [] σ1
    refine px_iload_n dx_Mo_seal_28 rfl ?_
    refine px_if_ltN (a := i) dx_Mo_seal_29 (by omega) (fun c_29 => ?_) (fun c_29 => ?_)
    · exact absurd c_29 (Nat.not_lt_zero _)
    · refine px_aload_n dx_Mo_seal_32 rfl ?_
      refine px_getR (r := 718) dx_Mo_seal_33 fl_Mo_7 rfl (by decide) rfl (hMs 2) ?_
      refine px_iload_n dx_Mo_seal_36 rfl ?_
      refine px_bipush (v := 8) dx_Mo_seal_37 rfl ?_
      refine px_iaddN (a := i) (b := 8) dx_Mo_seal_39 ?_
      refine px_aload_n dx_Mo_seal_40 rfl ?_
      refine px_getR (r := 718) dx_Mo_seal_41 fl_Mo_7 rfl (by decide) rfl (hMs 2) ?_
      refine px_iload_n dx_Mo_seal_44 rfl ?_
      refine px_ialdN (j := i) dx_Mo_seal_45 rfl (by decide) (by omega) ?_
      refine px_eqi (y := nI (b i)) ((hB i (by omega)).trans (by rw [if_neg (by omega)])) ?_
      refine px_iastN (j := i + 8) dx_Mo_seal_46 rfl (by decide) (by omega) ?_
      refine px_iinc (v := (nI (i) + (-1))) (lv' := [(1, .int (nI (i) + (-1))), (0, .ref (717))]) dx_Mo_seal_47 rfl rfl (by decide) rfl ?_
      refine px_goto dx_Mo_seal_50 ?_
      refine px_sub [1, 0] rfl ?_
      refine px_eqv (lv2 := [(0, .ref 717), (1, .int (slv i))]) (by rw [← slv_s]; rfl) ?_
      refine ih (sI σ1 718 (i + 8) (nI (b i))) (by omega) hA.b ((gI_n (Or.inl (by decide))).trans hN) (fun k hk => ?_)
      by_cases e : k = i + 8
      · subst e
        rw [gI_s, if_pos (by omega), show i + 8 - 8 = i by omega]
      · rw [gI_n (Or.inr e), hB k hk]
        by_cases q : 8 + (i + 1) ≤ k ∧ k < n + 8
        · rw [if_pos q, if_pos (by omega)]
        · rw [if_neg q, if_neg (by omega)]
set_option maxRecDepth 100000 in
set_option maxHeartbeats 1000000 in
theorem m_seal_l2 {l : Launch} {G : fr_G} {σ : fr_S} {σ0 : fr_S} {b : Nat → Nat} {n : Nat} (hMr : MR σ0) (hb : ∀ k, b k < 256) (hn : n ≤ 212) {QF : List Frame → Array Value → State → State → Prop} (hq : ∀ σ', SA σ0 σ' → MB σ' (slB b n) (n + 8) → PX l G yy_Mo_seal rm_Mo_seal QF false 742 0 0 135 [(0, .ref 717)] [] σ') : ∀ (d : Nat) (k : Nat) (σ1 : fr_S), 4 - k < d → k ≤ 4 → SA σ0 σ1 → gI σ1 717 1 = nI (n + 8) → (∀ y, y < 220 → gI σ1 718 y = nI (if y < 4 + k then slB b n y else hdB b n y)) → PX l G yy_Mo_seal rm_Mo_seal QF false 742 0 0 105 [(0, .ref (717)), (1, .long (lN (ckV (hdB b n) (n + 8)))), (3, .int (nI (k)))] [] (σ1) := by
  intro d
  induction d with
  | zero => intro k σ1 hd; exact absurd hd (Nat.not_lt_zero _)
  | succ d ih =>
    intro k σ1 hd hk hA hN hB
    have hMs := hA.mr hMr
    refine px_iload_n dx_Mo_seal_105 rfl ?_
    refine px_iconst (v := 4) dx_Mo_seal_106 rfl ?_
    refine px_icmp_geN (a := k) (b := 4) dx_Mo_seal_107 (by omega) (by omega) (fun c_107 => ?_) (fun c_107 => ?_)
    · refine px_sub [0] rfl ?_
      obtain rfl : k = 4 := by omega
      exact hq σ1 hA ⟨hN, by omega, fun y hy => (hB y hy).trans (by by_cases q : y < 4 + 4; rw [if_pos q]; rw [if_neg q]; unfold slB; rw [if_neg (by omega)]), slB_lt hb n⟩
    · refine px_aload_n dx_Mo_seal_110 rfl ?_
      refine px_getR (r := 718) dx_Mo_seal_111 fl_Mo_7 rfl (by decide) rfl (hMs 2) ?_
      refine px_iconst (v := 4) dx_Mo_seal_114 rfl ?_
      refine px_iload_n dx_Mo_seal_115 rfl ?_
      refine px_iaddN (a := 4) (b := k) dx_Mo_seal_116 ?_
      refine px_lload_n dx_Mo_seal_117 rfl ?_
      refine px_bipush (v := 8) dx_Mo_seal_118 rfl ?_
      refine px_iload_n dx_Mo_seal_120 rfl ?_
      refine px_imulN (a := 8) (b := k) dx_Mo_seal_121 ?_
      refine px_lshr dx_Mo_seal_122 ?_
      refine px_ldc2 dx_Mo_seal_123 kk_Mo_153 ?_
      refine px_land dx_Mo_seal_126 ?_
      refine px_l2i dx_Mo_seal_127 ?_
      refine px_eqi (y := nI (ckV (hdB b n) (n + 8) / 256 ^ k % 256)) (shr_8 (ckV_lt _ _) (by omega)) ?_
      refine px_iastN (j := 4 + k) dx_Mo_seal_128 rfl (by decide) (by omega) ?_
      refine px_iinc (v := (nI (k + 1))) (lv' := [(3, .int (nI (k + 1))), (0, .ref (717)), (1, .long (lN (ckV (hdB b n) (n + 8))))]) dx_Mo_seal_129 rfl (nI_1 _) (by decide) rfl ?_
      refine px_goto dx_Mo_seal_132 ?_
      refine px_sub [1, 2, 0] rfl ?_
      refine ih (k + 1) (sI σ1 718 (4 + k) (nI (ckV (hdB b n) (n + 8) / 256 ^ k % 256))) (by omega) (by omega) hA.b ((gI_n (Or.inl (by decide))).trans hN) (fun y hy => ?_)
      by_cases e : y = 4 + k
      · subst e
        rw [gI_s, if_pos (by omega)]
        unfold slB
        rw [if_pos (by omega), show 4 + k - 4 = k by omega]
      · rw [gI_n (Or.inr e), hB y hy]
        by_cases q : y < 4 + k
        · rw [if_pos q, if_pos (by omega)]
        · rw [if_neg q, if_neg (by omega)]
set_option maxRecDepth 100000 in
set_option maxHeartbeats 1000000 in
theorem m_seal_e {l : Launch} {G : fr_G} {σ σ1 : fr_S} {b : Nat → Nat} {n : Nat} {pl : Int32} {F : Nat → Nat → Nat} {a : AV} {A : VM} (hP : RP σ b n pl F a A) (hn : n ≤ 212) (hA : SA σ σ1) (hB : MB σ1 (slB b n) (n + 8)) {Post : Option Value → fr_S → Prop} (hp0 : ∀ r σ', (fun r0 σ' => (212 < n ∧ r0 = some (.int 0) ∧ gI σ' 717 0 = 1 ∧ RP σ' b n pl F a A ∧ AgC σ σ') ∨ (n ≤ 212 ∧ QLD σ (slB b n) (n + 8) F a A r0 σ')) r σ' → Post r σ') : PX l G yy_Mo_seal rm_Mo_seal (QR G false 742 0 0 Post) false 742 0 0 135 [(0, .ref 717)] [] σ1 := by
  refine px_aload_n dx_Mo_seal_135 rfl ?_
  refine px_cVR (Y := yy_Mo_seal) (Yc := yy_Mo_load) (b := 717) (As := []) dx_Mo_seal_136 ml_Mo_155 mv_Mo_load np_Mo_load ⟨_, rfl⟩ (by decide) rfl (by decide) rfl (Nat.le_of_ble_eq_true rfl) (Nat.le_of_ble_eq_true rfl) rk_Mo_seal_Mo_load rfl (m_load (hA.rp hP hB)) zz_0 (fun r σ2 h => ?_)
  rcases h with ⟨h1, rfl, h3, h4, h5⟩ | ⟨h1, rfl, h3, h4, h5⟩
  · exact px_iret dx_Mo_seal_139 rfl (hp0 _ _ (Or.inr ⟨hn, Or.inl ⟨h1, rfl, h3, h4, hA.ag.tr h5⟩⟩))
  · exact px_iret dx_Mo_seal_139 rfl (hp0 _ _ (Or.inr ⟨hn, Or.inr ⟨h1, rfl, h3, h4, hA.ag.tr h5⟩⟩))
set_option maxRecDepth 100000 in
set_option maxHeartbeats 1000000 in
theorem m_seal_b {l : Launch} {G : fr_G} {σ σ1 : fr_S} {b : Nat → Nat} {n : Nat} {pl : Int32} {F : Nat → Nat → Nat} {a : AV} {A : VM} (hP : RP σ b n pl F a A) (hn : n ≤ 212) (hA : SA σ σ1) (hN : gI σ1 717 1 = nI n) (hB : ∀ k, k < 220 → gI σ1 718 k = nI (shB b n k)) {Post : Option Value → fr_S → Prop} (hp0 : ∀ r σ', (fun r0 σ' => (212 < n ∧ r0 = some (.int 0) ∧ gI σ' 717 0 = 1 ∧ RP σ' b n pl F a A ∧ AgC σ σ') ∨ (n ≤ 212 ∧ QLD σ (slB b n) (n + 8) F a A r0 σ')) r σ' → Post r σ') : PX l G yy_Mo_seal rm_Mo_seal (QR G false 742 0 0 Post) false 742 0 0 53 [(0, .ref 717)] [] σ1 := by
  have hMs := hA.mr hP.2.1
  refine px_aload_n dx_Mo_seal_53 rfl ?_
  refine px_dup dx_Mo_seal_54 rfl ?_
  refine px_getI dx_Mo_seal_55 fl_Mo_89 rfl (by decide) rfl ?_
  refine px_eqi (y := nI (n)) hN ?_
  refine px_bipush (v := 8) dx_Mo_seal_58 rfl ?_
  refine px_iaddN (a := n) (b := 8) dx_Mo_seal_60 ?_
  refine px_putI dx_Mo_seal_61 fl_Mo_89 rfl (by decide) rfl ?_
  refine px_aload_n dx_Mo_seal_64 rfl ?_
  refine px_getR (r := 718) dx_Mo_seal_65 fl_Mo_7 rfl (by decide) rfl (hMs 2) ?_
  refine px_iconst (v := 0) dx_Mo_seal_68 rfl ?_
  refine px_bipush (v := 100) dx_Mo_seal_69 rfl ?_
  refine px_iastN (j := 0) dx_Mo_seal_71 rfl (by decide) (by decide) ?_
  refine px_aload_n dx_Mo_seal_72 rfl ?_
  refine px_getR (r := 718) dx_Mo_seal_73 fl_Mo_7 rfl (by decide) rfl (hMs 2) ?_
  refine px_iconst (v := 1) dx_Mo_seal_76 rfl ?_
  refine px_bipush (v := 101) dx_Mo_seal_77 rfl ?_
  refine px_iastN (j := 1) dx_Mo_seal_79 rfl (by decide) (by decide) ?_
  refine px_aload_n dx_Mo_seal_80 rfl ?_
  refine px_getR (r := 718) dx_Mo_seal_81 fl_Mo_7 rfl (by decide) rfl (hMs 2) ?_
  refine px_iconst (v := 2) dx_Mo_seal_84 rfl ?_
  refine px_bipush (v := 120) dx_Mo_seal_85 rfl ?_
  refine px_iastN (j := 2) dx_Mo_seal_87 rfl (by decide) (by decide) ?_
  refine px_aload_n dx_Mo_seal_88 rfl ?_
  refine px_getR (r := 718) dx_Mo_seal_89 fl_Mo_7 rfl (by decide) rfl (hMs 2) ?_
  refine px_iconst (v := 3) dx_Mo_seal_92 rfl ?_
  refine px_bipush (v := 10) dx_Mo_seal_93 rfl ?_
  refine px_iastN (j := 3) dx_Mo_seal_95 rfl (by decide) (by decide) ?_
  refine px_aload_n dx_Mo_seal_96 rfl ?_
  refine px_bipush (v := 8) dx_Mo_seal_97 rfl ?_
  have hB2 : MB (sI (sI (sI (sI (sI σ1 717 1 (nI (n + 8))) 718 0 100) 718 1 101) 718 2 120) 718 3 10) (hdB b n) (n + 8) := by
    refine ⟨(gI_n (Or.inl (by decide))).trans ((gI_n (Or.inl (by decide))).trans ((gI_n (Or.inl (by decide))).trans ((gI_n (Or.inl (by decide))).trans gI_s))), by omega, fun k hk => ?_, hdB_lt hP.1.2.2.2 n⟩
    unfold hdB
    by_cases e3 : k = 3
    · subst e3
      exact gI_s
    · by_cases e2 : k = 2
      · subst e2
        exact (gI_n (Or.inr (by decide))).trans gI_s
      · by_cases e1 : k = 1
        · subst e1
          exact (gI_n (Or.inr (by decide))).trans ((gI_n (Or.inr (by decide))).trans gI_s)
        · by_cases e0 : k = 0
          · subst e0
            exact (gI_n (Or.inr (by decide))).trans ((gI_n (Or.inr (by decide))).trans ((gI_n (Or.inr (by decide))).trans gI_s))
          · rw [if_neg e0, if_neg e1, if_neg e2, if_neg e3, gI_n (Or.inr e3), gI_n (Or.inr e2), gI_n (Or.inr e1), gI_n (Or.inr e0), gI_n (Or.inl (by decide))]
            exact hB k hk
  have hA2 : SA σ (sI (sI (sI (sI (sI σ1 717 1 (nI (n + 8))) 718 0 100) 718 1 101) 718 2 120) 718 3 10) := hA.n.b.b.b.b
  refine px_cV (Y := yy_Mo_seal) (Yc := yy_Mo_checkOf) (b := 717) (As := [.int (8)]) dx_Mo_seal_99 ml_Mo_117 mv_Mo_checkOf np_Mo_checkOf ⟨_, rfl⟩ (by decide) rfl (by decide) rfl (Nat.le_of_ble_eq_true rfl) (Nat.le_of_ble_eq_true rfl) rk_Mo_seal_Mo_checkOf rfl (m_checkOf (hA2.mr hP.2.1) hB2) zz_0 ?_
  refine px_lstore_n (lv' := [(1, .long (lN (ckV (hdB b n) (n + 8)))), (0, .ref (717))]) dx_Mo_seal_102 (by decide) rfl ?_
  refine px_iconst (v := 0) dx_Mo_seal_103 rfl ?_
  refine px_istore_n (lv' := [(3, .int (0)), (1, .long (lN (ckV (hdB b n) (n + 8)))), (0, .ref (717))]) dx_Mo_seal_104 (by decide) rfl ?_
  refine px_sub [2, 1, 0] rfl ?_
  exact m_seal_l2 (σ := σ) (σ0 := σ) hP.2.1 hP.1.2.2.2 (by omega) (fun σ2 hA3 hB3 => m_seal_e hP (by omega) hA3 hB3 hp0) 5 0 _ (by omega) (Nat.zero_le _) hA2 hB2.1 (fun y hy => (hB2.2.2.1 y hy).trans (by by_cases q : y < 4 + 0; rw [if_pos q]; unfold slB; rw [if_neg (by omega)]; rw [if_neg q]))
theorem slv_m {n : Nat} : nI n - 1 = slv n := by
  cases n with
  | zero => rfl
  | succ i =>
    show nI (i + 1) - 1 = nI i
    exact pk_sub (b := 1) (by omega)

set_option maxRecDepth 100000 in
set_option maxHeartbeats 1000000 in
theorem m_seal {l : Launch} {G : fr_G} {σ : fr_S} {b : Nat → Nat} {n : Nat} {pl : Int32} {F : Nat → Nat → Nat} {a : AV} {A : VM} (hP : RP σ b n pl F a A) : CR l G yy_Mo_seal rm_Mo_seal [.ref (717)] σ (fun r0 σ' => (212 < n ∧ r0 = some (.int 0) ∧ gI σ' 717 0 = 1 ∧ RP σ' b n pl F a A ∧ AgC σ σ') ∨ (n ≤ 212 ∧ QLD σ (slB b n) (n + 8) F a A r0 σ')) := by
  intro Post hp0
  show PX l G yy_Mo_seal rm_Mo_seal _ false 742 0 0 0 [(0, .ref (717))] [] σ
  have hn220 := hP.1.2.1
  have hW := hP.2.2.2.1.2.1.fw
  have h04 := hW.1
  have h14 := hW.2.1
  have hb0 := hP.2.2.2.2.2.2.2.1
  have hb1 := hP.2.2.2.2.2.2.2.2.1
  have hb4 := hP.2.2.2.2.2.2.2.2.2.2.2
  have ha3 := hP.2.2.2.2.2.1.2.1
  refine px_aload_n dx_Mo_seal_0 rfl ?_
  refine px_iconst (v := 0) dx_Mo_seal_1 rfl ?_
  refine px_putI dx_Mo_seal_2 fl_Mo_86 rfl (by decide) rfl ?_
  refine px_aload_n dx_Mo_seal_5 rfl ?_
  refine px_getI dx_Mo_seal_6 fl_Mo_89 rfl (by decide) rfl ?_
  refine px_eqi (y := nI (n)) (Eq.trans (gI_n (Or.inr (by decide))) hP.1.1) ?_
  refine px_sipush (v := 212) dx_Mo_seal_9 rfl ?_
  refine px_icmp_leN (a := n) (b := 212) dx_Mo_seal_12 (by omega) (by omega) (fun c_12 => ?_) (fun c_12 => ?_)
  · refine px_aload_n dx_Mo_seal_21 rfl ?_
    refine px_getI dx_Mo_seal_22 fl_Mo_89 rfl (by decide) rfl ?_
    refine px_eqi (y := nI (n)) (Eq.trans (gI_n (Or.inr (by decide))) hP.1.1) ?_
    refine px_iconst (v := 1) dx_Mo_seal_25 rfl ?_
    refine px_isub dx_Mo_seal_26 ?_
    refine px_istore_n (lv' := [(1, .int ((nI (n)) - 1)), (0, .ref (717))]) dx_Mo_seal_27 (by decide) rfl ?_
    refine px_sub [1, 0] rfl ?_
    refine px_eqv (lv2 := [(0, .ref 717), (1, .int (slv n))]) (by (rw [← slv_m]; rfl)) ?_
    exact m_seal_l1 (σ0 := σ) hP.2.1 hP.1.2.2.2 (by omega) (fun σ2 hA2 hN2 hB2 => m_seal_b hP (by omega) hA2 hN2 hB2 hp0) n _ (Nat.le_refl _) SA.rf.c ((gI_n (Or.inr (by decide))).trans hP.1.1) (fun k hk => (gI_n (Or.inl (by decide))).trans ((hP.1.2.2.1 k hk).trans (by rw [if_neg (by omega)])))
  · refine px_aload_n dx_Mo_seal_15 rfl ?_
    refine px_iconst (v := 1) dx_Mo_seal_16 rfl ?_
    refine px_cV (Y := yy_Mo_seal) (Yc := yy_Mo_fail) (b := 717) (As := [.int (1)]) dx_Mo_seal_17 ml_Mo_147 mv_Mo_fail np_Mo_fail ⟨_, rfl⟩ (by decide) rfl (by decide) rfl (Nat.le_of_ble_eq_true rfl) (Nat.le_of_ble_eq_true rfl) rk_Mo_seal_Mo_fail rfl (m_fail (x := 1)) zz_0 ?_
    exact px_iret dx_Mo_seal_20 rfl (by exact hp0 _ _ (Or.inl ⟨by omega, rfl, gI_s, hP.c.c, (AgC.rf.i (by decide)).i (by decide)⟩))
