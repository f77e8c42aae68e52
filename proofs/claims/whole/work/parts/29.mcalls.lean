/-! the reference: its calls -/
abbrev AV : Type := Nat × (Nat → Nat) × (Nat → Int64) × (Nat → UInt64)
/-- the arguments that were passed -/
def MA (σ : fr_S) (a : AV) : Prop := gI σ 717 22 = nI a.1 ∧ a.1 ≤ 3 ∧ (∀ k, k < 3 → gI σ 733 k = nI (a.2.1 k)) ∧ (∀ k, a.2.1 k ≤ 4) ∧ (∀ k, k < 3 → gL σ 734 k = a.2.2.1 k) ∧ ∀ k, k < 3 → gD σ 735 k = a.2.2.2 k
/-- but for the bytes: the place, the file, the arguments, the machine -/
def RPo (σ : fr_S) (pl : Int32) (F : Nat → Nat → Nat) (a : AV) (A : VM) : Prop := MR σ ∧ gI σ 717 4 = pl ∧ (MF8 σ F ∧ FW8 F ∧ FV F ∧ ∀ m, m < F 0 0 → MVd σ F m) ∧ (∃ c, gI σ 717 20 = b2i c) ∧ MA σ a ∧ MMc σ A ∧ AB A
def RP (σ : fr_S) (b : Nat → Nat) (n : Nat) (pl : Int32) (F : Nat → Nat → Nat) (a : AV) (A : VM) : Prop := MB σ b n ∧ RPo σ pl F a A
theorem RPo.cg {σ σ' : fr_S} {pl : Int32} {F : Nat → Nat → Nat} {a : AV} {A : VM} (h : RPo σ pl F a A) (h1 : ∀ o, 719 ≤ o → o ≤ 740 → o ≠ 732 → ∀ k, gI σ' o k = gI σ o k) (h2 : ∀ k, k ∈ [4, 20, 22, 26, 27, 32] → gI σ' 717 k = gI σ 717 k) (h3 : ∀ o, 717 ≤ o → o ≤ 740 → ∀ k, gL σ' o k = gL σ o k) (h4 : ∀ o, 717 ≤ o → o ≤ 740 → ∀ k, gD σ' o k = gD σ o k) (h5 : ∀ k, gR σ' 717 k = gR σ 717 k) : RPo σ' pl F a A := by
  obtain ⟨r, p, ⟨f, w, v, mv⟩, ⟨c, hc⟩, ⟨a1, a2, a3, a4, a5, a6⟩, ⟨m1, m2, m3, m4, m5, m6, m7, m8, m9, m10⟩, ab⟩ := h
  refine ⟨fun k => (h5 k).trans (r k), (h2 4 (by decide)).trans p, ⟨fun x k hx hk => (h1 _ (by omega) (by omega) (by omega) k).trans (f x k hx hk), w, v, fun m hm => (mv m hm).ag fun o q1 q2 k => h1 o (by omega) (by omega) (by omega) k⟩, ⟨c, (h2 20 (by decide)).trans hc⟩,
    ⟨(h2 22 (by decide)).trans a1, a2, fun k hk => (h1 _ (by decide) (by decide) (by decide) k).trans (a3 k hk), a4, fun k hk => (h3 _ (by decide) (by decide) k).trans (a5 k hk), fun k hk => (h4 _ (by decide) (by decide) k).trans (a6 k hk)⟩,
    ⟨(h2 26 (by decide)).trans m1, (h2 27 (by decide)).trans m2, fun k hk => (h1 _ (by decide) (by decide) (by decide) k).trans (m3 k hk), fun k hk => (h1 _ (by decide) (by decide) (by decide) k).trans (m4 k hk), (h2 32 (by decide)).trans m5, fun k hk => (h3 _ (by decide) (by decide) k).trans (m6 k hk), (h3 _ (by decide) (by decide) _).trans m7, fun k hk => (h4 _ (by decide) (by decide) k).trans (m8 k hk), (h4 _ (by decide) (by decide) _).trans m9, fun k hk => (h1 _ (by decide) (by decide) (by decide) k).trans (m10 k hk)⟩, ab⟩
/-- the class's cells, the law's, and all references are the same -/
def AgC (σ0 σ : fr_S) : Prop := (∀ o, o < 717 ∨ 741 ≤ o → ∀ k, gI σ o k = gI σ0 o k ∧ gL σ o k = gL σ0 o k ∧ gD σ o k = gD σ0 o k) ∧ ∀ o k, gR σ o k = gR σ0 o k
theorem AgC.rf {σ : fr_S} : AgC σ σ := ⟨fun _ _ _ => ⟨rfl, rfl, rfl⟩, fun _ _ => rfl⟩
theorem AgC.tr {a b c : fr_S} (h : AgC a b) (q : AgC b c) : AgC a c := ⟨fun o ho k => ⟨(q.1 o ho k).1.trans (h.1 o ho k).1, (q.1 o ho k).2.1.trans (h.1 o ho k).2.1, (q.1 o ho k).2.2.trans (h.1 o ho k).2.2⟩, fun o k => (q.2 o k).trans (h.2 o k)⟩
theorem AgC.i {a b : fr_S} (h : AgC a b) {o k : Nat} {v : Int32} (ho : 717 ≤ o ∧ o ≤ 740) : AgC a (sI b o k v) := ⟨fun x hx y => ⟨(gI_n (Or.inl (by omega))).trans (h.1 x hx y).1, (h.1 x hx y).2⟩, h.2⟩
theorem AgC.l {a b : fr_S} (h : AgC a b) {o k : Nat} {v : Int64} (ho : 717 ≤ o ∧ o ≤ 740) : AgC a (sL b o k v) := ⟨fun x hx y => ⟨(h.1 x hx y).1, (gL_n (Or.inl (by omega))).trans (h.1 x hx y).2.1, (h.1 x hx y).2.2⟩, h.2⟩
theorem AgC.d {a b : fr_S} (h : AgC a b) {o k : Nat} {v : UInt64} (ho : 717 ≤ o ∧ o ≤ 740) : AgC a (sD b o k v) := ⟨fun x hx y => ⟨(h.1 x hx y).1, (h.1 x hx y).2.1, (gD_n (Or.inl (by omega))).trans (h.1 x hx y).2.2⟩, h.2⟩
theorem AgC.m {a b : fr_S} (h : AgM a b) : AgC a b := ⟨fun o ho k => ⟨h.1 o (by simp; omega) k, h.2.2.1 o (by simp; omega) k, h.2.2.2.1 o (by simp; omega) k⟩, h.2.2.2.2⟩
theorem AgC.g {a b : fr_S} {S : List Nat} (h : Ag S a b) (hs : ∀ o ∈ S, 717 ≤ o ∧ o ≤ 740) : AgC a b := ⟨fun o ho k => ⟨h.1 o (fun q => by have := hs o q; omega) k, by unfold gL; rw [h.2], by unfold gD; rw [h.2]⟩, fun o k => by unfold gR; rw [h.2]⟩
theorem RP.c {σ : fr_S} {b : Nat → Nat} {n : Nat} {pl : Int32} {F : Nat → Nat → Nat} {a : AV} {A : VM} (h : RP σ b n pl F a A) {v : Int32} : RP (sI σ 717 0 v) b n pl F a A :=
  ⟨⟨(gI_n (Or.inr (by decide))).trans h.1.1, h.1.2.1, fun k hk => (gI_n (Or.inl (by decide))).trans (h.1.2.2.1 k hk), h.1.2.2.2⟩, h.2.cg (fun o h1 h2 _ k => gI_n (Or.inl (by omega))) (fun k hk => gI_n (Or.inr (by rintro rfl; simp at hk))) (fun _ _ _ _ => rfl) (fun _ _ _ _ => rfl) fun _ => rfl⟩
theorem RP.mx {σ : fr_S} {b : Nat → Nat} {n : Nat} {pl : Int32} {F : Nat → Nat → Nat} {a : AV} {A : VM} (h : RP σ b n pl F a A) : MX σ σ F A := ⟨h.2.1, h.2.2.2.1.1.mf, h.2.2.2.1.2.1.fw, h.2.2.2.2.2.2.1, h.2.2.2.2.2.2.2, AgM.rf⟩
/-- the machine has moved -/
theorem RP.mv {σ σ' : fr_S} {b : Nat → Nat} {n : Nat} {pl : Int32} {F : Nat → Nat → Nat} {a : AV} {A A' : VM} (h : RP σ b n pl F a A) (q : MX σ σ' F A') : RP σ' b n pl F a A' := by
  obtain ⟨⟨b1, b2, b3, b4⟩, r, p, ⟨f, w, v, mv⟩, ⟨c, hc⟩, ⟨a1, a2, a3, a4, a5, a6⟩, -, -⟩ := h
  obtain ⟨q1, -, -, q4, q5, g1, g2, g3, g4, g5⟩ := q
  have k1 : ∀ k, k ∉ [0, 26, 27, 32] → gI σ' 717 k = gI σ 717 k := g2
  exact ⟨⟨(g2 1 (by decide)).trans b1, b2, fun k hk => (g1 718 (by decide) k).trans (b3 k hk), b4⟩, q1, (g2 4 (by decide)).trans p, ⟨fun x k hx hk => (g1 _ (by simp; omega) k).trans (f x k hx hk), w, v, fun m hm => (mv m hm).ag fun o q1 q2 k => g1 o (by simp; omega) k⟩, ⟨c, (g2 20 (by decide)).trans hc⟩,
    ⟨(g2 22 (by decide)).trans a1, a2, fun k hk => (g1 733 (by decide) k).trans (a3 k hk), a4, fun k hk => (g3 734 (by decide) k).trans (a5 k hk), fun k hk => (g4 735 (by decide) k).trans (a6 k hk)⟩, q4, q5⟩

set_option maxRecDepth 100000 in
set_option maxHeartbeats 1000000 in
theorem m_thrown {l : Launch} {G : fr_G} {σ : fr_S}  : CT l G yy_Mo_thrown rm_Mo_thrown [.ref (717)] σ (some (.int (gI σ 717 0))) (σ) := by
  intro Post hp0
  have hp := hp0
  show PX l G yy_Mo_thrown rm_Mo_thrown _ false 742 0 0 0 [(0, .ref (717))] [] σ
  refine px_aload_n dx_Mo_thrown_0 rfl ?_
  refine px_getI dx_Mo_thrown_1 fl_Mo_86 rfl (by decide) rfl ?_
  exact px_iret dx_Mo_thrown_4 rfl (by exact hp)
set_option maxRecDepth 100000 in
set_option maxHeartbeats 1000000 in
theorem m_place {l : Launch} {G : fr_G} {σ : fr_S} {b : Nat → Nat} {n : Nat} {pl : Int32} {F : Nat → Nat → Nat} {a : AV} {A : VM} (hP : RP σ b n pl F a A) : CT l G yy_Mo_place rm_Mo_place [.ref (717)] σ (some (.int (pl))) (sI σ 717 0 0) := by
  intro Post hp0
  have hp := hp0
  show PX l G yy_Mo_place rm_Mo_place _ false 742 0 0 0 [(0, .ref (717))] [] σ
  have hn220 := hP.1.2.1
  have hW := hP.2.2.2.1.2.1.fw
  have h04 := hW.1
  have h14 := hW.2.1
  have hb0 := hP.2.2.2.2.2.2.2.1
  have hb1 := hP.2.2.2.2.2.2.2.2.1
  have hb4 := hP.2.2.2.2.2.2.2.2.2.2.2
  have ha3 := hP.2.2.2.2.2.1.2.1
  refine px_aload_n dx_Mo_place_0 rfl ?_
  refine px_iconst (v := 0) dx_Mo_place_1 rfl ?_
  refine px_putI dx_Mo_place_2 fl_Mo_86 rfl (by decide) rfl ?_
  refine px_aload_n dx_Mo_place_5 rfl ?_
  refine px_getI dx_Mo_place_6 fl_Mo_13 rfl (by decide) rfl ?_
  refine px_eqi (y := pl) (Eq.trans (gI_n (Or.inr (by decide))) hP.2.2.1) ?_
  exact px_iret dx_Mo_place_9 rfl (by exact hp)
set_option maxRecDepth 100000 in
set_option maxHeartbeats 1000000 in
theorem m_state {l : Launch} {G : fr_G} {σ : fr_S} {b : Nat → Nat} {n : Nat} {pl : Int32} {F : Nat → Nat → Nat} {a : AV} {A : VM} (hP : RP σ b n pl F a A) : CT l G yy_Mo_state rm_Mo_state [.ref (717)] σ (some (.int (nI (A.1 0 0)))) (sI σ 717 0 0) := by
  intro Post hp0
  have hp := hp0
  show PX l G yy_Mo_state rm_Mo_state _ false 742 0 0 0 [(0, .ref (717))] [] σ
  have hn220 := hP.1.2.1
  have hW := hP.2.2.2.1.2.1.fw
  have h04 := hW.1
  have h14 := hW.2.1
  have hb0 := hP.2.2.2.2.2.2.2.1
  have hb1 := hP.2.2.2.2.2.2.2.2.1
  have hb4 := hP.2.2.2.2.2.2.2.2.2.2.2
  have ha3 := hP.2.2.2.2.2.1.2.1
  refine px_aload_n dx_Mo_state_0 rfl ?_
  refine px_iconst (v := 0) dx_Mo_state_1 rfl ?_
  refine px_putI dx_Mo_state_2 fl_Mo_86 rfl (by decide) rfl ?_
  refine px_aload_n dx_Mo_state_5 rfl ?_
  refine px_getI dx_Mo_state_6 fl_Mo_127 rfl (by decide) rfl ?_
  refine px_eqi (y := nI (A.1 0 0)) (Eq.trans (gI_n (Or.inr (by decide))) hP.2.2.2.2.2.2.1.1) ?_
  exact px_iret dx_Mo_state_9 rfl (by exact hp)
set_option maxRecDepth 100000 in
set_option maxHeartbeats 1000000 in
theorem m_calls {l : Launch} {G : fr_G} {σ : fr_S} {b : Nat → Nat} {n : Nat} {pl : Int32} {F : Nat → Nat → Nat} {a : AV} {A : VM} (hP : RP σ b n pl F a A) : CT l G yy_Mo_calls rm_Mo_calls [.ref (717)] σ (some (.int (nI (if A.1 0 0 = 1 then A.1 1 0 else 0)))) (sI σ 717 0 0) := by
  intro Post hp0
  have hp := hp0
  show PX l G yy_Mo_calls rm_Mo_calls _ false 742 0 0 0 [(0, .ref (717))] [] σ
  have hn220 := hP.1.2.1
  have hW := hP.2.2.2.1.2.1.fw
  have h04 := hW.1
  have h14 := hW.2.1
  have hb0 := hP.2.2.2.2.2.2.2.1
  have hb1 := hP.2.2.2.2.2.2.2.2.1
  have hb4 := hP.2.2.2.2.2.2.2.2.2.2.2
  have ha3 := hP.2.2.2.2.2.1.2.1
  refine px_aload_n dx_Mo_calls_0 rfl ?_
  refine px_iconst (v := 0) dx_Mo_calls_1 rfl ?_
  refine px_putI dx_Mo_calls_2 fl_Mo_86 rfl (by decide) rfl ?_
  refine px_aload_n dx_Mo_calls_5 rfl ?_
  refine px_getI dx_Mo_calls_6 fl_Mo_127 rfl (by decide) rfl ?_
  refine px_eqi (y := nI (A.1 0 0)) (Eq.trans (gI_n (Or.inr (by decide))) hP.2.2.2.2.2.2.1.1) ?_
  refine px_iconst (v := 1) dx_Mo_calls_9 rfl ?_
  refine px_icmp_neN (a := A.1 0 0) (b := 1) dx_Mo_calls_10 (by omega) (by omega) (fun c_10 => ?_) (fun c_10 => ?_)
  · refine px_iconst (v := 0) dx_Mo_calls_20 rfl ?_
    exact px_iret dx_Mo_calls_21 rfl (by (first | rw [if_pos c_10] at hp | rw [if_neg c_10] at hp); exact hp)
  · refine px_aload_n dx_Mo_calls_13 rfl ?_
    refine px_getI dx_Mo_calls_14 fl_Mo_130 rfl (by decide) rfl ?_
    refine px_eqi (y := nI (A.1 1 0)) (Eq.trans (gI_n (Or.inr (by decide))) hP.2.2.2.2.2.2.1.2.1) ?_
    refine px_goto dx_Mo_calls_17 ?_
    exact px_iret dx_Mo_calls_21 rfl (by (first | rw [if_pos c_10] at hp | rw [if_neg c_10] at hp); exact hp)
def vlA (A : VM) : Int64 := if A.1 0 0 = 2 then (if A.1 4 0 = 3 ∨ A.1 4 0 = 4 then FP.d2l (A.2.2.1 60) else A.2.1 60) else 0
def rlA (A : VM) : UInt64 := if A.1 0 0 = 2 then (if A.1 4 0 = 3 ∨ A.1 4 0 = 4 then A.2.2.1 60 else FP.l2d (A.2.1 60)) else 0

set_option maxRecDepth 100000 in
set_option maxHeartbeats 1000000 in
theorem m_value {l : Launch} {G : fr_G} {σ : fr_S} {b : Nat → Nat} {n : Nat} {pl : Int32} {F : Nat → Nat → Nat} {a : AV} {A : VM} (hP : RP σ b n pl F a A) : CT l G yy_Mo_value rm_Mo_value [.ref (717)] σ (some (.long (vlA A))) (sI σ 717 0 0) := by
  intro Post hp0
  have hp := hp0
  show PX l G yy_Mo_value rm_Mo_value _ false 742 0 0 0 [(0, .ref (717))] [] σ
  have hn220 := hP.1.2.1
  have hW := hP.2.2.2.1.2.1.fw
  have h04 := hW.1
  have h14 := hW.2.1
  have hb0 := hP.2.2.2.2.2.2.2.1
  have hb1 := hP.2.2.2.2.2.2.2.2.1
  have hb4 := hP.2.2.2.2.2.2.2.2.2.2.2
  have ha3 := hP.2.2.2.2.2.1.2.1
  refine px_aload_n dx_Mo_value_0 rfl ?_
  refine px_iconst (v := 0) dx_Mo_value_1 rfl ?_
  refine px_putI dx_Mo_value_2 fl_Mo_86 rfl (by decide) rfl ?_
  refine px_aload_n dx_Mo_value_5 rfl ?_
  refine px_getI dx_Mo_value_6 fl_Mo_127 rfl (by decide) rfl ?_
  refine px_eqi (y := nI (A.1 0 0)) (Eq.trans (gI_n (Or.inr (by decide))) hP.2.2.2.2.2.2.1.1) ?_
  refine px_iconst (v := 2) dx_Mo_value_9 rfl ?_
  refine px_icmp_eqN (a := A.1 0 0) (b := 2) dx_Mo_value_10 (by omega) (by omega) (fun c_10 => ?_) (fun c_10 => ?_)
  · refine px_aload_n dx_Mo_value_15 rfl ?_
    refine px_getI dx_Mo_value_16 fl_Mo_133 rfl (by decide) rfl ?_
    refine px_eqi (y := nI (A.1 4 0)) (Eq.trans (gI_n (Or.inr (by decide))) hP.2.2.2.2.2.2.1.2.2.2.2.1) ?_
    refine px_iconst (v := 3) dx_Mo_value_19 rfl ?_
    refine px_icmp_eqN (a := A.1 4 0) (b := 3) dx_Mo_value_20 (by omega) (by omega) (fun c_20 => ?_) (fun c_20 => ?_)
    · refine px_aload_n dx_Mo_value_31 rfl ?_
      refine px_getD dx_Mo_value_32 fl_Mo_140 rfl (by decide) rfl ?_
      refine px_eqd (y := A.2.2.1 60) hP.2.2.2.2.2.2.1.2.2.2.2.2.2.2.2.1 ?_
      refine px_d2l dx_Mo_value_35 ?_
      refine px_goto dx_Mo_value_36 ?_
      exact px_lret dx_Mo_value_43 rfl (by (have e : vlA A = FP.d2l (A.2.2.1 60) := by (unfold vlA; first | rw [if_neg c_10] | (rw [if_pos c_10, if_pos (by omega)]) | (rw [if_pos c_10, if_neg (by omega)]))); rw [e] at hp; exact hp)
    · refine px_aload_n dx_Mo_value_23 rfl ?_
      refine px_getI dx_Mo_value_24 fl_Mo_133 rfl (by decide) rfl ?_
      refine px_eqi (y := nI (A.1 4 0)) (Eq.trans (gI_n (Or.inr (by decide))) hP.2.2.2.2.2.2.1.2.2.2.2.1) ?_
      refine px_iconst (v := 4) dx_Mo_value_27 rfl ?_
      refine px_icmp_neN (a := A.1 4 0) (b := 4) dx_Mo_value_28 (by omega) (by omega) (fun c_28 => ?_) (fun c_28 => ?_)
      · refine px_aload_n dx_Mo_value_39 rfl ?_
        refine px_getL dx_Mo_value_40 fl_Mo_136 rfl (by decide) rfl ?_
        refine px_eql (y := A.2.1 60) hP.2.2.2.2.2.2.1.2.2.2.2.2.2.1 ?_
        exact px_lret dx_Mo_value_43 rfl (by (have e : vlA A = A.2.1 60 := by (unfold vlA; first | rw [if_neg c_10] | (rw [if_pos c_10, if_pos (by omega)]) | (rw [if_pos c_10, if_neg (by omega)]))); rw [e] at hp; exact hp)
      · refine px_aload_n dx_Mo_value_31 rfl ?_
        refine px_getD dx_Mo_value_32 fl_Mo_140 rfl (by decide) rfl ?_
        refine px_eqd (y := A.2.2.1 60) hP.2.2.2.2.2.2.1.2.2.2.2.2.2.2.2.1 ?_
        refine px_d2l dx_Mo_value_35 ?_
        refine px_goto dx_Mo_value_36 ?_
        exact px_lret dx_Mo_value_43 rfl (by (have e : vlA A = FP.d2l (A.2.2.1 60) := by (unfold vlA; first | rw [if_neg c_10] | (rw [if_pos c_10, if_pos (by omega)]) | (rw [if_pos c_10, if_neg (by omega)]))); rw [e] at hp; exact hp)
  · refine px_lconst (v := 0) dx_Mo_value_13 rfl ?_
    exact px_lret dx_Mo_value_14 rfl (by (have e : vlA A = 0 := by (unfold vlA; first | rw [if_neg c_10] | (rw [if_pos c_10, if_pos (by omega)]) | (rw [if_pos c_10, if_neg (by omega)]))); rw [e] at hp; exact hp)
set_option maxRecDepth 100000 in
set_option maxHeartbeats 1000000 in
theorem m_real {l : Launch} {G : fr_G} {σ : fr_S} {b : Nat → Nat} {n : Nat} {pl : Int32} {F : Nat → Nat → Nat} {a : AV} {A : VM} (hP : RP σ b n pl F a A) : CT l G yy_Mo_real rm_Mo_real [.ref (717)] σ (some (.double (rlA A))) (sI σ 717 0 0) := by
  intro Post hp0
  have hp := hp0
  show PX l G yy_Mo_real rm_Mo_real _ false 742 0 0 0 [(0, .ref (717))] [] σ
  have hn220 := hP.1.2.1
  have hW := hP.2.2.2.1.2.1.fw
  have h04 := hW.1
  have h14 := hW.2.1
  have hb0 := hP.2.2.2.2.2.2.2.1
  have hb1 := hP.2.2.2.2.2.2.2.2.1
  have hb4 := hP.2.2.2.2.2.2.2.2.2.2.2
  have ha3 := hP.2.2.2.2.2.1.2.1
  refine px_aload_n dx_Mo_real_0 rfl ?_
  refine px_iconst (v := 0) dx_Mo_real_1 rfl ?_
  refine px_putI dx_Mo_real_2 fl_Mo_86 rfl (by decide) rfl ?_
  refine px_aload_n dx_Mo_real_5 rfl ?_
  refine px_getI dx_Mo_real_6 fl_Mo_127 rfl (by decide) rfl ?_
  refine px_eqi (y := nI (A.1 0 0)) (Eq.trans (gI_n (Or.inr (by decide))) hP.2.2.2.2.2.2.1.1) ?_
  refine px_iconst (v := 2) dx_Mo_real_9 rfl ?_
  refine px_icmp_eqN (a := A.1 0 0) (b := 2) dx_Mo_real_10 (by omega) (by omega) (fun c_10 => ?_) (fun c_10 => ?_)
  · refine px_aload_n dx_Mo_real_15 rfl ?_
    refine px_getI dx_Mo_real_16 fl_Mo_133 rfl (by decide) rfl ?_
    refine px_eqi (y := nI (A.1 4 0)) (Eq.trans (gI_n (Or.inr (by decide))) hP.2.2.2.2.2.2.1.2.2.2.2.1) ?_
    refine px_iconst (v := 3) dx_Mo_real_19 rfl ?_
    refine px_icmp_eqN (a := A.1 4 0) (b := 3) dx_Mo_real_20 (by omega) (by omega) (fun c_20 => ?_) (fun c_20 => ?_)
    · refine px_aload_n dx_Mo_real_31 rfl ?_
      refine px_getD dx_Mo_real_32 fl_Mo_140 rfl (by decide) rfl ?_
      refine px_eqd (y := A.2.2.1 60) hP.2.2.2.2.2.2.1.2.2.2.2.2.2.2.2.1 ?_
      refine px_goto dx_Mo_real_35 ?_
      exact px_dret dx_Mo_real_43 rfl (by (have e : rlA A = A.2.2.1 60 := by (unfold rlA; first | rw [if_neg c_10] | (rw [if_pos c_10, if_pos (by omega)]) | (rw [if_pos c_10, if_neg (by omega)]))); rw [e] at hp; exact hp)
    · refine px_aload_n dx_Mo_real_23 rfl ?_
      refine px_getI dx_Mo_real_24 fl_Mo_133 rfl (by decide) rfl ?_
      refine px_eqi (y := nI (A.1 4 0)) (Eq.trans (gI_n (Or.inr (by decide))) hP.2.2.2.2.2.2.1.2.2.2.2.1) ?_
      refine px_iconst (v := 4) dx_Mo_real_27 rfl ?_
      refine px_icmp_neN (a := A.1 4 0) (b := 4) dx_Mo_real_28 (by omega) (by omega) (fun c_28 => ?_) (fun c_28 => ?_)
      · refine px_aload_n dx_Mo_real_38 rfl ?_
        refine px_getL dx_Mo_real_39 fl_Mo_136 rfl (by decide) rfl ?_
        refine px_eql (y := A.2.1 60) hP.2.2.2.2.2.2.1.2.2.2.2.2.2.1 ?_
        refine px_l2d dx_Mo_real_42 ?_
        exact px_dret dx_Mo_real_43 rfl (by (have e : rlA A = FP.l2d (A.2.1 60) := by (unfold rlA; first | rw [if_neg c_10] | (rw [if_pos c_10, if_pos (by omega)]) | (rw [if_pos c_10, if_neg (by omega)]))); rw [e] at hp; exact hp)
      · refine px_aload_n dx_Mo_real_31 rfl ?_
        refine px_getD dx_Mo_real_32 fl_Mo_140 rfl (by decide) rfl ?_
        refine px_eqd (y := A.2.2.1 60) hP.2.2.2.2.2.2.1.2.2.2.2.2.2.2.2.1 ?_
        refine px_goto dx_Mo_real_35 ?_
        exact px_dret dx_Mo_real_43 rfl (by (have e : rlA A = A.2.2.1 60 := by (unfold rlA; first | rw [if_neg c_10] | (rw [if_pos c_10, if_pos (by omega)]) | (rw [if_pos c_10, if_neg (by omega)]))); rw [e] at hp; exact hp)
  · refine px_dconst0 dx_Mo_real_13 ?_
    exact px_dret dx_Mo_real_14 rfl (by (have e : rlA A = 0 := by (unfold rlA; first | rw [if_neg c_10] | (rw [if_pos c_10, if_pos (by omega)]) | (rw [if_pos c_10, if_neg (by omega)]))); rw [e] at hp; exact hp)
/-- whether there is such a method -/
def imO (F : Nat → Nat → Nat) (x : Int32) : Bool := decide (¬ x < 0 ∧ x < nI (F 0 0))
theorem im_cs {F : Nat → Nat → Nat} {x : Int32} : (∃ m, m < F 0 0 ∧ x = nI m) ∨ imO F x = false := by
  by_cases h : ¬ x < 0 ∧ x < nI (F 0 0)
  · left
    obtain ⟨j, hj, rfl⟩ := nI_of h.1
    by_cases h3 : F 0 0 < 2 ^ 31
    · exact ⟨j, (nI_ltI hj h3).mp h.2, rfl⟩
    · exact ⟨j, by omega, rfl⟩
  · exact Or.inr (decide_eq_false h)
theorem im_nI {F : Nat → Nat → Nat} {m : Nat} (h4 : F 0 0 ≤ 4) (h : m < F 0 0) : imO F (nI m) = true := decide_eq_true ⟨nI_pos (by omega), (nI_ltI (by omega) (by omega)).mpr h⟩
/-- what verifying says of a method -/
def vdM (F : Nat → Nat → Nat) (m : Nat) : Int32 := if fif F (bgF F m) m 40 0 none = -1 then bfI (vrR F m).2 else fif F (bgF F m) m 40 0 none
/-- the type of a register before an instruction -/
def tyM (F : Nat → Nat → Nat) (m p r : Nat) : Int32 := if r < F 5 m ∧ fif F (bgF F m) m 40 0 none = -1 ∧ p < F 6 m ∧ bgF F m p = true ∧ (vrR F m).1.2.1 p = true then nI ((vrR F m).1.1 p r) else -1
def byO (x : Int32) : Nat := x.toBitVec.toNat % 256
theorem byO_and (x : Int32) : x &&& 255 = nI (byO x) := by
  apply Int32.toBitVec_inj.mp
  apply BitVec.eq_of_toNat_eq
  show (x.toBitVec &&& 255#32).toNat = (BitVec.ofNat 32 (byO x)).toNat
  rw [BitVec.toNat_and]
  show x.toBitVec.toNat &&& (2 ^ 8 - 1) = _
  rw [Nat.and_two_pow_sub_one_eq_mod, BitVec.toNat_ofNat]
  unfold byO
  exact (Nat.mod_eq_of_lt (Nat.lt_of_lt_of_le (Nat.mod_lt _ (by decide)) (by decide))).symm

set_option maxRecDepth 100000 in
set_option maxHeartbeats 1000000 in
theorem m_isMethod {l : Launch} {G : fr_G} {σ : fr_S} {b : Nat → Nat} {n : Nat} {pl : Int32} {F : Nat → Nat → Nat} {a : AV} {A : VM} (hP : RP σ b n pl F a A) {x : Int32} : CT l G yy_Mo_isMethod rm_Mo_isMethod [.ref (717), .int (x)] σ (some (.int (b2i (imO F x)))) (σ) := by
  intro Post hp0
  have hp := hp0
  show PX l G yy_Mo_isMethod rm_Mo_isMethod _ false 742 0 0 0 [(0, .ref (717)), (1, .int (x))] [] σ
  have hn220 := hP.1.2.1
  have hW := hP.2.2.2.1.2.1.fw
  have h04 := hW.1
  have h14 := hW.2.1
  have hb0 := hP.2.2.2.2.2.2.2.1
  have hb1 := hP.2.2.2.2.2.2.2.2.1
  have hb4 := hP.2.2.2.2.2.2.2.2.2.2.2
  have ha3 := hP.2.2.2.2.2.1.2.1
  refine px_iload_n dx_Mo_isMethod_0 rfl ?_
  refine px_if_lt dx_Mo_isMethod_1 (fun c_1 => ?_) (fun c_1 => ?_)
  · refine px_iconst (v := 0) dx_Mo_isMethod_18 rfl ?_
    exact px_zret dx_Mo_isMethod_19 rfl (by decide) (by (have e : imO F x = false := by (unfold imO; first | exact decide_eq_true ⟨c_1, ge_lt c_11⟩ | exact decide_eq_false (fun q => q.1 c_1) | exact decide_eq_false (fun q => not_lt_ge c_11 q.2))); rw [e] at hp; exact hp)
  · refine px_iload_n dx_Mo_isMethod_4 rfl ?_
    refine px_aload_n dx_Mo_isMethod_5 rfl ?_
    refine px_getR (r := 719) dx_Mo_isMethod_6 fl_Mo_17 rfl (by decide) rfl (hP.2.1 6) ?_
    refine px_iconst (v := 0) dx_Mo_isMethod_9 rfl ?_
    refine px_ialdN (j := 0) dx_Mo_isMethod_10 rfl (by decide) (by decide) ?_
    refine px_eqi (y := nI (F 0 0)) (hP.2.2.2.1.1 0 0 (by decide) (by first | decide | (show _ < 2; omega))) ?_
    refine px_icmp_ge dx_Mo_isMethod_11 (fun c_11 => ?_) (fun c_11 => ?_)
    · refine px_iconst (v := 0) dx_Mo_isMethod_18 rfl ?_
      exact px_zret dx_Mo_isMethod_19 rfl (by decide) (by (have e : imO F x = false := by (unfold imO; first | exact decide_eq_true ⟨c_1, ge_lt c_11⟩ | exact decide_eq_false (fun q => q.1 c_1) | exact decide_eq_false (fun q => not_lt_ge c_11 q.2))); rw [e] at hp; exact hp)
    · refine px_iconst (v := 1) dx_Mo_isMethod_14 rfl ?_
      refine px_goto dx_Mo_isMethod_15 ?_
      exact px_zret dx_Mo_isMethod_19 rfl (by decide) (by (have e : imO F x = true := by (unfold imO; first | exact decide_eq_true ⟨c_1, ge_lt c_11⟩ | exact decide_eq_false (fun q => q.1 c_1) | exact decide_eq_false (fun q => not_lt_ge c_11 q.2))); rw [e] at hp; exact hp)
set_option maxRecDepth 100000 in
set_option maxHeartbeats 1000000 in
theorem m_verify_n {l : Launch} {G : fr_G} {σ : fr_S} {b : Nat → Nat} {n : Nat} {pl : Int32} {F : Nat → Nat → Nat} {a : AV} {A : VM} (hP : RP σ b n pl F a A) {x : Int32} (hx : imO F x = false) : CT l G yy_Mo_verify rm_Mo_verify [.ref (717), .int (x)] σ (some (.int (-2))) (sI σ 717 0 0) := by
  intro Post hp0
  have hp := hp0
  show PX l G yy_Mo_verify rm_Mo_verify _ false 742 0 0 0 [(0, .ref (717)), (1, .int (x))] [] σ
  have hn220 := hP.1.2.1
  have hW := hP.2.2.2.1.2.1.fw
  have h04 := hW.1
  have h14 := hW.2.1
  have hb0 := hP.2.2.2.2.2.2.2.1
  have hb1 := hP.2.2.2.2.2.2.2.2.1
  have hb4 := hP.2.2.2.2.2.2.2.2.2.2.2
  have ha3 := hP.2.2.2.2.2.1.2.1
  refine px_aload_n dx_Mo_verify_0 rfl ?_
  refine px_iconst (v := 0) dx_Mo_verify_1 rfl ?_
  refine px_putI dx_Mo_verify_2 fl_Mo_86 rfl (by decide) rfl ?_
  refine px_aload_n dx_Mo_verify_5 rfl ?_
  refine px_iload_n dx_Mo_verify_6 rfl ?_
  refine px_cV (Y := yy_Mo_verify) (Yc := yy_Mo_isMethod) (b := 717) (As := [.int (x)]) dx_Mo_verify_7 ml_Mo_295 mv_Mo_isMethod np_Mo_isMethod ⟨_, rfl⟩ (by decide) rfl (by decide) rfl (Nat.le_of_ble_eq_true rfl) (Nat.le_of_ble_eq_true rfl) rk_Mo_verify_Mo_isMethod rfl (m_isMethod (n := n) (b := b) (pl := pl) (F := F) (a := a) (A := A) hP.c) zz_0 ?_
  refine px_if_neB dx_Mo_verify_10 (fun c_10 => ?_) (fun c_10 => ?_)
  · exact absurd (hx.symm.trans c_10) (by decide)
  · refine px_bipush (v := -2) dx_Mo_verify_13 rfl ?_
    exact px_iret dx_Mo_verify_15 rfl (by exact hp)
set_option maxRecDepth 100000 in
set_option maxHeartbeats 1000000 in
theorem m_verify_m {l : Launch} {G : fr_G} {σ : fr_S} {b : Nat → Nat} {n : Nat} {pl : Int32} {F : Nat → Nat → Nat} {a : AV} {A : VM} (hP : RP σ b n pl F a A) {m : Nat} (hm : m < F 0 0) : CT l G yy_Mo_verify rm_Mo_verify [.ref (717), .int (nI (m))] σ (some (.int (vdM F m))) (sI σ 717 0 0) := by
  intro Post hp0
  have hp := hp0
  show PX l G yy_Mo_verify rm_Mo_verify _ false 742 0 0 0 [(0, .ref (717)), (1, .int (nI (m)))] [] σ
  have hn220 := hP.1.2.1
  have hW := hP.2.2.2.1.2.1.fw
  have h04 := hW.1
  have h14 := hW.2.1
  have hb0 := hP.2.2.2.2.2.2.2.1
  have hb1 := hP.2.2.2.2.2.2.2.2.1
  have hb4 := hP.2.2.2.2.2.2.2.2.2.2.2
  have ha3 := hP.2.2.2.2.2.1.2.1
  obtain ⟨hv1, hv2, hv3, hv4⟩ := hP.2.2.2.1.2.2.2 m hm
  have h64 := hW.2.2.2.2.2.2.1 m
  have h510 := hW.2.2.2.2.2.1 m
  refine px_aload_n dx_Mo_verify_0 rfl ?_
  refine px_iconst (v := 0) dx_Mo_verify_1 rfl ?_
  refine px_putI dx_Mo_verify_2 fl_Mo_86 rfl (by decide) rfl ?_
  refine px_aload_n dx_Mo_verify_5 rfl ?_
  refine px_iload_n dx_Mo_verify_6 rfl ?_
  refine px_cV (Y := yy_Mo_verify) (Yc := yy_Mo_isMethod) (b := 717) (As := [.int (nI (m))]) dx_Mo_verify_7 ml_Mo_295 mv_Mo_isMethod np_Mo_isMethod ⟨_, rfl⟩ (by decide) rfl (by decide) rfl (Nat.le_of_ble_eq_true rfl) (Nat.le_of_ble_eq_true rfl) rk_Mo_verify_Mo_isMethod rfl (m_isMethod (n := n) (b := b) (pl := pl) (F := F) (a := a) (A := A) hP.c) zz_0 ?_
  refine px_if_neB dx_Mo_verify_10 (fun c_10 => ?_) (fun c_10 => ?_)
  · refine px_aload_n dx_Mo_verify_16 rfl ?_
    refine px_getR (r := 727) dx_Mo_verify_17 fl_Mo_41 rfl (by decide) rfl (hP.2.1 14) ?_
    refine px_iload_n dx_Mo_verify_20 rfl ?_
    refine px_ialdN (j := m) dx_Mo_verify_21 rfl (by decide) (by omega) ?_
    refine px_eqi (y := fif F (bgF F m) m 40 0 none) (Eq.trans (gI_n (Or.inl (by decide))) hv1) ?_
    refine px_if_lt dx_Mo_verify_22 (fun c_22 => ?_) (fun c_22 => ?_)
    · refine px_aload_n dx_Mo_verify_34 rfl ?_
      refine px_getR (r := 728) dx_Mo_verify_35 fl_Mo_44 rfl (by decide) rfl (hP.2.1 15) ?_
      refine px_iload_n dx_Mo_verify_38 rfl ?_
      refine px_ialdN (j := m) dx_Mo_verify_39 rfl (by decide) (by omega) ?_
      refine px_eqi (y := gI σ 728 m) (Eq.trans (gI_n (Or.inl (by decide))) rfl) ?_
      exact px_iret dx_Mo_verify_40 rfl (by (have hff : fif F (bgF F m) m 40 0 none = -1 := (fif_cs hW).elim id (fun q => by (obtain ⟨j, hj, e⟩ := q; rw [e] at c_22; exact absurd c_22 (nI_pos (by omega))))); (have e : gI σ 728 m = vdM F m := by (unfold vdM; rw [if_pos hff]; exact (hv3 hff).2.2)); rw [e]; exact hp)
    · refine px_aload_n dx_Mo_verify_25 rfl ?_
      refine px_getR (r := 727) dx_Mo_verify_26 fl_Mo_41 rfl (by decide) rfl (hP.2.1 14) ?_
      refine px_iload_n dx_Mo_verify_29 rfl ?_
      refine px_ialdN (j := m) dx_Mo_verify_30 rfl (by decide) (by omega) ?_
      refine px_eqi (y := fif F (bgF F m) m 40 0 none) (Eq.trans (gI_n (Or.inl (by decide))) hv1) ?_
      refine px_goto dx_Mo_verify_31 ?_
      exact px_iret dx_Mo_verify_40 rfl (by (have hff : ¬ fif F (bgF F m) m 40 0 none = -1 := fun q => by (rw [q] at c_22; exact c_22 (by decide))); (have e : vdM F m = fif F (bgF F m) m 40 0 none := by (unfold vdM; rw [if_neg hff])); rw [e] at hp; exact hp)
  · exact absurd ((im_nI h04 hm).symm.trans c_10) (by decide)
set_option maxRecDepth 100000 in
set_option maxHeartbeats 1000000 in
theorem m_type_n {l : Launch} {G : fr_G} {σ : fr_S} {b : Nat → Nat} {n : Nat} {pl : Int32} {F : Nat → Nat → Nat} {a : AV} {A : VM} (hP : RP σ b n pl F a A) {x u r : Int32} (hx : imO F x = false ∨ u < 0) : CT l G yy_Mo_type rm_Mo_type [.ref (717), .int (x), .int (u), .int (r)] σ (some (.int (-1))) (sI σ 717 0 0) := by
  intro Post hp0
  have hp := hp0
  show PX l G yy_Mo_type rm_Mo_type _ false 742 0 0 0 [(0, .ref (717)), (1, .int (x)), (2, .int (u)), (3, .int (r))] [] σ
  have hn220 := hP.1.2.1
  have hW := hP.2.2.2.1.2.1.fw
  have h04 := hW.1
  have h14 := hW.2.1
  have hb0 := hP.2.2.2.2.2.2.2.1
  have hb1 := hP.2.2.2.2.2.2.2.2.1
  have hb4 := hP.2.2.2.2.2.2.2.2.2.2.2
  have ha3 := hP.2.2.2.2.2.1.2.1
  refine px_aload_n dx_Mo_type_0 rfl ?_
  refine px_iconst (v := 0) dx_Mo_type_1 rfl ?_
  refine px_putI dx_Mo_type_2 fl_Mo_86 rfl (by decide) rfl ?_
  refine px_aload_n dx_Mo_type_5 rfl ?_
  refine px_iload_n dx_Mo_type_6 rfl ?_
  refine px_cV (Y := yy_Mo_type) (Yc := yy_Mo_isMethod) (b := 717) (As := [.int (x)]) dx_Mo_type_7 ml_Mo_295 mv_Mo_isMethod np_Mo_isMethod ⟨_, rfl⟩ (by decide) rfl (by decide) rfl (Nat.le_of_ble_eq_true rfl) (Nat.le_of_ble_eq_true rfl) rk_Mo_type_Mo_isMethod rfl (m_isMethod (n := n) (b := b) (pl := pl) (F := F) (a := a) (A := A) hP.c) zz_0 ?_
  refine px_if_eqB dx_Mo_type_10 (fun c_10 => ?_) (fun c_10 => ?_)
  · refine px_iconst (v := -1) dx_Mo_type_17 rfl ?_
    exact px_iret dx_Mo_type_18 rfl (by exact hp)
  · refine px_iload_n dx_Mo_type_13 rfl ?_
    refine px_if_ge dx_Mo_type_14 (fun c_14 => ?_) (fun c_14 => ?_)
    · exact hx.elim (fun q => absurd (q.symm.trans c_10) (by decide)) (fun q => absurd q (not_lt_ge c_14))
    · refine px_iconst (v := -1) dx_Mo_type_17 rfl ?_
      exact px_iret dx_Mo_type_18 rfl (by exact hp)
set_option maxRecDepth 100000 in
set_option maxHeartbeats 1000000 in
theorem m_type_r {l : Launch} {G : fr_G} {σ : fr_S} {b : Nat → Nat} {n : Nat} {pl : Int32} {F : Nat → Nat → Nat} {a : AV} {A : VM} (hP : RP σ b n pl F a A) {m p : Nat} (hm : m < F 0 0) (hp31 : p < 2 ^ 31) {r : Int32} (hr : r < 0) : CT l G yy_Mo_type rm_Mo_type [.ref (717), .int (nI (m)), .int (nI (p)), .int (r)] σ (some (.int (-1))) (sI σ 717 0 0) := by
  intro Post hp0
  have hp := hp0
  show PX l G yy_Mo_type rm_Mo_type _ false 742 0 0 0 [(0, .ref (717)), (1, .int (nI (m))), (2, .int (nI (p))), (3, .int (r))] [] σ
  have hn220 := hP.1.2.1
  have hW := hP.2.2.2.1.2.1.fw
  have h04 := hW.1
  have h14 := hW.2.1
  have hb0 := hP.2.2.2.2.2.2.2.1
  have hb1 := hP.2.2.2.2.2.2.2.2.1
  have hb4 := hP.2.2.2.2.2.2.2.2.2.2.2
  have ha3 := hP.2.2.2.2.2.1.2.1
  obtain ⟨hv1, hv2, hv3, hv4⟩ := hP.2.2.2.1.2.2.2 m hm
  have h64 := hW.2.2.2.2.2.2.1 m
  have h510 := hW.2.2.2.2.2.1 m
  refine px_aload_n dx_Mo_type_0 rfl ?_
  refine px_iconst (v := 0) dx_Mo_type_1 rfl ?_
  refine px_putI dx_Mo_type_2 fl_Mo_86 rfl (by decide) rfl ?_
  refine px_aload_n dx_Mo_type_5 rfl ?_
  refine px_iload_n dx_Mo_type_6 rfl ?_
  refine px_cV (Y := yy_Mo_type) (Yc := yy_Mo_isMethod) (b := 717) (As := [.int (nI (m))]) dx_Mo_type_7 ml_Mo_295 mv_Mo_isMethod np_Mo_isMethod ⟨_, rfl⟩ (by decide) rfl (by decide) rfl (Nat.le_of_ble_eq_true rfl) (Nat.le_of_ble_eq_true rfl) rk_Mo_type_Mo_isMethod rfl (m_isMethod (n := n) (b := b) (pl := pl) (F := F) (a := a) (A := A) hP.c) zz_0 ?_
  refine px_if_eqB dx_Mo_type_10 (fun c_10 => ?_) (fun c_10 => ?_)
  · exact absurd ((im_nI h04 hm).symm.trans c_10) (by decide)
  · refine px_iload_n dx_Mo_type_13 rfl ?_
    refine px_if_geN (a := p) dx_Mo_type_14 (by omega) (fun c_14 => ?_) (fun c_14 => ?_)
    · refine px_iload_n dx_Mo_type_19 rfl ?_
      refine px_if_lt dx_Mo_type_20 (fun c_20 => ?_) (fun c_20 => ?_)
      · refine px_iconst (v := -1) dx_Mo_type_52 rfl ?_
        exact px_iret dx_Mo_type_53 rfl (by exact hp)
      · exact absurd hr c_20
    · exact absurd c_14 (Nat.not_lt_zero _)
set_option maxRecDepth 100000 in
set_option maxHeartbeats 1000000 in
theorem m_type_m {l : Launch} {G : fr_G} {σ : fr_S} {b : Nat → Nat} {n : Nat} {pl : Int32} {F : Nat → Nat → Nat} {a : AV} {A : VM} (hP : RP σ b n pl F a A) {m p r : Nat} (hm : m < F 0 0) (hp31 : p < 2 ^ 31) (hr31 : r < 2 ^ 31) : CT l G yy_Mo_type rm_Mo_type [.ref (717), .int (nI (m)), .int (nI (p)), .int (nI (r))] σ (some (.int (tyM F m p r))) (sI σ 717 0 0) := by
  intro Post hp0
  have hp := hp0
  show PX l G yy_Mo_type rm_Mo_type _ false 742 0 0 0 [(0, .ref (717)), (1, .int (nI (m))), (2, .int (nI (p))), (3, .int (nI (r)))] [] σ
  have hn220 := hP.1.2.1
  have hW := hP.2.2.2.1.2.1.fw
  have h04 := hW.1
  have h14 := hW.2.1
  have hb0 := hP.2.2.2.2.2.2.2.1
  have hb1 := hP.2.2.2.2.2.2.2.2.1
  have hb4 := hP.2.2.2.2.2.2.2.2.2.2.2
  have ha3 := hP.2.2.2.2.2.1.2.1
  obtain ⟨hv1, hv2, hv3, hv4⟩ := hP.2.2.2.1.2.2.2 m hm
  have h64 := hW.2.2.2.2.2.2.1 m
  have h510 := hW.2.2.2.2.2.1 m
  refine px_aload_n dx_Mo_type_0 rfl ?_
  refine px_iconst (v := 0) dx_Mo_type_1 rfl ?_
  refine px_putI dx_Mo_type_2 fl_Mo_86 rfl (by decide) rfl ?_
  refine px_aload_n dx_Mo_type_5 rfl ?_
  refine px_iload_n dx_Mo_type_6 rfl ?_
  refine px_cV (Y := yy_Mo_type) (Yc := yy_Mo_isMethod) (b := 717) (As := [.int (nI (m))]) dx_Mo_type_7 ml_Mo_295 mv_Mo_isMethod np_Mo_isMethod ⟨_, rfl⟩ (by decide) rfl (by decide) rfl (Nat.le_of_ble_eq_true rfl) (Nat.le_of_ble_eq_true rfl) rk_Mo_type_Mo_isMethod rfl (m_isMethod (n := n) (b := b) (pl := pl) (F := F) (a := a) (A := A) hP.c) zz_0 ?_
  refine px_if_eqB dx_Mo_type_10 (fun c_10 => ?_) (fun c_10 => ?_)
  · exact absurd ((im_nI h04 hm).symm.trans c_10) (by decide)
  · refine px_iload_n dx_Mo_type_13 rfl ?_
    refine px_if_geN (a := p) dx_Mo_type_14 (by omega) (fun c_14 => ?_) (fun c_14 => ?_)
    · refine px_iload_n dx_Mo_type_19 rfl ?_
      refine px_if_ltN (a := r) dx_Mo_type_20 (by omega) (fun c_20 => ?_) (fun c_20 => ?_)
      · exact absurd c_20 (Nat.not_lt_zero _)
      · refine px_iload_n dx_Mo_type_23 rfl ?_
        refine px_aload_n dx_Mo_type_24 rfl ?_
        refine px_getR (r := 724) dx_Mo_type_25 fl_Mo_32 rfl (by decide) rfl (hP.2.1 11) ?_
        refine px_iload_n dx_Mo_type_28 rfl ?_
        refine px_ialdN (j := m) dx_Mo_type_29 rfl (by decide) (by omega) ?_
        refine px_eqi (y := nI (F 5 m)) (Eq.trans (gI_n (Or.inl (by decide))) (hP.2.2.2.1.1 5 m (by decide) (by first | decide | (show _ < 8; omega)))) ?_
        refine px_icmp_geN (a := r) (b := F 5 m) dx_Mo_type_30 (by omega) (by omega) (fun c_30 => ?_) (fun c_30 => ?_)
        · refine px_iconst (v := -1) dx_Mo_type_52 rfl ?_
          exact px_iret dx_Mo_type_53 rfl (by (have e : tyM F m p r = -1 := by (unfold tyM; rw [if_neg]; rintro ⟨q1, q2, q3, q4, q5⟩; first | (exfalso; omega) | (rw [q2] at c_39; exact absurd c_39 (by decide)) | exact absurd (q4.symm.trans c_65) (by decide) | exact absurd (q5.symm.trans c_79) (by decide))); rw [e] at hp; exact hp)
        · refine px_aload_n dx_Mo_type_33 rfl ?_
          refine px_getR (r := 727) dx_Mo_type_34 fl_Mo_41 rfl (by decide) rfl (hP.2.1 14) ?_
          refine px_iload_n dx_Mo_type_37 rfl ?_
          refine px_ialdN (j := m) dx_Mo_type_38 rfl (by decide) (by omega) ?_
          refine px_eqi (y := fif F (bgF F m) m 40 0 none) (Eq.trans (gI_n (Or.inl (by decide))) hv1) ?_
          refine px_if_ge dx_Mo_type_39 (fun c_39 => ?_) (fun c_39 => ?_)
          · refine px_iconst (v := -1) dx_Mo_type_52 rfl ?_
            exact px_iret dx_Mo_type_53 rfl (by (have e : tyM F m p r = -1 := by (unfold tyM; rw [if_neg]; rintro ⟨q1, q2, q3, q4, q5⟩; first | (exfalso; omega) | (rw [q2] at c_39; exact absurd c_39 (by decide)) | exact absurd (q4.symm.trans c_65) (by decide) | exact absurd (q5.symm.trans c_79) (by decide))); rw [e] at hp; exact hp)
          · have hff : fif F (bgF F m) m 40 0 none = -1 := (fif_cs hW).elim id (fun q => by (obtain ⟨j, hj, e⟩ := q; rw [e] at c_39; exact absurd (Int32.le_iff_toInt_le.mpr (by rw [nI_toInt (by omega)]; exact Int.natCast_nonneg _)) c_39))
            refine px_iload_n dx_Mo_type_42 rfl ?_
            refine px_aload_n dx_Mo_type_43 rfl ?_
            refine px_getR (r := 725) dx_Mo_type_44 fl_Mo_35 rfl (by decide) rfl (hP.2.1 12) ?_
            refine px_iload_n dx_Mo_type_47 rfl ?_
            refine px_ialdN (j := m) dx_Mo_type_48 rfl (by decide) (by omega) ?_
            refine px_eqi (y := nI (F 6 m)) (Eq.trans (gI_n (Or.inl (by decide))) (hP.2.2.2.1.1 6 m (by decide) (by first | decide | (show _ < 8; omega)))) ?_
            refine px_icmp_ltN (a := p) (b := F 6 m) dx_Mo_type_49 (by omega) (by omega) (fun c_49 => ?_) (fun c_49 => ?_)
            · refine px_aload_n dx_Mo_type_54 rfl ?_
              refine px_getR (r := 729) dx_Mo_type_55 fl_Mo_47 rfl (by decide) rfl (hP.2.1 16) ?_
              refine px_bipush (v := 40) dx_Mo_type_58 rfl ?_
              refine px_iload_n dx_Mo_type_60 rfl ?_
              refine px_imulN (a := 40) (b := m) dx_Mo_type_61 ?_
              refine px_iload_n dx_Mo_type_62 rfl ?_
              refine px_iaddN (a := 40 * m) (b := p) dx_Mo_type_63 ?_
              refine px_zaldN (j := (40 * m) + p) dx_Mo_type_64 rfl (by decide) (by omega) ?_
              refine px_eqi (y := b2i (bgF F m p)) (Eq.trans (gI_n (Or.inl (by decide))) (hv2 p (by omega))) ?_
              refine px_if_eqB dx_Mo_type_65 (fun c_65 => ?_) (fun c_65 => ?_)
              · refine px_iconst (v := -1) dx_Mo_type_82 rfl ?_
                exact px_iret dx_Mo_type_83 rfl (by (have e : tyM F m p r = -1 := by (unfold tyM; rw [if_neg]; rintro ⟨q1, q2, q3, q4, q5⟩; first | (exfalso; omega) | (rw [q2] at c_39; exact absurd c_39 (by decide)) | exact absurd (q4.symm.trans c_65) (by decide) | exact absurd (q5.symm.trans c_79) (by decide))); rw [e] at hp; exact hp)
              · refine px_aload_n dx_Mo_type_68 rfl ?_
                refine px_getR (r := 730) dx_Mo_type_69 fl_Mo_51 rfl (by decide) rfl (hP.2.1 17) ?_
                refine px_bipush (v := 40) dx_Mo_type_72 rfl ?_
                refine px_iload_n dx_Mo_type_74 rfl ?_
                refine px_imulN (a := 40) (b := m) dx_Mo_type_75 ?_
                refine px_iload_n dx_Mo_type_76 rfl ?_
                refine px_iaddN (a := 40 * m) (b := p) dx_Mo_type_77 ?_
                refine px_zaldN (j := (40 * m) + p) dx_Mo_type_78 rfl (by decide) (by omega) ?_
                refine px_eqi (y := b2i ((vrR F m).1.2.1 p)) (Eq.trans (gI_n (Or.inl (by decide))) ((hv3 hff).2.1 p (by omega))) ?_
                refine px_if_neB dx_Mo_type_79 (fun c_79 => ?_) (fun c_79 => ?_)
                · refine px_aload_n dx_Mo_type_84 rfl ?_
                  refine px_iload_n dx_Mo_type_85 rfl ?_
                  refine px_iload_n dx_Mo_type_86 rfl ?_
                  refine px_iload_n dx_Mo_type_87 rfl ?_
                  refine px_cV (Y := yy_Mo_type) (Yc := yy_Mo_typeAt) (b := 717) (As := [.int (nI (m)), .int (nI (p)), .int (nI (r))]) dx_Mo_type_88 ml_Mo_246 mv_Mo_typeAt np_Mo_typeAt ⟨_, rfl⟩ (by decide) rfl (by decide) rfl (Nat.le_of_ble_eq_true rfl) (Nat.le_of_ble_eq_true rfl) rk_Mo_type_Mo_typeAt rfl (m_typeAt (T := (vrR F m).1.1) hP.c.2.1 (fun p hp r hr => (gI_n (Or.inl (by decide))).trans ((hv3 hff).1 p hp r hr)) (by omega) (by omega) (by omega)) zz_0 ?_
                  exact px_iret dx_Mo_type_91 rfl (by (have e : tyM F m p r = nI ((vrR F m).1.1 p r) := by (unfold tyM; rw [if_pos ⟨by omega, hff, by omega, c_65, c_79⟩])); rw [e] at hp; exact hp)
                · refine px_iconst (v := -1) dx_Mo_type_82 rfl ?_
                  exact px_iret dx_Mo_type_83 rfl (by (have e : tyM F m p r = -1 := by (unfold tyM; rw [if_neg]; rintro ⟨q1, q2, q3, q4, q5⟩; first | (exfalso; omega) | (rw [q2] at c_39; exact absurd c_39 (by decide)) | exact absurd (q4.symm.trans c_65) (by decide) | exact absurd (q5.symm.trans c_79) (by decide))); rw [e] at hp; exact hp)
            · refine px_iconst (v := -1) dx_Mo_type_52 rfl ?_
              exact px_iret dx_Mo_type_53 rfl (by (have e : tyM F m p r = -1 := by (unfold tyM; rw [if_neg]; rintro ⟨q1, q2, q3, q4, q5⟩; first | (exfalso; omega) | (rw [q2] at c_39; exact absurd c_39 (by decide)) | exact absurd (q4.symm.trans c_65) (by decide) | exact absurd (q5.symm.trans c_79) (by decide))); rw [e] at hp; exact hp)
    · exact absurd c_14 (Nat.not_lt_zero _)
theorem byO_lt (x : Int32) : byO x < 256 := Nat.mod_lt _ (by decide)
theorem RP.byte {σ : fr_S} {b : Nat → Nat} {n : Nat} {pl : Int32} {F : Nat → Nat → Nat} {a : AV} {A : VM} (h : RP σ b n pl F a A) (hn : ¬ n = 220) {x : Nat} (hx : x < 256) : RP (sI (sI σ 718 n (nI x)) 717 1 (nI (n + 1))) (va_up b n x) (n + 1) pl F a A := by
  have h2 := h.1.2.1
  refine ⟨⟨gI_s, by omega, fun k hk => ?_, fun k => ?_⟩, h.2.cg (fun o h1 h2 _ k => (gI_n (Or.inl (by omega))).trans (gI_n (Or.inl (by omega)))) (fun k hk => (gI_n (Or.inr (by rintro rfl; simp at hk))).trans (gI_n (Or.inl (by decide)))) (fun _ _ _ _ => rfl) (fun _ _ _ _ => rfl) fun _ => rfl⟩
  · rw [gI_n (Or.inl (by decide))]
    by_cases e : k = n
    · subst e
      rw [gI_s, up_s]
    · rw [gI_n (Or.inr e), h.1.2.2.1 k hk, up_n e]
  · unfold va_up
    split
    · exact hx
    · exact h.1.2.2.2 k

set_option maxRecDepth 100000 in
set_option maxHeartbeats 1000000 in
theorem m_put {l : Launch} {G : fr_G} {σ : fr_S} {b : Nat → Nat} {n : Nat} {pl : Int32} {F : Nat → Nat → Nat} {a : AV} {A : VM} (hP : RP σ b n pl F a A) {x : Int32} : CR l G yy_Mo_put rm_Mo_put [.ref (717), .int (x)] σ (fun r0 σ' => r0 = some (.int (b2i (decide (¬ n = 220)))) ∧ RP σ' (if n = 220 then b else va_up b n (byO x)) (if n = 220 then n else n + 1) pl F a A ∧ AgC σ σ') := by
  intro Post hp0
  show PX l G yy_Mo_put rm_Mo_put _ false 742 0 0 0 [(0, .ref (717)), (1, .int (x))] [] σ
  have hn220 := hP.1.2.1
  have hW := hP.2.2.2.1.2.1.fw
  have h04 := hW.1
  have h14 := hW.2.1
  have hb0 := hP.2.2.2.2.2.2.2.1
  have hb1 := hP.2.2.2.2.2.2.2.2.1
  have hb4 := hP.2.2.2.2.2.2.2.2.2.2.2
  have ha3 := hP.2.2.2.2.2.1.2.1
  refine px_aload_n dx_Mo_put_0 rfl ?_
  refine px_iconst (v := 0) dx_Mo_put_1 rfl ?_
  refine px_putI dx_Mo_put_2 fl_Mo_86 rfl (by decide) rfl ?_
  refine px_aload_n dx_Mo_put_5 rfl ?_
  refine px_getI dx_Mo_put_6 fl_Mo_89 rfl (by decide) rfl ?_
  refine px_eqi (y := nI (n)) (Eq.trans (gI_n (Or.inr (by decide))) hP.1.1) ?_
  refine px_sipush (v := 220) dx_Mo_put_9 rfl ?_
  refine px_icmp_neN (a := n) (b := 220) dx_Mo_put_12 (by omega) (by omega) (fun c_12 => ?_) (fun c_12 => ?_)
  · refine px_aload_n dx_Mo_put_17 rfl ?_
    refine px_getR (r := 718) dx_Mo_put_18 fl_Mo_7 rfl (by decide) rfl (hP.2.1 2) ?_
    refine px_aload_n dx_Mo_put_21 rfl ?_
    refine px_getI dx_Mo_put_22 fl_Mo_89 rfl (by decide) rfl ?_
    refine px_eqi (y := nI (n)) (Eq.trans (gI_n (Or.inr (by decide))) hP.1.1) ?_
    refine px_iload_n dx_Mo_put_25 rfl ?_
    refine px_sipush (v := 255) dx_Mo_put_26 rfl ?_
    refine px_iand dx_Mo_put_29 ?_
    refine px_eqi (y := nI (byO x)) (byO_and x) ?_
    refine px_iastN (j := n) dx_Mo_put_30 rfl (by decide) (by omega) ?_
    refine px_aload_n dx_Mo_put_31 rfl ?_
    refine px_dup dx_Mo_put_32 rfl ?_
    refine px_getI dx_Mo_put_33 fl_Mo_89 rfl (by decide) rfl ?_
    refine px_eqi (y := nI (n)) (Eq.trans (gI_n (Or.inl (by decide))) (Eq.trans (gI_n (Or.inr (by decide))) hP.1.1)) ?_
    refine px_iconst (v := 1) dx_Mo_put_36 rfl ?_
    refine px_iaddN (a := n) (b := 1) dx_Mo_put_37 ?_
    refine px_putI dx_Mo_put_38 fl_Mo_89 rfl (by decide) rfl ?_
    refine px_iconst (v := 1) dx_Mo_put_41 rfl ?_
    exact px_zret dx_Mo_put_42 rfl (by decide) (by exact hp0 _ _ ⟨by rw [decide_eq_true c_12]; rfl, by rw [if_neg c_12, if_neg c_12]; exact hP.c.byte c_12 (byO_lt x), (((AgC.rf).i (by decide)).i (by decide)).i (by decide)⟩)
  · refine px_iconst (v := 0) dx_Mo_put_15 rfl ?_
    exact px_zret dx_Mo_put_16 rfl (by decide) (by exact hp0 _ _ ⟨by rw [decide_eq_false (fun q => q c_12)]; rfl, by rw [if_pos c_12, if_pos c_12]; exact hP.c, (AgC.rf).i (by decide)⟩)
set_option maxRecDepth 100000 in
set_option maxHeartbeats 1000000 in
theorem m_field_n {l : Launch} {G : fr_G} {σ : fr_S} {b : Nat → Nat} {n : Nat} {pl : Int32} {F : Nat → Nat → Nat} {a : AV} {A : VM} (hP : RP σ b n pl F a A) {x : Int32} (hx : x < 0 ∨ ¬ x < nI (F 1 0)) : CT l G yy_Mo_field rm_Mo_field [.ref (717), .int (x)] σ (some (.int (0))) (sI σ 717 0 0) := by
  intro Post hp0
  have hp := hp0
  show PX l G yy_Mo_field rm_Mo_field _ false 742 0 0 0 [(0, .ref (717)), (1, .int (x))] [] σ
  have hn220 := hP.1.2.1
  have hW := hP.2.2.2.1.2.1.fw
  have h04 := hW.1
  have h14 := hW.2.1
  have hb0 := hP.2.2.2.2.2.2.2.1
  have hb1 := hP.2.2.2.2.2.2.2.2.1
  have hb4 := hP.2.2.2.2.2.2.2.2.2.2.2
  have ha3 := hP.2.2.2.2.2.1.2.1
  refine px_aload_n dx_Mo_field_0 rfl ?_
  refine px_iconst (v := 0) dx_Mo_field_1 rfl ?_
  refine px_putI dx_Mo_field_2 fl_Mo_86 rfl (by decide) rfl ?_
  refine px_iload_n dx_Mo_field_5 rfl ?_
  refine px_if_lt dx_Mo_field_6 (fun c_6 => ?_) (fun c_6 => ?_)
  · refine px_iconst (v := 0) dx_Mo_field_19 rfl ?_
    refine px_goto dx_Mo_field_20 ?_
    exact px_iret dx_Mo_field_29 rfl (by exact hp)
  · refine px_iload_n dx_Mo_field_9 rfl ?_
    refine px_aload_n dx_Mo_field_10 rfl ?_
    refine px_getR (r := 720) dx_Mo_field_11 fl_Mo_20 rfl (by decide) rfl (hP.2.1 7) ?_
    refine px_iconst (v := 0) dx_Mo_field_14 rfl ?_
    refine px_ialdN (j := 0) dx_Mo_field_15 rfl (by decide) (by decide) ?_
    refine px_eqi (y := nI (F 1 0)) (Eq.trans (gI_n (Or.inl (by decide))) (hP.2.2.2.1.1 1 0 (by decide) (by first | decide | (show _ < 2; omega)))) ?_
    refine px_icmp_lt dx_Mo_field_16 (fun c_16 => ?_) (fun c_16 => ?_)
    · exact hx.elim (fun q => absurd q c_6) (fun q => absurd c_16 q)
    · refine px_iconst (v := 0) dx_Mo_field_19 rfl ?_
      refine px_goto dx_Mo_field_20 ?_
      exact px_iret dx_Mo_field_29 rfl (by exact hp)
set_option maxRecDepth 100000 in
set_option maxHeartbeats 1000000 in
theorem m_field_m {l : Launch} {G : fr_G} {σ : fr_S} {b : Nat → Nat} {n : Nat} {pl : Int32} {F : Nat → Nat → Nat} {a : AV} {A : VM} (hP : RP σ b n pl F a A) {k : Nat} (hk : k < F 1 0) : CT l G yy_Mo_field rm_Mo_field [.ref (717), .int (nI (k))] σ (some (.int (A.2.2.2 k))) (sI σ 717 0 0) := by
  intro Post hp0
  have hp := hp0
  show PX l G yy_Mo_field rm_Mo_field _ false 742 0 0 0 [(0, .ref (717)), (1, .int (nI (k)))] [] σ
  have hn220 := hP.1.2.1
  have hW := hP.2.2.2.1.2.1.fw
  have h04 := hW.1
  have h14 := hW.2.1
  have hb0 := hP.2.2.2.2.2.2.2.1
  have hb1 := hP.2.2.2.2.2.2.2.2.1
  have hb4 := hP.2.2.2.2.2.2.2.2.2.2.2
  have ha3 := hP.2.2.2.2.2.1.2.1
  refine px_aload_n dx_Mo_field_0 rfl ?_
  refine px_iconst (v := 0) dx_Mo_field_1 rfl ?_
  refine px_putI dx_Mo_field_2 fl_Mo_86 rfl (by decide) rfl ?_
  refine px_iload_n dx_Mo_field_5 rfl ?_
  refine px_if_ltN (a := k) dx_Mo_field_6 (by omega) (fun c_6 => ?_) (fun c_6 => ?_)
  · exact absurd c_6 (Nat.not_lt_zero _)
  · refine px_iload_n dx_Mo_field_9 rfl ?_
    refine px_aload_n dx_Mo_field_10 rfl ?_
    refine px_getR (r := 720) dx_Mo_field_11 fl_Mo_20 rfl (by decide) rfl (hP.2.1 7) ?_
    refine px_iconst (v := 0) dx_Mo_field_14 rfl ?_
    refine px_ialdN (j := 0) dx_Mo_field_15 rfl (by decide) (by decide) ?_
    refine px_eqi (y := nI (F 1 0)) (Eq.trans (gI_n (Or.inl (by decide))) (hP.2.2.2.1.1 1 0 (by decide) (by first | decide | (show _ < 2; omega)))) ?_
    refine px_icmp_ltN (a := k) (b := F 1 0) dx_Mo_field_16 (by omega) (by omega) (fun c_16 => ?_) (fun c_16 => ?_)
    · refine px_aload_n dx_Mo_field_23 rfl ?_
      refine px_getR (r := 740) dx_Mo_field_24 fl_Mo_83 rfl (by decide) rfl (hP.2.1 35) ?_
      refine px_iload_n dx_Mo_field_27 rfl ?_
      refine px_ialdN (j := k) dx_Mo_field_28 rfl (by decide) (by omega) ?_
      refine px_eqi (y := A.2.2.2 k) (Eq.trans (gI_n (Or.inl (by decide))) (hP.2.2.2.2.2.2.1.2.2.2.2.2.2.2.2.2 k (by omega))) ?_
      exact px_iret dx_Mo_field_29 rfl (by exact hp)
    · exfalso; omega
set_option maxRecDepth 100000 in
set_option maxHeartbeats 1000000 in
theorem m_at_n {l : Launch} {G : fr_G} {σ : fr_S} {b : Nat → Nat} {n : Nat} {pl : Int32} {F : Nat → Nat → Nat} {a : AV} {A : VM} (hP : RP σ b n pl F a A) {x : Int32} (hx : ¬ A.1 0 0 = 1 ∨ x < 0 ∨ ¬ x < nI (A.1 1 0)) : CT l G yy_Mo_at rm_Mo_at [.ref (717), .int (x)] σ (some (.int (-1))) (sI σ 717 0 0) := by
  intro Post hp0
  have hp := hp0
  show PX l G yy_Mo_at rm_Mo_at _ false 742 0 0 0 [(0, .ref (717)), (1, .int (x))] [] σ
  have hn220 := hP.1.2.1
  have hW := hP.2.2.2.1.2.1.fw
  have h04 := hW.1
  have h14 := hW.2.1
  have hb0 := hP.2.2.2.2.2.2.2.1
  have hb1 := hP.2.2.2.2.2.2.2.2.1
  have hb4 := hP.2.2.2.2.2.2.2.2.2.2.2
  have ha3 := hP.2.2.2.2.2.1.2.1
  refine px_aload_n dx_Mo_at_0 rfl ?_
  refine px_iconst (v := 0) dx_Mo_at_1 rfl ?_
  refine px_putI dx_Mo_at_2 fl_Mo_86 rfl (by decide) rfl ?_
  refine px_aload_n dx_Mo_at_5 rfl ?_
  refine px_getI dx_Mo_at_6 fl_Mo_127 rfl (by decide) rfl ?_
  refine px_eqi (y := nI (A.1 0 0)) (Eq.trans (gI_n (Or.inr (by decide))) hP.2.2.2.2.2.2.1.1) ?_
  refine px_iconst (v := 1) dx_Mo_at_9 rfl ?_
  refine px_icmp_neN (a := A.1 0 0) (b := 1) dx_Mo_at_10 (by omega) (by omega) (fun c_10 => ?_) (fun c_10 => ?_)
  · refine px_iconst (v := -1) dx_Mo_at_25 rfl ?_
    refine px_goto dx_Mo_at_26 ?_
    exact px_iret dx_Mo_at_42 rfl (by exact hp)
  · refine px_iload_n dx_Mo_at_13 rfl ?_
    refine px_if_lt dx_Mo_at_14 (fun c_14 => ?_) (fun c_14 => ?_)
    · refine px_iconst (v := -1) dx_Mo_at_25 rfl ?_
      refine px_goto dx_Mo_at_26 ?_
      exact px_iret dx_Mo_at_42 rfl (by exact hp)
    · refine px_iload_n dx_Mo_at_17 rfl ?_
      refine px_aload_n dx_Mo_at_18 rfl ?_
      refine px_getI dx_Mo_at_19 fl_Mo_130 rfl (by decide) rfl ?_
      refine px_eqi (y := nI (A.1 1 0)) (Eq.trans (gI_n (Or.inr (by decide))) hP.2.2.2.2.2.2.1.2.1) ?_
      refine px_icmp_lt dx_Mo_at_22 (fun c_22 => ?_) (fun c_22 => ?_)
      · exact hx.elim (fun q => absurd c_10 q) (fun q => q.elim (fun q => absurd q c_14) (fun q => absurd c_22 q))
      · refine px_iconst (v := -1) dx_Mo_at_25 rfl ?_
        refine px_goto dx_Mo_at_26 ?_
        exact px_iret dx_Mo_at_42 rfl (by exact hp)
set_option maxRecDepth 100000 in
set_option maxHeartbeats 1000000 in
theorem m_at_m {l : Launch} {G : fr_G} {σ : fr_S} {b : Nat → Nat} {n : Nat} {pl : Int32} {F : Nat → Nat → Nat} {a : AV} {A : VM} (hP : RP σ b n pl F a A) {k : Nat} (h1 : A.1 0 0 = 1) (hk : k < A.1 1 0) : CT l G yy_Mo_at rm_Mo_at [.ref (717), .int (nI (k))] σ (some (.int (nI (A.1 3 (A.1 1 0 - 1 - k))))) (sI σ 717 0 0) := by
  intro Post hp0
  have hp := hp0
  show PX l G yy_Mo_at rm_Mo_at _ false 742 0 0 0 [(0, .ref (717)), (1, .int (nI (k)))] [] σ
  have hn220 := hP.1.2.1
  have hW := hP.2.2.2.1.2.1.fw
  have h04 := hW.1
  have h14 := hW.2.1
  have hb0 := hP.2.2.2.2.2.2.2.1
  have hb1 := hP.2.2.2.2.2.2.2.2.1
  have hb4 := hP.2.2.2.2.2.2.2.2.2.2.2
  have ha3 := hP.2.2.2.2.2.1.2.1
  refine px_aload_n dx_Mo_at_0 rfl ?_
  refine px_iconst (v := 0) dx_Mo_at_1 rfl ?_
  refine px_putI dx_Mo_at_2 fl_Mo_86 rfl (by decide) rfl ?_
  refine px_aload_n dx_Mo_at_5 rfl ?_
  refine px_getI dx_Mo_at_6 fl_Mo_127 rfl (by decide) rfl ?_
  refine px_eqi (y := nI (A.1 0 0)) (Eq.trans (gI_n (Or.inr (by decide))) hP.2.2.2.2.2.2.1.1) ?_
  refine px_iconst (v := 1) dx_Mo_at_9 rfl ?_
  refine px_icmp_neN (a := A.1 0 0) (b := 1) dx_Mo_at_10 (by omega) (by omega) (fun c_10 => ?_) (fun c_10 => ?_)
  · exfalso; omega
  · refine px_iload_n dx_Mo_at_13 rfl ?_
    refine px_if_ltN (a := k) dx_Mo_at_14 (by omega) (fun c_14 => ?_) (fun c_14 => ?_)
    · exact absurd c_14 (Nat.not_lt_zero _)
    · refine px_iload_n dx_Mo_at_17 rfl ?_
      refine px_aload_n dx_Mo_at_18 rfl ?_
      refine px_getI dx_Mo_at_19 fl_Mo_130 rfl (by decide) rfl ?_
      refine px_eqi (y := nI (A.1 1 0)) (Eq.trans (gI_n (Or.inr (by decide))) hP.2.2.2.2.2.2.1.2.1) ?_
      refine px_icmp_ltN (a := k) (b := A.1 1 0) dx_Mo_at_22 (by omega) (by omega) (fun c_22 => ?_) (fun c_22 => ?_)
      · refine px_aload_n dx_Mo_at_29 rfl ?_
        refine px_getR (r := 737) dx_Mo_at_30 fl_Mo_74 rfl (by decide) rfl (hP.2.1 29) ?_
        refine px_aload_n dx_Mo_at_33 rfl ?_
        refine px_getI dx_Mo_at_34 fl_Mo_130 rfl (by decide) rfl ?_
        refine px_eqi (y := nI (A.1 1 0)) (Eq.trans (gI_n (Or.inr (by decide))) hP.2.2.2.2.2.2.1.2.1) ?_
        refine px_iconst (v := 1) dx_Mo_at_37 rfl ?_
        refine px_isubN (a := A.1 1 0) (b := 1) dx_Mo_at_38 (by omega) ?_
        refine px_iload_n dx_Mo_at_39 rfl ?_
        refine px_isubN (a := (A.1 1 0) - 1) (b := k) dx_Mo_at_40 (by omega) ?_
        refine px_ialdN (j := ((A.1 1 0) - 1) - k) dx_Mo_at_41 rfl (by decide) (by omega) ?_
        refine px_eqi (y := nI (A.1 3 (((A.1 1 0) - 1) - k))) (Eq.trans (gI_n (Or.inl (by decide))) (hP.2.2.2.2.2.2.1.2.2.2.1 (((A.1 1 0) - 1) - k) (by omega))) ?_
        exact px_iret dx_Mo_at_42 rfl (by exact hp)
      · exfalso; omega
