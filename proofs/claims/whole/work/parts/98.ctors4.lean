/-! the start: the object itself -/
def VSt (j n : Nat) (τ : fr_S) : Prop := (∀ k, gI τ 0 k = 0) ∧ (∀ k, gL τ 0 k = 0) ∧ (∀ k, gD τ 0 k = 0) ∧ (∀ k, gR τ 0 k = if k < j then fRk 0 0 k else none) ∧ ∀ o, 1 ≤ o → o < n → DN τ o
theorem VSt.step {j n N r0 : Nat} {τ τ2 : fr_S} {r : Option Value} (h : VSt j n τ) (hn : 1 ≤ n) (p : Pst (sZ τ n) n N r τ2) (hj : fRk 0 0 j = some n) (hr : r0 = n) : VSt (j + 1) (n + 1 + N) (sR τ2 0 j (some r0)) := by
  subst hr
  obtain ⟨h1, h2, h3, h4, h5⟩ := h
  obtain ⟨-, p1, p2⟩ := p
  have q0 : SM τ τ2 0 := (SM.rf.z (by omega)).tr (p1 0 (by omega))
  refine ⟨fun k => ?_, fun k => ?_, fun k => ?_, fun k => ?_, fun o a b => ?_⟩
  · exact (congrFun q0.1 k).trans (h1 k)
  · exact (congrFun q0.2.1 k).trans (h2 k)
  · exact (congrFun q0.2.2.1 k).trans (h3 k)
  · have e : gR (sR τ2 0 j (some r0)) 0 k = if k = j then some r0 else gR τ2 0 k := by simp [gR, sR, u_2]
    have e2 : gR τ2 0 k = gR τ 0 k := congrFun q0.2.2.2 k
    rw [e, e2, h4 k]
    by_cases c : k = j
    · subst c
      rw [if_pos rfl, if_pos (Nat.lt_succ_self _)]
      exact hj.symm
    · rw [if_neg c]
      by_cases d : k < j
      · rw [if_pos d, if_pos (by omega)]
      · rw [if_neg d, if_neg (by omega)]
  · by_cases c : o < r0
    · exact (h5 o a c).sm (((SM.rf.z (by omega)).tr (p1 o c)).r (by omega))
    · exact (p2 o (by omega) (by omega)).sm (SM.rf.r (by omega))
set_option maxRecDepth 100000 in
theorem c_V {l : Launch} {G : fr_G} {σ : fr_S} (hz : ZR σ 0) : PX l G yy_V_init ri_V (QA G (0 + 1 + 716) 716 9518 (Pst σ 0 716)) true (0 + 1) 0 0 0 [(0, .ref 0)] [] σ := by
  have k0 : kd 0 = (0, 0) := by decide +kernel
  have v0 : VSt 0 1 σ := ⟨hz.1, hz.2.1, hz.2.2.1, fun k => by rw [if_neg (Nat.not_lt_zero _)]; exact hz.2.2.2 k, fun o a b => absurd b (by omega)⟩
  refine px_aload_n dx_V_init_0 rfl ?_
  refine px_objI dx_V_init_1 (al_in 101 (by decide +kernel) rfl) ⟨Nat.le_of_ble_eq_true rfl, Nat.le_of_ble_eq_true rfl⟩ ?_
  refine px_aload_n dx_V_init_4 rfl ?_
  refine px_new dx_V_init_5 ck_Fb cc_V_7 (al_in 105 (by decide +kernel) rfl) (al_in 75 (by decide +kernel) rfl) (z := 0) (by decide +kernel) (by decide) (Nat.le_of_ble_eq_true rfl) (Nat.le_of_ble_eq_true rfl) ?_
  refine px_dup dx_V_init_8 rfl ?_
  refine px_callI (Rc := ri_Fb) (As := []) dx_V_init_9 ml_V_9 mi_Fb_init np_Fb_init (Nat.le_of_ble_eq_true rfl) (Nat.le_of_ble_eq_true rfl) ⟨rfl, rfl, Nat.le_of_ble_eq_true rfl, Nat.le_of_ble_eq_true rfl⟩ ⟨Nat.le_of_ble_eq_true rfl, Nat.le_of_ble_eq_true rfl⟩ rfl (c_Fb (a := 1) (by decide +kernel) (by decide +kernel) ZR.z) fun r τ1 hp => ?_
  have v1 : VSt 1 (1 + 1 + 1) (sR τ1 0 0 (some 1)) := VSt.step v0 (by decide) hp rfl rfl
  have e0 := hp.1
  subst e0
  clear hp
  refine px_putR dx_V_init_12 fl_V_10 (fun _ => ⟨rfl, _, _, ck_V, rfl, al_in 385 (by decide +kernel) rfl, rfl, rfl⟩) k0 (by omega) rfl ?_
  refine px_aload_n dx_V_init_15 rfl ?_
  refine px_new dx_V_init_16 ck_Ag cc_V_16 (al_in 126 (by decide +kernel) rfl) (al_in 76 (by decide +kernel) rfl) (z := 0) (by decide +kernel) (by decide) (Nat.le_of_ble_eq_true rfl) (Nat.le_of_ble_eq_true rfl) ?_
  refine px_dup dx_V_init_19 rfl ?_
  refine px_callI (Rc := ri_Ag) (As := []) dx_V_init_20 ml_V_18 mi_Ag_init np_Ag_init (Nat.le_of_ble_eq_true rfl) (Nat.le_of_ble_eq_true rfl) ⟨rfl, rfl, Nat.le_of_ble_eq_true rfl, Nat.le_of_ble_eq_true rfl⟩ ⟨Nat.le_of_ble_eq_true rfl, Nat.le_of_ble_eq_true rfl⟩ rfl (c_Ag (a := 3) (by decide +kernel) (by decide +kernel) (by decide +kernel) (by decide +kernel) ZR.z) fun r τ2 hp => ?_
  have v2 : VSt 2 (3 + 1 + 3) (sR τ2 0 1 (some 3)) := VSt.step v1 (by decide) hp rfl rfl
  have e1 := hp.1
  subst e1
  clear hp
  refine px_putR dx_V_init_23 fl_V_19 (fun _ => ⟨rfl, _, _, ck_V, rfl, al_in 386 (by decide +kernel) rfl, rfl, rfl⟩) k0 (by omega) rfl ?_
  refine px_aload_n dx_V_init_26 rfl ?_
  refine px_new dx_V_init_27 ck_Mc cc_V_23 (al_in 147 (by decide +kernel) rfl) (al_in 77 (by decide +kernel) rfl) (z := 0) (by decide +kernel) (by decide) (Nat.le_of_ble_eq_true rfl) (Nat.le_of_ble_eq_true rfl) ?_
  refine px_dup dx_V_init_30 rfl ?_
  refine px_callIA (Rc := ri_Mc) dx_V_init_31 (al_in 148 (by decide +kernel) rfl) mi_Mc_init np_Mc_init (Nat.le_of_ble_eq_true rfl) (Nat.le_of_ble_eq_true rfl) ⟨rfl, rfl, Nat.le_of_ble_eq_true rfl, Nat.le_of_ble_eq_true rfl⟩ ⟨Nat.le_of_ble_eq_true rfl, Nat.le_of_ble_eq_true rfl⟩ (c_Mc ZR.z) fun r τ3 hp => ?_
  have v3 : VSt 3 (7 + 1 + 19) (sR τ3 0 2 (some 7)) := VSt.step v2 (by decide) hp rfl rfl
  have e2 := hp.1
  subst e2
  clear hp
  refine px_putR dx_V_init_34 fl_V_26 (fun _ => ⟨rfl, _, _, ck_V, rfl, al_in 387 (by decide +kernel) rfl, rfl, rfl⟩) k0 (by omega) rfl ?_
  refine px_aload_n dx_V_init_37 rfl ?_
  refine px_new dx_V_init_38 ck_Pg cc_V_30 (al_in 200 (by decide +kernel) rfl) (al_in 79 (by decide +kernel) rfl) (z := 0) (by decide +kernel) (by decide) (Nat.le_of_ble_eq_true rfl) (Nat.le_of_ble_eq_true rfl) ?_
  refine px_dup dx_V_init_41 rfl ?_
  refine px_callIA (Rc := ri_Pg) dx_V_init_42 (al_in 201 (by decide +kernel) rfl) mi_Pg_init np_Pg_init (Nat.le_of_ble_eq_true rfl) (Nat.le_of_ble_eq_true rfl) ⟨rfl, rfl, Nat.le_of_ble_eq_true rfl, Nat.le_of_ble_eq_true rfl⟩ ⟨Nat.le_of_ble_eq_true rfl, Nat.le_of_ble_eq_true rfl⟩ (c_Pg (q := 27) (Or.inl rfl) ZR.z) fun r τ4 hp => ?_
  have v4 : VSt 4 (27 + 1 + 344) (sR τ4 0 3 (some 27)) := VSt.step v3 (by decide) hp rfl rfl
  have e3 := hp.1
  subst e3
  clear hp
  refine px_putR dx_V_init_45 fl_V_33 (fun q => by cases q) k0 (by omega) rfl ?_
  refine px_aload_n dx_V_init_48 rfl ?_
  refine px_new dx_V_init_49 ck_Pg cc_V_30 (al_in 200 (by decide +kernel) rfl) (al_in 79 (by decide +kernel) rfl) (z := 0) (by decide +kernel) (by decide) (Nat.le_of_ble_eq_true rfl) (Nat.le_of_ble_eq_true rfl) ?_
  refine px_dup dx_V_init_52 rfl ?_
  refine px_callIA (Rc := ri_Pg) dx_V_init_53 (al_in 201 (by decide +kernel) rfl) mi_Pg_init np_Pg_init (Nat.le_of_ble_eq_true rfl) (Nat.le_of_ble_eq_true rfl) ⟨rfl, rfl, Nat.le_of_ble_eq_true rfl, Nat.le_of_ble_eq_true rfl⟩ ⟨Nat.le_of_ble_eq_true rfl, Nat.le_of_ble_eq_true rfl⟩ (c_Pg (q := 372) (Or.inr rfl) ZR.z) fun r τ5 hp => ?_
  have v5 : VSt 5 (372 + 1 + 344) (sR τ5 0 4 (some 372)) := VSt.step v4 (by decide) hp rfl rfl
  have e4 := hp.1
  subst e4
  clear hp
  refine px_putR dx_V_init_56 fl_V_37 (fun q => by cases q) k0 (by omega) rfl ?_
  refine px_aload_n dx_V_init_59 rfl ?_
  refine px_iconst (v := -1) dx_V_init_60 (by decide) ?_
  refine px_putI dx_V_init_61 fl_V_40 k0 (by omega) rfl ?_
  refine px_qa (px_vret dx_V_init_64 rfl ⟨rfl, fun o ho => absurd ho (Nat.not_lt_zero _), fun o h1 h2 => ?_⟩)
  obtain ⟨w1, w2, w3, w4, w5⟩ := v5
  by_cases c : o = 0
  · rw [c]
    unfold DN
    rw [k0]
    refine ⟨fun k _ => ?_, w2, w3, fun k => (w4 k).trans ?_⟩
    · have e : gI (sI (sR τ5 0 4 (some 372)) 0 5 (-1)) 0 k = if k = 5 then -1 else gI (sR τ5 0 4 (some 372)) 0 k := by simp [gI, sI, u_2]
      exact e.trans (by rw [w1 k]; rfl)
    · show (if k < 5 then fRk 0 0 k else none) = fRk 0 0 k
      by_cases d : k < 5
      · rw [if_pos d]
      · rw [if_neg d]
        unfold fRk
        simp only
        rw [if_neg (by omega), if_neg (by omega), if_neg (by omega), if_neg (by omega), if_neg (by omega)]
  · exact (w5 o (by omega) (by omega)).sm (SM.rf.i c)
