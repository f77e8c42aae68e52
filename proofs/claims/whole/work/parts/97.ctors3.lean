/-! the start: the machine, a program, the object -/
def LMc (u : Nat) (σ τ : fr_S) : Prop := (∀ o, o < 7 → SM σ τ o) ∧ DN τ 7 ∧ (∀ o, 9 ≤ o → o < 9 + 3 * u → DN τ o) ∧ AR τ 8 u (fun k => 9 + 3 * k)
theorem c_Mc_l {l : Launch} {G : fr_G} {σ : fr_S} : ∀ d u, u + d = 6 → ∀ τ, LMc u σ τ → PX l G yy_Mc_init ri_Mc (QA G (7 + 1 + 19) 19 150 (Pst σ 7 19)) true (9 + 3 * u) (1 + 3 * u) (6 + 24 * u) 45 [(1, .int (nI u)), (0, .ref 7)] [] τ := by
  have k0 : kd 7 = (3, 0) := by decide +kernel
  have k3 : kd 8 = (24, 6) := by decide +kernel
  intro d
  induction d with
  | zero =>
    intro u hu τ h
    obtain rfl : u = 6 := by omega
    refine px_iload_n dx_Mc_init_45 rfl ?_
    refine px_bipush (v := nI 6) dx_Mc_init_46 (by decide) ?_
    refine px_icmp_geN dx_Mc_init_48 (by decide) (by decide) (fun _ => ?_) (fun q => absurd q (by decide))
    refine px_qa (px_vret dx_Mc_init_70 rfl ⟨rfl, h.1, fun o h1 h2 => ?_⟩)
    by_cases c : o = 8
    · rw [c]
      exact h.2.2.2.dn k3 (fun _ => rfl) (fun k => rfl)
    · by_cases c2 : o = 7
      · rw [c2]
        exact h.2.1
      · exact h.2.2.1 o (by omega) (by omega)
  | succ d ih =>
    intro u hu τ h
    obtain ⟨s0, s1, s2, s3, s4⟩ := kd_F (FE.f (i := u) (by omega))
    refine px_iload_n dx_Mc_init_45 rfl ?_
    refine px_bipush (v := nI 6) dx_Mc_init_46 (by decide) ?_
    refine px_icmp_geN dx_Mc_init_48 (by omega) (by decide) (fun q => absurd q (by omega)) (fun _ => ?_)
    refine px_aload_n dx_Mc_init_51 rfl ?_
    have hr2 : gR τ 7 0 = some 8 := by
      have := h.2.1.2.2.2 0
      rw [k0] at this
      exact this
    refine px_getR dx_Mc_init_52 fl_Mc_11 k0 (by omega) rfl hr2 ?_
    refine px_iload_n dx_Mc_init_55 rfl ?_
    refine px_new dx_Mc_init_56 ck_Fr cc_Mc_9 (al_in 154 (by decide +kernel) rfl) (al_in 78 (by decide +kernel) rfl) s0 (by decide) (by show 1 + 3 * u + 1 ≤ 19; omega) (by show 6 + 24 * u + 4 ≤ 150; omega) ?_
    refine px_dup dx_Mc_init_59 rfl ?_
    refine px_callI (Rc := ri_Fr) (As := []) dx_Mc_init_60 ml_Mc_38 mi_Fr_init np_Fr_init (Nat.le_of_ble_eq_true rfl) (Nat.le_of_ble_eq_true rfl) ⟨rfl, rfl, Nat.le_of_ble_eq_true rfl, Nat.le_of_ble_eq_true rfl⟩ ⟨by show 1 + 3 * u + 1 + 2 ≤ 19; omega, by show 6 + 24 * u + 4 + 20 ≤ 150; omega⟩ rfl (c_Fr s0 s1 s2 ZR.z) fun r τ2 hp => ?_
    obtain ⟨rfl, p1, p2⟩ := hp
    refine px_aast (j := 4) (ci := 4) (u := u) rfl dx_Mc_init_63 (r0 := _) rfl k3 (by decide) rfl (by decide) s0 (by omega) (by omega) (by omega) (by decide) ?_
    refine px_iinc (v := nI (u + 1)) (lv' := [(1, .int (nI (u + 1))), (0, .ref 7)]) dx_Mc_init_64 rfl (nI_add u 1) (by decide) rfl ?_
    refine px_goto dx_Mc_init_67 ?_
    have sm : ∀ o, o < 9 + 3 * u → SM τ τ2 o := fun o ho => (SM.rf.z (by omega)).tr (p1 o ho)
    have := ih (u + 1) (by omega) (sR τ2 8 u (some (9 + 3 * u))) ⟨fun o ho => ((h.1 o ho).tr (sm o (by omega))).r (by omega), h.2.1.sm ((sm 7 (by omega)).r (by decide)), fun o h1 h2 => ?_, (h.2.2.2.sm (sm _ (by omega))).put rfl⟩
    · rw [show 9 + 3 * (u + 1) = 9 + 3 * u + 1 + 2 by omega, show 1 + 3 * (u + 1) = 1 + 3 * u + 1 + 2 by omega, show 6 + 24 * (u + 1) = 6 + 24 * u + 4 + 20 by omega] at this
      exact this
    · by_cases c : o < 9 + 3 * u
      · exact (h.2.2.1 o h1 c).sm ((sm o c).r (by omega))
      · exact (p2 o (by omega) (by omega)).sm (SM.rf.r (by omega))
theorem c_Mc {l : Launch} {G : fr_G} {σ : fr_S} (hz : ZR σ 7) : PX l G yy_Mc_init ri_Mc (QA G (7 + 1 + 19) 19 150 (Pst σ 7 19)) true (7 + 1) 0 0 0 [(0, .ref 7)] [] σ := by
  have k0 : kd 7 = (3, 0) := by decide +kernel
  refine px_aload_n dx_Mc_init_0 rfl ?_
  refine px_objI dx_Mc_init_1 (al_in 151 (by decide +kernel) rfl) ⟨Nat.le_of_ble_eq_true rfl, Nat.le_of_ble_eq_true rfl⟩ ?_
  refine px_aload_n dx_Mc_init_4 rfl ?_
  refine px_bipush (v := nI 6) dx_Mc_init_5 (by decide) ?_
  refine px_anew (j := 4) (C0 := "PairVm$Frame") (N := 6) rfl dx_Mc_init_7 cc_Mc_9 (fun _ h => h.1) rfl (by decide +kernel) ⟨rfl, by decide, by decide⟩ (by decide) (Nat.le_of_ble_eq_true rfl) (Nat.le_of_ble_eq_true rfl) ?_
  refine px_putR dx_Mc_init_10 fl_Mc_11 (fun _ => ⟨rfl, _, _, ck_Mc, rfl, al_in 173 (by decide +kernel) rfl, rfl, rfl⟩) k0 (by omega) rfl ?_
  refine px_aload_n dx_Mc_init_13 rfl ?_
  refine px_iconst (v := 0) dx_Mc_init_14 (by decide) ?_
  refine px_putI dx_Mc_init_15 fl_Mc_17 k0 (by omega) rfl ?_
  refine px_aload_n dx_Mc_init_18 rfl ?_
  refine px_iconst (v := 0) dx_Mc_init_19 (by decide) ?_
  refine px_putI dx_Mc_init_20 fl_Mc_21 k0 (by omega) rfl ?_
  refine px_aload_n dx_Mc_init_23 rfl ?_
  refine px_iconst (v := 0) dx_Mc_init_24 (by decide) ?_
  refine px_putI dx_Mc_init_25 fl_Mc_24 k0 (by omega) rfl ?_
  refine px_aload_n dx_Mc_init_28 rfl ?_
  refine px_iconst (v := 0) dx_Mc_init_29 (by decide) ?_
  refine px_putI dx_Mc_init_30 fl_Mc_27 k0 (by omega) rfl ?_
  refine px_aload_n dx_Mc_init_33 rfl ?_
  refine px_lconst (v := 0) dx_Mc_init_34 (by decide) ?_
  refine px_putL dx_Mc_init_35 fl_Mc_30 k0 (by omega) rfl ?_
  refine px_aload_n dx_Mc_init_38 rfl ?_
  refine px_dconst0 dx_Mc_init_39 ?_
  refine px_putD dx_Mc_init_40 fl_Mc_34 k0 (by omega) rfl ?_
  refine px_iconst (v := nI 0) dx_Mc_init_43 (by decide) ?_
  refine px_istore_n (lv' := [(1, .int (nI 0)), (0, .ref (7))]) dx_Mc_init_44 (by decide) rfl ?_
  refine c_Mc_l 6 0 rfl _ ⟨fun o ho => ((((((((SM.rf.z (by omega)).r (by omega)).i (by omega)).i (by omega)).i (by omega)).i (by omega)).l (by omega)).d (by omega)), ?_, fun o h1 h2 => absurd h2 (by omega), AR.z (ZR.z.sm (((((((SM.rf.r (by omega)).i (by omega)).i (by omega)).i (by omega)).i (by omega)).l (by omega)).d (by omega)))⟩
  unfold DN
  rw [k0]
  obtain ⟨z1, z2, z3, z4⟩ := hz
  simp only [gI] at z1
  simp only [gL] at z2
  simp only [gD] at z3
  simp only [gR] at z4
  refine ⟨fun k w => ?_, fun k => ?_, fun k => ?_, fun k => ?_⟩
  · first | exact absurd rfl w | simp [gI, gL, gD, gR, sI, sL, sD, sR, sZ, u_2, fIk, z1]
  · simp [gI, gL, gD, gR, sI, sL, sD, sR, sZ, u_2, z2]
  · simp [gI, gL, gD, gR, sI, sL, sD, sR, sZ, u_2, z3]
  · simp [gI, gL, gD, gR, sI, sL, sD, sR, sZ, u_2, fRk, z4, Nat.add_assoc]
def LPg (q u : Nat) (σ τ : fr_S) : Prop := (∀ o, o < q → SM σ τ o) ∧ (∀ o, q ≤ o → o < q + 5 + 85 * u → o ≠ q + 1 → DN τ o) ∧ AR τ (q + 1) u (fun k => q + 5 + 85 * k)
theorem c_Pg_l {l : Launch} {G : fr_G} {σ : fr_S} {q : Nat} (hq : PB q) : ∀ d u, u + d = 4 → ∀ τ, LPg q u σ τ → PX l G yy_Pg_init ri_Pg (QA G (q + 1 + 344) 344 4556 (Pst σ q 344)) true (q + 5 + 85 * u) (4 + 85 * u) (20 + 1134 * u) 47 [(1, .int (nI u)), (0, .ref q)] [] τ := by
  obtain ⟨k0, k1, k2, k3, k4, k5⟩ := kd_P hq
  intro d
  induction d with
  | zero =>
    intro u hu τ h
    obtain rfl : u = 4 := by omega
    refine px_iload_n dx_Pg_init_47 rfl ?_
    refine px_iconst (v := nI 4) dx_Pg_init_48 (by decide) ?_
    refine px_icmp_geN dx_Pg_init_49 (by decide) (by decide) (fun _ => ?_) (fun q => absurd q (by decide))
    refine px_qa (px_vret dx_Pg_init_71 rfl ⟨rfl, h.1, fun o h1 h2 => ?_⟩)
    by_cases c : o = q + 1
    · rw [c]
      exact h.2.2.dn k1 (fun _ => rfl) (fun k => by show (if k < 4 then some (q + 1 + 4 + 85 * k) else none) = _; rw [show q + 1 + 4 + 85 * k = q + 5 + 85 * k by omega])
    · exact h.2.1 o h1 (by omega) c
  | succ d ih =>
    intro u hu τ h
    have hs : ME (q + 5 + 85 * u) := ME.m hq (by omega)
    obtain ⟨s0, -, -, -, -, -⟩ := kd_M hs
    refine px_iload_n dx_Pg_init_47 rfl ?_
    refine px_iconst (v := nI 4) dx_Pg_init_48 (by decide) ?_
    refine px_icmp_geN dx_Pg_init_49 (by omega) (by decide) (fun q => absurd q (by omega)) (fun _ => ?_)
    refine px_aload_n dx_Pg_init_52 rfl ?_
    have hr2 : gR τ q 0 = some (q + 1) := by
      have := (h.2.1 q (Nat.le_refl _) (by omega) (by omega)).2.2.2 0
      rw [k0] at this
      exact this
    refine px_getR dx_Pg_init_53 fl_Pg_11 k0 (by omega) rfl hr2 ?_
    refine px_iload_n dx_Pg_init_56 rfl ?_
    refine px_new dx_Pg_init_57 ck_Me cc_Pg_9 (al_in 220 (by decide +kernel) rfl) (al_in 81 (by decide +kernel) rfl) s0 (by decide) (by show 4 + 85 * u + 1 ≤ 344; omega) (by show 20 + 1134 * u + 11 ≤ 4556; omega) ?_
    refine px_dup dx_Pg_init_60 rfl ?_
    refine px_callIA (Rc := ri_Me) dx_Pg_init_61 (al_in 221 (by decide +kernel) rfl) mi_Me_init np_Me_init (Nat.le_of_ble_eq_true rfl) (Nat.le_of_ble_eq_true rfl) ⟨rfl, rfl, Nat.le_of_ble_eq_true rfl, Nat.le_of_ble_eq_true rfl⟩ ⟨by show 4 + 85 * u + 1 + 84 ≤ 344; omega, by show 20 + 1134 * u + 11 + 1123 ≤ 4556; omega⟩ (c_Me hs ZR.z) fun r τ2 hp => ?_
    obtain ⟨rfl, p1, p2⟩ := hp
    refine px_aast (j := 5) (ci := 7) (u := u) rfl dx_Pg_init_64 (r0 := _) rfl k1 (by decide) rfl (by decide) s0 (by omega) (by omega) (by omega) (by decide) ?_
    refine px_iinc (v := nI (u + 1)) (lv' := [(1, .int (nI (u + 1))), (0, .ref q)]) dx_Pg_init_65 rfl (nI_add u 1) (by decide) rfl ?_
    refine px_goto dx_Pg_init_68 ?_
    have sm : ∀ o, o < q + 5 + 85 * u → SM τ τ2 o := fun o ho => (SM.rf.z (by omega)).tr (p1 o ho)
    have := ih (u + 1) (by omega) (sR τ2 (q + 1) u (some (q + 5 + 85 * u))) ⟨fun o ho => ((h.1 o ho).tr (sm o (by omega))).r (by omega), fun o h1 h2 h3 => ?_, (h.2.2.sm (sm _ (by omega))).put rfl⟩
    · rw [show q + 5 + 85 * (u + 1) = q + 5 + 85 * u + 1 + 84 by omega, show 4 + 85 * (u + 1) = 4 + 85 * u + 1 + 84 by omega, show 20 + 1134 * (u + 1) = 20 + 1134 * u + 11 + 1123 by omega] at this
      exact this
    · by_cases c : o < q + 5 + 85 * u
      · exact (h.2.1 o h1 c h3).sm ((sm o c).r h3)
      · exact (p2 o (by omega) (by omega)).sm (SM.rf.r h3)
theorem c_Pg {l : Launch} {G : fr_G} {σ : fr_S} {q : Nat} (hq : PB q) (hz : ZR σ q) : PX l G yy_Pg_init ri_Pg (QA G (q + 1 + 344) 344 4556 (Pst σ q 344)) true (q + 1) 0 0 0 [(0, .ref q)] [] σ := by
  obtain ⟨k0, k1, k2, k3, k4, k5⟩ := kd_P hq
  refine px_aload_n dx_Pg_init_0 rfl ?_
  refine px_objI dx_Pg_init_1 (al_in 204 (by decide +kernel) rfl) ⟨Nat.le_of_ble_eq_true rfl, Nat.le_of_ble_eq_true rfl⟩ ?_
  refine px_aload_n dx_Pg_init_4 rfl ?_
  refine px_iconst (v := nI 4) dx_Pg_init_5 (by decide) ?_
  refine px_anew (j := 5) (C0 := "PairVm$Method") (N := 4) rfl dx_Pg_init_6 cc_Pg_9 (fun _ h => h.2.1) rfl k1 ⟨rfl, by decide, by decide⟩ (by decide) (Nat.le_of_ble_eq_true rfl) (Nat.le_of_ble_eq_true rfl) ?_
  refine px_putR dx_Pg_init_9 fl_Pg_11 (fun _ => ⟨rfl, _, _, ck_Pg, rfl, al_in 364 (by decide +kernel) rfl, rfl, rfl⟩) k0 (by omega) rfl ?_
  refine px_aload_n dx_Pg_init_12 rfl ?_
  refine px_iconst (v := nI 4) dx_Pg_init_13 (by decide) ?_
  refine px_newaI (N := 4) rfl dx_Pg_init_14 k2 (by decide) (Nat.le_of_ble_eq_true rfl) (Nat.le_of_ble_eq_true rfl) ?_
  refine px_putR dx_Pg_init_16 fl_Pg_17 (fun _ => ⟨rfl, _, _, ck_Pg, rfl, al_in 365 (by decide +kernel) rfl, rfl, rfl⟩) k0 (by omega) rfl ?_
  refine px_aload_n dx_Pg_init_19 rfl ?_
  refine px_new dx_Pg_init_20 ck_Fl cc_Pg_21 (al_in 208 (by decide +kernel) rfl) (al_in 80 (by decide +kernel) rfl) k3 (by decide) (Nat.le_of_ble_eq_true rfl) (Nat.le_of_ble_eq_true rfl) ?_
  refine px_dup dx_Pg_init_23 rfl ?_
  refine px_callI (Rc := ri_Fl) (As := []) dx_Pg_init_24 ml_Pg_23 mi_Fl_init np_Fl_init (Nat.le_of_ble_eq_true rfl) (Nat.le_of_ble_eq_true rfl) ⟨rfl, rfl, Nat.le_of_ble_eq_true rfl, Nat.le_of_ble_eq_true rfl⟩ ⟨Nat.le_of_ble_eq_true rfl, Nat.le_of_ble_eq_true rfl⟩ rfl (c_Fl k3 k4 ZR.z) fun r τ hp => ?_
  obtain ⟨rfl, p1, p2⟩ := hp
  refine px_putR dx_Pg_init_27 fl_Pg_24 (fun _ => ⟨rfl, _, _, ck_Pg, rfl, al_in 366 (by decide +kernel) rfl, rfl, rfl⟩) k0 (by omega) rfl ?_
  refine px_aload_n dx_Pg_init_30 rfl ?_
  refine px_iconst (v := 0) dx_Pg_init_31 (by decide) ?_
  refine px_putI dx_Pg_init_32 fl_Pg_28 k0 (by omega) rfl ?_
  refine px_aload_n dx_Pg_init_35 rfl ?_
  refine px_iconst (v := 0) dx_Pg_init_36 (by decide) ?_
  refine px_putI dx_Pg_init_37 fl_Pg_32 k0 (by omega) rfl ?_
  refine px_aload_n dx_Pg_init_40 rfl ?_
  refine px_iconst (v := 0) dx_Pg_init_41 (by decide) ?_
  refine px_putZ dx_Pg_init_42 fl_Pg_35 k0 (by omega) rfl (Or.inl rfl) ?_
  refine px_iconst (v := nI 0) dx_Pg_init_45 (by decide) ?_
  refine px_istore_n (lv' := [(1, .int (nI 0)), (0, .ref (q))]) dx_Pg_init_46 (by decide) rfl ?_
  have sm : ∀ o, o < q + 3 → SM _ τ o := p1
  refine c_Pg_l hq 4 0 rfl _ ⟨fun o ho => (((((((((SM.rf.z (by omega)).r (by omega)).z (by omega)).r (by omega)).z (by omega)).tr (sm o (by omega))).r (by omega)).i (by omega)).i (by omega)).i (by omega), fun o h1 h2 h3 => ?_, AR.z (ZR.z.sm (((((((((SM.rf.r (by omega)).z (by omega)).r (by omega)).z (by omega)).tr (sm (q + 1) (by omega))).r (by omega)).i (by omega)).i (by omega)).i (by omega)))⟩
  have hl : ∀ o, o ≠ q → SM τ _ o := fun o h => (((SM.rf.r (x := q) (k := 2) (v := some (q + 3)) h).i (x := q) (k := 3) (v := 0) h).i (x := q) (k := 4) (v := 0) h).i (x := q) (k := 5) (v := 0) h
  rcases (show o = q ∨ o = q + 2 ∨ q + 3 ≤ o by omega) with e1 | e1 | e1
  · rw [e1]
    unfold DN
    rw [k0]
    obtain ⟨z1, z2, z3, z4⟩ := hz
    simp only [gI] at z1
    simp only [gL] at z2
    simp only [gD] at z3
    simp only [gR] at z4
    have y1 : ∀ k, τ.1 q k = 0 := fun k => (congrFun (p1 q (by omega)).1 k).trans (by simp [gI, gL, gD, gR, sI, sL, sD, sR, sZ, u_2, z1])
    have y2 : ∀ k, τ.2.1 q k = 0 := fun k => (congrFun (p1 q (by omega)).2.1 k).trans (by simp [gI, gL, gD, gR, sI, sL, sD, sR, sZ, u_2, z2])
    have y3 : ∀ k, τ.2.2.1 q k = 0 := fun k => (congrFun (p1 q (by omega)).2.2.1 k).trans (by simp [gI, gL, gD, gR, sI, sL, sD, sR, sZ, u_2, z3])
    have y4 : ∀ k, τ.2.2.2 q k = if k = 1 then some (q + 2) else if k = 0 then some (q + 1) else none := fun k => (congrFun (p1 q (by omega)).2.2.2 k).trans (by simp [gI, gL, gD, gR, sI, sL, sD, sR, sZ, u_2, z4, Nat.add_assoc])
    refine ⟨fun k w => ?_, fun k => ?_, fun k => ?_, fun k => ?_⟩
    · simp [gI, gL, gD, gR, sI, sL, sD, sR, sZ, u_2, fIk, y1]
    · simp [gI, gL, gD, gR, sI, sL, sD, sR, sZ, u_2, y2]
    · simp [gI, gL, gD, gR, sI, sL, sD, sR, sZ, u_2, y3]
    · simp [gI, gL, gD, gR, sI, sL, sD, sR, sZ, u_2, fRk, y4, Nat.add_assoc]
  · rw [e1]
    exact DN.z (ZR.sm (ZR.sm (ZR.z.sm (((SM.rf.r (by omega))).z (by omega))) (sm (q + 2) (by omega))) (hl _ (by omega))) k2 (by decide)
  · exact (p2 o e1 (by omega)).sm (hl o (by omega))
