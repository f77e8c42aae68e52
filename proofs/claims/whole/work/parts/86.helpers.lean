/-! the law's helpers -/
abbrev yy_Lw_seal : fr_Y := (yn_Lw_seal, cd_Lw_seal, 3, some .int)
abbrev yy_Lw_load : fr_Y := (yn_Lw_load, cd_Lw_load, 3, some .int)
abbrev yy_Lw_call : fr_Y := (yn_Lw_call, cd_Lw_call, 3, some .int)
abbrev yy_Lw_run : fr_Y := (yn_Lw_run, cd_Lw_run, 4, some .int)
abbrev rx_H : Room := { frames := 8, cells := 1, slots := 6, locals := 175 }
theorem cw_seal : Cond.codeWith yn_Lw_seal cd_Lw_seal 3 (some .int) [(0, 8, 11, 13)] ∈ al_W := al_in 508 (by decide +kernel) rfl
theorem cw_load : Cond.codeWith yn_Lw_load cd_Lw_load 3 (some .int) [(0, 8, 11, 13)] ∈ al_W := al_in 780 (by decide +kernel) rfl
theorem cw_call : Cond.codeWith yn_Lw_call cd_Lw_call 3 (some .int) [(0, 5, 8, 13), (0, 5, 11, 22)] ∈ al_W := al_in 787 (by decide +kernel) rfl
theorem cw_run : Cond.codeWith yn_Lw_run cd_Lw_run 4 (some .int) [(0, 9, 12, 13), (0, 9, 15, 22), (0, 9, 18, 28), (0, 9, 21, 30)] ∈ al_W := al_in 843 (by decide +kernel) rfl
theorem cl_13 : Cond.classLink "PairVmLaw" 13 ex_I ∈ al_W := al_in 509 (by decide +kernel) rfl
theorem cl_22 : Cond.classLink "PairVmLaw" 22 ex_S ∈ al_W := al_in 788 (by decide +kernel) rfl
theorem cl_28 : Cond.classLink "PairVmLaw" 28 ex_A ∈ al_W := al_in 844 (by decide +kernel) rfl
theorem cl_30 : Cond.classLink "PairVmLaw" 30 ex_U ∈ al_W := al_in 845 (by decide +kernel) rfl
def exK (E : String) : Int32 := if E = ex_I then 1 else if E = ex_S then 2 else if E = ex_A then 3 else 4
theorem exK_I : exK ex_I = 1 := by decide
theorem exK_S : exK ex_S = 2 := by decide
theorem exK_A : exK ex_A = 3 := by decide
theorem exK_U : exK ex_U = 4 := by decide
/-- what a helper tells, and what it leaves -/
def PHg (PR : Option Value → fr_S → Prop) (PT : String → fr_S → Prop) (k : Int32) (σ' : fr_S) : Prop := (k = 0 ∧ ∃ (v : Int32) (σ1 : fr_S), PR (some (.int v)) σ1 ∧ σ' = sL σ1 741 0 v.toInt64) ∨ ∃ E, PT E σ' ∧ k = exK E
def PHv (PR : Option Value → fr_S → Prop) (PT : String → fr_S → Prop) (k : Int32) (σ' : fr_S) : Prop := (k = 0 ∧ PR none σ') ∨ ∃ E, PT E σ' ∧ k = exK E
/-- a helper that hands an answer on -/
theorem h_1 {l : Launch} {G : fr_G} {Y : fr_Y} {Yc : fr_Y} {Rc : Room} {i : Nat} {σ : fr_S} {PR : Option Value → fr_S → Prop} {PT : String → fr_S → Prop} (hY : Y.1.cls = "PairVmLaw") (hret : Y.2.2.2 = some .int) (h3 : Y.2.2.1 = 3) (hcw : Cond.codeWith Y.1 Y.2.1 Y.2.2.1 Y.2.2.2 [(0, 8, 11, 13)] ∈ al_W)
    (d0 : dc Y.2.1 0 (.aload_n 1) 1 1) (d1 : dc Y.2.1 1 (.iconst 0) 1 2) (d2 : dc Y.2.1 2 (.aload_n 0) 1 3) (d3 : dc Y.2.1 3 (.invokevirtual i) 3 6) (d6 : dc Y.2.1 6 .i2l 1 7) (d7 : dc Y.2.1 7 .lastore 1 8) (d8 : dg Y.2.1 8 14) (d11 : dc Y.2.1 11 (.astore_n 2) 1 12) (d12 : dc Y.2.1 12 (.iconst 1) 1 13) (d13 : dc Y.2.1 13 .ireturn 1 14) (d14 : dc Y.2.1 14 (.iconst 0) 1 15) (d15 : dc Y.2.1 15 .ireturn 1 16)
    (hlk : Cond.methodLink Y.1.cls i Yc.1 ∈ al_W) (hm : MV Yc) (hcls : Yc.1.cls = "PairVm") (hnp : NP Yc 0) (hlen : 1 ≤ Yc.2.2.1) (hR : Rc.frames + 1 ≤ 8 ∧ 8 + (Yc.2.2.1 + 11) + Rc.locals ≤ 175 ∧ 0 + Rc.cells ≤ 1 ∧ 0 + Rc.slots ≤ 6) (hc : CE l G Yc Rc [.ref 0] σ PR PT) (hPR : ∀ r σ', PR r σ' → ∃ v, r = some (.int v)) (hPT : ∀ E σ', PT E σ' → E = ex_I) :
    PX l G Y rx_H (QHx Y G (PHg PR PT)) false 742 0 0 0 [(0, .ref 0), (1, .ref 741)] [] σ := by
  refine px_aload_n d0 rfl ?_
  refine px_iconst (v := nI 0) d1 rfl ?_
  refine px_aload_n d2 rfl ?_
  refine px_hc (Rc := Rc) (ci := 0) (z := 0) (As := []) (st := [.int (nI 0), .ref 741]) hY hret hcw d3 hlk hm ⟨_, by rw [hcls]; rfl⟩ (by decide) rfl (by decide) hnp hlen (Nat.le_of_ble_eq_true rfl) hR rfl hc (fun r σ' h => ?_) (fun E σ' h => ?_)
  · obtain ⟨v, rfl⟩ := hPR r σ' h
    refine px_i2l d6 ?_
    refine px_lastN (j := 0) (a := 741) d7 rfl (by decide) (by decide) ?_
    refine px_goto d8 ?_
    refine px_iconst (v := 0) d14 rfl ?_
    exact px_wk (QF := QR G false 742 0 0 (fun r σ' => ∃ k, r = some (.int k) ∧ PHg PR PT k σ')) (px_iret d15 hret ⟨0, rfl, Or.inl ⟨rfl, v, σ', h, rfl⟩⟩) (fun _ _ _ _ => qr_qh)
  · have e := hPT E σ' h
    subst e
    exact ⟨[], [], 0, 8, 11, 13, 12, 13, 14, 1, 1, 2, rfl, ⟨by decide, by decide⟩, by decide, by decide, cl_13, fun y hy => absurd hy List.not_mem_nil, d11, by rw [h3]; decide, d12, rfl, d13, Or.inr ⟨_, h, exK_I.symm⟩⟩
theorem h_seal {l : Launch} {G : fr_G} {σ : fr_S} (hfl : l.flags = pinnedFlags ++ [noTraceFlag]) {q : Nat} {b : Nat → Nat} {n : Nat} {pl : Int32} {F : Nat → Nat → Nat} {a : AV} {B : VM} (hK : KP σ q b n pl F a B) (Fr : Nat → Nat → Nat) : PX l G yy_Lw_seal rx_H (QHx yy_Lw_seal G (PHg (SLr q b n Fr a B σ) (SLt q b n pl Fr F a B σ))) false 742 0 0 0 [(0, .ref 0), (1, .ref 741)] [] σ :=
  h_1 (Rc := rx_seal) rfl rfl rfl cw_seal dx_Lw_seal_0 dx_Lw_seal_1 dx_Lw_seal_2 dx_Lw_seal_3 dx_Lw_seal_6 dx_Lw_seal_7 dx_Lw_seal_8 dx_Lw_seal_11 dx_Lw_seal_12 dx_Lw_seal_13 dx_Lw_seal_14 dx_Lw_seal_15 (al_in 510 (by decide +kernel) rfl) mv_V_seal rfl np_V_seal (by decide) ⟨by decide, by decide, by decide, by decide⟩ (k_seal hfl hK Fr) (fun r σ' h => by
    obtain ⟨_, _, _, _, F2, B2, e, _⟩ := h
    exact ⟨_, e⟩) (fun E σ' h => by
    rcases h with h | ⟨_, _, _, h⟩
    · exact h.2.1
    · exact h.2.1)
theorem h_load {l : Launch} {G : fr_G} {σ : fr_S} (hfl : l.flags = pinnedFlags ++ [noTraceFlag]) {q : Nat} {b : Nat → Nat} {n : Nat} {pl : Int32} {F : Nat → Nat → Nat} {a : AV} {B : VM} (hK : KP σ q b n pl F a B) (Fr : Nat → Nat → Nat) : PX l G yy_Lw_load rx_H (QHx yy_Lw_load G (PHg (TKr q b n Fr a B σ) (TKt q b n Fr F a B σ))) false 742 0 0 0 [(0, .ref 0), (1, .ref 741)] [] σ :=
  h_1 (Rc := rx_load) rfl rfl rfl cw_load dx_Lw_load_0 dx_Lw_load_1 dx_Lw_load_2 dx_Lw_load_3 dx_Lw_load_6 dx_Lw_load_7 dx_Lw_load_8 dx_Lw_load_11 dx_Lw_load_12 dx_Lw_load_13 dx_Lw_load_14 dx_Lw_load_15 (al_in 781 (by decide +kernel) rfl) mv_V_load rfl np_V_load (by decide) ⟨by decide, by decide, by decide, by decide⟩ (k_load hfl hK Fr) (fun r σ' h => by
    obtain ⟨_, F2, B2, e, _⟩ := h
    exact ⟨_, e⟩) (fun E σ' h => h.2.1)
theorem h_call {l : Launch} {G : fr_G} {σ : fr_S} (hfl : l.flags = pinnedFlags ++ [noTraceFlag]) {q : Nat} {b : Nat → Nat} {n : Nat} {pl : Int32} {F : Nat → Nat → Nat} {a : AV} {B : VM} (hK : KP σ q b n pl F a B) {x : Int32} : PX l G yy_Lw_call rx_H (QHx yy_Lw_call G (PHv (CAr q b n pl F a B σ x) (CAt q b n pl F a B σ x))) false 742 0 0 0 [(0, .ref 0), (1, .int x)] [] σ := by
  refine px_aload_n dx_Lw_call_0 rfl ?_
  refine px_iload_n dx_Lw_call_1 rfl ?_
  refine px_hc (Yc := yy_V_call) (Rc := rx_call) (b := 0) (ci := 0) (z := 0) (As := [.int x]) (st := []) rfl rfl cw_call dx_Lw_call_2 (al_in 789 (by decide +kernel) rfl) mv_V_call ⟨_, rfl⟩ (by decide) rfl (by decide) np_V_call (Nat.le_of_ble_eq_true rfl) (Nat.le_of_ble_eq_true rfl) ⟨by decide, by decide, by decide, by decide⟩ rfl (k_callV hfl hK) (fun r σ' h => ?_) (fun E σ' h => ?_)
  · have e := h.1
    subst e
    refine px_goto dx_Lw_call_5 ?_
    refine px_iconst (v := 0) dx_Lw_call_14 rfl ?_
    exact px_wk (QF := QR G false 742 0 0 (fun r σ' => ∃ k, r = some (.int k) ∧ PHv (CAr q b n pl F a B σ x) (CAt q b n pl F a B σ x) k σ')) (px_iret dx_Lw_call_15 rfl ⟨0, rfl, Or.inl ⟨rfl, h⟩⟩) (fun _ _ _ _ => qr_qh)
  · rcases h.1 with ⟨e, _⟩ | ⟨e, _⟩
    · subst e
      exact ⟨[], [(0, 5, 11, 22)], 0, 5, 8, 13, 9, 10, 11, 1, 1, 2, rfl, ⟨by decide, by decide⟩, by decide, by decide, cl_13, fun y hy => absurd hy List.not_mem_nil, dx_Lw_call_8, by decide, dx_Lw_call_9, rfl, dx_Lw_call_10, Or.inr ⟨_, h, exK_I.symm⟩⟩
    · subst e
      exact ⟨[(0, 5, 8, 13)], [], 0, 5, 11, 22, 12, 13, 14, 2, 2, 2, rfl, ⟨by decide, by decide⟩, by decide, by decide, cl_22, fun y hy => by
        rw [List.mem_singleton] at hy
        subst hy
        exact ⟨ex_I, by decide, cl_13, by decide⟩, dx_Lw_call_11, by decide, dx_Lw_call_12, rfl, dx_Lw_call_13, Or.inr ⟨_, h, exK_S.symm⟩⟩
theorem h_run {l : Launch} {G : fr_G} {σ : fr_S} (hfl : l.flags = pinnedFlags ++ [noTraceFlag]) {q : Nat} {b : Nat → Nat} {n : Nat} {pl : Int32} {F : Nat → Nat → Nat} {a : AV} {B : VM} (hK : KP σ q b n pl F a B) {Fr : Nat → Nat → Nat} (hE : EqF Fr F) {A : VM} (hBG : BG Fr A B) {x : Int32} : PX l G yy_Lw_run rx_H (QHx yy_Lw_run G (PHg (RNr q b n pl F a B σ Fr A x) (RNt q b n pl F a B σ Fr A x))) false 742 0 0 0 [(0, .ref 0), (1, .int x), (2, .ref 741)] [] σ := by
  refine px_aload_n dx_Lw_run_0 rfl ?_
  refine px_iconst (v := nI 0) dx_Lw_run_1 rfl ?_
  refine px_aload_n dx_Lw_run_2 rfl ?_
  refine px_iload_n dx_Lw_run_3 rfl ?_
  refine px_hc (Yc := yy_V_run) (Rc := rx_run) (b := 0) (ci := 0) (z := 0) (As := [.int x]) (st := [.int (nI 0), .ref 741]) rfl rfl cw_run dx_Lw_run_4 (al_in 846 (by decide +kernel) rfl) mv_V_run ⟨_, rfl⟩ (by decide) rfl (by decide) np_V_run (Nat.le_of_ble_eq_true rfl) (Nat.le_of_ble_eq_true rfl) ⟨by decide, by decide, by decide, by decide⟩ rfl (k_run hfl hK hE hBG) (fun r σ' h => ?_) (fun E σ' h => ?_)
  · have e := h.2.2.2.1
    subst e
    refine px_i2l dx_Lw_run_7 ?_
    refine px_lastN (j := 0) (a := 741) dx_Lw_run_8 rfl (by decide) (by decide) ?_
    refine px_goto dx_Lw_run_9 ?_
    refine px_iconst (v := 0) dx_Lw_run_24 rfl ?_
    exact px_wk (QF := QR G false 742 0 0 (fun r σ' => ∃ k, r = some (.int k) ∧ PHg (RNr q b n pl F a B σ Fr A x) (RNt q b n pl F a B σ Fr A x) k σ')) (px_iret dx_Lw_run_25 rfl ⟨0, rfl, Or.inl ⟨rfl, _, σ', h, rfl⟩⟩) (fun _ _ _ _ => qr_qh)
  · have eE : E = ex_I ∨ E = ex_S ∨ E = ex_A ∨ E = ex_U := by
      rcases h with ⟨_, e, _⟩ | ⟨_, _, e, _⟩ | ⟨_, _, ⟨_, e⟩ | ⟨_, e⟩, _⟩
      · exact Or.inl e
      · exact Or.inr (Or.inl e)
      · exact Or.inr (Or.inr (Or.inl e))
      · exact Or.inr (Or.inr (Or.inr e))
    rcases eE with e | e | e | e
    · subst e
      exact ⟨[], [(0, 9, 15, 22), (0, 9, 18, 28), (0, 9, 21, 30)], 0, 9, 12, 13, 13, 14, 15, 1, 1, 3, rfl, ⟨by decide, by decide⟩, by decide, by decide, cl_13, fun y hy => absurd hy List.not_mem_nil, dx_Lw_run_12, by decide, dx_Lw_run_13, rfl, dx_Lw_run_14, Or.inr ⟨_, h, exK_I.symm⟩⟩
    · subst e
      exact ⟨[(0, 9, 12, 13)], [(0, 9, 18, 28), (0, 9, 21, 30)], 0, 9, 15, 22, 16, 17, 18, 2, 2, 3, rfl, ⟨by decide, by decide⟩, by decide, by decide, cl_22, fun y hy => by
        rw [List.mem_singleton] at hy
        subst hy
        exact ⟨ex_I, by decide, cl_13, by decide⟩, dx_Lw_run_15, by decide, dx_Lw_run_16, rfl, dx_Lw_run_17, Or.inr ⟨_, h, exK_S.symm⟩⟩
    · subst e
      exact ⟨[(0, 9, 12, 13), (0, 9, 15, 22)], [(0, 9, 21, 30)], 0, 9, 18, 28, 19, 20, 21, 3, 3, 3, rfl, ⟨by decide, by decide⟩, by decide, by decide, cl_28, fun y hy => by
        simp only [List.mem_cons, List.not_mem_nil, or_false] at hy
        rcases hy with rfl | rfl
        · exact ⟨ex_I, by decide, cl_13, by decide⟩
        · exact ⟨ex_S, by decide, cl_22, by decide⟩, dx_Lw_run_18, by decide, dx_Lw_run_19, rfl, dx_Lw_run_20, Or.inr ⟨_, h, exK_A.symm⟩⟩
    · subst e
      exact ⟨[(0, 9, 12, 13), (0, 9, 15, 22), (0, 9, 18, 28)], [], 0, 9, 21, 30, 22, 23, 24, 4, 4, 3, rfl, ⟨by decide, by decide⟩, by decide, by decide, cl_30, fun y hy => by
        simp only [List.mem_cons, List.not_mem_nil, or_false] at hy
        rcases hy with rfl | rfl | rfl
        · exact ⟨ex_I, by decide, cl_13, by decide⟩
        · exact ⟨ex_S, by decide, cl_22, by decide⟩
        · exact ⟨ex_A, by decide, cl_28, by decide⟩, dx_Lw_run_21, by decide, dx_Lw_run_22, rfl, dx_Lw_run_23, Or.inr ⟨_, h, exK_U.symm⟩⟩

