/-! a call of what may throw -/
theorem hp_top (T : State) (g : JFrame) : (T.setTop g).heap = T.heap := by simp [State.setTop, State.modifyTopJava]
theorem tl_cv {G : fr_G} (r : Option Value) (st : List Value) : (r.map (cv G)).toList ++ st.map (cv G) = (r.toList ++ st).map (cv G) := by cases r <;> rfl
/-- a call of what may throw: both ends -/
theorem ce_call {l : Launch} {G : fr_G} {Y : fr_Y} {R : Room} {Yc : fr_Y} {Rc : Room} {p : Program} {e : Env} {s : State} {m : MethodId} {args : Array Value} {below : List Frame} {meth : Method} {c : Code} {H : Heap} {locs : List Loc} {ls : Array Slot} {lv : List (Nat × Value)} {i ci b z pc : Nat} {As st : List Value} {σ : fr_S} {PR : Option Value → fr_S → Prop} {PT : String → fr_S → Prop}
    (hx : p.tables.exec = Jvm.exec) (hcc : c.code = Y.2.1) (hml : c.maxLocals = Y.2.2.1) (hown : s.vm.findClass Y.1.cls = some m.cls) (hts : ∀ w ∈ al_W, w.before args s = true) (hTB : TB G s) (hl : lv_has ls Y.2.2.1 (lv.map (cvp G))) (hP : Pic G false 742 σ H) (hS : va_S (AA (fr_q G)) s.heap H locs) (hsx : SX G s) {T : State} (hT : T.heap = H) {cells slots : Nat} (X : Stand p l e R s m args below meth c T locs cells slots) (hN : NS G H)
    (hd : decode Y.2.1 pc = .ok (.invokevirtual i, 3)) (hlk : Cond.methodLink Y.1.cls i Yc.1 ∈ al_W) (hm : MV Yc) (hcl : ∃ Tt, cl_all[ci]? = some (Yc.1.cls, Tt, nfc ci)) (hci : ci < 10) (hk : kd b = (ci, z)) (ho : b < 742)
    (hnp : (parseMethodDescriptor Yc.1.desc).map (fun d => d.parameters.length) = some As.length) (hlen : ((.ref b :: As).map fun v : Value => v.category).sum ≤ Yc.2.2.1) (hst : (st.map fun v : Value => v.category).sum ≤ 8) (hR : Rc.frames + 1 ≤ R.frames ∧ 8 + (Yc.2.2.1 + 11) + Rc.locals ≤ R.locals ∧ cells + Rc.cells ≤ R.cells ∧ slots + Rc.slots ≤ R.slots)
    (hc : CE l G Yc Rc (.ref b :: As) σ PR PT) :
    (∃ (r : Option Value) (σ' : fr_S) (T' : State) (L : List Loc), PR r σ' ∧ Pic G false 742 σ' T'.heap ∧ NS G T'.heap ∧ Stand p l e R s m args below meth c T' L cells slots ∧ va_S (AA (fr_q G)) s.heap T'.heap L ∧ ∀ tg, Steps p.tables e below (T'.setTop (F0 m (pc + 3) ls ((r.toList ++ st).map (cv G)))) tg → Steps p.tables e below (T.setTop (F0 m pc ls ((As.reverse ++ .ref b :: st).map (cv G)))) tg)
    ∨ (∃ (x : Nat) (E : String) (σ' : fr_S) (T' : State) (L : List Loc), PT E σ' ∧ Pic G false 742 σ' T'.heap ∧ EXC E x T' ∧ NS G T'.heap ∧ Stand p l e R s m args below meth c T' L (cells + 1) (slots + 6) ∧ va_S (AA (fr_q G)) s.heap T'.heap L ∧ ∀ tg, Steps p.tables e below ((T'.setTop (F0 m pc ls (st.map (cv G)))).pushFrame (.throwing x)) tg → Steps p.tables e below (T.setTop (F0 m pc ls ((As.reverse ++ .ref b :: st).map (cv G)))) tg) := by
  obtain ⟨⟨hcode, hini, hmh, hpl⟩, hin, hsel⟩ := hm
  obtain ⟨Tt, hcl⟩ := hcl
  have hat := wd_at (G := G) (σ := σ) ho
  unfold ce at hat
  rw [hk, cek_o ci hci] at hat
  obtain ⟨cellB, hcB, hoB, hclB⟩ := va_recv hTB.1 hP.1 hcl hat
  obtain ⟨mk, methM, hnamed, hmethM, hstM, habM⟩ := Cond.instanceMethod_spec (hts _ hin)
  obtain ⟨methM', cM, hmethM', hcM, -, hlM, -, -, -, hsigM⟩ := Cond.code_spec hnamed (hts _ hcode)
  cases hmethM.symm.trans hmethM'
  obtain ⟨c2, r2, m2, q1, q2, q3, q4, kP, hkP, hkPi⟩ := Cond.selects_spec (hts _ hsel)
  cases hclB.symm.trans q1
  cases (State.methodFound?_of_named hnamed hmh).symm.trans q2
  cases hnamed.symm.trans q3
  have hselP : selectMethod e.platform s.vm cellB.cls mk = .method mk := by rw [Launch.admits_selectMethod X.admits]; exact q4
  have e0 : (As.reverse ++ .ref b :: st).map (cv G) = (As.map (cv G)).reverse ++ .ref (fr_q G + b) :: st.map (cv G) := by simp [cv]
  have hlenA : (As.map (cv G)).length = methM.sig.parameters.length := by
    rw [hsigM] at hnp
    have : methM.sig.parameters.length = As.length := Option.some.inj hnp
    simp [this]
  rw [e0]
  obtain ⟨vm₁, X₁, hstep₁⟩ := X.invokevirtual hx hown (hts _ hlk) hnamed hmethM hstM hkP hkPi hmh (a := fr_q G + b) (cell := cellB) (by rw [hT]; exact hcB) (fun z h => by rw [h] at hoB; cases hoB) hselP hmethM habM hkP hkPi (g := F0 m pc ls ((As.map (cv G)).reverse ++ .ref (fr_q G + b) :: st.map (cv G))) rfl (argsL := As.map (cv G)) (rest := st.map (cv G)) hlenA rfl (by rw [hcc]; exact hd)
  have hW₁ := X₁.warmed
  have hS₁ : va_S (AA (fr_q G)) s.heap (T.setVm vm₁).heap locs := by show va_S _ _ T.heap _; rw [hT]; exact hS
  have hMet := ce_met hpl hlen hc
  have hroom : (F0 m pc ls (st.map (cv G))).monitorRoom = 0 := rfl
  obtain ⟨o, s₂, h1, h2, h3, hq⟩ := run_any X₁ (g := F0 m pc ls (st.map (cv G))) rfl (hl.1.trans hml.symm) (ig := .invokevirtual i) (len := 3) (by rw [hcc]; exact hd) (X₁.named hnamed) hMet (a := (Value.ref (fr_q G + b) :: As.map (cv G)).toArray) (maxL := Yc.2.2.1)
    (fun w hw => by
      rcases List.mem_cons.mp hw with rfl | hw
      · exact word_at hW₁ (good_of_word (al_good _ hcode)) (hts _ hcode)
      · exact word_at hW₁ (good_of_word (al_good _ hw)) (hts _ hw))
    ⟨methM, cM, by rw [hW₁.alike.method?]; exact hmethM, hcM, hlM⟩ (word_at hW₁ (good_of_word (al_good _ hini)) (hts _ hini)) hR.1 hR.2.1 (by rw [hroom]; show 2 * 0 + ((st.map (cv G)).map fun v => v.category).sum ≤ 8; rw [cv_sum]; omega) hR.2.2.1 hR.2.2.2
    ⟨by simp [cv], ⟨by show Pic G false 742 σ T.heap; rw [hT]; exact hP, hTB.call hS₁ hW₁⟩, hsx.go hS₁ hW₁ (by show NS G T.heap; rw [hT]; exact hN)⟩
  rcases hq with ⟨⟨⟨r, σ', ho', hpr, hpic⟩, hvF⟩, L, hFE, hL⟩ | ⟨x, E, σ', ho', hpt, hpic, hexc, hns, hvF, hWW, L, hsame, hL⟩
  · subst ho'
    left
    obtain ⟨T', X', hW', hsame', ht⟩ := X₁.outOf (g := F0 m pc ls (st.map (cv G))) rfl (ig := .invokevirtual i) (len := 3) (by rw [hcc]; exact hd) h3 hFE.2.1 hFE.2.2
    have hh : s₂.heap = T'.heap := by rw [ht]; exact hp_top _ _
    have hsz : H.size ≤ T'.heap.size := by
      rw [← hh, ← hT]
      exact hvF.1
    refine ⟨r, σ', T', locs ++ L, hpr, by rw [← hh]; exact hpic, ?_, X', ⟨Nat.le_trans hS.1 hsz, fun q h1 h2 => ?_, fun q hq => ?_⟩, fun tg hg => hstep₁ _ fun acts => ?_⟩
    · rw [← hh]
      have hN2 : NS G (T.setVm vm₁).heap := by show NS G T.heap; rw [hT]; exact hN
      exact NS.keep (s := (T.setVm vm₁).calling (F0 m pc ls (st.map (cv G))) mk (Value.ref (fr_q G + b) :: As.map (cv G)).toArray) hN2 hFE.2.2
    · rw [← hh]
      have := hvF.2 q (by show q < T.heap.size; rw [hT]; exact Nat.lt_of_lt_of_le h1 hS.1) h2
      rw [this]
      show T.heap[q]? = _
      rw [hT]
      exact hS.2.1 q h1 h2
    · rcases List.mem_append.mp hq with h | h
      · exact hS.2.2 q h
      · exact hL q h
    · rw [doInvoke_state]
      refine h1.trans ?_
      rw [ht]
      have e3 : (F0 m (pc + 3) ls ((r.toList ++ st).map (cv G))) = { F0 m pc ls (st.map (cv G)) with pc := (F0 m pc ls (st.map (cv G))).pc + 3, stack := (r.map (cv G)).toList ++ (F0 m pc ls (st.map (cv G))).stack } := by
        show F0 m (pc + 3) ls _ = F0 m (pc + 3) ls _
        rw [← tl_cv]
      rw [← e3]
      exact hg
  · subst ho'
    right
    obtain ⟨T', X', hW', hsame', ht⟩ := X₁.outOfThrown (g := F0 m pc ls (st.map (cv G))) rfl h3 hWW hsame
    have hh : s₂.heap = T'.heap := by rw [ht]; exact Stand.throwing_heap _ _ _
    have hv : s₂.vm = T'.vm := by rw [ht]; exact Stand.throwing_vm _ _ _
    have hsz : H.size ≤ T'.heap.size := by
      rw [← hh, ← hT]
      exact hvF.1
    refine ⟨x, E, σ', T', locs ++ L, hpt, by rw [← hh]; exact hpic, ?_, by rw [← hh]; exact hns, X', ⟨Nat.le_trans hS.1 hsz, fun q h1 h2 => ?_, fun q hq => ?_⟩, fun tg hg => hstep₁ _ fun acts => ?_⟩
    · obtain ⟨ce0, w1, w2, w3, w4⟩ := hexc
      exact ⟨ce0, by rw [← hh]; exact w1, by rw [← hv]; exact w2, w3, by rw [← hv]; exact w4⟩
    · rw [← hh]
      have := hvF.2 q (by show q < T.heap.size; rw [hT]; exact Nat.lt_of_lt_of_le h1 hS.1) h2
      rw [this]
      show T.heap[q]? = _
      rw [hT]
      exact hS.2.1 q h1 h2
    · rcases List.mem_append.mp hq with h | h
      · exact hS.2.2 q h
      · exact hL q h
    · rw [doInvoke_state]
      refine h1.trans ?_
      rw [ht]
      exact hg

