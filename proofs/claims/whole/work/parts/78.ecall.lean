/-! calls of what may throw -/
/-- how a method ends that may throw -/
def QE (G : fr_G) (PR : Option Value → fr_S → Prop) (PT : String → fr_S → Prop) : Array Value → State → Outcome → State → Prop := fun a st o t =>
  (Qc G false 742 PR a st o t ∧ ∃ L, FrameEnd st o t L 0 0 ∧ ∀ q ∈ L, AA (fr_q G) q.base) ∨ ∃ (x : Nat) (X : String) (σ : fr_S), o = .threw x ∧ PT X σ ∧ Pic G false 742 σ t.heap ∧ EXC X x t ∧ NS G t.heap ∧ va_F (AA (fr_q G)) st t ∧ st.WarmedH t.vm ∧ ∃ L : List Loc, st.sameButNew ({ t with vm := st.vm } : State) L 1 6 ∧ ∀ q ∈ L, AA (fr_q G) q.base
/-- a contract of a method that may throw -/
def CE (l : Launch) (G : fr_G) (Y : fr_Y) (R : Room) (As : List Value) (σ : fr_S) (PR : Option Value → fr_S → Prop) (PT : String → fr_S → Prop) : Prop := PX l G Y R (QX Y G PR PT) false 742 0 0 0 (lv_args 0 As) [] σ
def PcE (G : fr_G) (As : List Value) (σ : fr_S) : Array Value → State → Prop := va_Pc (As.map (cv G)) (fun U => (Pic G false 742 σ U.heap ∧ TB G U) ∧ SX G U)
theorem ce_met {l : Launch} {G : fr_G} {Y : fr_Y} {R : Room} {As : List Value} {σ : fr_S} {PR : Option Value → fr_S → Prop} {PT : String → fr_S → Prop} (hy : plainName Y.1.cls = true) (hlen : (As.map fun v => v.category).sum ≤ Y.2.2.1) (h : CE l G Y R As σ PR PT) : MetFree l Y.1 (headSpec (wsY Y) R) (PcE G As σ) (fun _ _ _ _ _ => True) (QE G PR PT) := by
  refine MetFree.of_bodyS (code := Y.2.1) (maxLocals := Y.2.2.1) (ret := Y.2.2.2) hy ?_ ?_
  · intro args s m hp hn
    obtain ⟨meth, c, h1, h2, h3, h4, h5, h6, -, -⟩ := Cond.code_spec hn (atoms_spec (ws := wsY Y) hp _ List.mem_cons_self)
    exact ⟨meth, c, h1, h2, h3, h4, h5, h6⟩
  · intro p e s m args below meth c s₁ B hml hv _
    obtain ⟨rfl, ⟨hPi, hT⟩, hsx⟩ := hv
    have hts := atoms_spec (ws := wsY Y) B.pre
    have hl := lv_entry (As.map (cv G)) (n := Y.2.2.1) (by rw [lg_len, cv_sum]; exact hlen)
    rw [cv_args] at hl
    have hh0 : s₁.heap = s.heap := by rw [B.state]; rfl
    obtain ⟨t, st, hq⟩ := h p e s m _ below meth c s.heap [] _ ⟨B.exec, B.bytes, hml, B.returns, findClass_of_methodNamed B.named, fun w hw => hts w (List.mem_cons_of_mem _ hw), B.notSynchronized, (name_of_methodNamed B.named B.method).1, hT⟩ hl hPi va_S.rf s₁ hh0 (Stand.of_body B)
    rw [show List.map (cv G) [] = [] from rfl, ← lg_entry_eq] at st
    have hf := (Stand.of_body B).frames
    rcases hq hsx (fun m' hm' => by
      rw [hf] at hm'
      cases hm'
      exact B.named) with hq | ⟨x, X, σ', q1, q2, q3, q4, q5, q6, q7, q8, q9⟩
    · obtain ⟨o, b1, b2, b3, b4⟩ := hq
      exact ⟨t, o, st, b1, b2, Or.inl ⟨b3, b4⟩⟩
    · exact ⟨t, _, st, q1, q2, Or.inr ⟨x, X, σ', rfl, q3, q4, q5, q6, q7, q8, q9⟩⟩
/-- behind an invocation -/
theorem run_any {l : Launch} {p : Program} {e : Env} {R : Room} {s : State} {m : MethodId} {args : Array Value} {below : List Frame} {meth : Method} {c : Code} {T : State} {locs : List Loc} {cells slots : Nat} (X : Stand p l e R s m args below meth c T locs cells slots) {g : JFrame} (hg : g.method = m) (hsize : g.locals.size = c.maxLocals) {ig : Instr} {len : Nat} (hdg : decode c.code g.pc = .ok (ig, len)) {y : MethodName} {mk : MethodId} (hn : T.methodNamed? y = some mk) {ws : List Jvm.Cond} {rm : Room} {Pc : Array Value → State → Prop} {Q : Array Value → State → Outcome → State → Prop} (hM : MetFree l y (headSpec ws rm) Pc (fun _ _ _ _ _ => True) Q) {a : Array Value} {maxL : Nat} (hws : ∀ w ∈ ws, w.before a T = true) (hY : ∃ methY cY, T.vm.method? mk = some methY ∧ methY.code = some cY ∧ cY.maxLocals = maxL) (hinit : (Cond.initialized y.cls).before a T = true)
    (hfr : rm.frames + 1 ≤ R.frames) (hlo : 8 + (maxL + 11) + rm.locals ≤ R.locals) (hW8 : 2 * g.monitorRoom + (g.stack.map fun v => v.category).sum ≤ 8) (hc : cells + rm.cells ≤ R.cells) (hs : slots + rm.slots ≤ R.slots) (hP : Pc a (T.calling g mk a)) :
    ∃ o s₂, Steps p.tables e below (doInvoke e (T.setTop g) [] mk a).1 s₂ ∧ s₂.status = .running ∧ Ended s₂ (.java g :: below) o ∧ Q a (T.calling g mk a) o s₂ := by
  subst hg
  obtain ⟨methY, cY, hmY, hcY, hlY⟩ := hY
  obtain ⟨kY, hkY, -⟩ := className_of_methodNamed hn
  have hinitY : kY.init = .initialized := Cond.initialized_spec (findClass_of_methodNamed hn) hkY hinit
  have happ : (headSpec ws rm).appliesLoose y e.platform (T.calling g mk a) = true :=
    Spec.appliesLoose_calling (g := g) X.here hdg hn hkY hinitY (X.room_calling (g := g) (R' := rm) hsize hmY hcY hfr (by rw [hlY]; omega) hc hs) (atoms_intro hws)
  have hfr2 : (T.setTop g).frames = [.java g] ++ below := by rw [State.frames_setTop' g X.here.top, X.tail]; rfl
  obtain ⟨o, s₂, h1, h2, h3, h4⟩ := Steps.callFree hM p X.admits X.cas X.clock (acts := []) hfr2 happ hP trivial
  rw [hfr2] at h3
  exact ⟨o, s₂, h1, h2, h3, h4⟩

