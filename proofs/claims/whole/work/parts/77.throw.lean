/-! what the class throws -/
theorem sbn_base {T : State} {fs : List Frame} {U : State} {L : List Loc} {k n : Nat} (h : (T.setFrames fs).sameButNew U L k n) : T.sameButNew U L k n := by
  obtain ⟨h1, h2, h3, h4, h5, h6⟩ := h
  refine ⟨?_, h2, h3, h4, h5, h6⟩
  rw [State.setFrames_setFrames] at h1
  exact h1
theorem rebase {p : Program} {l : Launch} {e : Env} {R : Room} {s : State} {m : MethodId} {args : Array Value} {below : List Frame} {meth : Method} {c : Code} {T : State} {locs : List Loc}
    (X : Stand p l e R s m args below meth c T locs 0 0) : Stand p l e R (T.setFrames (.invoking m args :: below)) m args below meth c T [] 0 0 := by
  obtain ⟨g₀, hfr⟩ := X.frames_eq
  have hcur : T.cur < T.threads.size := State.cur_lt_of_frames hfr
  have hf2 : (T.setFrames (.invoking m args :: below)).frames = .invoking m args :: below := State.frames_setFrames _ hcur
  have hm2 : (T.setFrames (.invoking m args :: below)).vm.method? m = some meth := X.method'
  refine ⟨X.admits, X.cas, X.clock, hf2, ?_, ?_, hm2, X.code, X.here, X.tail, State.WarmedH.refl T, (State.stackLimits_setFrames _ _ _).symm, (State.stackBytes_setFrames _ _).symm, ?_⟩
  · have hr := X.room
    have hb := X.book
    have hsz := X.heapSize
    have hus := X.used
    have hlim := X.limits
    have hby := X.bytes
    unfold State.hasRoom at hr ⊢
    rw [State.localsInUse_invoking X.frames X.method X.code, X.frames] at hr
    rw [State.localsInUse_invoking hf2 hm2 X.code, hf2, State.stackLimits_setFrames, State.stackBytes_setFrames]
    rw [hlim, hby]
    simp only [Bool.and_eq_true, decide_eq_true_eq] at hr ⊢
    obtain ⟨⟨⟨⟨r1, r2⟩, r3⟩, r4⟩, r5⟩ := hr
    exact ⟨⟨⟨⟨r1, r2⟩, by show T.heap.size + R.cells ≤ _; omega⟩, by show T.slotsUsed + R.slots ≤ _; omega⟩, hb⟩
  · have hh := X.hears
    unfold State.hears at hh ⊢
    have hc : ∀ mm, (T.setFrames (.invoking m args :: below)).code? mm = s.code? mm := fun mm => by
      rw [State.code?_eq, State.code?_eq]
      show (T.vm.method? mm).bind _ = _
      rw [X.warmed.alike.method?]
    have hv : (T.setFrames (.invoking m args :: below)).vm.method? m = s.vm.method? m := hm2.trans X.method.symm
    revert hh
    split <;> intro hh
    · rw [hc]; exact hh
    · rfl
    · rfl
    · rw [hv]; exact hh
  · obtain ⟨t, ht, -⟩ := State.frames_cons hfr
    have h0 := State.sameButNew.refl T ht
    have h1 : (T.setFrames (.invoking m args :: below)).setFrames T.frames = T := by
      rw [State.setFrames_setFrames, State.setFrames_self ht]
    have hk : ∃ t2, (T.setFrames (.invoking m args :: below)).threads[(T.setFrames (.invoking m args :: below)).cur]? = some t2 := by
      obtain ⟨t2, ht2, -⟩ := State.frames_cons hf2
      exact ⟨t2, ht2⟩
    obtain ⟨t2, ht2⟩ := hk
    have h2 := (State.sameButNew.refl (T.setFrames (.invoking m args :: below)) ht2).setFrames T.frames (State.cur_lt_of_frames hf2)
    rw [h1] at h2
    exact h2
def LS3 (C n d : String) (A : Nat → Prop) (U : State) (H : Heap) : Prop := ∃ (c : ClassId) (k : Class) (i : Nat) (f : Field) (a : Nat) (cell : Cell), U.vm.findClass C = some c ∧ U.fieldFound? C n d = some (c, k, i, f) ∧ f.isStatic = true ∧ k.statics = some a ∧ H[a]? = some cell ∧ cell.vm.isStatics = true ∧ cell.cls = c ∧ f.slot < cell.slots.size ∧ k.staticTypes[f.slot]? = some f.type ∧ ¬ A a
theorem LS3.moved {C n d : String} {A : Nat → Prop} {u U : State} {H : Heap} (hvm : u.vm.Alike U.vm) (h : LS3 C n d A u H) : LS3 C n d A U H := by
  obtain ⟨c, k, i, f, a, cell, h1, h2, h3, h4, h5, h6, h7, h8, h9, h10⟩ := h
  obtain ⟨k', hi', he⟩ := State.fieldFound?_setVm hvm h2
  exact ⟨c, k', i, f, a, cell, by rw [hvm.findClass]; exact h1, hi', h3, by rw [he]; exact h4, h5, h6, h7, h8, by rw [he]; exact h9, h10⟩
theorem LS3.kept {C n d : String} {A : Nat → Prop} {U : State} {H H1 : Heap} (h : LS3 C n d A U H) (hq : ∀ a : Nat, a < H.size → ¬ A a → H1[a]? = H[a]?) : LS3 C n d A U H1 := by
  obtain ⟨c, k, i, f, a, cell, h1, h2, h3, h4, h5, h6, h7, h8, h9, h10⟩ := h
  exact ⟨c, k, i, f, a, cell, h1, h2, h3, h4, by rw [hq a (Array.getElem?_eq_some_iff.mp h5).1 h10]; exact h5, h6, h7, h8, h9, h10⟩
theorem LS3.use {C n d : String} {A : Nat → Prop} {U : State} (h : LS3 C n d A U U.heap) (args : Array Value) : (Cond.laysStatic C n d).before args U = true := by
  obtain ⟨c, k, i, f, a, cell, h1, h2, h3, h4, h5, h6, h7, h8, h9, h10⟩ := h
  exact Cond.laysStatic_of h1 h2 h3 h4 h5 h6 h7 h8 h9
theorem LS3.of {C n d : String} {A : Nat → Prop} {U : State} {args : Array Value} (h : (Cond.laysStatic C n d).before args U = true) (hA : ∀ a : Nat, a < U.heap.size → ¬ A a) : LS3 C n d A U U.heap := by
  obtain ⟨c, k, i, f, a, cell, h1, h2, h3, h4, h5, h6, h7, h8, h9⟩ := Cond.laysStatic_spec h
  exact ⟨c, k, i, f, a, cell, h1, h2, h3, h4, h5, h6, h7, h8, h9, hA a (Array.getElem?_eq_some_iff.mp h5).1⟩
theorem Zq_isRef {C n d : String} {A : Nat → Prop} {U : State} (h : va_Zq C n d A U U.heap) (args : Array Value) : (Cond.isRef (.static C n d)).before args U = true := by
  have key : ∀ v : Value, v.isRef = true → va_Z C n d v A U U.heap → (Cond.isRef (.static C n d)).before args U = true := fun v hv h => by
    obtain ⟨cf, kf, fi, f, a, cell, h1, h2, h3, h4, h5, h6, h7, h8⟩ := h
    simp [Cond.before, Cond.holds, Cond.value, Term.eval, State.fieldNamed?, h1, h2, h4, h5, h6, h7]
    cases v <;> first | rfl | (exact absurd hv (by decide)) | simp_all [Value.isRef]
  rcases h with h | ⟨t, h⟩
  · exact key _ rfl h
  · exact key _ rfl h
def sxD : List MethodName := [Bundle.initS "java/lang/RuntimeException", Bundle.initS "java/lang/Exception", Bundle.initS Bundle.tN]
def sxC : List String := ["java/lang/IllegalArgumentException", "java/lang/IllegalStateException", "java/lang/ArithmeticException", "java/lang/UnsupportedOperationException"]
def sxS : List (Nat × String) := [(54, "there are more than 212 bytes"), (91, "no such method, or other parameters"), (95, "some method isn't fit"), (98, "n isn't 0 .. 200"), (103, "the machine doesn't run"), (114, "a division by 0"), (119, "a seventh call"), (150, "the file is ill")]
def NS (G : fr_G) (H : Heap) : Prop := ∀ (a : Nat) (cell : Cell), fr_q G ≤ a → H[a]? = some cell → cell.vm.isStatics = false
def SXt (U : State) : Prop := (∀ x ∈ sxD, va_Nw (.declares x) U) ∧ (∀ x ∈ sxC, va_Nw (.castable x x) U) ∧ ∀ x ∈ sxS, va_Nw (.stringRef "PairVm" x.1 x.2) U
def SX (G : fr_G) (U : State) : Prop := SXt U ∧ (LS3 Bundle.tN "UNASSIGNED_STACK" Bundle.steD (AA (fr_q G)) U U.heap ∧ LS3 Bundle.tN "SUPPRESSED_SENTINEL" Bundle.listD (AA (fr_q G)) U U.heap) ∧ NS G U.heap
theorem va_Nw.warmS {i : Nat} {tx : String} {s U : State} (hW : s.WarmedH U.vm) (hZ : va_Nw (.stringRef "PairVm" i tx) s) : va_Nw (.stringRef "PairVm" i tx) U := by
  have h1 : (Cond.stringRef "PairVm" i tx).before #[] (s.setVm U.vm) = true := Cond.stringRef_warmed hW hZ
  have hv : (s.setVm U.vm).vm = U.vm := rfl
  unfold va_Nw
  simp only [Cond.before, Cond.holds, Cond.value, State.names, State.poolOf?, State.resolvedAt?, hv] at h1 ⊢
  exact h1
theorem SXt.warm {s U : State} (h : SXt s) (hW : s.WarmedH U.vm) : SXt U := ⟨fun x hx => (h.1 x hx).warmD hW, fun x hx => (h.2.1 x hx).warmC hW, fun x hx => (h.2.2 x hx).warmS hW⟩
theorem SX.go {G : fr_G} {s U : State} {locs : List Loc} (h : SX G s) (hS : va_S (AA (fr_q G)) s.heap U.heap locs) (hW : s.WarmedH U.vm) (hN : NS G U.heap) : SX G U := ⟨h.1.warm hW, ⟨(h.2.1.1.moved hW.alike).kept hS.2.1, (h.2.1.2.moved hW.alike).kept hS.2.1⟩, hN⟩
/-- no cell came: none is a class's statics -/
theorem NS.keep {G : fr_G} {s t : State} {L : List Loc} {n : Nat} (h : NS G s.heap) (hs : s.sameButNew ({ t with vm := s.vm } : State) L 0 n) : NS G t.heap := fun a cell ha hc => by
  have hsz : t.heap.size ≤ s.heap.size + 0 := hs.2.2.1
  have hlt := (Array.getElem?_eq_some_iff.mp hc).1
  obtain ⟨cell0, h0⟩ : ∃ c0, s.heap[a]? = some c0 := ⟨s.heap[a]'(by omega), Array.getElem?_eq_getElem (by omega)⟩
  obtain ⟨c', h1, h2, -⟩ := hs.2.2.2.2.2 a cell0 h0
  have e : t.heap[a]? = some c' := h1
  rw [hc] at e
  cases e
  rw [h2]
  exact h a cell0 ha h0
/-- an object that was thrown -/
def EXC (X : String) (x : Nat) (t : State) : Prop := ∃ ce : Cell, t.heap[x]? = some ce ∧ t.vm.findClass X = some ce.cls ∧ (∀ k, ce.vm ≠ .statics k) ∧ ∃ k, t.vm.classes[ce.cls]? = some k
def QTh (G : fr_G) (PT : String → fr_S → Prop) (below : List Frame) (s t : State) : Prop := ∃ (x : Nat) (X : String) (σ : fr_S), t.status = .running ∧ Ended t below (.threw x) ∧ PT X σ ∧ Pic G false 742 σ t.heap ∧ EXC X x t ∧ NS G t.heap ∧ va_F (AA (fr_q G)) s t ∧ s.WarmedH t.vm ∧ ∃ L : List Loc, s.sameButNew ({ t with vm := s.vm } : State) L 1 6 ∧ ∀ q ∈ L, AA (fr_q G) q.base
def QX (Y : fr_Y) (G : fr_G) (PR : Option Value → fr_S → Prop) (PT : String → fr_S → Prop) : List Frame → Array Value → State → State → Prop := fun below args s t => SX G s → (∀ m, s.frames = .invoking m args :: below → s.methodNamed? Y.1 = some m) → (QR G false 742 0 0 PR below args s t ∨ QTh G PT below s t)
theorem px_wk {l : Launch} {G : fr_G} {Y : fr_Y} {R : Room} {QF QF' : List Frame → Array Value → State → State → Prop} {ex : Bool} {n k sl pc : Nat} {lv : List (Nat × Value)} {st : List Value} {σ : fr_S} (h : PX l G Y R QF ex n k sl pc lv st σ) (hq : ∀ below args s t, QF below args s t → QF' below args s t) : PX l G Y R QF' ex n k sl pc lv st σ := by
  intro p e s m args below meth c H locs ls C hl hP hS T hT X
  obtain ⟨t, a, b⟩ := h p e s m args below meth c H locs ls C hl hP hS T hT X
  exact ⟨t, a, hq _ _ _ _ b⟩
def sx_w (X : String) : List Cond := sxD.map .declares ++ [.castable X X, .laysStatic Bundle.tN "UNASSIGNED_STACK" Bundle.steD, .laysStatic Bundle.tN "SUPPRESSED_SENTINEL" Bundle.listD, .isRef (.static Bundle.tN "UNASSIGNED_STACK" Bundle.steD), .isRef (.static Bundle.tN "SUPPRESSED_SENTINEL" Bundle.listD)]
theorem ow_of {L : List Cond} {X : String} {ix : List Nat} (hl : L.length = ix.length) (h : (L.zip ix).all (fun q => (decide (lw_tbl[q.2]? = some q.1) && goodWord q.1) || decide (q.1 ∈ sx_w X)) = true) : ∀ w ∈ L, w ∈ al_W ∨ w ∈ sx_w X := fun w hw => by
  obtain ⟨i, hi, e⟩ := List.getElem_of_mem hw
  have hz : i < (L.zip ix).length := by rw [List.length_zip, ← hl]; simp; exact hi
  have h1 := List.all_eq_true.mp h _ (List.getElem_mem hz)
  rw [List.getElem_zip] at h1
  dsimp only at h1
  rw [e] at h1
  simp only [Bool.or_eq_true, Bool.and_eq_true, decide_eq_true_eq] at h1
  rcases h1 with h1 | h1
  · exact Or.inl (al_in _ h1.1 h1.2)
  · exact Or.inr h1
theorem sx_use {G : fr_G} {U : State} {X : String} (hX : X ∈ sxC) (h : SX G U) (hT : TB G U) (args : Array Value) : ∀ w ∈ sx_w X, w.before args U = true := by
  intro w hw
  unfold sx_w at hw
  rcases List.mem_append.mp hw with hw | hw
  · obtain ⟨x, hx, rfl⟩ := List.mem_map.mp hw
    exact (h.1.1 x hx).use rfl
  · simp only [List.mem_cons, List.not_mem_nil, or_false] at hw
    rcases hw with rfl | rfl | rfl | rfl | rfl
    · exact (h.1.2.1 X hX).use rfl
    · exact h.2.1.1.use args
    · exact h.2.1.2.use args
    · exact Zq_isRef hT.2.2.2.2.2.1 args
    · exact Zq_isRef hT.2.2.2.2.2.2 args
def ownS : List String := ["java/lang/RuntimeException", "java/lang/Exception"]
/-- an object is made and thrown -/
theorem px_thr {l : Launch} {G : fr_G} {Y : fr_Y} {R : Room} {X tx : String} {i1 i2 ic pc p3 p4 p6 p9 p10 : Nat} {lv : List (Nat × Value)} {σ : fr_S} {PR : Option Value → fr_S → Prop} {PT : String → fr_S → Prop} (hfl : l.flags = pinnedFlags ++ [noTraceFlag]) (d0 : dc Y.2.1 pc (.new i1) 3 p3) (d3 : dc Y.2.1 p3 .dup 1 p4) (d4 : dc Y.2.1 p4 (.ldc i2) 2 p6) (d6 : dc Y.2.1 p6 (.invokespecial ic) 3 p9) (d9 : dc Y.2.1 p9 .athrow 1 p10)
    (hY : Y.1.cls = "PairVm") (hmw : MW Y) (hX : X ∈ sxC) (hfit : Bundle.fit X = true) (hw1 : Cond.classLink "PairVm" i1 X ∈ al_W) (hin : Cond.instantiable X 6 ∈ al_W) (hini : Cond.initialized X ∈ al_W) (ho : ∀ w ∈ Bundle.ownAtoms "PairVm" ic X ownS, w ∈ al_W ∨ w ∈ sx_w X) (hstr : (i2, tx) ∈ sxS) (hR : 1 ≤ R.cells ∧ 6 ≤ R.slots ∧ 6 ≤ R.frames ∧ 82 ≤ R.locals) (hp : PT X σ) : PX l G Y R (QX Y G PR PT) false 742 0 0 pc lv [] σ := by
  intro p e s m args below meth c H locs ls C hl hP hS T hT Xs
  by_cases hx : SX G s ∧ (∀ m, s.frames = .invoking m args :: below → s.methodNamed? Y.1 = some m)
  · obtain ⟨hsx, hnm⟩ := hx
    obtain ⟨d0, rfl⟩ := d0
    obtain ⟨d3, rfl⟩ := d3
    obtain ⟨d4, rfl⟩ := d4
    obtain ⟨d6, rfl⟩ := d6
    obtain ⟨d9, rfl⟩ := d9
    have hn := hnm m Xs.frames
    have hts := C.2.2.2.2.2.1
    obtain ⟨methY, cY, hmY, hcY, -, -, -, -, hexc, -⟩ := Cond.code_spec hn (hts _ hmw.1)
    cases Xs.method.symm.trans hmY
    cases Xs.code.symm.trans hcY
    have hout : ∀ (q : Nat), ∀ x ∈ c.exceptionTable.toList, covers x q = false := fun q x hx => by
      have : c.exceptionTable.toList = [] := by simpa using hexc
      rw [this] at hx
      cases hx
    have htr : e.platform.stackTraces = false := Jvm.D.Launch.traces_off hfl Xs.admits
    obtain ⟨g₀, hfr⟩ := Xs.frames_eq
    have X2 := rebase Xs
    obtain ⟨s2, hs2⟩ : ∃ s2, s2 = T.setFrames (.invoking m args :: below) := ⟨_, rfl⟩
    rw [← hs2] at X2
    have h2 : s2.heap = H := by rw [hs2]; exact hT
    have hv2 : s2.vm = T.vm := by rw [hs2]; rfl
    have hW2 : s.WarmedH s2.vm := by rw [hv2]; exact Xs.warmed
    have hts2 : ∀ w ∈ al_W, w.before args s2 = true := fun w hw => word_at hW2 (good_of_word (al_good w hw)) (hts w hw)
    have hS2 : va_S (AA (fr_q G)) s.heap s2.heap locs := by rw [h2]; exact hS
    have hT2 : TB G s2 := C.2.2.2.2.2.2.2.2.call hS2 hW2
    have hns : NS G s2.heap := by
      have := hsx.2.2.keep (t := T) (by have := Xs.same; exact this)
      rw [hT] at this
      rw [h2]
      exact this
    have hsx2 : SX G s2 := hsx.go hS2 hW2 hns
    have hown2 : s2.vm.findClass "PairVm" = some m.cls := by
      rw [← hY, hW2.alike.findClass]
      exact C.2.2.2.2.1
    have hall : ∀ w ∈ Bundle.ownAtoms "PairVm" ic X ownS, w.before args s2 = true := fun w hw => by
      rcases ho w hw with h | h
      · exact hts2 w h
      · exact sx_use hX hsx2 hT2 args w h
    obtain ⟨cX, kX, hfX, hkX, -⟩ := Cond.instantiable_spec (hts2 _ hin)
    have hstrZ : va_Nw (.stringRef "PairVm" i2 tx) s2 := hsx2.1.2.2 _ hstr
    obtain ⟨-, -, -, q, -, -, -, -, -, hev⟩ := Cond.stringRef_spec hown2 hstrZ
    have main : W p l e R s2 m args below meth c H [] 0 0 (fun t => QTh G PT below s2 t ∧ s2.sameButNew ({ t with vm := s2.vm } : State) [] 1 6) (F0 m pc ls []) := by
      refine W.newcK C.1 C.2.1 hown2 (hts2 _ hw1) (hts2 _ hin) (hts2 _ hini) rfl d0 (by omega) (by omega) hfX rfl fun H1 kC hkC e1 z1 o1 => ?_
      refine lv_dup C.1 C.2.1 d3 rfl ?_
      refine va_ldcS (q := q) C.1 C.2.1 hown2 ⟨hstrZ, hev⟩ d4 ?_
      intro T3 hT3 X3
      obtain ⟨U, st, hrun, hend, hWU, hsame, ce, hce, hoc⟩ := X3.ctorThrowS C.1 htr (own := "PairVm") (cls := X) (names := ownS) (ic := ic) hown2 hfit (by decide) hall (fun x hx => by cases hx) hfX hkC (a := H.size) (by rw [hT3]; exact e1) (by rw [h2]; exact Nat.le_refl _) (msg := .ref q) rfl (g := F0 m (pc + 3 + 1 + 2) ls [.ref q, .ref H.size, .ref H.size]) rfl (by rw [C.2.2.1]; exact hl.1) rfl rfl (rest := []) rfl (by rw [C.2.1]; exact d6) (by rw [C.2.1]; exact d9) (hout _) (by show 2 + 3 < R.frames; omega) (by show 2 * 0 + 1 + (13 * (2 + 1) + 42) ≤ R.locals; omega) C.2.2.2.2.2.2.1
      have hk : ∀ a : Nat, a < H.size → U.heap[a]? = H[a]? := fun a ha => by
        have hc0 : s2.heap[a]? = some (s2.heap[a]'(by rw [h2]; exact ha)) := Array.getElem?_eq_getElem _
        have := hsame.old_cell hc0
        rw [← h2]
        exact this.trans hc0.symm
      have hsz : U.heap.size ≤ H.size + 1 := by
        have := hsame.2.2.1
        rw [h2] at this
        exact this
      have hsz1 : H.size ≤ U.heap.size := by
        have := hsame.2.1
        rw [h2] at this
        exact this
      refine ⟨U, st, ⟨H.size, X, σ, hrun, hend, hp, ⟨hP.1.kept fun k q hk0 => hk q.1 ?_, fun h => absurd h (by decide)⟩, ⟨ce, hce, ?_, ?_, ?_⟩, fun a cell ha hc => ?_, ⟨by rw [h2]; exact hsz1, fun a h1 _ => by rw [h2]; exact hk a (by rw [← h2]; exact h1)⟩, hWU, [], hsame, fun q hq => by cases hq⟩, hsame⟩
      · exact (hP.1 k q hk0).lt
      · rw [hWU.alike.findClass]
        exact hoc.cls
      · rw [hoc.vm]
        intro k h
        cases h
      · have e : ce.cls = cX := Option.some.inj (hoc.cls.symm.trans hfX)
        obtain ⟨k', hk', -⟩ := hWU.alike.2.2 _ _ hkX
        exact ⟨k', by rw [e]; exact hk'⟩
      · by_cases hlt : a < H.size
        · rw [hk a hlt] at hc
          exact hns a cell ha (by rw [h2]; exact hc)
        · have hlt2 := (Array.getElem?_eq_some_iff.mp hc).1
          have e : a = H.size := by omega
          rw [e, hce] at hc
          cases hc
          rw [hoc.vm]
          rfl
    obtain ⟨t, st, ⟨x, XX, σ', q1, q2, q3, q4, q5, q6, q7, q8, L, q9, q10⟩, q11⟩ := main T hT X2
    refine ⟨t, st, fun _ _ => Or.inr ⟨x, XX, σ', q1, q2, q3, q4, q5, q6, ?_, hW2.trans q8, locs, ?_, hS.2.2⟩⟩
    · exact ⟨Nat.le_trans hS2.1 q7.1, fun a h1 h3 => (q7.2 a (Nat.lt_of_lt_of_le h1 hS2.1) h3).trans (hS2.2.1 a h1 h3)⟩
    · rw [hs2] at q11
      have b := sbn_base q11
      have b2 := Xs.same.trans (b.setVm s.vm)
      rw [List.append_nil] at b2
      exact b2
  · exact ⟨_, Steps.refl _, fun a b => absurd ⟨a, b⟩ hx⟩
def ex_I : String := "java/lang/IllegalArgumentException"
theorem ow_I : ∀ w ∈ Bundle.ownAtoms "PairVm" 56 "java/lang/IllegalArgumentException" ownS, w ∈ al_W ∨ w ∈ sx_w "java/lang/IllegalArgumentException" := ow_of (ix := [85, 549, 558, 563, 566, 568, 550, 551, 102, 103, 552, 557, 564, 584, 539, 585, 541, 586, 543, 553, 9999, 555, 9999, 545, 580, 581, 583, 545, 571, 572, 573, 574, 9999, 574, 575, 576, 577, 9999, 577, 578, 579, 580, 9999, 570, 528, 9999, 536, 537, 538, 540, 542, 544, 9999, 9999, 548, 547, 546]) rfl (by decide +kernel)
theorem px_thI {l : Launch} {G : fr_G} {Y : fr_Y} {R : Room} {tx : String} {i2 pc p3 p4 p6 p9 p10 : Nat} {lv : List (Nat × Value)} {σ : fr_S} {PR : Option Value → fr_S → Prop} {PT : String → fr_S → Prop} (hfl : l.flags = pinnedFlags ++ [noTraceFlag]) (d0 : dc Y.2.1 pc (.new 52) 3 p3) (d3 : dc Y.2.1 p3 .dup 1 p4) (d4 : dc Y.2.1 p4 (.ldc i2) 2 p6) (d6 : dc Y.2.1 p6 (.invokespecial 56) 3 p9) (d9 : dc Y.2.1 p9 .athrow 1 p10)
    (hY : Y.1.cls = "PairVm") (hmw : MW Y) (hstr : (i2, tx) ∈ sxS) (hR : 1 ≤ R.cells ∧ 6 ≤ R.slots ∧ 6 ≤ R.frames ∧ 82 ≤ R.locals) (hp : PT ex_I σ) : PX l G Y R (QX Y G PR PT) false 742 0 0 pc lv [] σ :=
  px_thr hfl d0 d3 d4 d6 d9 hY hmw (X := ex_I) (by unfold ex_I; decide) (by unfold ex_I; decide) (al_in 527 (by decide +kernel) rfl) (al_in 528 (by decide +kernel) rfl) (al_in 88 (by decide +kernel) rfl) ow_I hstr hR hp
def ex_S : String := "java/lang/IllegalStateException"
theorem ow_S : ∀ w ∈ Bundle.ownAtoms "PairVm" 97 "java/lang/IllegalStateException" ownS, w ∈ al_W ∨ w ∈ sx_w "java/lang/IllegalStateException" := ow_of (ix := [85, 549, 558, 563, 566, 568, 550, 551, 102, 103, 552, 557, 564, 584, 539, 585, 541, 586, 543, 553, 9999, 555, 9999, 545, 580, 581, 583, 545, 836, 837, 838, 574, 9999, 574, 575, 576, 577, 9999, 577, 578, 579, 580, 9999, 835, 826, 9999, 828, 561, 829, 830, 831, 832, 9999, 9999, 548, 547, 833]) rfl (by decide +kernel)
theorem px_thS {l : Launch} {G : fr_G} {Y : fr_Y} {R : Room} {tx : String} {i2 pc p3 p4 p6 p9 p10 : Nat} {lv : List (Nat × Value)} {σ : fr_S} {PR : Option Value → fr_S → Prop} {PT : String → fr_S → Prop} (hfl : l.flags = pinnedFlags ++ [noTraceFlag]) (d0 : dc Y.2.1 pc (.new 93) 3 p3) (d3 : dc Y.2.1 p3 .dup 1 p4) (d4 : dc Y.2.1 p4 (.ldc i2) 2 p6) (d6 : dc Y.2.1 p6 (.invokespecial 97) 3 p9) (d9 : dc Y.2.1 p9 .athrow 1 p10)
    (hY : Y.1.cls = "PairVm") (hmw : MW Y) (hstr : (i2, tx) ∈ sxS) (hR : 1 ≤ R.cells ∧ 6 ≤ R.slots ∧ 6 ≤ R.frames ∧ 82 ≤ R.locals) (hp : PT ex_S σ) : PX l G Y R (QX Y G PR PT) false 742 0 0 pc lv [] σ :=
  px_thr hfl d0 d3 d4 d6 d9 hY hmw (X := ex_S) (by unfold ex_S; decide) (by unfold ex_S; decide) (al_in 825 (by decide +kernel) rfl) (al_in 826 (by decide +kernel) rfl) (al_in 91 (by decide +kernel) rfl) ow_S hstr hR hp
def ex_A : String := "java/lang/ArithmeticException"
theorem ow_A : ∀ w ∈ Bundle.ownAtoms "PairVm" 116 "java/lang/ArithmeticException" ownS, w ∈ al_W ∨ w ∈ sx_w "java/lang/ArithmeticException" := ow_of (ix := [85, 549, 558, 563, 566, 568, 550, 551, 102, 103, 552, 557, 564, 584, 539, 585, 541, 586, 543, 553, 9999, 555, 9999, 545, 580, 581, 583, 545, 943, 944, 945, 574, 9999, 574, 575, 576, 577, 9999, 577, 578, 579, 580, 9999, 942, 933, 9999, 935, 560, 936, 937, 938, 939, 9999, 9999, 548, 547, 940]) rfl (by decide +kernel)
theorem px_thA {l : Launch} {G : fr_G} {Y : fr_Y} {R : Room} {tx : String} {i2 pc p3 p4 p6 p9 p10 : Nat} {lv : List (Nat × Value)} {σ : fr_S} {PR : Option Value → fr_S → Prop} {PT : String → fr_S → Prop} (hfl : l.flags = pinnedFlags ++ [noTraceFlag]) (d0 : dc Y.2.1 pc (.new 112) 3 p3) (d3 : dc Y.2.1 p3 .dup 1 p4) (d4 : dc Y.2.1 p4 (.ldc i2) 2 p6) (d6 : dc Y.2.1 p6 (.invokespecial 116) 3 p9) (d9 : dc Y.2.1 p9 .athrow 1 p10)
    (hY : Y.1.cls = "PairVm") (hmw : MW Y) (hstr : (i2, tx) ∈ sxS) (hR : 1 ≤ R.cells ∧ 6 ≤ R.slots ∧ 6 ≤ R.frames ∧ 82 ≤ R.locals) (hp : PT ex_A σ) : PX l G Y R (QX Y G PR PT) false 742 0 0 pc lv [] σ :=
  px_thr hfl d0 d3 d4 d6 d9 hY hmw (X := ex_A) (by unfold ex_A; decide) (by unfold ex_A; decide) (al_in 932 (by decide +kernel) rfl) (al_in 933 (by decide +kernel) rfl) (al_in 94 (by decide +kernel) rfl) ow_A hstr hR hp
def ex_U : String := "java/lang/UnsupportedOperationException"
theorem ow_U : ∀ w ∈ Bundle.ownAtoms "PairVm" 121 "java/lang/UnsupportedOperationException" ownS, w ∈ al_W ∨ w ∈ sx_w "java/lang/UnsupportedOperationException" := ow_of (ix := [85, 549, 558, 563, 566, 568, 550, 551, 102, 103, 552, 557, 564, 584, 539, 585, 541, 586, 543, 553, 9999, 555, 9999, 545, 580, 581, 583, 545, 959, 960, 961, 574, 9999, 574, 575, 576, 577, 9999, 577, 578, 579, 580, 9999, 958, 949, 9999, 951, 562, 952, 953, 954, 955, 9999, 9999, 548, 547, 956]) rfl (by decide +kernel)
theorem px_thU {l : Launch} {G : fr_G} {Y : fr_Y} {R : Room} {tx : String} {i2 pc p3 p4 p6 p9 p10 : Nat} {lv : List (Nat × Value)} {σ : fr_S} {PR : Option Value → fr_S → Prop} {PT : String → fr_S → Prop} (hfl : l.flags = pinnedFlags ++ [noTraceFlag]) (d0 : dc Y.2.1 pc (.new 117) 3 p3) (d3 : dc Y.2.1 p3 .dup 1 p4) (d4 : dc Y.2.1 p4 (.ldc i2) 2 p6) (d6 : dc Y.2.1 p6 (.invokespecial 121) 3 p9) (d9 : dc Y.2.1 p9 .athrow 1 p10)
    (hY : Y.1.cls = "PairVm") (hmw : MW Y) (hstr : (i2, tx) ∈ sxS) (hR : 1 ≤ R.cells ∧ 6 ≤ R.slots ∧ 6 ≤ R.frames ∧ 82 ≤ R.locals) (hp : PT ex_U σ) : PX l G Y R (QX Y G PR PT) false 742 0 0 pc lv [] σ :=
  px_thr hfl d0 d3 d4 d6 d9 hY hmw (X := ex_U) (by unfold ex_U; decide) (by unfold ex_U; decide) (al_in 948 (by decide +kernel) rfl) (al_in 949 (by decide +kernel) rfl) (al_in 95 (by decide +kernel) rfl) ow_U hstr hR hp

