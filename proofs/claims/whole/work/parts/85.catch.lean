/-! the law's helpers catch -/
/-- which exceptions are none of others -/
def ncL : List (String × String) := [(ex_S, ex_I), (ex_A, ex_I), (ex_A, ex_S), (ex_U, ex_I), (ex_U, ex_S), (ex_U, ex_A)]
def NCx (U : State) : Prop := ∀ q ∈ ncL, ∃ ca cb, U.vm.findClass q.1 = some ca ∧ U.vm.findClass q.2 = some cb ∧ U.vm.assignable ca cb = false
theorem NCx.warm {s U : State} (h : NCx s) (hW : s.WarmedH U.vm) : NCx U := fun q hq => by
  obtain ⟨ca, cb, h1, h2, h3⟩ := h q hq
  exact ⟨ca, cb, by rw [hW.alike.findClass]; exact h1, by rw [hW.alike.findClass]; exact h2, by rw [hW.alike.assignable]; exact h3⟩
def QcH (G : fr_G) (PH : Int32 → fr_S → Prop) : Array Value → State → Outcome → State → Prop := fun _ st o t => (∃ (k : Int32) (σ' : fr_S), o = .returned (some (.int k)) ∧ PH k σ' ∧ Pic G false 742 σ' t.heap ∧ NS G t.heap) ∧ va_F (AA (fr_q G)) st t
def QHx (Y : fr_Y) (G : fr_G) (PH : Int32 → fr_S → Prop) : List Frame → Array Value → State → State → Prop := fun below args s t => SX G s → NCx s → (∀ m, s.frames = .invoking m args :: below → s.methodNamed? Y.1 = some m) → MQ below (QcH G PH) args s 1 6 (AA (fr_q G)) t
theorem qr_qh {Y : fr_Y} {G : fr_G} {PH : Int32 → fr_S → Prop} {below : List Frame} {args : Array Value} {s t : State} (h : QR G false 742 0 0 (fun r σ' => ∃ k, r = some (.int k) ∧ PH k σ') below args s t) : QHx Y G PH below args s t := fun hsx _ _ => by
  obtain ⟨o, h1, h2, ⟨⟨r, σ', h3, ⟨k, rfl, h4⟩, h5⟩, h6⟩, L, h7, h8⟩ := h
  refine ⟨o, h1, h2, ⟨⟨k, σ', h3, h4, h5, hsx.2.2.keep h7.2.2⟩, h6⟩, L, ⟨h7.1, h7.2.1, h7.2.2.mono (by decide) (by decide)⟩, h8⟩
/-- a helper's call of what may throw: it catches -/
theorem px_hc {l : Launch} {G : fr_G} {Y : fr_Y} {R : Room} {Yc : fr_Y} {Rc : Room} {hs : List (Nat × Nat × Nat × Nat)} {i ci b z pc pc' : Nat} {As st stk : List Value} {lv : List (Nat × Value)} {σ : fr_S} {PH : Int32 → fr_S → Prop} {PR' : Option Value → fr_S → Prop} {PT' : String → fr_S → Prop} (hY : Y.1.cls = "PairVmLaw") (hret : Y.2.2.2 = some .int) (hcw : Cond.codeWith Y.1 Y.2.1 Y.2.2.1 Y.2.2.2 hs ∈ al_W) (hd : dc Y.2.1 pc (.invokevirtual i) 3 pc') (hlk : Cond.methodLink Y.1.cls i Yc.1 ∈ al_W) (hm : MV Yc) (hcl : ∃ Tt, cl_all[ci]? = some (Yc.1.cls, Tt, nfc ci)) (hci : ci < 10) (hk : kd b = (ci, z)) (ho : b < 742)
    (hnp : (parseMethodDescriptor Yc.1.desc).map (fun d => d.parameters.length) = some As.length) (hlen : ((.ref b :: As).map fun v : Value => v.category).sum ≤ Yc.2.2.1) (hst : (st.map fun v : Value => v.category).sum ≤ 8) (hR : Rc.frames + 1 ≤ R.frames ∧ 8 + (Yc.2.2.1 + 11) + Rc.locals ≤ R.locals ∧ 0 + Rc.cells ≤ R.cells ∧ 0 + Rc.slots ≤ R.slots) (hstk : stk = As.reverse ++ .ref b :: st)
    (hc : CE l G Yc Rc (.ref b :: As) σ PR' PT') (kk : ∀ (r : Option Value) (σ' : fr_S), PR' r σ' → PX l G Y R (QHx Y G PH) false 742 0 0 pc' lv (r.toList ++ st) σ')
    (kt : ∀ E σ', PT' E σ' → ∃ (pre rest : List (Nat × Nat × Nat × Nat)) (a b h ct h1 h2 h3 : Nat) (v : Int32) (v0 : Int) (j : Fin 4), hs = pre ++ (a, b, h, ct) :: rest ∧ (a ≤ pc ∧ pc < b) ∧ ct ≠ 0 ∧ E ∈ sxC ∧ Cond.classLink "PairVmLaw" ct E ∈ al_W ∧ (∀ y ∈ pre, ∃ nm, y.2.2.2 ≠ 0 ∧ Cond.classLink "PairVmLaw" y.2.2.2 nm ∈ al_W ∧ (E, nm) ∈ ncL) ∧ dc Y.2.1 h (.astore_n j) 1 h1 ∧ (j : Nat) < Y.2.2.1 ∧ dc Y.2.1 h1 (.iconst v0) 1 h2 ∧ Int32.ofInt v0 = v ∧ dc Y.2.1 h2 .ireturn 1 h3 ∧ PH v σ') :
    PX l G Y R (QHx Y G PH) false 742 0 0 pc lv stk σ := by
  subst hstk
  intro p e s m args below meth c H locs ls C hl hP hS T hT X
  by_cases hx : SX G s ∧ NCx s ∧ (∀ m, s.frames = .invoking m args :: below → s.methodNamed? Y.1 = some m)
  · obtain ⟨hsx, hnc, hnm⟩ := hx
    obtain ⟨hd, rfl⟩ := hd
    have hN : NS G H := by
      have := hsx.2.2.keep (t := T) X.same
      rw [hT] at this
      exact this
    have hts := C.2.2.2.2.2.1
    rcases ce_call C.1 C.2.1 C.2.2.1 C.2.2.2.2.1 hts C.2.2.2.2.2.2.2.2 hl hP hS hsx hT X hN hd hlk hm hcl hci hk ho hnp hlen hst hR hc with ⟨r, σ', T', L, h1, h2, _, h3, h4, h5⟩ | ⟨x, E, σ', T', L, h1, h2, h3, h4, h5, h6, h7⟩
    · obtain ⟨t2, a1, b1⟩ := kk r σ' h1 p e s m args below meth c T'.heap L ls C hl h2 h4 T' rfl h3
      exact ⟨t2, h5 t2 a1, b1⟩
    · obtain ⟨pre, rest, a, bb, hh, ct, q1, q2, q3, v, v0, j, e1, e2, e3, e4, e5, e6, ⟨d1, rfl⟩, e7, ⟨d2, rfl⟩, rfl, ⟨d3, rfl⟩, e8⟩ := kt E σ' h1
      obtain ⟨mW, methW, cW, w1, w2, w3, -, -, w6, -, -, -⟩ := Cond.codeWith_spec (hts _ hcw)
      cases (hnm m X.frames).symm.trans w1
      cases X.method.symm.trans w2
      cases X.code.symm.trans w3
      rw [e1] at w6
      obtain ⟨preE, l2, g1, g2, g3⟩ := List.map_eq_append_iff.mp w6
      obtain ⟨xE, restE, g4, g5, g6⟩ := List.map_eq_cons_iff.mp g3
      rw [g4] at g1
      have hown : s.vm.findClass "PairVmLaw" = some m.cls := by rw [← hY]; exact C.2.2.2.2.1
      have hpl : e.platform.magicAccessors = ({} : Platform).magicAccessors := by rw [X.admits.platform]
      obtain ⟨ce0, y1, y2, y3, k0, y4⟩ := h3
      have hal := h5.warmed.alike
      have hfE : s.vm.findClass E = some ce0.cls := by rw [← hal.findClass]; exact y2
      have hk0 : ∃ k, s.vm.classes[ce0.cls]? = some k := by
        obtain ⟨k', hk', -⟩ := hal.symm.2.2 _ _ y4
        exact ⟨k', hk'⟩
      have hct : xE.catchType = ct := congrArg (fun q : Nat × Nat × Nat × Nat => q.2.2.2) g5
      have hhp : xE.handlerPc = hh := congrArg (fun q : Nat × Nat × Nat × Nat => q.2.2.1) g5
      have hsp : xE.startPc = a := congrArg (fun q : Nat × Nat × Nat × Nat => q.1) g5
      have hep : xE.endPc = bb := congrArg (fun q : Nat × Nat × Nat × Nat => q.2.1) g5
      obtain ⟨cc1, cc2, f1, f2, f3⟩ := Cond.castable_spec (hsx.1.2.1 E e4)
      cases f1.symm.trans hfE
      cases f2.symm.trans hfE
      have hcat := h5.catches_of_link hown (x := xE) (by rw [hct]; exact e3) (name := E) (by rw [hct]; exact hts _ e5) hfE f3
      have hpass : ∀ y ∈ preE, RowPassed e.platform s m.cls (F0 m pc ls (st.map (cv G))).pc ce0.cls y := fun y hy => by
        have hy2 : (y.startPc, y.endPc, y.handlerPc, y.catchType) ∈ pre := by rw [← g2]; exact List.mem_map.mpr ⟨y, hy, rfl⟩
        obtain ⟨nm, u1, u2, u3⟩ := e6 _ hy2
        obtain ⟨c', hc', hcl'⟩ := Cond.classLink_spec hown (hts _ u2) e.platform hpl
        obtain ⟨ca, cb, z1, z2, z3⟩ := hnc _ u3
        cases z1.symm.trans hfE
        cases z2.symm.trans hc'
        exact Or.inr ⟨u1, _, hcl', z3⟩
      have hob : ce0.vm.isStatics = false := by
        cases hv : ce0.vm <;> first | rfl | exact absurd hv (y3 _)
      obtain ⟨vm', X', st'⟩ := h5.caughtThrough x (g := F0 m pc ls (st.map (cv G))) rfl (cell := ce0) y1 hob hk0 preE xE restE g1 hpass (by simp only [covers, hsp, hep, Bool.and_eq_true, decide_eq_true_eq]; exact e2) hcat.1
      have hw : W p l e R s m args below meth c T'.heap L 1 6 (MQ below (QcH G PH) args s 1 6 (AA (fr_q G))) (F0 m hh ls [.ref x]) := by
        refine lv_astore_n (lv' := s_1 (j : Nat) (.ref x) (lv.map (cvp G))) C.1 C.2.1 d1 rfl hl (by exact e7) rfl (fun ls2 hl2 => ?_)
        refine lv_iconst (v := Int32.ofInt v0) C.1 C.2.1 d2 rfl ?_
        exact W.iret C.1 C.2.1 (C.2.2.2.1.trans hret) (fun t ht hW => ⟨⟨_, σ', rfl, e8, by rw [ht]; exact h2, by rw [ht]; exact h4⟩, h6.F ht⟩) h6.2.2 d3 C.2.2.2.2.2.2.1
      obtain ⟨t2, a1, b1⟩ := hw (T'.setVm vm') rfl X'
      refine ⟨t2, h7 t2 ?_, fun _ _ _ => b1⟩
      rw [h5.pushThrowing_eq]
      refine st' t2 ?_
      rw [hhp]
      exact a1
  · exact ⟨_, Steps.refl _, fun a b c => absurd ⟨a, b, c⟩ hx⟩

