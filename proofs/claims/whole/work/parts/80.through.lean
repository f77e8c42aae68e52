/-! a throw goes through -/
/-- a call of what may throw, from a method that catches nothing -/
theorem px_cVE {l : Launch} {G : fr_G} {Y : fr_Y} {R : Room} {Yc : fr_Y} {Rc : Room} {i ci b z pc pc' : Nat} {As st stk : List Value} {lv : List (Nat × Value)} {σ : fr_S} {PR PR' : Option Value → fr_S → Prop} {PT PT' : String → fr_S → Prop} (hd : dc Y.2.1 pc (.invokevirtual i) 3 pc') (hlk : Cond.methodLink Y.1.cls i Yc.1 ∈ al_W) (hmw : MW Y) (hm : MV Yc) (hcl : ∃ Tt, cl_all[ci]? = some (Yc.1.cls, Tt, nfc ci)) (hci : ci < 10) (hk : kd b = (ci, z)) (ho : b < 742)
    (hnp : (parseMethodDescriptor Yc.1.desc).map (fun d => d.parameters.length) = some As.length) (hlen : ((.ref b :: As).map fun v : Value => v.category).sum ≤ Yc.2.2.1) (hst : (st.map fun v : Value => v.category).sum ≤ 8) (hR : Rc.frames + 1 ≤ R.frames ∧ 8 + (Yc.2.2.1 + 11) + Rc.locals ≤ R.locals ∧ 0 + Rc.cells ≤ R.cells ∧ 0 + Rc.slots ≤ R.slots) (hstk : stk = As.reverse ++ .ref b :: st)
    (hc : CE l G Yc Rc (.ref b :: As) σ PR' PT') (kk : ∀ (r : Option Value) (σ' : fr_S), PR' r σ' → PX l G Y R (QX Y G PR PT) false 742 0 0 pc' lv (r.toList ++ st) σ') (kt : ∀ E σ', PT' E σ' → PT E σ') : PX l G Y R (QX Y G PR PT) false 742 0 0 pc lv stk σ := by
  subst hstk
  intro p e s m args below meth c H locs ls C hl hP hS T hT X
  by_cases hx : SX G s ∧ (∀ m, s.frames = .invoking m args :: below → s.methodNamed? Y.1 = some m)
  · obtain ⟨hsx, hnm⟩ := hx
    obtain ⟨hd, rfl⟩ := hd
    have hN : NS G H := by
      have := hsx.2.2.keep (t := T) X.same
      rw [hT] at this
      exact this
    rcases ce_call C.1 C.2.1 C.2.2.1 C.2.2.2.2.1 C.2.2.2.2.2.1 C.2.2.2.2.2.2.2.2 hl hP hS hsx hT X hN hd hlk hm hcl hci hk ho hnp hlen hst hR hc with ⟨r, σ', T', L, h1, h2, _, h3, h4, h5⟩ | ⟨x, E, σ', T', L, h1, h2, h3, h4, h5, h6, h7⟩
    · obtain ⟨t2, a1, b1⟩ := kk r σ' h1 p e s m args below meth c T'.heap L ls C hl h2 h4 T' rfl h3
      exact ⟨t2, h5 t2 a1, b1⟩
    · obtain ⟨methY, cY, hmY, hcY, -, -, -, -, hexc, -⟩ := Cond.code_spec (hnm m X.frames) (C.2.2.2.2.2.1 _ hmw.1)
      cases X.method.symm.trans hmY
      cases X.code.symm.trans hcY
      have hout : ∀ x ∈ c.exceptionTable.toList, covers x (F0 m pc ls (st.map (cv G))).pc = false := fun x hx => by
        have : c.exceptionTable.toList = [] := by simpa using hexc
        rw [this] at hx
        cases hx
      obtain ⟨s1, s2, s3, s4, s5⟩ := h5.leaveThrown x (g := F0 m pc ls (st.map (cv G))) rfl rfl rfl hout C.2.2.2.2.2.2.1
      refine ⟨_, h7 _ s1, fun _ _ => Or.inr ⟨x, E, σ', s2, s3, kt E σ' h1, h2, h3, h4, ⟨h6.1, h6.2.1⟩, s4, L, s5, h6.2.2⟩⟩
  · exact ⟨_, Steps.refl _, fun a b => absurd ⟨a, b⟩ hx⟩

