/-! the start: calls of constructors that make arrays of objects -/
def PcA (G : fr_G) (n : Nat) (As : List Value) (σ : fr_S) : Array Value → State → Prop := va_Pc (As.map (cv G)) (fun U => (Pic G true n σ U.heap ∧ TB G U) ∧ AOs U)
theorem PcA_blind {G : fr_G} {n : Nat} {As : List Value} {σ : fr_S} : FrameBlind (PcA G n As σ) := fun a U g mk h => ⟨h.1, ⟨h.2.1.1, h.2.1.2⟩, h.2.2.moved (u := U) (U := U.calling g mk a) (Vm.Alike.refl U.vm)⟩
theorem px_metA {l : Launch} {G : fr_G} {Y : fr_Y} {R : Room} {n n' mc ms : Nat} {σ : fr_S} {As : List Value} {Post : Option Value → fr_S → Prop} (hy : plainName Y.1.cls = true) (hlen : (As.map fun v => v.category).sum ≤ Y.2.2.1) (h : PX l G Y R (QA G n' mc ms Post) true n 0 0 0 (lv_args 0 As) [] σ) :
    Met l Y.1 (wsY Y) R (PcA G n As σ) (Qc G true n' Post) mc ms (AA (fr_q G)) := by
  refine Met.ofW (cc := Y.2.1) (maxL := Y.2.2.1) (ret := Y.2.2.2) hy rfl ?_
  intro p e s m args below meth c s₁ B hml hv
  obtain ⟨rfl, ⟨hPi, hT⟩, hA⟩ := hv
  have hts := atoms_spec (ws := wsY Y) B.pre
  have hl := lv_entry (As.map (cv G)) (n := Y.2.2.1) (by rw [lg_len, cv_sum]; exact hlen)
  rw [lg_entry_eq]
  rw [cv_args] at hl
  have := h p e s m _ below meth c s.heap [] _ ⟨B.exec, B.bytes, hml, B.returns, findClass_of_methodNamed B.named, fun w hw => hts w (List.mem_cons_of_mem _ hw), B.notSynchronized, (name_of_methodNamed B.named B.method).1, hT⟩ hl hPi va_S.rf
  intro T hT X
  obtain ⟨t, a, b⟩ := this T hT X
  exact ⟨t, a, b hA⟩
/-- such a constructor is called -/
theorem w_initA {l : Launch} {G : fr_G} {own : String} {cc : ByteArray} {mL : Nat} {R : Room} {p : Program} {e : Env} {s : State} {m : MethodId} {args : Array Value} {below : List Frame} {meth : Method} {c : Code} {H : Heap} {locs : List Loc} {ls : Array Slot} {n k sl pc : Nat} {σ : fr_S} {Q : State → Prop} {Yc : fr_Y} {Rc : Room} {i b n' mc ms : Nat} {rest : List Value} {Post : Option Value → fr_S → Prop}
    (hx : p.tables.exec = Jvm.exec) (hcc : c.code = cc) (hml : c.maxLocals = mL) (hown : s.vm.findClass own = some m.cls) (hts : ∀ w ∈ al_W, w.before args s = true) (hls : ls.size = mL) (hTB : TB G s) (hAO : AOs s) (hP : Pic G true n σ H) (hS : va_S (AA (fr_q G)) s.heap H locs) (hd : decode cc pc = .ok (.invokespecial i, 3)) (hlk : Cond.methodLink own i Yc.1 ∈ al_W) (hm : MI Yc)
    (hnp : NP Yc 0) (hlen : 1 ≤ Yc.2.2.1) (hst : (rest.map fun v : Value => v.category).sum ≤ 8) (hR : RK R Rc Yc mc ms) (hf : k + mc ≤ R.cells ∧ sl + ms ≤ R.slots)
    (hc : PX l G Yc Rc (QA G n' mc ms Post) true n 0 0 0 [(0, .ref b)] [] σ)
    (kk : ∀ (r : Option Value) (σ' : fr_S) (H' : Heap) (L' : List Loc), Post r σ' → Pic G true n' σ' H' → va_S (AA (fr_q G)) s.heap H' L' → W p l e R s m args below meth c H' L' (k + mc) (sl + ms) Q (F0 m (pc + 3) ls ((r.map (cv G)).toList ++ rest))) : W p l e R s m args below meth c H locs k sl Q (F0 m pc ls (.ref (fr_q G + b) :: rest)) := by
  obtain ⟨⟨hcode, hini, hmh, hpl⟩, hin, hnm, hret⟩ := hm
  have hM := px_metA (As := [.ref b]) hpl hlen hc
  have hpv : PreS s H (PcA G n [.ref b] σ) [.ref (fr_q G + b)] :=
    ⟨PcA_blind, fun U hU hW => ⟨rfl, ⟨by rw [hU]; exact hP, hTB.call (locs := locs) (by rw [hU]; exact hS) hW⟩, hAO.moved hW.alike⟩⟩
  have hw8 : 2 * (F0 m pc ls (.ref (fr_q G + b) :: rest)).monitorRoom + (rest.map fun v => v.category).sum ≤ 8 := by show 2 * 0 + _ ≤ 8; omega
  have hws : wsY Yc = Cond.code Yc.1 Yc.2.1 Yc.2.2.1 none :: al_W := by unfold wsY; rw [hret]
  have hr := va_runI (e := e) (below := below) (meth := meth) (locs := locs) (As := []) (rest := rest) ⟨hx, hcc, hml, hown, hts⟩ hM ⟨callB_of 0 hts (wsY_good ⟨hcode, hini, hmh, hpl⟩) hws hR.1 hR.2.1 (hts _ hini) (hts _ hlk) ⟨hmh.1, hmh.2, hnp⟩ hR.2.2, hnm, hts _ hin⟩ hpv rfl rfl hls rfl hw8 hd hf
  intro T hT X
  obtain ⟨v, st₀, t, T', L, h0, X', hL, e1, e2, ⟨⟨r, σ', hv, hp, hb⟩, hz, hk⟩, stp⟩ := hr T hT X
  cases hv
  rw [h0] at hz hk
  obtain ⟨t2, a1, b1⟩ := kk r σ' T'.heap (locs ++ L) hp (by rw [e1]; exact hb)
    ⟨Nat.le_trans hS.1 (by rw [e1]; exact hz), fun q h1 h2 => by rw [e1, hk q (Nat.lt_of_lt_of_le h1 hS.1) h2]; exact hS.2.1 q h1 h2, fun q hq => by
      rcases List.mem_append.mp hq with h | h
      · exact hS.2.2 q h
      · exact hL q h⟩ T' rfl X'
  exact ⟨t2, stp t2 a1, b1⟩
theorem px_callIA {l : Launch} {G : fr_G} {Y : fr_Y} {R : Room} {n k sl pc pc' : Nat} {lv : List (Nat × Value)} {st : List Value} {σ : fr_S} {n2 mc2 ms2 : Nat} {Post2 : Option Value → fr_S → Prop} {Yc : fr_Y} {Rc : Room} {i b n' mc ms : Nat} {Post : Option Value → fr_S → Prop} (hd : dc Y.2.1 pc (.invokespecial i) 3 pc') (hlk : Cond.methodLink Y.1.cls i Yc.1 ∈ al_W) (hm : MI Yc)
    (hnp : NP Yc 0) (hlen : 1 ≤ Yc.2.2.1) (hst : (st.map fun v : Value => v.category).sum ≤ 8) (hR : RK R Rc Yc mc ms) (hf : k + mc ≤ R.cells ∧ sl + ms ≤ R.slots)
    (hc : PX l G Yc Rc (QA G n' mc ms Post) true n 0 0 0 [(0, .ref b)] [] σ)
    (kk : ∀ (r : Option Value) (σ' : fr_S), Post r σ' → PX l G Y R (QA G n2 mc2 ms2 Post2) true n' (k + mc) (sl + ms) pc' lv (r.toList ++ st) σ') : PX l G Y R (QA G n2 mc2 ms2 Post2) true n k sl pc lv (.ref b :: st) σ := by
  intro p e s m args below meth c H locs ls C hl hP hS
  by_cases hA : AOs s
  · obtain ⟨hd, rfl⟩ := hd
    refine w_initA (own := Y.1.cls) C.1 C.2.1 C.2.2.1 C.2.2.2.2.1 C.2.2.2.2.2.1 hl.1 C.2.2.2.2.2.2.2.2 hA hP hS hd hlk hm hnp hlen (rest := st.map (cv G)) (by rw [cv_sum]; exact hst) hR hf hc fun r σ' H' L' h1 h2 h3 => ?_
    rw [tl_cv]
    exact kk r σ' h1 p e s m args below meth c H' L' ls C hl h2 h3
  · exact fun T hT X => ⟨_, Steps.refl _, fun q => absurd q hA⟩

