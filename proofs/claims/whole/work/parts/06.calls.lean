/-! returns, calls, new cells -/
theorem cv_args (G : fr_G) : ∀ (vs : List Value) (i : Nat), lv_args i (vs.map (cv G)) = (lv_args i vs).map (cvp G)
  | [], _ => rfl
  | v :: vs, i => by
    cases v <;> simp [lv_args, cv, cvp, cv_args G vs, Value.category]
theorem lg_len : ∀ vs : List Value, (lg_sl vs).length = (vs.map fun v => v.category).sum
  | [] => rfl
  | v :: vs => by
    have ih := lg_len vs
    have e : lg_sl (v :: vs) = (if v.category = 2 then [.val v, .second] else [.val v]) ++ lg_sl vs := rfl
    rw [e, List.length_append, ih, List.map_cons, List.sum_cons]
    rcases lv_cat v with h | h <;> simp [h]
theorem cv_sum (G : fr_G) (vs : List Value) : ((vs.map (cv G)).map fun v => v.category).sum = (vs.map fun v => v.category).sum := by
  rw [List.map_map]
  congr 2
  funext v
  exact cv_cat G v
def wsY (Y : fr_Y) : List Cond := .code Y.1 Y.2.1 Y.2.2.1 Y.2.2.2 :: al_W
section PXC
variable {l : Launch} {G : fr_G} {Y : fr_Y} {R : Room} {QF : List Frame → Array Value → State → State → Prop} {ex : Bool} {n k sl pc pc' : Nat} {lv lv' : List (Nat × Value)} {st : List Value} {σ σ' : fr_S}
theorem px_iret {x : Int32} {Post : Option Value → fr_S → Prop} (hd : dc Y.2.1 pc .ireturn 1 pc') (hr : Y.2.2.2 = some .int) (h : Post (some (.int x)) σ) : PX l G Y R (QR G ex n k sl Post) ex n k sl pc lv [.int x] σ := by
  intro p e s m args below meth c H locs ls C hl hP hS
  exact W.iret C.1 C.2.1 (C.2.2.2.1.trans hr) (fun t ht hW => ⟨⟨some (.int x), σ, rfl, h, by rw [ht]; exact hP⟩, hS.F ht⟩) hS.2.2 hd.1 C.2.2.2.2.2.2.1
theorem px_zret {x : Int32} {Post : Option Value → fr_S → Prop} (hd : dc Y.2.1 pc .ireturn 1 pc') (hr : Y.2.2.2 = some .boolean) (hx : x = 0 ∨ x = 1) (h : Post (some (.int x)) σ) : PX l G Y R (QR G ex n k sl Post) ex n k sl pc lv [.int x] σ := by
  intro p e s m args below meth c H locs ls C hl hP hS
  exact W.zret C.1 C.2.1 (C.2.2.2.1.trans hr) (by rcases hx with rfl | rfl <;> rfl) (fun t ht hW => ⟨⟨some (.int x), σ, rfl, h, by rw [ht]; exact hP⟩, hS.F ht⟩) hS.2.2 hd.1 C.2.2.2.2.2.2.1
theorem px_lret {x : Int64} {Post : Option Value → fr_S → Prop} (hd : dc Y.2.1 pc .lreturn 1 pc') (hr : Y.2.2.2 = some .long) (h : Post (some (.long x)) σ) : PX l G Y R (QR G ex n k sl Post) ex n k sl pc lv [.long x] σ := by
  intro p e s m args below meth c H locs ls C hl hP hS
  exact W.lret C.1 C.2.1 (C.2.2.2.1.trans hr) (fun t ht hW => ⟨⟨some (.long x), σ, rfl, h, by rw [ht]; exact hP⟩, hS.F ht⟩) hS.2.2 hd.1 C.2.2.2.2.2.2.1
theorem px_fret {x : UInt32} {Post : Option Value → fr_S → Prop} (hd : dc Y.2.1 pc .freturn 1 pc') (hr : Y.2.2.2 = some .float) (h : Post (some (.float x)) σ) : PX l G Y R (QR G ex n k sl Post) ex n k sl pc lv [.float x] σ := by
  intro p e s m args below meth c H locs ls C hl hP hS
  exact W.fret C.1 C.2.1 (C.2.2.2.1.trans hr) (fun t ht hW => ⟨⟨some (.float x), σ, rfl, h, by rw [ht]; exact hP⟩, hS.F ht⟩) hS.2.2 hd.1 C.2.2.2.2.2.2.1
theorem px_dret {x : UInt64} {Post : Option Value → fr_S → Prop} (hd : dc Y.2.1 pc .dreturn 1 pc') (hr : Y.2.2.2 = some .double) (h : Post (some (.double x)) σ) : PX l G Y R (QR G ex n k sl Post) ex n k sl pc lv [.double x] σ := by
  intro p e s m args below meth c H locs ls C hl hP hS
  exact W.dret C.1 C.2.1 (C.2.2.2.1.trans hr) (fun t ht hW => ⟨⟨some (.double x), σ, rfl, h, by rw [ht]; exact hP⟩, hS.F ht⟩) hS.2.2 hd.1 C.2.2.2.2.2.2.1
theorem px_aret {x : Nat} {C0 : String} {Post : Option Value → fr_S → Prop} (hd : dc Y.2.1 pc .areturn 1 pc') (hr : Y.2.2.2 = some (.object C0)) (h : Post (some (.ref x)) σ) : PX l G Y R (QR G ex n k sl Post) ex n k sl pc lv [.ref x] σ := by
  intro p e s m args below meth c H locs ls C hl hP hS
  exact W.aret C.1 C.2.1 (C.2.2.2.1.trans hr) (Or.inl ⟨_, rfl⟩) (Or.inr ⟨_, rfl⟩) (fun t ht hW => ⟨⟨some (.ref x), σ, rfl, h, by rw [ht]; exact hP⟩, hS.F ht⟩) hS.2.2 hd.1 C.2.2.2.2.2.2.1
theorem px_aretN {C0 : String} {Post : Option Value → fr_S → Prop} (hd : dc Y.2.1 pc .areturn 1 pc') (hr : Y.2.2.2 = some (.object C0)) (h : Post (some .null) σ) : PX l G Y R (QR G ex n k sl Post) ex n k sl pc lv [.null] σ := by
  intro p e s m args below meth c H locs ls C hl hP hS
  exact W.aret C.1 C.2.1 (C.2.2.2.1.trans hr) (Or.inl ⟨_, rfl⟩) (Or.inl rfl) (fun t ht hW => ⟨⟨some .null, σ, rfl, h, by rw [ht]; exact hP⟩, hS.F ht⟩) hS.2.2 hd.1 C.2.2.2.2.2.2.1
theorem px_vret {Post : Option Value → fr_S → Prop} (hd : dc Y.2.1 pc .return_ 1 pc') (hr : Y.2.2.2 = none) (h : Post none σ) : PX l G Y R (QR G ex n k sl Post) ex n k sl pc lv [] σ := by
  intro p e s m args below meth c H locs ls C hl hP hS
  exact W.vret C.1 C.2.1 (C.2.2.2.1.trans hr) (fun t ht hW => ⟨⟨none, σ, rfl, h, by rw [ht]; exact hP⟩, hS.F ht⟩) hS.2.2 hd.1 C.2.2.2.2.2.2.1
/-- a method's contract out of its walk -/
theorem px_met {n' mc ms : Nat} {As : List Value} {Post : Option Value → fr_S → Prop} (hy : plainName Y.1.cls = true) (hlen : (As.map fun v => v.category).sum ≤ Y.2.2.1) (h : PX l G Y R (QR G ex n' mc ms Post) ex n 0 0 0 (lv_args 0 As) [] σ) :
    Met l Y.1 (wsY Y) R (va_Pc (As.map (cv G)) (fun U => Pic G ex n σ U.heap ∧ TB G U)) (Qc G ex n' Post) mc ms (AA (fr_q G)) := by
  refine Met.ofW (cc := Y.2.1) (maxL := Y.2.2.1) (ret := Y.2.2.2) hy rfl ?_
  intro p e s m args below meth c s₁ B hml hv
  obtain ⟨rfl, hPi, hT⟩ := hv
  have hts := atoms_spec (ws := wsY Y) B.pre
  have hl := lv_entry (As.map (cv G)) (n := Y.2.2.1) (by rw [lg_len, cv_sum]; exact hlen)
  rw [lg_entry_eq]
  rw [cv_args] at hl
  exact h p e s m _ below meth c s.heap [] _ ⟨B.exec, B.bytes, hml, B.returns, findClass_of_methodNamed B.named, fun w hw => hts w (List.mem_cons_of_mem _ hw), B.notSynchronized, (name_of_methodNamed B.named B.method).1, hT⟩ hl hPi va_S.rf
/-- behind a call -/
theorem px_run {p : Program} {e : Env} {s : State} {m : MethodId} {args : Array Value} {below : List Frame} {meth : Method} {c : Code} {H : Heap} {locs : List Loc} {ls : Array Slot} {n' mc ms : Nat} {st0 : List Value} {a : Array Value} {Post : Option Value → fr_S → Prop} (C : Cx G Y p s m args meth c) (hl : lv_has ls Y.2.2.1 (lv.map (cvp G))) (hS : va_S (AA (fr_q G)) s.heap H locs)
    (hr : va_Run p l e R s m args below meth c H locs k sl mc ms (F0 m pc ls st0) (st.map (cv G)) (Qc G ex n' Post a) (AA (fr_q G)))
    (kk : ∀ (r : Option Value) (σ' : fr_S), Post r σ' → PX l G Y R QF ex n' (k + mc) (sl + ms) (pc + 3) lv (r.toList ++ st) σ') : W p l e R s m args below meth c H locs k sl (QF below args s) (F0 m pc ls st0) := by
  intro T hT X
  obtain ⟨v, st₀, t, T', L, h0, X', hL, e1, e2, ⟨⟨r, σ', hv, hp, hb⟩, hz, hk⟩, stp⟩ := hr T hT X
  cases hv
  rw [h0] at hz hk
  obtain ⟨t2, a1, b1⟩ := kk r σ' hp p e s m args below meth c T'.heap (locs ++ L) ls C hl (by rw [e1]; exact hb)
    ⟨Nat.le_trans hS.1 (by rw [e1]; exact hz), fun q h1 h2 => by rw [e1, hk q (Nat.lt_of_lt_of_le h1 hS.1) h2]; exact hS.2.1 q h1 h2, fun q hq => by
      rcases List.mem_append.mp hq with h | h
      · exact hS.2.2 q h
      · exact hL q h⟩ T' rfl X'
  refine ⟨t2, stp t2 ?_, b1⟩
  have e3 : (r.toList ++ st).map (cv G) = (r.map (cv G)).toList ++ st.map (cv G) := by cases r <;> rfl
  rw [e3] at a1
  exact a1
/-- the words of a method that is called -/
def MW (Y : fr_Y) : Prop := Cond.code Y.1 Y.2.1 Y.2.2.1 Y.2.2.2 ∈ al_W ∧ Cond.initialized Y.1.cls ∈ al_W ∧ (Y.1.cls ≠ "java/lang/invoke/MethodHandle" ∧ Y.1.cls ≠ "java/lang/invoke/VarHandle") ∧ plainName Y.1.cls = true
def MV (Y : fr_Y) : Prop := MW Y ∧ Cond.instanceMethod Y.1 ∈ al_W ∧ Cond.selects Y.1.cls Y.1 Y.1 ∈ al_W
def MS (Y : fr_Y) : Prop := MW Y ∧ Cond.static Y.1 ∈ al_W
def MI (Y : fr_Y) : Prop := MW Y ∧ Cond.instanceMethod Y.1 ∈ al_W ∧ Y.1.name = "<init>" ∧ Y.2.2.2 = none
/-- a link of the pool to a method -/
def MK (own : String) (idx : Nat) (y : MethodName) : Prop := Cond.methodLink own idx y ∈ al_W ∨ ∃ host, (own, idx, y, host) ∈ nw_M
theorem wsY_good {Yc : fr_Y} (h : MW Yc) : GoodIn al_W (wsY Yc) := fun w hw => by
  rcases List.mem_cons.mp hw with rfl | hw
  · exact ⟨h.1, Or.inl rfl⟩
  · exact ⟨hw, good_of_word (al_good w hw)⟩
/-- the room that a call takes -/
def RK (R Rc : Room) (Yc : fr_Y) (mc ms : Nat) : Prop := Rc.cells = mc ∧ Rc.slots = ms ∧ Rc.frames + 1 ≤ R.frames ∧ 8 + (Yc.2.2.1 + 11) + Rc.locals ≤ R.locals
theorem Pc_blind {As : List Value} : FrameBlind (va_Pc As (fun U => Pic G ex n σ U.heap ∧ TB G U)) := fun a U g mk h => ⟨h.1, h.2.1, h.2.2⟩
theorem px_callV {Yc : fr_Y} {Rc : Room} {i ci b n' mc ms z : Nat} {As : List Value} {Post : Option Value → fr_S → Prop} (hd : dc Y.2.1 pc (.invokevirtual i) 3 pc') (hlk : MK Y.1.cls i Yc.1) (hm : MV Yc) (hcl : ∃ T, cl_all[ci]? = some (Yc.1.cls, T, nfc ci)) (hci : ci < 10) (hk : kd b = (ci, z)) (ho : b < n)
    (hnp : (parseMethodDescriptor Yc.1.desc).map (fun d => d.parameters.length) = some As.length) (hlen : ((.ref b :: As).map fun v : Value => v.category).sum ≤ Yc.2.2.1) (hst : (st.map fun v : Value => v.category).sum ≤ 8) (hR : RK R Rc Yc mc ms) (hf : k + mc ≤ R.cells ∧ sl + ms ≤ R.slots) {stk : List Value} (hstk : stk = As.reverse ++ .ref b :: st)
    (hc : PX l G Yc Rc (QR G ex n' mc ms Post) ex n 0 0 0 (lv_args 0 (.ref b :: As)) [] σ)
    (kk : ∀ (r : Option Value) (σ' : fr_S), Post r σ' → PX l G Y R QF ex n' (k + mc) (sl + ms) pc' lv (r.toList ++ st) σ') : PX l G Y R QF ex n k sl pc lv stk σ := by
  subst hstk
  intro p e s m args below meth c H locs ls C hl hP hS
  obtain ⟨hd, rfl⟩ := hd
  obtain ⟨⟨hcode, hini, hmh, hpl⟩, hin, hsel⟩ := hm
  obtain ⟨T, hcl⟩ := hcl
  have hM := px_met hpl hlen hc
  have hts := C.2.2.2.2.2.1
  have hat := wd_at (G := G) (σ := σ) ho
  unfold ce at hat
  rw [hk, cek_o ci hci] at hat
  have hpv : PreV s H Yc.1.cls (fr_q G + b) (va_Pc ((.ref b :: As).map (cv G)) (fun U => Pic G ex n σ U.heap ∧ TB G U)) (As.map (cv G)) :=
    ⟨Pc_blind, va_recv C.2.2.2.2.2.2.2.2.1 hP.1 hcl hat, fun U hU hW => ⟨rfl, by rw [hU]; exact hP, C.2.2.2.2.2.2.2.2.call (locs := locs) (by rw [hU]; exact hS) hW⟩⟩
  have e0 : ((As.reverse ++ .ref b :: st).map (cv G)) = (As.map (cv G)).reverse ++ .ref (fr_q G + b) :: st.map (cv G) := by simp [cv]
  rw [e0]
  have hn1 : (As.map (cv G)).length = As.length := by simp
  have hroom : (F0 m pc ls ((As.map (cv G)).reverse ++ .ref (fr_q G + b) :: st.map (cv G))).monitorRoom = 0 := rfl
  have hw8 : 2 * (F0 m pc ls ((As.map (cv G)).reverse ++ .ref (fr_q G + b) :: st.map (cv G))).monitorRoom + ((st.map (cv G)).map fun v => v.category).sum ≤ 8 := by rw [hroom, cv_sum]; omega
  rcases hlk with hlk | ⟨host, hlk⟩
  · exact px_run C hl hS (va_runV (As := As.map (cv G)) (rest := st.map (cv G)) ⟨C.1, C.2.1, C.2.2.1, C.2.2.2.2.1, hts⟩ hM ⟨callB_of As.length hts (wsY_good ⟨hcode, hini, hmh, hpl⟩) rfl hR.1 hR.2.1 (hts _ hini) (hts _ hlk) ⟨hmh.1, hmh.2, hnp⟩ hR.2.2, hts _ hin, hts _ hsel⟩ hpv rfl hn1 hl.1 rfl hw8 hd hf) kk
  · exact px_run C hl hS (va_runVN (As := As.map (cv G)) (rest := st.map (cv G)) ⟨C.1, C.2.1, C.2.2.1, C.2.2.2.2.1, hts⟩ hM ⟨va_cnB As.length hts (wsY_good ⟨hcode, hini, hmh, hpl⟩) rfl hR.1 hR.2.1 (C.2.2.2.2.2.2.2.2.2.2.1 _ hlk) (hts _ hini) ⟨hmh.1, hmh.2, hnp⟩ hR.2.2, hts _ hin, hts _ hsel⟩ hpv rfl hn1 hl.1 rfl hw8 hd hf) kk
theorem px_callS {Yc : fr_Y} {Rc : Room} {i n' mc ms : Nat} {As : List Value} {Post : Option Value → fr_S → Prop} (hd : dc Y.2.1 pc (.invokestatic i) 3 pc') (hlk : MK Y.1.cls i Yc.1) (hm : MS Yc)
    (hnp : (parseMethodDescriptor Yc.1.desc).map (fun d => d.parameters.length) = some As.length) (hlen : (As.map fun v : Value => v.category).sum ≤ Yc.2.2.1) (hst : (st.map fun v : Value => v.category).sum ≤ 8) (hR : RK R Rc Yc mc ms) (hf : k + mc ≤ R.cells ∧ sl + ms ≤ R.slots) {stk : List Value} (hstk : stk = As.reverse ++ st)
    (hc : PX l G Yc Rc (QR G ex n' mc ms Post) ex n 0 0 0 (lv_args 0 As) [] σ)
    (kk : ∀ (r : Option Value) (σ' : fr_S), Post r σ' → PX l G Y R QF ex n' (k + mc) (sl + ms) pc' lv (r.toList ++ st) σ') : PX l G Y R QF ex n k sl pc lv stk σ := by
  subst hstk
  intro p e s m args below meth c H locs ls C hl hP hS
  obtain ⟨hd, rfl⟩ := hd
  obtain ⟨⟨hcode, hini, hmh, hpl⟩, hstt⟩ := hm
  have hM := px_met hpl hlen hc
  have hts := C.2.2.2.2.2.1
  have hpv : PreS s H (va_Pc (As.map (cv G)) (fun U => Pic G ex n σ U.heap ∧ TB G U)) (As.map (cv G)) :=
    ⟨Pc_blind, fun U hU hW => ⟨rfl, by rw [hU]; exact hP, C.2.2.2.2.2.2.2.2.call (locs := locs) (by rw [hU]; exact hS) hW⟩⟩
  have e0 : ((As.reverse ++ st).map (cv G)) = (As.map (cv G)).reverse ++ st.map (cv G) := by simp
  rw [e0]
  have hn1 : (As.map (cv G)).length = As.length := by simp
  have hroom : (F0 m pc ls ((As.map (cv G)).reverse ++ st.map (cv G))).monitorRoom = 0 := rfl
  have hw8 : 2 * (F0 m pc ls ((As.map (cv G)).reverse ++ st.map (cv G))).monitorRoom + ((st.map (cv G)).map fun v => v.category).sum ≤ 8 := by rw [hroom, cv_sum]; omega
  rcases hlk with hlk | ⟨host, hlk⟩
  · exact px_run C hl hS (va_runS (As := As.map (cv G)) (rest := st.map (cv G)) ⟨C.1, C.2.1, C.2.2.1, C.2.2.2.2.1, hts⟩ hM ⟨callB_of As.length hts (wsY_good ⟨hcode, hini, hmh, hpl⟩) rfl hR.1 hR.2.1 (hts _ hini) (hts _ hlk) ⟨hmh.1, hmh.2, hnp⟩ hR.2.2, hts _ hstt⟩ hpv rfl hn1 hl.1 rfl hw8 hd hf) kk
  · exact px_run C hl hS (va_runSN (As := As.map (cv G)) (rest := st.map (cv G)) ⟨C.1, C.2.1, C.2.2.1, C.2.2.2.2.1, hts⟩ hM ⟨va_cnB As.length hts (wsY_good ⟨hcode, hini, hmh, hpl⟩) rfl hR.1 hR.2.1 (C.2.2.2.2.2.2.2.2.2.2.1 _ hlk) (hts _ hini) ⟨hmh.1, hmh.2, hnp⟩ hR.2.2, hts _ hstt, trivial⟩ hpv rfl hn1 hl.1 rfl hw8 hd hf) kk
end PXC
