/-! the law from its entry -/
theorem nc_of {args : Array Value} {U : State} {A B : String} (h : (Cond.not (.castable A B)).before args U = true) : ∃ ca cb, U.vm.findClass A = some ca ∧ U.vm.findClass B = some cb ∧ U.vm.assignable ca cb = false := by
  simp only [Cond.before, Cond.holds, Cond.value] at h
  cases hA : U.vm.findClass A with
  | none => simp [hA] at h
  | some a =>
    cases hB : U.vm.findClass B with
    | none => simp [hA, hB] at h
    | some b =>
      simp [hA, hB] at h
      exact ⟨a, b, rfl, rfl, h⟩
theorem arr_of {args : Array Value} {s : State} {ty : FieldType} (h : (Cond.arrayClass ty).before args s = true) : ∃ cA, ArrOfT s cA ty ∧ s.vm.findClass ("[" ++ ty.toString) = some cA := by
  obtain ⟨cA, k, comp, h1, h2, h3⟩ := Cond.arrayClass_spec h
  exact ⟨cA, fun n z => ⟨fun k h => (by cases h), k, h2, comp, h3⟩, h1⟩
theorem arq_of {args : Array Value} {s : State} {C : String} (h : (Cond.arrayOver (.object C)).before args s = true) : ∃ cA, ArrOfT s cA (.object C) ∧ va_RA s cA (.object C) := by
  obtain ⟨comp, cA, k, h1, h2, h3, h4, h5⟩ := Cond.arrayOver_spec h
  exact ⟨cA, fun n z => ⟨fun k h => (by cases h), k, h3, comp, h4⟩, k, comp, h3, h4, h1, h5⟩
theorem nw_Fin : ∀ w ∈ nw_F, Cond.fieldLinkNest w.1 w.2.1 w.2.2.1 w.2.2.2.1 w.2.2.2.2.1 w.2.2.2.2.2 ∈ lw_tbl := by decide +kernel
theorem nw_Min : ∀ w ∈ nw_M, Cond.methodLinkNest w.1 w.2.1 w.2.2.1 w.2.2.2 ∈ lw_tbl := by decide +kernel
theorem sx_Din : ∀ x ∈ sxD, Cond.declares x ∈ lw_tbl := by decide +kernel
theorem sx_Cin : ∀ x ∈ sxC, Cond.castable x x ∈ lw_tbl := by decide +kernel
theorem sx_Sin : ∀ x ∈ sxS, Cond.stringRef "PairVm" x.1 x.2 ∈ lw_tbl := by decide +kernel
theorem nc_in : ∀ q ∈ ncL, Cond.not (.castable q.1 q.2) ∈ flatC (Jvm.Cond.and given_1 narrow_1) := by decide +kernel
theorem op_in : ∀ j, j < 200 → (flatC (Jvm.Cond.and given_1 narrow_1))[9 + j]? = some (Cond.eq (.elem (.static "PairVm$Step" "OPERATIONS" "[I") (.int (Int32.ofNat j))) (.int (ops_t j))) := by decide +kernel

/-! THE CLAIM OUT OF ONE WALK OF THE LAW'S BODY. Your part is whole_start (and what it stands on); all else here is the same for every law, but numbers. -/
def R_law : String := "PairVmLaw"
def lw_P (b : Addr) (xs : List Int32) (args : Array Value) (s : State) : Prop := args = #[.ref b] ∧ s.IntsAt b xs ∧ xs.length ≤ 2048 ∧ (Jvm.Cond.and given_1 narrow_1).before args s = true
def lw_Q (_ : Array Value) (s : State) (o : Outcome) (t : State) : Prop := o = .returned (some (.int 1)) ∧ Framed s o t [] 601024 7293034
def lw_Z (below : List Frame) (a : Array Value) (s : State) : State → Prop := fun t => ∃ o, t.status = .running ∧ Ended t below o ∧ lw_Q a s o t
/-- the law's own end, with 1 on the stack, nothing written that was there before, its room as the claim has it -/
theorem lw_ret {p : Program} {l : Launch} {e : Env} {s : State} {m : MethodId} {below : List Frame} {meth : Method} {c : Code} {b : Nat} (hx : p.tables.exec = Jvm.exec) (hb : c.code = code) (hr : meth.sig.returnType = ret) (hlocks : meth.locks = false) {pc : Nat} {H : Heap} {ls : Array Slot} (hdg : decode code pc = .ok (.ireturn, 1)) : W p l e room_1 s m #[Value.ref b] below meth c H [] 601024 7293034 (lw_Z below #[Value.ref b] s) (F0 m pc ls [.int 1]) := by
  intro T hT X
  obtain ⟨fs, hret, hrun, hended, hW, hframe⟩ := X.leave (v := some (.int 1)) (hlocks := hlocks) (fun h => by rw [hr] at h; cases h)
  have hmeth' : T.vm.method? m = some meth := X.method'
  refine ⟨T.setFrames fs, ?_, .returned (some (.int 1)), hrun, hended, rfl, ⟨_, rfl⟩, hW, hframe⟩
  jvm_step X.here [X.here.top, hx, hb, hdg, hmeth', hr, ret, narrow_b1]
  (try refine ⟨rfl, ?_⟩); (try refine ⟨rfl, ?_⟩)
  first | (intro acts; rw [hret _ acts rfl rfl rfl]) | rw [hret _ _ rfl rfl rfl]
  exact Steps.refl _
/-- what holds at the law's entry: the machine, the code, the tables' words (any of lw_tbl by 'hts w (by decide +kernel)'), the script of L ints xs at the cell b, what the Statement gives of the start (any of its parts by flat_of_before) -/
def lw_At (p : Program) (s : State) (m : MethodId) (meth : Method) (c : Code) (b L : Nat) (xs : Nat → Int32) : Prop :=
  p.tables.exec = Jvm.exec ∧ c.code = code ∧ meth.sig.returnType = ret ∧ c.maxLocals = 9 ∧ s.vm.findClass R_law = some m.cls ∧ (∀ w ∈ lw_tbl, w.before #[Value.ref b] s = true) ∧ va_X b L xs s s.heap ∧ b < s.heap.size ∧ meth.locks = false ∧ (Jvm.Cond.and given_1 narrow_1).before #[Value.ref b] s = true

set_option maxHeartbeats 4000000 in
set_option maxRecDepth 100000 in
theorem whole_start {p : Program} {e : Env} {s : State} {m : MethodId} {below : List Frame} {meth : Method} {c : Code} (l : Launch) (hfl : l.flags = pinnedFlags ++ [noTraceFlag]) {b L : Nat} {xs : Nat → Int32} (hL : L ≤ 2048) (C0 : lw_At p s m meth c b L xs) : W p l e room_1 s m #[Value.ref b] below meth c s.heap [] 0 0 (lw_Z below #[Value.ref b] s) (entryFrame m ([Value.ref b] : List Value).toArray 9) := by
  obtain ⟨hx, hb, hr, hml, hown, hts, hX, hbl, hlocks, hgv⟩ := id C0
  have hal : ∀ w ∈ al_W, w.before #[Value.ref b] s = true := fun w hw => hts w (List.mem_filter.mp hw).1
  have hfl2 := flat_of_before _ hgv
  obtain ⟨c0, i0, hK0⟩ := u_known (C := rn_V) (T := ft_V) (N := 6) (n := 6) hal uw_V (hal _ (al_in 97 (by decide +kernel) rfl))
  obtain ⟨c1, i1, hK1⟩ := u_known (C := rn_Fb) (T := ft_Fb) (N := 4) (n := 4) hal uw_Fb (hal _ (al_in 105 (by decide +kernel) rfl))
  obtain ⟨c2, i2, hK2⟩ := u_known (C := rn_Ag) (T := ft_Ag) (N := 4) (n := 4) hal uw_Ag (hal _ (al_in 126 (by decide +kernel) rfl))
  obtain ⟨c3, i3, hK3⟩ := u_known (C := rn_Mc) (T := ft_Mc) (N := 7) (n := 7) hal uw_Mc (hal _ (al_in 147 (by decide +kernel) rfl))
  obtain ⟨c4, i4, hK4⟩ := u_known (C := rn_Fr) (T := ft_Fr) (N := 4) (n := 4) hal uw_Fr (hal _ (al_in 154 (by decide +kernel) rfl))
  obtain ⟨c5, i5, hK5⟩ := u_known (C := rn_Pg) (T := ft_Pg) (N := 6) (n := 6) hal uw_Pg (hal _ (al_in 200 (by decide +kernel) rfl))
  obtain ⟨c6, i6, hK6⟩ := u_known (C := rn_Fl) (T := ft_Fl) (N := 2) (n := 2) hal uw_Fl (hal _ (al_in 208 (by decide +kernel) rfl))
  obtain ⟨c7, i7, hK7⟩ := u_known (C := rn_Me) (T := ft_Me) (N := 11) (n := 11) hal uw_Me (hal _ (al_in 220 (by decide +kernel) rfl))
  obtain ⟨c8, i8, hK8⟩ := u_known (C := rn_St) (T := ft_St) (N := 15) (n := 15) hal uw_St (hal _ (al_in 227 (by decide +kernel) rfl))
  obtain ⟨c9, i9, hK9⟩ := u_known (C := rn_Mo) (T := ft_Mo) (N := 36) (n := 36) hal uw_Mo (hal _ (al_in 965 (by decide +kernel) rfl))
  obtain ⟨a0, r0, f0⟩ := arr_of (hal _ (al_in (w := Cond.arrayClass .int) 124 (by decide +kernel) rfl))
  obtain ⟨a1, r1, f1⟩ := arr_of (hal _ (al_in (w := Cond.arrayClass .boolean) 315 (by decide +kernel) rfl))
  obtain ⟨a2, r2, f2⟩ := arr_of (hal _ (al_in (w := Cond.arrayClass .long) 144 (by decide +kernel) rfl))
  obtain ⟨a3, r3, f3⟩ := arr_of (hal _ (al_in (w := Cond.arrayClass .double) 145 (by decide +kernel) rfl))
  have o4 := hts (.arrayOver (.object "PairVm$Frame")) (List.mem_of_getElem? (i := 153) (by decide +kernel))
  have o5 := hts (.arrayOver (.object "PairVm$Method")) (List.mem_of_getElem? (i := 206) (by decide +kernel))
  have o6 := hts (.arrayOver (.object "PairVm$Step")) (List.mem_of_getElem? (i := 226) (by decide +kernel))
  obtain ⟨a4, r4, f4⟩ := arq_of o4
  obtain ⟨a5, r5, f5⟩ := arq_of o5
  obtain ⟨a6, r6, f6⟩ := arq_of o6
  have hA : ∀ a : Nat, a < s.heap.size → ¬ AA s.heap.size a := fun a h q => Nat.not_le.mpr h q
  obtain ⟨ft, ht, hT⟩ := va_Tof (s := s) (args := #[Value.ref b]) (tm := .static "PairVm$Step" "OPERATIONS" "[I") (ty := .int) (N := 200) (f := fun j => .int (ops_t j)) (A := AA s.heap.size) (by decide) (hfl2 _ (by decide +kernel)) (va_eqv (u := .int 200) (hfl2 _ (by decide +kernel)) rfl) (fun j hj => va_eqv (u := .int (ops_t j)) (hfl2 _ (List.mem_of_getElem? (op_in j hj))) rfl) hA
  have hZ := va_Zref (A := AA s.heap.size) (hts (.laysStatic "PairVm$Step" "OPERATIONS" "[I") (by decide +kernel)) (hts (.initialized "PairVm$Step") (by decide +kernel)) ht hA
  have hZ1 := va_Zqof (A := AA s.heap.size) (hts (.laysStatic "java/lang/Throwable" "UNASSIGNED_STACK" "[Ljava/lang/StackTraceElement;") (by decide +kernel)) (hts (.initialized "java/lang/Throwable") (by decide +kernel)) (hfl2 _ (by decide +kernel)) hA
  have hZ2 := va_Zqof (A := AA s.heap.size) (hts (.laysStatic "java/lang/Throwable" "SUPPRESSED_SENTINEL" "Ljava/util/List;") (by decide +kernel)) (hts (.initialized "java/lang/Throwable") (by decide +kernel)) (hfl2 _ (by decide +kernel)) hA
  obtain ⟨G, eG⟩ : ∃ G : fr_G, G = ((fun k => [c0, c1, c2, c3, c4, c5, c6, c7, c8, c9].getD k c0, fun k => [i0, i1, i2, i3, i4, i5, i6, i7, i8, i9].getD k i0), s.heap.size, fun k => [a0, a1, a2, a3, a4, a5, a6].getD k a0, ft) := ⟨_, rfl⟩
  have hq : fr_q G = s.heap.size := by rw [eG]
  have hTB : TB G s := by
    rw [eG]
    refine ⟨⟨fun k q hk => ?_, fun k q hk => ?_⟩, fun w hw => va_Nw.of rfl (hts _ (nw_Fin w hw)), fun w hw => va_Nw.of rfl (hts _ (nw_Min w hw)), hZ, hT, hZ1, hZ2⟩
    · match k, hk with
      | 0, hk => cases hk; exact hK0
      | 1, hk => cases hk; exact hK1
      | 2, hk => cases hk; exact hK2
      | 3, hk => cases hk; exact hK3
      | 4, hk => cases hk; exact hK4
      | 5, hk => cases hk; exact hK5
      | 6, hk => cases hk; exact hK6
      | 7, hk => cases hk; exact hK7
      | 8, hk => cases hk; exact hK8
      | 9, hk => cases hk; exact hK9
      | k + 10, hk => simp [cl_all] at hk
    · match k, hk with
      | 0, hk => cases hk; exact ⟨r0, f0⟩
      | 1, hk => cases hk; exact ⟨r1, f1⟩
      | 2, hk => cases hk; exact ⟨r2, f2⟩
      | 3, hk => cases hk; exact ⟨r3, f3⟩
      | 4, hk => cases hk; exact ⟨r4, f4⟩
      | 5, hk => cases hk; exact ⟨r5, f5⟩
      | 6, hk => cases hk; exact ⟨r6, f6⟩
      | k + 7, hk => simp [ty_all] at hk
  have hsx : SX G s := ⟨⟨fun x hx => va_Nw.of rfl (hts _ (sx_Din x hx)), fun x hx => va_Nw.of rfl (hts _ (sx_Cin x hx)), fun x hx => hts _ (sx_Sin x hx)⟩, ⟨LS3.of (hts (.laysStatic "java/lang/Throwable" "UNASSIGNED_STACK" "[Ljava/lang/StackTraceElement;") (by decide +kernel)) (by rw [hq]; exact hA), LS3.of (hts (.laysStatic "java/lang/Throwable" "SUPPRESSED_SENTINEL" "Ljava/util/List;") (by decide +kernel)) (by rw [hq]; exact hA)⟩, fun a cell ha hc => by
    have := (Array.getElem?_eq_some_iff.mp hc).1
    rw [hq] at ha
    omega⟩
  have hnc : NCx s := fun q hq => nc_of (hfl2 _ (nc_in q hq))
  have C : LC G p s m meth c b L xs := ⟨hx, hb, hml, hown, hal, hTB, hsx, hnc, hX, hbl, hq⟩
  have hAO : AOs s := ⟨va_AO.of o4, va_AO.of o5, va_AO.of o6⟩
  have hl := lv_entry ([.ref b]) (n := 9) (Nat.le_of_ble_eq_true rfl)
  rw [lg_entry_eq]
  generalize (lg_sl ([.ref b]) ++ List.replicate (9 - (lg_sl ([.ref b])).length) Slot.unset).toArray = ls at hl ⊢
  have hl : lv_has ls 9 [(0, .ref b)] := hl
  refine lw_go C hAO hl (lw_loop hfl C hL ⟨Nat.le_of_ble_eq_true rfl, Nat.le_of_ble_eq_true rfl⟩ (fun H locs ls hS => ?_) (L + 1) 0 (Nat.zero_le _) (by omega))
  refine lv_iconst (v := 1) hx hb dl_661 rfl ?_
  refine va_forget (fun q hq' => ?_) ?_
  · have := hS.2.2 q hq'
    have h2 : fr_q G ≤ q.base := this
    rw [hq] at h2
    exact h2
  · refine W.widen (k := 601024) (n := 7293034) (Nat.le_of_ble_eq_true rfl) (Nat.le_of_ble_eq_true rfl) ?_
    exact lw_ret hx hb hr hlocks dl_662
set_option maxHeartbeats 4000000 in
theorem lw_walk (l : Launch) (hfl : l.flags = pinnedFlags ++ [noTraceFlag]) (b : Addr) (xs : List Int32) : MetFree l x (headSpec (Jvm.Cond.code x code maxLocals ret :: tables_1) room_1) (lw_P b xs) (fun _ _ _ _ _ => True) lw_Q := by
  refine MetFree.of_bodyS (code := code) (maxLocals := maxLocals) (ret := ret) (by decide) ?_ ?_
  · intro args s m h hn
    obtain ⟨meth, c, h1, h2, h3, h4, h5, h6, -, -⟩ := Cond.code_spec hn (atoms_spec (ws := Jvm.Cond.code x code maxLocals ret :: tables_1) h _ List.mem_cons_self)
    exact ⟨meth, c, h1, h2, h3, h4, h5, h6⟩
  · intro p e s m args below meth c s₁ B hml0 hP _
    obtain ⟨rfl, hx, hbd, hgv⟩ := hP
    obtain ⟨scr, harrAt, hlist, hof, hsmall⟩ := hx
    obtain ⟨hcb, hkn, -, -⟩ := State.arrayAt?_spec harrAt
    have hown : s.vm.findClass R_law = some m.cls := findClass_of_methodNamed B.named
    have hts0 : ∀ c ∈ (Jvm.Cond.code x code maxLocals ret :: tables_1), c.before #[Value.ref b] s = true := atoms_spec (ws := Jvm.Cond.code x code maxLocals ret :: tables_1) B.pre
    have hts : ∀ w ∈ lw_tbl, w.before #[Value.ref b] s = true := k2_hts_sels lw_privs (fun w hw => hts0 w (List.mem_cons_of_mem _ hw)) lw_privs_ok
    have hml : c.maxLocals = 9 := B.maxLocals_eq (hts0 _ List.mem_cons_self)
    have X₀ : Stand p l e room_1 s m #[Value.ref b] below meth c s₁ [] 0 0 := Stand.of_body B
    have hh0 : s₁.heap = s.heap := by rw [B.state]; rfl
    have hsz : scr.slots.size = xs.length := by rw [← Array.length_toList, hlist, List.length_map]
    have hval : ∀ j : Nat, j < xs.length → scr.slots[j]? = some (.int (xs.getD j 0)) := fun j hj => by
      rw [← Array.getElem?_toList, hlist]
      simp [hj]
    have hbl : b < s.heap.size := (Array.getElem?_eq_some_iff.mp hcb).1
    have hX : va_X b xs.length (fun j => xs.getD j 0) s s.heap := ⟨scr, hcb, hof, hkn, hsz, hval⟩
    have K : W p l e room_1 s m #[Value.ref b] below meth c s₁.heap [] 0 0 (lw_Z below #[Value.ref b] s) (entryFrame m ([Value.ref b] : List Value).toArray 9) := by
      rw [hh0]
      exact whole_start l hfl hbd ⟨B.exec, B.bytes, B.returns, hml, hown, hts, hX, hbl, B.notSynchronized, hgv⟩
    obtain ⟨t, a1, o, b1, b2, b3⟩ := K s₁ rfl X₀
    exact ⟨t, o, a1, b1, b2, b3⟩
theorem lw_pre_spec {args : Array Value} {s : State} (h : (Jvm.Cond.and given_1 narrow_1).before args s = true) (hr : rest_1_c.before args s = true) : ∃ (b : Addr) (xs : List Int32), lw_P b xs args s := by
  have hs := flat_of_before _ h
  have hq := flat_of_before _ hr
  have hc : (Cond.count 1).before args s = true := hs _ (by decide +kernel)
  have harr : (Cond.arrayOf (.arg 0) .int).before args s = true := hs _ (by decide +kernel)
  have hle : (Cond.le (.length (.arg 0)) (.int 2048)).before args s = true := hs _ (by decide +kernel)
  have hlen : (Cond.isInt (.length (.arg 0))).before args s = true := hq _ (by decide +kernel)
  have hall : (Cond.all (.arg 0) (.isInt (.elem (.arg 0) (.index 0)))).before args s = true := hq _ (by decide +kernel)
  obtain ⟨b, xs, hb, hx⟩ := State.ints_of_pre rfl harr hlen hall
  have hsm : xs.length < 2 ^ 31 := hx.choose_spec.2.2.2
  have hev : (Term.length (.arg 0)).eval args s none [] s = some (.int xs.length.toInt32) := hx.length_eval hb
  have hv := Cond.le_ints hev (show (Term.int 2048).eval args s none [] s = some (.int 2048) from rfl)
  have hd : xs.length.toInt32 ≤ 2048 := by
    simpa [Cond.before, Cond.holds, hv] using hle
  have hN : xs.length ≤ 2048 := (Int32.ofNat_le_ofNat hsm (by decide)).mp (show Int32.ofNat xs.length ≤ Int32.ofNat 2048 from hd)
  exact ⟨b, xs, Cond.one_arg hc (show args[0]? = some (.ref b) from hb), hx, hN, h⟩
theorem lw_comes (l : Launch) (hfl : l.flags = pinnedFlags ++ [noTraceFlag]) : Comes l x (Jvm.Cond.code x code maxLocals ret :: tables_1) room_1 (fun tb e args s => Calls_1 tb e args s ∧ rest_1 tb e args s ∧ Pre_1 tb e args s)
    (fun _ _ args s o t => lw_Q args s o t) := by
  intro p e ha hc hk s m args below hf hfit hheap happ hpre
  obtain ⟨b, xs, hP⟩ := lw_pre_spec hpre.2.2 hpre.2.1
  obtain ⟨k, o, h1, h2, h3, hQ⟩ := lw_walk l hfl b xs p e ha hc hk s m args below hf ((Spec.applies_iff_loose hf).mp happ).1 hP trivial
  exact ⟨k, o, h1, h2, h3, hQ⟩
theorem lw_frame {s t : State} {o : Outcome} {args : Array Value} (h : Framed s o t [] 601024 7293034) :
    Framed s o t (fieldLocs frame_1_writes args s ++ arrayLocs frame_1_arrays args s ++ staticLocs frame_1_statics s) 601024 7293034 := h
theorem lw_limb (L : Cond) (hL : ∀ (args : Array Value) (s t : State), L.after args s (.returned (some (.int 1))) t = true) :
    ArmFor flags0 classFile x code maxLocals ret World_1 tables_1 room_1 Calls_1 rest_1 Pre_1
      (fun tb e a s o t => postC L tb e a s o t ∧ Framed s o t (fieldLocs frame_1_writes a s ++ arrayLocs frame_1_arrays a s ++ staticLocs frame_1_statics s) 601024 7293034) := by
  intro l hfl _ _ p e ha hc hk s m args below hf hfit hheap happ hpre
  obtain ⟨k, o, h1, h2, h3, rfl, hF⟩ := lw_comes l hfl p e ha hc hk s m args below hf hfit hheap happ hpre
  exact ⟨k, _, h1, h2, h3, hL args s _, lw_frame hF⟩
theorem i_vc : Claimed_1_1 ∧ Claimed_1_2 := ⟨lw_limb limb_1_1 (fun args s t => by simp [limb_1_1, Cond.after, Cond.holds, Cond.value]), lw_limb limb_1_2 (fun args s t => Cond.after_iff.mpr (by
  first | (rw [show limb_1_2 = Cond.eq .result (.int 1) from rfl, Cond.eq_ints (x := 1) (y := 1) rfl rfl]; simp; done) | (simp [limb_1_2, Cond.value, Term.eval]; done)))⟩
