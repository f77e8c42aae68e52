/-! the start: new cells, constructors' calls -/
def AOs (U : State) : Prop := va_AO "PairVm$Frame" U ∧ va_AO "PairVm$Method" U ∧ va_AO "PairVm$Step" U
theorem AOs.moved {u U : State} (hvm : u.vm.Alike U.vm) (h : AOs u) : AOs U := ⟨h.1.moved hvm, h.2.1.moved hvm, h.2.2.moved hvm⟩
/-- a constructor's end, where the tables know the arrays of objects -/
def QA (G : fr_G) (n mc ms : Nat) (Post : Option Value → fr_S → Prop) : List Frame → Array Value → State → State → Prop := fun below args s t => AOs s → QR G true n mc ms Post below args s t
section PXA
variable {l : Launch} {G : fr_G} {Y : fr_Y} {R : Room} {QF : List Frame → Array Value → State → State → Prop} {n k sl pc pc' : Nat} {lv lv' : List (Nat × Value)} {st : List Value} {σ σ' : fr_S}
theorem px_qa {n' mc ms : Nat} {Post : Option Value → fr_S → Prop} (h : PX l G Y R (QR G true n' mc ms Post) true n k sl pc lv st σ) : PX l G Y R (QA G n' mc ms Post) true n k sl pc lv st σ := px_wk h (fun _ _ _ _ q _ => q)
theorem px_objI {i a : Nat} (hd : dc Y.2.1 pc (.invokespecial i) 3 pc') (hlk : Cond.methodLink Y.1.cls i objectInit ∈ al_W) (hR : 1 ≤ R.frames ∧ 12 ≤ R.locals) (h : PX l G Y R QF true n k sl pc' lv [] σ) : PX l G Y R QF true n k sl pc lv [.ref a] σ := by
  intro p e s m args below meth c H locs ls C hl hP hS
  obtain ⟨hd, rfl⟩ := hd
  have hts := C.2.2.2.2.2.1
  exact W.objInit C.1 C.2.1 C.2.2.2.2.1 (hts _ hlk) (hts _ (al_in 102 (by decide +kernel) rfl)) (hts _ (al_in 103 (by decide +kernel) rfl)) rfl (hl.1.trans C.2.2.1.symm) rfl hd hR.1 hR.2 (h p e s m args below meth c H locs ls C hl hP hS)
theorem ty_use {s : State} (hT : TB G s) {j : Nat} {cA : ClassId} {ty : FieldType} (h : (ty_all G)[j]? = some (cA, ty)) : ArrOfT s cA ty ∧ va_RA s cA ty := hT.1.2 j _ h
theorem px_newaP {N : Nat} {ty : ArrayType} {j : Nat} {x : Int32} (hx : x = nI N) (hd : dc Y.2.1 pc (.newarray ty) 2 pc') (harr : Cond.arrayClass (newarray.typeOf ty) ∈ al_W) (hj : ∃ cA, (ty_all G)[j]? = some (cA, newarray.typeOf ty) ∧ va_RA = va_RA ∧ (∀ U, va_RA U cA (newarray.typeOf ty) → U.vm.findClass ("[" ++ (newarray.typeOf ty).toString) = some cA) ∧ ∀ H1 : Heap, H1[fr_q G + n]? = some (arrV cA N (fun _ => defaultValue (newarray.typeOf ty))) → va_at (fr_D G) cl_all (fr_q G + n, ce G (sZ σ n) n) H1)
    (hN : N < 4096) (hby : componentBytes (newarray.typeOf ty) ≤ 8) (hcells : k + 1 ≤ R.cells) (hslots : sl + N ≤ R.slots) (h : PX l G Y R QF true (n + 1) (k + 1) (sl + N) pc' lv (.ref n :: st) (sZ σ n)) : PX l G Y R QF true n k sl pc lv (.int x :: st) σ := by
  subst hx
  intro p e s m args below meth c H locs ls C hl hP hS
  obtain ⟨hd, rfl⟩ := hd
  have hts := C.2.2.2.2.2.1
  obtain ⟨cA, h1, -, h2, h3⟩ := hj
  have hby2 : N * componentBytes (newarray.typeOf ty) ≤ 536870912 := Nat.le_trans (Nat.mul_le_mul (Nat.le_of_lt hN) hby) (by decide)
  refine va_newaK C.1 C.2.1 (hts _ harr) rfl hd rfl (nI_pos (by omega)) (nI_clamp (by omega)) hby2 hcells hslots (hP.2 rfl) fun H1 cB e1 z1 o1 hAr hNm => ?_
  have e : cB = cA := Option.some.inj (hNm.symm.trans (h2 s (ty_use C.2.2.2.2.2.2.2.2 h1).2))
  subst e
  obtain ⟨g1, g2⟩ := Pic_push hP hS (by rw [z1, hP.2 rfl]) (fun q hq => o1 q (by rw [← hP.2 rfl]; exact hq)) (h3 H1 e1)
  exact h p e s m args below meth c H1 locs ls C hl g1 g2
theorem px_newaI {N : Nat} {x : Int32} (hx : x = nI N) (hd : dc Y.2.1 pc (.newarray .int) 2 pc') (hk : kd n = (20, N)) (hN : N < 4096) (hcells : k + 1 ≤ R.cells) (hslots : sl + N ≤ R.slots) (h : PX l G Y R QF true (n + 1) (k + 1) (sl + N) pc' lv (.ref n :: st) (sZ σ n)) : PX l G Y R QF true n k sl pc lv (.int x :: st) σ :=
  px_newaP (j := 0) hx hd (al_in 124 (by decide +kernel) rfl) ⟨fr_a G 0, rfl, rfl, fun _ q => q, fun H1 e1 => by
    unfold ce
    rw [hk, sZ_I]
    exact e1⟩ hN (by decide) hcells hslots h
theorem px_newaZ {N : Nat} {x : Int32} (hx : x = nI N) (hd : dc Y.2.1 pc (.newarray .boolean) 2 pc') (hk : kd n = (21, N)) (hN : N < 4096) (hcells : k + 1 ≤ R.cells) (hslots : sl + N ≤ R.slots) (h : PX l G Y R QF true (n + 1) (k + 1) (sl + N) pc' lv (.ref n :: st) (sZ σ n)) : PX l G Y R QF true n k sl pc lv (.int x :: st) σ :=
  px_newaP (j := 1) hx hd (al_in 315 (by decide +kernel) rfl) ⟨fr_a G 1, rfl, rfl, fun _ q => q, fun H1 e1 => by
    unfold ce
    rw [hk, sZ_I]
    exact e1⟩ hN (by decide) hcells hslots h
theorem px_newaL {N : Nat} {x : Int32} (hx : x = nI N) (hd : dc Y.2.1 pc (.newarray .long) 2 pc') (hk : kd n = (22, N)) (hN : N < 4096) (hcells : k + 1 ≤ R.cells) (hslots : sl + N ≤ R.slots) (h : PX l G Y R QF true (n + 1) (k + 1) (sl + N) pc' lv (.ref n :: st) (sZ σ n)) : PX l G Y R QF true n k sl pc lv (.int x :: st) σ :=
  px_newaP (j := 2) hx hd (al_in 144 (by decide +kernel) rfl) ⟨fr_a G 2, rfl, rfl, fun _ q => q, fun H1 e1 => by
    unfold ce
    rw [hk, sZ_L]
    exact e1⟩ hN (by decide) hcells hslots h
theorem px_newaD {N : Nat} {x : Int32} (hx : x = nI N) (hd : dc Y.2.1 pc (.newarray .double) 2 pc') (hk : kd n = (23, N)) (hN : N < 4096) (hcells : k + 1 ≤ R.cells) (hslots : sl + N ≤ R.slots) (h : PX l G Y R QF true (n + 1) (k + 1) (sl + N) pc' lv (.ref n :: st) (sZ σ n)) : PX l G Y R QF true n k sl pc lv (.int x :: st) σ :=
  px_newaP (j := 3) hx hd (al_in 145 (by decide +kernel) rfl) ⟨fr_a G 3, rfl, rfl, fun _ q => q, fun H1 e1 => by
    unfold ce
    rw [hk, sZ_D]
    exact e1⟩ hN (by decide) hcells hslots h
/-- an array of objects -/
theorem px_anew {N i j K n' mc ms : Nat} {x : Int32} {C0 : String} {Post : Option Value → fr_S → Prop} (hx : x = nI N) (hd : dc Y.2.1 pc (.anewarray i) 3 pc') (hw : Cond.classLink Y.1.cls i C0 ∈ al_W) (hao : ∀ U, AOs U → va_AO C0 U) (hty : (ty_all G)[j]? = some (fr_a G j, .object C0)) (hk : kd n = (K, N)) (hK : K = j + 20 ∧ 4 ≤ j ∧ j ≤ 6)
    (hN : N < 4096) (hcells : k + 1 ≤ R.cells) (hslots : sl + N ≤ R.slots) (h : PX l G Y R (QA G n' mc ms Post) true (n + 1) (k + 1) (sl + N) pc' lv (.ref n :: st) (sZ σ n)) : PX l G Y R (QA G n' mc ms Post) true n k sl pc lv (.int x :: st) σ := by
  subst hx
  intro p e s m args below meth c H locs ls C hl hP hS
  by_cases hA : AOs s
  · obtain ⟨hd, rfl⟩ := hd
    have hts := C.2.2.2.2.2.1
    have hcl : (nI N).toNatClampNeg = N := nI_clamp (by omega)
    refine W.anew C.1 C.2.1 C.2.2.2.2.1 (hts _ hw) (va_AO.use (hao s hA)) rfl hd rfl (nI_pos (by omega)) (by rw [hcl]; omega) hcells (by rw [hcl]; exact hslots) fun cA kA comp f1 f2 f3 f4 => ?_
    obtain ⟨kA', comp', u1, u2, u3, u4⟩ := (ty_use C.2.2.2.2.2.2.2.2 hty).2
    have e : cA = fr_a G j := Option.some.inj (f1.symm.trans u4)
    subst e
    rw [hcl]
    have hsz := hP.2 rfl
    generalize hH1 : H.push ({ cls := fr_a G j, slots := Array.replicate N .null, vm := .none } : Cell) = H1
    have z1 : H1.size = H.size + 1 := by rw [← hH1, Array.size_push]
    have e1 : H1[H.size]? = some (arrV (fr_a G j) N (fun _ => .null)) := by rw [← hH1, Array.getElem?_push_size, ← arrV_new]
    have o1 : ∀ q : Nat, q < H.size → H1[q]? = H[q]? := fun q hq => by rw [← hH1, Array.getElem?_push, if_neg (Nat.ne_of_lt hq)]
    have hat : va_at (fr_D G) cl_all (fr_q G + n, ce G (sZ σ n) n) H1 := by
      rw [hsz] at e1
      unfold ce
      rw [hk, sZ_R]
      obtain ⟨rfl, h4, h6⟩ := hK
      rcases (show j = 4 ∨ j = 5 ∨ j = 6 by omega) with rfl | rfl | rfl <;> exact e1
    obtain ⟨g1, g2⟩ := Pic_push hP hS z1 o1 hat
    rw [hsz]
    exact h p e s m args below meth c H1 locs ls C hl g1 g2
  · exact fun T hT X => ⟨_, Steps.refl _, fun q => absurd q hA⟩
/-- an object goes into an array of objects -/
theorem px_aast {a N j o ci z u : Nat} {r0 : vw_C} {x : Int32} (hx : x = nI u) (hd : dc Y.2.1 pc .aastore 1 pc') (hty : (ty_all G)[j]? = some (fr_a G j, .object r0.1)) (hk : kd a = (j + 20, N)) (hj : 4 ≤ j ∧ j ≤ 6) (hc : cl_all[ci]? = some r0) (hci : ci < 10) (hko : kd o = (ci, z)) (ho : o < n) (ha : a < n) (hu : u < N) (hN : N < 4096)
    (h : PX l G Y R QF true n k sl pc' lv st (sR σ a u (some o))) : PX l G Y R QF true n k sl pc lv (.ref o :: .int x :: .ref a :: st) σ := by
  subst hx
  intro p e s m args below meth c H locs ls C hl hP hS
  obtain ⟨hd, rfl⟩ := hd
  have hK := C.2.2.2.2.2.2.2.2.1
  have e1 : ∀ τ : fr_S, ce G τ a = .inl (fr_a G j, N, .inr (.inr (.inr (.inr fun i => (gR τ a i).map (fr_q G + ·))))) := fun τ => by
    unfold ce
    rw [hk]
    rcases (show j = 4 ∨ j = 5 ∨ j = 6 by omega) with rfl | rfl | rfl <;> rfl
  have hat := wd_at (G := G) (σ := σ) ha
  rw [e1] at hat
  have hv := wd_at (G := G) (σ := σ) ho
  unfold ce at hv
  rw [hko, cek_o ci hci] at hv
  obtain ⟨r', hr', cellV, g1, g2, g3, -⟩ := hP.1 o _ hv
  have hcls := (hK.1 ci r0 hc).2
  obtain ⟨kA, comp, k1, k2, k3, -⟩ := (hK.2 j _ hty).2
  have hcomp : comp = (fr_D G).1 ci := Option.some.inj (k3.symm.trans hcls.1)
  subst hcomp
  obtain ⟨kC, hkC, -⟩ := hcls.2
  have hcl : (nI u).toNatClampNeg = u := nI_clamp (by omega)
  have hp0 : ¬ (nI u) < 0 := nI_pos (by omega)
  have hu2 : (nI u).toNatClampNeg < (arrV (fr_a G j) N (fun i => va_rf ((gR σ a i).map (fr_q G + ·)))).slots.size := by rw [arrV_size, hcl]; exact hu
  refine W.aast C.1 C.2.1 (hP.1 a _ hat) (fun q h => by cases h) (fun h => by cases h) k1 k2 rfl hkC ⟨hp0, hu2⟩ g1 (fun q h => by rw [g3] at h; cases h) (by rw [g2]; exact hkC) (by rw [g2]; exact va_assign hcls) rfl rfl hd fun H1 eh zh oq => ?_
  have hP1 := hP.1.set wd_D hat (e := .inl (fr_a G j, N, .inr (.inr (.inr (.inr fun i => (gR (sR σ a u (some o)) a i).map (fr_q G + ·)))))) (by
    show H1[fr_q G + a]? = some (vp_cell _ _)
    rw [eh]
    rw [vp_cell_q, vp_cell_q, arrV_store]
    congr 2
    funext q
    rw [hcl]
    by_cases hq : q = u
    · subst hq
      simp [updV, gR, sR, u_2, va_rf, cv]
    · simp [updV, gR, sR, u_2, hq]) oq
  rw [wd_set (σ' := sR σ a u (some o)) (e1 _) ce_sR] at hP1
  exact h p e s m args below meth c H1 _ ls C hl ⟨hP1, fun q => by rw [zh]; exact hP.2 q⟩ (hS.put zh oq (wd_D.2 a _ hat))
end PXA

