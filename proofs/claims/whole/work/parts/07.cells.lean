/-! new cells, lengths, the table -/
section PXN
variable {l : Launch} {G : fr_G} {Y : fr_Y} {R : Room} {QF : List Frame → Array Value → State → State → Prop} {ex : Bool} {n k sl pc pc' : Nat} {lv lv' : List (Nat × Value)} {st : List Value} {σ σ' : fr_S}
theorem px_callI {Yc : fr_Y} {Rc : Room} {i b n' mc ms : Nat} {As : List Value} {Post : Option Value → fr_S → Prop} (hd : dc Y.2.1 pc (.invokespecial i) 3 pc') (hlk : MK Y.1.cls i Yc.1) (hm : MI Yc)
    (hnp : (parseMethodDescriptor Yc.1.desc).map (fun d => d.parameters.length) = some As.length) (hlen : ((.ref b :: As).map fun v : Value => v.category).sum ≤ Yc.2.2.1) (hst : (st.map fun v : Value => v.category).sum ≤ 8) (hR : RK R Rc Yc mc ms) (hf : k + mc ≤ R.cells ∧ sl + ms ≤ R.slots) {stk : List Value} (hstk : stk = As.reverse ++ .ref b :: st)
    (hc : PX l G Yc Rc (QR G ex n' mc ms Post) ex n 0 0 0 (lv_args 0 (.ref b :: As)) [] σ)
    (kk : ∀ (r : Option Value) (σ' : fr_S), Post r σ' → PX l G Y R QF ex n' (k + mc) (sl + ms) pc' lv (r.toList ++ st) σ') : PX l G Y R QF ex n k sl pc lv stk σ := by
  subst hstk
  intro p e s m args below meth c H locs ls C hl hP hS
  obtain ⟨hd, rfl⟩ := hd
  obtain ⟨⟨hcode, hini, hmh, hpl⟩, hin, hnm, hret⟩ := hm
  have hM := px_met hpl hlen hc
  have hts := C.2.2.2.2.2.1
  have hpv : PreS s H (va_Pc ((.ref b :: As).map (cv G)) (fun U => Pic G ex n σ U.heap ∧ TB G U)) (.ref (fr_q G + b) :: As.map (cv G)) :=
    ⟨Pc_blind, fun U hU hW => ⟨rfl, by rw [hU]; exact hP, C.2.2.2.2.2.2.2.2.call (locs := locs) (by rw [hU]; exact hS) hW⟩⟩
  have e0 : ((As.reverse ++ .ref b :: st).map (cv G)) = (As.map (cv G)).reverse ++ .ref (fr_q G + b) :: st.map (cv G) := by simp [cv]
  rw [e0]
  have hn1 : (As.map (cv G)).length = As.length := by simp
  have hroom : (F0 m pc ls ((As.map (cv G)).reverse ++ .ref (fr_q G + b) :: st.map (cv G))).monitorRoom = 0 := rfl
  have hw8 : 2 * (F0 m pc ls ((As.map (cv G)).reverse ++ .ref (fr_q G + b) :: st.map (cv G))).monitorRoom + ((st.map (cv G)).map fun v => v.category).sum ≤ 8 := by rw [hroom, cv_sum]; omega
  have hws : wsY Yc = Cond.code Yc.1 Yc.2.1 Yc.2.2.1 none :: al_W := by unfold wsY; rw [hret]
  rcases hlk with hlk | ⟨host, hlk⟩
  · exact px_run C hl hS (va_runI (As := As.map (cv G)) (rest := st.map (cv G)) ⟨C.1, C.2.1, C.2.2.1, C.2.2.2.2.1, hts⟩ hM ⟨callB_of As.length hts (wsY_good ⟨hcode, hini, hmh, hpl⟩) hws hR.1 hR.2.1 (hts _ hini) (hts _ hlk) ⟨hmh.1, hmh.2, hnp⟩ hR.2.2, hnm, hts _ hin⟩ hpv rfl hn1 hl.1 rfl hw8 hd hf) kk
  · exact px_run C hl hS (va_runIN (As := As.map (cv G)) (rest := st.map (cv G)) ⟨C.1, C.2.1, C.2.2.1, C.2.2.2.2.1, hts⟩ hM ⟨va_cnB As.length hts (wsY_good ⟨hcode, hini, hmh, hpl⟩) hws hR.1 hR.2.1 (C.2.2.2.2.2.2.2.2.2.2.1 _ hlk) (hts _ hini) ⟨hmh.1, hmh.2, hnp⟩ hR.2.2, hnm, hts _ hin⟩ hpv rfl hn1 hl.1 rfl hw8 hd hf) kk
theorem px_alen {a K N : Nat} {v : Int32} (hd : dc Y.2.1 pc .arraylength 1 pc') (hk : kd a = (K, N)) (hK : 20 ≤ K ∧ K ≤ 26) (ho : a < n) (hv : Int32.ofNat N = v)
    (h : PX l G Y R QF ex n k sl pc' lv (.int v :: st) σ) : PX l G Y R QF ex n k sl pc lv (.ref a :: st) σ := by
  intro p e s m args below meth c H locs ls C hl hP hS
  obtain ⟨hd, rfl⟩ := hd
  have hat := wd_at (G := G) (σ := σ) ho
  unfold ce at hat
  rw [hk] at hat
  have hn := h p e s m args below meth c H locs ls C hl hP hS
  have hc : K = 20 ∨ K = 21 ∨ K = 22 ∨ K = 23 ∨ K = 24 ∨ K = 25 ∨ K = 26 := by omega
  rcases hc with rfl | rfl | rfl | rfl | rfl | rfl | rfl
  · exact va_alen C.1 C.2.1 C.2.2.2.2.2.2.2.2.1 hP.1 a 0 hat rfl hv hd hn
  · exact va_alen C.1 C.2.1 C.2.2.2.2.2.2.2.2.1 hP.1 a 1 hat rfl hv hd hn
  · exact va_alen C.1 C.2.1 C.2.2.2.2.2.2.2.2.1 hP.1 a 2 hat rfl hv hd hn
  · exact va_alen C.1 C.2.1 C.2.2.2.2.2.2.2.2.1 hP.1 a 3 hat rfl hv hd hn
  · exact va_alen C.1 C.2.1 C.2.2.2.2.2.2.2.2.1 hP.1 a 4 hat rfl hv hd hn
  · exact va_alen C.1 C.2.1 C.2.2.2.2.2.2.2.2.1 hP.1 a 5 hat rfl hv hd hn
  · exact va_alen C.1 C.2.1 C.2.2.2.2.2.2.2.2.1 hP.1 a 6 hat rfl hv hd hn
theorem px_gets {i : Nat} (hd : dc Y.2.1 pc (.getstatic i) 3 pc') (hw : Cond.fieldLink Y.1.cls i "PairVm$Step" "OPERATIONS" "[I" ∈ al_W)
    (h : PX l G Y R QF ex n k sl pc' lv (.retAddr 0 :: st) σ) : PX l G Y R QF ex n k sl pc lv st σ := by
  intro p e s m args below meth c H locs ls C hl hP hS
  obtain ⟨hd, rfl⟩ := hd
  exact va_gets C.1 C.2.1 C.2.2.2.2.2.2.2.2.2.2.2.1 hS C.2.2.2.2.1 (C.2.2.2.2.2.1 _ hw) (fun _ q => q) hd (h p e s m args below meth c H locs ls C hl hP hS)
theorem px_tlen (hd : dc Y.2.1 pc .arraylength 1 pc') (h : PX l G Y R QF ex n k sl pc' lv (.int 200 :: st) σ) : PX l G Y R QF ex n k sl pc lv (.retAddr 0 :: st) σ := by
  intro p e s m args below meth c H locs ls C hl hP hS
  obtain ⟨hd, rfl⟩ := hd
  exact va_tlen C.1 C.2.1 C.2.2.2.2.2.2.2.2.2.2.2.2.1 hS rfl hd (h p e s m args below meth c H locs ls C hl hP hS)
theorem px_tald {x : Int32} (hd : dc Y.2.1 pc .iaload 1 pc') (hin : vp_in x 200) (h : PX l G Y R QF ex n k sl pc' lv (.int (ops_t x.toNatClampNeg) :: st) σ) : PX l G Y R QF ex n k sl pc lv (.int x :: .retAddr 0 :: st) σ := by
  intro p e s m args below meth c H locs ls C hl hP hS
  obtain ⟨hd, rfl⟩ := hd
  exact va_ti C.1 C.2.1 C.2.2.2.2.2.2.2.2.2.2.2.2.1 hS hin rfl hd (h p e s m args below meth c H locs ls C hl hP hS)
theorem ce_sZ {G : fr_G} {σ : fr_S} {n : Nat} : ∀ j, j < n → ce G (sZ σ n) j = ce G σ j := fun j h => by
  have e : j ≠ n := Nat.ne_of_lt h
  exact ce_c (by funext q; simp [gI, sZ, e]) (by funext q; simp [gL, sZ, e]) (by funext q; simp [gD, sZ, e]) (by funext q; simp [gR, sZ, e])
theorem sZ_I {σ : fr_S} {n : Nat} : gI (sZ σ n) n = fun _ => 0 := by funext q; simp [gI, sZ]
theorem sZ_L {σ : fr_S} {n : Nat} : gL (sZ σ n) n = fun _ => 0 := by funext q; simp [gL, sZ]
theorem sZ_D {σ : fr_S} {n : Nat} : gD (sZ σ n) n = fun _ => 0 := by funext q; simp [gD, sZ]
theorem sZ_R {σ : fr_S} {n : Nat} : gR (sZ σ n) n = fun _ => none := by funext q; simp [gR, sZ]
def okT : FieldType → Bool
  | .float => false
  | _ => true
theorem fv_0 {q k0 : Nat} {ty : FieldType} (h : okT ty = true) : defaultValue ty = fv q (fun _ => 0) (fun _ => 0) (fun _ => 0) (fun _ => none) k0 ty := by
  cases ty <;> first | rfl | cases h
theorem Pic_push {G : fr_G} {n : Nat} {σ : fr_S} {s : State} {H H1 : Heap} {locs : List Loc} (hP : Pic G true n σ H) (hS : va_S (AA (fr_q G)) s.heap H locs) (z1 : H1.size = H.size + 1) (o1 : ∀ q, q < H.size → H1[q]? = H[q]?) (hat : va_at (fr_D G) cl_all (fr_q G + n, ce G (sZ σ n) n) H1) :
    Pic G true (n + 1) (sZ σ n) H1 ∧ va_S (AA (fr_q G)) s.heap H1 locs := by
  have hz := hP.2 rfl
  refine ⟨⟨?_, fun _ => by rw [z1, hz]; omega⟩, ⟨Nat.le_trans hS.1 (by omega), fun x h1 h2 => (o1 x (Nat.lt_of_lt_of_le h1 hS.1)).trans (hS.2.1 x h1 h2), hS.2.2⟩⟩
  rw [← wd_push (σ := σ) ce_sZ]
  refine (hP.1.kept (fun i x hx => o1 x.1 ((hP.1 i x hx).lt))).app (fun i x hx => ?_)
  have hi : i < 1 := (List.getElem?_eq_some_iff.mp hx).1
  rw [show i = 0 by omega] at hx
  cases hx
  exact hat
theorem px_new {i ci z : Nat} {C0 : String} {T0 : u_T} (hd : dc Y.2.1 pc (.new i) 3 pc') (hck : CK ci C0 T0) (hw : Cond.classLink Y.1.cls i C0 ∈ al_W) (hin : Cond.instantiable C0 (nfc ci) ∈ al_W) (hini : Cond.initialized C0 ∈ al_W) (hk : kd n = (ci, z)) (hT : ∀ j, j < nfc ci → okT (tyc ci j) = true) (hcells : k + 1 ≤ R.cells) (hslots : sl + nfc ci ≤ R.slots)
    (h : PX l G Y R QF true (n + 1) (k + 1) (sl + nfc ci) pc' lv (.ref n :: st) (sZ σ n)) : PX l G Y R QF true n k sl pc lv st σ := by
  intro p e s m args below meth c H locs ls C hl hP hS
  obtain ⟨hd, rfl⟩ := hd
  obtain ⟨hc1, hci, hw0, hty, -⟩ := hck
  have hts := C.2.2.2.2.2.1
  have hKn := C.2.2.2.2.2.2.2.2.1.1 ci _ hc1
  refine W.newcK C.1 C.2.1 C.2.2.2.2.1 (hts _ hw) (hts _ hin) (hts _ hini) rfl hd hcells hslots hKn.2.1 (hP.2 rfl) fun H1 kC hkC e1 z1 o1 => ?_
  have hq : va_at (fr_D G) cl_all (fr_q G + n, ce G (sZ σ n) n) H1 := by
    unfold ce
    rw [hk, cek_o ci hci, sZ_I, sZ_L, sZ_D, sZ_R]
    refine ⟨_, hc1, (u_born (tyc ci) hts hw0 hKn hkC e1 hty).to (fun j hj => ?_)⟩
    simp [vp_V, ceo, hj, ← fv_0 (hT j hj)]
  obtain ⟨h1, h2⟩ := Pic_push hP hS (by rw [z1, hP.2 rfl]) (fun q hq => o1 q (by rw [← hP.2 rfl]; exact hq)) hq
  exact h p e s m args below meth c H1 locs ls C hl h1 h2
end PXN
