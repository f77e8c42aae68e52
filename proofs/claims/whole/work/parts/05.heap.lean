/-! the heap's rows -/
theorem cek_o {G : fr_G} {z : Nat} {fI : Nat → Int32} {fL : Nat → Int64} {fD : Nat → UInt64} {fR : Nat → Option Nat} : ∀ ci, ci < 10 → cek G (ci, z) fI fL fD fR = .inr (ci, ceo (fr_q G) fI fL fD fR ci)
  | 0, _ => rfl | 1, _ => rfl | 2, _ => rfl | 3, _ => rfl | 4, _ => rfl | 5, _ => rfl | 6, _ => rfl | 7, _ => rfl | 8, _ => rfl | 9, _ => rfl
  | n + 10, h => absurd h (by omega)
theorem wd_at {G : fr_G} {σ : fr_S} {n o : Nat} (h : o < n) : (wd G σ n)[o]? = some (fr_q G + o, ce G σ o) := by
  simp [wd, h]
theorem wd_len {G : fr_G} {σ : fr_S} {n : Nat} : (wd G σ n).length = n := by simp [wd]
theorem wd_D {G : fr_G} {σ : fr_S} {n : Nat} : va_D (AA (fr_q G)) (wd G σ n) := by
  have key : ∀ (i : Nat) (p : Nat × va_E), (wd G σ n)[i]? = some p → p.1 = fr_q G + i := by
    intro i p h
    have hi : i < n := by
      have := (List.getElem?_eq_some_iff.mp h).1
      rwa [wd_len] at this
    rw [wd_at hi] at h
    cases h
    rfl
  refine ⟨fun i j p q h1 h2 e => ?_, fun k q h => ?_⟩
  · rw [key i p h1, key j q h2] at e
    omega
  · rw [key k q h]
    exact Nat.le_add_right _ _
theorem wd_set {G : fr_G} {σ σ' : fr_S} {n o : Nat} {e : va_E} (he : ce G σ' o = e) (hne : ∀ j, j ≠ o → ce G σ' j = ce G σ j) : (wd G σ n).set o (fr_q G + o, e) = wd G σ' n := by
  subst he
  apply List.ext_getElem?
  intro i
  by_cases hi : i < n
  · by_cases hio : o = i
    · subst hio
      rw [List.getElem?_set_self (by rw [wd_len]; exact hi), wd_at hi]
    · rw [List.getElem?_set_ne hio, wd_at hi, wd_at hi, hne i (fun h => hio h.symm)]
  · rw [List.getElem?_eq_none (by rw [List.length_set, wd_len]; omega), List.getElem?_eq_none (by rw [wd_len]; omega)]
theorem wd_push {G : fr_G} {σ σ' : fr_S} {n : Nat} (hne : ∀ j, j < n → ce G σ' j = ce G σ j) : wd G σ n ++ [(fr_q G + n, ce G σ' n)] = wd G σ' (n + 1) := by
  unfold wd
  rw [List.range_succ, List.map_append]
  congr 1
  apply List.map_congr_left
  intro j hj
  rw [hne j (List.mem_range.mp hj)]
theorem ce_c {G : fr_G} {σ σ' : fr_S} {o : Nat} (h1 : gI σ' o = gI σ o) (h2 : gL σ' o = gL σ o) (h3 : gD σ' o = gD σ o) (h4 : gR σ' o = gR σ o) : ce G σ' o = ce G σ o := by
  unfold ce
  rw [h1, h2, h3, h4]
theorem u_2n {α : Type} {f : Nat → Nat → α} {o k j : Nat} {v : α} (h : j ≠ o) : u_2 f o k v j = f j := by
  funext b
  unfold u_2
  rw [if_neg (fun q => h q.1)]
theorem u_2s {α : Type} {f : Nat → Nat → α} {o k : Nat} {v : α} : u_2 f o k v o = fun b => if b = k then v else f o b := by
  funext b
  unfold u_2
  simp
theorem ce_sI {G : fr_G} {σ : fr_S} {o k : Nat} {v : Int32} : ∀ j, j ≠ o → ce G (sI σ o k v) j = ce G σ j := fun j h => ce_c (u_2n h) rfl rfl rfl
theorem ce_sL {G : fr_G} {σ : fr_S} {o k : Nat} {v : Int64} : ∀ j, j ≠ o → ce G (sL σ o k v) j = ce G σ j := fun j h => ce_c rfl (u_2n h) rfl rfl
theorem ce_sD {G : fr_G} {σ : fr_S} {o k : Nat} {v : UInt64} : ∀ j, j ≠ o → ce G (sD σ o k v) j = ce G σ j := fun j h => ce_c rfl rfl (u_2n h) rfl
theorem ce_sR {G : fr_G} {σ : fr_S} {o k : Nat} {v : Option Nat} : ∀ j, j ≠ o → ce G (sR σ o k v) j = ce G σ j := fun j h => ce_c rfl rfl rfl (u_2n h)
theorem ceo_set {q : Nat} {fI gI' : Nat → Int32} {fL gL' : Nat → Int64} {fD gD' : Nat → UInt64} {fR gR' : Nat → Option Nat} {ci k : Nat} {v : Value} (hv : v = fv q gI' gL' gD' gR' k (tyc ci k)) (hne : ∀ j, j ≠ k → fv q gI' gL' gD' gR' j (tyc ci j) = fv q fI fL fD fR j (tyc ci j)) : (ceo q fI fL fD fR ci).set k v = ceo q gI' gL' gD' gR' ci := by
  subst hv
  apply List.ext_getElem?
  intro i
  unfold ceo
  by_cases hi : i < nfc ci
  · by_cases hik : k = i
    · subst hik
      rw [List.getElem?_set_self (by simpa using hi)]
      simp [hi]
    · rw [List.getElem?_set_ne hik]
      simp [hi, hne i (fun h => hik h.symm)]
  · rw [List.getElem?_eq_none (by simpa using hi), List.getElem?_eq_none (by simpa using hi)]
/-- a class's tables -/
def CK (ci : Nat) (C : String) (T : u_T) : Prop := cl_all[ci]? = some (C, T, nfc ci) ∧ ci < 10 ∧ (∀ w ∈ u_ws C T (nfc ci), w ∈ al_W) ∧ (∀ k, k < nfc ci → parseFieldDescriptor (T k).2.2.1 = some (tyc ci k)) ∧ (∀ a, a < nfc ci → ∀ b, b < nfc ci → a ≠ b → (T a).2.1 ≠ (T b).2.1)
/-- a link of the pool to a field -/
def FK (own : String) (idx : Nat) (C n d : String) : Prop := Cond.fieldLink own idx C n d ∈ al_W ∨ ∃ host, (own, idx, C, n, d, host) ∈ nw_F
def FL (own : String) (idx ci k : Nat) (fin : Bool) : Prop := ∃ C T, CK ci C T ∧ k < nfc ci ∧ FK own idx C (T k).2.1 (T k).2.2.1 ∧ (T k).1 = C ∧ (T k).2.2.2 = fin
section PXH
variable {l : Launch} {G : fr_G} {Y : fr_Y} {R : Room} {QF : List Frame → Array Value → State → State → Prop} {ex : Bool} {n k sl pc pc' : Nat} {lv lv' : List (Nat × Value)} {st : List Value} {σ σ' : fr_S}
theorem px_getX {i ci k0 o z : Nat} {fin : Bool} {v v' : Value} (hd : dc Y.2.1 pc (.getfield i) 3 pc') (hf : FL Y.1.cls i ci k0 fin) (hk : kd o = (ci, z)) (ho : o < n) (hv : fv (fr_q G) (gI σ o) (gL σ o) (gD σ o) (gR σ o) k0 (tyc ci k0) = v) (hc : cv G v' = v)
    (h : PX l G Y R QF ex n k sl pc' lv (v' :: st) σ) : PX l G Y R QF ex n k sl pc lv (.ref o :: st) σ := by
  intro p e s m args below meth c H locs ls C hl hP hS
  obtain ⟨hd, rfl⟩ := hd
  obtain ⟨Cn, T, ⟨hc1, hci, hw, -, -⟩, hk0, hfk, hTC, -⟩ := hf
  have hat := wd_at (G := G) (σ := σ) ho
  unfold ce at hat
  rw [hk, cek_o ci hci] at hat
  have hfs : (ceo (fr_q G) (gI σ o) (gL σ o) (gD σ o) (gR σ o) ci)[k0]? = some v := by
    rw [← hv]
    simp [ceo, hk0]
  have hn := h p e s m args below meth c H locs ls C hl hP hS
  rw [List.map_cons, hc] at hn
  rcases hfk with hlk | ⟨host, hlk⟩
  · exact va_get C.1 C.2.1 C.2.2.2.2.2.1 hw C.2.2.2.2.1 C.2.2.2.2.2.2.2.2.1 hP.1 o hat hc1 k0 hk0 (C.2.2.2.2.2.1 _ hlk) (fun _ q => by rw [hTC] at q; exact q) hfs hd hn
  · exact va_getN C.1 C.2.1 C.2.2.2.2.2.1 hw C.2.2.2.2.1 C.2.2.2.2.2.2.2.2.1 hP.1 o hat hc1 k0 hk0 (va_Nw.use rfl (C.2.2.2.2.2.2.2.2.2.1 _ hlk)) (fun _ q => by rw [hTC] at q; exact q) hfs hd hn
def isI : FieldType → Bool
  | .int => true
  | .boolean => true
  | _ => false
def isR : FieldType → Bool
  | .object _ => true
  | .array _ => true
  | _ => false
theorem fv_I {q : Nat} {fI : Nat → Int32} {fL : Nat → Int64} {fD : Nat → UInt64} {fR : Nat → Option Nat} {k0 : Nat} {ty : FieldType} (h : isI ty = true) : fv q fI fL fD fR k0 ty = .int (fI k0) := by
  cases ty <;> first | rfl | cases h
theorem fv_R {q : Nat} {fI : Nat → Int32} {fL : Nat → Int64} {fD : Nat → UInt64} {fR : Nat → Option Nat} {k0 : Nat} {ty : FieldType} (h : isR ty = true) : fv q fI fL fD fR k0 ty = va_rf ((fR k0).map (q + ·)) := by
  cases ty <;> first | rfl | cases h
theorem px_getI {i ci k0 o z : Nat} {fin : Bool} (hd : dc Y.2.1 pc (.getfield i) 3 pc') (hf : FL Y.1.cls i ci k0 fin) (hk : kd o = (ci, z)) (ho : o < n) (ht : isI (tyc ci k0) = true)
    (h : PX l G Y R QF ex n k sl pc' lv (.int (gI σ o k0) :: st) σ) : PX l G Y R QF ex n k sl pc lv (.ref o :: st) σ := px_getX hd hf hk ho (fv_I ht) rfl h
theorem px_getL {i ci k0 o z : Nat} {fin : Bool} (hd : dc Y.2.1 pc (.getfield i) 3 pc') (hf : FL Y.1.cls i ci k0 fin) (hk : kd o = (ci, z)) (ho : o < n) (ht : tyc ci k0 = .long)
    (h : PX l G Y R QF ex n k sl pc' lv (.long (gL σ o k0) :: st) σ) : PX l G Y R QF ex n k sl pc lv (.ref o :: st) σ := px_getX hd hf hk ho (by rw [ht]; rfl) rfl h
theorem px_getD {i ci k0 o z : Nat} {fin : Bool} (hd : dc Y.2.1 pc (.getfield i) 3 pc') (hf : FL Y.1.cls i ci k0 fin) (hk : kd o = (ci, z)) (ho : o < n) (ht : tyc ci k0 = .double)
    (h : PX l G Y R QF ex n k sl pc' lv (.double (gD σ o k0) :: st) σ) : PX l G Y R QF ex n k sl pc lv (.ref o :: st) σ := px_getX hd hf hk ho (by rw [ht]; rfl) rfl h
theorem px_getR {i ci k0 o z r : Nat} {fin : Bool} (hd : dc Y.2.1 pc (.getfield i) 3 pc') (hf : FL Y.1.cls i ci k0 fin) (hk : kd o = (ci, z)) (ho : o < n) (ht : isR (tyc ci k0) = true) (hr : gR σ o k0 = some r)
    (h : PX l G Y R QF ex n k sl pc' lv (.ref r :: st) σ) : PX l G Y R QF ex n k sl pc lv (.ref o :: st) σ := px_getX hd hf hk ho (by rw [fv_R ht, hr]; rfl) rfl h
theorem px_getN {i ci k0 o z : Nat} {fin : Bool} (hd : dc Y.2.1 pc (.getfield i) 3 pc') (hf : FL Y.1.cls i ci k0 fin) (hk : kd o = (ci, z)) (ho : o < n) (ht : isR (tyc ci k0) = true) (hr : gR σ o k0 = none)
    (h : PX l G Y R QF ex n k sl pc' lv (.null :: st) σ) : PX l G Y R QF ex n k sl pc lv (.ref o :: st) σ := px_getX hd hf hk ho (by rw [fv_R ht, hr]; rfl) rfl h
theorem px_putX {i ci k0 o z : Nat} {fin : Bool} {v v' : Value} (hd : dc Y.2.1 pc (.putfield i) 3 pc') (hf : FL Y.1.cls i ci k0 fin) (hfi : fin = true → Y.1.name = "<init>" ∧ ∃ C T, CK ci C T ∧ C = Y.1.cls ∧ Cond.fieldLink Y.1.cls i C (T k0).2.1 (T k0).2.2.1 ∈ al_W ∧ (T k0).1 = C ∧ (T k0).2.2.2 = true) (hk : kd o = (ci, z)) (ho : o < n)
    (hce : ∀ j, j ≠ o → ce G σ' j = ce G σ j) (hv : v = fv (fr_q G) (gI σ' o) (gL σ' o) (gD σ' o) (gR σ' o) k0 (tyc ci k0)) (hne : ∀ j, j ≠ k0 → fv (fr_q G) (gI σ' o) (gL σ' o) (gD σ' o) (gR σ' o) j (tyc ci j) = fv (fr_q G) (gI σ o) (gL σ o) (gD σ o) (gR σ o) j (tyc ci j)) (hc : cv G v' = v)
    (hn : narrow (tyc ci k0) v = v) (hfit : fits (tyc ci k0) v = true)
    (h : PX l G Y R QF ex n k sl pc' lv st σ') : PX l G Y R QF ex n k sl pc lv (v' :: .ref o :: st) σ := by
  intro p e s m args below meth c H locs ls C hl hP hS
  obtain ⟨hd, rfl⟩ := hd
  obtain ⟨Cn, T, ⟨hc1, hci, hw, hty, hnm⟩, hk0, hfk, hTC, hfin⟩ := hf
  have hat := wd_at (G := G) (σ := σ) ho
  unfold ce at hat
  rw [hk, cek_o ci hci] at hat
  have hlen : k0 < (ceo (fr_q G) (gI σ o) (gL σ o) (gD σ o) (gR σ o) ci).length := by simp [ceo, hk0]
  have hset : (wd G σ n).set o (fr_q G + o, .inr (ci, (ceo (fr_q G) (gI σ o) (gL σ o) (gD σ o) (gR σ o) ci).set k0 v)) = wd G σ' n := wd_set (by
    unfold ce
    rw [hk, cek_o ci hci, ceo_set hv hne]) hce
  have goal : ∀ (H1 : Heap) (locs1 : List Loc), va_P (fr_D G) cl_all ((wd G σ n).set o (fr_q G + o, .inr (ci, (ceo (fr_q G) (gI σ o) (gL σ o) (gD σ o) (gR σ o) ci).set k0 v))) H1 → va_S (AA (fr_q G)) s.heap H1 locs1 → H1.size = H.size → W p l e R s m args below meth c H1 locs1 k sl (QF below args s) (F0 m (pc + 3) ls (st.map (cv G))) := by
    intro H1 locs1 hP1 hS1 hz
    rw [hset] at hP1
    exact h p e s m args below meth c H1 locs1 ls C hl ⟨hP1, fun q => by rw [hz]; exact hP.2 q⟩ hS1
  rw [List.map_cons, List.map_cons, hc]
  obtain ⟨hx, hb, -, -, hown, hts, -, hnin, hK, hNF, -⟩ := C
  have hD : va_D (AA (fr_q G)) (wd G σ n) := wd_D
  have hap := va_apart (own := Y.1.cls) hts hw (tyc ci) hty hnm hK hc1
  obtain ⟨r, h1, cell, q1, q2, q3, q4⟩ := hP.1 o _ hat
  have hr : r = (Cn, T, nfc ci) := Option.some.inj (h1.symm.trans hc1)
  subst hr
  obtain ⟨hSl, hfc, kC, hkC, hkind⟩ := hK.1 ci _ hc1
  obtain ⟨cf, kf, fi, f, hi, hsl⟩ := hSl k0 hk0
  have hst := (u_facts hfc hkC (u_lays hts hw hk0) hi).1
  have hlay := hts _ (hw _ (u_in_lay hk0))
  unfold u_lay at hlay
  have hi' := hi
  rw [hTC] at hi'
  have fin_ : ∀ H' : Heap, H'[fr_q G + o]? = some (cell.setSlot f.slot v) → H'.size = H.size → (∀ q, q ≠ fr_q G + o → H'[q]? = H[q]?) → W p l e R s m args below meth c H' (locs ++ [⟨fr_q G + o, f.slot⟩]) k sl (QF below args s) (F0 m (pc + 3) ls (st.map (cv G))) := by
    intro H' e1 e2 e3
    rw [hsl] at e1 ⊢
    exact goal H' _ (hP.1.set hD hat ⟨_, hc1, t_OB.to (V := updV (vp_V (ceo (fr_q G) (gI σ o) (gL σ o) (gD σ o) (gR σ o) ci)) k0 v) ⟨_, e1, q2, q3, t_set q4 hap hk0 v⟩ (fun j _ => vp_updV_set hlen v j)⟩ e3) (hS.put e2 e3 (hD.2 o _ hat)) e2
  cases fin with
  | false =>
    rw [if_neg (by rw [hfin]; decide)] at hlay
    have h6 := u_store hfc hkC hkind hlay hi (hty k0 hk0) hn hfit
    rcases hfk with hlk | ⟨host, hlk⟩
    · exact W.putK hx hb (f := f) ⟨hown, hts _ hlk, ⟨_, _, _, hi'⟩, hst⟩ (by rw [q2]; exact h6) q1 q3 (by rw [hsl]; exact k2_hasslot (q4 k0 hk0)) rfl rfl hd fin_
    · exact va_WputK hx hb (f := f) hown (va_Nw.use rfl (hNF _ hlk)) hi' hst (by rw [q2]; exact h6) q1 q3 (by rw [hsl]; exact k2_hasslot (q4 k0 hk0)) rfl rfl hd fin_
  | true =>
    rw [if_pos hfin] at hlay
    obtain ⟨hin, C2, T2, ⟨hc2, -⟩, hCo, hlk, -, -⟩ := hfi rfl
    have hr2 := Option.some.inj (hc1.symm.trans hc2)
    cases hr2
    have hcf : m.cls = cf := by
      obtain ⟨_, _, c', _, _, _, -, -, hf', -, -, -, hown2, -⟩ := Cond.laysFinal_spec hlay
      have e1 : c' = cf := by have := hi.symm.trans hf'; simp at this; exact this.1.symm
      rw [hTC, hCo] at hown2
      rw [← e1]; exact Option.some.inj (hown.symm.trans hown2)
    have h6 := u_fits hfc hkC hkind (Or.inr hlay) hi (hty k0 hk0) hn hfit
    exact W.putFinK hx hb hown (hts _ hlk) hi' hst hcf (hnin.trans hin) (by rw [q2]; exact h6) q1 q3 (by rw [hsl]; exact k2_hasslot (q4 k0 hk0)) rfl rfl hd fin_
/-- a final field, in its constructor -/
def FF (Y : fr_Y) (i ci k0 : Nat) : Prop := Y.1.name = "<init>" ∧ ∃ C T, CK ci C T ∧ C = Y.1.cls ∧ Cond.fieldLink Y.1.cls i C (T k0).2.1 (T k0).2.2.1 ∈ al_W ∧ (T k0).1 = C ∧ (T k0).2.2.2 = true
theorem fvI_ne {q : Nat} {σ : fr_S} {o k0 : Nat} {x : Int32} {ci : Nat} : ∀ j, j ≠ k0 → fv q (gI (sI σ o k0 x) o) (gL (sI σ o k0 x) o) (gD (sI σ o k0 x) o) (gR (sI σ o k0 x) o) j (tyc ci j) = fv q (gI σ o) (gL σ o) (gD σ o) (gR σ o) j (tyc ci j) := by
  intro j hj
  have e : gI (sI σ o k0 x) o j = gI σ o j := by simp [gI, sI, u_2, hj]
  unfold fv
  split <;> first | rfl | rw [e]
theorem px_putI {i ci k0 o z : Nat} {x : Int32} (hd : dc Y.2.1 pc (.putfield i) 3 pc') (hf : FL Y.1.cls i ci k0 false) (hk : kd o = (ci, z)) (ho : o < n) (ht : tyc ci k0 = .int)
    (h : PX l G Y R QF ex n k sl pc' lv st (sI σ o k0 x)) : PX l G Y R QF ex n k sl pc lv (.int x :: .ref o :: st) σ :=
  px_putX (v := .int x) hd hf (fun q => by cases q) hk ho ce_sI (by rw [ht]; simp [fv, gI, sI, u_2]) fvI_ne rfl (by rw [ht]; rfl) (by rw [ht]; rfl) h
theorem px_putZ {i ci k0 o z : Nat} {x : Int32} (hd : dc Y.2.1 pc (.putfield i) 3 pc') (hf : FL Y.1.cls i ci k0 false) (hk : kd o = (ci, z)) (ho : o < n) (ht : tyc ci k0 = .boolean) (hx : x = 0 ∨ x = 1)
    (h : PX l G Y R QF ex n k sl pc' lv st (sI σ o k0 x)) : PX l G Y R QF ex n k sl pc lv (.int x :: .ref o :: st) σ :=
  px_putX (v := .int x) hd hf (fun q => by cases q) hk ho ce_sI (by rw [ht]; simp [fv, gI, sI, u_2]) fvI_ne rfl (by rw [ht]; rcases hx with rfl | rfl <;> rfl) (by rw [ht]; rcases hx with rfl | rfl <;> rfl) h
theorem px_putL {i ci k0 o z : Nat} {x : Int64} (hd : dc Y.2.1 pc (.putfield i) 3 pc') (hf : FL Y.1.cls i ci k0 false) (hk : kd o = (ci, z)) (ho : o < n) (ht : tyc ci k0 = .long)
    (h : PX l G Y R QF ex n k sl pc' lv st (sL σ o k0 x)) : PX l G Y R QF ex n k sl pc lv (.long x :: .ref o :: st) σ :=
  px_putX (v := .long x) hd hf (fun q => by cases q) hk ho ce_sL (by rw [ht]; simp [fv, gL, sL, u_2]) (by
    intro j hj
    have e : gL (sL σ o k0 x) o j = gL σ o j := by simp [gL, sL, u_2, hj]
    unfold fv
    split <;> first | rfl | rw [e]) rfl (by rw [ht]; rfl) (by rw [ht]; rfl) h
theorem px_putD {i ci k0 o z : Nat} {x : UInt64} (hd : dc Y.2.1 pc (.putfield i) 3 pc') (hf : FL Y.1.cls i ci k0 false) (hk : kd o = (ci, z)) (ho : o < n) (ht : tyc ci k0 = .double)
    (h : PX l G Y R QF ex n k sl pc' lv st (sD σ o k0 x)) : PX l G Y R QF ex n k sl pc lv (.double x :: .ref o :: st) σ :=
  px_putX (v := .double x) hd hf (fun q => by cases q) hk ho ce_sD (by rw [ht]; simp [fv, gD, sD, u_2]) (by
    intro j hj
    have e : gD (sD σ o k0 x) o j = gD σ o j := by simp [gD, sD, u_2, hj]
    unfold fv
    split <;> first | rfl | rw [e]) rfl (by rw [ht]; rfl) (by rw [ht]; rfl) h
theorem fvR_ne {q : Nat} {σ : fr_S} {o k0 : Nat} {x : Option Nat} {ci : Nat} : ∀ j, j ≠ k0 → fv q (gI (sR σ o k0 x) o) (gL (sR σ o k0 x) o) (gD (sR σ o k0 x) o) (gR (sR σ o k0 x) o) j (tyc ci j) = fv q (gI σ o) (gL σ o) (gD σ o) (gR σ o) j (tyc ci j) := by
  intro j hj
  have e : gR (sR σ o k0 x) o j = gR σ o j := by simp [gR, sR, u_2, hj]
  unfold fv
  split <;> first | rfl | rw [e]
theorem px_putR {i ci k0 o z r : Nat} {fin : Bool} (hd : dc Y.2.1 pc (.putfield i) 3 pc') (hf : FL Y.1.cls i ci k0 fin) (hfi : fin = true → FF Y i ci k0) (hk : kd o = (ci, z)) (ho : o < n) (ht : isR (tyc ci k0) = true)
    (h : PX l G Y R QF ex n k sl pc' lv st (sR σ o k0 (some r))) : PX l G Y R QF ex n k sl pc lv (.ref r :: .ref o :: st) σ :=
  px_putX (v := .ref (fr_q G + r)) hd hf hfi hk ho ce_sR (by rw [fv_R ht]; simp [gR, sR, u_2, va_rf]) fvR_ne rfl (by revert ht; cases tyc ci k0 <;> intro ht <;> first | rfl | cases ht) (by revert ht; cases tyc ci k0 <;> intro ht <;> first | rfl | cases ht) h
theorem px_putN {i ci k0 o z : Nat} (hd : dc Y.2.1 pc (.putfield i) 3 pc') (hf : FL Y.1.cls i ci k0 false) (hk : kd o = (ci, z)) (ho : o < n) (ht : isR (tyc ci k0) = true)
    (h : PX l G Y R QF ex n k sl pc' lv st (sR σ o k0 none)) : PX l G Y R QF ex n k sl pc lv (.null :: .ref o :: st) σ :=
  px_putX (v := .null) hd hf (fun q => by cases q) hk ho ce_sR (by rw [fv_R ht]; simp [gR, sR, u_2, va_rf]) fvR_ne rfl (by revert ht; cases tyc ci k0 <;> intro ht <;> first | rfl | cases ht) (by revert ht; cases tyc ci k0 <;> intro ht <;> first | rfl | cases ht) h
/-! arrays -/
theorem px_iald {a N : Nat} {x : Int32} (hd : dc Y.2.1 pc .iaload 1 pc') (hk : kd a = (20, N)) (ho : a < n) (hin : vp_in x N)
    (h : PX l G Y R QF ex n k sl pc' lv (.int (gI σ a x.toNatClampNeg) :: st) σ) : PX l G Y R QF ex n k sl pc lv (.int x :: .ref a :: st) σ := by
  intro p e s m args below meth c H locs ls C hl hP hS
  obtain ⟨hd, rfl⟩ := hd
  have hat := wd_at (G := G) (σ := σ) ho
  unfold ce at hat
  rw [hk] at hat
  exact va_iald C.1 C.2.1 C.2.2.2.2.2.2.2.2.1 hP.1 a 0 hat rfl hin hd (h p e s m args below meth c H locs ls C hl hP hS)
theorem px_zald {a N : Nat} {x : Int32} (hd : dc Y.2.1 pc .baload 1 pc') (hk : kd a = (21, N)) (ho : a < n) (hin : vp_in x N)
    (h : PX l G Y R QF ex n k sl pc' lv (.int (gI σ a x.toNatClampNeg) :: st) σ) : PX l G Y R QF ex n k sl pc lv (.int x :: .ref a :: st) σ := by
  intro p e s m args below meth c H locs ls C hl hP hS
  obtain ⟨hd, rfl⟩ := hd
  have hat := wd_at (G := G) (σ := σ) ho
  unfold ce at hat
  rw [hk] at hat
  exact va_zald C.1 C.2.1 C.2.2.2.2.2.2.2.2.1 hP.1 a 1 hat rfl hin hd (h p e s m args below meth c H locs ls C hl hP hS)
theorem px_lald {a N : Nat} {x : Int32} (hd : dc Y.2.1 pc .laload 1 pc') (hk : kd a = (22, N)) (ho : a < n) (hin : vp_in x N)
    (h : PX l G Y R QF ex n k sl pc' lv (.long (gL σ a x.toNatClampNeg) :: st) σ) : PX l G Y R QF ex n k sl pc lv (.int x :: .ref a :: st) σ := by
  intro p e s m args below meth c H locs ls C hl hP hS
  obtain ⟨hd, rfl⟩ := hd
  have hat := wd_at (G := G) (σ := σ) ho
  unfold ce at hat
  rw [hk] at hat
  exact va_lald C.1 C.2.1 C.2.2.2.2.2.2.2.2.1 hP.1 a 2 hat rfl hin hd (h p e s m args below meth c H locs ls C hl hP hS)
theorem px_dald {a N : Nat} {x : Int32} (hd : dc Y.2.1 pc .daload 1 pc') (hk : kd a = (23, N)) (ho : a < n) (hin : vp_in x N)
    (h : PX l G Y R QF ex n k sl pc' lv (.double (gD σ a x.toNatClampNeg) :: st) σ) : PX l G Y R QF ex n k sl pc lv (.int x :: .ref a :: st) σ := by
  intro p e s m args below meth c H locs ls C hl hP hS
  obtain ⟨hd, rfl⟩ := hd
  have hat := wd_at (G := G) (σ := σ) ho
  unfold ce at hat
  rw [hk] at hat
  exact va_dald C.1 C.2.1 C.2.2.2.2.2.2.2.2.1 hP.1 a 3 hat rfl hin hd (h p e s m args below meth c H locs ls C hl hP hS)
theorem px_aald24 {a N r : Nat} {x : Int32} (hd : dc Y.2.1 pc .aaload 1 pc') (hk : kd a = (24, N)) (ho : a < n) (hin : vp_in x N) (hr : gR σ a x.toNatClampNeg = some r)
    (h : PX l G Y R QF ex n k sl pc' lv (.ref r :: st) σ) : PX l G Y R QF ex n k sl pc lv (.int x :: .ref a :: st) σ := by
  intro p e s m args below meth c H locs ls C hl hP hS
  obtain ⟨hd, rfl⟩ := hd
  have hat := wd_at (G := G) (σ := σ) ho
  unfold ce at hat
  rw [hk] at hat
  refine va_aldq C.1 C.2.1 C.2.2.2.2.2.2.2.2.1 hP.1 a 4 hat rfl hin hd ?_
  rw [hr]
  exact h p e s m args below meth c H locs ls C hl hP hS
theorem px_aald25 {a N r : Nat} {x : Int32} (hd : dc Y.2.1 pc .aaload 1 pc') (hk : kd a = (25, N)) (ho : a < n) (hin : vp_in x N) (hr : gR σ a x.toNatClampNeg = some r)
    (h : PX l G Y R QF ex n k sl pc' lv (.ref r :: st) σ) : PX l G Y R QF ex n k sl pc lv (.int x :: .ref a :: st) σ := by
  intro p e s m args below meth c H locs ls C hl hP hS
  obtain ⟨hd, rfl⟩ := hd
  have hat := wd_at (G := G) (σ := σ) ho
  unfold ce at hat
  rw [hk] at hat
  refine va_aldq C.1 C.2.1 C.2.2.2.2.2.2.2.2.1 hP.1 a 5 hat rfl hin hd ?_
  rw [hr]
  exact h p e s m args below meth c H locs ls C hl hP hS
theorem px_aald26 {a N r : Nat} {x : Int32} (hd : dc Y.2.1 pc .aaload 1 pc') (hk : kd a = (26, N)) (ho : a < n) (hin : vp_in x N) (hr : gR σ a x.toNatClampNeg = some r)
    (h : PX l G Y R QF ex n k sl pc' lv (.ref r :: st) σ) : PX l G Y R QF ex n k sl pc lv (.int x :: .ref a :: st) σ := by
  intro p e s m args below meth c H locs ls C hl hP hS
  obtain ⟨hd, rfl⟩ := hd
  have hat := wd_at (G := G) (σ := σ) ho
  unfold ce at hat
  rw [hk] at hat
  refine va_aldq C.1 C.2.1 C.2.2.2.2.2.2.2.2.1 hP.1 a 6 hat rfl hin hd ?_
  rw [hr]
  exact h p e s m args below meth c H locs ls C hl hP hS
theorem px_iast {a N : Nat} {x : Int32} {v : Int32} (hd : dc Y.2.1 pc .iastore 1 pc') (hk : kd a = (20, N)) (ho : a < n) (hin : vp_in x N)
    (h : PX l G Y R QF false n k sl pc' lv st (sI σ a x.toNatClampNeg v)) : PX l G Y R QF false n k sl pc lv (.int v :: .int x :: .ref a :: st) σ := by
  intro p e s m args below meth c H locs ls C hl hP hS
  obtain ⟨hd, rfl⟩ := hd
  have hat := wd_at (G := G) (σ := σ) ho
  unfold ce at hat
  rw [hk] at hat
  refine va_iast C.1 C.2.1 C.2.2.2.2.2.2.2.2.1 hP.1 wd_D hS a 0 hat rfl hin hd (fun H1 locs1 hP1 _ hS1 => h p e s m args below meth c H1 locs1 ls C hl ⟨?_, fun q => by cases q⟩ hS1)
  rw [wd_set (σ' := sI σ a x.toNatClampNeg v) ?_ ce_sI] at hP1
  · exact hP1
  · unfold ce
    rw [hk]
    have e : gI (sI σ a x.toNatClampNeg v) a = upd (gI σ a) x.toNatClampNeg v := by
      funext j
      simp [gI, sI, u_2, upd]
    show cek G (20, N) _ _ _ _ = _
    unfold cek
    simp only [e]
theorem px_last {a N : Nat} {x : Int32} {v : Int64} (hd : dc Y.2.1 pc .lastore 1 pc') (hk : kd a = (22, N)) (ho : a < n) (hin : vp_in x N)
    (h : PX l G Y R QF false n k sl pc' lv st (sL σ a x.toNatClampNeg v)) : PX l G Y R QF false n k sl pc lv (.long v :: .int x :: .ref a :: st) σ := by
  intro p e s m args below meth c H locs ls C hl hP hS
  obtain ⟨hd, rfl⟩ := hd
  have hat := wd_at (G := G) (σ := σ) ho
  unfold ce at hat
  rw [hk] at hat
  refine va_last C.1 C.2.1 C.2.2.2.2.2.2.2.2.1 hP.1 wd_D hS a 2 hat rfl hin hd (fun H1 locs1 hP1 _ hS1 => h p e s m args below meth c H1 locs1 ls C hl ⟨?_, fun q => by cases q⟩ hS1)
  rw [wd_set (σ' := sL σ a x.toNatClampNeg v) ?_ ce_sL] at hP1
  · exact hP1
  · unfold ce
    rw [hk]
    have e : gL (sL σ a x.toNatClampNeg v) a = vp_updL (gL σ a) x.toNatClampNeg v := by
      funext j
      simp [gL, sL, u_2, vp_updL]
    show cek G (22, N) _ _ _ _ = _
    unfold cek
    simp only [e]
theorem px_dast {a N : Nat} {x : Int32} {v : UInt64} (hd : dc Y.2.1 pc .dastore 1 pc') (hk : kd a = (23, N)) (ho : a < n) (hin : vp_in x N)
    (h : PX l G Y R QF false n k sl pc' lv st (sD σ a x.toNatClampNeg v)) : PX l G Y R QF false n k sl pc lv (.double v :: .int x :: .ref a :: st) σ := by
  intro p e s m args below meth c H locs ls C hl hP hS
  obtain ⟨hd, rfl⟩ := hd
  have hat := wd_at (G := G) (σ := σ) ho
  unfold ce at hat
  rw [hk] at hat
  refine va_dast C.1 C.2.1 C.2.2.2.2.2.2.2.2.1 hP.1 wd_D hS a 3 hat rfl hin hd (fun H1 locs1 hP1 _ hS1 => h p e s m args below meth c H1 locs1 ls C hl ⟨?_, fun q => by cases q⟩ hS1)
  rw [wd_set (σ' := sD σ a x.toNatClampNeg v) ?_ ce_sD] at hP1
  · exact hP1
  · unfold ce
    rw [hk]
    have e : gD (sD σ a x.toNatClampNeg v) a = vf_upd (gD σ a) x.toNatClampNeg v := by
      funext j
      simp [gD, sD, u_2, vf_upd]
    show cek G (23, N) _ _ _ _ = _
    unfold cek
    simp only [e]
theorem px_zast {a N : Nat} {x : Int32} {v : Int32} (hd : dc Y.2.1 pc .bastore 1 pc') (hk : kd a = (21, N)) (ho : a < n) (hin : vp_in x N) (hv : v = 0 ∨ v = 1)
    (h : PX l G Y R QF false n k sl pc' lv st (sI σ a x.toNatClampNeg v)) : PX l G Y R QF false n k sl pc lv (.int v :: .int x :: .ref a :: st) σ := by
  intro p e s m args below meth c H locs ls C hl hP hS
  obtain ⟨hd, rfl⟩ := hd
  have hat := wd_at (G := G) (σ := σ) ho
  unfold ce at hat
  rw [hk] at hat
  refine va_zast C.1 C.2.1 C.2.2.2.2.2.2.2.2.1 hP.1 wd_D hS a 1 hat rfl hin hd (fun H1 locs1 hP1 _ hS1 => h p e s m args below meth c H1 locs1 ls C hl ⟨?_, fun q => by cases q⟩ hS1)
  have hnv : vp_nar .boolean v = v := by rcases hv with rfl | rfl <;> rfl
  rw [hnv] at hP1
  rw [wd_set (σ' := sI σ a x.toNatClampNeg v) ?_ ce_sI] at hP1
  · exact hP1
  · unfold ce
    rw [hk]
    have e : gI (sI σ a x.toNatClampNeg v) a = upd (gI σ a) x.toNatClampNeg v := by
      funext j
      simp [gI, sI, u_2, upd]
    show cek G (21, N) _ _ _ _ = _
    unfold cek
    simp only [e]
end PXH
