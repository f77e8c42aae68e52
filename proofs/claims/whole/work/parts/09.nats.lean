/-! rows over small whole numbers; calls with an exact contract -/
theorem kd_le (a : Nat) : (kd a).2 ≤ 1600 := by
  unfold kd
  split
  · rename_i h
    exact (show ∀ a, a < 27 → (kd_h.getD a (99, 0)).2 ≤ 1600 by decide) a h
  · split
    · unfold kd_a
      repeat' split
      all_goals decide
    · by_cases h : a - 717 < 25
      · exact (show ∀ a, a < 25 → (kd_t.getD a (99, 0)).2 ≤ 1600 by decide) _ h
      · have e : kd_t.getD (a - 717) (99, 0) = (99, 0) := by
          rw [List.getD_eq_getElem?_getD, List.getElem?_eq_none (by show 25 ≤ _; omega)]
          rfl
        rw [e]
        decide
theorem kd_lt {a K N : Nat} (h : kd a = (K, N)) : N < 2 ^ 31 := by
  have := kd_le a
  rw [h] at this
  exact Nat.lt_of_le_of_lt this (by decide)
section PXM
variable {l : Launch} {G : fr_G} {Y : fr_Y} {R : Room} {QF : List Frame → Array Value → State → State → Prop} {ex : Bool} {n k sl pc pc' : Nat} {lv lv' : List (Nat × Value)} {st : List Value} {σ σ' : fr_S}
theorem px_eqi {x y : Int32} (e : x = y) (h : PX l G Y R QF ex n k sl pc lv (.int y :: st) σ) : PX l G Y R QF ex n k sl pc lv (.int x :: st) σ := e ▸ h
theorem px_eql {x y : Int64} (e : x = y) (h : PX l G Y R QF ex n k sl pc lv (.long y :: st) σ) : PX l G Y R QF ex n k sl pc lv (.long x :: st) σ := e ▸ h
theorem px_eqf {x y : UInt32} (e : x = y) (h : PX l G Y R QF ex n k sl pc lv (.float y :: st) σ) : PX l G Y R QF ex n k sl pc lv (.float x :: st) σ := e ▸ h
theorem px_eqd {x y : UInt64} (e : x = y) (h : PX l G Y R QF ex n k sl pc lv (.double y :: st) σ) : PX l G Y R QF ex n k sl pc lv (.double x :: st) σ := e ▸ h
theorem px_eqσ {τ : fr_S} (e : σ = τ) (h : PX l G Y R QF ex n k sl pc lv st τ) : PX l G Y R QF ex n k sl pc lv st σ := e ▸ h
theorem px_eqv {lv2 : List (Nat × Value)} (e : lv = lv2) (h : PX l G Y R QF ex n k sl pc lv2 st σ) : PX l G Y R QF ex n k sl pc lv st σ := e ▸ h
/-- fewer locals, in any order -/
theorem px_sub (ks : List Nat) (he : lv_pick lv ks = lv') (h : PX l G Y R QF ex n k sl pc lv' st σ) : PX l G Y R QF ex n k sl pc lv st σ := by
  intro p e s m args below meth c H locs ls C hl hP hS
  refine h p e s m args below meth c H locs ls C ?_ hP hS
  subst he
  refine lv_sub hl ks ?_
  unfold lv_pick
  rw [List.map_filterMap]
  congr 1
  funext i
  simp
theorem px_iaddN {a b : Nat} (hd : dc Y.2.1 pc .iadd 1 pc') (h : PX l G Y R QF ex n k sl pc' lv (.int (nI (a + b)) :: st) σ) : PX l G Y R QF ex n k sl pc lv (.int (nI b) :: .int (nI a) :: st) σ := px_iadd hd (by rw [nI_add]; exact h)
theorem px_imulN {a b : Nat} (hd : dc Y.2.1 pc .imul 1 pc') (h : PX l G Y R QF ex n k sl pc' lv (.int (nI (a * b)) :: st) σ) : PX l G Y R QF ex n k sl pc lv (.int (nI b) :: .int (nI a) :: st) σ := px_imul hd (by rw [pk_mul]; exact h)
theorem px_isubN {a b : Nat} (hd : dc Y.2.1 pc .isub 1 pc') (hb : b ≤ a) (h : PX l G Y R QF ex n k sl pc' lv (.int (nI (a - b)) :: st) σ) : PX l G Y R QF ex n k sl pc lv (.int (nI b) :: .int (nI a) :: st) σ := px_isub hd (by rw [pk_sub hb]; exact h)
theorem px_iandN {a w : Nat} {m : Int32} (hd : dc Y.2.1 pc .iand 1 pc') (ha : a < 2 ^ 32) (hm : m.toBitVec.toNat = 2 ^ w - 1) (h : PX l G Y R QF ex n k sl pc' lv (.int (nI (a % 2 ^ w)) :: st) σ) : PX l G Y R QF ex n k sl pc lv (.int m :: .int (nI a) :: st) σ := px_iand hd (by rw [pk_andN ha w hm]; exact h)
theorem px_ishrN {a w : Nat} {m : Int32} (hd : dc Y.2.1 pc .ishr 1 pc') (ha : a < 2 ^ 31) (hm : ((m &&& 31).toBitVec.smod 32).toNat = w) (h : PX l G Y R QF ex n k sl pc' lv (.int (nI (a / 2 ^ w)) :: st) σ) : PX l G Y R QF ex n k sl pc lv (.int m :: .int (nI a) :: st) σ := px_ishr hd (by rw [pk_shrN ha (m &&& 31) w hm]; exact h)
theorem px_iremN {a b : Nat} (hd : dc Y.2.1 pc .irem 1 pc') (ha : a < 2 ^ 31) (h0 : 0 < b) (hb : b < 2 ^ 31) (h : PX l G Y R QF ex n k sl pc' lv (.int (nI (a % b)) :: st) σ) : PX l G Y R QF ex n k sl pc lv (.int (nI b) :: .int (nI a) :: st) σ := px_irem hd (nI_ne0 h0 hb) (by rw [pk_rem ha h0 hb]; exact h)
theorem px_ialdN {a N j : Nat} (hd : dc Y.2.1 pc .iaload 1 pc') (hk : kd a = (20, N)) (ho : a < n) (hj : j < N)
    (h : PX l G Y R QF ex n k sl pc' lv (.int (gI σ a j) :: st) σ) : PX l G Y R QF ex n k sl pc lv (.int (nI j) :: .ref a :: st) σ := px_iald hd hk ho (vp_in_nI hj (kd_lt hk)) (by rw [nI_clamp (Nat.lt_trans hj (kd_lt hk))]; exact h)
theorem px_zaldN {a N j : Nat} (hd : dc Y.2.1 pc .baload 1 pc') (hk : kd a = (21, N)) (ho : a < n) (hj : j < N)
    (h : PX l G Y R QF ex n k sl pc' lv (.int (gI σ a j) :: st) σ) : PX l G Y R QF ex n k sl pc lv (.int (nI j) :: .ref a :: st) σ := px_zald hd hk ho (vp_in_nI hj (kd_lt hk)) (by rw [nI_clamp (Nat.lt_trans hj (kd_lt hk))]; exact h)
theorem px_laldN {a N j : Nat} (hd : dc Y.2.1 pc .laload 1 pc') (hk : kd a = (22, N)) (ho : a < n) (hj : j < N)
    (h : PX l G Y R QF ex n k sl pc' lv (.long (gL σ a j) :: st) σ) : PX l G Y R QF ex n k sl pc lv (.int (nI j) :: .ref a :: st) σ := px_lald hd hk ho (vp_in_nI hj (kd_lt hk)) (by rw [nI_clamp (Nat.lt_trans hj (kd_lt hk))]; exact h)
theorem px_daldN {a N j : Nat} (hd : dc Y.2.1 pc .daload 1 pc') (hk : kd a = (23, N)) (ho : a < n) (hj : j < N)
    (h : PX l G Y R QF ex n k sl pc' lv (.double (gD σ a j) :: st) σ) : PX l G Y R QF ex n k sl pc lv (.int (nI j) :: .ref a :: st) σ := px_dald hd hk ho (vp_in_nI hj (kd_lt hk)) (by rw [nI_clamp (Nat.lt_trans hj (kd_lt hk))]; exact h)
theorem px_taldN {j : Nat} (hd : dc Y.2.1 pc .iaload 1 pc') (hj : j < 200) (h : PX l G Y R QF ex n k sl pc' lv (.int (ops_t j) :: st) σ) : PX l G Y R QF ex n k sl pc lv (.int (nI j) :: .retAddr 0 :: st) σ := px_tald hd (vp_in_nI hj (by decide)) (by rw [nI_clamp (Nat.lt_trans hj (by decide))]; exact h)
theorem px_aald24N {a N j r : Nat} (hd : dc Y.2.1 pc .aaload 1 pc') (hk : kd a = (24, N)) (ho : a < n) (hj : j < N) (hr : gR σ a j = some r)
    (h : PX l G Y R QF ex n k sl pc' lv (.ref r :: st) σ) : PX l G Y R QF ex n k sl pc lv (.int (nI j) :: .ref a :: st) σ := px_aald24 hd hk ho (vp_in_nI hj (kd_lt hk)) (by rw [nI_clamp (Nat.lt_trans hj (kd_lt hk))]; exact hr) h
theorem px_aald25N {a N j r : Nat} (hd : dc Y.2.1 pc .aaload 1 pc') (hk : kd a = (25, N)) (ho : a < n) (hj : j < N) (hr : gR σ a j = some r)
    (h : PX l G Y R QF ex n k sl pc' lv (.ref r :: st) σ) : PX l G Y R QF ex n k sl pc lv (.int (nI j) :: .ref a :: st) σ := px_aald25 hd hk ho (vp_in_nI hj (kd_lt hk)) (by rw [nI_clamp (Nat.lt_trans hj (kd_lt hk))]; exact hr) h
theorem px_aald26N {a N j r : Nat} (hd : dc Y.2.1 pc .aaload 1 pc') (hk : kd a = (26, N)) (ho : a < n) (hj : j < N) (hr : gR σ a j = some r)
    (h : PX l G Y R QF ex n k sl pc' lv (.ref r :: st) σ) : PX l G Y R QF ex n k sl pc lv (.int (nI j) :: .ref a :: st) σ := px_aald26 hd hk ho (vp_in_nI hj (kd_lt hk)) (by rw [nI_clamp (Nat.lt_trans hj (kd_lt hk))]; exact hr) h
theorem px_iastN {a N j : Nat} {v : Int32} (hd : dc Y.2.1 pc .iastore 1 pc') (hk : kd a = (20, N)) (ho : a < n) (hj : j < N)
    (h : PX l G Y R QF false n k sl pc' lv st (sI σ a j v)) : PX l G Y R QF false n k sl pc lv (.int v :: .int (nI j) :: .ref a :: st) σ := px_iast hd hk ho (vp_in_nI hj (kd_lt hk)) (by rw [nI_clamp (Nat.lt_trans hj (kd_lt hk))]; exact h)
theorem px_zastN {a N j : Nat} {v : Int32} (hd : dc Y.2.1 pc .bastore 1 pc') (hk : kd a = (21, N)) (ho : a < n) (hj : j < N) (hv : v = 0 ∨ v = 1)
    (h : PX l G Y R QF false n k sl pc' lv st (sI σ a j v)) : PX l G Y R QF false n k sl pc lv (.int v :: .int (nI j) :: .ref a :: st) σ := px_zast hd hk ho (vp_in_nI hj (kd_lt hk)) hv (by rw [nI_clamp (Nat.lt_trans hj (kd_lt hk))]; exact h)
theorem px_lastN {a N j : Nat} {v : Int64} (hd : dc Y.2.1 pc .lastore 1 pc') (hk : kd a = (22, N)) (ho : a < n) (hj : j < N)
    (h : PX l G Y R QF false n k sl pc' lv st (sL σ a j v)) : PX l G Y R QF false n k sl pc lv (.long v :: .int (nI j) :: .ref a :: st) σ := px_last hd hk ho (vp_in_nI hj (kd_lt hk)) (by rw [nI_clamp (Nat.lt_trans hj (kd_lt hk))]; exact h)
theorem px_dastN {a N j : Nat} {v : UInt64} (hd : dc Y.2.1 pc .dastore 1 pc') (hk : kd a = (23, N)) (ho : a < n) (hj : j < N)
    (h : PX l G Y R QF false n k sl pc' lv st (sD σ a j v)) : PX l G Y R QF false n k sl pc lv (.double v :: .int (nI j) :: .ref a :: st) σ := px_dast hd hk ho (vp_in_nI hj (kd_lt hk)) (by rw [nI_clamp (Nat.lt_trans hj (kd_lt hk))]; exact h)
theorem px_icmp_eqN {a b t : Nat} (hd : di Y.2.1 pc .eq pc' t) (ha : a < 2 ^ 31) (hb : b < 2 ^ 31) (h1 : a = b → PX l G Y R QF ex n k sl t lv st σ) (h2 : ¬ a = b → PX l G Y R QF ex n k sl pc' lv st σ) : PX l G Y R QF ex n k sl pc lv (.int (nI b) :: .int (nI a) :: st) σ := px_icmp_eq hd (fun q => h1 ((nI_eq ha hb).mp q)) (fun q => h2 (fun r => q ((nI_eq ha hb).mpr r)))
theorem px_icmp_neN {a b t : Nat} (hd : di Y.2.1 pc .ne pc' t) (ha : a < 2 ^ 31) (hb : b < 2 ^ 31) (h1 : ¬ a = b → PX l G Y R QF ex n k sl t lv st σ) (h2 : a = b → PX l G Y R QF ex n k sl pc' lv st σ) : PX l G Y R QF ex n k sl pc lv (.int (nI b) :: .int (nI a) :: st) σ := px_icmp_ne hd (fun q => h1 (fun r => q ((nI_eq ha hb).mpr r))) (fun q => h2 ((nI_eq ha hb).mp q))
theorem px_icmp_ltN {a b t : Nat} (hd : di Y.2.1 pc .lt pc' t) (ha : a < 2 ^ 31) (hb : b < 2 ^ 31) (h1 : a < b → PX l G Y R QF ex n k sl t lv st σ) (h2 : b ≤ a → PX l G Y R QF ex n k sl pc' lv st σ) : PX l G Y R QF ex n k sl pc lv (.int (nI b) :: .int (nI a) :: st) σ := px_icmp_lt hd (fun q => h1 ((nI_ltI ha hb).mp q)) (fun q => h2 (Nat.not_lt.mp (fun r => q ((nI_ltI ha hb).mpr r))))
theorem px_icmp_geN {a b t : Nat} (hd : di Y.2.1 pc .ge pc' t) (ha : a < 2 ^ 31) (hb : b < 2 ^ 31) (h1 : b ≤ a → PX l G Y R QF ex n k sl t lv st σ) (h2 : a < b → PX l G Y R QF ex n k sl pc' lv st σ) : PX l G Y R QF ex n k sl pc lv (.int (nI b) :: .int (nI a) :: st) σ := px_icmp_ge hd (fun q => h1 ((nI_leI hb ha).mp q)) (fun q => h2 (Nat.not_le.mp (fun r => q ((nI_leI hb ha).mpr r))))
theorem px_icmp_gtN {a b t : Nat} (hd : di Y.2.1 pc .gt pc' t) (ha : a < 2 ^ 31) (hb : b < 2 ^ 31) (h1 : b < a → PX l G Y R QF ex n k sl t lv st σ) (h2 : a ≤ b → PX l G Y R QF ex n k sl pc' lv st σ) : PX l G Y R QF ex n k sl pc lv (.int (nI b) :: .int (nI a) :: st) σ := px_icmp_gt hd (fun q => h1 ((nI_ltI hb ha).mp q)) (fun q => h2 (Nat.not_lt.mp (fun r => q ((nI_ltI hb ha).mpr r))))
theorem px_icmp_leN {a b t : Nat} (hd : di Y.2.1 pc .le pc' t) (ha : a < 2 ^ 31) (hb : b < 2 ^ 31) (h1 : a ≤ b → PX l G Y R QF ex n k sl t lv st σ) (h2 : b < a → PX l G Y R QF ex n k sl pc' lv st σ) : PX l G Y R QF ex n k sl pc lv (.int (nI b) :: .int (nI a) :: st) σ := px_icmp_le hd (fun q => h1 ((nI_leI ha hb).mp q)) (fun q => h2 (Nat.not_le.mp (fun r => q ((nI_leI ha hb).mpr r))))
theorem px_if_eqN {a t : Nat} (hd : dz Y.2.1 pc .eq pc' t) (ha : a < 2 ^ 31) (h1 : a = 0 → PX l G Y R QF ex n k sl t lv st σ) (h2 : ¬ a = 0 → PX l G Y R QF ex n k sl pc' lv st σ) : PX l G Y R QF ex n k sl pc lv (.int (nI a) :: st) σ := px_if_eq hd (fun q => h1 ((nI_eq ha (by decide : (0 : Nat) < 2 ^ 31)).mp q)) (fun q => h2 (fun r => q ((nI_eq ha (by decide : (0 : Nat) < 2 ^ 31)).mpr r)))
theorem px_if_neN {a t : Nat} (hd : dz Y.2.1 pc .ne pc' t) (ha : a < 2 ^ 31) (h1 : ¬ a = 0 → PX l G Y R QF ex n k sl t lv st σ) (h2 : a = 0 → PX l G Y R QF ex n k sl pc' lv st σ) : PX l G Y R QF ex n k sl pc lv (.int (nI a) :: st) σ := px_if_ne hd (fun q => h1 (fun r => q ((nI_eq ha (by decide : (0 : Nat) < 2 ^ 31)).mpr r))) (fun q => h2 ((nI_eq ha (by decide : (0 : Nat) < 2 ^ 31)).mp q))
theorem px_if_ltN {a t : Nat} (hd : dz Y.2.1 pc .lt pc' t) (ha : a < 2 ^ 31) (h1 : a < 0 → PX l G Y R QF ex n k sl t lv st σ) (h2 : 0 ≤ a → PX l G Y R QF ex n k sl pc' lv st σ) : PX l G Y R QF ex n k sl pc lv (.int (nI a) :: st) σ := px_if_lt hd (fun q => h1 ((nI_ltI ha (by decide : (0 : Nat) < 2 ^ 31)).mp q)) (fun q => h2 (Nat.zero_le _))
theorem px_if_geN {a t : Nat} (hd : dz Y.2.1 pc .ge pc' t) (ha : a < 2 ^ 31) (h1 : 0 ≤ a → PX l G Y R QF ex n k sl t lv st σ) (h2 : a < 0 → PX l G Y R QF ex n k sl pc' lv st σ) : PX l G Y R QF ex n k sl pc lv (.int (nI a) :: st) σ := px_if_ge hd (fun q => h1 (Nat.zero_le _)) (fun q => h2 (absurd ((nI_leI (by decide : (0 : Nat) < 2 ^ 31) ha).mpr (Nat.zero_le _)) q))
theorem px_if_gtN {a t : Nat} (hd : dz Y.2.1 pc .gt pc' t) (ha : a < 2 ^ 31) (h1 : 0 < a → PX l G Y R QF ex n k sl t lv st σ) (h2 : a ≤ 0 → PX l G Y R QF ex n k sl pc' lv st σ) : PX l G Y R QF ex n k sl pc lv (.int (nI a) :: st) σ := px_if_gt hd (fun q => h1 ((nI_ltI (by decide : (0 : Nat) < 2 ^ 31) ha).mp q)) (fun q => h2 (Nat.not_lt.mp (fun r => q ((nI_ltI (by decide : (0 : Nat) < 2 ^ 31) ha).mpr r))))
theorem px_if_leN {a t : Nat} (hd : dz Y.2.1 pc .le pc' t) (ha : a < 2 ^ 31) (h1 : a ≤ 0 → PX l G Y R QF ex n k sl t lv st σ) (h2 : 0 < a → PX l G Y R QF ex n k sl pc' lv st σ) : PX l G Y R QF ex n k sl pc lv (.int (nI a) :: st) σ := px_if_le hd (fun q => h1 ((nI_leI ha (by decide : (0 : Nat) < 2 ^ 31)).mp q)) (fun q => h2 (Nat.not_le.mp (fun r => q ((nI_leI ha (by decide : (0 : Nat) < 2 ^ 31)).mpr r))))
end PXM
/-- an exact contract: the method comes to this answer and this state -/
def CT (l : Launch) (G : fr_G) (Y : fr_Y) (R : Room) (As : List Value) (σ : fr_S) (r : Option Value) (σ' : fr_S) : Prop :=
  ∀ Post : Option Value → fr_S → Prop, Post r σ' → PX l G Y R (QR G false 742 0 0 Post) false 742 0 0 0 (lv_args 0 As) [] σ
def NP (Y : fr_Y) (a : Nat) : Prop := (parseMethodDescriptor Y.1.desc).map (fun d => d.parameters.length) = some a
theorem zz_0 {a b : Nat} : 0 ≤ a ∧ 0 ≤ b := ⟨Nat.zero_le _, Nat.zero_le _⟩
section PXK
variable {l : Launch} {G : fr_G} {Y : fr_Y} {R : Room} {QF : List Frame → Array Value → State → State → Prop} {k sl pc pc' : Nat} {lv lv' : List (Nat × Value)} {st : List Value} {σ σ' : fr_S}
theorem px_cV {Yc : fr_Y} {Rc : Room} {i ci b z a : Nat} {As : List Value} {r : Option Value} (hd : dc Y.2.1 pc (.invokevirtual i) 3 pc') (hlk : MK Y.1.cls i Yc.1) (hm : MV Yc) (hnp : NP Yc a) (hcl : ∃ T, cl_all[ci]? = some (Yc.1.cls, T, nfc ci)) (hci : ci < 10) (hk : kd b = (ci, z)) (ho : b < 742)
    (ha : As.length = a) (hlen : ((.ref b :: As).map fun v : Value => v.category).sum ≤ Yc.2.2.1) (hst : (st.map fun v : Value => v.category).sum ≤ 8) (hR : RK R Rc Yc 0 0) {stk : List Value} (hstk : stk = As.reverse ++ .ref b :: st)
    (hc : CT l G Yc Rc (.ref b :: As) σ r σ') (hf : k ≤ R.cells ∧ sl ≤ R.slots) (kk : PX l G Y R QF false 742 k sl pc' lv (r.toList ++ st) σ') : PX l G Y R QF false 742 k sl pc lv stk σ :=
  px_callV (Post := fun r2 σ2 => r2 = r ∧ σ2 = σ') hd hlk hm hcl hci hk ho (ha ▸ hnp) hlen hst hR hf hstk (hc _ ⟨rfl, rfl⟩) (by rintro r2 σ2 ⟨rfl, rfl⟩; exact kk)
theorem px_cS {Yc : fr_Y} {Rc : Room} {i a : Nat} {As : List Value} {r : Option Value} (hd : dc Y.2.1 pc (.invokestatic i) 3 pc') (hlk : MK Y.1.cls i Yc.1) (hm : MS Yc) (hnp : NP Yc a)
    (ha : As.length = a) (hlen : (As.map fun v : Value => v.category).sum ≤ Yc.2.2.1) (hst : (st.map fun v : Value => v.category).sum ≤ 8) (hR : RK R Rc Yc 0 0) {stk : List Value} (hstk : stk = As.reverse ++ st)
    (hc : CT l G Yc Rc As σ r σ') (hf : k ≤ R.cells ∧ sl ≤ R.slots) (kk : PX l G Y R QF false 742 k sl pc' lv (r.toList ++ st) σ') : PX l G Y R QF false 742 k sl pc lv stk σ :=
  px_callS (Post := fun r2 σ2 => r2 = r ∧ σ2 = σ') hd hlk hm (ha ▸ hnp) hlen hst hR hf hstk (hc _ ⟨rfl, rfl⟩) (by rintro r2 σ2 ⟨rfl, rfl⟩; exact kk)
end PXK
