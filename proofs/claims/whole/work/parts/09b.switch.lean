/-! switches over a small whole number, by groups of keys -/
section PXW
variable {l : Launch} {G : fr_G} {Y : fr_Y} {R : Room} {QF : List Frame → Array Value → State → State → Prop} {ex : Bool} {n k sl pc pc' : Nat} {lv : List (Nat × Value)} {st : List Value} {σ : fr_S}
theorem px_tabG {dflt lo hi off : Int} {offs : Array Int} {len t e : Nat} (keys : List Nat) (hd : dc Y.2.1 pc (.tableswitch dflt lo hi offs) len pc') (he : e < 2 ^ 31) (hx : e ∈ keys) (hall : ∀ j ∈ keys, lo ≤ (j : Int) ∧ (j : Int) ≤ hi ∧ offs[((j : Int) - lo).toNat]? = some off) (ht : (pc : Int) + off = (t : Int))
    (h : PX l G Y R QF ex n k sl t lv st σ) : PX l G Y R QF ex n k sl pc lv (.int (nI e) :: st) σ := by
  obtain ⟨h1, h2, h3⟩ := hall e hx
  exact px_tabIn hd (by rw [nI_toInt he]; omega) (by rw [nI_toInt he]; omega) (by rw [nI_toInt he]; exact h3) ht h
theorem px_tabD {dflt lo hi : Int} {offs : Array Int} {len t e : Nat} (keys : List Nat) (hd : dc Y.2.1 pc (.tableswitch dflt lo hi offs) len pc') (he : e < 2 ^ 31) (hx : e ∉ keys) (N b : Nat) (hN : lo = (b : Int) ∧ hi = (b : Int) + N) (hall : ∀ j, j < N + 1 → b + j ∈ keys ∨ offs[j]? = some dflt) (ht : (pc : Int) + dflt = (t : Int))
    (h : PX l G Y R QF ex n k sl t lv st σ) : PX l G Y R QF ex n k sl pc lv (.int (nI e) :: st) σ := by
  obtain ⟨rfl, rfl⟩ := hN
  by_cases h1 : e < b
  · exact px_tabOut hd (Or.inl (by rw [nI_toInt he]; omega)) ht h
  · by_cases h2 : b + N < e
    · exact px_tabOut hd (Or.inr (by rw [nI_toInt he]; omega)) ht h
    · have h3 := hall (e - b) (by omega)
      rw [show b + (e - b) = e by omega] at h3
      rcases h3 with h3 | h3
      · exact absurd h3 hx
      · exact px_tabIn hd (by rw [nI_toInt he]; omega) (by rw [nI_toInt he]; omega) (by rw [nI_toInt he, show ((e : Int) - (b : Int)).toNat = e - b by omega]; exact h3) ht h
theorem px_lookG {dflt off : Int} {ps : Array (Int × Int)} {len t e : Nat} (keys : List Nat) (hd : dc Y.2.1 pc (.lookupswitch dflt ps) len pc') (he : e < 2 ^ 31) (hx : e ∈ keys) (hp : (ps.toList.zip (ps.toList.drop 1)).all (fun (a, next) => a.1 < next.1) = true) (hall : ∀ j ∈ keys, Op.lookupswitch.offset ps.toList dflt (j : Int) = off) (ht : (pc : Int) + off = (t : Int))
    (h : PX l G Y R QF ex n k sl t lv st σ) : PX l G Y R QF ex n k sl pc lv (.int (nI e) :: st) σ :=
  px_lookup hd hp (by rw [nI_toInt he]; exact hall e hx) ht h
theorem lo_none {dflt : Int} : ∀ (ps : List (Int × Int)) (i : Int), (∀ q ∈ ps, q.1 ≠ i) → Op.lookupswitch.offset ps dflt i = dflt := by
  intro ps i h
  induction ps with
  | nil => simp [Op.lookupswitch.offset]
  | cons q t ih =>
    have h1 := h q List.mem_cons_self
    have h2 := ih (fun x hx => h x (List.mem_cons_of_mem _ hx))
    simp only [Op.lookupswitch.offset] at h2 ⊢
    rw [if_neg h1]
    exact h2
theorem px_lookD {dflt : Int} {ps : Array (Int × Int)} {len t e : Nat} (keys : List Nat) (hd : dc Y.2.1 pc (.lookupswitch dflt ps) len pc') (he : e < 2 ^ 31) (hx : e ∉ keys) (hp : (ps.toList.zip (ps.toList.drop 1)).all (fun (a, next) => a.1 < next.1) = true) (hall : ps.toList.map (fun q => q.1) = keys.map (fun j : Nat => (j : Int))) (ht : (pc : Int) + dflt = (t : Int))
    (h : PX l G Y R QF ex n k sl t lv st σ) : PX l G Y R QF ex n k sl pc lv (.int (nI e) :: st) σ := by
  refine px_lookup hd hp ?_ ht h
  rw [nI_toInt he]
  apply lo_none
  intro q hq hqe
  have h1 : q.1 ∈ keys.map (fun j : Nat => (j : Int)) := by rw [← hall]; exact List.mem_map_of_mem hq
  obtain ⟨j, hj, hj2⟩ := List.mem_map.mp h1
  rw [hqe] at hj2
  have : j = e := by omega
  subst this
  exact hx hj
end PXW
/-! booleans -/
def b2i (b : Bool) : Int32 := if b then 1 else 0
theorem b2i_01 (b : Bool) : b2i b = 0 ∨ b2i b = 1 := by cases b <;> simp [b2i]
section PXB
variable {l : Launch} {G : fr_G} {Y : fr_Y} {R : Room} {QF : List Frame → Array Value → State → State → Prop} {ex : Bool} {n k sl pc pc' : Nat} {lv : List (Nat × Value)} {st : List Value} {σ : fr_S}
theorem px_if_eqB {b : Bool} {t : Nat} (hd : dz Y.2.1 pc .eq pc' t) (h1 : b = false → PX l G Y R QF ex n k sl t lv st σ) (h2 : b = true → PX l G Y R QF ex n k sl pc' lv st σ) : PX l G Y R QF ex n k sl pc lv (.int (b2i b) :: st) σ :=
  px_if_eq hd (fun q => h1 (by cases b; rfl; cases q)) (fun q => h2 (by cases b; exact absurd rfl q; rfl))
theorem px_if_neB {b : Bool} {t : Nat} (hd : dz Y.2.1 pc .ne pc' t) (h1 : b = true → PX l G Y R QF ex n k sl t lv st σ) (h2 : b = false → PX l G Y R QF ex n k sl pc' lv st σ) : PX l G Y R QF ex n k sl pc lv (.int (b2i b) :: st) σ :=
  px_if_ne hd (fun q => h1 (by cases b; exact absurd rfl q; rfl)) (fun q => h2 (by cases b; rfl; cases q))
end PXB
/-- two bytes with their sign -/
def nmI (w : Nat) : Int32 := if 32767 < w then nI w - 65536 else nI w
theorem nmI_p {w : Nat} (h : w ≤ 32767) : nmI w = nI w := if_neg (Nat.not_lt.mpr h)
theorem nmI_toInt {w : Nat} (hw : w < 65536) : (nmI w).toInt = if 32767 < w then (w : Int) - 65536 else w := by
  unfold nmI
  split
  · exact pk_sub_toInt (b := 65536) (by omega) (by decide)
  · exact nI_toInt (by omega)
theorem nmI_n {w : Nat} (h : ¬ w ≤ 32767) (hw : w < 65536) : nmI w < 0 := by
  rw [Int32.lt_iff_toInt_lt, nmI_toInt hw, if_pos (by omega), Int32.toInt_zero]
  omega
theorem sh_l : ∀ n, n < 32 → ((nI n &&& 31).toBitVec.smod 32).toNat = n := by decide +kernel
section PXV
variable {l : Launch} {G : fr_G} {Y : fr_Y} {R : Room} {QF : List Frame → Array Value → State → State → Prop} {ex : Bool} {n k sl pc pc' : Nat} {lv : List (Nat × Value)} {st : List Value} {σ σ' : fr_S}
theorem px_ishrV {a w : Nat} (hd : dc Y.2.1 pc .ishr 1 pc') (ha : a < 2 ^ 31) (hw : w < 32) (h : PX l G Y R QF ex n k sl pc' lv (.int (nI (a / 2 ^ w)) :: st) σ) : PX l G Y R QF ex n k sl pc lv (.int (nI w) :: .int (nI a) :: st) σ := px_ishr hd (by rw [pk_shrN ha (nI w &&& 31) w (sh_l w hw)]; exact h)
end PXV
/-- a contract by what holds behind -/
def CR (l : Launch) (G : fr_G) (Y : fr_Y) (R : Room) (As : List Value) (σ : fr_S) (Q : Option Value → fr_S → Prop) : Prop :=
  ∀ Post : Option Value → fr_S → Prop, (∀ r σ', Q r σ' → Post r σ') → PX l G Y R (QR G false 742 0 0 Post) false 742 0 0 0 (lv_args 0 As) [] σ
section PXRR
variable {l : Launch} {G : fr_G} {Y : fr_Y} {R : Room} {QF : List Frame → Array Value → State → State → Prop} {k sl pc pc' : Nat} {lv lv' : List (Nat × Value)} {st : List Value} {σ σ' : fr_S}
theorem px_cVR {Yc : fr_Y} {Rc : Room} {i ci b z a : Nat} {As : List Value} {Q : Option Value → fr_S → Prop} (hd : dc Y.2.1 pc (.invokevirtual i) 3 pc') (hlk : MK Y.1.cls i Yc.1) (hm : MV Yc) (hnp : NP Yc a) (hcl : ∃ T, cl_all[ci]? = some (Yc.1.cls, T, nfc ci)) (hci : ci < 10) (hk : kd b = (ci, z)) (ho : b < 742)
    (ha : As.length = a) (hlen : ((.ref b :: As).map fun v : Value => v.category).sum ≤ Yc.2.2.1) (hst : (st.map fun v : Value => v.category).sum ≤ 8) (hR : RK R Rc Yc 0 0) {stk : List Value} (hstk : stk = As.reverse ++ .ref b :: st)
    (hc : CR l G Yc Rc (.ref b :: As) σ Q) (hf : k ≤ R.cells ∧ sl ≤ R.slots) (kk : ∀ r σ', Q r σ' → PX l G Y R QF false 742 k sl pc' lv (r.toList ++ st) σ') : PX l G Y R QF false 742 k sl pc lv stk σ :=
  px_callV (Post := Q) hd hlk hm hcl hci hk ho (ha ▸ hnp) hlen hst hR hf hstk (hc _ (fun _ _ q => q)) kk
theorem px_cSR {Yc : fr_Y} {Rc : Room} {i a : Nat} {As : List Value} {Q : Option Value → fr_S → Prop} (hd : dc Y.2.1 pc (.invokestatic i) 3 pc') (hlk : MK Y.1.cls i Yc.1) (hm : MS Yc) (hnp : NP Yc a)
    (ha : As.length = a) (hlen : (As.map fun v : Value => v.category).sum ≤ Yc.2.2.1) (hst : (st.map fun v : Value => v.category).sum ≤ 8) (hR : RK R Rc Yc 0 0) {stk : List Value} (hstk : stk = As.reverse ++ st)
    (hc : CR l G Yc Rc As σ Q) (hf : k ≤ R.cells ∧ sl ≤ R.slots) (kk : ∀ r σ', Q r σ' → PX l G Y R QF false 742 k sl pc' lv (r.toList ++ st) σ') : PX l G Y R QF false 742 k sl pc lv stk σ :=
  px_callS (Post := Q) hd hlk hm (ha ▸ hnp) hlen hst hR hf hstk (hc _ (fun _ _ q => q)) kk
end PXRR
/-- two states agree but for the whole numbers of some cells -/
def Ag (S : List Nat) (σ σ' : fr_S) : Prop := (∀ o, o ∉ S → ∀ k, gI σ' o k = gI σ o k) ∧ σ'.2 = σ.2
theorem Ag.rf {S : List Nat} {σ : fr_S} : Ag S σ σ := ⟨fun _ _ _ => rfl, rfl⟩
theorem Ag.tr {S : List Nat} {a b c : fr_S} (h : Ag S a b) (h2 : Ag S b c) : Ag S a c := ⟨fun o ho k => (h2.1 o ho k).trans (h.1 o ho k), h2.2.trans h.2⟩
theorem Ag.mono {S T : List Nat} {a b : fr_S} (h : Ag S a b) (hs : ∀ o ∈ S, o ∈ T) : Ag T a b := ⟨fun o ho k => h.1 o (fun q => ho (hs o q)) k, h.2⟩
theorem ag_sI {S : List Nat} {a b : fr_S} (h : Ag S a b) {o k : Nat} {v : Int32} (ho : o ∈ S) : Ag S a (sI b o k v) := by
  refine ⟨fun x hx j => ?_, h.2⟩
  rw [← h.1 x hx j]
  have : x ≠ o := fun e => hx (e ▸ ho)
  simp [gI, sI, u_2, this]
theorem gI_s {σ : fr_S} {o k : Nat} {v : Int32} : gI (sI σ o k v) o k = v := by simp [gI, sI, u_2]
theorem gI_n {σ : fr_S} {o k o' k' : Nat} {v : Int32} (h : o' ≠ o ∨ k' ≠ k) : gI (sI σ o k v) o' k' = gI σ o' k' := by
  rcases h with h | h <;> simp [gI, sI, u_2, h]
