/-! switches over a small whole number, by groups of keys -/
section PXW
variable {l : Launch} {G : fr_G} {Y : fr_Y} {R : Room} {QF : List Frame → Array Value → State → State → Prop} {ex : Bool} {n k sl pc pc' : Nat} {lv : List (Nat × Value)} {st : List Value} {σ : fr_S}
theorem px_tabG {dflt lo hi off : Int} {offs : Array Int} {len t e : Nat} (keys : List Nat) (hd : dc Y.2.1 pc (.tableswitch dflt lo hi offs) len pc') (he : e < 2 ^ 31) (hx : e ∈ keys) (hall : ∀ j ∈ keys, lo ≤ (j : Int) ∧ (j : Int) ≤ hi ∧ offs[((j : Int) - lo).toNat]? = some off) (ht : (pc : Int) + off = (t : Int))
    (h : PX l G Y R QF ex n k sl t lv st σ) : PX l G Y R QF ex n k sl pc lv (.int (nI e) :: st) σ := by
  obtain ⟨h1, h2, h3⟩ := hall e hx
  exact px_tabIn hd (by rw [nI_toInt he]; omega) (by rw [nI_toInt he]; omega) (by rw [nI_toInt he]; exact h3) ht h
theorem px_tabD {dflt lo hi : Int} {offs : Array Int} {len t e : Nat} (keys : List Nat) (hd : dc Y.2.1 pc (.tableswitch dflt lo hi offs) len pc') (he : e < 2 ^ 31) (hx : e ∉ keys) (N b : Nat) (hN : lo = (b : Int) ∧ hi = (b : Int) + N) (hall : ∀ j, j < N + 1 → b + j ∈ keys ∨ offs[j]? = some dflt) (ht : (pc : Int) + dflt = (t : Int))
    (h : PX l G Y R QF ex n k sl t lv st σ) : PX l G Y R QF ex n k sl pc lv (.int (nI e) :: st) σ := by
  obtain ⟨rfl, rfl⟩ := hN
  by_cases h1 : e < b
  · exact px_tabOut hd (Or.inl (by rw [nI_toInt he]; omega)) ht h
  · by_cases h2 : b + N < e
    · exact px_tabOut hd (Or.inr (by rw [nI_toInt he]; omega)) ht h
    · have h3 := hall (e - b) (by omega)
      rw [show b + (e - b) = e by omega] at h3
      rcases h3 with h3 | h3
      · exact absurd h3 hx
      · exact px_tabIn hd (by rw [nI_toInt he]; omega) (by rw [nI_toInt he]; omega) (by rw [nI_toInt he, show ((e : Int) - (b : Int)).toNat = e - b by omega]; exact h3) ht h
theorem px_lookG {dflt off : Int} {ps : Array (Int × Int)} {len t e : Nat} (keys : List Nat) (hd : dc Y.2.1 pc (.lookupswitch dflt ps) len pc') (he : e < 2 ^ 31) (hx : e ∈ keys) (hp : (ps.toList.zip (ps.toList.drop 1)).all (fun (a, next) => a.1 < next.1) = true) (hall : ∀ j ∈ keys, Op.lookupswitch.offset ps.toList dflt (j : Int) = off) (ht : (pc : Int) + off = (t : Int))
    (h : PX l G Y R QF ex n k sl t lv st σ) : PX l G Y R QF ex n k sl pc lv (.int (nI e) :: st) σ :=
  px_lookup hd hp (by rw [nI_toInt he]; exact hall e hx) ht h
theorem lo_none {dflt : Int} : ∀ (ps : List (Int × Int)) (i : Int), (∀ q ∈ ps, q.1 ≠ i) → Op.lookupswitch.offset ps dflt i = dflt := by
  intro ps i h
  induction ps with
  | nil => simp [Op.lookupswitch.offset]
  | cons q t ih =>
    have h1 := h q List.mem_cons_self
    have h2 := ih (fun x hx => h x (List.mem_cons_of_mem _ hx))
    simp only [Op.lookupswitch.offset] at h2 ⊢
    rw [if_neg h1]
    exact h2
theorem px_lookD {dflt : Int} {ps : Array (Int × Int)} {len t e : Nat} (keys : List Nat) (hd : dc Y.2.1 pc (.lookupswitch dflt ps) len pc') (he : e < 2 ^ 31) (hx : e ∉ keys) (hp : (ps.toList.zip (ps.toList.drop 1)).all (fun (a, next) => a.1 < next.1) = true) (hall : ps.toList.map (fun q => q.1) = keys.map (fun j : Nat => (j : Int))) (ht : (pc : Int) + dflt = (t : Int))
    (h : PX l G Y R QF ex n k sl t lv st σ) : PX l G Y R QF ex n k sl pc lv (.int (nI e) :: st) σ := by
  refine px_lookup hd hp ?_ ht h
  rw [nI_toInt he]
  apply lo_none
  intro q hq hqe
  have h1 : q.1 ∈ keys.map (fun j : Nat => (j : Int)) := by rw [← hall]; exact List.mem_map_of_mem hq
  obtain ⟨j, hj, hj2⟩ := List.mem_map.mp h1
  rw [hqe] at hj2
  have : j = e := by omega
  subst this
  exact hx hj
end PXW
