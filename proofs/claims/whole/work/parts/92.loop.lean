/-! the law: its loop -/
section LAW
variable {l : Launch} {G : fr_G} {p : Program} {e : Env} {s : State} {m : MethodId} {below : List Frame} {meth : Method} {c : Code} {b L : Nat} {xs : Nat → Int32} {H : Heap} {locs : List Loc} {ls : Array Slot} {lv : List (Nat × Value)} {σ : fr_S} {cells slots pc i : Nat} {Q : State → Prop}
def lw_T (k : Nat) : Nat := ([116, 141, 185, 229, 242, 267, 316, 385, 432, 468, 524, 537, 551, 592, 605, 630] : List Nat).getD k 0
/-- each of the sixteen calls -/
theorem lc_all (hfl : l.flags = pinnedFlags ++ [noTraceFlag]) (C : LC G p s m meth c b L xs) (hi : i + 4 ≤ L) (hL : L ≤ 2048) (hr : cells + 1 ≤ room_1.cells ∧ slots + 6 ≤ room_1.slots) (fin : GO l G p e s m below meth c b i (cells + 1) (slots + 6) Q 655) : ∀ k, k < 16 → GO l G p e s m below meth c b i cells slots Q (lw_T k) := by
  intro k hk
  have hc : k = 0 ∨ k = 1 ∨ k = 2 ∨ k = 3 ∨ k = 4 ∨ k = 5 ∨ k = 6 ∨ k = 7 ∨ k = 8 ∨ k = 9 ∨ k = 10 ∨ k = 11 ∨ k = 12 ∨ k = 13 ∨ k = 14 ∨ k = 15 := by omega
  rcases hc with rfl | rfl | rfl | rfl | rfl | rfl | rfl | rfl | rfl | rfl | rfl | rfl | rfl | rfl | rfl | rfl
  · exact lc_116 C hi hL hr fin
  · exact lc_141 hfl C hi hL hr fin
  · exact lc_185 hfl C hi hL hr fin
  · exact lc_229 C hi hL hr fin
  · exact lc_242 C hi hL hr fin
  · exact lc_267 C hi hL hr fin
  · exact lc_316 C hi hL hr fin
  · exact lc_385 C hi hL hr fin
  · exact lc_432 hfl C hi hL hr fin
  · exact lc_468 hfl C hi hL hr fin
  · exact lc_524 C hi hL hr fin
  · exact lc_537 C hi hL hr fin
  · exact lc_551 C hi hL hr fin
  · exact lc_592 C hi hL hr fin
  · exact lc_605 C hi hL hr fin
  · exact lc_630 C hi hL hr fin
theorem and15 (x : Int32) : ¬ (x &&& 15).toInt < 0 ∧ (x &&& 15).toInt.toNat < 16 := by
  have h : (x &&& 15).toBitVec.toNat < 16 := by
    show (x.toBitVec &&& 15#32).toNat < 16
    rw [BitVec.toNat_and]
    exact Nat.lt_of_le_of_lt Nat.and_le_right (by decide)
  have e : (x &&& 15).toInt = ((x &&& 15).toBitVec.toNat : Int) := by
    show (x &&& 15).toBitVec.toInt = _
    rw [BitVec.toInt_eq_toNat_of_lt (by omega)]
  rw [e]
  omega
def lw_O : Array Int := #[77, 102, 146, 190, 203, 228, 277, 346, 393, 429, 485, 498, 512, 553, 566, 591]
theorem lw_OT : ∀ k, k < 16 → ∃ off, lw_O[k]? = some off ∧ (39 : Int) + off = (lw_T k : Int) := by
  intro k hk
  have hc : k = 0 ∨ k = 1 ∨ k = 2 ∨ k = 3 ∨ k = 4 ∨ k = 5 ∨ k = 6 ∨ k = 7 ∨ k = 8 ∨ k = 9 ∨ k = 10 ∨ k = 11 ∨ k = 12 ∨ k = 13 ∨ k = 14 ∨ k = 15 := by omega
  rcases hc with rfl | rfl | rfl | rfl | rfl | rfl | rfl | rfl | rfl | rfl | rfl | rfl | rfl | rfl | rfl | rfl <;> exact ⟨_, rfl, rfl⟩
/-- the loop comes to its end, and to 661 -/
theorem lw_loop (hfl : l.flags = pinnedFlags ++ [noTraceFlag]) (C : LC G p s m meth c b L xs) (hL : L ≤ 2048) (hrm : 742 + 4096 ≤ room_1.cells ∧ 20000 + 6 * 4096 ≤ room_1.slots) (fin : ∀ (H : Heap) (locs : List Loc) (ls : Array Slot), va_S (AA (fr_q G)) s.heap H locs → W p l e room_1 s m #[Value.ref b] below meth c H locs (742 + 2048) (20000 + 6 * 2048) Q (F0 m 661 ls [])) : ∀ n i, i ≤ L → L + 1 ≤ i + n → GO l G p e s m below meth c b i (742 + i) (20000 + 6 * i) Q 23 := by
  intro n
  induction n with
  | zero =>
    intro i h1 h2
    exact absurd h2 (by omega)
  | succ n ih =>
    intro i h1 h2 H locs ls σ hl hG hI
    have hx := C.1
    have hb := C.2.1
    obtain ⟨-, -, -, -, -, -, -, -, hX, hbl, hq⟩ := id C
    have h0 : ls[0]? = some (.val (.ref b)) := lv_at hl 0 rfl
    have h4 : ls[4]? = some (.val (.int (nI i))) := lv_at hl 4 rfl
    refine lv_iload hx hb dl_23 h4 ?_
    refine lv_aload_n hx hb dl_25 rfl h0 ?_
    refine va_slen hx hb hX hbl (fun z => by have : fr_q G ≤ b := z; omega) hG.2.1 dl_26 ?_
    refine lv_iconst (v := nI 4) hx hb dl_27 rfl ?_
    refine lv_isub hx hb dl_28 ?_
    have tL : (nI L - nI 4).toInt = (L : Int) - 4 := by
      rw [Int32.toInt_sub, nI_toInt (by omega), nI_toInt (by decide)]
      exact Int.bmod_eq_of_le (by omega) (by omega)
    refine lv_icmp_gt (tgt := 661) hx hb dl_29 (by decide) (fun _ => ?_) (fun z => ?_)
    · exact W.widen (by omega) (by omega) (fin H locs ls hG.2.1)
    · have hi : i + 4 ≤ L := by
        rcases Nat.lt_or_ge L (i + 4) with q | q
        · refine absurd ?_ z
          show nI L - nI 4 < nI i
          rw [Int32.lt_iff_toInt_lt, tL, nI_toInt (by omega)]
          omega
        · exact q
      refine w_el0 C h0 h4 hG.2.1 hi hL dl_32 dl_33 dl_35 ?_
      refine lv_bipush (v := 15) hx hb dl_36 (by decide) ?_
      refine lv_iand hx hb dl_38 ?_
      obtain ⟨a1, a2⟩ := and15 (xs i)
      obtain ⟨off, o1, o2⟩ := lw_OT _ a2
      refine lv_tableIn (off := off) (tgt := lw_T (xs i &&& 15).toInt.toNat) hx hb dl_39 a1 (by omega) (by rw [Int.sub_zero]; exact o1) o2 ?_
      refine lc_all hfl C hi hL ⟨by omega, by omega⟩ ?_ _ a2 H locs ls σ hl hG hI
      intro H2 L2 ls2 σ2 hl2 hG2 hI2
      refine lv_iinc (k := 4) (v := nI (i + 4)) (lv' := [(4, .int (nI (i + 4))), (0, .ref b), (1, .ref (fr_q G + 0)), (2, .ref (fr_q G + 717)), (3, .ref (fr_q G + 741))]) hx hb dl_655 hl2 rfl (nI_add i 4) (by decide) rfl (fun ls3 hl3 => ?_)
      refine lv_goto (tgt := 23) hx hb dl_658 (by decide) ?_
      exact W.widen (by omega) (by omega) (ih (i + 4) hi (by omega) H2 L2 ls3 σ2 (lv_sub hl3 [1, 2, 3, 4, 0] rfl) hG2 hI2)
end LAW

