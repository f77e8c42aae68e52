/-! the law: the cases that may throw, and the real result -/
section LAW
variable {l : Launch} {G : fr_G} {p : Program} {e : Env} {s : State} {m : MethodId} {below : List Frame} {meth : Method} {c : Code} {b L : Nat} {xs : Nat → Int32} {H : Heap} {locs : List Loc} {ls : Array Slot} {lv : List (Nat × Value)} {σ : fr_S} {cells slots pc i : Nat} {Q : State → Prop}
theorem pair_real2 (h : INV σ) : ∃ v : UInt64, CT l G yy_V_real rm_V_real [.ref 0] σ (some (.double v)) σ ∧ CT l G yy_Mo_real rm_Mo_real [.ref 717] σ (some (.double v)) (sI σ 717 0 0) ∧ INV (sI σ 717 0 0) := by
  obtain ⟨q, b, n, pl, Fr, F, a, A, B, hK, hR, hE, hB, hA⟩ := id h
  refine ⟨rlA A, ?_, m_real hR, q, b, n, pl, Fr, F, a, A, B, hK.agc (AgC.rf.i (by decide)), hR.c, hE, hB, hA⟩
  have := k_realV (l := l) (G := G) hK.2.1 hK.2.2.2.2.2.2.2.2.2 hB.b3
  rwa [(vl_e hB.bm).2] at this

theorem lc_551 (C : LC G p s m meth c b L xs) (hi : i + 4 ≤ L) (hL : L ≤ 2048) (hr : cells + 1 ≤ room_1.cells ∧ slots + 6 ≤ room_1.slots) (fin : GO l G p e s m below meth c b i (cells + 1) (slots + 6) Q 655) : GO l G p e s m below meth c b i cells slots Q 551 := by
  intro H locs ls σ hl hG hI
  have hx := C.1
  have hb := C.2.1
  have hown := C.2.2.2.1
  have hts := C.2.2.2.2.1
  have h0 : ls[0]? = some (.val (.ref b)) := lv_at hl 0 rfl
  have h1 : ls[1]? = some (.val (.ref (fr_q G + 0))) := lv_at hl 1 rfl
  have h2 : ls[2]? = some (.val (.ref (fr_q G + 717))) := lv_at hl 2 rfl
  have h3 : ls[3]? = some (.val (.ref (fr_q G + 741))) := lv_at hl 3 rfl
  have h4 : ls[4]? = some (.val (.int (nI i))) := lv_at hl 4 rfl
  have hr0 : cells ≤ room_1.cells ∧ slots ≤ room_1.slots := ⟨by omega, by omega⟩
  obtain ⟨v, k1, k2, k3⟩ := pair_real2 (l := l) (G := G) hI
  refine lv_aload_n hx hb dl_551 rfl h1 ?_
  refine w_cp (As := []) (st := []) cp_552 C hl hG hr0 (Nat.le_of_ble_eq_true rfl) (Nat.le_of_ble_eq_true rfl) (ce_ct k1) fun r1 σ1 H1 L1 z1 hG1 => ?_
  obtain ⟨rfl, rfl⟩ := z1
  refine lv_dstore (x := v) (lv' := (5, .double v) :: LV G b i) hx hb dl_555 hl (by decide) rfl (fun ls hl => ?_)
  refine lv_aload_n hx hb dl_557 rfl (lv_at hl 3 rfl) ?_
  refine w_cp (As := []) (st := []) cp_558 C hl hG1 hr0 (Nat.le_of_ble_eq_true rfl) (Nat.le_of_ble_eq_true rfl) (ce_ct k2) fun r2 σ2 H2 L2 z2 hG2 => ?_
  obtain ⟨rfl, rfl⟩ := z2
  refine lv_dstore (x := v) (lv' := (7, .double v) :: (5, .double v) :: LV G b i) hx hb dl_561 hl (by decide) rfl (fun ls hl => ?_)
  have fn : W p l e room_1 s m #[Value.ref b] below meth c H2 L2 cells slots Q (F0 m 589 ls []) := by
    refine lv_goto (tgt := 655) hx hb dl_589 (by decide) ?_
    exact W.widen (Nat.le_succ _) (Nat.le_add_right _ _) (fin _ _ _ _ (LV.dr (LV.dr hl)) hG2 k3)
  refine lv_dload hx hb dl_563 (lv_at hl 1 rfl) ?_
  refine lv_dload hx hb dl_565 (lv_at hl 0 rfl) ?_
  refine lv_dcmp hx hb dl_567 ?_
  refine lv_if_eq (tgt := 589) hx hb dl_568 (by decide) (fun _ => fn) (fun z => ?_)
  refine lv_dload hx hb dl_571 (lv_at hl 1 rfl) ?_
  refine lv_dload hx hb dl_573 (lv_at hl 1 rfl) ?_
  refine lv_dcmp hx hb dl_575 ?_
  refine lv_if_eq (tgt := 587) hx hb dl_576 (by decide) (fun y => absurd y z) (fun _ => ?_)
  refine lv_dload hx hb dl_579 (lv_at hl 0 rfl) ?_
  refine lv_dload hx hb dl_581 (lv_at hl 0 rfl) ?_
  refine lv_dcmp hx hb dl_583 ?_
  exact lv_if_ne (tgt := 589) hx hb dl_584 (by decide) (fun _ => fn) (fun y => absurd z (fun w => w y))
theorem lc_141 (hfl : l.flags = pinnedFlags ++ [noTraceFlag]) (C : LC G p s m meth c b L xs) (hi : i + 4 ≤ L) (hL : L ≤ 2048) (hr : cells + 1 ≤ room_1.cells ∧ slots + 6 ≤ room_1.slots) (fin : GO l G p e s m below meth c b i (cells + 1) (slots + 6) Q 655) : GO l G p e s m below meth c b i cells slots Q 141 := by
  intro H locs ls σ hl hG hI
  have hx := C.1
  have hb := C.2.1
  have hown := C.2.2.2.1
  have hts := C.2.2.2.2.1
  have h0 : ls[0]? = some (.val (.ref b)) := lv_at hl 0 rfl
  have h1 : ls[1]? = some (.val (.ref (fr_q G + 0))) := lv_at hl 1 rfl
  have h2 : ls[2]? = some (.val (.ref (fr_q G + 717))) := lv_at hl 2 rfl
  have h3 : ls[3]? = some (.val (.ref (fr_q G + 741))) := lv_at hl 3 rfl
  have h4 : ls[4]? = some (.val (.int (nI i))) := lv_at hl 4 rfl
  have hr0 : cells ≤ room_1.cells ∧ slots ≤ room_1.slots := ⟨by omega, by omega⟩
  obtain ⟨PH, hp, k1⟩ := trip_seal (l := l) (G := G) hfl hI
  refine lv_aload_n hx hb dl_141 rfl h1 ?_
  refine lv_aload_n hx hb dl_142 rfl h3 ?_
  refine w_help (As := [.ref 0, .ref 741]) (st := []) C hl hG dl_143 (al_in 506 (by decide +kernel) rfl) cw_seal (al_in 507 (by decide +kernel) rfl) rfl (al_in 73 (by decide +kernel) rfl) (by show NP yy_Lw_seal 2; unfold NP; decide +kernel) (Nat.le_of_ble_eq_true rfl) (Nat.le_of_ble_eq_true rfl) (Nat.le_of_ble_eq_true rfl) hr hp fun k σ1 H1 L1 z1 hG1 => ?_
  obtain ⟨PR2, hc2, k2⟩ := k1 k σ1 z1
  refine lv_istore (lv' := (5, .int k) :: LV G b i) hx hb dl_146 hl (by decide) rfl (fun ls hl => ?_)
  have h0 : ls[0]? = some (.val (.ref b)) := lv_at hl 1 rfl
  have h2 : ls[2]? = some (.val (.ref (fr_q G + 717))) := lv_at hl 3 rfl
  have h4 : ls[4]? = some (.val (.int (nI i))) := lv_at hl 5 rfl
  refine lv_aload_n hx hb dl_148 rfl h2 ?_
  refine w_cp (As := []) (st := []) cp_149 C hl hG1 hr (Nat.le_of_ble_eq_true rfl) (Nat.le_of_ble_eq_true rfl) hc2 fun r2 σ2 H2 L2 z2 hG2 => ?_
  obtain ⟨v, rfl, e1, e2, hI2⟩ := k2 r2 σ2 z2
  refine lv_istore (x := v) (lv' := (6, .int v) :: (5, .int k) :: LV G b i) hx hb dl_152 hl (by decide) rfl (fun ls hl => ?_)
  refine lv_aload_n hx hb dl_154 rfl (lv_at hl 4 rfl) ?_
  refine w_cp (As := []) (st := []) cp_155 C hl hG2 hr (Nat.le_of_ble_eq_true rfl) (Nat.le_of_ble_eq_true rfl) (ce_ct m_thrown) fun r3 σ3 H3 L3 z3 hG3 => ?_
  obtain ⟨rfl, rfl⟩ := z3
  refine lv_iload hx hb dl_158 (lv_at hl 1 rfl) ?_
  refine lv_icmp_eq (x := gI σ3 717 0) (tgt := 165) hx hb dl_160 (by decide) (fun _ => ?_) (fun z => absurd e1 z)
  have fn : W p l e room_1 s m #[Value.ref b] below meth c H3 L3 (cells + 1) (slots + 6) Q (F0 m 182 ls []) := by
    refine lv_goto (tgt := 655) hx hb dl_182 (by decide) ?_
    exact fin _ _ _ _ (LV.dr (LV.dr hl)) hG3 hI2
  refine lv_iload hx hb dl_165 (lv_at hl 1 rfl) ?_
  refine lv_if_ne (tgt := 182) hx hb dl_167 (by decide) (fun _ => fn) (fun z => ?_)
  refine lv_aload_n hx hb dl_170 rfl (lv_at hl 5 rfl) ?_
  refine lv_iconst (v := 0) hx hb dl_171 rfl ?_
  refine w_out C hG3.1 dl_172 ?_
  refine lv_iload hx hb dl_173 (lv_at hl 0 rfl) ?_
  refine lv_i2l hx hb dl_175 rfl ?_
  rw [e2 z]
  refine W.lcmp hx hb dl_176 ?_
  rw [lg_rf]
  exact lv_if_eq (tgt := 182) hx hb dl_177 (by decide) (fun _ => fn) (fun z => absurd rfl z)
theorem lc_185 (hfl : l.flags = pinnedFlags ++ [noTraceFlag]) (C : LC G p s m meth c b L xs) (hi : i + 4 ≤ L) (hL : L ≤ 2048) (hr : cells + 1 ≤ room_1.cells ∧ slots + 6 ≤ room_1.slots) (fin : GO l G p e s m below meth c b i (cells + 1) (slots + 6) Q 655) : GO l G p e s m below meth c b i cells slots Q 185 := by
  intro H locs ls σ hl hG hI
  have hx := C.1
  have hb := C.2.1
  have hown := C.2.2.2.1
  have hts := C.2.2.2.2.1
  have h0 : ls[0]? = some (.val (.ref b)) := lv_at hl 0 rfl
  have h1 : ls[1]? = some (.val (.ref (fr_q G + 0))) := lv_at hl 1 rfl
  have h2 : ls[2]? = some (.val (.ref (fr_q G + 717))) := lv_at hl 2 rfl
  have h3 : ls[3]? = some (.val (.ref (fr_q G + 741))) := lv_at hl 3 rfl
  have h4 : ls[4]? = some (.val (.int (nI i))) := lv_at hl 4 rfl
  have hr0 : cells ≤ room_1.cells ∧ slots ≤ room_1.slots := ⟨by omega, by omega⟩
  obtain ⟨PH, hp, k1⟩ := trip_load (l := l) (G := G) hfl hI
  refine lv_aload_n hx hb dl_185 rfl h1 ?_
  refine lv_aload_n hx hb dl_186 rfl h3 ?_
  refine w_help (As := [.ref 0, .ref 741]) (st := []) C hl hG dl_187 (al_in 778 (by decide +kernel) rfl) cw_load (al_in 779 (by decide +kernel) rfl) rfl (al_in 73 (by decide +kernel) rfl) (by show NP yy_Lw_load 2; unfold NP; decide +kernel) (Nat.le_of_ble_eq_true rfl) (Nat.le_of_ble_eq_true rfl) (Nat.le_of_ble_eq_true rfl) hr hp fun k σ1 H1 L1 z1 hG1 => ?_
  obtain ⟨PR2, hc2, k2⟩ := k1 k σ1 z1
  refine lv_istore (lv' := (5, .int k) :: LV G b i) hx hb dl_190 hl (by decide) rfl (fun ls hl => ?_)
  have h0 : ls[0]? = some (.val (.ref b)) := lv_at hl 1 rfl
  have h2 : ls[2]? = some (.val (.ref (fr_q G + 717))) := lv_at hl 3 rfl
  have h4 : ls[4]? = some (.val (.int (nI i))) := lv_at hl 5 rfl
  refine lv_aload_n hx hb dl_192 rfl h2 ?_
  refine w_cp (As := []) (st := []) cp_193 C hl hG1 hr (Nat.le_of_ble_eq_true rfl) (Nat.le_of_ble_eq_true rfl) hc2 fun r2 σ2 H2 L2 z2 hG2 => ?_
  obtain ⟨v, rfl, e1, e2, hI2⟩ := k2 r2 σ2 z2
  refine lv_istore (x := v) (lv' := (6, .int v) :: (5, .int k) :: LV G b i) hx hb dl_196 hl (by decide) rfl (fun ls hl => ?_)
  refine lv_aload_n hx hb dl_198 rfl (lv_at hl 4 rfl) ?_
  refine w_cp (As := []) (st := []) cp_199 C hl hG2 hr (Nat.le_of_ble_eq_true rfl) (Nat.le_of_ble_eq_true rfl) (ce_ct m_thrown) fun r3 σ3 H3 L3 z3 hG3 => ?_
  obtain ⟨rfl, rfl⟩ := z3
  refine lv_iload hx hb dl_202 (lv_at hl 1 rfl) ?_
  refine lv_icmp_eq (x := gI σ3 717 0) (tgt := 209) hx hb dl_204 (by decide) (fun _ => ?_) (fun z => absurd e1 z)
  have fn : W p l e room_1 s m #[Value.ref b] below meth c H3 L3 (cells + 1) (slots + 6) Q (F0 m 226 ls []) := by
    refine lv_goto (tgt := 655) hx hb dl_226 (by decide) ?_
    exact fin _ _ _ _ (LV.dr (LV.dr hl)) hG3 hI2
  refine lv_iload hx hb dl_209 (lv_at hl 1 rfl) ?_
  refine lv_if_ne (tgt := 226) hx hb dl_211 (by decide) (fun _ => fn) (fun z => ?_)
  refine lv_aload_n hx hb dl_214 rfl (lv_at hl 5 rfl) ?_
  refine lv_iconst (v := 0) hx hb dl_215 rfl ?_
  refine w_out C hG3.1 dl_216 ?_
  refine lv_iload hx hb dl_217 (lv_at hl 0 rfl) ?_
  refine lv_i2l hx hb dl_219 rfl ?_
  rw [e2 z]
  refine W.lcmp hx hb dl_220 ?_
  rw [lg_rf]
  exact lv_if_eq (tgt := 226) hx hb dl_221 (by decide) (fun _ => fn) (fun z => absurd rfl z)
theorem lc_432 (hfl : l.flags = pinnedFlags ++ [noTraceFlag]) (C : LC G p s m meth c b L xs) (hi : i + 4 ≤ L) (hL : L ≤ 2048) (hr : cells + 1 ≤ room_1.cells ∧ slots + 6 ≤ room_1.slots) (fin : GO l G p e s m below meth c b i (cells + 1) (slots + 6) Q 655) : GO l G p e s m below meth c b i cells slots Q 432 := by
  intro H locs ls σ hl hG hI
  have hx := C.1
  have hb := C.2.1
  have hown := C.2.2.2.1
  have hts := C.2.2.2.2.1
  have h0 : ls[0]? = some (.val (.ref b)) := lv_at hl 0 rfl
  have h1 : ls[1]? = some (.val (.ref (fr_q G + 0))) := lv_at hl 1 rfl
  have h2 : ls[2]? = some (.val (.ref (fr_q G + 717))) := lv_at hl 2 rfl
  have h3 : ls[3]? = some (.val (.ref (fr_q G + 741))) := lv_at hl 3 rfl
  have h4 : ls[4]? = some (.val (.int (nI i))) := lv_at hl 4 rfl
  have hr0 : cells ≤ room_1.cells ∧ slots ≤ room_1.slots := ⟨by omega, by omega⟩
  obtain ⟨PH, hp, k1⟩ := trip_call (l := l) (G := G) hfl hI (x := xs (i + 1))
  refine lv_aload_n hx hb dl_432 rfl h1 ?_
  refine w_el (j := 1) C h0 h4 hG.2.1 hi hL (by decide) dl_433 dl_434 dl_436 dl_437 dl_438 ?_
  refine w_help (As := [.ref 0, .int (xs (i + 1))]) (st := []) C hl hG dl_439 (al_in 785 (by decide +kernel) rfl) cw_call (al_in 786 (by decide +kernel) rfl) rfl (al_in 73 (by decide +kernel) rfl) (by show NP yy_Lw_call 2; unfold NP; decide +kernel) (Nat.le_of_ble_eq_true rfl) (Nat.le_of_ble_eq_true rfl) (Nat.le_of_ble_eq_true rfl) hr hp fun k σ1 H1 L1 z1 hG1 => ?_
  obtain ⟨PR2, hc2, k2⟩ := k1 k σ1 z1
  refine lv_istore (lv' := (5, .int k) :: LV G b i) hx hb dl_442 hl (by decide) rfl (fun ls hl => ?_)
  have h0 : ls[0]? = some (.val (.ref b)) := lv_at hl 1 rfl
  have h2 : ls[2]? = some (.val (.ref (fr_q G + 717))) := lv_at hl 3 rfl
  have h4 : ls[4]? = some (.val (.int (nI i))) := lv_at hl 5 rfl
  refine lv_aload_n hx hb dl_444 rfl h2 ?_
  refine w_el (j := 1) C h0 h4 hG1.2.1 hi hL (by decide) dl_445 dl_446 dl_448 dl_449 dl_450 ?_
  refine w_cp (As := [.int (xs (i + 1))]) (st := []) cp_451 C hl hG1 hr (Nat.le_of_ble_eq_true rfl) (Nat.le_of_ble_eq_true rfl) hc2 fun r2 σ2 H2 L2 z2 hG2 => ?_
  obtain ⟨rfl, e1, hI2⟩ := k2 r2 σ2 z2
  refine lv_aload_n hx hb dl_454 rfl (lv_at hl 3 rfl) ?_
  refine w_cp (As := []) (st := []) cp_455 C hl hG2 hr (Nat.le_of_ble_eq_true rfl) (Nat.le_of_ble_eq_true rfl) (ce_ct m_thrown) fun r3 σ3 H3 L3 z3 hG3 => ?_
  obtain ⟨rfl, rfl⟩ := z3
  refine lv_iload hx hb dl_458 (lv_at hl 0 rfl) ?_
  refine lv_icmp_eq (x := gI σ3 717 0) (tgt := 465) hx hb dl_460 (by decide) (fun _ => ?_) (fun z => absurd e1 z)
  refine lv_goto (tgt := 655) hx hb dl_465 (by decide) ?_
  exact fin _ _ _ _ (LV.dr hl) hG3 hI2
theorem lc_468 (hfl : l.flags = pinnedFlags ++ [noTraceFlag]) (C : LC G p s m meth c b L xs) (hi : i + 4 ≤ L) (hL : L ≤ 2048) (hr : cells + 1 ≤ room_1.cells ∧ slots + 6 ≤ room_1.slots) (fin : GO l G p e s m below meth c b i (cells + 1) (slots + 6) Q 655) : GO l G p e s m below meth c b i cells slots Q 468 := by
  intro H locs ls σ hl hG hI
  have hx := C.1
  have hb := C.2.1
  have hown := C.2.2.2.1
  have hts := C.2.2.2.2.1
  have h0 : ls[0]? = some (.val (.ref b)) := lv_at hl 0 rfl
  have h1 : ls[1]? = some (.val (.ref (fr_q G + 0))) := lv_at hl 1 rfl
  have h2 : ls[2]? = some (.val (.ref (fr_q G + 717))) := lv_at hl 2 rfl
  have h3 : ls[3]? = some (.val (.ref (fr_q G + 741))) := lv_at hl 3 rfl
  have h4 : ls[4]? = some (.val (.int (nI i))) := lv_at hl 4 rfl
  have hr0 : cells ≤ room_1.cells ∧ slots ≤ room_1.slots := ⟨by omega, by omega⟩
  obtain ⟨PH, hp, k1⟩ := trip_run (l := l) (G := G) hfl hI (x := xs (i + 1))
  refine lv_aload_n hx hb dl_468 rfl h1 ?_
  refine w_el (j := 1) C h0 h4 hG.2.1 hi hL (by decide) dl_469 dl_470 dl_472 dl_473 dl_474 ?_
  refine lv_aload_n hx hb dl_475 rfl h3 ?_
  refine w_help (As := [.ref 0, .int (xs (i + 1)), .ref 741]) (st := []) C hl hG dl_476 (al_in 841 (by decide +kernel) rfl) cw_run (al_in 842 (by decide +kernel) rfl) rfl (al_in 73 (by decide +kernel) rfl) (by show NP yy_Lw_run 3; unfold NP; decide +kernel) (Nat.le_of_ble_eq_true rfl) (Nat.le_of_ble_eq_true rfl) (Nat.le_of_ble_eq_true rfl) hr hp fun k σ1 H1 L1 z1 hG1 => ?_
  obtain ⟨PR2, hc2, k2⟩ := k1 k σ1 z1
  refine lv_istore (lv' := (5, .int k) :: LV G b i) hx hb dl_479 hl (by decide) rfl (fun ls hl => ?_)
  have h0 : ls[0]? = some (.val (.ref b)) := lv_at hl 1 rfl
  have h2 : ls[2]? = some (.val (.ref (fr_q G + 717))) := lv_at hl 3 rfl
  have h4 : ls[4]? = some (.val (.int (nI i))) := lv_at hl 5 rfl
  refine lv_aload_n hx hb dl_481 rfl h2 ?_
  refine w_el (j := 1) C h0 h4 hG1.2.1 hi hL (by decide) dl_482 dl_483 dl_485 dl_486 dl_487 ?_
  refine w_cp (As := [.int (xs (i + 1))]) (st := []) cp_488 C hl hG1 hr (Nat.le_of_ble_eq_true rfl) (Nat.le_of_ble_eq_true rfl) hc2 fun r2 σ2 H2 L2 z2 hG2 => ?_
  obtain ⟨v, rfl, e1, e2, hI2⟩ := k2 r2 σ2 z2
  refine lv_istore (x := v) (lv' := (6, .int v) :: (5, .int k) :: LV G b i) hx hb dl_491 hl (by decide) rfl (fun ls hl => ?_)
  refine lv_aload_n hx hb dl_493 rfl (lv_at hl 4 rfl) ?_
  refine w_cp (As := []) (st := []) cp_494 C hl hG2 hr (Nat.le_of_ble_eq_true rfl) (Nat.le_of_ble_eq_true rfl) (ce_ct m_thrown) fun r3 σ3 H3 L3 z3 hG3 => ?_
  obtain ⟨rfl, rfl⟩ := z3
  refine lv_iload hx hb dl_497 (lv_at hl 1 rfl) ?_
  refine lv_icmp_eq (x := gI σ3 717 0) (tgt := 504) hx hb dl_499 (by decide) (fun _ => ?_) (fun z => absurd e1 z)
  have fn : W p l e room_1 s m #[Value.ref b] below meth c H3 L3 (cells + 1) (slots + 6) Q (F0 m 521 ls []) := by
    refine lv_goto (tgt := 655) hx hb dl_521 (by decide) ?_
    exact fin _ _ _ _ (LV.dr (LV.dr hl)) hG3 hI2
  refine lv_iload hx hb dl_504 (lv_at hl 1 rfl) ?_
  refine lv_if_ne (tgt := 521) hx hb dl_506 (by decide) (fun _ => fn) (fun z => ?_)
  refine lv_aload_n hx hb dl_509 rfl (lv_at hl 5 rfl) ?_
  refine lv_iconst (v := 0) hx hb dl_510 rfl ?_
  refine w_out C hG3.1 dl_511 ?_
  refine lv_iload hx hb dl_512 (lv_at hl 0 rfl) ?_
  refine lv_i2l hx hb dl_514 rfl ?_
  rw [e2 z]
  refine W.lcmp hx hb dl_515 ?_
  rw [lg_rf]
  exact lv_if_eq (tgt := 521) hx hb dl_516 (by decide) (fun _ => fn) (fun z => absurd rfl z)
end LAW
