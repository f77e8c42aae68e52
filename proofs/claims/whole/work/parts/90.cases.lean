/-! the law: case by case -/
/-- a call of the law's -/
def LCP (pc i : Nat) (Yc : fr_Y) (Rc : Room) (ci b0 n : Nat) : Prop := decode code pc = .ok (.invokevirtual i, 3) ∧ Cond.methodLink "PairVmLaw" i Yc.1 ∈ al_W ∧ MV Yc ∧ (∃ Tt, cl_all[ci]? = some (Yc.1.cls, Tt, nfc ci)) ∧ ci < 10 ∧ (∃ z, kd b0 = (ci, z)) ∧ b0 < 742 ∧ NP Yc n ∧ (Rc.frames + 1 ≤ room_1.frames ∧ 8 + (Yc.2.2.1 + 11) + Rc.locals ≤ room_1.locals) ∧ Rc.cells = 0 ∧ Rc.slots = 0
def LV (G : fr_G) (b i : Nat) : List (Nat × Value) := [(0, .ref b), (1, .ref (fr_q G + 0)), (2, .ref (fr_q G + 717)), (3, .ref (fr_q G + 741)), (4, .int (nI i))]
theorem in_W {w : Cond} (i : Nat) (h : lw_tbl[i]? = some w) (g : goodWord w = true) : w ∈ al_W := al_in i h g

theorem cp_123 : LCP 123 36 yy_V_put rm_V_put 0 0 1 := ⟨dl_123, in_W 404 (by decide +kernel) rfl, mv_V_put, ⟨_, rfl⟩, by decide, ⟨_, rfl⟩, by decide, np_V_put, ⟨Nat.le_of_ble_eq_true rfl, Nat.le_of_ble_eq_true rfl⟩, rfl, rfl⟩
theorem cp_133 : LCP 133 40 yy_Mo_put rm_Mo_put 9 717 1 := ⟨dl_133, in_W 1083 (by decide +kernel) rfl, mv_Mo_put, ⟨_, rfl⟩, by decide, ⟨_, rfl⟩, by decide, np_Mo_put, ⟨Nat.le_of_ble_eq_true rfl, Nat.le_of_ble_eq_true rfl⟩, rfl, rfl⟩
theorem cp_149 : LCP 149 46 yy_Mo_seal rm_Mo_seal 9 717 0 := ⟨dl_149, in_W 1282 (by decide +kernel) rfl, mv_Mo_seal, ⟨_, rfl⟩, by decide, ⟨_, rfl⟩, by decide, np_Mo_seal, ⟨Nat.le_of_ble_eq_true rfl, Nat.le_of_ble_eq_true rfl⟩, rfl, rfl⟩
theorem cp_155 : LCP 155 47 yy_Mo_thrown rm_Mo_thrown 9 717 0 := ⟨dl_155, in_W 1079 (by decide +kernel) rfl, mv_Mo_thrown, ⟨_, rfl⟩, by decide, ⟨_, rfl⟩, by decide, np_Mo_thrown, ⟨Nat.le_of_ble_eq_true rfl, Nat.le_of_ble_eq_true rfl⟩, rfl, rfl⟩
theorem cp_193 : LCP 193 52 yy_Mo_load rm_Mo_load 9 717 0 := ⟨dl_193, in_W 1087 (by decide +kernel) rfl, mv_Mo_load, ⟨_, rfl⟩, by decide, ⟨_, rfl⟩, by decide, np_Mo_load, ⟨Nat.le_of_ble_eq_true rfl, Nat.le_of_ble_eq_true rfl⟩, rfl, rfl⟩
theorem cp_199 : LCP 199 47 yy_Mo_thrown rm_Mo_thrown 9 717 0 := ⟨dl_199, in_W 1079 (by decide +kernel) rfl, mv_Mo_thrown, ⟨_, rfl⟩, by decide, ⟨_, rfl⟩, by decide, np_Mo_thrown, ⟨Nat.le_of_ble_eq_true rfl, Nat.le_of_ble_eq_true rfl⟩, rfl, rfl⟩
theorem cp_230 : LCP 230 53 yy_V_place rm_V_place 0 0 0 := ⟨dl_230, in_W 412 (by decide +kernel) rfl, mv_V_place, ⟨_, rfl⟩, by decide, ⟨_, rfl⟩, by decide, np_V_place, ⟨Nat.le_of_ble_eq_true rfl, Nat.le_of_ble_eq_true rfl⟩, rfl, rfl⟩
theorem cp_234 : LCP 234 56 yy_Mo_place rm_Mo_place 9 717 0 := ⟨dl_234, in_W 1288 (by decide +kernel) rfl, mv_Mo_place, ⟨_, rfl⟩, by decide, ⟨_, rfl⟩, by decide, np_Mo_place, ⟨Nat.le_of_ble_eq_true rfl, Nat.le_of_ble_eq_true rfl⟩, rfl, rfl⟩
theorem cp_249 : LCP 249 57 yy_V_verify rm_V_verify 0 0 1 := ⟨dl_249, in_W 416 (by decide +kernel) rfl, mv_V_verify, ⟨_, rfl⟩, by decide, ⟨_, rfl⟩, by decide, np_V_verify, ⟨Nat.le_of_ble_eq_true rfl, Nat.le_of_ble_eq_true rfl⟩, rfl, rfl⟩
theorem cp_259 : LCP 259 60 yy_Mo_verify rm_Mo_verify 9 717 1 := ⟨dl_259, in_W 1292 (by decide +kernel) rfl, mv_Mo_verify, ⟨_, rfl⟩, by decide, ⟨_, rfl⟩, by decide, np_Mo_verify, ⟨Nat.le_of_ble_eq_true rfl, Nat.le_of_ble_eq_true rfl⟩, rfl, rfl⟩
theorem cp_286 : LCP 286 61 yy_V_type rm_V_type 0 0 3 := ⟨dl_286, in_W 424 (by decide +kernel) rfl, mv_V_type, ⟨_, rfl⟩, by decide, ⟨_, rfl⟩, by decide, np_V_type, ⟨Nat.le_of_ble_eq_true rfl, Nat.le_of_ble_eq_true rfl⟩, rfl, rfl⟩
theorem cp_308 : LCP 308 65 yy_Mo_type rm_Mo_type 9 717 3 := ⟨dl_308, in_W 1300 (by decide +kernel) rfl, mv_Mo_type, ⟨_, rfl⟩, by decide, ⟨_, rfl⟩, by decide, np_Mo_type, ⟨Nat.le_of_ble_eq_true rfl, Nat.le_of_ble_eq_true rfl⟩, rfl, rfl⟩
theorem cp_345 : LCP 345 68 yy_V_pass rm_V_pass 0 0 2 := ⟨dl_345, in_W 440 (by decide +kernel) rfl, mv_V_pass, ⟨_, rfl⟩, by decide, ⟨_, rfl⟩, by decide, np_V_pass, ⟨Nat.le_of_ble_eq_true rfl, Nat.le_of_ble_eq_true rfl⟩, rfl, rfl⟩
theorem cp_377 : LCP 377 72 yy_Mo_pass rm_Mo_pass 9 717 2 := ⟨dl_377, in_W 1304 (by decide +kernel) rfl, mv_Mo_pass, ⟨_, rfl⟩, by decide, ⟨_, rfl⟩, by decide, np_Mo_pass, ⟨Nat.le_of_ble_eq_true rfl, Nat.le_of_ble_eq_true rfl⟩, rfl, rfl⟩
theorem cp_403 : LCP 403 75 yy_V_passReal rm_V_passReal 0 0 2 := ⟨dl_403, in_W 448 (by decide +kernel) rfl, mv_V_passReal, ⟨_, rfl⟩, by decide, ⟨_, rfl⟩, by decide, np_V_passReal, ⟨Nat.le_of_ble_eq_true rfl, Nat.le_of_ble_eq_true rfl⟩, rfl, rfl⟩
theorem cp_424 : LCP 424 79 yy_Mo_passReal rm_Mo_passReal 9 717 2 := ⟨dl_424, in_W 1312 (by decide +kernel) rfl, mv_Mo_passReal, ⟨_, rfl⟩, by decide, ⟨_, rfl⟩, by decide, np_Mo_passReal, ⟨Nat.le_of_ble_eq_true rfl, Nat.le_of_ble_eq_true rfl⟩, rfl, rfl⟩
theorem cp_451 : LCP 451 83 yy_Mo_call rm_Mo_call 9 717 1 := ⟨dl_451, in_W 1318 (by decide +kernel) rfl, mv_Mo_call, ⟨_, rfl⟩, by decide, ⟨_, rfl⟩, by decide, np_Mo_call, ⟨Nat.le_of_ble_eq_true rfl, Nat.le_of_ble_eq_true rfl⟩, rfl, rfl⟩
theorem cp_455 : LCP 455 47 yy_Mo_thrown rm_Mo_thrown 9 717 0 := ⟨dl_455, in_W 1079 (by decide +kernel) rfl, mv_Mo_thrown, ⟨_, rfl⟩, by decide, ⟨_, rfl⟩, by decide, np_Mo_thrown, ⟨Nat.le_of_ble_eq_true rfl, Nat.le_of_ble_eq_true rfl⟩, rfl, rfl⟩
theorem cp_488 : LCP 488 87 yy_Mo_run rm_Mo_run 9 717 1 := ⟨dl_488, in_W 1326 (by decide +kernel) rfl, mv_Mo_run, ⟨_, rfl⟩, by decide, ⟨_, rfl⟩, by decide, np_Mo_run, ⟨Nat.le_of_ble_eq_true rfl, Nat.le_of_ble_eq_true rfl⟩, rfl, rfl⟩
theorem cp_494 : LCP 494 47 yy_Mo_thrown rm_Mo_thrown 9 717 0 := ⟨dl_494, in_W 1079 (by decide +kernel) rfl, mv_Mo_thrown, ⟨_, rfl⟩, by decide, ⟨_, rfl⟩, by decide, np_Mo_thrown, ⟨Nat.le_of_ble_eq_true rfl, Nat.le_of_ble_eq_true rfl⟩, rfl, rfl⟩
theorem cp_525 : LCP 525 88 yy_V_state rm_V_state 0 0 0 := ⟨dl_525, in_W 454 (by decide +kernel) rfl, mv_V_state, ⟨_, rfl⟩, by decide, ⟨_, rfl⟩, by decide, np_V_state, ⟨Nat.le_of_ble_eq_true rfl, Nat.le_of_ble_eq_true rfl⟩, rfl, rfl⟩
theorem cp_529 : LCP 529 91 yy_Mo_state rm_Mo_state 9 717 0 := ⟨dl_529, in_W 1402 (by decide +kernel) rfl, mv_Mo_state, ⟨_, rfl⟩, by decide, ⟨_, rfl⟩, by decide, np_Mo_state, ⟨Nat.le_of_ble_eq_true rfl, Nat.le_of_ble_eq_true rfl⟩, rfl, rfl⟩
theorem cp_538 : LCP 538 92 yy_V_value rm_V_value 0 0 0 := ⟨dl_538, in_W 458 (by decide +kernel) rfl, mv_V_value, ⟨_, rfl⟩, by decide, ⟨_, rfl⟩, by decide, np_V_value, ⟨Nat.le_of_ble_eq_true rfl, Nat.le_of_ble_eq_true rfl⟩, rfl, rfl⟩
theorem cp_542 : LCP 542 96 yy_Mo_value rm_Mo_value 9 717 0 := ⟨dl_542, in_W 1406 (by decide +kernel) rfl, mv_Mo_value, ⟨_, rfl⟩, by decide, ⟨_, rfl⟩, by decide, np_Mo_value, ⟨Nat.le_of_ble_eq_true rfl, Nat.le_of_ble_eq_true rfl⟩, rfl, rfl⟩
theorem cp_552 : LCP 552 97 yy_V_real rm_V_real 0 0 0 := ⟨dl_552, in_W 474 (by decide +kernel) rfl, mv_V_real, ⟨_, rfl⟩, by decide, ⟨_, rfl⟩, by decide, np_V_real, ⟨Nat.le_of_ble_eq_true rfl, Nat.le_of_ble_eq_true rfl⟩, rfl, rfl⟩
theorem cp_558 : LCP 558 101 yy_Mo_real rm_Mo_real 9 717 0 := ⟨dl_558, in_W 1410 (by decide +kernel) rfl, mv_Mo_real, ⟨_, rfl⟩, by decide, ⟨_, rfl⟩, by decide, np_Mo_real, ⟨Nat.le_of_ble_eq_true rfl, Nat.le_of_ble_eq_true rfl⟩, rfl, rfl⟩
theorem cp_593 : LCP 593 102 yy_V_calls rm_V_calls 0 0 0 := ⟨dl_593, in_W 478 (by decide +kernel) rfl, mv_V_calls, ⟨_, rfl⟩, by decide, ⟨_, rfl⟩, by decide, np_V_calls, ⟨Nat.le_of_ble_eq_true rfl, Nat.le_of_ble_eq_true rfl⟩, rfl, rfl⟩
theorem cp_597 : LCP 597 105 yy_Mo_calls rm_Mo_calls 9 717 0 := ⟨dl_597, in_W 1414 (by decide +kernel) rfl, mv_Mo_calls, ⟨_, rfl⟩, by decide, ⟨_, rfl⟩, by decide, np_Mo_calls, ⟨Nat.le_of_ble_eq_true rfl, Nat.le_of_ble_eq_true rfl⟩, rfl, rfl⟩
theorem cp_612 : LCP 612 106 yy_V_at rm_V_at 0 0 1 := ⟨dl_612, in_W 482 (by decide +kernel) rfl, mv_V_at, ⟨_, rfl⟩, by decide, ⟨_, rfl⟩, by decide, np_V_at, ⟨Nat.le_of_ble_eq_true rfl, Nat.le_of_ble_eq_true rfl⟩, rfl, rfl⟩
theorem cp_622 : LCP 622 109 yy_Mo_at rm_Mo_at 9 717 1 := ⟨dl_622, in_W 1418 (by decide +kernel) rfl, mv_Mo_at, ⟨_, rfl⟩, by decide, ⟨_, rfl⟩, by decide, np_Mo_at, ⟨Nat.le_of_ble_eq_true rfl, Nat.le_of_ble_eq_true rfl⟩, rfl, rfl⟩
theorem cp_637 : LCP 637 110 yy_V_field rm_V_field 0 0 1 := ⟨dl_637, in_W 494 (by decide +kernel) rfl, mv_V_field, ⟨_, rfl⟩, by decide, ⟨_, rfl⟩, by decide, np_V_field, ⟨Nat.le_of_ble_eq_true rfl, Nat.le_of_ble_eq_true rfl⟩, rfl, rfl⟩
theorem cp_647 : LCP 647 113 yy_Mo_field rm_Mo_field 9 717 1 := ⟨dl_647, in_W 1422 (by decide +kernel) rfl, mv_Mo_field, ⟨_, rfl⟩, by decide, ⟨_, rfl⟩, by decide, np_Mo_field, ⟨Nat.le_of_ble_eq_true rfl, Nat.le_of_ble_eq_true rfl⟩, rfl, rfl⟩
section LAW
variable {l : Launch} {G : fr_G} {p : Program} {e : Env} {s : State} {m : MethodId} {below : List Frame} {meth : Method} {c : Code} {b L : Nat} {xs : Nat → Int32} {H : Heap} {locs : List Loc} {ls : Array Slot} {lv : List (Nat × Value)} {σ : fr_S} {cells slots pc i : Nat} {Q : State → Prop}
def GO (l : Launch) (G : fr_G) (p : Program) (e : Env) (s : State) (m : MethodId) (below : List Frame) (meth : Method) (c : Code) (b i cells slots : Nat) (Q : State → Prop) (pc : Nat) : Prop := ∀ (H : Heap) (locs : List Loc) (ls : Array Slot) (σ : fr_S), lv_has ls 9 (LV G b i) → LG G s σ H locs → INV σ → W p l e room_1 s m #[Value.ref b] below meth c H locs cells slots Q (F0 m pc ls [])
theorem LV.dr {x : Nat × Value} {lv : List (Nat × Value)} (h : lv_has ls 9 (x :: lv)) : lv_has ls 9 lv := ⟨h.1, h.2.1, fun q hq => h.2.2 q (List.mem_cons_of_mem _ hq)⟩
theorem w_cp {j : Nat} {Yc : fr_Y} {Rc : Room} {ci b0 : Nat} {As st : List Value} {PR : Option Value → fr_S → Prop} (hcp : LCP pc j Yc Rc ci b0 As.length) (C : LC G p s m meth c b L xs) (hl : lv_has ls 9 lv) (hG : LG G s σ H locs) (hr : cells ≤ room_1.cells ∧ slots ≤ room_1.slots) (hlen : ((.ref b0 :: As).map fun v : Value => v.category).sum ≤ Yc.2.2.1) (hst : (st.map fun v : Value => v.category).sum ≤ 8)
    (hc : CE l G Yc Rc (.ref b0 :: As) σ PR (fun _ _ => False)) (kk : ∀ r σ' H' L', PR r σ' → LG G s σ' H' L' → W p l e room_1 s m #[Value.ref b] below meth c H' L' cells slots Q (F0 m (pc + 3) ls ((r.toList ++ st).map (cv G)))) : W p l e room_1 s m #[Value.ref b] below meth c H locs cells slots Q (F0 m pc ls ((As.reverse ++ .ref b0 :: st).map (cv G))) := by
  obtain ⟨h1, h2, h3, h4, h5, ⟨z, h6⟩, h7, h8, h9, h10, h11⟩ := hcp
  exact w_call C hl hG h1 h2 h3 h4 h5 h6 h7 h8 hlen hst ⟨h9.1, h9.2, by rw [h10]; exact hr.1, by rw [h11]; exact hr.2⟩ hc kk
theorem rl_cat (r : Option Value) : ((r.toList ++ []).map fun v : Value => v.category).sum ≤ 8 := by
  cases r with
  | none => decide
  | some v => cases v <;> exact Nat.le_of_ble_eq_true rfl
/-- both sides are asked -/
theorem w_pair {j1 j2 pc2 : Nat} {Yc Ym : fr_Y} {Rc Rm : Room} {As : List Value} {E : Option Value → Option Value → Prop} (hp1 : LCP pc j1 Yc Rc 0 0 As.length) (hp2 : LCP pc2 j2 Ym Rm 9 717 As.length) (C : LC G p s m meth c b L xs) (hl : lv_has ls 9 lv) (hG : LG G s σ H locs) (hr : cells ≤ room_1.cells ∧ slots ≤ room_1.slots) (hlen : ((.ref 0 :: As).map fun v : Value => v.category).sum ≤ Yc.2.2.1) (hlen2 : ((.ref 717 :: As).map fun v : Value => v.category).sum ≤ Ym.2.2.1)
    (h : PAIR l G Yc Rc Ym Rm As σ E) (mid : ∀ (H' : Heap) (L' : List Loc) (st : List Value), va_S (AA (fr_q G)) s.heap H' L' → W p l e room_1 s m #[Value.ref b] below meth c H' L' cells slots Q (F0 m pc2 ls ((As.reverse ++ (Value.ref 717 :: st)).map (cv G))) → W p l e room_1 s m #[Value.ref b] below meth c H' L' cells slots Q (F0 m (pc + 3) ls (st.map (cv G))))
    (fin : ∀ r1 r2 σ' H' L', E r1 r2 → INV σ' → LG G s σ' H' L' → W p l e room_1 s m #[Value.ref b] below meth c H' L' cells slots Q (F0 m (pc2 + 3) ls ((r2.toList ++ (r1.toList ++ [])).map (cv G)))) : W p l e room_1 s m #[Value.ref b] below meth c H locs cells slots Q (F0 m pc ls ((As.reverse ++ [Value.ref 0]).map (cv G))) := by
  obtain ⟨PR1, hc1, k1⟩ := h
  refine w_cp (st := []) hp1 C hl hG hr hlen (by decide) hc1 fun r1 σ1 H1 L1 z1 hG1 => ?_
  obtain ⟨PR2, hc2, k2⟩ := k1 r1 σ1 z1
  refine mid H1 L1 _ hG1.2.1 ?_
  refine w_cp hp2 C hl hG1 hr hlen2 (rl_cat r1) hc2 fun r2 σ2 H2 L2 z2 hG2 => ?_
  obtain ⟨e1, e2⟩ := k2 r2 σ2 z2
  exact fin r1 r2 σ2 H2 L2 e1 e2 hG2

theorem lg_rf {v : Int64} : lg_cmp v v = 0 := by unfold lg_cmp; simp
theorem lc_116 (C : LC G p s m meth c b L xs) (hi : i + 4 ≤ L) (hL : L ≤ 2048) (hr : cells + 1 ≤ room_1.cells ∧ slots + 6 ≤ room_1.slots) (fin : GO l G p e s m below meth c b i (cells + 1) (slots + 6) Q 655) : GO l G p e s m below meth c b i cells slots Q 116 := by
  intro H locs ls σ hl hG hI
  have hx := C.1
  have hb := C.2.1
  have hown := C.2.2.2.1
  have hts := C.2.2.2.2.1
  have h0 : ls[0]? = some (.val (.ref b)) := lv_at hl 0 rfl
  have h1 : ls[1]? = some (.val (.ref (fr_q G + 0))) := lv_at hl 1 rfl
  have h2 : ls[2]? = some (.val (.ref (fr_q G + 717))) := lv_at hl 2 rfl
  have h3 : ls[3]? = some (.val (.ref (fr_q G + 741))) := lv_at hl 3 rfl
  have h4 : ls[4]? = some (.val (.int (nI i))) := lv_at hl 4 rfl
  have hr0 : cells ≤ room_1.cells ∧ slots ≤ room_1.slots := ⟨by omega, by omega⟩
  refine lv_aload_n hx hb dl_116 rfl h1 ?_
  refine w_el (j := 1) C h0 h4 hG.2.1 hi hL (by decide) dl_117 dl_118 dl_120 dl_121 dl_122 ?_
  refine w_pair (As := [.int (xs (i + 1))]) (E := EI) cp_123 cp_133 C hl hG hr0 (Nat.le_of_ble_eq_true rfl) (Nat.le_of_ble_eq_true rfl) (pair_put hI) (fun H1 L1 st hS hw => ?_) (fun r1 r2 σ1 H1 L1 hE hI1 hG1 => ?_)
  · refine lv_aload_n hx hb dl_126 rfl h2 ?_
    refine w_el (j := 1) C h0 h4 hS hi hL (by decide) dl_127 dl_128 dl_130 dl_131 dl_132 ?_
    exact hw
  · obtain ⟨v, rfl, rfl⟩ := hE
    refine lv_icmp_eq (tgt := 655) hx hb dl_136 (by decide) (fun _ => ?_) (fun z => absurd rfl z)
    exact W.widen (Nat.le_succ _) (Nat.le_add_right _ _) (fin _ _ _ _ hl hG1 hI1)
theorem lc_229 (C : LC G p s m meth c b L xs) (hi : i + 4 ≤ L) (hL : L ≤ 2048) (hr : cells + 1 ≤ room_1.cells ∧ slots + 6 ≤ room_1.slots) (fin : GO l G p e s m below meth c b i (cells + 1) (slots + 6) Q 655) : GO l G p e s m below meth c b i cells slots Q 229 := by
  intro H locs ls σ hl hG hI
  have hx := C.1
  have hb := C.2.1
  have hown := C.2.2.2.1
  have hts := C.2.2.2.2.1
  have h0 : ls[0]? = some (.val (.ref b)) := lv_at hl 0 rfl
  have h1 : ls[1]? = some (.val (.ref (fr_q G + 0))) := lv_at hl 1 rfl
  have h2 : ls[2]? = some (.val (.ref (fr_q G + 717))) := lv_at hl 2 rfl
  have h3 : ls[3]? = some (.val (.ref (fr_q G + 741))) := lv_at hl 3 rfl
  have h4 : ls[4]? = some (.val (.int (nI i))) := lv_at hl 4 rfl
  have hr0 : cells ≤ room_1.cells ∧ slots ≤ room_1.slots := ⟨by omega, by omega⟩
  refine lv_aload_n hx hb dl_229 rfl h1 ?_
  refine w_pair (As := []) (E := EI) cp_230 cp_234 C hl hG hr0 (Nat.le_of_ble_eq_true rfl) (Nat.le_of_ble_eq_true rfl) (pair_place hI) (fun H1 L1 st hS hw => ?_) (fun r1 r2 σ1 H1 L1 hE hI1 hG1 => ?_)
  · refine lv_aload_n hx hb dl_233 rfl h2 ?_
    exact hw
  · obtain ⟨v, rfl, rfl⟩ := hE
    refine lv_icmp_eq (tgt := 655) hx hb dl_237 (by decide) (fun _ => ?_) (fun z => absurd rfl z)
    exact W.widen (Nat.le_succ _) (Nat.le_add_right _ _) (fin _ _ _ _ hl hG1 hI1)
theorem lc_242 (C : LC G p s m meth c b L xs) (hi : i + 4 ≤ L) (hL : L ≤ 2048) (hr : cells + 1 ≤ room_1.cells ∧ slots + 6 ≤ room_1.slots) (fin : GO l G p e s m below meth c b i (cells + 1) (slots + 6) Q 655) : GO l G p e s m below meth c b i cells slots Q 242 := by
  intro H locs ls σ hl hG hI
  have hx := C.1
  have hb := C.2.1
  have hown := C.2.2.2.1
  have hts := C.2.2.2.2.1
  have h0 : ls[0]? = some (.val (.ref b)) := lv_at hl 0 rfl
  have h1 : ls[1]? = some (.val (.ref (fr_q G + 0))) := lv_at hl 1 rfl
  have h2 : ls[2]? = some (.val (.ref (fr_q G + 717))) := lv_at hl 2 rfl
  have h3 : ls[3]? = some (.val (.ref (fr_q G + 741))) := lv_at hl 3 rfl
  have h4 : ls[4]? = some (.val (.int (nI i))) := lv_at hl 4 rfl
  have hr0 : cells ≤ room_1.cells ∧ slots ≤ room_1.slots := ⟨by omega, by omega⟩
  refine lv_aload_n hx hb dl_242 rfl h1 ?_
  refine w_el (j := 1) C h0 h4 hG.2.1 hi hL (by decide) dl_243 dl_244 dl_246 dl_247 dl_248 ?_
  refine w_pair (As := [.int (xs (i + 1))]) (E := EI) cp_249 cp_259 C hl hG hr0 (Nat.le_of_ble_eq_true rfl) (Nat.le_of_ble_eq_true rfl) (pair_verify hI) (fun H1 L1 st hS hw => ?_) (fun r1 r2 σ1 H1 L1 hE hI1 hG1 => ?_)
  · refine lv_aload_n hx hb dl_252 rfl h2 ?_
    refine w_el (j := 1) C h0 h4 hS hi hL (by decide) dl_253 dl_254 dl_256 dl_257 dl_258 ?_
    exact hw
  · obtain ⟨v, rfl, rfl⟩ := hE
    refine lv_icmp_eq (tgt := 655) hx hb dl_262 (by decide) (fun _ => ?_) (fun z => absurd rfl z)
    exact W.widen (Nat.le_succ _) (Nat.le_add_right _ _) (fin _ _ _ _ hl hG1 hI1)
theorem lc_267 (C : LC G p s m meth c b L xs) (hi : i + 4 ≤ L) (hL : L ≤ 2048) (hr : cells + 1 ≤ room_1.cells ∧ slots + 6 ≤ room_1.slots) (fin : GO l G p e s m below meth c b i (cells + 1) (slots + 6) Q 655) : GO l G p e s m below meth c b i cells slots Q 267 := by
  intro H locs ls σ hl hG hI
  have hx := C.1
  have hb := C.2.1
  have hown := C.2.2.2.1
  have hts := C.2.2.2.2.1
  have h0 : ls[0]? = some (.val (.ref b)) := lv_at hl 0 rfl
  have h1 : ls[1]? = some (.val (.ref (fr_q G + 0))) := lv_at hl 1 rfl
  have h2 : ls[2]? = some (.val (.ref (fr_q G + 717))) := lv_at hl 2 rfl
  have h3 : ls[3]? = some (.val (.ref (fr_q G + 741))) := lv_at hl 3 rfl
  have h4 : ls[4]? = some (.val (.int (nI i))) := lv_at hl 4 rfl
  have hr0 : cells ≤ room_1.cells ∧ slots ≤ room_1.slots := ⟨by omega, by omega⟩
  refine lv_aload_n hx hb dl_267 rfl h1 ?_
  refine w_el (j := 1) C h0 h4 hG.2.1 hi hL (by decide) dl_268 dl_269 dl_271 dl_272 dl_273 ?_
  refine w_el (j := 2) C h0 h4 hG.2.1 hi hL (by decide) dl_274 dl_275 dl_277 dl_278 dl_279 ?_
  refine w_el (j := 3) C h0 h4 hG.2.1 hi hL (by decide) dl_280 dl_281 dl_283 dl_284 dl_285 ?_
  refine w_pair (As := [.int (xs (i + 1)), .int (xs (i + 2)), .int (xs (i + 3))]) (E := EI) cp_286 cp_308 C hl hG hr0 (Nat.le_of_ble_eq_true rfl) (Nat.le_of_ble_eq_true rfl) (pair_type hI) (fun H1 L1 st hS hw => ?_) (fun r1 r2 σ1 H1 L1 hE hI1 hG1 => ?_)
  · refine lv_aload_n hx hb dl_289 rfl h2 ?_
    refine w_el (j := 1) C h0 h4 hS hi hL (by decide) dl_290 dl_291 dl_293 dl_294 dl_295 ?_
    refine w_el (j := 2) C h0 h4 hS hi hL (by decide) dl_296 dl_297 dl_299 dl_300 dl_301 ?_
    refine w_el (j := 3) C h0 h4 hS hi hL (by decide) dl_302 dl_303 dl_305 dl_306 dl_307 ?_
    exact hw
  · obtain ⟨v, rfl, rfl⟩ := hE
    refine lv_icmp_eq (tgt := 655) hx hb dl_311 (by decide) (fun _ => ?_) (fun z => absurd rfl z)
    exact W.widen (Nat.le_succ _) (Nat.le_add_right _ _) (fin _ _ _ _ hl hG1 hI1)
theorem lc_316 (C : LC G p s m meth c b L xs) (hi : i + 4 ≤ L) (hL : L ≤ 2048) (hr : cells + 1 ≤ room_1.cells ∧ slots + 6 ≤ room_1.slots) (fin : GO l G p e s m below meth c b i (cells + 1) (slots + 6) Q 655) : GO l G p e s m below meth c b i cells slots Q 316 := by
  intro H locs ls σ hl hG hI
  have hx := C.1
  have hb := C.2.1
  have hown := C.2.2.2.1
  have hts := C.2.2.2.2.1
  have h0 : ls[0]? = some (.val (.ref b)) := lv_at hl 0 rfl
  have h1 : ls[1]? = some (.val (.ref (fr_q G + 0))) := lv_at hl 1 rfl
  have h2 : ls[2]? = some (.val (.ref (fr_q G + 717))) := lv_at hl 2 rfl
  have h3 : ls[3]? = some (.val (.ref (fr_q G + 741))) := lv_at hl 3 rfl
  have h4 : ls[4]? = some (.val (.int (nI i))) := lv_at hl 4 rfl
  have hr0 : cells ≤ room_1.cells ∧ slots ≤ room_1.slots := ⟨by omega, by omega⟩
  refine lv_aload_n hx hb dl_316 rfl h1 ?_
  refine w_el (j := 1) C h0 h4 hG.2.1 hi hL (by decide) dl_317 dl_318 dl_320 dl_321 dl_322 ?_
  refine w_el (j := 2) C h0 h4 hG.2.1 hi hL (by decide) dl_323 dl_324 dl_326 dl_327 dl_328 ?_
  refine lv_i2l hx hb dl_329 rfl ?_
  refine lv_bipush (v := 32) hx hb dl_330 (by decide) ?_
  refine lv_lshl hx hb dl_332 rfl ?_
  refine w_el (j := 3) C h0 h4 hG.2.1 hi hL (by decide) dl_333 dl_334 dl_336 dl_337 dl_338 ?_
  refine lv_i2l hx hb dl_339 rfl ?_
  refine lv_ldc2 (v := 4294967295) hx hb hown (hts _ (al_in (w := Cond.constantLong "PairVmLaw" 66 4294967295) 1426 (by decide +kernel) rfl)) dl_340 ?_
  refine lv_land hx hb dl_343 ?_
  refine lv_lor hx hb dl_344 ?_
  refine w_pair (As := [.int (xs (i + 1)), .long (((xs (i + 2)).toInt64 <<< (((32 : Int32)).toInt64 &&& 63)) ||| ((xs (i + 3)).toInt64 &&& 4294967295))]) (E := EI) cp_345 cp_377 C hl hG hr0 (Nat.le_of_ble_eq_true rfl) (Nat.le_of_ble_eq_true rfl) (pair_pass hI) (fun H1 L1 st hS hw => ?_) (fun r1 r2 σ1 H1 L1 hE hI1 hG1 => ?_)
  · refine lv_aload_n hx hb dl_348 rfl h2 ?_
    refine w_el (j := 1) C h0 h4 hS hi hL (by decide) dl_349 dl_350 dl_352 dl_353 dl_354 ?_
    refine w_el (j := 2) C h0 h4 hS hi hL (by decide) dl_355 dl_356 dl_358 dl_359 dl_360 ?_
    refine lv_i2l hx hb dl_361 rfl ?_
    refine lv_bipush (v := 32) hx hb dl_362 (by decide) ?_
    refine lv_lshl hx hb dl_364 rfl ?_
    refine w_el (j := 3) C h0 h4 hS hi hL (by decide) dl_365 dl_366 dl_368 dl_369 dl_370 ?_
    refine lv_i2l hx hb dl_371 rfl ?_
    refine lv_ldc2 (v := 4294967295) hx hb hown (hts _ (al_in (w := Cond.constantLong "PairVmLaw" 66 4294967295) 1426 (by decide +kernel) rfl)) dl_372 ?_
    refine lv_land hx hb dl_375 ?_
    refine lv_lor hx hb dl_376 ?_
    exact hw
  · obtain ⟨v, rfl, rfl⟩ := hE
    refine lv_icmp_eq (tgt := 655) hx hb dl_380 (by decide) (fun _ => ?_) (fun z => absurd rfl z)
    exact W.widen (Nat.le_succ _) (Nat.le_add_right _ _) (fin _ _ _ _ hl hG1 hI1)
theorem lc_385 (C : LC G p s m meth c b L xs) (hi : i + 4 ≤ L) (hL : L ≤ 2048) (hr : cells + 1 ≤ room_1.cells ∧ slots + 6 ≤ room_1.slots) (fin : GO l G p e s m below meth c b i (cells + 1) (slots + 6) Q 655) : GO l G p e s m below meth c b i cells slots Q 385 := by
  intro H locs ls σ hl hG hI
  have hx := C.1
  have hb := C.2.1
  have hown := C.2.2.2.1
  have hts := C.2.2.2.2.1
  have h0 : ls[0]? = some (.val (.ref b)) := lv_at hl 0 rfl
  have h1 : ls[1]? = some (.val (.ref (fr_q G + 0))) := lv_at hl 1 rfl
  have h2 : ls[2]? = some (.val (.ref (fr_q G + 717))) := lv_at hl 2 rfl
  have h3 : ls[3]? = some (.val (.ref (fr_q G + 741))) := lv_at hl 3 rfl
  have h4 : ls[4]? = some (.val (.int (nI i))) := lv_at hl 4 rfl
  have hr0 : cells ≤ room_1.cells ∧ slots ≤ room_1.slots := ⟨by omega, by omega⟩
  refine lv_aload_n hx hb dl_385 rfl h1 ?_
  refine w_el (j := 1) C h0 h4 hG.2.1 hi hL (by decide) dl_386 dl_387 dl_389 dl_390 dl_391 ?_
  refine w_el (j := 2) C h0 h4 hG.2.1 hi hL (by decide) dl_392 dl_393 dl_395 dl_396 dl_397 ?_
  refine lv_i2d hx hb dl_398 ?_
  refine lv_ldc2d (v := 4593671619917905920) hx hb hown (hts _ (al_in (w := Cond.constantDouble "PairVmLaw" 73 4593671619917905920) 1427 (by decide +kernel) rfl)) dl_399 ?_
  refine lv_dmul hx hb dl_402 (dmul_vn (i2d_dB _) (by unfold dB; decide)) ?_
  refine w_pair (As := [.int (xs (i + 1)), .double (FP.dmul (FP.i2d (xs (i + 2))) 4593671619917905920)]) (E := EI) cp_403 cp_424 C hl hG hr0 (Nat.le_of_ble_eq_true rfl) (Nat.le_of_ble_eq_true rfl) (pair_passReal hI (dmul_vn (i2d_dB _) (by unfold dB; decide))) (fun H1 L1 st hS hw => ?_) (fun r1 r2 σ1 H1 L1 hE hI1 hG1 => ?_)
  · refine lv_aload_n hx hb dl_406 rfl h2 ?_
    refine w_el (j := 1) C h0 h4 hS hi hL (by decide) dl_407 dl_408 dl_410 dl_411 dl_412 ?_
    refine w_el (j := 2) C h0 h4 hS hi hL (by decide) dl_413 dl_414 dl_416 dl_417 dl_418 ?_
    refine lv_i2d hx hb dl_419 ?_
    refine lv_ldc2d (v := 4593671619917905920) hx hb hown (hts _ (al_in (w := Cond.constantDouble "PairVmLaw" 73 4593671619917905920) 1427 (by decide +kernel) rfl)) dl_420 ?_
    refine lv_dmul hx hb dl_423 (dmul_vn (i2d_dB _) (by unfold dB; decide)) ?_
    exact hw
  · obtain ⟨v, rfl, rfl⟩ := hE
    refine lv_icmp_eq (tgt := 655) hx hb dl_427 (by decide) (fun _ => ?_) (fun z => absurd rfl z)
    exact W.widen (Nat.le_succ _) (Nat.le_add_right _ _) (fin _ _ _ _ hl hG1 hI1)
theorem lc_524 (C : LC G p s m meth c b L xs) (hi : i + 4 ≤ L) (hL : L ≤ 2048) (hr : cells + 1 ≤ room_1.cells ∧ slots + 6 ≤ room_1.slots) (fin : GO l G p e s m below meth c b i (cells + 1) (slots + 6) Q 655) : GO l G p e s m below meth c b i cells slots Q 524 := by
  intro H locs ls σ hl hG hI
  have hx := C.1
  have hb := C.2.1
  have hown := C.2.2.2.1
  have hts := C.2.2.2.2.1
  have h0 : ls[0]? = some (.val (.ref b)) := lv_at hl 0 rfl
  have h1 : ls[1]? = some (.val (.ref (fr_q G + 0))) := lv_at hl 1 rfl
  have h2 : ls[2]? = some (.val (.ref (fr_q G + 717))) := lv_at hl 2 rfl
  have h3 : ls[3]? = some (.val (.ref (fr_q G + 741))) := lv_at hl 3 rfl
  have h4 : ls[4]? = some (.val (.int (nI i))) := lv_at hl 4 rfl
  have hr0 : cells ≤ room_1.cells ∧ slots ≤ room_1.slots := ⟨by omega, by omega⟩
  refine lv_aload_n hx hb dl_524 rfl h1 ?_
  refine w_pair (As := []) (E := EI) cp_525 cp_529 C hl hG hr0 (Nat.le_of_ble_eq_true rfl) (Nat.le_of_ble_eq_true rfl) (pair_state hI) (fun H1 L1 st hS hw => ?_) (fun r1 r2 σ1 H1 L1 hE hI1 hG1 => ?_)
  · refine lv_aload_n hx hb dl_528 rfl h2 ?_
    exact hw
  · obtain ⟨v, rfl, rfl⟩ := hE
    refine lv_icmp_eq (tgt := 655) hx hb dl_532 (by decide) (fun _ => ?_) (fun z => absurd rfl z)
    exact W.widen (Nat.le_succ _) (Nat.le_add_right _ _) (fin _ _ _ _ hl hG1 hI1)
theorem lc_537 (C : LC G p s m meth c b L xs) (hi : i + 4 ≤ L) (hL : L ≤ 2048) (hr : cells + 1 ≤ room_1.cells ∧ slots + 6 ≤ room_1.slots) (fin : GO l G p e s m below meth c b i (cells + 1) (slots + 6) Q 655) : GO l G p e s m below meth c b i cells slots Q 537 := by
  intro H locs ls σ hl hG hI
  have hx := C.1
  have hb := C.2.1
  have hown := C.2.2.2.1
  have hts := C.2.2.2.2.1
  have h0 : ls[0]? = some (.val (.ref b)) := lv_at hl 0 rfl
  have h1 : ls[1]? = some (.val (.ref (fr_q G + 0))) := lv_at hl 1 rfl
  have h2 : ls[2]? = some (.val (.ref (fr_q G + 717))) := lv_at hl 2 rfl
  have h3 : ls[3]? = some (.val (.ref (fr_q G + 741))) := lv_at hl 3 rfl
  have h4 : ls[4]? = some (.val (.int (nI i))) := lv_at hl 4 rfl
  have hr0 : cells ≤ room_1.cells ∧ slots ≤ room_1.slots := ⟨by omega, by omega⟩
  refine lv_aload_n hx hb dl_537 rfl h1 ?_
  refine w_pair (As := []) (E := EL) cp_538 cp_542 C hl hG hr0 (Nat.le_of_ble_eq_true rfl) (Nat.le_of_ble_eq_true rfl) (pair_value hI) (fun H1 L1 st hS hw => ?_) (fun r1 r2 σ1 H1 L1 hE hI1 hG1 => ?_)
  · refine lv_aload_n hx hb dl_541 rfl h2 ?_
    exact hw
  · obtain ⟨v, rfl, rfl⟩ := hE
    refine W.lcmp hx hb dl_545 ?_
    rw [lg_rf]
    refine lv_if_eq (tgt := 655) hx hb dl_546 (by decide) (fun _ => ?_) (fun z => absurd rfl z)
    exact W.widen (Nat.le_succ _) (Nat.le_add_right _ _) (fin _ _ _ _ hl hG1 hI1)
theorem lc_592 (C : LC G p s m meth c b L xs) (hi : i + 4 ≤ L) (hL : L ≤ 2048) (hr : cells + 1 ≤ room_1.cells ∧ slots + 6 ≤ room_1.slots) (fin : GO l G p e s m below meth c b i (cells + 1) (slots + 6) Q 655) : GO l G p e s m below meth c b i cells slots Q 592 := by
  intro H locs ls σ hl hG hI
  have hx := C.1
  have hb := C.2.1
  have hown := C.2.2.2.1
  have hts := C.2.2.2.2.1
  have h0 : ls[0]? = some (.val (.ref b)) := lv_at hl 0 rfl
  have h1 : ls[1]? = some (.val (.ref (fr_q G + 0))) := lv_at hl 1 rfl
  have h2 : ls[2]? = some (.val (.ref (fr_q G + 717))) := lv_at hl 2 rfl
  have h3 : ls[3]? = some (.val (.ref (fr_q G + 741))) := lv_at hl 3 rfl
  have h4 : ls[4]? = some (.val (.int (nI i))) := lv_at hl 4 rfl
  have hr0 : cells ≤ room_1.cells ∧ slots ≤ room_1.slots := ⟨by omega, by omega⟩
  refine lv_aload_n hx hb dl_592 rfl h1 ?_
  refine w_pair (As := []) (E := EI) cp_593 cp_597 C hl hG hr0 (Nat.le_of_ble_eq_true rfl) (Nat.le_of_ble_eq_true rfl) (pair_calls hI) (fun H1 L1 st hS hw => ?_) (fun r1 r2 σ1 H1 L1 hE hI1 hG1 => ?_)
  · refine lv_aload_n hx hb dl_596 rfl h2 ?_
    exact hw
  · obtain ⟨v, rfl, rfl⟩ := hE
    refine lv_icmp_eq (tgt := 655) hx hb dl_600 (by decide) (fun _ => ?_) (fun z => absurd rfl z)
    exact W.widen (Nat.le_succ _) (Nat.le_add_right _ _) (fin _ _ _ _ hl hG1 hI1)
theorem lc_605 (C : LC G p s m meth c b L xs) (hi : i + 4 ≤ L) (hL : L ≤ 2048) (hr : cells + 1 ≤ room_1.cells ∧ slots + 6 ≤ room_1.slots) (fin : GO l G p e s m below meth c b i (cells + 1) (slots + 6) Q 655) : GO l G p e s m below meth c b i cells slots Q 605 := by
  intro H locs ls σ hl hG hI
  have hx := C.1
  have hb := C.2.1
  have hown := C.2.2.2.1
  have hts := C.2.2.2.2.1
  have h0 : ls[0]? = some (.val (.ref b)) := lv_at hl 0 rfl
  have h1 : ls[1]? = some (.val (.ref (fr_q G + 0))) := lv_at hl 1 rfl
  have h2 : ls[2]? = some (.val (.ref (fr_q G + 717))) := lv_at hl 2 rfl
  have h3 : ls[3]? = some (.val (.ref (fr_q G + 741))) := lv_at hl 3 rfl
  have h4 : ls[4]? = some (.val (.int (nI i))) := lv_at hl 4 rfl
  have hr0 : cells ≤ room_1.cells ∧ slots ≤ room_1.slots := ⟨by omega, by omega⟩
  refine lv_aload_n hx hb dl_605 rfl h1 ?_
  refine w_el (j := 1) C h0 h4 hG.2.1 hi hL (by decide) dl_606 dl_607 dl_609 dl_610 dl_611 ?_
  refine w_pair (As := [.int (xs (i + 1))]) (E := EI) cp_612 cp_622 C hl hG hr0 (Nat.le_of_ble_eq_true rfl) (Nat.le_of_ble_eq_true rfl) (pair_at hI) (fun H1 L1 st hS hw => ?_) (fun r1 r2 σ1 H1 L1 hE hI1 hG1 => ?_)
  · refine lv_aload_n hx hb dl_615 rfl h2 ?_
    refine w_el (j := 1) C h0 h4 hS hi hL (by decide) dl_616 dl_617 dl_619 dl_620 dl_621 ?_
    exact hw
  · obtain ⟨v, rfl, rfl⟩ := hE
    refine lv_icmp_eq (tgt := 655) hx hb dl_625 (by decide) (fun _ => ?_) (fun z => absurd rfl z)
    exact W.widen (Nat.le_succ _) (Nat.le_add_right _ _) (fin _ _ _ _ hl hG1 hI1)
theorem lc_630 (C : LC G p s m meth c b L xs) (hi : i + 4 ≤ L) (hL : L ≤ 2048) (hr : cells + 1 ≤ room_1.cells ∧ slots + 6 ≤ room_1.slots) (fin : GO l G p e s m below meth c b i (cells + 1) (slots + 6) Q 655) : GO l G p e s m below meth c b i cells slots Q 630 := by
  intro H locs ls σ hl hG hI
  have hx := C.1
  have hb := C.2.1
  have hown := C.2.2.2.1
  have hts := C.2.2.2.2.1
  have h0 : ls[0]? = some (.val (.ref b)) := lv_at hl 0 rfl
  have h1 : ls[1]? = some (.val (.ref (fr_q G + 0))) := lv_at hl 1 rfl
  have h2 : ls[2]? = some (.val (.ref (fr_q G + 717))) := lv_at hl 2 rfl
  have h3 : ls[3]? = some (.val (.ref (fr_q G + 741))) := lv_at hl 3 rfl
  have h4 : ls[4]? = some (.val (.int (nI i))) := lv_at hl 4 rfl
  have hr0 : cells ≤ room_1.cells ∧ slots ≤ room_1.slots := ⟨by omega, by omega⟩
  refine lv_aload_n hx hb dl_630 rfl h1 ?_
  refine w_el (j := 1) C h0 h4 hG.2.1 hi hL (by decide) dl_631 dl_632 dl_634 dl_635 dl_636 ?_
  refine w_pair (As := [.int (xs (i + 1))]) (E := EI) cp_637 cp_647 C hl hG hr0 (Nat.le_of_ble_eq_true rfl) (Nat.le_of_ble_eq_true rfl) (pair_field hI) (fun H1 L1 st hS hw => ?_) (fun r1 r2 σ1 H1 L1 hE hI1 hG1 => ?_)
  · refine lv_aload_n hx hb dl_640 rfl h2 ?_
    refine w_el (j := 1) C h0 h4 hS hi hL (by decide) dl_641 dl_642 dl_644 dl_645 dl_646 ?_
    exact hw
  · obtain ⟨v, rfl, rfl⟩ := hE
    refine lv_icmp_eq (tgt := 655) hx hb dl_650 (by decide) (fun _ => ?_) (fun z => absurd rfl z)
    exact W.widen (Nat.le_succ _) (Nat.le_add_right _ _) (fin _ _ _ _ hl hG1 hI1)
end LAW
