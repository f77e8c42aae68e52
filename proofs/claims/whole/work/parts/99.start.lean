/-! the start: both sides stand alike; the law's first steps -/
def A00 : VM := (fun _ _ => 0, fun _ => 0, fun _ => 0, fun _ => 0)
theorem inv_0 {σ : fr_S} (h : ∀ o, o < 742 → DN σ o) : INV σ := by
  have gi : ∀ (o K N k : Nat), o < 742 → kd o = (K, N) → K ≠ 8 → gI σ o k = fIk K k := fun o K N k ho hk hK => by
    have := (h o ho).1 k
    rw [hk] at this
    exact this hK
  have gr : ∀ (o K N k : Nat), o < 742 → kd o = (K, N) → gR σ o k = fRk K o k := fun o K N k ho hk => by
    have := (h o ho).2.2.2 k
    rw [hk] at this
    exact this
  have gl : ∀ (o k : Nat), o < 742 → gL σ o k = 0 := fun o k ho => (h o ho).2.1 k
  have gd : ∀ (o k : Nat), o < 742 → gD σ o k = 0 := fun o k ho => (h o ho).2.2.1 k
  have k0 : kd 0 = (0, 0) := by decide +kernel
  have k1 : kd 1 = (1, 0) := by decide +kernel
  have k2 : kd 2 = (20, 220) := by decide +kernel
  have k3 : kd 3 = (2, 0) := by decide +kernel
  have k4 : kd 4 = (20, 3) := by decide +kernel
  have k7 : kd 7 = (3, 0) := by decide +kernel
  have k8 : kd 8 = (24, 6) := by decide +kernel
  have kM : kd 717 = (9, 0) := by decide +kernel
  have hCP : ∀ q, PB q → CP σ q (fun _ _ => 0) := fun q hq => by
    obtain ⟨a0, a1, a2, a3, a4, a5⟩ := kd_P hq
    refine ⟨gi q _ _ 3 (by omega) a0 (by decide), gi q _ _ 4 (by omega) a0 (by decide), fun m hm => ?_⟩
    obtain ⟨b0, b1, b2, b3, b4, b5⟩ := kd_M (ME.m hq hm)
    exact ⟨gi _ _ _ 4 (by omega) b0 (by decide), gi _ _ _ 5 (by omega) b0 (by decide), (gi _ _ _ 6 (by omega) b0 (by decide)).trans rfl, gi _ _ _ 7 (by omega) b0 (by decide), gi _ _ _ 8 (by omega) b0 (by decide), fun k _ => gi _ _ _ k (by omega) b1 (by decide), fun k _ => gi _ _ _ k (by omega) b2 (by decide)⟩
  have hW8 : FW8 (fun _ _ => 0) := fun a k => Nat.zero_le _
  have hFV : FV (fun _ _ => 0) := ⟨fun c j hc => absurd hc (Nat.not_lt_zero _), fun m hm => absurd hm (Nat.not_lt_zero _), fun m hm => absurd hm (Nat.not_lt_zero _)⟩
  have hRF : RF σ := by
    refine ⟨⟨gr 0 _ _ 0 (by decide) k0, gr 0 _ _ 1 (by decide) k0, gr 0 _ _ 2 (by decide) k0, gr 1 _ _ 0 (by decide) k1, gr 3 _ _ 0 (by decide) k3, gr 3 _ _ 1 (by decide) k3, gr 3 _ _ 2 (by decide) k3, gr 7 _ _ 0 (by decide) k7⟩, fun i hi => ?_, fun f hf => ?_, fun q hq => ?_, fun e he => ?_, fun s hs => ?_⟩
    · rw [gr 8 _ _ i (by decide) k8]
      show (if i < 6 then some (8 + 1 + 3 * i) else none) = _
      rw [if_pos hi]
    · obtain ⟨a0, a1, a2, a3, a4⟩ := kd_F hf
      exact ⟨gr f _ _ 0 (by omega) a0, gr f _ _ 1 (by omega) a0⟩
    · obtain ⟨a0, a1, a2, a3, a4, a5⟩ := kd_P hq
      refine ⟨gr q _ _ 0 (by omega) a0, gr q _ _ 1 (by omega) a0, gr q _ _ 2 (by omega) a0, gr _ _ _ 0 (by omega) a3, fun m hm => ?_⟩
      rw [gr _ _ _ m (by omega) a1]
      show (if m < 4 then some (q + 1 + 4 + 85 * m) else none) = _
      rw [if_pos hm]
    · obtain ⟨a0, a1, a2, a3, a4, a5⟩ := kd_M he
      refine ⟨gr e _ _ 0 (by omega) a0, gr e _ _ 1 (by omega) a0, gr e _ _ 2 (by omega) a0, gr e _ _ 3 (by omega) a0, fun u hu => ?_⟩
      rw [gr _ _ _ u (by omega) a3]
      show (if u < 40 then some (e + 3 + 2 + 2 * u) else none) = _
      rw [if_pos hu]
    · obtain ⟨a0, a1, a2, a3⟩ := kd_S hs
      exact gr s _ _ 1 (by omega) a0
  have hAB : ∀ o, 719 ≤ o → o ≤ 740 → ∀ k, gI σ o k = 0 := fun o h1 h2 k => by
    have e := (show ∀ j, j < 22 → (kd (719 + j)).1 = 20 ∨ (kd (719 + j)).1 = 21 ∨ (kd (719 + j)).1 = 22 ∨ (kd (719 + j)).1 = 23 by decide +kernel) (o - 719) (by omega)
    rw [show 719 + (o - 719) = o by omega] at e
    have := (h o (by omega)).1 k
    rcases e with e | e | e | e <;> (rw [e] at this; exact this (by decide))
  have dz : ∀ k : Nat, dB ((fun _ => 0 : Nat → UInt64) k) := fun _ => d0_dB
  have hKA : ∀ k, gI σ 4 k = nI (tt 0) := fun k => gi 4 _ _ k (by decide) k4 (by decide)
  have hNR : NR A00 A00 := ⟨rfl, by decide, by decide, fun e => absurd e (by decide), fun _ _ => rfl, by decide, by decide, fun _ _ => d0_dB, fun _ => d0_dB⟩
  refine ⟨27, fun _ => 0, 0, -1, fun _ _ => 0, fun _ _ => 0, (0, fun _ => 0, fun _ => 0, fun _ => 0), A00, A00, ?_, ?_, ⟨rfl, rfl, fun m hm => absurd hm (Nat.not_lt_zero _)⟩, ⟨Or.inr hNR, fun e => absurd e (by decide)⟩, fun k hk => ⟨d0_dB, fun e => absurd e (Nat.not_lt_zero _)⟩⟩
  · refine ⟨Or.inl rfl, hRF, ⟨gr 0 _ _ 3 (by decide) k0, gr 0 _ _ 4 (by decide) k0⟩, ⟨gi 1 _ _ 1 (by decide) k1 (by decide), by decide, fun k _ => gi 2 _ _ k (by decide) k2 (by decide), fun _ => Nat.le_of_ble_eq_true rfl⟩, gi 0 _ _ 5 (by decide) k0 (by decide), ⟨hCP 27 (Or.inl rfl), hW8, hFV, fun m hm => absurd hm (Nat.not_lt_zero _), fun e => absurd e (Nat.not_lt_zero _)⟩, ⟨_, hCP 372 (Or.inr rfl), hW8⟩, ⟨⟨false, gi 30 6 0 1 (by decide) (by decide +kernel) (by decide)⟩, ⟨false, gi 375 6 0 1 (by decide) (by decide +kernel) (by decide)⟩⟩, ⟨gi 3 _ _ 3 (by decide) k3 (by decide), by decide, fun k _ => hKA k, fun _ => Nat.le_of_ble_eq_true rfl, fun k _ => gl 5 k (by decide), fun k _ => gd 6 k (by decide)⟩, ?_⟩
    refine ⟨gi 7 _ _ 2 (by decide) k7 (by decide), gi 7 _ _ 1 (by decide) k7 (by decide), gi 7 _ _ 3 (by decide) k7 (by decide), gi 7 _ _ 4 (by decide) k7 (by decide), gl 7 5 (by decide), gd 7 6 (by decide), fun i hi => ?_, fun i _ hi => absurd hi (Nat.not_lt_zero _), fun i hi r _ => ⟨gl _ _ (by omega), gd _ _ (by omega)⟩, fun k _ => gi 29 20 4 k (by decide) (by decide +kernel) (by decide)⟩
    obtain ⟨a0, -⟩ := kd_F (FE.f hi)
    exact gi _ _ _ 3 (by omega) a0 (by decide)
  · refine ⟨⟨gi 717 _ _ 1 (by decide) kM (by decide), by decide, fun k _ => gi 718 20 232 k (by decide) (by decide +kernel) (by decide), fun _ => Nat.le_of_ble_eq_true rfl⟩, fun k => gr 717 _ _ k (by decide) kM, gi 717 _ _ 4 (by decide) kM (by decide), ⟨fun a k ha _ => hAB _ (by omega) (by omega) k, hW8, hFV, fun m hm => absurd hm (Nat.not_lt_zero _)⟩, ⟨false, gi 717 _ _ 20 (by decide) kM (by decide)⟩, ⟨gi 717 _ _ 22 (by decide) kM (by decide), by decide, fun k _ => (hAB 733 (by decide) (by decide) k).trans rfl, fun _ => Nat.le_of_ble_eq_true rfl, fun k _ => gl 734 k (by decide), fun k _ => gd 735 k (by decide)⟩, ⟨gi 717 _ _ 26 (by decide) kM (by decide), gi 717 _ _ 27 (by decide) kM (by decide), fun k _ => hAB 736 (by decide) (by decide) k, fun k _ => hAB 737 (by decide) (by decide) k, gi 717 _ _ 32 (by decide) kM (by decide), fun k _ => gl 738 k (by decide), gl 717 33 (by decide), fun k _ => gd 739 k (by decide), gd 717 34 (by decide), fun k _ => hAB 740 (by decide) (by decide) k⟩, ⟨by decide, by decide, fun _ => Nat.le_of_ble_eq_true rfl, fun _ => Nat.le_of_ble_eq_true rfl, by decide⟩⟩
/-- where all the cells behind the first address are the picture's, none is a class's statics -/
theorem NS.pic {G : fr_G} {n : Nat} {σ : fr_S} {H : Heap} (hP : Pic G true n σ H) : NS G H := fun a cell ha hc => by
  have hlt := (Array.getElem?_eq_some_iff.mp hc).1
  have hsz := hP.2 rfl
  obtain ⟨o, rfl⟩ : ∃ o, a = fr_q G + o := ⟨a - fr_q G, by omega⟩
  have ho : o < n := by omega
  have hat := hP.1 o _ (wd_at (G := G) (σ := σ) ho)
  generalize ce G σ o = E at hat
  cases E with
  | inl x =>
    have e : H[fr_q G + o]? = some (vp_cell x.1 x.2) := hat
    rw [hc] at e
    cases e
    obtain ⟨cA, N, f⟩ := x
    rcases f with f | f | f | f | f <;> rfl
  | inr x =>
    obtain ⟨r, -, cell2, g1, -, g3, -⟩ := hat
    have e : H[fr_q G + o]? = some cell2 := g1
    rw [hc] at e
    cases e
    rw [g3]
    rfl
section LAW
variable {l : Launch} {G : fr_G} {p : Program} {e : Env} {s : State} {m : MethodId} {below : List Frame} {meth : Method} {c : Code} {b L : Nat} {xs : Nat → Int32} {H : Heap} {locs : List Loc} {ls : Array Slot} {lv : List (Nat × Value)} {σ : fr_S} {cells slots pc : Nat} {Q : State → Prop}
theorem w_newO {i ci z n : Nat} {C0 : String} {T0 : u_T} {rest : List Value} (C : LC G p s m meth c b L xs) (hP : Pic G true n σ H) (hS : va_S (AA (fr_q G)) s.heap H locs) (hd : decode code pc = .ok (.new i, 3)) (hck : CK ci C0 T0) (hw : Cond.classLink "PairVmLaw" i C0 ∈ al_W) (hin : Cond.instantiable C0 (nfc ci) ∈ al_W) (hini : Cond.initialized C0 ∈ al_W) (hk : kd n = (ci, z)) (hT : ∀ j, j < nfc ci → okT (tyc ci j) = true) (hcells : cells + 1 ≤ room_1.cells) (hslots : slots + nfc ci ≤ room_1.slots)
    (h : ∀ H', Pic G true (n + 1) (sZ σ n) H' → va_S (AA (fr_q G)) s.heap H' locs → W p l e room_1 s m #[Value.ref b] below meth c H' locs (cells + 1) (slots + nfc ci) Q (F0 m (pc + 3) ls (.ref (fr_q G + n) :: rest))) : W p l e room_1 s m #[Value.ref b] below meth c H locs cells slots Q (F0 m pc ls rest) := by
  obtain ⟨hc1, hci, hw0, hty, -⟩ := hck
  have hts := C.2.2.2.2.1
  have hKn := C.2.2.2.2.2.1.1.1 ci _ hc1
  refine W.newcK C.1 C.2.1 C.2.2.2.1 (hts _ hw) (hts _ hin) (hts _ hini) rfl hd hcells hslots hKn.2.1 (hP.2 rfl) fun H1 kC hkC e1 z1 o1 => ?_
  have hq : va_at (fr_D G) cl_all (fr_q G + n, ce G (sZ σ n) n) H1 := by
    unfold ce
    rw [hk, cek_o ci hci, sZ_I, sZ_L, sZ_D, sZ_R]
    refine ⟨_, hc1, (u_born (tyc ci) hts hw0 hKn hkC e1 hty).to (fun j hj => ?_)⟩
    simp [vp_V, ceo, hj, ← fv_0 (hT j hj)]
  obtain ⟨h1, h2⟩ := Pic_push hP hS (by rw [z1, hP.2 rfl]) (fun q hq => o1 q (by rw [← hP.2 rfl]; exact hq)) hq
  exact h H1 h1 h2
theorem w_newL {N n : Nat} {rest : List Value} (C : LC G p s m meth c b L xs) (hP : Pic G true n σ H) (hS : va_S (AA (fr_q G)) s.heap H locs) (hd : decode code pc = .ok (.newarray .long, 2)) (hk : kd n = (22, N)) (hN : N < 4096) (hcells : cells + 1 ≤ room_1.cells) (hslots : slots + N ≤ room_1.slots)
    (h : ∀ H', Pic G true (n + 1) (sZ σ n) H' → va_S (AA (fr_q G)) s.heap H' locs → W p l e room_1 s m #[Value.ref b] below meth c H' locs (cells + 1) (slots + N) Q (F0 m (pc + 2) ls (.ref (fr_q G + n) :: rest))) : W p l e room_1 s m #[Value.ref b] below meth c H locs cells slots Q (F0 m pc ls (.int (nI N) :: rest)) := by
  have hts := C.2.2.2.2.1
  have hby2 : N * 8 ≤ 536870912 := by omega
  refine va_newaK (atype := .long) C.1 C.2.1 (hts _ (al_in 144 (by decide +kernel) rfl)) rfl hd rfl (nI_pos (by omega)) (nI_clamp (by omega)) hby2 hcells hslots (hP.2 rfl) fun H1 cB e1 z1 o1 hAr hNm => ?_
  have e : cB = fr_a G 2 := Option.some.inj (hNm.symm.trans (ty_use C.2.2.2.2.2.1 (j := 2) rfl).2)
  subst e
  have hat : va_at (fr_D G) cl_all (fr_q G + n, ce G (sZ σ n) n) H1 := by
    unfold ce
    rw [hk, sZ_L]
    exact e1
  obtain ⟨g1, g2⟩ := Pic_push hP hS (by rw [z1, hP.2 rfl]) (fun q hq => o1 q (by rw [← hP.2 rfl]; exact hq)) hat
  exact h H1 g1 g2
/-- the law up to its loop -/
theorem lw_go (C : LC G p s m meth c b L xs) (hAO : AOs s) (hl : lv_has ls 9 [(0, .ref b)]) (hgo : GO l G p e s m below meth c b 0 742 20000 Q 23) : W p l e room_1 s m #[Value.ref b] below meth c s.heap [] 0 0 Q (F0 m 0 ls []) := by
  have hx := C.1
  have hb := C.2.1
  have hml := C.2.2.1
  have hown := C.2.2.2.1
  have hts := C.2.2.2.2.1
  have hTB := C.2.2.2.2.2.1
  obtain ⟨σ0, -⟩ : ∃ σ0 : fr_S, True := ⟨(fun _ _ => 0, fun _ _ => 0, fun _ _ => 0, fun _ _ => none), trivial⟩
  have hP0 : Pic G true 0 σ0 s.heap := ⟨fun k q h => by simp [wd] at h, fun _ => C.2.2.2.2.2.2.2.2.2.2.symm⟩
  refine w_newO C hP0 va_S.rf dl_0 ck_V cc_Lw_8 (al_in 97 (by decide +kernel) rfl) (al_in 74 (by decide +kernel) rfl) (z := 0) (by decide +kernel) (by decide) (Nat.le_of_ble_eq_true rfl) (Nat.le_of_ble_eq_true rfl) fun H1 hP1 hS1 => ?_
  refine lv_dup hx hb dl_3 rfl ?_
  refine w_initA (Rc := ri_V) hx hb hml hown hts hl.1 hTB hAO hP1 hS1 dl_4 (al_in 98 (by decide +kernel) rfl) mi_V_init np_V_init (Nat.le_of_ble_eq_true rfl) (Nat.le_of_ble_eq_true rfl) ⟨rfl, rfl, Nat.le_of_ble_eq_true rfl, Nat.le_of_ble_eq_true rfl⟩ ⟨Nat.le_of_ble_eq_true rfl, Nat.le_of_ble_eq_true rfl⟩ (c_V ZR.z) fun r τ H2 L2 hp hP2 hS2 => ?_
  obtain ⟨rfl, -, d1⟩ := hp
  refine lv_astore_n (lv' := [(1, .ref (fr_q G + 0)), (0, .ref b)]) hx hb dl_7 rfl hl (by decide) rfl (fun ls hl => ?_)
  refine w_newO (n := 717) C hP2 hS2 dl_8 ck_Mo cc_Lw_33 (al_in 965 (by decide +kernel) rfl) (al_in 83 (by decide +kernel) rfl) (z := 0) (by decide +kernel) (by decide) (Nat.le_of_ble_eq_true rfl) (Nat.le_of_ble_eq_true rfl) fun H3 hP3 hS3 => ?_
  refine lv_dup hx hb dl_11 rfl ?_
  refine w_initA (Rc := ri_Mo) hx hb hml hown hts hl.1 hTB hAO hP3 hS3 dl_12 (al_in 966 (by decide +kernel) rfl) mi_Mo_init np_Mo_init (Nat.le_of_ble_eq_true rfl) (Nat.le_of_ble_eq_true rfl) ⟨rfl, rfl, Nat.le_of_ble_eq_true rfl, Nat.le_of_ble_eq_true rfl⟩ ⟨Nat.le_of_ble_eq_true rfl, Nat.le_of_ble_eq_true rfl⟩ (px_qa (c_Mo ZR.z)) fun r τ2 H4 L4 hp hP4 hS4 => ?_
  obtain ⟨rfl, d2, d3⟩ := hp
  refine lv_astore_n (lv' := [(2, .ref (fr_q G + 717)), (1, .ref (fr_q G + 0)), (0, .ref b)]) hx hb dl_15 rfl hl (by decide) rfl (fun ls hl => ?_)
  refine lv_iconst (v := nI 1) hx hb dl_16 rfl ?_
  refine w_newL (n := 741) (N := 1) C hP4 hS4 dl_17 (by decide +kernel) (by decide) (Nat.le_of_ble_eq_true rfl) (Nat.le_of_ble_eq_true rfl) fun H5 hP5 hS5 => ?_
  refine lv_astore_n (lv' := [(3, .ref (fr_q G + 741)), (2, .ref (fr_q G + 717)), (1, .ref (fr_q G + 0)), (0, .ref b)]) hx hb dl_19 rfl hl (by decide) rfl (fun ls hl => ?_)
  refine lv_iconst (v := nI 0) hx hb dl_20 rfl ?_
  refine lv_istore (lv' := [(4, .int (nI 0)), (3, .ref (fr_q G + 741)), (2, .ref (fr_q G + 717)), (1, .ref (fr_q G + 0)), (0, .ref b)]) hx hb dl_21 hl (by decide) rfl (fun ls hl => ?_)
  refine W.widen (Nat.le_of_ble_eq_true rfl) (Nat.le_of_ble_eq_true rfl) (hgo H5 _ ls (sZ τ2 741) (lv_sub hl [4, 3, 2, 1, 0] rfl) ⟨⟨hP5.1, fun q => by cases q⟩, hS5, NS.pic hP5⟩ (inv_0 fun o ho => ?_))
  by_cases c1 : o = 741
  · rw [c1]
    exact DN.z (K := 22) (N := 1) ZR.z (by decide +kernel) (by decide)
  · by_cases c2 : o < 717
    · exact ((d1 o (by omega) (by omega)).sm ((SM.rf.z (by omega)).tr (d2 o c2))).sm (SM.rf.z c1)
    · exact (d3 o (by omega) (by omega)).sm (SM.rf.z c1)
end LAW

