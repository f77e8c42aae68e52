/-! both sides, where the class may throw -/
/-- a relation of machines stands for a file that is alike -/
theorem RL.eqf {F F' : Nat → Nat → Nat} (h : EqF F F') (G : GF F) {A B : VM} (r : RL F A B) : RL F' A B := by
  have key : ∀ m p, m < F 0 0 → RH F m p → RH F' m p ∧ TT F' m p = TT F m p ∧ pbG (bgF F' m) p = pbG (bgF F m) p ∧ F' 7 (40 * m + p) = F 7 (40 * m + p) ∧ ∀ p0, pbG (bgF F m) p = some p0 → F' 7 (40 * m + (p0 + 1)) = F 7 (40 * m + (p0 + 1)) := fun m p hm hR => by
    have hv := h.vr G.1 hm (G.2.2 m hm).1
    refine ⟨⟨by rw [(h.2.2 m hm).2.2.2.1]; exact hR.1, by rw [h.bg hm]; exact hR.2.1, by rw [hv]; exact hR.2.2⟩, by unfold TT; rw [hv], by rw [h.bg hm], h.u hm hR.1, fun p0 e => h.u hm ?_⟩
    have := (pbG_lt e).1
    have := hR.1
    omega
  refine ⟨r.c1, r.c2, r.d1, r.d6, r.de, fun i hi => ?_, fun i hi => ?_, fun e => ?_, r.ff, r.b4, r.da, r.db⟩
  · obtain ⟨f1, f2, f3, f4, f5⟩ := r.fm i hi
    obtain ⟨k1, k2, _⟩ := key _ _ f1 f4
    exact ⟨by rw [h.1]; exact f1, f2, f3, k1, by rw [k2]; exact f5⟩
  · obtain ⟨f1, f2, f3, f4, f5⟩ := r.fm i (by omega)
    obtain ⟨_, _, k3, _, k5⟩ := key _ _ f1 f4
    obtain ⟨p0, b1, b2⟩ := r.fc i hi
    exact ⟨p0, by rw [k3]; exact b1, by rw [k5 p0 b1]; exact b2⟩
  · obtain ⟨f1, f2, f3, f4, f5⟩ := r.fm (A.1 1 0 - 1) (by have := r.d1; omega)
    obtain ⟨_, _, k3, k4, k5⟩ := key (cmA A) (cpA A) f1 f4
    rw [k4] at e
    have v := r.rs e
    have f4' : RH F (cmA A) (cpA A) := f4
    have f1' : cmA A < F 0 0 := f1
    have fk := frm_p (f4'.c G f1').1
    obtain ⟨q0, g1, g2, g3, _⟩ := res_ok fk.2.2.1 fk.2.2.2.1 (by unfold isRs at e; rw [decide_eq_true_eq] at e; simpa using e)
    rw [k3]
    have g1' : pbG (bgF F (cmA A)) (cpA A) = some q0 := g1
    rw [g1'] at v ⊢
    have e7 := k5 q0 g1'
    show VRl (fsO (F' 2 (F' 7 (40 * cmA A + (q0 + 1))))) _ _ _ _
    rw [e7, (h.2.2 _ g2).1]
    exact v
theorem BG.eqf {F F' : Nat → Nat → Nat} (h : EqF F F') (hW' : FW F') {A B : VM} (r : BG F A B) : BG F' A B := ⟨r.1.imp (fun z => ⟨h.gf hW' z.1, z.2.eqf h z.1⟩) id, r.2⟩
theorem KP.out {σ : fr_S} {q : Nat} {b : Nat → Nat} {n : Nat} {pl : Int32} {F : Nat → Nat → Nat} {a : AV} {B : VM} (h : KP σ q b n pl F a B) {w : Int64} : KP (sL σ 741 0 w) q b n pl F a B := by
  obtain ⟨_, hR, _, hB, _, _, _, _, hA, hX⟩ := id h
  exact h.al (hB.al fun _ _ _ => rfl) (hA.al (fun _ _ _ => rfl) fun o k ho => ⟨gL_n (Or.inl (by omega)), rfl⟩) (hX.al (fun _ _ _ => rfl) (fun o k _ _ => ⟨gL_n (Or.inl (by omega)), rfl⟩) (fun _ _ _ _ => rfl)) hR ⟨rfl, rfl⟩ rfl (fun _ _ _ _ _ => rfl)
theorem RP.out {σ : fr_S} {b : Nat → Nat} {n : Nat} {pl : Int32} {F : Nat → Nat → Nat} {a : AV} {A : VM} (h : RP σ b n pl F a A) {w : Int64} : RP (sL σ 741 0 w) b n pl F a A := ⟨⟨h.1.1, h.1.2.1, h.1.2.2.1, h.1.2.2.2⟩, h.2.cg (fun _ _ _ _ _ => rfl) (fun _ _ => rfl) (fun o _ g2 _ => gL_n (Or.inl (by omega))) (fun _ _ _ _ => rfl) fun _ => rfl⟩
/-- what the law finds of a helper and of the reference -/
def OK2 (k : Int32) (r2 : Option Value) (σ2 : fr_S) : Prop := ∃ v : Int32, r2 = some (.int v) ∧ gI σ2 717 0 = k ∧ (k = 0 → gL σ2 741 0 = v.toInt64) ∧ INV σ2
def OKv (k : Int32) (r2 : Option Value) (σ2 : fr_S) : Prop := r2 = none ∧ gI σ2 717 0 = k ∧ INV σ2
def TRIP (l : Launch) (G : fr_G) (Yh : fr_Y) (Ash : List Value) (Ym : fr_Y) (Rm : Room) (Asm : List Value) (σ : fr_S) (OK : Int32 → Option Value → fr_S → Prop) : Prop := ∃ PH, PX l G Yh rx_H (QHx Yh G PH) false 742 0 0 0 (lv_args 0 Ash) [] σ ∧ ∀ k σ1, PH k σ1 → ∃ PR2, CE l G Ym Rm (.ref 717 :: Asm) σ1 PR2 (fun _ _ => False) ∧ ∀ r2 σ2, PR2 r2 σ2 → OK k r2 σ2
/-- a file was taken on both sides -/
theorem took {σ σ0 : fr_S} {q : Nat} {b : Nat → Nat} {n : Nat} {pl : Int32} {Fr F : Nat → Nat → Nat} {a : AV} {A B : VM} {b0 : Nat → Nat} {n0 : Nat} (hR : RP σ b0 n0 pl Fr a A) (hE : EqF Fr F) (hB : BG Fr A B) (hA : AO a) :
    (∀ v σ1, TKr q b n Fr a B σ0 (some (.int v)) σ1 → ∀ r2 σ2, QLD (sL σ1 741 0 v.toInt64) b n Fr a A r2 σ2 → OK2 0 r2 σ2) ∧ (∀ E σ1, TKt q b n Fr F a B σ0 E σ1 → ∀ r2 σ2, QLD σ1 b n Fr a A r2 σ2 → OK2 (exK E) r2 σ2) := by
  constructor
  · intro v σ1 h r2 σ2 hQ
    obtain ⟨hg, F2, B2, e, hEq, hK2, c0, c1, c4, hz, hdd, hO⟩ := h
    rcases hQ with ⟨x, _⟩ | ⟨_, rfl, e0, hR2, hAg⟩
    · rw [hg] at x
      exact absurd x (by decide)
    · refine ⟨_, rfl, e0, fun _ => ?_, OTq q, b, 0, -1, kpF (rdF b n Fr).1, F2, a, ldA A, B2, hK2.out.agc hAg, hR2, hEq, ⟨Or.inr ?_, fun z => by omega⟩, hA⟩
      · rw [(hAg.1 741 (Or.inr (Nat.le_refl _)) 0).2.1, gL_s]
        have : v = nI (F2 0 0) := by cases e; rfl
        rw [this, hEq.1]
      · have fe := hB.bm.fe
        exact NR.id (A := (A.1, A.2.1, A.2.2.1, fun _ => 0)) (B := B2) ⟨fun k hk => hz k hk, by omega, by omega, by rw [c4]; exact fe.b4, fe.da, by rw [hdd]; exact fe.db⟩ (Or.inl rfl) c0 (by omega) (by rw [c4]; exact fe.b4) (fun k hk => hz k hk) (by rw [hdd]; exact fe.db)
  · intro E σ1 h r2 σ2 hQ
    obtain ⟨hg, rfl, hK2, hO⟩ := h
    rcases hQ with ⟨_, rfl, e0, hR2, hAg⟩ | ⟨x, _⟩
    · have hW := hR.2.2.2.1.2.1.fw
      have hEr := rdF_eq (b := b) (n := n) hW
      have hW2 := hR2.2.2.2.1.2.1.fw
      exact ⟨0, rfl, by rw [exK_I]; exact e0, fun z => absurd z (by rw [exK_I]; decide), q, b, 0, _, (rdF b n Fr).1, F, a, A, B, hK2.agc hAg, hR2, hEr.sy.tr hE, hB.eqf hEr hW2, hA⟩
    · rw [hg] at x
      exact absurd x (by decide)
theorem trip_load {l : Launch} {G : fr_G} {σ : fr_S} (hfl : l.flags = pinnedFlags ++ [noTraceFlag]) (h : INV σ) : TRIP l G yy_Lw_load [.ref 0, .ref 741] yy_Mo_load rm_Mo_load [] σ OK2 := by
  obtain ⟨q, b, n, pl, Fr, F, a, A, B, hK, hR, hE, hB, hA⟩ := id h
  obtain ⟨t1, t2⟩ := took (σ0 := σ) (q := q) (b := b) (n := n) hR hE hB hA
  refine ⟨_, h_load hfl hK Fr, fun k σ1 z => ?_⟩
  rcases z with ⟨rfl, v, σ', z1, rfl⟩ | ⟨E, z1, rfl⟩
  · have hO : KO σ σ' := by
      obtain ⟨_, F2, B2, _, _, _, _, _, _, _, _, w⟩ := z1
      exact w
    exact ⟨_, ce_of (m_load (hR.ko hO).out), fun r2 σ2 w => t1 v σ' z1 r2 σ2 w⟩
  · exact ⟨_, ce_of (m_load (hR.ko z1.2.2.2)), fun r2 σ2 w => t2 E σ1 z1 r2 σ2 w⟩
theorem trip_seal {l : Launch} {G : fr_G} {σ : fr_S} (hfl : l.flags = pinnedFlags ++ [noTraceFlag]) (h : INV σ) : TRIP l G yy_Lw_seal [.ref 0, .ref 741] yy_Mo_seal rm_Mo_seal [] σ OK2 := by
  obtain ⟨q, b, n, pl, Fr, F, a, A, B, hK, hR, hE, hB, hA⟩ := id h
  refine ⟨_, h_seal hfl hK Fr, fun k σ1 z => ?_⟩
  rcases z with ⟨rfl, v, σ', ⟨hn, σ0, hO0, z1⟩, rfl⟩ | ⟨E, z1, rfl⟩
  · obtain ⟨t1, t2⟩ := took (σ0 := σ0) (q := q) (b := slB b n) (n := n + 8) hR hE hB hA
    have hO : KO σ0 σ' := by
      obtain ⟨_, F2, B2, _, _, _, _, _, _, _, _, w⟩ := z1
      exact w
    refine ⟨_, ce_of (m_seal (hR.ko (hO0.tr hO)).out), fun r2 σ2 w => ?_⟩
    rcases w with ⟨w1, _⟩ | ⟨_, w⟩
    · omega
    · exact t1 v σ' z1 r2 σ2 w
  · rcases z1 with ⟨hn, rfl, hK1, hO⟩ | ⟨hn, σ0, hO0, z1⟩
    · refine ⟨_, ce_of (m_seal (hR.ko hO)), fun r2 σ2 w => ?_⟩
      rcases w with ⟨_, rfl, e0, hR2, hAg⟩ | ⟨w1, _⟩
      · exact ⟨0, rfl, by rw [exK_I]; exact e0, fun z => absurd z (by rw [exK_I]; decide), q, b, n, pl, Fr, F, a, A, B, hK1.agc hAg, hR2, hE, hB, hA⟩
      · omega
    · obtain ⟨t1, t2⟩ := took (σ0 := σ0) (q := q) (b := slB b n) (n := n + 8) hR hE hB hA
      refine ⟨_, ce_of (m_seal (hR.ko (hO0.tr z1.2.2.2))), fun r2 σ2 w => ?_⟩
      rcases w with ⟨w1, _⟩ | ⟨_, w⟩
      · omega
      · exact t2 E σ1 z1 r2 σ2 w
theorem AO.a0 {a : AV} (h : AO a) : AO (a_0 a) := fun k hk => ⟨(h k hk).1, fun z => absurd z (Nat.not_lt_zero _)⟩
theorem GF.uf {F : Nat → Nat → Nat} (hW : FW F) (hV : FV F) (h : ufO F (F 0 0) = false) : GF F := ⟨hW, hV, fun m hm => GM.of hW (ufO_all h m hm)⟩
theorem trip_call {l : Launch} {G : fr_G} {σ : fr_S} (hfl : l.flags = pinnedFlags ++ [noTraceFlag]) (h : INV σ) {x : Int32} : TRIP l G yy_Lw_call [.ref 0, .int x] yy_Mo_call rm_Mo_call [.int x] σ OKv := by
  obtain ⟨q, b, n, pl, Fr, F, a, A, B, hK, hR, hE, hB, hA⟩ := id h
  have hWr := hR.2.2.2.1.2.1.fw
  have hVr := hR.2.2.2.1.2.2.1
  refine ⟨_, h_call hfl hK (x := x), fun k σ1 z => ?_⟩
  rcases z with ⟨rfl, _, m, hm, rfl, hs, hu, hK1, hO⟩ | ⟨E, ⟨z1, hK1, hO⟩, rfl⟩
  · have hm' : m < Fr 0 0 := by rw [← hE.1]; exact hm
    have hs' : suO Fr a m = true := by rw [← hE.su hm']; exact hs
    have hu' : ufO Fr (Fr 0 0) = false := by rw [← hE.uf hWr]; exact hu
    have hn : Fr 3 m = a.1 := (suO_t hs').1
    refine ⟨_, ce_of (m_call_m (hR.ko hO) hm'), fun r2 σ2 w => ?_⟩
    obtain ⟨rfl, e0, hR2, hAg⟩ := w
    have ec : caR Fr a A m = (0, beA Fr a A m) := by
      unfold caR
      rw [hs', hu', if_neg (by decide), if_neg (by decide)]
    rw [ec] at e0 hR2
    have hG := GF.uf hWr hVr hu'
    have hbe := beg hG hB.bm.fe hR.2.2.2.2.2.1.2.1 hA hm' hs'
    rw [← hE.bB hm' hn] at hbe
    exact ⟨rfl, e0, q, b, n, pl, Fr, F, a_0 a, _, _, hK1.agc hAg, hR2, hE, ⟨Or.inl ⟨hG, hbe⟩, fun _ => rfl⟩, hA.a0⟩
  · have ref : ∀ (y : Int32), y = exK E → (∃ z : Int32, CR l G yy_Mo_call rm_Mo_call [.ref 717, .int x] σ1 (fun r0 σ' => r0 = none ∧ gI σ' 717 0 = y ∧ RP σ' b n pl Fr (a_0 a) A ∧ AgC σ1 σ')) → ∃ PR2, CE l G yy_Mo_call rm_Mo_call (.ref 717 :: [.int x]) σ1 PR2 (fun _ _ => False) ∧ ∀ r2 σ2, PR2 r2 σ2 → OKv (exK E) r2 σ2 := fun y ey hc => by
      obtain ⟨_, hc⟩ := hc
      refine ⟨_, ce_of hc, fun r2 σ2 w => ?_⟩
      obtain ⟨rfl, e0, hR2, hAg⟩ := w
      exact ⟨rfl, e0.trans ey, q, b, n, pl, Fr, F, a_0 a, A, B, hK1.agc hAg, hR2, hE, hB, hA.a0⟩
    rcases z1 with ⟨rfl, c | ⟨m, hm, rfl, hs⟩⟩ | ⟨rfl, m, hm, rfl, hs, hu⟩
    · exact ref 1 exK_I.symm ⟨0, fun Post hp => m_call_n (hR.ko hO) (by rw [← hE.im]; exact c) Post (fun r σ' w => hp r σ' w)⟩
    · have hm' : m < Fr 0 0 := by rw [← hE.1]; exact hm
      have hs' : suO Fr a m = false := by rw [← hE.su hm']; exact hs
      have ec : caR Fr a A m = (1, A) := by
        unfold caR
        rw [hs', if_pos rfl]
      exact ref 1 exK_I.symm ⟨0, fun Post hp => m_call_m (hR.ko hO) hm' Post (fun r σ' w => hp r σ' (by rw [ec] at w; exact w))⟩
    · have hm' : m < Fr 0 0 := by rw [← hE.1]; exact hm
      have hs' : suO Fr a m = true := by rw [← hE.su hm']; exact hs
      have hu' : ufO Fr (Fr 0 0) = true := by rw [← hE.uf hWr]; exact hu
      have ec : caR Fr a A m = (2, A) := by
        unfold caR
        rw [hs', hu', if_neg (by decide), if_pos rfl]
      exact ref 2 exK_S.symm ⟨0, fun Post hp => m_call_m (hR.ko hO) hm' Post (fun r σ' w => hp r σ' (by rw [ec] at w; exact w))⟩
theorem trip_run {l : Launch} {G : fr_G} {σ : fr_S} (hfl : l.flags = pinnedFlags ++ [noTraceFlag]) (h : INV σ) {x : Int32} : TRIP l G yy_Lw_run [.ref 0, .int x, .ref 741] yy_Mo_run rm_Mo_run [.int x] σ OK2 := by
  obtain ⟨q, b, n, pl, Fr, F, a, A, B, hK, hR, hE, hB, hA⟩ := id h
  have mr : ∀ σ1, RP σ1 b n pl Fr a A → CR l G yy_Mo_run rm_Mo_run [.ref 717, .int x] σ1 (fun r0 σ' => r0 = some (.int (rnX Fr A x).2.1) ∧ gI σ' 717 0 = nI (rnX Fr A x).1 ∧ RP σ' b n pl Fr a (rnX Fr A x).2.2 ∧ AgC σ1 σ') := fun σ1 hR1 => by
    rcases hB.1 with ⟨hG, hRL⟩ | hN
    · exact fun Post hp => m_run (I := fun A => ∃ B, RL Fr A B ∨ NR A B) (run_I hG) ⟨B, Or.inl hRL⟩ hR1.mx Post (fun r σ' w => hp r σ' ⟨w.1, w.2.1, hR1.mv w.2.2, AgC.m w.2.2.2.2.2.2.2⟩)
    · exact fun Post hp => m_run (I := fun A' => A' = A) (fun A' e e1 => absurd (e ▸ e1) hN.c1) rfl hR1.mx Post (fun r σ' w => hp r σ' ⟨w.1, w.2.1, hR1.mv w.2.2, AgC.m w.2.2.2.2.2.2.2⟩)
  refine ⟨_, h_run hfl hK hE hB (x := x), fun k σ1 z => ?_⟩
  rcases z with ⟨rfl, v, σ', ⟨hx, a1, e1, e2, B2, hB2, hK2, hO⟩, rfl⟩ | ⟨E, z1, rfl⟩
  · refine ⟨_, ce_of (mr _ (hR.ko hO).out), fun r2 σ2 w => ?_⟩
    obtain ⟨rfl, e0, hR2, hAg⟩ := w
    have eX : rnX Fr A x = (0, nI (rnA Fr x.toNatClampNeg A).1, (rnA Fr x.toNatClampNeg A).2.2) := by
      unfold rnX
      rw [if_neg hx, if_neg (fun z => z a1), if_pos e1]
    rw [eX] at e0 hR2 ⊢
    refine ⟨_, rfl, e0, fun _ => ?_, q, b, n, pl, Fr, F, a, _, B2, hK2.out.agc hAg, hR2, hE, hB2, hA⟩
    rw [(hAg.1 741 (Or.inr (Nat.le_refl _)) 0).2.1, gL_s]
    have : v = nI (rnA Fr x.toNatClampNeg A).1 := by cases e2; rfl
    rw [this]
  · rcases z1 with ⟨hx, rfl, rfl⟩ | ⟨hx, a1, rfl, rfl⟩ | ⟨hx, a1, hc, B2, hB2, hK2, hO⟩
    · refine ⟨_, ce_of (mr _ hR), fun r2 σ2 w => ?_⟩
      obtain ⟨rfl, e0, hR2, hAg⟩ := w
      have eX : rnX Fr A x = (1, 0, A) := by
        unfold rnX
        rw [if_pos hx]
      rw [eX] at e0 hR2 ⊢
      exact ⟨_, rfl, by rw [exK_I]; exact e0, fun z => absurd z (by rw [exK_I]; decide), q, b, n, pl, Fr, F, a, A, B, hK.agc hAg, hR2, hE, hB, hA⟩
    · refine ⟨_, ce_of (mr _ hR), fun r2 σ2 w => ?_⟩
      obtain ⟨rfl, e0, hR2, hAg⟩ := w
      have eX : rnX Fr A x = (2, 0, A) := by
        unfold rnX
        rw [if_neg hx, if_pos a1]
      rw [eX] at e0 hR2 ⊢
      exact ⟨_, rfl, by rw [exK_S]; exact e0, fun z => absurd z (by rw [exK_S]; decide), q, b, n, pl, Fr, F, a, A, B, hK.agc hAg, hR2, hE, hB, hA⟩
    · refine ⟨_, ce_of (mr _ (hR.ko hO)), fun r2 σ2 w => ?_⟩
      obtain ⟨rfl, e0, hR2, hAg⟩ := w
      rcases hc with ⟨e1, rfl⟩ | ⟨e1, rfl⟩
      · have eX : rnX Fr A x = (3, 0, idA (rnA Fr x.toNatClampNeg A).2.2 3) := by
          unfold rnX
          rw [if_neg hx, if_neg (fun z => z a1), if_neg (by omega), e1]
        rw [eX] at e0 hR2 ⊢
        exact ⟨_, rfl, by rw [exK_A]; exact e0, fun z => absurd z (by rw [exK_A]; decide), q, b, n, pl, Fr, F, a, _, B2, hK2.agc hAg, hR2, hE, hB2, hA⟩
      · have eX : rnX Fr A x = (4, 0, idA (rnA Fr x.toNatClampNeg A).2.2 3) := by
          unfold rnX
          rw [if_neg hx, if_neg (fun z => z a1), if_neg (by omega), e1]
        rw [eX] at e0 hR2 ⊢
        exact ⟨_, rfl, by rw [exK_U]; exact e0, fun z => absurd z (by rw [exK_U]; decide), q, b, n, pl, Fr, F, a, _, B2, hK2.agc hAg, hR2, hE, hB2, hA⟩

