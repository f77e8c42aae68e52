/-! both sides, call by call -/
/-- both sides stand alike -/
def INV (σ : fr_S) : Prop := ∃ (q : Nat) (b : Nat → Nat) (n : Nat) (pl : Int32) (Fr F : Nat → Nat → Nat) (a : AV) (A B : VM), KP σ q b n pl F a B ∧ RP σ b n pl Fr a A ∧ EqF Fr F ∧ BG Fr A B ∧ AO a
theorem RP.ko {σ σ1 : fr_S} {b : Nat → Nat} {n : Nat} {pl : Int32} {F : Nat → Nat → Nat} {a : AV} {A : VM} (h : RP σ b n pl F a A) (k : KO σ σ1) : RP σ1 b n pl F a A := by
  obtain ⟨⟨h1, h2, h3, h4⟩, h5⟩ := h
  refine ⟨⟨(k 717 1 (by decide)).1.trans h1, h2, fun j hj => (k 718 j (by decide)).1.trans (h3 j hj), h4⟩, h5.cg (fun o g1 _ _ j => (k o j (by omega)).1) (fun j _ => (k 717 j (by decide)).1) (fun o g1 _ j => (k o j (by omega)).2.1) (fun o g1 _ j => (k o j (by omega)).2.2.1) fun j => (k _ j (by decide)).2.2.2⟩
theorem KP.agc {σ σ1 : fr_S} {q : Nat} {b : Nat → Nat} {n : Nat} {pl : Int32} {F : Nat → Nat → Nat} {a : AV} {B : VM} (h : KP σ q b n pl F a B) (g : AgC σ σ1) : KP σ1 q b n pl F a B := by
  have z := (kd_P h.1).2.2.2.2.2
  have z3 : q ≤ 372 := by rcases h.1 with e | e <;> omega
  obtain ⟨_, hR, _, hB, _, _, _, _, hA, hX⟩ := id h
  exact h.al (hB.al fun o k ho => (g.1 o (Or.inl (by omega)) k).1) (hA.al (fun o k ho => (g.1 o (Or.inl (by omega)) k).1) fun o k ho => ⟨(g.1 o (Or.inl (by omega)) k).2.1, (g.1 o (Or.inl (by omega)) k).2.2⟩) (hX.al (fun o k ho => (g.1 o (Or.inl (by omega)) k).1) (fun o k _ _ => ⟨(g.1 o (Or.inl (by omega)) k).2.1, (g.1 o (Or.inl (by omega)) k).2.2⟩) (fun o k _ _ => g.2 o k)) (hR.cg g.2) ⟨g.2 0 3, g.2 0 4⟩ (g.1 0 (Or.inl (by decide)) 5).1 (fun o k _ h2 _ => (g.1 o (Or.inl h2) k).1)
theorem ce_of {l : Launch} {G : fr_G} {Y : fr_Y} {R : Room} {As : List Value} {σ : fr_S} {Q : Option Value → fr_S → Prop} (h : CR l G Y R As σ Q) : CE l G Y R As σ Q (fun _ _ => False) := px_wk (h Q (fun _ _ z => z)) (fun _ _ _ _ z _ _ => Or.inl z)
theorem ce_ct {l : Launch} {G : fr_G} {Y : fr_Y} {R : Room} {As : List Value} {σ σ' : fr_S} {r : Option Value} (h : CT l G Y R As σ r σ') : CE l G Y R As σ (fun r0 σ0 => r0 = r ∧ σ0 = σ') (fun _ _ => False) := px_wk (h (fun r0 σ0 => r0 = r ∧ σ0 = σ') ⟨rfl, rfl⟩) (fun _ _ _ _ z _ _ => Or.inl z)
/-- a call of both: the answers are in a relation, and both sides stand alike -/
def PAIR (l : Launch) (G : fr_G) (Yc : fr_Y) (Rc : Room) (Ym : fr_Y) (Rm : Room) (As : List Value) (σ : fr_S) (E : Option Value → Option Value → Prop) : Prop := ∃ PR1, CE l G Yc Rc (.ref 0 :: As) σ PR1 (fun _ _ => False) ∧ ∀ r1 σ1, PR1 r1 σ1 → ∃ PR2, CE l G Ym Rm (.ref 717 :: As) σ1 PR2 (fun _ _ => False) ∧ ∀ r2 σ2, PR2 r2 σ2 → E r1 r2 ∧ INV σ2
def EI (r1 r2 : Option Value) : Prop := ∃ v : Int32, r1 = some (.int v) ∧ r2 = some (.int v)
def EL (r1 r2 : Option Value) : Prop := ∃ v : Int64, r1 = some (.long v) ∧ r2 = some (.long v)
def ED (r1 r2 : Option Value) : Prop := ∃ v : UInt64, r1 = some (.double v) ∧ r2 = some (.double v)
/-- neither changes anything that counts -/
theorem pair_0 {l : Launch} {G : fr_G} {Yc : fr_Y} {Rc : Room} {Ym : fr_Y} {Rm : Room} {As : List Value} {σ : fr_S} {E : Option Value → Option Value → Prop} {r1 r2 : Option Value} (h : INV σ) (h1 : CT l G Yc Rc (.ref 0 :: As) σ r1 σ) (h2 : CT l G Ym Rm (.ref 717 :: As) σ r2 (sI σ 717 0 0)) (e : E r1 r2) : PAIR l G Yc Rc Ym Rm As σ E := by
  refine ⟨_, ce_ct h1, fun r σ1 z => ?_⟩
  obtain ⟨rfl, rfl⟩ := z
  refine ⟨_, ce_ct h2, fun r σ2 z => ?_⟩
  obtain ⟨rfl, rfl⟩ := z
  obtain ⟨q, b, n, pl, Fr, F, a, A, B, hK, hR, hE, hB, hA⟩ := h
  exact ⟨e, q, b, n, pl, Fr, F, a, A, B, hK.agc (AgC.rf.i (by decide)), hR.c, hE, hB, hA⟩
theorem BG.b3 {F : Nat → Nat → Nat} {A B : VM} (h : BG F A B) : B.1 0 0 ≤ 3 ∧ B.1 1 0 ≤ 6 ∧ B.1 4 0 ≤ 8 := ⟨h.bm.fe.b0, h.bm.fe.b1, h.bm.fe.b4⟩
theorem pair_place {l : Launch} {G : fr_G} {σ : fr_S} (h : INV σ) : PAIR l G yy_V_place rm_V_place yy_Mo_place rm_Mo_place [] σ EI := by
  obtain ⟨q, b, n, pl, Fr, F, a, A, B, hK, hR, hE, hB, hA⟩ := id h
  exact pair_0 h k_place (m_place hR) ⟨_, rfl, by rw [hK.2.2.2.2.1]⟩
theorem pair_state {l : Launch} {G : fr_G} {σ : fr_S} (h : INV σ) : PAIR l G yy_V_state rm_V_state yy_Mo_state rm_Mo_state [] σ EI := by
  obtain ⟨q, b, n, pl, Fr, F, a, A, B, hK, hR, hE, hB, hA⟩ := id h
  exact pair_0 h (k_state hK.2.1 hK.2.2.2.2.2.2.2.2.2 hB.b3) (m_state hR) ⟨_, rfl, by rw [(st_e hB.bm).1]⟩
theorem pair_calls {l : Launch} {G : fr_G} {σ : fr_S} (h : INV σ) : PAIR l G yy_V_calls rm_V_calls yy_Mo_calls rm_Mo_calls [] σ EI := by
  obtain ⟨q, b, n, pl, Fr, F, a, A, B, hK, hR, hE, hB, hA⟩ := id h
  exact pair_0 h (k_calls hK.2.1 hK.2.2.2.2.2.2.2.2.2 hB.b3) (m_calls hR) ⟨_, rfl, by rw [(st_e hB.bm).2.1]⟩
theorem pair_value {l : Launch} {G : fr_G} {σ : fr_S} (h : INV σ) : PAIR l G yy_V_value rm_V_value yy_Mo_value rm_Mo_value [] σ EL := by
  obtain ⟨q, b, n, pl, Fr, F, a, A, B, hK, hR, hE, hB, hA⟩ := id h
  exact pair_0 h (k_value hK.2.1 hK.2.2.2.2.2.2.2.2.2 hB.b3) (m_value hR) ⟨_, rfl, by rw [(vl_e hB.bm).1]⟩
theorem rlA_d {A : VM} (h : DA A) : dB (rlA A) := by
  unfold rlA
  split
  · split
    · exact h 60 (Nat.le_refl _)
    · exact l2d_dB _
  · exact d0_dB
def ED2 (r1 r2 : Option Value) : Prop := ∃ v : UInt64, dB v ∧ r1 = some (.double v) ∧ r2 = some (.double v)
theorem pair_real {l : Launch} {G : fr_G} {σ : fr_S} (h : INV σ) : PAIR l G yy_V_real rm_V_real yy_Mo_real rm_Mo_real [] σ ED2 := by
  obtain ⟨q, b, n, pl, Fr, F, a, A, B, hK, hR, hE, hB, hA⟩ := id h
  exact pair_0 h (k_realV hK.2.1 hK.2.2.2.2.2.2.2.2.2 hB.b3) (m_real hR) ⟨rlA A, rlA_d hB.bm.fe.da, by rw [(vl_e hB.bm).2], rfl⟩
theorem pair_at {l : Launch} {G : fr_G} {σ : fr_S} (h : INV σ) {x : Int32} : PAIR l G yy_V_at rm_V_at yy_Mo_at rm_Mo_at [.int x] σ EI := by
  obtain ⟨q, b, n, pl, Fr, F, a, A, B, hK, hR, hE, hB, hA⟩ := id h
  have hX := hK.2.2.2.2.2.2.2.2.2
  obtain ⟨s1, s2, s3⟩ := st_e hB.bm
  by_cases c : A.1 0 0 = 1 ∧ ¬ x < 0 ∧ x < nI (A.1 1 0)
  · obtain ⟨c1, c2, c3⟩ := c
    obtain ⟨z1, z2⟩ := s3 c1
    have d6 : A.1 1 0 ≤ 6 := by rw [← z1]; exact hB.b3.2.1
    have e := nn_clamp c2
    obtain ⟨j, hj⟩ : ∃ j, j = x.toNatClampNeg := ⟨_, rfl⟩
    rw [← hj] at e
    subst e
    have hjb : j < 2 ^ 31 := by
      rw [hj]
      have := Int32.toInt_lt (nI j)
      have e2 : (nI j).toNatClampNeg = (nI j).toInt.toNat := rfl
      omega
    have hjl : j < A.1 1 0 := (nI_ltI hjb (by omega)).mp c3
    exact pair_0 h (k_at_m hX hB.b3 hK.2.1 (by rw [s1]; exact c1) (by rw [z1]; exact hjl)) (m_at_m hR c1 hjl) ⟨_, rfl, by rw [z1, z2 _ (by omega)]⟩
  · have c' : ¬ A.1 0 0 = 1 ∨ x < 0 ∨ ¬ x < nI (A.1 1 0) := by
      by_cases c1 : A.1 0 0 = 1
      · by_cases c2 : x < 0
        · exact Or.inr (Or.inl c2)
        · exact Or.inr (Or.inr fun c3 => c ⟨c1, c2, c3⟩)
      · exact Or.inl c1
    refine pair_0 h (k_at_n hX hB.b3 hK.2.1 ?_) (m_at_n hR c') ⟨_, rfl, rfl⟩
    by_cases c1 : A.1 0 0 = 1
    · rcases c' with q | q | q
      · exact absurd c1 q
      · exact Or.inr (Or.inl q)
      · rw [(s3 c1).1]
        exact Or.inr (Or.inr q)
    · rw [s1]
      exact Or.inl c1
theorem pair_field {l : Launch} {G : fr_G} {σ : fr_S} (h : INV σ) {x : Int32} : PAIR l G yy_V_field rm_V_field yy_Mo_field rm_Mo_field [.int x] σ EI := by
  obtain ⟨q, b, n, pl, Fr, F, a, A, B, hK, hR, hE, hB, hA⟩ := id h
  obtain ⟨hq, hRf, ⟨h3, _⟩, _, _, ⟨hCP, hW8, _⟩, _, _, _, hX⟩ := hK
  by_cases c : hfO F x = true
  · have c2 := c
    unfold hfO at c2
    rw [decide_eq_true_eq] at c2
    have e := nn_clamp c2.1
    obtain ⟨j, hj⟩ : ∃ j, j = x.toNatClampNeg := ⟨_, rfl⟩
    rw [← hj] at e
    subst e
    have hjb : j < 2 ^ 31 := by
      rw [hj]
      have := Int32.toInt_lt (nI j)
      have e2 : (nI j).toNatClampNeg = (nI j).toInt.toNat := rfl
      omega
    have h14 : F 1 0 ≤ 4 := hW8 1 0
    have hjl : j < F 1 0 := (nI_ltI hjb (by omega)).mp c2.2
    exact pair_0 h (k_field_m hq h3 hRf hW8.fw hCP hX hjl) (m_field_m hR (by rw [← hE.2.1]; exact hjl)) ⟨_, rfl, by rw [hB.bm.fe.ff j (by omega)]⟩
  · have c' : hfO F x = false := by simpa using c
    refine pair_0 h (k_field_n hq h3 hRf hW8.fw hCP c') (m_field_n hR ?_) ⟨_, rfl, rfl⟩
    unfold hfO at c'
    rw [decide_eq_false_iff_not] at c'
    rw [← hE.2.1]
    by_cases c2 : x < 0
    · exact Or.inl c2
    · exact Or.inr fun c3 => c' ⟨c2, c3⟩
theorem pair_verify {l : Launch} {G : fr_G} {σ : fr_S} (h : INV σ) {x : Int32} : PAIR l G yy_V_verify rm_V_verify yy_Mo_verify rm_Mo_verify [.int x] σ EI := by
  obtain ⟨q, b, n, pl, Fr, F, a, A, B, hK, hR, hE, hB, hA⟩ := id h
  obtain ⟨hq, hRf, ⟨h3, _⟩, _, _, ⟨hCP, hW8, _, hMJ, _⟩, _, _, _, hX⟩ := hK
  have hWr := hR.2.2.2.1.2.1.fw
  by_cases c : imO F x = true
  · obtain ⟨m, hm, rfl⟩ := imO_t c (hW8 0 0)
    have hm' : m < Fr 0 0 := by rw [← hE.1]; exact hm
    exact pair_0 h (k_verify_m hq h3 hRf hW8.fw hCP hm (hMJ m hm)) (m_verify_m hR hm') ⟨_, rfl, by rw [hE.vd hWr hm']⟩
  · have c' : imO F x = false := by simpa using c
    exact pair_0 h (k_verify_n hq h3 hRf hW8.fw hCP c') (m_verify_n hR (by rw [← hE.im]; exact c')) ⟨_, rfl, rfl⟩
theorem nn_nat {x : Int32} (h : ¬ x < 0) : ∃ j, x = nI j ∧ j < 2 ^ 31 := by
  refine ⟨x.toNatClampNeg, nn_clamp h, ?_⟩
  have := Int32.toInt_lt x
  have e2 : x.toNatClampNeg = x.toInt.toNat := rfl
  omega
theorem pair_type {l : Launch} {G : fr_G} {σ : fr_S} (h : INV σ) {x u r : Int32} : PAIR l G yy_V_type rm_V_type yy_Mo_type rm_Mo_type [.int x, .int u, .int r] σ EI := by
  obtain ⟨q, b, n, pl, Fr, F, a, A, B, hK, hR, hE, hB, hA⟩ := id h
  obtain ⟨hq, hRf, ⟨h3, _⟩, _, _, ⟨hCP, hW8, _, hMJ, _⟩, _, _, _, hX⟩ := hK
  have hWr := hR.2.2.2.1.2.1.fw
  by_cases c : imO F x = true
  · obtain ⟨m, hm, rfl⟩ := imO_t c (hW8 0 0)
    have hm' : m < Fr 0 0 := by rw [← hE.1]; exact hm
    by_cases cu : u < 0
    · exact pair_0 h (k_type_x hq h3 hRf hW8.fw hCP hm (hMJ m hm) cu) (m_type_n hR (Or.inr cu)) ⟨_, rfl, rfl⟩
    · obtain ⟨p, rfl, hp⟩ := nn_nat cu
      by_cases cr : r < 0
      · exact pair_0 h (k_type_y hq h3 hRf hW8.fw hCP hm (hMJ m hm) hp cr) (m_type_r hR hm' hp cr) ⟨_, rfl, rfl⟩
      · obtain ⟨r', rfl, hr⟩ := nn_nat cr
        exact pair_0 h (k_type_m hq h3 hRf hW8.fw hCP hm (hMJ m hm) hp hr) (m_type_m hR hm' hp hr) ⟨_, rfl, by rw [hE.ty hWr hm']⟩
  · have c' : imO F x = false := by simpa using c
    exact pair_0 h (k_type_n hq h3 hRf hW8.fw hCP c') (m_type_n hR (Or.inl (by rw [← hE.im]; exact c'))) ⟨_, rfl, rfl⟩
theorem pair_put {l : Launch} {G : fr_G} {σ : fr_S} (h : INV σ) {x : Int32} : PAIR l G yy_V_put rm_V_put yy_Mo_put rm_Mo_put [.int x] σ EI := by
  obtain ⟨q, b, n, pl, Fr, F, a, A, B, hK, hR, hE, hB, hA⟩ := id h
  have hKB := hK.2.2.2.1
  have hn := hKB.2.1
  by_cases c : n = 220
  · refine ⟨_, ce_ct (k_putF hK.2.1 hKB (by omega)), fun r σ1 z => ?_⟩
    obtain ⟨rfl, rfl⟩ := z
    refine ⟨_, ce_of (m_put hR), fun r σ2 z => ?_⟩
    obtain ⟨rfl, z2, z3⟩ := z
    rw [if_pos c, if_pos c] at z2
    exact ⟨⟨0, rfl, by rw [decide_eq_false (fun k => k c)]; rfl⟩, q, b, n, pl, Fr, F, a, A, B, hK.agc z3, z2, hE, hB, hA⟩
  · refine ⟨_, ce_ct (k_putT (x := x) hK.2.1 hKB (by omega)), fun r σ1 z => ?_⟩
    obtain ⟨rfl, z⟩ := z
    have hq27 := hK.1.h27
    have e : ∀ o k, o ≠ 2 → ¬ (o = 1 ∧ k = 1) → gI σ1 o k = gI σ o k := fun o k h1 h2 => by rw [z, gI_n (by omega), gI_n (by omega)]
    have e2 : σ1.2 = σ.2 := by rw [z]; rfl
    have eR : ∀ o k, gR σ1 o k = gR σ o k := fun o k => by unfold gR; rw [e2]
    have eL : ∀ o k, gL σ1 o k = gL σ o k ∧ gD σ1 o k = gD σ o k := fun o k => by unfold gL gD; rw [e2]; exact ⟨rfl, rfl⟩
    obtain ⟨_, hRf, _, _, _, _, _, _, hAg, hX⟩ := id hK
    have hK1 : KP σ1 q (va_up b n (byO x)) (n + 1) pl F a B := by
      refine hK.al ⟨by rw [z, gI_s], by omega, fun k hk => ?_, fun k => ?_⟩ (hAg.al (fun o k ho => e o k (by omega) (by omega)) (fun o k _ => eL o k)) (hX.al (fun o k ho => e o k (by omega) (by omega)) (fun o k _ _ => eL o k) (fun o k _ _ => eR o k)) (hRf.cg eR) ⟨eR _ _, eR _ _⟩ (e _ _ (by decide) (by decide)) (fun o k h1 _ _ => e o k (by omega) (by omega))
      · rw [z, gI_n (Or.inl (by decide))]
        by_cases ek : k = n
        · subst ek
          rw [gI_s, up_s]
        · rw [gI_n (Or.inr ek), up_n ek]
          exact hKB.2.2.1 k hk
      · show va_up b n (byO x) k < 256
        unfold va_up
        split
        · exact byO_lt x
        · exact hKB.2.2.2 k
    have hO : KO σ σ1 := fun o k ho => ⟨e o k (by omega) (by omega), (eL o k).1, (eL o k).2, eR o k⟩
    refine ⟨_, ce_of (m_put (hR.ko hO)), fun r σ2 w => ?_⟩
    obtain ⟨rfl, z2, z3⟩ := w
    rw [if_neg c, if_neg c] at z2
    exact ⟨⟨1, rfl, by rw [decide_eq_true c]; rfl⟩, q, _, n + 1, pl, Fr, F, a, A, B, hK1.agc z3, z2, hE, hB, hA⟩
theorem AO.ad {a : AV} (h : AO a) {t : Nat} {w : Int64} {d : UInt64} (hd : dB d) (hv : VRl (fsO t) w w d d) : AO (adA a t w d) := fun k hk => by
  show dB (va_up a.2.2.2 a.1 d k) ∧ (k < a.1 + 1 → VRl (fsO (va_up a.2.1 a.1 t k)) (va_up a.2.2.1 a.1 w k) (va_up a.2.2.1 a.1 w k) (va_up a.2.2.2 a.1 d k) (va_up a.2.2.2 a.1 d k))
  by_cases e : k = a.1
  · subst e
    rw [up_s, up_s, up_s]
    exact ⟨hd, fun _ => hv⟩
  · rw [up_n e, up_n e, up_n e]
    exact ⟨(h k hk).1, fun hl => (h k hk).2 (by omega)⟩
/-- an argument is taken, or there's no room -/
theorem KP.ad {σ : fr_S} {q : Nat} {b : Nat → Nat} {n : Nat} {pl : Int32} {F : Nat → Nat → Nat} {a : AV} {B : VM} (h : KP σ q b n pl F a B) (h3 : a.1 ≠ 3) {t : Nat} (ht : t ≤ 4) {w : Int64} {d : UInt64} : KP (adS σ a.1 (nI (tt t)) w d) q b n pl F (adA a t w d) B ∧ KO σ (adS σ a.1 (nI (tt t)) w d) := by
  have hq27 := h.1.h27
  obtain ⟨_, hRf, _, hB, _, _, _, _, hAg, hX⟩ := id h
  have e : ∀ o k, o ≠ 3 → o ≠ 4 → gI (adS σ a.1 (nI (tt t)) w d) o k = gI σ o k := fun o k h1 h2 => by
    unfold adS
    rw [gI_n (Or.inl h1)]
    exact gI_n (Or.inl h2)
  have eL : ∀ o k, o ≠ 5 → o ≠ 6 → gL (adS σ a.1 (nI (tt t)) w d) o k = gL σ o k ∧ gD (adS σ a.1 (nI (tt t)) w d) o k = gD σ o k := fun o k h1 h2 => ⟨gL_n (Or.inl h1), gD_n (Or.inl h2)⟩
  exact ⟨h.al (hB.al fun o k ho => e o k (by omega) (by omega)) (hAg.ad h3 ht) (hX.al (fun o k ho => e o k (by omega) (by omega)) (fun o k _ _ => eL o k (by omega) (by omega)) (fun _ _ _ _ => rfl)) hRf ⟨rfl, rfl⟩ (e _ _ (by decide) (by decide)) (fun o k h1 _ _ => e o k (by omega) (by omega)), fun o k ho => ⟨e o k (by omega) (by omega), (eL o k (by omega) (by omega)).1, (eL o k (by omega) (by omega)).2, rfl⟩⟩
theorem pair_ad {l : Launch} {G : fr_G} {Yc : fr_Y} {Rc : Room} {Ym : fr_Y} {Rm : Room} {As : List Value} {σ : fr_S} {q : Nat} {b : Nat → Nat} {n : Nat} {pl : Int32} {Fr F : Nat → Nat → Nat} {a : AV} {A B : VM} (hK : KP σ q b n pl F a B) (hR : RP σ b n pl Fr a A) (hE : EqF Fr F) (hB : BG Fr A B) (hA : AO a) {t : Nat} {w : Int64} {d : UInt64} (ht : t ≤ 4) (hd : dB d) (hv : VRl (fsO t) w w d d)
    (hF : a.1 = 3 → CT l G Yc Rc (.ref 0 :: As) σ (some (.int 0)) σ) (hT : a.1 ≠ 3 → CT l G Yc Rc (.ref 0 :: As) σ (some (.int 1)) (adS σ a.1 (nI (tt t)) w d))
    (hm : ∀ σ1, RP σ1 b n pl Fr a A → CR l G Ym Rm (.ref 717 :: As) σ1 (fun r0 σ' => r0 = some (.int (b2i (decide (¬ a.1 = 3)))) ∧ RP σ' b n pl Fr (if a.1 = 3 then a else adA a t w d) A ∧ AgC σ1 σ')) : PAIR l G Yc Rc Ym Rm As σ EI := by
  by_cases c : a.1 = 3
  · refine ⟨_, ce_ct (hF c), fun r σ1 z => ?_⟩
    obtain ⟨rfl, rfl⟩ := z
    refine ⟨_, ce_of (hm _ hR), fun r σ2 z => ?_⟩
    obtain ⟨rfl, z2, z3⟩ := z
    rw [if_pos c] at z2
    exact ⟨⟨0, rfl, by rw [decide_eq_false (fun k => k c)]; rfl⟩, q, b, n, pl, Fr, F, a, A, B, hK.agc z3, z2, hE, hB, hA⟩
  · refine ⟨_, ce_ct (hT c), fun r σ1 z => ?_⟩
    obtain ⟨rfl, rfl⟩ := z
    obtain ⟨hK1, hO⟩ := hK.ad c ht (w := w) (d := d)
    refine ⟨_, ce_of (hm _ (hR.ko hO)), fun r σ2 z => ?_⟩
    obtain ⟨rfl, z2, z3⟩ := z
    rw [if_neg c] at z2
    exact ⟨⟨1, rfl, by rw [decide_eq_true c]; rfl⟩, q, b, n, pl, Fr, F, _, A, B, hK1.agc z3, z2, hE, hB, hA.ad hd hv⟩
theorem pair_pass {l : Launch} {G : fr_G} {σ : fr_S} (h : INV σ) {x : Int32} {v : Int64} : PAIR l G yy_V_pass rm_V_pass yy_Mo_pass rm_Mo_pass [.int x, .long v] σ EI := by
  obtain ⟨q, b, n, pl, Fr, F, a, A, B, hK, hR, hE, hB, hA⟩ := id h
  have hKA := hK.2.2.2.2.2.2.2.2.1
  by_cases c1 : x = 1
  · subst c1
    exact pair_ad hK hR hE hB hA (t := 1) (by decide) d0_dB (VRl.i rfl ⟨_, rfl⟩) (fun z => k_pass1F hK.2.1 hKA z) (fun z => k_pass1T hK.2.1 hKA z) (fun _ z => m_pass_1 z)
  · by_cases c2 : x = 2
    · subst c2
      exact pair_ad hK hR hE hB hA (t := 2) (by decide) d0_dB (VRl.l rfl) (fun z => k_pass2F hK.2.1 hKA z) (fun z => k_pass2T hK.2.1 hKA z) (fun _ z => m_pass_2 z)
    · refine ⟨_, ce_ct (k_passN c1 c2), fun r σ1 z => ?_⟩
      obtain ⟨rfl, rfl⟩ := z
      refine ⟨_, ce_of (m_pass_n hR c1 c2), fun r σ2 z => ?_⟩
      obtain ⟨rfl, z2, z3⟩ := z
      exact ⟨⟨0, rfl, rfl⟩, q, b, n, pl, Fr, F, a, A, B, hK.agc z3, z2, hE, hB, hA⟩
theorem pair_passReal {l : Launch} {G : fr_G} {σ : fr_S} (h : INV σ) {x : Int32} {v : UInt64} (hv : vf_n64 v) : PAIR l G yy_V_passReal rm_V_passReal yy_Mo_passReal rm_Mo_passReal [.int x, .double v] σ EI := by
  obtain ⟨q, b, n, pl, Fr, F, a, A, B, hK, hR, hE, hB, hA⟩ := id h
  have hKA := hK.2.2.2.2.2.2.2.2.1
  by_cases c : (x = 3 ∨ x = 4) ∧ inR v
  · have hdv := inR_dB hv c.2
    have hin : ¬ (Op.cmpValue (FP.dcmp v 14100770433297022976) .l < 0 ∨ ¬ Op.cmpValue (FP.dcmp v 4877398396442247168) .g ≤ 0) := fun z => z.elim c.2.1 (fun z => z c.2.2)
    have hf := d2f_fB hdv
    rcases c.1 with e | e
    · subst e
      exact pair_ad hK hR hE hB hA (t := 3) (by decide) (f2d_dB hf) (VRl.f rfl ⟨_, hf, rfl⟩) (fun z => k_passR3F hK.2.1 hKA z hin hf.vn (f2d_dB hf).vn) (fun z => k_passR3T hK.2.1 hKA z hin hf.vn (f2d_dB hf).vn) (fun _ z => m_passReal_3 z hv c.2)
    · subst e
      exact pair_ad hK hR hE hB hA (t := 4) (by decide) hdv (VRl.d rfl) (fun z => k_passR4F hK.2.1 hKA z hin) (fun z => k_passR4T hK.2.1 hKA z hin) (fun _ z => m_passReal_4 z hv c.2)
  · have c' : (¬ x = 3 ∧ ¬ x = 4) ∨ ¬ inR v := by
      by_cases d : inR v
      · exact Or.inl ⟨fun z => c ⟨Or.inl z, d⟩, fun z => c ⟨Or.inr z, d⟩⟩
      · exact Or.inr d
    refine ⟨_, ce_ct (k_passRN c'), fun r σ1 z => ?_⟩
    obtain ⟨rfl, rfl⟩ := z
    refine ⟨_, ce_of (m_passReal_n hR c'), fun r σ2 z => ?_⟩
    obtain ⟨rfl, z2, z3⟩ := z
    exact ⟨⟨0, rfl, rfl⟩, q, b, n, pl, Fr, F, a, A, B, hK.agc z3, z2, hE, hB, hA⟩

