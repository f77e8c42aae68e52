/-! all that the class holds; a file is taken -/
def OTq (q : Nat) : Nat := if q = 27 then 372 else 27
theorem OTq.pb (q : Nat) : PB (OTq q) := by
  unfold OTq
  split
  · exact Or.inr rfl
  · exact Or.inl rfl
theorem OTq.far {q : Nat} (h : PB q) : (q + 345 ≤ OTq q ∨ OTq q + 345 ≤ q) ∧ OTq (OTq q) = q := by
  rcases h with rfl | rfl
  · exact ⟨Or.inl (by decide), rfl⟩
  · exact ⟨Or.inr (by decide), rfl⟩
/-- a program that was read and judged -/
def PP (σ : fr_S) (q : Nat) (F : Nat → Nat → Nat) : Prop := CP σ q F ∧ FW8 F ∧ FV F ∧ (∀ m, m < F 0 0 → MJ σ (q + 5 + 85 * m) F m) ∧ (0 < F 0 0 → gI σ q 5 = b2i (!ufO F (F 0 0)))
theorem CP.al {σ σ' : fr_S} {q : Nat} {F : Nat → Nat → Nat} (h : CP σ q F) (e : ∀ o k, q ≤ o → o < q + 345 → o ≠ q + 2 → o ≠ q + 3 → gI σ' o k = gI σ o k) : CP σ' q F :=
  h.cg (fun k _ _ => e q k (by omega) (by omega) (by omega) (by omega)) fun m hm o k z => e o k (by omega) (by omega) (by omega) (by omega)
theorem PP.al {σ σ' : fr_S} {q : Nat} {F : Nat → Nat → Nat} (h : PP σ q F) (e : ∀ o k, q ≤ o → o < q + 345 → o ≠ q + 2 → o ≠ q + 3 → gI σ' o k = gI σ o k) : PP σ' q F := by
  obtain ⟨a, b, c, d, f⟩ := h
  refine ⟨a.al e, b, c, fun m hm => ?_, fun hm => (e q 5 (by omega) (by omega) (by omega) (by omega)).trans (f hm)⟩
  have := b 0 0
  have h4 : F 0 0 ≤ 4 := b 0 0
  exact (d m hm).cg fun o k h1 h2 => e o k (by omega) (by omega) (by omega) (by omega)
theorem CX.al {σ σ' : fr_S} {q : Nat} {B : VM} (h : CX σ q B) (e : ∀ o k, ((7 ≤ o ∧ o < 27) ∨ o = q + 2) → gI σ' o k = gI σ o k) (l : ∀ o k, 7 ≤ o → o < 27 → gL σ' o k = gL σ o k ∧ gD σ' o k = gD σ o k) (r : ∀ o k, 9 ≤ o → o < 27 → gR σ' o k = gR σ o k) : CX σ' q B := by
  obtain ⟨h1, h2, h3, h4, h5, h6, h7, h8, h9, h10⟩ := h
  exact ⟨(e _ _ (by omega)).trans h1, (e _ _ (by omega)).trans h2, (e _ _ (by omega)).trans h3, (e _ _ (by omega)).trans h4, (l _ _ (by omega) (by omega)).1.trans h5, (l _ _ (by omega) (by omega)).2.trans h6, fun i hi => (e _ _ (by omega)).trans (h7 i hi), fun i hi hn => (r _ _ (by omega) (by omega)).trans (h8 i hi hn), fun i hi x hx => ⟨(l _ _ (by omega) (by omega)).1.trans (h9 i hi x hx).1, (l _ _ (by omega) (by omega)).2.trans (h9 i hi x hx).2⟩, fun k hk => (e _ _ (by omega)).trans (h10 k hk)⟩
theorem KA.al {σ σ' : fr_S} {a : AV} (h : KA σ a) (e : ∀ o k, o = 3 ∨ o = 4 → gI σ' o k = gI σ o k) (l : ∀ o k, o = 5 ∨ o = 6 → gL σ' o k = gL σ o k ∧ gD σ' o k = gD σ o k) : KA σ' a := by
  obtain ⟨h1, h2, h3, h4, h5, h6⟩ := h
  exact ⟨(e _ _ (by omega)).trans h1, h2, fun k hk => (e _ _ (by omega)).trans (h3 k hk), h4, fun k hk => (l _ _ (by omega)).1.trans (h5 k hk), fun k hk => (l _ _ (by omega)).2.trans (h6 k hk)⟩
theorem KB.al {σ σ' : fr_S} {b : Nat → Nat} {n : Nat} (h : KB σ b n) (e : ∀ o k, (o = 1 ∧ k = 1) ∨ o = 2 → gI σ' o k = gI σ o k) : KB σ' b n := ⟨(e _ _ (by omega)).trans h.1, h.2.1, fun k hk => (e _ _ (by omega)).trans (h.2.2.1 k hk), h.2.2.2⟩
theorem RF.sp {σ : fr_S} {k : Nat} (hk : k = 3 ∨ k = 4) {v : Option Nat} (h : RF σ) : RF (sR σ 0 k v) := by
  have n : ∀ o j, ¬ (o = 0 ∧ j = k) → gR (sR σ 0 k v) o j = gR σ o j := fun o j q => by
    show (if o = 0 ∧ j = k then v else σ.2.2.2 o j) = _
    rw [if_neg q]
    rfl
  have hPB : ∀ q, PB q → 27 ≤ q := fun q hq => hq.h27
  have hMEb : ∀ e, ME e → 27 ≤ e := fun e he => by
    obtain ⟨q, m, hq, hm, rfl⟩ := he
    have := hPB q hq
    omega
  obtain ⟨h1, h2, h3, h4, h5, h6⟩ := h
  refine ⟨⟨?_, ?_, ?_, ?_, ?_, ?_, ?_, ?_⟩, fun i hi => ?_, fun g hg => ⟨?_, ?_⟩, fun q hq => ?_, fun e he => ?_, fun s hs => ?_⟩
  · exact (n _ _ (by omega)).trans h1.1
  · exact (n _ _ (by omega)).trans h1.2.1
  · exact (n _ _ (by omega)).trans h1.2.2.1
  · exact (n _ _ (by omega)).trans h1.2.2.2.1
  · exact (n _ _ (by omega)).trans h1.2.2.2.2.1
  · exact (n _ _ (by omega)).trans h1.2.2.2.2.2.1
  · exact (n _ _ (by omega)).trans h1.2.2.2.2.2.2.1
  · exact (n _ _ (by omega)).trans h1.2.2.2.2.2.2.2
  · exact (n _ _ (by omega)).trans (h2 i hi)
  · obtain ⟨i, hi, e⟩ := id hg
    exact (n _ _ (by omega)).trans (h3 g hg).1
  · obtain ⟨i, hi, e⟩ := id hg
    exact (n _ _ (by omega)).trans (h3 g hg).2
  · have := hPB q hq
    obtain ⟨a, b, c, d, f⟩ := h4 q hq
    exact ⟨(n _ _ (by omega)).trans a, (n _ _ (by omega)).trans b, (n _ _ (by omega)).trans c, (n _ _ (by omega)).trans d, fun m hm => (n _ _ (by omega)).trans (f m hm)⟩
  · have := hMEb e he
    obtain ⟨a, b, c, d, f⟩ := h5 e he
    exact ⟨(n _ _ (by omega)).trans a, (n _ _ (by omega)).trans b, (n _ _ (by omega)).trans c, (n _ _ (by omega)).trans d, fun u hu => (n _ _ (by omega)).trans (f u hu)⟩
  · obtain ⟨e, u, he, hu, e1⟩ := id hs
    have := hMEb e he
    exact (n _ _ (by omega)).trans (h6 s hs)
/-- all that the class holds -/
def KP (σ : fr_S) (q : Nat) (b : Nat → Nat) (n : Nat) (pl : Int32) (F : Nat → Nat → Nat) (a : AV) (B : VM) : Prop := PB q ∧ RF σ ∧ (gR σ 0 3 = some q ∧ gR σ 0 4 = some (OTq q)) ∧ KB σ b n ∧ gI σ 0 5 = pl ∧ PP σ q F ∧ (∃ F', CP σ (OTq q) F' ∧ FW8 F') ∧ ((∃ c, gI σ (q + 3) 1 = b2i c) ∧ ∃ c, gI σ (OTq q + 3) 1 = b2i c) ∧ KA σ a ∧ CX σ q B
/-- the reference's cells and the law's stay -/
def KO (σ σ' : fr_S) : Prop := (∀ o k, 717 ≤ o → gI σ' o k = gI σ o k ∧ gL σ' o k = gL σ o k ∧ gD σ' o k = gD σ o k ∧ gR σ' o k = gR σ o k)
theorem KO.rf {σ : fr_S} : KO σ σ := fun _ _ _ => ⟨rfl, rfl, rfl, rfl⟩
theorem KO.tr {a b c : fr_S} (h : KO a b) (k : KO b c) : KO a c := fun o x ho => ⟨(k o x ho).1.trans (h o x ho).1, (k o x ho).2.1.trans (h o x ho).2.1, (k o x ho).2.2.1.trans (h o x ho).2.2.1, (k o x ho).2.2.2.trans (h o x ho).2.2.2⟩
theorem nxP_le {b : Nat → Nat} {n lo hi d N : Nat} {s : PS} (hn : n ≤ N) (h : s.1 ≤ N) : (nx b n lo hi d s).2.1 ≤ N := by
  unfold nx
  split
  · exact h
  · split
    · rename_i _ h2
      show s.1 + 1 ≤ N
      omega
    · exact h
theorem rdP_le {b : Nat → Nat} {n m N : Nat} {dl : Bool} (hn : n ≤ N) {q : (Nat → Nat → Nat) × PS} (h : q.2.1 ≤ N) : ∀ k, (rdP b n m dl k q).2.1 ≤ N
  | 0 => h
  | k + 1 => nxP_le hn (rdP_le hn h k)
theorem rdU_le {b : Nat → Nat} {n m N : Nat} (hn : n ≤ N) {q : (Nat → Nat → Nat) × PS} (h : q.2.1 ≤ N) : ∀ k, (rdU b n m k q).2.1 ≤ N
  | 0 => h
  | k + 1 => nxP_le hn (nxP_le hn (rdU_le hn h k))
theorem rdN_le {b : Nat → Nat} {n N : Nat} {s : PS} (hn : n ≤ N) (h : s.1 ≤ N) : (rdN b n s).2.1 ≤ N := by
  unfold rdN
  split
  · exact nxP_le hn (nxP_le hn h)
  · exact nxP_le hn h
theorem rdS_le {N : Nat} {u : Nat × PS} (h : u.2.1 ≤ N) : (rdS u).1 ≤ N := by
  unfold rdS
  split
  · show u.2.1 - 1 ≤ N
    omega
  · exact h
theorem rdT_le {b : Nat → Nat} {n m N : Nat} (hn : n ≤ N) {q : (Nat → Nat → Nat) × PS} (h : q.2.1 ≤ N) : (rdT b n m q).2.1 ≤ N := by
  unfold rdT
  split
  · exact rdS_le (rdN_le hn (nxP_le hn h))
  · exact rdU_le hn (rdS_le (rdN_le hn (nxP_le hn h))) _
theorem rdM_le {b : Nat → Nat} {n m N : Nat} {F : Nat → Nat → Nat} {s : PS} (hn : n ≤ N) (h : s.1 ≤ N) : (rdM b n m F s).2.1 ≤ N := rdT_le hn (rdP_le hn (nxP_le hn (nxP_le hn h)) _)
theorem rdL_le {b : Nat → Nat} {n N : Nat} {q : (Nat → Nat → Nat) × PS} (hn : n ≤ N) (h : q.2.1 ≤ N) : ∀ k, (rdL b n q k).2.1 ≤ N
  | 0 => h
  | k + 1 => by
    unfold rdL
    split
    · exact rdL_le hn h k
    · exact rdM_le hn (rdL_le hn h k)
theorem rdC_le {b : Nat → Nat} {n N : Nat} {s : PS} (hn : n ≤ N) (h : s.1 ≤ N) : ∀ k, (rdC b n s k).2.1 ≤ N
  | 0 => h
  | k + 1 => nxP_le hn (rdC_le hn h k)
theorem rdE_le {b : Nat → Nat} {n c N : Nat} {s : PS} (h4 : 4 ≤ N) (h : s.1 ≤ N) : (rdE b n c s).1 ≤ N := by
  have h0 : (rdE0 n s).1 ≤ N := by
    unfold rdE0
    split <;> exact h
  unfold rdE
  split
  · exact h4
  · exact h0
theorem rdF_le {b : Nat → Nat} {n : Nat} {F : Nat → Nat → Nat} (hn : n ≤ 220) : (rdF b n F).2.1 ≤ 220 :=
  rdE_le (by decide) (rdL_le hn (nxP_le hn (nxP_le hn (rdC_le hn (nxP_le hn (nxP_le hn (nxP_le hn (nxP_le hn (Nat.zero_le _))))) _))) _)
theorem rCE_le {b : Nat → Nat} {n : Nat} {F : Nat → Nat → Nat} (hn : n ≤ 220) : (rCE b n F).1 ≤ 220 := by
  rw [rCE_e (Fr := F)]
  exact rdF_le hn
abbrev rx_takeFile : Room := { frames := 6, cells := 1, slots := 6, locals := 134 }
def TKr (q : Nat) (b : Nat → Nat) (n : Nat) (Fr : Nat → Nat → Nat) (a : AV) (B : VM) (σ : fr_S) (r0 : Option Value) (σ' : fr_S) : Prop := (rdF b n Fr).2.2 = false ∧ ∃ (F2 : Nat → Nat → Nat) (B2 : VM), r0 = some (.int (nI (F2 0 0))) ∧ EqF (kpF (rdF b n Fr).1) F2 ∧ KP σ' (OTq q) b 0 (-1) F2 a B2 ∧ B2.1 0 0 = 0 ∧ B2.1 1 0 = 0 ∧ B2.1 4 0 = B.1 4 0 ∧ (∀ k, k < 4 → B2.2.2.2 k = 0) ∧ B2.2.2.1 = B.2.2.1 ∧ KO σ σ'
def TKt (q : Nat) (b : Nat → Nat) (n : Nat) (Fr F : Nat → Nat → Nat) (a : AV) (B : VM) (σ : fr_S) (E : String) (σ' : fr_S) : Prop := (rdF b n Fr).2.2 = true ∧ E = ex_I ∧ KP σ' q b 0 (ilI (rdF b n Fr).2) F a B ∧ KO σ σ'
set_option maxRecDepth 100000 in
set_option maxHeartbeats 1000000 in
theorem k_takeFile {l : Launch} {G : fr_G} {σ : fr_S} (hfl : l.flags = pinnedFlags ++ [noTraceFlag]) {q : Nat} {b : Nat → Nat} {n : Nat} {pl : Int32} {F : Nat → Nat → Nat} {a : AV} {B : VM} (hK : KP σ q b n pl F a B) (Fr : Nat → Nat → Nat) : CE l G yy_V_takeFile rx_takeFile [.ref 0] σ (TKr q b n Fr a B σ) (TKt q b n Fr F a B σ) := by
  obtain ⟨hq, hR, ⟨h3, h4⟩, hB, hpl, hPP, ⟨F', hCP', hW8'⟩, ⟨⟨c1, hc⟩, ⟨c2, hc'⟩⟩, hA, hX⟩ := hK
  have hq' := OTq.pb q
  have hfar := (OTq.far hq).1
  have kP' := kd_P hq'
  have h27 := hq.h27
  have h27' := hq'.h27
  have h372 : OTq q ≤ 372 := by rcases hq' with e | e <;> omega
  have hb350 := (kd_P hq).2.2.2.2.2
  show PX l G yy_V_takeFile rx_takeFile _ false 742 0 0 0 [(0, .ref 0)] [] σ
  refine px_aload_n dx_V_takeFile_0 rfl ?_
  refine px_aload_n dx_V_takeFile_1 rfl ?_
  refine px_getR (r := OTq q) dx_V_takeFile_2 fl_V_37 rfl (by decide) rfl h4 ?_
  refine px_aload_n dx_V_takeFile_5 rfl ?_
  refine px_getR (r := 1) dx_V_takeFile_6 fl_V_10 rfl (by decide) rfl hR.1.1 ?_
  refine px_cVR (Y := yy_V_takeFile) (Yc := yy_Pg_readFrom) (b := OTq q) (As := [.ref 1]) dx_V_takeFile_9 ml_V_145 mv_Pg_readFrom np_Pg_readFrom ⟨_, rfl⟩ (by decide) kP'.1 (by omega) rfl (Nat.le_of_ble_eq_true rfl) (Nat.le_of_ble_eq_true rfl) ⟨rfl, rfl, Nat.le_of_ble_eq_true rfl, Nat.le_of_ble_eq_true rfl⟩ rfl (k_readProg hq' hR hB hW8' hCP') zz_0 (fun r τ h => ?_)
  obtain ⟨rfl, hAg, hCP1, hW81, hz⟩ := h
  refine px_putI dx_V_takeFile_12 fl_V_40 rfl (by decide) rfl ?_
  refine px_aload_n dx_V_takeFile_15 rfl ?_
  refine px_getR (r := 1) dx_V_takeFile_16 fl_V_10 rfl (by decide) rfl ((hAg.R 0 0).trans hR.1.1) ?_
  refine px_cV (Y := yy_V_takeFile) (Yc := yy_Fb_clear) (b := 1) (As := []) dx_V_takeFile_19 ml_V_149 mv_Fb_clear np_Fb_clear ⟨_, rfl⟩ (by decide) rfl (by decide) rfl (Nat.le_of_ble_eq_true rfl) (Nat.le_of_ble_eq_true rfl) ⟨rfl, rfl, Nat.le_of_ble_eq_true rfl, Nat.le_of_ble_eq_true rfl⟩ rfl k_clear zz_0 ?_
  refine px_aload_n dx_V_takeFile_22 rfl ?_
  refine px_getI dx_V_takeFile_23 fl_V_40 rfl (by decide) rfl ?_
  refine px_eqi (y := ilI (rCE b n F')) ((gI_n (Or.inl (by decide))).trans gI_s) ?_
  refine px_iconst (v := -1) dx_V_takeFile_26 rfl ?_
  obtain ⟨σ3, hσ3⟩ : ∃ z, z = sI (sI τ 0 5 (ilI (rCE b n F'))) 1 1 0 := ⟨_, rfl⟩
  rw [← hσ3]
  have eI : ∀ o k, ¬ PRq (OTq q) o k → ¬ (o = 0 ∧ k = 5) → ¬ (o = 1 ∧ k = 1) → gI σ3 o k = gI σ o k := fun o k p1 p2 p3 => by
    rw [hσ3, gI_n (by omega), gI_n (by omega)]
    exact hAg.1 o k p1
  have eX : σ3.2 = σ.2 := by rw [hσ3]; exact hAg.2
  have eR : ∀ o k, gR σ3 o k = gR σ o k := fun o k => by unfold gR; rw [eX]
  have eL : ∀ o k, gL σ3 o k = gL σ o k := fun o k => by unfold gL; rw [eX]
  have eD : ∀ o k, gD σ3 o k = gD σ o k := fun o k => by unfold gD; rw [eX]
  have e05 : gI σ3 0 5 = ilI (rCE b n F') := by rw [hσ3]; exact (gI_n (Or.inl (by decide))).trans gI_s
  have e11 : gI σ3 1 1 = 0 := by rw [hσ3]; exact gI_s
  have eq1 : ∀ o k, OTq q ≤ o → gI σ3 o k = gI τ o k := fun o k ho => by rw [hσ3, gI_n (by omega), gI_n (by omega)]
  have hR3 : RF σ3 := hR.cg eR
  have hB3 : KB σ3 b 0 := ⟨e11, by decide, fun k hk => (eI 2 k (by unfold PRq P1; omega) (by omega) (by omega)).trans (hB.2.2.1 k hk), hB.2.2.2⟩
  have hCP3 : CP σ3 (OTq q) (rCF b n F').1 := hCP1.al fun o k h1 _ _ _ => eq1 o k h1
  have hz3 : ∀ k, k < 4 → gI σ3 (OTq q + 2) k = 0 := fun k hk => (eq1 _ _ (by omega)).trans (hz k hk)
  have hc3' : gI σ3 (OTq q + 3) 1 = b2i c2 := (eI _ _ (by unfold PRq P1; omega) (by omega) (by omega)).trans hc'
  have hP3 : PP σ3 q F := hPP.al fun o k h1 h2 _ _ => eI o k (by unfold PRq P1; omega) (by omega) (by omega)
  have hc3 : gI σ3 (q + 3) 1 = b2i c1 := (eI _ _ (by unfold PRq P1; omega) (by omega) (by omega)).trans hc
  have hA3 : KA σ3 a := hA.al (fun o k ho => eI o k (by unfold PRq P1; omega) (by omega) (by omega)) fun o k _ => ⟨eL o k, eD o k⟩
  have hX3 : CX σ3 q B := hX.al (fun o k ho => eI o k (by unfold PRq P1; omega) (by omega) (by omega)) (fun o k _ _ => ⟨eL o k, eD o k⟩) (fun o k _ _ => eR o k)
  have hO3 : KO σ σ3 := fun o k ho => ⟨eI o k (by unfold PRq P1; omega) (by omega) (by omega), eL o k, eD o k, eR o k⟩
  have hil := ilI_e (s := rCE b n F') (rCE_le hB.2.1)
  refine px_icmp_eq dx_V_takeFile_27 (fun c => ?_) (fun c => ?_)
  · have hg := hil.mp c
    have hg' : (rdF b n Fr).2.2 = false := by rw [← rCE_e (F := F') (Fr := Fr)]; exact hg
    have hEq : EqF (kpF (rdF b n Fr).1) (rCF b n F').1 := rCF_eq hg
    obtain ⟨F2, hF2⟩ : ∃ z, z = (rCF b n F').1 := ⟨_, rfl⟩
    rw [← hF2] at hEq hCP3 hW81
    have hFV2 : FV F2 := hEq.fv (rdF_fv hg')
    refine px_aload_n dx_V_takeFile_40 rfl ?_
    refine px_getR (r := q) dx_V_takeFile_41 fl_V_33 rfl (by decide) rfl ((eR 0 3).trans h3) ?_
    refine px_astore_n (lv' := [(1, .ref q), (0, .ref 0)]) dx_V_takeFile_44 (by decide) rfl ?_
    refine px_aload_n dx_V_takeFile_45 rfl ?_
    refine px_aload_n dx_V_takeFile_46 rfl ?_
    refine px_getR (r := OTq q) dx_V_takeFile_47 fl_V_37 rfl (by decide) rfl ((eR 0 4).trans h4) ?_
    refine px_putR dx_V_takeFile_50 fl_V_33 (fun q => by cases q) rfl (by decide) rfl ?_
    refine px_aload_n dx_V_takeFile_53 rfl ?_
    refine px_aload_n dx_V_takeFile_54 rfl ?_
    refine px_putR dx_V_takeFile_55 fl_V_37 (fun q => by cases q) rfl (by decide) rfl ?_
    obtain ⟨σ5, hσ5⟩ : ∃ z, z = sR (sR σ3 0 3 (some (OTq q))) 0 4 (some q) := ⟨_, rfl⟩
    rw [← hσ5]
    have r3 : gR σ5 0 3 = some (OTq q) := by rw [hσ5]; rfl
    have r4 : gR σ5 0 4 = some q := by rw [hσ5]; rfl
    have rn : ∀ o k, o ≠ 0 → gR σ5 o k = gR σ3 o k := fun o k ho => by
      rw [hσ5]
      show (if o = 0 ∧ k = 4 then _ else if o = 0 ∧ k = 3 then _ else σ3.2.2.2 o k) = _
      rw [if_neg (by omega), if_neg (by omega)]
      rfl
    have i5 : ∀ o k, gI σ5 o k = gI σ3 o k := fun o k => by rw [hσ5]; rfl
    have l5 : ∀ o k, gL σ5 o k = gL σ3 o k ∧ gD σ5 o k = gD σ3 o k := fun o k => by rw [hσ5]; exact ⟨rfl, rfl⟩
    have hR5 : RF σ5 := by rw [hσ5]; exact (hR3.sp (Or.inl rfl)).sp (Or.inr rfl)
    have hCP5 : CP σ5 (OTq q) F2 := hCP3.al fun o k _ _ _ _ => i5 o k
    refine px_aload_n dx_V_takeFile_58 rfl ?_
    refine px_getR (r := OTq q) dx_V_takeFile_59 fl_V_33 rfl (by decide) rfl r3 ?_
    refine px_cVR (Y := yy_V_takeFile) (Yc := yy_Pg_judge) (b := OTq q) (As := []) dx_V_takeFile_62 ml_V_152 mv_Pg_judge np_Pg_judge ⟨_, rfl⟩ (by decide) kP'.1 (by omega) rfl (Nat.le_of_ble_eq_true rfl) (Nat.le_of_ble_eq_true rfl) ⟨rfl, rfl, Nat.le_of_ble_eq_true rfl, Nat.le_of_ble_eq_true rfl⟩ rfl (k_judge hq' hR5 hW81.fw hFV2 hCP5 ⟨c2, (i5 _ _).trans hc3'⟩) zz_0 (fun r τ2 h => ?_)
    obtain ⟨rfl, hAj, hMJ2, hfit2, c3, hcj⟩ := h
    refine px_aload_n dx_V_takeFile_65 rfl ?_
    refine px_getR (r := 7) dx_V_takeFile_66 fl_V_26 rfl (by decide) rfl ((hAj.R 0 2).trans hR5.1.2.2.1) ?_
    refine px_cV (Y := yy_V_takeFile) (Yc := yy_Mc_rest) (b := 7) (As := []) dx_V_takeFile_69 ml_V_155 mv_Mc_rest np_Mc_rest ⟨_, rfl⟩ (by decide) rfl (by decide) rfl (Nat.le_of_ble_eq_true rfl) (Nat.le_of_ble_eq_true rfl) ⟨rfl, rfl, Nat.le_of_ble_eq_true rfl, Nat.le_of_ble_eq_true rfl⟩ rfl k_rest zz_0 ?_
    obtain ⟨σ7, hσ7⟩ : ∃ z, z = sI (sI τ2 7 2 0) 7 1 0 := ⟨_, rfl⟩
    rw [← hσ7]
    have i7 : ∀ o k, ¬ PJ (OTq q) o k → ¬ (o = 7 ∧ k = 2) → ¬ (o = 7 ∧ k = 1) → gI σ7 o k = gI σ3 o k := fun o k p1 p2 p3 => by
      rw [hσ7, gI_n (by omega), gI_n (by omega), hAj.1 o k p1]
      exact i5 o k
    have j7 : ∀ o k, o ≠ 7 → gI σ7 o k = gI τ2 o k := fun o k ho => by rw [hσ7, gI_n (by omega), gI_n (by omega)]
    have eX7 : σ7.2 = σ5.2 := by rw [hσ7]; exact hAj.2
    have eR7 : ∀ o k, gR σ7 o k = gR σ5 o k := fun o k => by unfold gR; rw [eX7]
    have eL7 : ∀ o k, gL σ7 o k = gL σ3 o k := fun o k => by
      refine Eq.trans ?_ (l5 o k).1
      unfold gL
      rw [eX7]
    have eD7 : ∀ o k, gD σ7 o k = gD σ3 o k := fun o k => by
      refine Eq.trans ?_ (l5 o k).2
      unfold gD
      rw [eX7]
    have pj : ∀ o k, (o < OTq q ∨ OTq q + 345 ≤ o) → ¬ PJ (OTq q) o k := fun o k h z => by
      unfold PJ at z
      omega
    have hCP7 : CP σ7 (OTq q) F2 := by
      have c7 : CP τ2 (OTq q) F2 := hCP5.kk hq' fun o k hk => hAj.1 o k fun z => z.2.2.1 hk
      exact c7.al fun o k h1 _ _ _ => j7 o k (by omega)
    have hPP7 : PP σ7 (OTq q) F2 := by
      refine ⟨hCP7, hW81, hFV2, fun m hm => ?_, fun _ => (j7 _ _ (by omega)).trans hfit2⟩
      have h4 : F2 0 0 ≤ 4 := hW81 0 0
      exact (hMJ2 m hm).cg fun o k h1 h2 => j7 o k (by omega)
    refine px_aload_n dx_V_takeFile_72 rfl ?_
    refine px_getR (r := OTq q) dx_V_takeFile_73 fl_V_33 rfl (by decide) rfl ((eR7 0 3).trans r3) ?_
    refine px_getI dx_V_takeFile_76 fl_V_158 kP'.1 (by omega) rfl ?_
    refine px_eqi (y := nI (F2 0 0)) hCP7.1 ?_
    refine px_wk (QF := QR G false 742 0 0 (TKr q b n Fr a B σ)) (px_iret dx_V_takeFile_79 rfl ?_) (fun _ _ _ _ h _ _ => Or.inl h)
    obtain ⟨x1, x2, x3, x4, x5, x6, x7, x8, x9, x10⟩ := hX3
    have hOO := (OTq.far hq).2
    refine ⟨hg', F2, aI (aI (B.1, B.2.1, B.2.2.1, fun _ => 0) 0 0 0) 1 0 0, rfl, hEq, ⟨hq', hR5.cg eR7, ⟨(eR7 0 3).trans r3, by rw [hOO]; exact (eR7 0 4).trans r4⟩, hB3.al fun o k ho => i7 o k (pj o k (by omega)) (by omega) (by omega), ?_, hPP7, ⟨F, ?_, hPP.2.1⟩, ⟨⟨c3, (j7 _ _ (by omega)).trans hcj⟩, ⟨c1, ?_⟩⟩, hA3.al (fun o k ho => i7 o k (pj o k (by omega)) (by omega) (by omega)) (fun o k _ => ⟨eL7 o k, eD7 o k⟩), ?_⟩, rfl, rfl, rfl, fun _ _ => rfl, rfl, fun o k ho => ?_⟩
    · rw [i7 0 5 (pj _ _ (by omega)) (by omega) (by omega), e05]
      exact c
    · rw [hOO]
      exact hP3.1.al fun o k h1 h2 _ _ => i7 o k (pj o k (by omega)) (by omega) (by omega)
    · rw [hOO, i7 _ _ (pj _ _ (by omega)) (by omega) (by omega)]
      exact hc3
    · refine ⟨?_, ?_, ?_, ?_, ?_, ?_, fun i hi => ?_, fun i hi hn => absurd hn (Nat.not_lt_zero _), fun i hi x hx => ⟨?_, ?_⟩, fun k hk => ?_⟩
      · rw [hσ7, gI_n (Or.inr (by decide)), gI_s]; rfl
      · rw [hσ7, gI_s]; rfl
      · exact (i7 _ _ (pj _ _ (by omega)) (by omega) (by omega)).trans x3
      · exact (i7 _ _ (pj _ _ (by omega)) (by omega) (by omega)).trans x4
      · exact (eL7 _ _).trans x5
      · exact (eD7 _ _).trans x6
      · exact (i7 _ _ (pj _ _ (by omega)) (by omega) (by omega)).trans (x7 i hi)
      · exact (eL7 _ _).trans (x9 i hi x hx).1
      · exact (eD7 _ _).trans (x9 i hi x hx).2
      · rw [i7 _ _ (fun z => z.2.2.2.1 rfl) (by omega) (by omega)]
        exact hz3 k hk
    · obtain ⟨o1, o2, o3, o4⟩ := hO3 o k ho
      exact ⟨(i7 o k (pj o k (by omega)) (by omega) (by omega)).trans o1, (eL7 o k).trans o2, (eD7 o k).trans o3, ((eR7 o k).trans (rn o k (by omega))).trans o4⟩
  · have hb : (rCE b n F').2 = true := by
      cases e : (rCE b n F').2 with
      | true => rfl
      | false => exact absurd (hil.mpr e) c
    refine px_thI hfl dx_V_takeFile_30 dx_V_takeFile_33 dx_V_takeFile_34 dx_V_takeFile_36 dx_V_takeFile_39 rfl mw_V_takeFile (tx := "the file is ill") (by decide) ⟨by decide, by decide, by decide, by decide⟩ ?_
    refine ⟨by rw [← rCE_e (F := F') (Fr := Fr)]; exact hb, rfl, ⟨hq, hR3, ⟨(eR 0 3).trans h3, (eR 0 4).trans h4⟩, hB3, ?_, hP3, ⟨(rCF b n F').1, hCP3, hW81⟩, ⟨⟨c1, hc3⟩, ⟨c2, hc3'⟩⟩, hA3, hX3⟩, hO3⟩
    rw [e05, rCE_e (F := F') (Fr := Fr)]

