/-! the class: one instruction, purely -/
def lvB (B : VM) (us : Nat) (w : Int64) (d : UInt64) : VM := if B.1 1 0 = 1 then aI (aI (aD (aW (aI B 4 0 us) 60 w) 60 d) 1 0 (B.1 1 0 - 1)) 0 0 2 else aI (aD (aW (aI B 4 0 us) 60 w) 60 d) 1 0 (B.1 1 0 - 1)
def enB (F : Nat → Nat → Nat) (c w2 i D : Nat) (B : VM) : Nat → VM
  | 0 => aI (aI B 2 D c) 3 D 0
  | j + 1 => kset (enB F c w2 i D B j) D (F 5 c - pwF F c + agK F c j) (B.2.1 (10 * i + agW w2 (agK F c j))) (B.2.2.1 (10 * i + agW w2 (agK F c j)))
theorem CXn.le {σ : fr_S} {q n n' : Nat} {B : VM} (h : CXn σ q B n) (hn : n' ≤ n) : CXn σ q B n' := by
  obtain ⟨a, b, c, d, e, f, g, r, s, t⟩ := h
  exact ⟨a, b, c, d, e, f, g, fun i hi hD => r i hi (by omega), s, t⟩
theorem aI_0 {X : VM} {k : Nat} : (aI X 1 0 k).1 1 0 = k := by
  show uf X.1 1 0 k 1 0 = k
  exact uf_s
theorem aI_1 {X : VM} {k y : Nat} : (aI (aI X 1 0 k) 0 0 y).1 1 0 = k := by
  show uf (uf X.1 1 0 k) 0 0 y 1 0 = k
  rw [uf_n (Or.inl (by decide)), uf_s]
theorem CX.lv {σ : fr_S} {q : Nat} {B : VM} (hq : 27 ≤ q) (h : CX σ q B) {us : Nat} {w : Int64} {d : UInt64} : CX (lvS σ us (B.1 1 0) w d) q (lvB B us w d) := by
  have h1 := (h.re hq (us := us) (w := w) (d0 := d)).o hq (D := B.1 1 0 - 1)
  unfold lvS lvB
  by_cases c : B.1 1 0 = 1
  · rw [if_pos c, if_pos c]
    have h2 := h1.c hq (D := 2)
    exact h2.le (Nat.le_trans (Nat.le_of_eq aI_1) (Nat.sub_le _ _))
  · rw [if_neg c, if_neg c]
    exact h1.le (Nat.le_trans (Nat.le_of_eq aI_0) (Nat.sub_le _ _))
theorem CXn.en {σ : fr_S} {q : Nat} {B : VM} (hq : 27 ≤ q) {D : Nat} (h : CXn σ q B D) {F : Nat → Nat → Nat} (hW : FW F) {c w2 m i : Nat} (hi : i < 6) (hD : D < 6) (hQ : pwF F c ≤ F 5 c) (hag : agOK F m c w2 (F 3 c) = true) : ∀ j, j ≤ F 3 c → CXn (enS F c w2 (9 + 3 * i) (9 + 3 * D) (q + 5 + 85 * c) σ j) q (enB F c w2 i D B j) (D + 1)
  | 0, _ => h.fr hq hD
  | j + 1, hj => by
    have ih := CXn.en hq h hW hi hD hQ hag j (by omega)
    have hk2 := agK_mono F c (j + 1) (F 3 c) (by omega)
    rw [agK_s] at hk2
    have hpk : agK F c (F 3 c) = pwF F c := rfl
    have hwd : 1 ≤ wdt (F 4 (3 * c + j)) := by unfold wdt; split <;> decide
    have hhs := agOK_hs hag j (by omega)
    simp only [hsR, decide_eq_true_eq] at hhs
    have h10 := hW.2.2.2.2.2.1 m
    have h10c := hW.2.2.2.2.2.1 c
    have s := h.2.2.2.2.2.2.2.2.1 i hi (agW w2 (agK F c j)) (by omega)
    have z := ih.set hD (r := F 5 c - pwF F c + agK F c j) (by omega) (w := gL σ (9 + 3 * i + 1) (agW w2 (agK F c j))) (d := gD σ (9 + 3 * i + 2) (agW w2 (agK F c j)))
    rw [s.1, s.2] at z
    show CXn (sD (sL _ _ _ (gL σ (9 + 3 * i + 1) (agW w2 (agK F c j)))) _ _ (gD σ (9 + 3 * i + 2) (agW w2 (agK F c j)))) q _ _
    rw [s.1, s.2]
    exact z
/-- one instruction, as the class does it -/
def stB (F : Nat → Nat → Nat) (B : VM) (m p op w w1 w2 : Nat) : VM :=
  if kdO op ∈ [2] then lvB (aI B 3 (B.1 1 0 - 1) (p + szO op)) (usG F m p) 0 0
  else if kdO op ∈ [3] then lvB (aI B 3 (B.1 1 0 - 1) (p + szO op)) (usG F m p) (gW B (opN w)) (gE B (opN w))
  else if kdO op ∈ [4] then kset (aI B 3 (B.1 1 0 - 1) (p + szO op)) (B.1 1 0 - 1) (opA w) (kvL op (gW B (opB w)) (gE B (opB w))) (kvE op (gW B (opB w)) (gE B (opB w)))
  else if kdO op ∈ [5] then kset (aI B 3 (B.1 1 0 - 1) (p + szO op)) (B.1 1 0 - 1) (opN w) (B.2.1 60) (B.2.2.1 60)
  else if kdO op ∈ [6, 8] then kset (aI B 3 (B.1 1 0 - 1) (p + szO op)) (B.1 1 0 - 1) (dRes op w) (dNum op w w1).toInt64 0
  else if kdO op ∈ [7] then aI (aI B 3 (B.1 1 0 - 1) (p + szO op)) 3 (B.1 1 0 - 1) (tgO F m p).toNatClampNeg
  else if kdO op ∈ [9] then (if dvO op = true ∧ gW B (opN w1) = 0 then aI (aI (aI B 3 (B.1 1 0 - 1) (p + szO op)) 0 0 3) 5 0 1 else kset (aI B 3 (B.1 1 0 - 1) (p + szO op)) (B.1 1 0 - 1) (opN w) (cbW op (usO op) (gW B (opS w1)) (gW B (opN w1)) (gE B (opS w1)) (gE B (opN w1))) (cbE op (usO op) (gW B (opS w1)) (gW B (opN w1)) (gE B (opS w1)) (gE B (opN w1))))
  else if kdO op ∈ [10] then (if hdC op (gW B (opA w)) (gW B (opB w)) = true then aI (aI B 3 (B.1 1 0 - 1) (p + szO op)) 3 (B.1 1 0 - 1) (tgO F m p).toNatClampNeg else aI B 3 (B.1 1 0 - 1) (p + szO op))
  else if kdO op ∈ [11] then (if hdC op (gW B (opN w)) 0 = true then aI (aI B 3 (B.1 1 0 - 1) (p + szO op)) 3 (B.1 1 0 - 1) (tgO F m p).toNatClampNeg else aI B 3 (B.1 1 0 - 1) (p + szO op))
  else if kdO op ∈ [12] then kset (aI B 3 (B.1 1 0 - 1) (p + szO op)) (B.1 1 0 - 1) (opN w) (B.2.2.2 w1).toInt64 0
  else if kdO op ∈ [13] then aF (aI B 3 (B.1 1 0 - 1) (p + szO op)) w1 (gW B (opN w)).toInt32
  else if kdO op ∈ [14] then (if 6 ≤ B.1 1 0 then aI (aI (aI B 3 (B.1 1 0 - 1) (p + szO op)) 0 0 3) 5 0 2 else aI (enB F w1 w2 (B.1 1 0 - 1) (B.1 1 0) (aI B 3 (B.1 1 0 - 1) (p + szO op)) (F 3 w1)) 1 0 (B.1 1 0 + 1))
  else aI B 3 (B.1 1 0 - 1) (p + szO op)
/-- the registers that an instruction uses are there -/
theorem frm_R {F : Nat → Nat → Nat} (hW : FW F) {m u : Nat} (h : frmOK F (bgF F m) m u (pbG (bgF F m) u) = true) (hx : usO (opS (F 7 (40 * m + u))) ≠ 0) : dFst (opS (F 7 (40 * m + u))) (F 7 (40 * m + u)) (uA F m (u + 1)) < 10 ∧ ∀ j, dsN (opS (F 7 (40 * m + u))) (F 7 (40 * m + u)) (uA F m (u + 1)) = some j → j < 10 := by
  rw [← ft_e hW] at h
  unfold ftC at h
  simp only [Bool.and_eq_true] at h
  obtain ⟨-, hr, -, -⟩ := h
  have h5 := hW.2.2.2.2.2.1 m
  have hw := wdc_12 (usO (opS (F 7 (40 * m + u))))
  unfold rgC at hr
  simp only [Bool.and_eq_true, Bool.or_eq_true, decide_eq_true_eq] at hr
  have h2 := hr.2.resolve_left hx
  refine ⟨by omega, fun j hj => ?_⟩
  have h3 := h2.2
  rw [hj] at h3
  simp only [decide_eq_true_eq] at h3
  omega

