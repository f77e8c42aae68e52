/-! the class: its cells -/
def PB (q : Nat) : Prop := q = 27 ∨ q = 372
def ME (e : Nat) : Prop := ∃ q m, PB q ∧ m < 4 ∧ e = q + 5 + 85 * m
def SE (s : Nat) : Prop := ∃ e u, ME e ∧ u < 40 ∧ s = e + 5 + 2 * u
def FE (f : Nat) : Prop := ∃ i, i < 6 ∧ f = 9 + 3 * i
theorem kd_P {q : Nat} (h : PB q) : kd q = (5, 0) ∧ kd (q + 1) = (25, 4) ∧ kd (q + 2) = (20, 4) ∧ kd (q + 3) = (6, 0) ∧ kd (q + 4) = (20, 10) ∧ q + 350 < 742 := by
  rcases h with rfl | rfl <;> decide +kernel
theorem kd_M {e : Nat} (h : ME e) : kd e = (7, 0) ∧ kd (e + 1) = (20, 3) ∧ kd (e + 2) = (20, 40) ∧ kd (e + 3) = (26, 40) ∧ kd (e + 4) = (21, 40) ∧ e + 90 < 742 := by
  obtain ⟨q, m, hq, hm, rfl⟩ := h
  have k1 : ∀ m, m < 4 → kd (27 + 5 + 85 * m) = (7, 0) ∧ kd (27 + 5 + 85 * m + 1) = (20, 3) ∧ kd (27 + 5 + 85 * m + 2) = (20, 40) ∧ kd (27 + 5 + 85 * m + 3) = (26, 40) ∧ kd (27 + 5 + 85 * m + 4) = (21, 40) ∧ 27 + 5 + 85 * m + 90 < 742 := by decide +kernel
  have k2 : ∀ m, m < 4 → kd (372 + 5 + 85 * m) = (7, 0) ∧ kd (372 + 5 + 85 * m + 1) = (20, 3) ∧ kd (372 + 5 + 85 * m + 2) = (20, 40) ∧ kd (372 + 5 + 85 * m + 3) = (26, 40) ∧ kd (372 + 5 + 85 * m + 4) = (21, 40) ∧ 372 + 5 + 85 * m + 90 < 742 := by decide +kernel
  rcases hq with rfl | rfl
  · exact k1 m hm
  · exact k2 m hm
theorem kd_S {s : Nat} (h : SE s) : kd s = (8, 0) ∧ kd (s + 1) = (20, 10) ∧ 32 ≤ s ∧ s + 1 < 717 := by
  obtain ⟨e, u, ⟨q, m, hq, hm, rfl⟩, hu, rfl⟩ := h
  have k1 : ∀ m, m < 4 → ∀ u, u < 40 → kd (27 + 5 + 85 * m + 5 + 2 * u) = (8, 0) ∧ kd (27 + 5 + 85 * m + 5 + 2 * u + 1) = (20, 10) ∧ 32 ≤ 27 + 5 + 85 * m + 5 + 2 * u ∧ 27 + 5 + 85 * m + 5 + 2 * u + 1 < 717 := by decide +kernel
  have k2 : ∀ m, m < 4 → ∀ u, u < 40 → kd (372 + 5 + 85 * m + 5 + 2 * u) = (8, 0) ∧ kd (372 + 5 + 85 * m + 5 + 2 * u + 1) = (20, 10) ∧ 32 ≤ 372 + 5 + 85 * m + 5 + 2 * u ∧ 372 + 5 + 85 * m + 5 + 2 * u + 1 < 717 := by decide +kernel
  rcases hq with rfl | rfl
  · exact k1 m hm u hu
  · exact k2 m hm u hu
theorem kd_F {f : Nat} (h : FE f) : kd f = (4, 0) ∧ kd (f + 1) = (22, 10) ∧ kd (f + 2) = (23, 10) ∧ 9 ≤ f ∧ f + 2 < 27 := by
  obtain ⟨i, hi, rfl⟩ := h
  have k1 : ∀ i, i < 6 → kd (9 + 3 * i) = (4, 0) ∧ kd (9 + 3 * i + 1) = (22, 10) ∧ kd (9 + 3 * i + 2) = (23, 10) ∧ 9 ≤ 9 + 3 * i ∧ 9 + 3 * i + 2 < 27 := by decide +kernel
  exact k1 i hi
theorem ME.m {q m : Nat} (hq : PB q) (hm : m < 4) : ME (q + 5 + 85 * m) := ⟨q, m, hq, hm, rfl⟩
theorem SE.s {e u : Nat} (he : ME e) (hu : u < 40) : SE (e + 5 + 2 * u) := ⟨e, u, he, hu, rfl⟩
theorem FE.f {i : Nat} (hi : i < 6) : FE (9 + 3 * i) := ⟨i, hi, rfl⟩
/-- the references that never change -/
def RF (σ : fr_S) : Prop :=
  (gR σ 0 0 = some 1 ∧ gR σ 0 1 = some 3 ∧ gR σ 0 2 = some 7 ∧ gR σ 1 0 = some 2 ∧ gR σ 3 0 = some 4 ∧ gR σ 3 1 = some 5 ∧ gR σ 3 2 = some 6 ∧ gR σ 7 0 = some 8)
  ∧ (∀ i, i < 6 → gR σ 8 i = some (9 + 3 * i)) ∧ (∀ f, FE f → gR σ f 0 = some (f + 1) ∧ gR σ f 1 = some (f + 2))
  ∧ (∀ q, PB q → gR σ q 0 = some (q + 1) ∧ gR σ q 1 = some (q + 2) ∧ gR σ q 2 = some (q + 3) ∧ gR σ (q + 3) 0 = some (q + 4) ∧ ∀ m, m < 4 → gR σ (q + 1) m = some (q + 5 + 85 * m))
  ∧ (∀ e, ME e → gR σ e 0 = some (e + 1) ∧ gR σ e 1 = some (e + 2) ∧ gR σ e 2 = some (e + 3) ∧ gR σ e 3 = some (e + 4) ∧ ∀ u, u < 40 → gR σ (e + 3) u = some (e + 5 + 2 * u))
  ∧ ∀ s, SE s → gR σ s 1 = some (s + 1)
theorem RF.cg {σ σ' : fr_S} (h : RF σ) (e : ∀ o k, gR σ' o k = gR σ o k) : RF σ' := by
  have e' : gR σ' = gR σ := by
    funext o k
    exact e o k
  unfold RF at h ⊢
  rw [e']
  exact h
/-- only some numbers change -/
def Agp (P : Nat → Nat → Prop) (σ σ' : fr_S) : Prop := (∀ o k, ¬ P o k → gI σ' o k = gI σ o k) ∧ σ'.2 = σ.2
theorem Agp.rf {P : Nat → Nat → Prop} {σ : fr_S} : Agp P σ σ := ⟨fun _ _ _ => rfl, rfl⟩
theorem Agp.tr {P : Nat → Nat → Prop} {a b c : fr_S} (h : Agp P a b) (q : Agp P b c) : Agp P a c := ⟨fun o k n => (q.1 o k n).trans (h.1 o k n), q.2.trans h.2⟩
theorem Agp.mono {P Q : Nat → Nat → Prop} {a b : fr_S} (h : Agp P a b) (hs : ∀ o k, P o k → Q o k) : Agp Q a b := ⟨fun o k n => h.1 o k fun q => n (hs o k q), h.2⟩
theorem Agp.w {P : Nat → Nat → Prop} {a b : fr_S} (h : Agp P a b) {o k : Nat} {v : Int32} (hp : P o k) : Agp P a (sI b o k v) := ⟨fun x y n => (gI_n (by
  by_cases e : x = o ∧ y = k
  · obtain ⟨rfl, rfl⟩ := e
    exact absurd hp n
  · omega)).trans (h.1 x y n), h.2⟩
theorem Agp.R {P : Nat → Nat → Prop} {a b : fr_S} (h : Agp P a b) (o k : Nat) : gR b o k = gR a o k := by unfold gR; rw [h.2]
theorem Agp.L {P : Nat → Nat → Prop} {a b : fr_S} (h : Agp P a b) (o k : Nat) : gL b o k = gL a o k := by unfold gL; rw [h.2]
theorem Agp.D {P : Nat → Nat → Prop} {a b : fr_S} (h : Agp P a b) (o k : Nat) : gD b o k = gD a o k := by unfold gD; rw [h.2]
theorem Agp.rfs {P : Nat → Nat → Prop} {a b : fr_S} (h : Agp P a b) (r : RF a) : RF b := r.cg h.R
/-! operations -/
def opn_l : List Nat := [0, 0, 1, 0, 0, 1, 1, 4, 7, 7, 4, 4, 4, 8, 8, 10, 10, 5, 7, 0, 11, 11, 5, 8, 0, 14, 14, 2, 0, 0, 15, 15, 3, 0, 7, 16, 16, 3, 0, 8, 18, 18, 6, 1, 0, 19, 19, 8, 1, 0, 22, 22, 8, 3, 0, 40, 40, 7, 0, 0, 45, 45, 9, 1, 2, 47, 47, 9, 1, 5, 49, 49, 9, 1, 3, 50, 55, 10, 0, 1, 56, 61, 11, 0, 1, 96, 96, 12, 1, 0, 103, 103, 13, 0, 1, 113, 113, 14, 0, 0, 123, 123, 4, 1, 1, 125, 125, 4, 3, 3, 127, 127, 4, 2, 2, 128, 128, 4, 5, 5, 129, 129, 4, 3, 1, 130, 130, 4, 2, 1, 131, 131, 4, 5, 1, 132, 132, 4, 1, 3, 133, 133, 4, 2, 3, 134, 134, 4, 5, 3, 135, 135, 4, 1, 2, 136, 136, 4, 3, 2, 137, 137, 4, 5, 2, 138, 138, 4, 1, 5, 139, 139, 4, 3, 5, 140, 140, 4, 2, 5, 144, 154, 9, 1, 1, 155, 159, 9, 3, 3, 166, 169, 9, 2, 2, 171, 174, 9, 5, 5]
def opn (j : Nat) : Nat := opn_l.getD j 0
theorem ops_tn : ∀ j, j < 200 → ops_t j = nI (opn j) := by decide +kernel
theorem opn_lt (j : Nat) : opn j < 256 := by
  by_cases h : j < 200
  · exact (show ∀ j, j < 200 → opn j < 256 by decide +kernel) j h
  · unfold opn
    rw [List.getD_eq_getElem?_getD, List.getElem?_eq_none (by show 200 ≤ j; omega)]
    decide
/-- the row of an operation among the first: kind, what it sets, what it uses -/
def fnd (op : Nat) : Nat → Nat × Nat × Nat
  | 0 => (0, 0, 0)
  | j + 1 => if opn (5 * j) ≤ op ∧ op ≤ opn (5 * j + 1) then (opn (5 * j + 2), opn (5 * j + 3), opn (5 * j + 4)) else fnd op j
def kdO (op : Nat) : Nat := (fnd op 40).1
def stO (op : Nat) : Nat := (fnd op 40).2.1
def usO (op : Nat) : Nat := (fnd op 40).2.2
def lnK (k : Nat) : Nat := if k ∈ [0] then 0 else if k ∈ [8, 9, 10, 11, 12, 13] then 2 else if k ∈ [14] then 3 else 1
theorem kdO_b : ∀ op, op < 256 → kdO op ≤ 14 ∧ stO op ≤ 8 ∧ usO op ≤ 8 := by decide +kernel
theorem lnK_sz : ∀ op, op < 256 → lnK (kdO op) = szO op := by decide +kernel

set_option maxRecDepth 100000 in
set_option maxHeartbeats 1000000 in
theorem k_lengthOf {l : Launch} {G : fr_G} {σ : fr_S} {k : Nat} (hk : k < 256) : CT l G yy_St_lengthOf rm_St_lengthOf [.int (nI (k))] σ (some (.int (nI (lnK k)))) (σ) := by
  intro Post hp0
  have hp := hp0
  show PX l G yy_St_lengthOf rm_St_lengthOf _ false 742 0 0 0 [(0, .int (nI (k)))] [] σ
  refine px_iload_n dx_St_lengthOf_0 rfl ?_
  by_cases k_1_0 : k ∈ ([0] : List Nat)
  · refine px_tabG (e := k) (off := 75) [0] dx_St_lengthOf_1 (by omega) k_1_0 (by decide) rfl ?_
    refine px_iconst (v := 0) dx_St_lengthOf_76 rfl ?_
    exact px_iret dx_St_lengthOf_77 rfl (by (have e : lnK k = 0 := by unfold lnK; (first | rw [if_pos k_1_0] | rw [if_neg k_1_0])); rw [e] at hp; exact hp)
  by_cases k_1_1 : k ∈ ([8, 9, 10, 11, 12, 13] : List Nat)
  · refine px_tabG (e := k) (off := 77) [8, 9, 10, 11, 12, 13] dx_St_lengthOf_1 (by omega) k_1_1 (by decide) rfl ?_
    refine px_iconst (v := 2) dx_St_lengthOf_78 rfl ?_
    exact px_iret dx_St_lengthOf_79 rfl (by (have e : lnK k = 2 := by unfold lnK; (first | rw [if_pos k_1_0] | rw [if_neg k_1_0]); (first | rw [if_pos k_1_1] | rw [if_neg k_1_1])); rw [e] at hp; exact hp)
  by_cases k_1_2 : k ∈ ([14] : List Nat)
  · refine px_tabG (e := k) (off := 79) [14] dx_St_lengthOf_1 (by omega) k_1_2 (by decide) rfl ?_
    refine px_iconst (v := 3) dx_St_lengthOf_80 rfl ?_
    exact px_iret dx_St_lengthOf_81 rfl (by (have e : lnK k = 3 := by unfold lnK; (first | rw [if_pos k_1_0] | rw [if_neg k_1_0]); (first | rw [if_pos k_1_1] | rw [if_neg k_1_1]); (first | rw [if_pos k_1_2] | rw [if_neg k_1_2])); rw [e] at hp; exact hp)
  have kn_1 : k ∉ ([0, 8, 9, 10, 11, 12, 13, 14] : List Nat) := by simp only [List.mem_cons, List.not_mem_nil, or_false, not_or] at *; omega
  refine px_tabD (e := k) [0, 8, 9, 10, 11, 12, 13, 14] dx_St_lengthOf_1 (by omega) kn_1 14 0 ⟨rfl, rfl⟩ (by decide) rfl ?_
  refine px_iconst (v := 1) dx_St_lengthOf_82 rfl ?_
  exact px_iret dx_St_lengthOf_83 rfl (by (have e : lnK k = 1 := by unfold lnK; (first | rw [if_pos k_1_0] | rw [if_neg k_1_0]); (first | rw [if_pos k_1_1] | rw [if_neg k_1_1]); (first | rw [if_pos k_1_2] | rw [if_neg k_1_2])); rw [e] at hp; exact hp)
set_option maxRecDepth 100000 in
set_option maxHeartbeats 1000000 in
theorem k_findOperation_lp {l : Launch} {G : fr_G} {σ : fr_S} {s : Nat} (hS : SE s) {op : Nat} (hop : op < 256) {Post : Option Value → fr_S → Prop} (hp0 : ∀ r σ', (fun r0 σ' => r0 = none ∧ Agp (fun o k => o = s ∧ (k = 3 ∨ k = 7 ∨ k = 8)) σ σ' ∧ gI σ' s 3 = nI (kdO op) ∧ gI σ' s 7 = nI (stO op) ∧ gI σ' s 8 = nI (usO op)) r σ' → Post r σ') : ∀ (d : Nat) (j : Nat) (σ1 : fr_S), 40 - j < d → j ≤ 40 → Agp (fun o k => o = s ∧ (k = 3 ∨ k = 7 ∨ k = 8)) σ σ1 → gI σ1 s 2 = nI op → gI σ1 s 3 = nI (fnd op j).1 → gI σ1 s 7 = nI (fnd op j).2.1 → gI σ1 s 8 = nI (fnd op j).2.2 → PX l G yy_St_findOperation rm_St_findOperation (QR G false 742 0 0 Post) false 742 0 0 17 [(0, .ref (s)), (1, .int (nI (5 * j)))] [] (σ1) := by
  intro d
  induction d with
  | zero => intro j σ1 hd; exact absurd hd (Nat.not_lt_zero _)
  | succ d ih =>
    intro j σ1 hd hj hA h2 h3 h7 h8
    have kS := kd_S hS
    refine px_iload_n dx_St_findOperation_17 rfl ?_
    refine px_iconst (v := 4) dx_St_findOperation_18 rfl ?_
    refine px_iaddN (a := 5 * j) (b := 4) dx_St_findOperation_19 ?_
    refine px_gets dx_St_findOperation_20 sl_St_66 ?_
    refine px_tlen dx_St_findOperation_23 ?_
    refine px_icmp_geN (a := (5 * j) + 4) (b := 200) dx_St_findOperation_24 (by (first | omega | exact Nat.lt_trans (opn_lt _) (by decide))) (by (first | omega | exact Nat.lt_trans (opn_lt _) (by decide))) (fun c_24 => ?_) (fun c_24 => ?_)
    · exact px_vret dx_St_findOperation_92 rfl (by (obtain rfl : j = 40 := by omega); exact hp0 _ _ ⟨rfl, hA, h3, h7, h8⟩)
    · refine px_aload_n dx_St_findOperation_27 rfl ?_
      refine px_getI dx_St_findOperation_28 fl_St_19 kS.1 (by omega) rfl ?_
      refine px_eqi (y := nI (op)) h2 ?_
      refine px_gets dx_St_findOperation_31 sl_St_66 ?_
      refine px_iload_n dx_St_findOperation_34 rfl ?_
      refine px_taldN dx_St_findOperation_35 (by omega) ?_
      refine px_eqi (y := nI (opn (5 * j))) (ops_tn (5 * j) (by omega)) ?_
      refine px_icmp_ltN (a := op) (b := opn (5 * j)) dx_St_findOperation_36 (by (first | omega | exact Nat.lt_trans (opn_lt _) (by decide))) (by (first | omega | exact Nat.lt_trans (opn_lt _) (by decide))) (fun c_36 => ?_) (fun c_36 => ?_)
      · refine px_iinc (v := (nI (5 * j + 5))) (lv' := [(1, .int (nI (5 * j + 5))), (0, .ref (s))]) dx_St_findOperation_86 rfl (nI_add _ 5) (by decide) rfl ?_
        refine px_goto dx_St_findOperation_89 ?_
        refine px_sub [1, 0] rfl ?_
        (have e : fnd op (j + 1) = fnd op j := by (show (if _ then _ else _) = _; rw [if_neg (by omega)])); exact ih (j + 1) σ1 (by omega) (by omega) hA h2 (by rw [e]; exact h3) (by rw [e]; exact h7) (by rw [e]; exact h8)
      · refine px_aload_n dx_St_findOperation_39 rfl ?_
        refine px_getI dx_St_findOperation_40 fl_St_19 kS.1 (by omega) rfl ?_
        refine px_eqi (y := nI (op)) h2 ?_
        refine px_gets dx_St_findOperation_43 sl_St_66 ?_
        refine px_iload_n dx_St_findOperation_46 rfl ?_
        refine px_iconst (v := 1) dx_St_findOperation_47 rfl ?_
        refine px_iaddN (a := 5 * j) (b := 1) dx_St_findOperation_48 ?_
        refine px_taldN dx_St_findOperation_49 (by omega) ?_
        refine px_eqi (y := nI (opn ((5 * j) + 1))) (ops_tn ((5 * j) + 1) (by omega)) ?_
        refine px_icmp_gtN (a := op) (b := opn ((5 * j) + 1)) dx_St_findOperation_50 (by (first | omega | exact Nat.lt_trans (opn_lt _) (by decide))) (by (first | omega | exact Nat.lt_trans (opn_lt _) (by decide))) (fun c_50 => ?_) (fun c_50 => ?_)
        · refine px_iinc (v := (nI (5 * j + 5))) (lv' := [(1, .int (nI (5 * j + 5))), (0, .ref (s))]) dx_St_findOperation_86 rfl (nI_add _ 5) (by decide) rfl ?_
          refine px_goto dx_St_findOperation_89 ?_
          refine px_sub [1, 0] rfl ?_
          (have e : fnd op (j + 1) = fnd op j := by (show (if _ then _ else _) = _; rw [if_neg (by omega)])); exact ih (j + 1) σ1 (by omega) (by omega) hA h2 (by rw [e]; exact h3) (by rw [e]; exact h7) (by rw [e]; exact h8)
        · refine px_aload_n dx_St_findOperation_53 rfl ?_
          refine px_gets dx_St_findOperation_54 sl_St_66 ?_
          refine px_iload_n dx_St_findOperation_57 rfl ?_
          refine px_iconst (v := 2) dx_St_findOperation_58 rfl ?_
          refine px_iaddN (a := 5 * j) (b := 2) dx_St_findOperation_59 ?_
          refine px_taldN dx_St_findOperation_60 (by omega) ?_
          refine px_eqi (y := nI (opn ((5 * j) + 2))) (ops_tn ((5 * j) + 2) (by omega)) ?_
          refine px_putI dx_St_findOperation_61 fl_St_23 kS.1 (by omega) rfl ?_
          refine px_aload_n dx_St_findOperation_64 rfl ?_
          refine px_gets dx_St_findOperation_65 sl_St_66 ?_
          refine px_iload_n dx_St_findOperation_68 rfl ?_
          refine px_iconst (v := 3) dx_St_findOperation_69 rfl ?_
          refine px_iaddN (a := 5 * j) (b := 3) dx_St_findOperation_70 ?_
          refine px_taldN dx_St_findOperation_71 (by omega) ?_
          refine px_eqi (y := nI (opn ((5 * j) + 3))) (ops_tn ((5 * j) + 3) (by omega)) ?_
          refine px_putI dx_St_findOperation_72 fl_St_35 kS.1 (by omega) rfl ?_
          refine px_aload_n dx_St_findOperation_75 rfl ?_
          refine px_gets dx_St_findOperation_76 sl_St_66 ?_
          refine px_iload_n dx_St_findOperation_79 rfl ?_
          refine px_iconst (v := 4) dx_St_findOperation_80 rfl ?_
          refine px_iaddN (a := 5 * j) (b := 4) dx_St_findOperation_81 ?_
          refine px_taldN dx_St_findOperation_82 (by omega) ?_
          refine px_eqi (y := nI (opn ((5 * j) + 4))) (ops_tn ((5 * j) + 4) (by omega)) ?_
          refine px_putI dx_St_findOperation_83 fl_St_38 kS.1 (by omega) rfl ?_
          refine px_iinc (v := (nI (5 * j + 5))) (lv' := [(1, .int (nI (5 * j + 5))), (0, .ref (s))]) dx_St_findOperation_86 rfl (nI_add _ 5) (by decide) rfl ?_
          refine px_goto dx_St_findOperation_89 ?_
          refine px_sub [1, 0] rfl ?_
          (have e : fnd op (j + 1) = (opn (5 * j + 2), opn (5 * j + 3), opn (5 * j + 4)) := by (show (if _ then _ else _) = _; rw [if_pos (by omega)])); exact ih (j + 1) _ (by omega) (by omega) (((hA.w ⟨rfl, Or.inl rfl⟩).w ⟨rfl, Or.inr (Or.inl rfl)⟩).w ⟨rfl, Or.inr (Or.inr rfl)⟩) ((gI_n (Or.inr (by decide))).trans ((gI_n (Or.inr (by decide))).trans ((gI_n (Or.inr (by decide))).trans h2))) (by rw [e]; exact (gI_n (Or.inr (by decide))).trans ((gI_n (Or.inr (by decide))).trans gI_s)) (by rw [e]; exact (gI_n (Or.inr (by decide))).trans gI_s) (by rw [e]; exact gI_s)
set_option maxRecDepth 100000 in
set_option maxHeartbeats 1000000 in
theorem k_findOperation {l : Launch} {G : fr_G} {σ : fr_S} {s : Nat} (hS : SE s) {op : Nat} (hop : op < 256) (h2 : gI σ s 2 = nI op) : CR l G yy_St_findOperation rm_St_findOperation [.ref (s)] σ (fun r0 σ' => r0 = none ∧ Agp (fun o k => o = s ∧ (k = 3 ∨ k = 7 ∨ k = 8)) σ σ' ∧ gI σ' s 3 = nI (kdO op) ∧ gI σ' s 7 = nI (stO op) ∧ gI σ' s 8 = nI (usO op)) := by
  intro Post hp0
  show PX l G yy_St_findOperation rm_St_findOperation _ false 742 0 0 0 [(0, .ref (s))] [] σ
  have kS := kd_S hS
  refine px_aload_n dx_St_findOperation_0 rfl ?_
  refine px_iconst (v := 0) dx_St_findOperation_1 rfl ?_
  refine px_putI dx_St_findOperation_2 fl_St_23 kS.1 (by omega) rfl ?_
  refine px_aload_n dx_St_findOperation_5 rfl ?_
  refine px_iconst (v := 0) dx_St_findOperation_6 rfl ?_
  refine px_putI dx_St_findOperation_7 fl_St_35 kS.1 (by omega) rfl ?_
  refine px_aload_n dx_St_findOperation_10 rfl ?_
  refine px_iconst (v := 0) dx_St_findOperation_11 rfl ?_
  refine px_putI dx_St_findOperation_12 fl_St_38 kS.1 (by omega) rfl ?_
  refine px_iconst (v := 0) dx_St_findOperation_15 rfl ?_
  refine px_istore_n (lv' := [(1, .int (0)), (0, .ref (s))]) dx_St_findOperation_16 (by decide) rfl ?_
  refine px_sub [1, 0] rfl ?_
  exact k_findOperation_lp (σ := σ) hS hop hp0 41 0 _ (by omega) (Nat.zero_le _) (((Agp.rf.w ⟨rfl, Or.inl rfl⟩).w ⟨rfl, Or.inr (Or.inl rfl)⟩).w ⟨rfl, Or.inr (Or.inr rfl)⟩) ((gI_n (Or.inr (by decide))).trans ((gI_n (Or.inr (by decide))).trans ((gI_n (Or.inr (by decide))).trans h2))) ((gI_n (Or.inr (by decide))).trans ((gI_n (Or.inr (by decide))).trans gI_s)) ((gI_n (Or.inr (by decide))).trans gI_s) gI_s
/-- what an instruction's step holds -/
def dRes (op w : Nat) : Nat := if kdO op ∈ [4, 6] then opA w else opN w
def dFst (op w w1 : Nat) : Nat := if kdO op ∈ [4] then opB w else if kdO op ∈ [10] then opA w else if kdO op ∈ [9] then opS w1 else opN w
def dSnd (op w w1 : Nat) : Int32 := if kdO op ∈ [10] then nI (opB w) else if kdO op ∈ [9] then nI (opN w1) else -1
def sb4 (b : Nat) : Int32 := if 7 < b then nI b - 16 else nI b
def dNum (op w w1 : Nat) : Int32 := if kdO op ∈ [6] then sb4 (opB w) else if kdO op ∈ [7] then sb8 (opN w) else if kdO op ∈ [14] then nI w1 else nmI w1
theorem sb4_e : ∀ b, b < 16 → (nI b ^^^ 8) - 8 = sb4 b := by decide +kernel
theorem bmod_e (m : Nat) (x : Int) : Int.bmod x m = if x % m < (m + 1) / 2 then x % m else x % m - m := rfl
theorem sh16_e {w : Nat} (h : w < 65536) : (nI w).toInt16.toInt32 = nmI w := by
  apply Int32.toInt_inj.mp
  rw [Int16.toInt_toInt32, Int32.toInt_toInt16, nmI_toInt h, nI_toInt (by omega), bmod_e]
  split <;> split <;> omega
theorem sb8_toInt {b : Nat} (h : b < 256) : (sb8 b).toInt = if 127 < b then (b : Int) - 256 else b :=
  (show ∀ b, b < 256 → (sb8 b).toInt = if 127 < b then (b : Int) - 256 else b by decide +kernel) b h
theorem sh8_e {b : Nat} (h : b < 256) : (nI b).toInt8.toInt32 = sb8 b := by
  apply Int32.toInt_inj.mp
  rw [Int8.toInt_toInt32, Int32.toInt_toInt8, sb8_toInt h, nI_toInt (by omega), bmod_e]
  split <;> split <;> omega
def SD (σ : fr_S) (s w w1 w2 : Nat) : Prop := gI σ s 2 = nI (opS w) ∧ gI σ s 3 = nI (kdO (opS w)) ∧ gI σ s 4 = nI (szO (opS w)) ∧ gI σ s 9 = nI (dRes (opS w) w) ∧ gI σ s 10 = nI (dFst (opS w) w w1) ∧ gI σ s 11 = dSnd (opS w) w w1 ∧ gI σ s 12 = dNum (opS w) w w1 ∧ (kdO (opS w) = 14 → gI σ s 13 = nI (opB w) ∧ gI σ s 14 = nI w2)
/-- the types that a step sets and uses -/
def SU (σ : fr_S) (s x y : Nat) : Prop := gI σ s 7 = nI x ∧ gI σ s 8 = nI y
theorem opB_m {w : Nat} (h : w < 65536) : w / 4096 % 16 = opB w := Nat.mod_eq_of_lt (by omega)
theorem opN_m {w : Nat} (h : w < 65536) : w / 256 % 256 = opN w := Nat.mod_eq_of_lt (by omega)

set_option maxRecDepth 100000 in
set_option maxHeartbeats 1000000 in
theorem k_decode {l : Launch} {G : fr_G} {σ : fr_S} {s : Nat} (hS : SE s) {w w1 w2 : Nat} (hw : w < 65536) (h1 : w1 < 65536) : CR l G yy_St_decode rm_St_decode [.ref (s), .int (nI (w)), .int (nI (w1)), .int (nI (w2))] σ (fun r0 σ' => r0 = none ∧ Agp (fun o k => o = s ∧ (k = 2 ∨ k = 3 ∨ k = 4 ∨ (7 ≤ k ∧ k ≤ 14))) σ σ' ∧ SD σ' s w w1 w2 ∧ SU σ' s (stO (opS w)) (usO (opS w))) := by
  intro Post hp0
  show PX l G yy_St_decode rm_St_decode _ false 742 0 0 0 [(0, .ref (s)), (1, .int (nI (w))), (2, .int (nI (w1))), (3, .int (nI (w2)))] [] σ
  have kS := kd_S hS
  have hkb := (kdO_b _ (opS_lt w)).1
  have hb16 := opB_lt hw
  have hn256 := opN_lt hw
  refine px_aload_n dx_St_decode_0 rfl ?_
  refine px_iload_n dx_St_decode_1 rfl ?_
  refine px_sipush (v := 255) dx_St_decode_2 rfl ?_
  refine px_iandN (a := w) (w := 8) dx_St_decode_5 (by omega) rfl ?_
  refine px_eqi (y := nI (opS w)) rfl ?_
  refine px_putI dx_St_decode_6 fl_St_19 kS.1 (by omega) rfl ?_
  refine px_aload_n dx_St_decode_9 rfl ?_
  refine px_cVR (Y := yy_St_decode) (Yc := yy_St_findOperation) (b := s) (As := []) dx_St_decode_10 ml_St_59 mv_St_findOperation np_St_findOperation ⟨_, rfl⟩ (by decide) kS.1 (by omega) rfl (Nat.le_of_ble_eq_true rfl) (Nat.le_of_ble_eq_true rfl) rk_St_decode_St_findOperation rfl (k_findOperation (op := opS w) hS (opS_lt w) (show gI (sI σ s 2 (nI (opS w))) s 2 = nI (opS w) from gI_s)) zz_0 (fun r_10 τ1 h_10 => ?_)
  obtain ⟨rfl, hA1, g3, g7, g8⟩ := h_10
  have g2 : gI τ1 s 2 = nI (opS w) := (hA1.1 s 2 (by omega)).trans gI_s
  have hA0 : Agp (fun o k => o = s ∧ (k = 2 ∨ k = 3 ∨ k = 4 ∨ (7 ≤ k ∧ k ≤ 14))) σ τ1 := (Agp.rf.w ⟨rfl, Or.inl rfl⟩).tr (hA1.mono fun o k h => ⟨h.1, by omega⟩)
  refine px_aload_n dx_St_decode_13 rfl ?_
  refine px_aload_n dx_St_decode_14 rfl ?_
  refine px_getI dx_St_decode_15 fl_St_23 kS.1 (by omega) rfl ?_
  refine px_eqi (y := nI (kdO (opS w))) g3 ?_
  refine px_cS (Y := yy_St_decode) (Yc := yy_St_lengthOf) (As := [.int (nI (kdO (opS w)))]) dx_St_decode_18 ml_St_62 ms_St_lengthOf np_St_lengthOf rfl (Nat.le_of_ble_eq_true rfl) (Nat.le_of_ble_eq_true rfl) rk_St_decode_St_lengthOf rfl (k_lengthOf (k := kdO (opS w)) (by omega)) zz_0 ?_
  refine px_eqi (y := nI (szO (opS w))) (congrArg nI (lnK_sz _ (opS_lt w))) ?_
  refine px_putI dx_St_decode_21 fl_St_26 kS.1 (by omega) rfl ?_
  refine px_aload_n dx_St_decode_24 rfl ?_
  refine px_iload_n dx_St_decode_25 rfl ?_
  refine px_i2s dx_St_decode_26 ?_
  refine px_eqi (y := nmI w1) (sh16_e h1) ?_
  refine px_putI dx_St_decode_27 fl_St_50 kS.1 (by omega) rfl ?_
  refine px_aload_n dx_St_decode_30 rfl ?_
  refine px_iconst (v := -1) dx_St_decode_31 rfl ?_
  refine px_putI dx_St_decode_32 fl_St_47 kS.1 (by omega) rfl ?_
  refine px_iload_n dx_St_decode_35 rfl ?_
  refine px_bipush (v := 8) dx_St_decode_36 rfl ?_
  refine px_ishrN (a := w) (w := 8) dx_St_decode_38 (by omega) rfl ?_
  refine px_bipush (v := 15) dx_St_decode_39 rfl ?_
  refine px_iandN (a := w / 256) (w := 4) dx_St_decode_41 (by omega) rfl ?_
  refine px_eqi (y := nI (opA w)) rfl ?_
  refine px_istore (lv' := [(4, .int (nI (opA w))), (0, .ref (s)), (1, .int (nI (w))), (2, .int (nI (w1))), (3, .int (nI (w2)))]) dx_St_decode_42 (by decide) rfl ?_
  refine px_iload_n dx_St_decode_44 rfl ?_
  refine px_bipush (v := 12) dx_St_decode_45 rfl ?_
  refine px_ishrN (a := w) (w := 12) dx_St_decode_47 (by omega) rfl ?_
  refine px_bipush (v := 15) dx_St_decode_48 rfl ?_
  refine px_iandN (a := w / 4096) (w := 4) dx_St_decode_50 (by omega) rfl ?_
  refine px_eqi (y := nI (opB w)) (congrArg nI (opB_m hw)) ?_
  refine px_istore (lv' := [(5, .int (nI (opB w))), (4, .int (nI (opA w))), (0, .ref (s)), (1, .int (nI (w))), (2, .int (nI (w1))), (3, .int (nI (w2)))]) dx_St_decode_51 (by decide) rfl ?_
  refine px_iload_n dx_St_decode_53 rfl ?_
  refine px_bipush (v := 8) dx_St_decode_54 rfl ?_
  refine px_ishrN (a := w) (w := 8) dx_St_decode_56 (by omega) rfl ?_
  refine px_sipush (v := 255) dx_St_decode_57 rfl ?_
  refine px_iandN (a := w / 256) (w := 8) dx_St_decode_60 (by omega) rfl ?_
  refine px_eqi (y := nI (opN w)) (congrArg nI (opN_m hw)) ?_
  refine px_istore (lv' := [(6, .int (nI (opN w))), (5, .int (nI (opB w))), (4, .int (nI (opA w))), (0, .ref (s)), (1, .int (nI (w))), (2, .int (nI (w1))), (3, .int (nI (w2)))]) dx_St_decode_61 (by decide) rfl ?_
  refine px_aload_n dx_St_decode_63 rfl ?_
  refine px_iload dx_St_decode_64 rfl ?_
  refine px_putI dx_St_decode_66 fl_St_41 kS.1 (by omega) rfl ?_
  refine px_aload_n dx_St_decode_69 rfl ?_
  refine px_iload dx_St_decode_70 rfl ?_
  refine px_putI dx_St_decode_72 fl_St_44 kS.1 (by omega) rfl ?_
  refine px_aload_n dx_St_decode_75 rfl ?_
  refine px_getI dx_St_decode_76 fl_St_23 kS.1 (by omega) rfl ?_
  refine px_eqi (y := nI (kdO (opS w))) (Eq.trans (gI_n (Or.inr (by decide))) (Eq.trans (gI_n (Or.inr (by decide))) (Eq.trans (gI_n (Or.inr (by decide))) (Eq.trans (gI_n (Or.inr (by decide))) (Eq.trans (gI_n (Or.inr (by decide))) g3))))) ?_
  by_cases k_79_0 : kdO (opS w) ∈ ([4] : List Nat)
  · refine px_tabG (e := kdO (opS w)) (off := 57) [4] dx_St_decode_79 (by omega) k_79_0 (by decide) rfl ?_
    refine px_aload_n dx_St_decode_136 rfl ?_
    refine px_iload dx_St_decode_137 rfl ?_
    refine px_putI dx_St_decode_139 fl_St_41 kS.1 (by omega) rfl ?_
    refine px_aload_n dx_St_decode_142 rfl ?_
    refine px_iload dx_St_decode_143 rfl ?_
    refine px_putI dx_St_decode_145 fl_St_44 kS.1 (by omega) rfl ?_
    refine px_goto dx_St_decode_148 ?_
    exact px_vret dx_St_decode_240 rfl (by (have e_dRes : dRes (opS w) w = (opA w) := by (unfold dRes; try (first | rw [if_pos (show kdO (opS w) ∈ _ by (have q := k_79_0; simp only [List.mem_cons, List.not_mem_nil, or_false, not_or] at q ⊢; omega))] | rw [if_neg (show ¬ kdO (opS w) ∈ _ by (have q := k_79_0; simp only [List.mem_cons, List.not_mem_nil, or_false, not_or] at q ⊢; omega))]))); (have e_dFst : dFst (opS w) w w1 = (opB w) := by (unfold dFst; try (first | rw [if_pos (show kdO (opS w) ∈ _ by (have q := k_79_0; simp only [List.mem_cons, List.not_mem_nil, or_false, not_or] at q ⊢; omega))] | rw [if_neg (show ¬ kdO (opS w) ∈ _ by (have q := k_79_0; simp only [List.mem_cons, List.not_mem_nil, or_false, not_or] at q ⊢; omega))]); try (first | rw [if_pos (show kdO (opS w) ∈ _ by (have q := k_79_0; simp only [List.mem_cons, List.not_mem_nil, or_false, not_or] at q ⊢; omega))] | rw [if_neg (show ¬ kdO (opS w) ∈ _ by (have q := k_79_0; simp only [List.mem_cons, List.not_mem_nil, or_false, not_or] at q ⊢; omega))]); try (first | rw [if_pos (show kdO (opS w) ∈ _ by (have q := k_79_0; simp only [List.mem_cons, List.not_mem_nil, or_false, not_or] at q ⊢; omega))] | rw [if_neg (show ¬ kdO (opS w) ∈ _ by (have q := k_79_0; simp only [List.mem_cons, List.not_mem_nil, or_false, not_or] at q ⊢; omega))]))); (have e_dSnd : dSnd (opS w) w w1 = (-1) := by (unfold dSnd; try (first | rw [if_pos (show kdO (opS w) ∈ _ by (have q := k_79_0; simp only [List.mem_cons, List.not_mem_nil, or_false, not_or] at q ⊢; omega))] | rw [if_neg (show ¬ kdO (opS w) ∈ _ by (have q := k_79_0; simp only [List.mem_cons, List.not_mem_nil, or_false, not_or] at q ⊢; omega))]); try (first | rw [if_pos (show kdO (opS w) ∈ _ by (have q := k_79_0; simp only [List.mem_cons, List.not_mem_nil, or_false, not_or] at q ⊢; omega))] | rw [if_neg (show ¬ kdO (opS w) ∈ _ by (have q := k_79_0; simp only [List.mem_cons, List.not_mem_nil, or_false, not_or] at q ⊢; omega))]))); (have e_dNum : dNum (opS w) w w1 = (nmI w1) := by (unfold dNum; try (first | rw [if_pos (show kdO (opS w) ∈ _ by (have q := k_79_0; simp only [List.mem_cons, List.not_mem_nil, or_false, not_or] at q ⊢; omega))] | rw [if_neg (show ¬ kdO (opS w) ∈ _ by (have q := k_79_0; simp only [List.mem_cons, List.not_mem_nil, or_false, not_or] at q ⊢; omega))]); try (first | rw [if_pos (show kdO (opS w) ∈ _ by (have q := k_79_0; simp only [List.mem_cons, List.not_mem_nil, or_false, not_or] at q ⊢; omega))] | rw [if_neg (show ¬ kdO (opS w) ∈ _ by (have q := k_79_0; simp only [List.mem_cons, List.not_mem_nil, or_false, not_or] at q ⊢; omega))]); try (first | rw [if_pos (show kdO (opS w) ∈ _ by (have q := k_79_0; simp only [List.mem_cons, List.not_mem_nil, or_false, not_or] at q ⊢; omega))] | rw [if_neg (show ¬ kdO (opS w) ∈ _ by (have q := k_79_0; simp only [List.mem_cons, List.not_mem_nil, or_false, not_or] at q ⊢; omega))]))); exact hp0 _ _ ⟨rfl, (((((((hA0).w ⟨rfl, by omega⟩).w ⟨rfl, by omega⟩).w ⟨rfl, by omega⟩).w ⟨rfl, by omega⟩).w ⟨rfl, by omega⟩).w ⟨rfl, by omega⟩).w ⟨rfl, by omega⟩, ⟨(Eq.trans (gI_n (Or.inr (by decide))) (Eq.trans (gI_n (Or.inr (by decide))) (Eq.trans (gI_n (Or.inr (by decide))) (Eq.trans (gI_n (Or.inr (by decide))) (Eq.trans (gI_n (Or.inr (by decide))) (Eq.trans (gI_n (Or.inr (by decide))) (Eq.trans (gI_n (Or.inr (by decide))) g2))))))), (Eq.trans (gI_n (Or.inr (by decide))) (Eq.trans (gI_n (Or.inr (by decide))) (Eq.trans (gI_n (Or.inr (by decide))) (Eq.trans (gI_n (Or.inr (by decide))) (Eq.trans (gI_n (Or.inr (by decide))) (Eq.trans (gI_n (Or.inr (by decide))) (Eq.trans (gI_n (Or.inr (by decide))) g3))))))), (Eq.trans (gI_n (Or.inr (by decide))) (Eq.trans (gI_n (Or.inr (by decide))) (Eq.trans (gI_n (Or.inr (by decide))) (Eq.trans (gI_n (Or.inr (by decide))) (Eq.trans (gI_n (Or.inr (by decide))) (Eq.trans (gI_n (Or.inr (by decide))) gI_s)))))), by rw [e_dRes]; exact (Eq.trans (gI_n (Or.inr (by decide))) gI_s), by rw [e_dFst]; exact gI_s, by rw [e_dSnd]; exact (Eq.trans (gI_n (Or.inr (by decide))) (Eq.trans (gI_n (Or.inr (by decide))) (Eq.trans (gI_n (Or.inr (by decide))) (Eq.trans (gI_n (Or.inr (by decide))) gI_s)))), by rw [e_dNum]; exact (Eq.trans (gI_n (Or.inr (by decide))) (Eq.trans (gI_n (Or.inr (by decide))) (Eq.trans (gI_n (Or.inr (by decide))) (Eq.trans (gI_n (Or.inr (by decide))) (Eq.trans (gI_n (Or.inr (by decide))) gI_s))))), fun q14 => by (exfalso; have q := k_79_0; simp only [List.mem_cons, List.not_mem_nil, or_false, not_or] at q; omega)⟩, (Eq.trans (gI_n (Or.inr (by decide))) (Eq.trans (gI_n (Or.inr (by decide))) (Eq.trans (gI_n (Or.inr (by decide))) (Eq.trans (gI_n (Or.inr (by decide))) (Eq.trans (gI_n (Or.inr (by decide))) (Eq.trans (gI_n (Or.inr (by decide))) (Eq.trans (gI_n (Or.inr (by decide))) g7))))))), (Eq.trans (gI_n (Or.inr (by decide))) (Eq.trans (gI_n (Or.inr (by decide))) (Eq.trans (gI_n (Or.inr (by decide))) (Eq.trans (gI_n (Or.inr (by decide))) (Eq.trans (gI_n (Or.inr (by decide))) (Eq.trans (gI_n (Or.inr (by decide))) (Eq.trans (gI_n (Or.inr (by decide))) g8)))))))⟩)
  by_cases k_79_1 : kdO (opS w) ∈ ([6] : List Nat)
  · refine px_tabG (e := kdO (opS w)) (off := 72) [6] dx_St_decode_79 (by omega) k_79_1 (by decide) rfl ?_
    refine px_aload_n dx_St_decode_151 rfl ?_
    refine px_iload dx_St_decode_152 rfl ?_
    refine px_putI dx_St_decode_154 fl_St_41 kS.1 (by omega) rfl ?_
    refine px_aload_n dx_St_decode_157 rfl ?_
    refine px_iload dx_St_decode_158 rfl ?_
    refine px_bipush (v := 8) dx_St_decode_160 rfl ?_
    refine px_ixor dx_St_decode_162 ?_
    refine px_bipush (v := 8) dx_St_decode_163 rfl ?_
    refine px_isub dx_St_decode_165 ?_
    refine px_eqi (y := sb4 (opB w)) (sb4_e _ hb16) ?_
    refine px_putI dx_St_decode_166 fl_St_50 kS.1 (by omega) rfl ?_
    refine px_goto dx_St_decode_169 ?_
    exact px_vret dx_St_decode_240 rfl (by (have e_dRes : dRes (opS w) w = (opA w) := by (unfold dRes; try (first | rw [if_pos (show kdO (opS w) ∈ _ by (have q := k_79_1; simp only [List.mem_cons, List.not_mem_nil, or_false, not_or] at q ⊢; omega))] | rw [if_neg (show ¬ kdO (opS w) ∈ _ by (have q := k_79_1; simp only [List.mem_cons, List.not_mem_nil, or_false, not_or] at q ⊢; omega))]))); (have e_dFst : dFst (opS w) w w1 = (opN w) := by (unfold dFst; try (first | rw [if_pos (show kdO (opS w) ∈ _ by (have q := k_79_1; simp only [List.mem_cons, List.not_mem_nil, or_false, not_or] at q ⊢; omega))] | rw [if_neg (show ¬ kdO (opS w) ∈ _ by (have q := k_79_1; simp only [List.mem_cons, List.not_mem_nil, or_false, not_or] at q ⊢; omega))]); try (first | rw [if_pos (show kdO (opS w) ∈ _ by (have q := k_79_1; simp only [List.mem_cons, List.not_mem_nil, or_false, not_or] at q ⊢; omega))] | rw [if_neg (show ¬ kdO (opS w) ∈ _ by (have q := k_79_1; simp only [List.mem_cons, List.not_mem_nil, or_false, not_or] at q ⊢; omega))]); try (first | rw [if_pos (show kdO (opS w) ∈ _ by (have q := k_79_1; simp only [List.mem_cons, List.not_mem_nil, or_false, not_or] at q ⊢; omega))] | rw [if_neg (show ¬ kdO (opS w) ∈ _ by (have q := k_79_1; simp only [List.mem_cons, List.not_mem_nil, or_false, not_or] at q ⊢; omega))]))); (have e_dSnd : dSnd (opS w) w w1 = (-1) := by (unfold dSnd; try (first | rw [if_pos (show kdO (opS w) ∈ _ by (have q := k_79_1; simp only [List.mem_cons, List.not_mem_nil, or_false, not_or] at q ⊢; omega))] | rw [if_neg (show ¬ kdO (opS w) ∈ _ by (have q := k_79_1; simp only [List.mem_cons, List.not_mem_nil, or_false, not_or] at q ⊢; omega))]); try (first | rw [if_pos (show kdO (opS w) ∈ _ by (have q := k_79_1; simp only [List.mem_cons, List.not_mem_nil, or_false, not_or] at q ⊢; omega))] | rw [if_neg (show ¬ kdO (opS w) ∈ _ by (have q := k_79_1; simp only [List.mem_cons, List.not_mem_nil, or_false, not_or] at q ⊢; omega))]))); (have e_dNum : dNum (opS w) w w1 = (sb4 (opB w)) := by (unfold dNum; try (first | rw [if_pos (show kdO (opS w) ∈ _ by (have q := k_79_1; simp only [List.mem_cons, List.not_mem_nil, or_false, not_or] at q ⊢; omega))] | rw [if_neg (show ¬ kdO (opS w) ∈ _ by (have q := k_79_1; simp only [List.mem_cons, List.not_mem_nil, or_false, not_or] at q ⊢; omega))]); try (first | rw [if_pos (show kdO (opS w) ∈ _ by (have q := k_79_1; simp only [List.mem_cons, List.not_mem_nil, or_false, not_or] at q ⊢; omega))] | rw [if_neg (show ¬ kdO (opS w) ∈ _ by (have q := k_79_1; simp only [List.mem_cons, List.not_mem_nil, or_false, not_or] at q ⊢; omega))]); try (first | rw [if_pos (show kdO (opS w) ∈ _ by (have q := k_79_1; simp only [List.mem_cons, List.not_mem_nil, or_false, not_or] at q ⊢; omega))] | rw [if_neg (show ¬ kdO (opS w) ∈ _ by (have q := k_79_1; simp only [List.mem_cons, List.not_mem_nil, or_false, not_or] at q ⊢; omega))]))); exact hp0 _ _ ⟨rfl, (((((((hA0).w ⟨rfl, by omega⟩).w ⟨rfl, by omega⟩).w ⟨rfl, by omega⟩).w ⟨rfl, by omega⟩).w ⟨rfl, by omega⟩).w ⟨rfl, by omega⟩).w ⟨rfl, by omega⟩, ⟨(Eq.trans (gI_n (Or.inr (by decide))) (Eq.trans (gI_n (Or.inr (by decide))) (Eq.trans (gI_n (Or.inr (by decide))) (Eq.trans (gI_n (Or.inr (by decide))) (Eq.trans (gI_n (Or.inr (by decide))) (Eq.trans (gI_n (Or.inr (by decide))) (Eq.trans (gI_n (Or.inr (by decide))) g2))))))), (Eq.trans (gI_n (Or.inr (by decide))) (Eq.trans (gI_n (Or.inr (by decide))) (Eq.trans (gI_n (Or.inr (by decide))) (Eq.trans (gI_n (Or.inr (by decide))) (Eq.trans (gI_n (Or.inr (by decide))) (Eq.trans (gI_n (Or.inr (by decide))) (Eq.trans (gI_n (Or.inr (by decide))) g3))))))), (Eq.trans (gI_n (Or.inr (by decide))) (Eq.trans (gI_n (Or.inr (by decide))) (Eq.trans (gI_n (Or.inr (by decide))) (Eq.trans (gI_n (Or.inr (by decide))) (Eq.trans (gI_n (Or.inr (by decide))) (Eq.trans (gI_n (Or.inr (by decide))) gI_s)))))), by rw [e_dRes]; exact (Eq.trans (gI_n (Or.inr (by decide))) gI_s), by rw [e_dFst]; exact (Eq.trans (gI_n (Or.inr (by decide))) (Eq.trans (gI_n (Or.inr (by decide))) gI_s)), by rw [e_dSnd]; exact (Eq.trans (gI_n (Or.inr (by decide))) (Eq.trans (gI_n (Or.inr (by decide))) (Eq.trans (gI_n (Or.inr (by decide))) (Eq.trans (gI_n (Or.inr (by decide))) gI_s)))), by rw [e_dNum]; exact gI_s, fun q14 => by (exfalso; have q := k_79_1; simp only [List.mem_cons, List.not_mem_nil, or_false, not_or] at q; omega)⟩, (Eq.trans (gI_n (Or.inr (by decide))) (Eq.trans (gI_n (Or.inr (by decide))) (Eq.trans (gI_n (Or.inr (by decide))) (Eq.trans (gI_n (Or.inr (by decide))) (Eq.trans (gI_n (Or.inr (by decide))) (Eq.trans (gI_n (Or.inr (by decide))) (Eq.trans (gI_n (Or.inr (by decide))) g7))))))), (Eq.trans (gI_n (Or.inr (by decide))) (Eq.trans (gI_n (Or.inr (by decide))) (Eq.trans (gI_n (Or.inr (by decide))) (Eq.trans (gI_n (Or.inr (by decide))) (Eq.trans (gI_n (Or.inr (by decide))) (Eq.trans (gI_n (Or.inr (by decide))) (Eq.trans (gI_n (Or.inr (by decide))) g8)))))))⟩)
  by_cases k_79_2 : kdO (opS w) ∈ ([7] : List Nat)
  · refine px_tabG (e := kdO (opS w)) (off := 93) [7] dx_St_decode_79 (by omega) k_79_2 (by decide) rfl ?_
    refine px_aload_n dx_St_decode_172 rfl ?_
    refine px_iload dx_St_decode_173 rfl ?_
    refine px_i2b dx_St_decode_175 ?_
    refine px_eqi (y := sb8 (opN w)) (sh8_e hn256) ?_
    refine px_putI dx_St_decode_176 fl_St_50 kS.1 (by omega) rfl ?_
    refine px_goto dx_St_decode_179 ?_
    exact px_vret dx_St_decode_240 rfl (by (have e_dRes : dRes (opS w) w = (opN w) := by (unfold dRes; try (first | rw [if_pos (show kdO (opS w) ∈ _ by (have q := k_79_2; simp only [List.mem_cons, List.not_mem_nil, or_false, not_or] at q ⊢; omega))] | rw [if_neg (show ¬ kdO (opS w) ∈ _ by (have q := k_79_2; simp only [List.mem_cons, List.not_mem_nil, or_false, not_or] at q ⊢; omega))]))); (have e_dFst : dFst (opS w) w w1 = (opN w) := by (unfold dFst; try (first | rw [if_pos (show kdO (opS w) ∈ _ by (have q := k_79_2; simp only [List.mem_cons, List.not_mem_nil, or_false, not_or] at q ⊢; omega))] | rw [if_neg (show ¬ kdO (opS w) ∈ _ by (have q := k_79_2; simp only [List.mem_cons, List.not_mem_nil, or_false, not_or] at q ⊢; omega))]); try (first | rw [if_pos (show kdO (opS w) ∈ _ by (have q := k_79_2; simp only [List.mem_cons, List.not_mem_nil, or_false, not_or] at q ⊢; omega))] | rw [if_neg (show ¬ kdO (opS w) ∈ _ by (have q := k_79_2; simp only [List.mem_cons, List.not_mem_nil, or_false, not_or] at q ⊢; omega))]); try (first | rw [if_pos (show kdO (opS w) ∈ _ by (have q := k_79_2; simp only [List.mem_cons, List.not_mem_nil, or_false, not_or] at q ⊢; omega))] | rw [if_neg (show ¬ kdO (opS w) ∈ _ by (have q := k_79_2; simp only [List.mem_cons, List.not_mem_nil, or_false, not_or] at q ⊢; omega))]))); (have e_dSnd : dSnd (opS w) w w1 = (-1) := by (unfold dSnd; try (first | rw [if_pos (show kdO (opS w) ∈ _ by (have q := k_79_2; simp only [List.mem_cons, List.not_mem_nil, or_false, not_or] at q ⊢; omega))] | rw [if_neg (show ¬ kdO (opS w) ∈ _ by (have q := k_79_2; simp only [List.mem_cons, List.not_mem_nil, or_false, not_or] at q ⊢; omega))]); try (first | rw [if_pos (show kdO (opS w) ∈ _ by (have q := k_79_2; simp only [List.mem_cons, List.not_mem_nil, or_false, not_or] at q ⊢; omega))] | rw [if_neg (show ¬ kdO (opS w) ∈ _ by (have q := k_79_2; simp only [List.mem_cons, List.not_mem_nil, or_false, not_or] at q ⊢; omega))]))); (have e_dNum : dNum (opS w) w w1 = (sb8 (opN w)) := by (unfold dNum; try (first | rw [if_pos (show kdO (opS w) ∈ _ by (have q := k_79_2; simp only [List.mem_cons, List.not_mem_nil, or_false, not_or] at q ⊢; omega))] | rw [if_neg (show ¬ kdO (opS w) ∈ _ by (have q := k_79_2; simp only [List.mem_cons, List.not_mem_nil, or_false, not_or] at q ⊢; omega))]); try (first | rw [if_pos (show kdO (opS w) ∈ _ by (have q := k_79_2; simp only [List.mem_cons, List.not_mem_nil, or_false, not_or] at q ⊢; omega))] | rw [if_neg (show ¬ kdO (opS w) ∈ _ by (have q := k_79_2; simp only [List.mem_cons, List.not_mem_nil, or_false, not_or] at q ⊢; omega))]); try (first | rw [if_pos (show kdO (opS w) ∈ _ by (have q := k_79_2; simp only [List.mem_cons, List.not_mem_nil, or_false, not_or] at q ⊢; omega))] | rw [if_neg (show ¬ kdO (opS w) ∈ _ by (have q := k_79_2; simp only [List.mem_cons, List.not_mem_nil, or_false, not_or] at q ⊢; omega))]))); exact hp0 _ _ ⟨rfl, ((((((hA0).w ⟨rfl, by omega⟩).w ⟨rfl, by omega⟩).w ⟨rfl, by omega⟩).w ⟨rfl, by omega⟩).w ⟨rfl, by omega⟩).w ⟨rfl, by omega⟩, ⟨(Eq.trans (gI_n (Or.inr (by decide))) (Eq.trans (gI_n (Or.inr (by decide))) (Eq.trans (gI_n (Or.inr (by decide))) (Eq.trans (gI_n (Or.inr (by decide))) (Eq.trans (gI_n (Or.inr (by decide))) (Eq.trans (gI_n (Or.inr (by decide))) g2)))))), (Eq.trans (gI_n (Or.inr (by decide))) (Eq.trans (gI_n (Or.inr (by decide))) (Eq.trans (gI_n (Or.inr (by decide))) (Eq.trans (gI_n (Or.inr (by decide))) (Eq.trans (gI_n (Or.inr (by decide))) (Eq.trans (gI_n (Or.inr (by decide))) g3)))))), (Eq.trans (gI_n (Or.inr (by decide))) (Eq.trans (gI_n (Or.inr (by decide))) (Eq.trans (gI_n (Or.inr (by decide))) (Eq.trans (gI_n (Or.inr (by decide))) (Eq.trans (gI_n (Or.inr (by decide))) gI_s))))), by rw [e_dRes]; exact (Eq.trans (gI_n (Or.inr (by decide))) (Eq.trans (gI_n (Or.inr (by decide))) gI_s)), by rw [e_dFst]; exact (Eq.trans (gI_n (Or.inr (by decide))) gI_s), by rw [e_dSnd]; exact (Eq.trans (gI_n (Or.inr (by decide))) (Eq.trans (gI_n (Or.inr (by decide))) (Eq.trans (gI_n (Or.inr (by decide))) gI_s))), by rw [e_dNum]; exact gI_s, fun q14 => by (exfalso; have q := k_79_2; simp only [List.mem_cons, List.not_mem_nil, or_false, not_or] at q; omega)⟩, (Eq.trans (gI_n (Or.inr (by decide))) (Eq.trans (gI_n (Or.inr (by decide))) (Eq.trans (gI_n (Or.inr (by decide))) (Eq.trans (gI_n (Or.inr (by decide))) (Eq.trans (gI_n (Or.inr (by decide))) (Eq.trans (gI_n (Or.inr (by decide))) g7)))))), (Eq.trans (gI_n (Or.inr (by decide))) (Eq.trans (gI_n (Or.inr (by decide))) (Eq.trans (gI_n (Or.inr (by decide))) (Eq.trans (gI_n (Or.inr (by decide))) (Eq.trans (gI_n (Or.inr (by decide))) (Eq.trans (gI_n (Or.inr (by decide))) g8))))))⟩)
  by_cases k_79_3 : kdO (opS w) ∈ ([9] : List Nat)
  · refine px_tabG (e := kdO (opS w)) (off := 118) [9] dx_St_decode_79 (by omega) k_79_3 (by decide) rfl ?_
    refine px_aload_n dx_St_decode_197 rfl ?_
    refine px_iload_n dx_St_decode_198 rfl ?_
    refine px_sipush (v := 255) dx_St_decode_199 rfl ?_
    refine px_iandN (a := w1) (w := 8) dx_St_decode_202 (by omega) rfl ?_
    refine px_eqi (y := nI (opS w1)) rfl ?_
    refine px_putI dx_St_decode_203 fl_St_44 kS.1 (by omega) rfl ?_
    refine px_aload_n dx_St_decode_206 rfl ?_
    refine px_iload_n dx_St_decode_207 rfl ?_
    refine px_bipush (v := 8) dx_St_decode_208 rfl ?_
    refine px_ishrN (a := w1) (w := 8) dx_St_decode_210 (by omega) rfl ?_
    refine px_sipush (v := 255) dx_St_decode_211 rfl ?_
    refine px_iandN (a := w1 / 256) (w := 8) dx_St_decode_214 (by omega) rfl ?_
    refine px_eqi (y := nI (opN w1)) (congrArg nI (opN_m h1)) ?_
    refine px_putI dx_St_decode_215 fl_St_47 kS.1 (by omega) rfl ?_
    refine px_goto dx_St_decode_218 ?_
    exact px_vret dx_St_decode_240 rfl (by (have e_dRes : dRes (opS w) w = (opN w) := by (unfold dRes; try (first | rw [if_pos (show kdO (opS w) ∈ _ by (have q := k_79_3; simp only [List.mem_cons, List.not_mem_nil, or_false, not_or] at q ⊢; omega))] | rw [if_neg (show ¬ kdO (opS w) ∈ _ by (have q := k_79_3; simp only [List.mem_cons, List.not_mem_nil, or_false, not_or] at q ⊢; omega))]))); (have e_dFst : dFst (opS w) w w1 = (opS w1) := by (unfold dFst; try (first | rw [if_pos (show kdO (opS w) ∈ _ by (have q := k_79_3; simp only [List.mem_cons, List.not_mem_nil, or_false, not_or] at q ⊢; omega))] | rw [if_neg (show ¬ kdO (opS w) ∈ _ by (have q := k_79_3; simp only [List.mem_cons, List.not_mem_nil, or_false, not_or] at q ⊢; omega))]); try (first | rw [if_pos (show kdO (opS w) ∈ _ by (have q := k_79_3; simp only [List.mem_cons, List.not_mem_nil, or_false, not_or] at q ⊢; omega))] | rw [if_neg (show ¬ kdO (opS w) ∈ _ by (have q := k_79_3; simp only [List.mem_cons, List.not_mem_nil, or_false, not_or] at q ⊢; omega))]); try (first | rw [if_pos (show kdO (opS w) ∈ _ by (have q := k_79_3; simp only [List.mem_cons, List.not_mem_nil, or_false, not_or] at q ⊢; omega))] | rw [if_neg (show ¬ kdO (opS w) ∈ _ by (have q := k_79_3; simp only [List.mem_cons, List.not_mem_nil, or_false, not_or] at q ⊢; omega))]))); (have e_dSnd : dSnd (opS w) w w1 = (nI (opN w1)) := by (unfold dSnd; try (first | rw [if_pos (show kdO (opS w) ∈ _ by (have q := k_79_3; simp only [List.mem_cons, List.not_mem_nil, or_false, not_or] at q ⊢; omega))] | rw [if_neg (show ¬ kdO (opS w) ∈ _ by (have q := k_79_3; simp only [List.mem_cons, List.not_mem_nil, or_false, not_or] at q ⊢; omega))]); try (first | rw [if_pos (show kdO (opS w) ∈ _ by (have q := k_79_3; simp only [List.mem_cons, List.not_mem_nil, or_false, not_or] at q ⊢; omega))] | rw [if_neg (show ¬ kdO (opS w) ∈ _ by (have q := k_79_3; simp only [List.mem_cons, List.not_mem_nil, or_false, not_or] at q ⊢; omega))]))); (have e_dNum : dNum (opS w) w w1 = (nmI w1) := by (unfold dNum; try (first | rw [if_pos (show kdO (opS w) ∈ _ by (have q := k_79_3; simp only [List.mem_cons, List.not_mem_nil, or_false, not_or] at q ⊢; omega))] | rw [if_neg (show ¬ kdO (opS w) ∈ _ by (have q := k_79_3; simp only [List.mem_cons, List.not_mem_nil, or_false, not_or] at q ⊢; omega))]); try (first | rw [if_pos (show kdO (opS w) ∈ _ by (have q := k_79_3; simp only [List.mem_cons, List.not_mem_nil, or_false, not_or] at q ⊢; omega))] | rw [if_neg (show ¬ kdO (opS w) ∈ _ by (have q := k_79_3; simp only [List.mem_cons, List.not_mem_nil, or_false, not_or] at q ⊢; omega))]); try (first | rw [if_pos (show kdO (opS w) ∈ _ by (have q := k_79_3; simp only [List.mem_cons, List.not_mem_nil, or_false, not_or] at q ⊢; omega))] | rw [if_neg (show ¬ kdO (opS w) ∈ _ by (have q := k_79_3; simp only [List.mem_cons, List.not_mem_nil, or_false, not_or] at q ⊢; omega))]))); exact hp0 _ _ ⟨rfl, (((((((hA0).w ⟨rfl, by omega⟩).w ⟨rfl, by omega⟩).w ⟨rfl, by omega⟩).w ⟨rfl, by omega⟩).w ⟨rfl, by omega⟩).w ⟨rfl, by omega⟩).w ⟨rfl, by omega⟩, ⟨(Eq.trans (gI_n (Or.inr (by decide))) (Eq.trans (gI_n (Or.inr (by decide))) (Eq.trans (gI_n (Or.inr (by decide))) (Eq.trans (gI_n (Or.inr (by decide))) (Eq.trans (gI_n (Or.inr (by decide))) (Eq.trans (gI_n (Or.inr (by decide))) (Eq.trans (gI_n (Or.inr (by decide))) g2))))))), (Eq.trans (gI_n (Or.inr (by decide))) (Eq.trans (gI_n (Or.inr (by decide))) (Eq.trans (gI_n (Or.inr (by decide))) (Eq.trans (gI_n (Or.inr (by decide))) (Eq.trans (gI_n (Or.inr (by decide))) (Eq.trans (gI_n (Or.inr (by decide))) (Eq.trans (gI_n (Or.inr (by decide))) g3))))))), (Eq.trans (gI_n (Or.inr (by decide))) (Eq.trans (gI_n (Or.inr (by decide))) (Eq.trans (gI_n (Or.inr (by decide))) (Eq.trans (gI_n (Or.inr (by decide))) (Eq.trans (gI_n (Or.inr (by decide))) (Eq.trans (gI_n (Or.inr (by decide))) gI_s)))))), by rw [e_dRes]; exact (Eq.trans (gI_n (Or.inr (by decide))) (Eq.trans (gI_n (Or.inr (by decide))) (Eq.trans (gI_n (Or.inr (by decide))) gI_s))), by rw [e_dFst]; exact (Eq.trans (gI_n (Or.inr (by decide))) gI_s), by rw [e_dSnd]; exact gI_s, by rw [e_dNum]; exact (Eq.trans (gI_n (Or.inr (by decide))) (Eq.trans (gI_n (Or.inr (by decide))) (Eq.trans (gI_n (Or.inr (by decide))) (Eq.trans (gI_n (Or.inr (by decide))) (Eq.trans (gI_n (Or.inr (by decide))) gI_s))))), fun q14 => by (exfalso; have q := k_79_3; simp only [List.mem_cons, List.not_mem_nil, or_false, not_or] at q; omega)⟩, (Eq.trans (gI_n (Or.inr (by decide))) (Eq.trans (gI_n (Or.inr (by decide))) (Eq.trans (gI_n (Or.inr (by decide))) (Eq.trans (gI_n (Or.inr (by decide))) (Eq.trans (gI_n (Or.inr (by decide))) (Eq.trans (gI_n (Or.inr (by decide))) (Eq.trans (gI_n (Or.inr (by decide))) g7))))))), (Eq.trans (gI_n (Or.inr (by decide))) (Eq.trans (gI_n (Or.inr (by decide))) (Eq.trans (gI_n (Or.inr (by decide))) (Eq.trans (gI_n (Or.inr (by decide))) (Eq.trans (gI_n (Or.inr (by decide))) (Eq.trans (gI_n (Or.inr (by decide))) (Eq.trans (gI_n (Or.inr (by decide))) g8)))))))⟩)
  by_cases k_79_4 : kdO (opS w) ∈ ([10] : List Nat)
  · refine px_tabG (e := kdO (opS w)) (off := 103) [10] dx_St_decode_79 (by omega) k_79_4 (by decide) rfl ?_
    refine px_aload_n dx_St_decode_182 rfl ?_
    refine px_iload dx_St_decode_183 rfl ?_
    refine px_putI dx_St_decode_185 fl_St_44 kS.1 (by omega) rfl ?_
    refine px_aload_n dx_St_decode_188 rfl ?_
    refine px_iload dx_St_decode_189 rfl ?_
    refine px_putI dx_St_decode_191 fl_St_47 kS.1 (by omega) rfl ?_
    refine px_goto dx_St_decode_194 ?_
    exact px_vret dx_St_decode_240 rfl (by (have e_dRes : dRes (opS w) w = (opN w) := by (unfold dRes; try (first | rw [if_pos (show kdO (opS w) ∈ _ by (have q := k_79_4; simp only [List.mem_cons, List.not_mem_nil, or_false, not_or] at q ⊢; omega))] | rw [if_neg (show ¬ kdO (opS w) ∈ _ by (have q := k_79_4; simp only [List.mem_cons, List.not_mem_nil, or_false, not_or] at q ⊢; omega))]))); (have e_dFst : dFst (opS w) w w1 = (opA w) := by (unfold dFst; try (first | rw [if_pos (show kdO (opS w) ∈ _ by (have q := k_79_4; simp only [List.mem_cons, List.not_mem_nil, or_false, not_or] at q ⊢; omega))] | rw [if_neg (show ¬ kdO (opS w) ∈ _ by (have q := k_79_4; simp only [List.mem_cons, List.not_mem_nil, or_false, not_or] at q ⊢; omega))]); try (first | rw [if_pos (show kdO (opS w) ∈ _ by (have q := k_79_4; simp only [List.mem_cons, List.not_mem_nil, or_false, not_or] at q ⊢; omega))] | rw [if_neg (show ¬ kdO (opS w) ∈ _ by (have q := k_79_4; simp only [List.mem_cons, List.not_mem_nil, or_false, not_or] at q ⊢; omega))]); try (first | rw [if_pos (show kdO (opS w) ∈ _ by (have q := k_79_4; simp only [List.mem_cons, List.not_mem_nil, or_false, not_or] at q ⊢; omega))] | rw [if_neg (show ¬ kdO (opS w) ∈ _ by (have q := k_79_4; simp only [List.mem_cons, List.not_mem_nil, or_false, not_or] at q ⊢; omega))]))); (have e_dSnd : dSnd (opS w) w w1 = (nI (opB w)) := by (unfold dSnd; try (first | rw [if_pos (show kdO (opS w) ∈ _ by (have q := k_79_4; simp only [List.mem_cons, List.not_mem_nil, or_false, not_or] at q ⊢; omega))] | rw [if_neg (show ¬ kdO (opS w) ∈ _ by (have q := k_79_4; simp only [List.mem_cons, List.not_mem_nil, or_false, not_or] at q ⊢; omega))]); try (first | rw [if_pos (show kdO (opS w) ∈ _ by (have q := k_79_4; simp only [List.mem_cons, List.not_mem_nil, or_false, not_or] at q ⊢; omega))] | rw [if_neg (show ¬ kdO (opS w) ∈ _ by (have q := k_79_4; simp only [List.mem_cons, List.not_mem_nil, or_false, not_or] at q ⊢; omega))]))); (have e_dNum : dNum (opS w) w w1 = (nmI w1) := by (unfold dNum; try (first | rw [if_pos (show kdO (opS w) ∈ _ by (have q := k_79_4; simp only [List.mem_cons, List.not_mem_nil, or_false, not_or] at q ⊢; omega))] | rw [if_neg (show ¬ kdO (opS w) ∈ _ by (have q := k_79_4; simp only [List.mem_cons, List.not_mem_nil, or_false, not_or] at q ⊢; omega))]); try (first | rw [if_pos (show kdO (opS w) ∈ _ by (have q := k_79_4; simp only [List.mem_cons, List.not_mem_nil, or_false, not_or] at q ⊢; omega))] | rw [if_neg (show ¬ kdO (opS w) ∈ _ by (have q := k_79_4; simp only [List.mem_cons, List.not_mem_nil, or_false, not_or] at q ⊢; omega))]); try (first | rw [if_pos (show kdO (opS w) ∈ _ by (have q := k_79_4; simp only [List.mem_cons, List.not_mem_nil, or_false, not_or] at q ⊢; omega))] | rw [if_neg (show ¬ kdO (opS w) ∈ _ by (have q := k_79_4; simp only [List.mem_cons, List.not_mem_nil, or_false, not_or] at q ⊢; omega))]))); exact hp0 _ _ ⟨rfl, (((((((hA0).w ⟨rfl, by omega⟩).w ⟨rfl, by omega⟩).w ⟨rfl, by omega⟩).w ⟨rfl, by omega⟩).w ⟨rfl, by omega⟩).w ⟨rfl, by omega⟩).w ⟨rfl, by omega⟩, ⟨(Eq.trans (gI_n (Or.inr (by decide))) (Eq.trans (gI_n (Or.inr (by decide))) (Eq.trans (gI_n (Or.inr (by decide))) (Eq.trans (gI_n (Or.inr (by decide))) (Eq.trans (gI_n (Or.inr (by decide))) (Eq.trans (gI_n (Or.inr (by decide))) (Eq.trans (gI_n (Or.inr (by decide))) g2))))))), (Eq.trans (gI_n (Or.inr (by decide))) (Eq.trans (gI_n (Or.inr (by decide))) (Eq.trans (gI_n (Or.inr (by decide))) (Eq.trans (gI_n (Or.inr (by decide))) (Eq.trans (gI_n (Or.inr (by decide))) (Eq.trans (gI_n (Or.inr (by decide))) (Eq.trans (gI_n (Or.inr (by decide))) g3))))))), (Eq.trans (gI_n (Or.inr (by decide))) (Eq.trans (gI_n (Or.inr (by decide))) (Eq.trans (gI_n (Or.inr (by decide))) (Eq.trans (gI_n (Or.inr (by decide))) (Eq.trans (gI_n (Or.inr (by decide))) (Eq.trans (gI_n (Or.inr (by decide))) gI_s)))))), by rw [e_dRes]; exact (Eq.trans (gI_n (Or.inr (by decide))) (Eq.trans (gI_n (Or.inr (by decide))) (Eq.trans (gI_n (Or.inr (by decide))) gI_s))), by rw [e_dFst]; exact (Eq.trans (gI_n (Or.inr (by decide))) gI_s), by rw [e_dSnd]; exact gI_s, by rw [e_dNum]; exact (Eq.trans (gI_n (Or.inr (by decide))) (Eq.trans (gI_n (Or.inr (by decide))) (Eq.trans (gI_n (Or.inr (by decide))) (Eq.trans (gI_n (Or.inr (by decide))) (Eq.trans (gI_n (Or.inr (by decide))) gI_s))))), fun q14 => by (exfalso; have q := k_79_4; simp only [List.mem_cons, List.not_mem_nil, or_false, not_or] at q; omega)⟩, (Eq.trans (gI_n (Or.inr (by decide))) (Eq.trans (gI_n (Or.inr (by decide))) (Eq.trans (gI_n (Or.inr (by decide))) (Eq.trans (gI_n (Or.inr (by decide))) (Eq.trans (gI_n (Or.inr (by decide))) (Eq.trans (gI_n (Or.inr (by decide))) (Eq.trans (gI_n (Or.inr (by decide))) g7))))))), (Eq.trans (gI_n (Or.inr (by decide))) (Eq.trans (gI_n (Or.inr (by decide))) (Eq.trans (gI_n (Or.inr (by decide))) (Eq.trans (gI_n (Or.inr (by decide))) (Eq.trans (gI_n (Or.inr (by decide))) (Eq.trans (gI_n (Or.inr (by decide))) (Eq.trans (gI_n (Or.inr (by decide))) g8)))))))⟩)
  by_cases k_79_5 : kdO (opS w) ∈ ([14] : List Nat)
  · refine px_tabG (e := kdO (opS w)) (off := 142) [14] dx_St_decode_79 (by omega) k_79_5 (by decide) rfl ?_
    refine px_aload_n dx_St_decode_221 rfl ?_
    refine px_iload_n dx_St_decode_222 rfl ?_
    refine px_putI dx_St_decode_223 fl_St_50 kS.1 (by omega) rfl ?_
    refine px_aload_n dx_St_decode_226 rfl ?_
    refine px_iload dx_St_decode_227 rfl ?_
    refine px_putI dx_St_decode_229 fl_St_53 kS.1 (by omega) rfl ?_
    refine px_aload_n dx_St_decode_232 rfl ?_
    refine px_iload_n dx_St_decode_233 rfl ?_
    refine px_putI dx_St_decode_234 fl_St_56 kS.1 (by omega) rfl ?_
    refine px_goto dx_St_decode_237 ?_
    exact px_vret dx_St_decode_240 rfl (by (have e_dRes : dRes (opS w) w = (opN w) := by (unfold dRes; try (first | rw [if_pos (show kdO (opS w) ∈ _ by (have q := k_79_5; simp only [List.mem_cons, List.not_mem_nil, or_false, not_or] at q ⊢; omega))] | rw [if_neg (show ¬ kdO (opS w) ∈ _ by (have q := k_79_5; simp only [List.mem_cons, List.not_mem_nil, or_false, not_or] at q ⊢; omega))]))); (have e_dFst : dFst (opS w) w w1 = (opN w) := by (unfold dFst; try (first | rw [if_pos (show kdO (opS w) ∈ _ by (have q := k_79_5; simp only [List.mem_cons, List.not_mem_nil, or_false, not_or] at q ⊢; omega))] | rw [if_neg (show ¬ kdO (opS w) ∈ _ by (have q := k_79_5; simp only [List.mem_cons, List.not_mem_nil, or_false, not_or] at q ⊢; omega))]); try (first | rw [if_pos (show kdO (opS w) ∈ _ by (have q := k_79_5; simp only [List.mem_cons, List.not_mem_nil, or_false, not_or] at q ⊢; omega))] | rw [if_neg (show ¬ kdO (opS w) ∈ _ by (have q := k_79_5; simp only [List.mem_cons, List.not_mem_nil, or_false, not_or] at q ⊢; omega))]); try (first | rw [if_pos (show kdO (opS w) ∈ _ by (have q := k_79_5; simp only [List.mem_cons, List.not_mem_nil, or_false, not_or] at q ⊢; omega))] | rw [if_neg (show ¬ kdO (opS w) ∈ _ by (have q := k_79_5; simp only [List.mem_cons, List.not_mem_nil, or_false, not_or] at q ⊢; omega))]))); (have e_dSnd : dSnd (opS w) w w1 = (-1) := by (unfold dSnd; try (first | rw [if_pos (show kdO (opS w) ∈ _ by (have q := k_79_5; simp only [List.mem_cons, List.not_mem_nil, or_false, not_or] at q ⊢; omega))] | rw [if_neg (show ¬ kdO (opS w) ∈ _ by (have q := k_79_5; simp only [List.mem_cons, List.not_mem_nil, or_false, not_or] at q ⊢; omega))]); try (first | rw [if_pos (show kdO (opS w) ∈ _ by (have q := k_79_5; simp only [List.mem_cons, List.not_mem_nil, or_false, not_or] at q ⊢; omega))] | rw [if_neg (show ¬ kdO (opS w) ∈ _ by (have q := k_79_5; simp only [List.mem_cons, List.not_mem_nil, or_false, not_or] at q ⊢; omega))]))); (have e_dNum : dNum (opS w) w w1 = (nI (w1)) := by (unfold dNum; try (first | rw [if_pos (show kdO (opS w) ∈ _ by (have q := k_79_5; simp only [List.mem_cons, List.not_mem_nil, or_false, not_or] at q ⊢; omega))] | rw [if_neg (show ¬ kdO (opS w) ∈ _ by (have q := k_79_5; simp only [List.mem_cons, List.not_mem_nil, or_false, not_or] at q ⊢; omega))]); try (first | rw [if_pos (show kdO (opS w) ∈ _ by (have q := k_79_5; simp only [List.mem_cons, List.not_mem_nil, or_false, not_or] at q ⊢; omega))] | rw [if_neg (show ¬ kdO (opS w) ∈ _ by (have q := k_79_5; simp only [List.mem_cons, List.not_mem_nil, or_false, not_or] at q ⊢; omega))]); try (first | rw [if_pos (show kdO (opS w) ∈ _ by (have q := k_79_5; simp only [List.mem_cons, List.not_mem_nil, or_false, not_or] at q ⊢; omega))] | rw [if_neg (show ¬ kdO (opS w) ∈ _ by (have q := k_79_5; simp only [List.mem_cons, List.not_mem_nil, or_false, not_or] at q ⊢; omega))]))); exact hp0 _ _ ⟨rfl, ((((((((hA0).w ⟨rfl, by omega⟩).w ⟨rfl, by omega⟩).w ⟨rfl, by omega⟩).w ⟨rfl, by omega⟩).w ⟨rfl, by omega⟩).w ⟨rfl, by omega⟩).w ⟨rfl, by omega⟩).w ⟨rfl, by omega⟩, ⟨(Eq.trans (gI_n (Or.inr (by decide))) (Eq.trans (gI_n (Or.inr (by decide))) (Eq.trans (gI_n (Or.inr (by decide))) (Eq.trans (gI_n (Or.inr (by decide))) (Eq.trans (gI_n (Or.inr (by decide))) (Eq.trans (gI_n (Or.inr (by decide))) (Eq.trans (gI_n (Or.inr (by decide))) (Eq.trans (gI_n (Or.inr (by decide))) g2)))))))), (Eq.trans (gI_n (Or.inr (by decide))) (Eq.trans (gI_n (Or.inr (by decide))) (Eq.trans (gI_n (Or.inr (by decide))) (Eq.trans (gI_n (Or.inr (by decide))) (Eq.trans (gI_n (Or.inr (by decide))) (Eq.trans (gI_n (Or.inr (by decide))) (Eq.trans (gI_n (Or.inr (by decide))) (Eq.trans (gI_n (Or.inr (by decide))) g3)))))))), (Eq.trans (gI_n (Or.inr (by decide))) (Eq.trans (gI_n (Or.inr (by decide))) (Eq.trans (gI_n (Or.inr (by decide))) (Eq.trans (gI_n (Or.inr (by decide))) (Eq.trans (gI_n (Or.inr (by decide))) (Eq.trans (gI_n (Or.inr (by decide))) (Eq.trans (gI_n (Or.inr (by decide))) gI_s))))))), by rw [e_dRes]; exact (Eq.trans (gI_n (Or.inr (by decide))) (Eq.trans (gI_n (Or.inr (by decide))) (Eq.trans (gI_n (Or.inr (by decide))) (Eq.trans (gI_n (Or.inr (by decide))) gI_s)))), by rw [e_dFst]; exact (Eq.trans (gI_n (Or.inr (by decide))) (Eq.trans (gI_n (Or.inr (by decide))) (Eq.trans (gI_n (Or.inr (by decide))) gI_s))), by rw [e_dSnd]; exact (Eq.trans (gI_n (Or.inr (by decide))) (Eq.trans (gI_n (Or.inr (by decide))) (Eq.trans (gI_n (Or.inr (by decide))) (Eq.trans (gI_n (Or.inr (by decide))) (Eq.trans (gI_n (Or.inr (by decide))) gI_s))))), by rw [e_dNum]; exact (Eq.trans (gI_n (Or.inr (by decide))) (Eq.trans (gI_n (Or.inr (by decide))) gI_s)), fun _ => ⟨(Eq.trans (gI_n (Or.inr (by decide))) gI_s), gI_s⟩⟩, (Eq.trans (gI_n (Or.inr (by decide))) (Eq.trans (gI_n (Or.inr (by decide))) (Eq.trans (gI_n (Or.inr (by decide))) (Eq.trans (gI_n (Or.inr (by decide))) (Eq.trans (gI_n (Or.inr (by decide))) (Eq.trans (gI_n (Or.inr (by decide))) (Eq.trans (gI_n (Or.inr (by decide))) (Eq.trans (gI_n (Or.inr (by decide))) g7)))))))), (Eq.trans (gI_n (Or.inr (by decide))) (Eq.trans (gI_n (Or.inr (by decide))) (Eq.trans (gI_n (Or.inr (by decide))) (Eq.trans (gI_n (Or.inr (by decide))) (Eq.trans (gI_n (Or.inr (by decide))) (Eq.trans (gI_n (Or.inr (by decide))) (Eq.trans (gI_n (Or.inr (by decide))) (Eq.trans (gI_n (Or.inr (by decide))) g8))))))))⟩)
  have kn_79 : kdO (opS w) ∉ ([4, 6, 7, 9, 10, 14] : List Nat) := by simp only [List.mem_cons, List.not_mem_nil, or_false, not_or] at *; omega
  refine px_tabD (e := kdO (opS w)) [4, 6, 7, 9, 10, 14] dx_St_decode_79 (by omega) kn_79 10 4 ⟨rfl, rfl⟩ (by decide) rfl ?_
  exact px_vret dx_St_decode_240 rfl (by (have e_dRes : dRes (opS w) w = (opN w) := by (unfold dRes; try (first | rw [if_pos (show kdO (opS w) ∈ _ by (have q := kn_79; simp only [List.mem_cons, List.not_mem_nil, or_false, not_or] at q ⊢; omega))] | rw [if_neg (show ¬ kdO (opS w) ∈ _ by (have q := kn_79; simp only [List.mem_cons, List.not_mem_nil, or_false, not_or] at q ⊢; omega))]))); (have e_dFst : dFst (opS w) w w1 = (opN w) := by (unfold dFst; try (first | rw [if_pos (show kdO (opS w) ∈ _ by (have q := kn_79; simp only [List.mem_cons, List.not_mem_nil, or_false, not_or] at q ⊢; omega))] | rw [if_neg (show ¬ kdO (opS w) ∈ _ by (have q := kn_79; simp only [List.mem_cons, List.not_mem_nil, or_false, not_or] at q ⊢; omega))]); try (first | rw [if_pos (show kdO (opS w) ∈ _ by (have q := kn_79; simp only [List.mem_cons, List.not_mem_nil, or_false, not_or] at q ⊢; omega))] | rw [if_neg (show ¬ kdO (opS w) ∈ _ by (have q := kn_79; simp only [List.mem_cons, List.not_mem_nil, or_false, not_or] at q ⊢; omega))]); try (first | rw [if_pos (show kdO (opS w) ∈ _ by (have q := kn_79; simp only [List.mem_cons, List.not_mem_nil, or_false, not_or] at q ⊢; omega))] | rw [if_neg (show ¬ kdO (opS w) ∈ _ by (have q := kn_79; simp only [List.mem_cons, List.not_mem_nil, or_false, not_or] at q ⊢; omega))]))); (have e_dSnd : dSnd (opS w) w w1 = (-1) := by (unfold dSnd; try (first | rw [if_pos (show kdO (opS w) ∈ _ by (have q := kn_79; simp only [List.mem_cons, List.not_mem_nil, or_false, not_or] at q ⊢; omega))] | rw [if_neg (show ¬ kdO (opS w) ∈ _ by (have q := kn_79; simp only [List.mem_cons, List.not_mem_nil, or_false, not_or] at q ⊢; omega))]); try (first | rw [if_pos (show kdO (opS w) ∈ _ by (have q := kn_79; simp only [List.mem_cons, List.not_mem_nil, or_false, not_or] at q ⊢; omega))] | rw [if_neg (show ¬ kdO (opS w) ∈ _ by (have q := kn_79; simp only [List.mem_cons, List.not_mem_nil, or_false, not_or] at q ⊢; omega))]))); (have e_dNum : dNum (opS w) w w1 = (nmI w1) := by (unfold dNum; try (first | rw [if_pos (show kdO (opS w) ∈ _ by (have q := kn_79; simp only [List.mem_cons, List.not_mem_nil, or_false, not_or] at q ⊢; omega))] | rw [if_neg (show ¬ kdO (opS w) ∈ _ by (have q := kn_79; simp only [List.mem_cons, List.not_mem_nil, or_false, not_or] at q ⊢; omega))]); try (first | rw [if_pos (show kdO (opS w) ∈ _ by (have q := kn_79; simp only [List.mem_cons, List.not_mem_nil, or_false, not_or] at q ⊢; omega))] | rw [if_neg (show ¬ kdO (opS w) ∈ _ by (have q := kn_79; simp only [List.mem_cons, List.not_mem_nil, or_false, not_or] at q ⊢; omega))]); try (first | rw [if_pos (show kdO (opS w) ∈ _ by (have q := kn_79; simp only [List.mem_cons, List.not_mem_nil, or_false, not_or] at q ⊢; omega))] | rw [if_neg (show ¬ kdO (opS w) ∈ _ by (have q := kn_79; simp only [List.mem_cons, List.not_mem_nil, or_false, not_or] at q ⊢; omega))]))); exact hp0 _ _ ⟨rfl, (((((hA0).w ⟨rfl, by omega⟩).w ⟨rfl, by omega⟩).w ⟨rfl, by omega⟩).w ⟨rfl, by omega⟩).w ⟨rfl, by omega⟩, ⟨(Eq.trans (gI_n (Or.inr (by decide))) (Eq.trans (gI_n (Or.inr (by decide))) (Eq.trans (gI_n (Or.inr (by decide))) (Eq.trans (gI_n (Or.inr (by decide))) (Eq.trans (gI_n (Or.inr (by decide))) g2))))), (Eq.trans (gI_n (Or.inr (by decide))) (Eq.trans (gI_n (Or.inr (by decide))) (Eq.trans (gI_n (Or.inr (by decide))) (Eq.trans (gI_n (Or.inr (by decide))) (Eq.trans (gI_n (Or.inr (by decide))) g3))))), (Eq.trans (gI_n (Or.inr (by decide))) (Eq.trans (gI_n (Or.inr (by decide))) (Eq.trans (gI_n (Or.inr (by decide))) (Eq.trans (gI_n (Or.inr (by decide))) gI_s)))), by rw [e_dRes]; exact (Eq.trans (gI_n (Or.inr (by decide))) gI_s), by rw [e_dFst]; exact gI_s, by rw [e_dSnd]; exact (Eq.trans (gI_n (Or.inr (by decide))) (Eq.trans (gI_n (Or.inr (by decide))) gI_s)), by rw [e_dNum]; exact (Eq.trans (gI_n (Or.inr (by decide))) (Eq.trans (gI_n (Or.inr (by decide))) (Eq.trans (gI_n (Or.inr (by decide))) gI_s))), fun q14 => by (exfalso; have q := kn_79; simp only [List.mem_cons, List.not_mem_nil, or_false, not_or] at q; omega)⟩, (Eq.trans (gI_n (Or.inr (by decide))) (Eq.trans (gI_n (Or.inr (by decide))) (Eq.trans (gI_n (Or.inr (by decide))) (Eq.trans (gI_n (Or.inr (by decide))) (Eq.trans (gI_n (Or.inr (by decide))) g7))))), (Eq.trans (gI_n (Or.inr (by decide))) (Eq.trans (gI_n (Or.inr (by decide))) (Eq.trans (gI_n (Or.inr (by decide))) (Eq.trans (gI_n (Or.inr (by decide))) (Eq.trans (gI_n (Or.inr (by decide))) g8)))))⟩)
