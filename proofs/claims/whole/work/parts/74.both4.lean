/-! an instruction on both sides: calls and returns -/
/-- both machines don't run -/
def NR (A B : VM) : Prop := (B.1 0 0 = A.1 0 0) ∧ (A.1 0 0 ≠ 1) ∧ (A.1 0 0 ≤ 3) ∧ (A.1 0 0 = 2 → B.1 4 0 = tt (A.1 4 0) ∧ A.1 4 0 ≤ 4 ∧ (A.1 4 0 = 0 → A.2.1 60 = 0) ∧ (A.1 4 0 ≠ 0 → VRl (fsO (A.1 4 0)) (A.2.1 60) (B.2.1 60) (A.2.2.1 60) (B.2.2.1 60))) ∧ (∀ k, k < 4 → B.2.2.2 k = A.2.2.2 k) ∧ (B.1 1 0 ≤ 6) ∧ (B.1 4 0 ≤ 8) ∧ (DA A) ∧ (∀ k, dB (B.2.2.1 k))
theorem NR.c {A B : VM} (h : NR A B) : B.1 0 0 = A.1 0 0 := h.1
theorem NR.c1 {A B : VM} (h : NR A B) : A.1 0 0 ≠ 1 := h.2.1
theorem NR.c3 {A B : VM} (h : NR A B) : A.1 0 0 ≤ 3 := h.2.2.1
theorem NR.t {A B : VM} (h : NR A B) : A.1 0 0 = 2 → B.1 4 0 = tt (A.1 4 0) ∧ A.1 4 0 ≤ 4 ∧ (A.1 4 0 = 0 → A.2.1 60 = 0) ∧ (A.1 4 0 ≠ 0 → VRl (fsO (A.1 4 0)) (A.2.1 60) (B.2.1 60) (A.2.2.1 60) (B.2.2.1 60)) := h.2.2.2.1
theorem NR.ff {A B : VM} (h : NR A B) : ∀ k, k < 4 → B.2.2.2 k = A.2.2.2 k := h.2.2.2.2.1
theorem NR.b1 {A B : VM} (h : NR A B) : B.1 1 0 ≤ 6 := h.2.2.2.2.2.1
theorem NR.b4 {A B : VM} (h : NR A B) : B.1 4 0 ≤ 8 := h.2.2.2.2.2.2.1
theorem NR.da {A B : VM} (h : NR A B) : DA A := h.2.2.2.2.2.2.2.1
theorem NR.db {A B : VM} (h : NR A B) : ∀ k, dB (B.2.2.1 k) := h.2.2.2.2.2.2.2.2
/-- both have ended -/
abbrev EN (A B : VM) : Prop := NR A B ∧ A.1 0 0 = 2
theorem usG_8 {F : Nat → Nat → Nat} (hW : FW F) {m p : Nat} : usG F m p ≤ 8 := by
  have := usG_b hW (m := m) (u := p)
  omega
/-- the method that called, or the end -/
theorem ret_ok2 {F : Nat → Nat → Nat} {A B : VM} (G : GF F) (h : RL F A B) {A' B' : VM} {t us : Nat} {w w' : Int64} {d d' : UInt64}
    (eA : A' = if A.1 1 0 - 1 = 0 then aI (aI (aD (aW (aI A 4 0 t) 60 w) 60 d) 1 0 (A.1 1 0 - 1)) 0 0 2 else aI (aD (aW (aI A 4 0 t) 60 w) 60 d) 1 0 (A.1 1 0 - 1))
    (q : Nat) (eB : B' = lvB (aI B 3 (A.1 1 0 - 1) q) us w' d') (ht : t = F 2 (cmA A)) (ht4 : t ≤ 4) (hus : us = tt t) (h8 : us ≤ 8) (h0 : t = 0 → w = 0) (hv : t ≠ 0 → VRl (fsO t) w w' d d') (hd : dB d) (hd' : dB d') : RL F A' B' ∨ EN A' B' := by
  have d1 := h.d1
  have d6 := h.d6
  have dab : ∀ k, k ≤ 60 → dB (va_up A.2.2.1 60 d k) := fun k hk => dB_up (h.da k hk) hd
  have dbb : ∀ k, dB (va_up B.2.2.1 60 d' k) := fun k => dB_up (h.db k) hd'
  have e1 : (aI B 3 (A.1 1 0 - 1) q).1 1 0 = A.1 1 0 := h.de
  by_cases c : A.1 1 0 = 1
  · right
    rw [if_pos (by omega)] at eA
    unfold lvB at eB
    rw [e1, if_pos c] at eB
    subst eA eB
    refine ⟨⟨rfl, (by decide : ¬ (2 : Nat) = 1), (by decide : (2 : Nat) ≤ 3), fun _ => ⟨hus, ht4, fun e => ?_, fun e => ?_⟩, fun k hk => h.ff k hk, by show A.1 1 0 - 1 ≤ 6; omega, h8, dab, dbb⟩, rfl⟩
    · show va_up A.2.1 60 w 60 = 0
      rw [up_s]
      exact h0 e
    · show VRl (fsO t) (va_up A.2.1 60 w 60) (va_up B.2.1 60 w' 60) (va_up A.2.2.1 60 d 60) (va_up B.2.2.1 60 d' 60)
      rw [up_s, up_s, up_s, up_s]
      exact hv e
  · left
    rw [if_neg (by omega)] at eA
    unfold lvB at eB
    rw [e1, if_neg c] at eB
    have z1 : A'.1 1 0 = A.1 1 0 - 1 := by rw [eA]; exact aI_s
    have y1 : B'.1 1 0 = A.1 1 0 - 1 := by rw [eB]; exact aI_s
    have z2 : ∀ i, A'.1 2 i = A.1 2 i := fun i => by rw [eA]; show uf (uf A.1 4 0 t) 1 0 (A.1 1 0 - 1) 2 i = _; rw [uf_n (Or.inl (by decide)), uf_n (Or.inl (by decide))]
    have z3 : ∀ i, A'.1 3 i = A.1 3 i := fun i => by rw [eA]; show uf (uf A.1 4 0 t) 1 0 (A.1 1 0 - 1) 3 i = _; rw [uf_n (Or.inl (by decide)), uf_n (Or.inl (by decide))]
    have y2 : ∀ i, B'.1 2 i = B.1 2 i := fun i => by rw [eB]; show uf (uf (uf B.1 3 (A.1 1 0 - 1) q) 4 0 us) 1 0 (A.1 1 0 - 1) 2 i = _; rw [uf_n (Or.inl (by decide)), uf_n (Or.inl (by decide)), uf_n (Or.inl (by decide))]
    have y3 : ∀ i, i ≠ A.1 1 0 - 1 → B'.1 3 i = B.1 3 i := fun i hi => by rw [eB]; show uf (uf (uf B.1 3 (A.1 1 0 - 1) q) 4 0 us) 1 0 (A.1 1 0 - 1) 3 i = _; rw [uf_n (Or.inl (by decide)), uf_n (Or.inl (by decide)), uf_n (Or.inr hi)]
    have z4 : A'.2.1 = va_up A.2.1 60 w := by rw [eA]; rfl
    have z5 : A'.2.2.1 = va_up A.2.2.1 60 d := by rw [eA]; rfl
    have y4 : B'.2.1 = va_up B.2.1 60 w' := by rw [eB]; rfl
    have y5 : B'.2.2.1 = va_up B.2.2.1 60 d' := by rw [eB]; rfl
    refine ⟨by rw [eA]; exact h.c1, by rw [eB]; exact h.c2, by omega, by omega, by omega, fun i hi => ?_, fun i hi => ?_, fun e => ?_, fun k hk => by rw [eA, eB]; exact h.ff k hk, by rw [eB]; exact h8, fun k hk => by rw [z5]; exact dab k hk, fun k => by rw [y5]; exact dbb k⟩
    · rw [z1] at hi
      obtain ⟨f1, f2, f3, f4, f5⟩ := h.fm i (by omega)
      rw [z2, y2, z3, y3 i (by omega)]
      exact ⟨f1, f2, f3, f4, f5.same fun r hr => by
        rw [z4, z5, y4, y5, up_n (by omega), up_n (by omega), up_n (by omega), up_n (by omega)]
        exact ⟨rfl, rfl, rfl, rfl⟩⟩
    · rw [z1] at hi
      rw [z2, z2, z3]
      exact h.fc i (by omega)
    · have k2 : cmA A' = A.1 2 (A.1 1 0 - 2) := by unfold cmA; rw [z1, z2]; rfl
      have k3 : cpA A' = A.1 3 (A.1 1 0 - 2) := by unfold cpA; rw [z1, z3]; rfl
      rw [k2, k3] at e ⊢
      obtain ⟨f1, f2, f3, f4, f5⟩ := h.fm (A.1 1 0 - 2) (by omega)
      obtain ⟨p0, b1, b2⟩ := h.fc (A.1 1 0 - 2) (by omega)
      have fk := frm_p (f4.c G f1).1
      obtain ⟨qq, g1, g2, g3, _⟩ := res_ok fk.2.2.1 fk.2.2.2.1 (by unfold isRs at e; rw [decide_eq_true_eq] at e; simpa using e)
      have g4 : some p0 = some qq := b1.symm.trans g1
      cases g4
      have cm2 : A.1 2 (A.1 1 0 - 2 + 1) = cmA A := by
        unfold cmA
        rw [show A.1 1 0 - 2 + 1 = A.1 1 0 - 1 by omega]
      rw [cm2] at b2
      rw [b1]
      show VRl (fsO (F 2 (F 7 (40 * A.1 2 (A.1 1 0 - 2) + (p0 + 1))))) _ _ _ _
      rw [b2, ← ht, z4, z5, y4, y5, up_s, up_s, up_s, up_s]
      rw [b2, ← ht] at g3
      exact hv g3
theorem s_ret {F : Nat → Nat → Nat} {A B : VM} (G : GF F) (h : RL F A B) {m p : Nat} (hm : cmA A = m) (hp : cpA A = p) (ho : 14 ≤ (opS (F 7 (40 * m + p))) ∧ (opS (F 7 (40 * m + p))) ≤ 16) {w1 w2 : Nat} : RL F (gvA A (F 2 m) (opN (F 7 (40 * m + p)))) (stB F B m p (opS (F 7 (40 * m + p))) (F 7 (40 * m + p)) w1 w2) ∨ EN (gvA A (F 2 m) (opN (F 7 (40 * m + p)))) (stB F B m p (opS (F 7 (40 * m + p))) (F 7 (40 * m + p)) w1 w2) := by
  obtain ⟨c1, c2, c3, c4, c5, c6⟩ := h.cx G hm hp
  have fk := frm_p c3
  have hk := fk.2.2.2.1
  unfold kOK at hk
  rw [if_pos ho, decide_eq_true_eq] at hk
  have d4 := G.1.2.2.1 m
  by_cases h0 : F 2 m = 0
  · rw [if_pos h0] at hk
    refine ret_ok2 G h (t := F 2 m) (us := usG F m p) (w := if F 2 m = 0 then 0 else gW A (opN (F 7 (40 * m + p)))) (d := if F 2 m = 0 then 0 else gE A (opN (F 7 (40 * m + p)))) (w' := 0) (d' := 0) rfl (p + szO (opS (F 7 (40 * m + p)))) ?_ (by rw [hm]) d4 ?_ (usG_8 G.1) (fun e => if_pos e) (fun e => absurd h0 e) (by rw [if_pos h0]; exact d0_dB) d0_dB
    · unfold stB
      rw [hk, h.de]
      rfl
    · unfold usG usD
      rw [hk, h0]
      decide +kernel
  · rw [if_neg h0] at hk
    have ho2 : (opS (F 7 (40 * m + p))) = 15 ∨ (opS (F 7 (40 * m + p))) = 16 := by
      split at hk
      · exact Or.inl hk
      · exact Or.inr hk
    have x : cvt (opS (F 7 (40 * m + p))) = false ∧ cps (opS (F 7 (40 * m + p))) = false ∧ jns (opS (F 7 (40 * m + p))) = false ∧ kdO (opS (F 7 (40 * m + p))) = 3 := by
      rcases ho2 with e | e <;> rw [e] <;> decide +kernel
    obtain ⟨x1, x2, x3, x7⟩ := x
    have r1 := rg_ret G.1 fk.2.2.1 fk.2.2.2.1 ho.1 ho.2 h0
    obtain ⟨g1, g2⟩ := ps_o (bf := pbG (bgF F m) p) (row := TT F m p) x1 x2 x3 (by omega) (by omega)
    have hs : isT (TT F m p) (opN (F 7 (40 * m + p))) (F 2 m) = true := by
      rw [g1] at c4
      rcases ho2 with e | e
      · rw [e] at c4
        exact c4
      · rw [e] at c4
        exact c4
    have v := c6 _ r1
    rw [isT_r hs] at v
    refine ret_ok2 G h (t := F 2 m) (us := usG F m p) (w := if F 2 m = 0 then 0 else gW A (opN (F 7 (40 * m + p)))) (d := if F 2 m = 0 then 0 else gE A (opN (F 7 (40 * m + p)))) (w' := gW B (opN (F 7 (40 * m + p)))) (d' := gE B (opN (F 7 (40 * m + p)))) rfl (p + szO (opS (F 7 (40 * m + p)))) ?_ (by rw [hm]) d4 ?_ (usG_8 G.1) (fun e => if_pos e) (fun e => ?_) ?_ (h.db _)
    · unfold stB
      rw [x7, h.de]
      rfl
    · unfold usG
      rw [if_pos x7]
    · rw [if_neg h0, if_neg h0]
      exact v
    · rw [if_neg h0]
      exact h.da.g r1 h.d6
theorem zrA_1 {A : VM} {b : Nat} : ∀ n, (zrA A b n).1 = A.1
  | 0 => rfl
  | n + 1 => zrA_1 n
theorem zrA_f {A : VM} {b : Nat} : ∀ n, (zrA A b n).2.2.2 = A.2.2.2
  | 0 => rfl
  | n + 1 => zrA_f n
theorem zrA_n {A : VM} {b k : Nat} (hk : k < b) : ∀ n, (zrA A b n).2.1 k = A.2.1 k ∧ (zrA A b n).2.2.1 k = A.2.2.1 k
  | 0 => ⟨rfl, rfl⟩
  | n + 1 => ⟨(up_n (by omega)).trans (zrA_n hk n).1, (up_n (by omega)).trans (zrA_n hk n).2⟩
theorem zrA_d {A : VM} {b k : Nat} (h : dB (A.2.2.1 k)) : ∀ n, dB ((zrA A b n).2.2.1 k)
  | 0 => h
  | n + 1 => dB_up (zrA_d h n) d0_dB
theorem cpyA_1 {F : Nat → Nat → Nat} {c w2 fr to : Nat} {A : VM} : ∀ n, (cpyA F c w2 fr to A n).1 = A.1 ∧ (cpyA F c w2 fr to A n).2.2.2 = A.2.2.2
  | 0 => ⟨rfl, rfl⟩
  | n + 1 => cpyA_1 n
theorem cpyA_n {F : Nat → Nat → Nat} {c w2 fr to : Nat} {A : VM} {k : Nat} (hk : k < to) : ∀ n, (cpyA F c w2 fr to A n).2.1 k = A.2.1 k ∧ (cpyA F c w2 fr to A n).2.2.1 k = A.2.2.1 k
  | 0 => ⟨rfl, rfl⟩
  | n + 1 => ⟨(up_n (by omega)).trans (cpyA_n hk n).1, (up_n (by omega)).trans (cpyA_n hk n).2⟩
theorem enB_1 {F : Nat → Nat → Nat} {c w2 i D : Nat} {B : VM} : ∀ n, (enB F c w2 i D B n).1 = uf (uf B.1 2 D c) 3 D 0 ∧ (enB F c w2 i D B n).2.2.2 = B.2.2.2
  | 0 => ⟨rfl, rfl⟩
  | n + 1 => enB_1 n
theorem enB_n {F : Nat → Nat → Nat} {c w2 i D : Nat} {B : VM} {k : Nat} (hk : k < 10 * D) : ∀ n, (enB F c w2 i D B n).2.1 k = B.2.1 k ∧ (enB F c w2 i D B n).2.2.1 k = B.2.2.1 k
  | 0 => ⟨rfl, rfl⟩
  | n + 1 => ⟨(up_n (by omega)).trans (enB_n hk n).1, (up_n (by omega)).trans (enB_n hk n).2⟩
theorem enB_d {F : Nat → Nat → Nat} {c w2 i D : Nat} {B : VM} (h : ∀ k, dB (B.2.2.1 k)) {k : Nat} : ∀ n, dB ((enB F c w2 i D B n).2.2.1 k)
  | 0 => h k
  | n + 1 => dB_up (enB_d h n) (h _)
theorem uaG_j {F : Nat → Nat → Nat} {c w2 : Nat} {row : Nat → Nat} : ∀ {n : Nat}, uaG F c w2 row n = true → ∀ j, j < n → isT row (agW w2 (agK F c j)) (F 4 (3 * c + j)) = true
  | 0, _, j, h => absurd h (Nat.not_lt_zero _)
  | n + 1, h, j, hj => by
    unfold uaG at h
    rw [Bool.and_eq_true] at h
    by_cases e : j = n
    · subst e
      exact h.2
    · exact uaG_j h.1 j (by omega)
/-- a method's first unit -/
theorem GF.m0 {F : Nat → Nat → Nat} (G : GF F) {c : Nat} (hc : c < F 0 0) : RH F c 0 ∧ isRs (F 7 (40 * c + 0)) = false ∧ ∀ r, r < 10 → TT F c 0 r = 0 ∨ TT F c 0 r = bgN F c (F 3 c) r := by
  obtain ⟨g1, g2⟩ := G.2.2 c hc
  have f := (vr_fl G.1 g1).2
  have h6 := G.2.1.2.2 c hc
  have hb : bgF F c 0 = true := by
    show (decide (0 < F 6 c) && (decide (0 = 0) || _)) = true
    rw [decide_eq_true (show 0 < F 6 c by omega)]
    rfl
  have hR : RH F c 0 := ⟨by omega, hb, f.1⟩
  refine ⟨hR, ?_, f.2⟩
  cases e : isRs (F 7 (40 * c + 0)) with
  | false => rfl
  | true =>
    have fk := frm_p (hR.c G hc).1
    obtain ⟨qq, q1, _⟩ := res_ok fk.2.2.1 fk.2.2.2.1 (by unfold isRs at e; rw [decide_eq_true_eq] at e; simpa using e)
    exact absurd q1 (by show ¬ none = some qq; simp)
theorem call_rg {F : Nat → Nat → Nat} (G : GF F) {A B X Y : VM} {m c w2 D : Nat} (hc : c < F 0 0) (hD : 1 ≤ D) {row : Nat → Nat} (hG : RG row (10 * (D - 1)) A B) (hu : uaG F c w2 row (F 3 c) = true) (hag : agOK F m c w2 (F 3 c) = true) (hX : ∀ k, k < 10 * D → X.2.1 k = A.2.1 k ∧ X.2.2.1 k = A.2.2.1 k) (hY : ∀ k, k < 10 * D → Y.2.1 k = B.2.1 k ∧ Y.2.2.1 k = B.2.2.1 k) : ∀ j, j ≤ F 3 c → RG (bgN F c j) (10 * D) (cpyA F c w2 (10 * (D - 1)) (10 * D + F 5 c - pwF F c) X j) (enB F c w2 (D - 1) D Y j)
  | 0, _ => fun r hr => VRl.n (Or.inl rfl)
  | j + 1, hj => by
    have hQ := G.2.1.2.1 c hc
    have hs := agOK_hs hag j (by omega)
    unfold hsR at hs
    rw [decide_eq_true_eq] at hs
    have h5 := G.1.2.2.2.2.2.1 m
    have hw1 : 1 ≤ wdt (F 4 (3 * c + j)) := by unfold wdt; split <;> decide
    have h10 : agW w2 (agK F c j) < 10 := by omega
    have a1 := (cpyA_n (F := F) (c := c) (w2 := w2) (fr := 10 * (D - 1)) (to := 10 * D + F 5 c - pwF F c) (A := X) (k := 10 * (D - 1) + agW w2 (agK F c j)) (by omega) j)
    have a2 := hX (10 * (D - 1) + agW w2 (agK F c j)) (by omega)
    have b2 := hY (10 * (D - 1) + agW w2 (agK F c j)) (by omega)
    have v := hG _ h10
    rw [isT_r (uaG_j hu j (by omega))] at v
    have ix : 10 * D + F 5 c - pwF F c + agK F c j = 10 * D + (F 5 c - pwF F c + agK F c j) := by omega
    refine RG.st (call_rg G hc hD hG hu hag hX hY j (by omega)) (r := F 5 c - pwF F c + agK F c j) (t := F 4 (3 * c + j)) (pr := decide (F 4 (3 * c + j) = 2 ∨ F 4 (3 * c + j) = 4)) (fun q => by right; simpa using q) (fun i hi e => ?_) (fun _ => ?_)
    · exact ⟨up_n (by omega), up_n (by omega), up_n (by omega), up_n (by omega)⟩
    · show VRl _ (va_up _ (10 * D + F 5 c - pwF F c + agK F c j) _ _) (va_up _ (10 * D + (F 5 c - pwF F c + agK F c j)) _ _) (va_up _ (10 * D + F 5 c - pwF F c + agK F c j) _ _) (va_up _ (10 * D + (F 5 c - pwF F c + agK F c j)) _ _)
      rw [ix, up_s, up_s, up_s, up_s, a1.1, a1.2, a2.1, a2.2, b2.1, b2.2]
      exact v
theorem cpyA_d {F : Nat → Nat → Nat} {c w2 fr to : Nat} {X : VM} (h : ∀ k, k ≤ 60 → dB (X.2.2.1 k)) {n : Nat} (hf : ∀ j, j < n → fr + agW w2 (agK F c j) ≤ 60) : ∀ j, j ≤ n → ∀ k, k ≤ 60 → dB ((cpyA F c w2 fr to X j).2.2.1 k)
  | 0, _, k, hk => h k hk
  | j + 1, hj, k, hk => dB_up (cpyA_d h hf j (by omega) k hk) (cpyA_d h hf j (by omega) _ (hf j (by omega)))
/-- a method is called -/
theorem s_call {F : Nat → Nat → Nat} {A B : VM} (G : GF F) (h : RL F A B) {m p : Nat} (hm : cmA A = m) (hp : cpA A = p) (ho : (opS (F 7 (40 * m + p))) = 113) : (A.1 1 0 ≠ 6 → RL F (calA F A m p) (stB F B m p (opS (F 7 (40 * m + p))) (F 7 (40 * m + p)) (F 7 (40 * m + (p + 1))) (F 7 (40 * m + (p + 2))))) ∧ (A.1 1 0 = 6 → stB F B m p (opS (F 7 (40 * m + p))) (F 7 (40 * m + p)) (F 7 (40 * m + (p + 1))) (F 7 (40 * m + (p + 2))) = aI (aI (aI B 3 (A.1 1 0 - 1) (p + szO (opS (F 7 (40 * m + p))))) 0 0 3) 5 0 2) := by
  obtain ⟨c1, c2, c3, c4, c5, c6⟩ := h.cx G hm hp
  have d1 := h.d1
  have d6 := h.d6
  have x : cvt (opS (F 7 (40 * m + p))) = false ∧ cps (opS (F 7 (40 * m + p))) = false ∧ jns (opS (F 7 (40 * m + p))) = false ∧ ens (opS (F 7 (40 * m + p))) = false ∧ szO (opS (F 7 (40 * m + p))) = 3 ∧ kdO (opS (F 7 (40 * m + p))) = 14 := by
    rw [ho]; decide +kernel
  obtain ⟨x1, x2, x3, x5, x6, x7⟩ := x
  have fk := frm_p c3
  have hag := rg_113 fk.2.2.1 (show (opS (F 7 (40 * m + p))) ∈ [113] by rw [ho]; decide)
  unfold agT at hag
  simp only [Bool.and_eq_true, decide_eq_true_eq] at hag
  obtain ⟨ga, gb, gc⟩ := hag
  obtain ⟨C, hC⟩ : ∃ C, C = F 7 (40 * m + (p + 1)) := ⟨_, rfl⟩
  obtain ⟨W2, hW2⟩ : ∃ C, C = F 7 (40 * m + (p + 2)) := ⟨_, rfl⟩
  have eB : stB F B m p (opS (F 7 (40 * m + p))) (F 7 (40 * m + p)) (F 7 (40 * m + (p + 1))) (F 7 (40 * m + (p + 2))) = if 6 ≤ A.1 1 0 then aI (aI (aI B 3 (A.1 1 0 - 1) (p + szO (opS (F 7 (40 * m + p))))) 0 0 3) 5 0 2 else aI (enB F (F 7 (40 * m + (p + 1))) (F 7 (40 * m + (p + 2))) (A.1 1 0 - 1) (A.1 1 0) (aI B 3 (A.1 1 0 - 1) (p + szO (opS (F 7 (40 * m + p))))) (F 3 (F 7 (40 * m + (p + 1))))) 1 0 (A.1 1 0 + 1) := by
    unfold stB
    rw [x7, h.de]
    rfl
  refine ⟨fun h6 => ?_, fun h6 => by rw [eB, if_pos (by omega)]⟩
  rw [eB, if_neg (by omega), x6]
  unfold calA
  rw [← hC, ← hW2] at gc ⊢
  rw [← hC] at ga gb
  obtain ⟨g1, g2⟩ := ps_o (bf := pbG (bgF F m) p) (row := TT F m p) x1 x2 x3 (by omega) (by omega)
  have hu : uaG F C W2 (TT F m p) (F 3 C) = true := by
    rw [g1, ho] at c4
    have : uaA F m p (TT F m p) = true := c4
    unfold uaA at this
    rw [← hC, ← hW2] at this
    exact this
  obtain ⟨f1, f2, f3, f4, f5⟩ := h.fm (A.1 1 0 - 1) (by omega)
  rw [show A.1 2 (A.1 1 0 - 1) = m from hm, show A.1 3 (A.1 1 0 - 1) = p from hp] at f5
  obtain ⟨X, hX⟩ : ∃ X, X = entA (aI A 3 (A.1 1 0 - 1) (p + 3)) C := ⟨_, rfl⟩
  obtain ⟨Y, hY⟩ : ∃ Y, Y = aI B 3 (A.1 1 0 - 1) (p + 3) := ⟨_, rfl⟩
  rw [← hX, ← hY]
  have X1 : X.1 = uf (uf (uf (uf A.1 3 (A.1 1 0 - 1) (p + 3)) 2 (A.1 1 0) C) 3 (A.1 1 0) 0) 1 0 (A.1 1 0 + 1) := by
    rw [hX]
    show uf (zrA _ _ 10).1 1 0 _ = _
    rw [zrA_1]
    rfl
  have Xf : X.2.2.2 = A.2.2.2 := by
    rw [hX]
    show (zrA _ _ 10).2.2.2 = _
    rw [zrA_f]
    rfl
  have Xk : ∀ k, k < 10 * A.1 1 0 → X.2.1 k = A.2.1 k ∧ X.2.2.1 k = A.2.2.1 k := fun k hk => by
    rw [hX]
    exact zrA_n (b := 10 * A.1 1 0) hk 10
  have Xd : ∀ k, k ≤ 60 → dB (X.2.2.1 k) := fun k hk => by
    rw [hX]
    exact zrA_d (A := aI (aI (aI A 3 (A.1 1 0 - 1) (p + 3)) 2 (A.1 1 0) C) 3 (A.1 1 0) 0) (h.da k hk) 10
  have Yk : ∀ k, k < 10 * A.1 1 0 → Y.2.1 k = B.2.1 k ∧ Y.2.2.1 k = B.2.2.1 k := fun k _ => by rw [hY]; exact ⟨rfl, rfl⟩
  obtain ⟨P, hP⟩ : ∃ P, P = cpyA F C W2 (10 * (A.1 1 0 - 1)) (10 * A.1 1 0 + F 5 C - pwF F C) X (F 3 C) := ⟨_, rfl⟩
  obtain ⟨Q, hQ⟩ : ∃ Q, Q = aI (enB F C W2 (A.1 1 0 - 1) (A.1 1 0) Y (F 3 C)) 1 0 (A.1 1 0 + 1) := ⟨_, rfl⟩
  have hpw := G.2.1.2.1 C ga
  rw [← hP, ← hQ]
  have P1 : P.1 = uf (uf (uf (uf A.1 3 (A.1 1 0 - 1) (p + 3)) 2 (A.1 1 0) C) 3 (A.1 1 0) 0) 1 0 (A.1 1 0 + 1) := by
    rw [hP, (cpyA_1 _).1, X1]
  have Q1 : Q.1 = uf (uf (uf (uf B.1 3 (A.1 1 0 - 1) (p + 3)) 2 (A.1 1 0) C) 3 (A.1 1 0) 0) 1 0 (A.1 1 0 + 1) := by
    rw [hQ]
    show uf (enB _ _ _ _ _ _ _).1 1 0 _ = _
    rw [(enB_1 _).1, hY]
    rfl
  have Pk : ∀ k, k < 10 * A.1 1 0 → P.2.1 k = A.2.1 k ∧ P.2.2.1 k = A.2.2.1 k := fun k hk => by
    rw [hP, (cpyA_n (by omega) _).1, (cpyA_n (by omega) _).2]
    exact Xk k hk
  have Qk : ∀ k, k < 10 * A.1 1 0 → Q.2.1 k = B.2.1 k ∧ Q.2.2.1 k = B.2.2.1 k := fun k hk => by
    rw [hQ]
    have := enB_n (F := F) (c := C) (w2 := W2) (i := A.1 1 0 - 1) (B := Y) hk (F 3 C)
    exact ⟨this.1.trans (Yk k hk).1, this.2.trans (Yk k hk).2⟩
  have pD : P.1 1 0 = A.1 1 0 + 1 := by rw [P1]; exact uf_s
  have p2 : ∀ i, i ≠ A.1 1 0 → P.1 2 i = A.1 2 i := fun i hi => by
    rw [P1, uf_n (Or.inl (by decide)), uf_n (Or.inl (by decide)), uf_n (Or.inr hi), uf_n (Or.inl (by decide))]
  have p2D : P.1 2 (A.1 1 0) = C := by
    rw [P1, uf_n (Or.inl (by decide)), uf_n (Or.inl (by decide)), uf_s]
  have p3D : P.1 3 (A.1 1 0) = 0 := by
    rw [P1, uf_n (Or.inl (by decide)), uf_s]
  have p3d : P.1 3 (A.1 1 0 - 1) = p + 3 := by
    rw [P1, uf_n (Or.inl (by decide)), uf_n (Or.inr (by omega)), uf_n (Or.inl (by decide)), uf_s]
  have p3 : ∀ i, i ≠ A.1 1 0 → i ≠ A.1 1 0 - 1 → P.1 3 i = A.1 3 i := fun i hi hj => by
    rw [P1, uf_n (Or.inl (by decide)), uf_n (Or.inr hi), uf_n (Or.inl (by decide)), uf_n (Or.inr hj)]
  have q2 : ∀ i, i ≠ A.1 1 0 → Q.1 2 i = B.1 2 i := fun i hi => by
    rw [Q1, uf_n (Or.inl (by decide)), uf_n (Or.inl (by decide)), uf_n (Or.inr hi), uf_n (Or.inl (by decide))]
  have q2D : Q.1 2 (A.1 1 0) = C := by
    rw [Q1, uf_n (Or.inl (by decide)), uf_n (Or.inl (by decide)), uf_s]
  have q3D : Q.1 3 (A.1 1 0) = 0 := by
    rw [Q1, uf_n (Or.inl (by decide)), uf_s]
  have q3d : Q.1 3 (A.1 1 0 - 1) = p + 3 := by
    rw [Q1, uf_n (Or.inl (by decide)), uf_n (Or.inr (by omega)), uf_n (Or.inl (by decide)), uf_s]
  have q3 : ∀ i, i ≠ A.1 1 0 → i ≠ A.1 1 0 - 1 → Q.1 3 i = B.1 3 i := fun i hi hj => by
    rw [Q1, uf_n (Or.inl (by decide)), uf_n (Or.inr hi), uf_n (Or.inl (by decide)), uf_n (Or.inr hj)]
  obtain ⟨m1, m2, m3⟩ := G.m0 ga
  have hgo := (c2.c G c1).2.2.1 x5
  rw [g2, x6, show poN F m p (pbG (bgF F m) p) (TT F m p) (opS (F 7 (40 * m + p))) = TT F m p by rw [ho]; rfl] at hgo
  have hmg := fk.2.2.2.2.1
  rw [x6, x5] at hmg
  have hmg2 : mgN F (bgF F m) m (p + 3) (decide ((opS (F 7 (40 * m + p))) = 113)) = true := by
    rcases hmg with e | e
    · exact absurd e (by decide)
    · exact e
  have hRH : RH F m (p + 3) := ⟨(mgN_p hmg2).1, (mgN_p hmg2).2, hgo.1⟩
  have pb3 := pbG_nx c2.2.1 (show szO (opS (F 7 (40 * m + p))) ≠ 0 by rw [x6]; decide)
  rw [x6] at pb3
  have cm : cmA P = C := by unfold cmA; rw [pD]; exact p2D
  have cp : cpA P = 0 := by unfold cpA; rw [pD]; exact p3D
  refine ⟨by rw [P1]; exact h.c1, by rw [Q1]; exact h.c2, by omega, by omega, by rw [pD, Q1]; exact uf_s, fun i hi => ?_, fun i hi => ?_, fun e => ?_, fun k hk => ?_, by rw [Q1]; exact h.b4, fun k hk => ?_, fun k => ?_⟩
  · rw [pD] at hi
    by_cases e : i = A.1 1 0
    · subst e
      rw [p2D, q2D, p3D, q3D]
      refine ⟨ga, rfl, rfl, m1, RG.mono ?_ m3⟩
      have := call_rg G (m := m) ga d1 f5 hu gc Xk Yk (F 3 C) (Nat.le_refl _)
      rw [← hP] at this
      exact this.same fun r hr => by rw [hQ]; exact ⟨rfl, rfl, rfl, rfl⟩
    · by_cases e2 : i = A.1 1 0 - 1
      · subst e2
        rw [p2 _ e, q2 _ e, p3d, q3d, show A.1 2 (A.1 1 0 - 1) = m from hm]
        refine ⟨c1, f2.trans hm, rfl, hRH, (f5.mono hgo.2).same fun r hr => ?_⟩
        exact ⟨(Pk _ (by omega)).1, (Pk _ (by omega)).2, (Qk _ (by omega)).1, (Qk _ (by omega)).2⟩
      · obtain ⟨k1, k2, k3, k4, k5⟩ := h.fm i (by omega)
        rw [p2 _ e, q2 _ e, p3 _ e e2, q3 _ e e2]
        exact ⟨k1, k2, k3, k4, k5.same fun r hr => ⟨(Pk _ (by omega)).1, (Pk _ (by omega)).2, (Qk _ (by omega)).1, (Qk _ (by omega)).2⟩⟩
  · rw [pD] at hi
    by_cases e2 : i = A.1 1 0 - 1
    · subst e2
      rw [p2 _ (by omega), p3d, show A.1 1 0 - 1 + 1 = A.1 1 0 by omega, p2D, show A.1 2 (A.1 1 0 - 1) = m from hm]
      exact ⟨p, pb3, hC.symm⟩
    · rw [p2 _ (by omega), p2 _ (by omega), p3 _ (by omega) e2]
      exact h.fc i (by omega)
  · rw [cm, cp, m2] at e
    exact absurd e (by decide)
  · rw [hP, (cpyA_1 _).2, Xf, hQ]
    show (enB _ _ _ _ _ _ _).2.2.2 k = _
    rw [(enB_1 _).2, hY]
    exact h.ff k hk
  · rw [hP]
    refine cpyA_d Xd (n := F 3 C) (fun j hj => ?_) (F 3 C) (Nat.le_refl _) k hk
    have hs := agOK_hs gc j hj
    unfold hsR at hs
    rw [decide_eq_true_eq] at hs
    have h5 := G.1.2.2.2.2.2.1 m
    omega
  · rw [hQ]
    show dB ((enB _ _ _ _ _ _ _).2.2.1 k)
    exact enB_d (by rw [hY]; exact h.db) _

