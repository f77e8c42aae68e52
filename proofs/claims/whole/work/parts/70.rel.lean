/-! both machines side by side -/
/-- what two registers hold that have the type t -/
def VRl (t : Nat) (w w' : Int64) (d d' : UInt64) : Prop := (t = 1 → w' = w ∧ ∃ x : Int32, w = x.toInt64) ∧ (t = 2 → d' = d ∧ ∃ x, fB x ∧ d = FP.f2d x) ∧ (t = 3 → w' = w) ∧ (t = 5 → d' = d)
theorem VRl.n {t : Nat} {w w' : Int64} {d d' : UInt64} (h : t = 0 ∨ t = 4 ∨ t = 6) : VRl t w w' d d' := ⟨fun e => by omega, fun e => by omega, fun e => by omega, fun e => by omega⟩
theorem VRl.i {w w' : Int64} {d d' : UInt64} (h : w' = w) (k : ∃ x : Int32, w = x.toInt64) : VRl 1 w w' d d' := ⟨fun _ => ⟨h, k⟩, fun e => by omega, fun e => by omega, fun e => by omega⟩
theorem VRl.f {w w' : Int64} {d d' : UInt64} (h : d' = d) (k : ∃ x, fB x ∧ d = FP.f2d x) : VRl 2 w w' d d' := ⟨fun e => by omega, fun _ => ⟨h, k⟩, fun e => by omega, fun e => by omega⟩
theorem VRl.l {w w' : Int64} {d d' : UInt64} (h : w' = w) : VRl 3 w w' d d' := ⟨fun e => by omega, fun e => by omega, fun _ => h, fun e => by omega⟩
theorem VRl.d {w w' : Int64} {d d' : UInt64} (h : d' = d) : VRl 5 w w' d d' := ⟨fun e => by omega, fun e => by omega, fun e => by omega, fun _ => h⟩
/-- a row of types, and the registers of both sides from b on -/
def RG (row : Nat → Nat) (b : Nat) (A B : VM) : Prop := ∀ r, r < 10 → VRl (row r) (A.2.1 (b + r)) (B.2.1 (b + r)) (A.2.2.1 (b + r)) (B.2.2.1 (b + r))
theorem RG.mono {row row' : Nat → Nat} {b : Nat} {A B : VM} (h : RG row b A B) (k : ∀ r, r < 10 → row' r = 0 ∨ row' r = row r) : RG row' b A B := fun r hr => by
  rcases k r hr with e | e
  · exact VRl.n (Or.inl e)
  · rw [e]
    exact h r hr
theorem RG.same {row : Nat → Nat} {b : Nat} {A B A' B' : VM} (h : RG row b A B) (k : ∀ r, r < 10 → A'.2.1 (b + r) = A.2.1 (b + r) ∧ A'.2.2.1 (b + r) = A.2.2.1 (b + r) ∧ B'.2.1 (b + r) = B.2.1 (b + r) ∧ B'.2.2.1 (b + r) = B.2.2.1 (b + r)) : RG row b A' B' := fun r hr => by
  obtain ⟨a, c, d, e⟩ := k r hr
  rw [a, c, d, e]
  exact h r hr
theorem stN_o {N : Nat → Nat} {r t : Nat} {pr : Bool} : ∀ j, j ≠ r → stN N r t pr j = 0 ∨ stN N r t pr j = N j ∨ (j = r + 1 ∧ t ≠ 0 ∧ pr = true ∧ stN N r t pr j = fsO t + 1) := fun j hj => by
  have l1 : ∀ (M : Nat → Nat) (x : Nat), lsn M x j = 0 ∨ lsn M x j = M j := fun M x => by
    rw [lsn_v]
    split
    · exact Or.inl rfl
    · exact Or.inr rfl
  have l2 : lsn (lsn N r) (r + 1) j = 0 ∨ lsn (lsn N r) (r + 1) j = N j := by
    rcases l1 (lsn N r) (r + 1) with e | e
    · exact Or.inl e
    · rw [e]
      exact l1 N r
  unfold stN
  by_cases hp : pr = true
  · rw [if_pos hp]
    by_cases h0 : t = 0
    · rw [if_pos h0]
      rcases l2 with e | e
      · exact Or.inl e
      · exact Or.inr (Or.inl e)
    · rw [if_neg h0]
      by_cases e : j = r + 1
      · exact Or.inr (Or.inr ⟨e, h0, hp, by rw [e]; exact up_s⟩)
      · rw [up_n e, up_n hj]
        rcases l2 with e | e
        · exact Or.inl e
        · exact Or.inr (Or.inl e)
  · rw [if_neg hp]
    by_cases h0 : t = 0
    · rw [if_pos h0]
      rcases l1 N r with e | e
      · exact Or.inl e
      · exact Or.inr (Or.inl e)
    · rw [if_neg h0, up_n hj]
      rcases l1 N r with e | e
      · exact Or.inl e
      · exact Or.inr (Or.inl e)
theorem stN_r {N : Nat → Nat} {r t : Nat} {pr : Bool} : stN N r t pr r = if t = 0 then 0 else fsO t := by
  unfold stN
  by_cases hp : pr = true
  · rw [if_pos hp]
    by_cases h0 : t = 0
    · rw [if_pos h0, if_pos h0, lsn_v]
      by_cases e : r = r + 1 ∨ ((lsn N r (r + 1) = 3 ∨ lsn N r (r + 1) = 5) ∧ r = r + 1 + 1) ∨ (¬ (lsn N r (r + 1) = 3 ∨ lsn N r (r + 1) = 5) ∧ 3 < lsn N r (r + 1) ∧ r = r + 1 - 1)
      · rw [if_pos e]
      · rw [if_neg e]
        exact lsn_0
    · rw [if_neg h0, if_neg h0, up_n (by omega), up_s]
  · rw [if_neg hp]
    by_cases h0 : t = 0
    · rw [if_pos h0, if_pos h0]
      exact lsn_0
    · rw [if_neg h0, if_neg h0, up_s]
/-- one register is set, on both sides -/
theorem RG.st {row : Nat → Nat} {b : Nat} {A B A' B' : VM} (h : RG row b A B) {r t : Nat} {pr : Bool} (hp : pr = true → t = 0 ∨ t = 2 ∨ t = 4) (k : ∀ j, j < 10 → j ≠ r → A'.2.1 (b + j) = A.2.1 (b + j) ∧ A'.2.2.1 (b + j) = A.2.2.1 (b + j) ∧ B'.2.1 (b + j) = B.2.1 (b + j) ∧ B'.2.2.1 (b + j) = B.2.2.1 (b + j)) (hv : t ≠ 0 → VRl (fsO t) (A'.2.1 (b + r)) (B'.2.1 (b + r)) (A'.2.2.1 (b + r)) (B'.2.2.1 (b + r))) : RG (stN row r t pr) b A' B' := fun j hj => by
  by_cases e : j = r
  · subst e
    rw [stN_r]
    by_cases h0 : t = 0
    · rw [if_pos h0]
      exact VRl.n (Or.inl rfl)
    · rw [if_neg h0]
      exact hv h0
  · rcases stN_o (N := row) (r := r) (t := t) (pr := pr) j e with c | c | c
    · exact VRl.n (Or.inl c)
    · rw [c]
      obtain ⟨k1, k2, k3, k4⟩ := k j hj e
      rw [k1, k2, k3, k4]
      exact h j hj
    · obtain ⟨_, c0, c1, c2⟩ := c
      rw [c2]
      rcases hp c1 with q | q | q
      · exact absurd q c0
      · subst q
        exact VRl.n (Or.inr (Or.inl rfl))
      · subst q
        exact VRl.n (Or.inr (Or.inr rfl))
/-- a file whose methods have all been found good -/
def GF (F : Nat → Nat → Nat) : Prop := FW F ∧ FV F ∧ ∀ m, m < F 0 0 → GM F m
/-- a place that may be come to -/
def RH (F : Nat → Nat → Nat) (m p : Nat) : Prop := p < F 6 m ∧ bgF F m p = true ∧ (vrR F m).1.2.1 p = true
/-- the row of a place -/
def TT (F : Nat → Nat → Nat) (m p : Nat) : Nat → Nat := (vrR F m).1.1 p
/-- behind a call of c -/
def CB (F : Nat → Nat → Nat) (m p c : Nat) : Prop := ∃ p0, pbG (bgF F m) p = some p0 ∧ F 7 (40 * m + (p0 + 1)) = c
/-- both machines run, and hold the same where it can be seen -/
def RL (F : Nat → Nat → Nat) (A B : VM) : Prop := (A.1 0 0 = 1) ∧ (B.1 0 0 = 1) ∧ (1 ≤ A.1 1 0) ∧ (A.1 1 0 ≤ 6) ∧ (B.1 1 0 = A.1 1 0) ∧ (∀ i, i < A.1 1 0 → A.1 2 i < F 0 0 ∧ B.1 2 i = A.1 2 i ∧ B.1 3 i = A.1 3 i ∧ RH F (A.1 2 i) (A.1 3 i) ∧ RG (TT F (A.1 2 i) (A.1 3 i)) (10 * i) A B) ∧ (∀ i, i + 1 < A.1 1 0 → CB F (A.1 2 i) (A.1 3 i) (A.1 2 (i + 1))) ∧ (isRs (F 7 (40 * cmA A + cpA A)) = true → VRl (fsO (F 2 (cbF F (cmA A) (pbG (bgF F (cmA A)) (cpA A))))) (A.2.1 60) (B.2.1 60) (A.2.2.1 60) (B.2.2.1 60)) ∧ (∀ k, k < 4 → B.2.2.2 k = A.2.2.2 k) ∧ (B.1 4 0 ≤ 8) ∧ (DA A) ∧ (∀ k, dB (B.2.2.1 k))
theorem RL.c1 {F : Nat → Nat → Nat} {A B : VM} (h : RL F A B) : A.1 0 0 = 1 := h.1
theorem RL.c2 {F : Nat → Nat → Nat} {A B : VM} (h : RL F A B) : B.1 0 0 = 1 := h.2.1
theorem RL.d1 {F : Nat → Nat → Nat} {A B : VM} (h : RL F A B) : 1 ≤ A.1 1 0 := h.2.2.1
theorem RL.d6 {F : Nat → Nat → Nat} {A B : VM} (h : RL F A B) : A.1 1 0 ≤ 6 := h.2.2.2.1
theorem RL.de {F : Nat → Nat → Nat} {A B : VM} (h : RL F A B) : B.1 1 0 = A.1 1 0 := h.2.2.2.2.1
theorem RL.fm {F : Nat → Nat → Nat} {A B : VM} (h : RL F A B) : ∀ i, i < A.1 1 0 → A.1 2 i < F 0 0 ∧ B.1 2 i = A.1 2 i ∧ B.1 3 i = A.1 3 i ∧ RH F (A.1 2 i) (A.1 3 i) ∧ RG (TT F (A.1 2 i) (A.1 3 i)) (10 * i) A B := h.2.2.2.2.2.1
theorem RL.fc {F : Nat → Nat → Nat} {A B : VM} (h : RL F A B) : ∀ i, i + 1 < A.1 1 0 → CB F (A.1 2 i) (A.1 3 i) (A.1 2 (i + 1)) := h.2.2.2.2.2.2.1
theorem RL.rs {F : Nat → Nat → Nat} {A B : VM} (h : RL F A B) : isRs (F 7 (40 * cmA A + cpA A)) = true → VRl (fsO (F 2 (cbF F (cmA A) (pbG (bgF F (cmA A)) (cpA A))))) (A.2.1 60) (B.2.1 60) (A.2.2.1 60) (B.2.2.1 60) := h.2.2.2.2.2.2.2.1
theorem RL.ff {F : Nat → Nat → Nat} {A B : VM} (h : RL F A B) : ∀ k, k < 4 → B.2.2.2 k = A.2.2.2 k := h.2.2.2.2.2.2.2.2.1
theorem RL.b4 {F : Nat → Nat → Nat} {A B : VM} (h : RL F A B) : B.1 4 0 ≤ 8 := h.2.2.2.2.2.2.2.2.2.1
theorem RL.da {F : Nat → Nat → Nat} {A B : VM} (h : RL F A B) : DA A := h.2.2.2.2.2.2.2.2.2.2.1
theorem RL.db {F : Nat → Nat → Nat} {A B : VM} (h : RL F A B) : ∀ k, dB (B.2.2.1 k) := h.2.2.2.2.2.2.2.2.2.2.2
theorem bgc_gap {F : Nat → Nat → Nat} {m p j : Nat} (hz : szO (opS (F 7 (40 * m + p))) ≠ 0) (h1 : p < j) (h2 : j < p + szO (opS (F 7 (40 * m + p)))) : ∀ {f p0 : Nat}, bgc F m f p0 p = true → bgc F m f p0 j = false
  | 0, _, h => rfl
  | f + 1, p0, h => by
    unfold bgc at h ⊢
    simp only [Bool.and_eq_true, Bool.or_eq_true, decide_eq_true_eq] at h
    obtain ⟨ha, hb⟩ := h
    have hn : p0 < nxF F m p0 := by
      unfold nxF
      split
      · exact ha
      · omega
    rcases hb with e | e
    · subst e
      have : bgc F m f (nxF F m p) j = false := bgc_lt (by unfold nxF; rw [if_neg hz]; exact h2)
      rw [this, decide_eq_false (show ¬ j = p by omega)]
      simp
    · have hge : nxF F m p0 ≤ p := by
        by_cases c : nxF F m p0 ≤ p
        · exact c
        · rw [bgc_lt (by omega)] at e
          exact absurd e (by decide)
      rw [bgc_gap hz h1 h2 e, decide_eq_false (show ¬ j = p0 by omega)]
      simp
theorem pbG_nx {F : Nat → Nat → Nat} {m p : Nat} (hb : bgF F m p = true) (hz : szO (opS (F 7 (40 * m + p))) ≠ 0) : pbG (bgF F m) (p + szO (opS (F 7 (40 * m + p)))) = some p := pbG_at hb (by omega) (fun j h1 h2 => bgc_gap hz h1 h2 hb)
theorem mgN_r {F : Nat → Nat → Nat} {Bg : Nat → Bool} {m j : Nat} (h : mgN F Bg m j false = true) : isRs (F 7 (40 * m + j)) = false := by
  unfold mgN at h
  simp only [Bool.false_or, Bool.and_eq_true, Bool.not_eq_true', decide_eq_true_eq] at h
  exact h.2.2
theorem mgo_r {F : Nat → Nat → Nat} {Bg : Nat → Bool} {m : Nat} {x : Int32} (h : mgo F Bg m x false = true) : isRs (F 7 (40 * m + x.toNatClampNeg)) = false := by
  unfold mgo at h
  rw [Bool.and_eq_true] at h
  exact mgN_r h.2
/-- an instruction that is come to -/
theorem RH.c {F : Nat → Nat → Nat} (G : GF F) {m p : Nat} (hm : m < F 0 0) (h : RH F m p) : frmOK F (bgF F m) m p (pbG (bgF F m) p) = true ∧ insG F m p (TT F m p) = true ∧ (ens (opS (F 7 (40 * m + p))) = false → FLW (vrR F m).1 (p + szO (opS (F 7 (40 * m + p)))) (insN F m p (pbG (bgF F m) p) (TT F m p))) ∧ (brs (opS (F 7 (40 * m + p))) = true → FLW (vrR F m).1 (tgO F m p).toNatClampNeg (insN F m p (pbG (bgF F m) p) (TT F m p))) := by
  obtain ⟨g1, g2⟩ := G.2.2 m hm
  have f := (vr_fl G.1 g1).1 p h.1 h.2.1 h.2.2
  have e := (vr_q G.1 g1).2
  rw [g2] at e
  exact ⟨HF.of G.1 g1 p h.1 h.2.1, fw_all G.1 e.symm (by omega) p (Nat.zero_le _) h.1 h.2.1 h.2.2, f.1, f.2⟩
/-- where an instruction goes on in its method -/
def NXT (F : Nat → Nat → Nat) (m : Nat) (N : Nat → Nat) (q : Nat) : Prop := RH F m q ∧ isRs (F 7 (40 * m + q)) = false ∧ ∀ r, r < 10 → TT F m q r = 0 ∨ TT F m q r = N r
theorem RH.nx {F : Nat → Nat → Nat} (G : GF F) {m p : Nat} (hm : m < F 0 0) (h : RH F m p) (he : ens (opS (F 7 (40 * m + p))) = false) (h3 : opS (F 7 (40 * m + p)) ≠ 113) : NXT F m (insN F m p (pbG (bgF F m) p) (TT F m p)) (p + szO (opS (F 7 (40 * m + p)))) := by
  obtain ⟨a, _, c, _⟩ := h.c G hm
  obtain ⟨_, _, _, _, k, _⟩ := frm_p a
  rcases k with k | k
  · rw [he] at k
    exact absurd k (by decide)
  · rw [decide_eq_false h3] at k
    exact ⟨⟨(mgN_p k).1, (mgN_p k).2, (c he).1⟩, mgN_r k, (c he).2⟩
theorem RH.br {F : Nat → Nat → Nat} (G : GF F) {m p : Nat} (hm : m < F 0 0) (h : RH F m p) (he : brs (opS (F 7 (40 * m + p))) = true) : NXT F m (insN F m p (pbG (bgF F m) p) (TT F m p)) (tgO F m p).toNatClampNeg := by
  obtain ⟨a, _, _, c⟩ := h.c G hm
  obtain ⟨_, _, _, _, _, k⟩ := frm_p a
  rcases k with k | k
  · rw [he] at k
    exact absurd k (by decide)
  · exact ⟨⟨(mgo_p k).1, (mgo_p k).2.1, (c he).1⟩, mgo_r k, (c he).2⟩
/-- the top frame goes on -/
theorem RL.go {F : Nat → Nat → Nat} {A B : VM} (h : RL F A B) {A' B' : VM} {q : Nat} {N : Nat → Nat} (hN : NXT F (cmA A) N q) (a1 : A'.1 = uf A.1 3 (A.1 1 0 - 1) q) (b1 : B'.1 = uf B.1 3 (A.1 1 0 - 1) q)
    (e2 : ∀ k, k < 10 * (A.1 1 0 - 1) → A'.2.1 k = A.2.1 k ∧ A'.2.2.1 k = A.2.2.1 k ∧ B'.2.1 k = B.2.1 k ∧ B'.2.2.1 k = B.2.2.1 k)
    (hG : RG N (bs A) A' B') (hf : ∀ k, k < 4 → B'.2.2.2 k = A'.2.2.2 k) (da : DA A') (db : ∀ k, dB (B'.2.2.1 k)) : RL F A' B' := by
  have z1 : A'.1 1 0 = A.1 1 0 := by rw [a1]; rfl
  have z2 : ∀ i, A'.1 2 i = A.1 2 i := fun i => by rw [a1]; exact uf_n (Or.inl (by decide))
  have z3 : ∀ i, i ≠ A.1 1 0 - 1 → A'.1 3 i = A.1 3 i := fun i hi => by rw [a1]; exact uf_n (Or.inr hi)
  have z4 : A'.1 3 (A.1 1 0 - 1) = q := by rw [a1]; exact uf_s
  have y2 : ∀ i, B'.1 2 i = B.1 2 i := fun i => by rw [b1]; exact uf_n (Or.inl (by decide))
  have y3 : ∀ i, i ≠ A.1 1 0 - 1 → B'.1 3 i = B.1 3 i := fun i hi => by rw [b1]; exact uf_n (Or.inr hi)
  have y4 : B'.1 3 (A.1 1 0 - 1) = q := by rw [b1]; exact uf_s
  have d1 := h.d1
  have cm : cmA A' = cmA A := by unfold cmA; rw [z1, z2]
  have cp : cpA A' = q := by unfold cpA; rw [z1, z4]
  refine ⟨by rw [a1]; exact h.c1, by rw [b1]; exact h.c2, by rw [z1]; exact h.d1, by rw [z1]; exact h.d6, by rw [z1, b1]; exact h.de, fun i hi => ?_, fun i hi => ?_, fun e => ?_, hf, by rw [b1]; exact h.b4, da, db⟩
  · rw [z1] at hi
    obtain ⟨f1, f2, f3, f4, f5⟩ := h.fm i hi
    by_cases e : i = A.1 1 0 - 1
    · subst e
      rw [z2, y2, z4, y4]
      exact ⟨f1, f2, rfl, hN.1, RG.mono hG hN.2.2⟩
    · rw [z2, y2, z3 i e, y3 i e]
      exact ⟨f1, f2, f3, f4, f5.same fun r hr => e2 _ (by omega)⟩
  · rw [z1] at hi
    rw [z2, z2, z3 i (by omega)]
    exact h.fc i hi
  · rw [cm, cp, hN.2.1] at e
    exact absurd e (by decide)
/-- one register is set, and the unit -/
def UP (A A' : VM) (i q r : Nat) : Prop := A'.1 = uf A.1 3 i q ∧ (∀ k, k ≠ 10 * i + r → A'.2.1 k = A.2.1 k ∧ A'.2.2.1 k = A.2.2.1 k) ∧ A'.2.2.2 = A.2.2.2
theorem RL.up {F : Nat → Nat → Nat} {A B : VM} (G : GF F) (h : RL F A B) {m p : Nat} (hm : cmA A = m) (hp : cpA A = p) {A' B' : VM} {r t : Nat} {pr : Bool} (hr : r < 10) (hpr : pr = true → t = 0 ∨ t = 2 ∨ t = 4) (hi : insN F m p (pbG (bgF F m) p) (TT F m p) = stN (TT F m p) r t pr) (he : ens (opS (F 7 (40 * m + p))) = false) (h3 : opS (F 7 (40 * m + p)) ≠ 113) (uA : UP A A' (A.1 1 0 - 1) (p + szO (opS (F 7 (40 * m + p)))) r) (uB : UP B B' (A.1 1 0 - 1) (p + szO (opS (F 7 (40 * m + p)))) r) (hv : t ≠ 0 → VRl (fsO t) (A'.2.1 (bs A + r)) (B'.2.1 (bs A + r)) (A'.2.2.1 (bs A + r)) (B'.2.2.1 (bs A + r))) (da : dB (A'.2.2.1 (bs A + r))) (db : dB (B'.2.2.1 (bs A + r))) : RL F A' B' := by
  obtain ⟨f1, f2, f3, f4, f5⟩ := h.fm (A.1 1 0 - 1) (by have := h.d1; omega)
  have hN := RH.nx G f1 f4 (by rw [show A.1 2 (A.1 1 0 - 1) = m from hm, show A.1 3 (A.1 1 0 - 1) = p from hp]; exact he) (by rw [show A.1 2 (A.1 1 0 - 1) = m from hm, show A.1 3 (A.1 1 0 - 1) = p from hp]; exact h3)
  rw [show A.1 2 (A.1 1 0 - 1) = m from hm, show A.1 3 (A.1 1 0 - 1) = p from hp] at hN f5
  rw [hi] at hN
  refine h.go (N := stN (TT F m p) r t pr) (q := p + szO (opS (F 7 (40 * m + p)))) (by rw [hm]; exact hN) uA.1 uB.1 (fun k hk => ⟨(uA.2.1 k (by omega)).1, (uA.2.1 k (by omega)).2, (uB.2.1 k (by omega)).1, (uB.2.1 k (by omega)).2⟩) ?_ (fun k hk => by rw [uA.2.2, uB.2.2]; exact h.ff k hk) (fun k hk => ?_) (fun k => ?_)
  · exact RG.st f5 hpr (fun j hj e => ⟨(uA.2.1 _ (by omega)).1, (uA.2.1 _ (by omega)).2, (uB.2.1 _ (by omega)).1, (uB.2.1 _ (by omega)).2⟩) hv
  · by_cases e : k = bs A + r
    · rw [e]
      exact da
    · rw [(uA.2.1 k e).2]
      exact h.da k hk
  · by_cases e : k = bs A + r
    · rw [e]
      exact db
    · rw [(uB.2.1 k e).2]
      exact h.db k
/-- nothing but the unit, or a field -/
theorem RL.nb {F : Nat → Nat → Nat} {A B : VM} (h : RL F A B) {m p : Nat} (hm : cmA A = m) (hp : cpA A = p) {A' B' : VM} {q : Nat} (hN : NXT F m (TT F m p) q) (a1 : A'.1 = uf A.1 3 (A.1 1 0 - 1) q) (b1 : B'.1 = uf B.1 3 (A.1 1 0 - 1) q) (a2 : A'.2.1 = A.2.1 ∧ A'.2.2.1 = A.2.2.1) (b2 : B'.2.1 = B.2.1 ∧ B'.2.2.1 = B.2.2.1) (hf : ∀ k, k < 4 → B'.2.2.2 k = A'.2.2.2 k) : RL F A' B' := by
  obtain ⟨f1, f2, f3, f4, f5⟩ := h.fm (A.1 1 0 - 1) (by have := h.d1; omega)
  rw [show A.1 2 (A.1 1 0 - 1) = m from hm, show A.1 3 (A.1 1 0 - 1) = p from hp] at f5
  refine h.go (N := TT F m p) (q := q) (by rw [hm]; exact hN) a1 b1 (fun k hk => by rw [a2.1, a2.2, b2.1, b2.2]; exact ⟨rfl, rfl, rfl, rfl⟩) ?_ hf (fun k hk => by rw [a2.2]; exact h.da k hk) (fun k => by rw [b2.2]; exact h.db k)
  exact f5.same fun r hr => by rw [a2.1, a2.2, b2.1, b2.2]; exact ⟨rfl, rfl, rfl, rfl⟩

