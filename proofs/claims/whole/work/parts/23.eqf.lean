/-! files that are the same, whatever stands beside them -/
def EqF (F F' : Nat → Nat → Nat) : Prop := F' 0 0 = F 0 0 ∧ F' 1 0 = F 1 0 ∧ ∀ m, m < F 0 0 → F' 2 m = F 2 m ∧ F' 3 m = F 3 m ∧ F' 5 m = F 5 m ∧ F' 6 m = F 6 m ∧ (∀ k, k < F 3 m → F' 4 (3 * m + k) = F 4 (3 * m + k)) ∧ ∀ j, j < F 6 m → F' 7 (40 * m + j) = F 7 (40 * m + j)
theorem EqF.rf {F : Nat → Nat → Nat} : EqF F F := ⟨rfl, rfl, fun _ _ => ⟨rfl, rfl, rfl, rfl, fun _ _ => rfl, fun _ _ => rfl⟩⟩
theorem EqF.tr {F G H : Nat → Nat → Nat} (h : EqF F G) (k : EqF G H) : EqF F H := by
  obtain ⟨a1, a2, a3⟩ := h
  obtain ⟨b1, b2, b3⟩ := k
  refine ⟨b1.trans a1, b2.trans a2, fun m hm => ?_⟩
  obtain ⟨c1, c2, c3, c4, c5, c6⟩ := a3 m hm
  obtain ⟨d1, d2, d3, d4, d5, d6⟩ := b3 m (by omega)
  exact ⟨d1.trans c1, d2.trans c2, d3.trans c3, d4.trans c4, fun j hj => (d5 j (by omega)).trans (c5 j hj), fun j hj => (d6 j (by omega)).trans (c6 j hj)⟩
theorem EqF.sy {F G : Nat → Nat → Nat} (h : EqF F G) : EqF G F := by
  obtain ⟨a1, a2, a3⟩ := h
  refine ⟨a1.symm, a2.symm, fun m hm => ?_⟩
  obtain ⟨c1, c2, c3, c4, c5, c6⟩ := a3 m (by omega)
  exact ⟨c1.symm, c2.symm, c3.symm, c4.symm, fun j hj => (c5 j (by omega)).symm, fun j hj => (c6 j (by omega)).symm⟩
theorem sw_eq {f g : Nat → Nat} : ∀ {n : Nat}, (∀ i, i < n → f i = g i) → sw f n = sw g n
  | 0, _ => rfl
  | n + 1, h => by
    show sw f n + _ = sw g n + _
    rw [sw_eq fun i hi => h i (by omega), h n (by omega)]
section EQF
variable {F F' : Nat → Nat → Nat} {m : Nat}
theorem EqF.ak (h : EqF F F') {c j : Nat} (hc : c < F 0 0) (hj : j ≤ F 3 c) : agK F' c j = agK F c j := sw_eq fun i hi => (h.2.2 c hc).2.2.2.2.1 i (by omega)
theorem EqF.pw (h : EqF F F') {c : Nat} (hc : c < F 0 0) : pwF F' c = pwF F c := by
  show agK F' c (F' 3 c) = agK F c (F 3 c)
  rw [(h.2.2 c hc).2.1]
  exact h.ak hc (Nat.le_refl _)
theorem EqF.hs (h : EqF F F') (hm : m < F 0 0) : hsR F' m = hsR F m := by
  funext r t
  unfold hsR
  rw [(h.2.2 m hm).2.2.1]
theorem EqF.u (h : EqF F F') (hm : m < F 0 0) {p : Nat} (hp : p < F 6 m) : F' 7 (40 * m + p) = F 7 (40 * m + p) := (h.2.2 m hm).2.2.2.2.2 p hp
theorem EqF.bg (h : EqF F F') (hm : m < F 0 0) : bgF F' m = bgF F m := by
  have key : ∀ f p j, bgc F' m f p j = bgc F m f p j := by
    intro f
    induction f with
    | zero => intro p j; rfl
    | succ f ih =>
      intro p j
      unfold bgc
      rw [(h.2.2 m hm).2.2.2.1]
      by_cases hp : p < F 6 m
      · have e : nxF F' m p = nxF F m p := by
          unfold nxF
          rw [h.u hm hp, (h.2.2 m hm).2.2.2.1]
        rw [e, ih]
      · simp [hp]
  funext j
  exact key 40 0 j
theorem EqF.aok (h : EqF F F') (hm : m < F 0 0) {c w2 : Nat} (hc : c < F 0 0) : ∀ {n : Nat}, n ≤ F 3 c → agOK F' m c w2 n = agOK F m c w2 n
  | 0, _ => rfl
  | n + 1, hn => by
    simp only [agOK]
    rw [h.aok hm hc (by omega), h.hs hm, h.ak hc (by omega), (h.2.2 c hc).2.2.2.2.1 n (by omega)]
theorem EqF.aT (h : EqF F F') (hm : m < F 0 0) {p : Nat} (hp : p + 2 < F 6 m) : agT F' m p = agT F m p := by
  unfold agT
  rw [h.u hm (show p < F 6 m by omega), h.u hm (show p + 1 < F 6 m by omega), h.u hm (show p + 2 < F 6 m by omega), h.1]
  by_cases hc : F 7 (40 * m + (p + 1)) < F 0 0
  · rw [h.pw hc, (h.2.2 _ hc).2.1, h.aok hm hc (Nat.le_refl _)]
  · simp [hc]
theorem EqF.uG (h : EqF F F') {c w2 : Nat} {row : Nat → Nat} (hc : c < F 0 0) : ∀ {n : Nat}, n ≤ F 3 c → uaG F' c w2 row n = uaG F c w2 row n
  | 0, _ => rfl
  | n + 1, hn => by
    simp only [uaG]
    rw [h.uG hc (by omega), h.ak hc (by omega), (h.2.2 c hc).2.2.2.2.1 n (by omega)]
theorem sz_2 {op : Nat} (h : jns op = true ∨ cps op = true ∨ op = 96 ∨ op = 103 ∨ (50 ≤ op ∧ op ≤ 61) ∨ op = 19 ∨ op = 22) : 2 ≤ szO op := by
  have h1 : op < 256 ∨ 256 ≤ op := by omega
  rcases h1 with h1 | h1
  · revert h
    exact (show ∀ op, op < 256 → (jns op = true ∨ cps op = true ∨ op = 96 ∨ op = 103 ∨ (50 ≤ op ∧ op ≤ 61) ∨ op = 19 ∨ op = 22) → 2 ≤ szO op by decide +kernel) op h1
  · exfalso
    rcases h with h | h | h | h | h | h | h
    · simp [jns] at h
      omega
    · simp [cps] at h
      omega
    all_goals omega
theorem nmW_w1 {p w w1 w1' op : Nat} (h : 2 ≤ szO op → w1' = w1) : nmW F m p w w1' op = nmW F m p w w1 op := by
  unfold nmW
  by_cases h0 : cvt op = true
  · rw [if_pos h0, if_pos h0]
  · rw [if_neg h0, if_neg h0]
    by_cases h1 : jns op = true
    · rw [h (sz_2 (Or.inl h1))]
    · rw [if_neg h1, if_neg h1]
      by_cases h2 : cps op = true
      · rw [h (sz_2 (Or.inr (Or.inl h2)))]
      · rw [if_neg h2, if_neg h2]
        by_cases h3 : op ∈ [96, 103]
        · have h4 : op = 96 ∨ op = 103 := by simpa using h3
          rw [h (sz_2 (by rcases h4 with h4 | h4 <;> simp [h4]))]
        · simp only [if_neg h3]
theorem nmW_f (h : EqF F F') (hm : m < F 0 0) {p w w1 op : Nat} (ha : op = 113 → agT F' m p = agT F m p) : nmW F' m p w w1 op = nmW F m p w w1 op := by
  by_cases e : op = 113
  · subst e
    rw [nmW_11 (by decide), nmW_11 (by decide)]
    exact ha rfl
  · unfold nmW
    rw [h.hs hm, h.2.1]
    simp only [e, if_false]
theorem sz_3 {op : Nat} (h : op = 113) : szO op = 3 := by subst h; rfl
theorem EqF.nm (h : EqF F F') (hm : m < F 0 0) {p : Nat} (hs : szO (opS (F 7 (40 * m + p))) ≠ 0) (hp : p + szO (opS (F 7 (40 * m + p))) ≤ F 6 m) : nmOK F' m p = nmOK F m p := by
  unfold nmOK
  rw [h.u hm (show p < F 6 m by omega)]
  rw [nmW_w1 (fun q => h.u hm (show p + 1 < F 6 m by omega))]
  exact nmW_f h hm fun q => h.aT hm (by rw [sz_3 q] at hp; omega)
/-- the instruction before is whole -/
def bfOK (F : Nat → Nat → Nat) (m : Nat) (bf : Option Nat) : Prop := ∀ q, bf = some q → szO (opS (F 7 (40 * m + q))) ≠ 0 ∧ q + szO (opS (F 7 (40 * m + q))) ≤ F 6 m
theorem EqF.k (h : EqF F F') (hm : m < F 0 0) {p : Nat} {bf : Option Nat} (hp : p < F 6 m) (hb : bfOK F m bf) : kOK F' m p bf = kOK F m p bf := by
  unfold kOK
  rw [h.u hm hp, (h.2.2 m hm).1]
  cases bf with
  | none => rfl
  | some q =>
    obtain ⟨b1, b2⟩ := hb q rfl
    dsimp only
    rw [h.u hm (show q < F 6 m by omega)]
    by_cases e : opS (F 7 (40 * m + q)) = 113
    · rw [sz_3 e] at b2
      rw [h.u hm (show q + 1 < F 6 m by omega), h.1]
      by_cases hc : F 7 (40 * m + (q + 1)) < F 0 0
      · rw [(h.2.2 _ hc).1]
      · simp [hc]
    · simp [e]
theorem EqF.tg (h : EqF F F') (hm : m < F 0 0) {p : Nat} (hb : brs (opS (F 7 (40 * m + p))) = true) (hp : p + szO (opS (F 7 (40 * m + p))) ≤ F 6 m) (hs : szO (opS (F 7 (40 * m + p))) ≠ 0) : tgO F' m p = tgO F m p := by
  unfold tgO
  rw [h.u hm (show p < F 6 m by omega)]
  by_cases e : opS (F 7 (40 * m + p)) = 40
  · rw [if_pos e, if_pos e]
  · rw [if_neg e, if_neg e, h.u hm (show p + 1 < F 6 m from by
      have h5 : 50 ≤ opS (F 7 (40 * m + p)) ∧ opS (F 7 (40 * m + p)) ≤ 61 := by
        simp [brs] at hb
        omega
      have := sz_2 (op := opS (F 7 (40 * m + p))) (Or.inr (Or.inr (Or.inr (Or.inr (Or.inl h5)))))
      omega)]
theorem EqF.mg (h : EqF F F') (hm : m < F 0 0) {Bg : Nat → Bool} {j : Nat} {b : Bool} : mgN F' Bg m j b = mgN F Bg m j b := by
  unfold mgN
  rw [(h.2.2 m hm).2.2.2.1]
  by_cases e : j < F 6 m
  · rw [h.u hm e]
  · simp [e]
theorem EqF.mo (h : EqF F F') (hm : m < F 0 0) {Bg : Nat → Bool} {x : Int32} {b : Bool} : mgo F' Bg m x b = mgo F Bg m x b := by
  unfold mgo
  rw [h.mg hm]
theorem EqF.fr (h : EqF F F') (hm : m < F 0 0) {Bg : Nat → Bool} {p : Nat} {bf : Option Nat} (hp : p < F 6 m) (hb : bfOK F m bf) : frmOK F' Bg m p bf = frmOK F Bg m p bf := by
  unfold frmOK
  rw [h.u hm hp, (h.2.2 m hm).2.2.2.1]
  by_cases e : ¬ szO (opS (F 7 (40 * m + p))) = 0 ∧ p + szO (opS (F 7 (40 * m + p))) ≤ F 6 m
  · rw [h.nm hm e.1 e.2, h.k hm hp hb, h.mg hm]
    cases hbr : brs (opS (F 7 (40 * m + p))) with
    | false => simp only [Bool.not_false, Bool.true_or]
    | true => rw [h.tg hm hbr e.2 e.1, h.mo hm]
  · rw [decide_eq_false e, Bool.false_and, Bool.false_and]
theorem frm_bf {Bg : Nat → Bool} {p : Nat} {bf : Option Nat} (h : frmOK F Bg m p bf = true) : bfOK F m (some p) := fun q e => by
  cases e
  exact ⟨(frm_p h).1, (frm_p h).2.1⟩
theorem EqF.ff (h : EqF F F') (hm : m < F 0 0) {Bg : Nat → Bool} : ∀ {f p : Nat} {bf : Option Nat}, bfOK F m bf → fif F' Bg m f p bf = fif F Bg m f p bf
  | 0, _, _, _ => rfl
  | f + 1, p, bf, hb => by
    unfold fif
    rw [(h.2.2 m hm).2.2.2.1]
    by_cases hp : p < F 6 m
    · rw [if_pos hp, if_pos hp, h.fr hm hp hb]
      by_cases hg : Bg p = true
      · rw [if_pos hg, if_pos hg]
        by_cases hf : frmOK F Bg m p bf = true
        · rw [if_pos hf, if_pos hf]
          exact h.ff hm (frm_bf hf)
        · rw [if_neg hf, if_neg hf]
      · rw [if_neg hg, if_neg hg]
        exact h.ff hm hb
    · rw [if_neg hp, if_neg hp]
theorem EqF.ffm (h : EqF F F') (hm : m < F 0 0) : fif F' (bgF F' m) m 40 0 none = fif F (bgF F m) m 40 0 none := by
  rw [h.bg hm]
  exact h.ff hm fun q e => by cases e
end EQF

section EQG
variable {F F' : Nat → Nat → Nat} {m : Nat}
theorem EqF.iG (h : EqF F F') (hm : m < F 0 0) {Bg : Nat → Bool} {p : Nat} {bf : Option Nat} {row : Nat → Nat} (hf : frmOK F Bg m p bf = true) : insG F' m p row = insG F m p row := by
  have q := frm_p hf
  have hp : p < F 6 m := by omega
  unfold insG psG
  rw [h.u hm hp]
  by_cases h1 : jns (opS (F 7 (40 * m + p))) = true
  · have := sz_2 (Or.inl h1)
    rw [h.u hm (show p + 1 < F 6 m by omega)]
    simp only [h1, if_true]
  · simp only [h1, if_false, Bool.false_eq_true]
    by_cases h2 : cps (opS (F 7 (40 * m + p))) = true
    · have := sz_2 (Or.inr (Or.inl h2))
      rw [h.u hm (show p + 1 < F 6 m by omega)]
      simp only [h2, if_true]
    · simp only [h2, if_false, Bool.false_eq_true]
      have e : poG F' m p row (opS (F 7 (40 * m + p))) = poG F m p row (opS (F 7 (40 * m + p))) := by
        unfold poG
        rw [h.u hm hp, (h.2.2 m hm).1]
        by_cases h3 : opS (F 7 (40 * m + p)) ∈ [113]
        · have h4 : opS (F 7 (40 * m + p)) = 113 := by simpa using h3
          have h5 := sz_3 h4
          have e2 : uaA F' m p row = uaA F m p row := by
            unfold uaA
            rw [h.u hm (show p + 1 < F 6 m by omega), h.u hm (show p + 2 < F 6 m by omega)]
            have hn := q.2.2.1
            unfold nmOK at hn
            rw [nmW_11 h3] at hn
            simp only [agT, Bool.and_eq_true, decide_eq_true_eq] at hn
            rw [(h.2.2 _ hn.1).2.1]
            exact h.uG hn.1 (Nat.le_refl _)
          rw [e2]
        · simp only [h3, if_false]
      rw [e]
theorem EqF.iN (h : EqF F F') (hm : m < F 0 0) {Bg : Nat → Bool} {p : Nat} {bf : Option Nat} {row : Nat → Nat} (hf : frmOK F Bg m p bf = true) (hbb : ∀ q, bf = some q → opS (F 7 (40 * m + q)) = 113 → q + 1 < F 6 m) : insN F' m p bf row = insN F m p bf row := by
  have q := frm_p hf
  have hp : p < F 6 m := by omega
  unfold insN psN
  rw [h.u hm hp]
  have e : poN F' m p bf row (opS (F 7 (40 * m + p))) = poN F m p bf row (opS (F 7 (40 * m + p))) := by
    unfold poN
    rw [h.u hm hp]
    by_cases h3 : opS (F 7 (40 * m + p)) ∈ [10, 11]
    · obtain ⟨b, e1, e2, e3, e4, e5⟩ := res_ok q.2.2.1 q.2.2.2.1 h3
      subst e1
      have hk := q.2.2.2.1
      have e6 : F 2 (cbF F m (some b)) = F' 2 (cbF F' m (some b)) ∨ ¬ (b + 1 < F 6 m) := by
        by_cases hb : b + 1 < F 6 m
        · left
          simp only [cbF]
          rw [h.u hm hb, (h.2.2 _ e2).1]
        · exact Or.inr hb
      rcases e6 with e6 | e6
      · rw [e6]
      · exfalso
        exact e6 (hbb b rfl e5)
    · simp only [h3, if_false]
  rw [e]
end EQG

section EQH
variable {F F' : Nat → Nat → Nat} {m : Nat}
theorem bfOK.c {bf : Option Nat} (h : bfOK F m bf) : ∀ q, bf = some q → opS (F 7 (40 * m + q)) = 113 → q + 1 < F 6 m := fun q e e2 => by
  have := (h q e).2
  rw [sz_3 e2] at this
  omega
theorem EqF.sv (h : EqF F F') (hm : m < F 0 0) {Bg : Nat → Bool} {p : Nat} {bf : Option Nat} {v : VS} (hf : frmOK F Bg m p bf = true) (hb : bfOK F m bf) : stepV F' m p bf v = stepV F m p bf v := by
  have q := frm_p hf
  have hp : p < F 6 m := by omega
  unfold stepV
  rw [h.u hm hp, h.iN hm hf hb.c]
  by_cases hbr : brs (opS (F 7 (40 * m + p))) = true
  · rw [h.tg hm hbr q.2.1 q.1]
  · simp only [hbr, if_false, Bool.false_eq_true]
theorem fif_frm {Bg : Nat → Bool} {f p : Nat} {bf : Option Nat} (hW : FW F) (hp : p < 40) (hl : p < F 6 m) (hb : Bg p = true) (h : fif F Bg m (f + 1) p bf = -1) : frmOK F Bg m p bf = true ∧ fif F Bg m f (p + 1) (some p) = -1 := by
  cases q : frmOK F Bg m p bf with
  | true =>
    rw [fif_ok hl hb q] at h
    exact ⟨rfl, h⟩
  | false =>
    rw [fif_bad hl hb q] at h
    have := nI_pos (n := p) (by omega)
    rw [h] at this
    exact absurd (by decide) this
theorem EqF.rn (h : EqF F F') (hW : FW F) (hm : m < F 0 0) {Bg : Nat → Bool} : ∀ {f p : Nat} {bf : Option Nat} {v : VS} {bt : Option Nat}, fif F Bg m f p bf = -1 → bfOK F m bf → rnd F' Bg m f p bf v bt = rnd F Bg m f p bf v bt
  | 0, _, _, _, _, _, _ => rfl
  | f + 1, p, bf, v, bt, hf, hb => by
    have h6 := hW.2.2.2.2.2.2.1 m
    unfold rnd
    rw [(h.2.2 m hm).2.2.2.1]
    by_cases hp : p < F 6 m
    · rw [if_pos hp, if_pos hp]
      by_cases hg : Bg p = true
      · rw [if_pos hg, if_pos hg]
        obtain ⟨q1, q2⟩ := fif_frm hW (by omega) hp hg hf
        rw [h.iG hm q1, h.sv hm q1 hb]
        by_cases hr : v.2.1 p = true
        · rw [if_pos hr, if_pos hr]
          exact h.rn hW hm q2 (frm_bf q1)
        · rw [if_neg hr, if_neg hr]
          exact h.rn hW hm q2 (frm_bf q1)
      · rw [if_neg hg, if_neg hg]
        rw [fif_no hp (by simpa using hg)] at hf
        exact h.rn hW hm hf hb
    · rw [if_neg hp, if_neg hp]
theorem EqF.fx (h : EqF F F') (hW : FW F) (hm : m < F 0 0) {Bg : Nat → Bool} (hf : fif F Bg m 40 0 none = -1) : ∀ {k : Nat} {v : VS} {bt : Option Nat}, fixV F' Bg m k v bt = fixV F Bg m k v bt
  | 0, _, _ => rfl
  | k + 1, v, bt => by
    unfold fixV
    rw [h.rn hW hm hf fun q e => by cases e]
    by_cases hc : v.2.2 = true
    · rw [if_pos hc, if_pos hc]
      exact h.fx hW hm hf
    · rw [if_neg hc, if_neg hc]
theorem EqF.bn (h : EqF F F') (hm : m < F 0 0) : ∀ {k : Nat}, k ≤ F 3 m → bgN F' m k = bgN F m k
  | 0, _ => rfl
  | k + 1, hk => by
    show stT (bgN F' m k) _ _ = stT (bgN F m k) _ _
    rw [h.bn hm (by omega), (h.2.2 m hm).2.2.1, h.pw hm, h.ak hm (by omega), (h.2.2 m hm).2.2.2.2.1 k (by omega)]
theorem EqF.vr (h : EqF F F') (hW : FW F) (hm : m < F 0 0) (hf : fif F (bgF F m) m 40 0 none = -1) : vrR F' m = vrR F m := by
  have e : v_0 F' m = v_0 F m := by
    unfold v_0
    rw [(h.2.2 m hm).2.1, h.bn hm (Nat.le_refl _)]
  unfold vrR
  rw [h.bg hm, e]
  exact h.fx hW hm hf
theorem MVd.eq {σ : fr_S} (h : EqF F F') (hW : FW F) (hm : m < F 0 0) : MVd σ F' m ↔ MVd σ F m := by
  unfold MVd
  rw [h.ffm hm, h.bg hm]
  by_cases hf : fif F (bgF F m) m 40 0 none = -1
  · rw [h.vr hW hm hf]
  · simp only [hf, false_implies]
end EQH

