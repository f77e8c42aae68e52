/-! files that are alike where it can be seen -/
section EQ2
variable {F F' : Nat → Nat → Nat} {m : Nat}
theorem EqF.im (h : EqF F F') {x : Int32} : imO F' x = imO F x := by unfold imO; rw [h.1]
theorem EqF.hf (h : EqF F F') {x : Int32} : hfO F' x = hfO F x := by unfold hfO; rw [h.2.1]
theorem EqF.vd (h : EqF F F') (hW : FW F) (hm : m < F 0 0) : vdM F' m = vdM F m := by
  unfold vdM
  rw [h.ffm hm]
  by_cases c : fif F (bgF F m) m 40 0 none = -1
  · rw [if_pos c, if_pos c, h.vr hW hm c]
  · rw [if_neg c, if_neg c]
theorem EqF.ufk (h : EqF F F') (hW : FW F) : ∀ k, k ≤ F 0 0 → ufO F' k = ufO F k
  | 0, _ => rfl
  | k + 1, hk => by
    unfold ufO
    rw [EqF.ufk h hW k (by omega), h.vd hW (by omega)]
theorem EqF.uf (h : EqF F F') (hW : FW F) : ufO F' (F' 0 0) = ufO F (F 0 0) := by rw [h.1]; exact h.ufk hW _ (Nat.le_refl _)
theorem EqF.gf (h : EqF F F') (hW' : FW F') (G : GF F) : GF F' := by
  refine ⟨hW', h.fv G.2.1, fun m hm => ?_⟩
  rw [h.1] at hm
  obtain ⟨g1, g2⟩ := G.2.2 m hm
  exact ⟨(h.ffm hm).trans g1, by rw [h.vr G.1 hm g1]; exact g2⟩
theorem EqF.ty (h : EqF F F') (hW : FW F) (hm : m < F 0 0) {p r : Nat} : tyM F' m p r = tyM F m p r := by
  unfold tyM
  rw [h.ffm hm, (h.2.2 m hm).2.2.1, (h.2.2 m hm).2.2.2.1, h.bg hm]
  by_cases c : fif F (bgF F m) m 40 0 none = -1
  · rw [h.vr hW hm c]
  · rw [if_neg (fun q => c q.2.1), if_neg (fun q => c q.2.1)]
theorem EqF.suk (h : EqF F F') (hm : m < F 0 0) {a : AV} : ∀ k, k ≤ F 3 m → suP F' a m k = suP F a m k
  | 0, _ => rfl
  | k + 1, hk => by
    unfold suP
    rw [EqF.suk h hm k (by omega), (h.2.2 m hm).2.2.2.2.1 k (by omega)]
theorem EqF.su (h : EqF F F') (hm : m < F 0 0) {a : AV} : suO F' a m = suO F a m := by
  unfold suO
  rw [(h.2.2 m hm).2.1]
  by_cases c : F 3 m = a.1
  · rw [h.suk hm _ (by omega)]
  · rw [decide_eq_false c, Bool.false_and, Bool.false_and]
theorem EqF.aB (h : EqF F F') (hm : m < F 0 0) {a : AV} {B : VM} : ∀ j, j ≤ F 3 m → agB F' a m B j = agB F a m B j
  | 0, _ => rfl
  | j + 1, hj => by
    unfold agB
    rw [EqF.aB h hm j (by omega), (h.2.2 m hm).2.2.1, h.pw hm, h.ak hm (by omega)]
theorem EqF.bB (h : EqF F F') (hm : m < F 0 0) {a : AV} {B : VM} (hn : F 3 m = a.1) : bgB F' a m B = bgB F a m B := by
  unfold bgB
  rw [h.aB hm _ (by omega)]
theorem EqF.wA (h : EqF F F') (hm : m < F 0 0) {u : Nat} : uA F' m u = uA F m u := by
  show (if u < F' 6 m then F' 7 (40 * m + u) else 0) = if u < F 6 m then F 7 (40 * m + u) else 0
  rw [(h.2.2 m hm).2.2.2.1]
  by_cases c : u < F 6 m
  · rw [if_pos c, if_pos c, h.u hm c]
  · rw [if_neg c, if_neg c]
theorem EqF.eB (h : EqF F F') {c : Nat} (hc : c < F 0 0) {w2 i D : Nat} {B : VM} : ∀ j, j ≤ F 3 c → enB F' c w2 i D B j = enB F c w2 i D B j
  | 0, _ => rfl
  | j + 1, hj => by
    unfold enB
    rw [EqF.eB h hc j (by omega), (h.2.2 c hc).2.2.1, h.pw hc, h.ak hc (by omega)]
theorem kd_br : ∀ o, o < 256 → kdO o ∈ [7] ∨ kdO o ∈ [10] ∨ kdO o ∈ [11] → brs o = true := by decide +kernel
theorem kd_14 : ∀ o, o < 256 → kdO o ∈ [14] → o = 113 := by decide +kernel
theorem stB_eq (h : EqF F F') (hm : m < F 0 0) {p : Nat} {B : VM} {w w1 w2 : Nat} (hp : p < F 6 m) (htg : brs (opS (F 7 (40 * m + p))) = true → tgO F' m p = tgO F m p) (hc : opS (F 7 (40 * m + p)) = 113 → w1 < F 0 0) : stB F' B m p (opS (F 7 (40 * m + p))) w w1 w2 = stB F B m p (opS (F 7 (40 * m + p))) w w1 w2 := by
  have e7 := h.u hm hp
  have eu : usG F' m p = usG F m p := by
    unfold usG usD
    rw [e7, (h.2.2 m hm).1]
  have hl := opS_lt (F 7 (40 * m + p))
  unfold stB
  rw [eu]
  by_cases a7 : kdO (opS (F 7 (40 * m + p))) ∈ [7] ∨ kdO (opS (F 7 (40 * m + p))) ∈ [10] ∨ kdO (opS (F 7 (40 * m + p))) ∈ [11]
  · rw [htg (kd_br _ hl a7)]
    have a14 : ¬ kdO (opS (F 7 (40 * m + p))) ∈ [14] := fun q => by
      have := kd_14 _ hl q
      have := kd_br _ hl a7
      rw [kd_14 _ hl q] at this
      exact absurd this (by decide)
    rw [if_neg a14, if_neg a14]
  · rw [if_neg (fun q => a7 (Or.inl q)), if_neg (fun q => a7 (Or.inr (Or.inl q))), if_neg (fun q => a7 (Or.inr (Or.inr q))), if_neg (fun q => a7 (Or.inl q)), if_neg (fun q => a7 (Or.inr (Or.inl q))), if_neg (fun q => a7 (Or.inr (Or.inr q)))]
    by_cases a14 : kdO (opS (F 7 (40 * m + p))) ∈ [14]
    · have hc1 := hc (kd_14 _ hl a14)
      rw [(h.2.2 w1 hc1).2.1, h.eB hc1 _ (Nat.le_refl _)]
    · rw [if_neg a14, if_neg a14]
/-- the class's step is the same by both files -/
theorem EqF.stp (h : EqF F F') (G : GF F) {A B : VM} (r : RL F A B) : stpB F' B = stpB F B := by
  obtain ⟨m, hm⟩ : ∃ m, cmA A = m := ⟨_, rfl⟩
  obtain ⟨p, hp⟩ : ∃ p, cpA A = p := ⟨_, rfl⟩
  obtain ⟨c1, c2, c3, c4, c5, c6⟩ := r.cx G hm hp
  obtain ⟨f1, f2, f3, f4, f5⟩ := r.fm (A.1 1 0 - 1) (by have := r.d1; omega)
  have mb : mB B = m := by
    unfold mB
    rw [r.de, f2]
    exact hm
  have pb : pB B = p := by
    unfold pB
    rw [r.de, f3]
    exact hp
  have fk := frm_p c3
  unfold stpB
  rw [mb, pb, h.wA c1, h.wA c1, h.u c1 c2.1]
  refine stB_eq h c1 c2.1 (fun hb => h.tg c1 hb fk.2.1 fk.1) (fun ho => ?_)
  have hag := rg_113 fk.2.2.1 (show opS (F 7 (40 * m + p)) ∈ [113] by rw [ho]; decide)
  unfold agT at hag
  simp only [Bool.and_eq_true, decide_eq_true_eq] at hag
  have : uA F m (p + 1) = F 7 (40 * m + (p + 1)) := by
    unfold uA
    rw [if_pos (by have := (szW_2 _ (opS_lt (F 7 (40 * m + p))) (by simp [ho])).1; omega)]
  rw [this]
  exact hag.1
theorem EqF.rB (h : EqF F F') (G : GF F) : ∀ n {A B : VM}, (RL F A B ∨ NR A B) → rnB F' n B = rnB F n B
  | 0, _, _, _ => rfl
  | n + 1, A, B, hr => by
    rcases hr with r | r
    · unfold rnB
      rw [h.stp G r]
      rcases r.step G with ⟨_, k⟩ | ⟨c, _, _, k, _⟩
      · rw [EqF.rB h G n (k.imp id And.left)]
      · have k3 := k.c
        rw [rnB_0 (by omega), rnB_0 (by omega)]
    · have a := r.c1
      have b := r.c
      rw [rnB_0 (by omega), rnB_0 (by omega)]
theorem SB.eq (h : EqF F F') {B : VM} (s : SB F B) : SB F' B := by
  obtain ⟨s1, s2, s3, s4, s5, s6, s7, s8⟩ := s
  have hp : pB B < F 6 (mB B) := bgF_lt s5
  refine ⟨s1, s2, by rw [h.1]; exact s3, s4, by rw [h.bg s3]; exact s5, (h.ffm s3).trans s6, s7, ?_⟩
  rw [h.u s3 hp, h.wA s3]
  exact s8
theorem run_J2 (h : EqF F F') (G : GF F) : ∀ B, JR F B → B.1 0 0 = 1 → SB F' B ∧ JR F (stpB F' B) := fun B hB h1 => by
  obtain ⟨a, b⟩ := run_J G B hB h1
  refine ⟨a.eq h, ?_⟩
  rcases hB with ⟨A, r | r⟩ | ⟨A, r⟩
  · rw [h.stp G r]
    exact b
  · have := r.c
    have := r.c1
    omega
  · have := r.c
    omega
end EQ2

