/-! the reference: where instructions begin; the first that is ill-formed -/
theorem MR.ag {σ σ' : fr_S} {S : List Nat} (h : MR σ) (a : Ag S σ σ') : MR σ' := fun k => by
  have e : gR σ' = gR σ := by
    funext o q
    unfold gR
    rw [a.2]
  rw [e]
  exact h k
theorem MF.ag {σ σ' : fr_S} {S : List Nat} {F : Nat → Nat → Nat} (h : MF σ F) (a : Ag S σ σ') (hs : ∀ o, 719 ≤ o → o ≤ 726 → o ∉ S) : MF σ' F := by
  obtain ⟨h1, h2, h3, h4, h5, h6, h7, h8⟩ := h
  refine ⟨?_, ?_, fun m hm => ?_, fun m hm => ?_, fun m hm => ?_, fun m hm => ?_, fun m hm => ?_, fun m hm => ?_⟩
  · rw [a.1 719 (hs _ (by decide) (by decide))]; exact h1
  · rw [a.1 720 (hs _ (by decide) (by decide))]; exact h2
  · rw [a.1 721 (hs _ (by decide) (by decide))]; exact h3 m hm
  · rw [a.1 722 (hs _ (by decide) (by decide))]; exact h4 m hm
  · rw [a.1 723 (hs _ (by decide) (by decide))]; exact h5 m hm
  · rw [a.1 724 (hs _ (by decide) (by decide))]; exact h6 m hm
  · rw [a.1 725 (hs _ (by decide) (by decide))]; exact h7 m hm
  · rw [a.1 726 (hs _ (by decide) (by decide))]; exact h8 m hm
/-- the unit behind an instruction; behind an unknown one there is none -/
def nxF (F : Nat → Nat → Nat) (m p : Nat) : Nat := if szO (opS (F 7 (40 * m + p))) = 0 then F 6 m else p + szO (opS (F 7 (40 * m + p)))
def bgc (F : Nat → Nat → Nat) (m : Nat) : Nat → Nat → Nat → Bool
  | 0, _, _ => false
  | f + 1, p, j => decide (p < F 6 m) && (decide (j = p) || bgc F m f (nxF F m p) j)
def bgF (F : Nat → Nat → Nat) (m j : Nat) : Bool := bgc F m 40 0 j
theorem bgc_end {F : Nat → Nat → Nat} {m p j : Nat} (h : F 6 m ≤ p) : ∀ f, bgc F m f p j = false
  | 0 => rfl
  | f + 1 => by simp [bgc, Nat.not_lt.mpr h]
theorem szO_le (op : Nat) : szO op ≤ 3 := by
  unfold szO
  repeat' split
  all_goals decide
/-- a method's part of an array -/
def SP (m a : Nat) (σ σ' : fr_S) : Prop := ∀ j, (j < 40 * m ∨ 40 * m + 40 ≤ j) → gI σ' a j = gI σ a j

set_option maxRecDepth 100000 in
set_option maxHeartbeats 1000000 in
theorem m_findBeginnings_l2 {l : Launch} {G : fr_G} {σ : fr_S} (hM : MR σ) {F : Nat → Nat → Nat} (hF : MF σ F) (hW : FW F) {m : Nat} (hm : m < 4) {Post : Option Value → fr_S → Prop} (hq : ∀ σ', Ag [729] σ σ' → (∀ j, j < 40 → gI σ' 729 (40 * m + j) = b2i (bgF F m j)) → SP m 729 σ σ' → Post none σ') : ∀ (d : Nat) (f : Nat) (p : Nat) (pr : Nat → Bool) (σ1 : fr_S), f < d → 40 ≤ p + f → p ≤ 42 → Ag [729] σ σ1 → (∀ j, j < 40 → gI σ1 729 (40 * m + j) = b2i (pr j)) → SP m 729 σ σ1 → (∀ j, j < 40 → (pr j || bgc F m f p j) = bgF F m j) → PX l G yy_Mo_findBeginnings rm_Mo_findBeginnings (QR G false 742 0 0 Post) false 742 0 0 28 [(0, .ref (717)), (1, .int (nI (m))), (2, .int (nI (p)))] [] (σ1) := by
  intro d
  induction d with
  | zero => intro f p pr σ1 hd; exact absurd hd (Nat.not_lt_zero _)
  | succ d ih =>
    intro f p pr σ1 hd hf hpb hA hV hO hE
    have hM := hM.ag hA
    have hF := hF.ag hA (fun o h1 h2 => by simp; omega)
    have h6 := hW.2.2.2.2.2.2.1 m
    refine px_iload_n dx_Mo_findBeginnings_28 rfl ?_
    refine px_aload_n dx_Mo_findBeginnings_29 rfl ?_
    refine px_getR (r := 725) dx_Mo_findBeginnings_30 fl_Mo_35 rfl (by decide) rfl (hM 12) ?_
    refine px_iload_n dx_Mo_findBeginnings_33 rfl ?_
    refine px_ialdN (j := m) dx_Mo_findBeginnings_34 rfl (by decide) (by omega) ?_
    refine px_eqi (y := nI (F 6 m)) (hF.2.2.2.2.2.2.1 m (by omega)) ?_
    refine px_icmp_geN (a := p) (b := F 6 m) dx_Mo_findBeginnings_35 (by first | omega | (have := szO_le (opS (F 7 (40 * m + p))); omega)) (by first | omega | (have := szO_le (opS (F 7 (40 * m + p))); omega)) (fun c_35 => ?_) (fun c_35 => ?_)
    · exact px_vret dx_Mo_findBeginnings_80 rfl (by exact hq σ1 hA (fun j hj => by rw [hV j hj, ← hE j hj, bgc_end c_35, Bool.or_false]) hO)
    · refine px_aload_n dx_Mo_findBeginnings_38 rfl ?_
      refine px_getR (r := 729) dx_Mo_findBeginnings_39 fl_Mo_47 rfl (by decide) rfl (hM 16) ?_
      refine px_bipush (v := 40) dx_Mo_findBeginnings_42 rfl ?_
      refine px_iload_n dx_Mo_findBeginnings_44 rfl ?_
      refine px_imulN (a := 40) (b := m) dx_Mo_findBeginnings_45 ?_
      refine px_iload_n dx_Mo_findBeginnings_46 rfl ?_
      refine px_iaddN (a := 40 * m) (b := p) dx_Mo_findBeginnings_47 ?_
      refine px_iconst (v := 1) dx_Mo_findBeginnings_48 rfl ?_
      refine px_zastN (j := (40 * m) + p) dx_Mo_findBeginnings_49 rfl (by decide) (by omega) (by decide) ?_
      have hM : MR (sI σ1 729 ((40 * m) + p) 1) := hM
      have hF : MF (sI σ1 729 ((40 * m) + p) 1) F := hF.ag (S := [729]) (ag_sI Ag.rf (by decide)) (fun o h1 h2 => by simp; omega)
      refine px_aload_n dx_Mo_findBeginnings_50 rfl ?_
      refine px_iload_n dx_Mo_findBeginnings_51 rfl ?_
      refine px_iload_n dx_Mo_findBeginnings_52 rfl ?_
      refine px_cV (Y := yy_Mo_findBeginnings) (Yc := yy_Mo_op) (b := 717) (As := [.int (nI (m)), .int (nI (p))]) dx_Mo_findBeginnings_53 ml_Mo_173 mv_Mo_op np_Mo_op ⟨_, rfl⟩ (by decide) rfl (by decide) rfl (Nat.le_of_ble_eq_true rfl) (Nat.le_of_ble_eq_true rfl) rk_Mo_findBeginnings_Mo_op rfl (m_op hM (by omega) (hF.2.2.2.2.2.2.2 (40 * m + p) (by omega)) (hW.2.2.2.2.2.2.2 _)) zz_0 ?_
      refine px_cS (Y := yy_Mo_findBeginnings) (Yc := yy_Mo_sizeOf) (As := [.int (nI (opS (F 7 (40 * m + p))))]) dx_Mo_findBeginnings_56 ml_Mo_221 ms_Mo_sizeOf np_Mo_sizeOf rfl (Nat.le_of_ble_eq_true rfl) (Nat.le_of_ble_eq_true rfl) rk_Mo_findBeginnings_Mo_sizeOf rfl (m_sizeOf (opS_lt _)) zz_0 ?_
      refine px_istore_n (lv' := [(3, .int (nI (szO (opS (F 7 (40 * m + p)))))), (0, .ref (717)), (1, .int (nI (m))), (2, .int (nI (p)))]) dx_Mo_findBeginnings_59 (by decide) rfl ?_
      refine px_iload_n dx_Mo_findBeginnings_60 rfl ?_
      refine px_if_neN (a := szO (opS (F 7 (40 * m + p)))) dx_Mo_findBeginnings_61 (by first | omega | (have := szO_le (opS (F 7 (40 * m + p))); omega)) (fun c_61 => ?_) (fun c_61 => ?_)
      · refine px_iload_n dx_Mo_findBeginnings_73 rfl ?_
        refine px_iload_n dx_Mo_findBeginnings_74 rfl ?_
        refine px_iaddN (a := p) (b := szO (opS (F 7 (40 * m + p)))) dx_Mo_findBeginnings_75 ?_
        refine px_istore_n (lv' := [(2, .int (nI (p + (szO (opS (F 7 (40 * m + p))))))), (3, .int (nI (szO (opS (F 7 (40 * m + p)))))), (0, .ref (717)), (1, .int (nI (m)))]) dx_Mo_findBeginnings_76 (by decide) rfl ?_
        refine px_goto dx_Mo_findBeginnings_77 ?_
        refine px_sub [2, 3, 0] rfl ?_
        obtain ⟨f', rfl⟩ : ∃ f', f = f' + 1 := ⟨f - 1, by omega⟩
        have hnx : p + (szO (opS (F 7 (40 * m + p)))) = nxF F m p := by (unfold nxF; first | (rw [if_pos (by omega)]; done) | (rw [if_neg (by omega)]; done))
        have hsz := szO_le (opS (F 7 (40 * m + p)))
        have hlt : p < nxF F m p := by unfold nxF; split <;> omega
        rw [hnx]
        exact ih f' (nxF F m p) (fun j => pr j || decide (j = p)) (sI σ1 729 ((40 * m) + p) 1) (by omega) (by omega) (by unfold nxF; split <;> omega) (ag_sI hA (by decide)) (fun j hj => if h : j = p then (by subst h; rw [gI_s]; simp [b2i]) else (by rw [gI_n (Or.inr (by omega)), hV j hj]; simp [h])) (fun j hj => by rw [gI_n (Or.inr (by omega))]; exact hO j hj) (fun j hj => by rw [← hE j hj]; simp [bgc, c_35, Bool.or_assoc])
      · refine px_aload_n dx_Mo_findBeginnings_64 rfl ?_
        refine px_getR (r := 725) dx_Mo_findBeginnings_65 fl_Mo_35 rfl (by decide) rfl (hM 12) ?_
        refine px_iload_n dx_Mo_findBeginnings_68 rfl ?_
        refine px_ialdN (j := m) dx_Mo_findBeginnings_69 rfl (by decide) (by omega) ?_
        refine px_eqi (y := nI (F 6 m)) (hF.2.2.2.2.2.2.1 m (by omega)) ?_
        refine px_goto dx_Mo_findBeginnings_70 ?_
        refine px_istore_n (lv' := [(2, .int (nI (F 6 m))), (3, .int (nI (szO (opS (F 7 (40 * m + p)))))), (0, .ref (717)), (1, .int (nI (m)))]) dx_Mo_findBeginnings_76 (by decide) rfl ?_
        refine px_goto dx_Mo_findBeginnings_77 ?_
        refine px_sub [2, 3, 0] rfl ?_
        obtain ⟨f', rfl⟩ : ∃ f', f = f' + 1 := ⟨f - 1, by omega⟩
        have hnx : F 6 m = nxF F m p := by (unfold nxF; first | (rw [if_pos (by omega)]; done) | (rw [if_neg (by omega)]; done))
        have hsz := szO_le (opS (F 7 (40 * m + p)))
        have hlt : p < nxF F m p := by unfold nxF; split <;> omega
        rw [hnx]
        exact ih f' (nxF F m p) (fun j => pr j || decide (j = p)) (sI σ1 729 ((40 * m) + p) 1) (by omega) (by omega) (by unfold nxF; split <;> omega) (ag_sI hA (by decide)) (fun j hj => if h : j = p then (by subst h; rw [gI_s]; simp [b2i]) else (by rw [gI_n (Or.inr (by omega)), hV j hj]; simp [h])) (fun j hj => by rw [gI_n (Or.inr (by omega))]; exact hO j hj) (fun j hj => by rw [← hE j hj]; simp [bgc, c_35, Bool.or_assoc])
set_option maxRecDepth 100000 in
set_option maxHeartbeats 1000000 in
theorem m_findBeginnings_l1 {l : Launch} {G : fr_G} {σ : fr_S} (hM : MR σ) {F : Nat → Nat → Nat} (hF : MF σ F) (hW : FW F) {m : Nat} (hm : m < 4) {Post : Option Value → fr_S → Prop} (hq : ∀ σ', Ag [729] σ σ' → (∀ j, j < 40 → gI σ' 729 (40 * m + j) = b2i (bgF F m j)) → SP m 729 σ σ' → Post none σ') : ∀ (d : Nat) (i : Nat) (σ1 : fr_S), 40 - i < d → i ≤ 40 → Ag [729] σ σ1 → (∀ j, j < 40 → j < i → gI σ1 729 (40 * m + j) = 0) → SP m 729 σ σ1 → PX l G yy_Mo_findBeginnings rm_Mo_findBeginnings (QR G false 742 0 0 Post) false 742 0 0 2 [(0, .ref (717)), (1, .int (nI (m))), (2, .int (nI (i)))] [] (σ1) := by
  intro d
  induction d with
  | zero => intro i σ1 hd; exact absurd hd (Nat.not_lt_zero _)
  | succ d ih =>
    intro i σ1 hd hi hA hV hO
    have hM0 := hM
    have hF0 := hF
    have hM := hM.ag hA
    have hF := hF.ag hA (fun o h1 h2 => by simp; omega)
    have h6 := hW.2.2.2.2.2.2.1 m
    refine px_iload_n dx_Mo_findBeginnings_2 rfl ?_
    refine px_bipush (v := 40) dx_Mo_findBeginnings_3 rfl ?_
    refine px_icmp_geN (a := i) (b := 40) dx_Mo_findBeginnings_5 (by omega) (by omega) (fun c_5 => ?_) (fun c_5 => ?_)
    · refine px_iconst (v := 0) dx_Mo_findBeginnings_26 rfl ?_
      refine px_istore_n (lv' := [(2, .int (0)), (0, .ref (717)), (1, .int (nI (m)))]) dx_Mo_findBeginnings_27 (by decide) rfl ?_
      refine px_sub [1, 2, 0] rfl ?_
      exact m_findBeginnings_l2 hM0 hF0 hW hm hq 41 40 0 (fun _ => false) σ1 (by omega) (by omega) (by omega) hA (fun j hj => (hV j hj (by omega)).trans rfl) hO (fun j _ => by rw [Bool.false_or]; rfl)
    · refine px_aload_n dx_Mo_findBeginnings_8 rfl ?_
      refine px_getR (r := 729) dx_Mo_findBeginnings_9 fl_Mo_47 rfl (by decide) rfl (hM 16) ?_
      refine px_bipush (v := 40) dx_Mo_findBeginnings_12 rfl ?_
      refine px_iload_n dx_Mo_findBeginnings_14 rfl ?_
      refine px_imulN (a := 40) (b := m) dx_Mo_findBeginnings_15 ?_
      refine px_iload_n dx_Mo_findBeginnings_16 rfl ?_
      refine px_iaddN (a := 40 * m) (b := i) dx_Mo_findBeginnings_17 ?_
      refine px_iconst (v := 0) dx_Mo_findBeginnings_18 rfl ?_
      refine px_zastN (j := (40 * m) + i) dx_Mo_findBeginnings_19 rfl (by decide) (by omega) (by decide) ?_
      refine px_iinc (v := (nI (i + 1))) (lv' := [(2, .int (nI (i + 1))), (0, .ref (717)), (1, .int (nI (m)))]) dx_Mo_findBeginnings_20 rfl (nI_1 _) (by decide) rfl ?_
      refine px_goto dx_Mo_findBeginnings_23 ?_
      refine px_sub [1, 2, 0] rfl ?_
      exact ih (i + 1) (sI σ1 729 ((40 * m) + i) 0) (by omega) (by omega) (ag_sI hA (by decide)) (fun j hj hi => if h : j = i then (by subst h; rw [gI_s]) else (by rw [gI_n (Or.inr (by omega))]; exact hV j hj (by omega))) (fun j hj => by rw [gI_n (Or.inr (by omega))]; exact hO j hj)
set_option maxRecDepth 100000 in
set_option maxHeartbeats 1000000 in
theorem m_findBeginnings {l : Launch} {G : fr_G} {σ : fr_S} (hM : MR σ) {F : Nat → Nat → Nat} (hF : MF σ F) (hW : FW F) {m : Nat} (hm : m < 4) : CR l G yy_Mo_findBeginnings rm_Mo_findBeginnings [.ref (717), .int (nI (m))] σ (fun r σ' => r = none ∧ Ag [729] σ σ' ∧ (∀ j, j < 40 → gI σ' 729 (40 * m + j) = b2i (bgF F m j)) ∧ SP m 729 σ σ') := by
  intro Post hp0
  show PX l G yy_Mo_findBeginnings rm_Mo_findBeginnings _ false 742 0 0 0 [(0, .ref (717)), (1, .int (nI (m)))] [] σ
  refine px_iconst (v := 0) dx_Mo_findBeginnings_0 rfl ?_
  refine px_istore_n (lv' := [(2, .int (0)), (0, .ref (717)), (1, .int (nI (m)))]) dx_Mo_findBeginnings_1 (by decide) rfl ?_
  refine px_sub [1, 2, 0] rfl ?_
  exact m_findBeginnings_l1 hM hF hW hm (fun σ' a b c => hp0 _ _ ⟨rfl, a, b, c⟩) 41 0 σ (by omega) (by omega) Ag.rf (fun j _ h => absurd h (Nat.not_lt_zero _)) (fun _ _ => rfl)
theorem m_kindGood {l : Launch} {G : fr_G} {σ : fr_S} (hM : MR σ) {F : Nat → Nat → Nat} (hF : MF σ F) (hW : FW F) {m p : Nat} (hm : m < 4) (hpl : p < 40) {bf : Option Nat} (hb : ∀ q, bf = some q → q < 40) : CT l G yy_Mo_kindGood rm_Mo_kindGood [.ref (717), .int (nI m), .int (nI p), .int (bfI bf)] σ (some (.int (b2i (kOK F m p bf)))) σ := by
  cases bf with
  | none => exact m_kindGood_n hM hF hW hm hpl
  | some q => exact m_kindGood_p hM hF hW hm hpl (hb q rfl)
/-- an instruction is of the right form -/
def frmOK (F : Nat → Nat → Nat) (Bg : Nat → Bool) (m p : Nat) (bf : Option Nat) : Bool :=
  decide (¬ szO (opS (F 7 (40 * m + p))) = 0 ∧ p + szO (opS (F 7 (40 * m + p))) ≤ F 6 m) && ((nmOK F m p && kOK F m p bf) && ((ens (opS (F 7 (40 * m + p))) || mgN F Bg m (p + szO (opS (F 7 (40 * m + p)))) (decide (opS (F 7 (40 * m + p)) = 113))) && (!brs (opS (F 7 (40 * m + p))) || mgo F Bg m (tgO F m p) false)))
def fif (F : Nat → Nat → Nat) (Bg : Nat → Bool) (m : Nat) : Nat → Nat → Option Nat → Int32
  | 0, _, _ => -1
  | f + 1, p, bf => if p < F 6 m then (if Bg p = true then (if frmOK F Bg m p bf = true then fif F Bg m f (p + 1) (some p) else nI p) else fif F Bg m f (p + 1) bf) else -1
section FIF
variable {F : Nat → Nat → Nat} {Bg : Nat → Bool} {m f p : Nat} {bf : Option Nat}
theorem fif_end (h : F 6 m ≤ p) : ∀ f, fif F Bg m f p bf = -1
  | 0 => rfl
  | f + 1 => by simp [fif, Nat.not_lt.mpr h]
theorem fif_no (h : p < F 6 m) (hb : Bg p = false) : fif F Bg m (f + 1) p bf = fif F Bg m f (p + 1) bf := by simp [fif, h, hb]
theorem fif_bad (h : p < F 6 m) (hb : Bg p = true) (hk : frmOK F Bg m p bf = false) : fif F Bg m (f + 1) p bf = nI p := by simp [fif, h, hb, hk]
theorem fif_ok (h : p < F 6 m) (hb : Bg p = true) (hk : frmOK F Bg m p bf = true) : fif F Bg m (f + 1) p bf = fif F Bg m f (p + 1) (some p) := by simp [fif, h, hb, hk]
end FIF
theorem tgO_lt (F : Nat → Nat → Nat) (hW : FW F) {m p : Nat} (hp : p < 40) : (tgO F m p).toInt < 100000 := by
  have h1 := hW.2.2.2.2.2.2.2 (40 * m + p)
  have h2 := hW.2.2.2.2.2.2.2 (40 * m + (p + 1))
  have h3 := opN_lt h1
  unfold tgO
  have e : ∀ a b : Nat, b < 65536 → a < 40 → ∀ c : Nat, c < 65537 → (nI a + (nI b - nI c)).toInt < 100000 := by
    intro a b hb ha c hc
    rw [Int32.toInt_add, pk_sub_toInt (by omega) (by omega), nI_toInt (by omega)]
    simp only [Int.bmod_def]
    split <;> omega
  have e2 : ∀ a b : Nat, b < 65536 → a < 40 → (nI a + nI b).toInt < 100000 := by
    intro a b hb ha
    rw [nI_add, nI_toInt (by omega)]
    omega
  split
  · unfold sb8
    split
    · exact e p _ (by omega) hp 256 (by omega)
    · exact e2 p _ (by omega) hp
  · unfold nmI
    split
    · exact e p _ h2 hp 65536 (by omega)
    · exact e2 p _ h2 hp

set_option maxRecDepth 100000 in
set_option maxHeartbeats 1000000 in
theorem m_firstIllFormed_lp {l : Launch} {G : fr_G} {σ : fr_S} (hM : MR σ) {F : Nat → Nat → Nat} (hF : MF σ F) (hW : FW F) {m : Nat} (hm : m < 4) {Bg : Nat → Bool} (hB : ∀ j, j < 40 → gI σ 729 (40 * m + j) = b2i (Bg j)) {Post : Option Value → fr_S → Prop} {R : Int32} (hq : Post (some (.int R)) σ) : ∀ (d : Nat) (f : Nat) (p : Nat) (bf : Option Nat), f < d → p ≤ 40 → F 6 m ≤ p + f → (∀ q, bf = some q → q < 40) → fif F Bg m f p bf = R → PX l G yy_Mo_firstIllFormed rm_Mo_firstIllFormed (QR G false 742 0 0 Post) false 742 0 0 4 [(0, .ref (717)), (1, .int (nI (m))), (2, .int (bfI bf)), (3, .int (nI (p)))] [] (σ) := by
  intro d
  induction d with
  | zero => intro f p bf hd; exact absurd hd (Nat.not_lt_zero _)
  | succ d ih =>
    intro f p bf hd hp40 hf hbf hE
    have h6 := hW.2.2.2.2.2.2.1 m
    have hsz := szO_le (opS (F 7 (40 * m + p)))
    refine px_iload_n dx_Mo_firstIllFormed_4 rfl ?_
    refine px_aload_n dx_Mo_firstIllFormed_5 rfl ?_
    refine px_getR (r := 725) dx_Mo_firstIllFormed_6 fl_Mo_35 rfl (by decide) rfl (hM 12) ?_
    refine px_iload_n dx_Mo_firstIllFormed_9 rfl ?_
    refine px_ialdN (j := m) dx_Mo_firstIllFormed_10 rfl (by decide) (by omega) ?_
    refine px_eqi (y := nI (F 6 m)) (hF.2.2.2.2.2.2.1 m (by omega)) ?_
    refine px_icmp_geN (a := p) (b := F 6 m) dx_Mo_firstIllFormed_11 (by first | omega | (have := opS_lt (F 7 (40 * m + p)); omega) | (have := szO_le (opS (F 7 (40 * m + p))); omega)) (by first | omega | (have := opS_lt (F 7 (40 * m + p)); omega) | (have := szO_le (opS (F 7 (40 * m + p))); omega)) (fun c_11 => ?_) (fun c_11 => ?_)
    · refine px_iconst (v := -1) dx_Mo_firstIllFormed_154 rfl ?_
      exact px_iret dx_Mo_firstIllFormed_155 rfl (by (rw [fif_end c_11] at hE); subst hE; exact hq)
    · refine px_aload_n dx_Mo_firstIllFormed_14 rfl ?_
      refine px_getR (r := 729) dx_Mo_firstIllFormed_15 fl_Mo_47 rfl (by decide) rfl (hM 16) ?_
      refine px_bipush (v := 40) dx_Mo_firstIllFormed_18 rfl ?_
      refine px_iload_n dx_Mo_firstIllFormed_20 rfl ?_
      refine px_imulN (a := 40) (b := m) dx_Mo_firstIllFormed_21 ?_
      refine px_iload_n dx_Mo_firstIllFormed_22 rfl ?_
      refine px_iaddN (a := 40 * m) (b := p) dx_Mo_firstIllFormed_23 ?_
      refine px_zaldN (j := (40 * m) + p) dx_Mo_firstIllFormed_24 rfl (by decide) (by omega) ?_
      refine px_eqi (y := b2i (Bg p)) (hB p (by omega)) ?_
      refine px_if_neB dx_Mo_firstIllFormed_25 (fun c_25 => ?_) (fun c_25 => ?_)
      · refine px_aload_n dx_Mo_firstIllFormed_31 rfl ?_
        refine px_iload_n dx_Mo_firstIllFormed_32 rfl ?_
        refine px_iload_n dx_Mo_firstIllFormed_33 rfl ?_
        refine px_cV (Y := yy_Mo_firstIllFormed) (Yc := yy_Mo_op) (b := 717) (As := [.int (nI (m)), .int (nI (p))]) dx_Mo_firstIllFormed_34 ml_Mo_173 mv_Mo_op np_Mo_op ⟨_, rfl⟩ (by decide) rfl (by decide) rfl (Nat.le_of_ble_eq_true rfl) (Nat.le_of_ble_eq_true rfl) rk_Mo_firstIllFormed_Mo_op rfl (m_op hM (by omega) (hF.2.2.2.2.2.2.2 (40 * m + p) (by omega)) (hW.2.2.2.2.2.2.2 _)) zz_0 ?_
        refine px_istore (lv' := [(4, .int (nI (opS (F 7 (40 * m + p))))), (0, .ref (717)), (1, .int (nI (m))), (2, .int (bfI bf)), (3, .int (nI (p)))]) dx_Mo_firstIllFormed_37 (by decide) rfl ?_
        refine px_iload dx_Mo_firstIllFormed_39 rfl ?_
        refine px_cS (Y := yy_Mo_firstIllFormed) (Yc := yy_Mo_sizeOf) (As := [.int (nI (opS (F 7 (40 * m + p))))]) dx_Mo_firstIllFormed_41 ml_Mo_221 ms_Mo_sizeOf np_Mo_sizeOf rfl (Nat.le_of_ble_eq_true rfl) (Nat.le_of_ble_eq_true rfl) rk_Mo_firstIllFormed_Mo_sizeOf rfl (m_sizeOf (opS_lt _)) zz_0 ?_
        refine px_istore (lv' := [(5, .int (nI (szO (opS (F 7 (40 * m + p)))))), (4, .int (nI (opS (F 7 (40 * m + p))))), (0, .ref (717)), (1, .int (nI (m))), (2, .int (bfI bf)), (3, .int (nI (p)))]) dx_Mo_firstIllFormed_44 (by decide) rfl ?_
        refine px_iload dx_Mo_firstIllFormed_46 rfl ?_
        refine px_if_eqN (a := szO (opS (F 7 (40 * m + p)))) dx_Mo_firstIllFormed_48 (by first | omega | (have := opS_lt (F 7 (40 * m + p)); omega) | (have := szO_le (opS (F 7 (40 * m + p))); omega)) (fun c_48 => ?_) (fun c_48 => ?_)
        · refine px_iload_n dx_Mo_firstIllFormed_64 rfl ?_
          exact px_iret dx_Mo_firstIllFormed_65 rfl (by (obtain ⟨f', rfl⟩ : ∃ f', f = f' + 1 := ⟨f - 1, by omega⟩); (have hk : frmOK F Bg m p bf = false := by (simp only [frmOK]; simp_all <;> omega)); (rw [fif_bad c_11 c_25 hk] at hE); subst hE; exact hq)
        · refine px_iload_n dx_Mo_firstIllFormed_51 rfl ?_
          refine px_iload dx_Mo_firstIllFormed_52 rfl ?_
          refine px_iaddN (a := p) (b := szO (opS (F 7 (40 * m + p)))) dx_Mo_firstIllFormed_54 ?_
          refine px_aload_n dx_Mo_firstIllFormed_55 rfl ?_
          refine px_getR (r := 725) dx_Mo_firstIllFormed_56 fl_Mo_35 rfl (by decide) rfl (hM 12) ?_
          refine px_iload_n dx_Mo_firstIllFormed_59 rfl ?_
          refine px_ialdN (j := m) dx_Mo_firstIllFormed_60 rfl (by decide) (by omega) ?_
          refine px_eqi (y := nI (F 6 m)) (hF.2.2.2.2.2.2.1 m (by omega)) ?_
          refine px_icmp_leN (a := p + (szO (opS (F 7 (40 * m + p))))) (b := F 6 m) dx_Mo_firstIllFormed_61 (by first | omega | (have := opS_lt (F 7 (40 * m + p)); omega) | (have := szO_le (opS (F 7 (40 * m + p))); omega)) (by first | omega | (have := opS_lt (F 7 (40 * m + p)); omega) | (have := szO_le (opS (F 7 (40 * m + p))); omega)) (fun c_61 => ?_) (fun c_61 => ?_)
          · refine px_aload_n dx_Mo_firstIllFormed_66 rfl ?_
            refine px_iload_n dx_Mo_firstIllFormed_67 rfl ?_
            refine px_iload_n dx_Mo_firstIllFormed_68 rfl ?_
            refine px_cV (Y := yy_Mo_firstIllFormed) (Yc := yy_Mo_namesGood) (b := 717) (As := [.int (nI (m)), .int (nI (p))]) dx_Mo_firstIllFormed_69 ml_Mo_224 mv_Mo_namesGood np_Mo_namesGood ⟨_, rfl⟩ (by decide) rfl (by decide) rfl (Nat.le_of_ble_eq_true rfl) (Nat.le_of_ble_eq_true rfl) rk_Mo_firstIllFormed_Mo_namesGood rfl (m_namesGood hM hF hW hm (by omega)) zz_0 ?_
            refine px_if_eqB dx_Mo_firstIllFormed_72 (fun c_72 => ?_) (fun c_72 => ?_)
            · refine px_iload_n dx_Mo_firstIllFormed_85 rfl ?_
              exact px_iret dx_Mo_firstIllFormed_86 rfl (by (obtain ⟨f', rfl⟩ : ∃ f', f = f' + 1 := ⟨f - 1, by omega⟩); (have hk : frmOK F Bg m p bf = false := by (simp only [frmOK]; simp_all <;> omega)); (rw [fif_bad c_11 c_25 hk] at hE); subst hE; exact hq)
            · refine px_aload_n dx_Mo_firstIllFormed_75 rfl ?_
              refine px_iload_n dx_Mo_firstIllFormed_76 rfl ?_
              refine px_iload_n dx_Mo_firstIllFormed_77 rfl ?_
              refine px_iload_n dx_Mo_firstIllFormed_78 rfl ?_
              refine px_cV (Y := yy_Mo_firstIllFormed) (Yc := yy_Mo_kindGood) (b := 717) (As := [.int (nI (m)), .int (nI (p)), .int (bfI bf)]) dx_Mo_firstIllFormed_79 ml_Mo_227 mv_Mo_kindGood np_Mo_kindGood ⟨_, rfl⟩ (by decide) rfl (by decide) rfl (Nat.le_of_ble_eq_true rfl) (Nat.le_of_ble_eq_true rfl) rk_Mo_firstIllFormed_Mo_kindGood rfl (m_kindGood hM hF hW hm (by omega) hbf) zz_0 ?_
              refine px_if_neB dx_Mo_firstIllFormed_82 (fun c_82 => ?_) (fun c_82 => ?_)
              · refine px_iload dx_Mo_firstIllFormed_87 rfl ?_
                refine px_cS (Y := yy_Mo_firstIllFormed) (Yc := yy_Mo_ends) (As := [.int (nI (opS (F 7 (40 * m + p))))]) dx_Mo_firstIllFormed_89 ml_Mo_230 ms_Mo_ends np_Mo_ends rfl (Nat.le_of_ble_eq_true rfl) (Nat.le_of_ble_eq_true rfl) rk_Mo_firstIllFormed_Mo_ends rfl (m_ends (opS_lt _)) zz_0 ?_
                refine px_if_neB dx_Mo_firstIllFormed_92 (fun c_92 => ?_) (fun c_92 => ?_)
                · refine px_iload dx_Mo_firstIllFormed_121 rfl ?_
                  refine px_cS (Y := yy_Mo_firstIllFormed) (Yc := yy_Mo_branches) (As := [.int (nI (opS (F 7 (40 * m + p))))]) dx_Mo_firstIllFormed_123 ml_Mo_237 ms_Mo_branches np_Mo_branches rfl (Nat.le_of_ble_eq_true rfl) (Nat.le_of_ble_eq_true rfl) rk_Mo_firstIllFormed_Mo_branches rfl (m_branches (opS_lt _)) zz_0 ?_
                  refine px_if_eqB dx_Mo_firstIllFormed_126 (fun c_126 => ?_) (fun c_126 => ?_)
                  · refine px_iload_n dx_Mo_firstIllFormed_146 rfl ?_
                    refine px_istore_n (lv' := [(2, .int (nI (p))), (5, .int (nI (szO (opS (F 7 (40 * m + p)))))), (4, .int (nI (opS (F 7 (40 * m + p))))), (0, .ref (717)), (1, .int (nI (m))), (3, .int (nI (p)))]) dx_Mo_firstIllFormed_147 (by decide) rfl ?_
                    refine px_iinc (v := (nI (p + 1))) (lv' := [(3, .int (nI (p + 1))), (2, .int (nI (p))), (5, .int (nI (szO (opS (F 7 (40 * m + p)))))), (4, .int (nI (opS (F 7 (40 * m + p))))), (0, .ref (717)), (1, .int (nI (m)))]) dx_Mo_firstIllFormed_148 rfl (nI_1 _) (by decide) rfl ?_
                    refine px_goto dx_Mo_firstIllFormed_151 ?_
                    refine px_sub [4, 5, 1, 0] rfl ?_
                    obtain ⟨f', rfl⟩ : ∃ f', f = f' + 1 := ⟨f - 1, by omega⟩
                    have hk : frmOK F Bg m p bf = true := by (simp only [frmOK]; simp_all <;> omega)
                    rw [fif_ok c_11 c_25 hk] at hE
                    exact ih f' (p + 1) (some p) (by omega) (by omega) (by omega) (fun q e => by cases e; omega) hE
                  · refine px_aload_n dx_Mo_firstIllFormed_129 rfl ?_
                    refine px_iload_n dx_Mo_firstIllFormed_130 rfl ?_
                    refine px_aload_n dx_Mo_firstIllFormed_131 rfl ?_
                    refine px_iload_n dx_Mo_firstIllFormed_132 rfl ?_
                    refine px_iload_n dx_Mo_firstIllFormed_133 rfl ?_
                    refine px_cV (Y := yy_Mo_firstIllFormed) (Yc := yy_Mo_target) (b := 717) (As := [.int (nI (m)), .int (nI (p))]) dx_Mo_firstIllFormed_134 ml_Mo_240 mv_Mo_target np_Mo_target ⟨_, rfl⟩ (by decide) rfl (by decide) rfl (Nat.le_of_ble_eq_true rfl) (Nat.le_of_ble_eq_true rfl) rk_Mo_firstIllFormed_Mo_target rfl (m_target hM hF hW hm (by omega)) zz_0 ?_
                    refine px_iconst (v := 0) dx_Mo_firstIllFormed_137 rfl ?_
                    refine px_cV (Y := yy_Mo_firstIllFormed) (Yc := yy_Mo_mayGo) (b := 717) (As := [.int (nI (m)), .int (tgO F m p), .int (0)]) dx_Mo_firstIllFormed_138 ml_Mo_233 mv_Mo_mayGo np_Mo_mayGo ⟨_, rfl⟩ (by decide) rfl (by decide) rfl (Nat.le_of_ble_eq_true rfl) (Nat.le_of_ble_eq_true rfl) rk_Mo_firstIllFormed_Mo_mayGo rfl (m_mayGo (bc := false) hM hF hW hm hB (tgO_lt F hW (by omega))) zz_0 ?_
                    refine px_if_neB dx_Mo_firstIllFormed_141 (fun c_141 => ?_) (fun c_141 => ?_)
                    · refine px_iload_n dx_Mo_firstIllFormed_146 rfl ?_
                      refine px_istore_n (lv' := [(2, .int (nI (p))), (5, .int (nI (szO (opS (F 7 (40 * m + p)))))), (4, .int (nI (opS (F 7 (40 * m + p))))), (0, .ref (717)), (1, .int (nI (m))), (3, .int (nI (p)))]) dx_Mo_firstIllFormed_147 (by decide) rfl ?_
                      refine px_iinc (v := (nI (p + 1))) (lv' := [(3, .int (nI (p + 1))), (2, .int (nI (p))), (5, .int (nI (szO (opS (F 7 (40 * m + p)))))), (4, .int (nI (opS (F 7 (40 * m + p))))), (0, .ref (717)), (1, .int (nI (m)))]) dx_Mo_firstIllFormed_148 rfl (nI_1 _) (by decide) rfl ?_
                      refine px_goto dx_Mo_firstIllFormed_151 ?_
                      refine px_sub [4, 5, 1, 0] rfl ?_
                      obtain ⟨f', rfl⟩ : ∃ f', f = f' + 1 := ⟨f - 1, by omega⟩
                      have hk : frmOK F Bg m p bf = true := by (simp only [frmOK]; simp_all <;> omega)
                      rw [fif_ok c_11 c_25 hk] at hE
                      exact ih f' (p + 1) (some p) (by omega) (by omega) (by omega) (fun q e => by cases e; omega) hE
                    · refine px_iload_n dx_Mo_firstIllFormed_144 rfl ?_
                      exact px_iret dx_Mo_firstIllFormed_145 rfl (by (obtain ⟨f', rfl⟩ : ∃ f', f = f' + 1 := ⟨f - 1, by omega⟩); (have hk : frmOK F Bg m p bf = false := by (simp only [frmOK]; simp_all <;> omega)); (rw [fif_bad c_11 c_25 hk] at hE); subst hE; exact hq)
                · refine px_aload_n dx_Mo_firstIllFormed_95 rfl ?_
                  refine px_iload_n dx_Mo_firstIllFormed_96 rfl ?_
                  refine px_iload_n dx_Mo_firstIllFormed_97 rfl ?_
                  refine px_iload dx_Mo_firstIllFormed_98 rfl ?_
                  refine px_iaddN (a := p) (b := szO (opS (F 7 (40 * m + p)))) dx_Mo_firstIllFormed_100 ?_
                  refine px_iload dx_Mo_firstIllFormed_101 rfl ?_
                  refine px_bipush (v := 113) dx_Mo_firstIllFormed_103 rfl ?_
                  refine px_icmp_neN (a := opS (F 7 (40 * m + p))) (b := 113) dx_Mo_firstIllFormed_105 (by first | omega | (have := opS_lt (F 7 (40 * m + p)); omega) | (have := szO_le (opS (F 7 (40 * m + p))); omega)) (by first | omega | (have := opS_lt (F 7 (40 * m + p)); omega) | (have := szO_le (opS (F 7 (40 * m + p))); omega)) (fun c_105 => ?_) (fun c_105 => ?_)
                  · refine px_iconst (v := 0) dx_Mo_firstIllFormed_112 rfl ?_
                    refine px_cV (Y := yy_Mo_firstIllFormed) (Yc := yy_Mo_mayGo) (b := 717) (As := [.int (nI (m)), .int (nI (p + (szO (opS (F 7 (40 * m + p)))))), .int (0)]) dx_Mo_firstIllFormed_113 ml_Mo_233 mv_Mo_mayGo np_Mo_mayGo ⟨_, rfl⟩ (by decide) rfl (by decide) rfl (Nat.le_of_ble_eq_true rfl) (Nat.le_of_ble_eq_true rfl) rk_Mo_firstIllFormed_Mo_mayGo rfl (m_mayGo_p (bc := false) hM hF hW hm hB (by omega)) zz_0 ?_
                    refine px_if_neB dx_Mo_firstIllFormed_116 (fun c_116 => ?_) (fun c_116 => ?_)
                    · refine px_iload dx_Mo_firstIllFormed_121 rfl ?_
                      refine px_cS (Y := yy_Mo_firstIllFormed) (Yc := yy_Mo_branches) (As := [.int (nI (opS (F 7 (40 * m + p))))]) dx_Mo_firstIllFormed_123 ml_Mo_237 ms_Mo_branches np_Mo_branches rfl (Nat.le_of_ble_eq_true rfl) (Nat.le_of_ble_eq_true rfl) rk_Mo_firstIllFormed_Mo_branches rfl (m_branches (opS_lt _)) zz_0 ?_
                      refine px_if_eqB dx_Mo_firstIllFormed_126 (fun c_126 => ?_) (fun c_126 => ?_)
                      · refine px_iload_n dx_Mo_firstIllFormed_146 rfl ?_
                        refine px_istore_n (lv' := [(2, .int (nI (p))), (5, .int (nI (szO (opS (F 7 (40 * m + p)))))), (4, .int (nI (opS (F 7 (40 * m + p))))), (0, .ref (717)), (1, .int (nI (m))), (3, .int (nI (p)))]) dx_Mo_firstIllFormed_147 (by decide) rfl ?_
                        refine px_iinc (v := (nI (p + 1))) (lv' := [(3, .int (nI (p + 1))), (2, .int (nI (p))), (5, .int (nI (szO (opS (F 7 (40 * m + p)))))), (4, .int (nI (opS (F 7 (40 * m + p))))), (0, .ref (717)), (1, .int (nI (m)))]) dx_Mo_firstIllFormed_148 rfl (nI_1 _) (by decide) rfl ?_
                        refine px_goto dx_Mo_firstIllFormed_151 ?_
                        refine px_sub [4, 5, 1, 0] rfl ?_
                        obtain ⟨f', rfl⟩ : ∃ f', f = f' + 1 := ⟨f - 1, by omega⟩
                        have hk : frmOK F Bg m p bf = true := by (simp only [frmOK]; simp_all <;> omega)
                        rw [fif_ok c_11 c_25 hk] at hE
                        exact ih f' (p + 1) (some p) (by omega) (by omega) (by omega) (fun q e => by cases e; omega) hE
                      · refine px_aload_n dx_Mo_firstIllFormed_129 rfl ?_
                        refine px_iload_n dx_Mo_firstIllFormed_130 rfl ?_
                        refine px_aload_n dx_Mo_firstIllFormed_131 rfl ?_
                        refine px_iload_n dx_Mo_firstIllFormed_132 rfl ?_
                        refine px_iload_n dx_Mo_firstIllFormed_133 rfl ?_
                        refine px_cV (Y := yy_Mo_firstIllFormed) (Yc := yy_Mo_target) (b := 717) (As := [.int (nI (m)), .int (nI (p))]) dx_Mo_firstIllFormed_134 ml_Mo_240 mv_Mo_target np_Mo_target ⟨_, rfl⟩ (by decide) rfl (by decide) rfl (Nat.le_of_ble_eq_true rfl) (Nat.le_of_ble_eq_true rfl) rk_Mo_firstIllFormed_Mo_target rfl (m_target hM hF hW hm (by omega)) zz_0 ?_
                        refine px_iconst (v := 0) dx_Mo_firstIllFormed_137 rfl ?_
                        refine px_cV (Y := yy_Mo_firstIllFormed) (Yc := yy_Mo_mayGo) (b := 717) (As := [.int (nI (m)), .int (tgO F m p), .int (0)]) dx_Mo_firstIllFormed_138 ml_Mo_233 mv_Mo_mayGo np_Mo_mayGo ⟨_, rfl⟩ (by decide) rfl (by decide) rfl (Nat.le_of_ble_eq_true rfl) (Nat.le_of_ble_eq_true rfl) rk_Mo_firstIllFormed_Mo_mayGo rfl (m_mayGo (bc := false) hM hF hW hm hB (tgO_lt F hW (by omega))) zz_0 ?_
                        refine px_if_neB dx_Mo_firstIllFormed_141 (fun c_141 => ?_) (fun c_141 => ?_)
                        · refine px_iload_n dx_Mo_firstIllFormed_146 rfl ?_
                          refine px_istore_n (lv' := [(2, .int (nI (p))), (5, .int (nI (szO (opS (F 7 (40 * m + p)))))), (4, .int (nI (opS (F 7 (40 * m + p))))), (0, .ref (717)), (1, .int (nI (m))), (3, .int (nI (p)))]) dx_Mo_firstIllFormed_147 (by decide) rfl ?_
                          refine px_iinc (v := (nI (p + 1))) (lv' := [(3, .int (nI (p + 1))), (2, .int (nI (p))), (5, .int (nI (szO (opS (F 7 (40 * m + p)))))), (4, .int (nI (opS (F 7 (40 * m + p))))), (0, .ref (717)), (1, .int (nI (m)))]) dx_Mo_firstIllFormed_148 rfl (nI_1 _) (by decide) rfl ?_
                          refine px_goto dx_Mo_firstIllFormed_151 ?_
                          refine px_sub [4, 5, 1, 0] rfl ?_
                          obtain ⟨f', rfl⟩ : ∃ f', f = f' + 1 := ⟨f - 1, by omega⟩
                          have hk : frmOK F Bg m p bf = true := by (simp only [frmOK]; simp_all <;> omega)
                          rw [fif_ok c_11 c_25 hk] at hE
                          exact ih f' (p + 1) (some p) (by omega) (by omega) (by omega) (fun q e => by cases e; omega) hE
                        · refine px_iload_n dx_Mo_firstIllFormed_144 rfl ?_
                          exact px_iret dx_Mo_firstIllFormed_145 rfl (by (obtain ⟨f', rfl⟩ : ∃ f', f = f' + 1 := ⟨f - 1, by omega⟩); (have hk : frmOK F Bg m p bf = false := by (simp only [frmOK]; simp_all <;> omega)); (rw [fif_bad c_11 c_25 hk] at hE); subst hE; exact hq)
                    · refine px_iload_n dx_Mo_firstIllFormed_119 rfl ?_
                      exact px_iret dx_Mo_firstIllFormed_120 rfl (by (obtain ⟨f', rfl⟩ : ∃ f', f = f' + 1 := ⟨f - 1, by omega⟩); (have hk : frmOK F Bg m p bf = false := by (simp only [frmOK]; simp_all <;> omega)); (rw [fif_bad c_11 c_25 hk] at hE); subst hE; exact hq)
                  · refine px_iconst (v := 1) dx_Mo_firstIllFormed_108 rfl ?_
                    refine px_goto dx_Mo_firstIllFormed_109 ?_
                    refine px_cV (Y := yy_Mo_firstIllFormed) (Yc := yy_Mo_mayGo) (b := 717) (As := [.int (nI (m)), .int (nI (p + (szO (opS (F 7 (40 * m + p)))))), .int (1)]) dx_Mo_firstIllFormed_113 ml_Mo_233 mv_Mo_mayGo np_Mo_mayGo ⟨_, rfl⟩ (by decide) rfl (by decide) rfl (Nat.le_of_ble_eq_true rfl) (Nat.le_of_ble_eq_true rfl) rk_Mo_firstIllFormed_Mo_mayGo rfl (m_mayGo_p (bc := true) hM hF hW hm hB (by omega)) zz_0 ?_
                    refine px_if_neB dx_Mo_firstIllFormed_116 (fun c_116 => ?_) (fun c_116 => ?_)
                    · refine px_iload dx_Mo_firstIllFormed_121 rfl ?_
                      refine px_cS (Y := yy_Mo_firstIllFormed) (Yc := yy_Mo_branches) (As := [.int (nI (opS (F 7 (40 * m + p))))]) dx_Mo_firstIllFormed_123 ml_Mo_237 ms_Mo_branches np_Mo_branches rfl (Nat.le_of_ble_eq_true rfl) (Nat.le_of_ble_eq_true rfl) rk_Mo_firstIllFormed_Mo_branches rfl (m_branches (opS_lt _)) zz_0 ?_
                      refine px_if_eqB dx_Mo_firstIllFormed_126 (fun c_126 => ?_) (fun c_126 => ?_)
                      · refine px_iload_n dx_Mo_firstIllFormed_146 rfl ?_
                        refine px_istore_n (lv' := [(2, .int (nI (p))), (5, .int (nI (szO (opS (F 7 (40 * m + p)))))), (4, .int (nI (opS (F 7 (40 * m + p))))), (0, .ref (717)), (1, .int (nI (m))), (3, .int (nI (p)))]) dx_Mo_firstIllFormed_147 (by decide) rfl ?_
                        refine px_iinc (v := (nI (p + 1))) (lv' := [(3, .int (nI (p + 1))), (2, .int (nI (p))), (5, .int (nI (szO (opS (F 7 (40 * m + p)))))), (4, .int (nI (opS (F 7 (40 * m + p))))), (0, .ref (717)), (1, .int (nI (m)))]) dx_Mo_firstIllFormed_148 rfl (nI_1 _) (by decide) rfl ?_
                        refine px_goto dx_Mo_firstIllFormed_151 ?_
                        refine px_sub [4, 5, 1, 0] rfl ?_
                        obtain ⟨f', rfl⟩ : ∃ f', f = f' + 1 := ⟨f - 1, by omega⟩
                        have hk : frmOK F Bg m p bf = true := by (simp only [frmOK]; simp_all <;> omega)
                        rw [fif_ok c_11 c_25 hk] at hE
                        exact ih f' (p + 1) (some p) (by omega) (by omega) (by omega) (fun q e => by cases e; omega) hE
                      · refine px_aload_n dx_Mo_firstIllFormed_129 rfl ?_
                        refine px_iload_n dx_Mo_firstIllFormed_130 rfl ?_
                        refine px_aload_n dx_Mo_firstIllFormed_131 rfl ?_
                        refine px_iload_n dx_Mo_firstIllFormed_132 rfl ?_
                        refine px_iload_n dx_Mo_firstIllFormed_133 rfl ?_
                        refine px_cV (Y := yy_Mo_firstIllFormed) (Yc := yy_Mo_target) (b := 717) (As := [.int (nI (m)), .int (nI (p))]) dx_Mo_firstIllFormed_134 ml_Mo_240 mv_Mo_target np_Mo_target ⟨_, rfl⟩ (by decide) rfl (by decide) rfl (Nat.le_of_ble_eq_true rfl) (Nat.le_of_ble_eq_true rfl) rk_Mo_firstIllFormed_Mo_target rfl (m_target hM hF hW hm (by omega)) zz_0 ?_
                        refine px_iconst (v := 0) dx_Mo_firstIllFormed_137 rfl ?_
                        refine px_cV (Y := yy_Mo_firstIllFormed) (Yc := yy_Mo_mayGo) (b := 717) (As := [.int (nI (m)), .int (tgO F m p), .int (0)]) dx_Mo_firstIllFormed_138 ml_Mo_233 mv_Mo_mayGo np_Mo_mayGo ⟨_, rfl⟩ (by decide) rfl (by decide) rfl (Nat.le_of_ble_eq_true rfl) (Nat.le_of_ble_eq_true rfl) rk_Mo_firstIllFormed_Mo_mayGo rfl (m_mayGo (bc := false) hM hF hW hm hB (tgO_lt F hW (by omega))) zz_0 ?_
                        refine px_if_neB dx_Mo_firstIllFormed_141 (fun c_141 => ?_) (fun c_141 => ?_)
                        · refine px_iload_n dx_Mo_firstIllFormed_146 rfl ?_
                          refine px_istore_n (lv' := [(2, .int (nI (p))), (5, .int (nI (szO (opS (F 7 (40 * m + p)))))), (4, .int (nI (opS (F 7 (40 * m + p))))), (0, .ref (717)), (1, .int (nI (m))), (3, .int (nI (p)))]) dx_Mo_firstIllFormed_147 (by decide) rfl ?_
                          refine px_iinc (v := (nI (p + 1))) (lv' := [(3, .int (nI (p + 1))), (2, .int (nI (p))), (5, .int (nI (szO (opS (F 7 (40 * m + p)))))), (4, .int (nI (opS (F 7 (40 * m + p))))), (0, .ref (717)), (1, .int (nI (m)))]) dx_Mo_firstIllFormed_148 rfl (nI_1 _) (by decide) rfl ?_
                          refine px_goto dx_Mo_firstIllFormed_151 ?_
                          refine px_sub [4, 5, 1, 0] rfl ?_
                          obtain ⟨f', rfl⟩ : ∃ f', f = f' + 1 := ⟨f - 1, by omega⟩
                          have hk : frmOK F Bg m p bf = true := by (simp only [frmOK]; simp_all <;> omega)
                          rw [fif_ok c_11 c_25 hk] at hE
                          exact ih f' (p + 1) (some p) (by omega) (by omega) (by omega) (fun q e => by cases e; omega) hE
                        · refine px_iload_n dx_Mo_firstIllFormed_144 rfl ?_
                          exact px_iret dx_Mo_firstIllFormed_145 rfl (by (obtain ⟨f', rfl⟩ : ∃ f', f = f' + 1 := ⟨f - 1, by omega⟩); (have hk : frmOK F Bg m p bf = false := by (simp only [frmOK]; simp_all <;> omega)); (rw [fif_bad c_11 c_25 hk] at hE); subst hE; exact hq)
                    · refine px_iload_n dx_Mo_firstIllFormed_119 rfl ?_
                      exact px_iret dx_Mo_firstIllFormed_120 rfl (by (obtain ⟨f', rfl⟩ : ∃ f', f = f' + 1 := ⟨f - 1, by omega⟩); (have hk : frmOK F Bg m p bf = false := by (simp only [frmOK]; simp_all <;> omega)); (rw [fif_bad c_11 c_25 hk] at hE); subst hE; exact hq)
              · refine px_iload_n dx_Mo_firstIllFormed_85 rfl ?_
                exact px_iret dx_Mo_firstIllFormed_86 rfl (by (obtain ⟨f', rfl⟩ : ∃ f', f = f' + 1 := ⟨f - 1, by omega⟩); (have hk : frmOK F Bg m p bf = false := by (simp only [frmOK]; simp_all <;> omega)); (rw [fif_bad c_11 c_25 hk] at hE); subst hE; exact hq)
          · refine px_iload_n dx_Mo_firstIllFormed_64 rfl ?_
            exact px_iret dx_Mo_firstIllFormed_65 rfl (by (obtain ⟨f', rfl⟩ : ∃ f', f = f' + 1 := ⟨f - 1, by omega⟩); (have hk : frmOK F Bg m p bf = false := by (simp only [frmOK]; simp_all <;> omega)); (rw [fif_bad c_11 c_25 hk] at hE); subst hE; exact hq)
      · refine px_goto dx_Mo_firstIllFormed_28 ?_
        refine px_iinc (v := (nI (p + 1))) (lv' := [(3, .int (nI (p + 1))), (0, .ref (717)), (1, .int (nI (m))), (2, .int (bfI bf))]) dx_Mo_firstIllFormed_148 rfl (nI_1 _) (by decide) rfl ?_
        refine px_goto dx_Mo_firstIllFormed_151 ?_
        refine px_sub [1, 2, 3, 0] rfl ?_
        obtain ⟨f', rfl⟩ : ∃ f', f = f' + 1 := ⟨f - 1, by omega⟩
        rw [fif_no c_11 c_25] at hE
        exact ih f' (p + 1) bf (by omega) (by omega) (by omega) hbf hE
set_option maxRecDepth 100000 in
set_option maxHeartbeats 1000000 in
theorem m_firstIllFormed {l : Launch} {G : fr_G} {σ : fr_S} (hM : MR σ) {F : Nat → Nat → Nat} (hF : MF σ F) (hW : FW F) {m : Nat} (hm : m < 4) {Bg : Nat → Bool} (hB : ∀ j, j < 40 → gI σ 729 (40 * m + j) = b2i (Bg j)) : CT l G yy_Mo_firstIllFormed rm_Mo_firstIllFormed [.ref (717), .int (nI (m))] σ (some (.int (fif F Bg m 40 0 none))) (σ) := by
  intro Post hp0
  have hp := hp0
  show PX l G yy_Mo_firstIllFormed rm_Mo_firstIllFormed _ false 742 0 0 0 [(0, .ref (717)), (1, .int (nI (m)))] [] σ
  refine px_iconst (v := -1) dx_Mo_firstIllFormed_0 rfl ?_
  refine px_istore_n (lv' := [(2, .int (-1)), (0, .ref (717)), (1, .int (nI (m)))]) dx_Mo_firstIllFormed_1 (by decide) rfl ?_
  refine px_iconst (v := 0) dx_Mo_firstIllFormed_2 rfl ?_
  refine px_istore_n (lv' := [(3, .int (0)), (2, .int (-1)), (0, .ref (717)), (1, .int (nI (m)))]) dx_Mo_firstIllFormed_3 (by decide) rfl ?_
  refine px_sub [2, 3, 1, 0] rfl ?_
  exact m_firstIllFormed_lp hM hF hW hm hB hp0 41 40 0 none (by omega) (by omega) (by have := hW.2.2.2.2.2.2.1 m; omega) (fun q e => by cases e) rfl
