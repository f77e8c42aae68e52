/-! the class: the first fault of form; types of results -/
def SUm (σ : fr_S) (e : Nat) (X Y : Nat → Nat) (B : Nat → Bool) : Prop := ∀ u, u < 40 → B u = true → SU σ (e + 5 + 2 * u) (X u) (Y u)
def stD (F : Nat → Nat → Nat) (m u : Nat) : Nat := stO (opS (F 7 (40 * m + u)))
def usD (F : Nat → Nat → Nat) (m u : Nat) : Nat := usO (opS (F 7 (40 * m + u)))
/-- the types that an instruction sets and uses, told -/
def stG (F : Nat → Nat → Nat) (m u : Nat) : Nat := if kdO (opS (F 7 (40 * m + u))) = 5 then rbC F m (pbG (bgF F m) u) else stD F m u
def usG (F : Nat → Nat → Nat) (m u : Nat) : Nat := if kdO (opS (F 7 (40 * m + u))) = 3 then tt (F 2 m) else usD F m u

set_option maxRecDepth 100000 in
set_option maxHeartbeats 1000000 in
theorem k_firstFault_lp {l : Launch} {G : fr_G} {σ : fr_S} {q : Nat} (hq : PB q) {e : Nat} (hE : ME e) (hR : RF σ) {F : Nat → Nat → Nat} (hW : FW F) {m : Nat} (hm : m < 4) (hCP : CP σ q F) (hC : CM σ e F m) (hL : SLm σ e F m) (hS : SUm σ e (stD F m) (usD F m) (bgF F m)) {Post : Option Value → fr_S → Prop} {R : Int32} (hp : Post (some (.int R)) σ) : ∀ (d : Nat) (u : Nat), 40 - u < d → u ≤ 40 → fif F (bgF F m) m (40 - u) u (pbG (bgF F m) u) = R → PX l G yy_Fo_firstFault rm_Fo_firstFault (QR G false 742 0 0 Post) false 742 0 0 2 [(0, .ref (q)), (1, .ref (e)), (2, .int (nI (u)))] [] (σ) := by
  intro d
  induction d with
  | zero => intro u hd; exact absurd hd (Nat.not_lt_zero _)
  | succ d ih =>
    intro u hd hu hr
    have kP := kd_P hq
    have kM := kd_M hE
    have h64 := hW.2.2.2.2.2.2.1 m
    refine px_iload_n dx_Fo_firstFault_2 rfl ?_
    refine px_aload_n dx_Fo_firstFault_3 rfl ?_
    refine px_getI dx_Fo_firstFault_4 fl_Fo_9 kM.1 (by omega) rfl ?_
    refine px_eqi (y := nI (F 6 m)) hC.2.2.2.2.1 ?_
    refine px_icmp_geN (a := u) (b := F 6 m) dx_Fo_firstFault_7 (by omega) (by omega) (fun c_7 => ?_) (fun c_7 => ?_)
    · refine px_iconst (v := -1) dx_Fo_firstFault_38 rfl ?_
      exact px_iret dx_Fo_firstFault_39 rfl (by (have e : R = -1 := by (rw [← hr]; exact fif_end (by omega) _)); rw [e] at hp; exact hp)
    · refine px_aload_n dx_Fo_firstFault_10 rfl ?_
      refine px_iload_n dx_Fo_firstFault_11 rfl ?_
      by_cases q_12 : u < F 6 m ∧ bgF F m u = true
      · refine px_cV (Y := yy_Fo_firstFault) (Yc := yy_Me_stepAt) (b := e) (As := [.int (nI (u))]) dx_Fo_firstFault_12 ml_Fo_15 mv_Me_stepAt np_Me_stepAt ⟨_, rfl⟩ (by decide) kM.1 (by omega) rfl (Nat.le_of_ble_eq_true rfl) (Nat.le_of_ble_eq_true rfl) rk_Fo_firstFault_Me_stepAt rfl (k_stepAt_N hE hR h64 hC.2.2.2.2.1 hL.1 q_12.1 q_12.2) zz_0 ?_
        refine px_astore_n (lv' := [(3, .ref (e + 5 + 2 * u)), (0, .ref (q)), (1, .ref (e)), (2, .int (nI (u)))]) dx_Fo_firstFault_15 (by decide) rfl ?_
        refine px_aload_n dx_Fo_firstFault_16 rfl ?_
        refine px_ifnull dx_Fo_firstFault_17 ?_
        refine px_aload_n dx_Fo_firstFault_20 rfl ?_
        refine px_aload_n dx_Fo_firstFault_21 rfl ?_
        refine px_iload_n dx_Fo_firstFault_22 rfl ?_
        refine px_aload_n dx_Fo_firstFault_23 rfl ?_
        have h40 : u < 40 := by omega
        have hk : ftC F m u (opS (F 7 (40 * m + u))) (F 7 (40 * m + u)) (uA F m (u + 1)) (uA F m (u + 2)) = frmOK F (bgF F m) m u (pbG (bgF F m) u) := ft_e hW
        refine px_cS (Y := yy_Fo_firstFault) (Yc := yy_Fo_fits) (As := [.ref (q), .ref (e), .int (nI (u)), .ref (e + 5 + 2 * u)]) dx_Fo_firstFault_24 ml_Fo_19 ms_Fo_fits np_Fo_fits rfl (Nat.le_of_ble_eq_true rfl) (Nat.le_of_ble_eq_true rfl) rk_Fo_firstFault_Fo_fits rfl (k_fits hq hE hR hW hm hCP hC hL (SE.s hE h40) (hW.2.2.2.2.2.2.2 _) (uA_lt hW _ _) (uA_lt hW _ _) rfl h40 q_12.1 (hL.2 u h40 q_12.2).1 (hS u h40 q_12.2) (hL.2 u h40 q_12.2).2.1 (hL.2 u h40 q_12.2).2.2) zz_0 ?_
        refine px_if_neB dx_Fo_firstFault_27 (fun c_27 => ?_) (fun c_27 => ?_)
        · refine px_iinc (v := (nI (u + 1))) (lv' := [(2, .int (nI (u + 1))), (3, .ref (e + 5 + 2 * u)), (0, .ref (q)), (1, .ref (e))]) dx_Fo_firstFault_32 rfl (nI_1 _) (by decide) rfl ?_
          refine px_goto dx_Fo_firstFault_35 ?_
          refine px_sub [2, 3, 0] rfl ?_
          (rw [show 40 - u = (39 - u) + 1 by omega, fif_ok q_12.1 q_12.2 (by rw [← hk]; simpa using c_27)] at hr); exact ih (u + 1) (by omega) (by omega) (by rw [show 40 - (u + 1) = 39 - u by omega, show pbG (bgF F m) (u + 1) = some u from if_pos q_12.2]; exact hr)
        · refine px_iload_n dx_Fo_firstFault_30 rfl ?_
          exact px_iret dx_Fo_firstFault_31 rfl (by (have e : R = nI u := by (rw [← hr, show 40 - u = (39 - u) + 1 by omega]; exact fif_bad q_12.1 q_12.2 (by rw [← hk]; simpa using c_27))); rw [e] at hp; exact hp)
      · refine px_cV (Y := yy_Fo_firstFault) (Yc := yy_Me_stepAt) (b := e) (As := [.int (nI (u))]) dx_Fo_firstFault_12 ml_Fo_15 mv_Me_stepAt np_Me_stepAt ⟨_, rfl⟩ (by decide) kM.1 (by omega) rfl (Nat.le_of_ble_eq_true rfl) (Nat.le_of_ble_eq_true rfl) rk_Fo_firstFault_Me_stepAt rfl (k_stepAt_n hE hR h64 hC.2.2.2.2.1 hL.1 (by omega) q_12) zz_0 ?_
        refine px_astore_nN (lv' := [(3, .null), (0, .ref (q)), (1, .ref (e)), (2, .int (nI (u)))]) dx_Fo_firstFault_15 (by decide) rfl ?_
        refine px_aload_nN dx_Fo_firstFault_16 rfl ?_
        refine px_ifnullN dx_Fo_firstFault_17 ?_
        refine px_iinc (v := (nI (u + 1))) (lv' := [(2, .int (nI (u + 1))), (3, .null), (0, .ref (q)), (1, .ref (e))]) dx_Fo_firstFault_32 rfl (nI_1 _) (by decide) rfl ?_
        refine px_goto dx_Fo_firstFault_35 ?_
        refine px_sub [2, 3, 0] rfl ?_
        (have hb : bgF F m u = false := by (cases h : bgF F m u with | false => rfl | true => exact absurd ⟨by omega, h⟩ q_12)); (rw [show 40 - u = (39 - u) + 1 by omega, fif_no (by omega) hb] at hr); exact ih (u + 1) (by omega) (by omega) (by rw [show 40 - (u + 1) = 39 - u by omega, show pbG (bgF F m) (u + 1) = pbG (bgF F m) u from if_neg (by rw [hb]; decide)]; exact hr)
set_option maxRecDepth 100000 in
set_option maxHeartbeats 1000000 in
theorem k_firstFault {l : Launch} {G : fr_G} {σ : fr_S} {q : Nat} (hq : PB q) {e : Nat} (hE : ME e) (hR : RF σ) {F : Nat → Nat → Nat} (hW : FW F) {m : Nat} (hm : m < 4) (hCP : CP σ q F) (hC : CM σ e F m) (hL : SLm σ e F m) (hS : SUm σ e (stD F m) (usD F m) (bgF F m)) : CT l G yy_Fo_firstFault rm_Fo_firstFault [.ref (q), .ref (e)] σ (some (.int (fif F (bgF F m) m 40 0 none))) (σ) := by
  intro Post hp0
  have hp := hp0
  show PX l G yy_Fo_firstFault rm_Fo_firstFault _ false 742 0 0 0 [(0, .ref (q)), (1, .ref (e))] [] σ
  refine px_iconst (v := 0) dx_Fo_firstFault_0 rfl ?_
  refine px_istore_n (lv' := [(2, .int (0)), (0, .ref (q)), (1, .ref (e))]) dx_Fo_firstFault_1 (by decide) rfl ?_
  refine px_sub [1, 2, 0] rfl ?_
  exact k_firstFault_lp hq hE hR hW hm hCP hC hL hS hp0 41 0 (by omega) (by omega) rfl
/-- the places that types of results take -/
def PSU (e o k : Nat) : Prop := ∃ u, u < 40 ∧ o = e + 5 + 2 * u ∧ (k = 7 ∨ k = 8)
theorem SLm.cg {σ σ' : fr_S} {e : Nat} {F : Nat → Nat → Nat} {m : Nat} (h : SLm σ e F m) (q4 : ∀ u, u < 40 → gI σ' (e + 4) u = gI σ (e + 4) u) (q : ∀ u, u < 40 → ∀ k, 2 ≤ k → k ≠ 7 → k ≠ 8 → gI σ' (e + 5 + 2 * u) k = gI σ (e + 5 + 2 * u) k) : SLm σ' e F m :=
  ⟨fun u hu => (q4 u hu).trans (h.1 u hu), fun u hu hb => (h.2 u hu hb).cg (q u hu)⟩
theorem PSU.no {e o k : Nat} (h : PSU e o k) : e + 5 ≤ o ∧ o ≤ e + 83 ∧ (k = 7 ∨ k = 8) := by
  obtain ⟨u, h1, h2, h3⟩ := h
  omega


theorem gt_step {σ σ1 σ2 : fr_S} {e : Nat} {F : Nat → Nat → Nat} {m u : Nat} (hu : u < 40) (hA : Agp (PSU e) σ σ1) (hS : SUm σ1 e (fun v => if v < u then stG F m v else stD F m v) (fun v => if v < u then usG F m v else usD F m v) (bgF F m)) (h2 : Agp (fun o k => o = e + 5 + 2 * u ∧ (k = 7 ∨ k = 8)) σ1 σ2) (h7 : bgF F m u = true → gI σ2 (e + 5 + 2 * u) 7 = nI (stG F m u)) (h8 : bgF F m u = true → gI σ2 (e + 5 + 2 * u) 8 = nI (usG F m u)) : Agp (PSU e) σ σ2 ∧ SUm σ2 e (fun v => if v < u + 1 then stG F m v else stD F m v) (fun v => if v < u + 1 then usG F m v else usD F m v) (bgF F m) := by
  refine ⟨hA.tr (h2.mono fun o k h => ⟨u, hu, h.1, h.2⟩), fun v hv hb => ?_⟩
  by_cases c : v = u
  · subst c
    refine ⟨?_, ?_⟩
    · show _ = nI (if v < v + 1 then _ else _)
      rw [if_pos (by omega)]
      exact h7 hb
    · show _ = nI (if v < v + 1 then _ else _)
      rw [if_pos (by omega)]
      exact h8 hb
  · obtain ⟨a, b⟩ := hS v hv hb
    refine ⟨?_, ?_⟩
    · rw [h2.1 _ _ (by omega), a]
      show nI (if v < u then _ else _) = nI (if v < u + 1 then _ else _)
      by_cases d : v < u
      · rw [if_pos d, if_pos (by omega)]
      · rw [if_neg d, if_neg (by omega)]
    · rw [h2.1 _ _ (by omega), b]
      show nI (if v < u then _ else _) = nI (if v < u + 1 then _ else _)
      by_cases d : v < u
      · rw [if_pos d, if_pos (by omega)]
      · rw [if_neg d, if_neg (by omega)]

theorem CP.cg {σ σ' : fr_S} {q : Nat} {F : Nat → Nat → Nat} (h : CP σ q F) (q0 : ∀ k, 3 ≤ k → k ≤ 4 → gI σ' q k = gI σ q k) (q1 : ∀ m, m < 4 → ∀ o k, o = q + 5 + 85 * m ∧ 4 ≤ k ∧ k ≤ 8 ∨ o = q + 5 + 85 * m + 1 ∨ o = q + 5 + 85 * m + 2 → gI σ' o k = gI σ o k) : CP σ' q F :=
  ⟨(q0 3 (by decide) (by decide)).trans h.1, (q0 4 (by decide) (by decide)).trans h.2.1, fun m hm => (h.2.2 m hm).cg (q1 m hm)⟩
/-- the numbers of a program that are read, not made -/
def kdK (o k : Nat) : Prop := (kd o).1 = 5 ∧ k ≤ 4 ∨ (kd o).1 = 7 ∧ 4 ≤ k ∧ k ≤ 8 ∨ (kd o).1 = 20 ∧ ((kd o).2 = 3 ∨ (kd o).2 = 40)
theorem CP.kk {σ σ' : fr_S} {q : Nat} (hq : PB q) {F : Nat → Nat → Nat} (h : CP σ q F) (hk : ∀ o k, kdK o k → gI σ' o k = gI σ o k) : CP σ' q F := by
  refine h.cg (fun k h1 h2 => hk _ _ (Or.inl ⟨by rw [(kd_P hq).1], h2⟩)) fun m hm o k z => hk _ _ ?_
  have kM := kd_M (ME.m hq hm)
  rcases z with ⟨rfl, h1, h2⟩ | rfl | rfl
  · exact Or.inr (Or.inl ⟨by rw [kM.1], h1, h2⟩)
  · exact Or.inr (Or.inr ⟨by rw [kM.2.1], Or.inl (by rw [kM.2.1])⟩)
  · exact Or.inr (Or.inr ⟨by rw [kM.2.2.1], Or.inr (by rw [kM.2.2.1])⟩)
theorem PSU.kk {e o k : Nat} (hE : ME e) (h : PSU e o k) : ¬ kdK o k := by
  obtain ⟨u, h1, rfl, h3⟩ := h
  have kS := kd_S (SE.s hE h1)
  unfold kdK
  rw [kS.1]
  simp
theorem bgF_lt {F : Nat → Nat → Nat} {m v : Nat} (h : bgF F m v = true) : v < F 6 m := by
  have key : ∀ f p, bgc F m f p v = true → v < F 6 m := by
    intro f
    induction f with
    | zero => intro p h; cases h
    | succ f ih =>
      intro p h
      by_cases hp : p < F 6 m
      · rw [bgc_s hp] at h
        by_cases c : v = p
        · omega
        · rw [decide_eq_false c, Bool.false_or] at h
          exact ih _ h
      · rw [bgc_end (by omega)] at h
        cases h
  exact key 40 0 h

set_option maxRecDepth 100000 in
set_option maxHeartbeats 1000000 in
theorem k_giveTypes_lp {l : Launch} {G : fr_G} {σ : fr_S} {q : Nat} (hq : PB q) {e : Nat} (hE : ME e) (hRf : RF σ) {F : Nat → Nat → Nat} (hW : FW F) {m : Nat} (hm : m < 4) (hCP : CP σ q F) (hCm : CM σ e F m) (hLm : SLm σ e F m) {Post : Option Value → fr_S → Prop} (hp0 : ∀ r σ', (fun r0 σ' => r0 = none ∧ Agp (PSU e) σ σ' ∧ SUm σ' e (stG F m) (usG F m) (bgF F m)) r σ' → Post r σ') : ∀ (d : Nat) (u : Nat) (σ1 : fr_S), 40 - u < d → u ≤ 40 → Agp (PSU e) σ σ1 → SUm σ1 e (fun v => if v < u then stG F m v else stD F m v) (fun v => if v < u then usG F m v else usD F m v) (bgF F m) → PX l G yy_Pg_giveTypes rm_Pg_giveTypes (QR G false 742 0 0 Post) false 742 0 0 2 [(0, .ref (q)), (1, .ref (e)), (2, .int (nI (u)))] [] (σ1) := by
  intro d
  induction d with
  | zero => intro u σ1 hd; exact absurd hd (Nat.not_lt_zero _)
  | succ d ih =>
    intro u σ1 hd hu hA hS
    have kP := kd_P hq
    have kM := kd_M hE
    have h64 := hW.2.2.2.2.2.2.1 m
    have hR := hA.rfs hRf
    have hC : CM σ1 e F m := hCm.cg fun o k h => hA.1 o k fun z => by have := z.no; omega
    have hL : SLm σ1 e F m := hLm.cg (fun u _ => hA.1 _ _ fun z => by have := z.no; omega) (fun u _ k _ n7 n8 => hA.1 _ _ fun z => by have := z.no; omega)
    have hkb := kdO_b _ (opS_lt (F 7 (40 * m + u)))
    have hCP1 : CP σ1 q F := hCP.kk hq fun o k h => hA.1 o k fun z => z.kk hE h
    refine px_iload_n dx_Pg_giveTypes_2 rfl ?_
    refine px_aload_n dx_Pg_giveTypes_3 rfl ?_
    refine px_getI dx_Pg_giveTypes_4 fl_Pg_116 kM.1 (by omega) rfl ?_
    refine px_eqi (y := nI (F 6 m)) hC.2.2.2.2.1 ?_
    refine px_icmp_geN (a := u) (b := F 6 m) dx_Pg_giveTypes_7 (by omega) (by omega) (fun c_7 => ?_) (fun c_7 => ?_)
    · exact px_vret dx_Pg_giveTypes_67 rfl (by exact hp0 _ _ ⟨rfl, hA, fun v hv hb => (by have := hS v hv hb; have h6 : v < F 6 m := bgF_lt hb; obtain ⟨z1, z2⟩ := this; exact ⟨z1.trans (congrArg nI (if_pos (by omega))), z2.trans (congrArg nI (if_pos (by omega)))⟩)⟩)
    · refine px_aload_n dx_Pg_giveTypes_10 rfl ?_
      refine px_iload_n dx_Pg_giveTypes_11 rfl ?_
      by_cases q_12 : u < F 6 m ∧ bgF F m u = true
      · refine px_cV (Y := yy_Pg_giveTypes) (Yc := yy_Me_stepAt) (b := e) (As := [.int (nI (u))]) dx_Pg_giveTypes_12 ml_Pg_99 mv_Me_stepAt np_Me_stepAt ⟨_, rfl⟩ (by decide) kM.1 (by omega) rfl (Nat.le_of_ble_eq_true rfl) (Nat.le_of_ble_eq_true rfl) rk_Pg_giveTypes_Me_stepAt rfl (k_stepAt_N hE hR h64 hC.2.2.2.2.1 hL.1 q_12.1 q_12.2) zz_0 ?_
        refine px_astore_n (lv' := [(3, .ref (e + 5 + 2 * u)), (0, .ref (q)), (1, .ref (e)), (2, .int (nI (u)))]) dx_Pg_giveTypes_15 (by decide) rfl ?_
        have kS := kd_S (SE.s hE (show u < 40 by omega))
        refine px_aload_n dx_Pg_giveTypes_16 rfl ?_
        refine px_ifnull dx_Pg_giveTypes_17 ?_
        refine px_aload_n dx_Pg_giveTypes_20 rfl ?_
        refine px_getI dx_Pg_giveTypes_21 fl_Pg_103 kS.1 (by omega) rfl ?_
        refine px_eqi (y := nI (kdO (opS (F 7 (40 * m + u))))) (hL.2 u (by omega) q_12.2).1.2.1 ?_
        refine px_iconst (v := 5) dx_Pg_giveTypes_24 rfl ?_
        refine px_icmp_neN (a := kdO (opS (F 7 (40 * m + u)))) (b := 5) dx_Pg_giveTypes_25 (by omega) (by omega) (fun c_25 => ?_) (fun c_25 => ?_)
        · refine px_aload_n dx_Pg_giveTypes_41 rfl ?_
          refine px_ifnull dx_Pg_giveTypes_42 ?_
          refine px_aload_n dx_Pg_giveTypes_45 rfl ?_
          refine px_getI dx_Pg_giveTypes_46 fl_Pg_103 kS.1 (by omega) rfl ?_
          refine px_eqi (y := nI (kdO (opS (F 7 (40 * m + u))))) (hL.2 u (by omega) q_12.2).1.2.1 ?_
          refine px_iconst (v := 3) dx_Pg_giveTypes_49 rfl ?_
          refine px_icmp_neN (a := kdO (opS (F 7 (40 * m + u)))) (b := 3) dx_Pg_giveTypes_50 (by omega) (by omega) (fun c_50 => ?_) (fun c_50 => ?_)
          · refine px_iinc (v := (nI (u + 1))) (lv' := [(2, .int (nI (u + 1))), (3, .ref (e + 5 + 2 * u)), (0, .ref (q)), (1, .ref (e))]) dx_Pg_giveTypes_61 rfl (nI_1 _) (by decide) rfl ?_
            refine px_goto dx_Pg_giveTypes_64 ?_
            refine px_sub [2, 3, 0] rfl ?_
            have h40 : u < 40 := by omega
            obtain ⟨g1, g2⟩ := gt_step h40 hA hS Agp.rf (fun hb => (hS u h40 hb).1.trans (congrArg nI ((if_neg (Nat.lt_irrefl u)).trans (if_neg c_25).symm))) (fun hb => (hS u h40 hb).2.trans (congrArg nI ((if_neg (Nat.lt_irrefl u)).trans (if_neg c_50).symm)))
            exact ih (u + 1) _ (by omega) (by omega) g1 g2
          · refine px_aload_n dx_Pg_giveTypes_53 rfl ?_
            refine px_aload_n dx_Pg_giveTypes_54 rfl ?_
            refine px_getI dx_Pg_giveTypes_55 fl_Pg_113 kM.1 (by omega) rfl ?_
            refine px_eqi (y := nI (tt (F 2 m))) hC.1 ?_
            refine px_putI dx_Pg_giveTypes_58 fl_Pg_126 kS.1 (by omega) rfl ?_
            refine px_iinc (v := (nI (u + 1))) (lv' := [(2, .int (nI (u + 1))), (3, .ref (e + 5 + 2 * u)), (0, .ref (q)), (1, .ref (e))]) dx_Pg_giveTypes_61 rfl (nI_1 _) (by decide) rfl ?_
            refine px_goto dx_Pg_giveTypes_64 ?_
            refine px_sub [2, 3, 0] rfl ?_
            have h40 : u < 40 := by omega
            obtain ⟨g1, g2⟩ := gt_step h40 hA hS (Agp.rf.w ⟨rfl, by omega⟩) (fun hb => (gI_n (Or.inr (by decide))).trans ((hS u h40 hb).1.trans (congrArg nI ((if_neg (Nat.lt_irrefl u)).trans (if_neg (by omega)).symm)))) (fun _ => gI_s.trans (congrArg nI (if_pos c_50).symm))
            exact ih (u + 1) _ (by omega) (by omega) g1 g2
        · refine px_aload_n dx_Pg_giveTypes_28 rfl ?_
          refine px_aload_n dx_Pg_giveTypes_29 rfl ?_
          refine px_aload_n dx_Pg_giveTypes_30 rfl ?_
          refine px_aload_n dx_Pg_giveTypes_31 rfl ?_
          refine px_cV (Y := yy_Pg_giveTypes) (Yc := yy_Pg_returnedBefore) (b := q) (As := [.ref (e), .ref (e + 5 + 2 * u)]) dx_Pg_giveTypes_32 ml_Pg_119 mv_Pg_returnedBefore np_Pg_returnedBefore ⟨_, rfl⟩ (by decide) kP.1 (by omega) rfl (Nat.le_of_ble_eq_true rfl) (Nat.le_of_ble_eq_true rfl) rk_Pg_giveTypes_Pg_returnedBefore rfl (k_retB hq hE hR hW hm hCP1 hC hL (SE.s hE (show u < 40 by omega)) q_12.1 (hL.2 u (by omega) q_12.2).2.2) zz_0 ?_
          refine px_putI dx_Pg_giveTypes_35 fl_Pg_123 kS.1 (by omega) rfl ?_
          refine px_goto dx_Pg_giveTypes_38 ?_
          refine px_iinc (v := (nI (u + 1))) (lv' := [(2, .int (nI (u + 1))), (3, .ref (e + 5 + 2 * u)), (0, .ref (q)), (1, .ref (e))]) dx_Pg_giveTypes_61 rfl (nI_1 _) (by decide) rfl ?_
          refine px_goto dx_Pg_giveTypes_64 ?_
          refine px_sub [2, 3, 0] rfl ?_
          have h40 : u < 40 := by omega
          obtain ⟨g1, g2⟩ := gt_step h40 hA hS (Agp.rf.w ⟨rfl, by omega⟩) (fun _ => gI_s.trans (congrArg nI (if_pos c_25).symm)) (fun hb => (gI_n (Or.inr (by decide))).trans ((hS u h40 hb).2.trans (congrArg nI ((if_neg (Nat.lt_irrefl u)).trans (if_neg (by omega)).symm))))
          exact ih (u + 1) _ (by omega) (by omega) g1 g2
      · refine px_cV (Y := yy_Pg_giveTypes) (Yc := yy_Me_stepAt) (b := e) (As := [.int (nI (u))]) dx_Pg_giveTypes_12 ml_Pg_99 mv_Me_stepAt np_Me_stepAt ⟨_, rfl⟩ (by decide) kM.1 (by omega) rfl (Nat.le_of_ble_eq_true rfl) (Nat.le_of_ble_eq_true rfl) rk_Pg_giveTypes_Me_stepAt rfl (k_stepAt_n hE hR h64 hC.2.2.2.2.1 hL.1 (by omega) q_12) zz_0 ?_
        refine px_astore_nN (lv' := [(3, .null), (0, .ref (q)), (1, .ref (e)), (2, .int (nI (u)))]) dx_Pg_giveTypes_15 (by decide) rfl ?_
        have kS := kd_S (SE.s hE (show u < 40 by omega))
        refine px_aload_nN dx_Pg_giveTypes_16 rfl ?_
        refine px_ifnullN dx_Pg_giveTypes_17 ?_
        refine px_aload_nN dx_Pg_giveTypes_41 rfl ?_
        refine px_ifnullN dx_Pg_giveTypes_42 ?_
        refine px_iinc (v := (nI (u + 1))) (lv' := [(2, .int (nI (u + 1))), (3, .null), (0, .ref (q)), (1, .ref (e))]) dx_Pg_giveTypes_61 rfl (nI_1 _) (by decide) rfl ?_
        refine px_goto dx_Pg_giveTypes_64 ?_
        refine px_sub [2, 3, 0] rfl ?_
        have h40 : u < 40 := by omega
        obtain ⟨g1, g2⟩ := gt_step h40 hA hS Agp.rf (fun hb => absurd ⟨by omega, hb⟩ q_12) (fun hb => absurd ⟨by omega, hb⟩ q_12)
        exact ih (u + 1) _ (by omega) (by omega) g1 g2
set_option maxRecDepth 100000 in
set_option maxHeartbeats 1000000 in
theorem k_giveTypes {l : Launch} {G : fr_G} {σ : fr_S} {q : Nat} (hq : PB q) {e : Nat} (hE : ME e) (hRf : RF σ) {F : Nat → Nat → Nat} (hW : FW F) {m : Nat} (hm : m < 4) (hCP : CP σ q F) (hCm : CM σ e F m) (hLm : SLm σ e F m) (hS : SUm σ e (stD F m) (usD F m) (bgF F m)) : CR l G yy_Pg_giveTypes rm_Pg_giveTypes [.ref (q), .ref (e)] σ (fun r0 σ' => r0 = none ∧ Agp (PSU e) σ σ' ∧ SUm σ' e (stG F m) (usG F m) (bgF F m)) := by
  intro Post hp0
  show PX l G yy_Pg_giveTypes rm_Pg_giveTypes _ false 742 0 0 0 [(0, .ref (q)), (1, .ref (e))] [] σ
  refine px_iconst (v := 0) dx_Pg_giveTypes_0 rfl ?_
  refine px_istore_n (lv' := [(2, .int (0)), (0, .ref (q)), (1, .ref (e))]) dx_Pg_giveTypes_1 (by decide) rfl ?_
  refine px_sub [1, 2, 0] rfl ?_
  exact k_giveTypes_lp (σ := σ) hq hE hRf hW hm hCP hCm hLm hp0 41 0 σ (by omega) (by omega) Agp.rf hS
