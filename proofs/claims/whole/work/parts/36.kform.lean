/-! the class: the form of instructions -/
def owC (t a : Nat) : Bool := decide (¬ t = 0) && decide (wdc t = wdc a)
def rgC (rg x y r f : Nat) (g : Option Nat) : Bool := (decide (x = 0) || decide (r + wdc x ≤ rg)) && (decide (y = 0) || (decide (f + wdc y ≤ rg) && (match g with | none => true | some j => decide (j + wdc y ≤ rg))))
def dsN (op w w1 : Nat) : Option Nat := if kdO op ∈ [10] then some (opB w) else if kdO op ∈ [9] then some (opN w1) else none
theorem dSnd_e {op w w1 : Nat} : dSnd op w w1 = bfI (dsN op w w1) := by
  unfold dSnd dsN
  split
  · rfl
  · split <;> rfl

set_option maxRecDepth 100000 in
set_option maxHeartbeats 1000000 in
theorem k_isThere {l : Launch} {G : fr_G} {σ : fr_S} {e : Nat} (hE : ME e) {rg r w : Nat} (hrg : rg ≤ 10) (h7 : gI σ e 7 = nI rg) (hr : r < 100000) (hw : w ≤ 10) : CT l G yy_Fo_isThere rm_Fo_isThere [.ref (e), .int (nI (r)), .int (nI (w))] σ (some (.int (b2i (decide (r + w ≤ rg))))) (σ) := by
  intro Post hp0
  have hp := hp0
  show PX l G yy_Fo_isThere rm_Fo_isThere _ false 742 0 0 0 [(0, .ref (e)), (1, .int (nI (r))), (2, .int (nI (w)))] [] σ
  have kM := kd_M hE
  refine px_iload_n dx_Fo_isThere_0 rfl ?_
  refine px_if_ltN (a := r) dx_Fo_isThere_1 (by omega) (fun c_1 => ?_) (fun c_1 => ?_)
  · refine px_iconst (v := 0) dx_Fo_isThere_18 rfl ?_
    exact px_zret dx_Fo_isThere_19 rfl (by decide) (by (have e : decide (r + w ≤ rg) = false := decide_eq_false (by omega)); rw [e] at hp; exact hp)
  · refine px_iload_n dx_Fo_isThere_4 rfl ?_
    refine px_iload_n dx_Fo_isThere_5 rfl ?_
    refine px_iaddN (a := r) (b := w) dx_Fo_isThere_6 ?_
    refine px_aload_n dx_Fo_isThere_7 rfl ?_
    refine px_getI dx_Fo_isThere_8 fl_Fo_93 kM.1 (by omega) rfl ?_
    refine px_eqi (y := nI (rg)) h7 ?_
    refine px_icmp_gtN (a := r + w) (b := rg) dx_Fo_isThere_11 (by omega) (by omega) (fun c_11 => ?_) (fun c_11 => ?_)
    · refine px_iconst (v := 0) dx_Fo_isThere_18 rfl ?_
      exact px_zret dx_Fo_isThere_19 rfl (by decide) (by (have e : decide (r + w ≤ rg) = false := decide_eq_false (by omega)); rw [e] at hp; exact hp)
    · refine px_iconst (v := 1) dx_Fo_isThere_14 rfl ?_
      refine px_goto dx_Fo_isThere_15 ?_
      exact px_zret dx_Fo_isThere_19 rfl (by decide) (by (have e : decide (r + w ≤ rg) = true := decide_eq_true (by omega)); rw [e] at hp; exact hp)
set_option maxRecDepth 100000 in
set_option maxHeartbeats 1000000 in
theorem k_isOfWidth {l : Launch} {G : fr_G} {σ : fr_S} {t a : Nat} (ht : t < 256) (ha : a < 256) : CT l G yy_Fo_isOfWidth rm_Fo_isOfWidth [.int (nI (t)), .int (nI (a))] σ (some (.int (b2i (owC t a)))) (σ) := by
  intro Post hp0
  have hp := hp0
  show PX l G yy_Fo_isOfWidth rm_Fo_isOfWidth _ false 742 0 0 0 [(0, .int (nI (t))), (1, .int (nI (a)))] [] σ
  have hwt := wdc_b t
  have hwa := wdc_b a
  refine px_iload_n dx_Fo_isOfWidth_0 rfl ?_
  refine px_if_eqN (a := t) dx_Fo_isOfWidth_1 (by omega) (fun c_1 => ?_) (fun c_1 => ?_)
  · refine px_iconst (v := 0) dx_Fo_isOfWidth_19 rfl ?_
    exact px_zret dx_Fo_isOfWidth_20 rfl (by decide) (by (have e : owC t a = false := by (unfold owC; rw [decide_eq_false (fun z => z c_1)]; rfl)); rw [e] at hp; exact hp)
  · refine px_iload_n dx_Fo_isOfWidth_4 rfl ?_
    refine px_cS (Y := yy_Fo_isOfWidth) (Yc := yy_V_widthOf) (As := [.int (nI (t))]) dx_Fo_isOfWidth_5 ml_Fo_79 ms_V_widthOf np_V_widthOf rfl (Nat.le_of_ble_eq_true rfl) (Nat.le_of_ble_eq_true rfl) rk_Fo_isOfWidth_V_widthOf rfl (k_widthOf (x := t) (by omega)) zz_0 ?_
    refine px_iload_n dx_Fo_isOfWidth_8 rfl ?_
    refine px_cS (Y := yy_Fo_isOfWidth) (Yc := yy_V_widthOf) (As := [.int (nI (a))]) dx_Fo_isOfWidth_9 ml_Fo_79 ms_V_widthOf np_V_widthOf rfl (Nat.le_of_ble_eq_true rfl) (Nat.le_of_ble_eq_true rfl) rk_Fo_isOfWidth_V_widthOf rfl (k_widthOf (x := a) (by omega)) zz_0 ?_
    refine px_icmp_neN (a := wdc t) (b := wdc a) dx_Fo_isOfWidth_12 (by omega) (by omega) (fun c_12 => ?_) (fun c_12 => ?_)
    · refine px_iconst (v := 0) dx_Fo_isOfWidth_19 rfl ?_
      exact px_zret dx_Fo_isOfWidth_20 rfl (by decide) (by (have e : owC t a = false := by (unfold owC; rw [decide_eq_true c_1, decide_eq_false c_12]; rfl)); rw [e] at hp; exact hp)
    · refine px_iconst (v := 1) dx_Fo_isOfWidth_15 rfl ?_
      refine px_goto dx_Fo_isOfWidth_16 ?_
      exact px_zret dx_Fo_isOfWidth_20 rfl (by decide) (by (have e : owC t a = true := by (unfold owC; rw [decide_eq_true c_1, decide_eq_true c_12]; rfl)); rw [e] at hp; exact hp)
theorem nI_m1 {n : Nat} (h : n < 2 ^ 31) : ¬ nI n = -1 := fun e => by
  have := nI_pos h
  rw [e] at this
  exact this (by decide)

set_option maxRecDepth 100000 in
set_option maxHeartbeats 1000000 in
theorem k_regs_n {l : Launch} {G : fr_G} {σ : fr_S} {e : Nat} (hE : ME e) {s : Nat} (hS : SE s) {rg x y r f : Nat} (hrg : rg ≤ 10) (h7 : gI σ e 7 = nI rg) (hx : x < 256) (hy : y < 256) (hr : r < 1000) (hf : f < 1000) (hx7 : gI σ s 7 = nI x) (hx8 : gI σ s 8 = nI y) (hx9 : gI σ s 9 = nI r) (hx10 : gI σ s 10 = nI f) (h11 : gI σ s 11 = -1) : CT l G yy_Fo_registersAreThere rm_Fo_registersAreThere [.ref (e), .ref (s)] σ (some (.int (b2i (rgC rg x y r f none)))) (σ) := by
  intro Post hp0
  have hp := hp0
  show PX l G yy_Fo_registersAreThere rm_Fo_registersAreThere _ false 742 0 0 0 [(0, .ref (e)), (1, .ref (s))] [] σ
  have kM := kd_M hE
  have kS := kd_S hS
  have hwx := wdc_b x
  have hwy := wdc_b y
  refine px_aload_n dx_Fo_registersAreThere_0 rfl ?_
  refine px_getI dx_Fo_registersAreThere_1 fl_Fo_63 kS.1 (by omega) rfl ?_
  refine px_eqi (y := nI (x)) hx7 ?_
  refine px_if_eqN (a := x) dx_Fo_registersAreThere_4 (by omega) (fun c_4 => ?_) (fun c_4 => ?_)
  · refine px_aload_n dx_Fo_registersAreThere_27 rfl ?_
    refine px_getI dx_Fo_registersAreThere_28 fl_Fo_73 kS.1 (by omega) rfl ?_
    refine px_eqi (y := nI (y)) hx8 ?_
    refine px_if_neN (a := y) dx_Fo_registersAreThere_31 (by omega) (fun c_31 => ?_) (fun c_31 => ?_)
    · refine px_aload_n dx_Fo_registersAreThere_36 rfl ?_
      refine px_getI dx_Fo_registersAreThere_37 fl_Fo_73 kS.1 (by omega) rfl ?_
      refine px_eqi (y := nI (y)) hx8 ?_
      refine px_cS (Y := yy_Fo_registersAreThere) (Yc := yy_V_widthOf) (As := [.int (nI (y))]) dx_Fo_registersAreThere_40 ml_Fo_79 ms_V_widthOf np_V_widthOf rfl (Nat.le_of_ble_eq_true rfl) (Nat.le_of_ble_eq_true rfl) rk_Fo_registersAreThere_V_widthOf rfl (k_widthOf (x := y) (by omega)) zz_0 ?_
      refine px_istore_n (lv' := [(2, .int (nI (wdc y))), (0, .ref (e)), (1, .ref (s))]) dx_Fo_registersAreThere_43 (by decide) rfl ?_
      refine px_aload_n dx_Fo_registersAreThere_44 rfl ?_
      refine px_aload_n dx_Fo_registersAreThere_45 rfl ?_
      refine px_getI dx_Fo_registersAreThere_46 fl_Fo_87 kS.1 (by omega) rfl ?_
      refine px_eqi (y := nI (f)) hx10 ?_
      refine px_iload_n dx_Fo_registersAreThere_49 rfl ?_
      refine px_cS (Y := yy_Fo_registersAreThere) (Yc := yy_Fo_isThere) (As := [.ref (e), .int (nI (f)), .int (nI (wdc y))]) dx_Fo_registersAreThere_50 ml_Fo_83 ms_Fo_isThere np_Fo_isThere rfl (Nat.le_of_ble_eq_true rfl) (Nat.le_of_ble_eq_true rfl) rk_Fo_registersAreThere_Fo_isThere rfl (k_isThere (r := f) (w := wdc y) hE hrg h7 (by omega) (by omega)) zz_0 ?_
      refine px_if_eqB dx_Fo_registersAreThere_53 (fun c_53 => ?_) (fun c_53 => ?_)
      · refine px_iconst (v := 0) dx_Fo_registersAreThere_80 rfl ?_
        exact px_zret dx_Fo_registersAreThere_81 rfl (by decide) (by (have e : rgC rg x y r f none = false := by (unfold rgC; rw [decide_eq_true c_4, Bool.true_or, Bool.true_and]; rw [decide_eq_false c_31, Bool.false_or, c_53, Bool.false_and])); rw [e] at hp; exact hp)
      · refine px_aload_n dx_Fo_registersAreThere_56 rfl ?_
        refine px_getI dx_Fo_registersAreThere_57 fl_Fo_90 kS.1 (by omega) rfl ?_
        refine px_eqi (y := -1) h11 ?_
        refine px_iconst (v := -1) dx_Fo_registersAreThere_60 rfl ?_
        refine px_icmp_eq dx_Fo_registersAreThere_61 (fun _ => ?_) (fun q => absurd (by decide) q)
        refine px_iconst (v := 1) dx_Fo_registersAreThere_76 rfl ?_
        refine px_goto dx_Fo_registersAreThere_77 ?_
        exact px_zret dx_Fo_registersAreThere_81 rfl (by decide) (by (have e : rgC rg x y r f none = true := by (unfold rgC; rw [decide_eq_true c_4, Bool.true_or, Bool.true_and]; rw [decide_eq_false c_31, Bool.false_or, c_53, Bool.true_and])); rw [e] at hp; exact hp)
    · refine px_iconst (v := 1) dx_Fo_registersAreThere_34 rfl ?_
      exact px_zret dx_Fo_registersAreThere_35 rfl (by decide) (by (have e : rgC rg x y r f none = true := by (unfold rgC; rw [decide_eq_true c_4, Bool.true_or, Bool.true_and]; rw [decide_eq_true c_31, Bool.true_or])); rw [e] at hp; exact hp)
  · refine px_aload_n dx_Fo_registersAreThere_7 rfl ?_
    refine px_aload_n dx_Fo_registersAreThere_8 rfl ?_
    refine px_getI dx_Fo_registersAreThere_9 fl_Fo_76 kS.1 (by omega) rfl ?_
    refine px_eqi (y := nI (r)) hx9 ?_
    refine px_aload_n dx_Fo_registersAreThere_12 rfl ?_
    refine px_getI dx_Fo_registersAreThere_13 fl_Fo_63 kS.1 (by omega) rfl ?_
    refine px_eqi (y := nI (x)) hx7 ?_
    refine px_cS (Y := yy_Fo_registersAreThere) (Yc := yy_V_widthOf) (As := [.int (nI (x))]) dx_Fo_registersAreThere_16 ml_Fo_79 ms_V_widthOf np_V_widthOf rfl (Nat.le_of_ble_eq_true rfl) (Nat.le_of_ble_eq_true rfl) rk_Fo_registersAreThere_V_widthOf rfl (k_widthOf (x := x) (by omega)) zz_0 ?_
    refine px_cS (Y := yy_Fo_registersAreThere) (Yc := yy_Fo_isThere) (As := [.ref (e), .int (nI (r)), .int (nI (wdc x))]) dx_Fo_registersAreThere_19 ml_Fo_83 ms_Fo_isThere np_Fo_isThere rfl (Nat.le_of_ble_eq_true rfl) (Nat.le_of_ble_eq_true rfl) rk_Fo_registersAreThere_Fo_isThere rfl (k_isThere (r := r) (w := wdc x) hE hrg h7 (by omega) (by omega)) zz_0 ?_
    refine px_if_neB dx_Fo_registersAreThere_22 (fun c_22 => ?_) (fun c_22 => ?_)
    · refine px_aload_n dx_Fo_registersAreThere_27 rfl ?_
      refine px_getI dx_Fo_registersAreThere_28 fl_Fo_73 kS.1 (by omega) rfl ?_
      refine px_eqi (y := nI (y)) hx8 ?_
      refine px_if_neN (a := y) dx_Fo_registersAreThere_31 (by omega) (fun c_31 => ?_) (fun c_31 => ?_)
      · refine px_aload_n dx_Fo_registersAreThere_36 rfl ?_
        refine px_getI dx_Fo_registersAreThere_37 fl_Fo_73 kS.1 (by omega) rfl ?_
        refine px_eqi (y := nI (y)) hx8 ?_
        refine px_cS (Y := yy_Fo_registersAreThere) (Yc := yy_V_widthOf) (As := [.int (nI (y))]) dx_Fo_registersAreThere_40 ml_Fo_79 ms_V_widthOf np_V_widthOf rfl (Nat.le_of_ble_eq_true rfl) (Nat.le_of_ble_eq_true rfl) rk_Fo_registersAreThere_V_widthOf rfl (k_widthOf (x := y) (by omega)) zz_0 ?_
        refine px_istore_n (lv' := [(2, .int (nI (wdc y))), (0, .ref (e)), (1, .ref (s))]) dx_Fo_registersAreThere_43 (by decide) rfl ?_
        refine px_aload_n dx_Fo_registersAreThere_44 rfl ?_
        refine px_aload_n dx_Fo_registersAreThere_45 rfl ?_
        refine px_getI dx_Fo_registersAreThere_46 fl_Fo_87 kS.1 (by omega) rfl ?_
        refine px_eqi (y := nI (f)) hx10 ?_
        refine px_iload_n dx_Fo_registersAreThere_49 rfl ?_
        refine px_cS (Y := yy_Fo_registersAreThere) (Yc := yy_Fo_isThere) (As := [.ref (e), .int (nI (f)), .int (nI (wdc y))]) dx_Fo_registersAreThere_50 ml_Fo_83 ms_Fo_isThere np_Fo_isThere rfl (Nat.le_of_ble_eq_true rfl) (Nat.le_of_ble_eq_true rfl) rk_Fo_registersAreThere_Fo_isThere rfl (k_isThere (r := f) (w := wdc y) hE hrg h7 (by omega) (by omega)) zz_0 ?_
        refine px_if_eqB dx_Fo_registersAreThere_53 (fun c_53 => ?_) (fun c_53 => ?_)
        · refine px_iconst (v := 0) dx_Fo_registersAreThere_80 rfl ?_
          exact px_zret dx_Fo_registersAreThere_81 rfl (by decide) (by (have e : rgC rg x y r f none = false := by (unfold rgC; rw [decide_eq_false c_4, c_22, Bool.false_or, Bool.true_and]; rw [decide_eq_false c_31, Bool.false_or, c_53, Bool.false_and])); rw [e] at hp; exact hp)
        · refine px_aload_n dx_Fo_registersAreThere_56 rfl ?_
          refine px_getI dx_Fo_registersAreThere_57 fl_Fo_90 kS.1 (by omega) rfl ?_
          refine px_eqi (y := -1) h11 ?_
          refine px_iconst (v := -1) dx_Fo_registersAreThere_60 rfl ?_
          refine px_icmp_eq dx_Fo_registersAreThere_61 (fun _ => ?_) (fun q => absurd (by decide) q)
          refine px_iconst (v := 1) dx_Fo_registersAreThere_76 rfl ?_
          refine px_goto dx_Fo_registersAreThere_77 ?_
          exact px_zret dx_Fo_registersAreThere_81 rfl (by decide) (by (have e : rgC rg x y r f none = true := by (unfold rgC; rw [decide_eq_false c_4, c_22, Bool.false_or, Bool.true_and]; rw [decide_eq_false c_31, Bool.false_or, c_53, Bool.true_and])); rw [e] at hp; exact hp)
      · refine px_iconst (v := 1) dx_Fo_registersAreThere_34 rfl ?_
        exact px_zret dx_Fo_registersAreThere_35 rfl (by decide) (by (have e : rgC rg x y r f none = true := by (unfold rgC; rw [decide_eq_false c_4, c_22, Bool.false_or, Bool.true_and]; rw [decide_eq_true c_31, Bool.true_or])); rw [e] at hp; exact hp)
    · refine px_iconst (v := 0) dx_Fo_registersAreThere_25 rfl ?_
      exact px_zret dx_Fo_registersAreThere_26 rfl (by decide) (by (have e : rgC rg x y r f none = false := by (unfold rgC; rw [decide_eq_false c_4, c_22, Bool.false_or, Bool.false_and])); rw [e] at hp; exact hp)
set_option maxRecDepth 100000 in
set_option maxHeartbeats 1000000 in
theorem k_regs_s {l : Launch} {G : fr_G} {σ : fr_S} {e : Nat} (hE : ME e) {s : Nat} (hS : SE s) {rg x y r f g : Nat} (hrg : rg ≤ 10) (h7 : gI σ e 7 = nI rg) (hx : x < 256) (hy : y < 256) (hr : r < 1000) (hf : f < 1000) (hg : g < 1000) (hx7 : gI σ s 7 = nI x) (hx8 : gI σ s 8 = nI y) (hx9 : gI σ s 9 = nI r) (hx10 : gI σ s 10 = nI f) (h11 : gI σ s 11 = nI g) : CT l G yy_Fo_registersAreThere rm_Fo_registersAreThere [.ref (e), .ref (s)] σ (some (.int (b2i (rgC rg x y r f (some g))))) (σ) := by
  intro Post hp0
  have hp := hp0
  show PX l G yy_Fo_registersAreThere rm_Fo_registersAreThere _ false 742 0 0 0 [(0, .ref (e)), (1, .ref (s))] [] σ
  have kM := kd_M hE
  have kS := kd_S hS
  have hwx := wdc_b x
  have hwy := wdc_b y
  refine px_aload_n dx_Fo_registersAreThere_0 rfl ?_
  refine px_getI dx_Fo_registersAreThere_1 fl_Fo_63 kS.1 (by omega) rfl ?_
  refine px_eqi (y := nI (x)) hx7 ?_
  refine px_if_eqN (a := x) dx_Fo_registersAreThere_4 (by omega) (fun c_4 => ?_) (fun c_4 => ?_)
  · refine px_aload_n dx_Fo_registersAreThere_27 rfl ?_
    refine px_getI dx_Fo_registersAreThere_28 fl_Fo_73 kS.1 (by omega) rfl ?_
    refine px_eqi (y := nI (y)) hx8 ?_
    refine px_if_neN (a := y) dx_Fo_registersAreThere_31 (by omega) (fun c_31 => ?_) (fun c_31 => ?_)
    · refine px_aload_n dx_Fo_registersAreThere_36 rfl ?_
      refine px_getI dx_Fo_registersAreThere_37 fl_Fo_73 kS.1 (by omega) rfl ?_
      refine px_eqi (y := nI (y)) hx8 ?_
      refine px_cS (Y := yy_Fo_registersAreThere) (Yc := yy_V_widthOf) (As := [.int (nI (y))]) dx_Fo_registersAreThere_40 ml_Fo_79 ms_V_widthOf np_V_widthOf rfl (Nat.le_of_ble_eq_true rfl) (Nat.le_of_ble_eq_true rfl) rk_Fo_registersAreThere_V_widthOf rfl (k_widthOf (x := y) (by omega)) zz_0 ?_
      refine px_istore_n (lv' := [(2, .int (nI (wdc y))), (0, .ref (e)), (1, .ref (s))]) dx_Fo_registersAreThere_43 (by decide) rfl ?_
      refine px_aload_n dx_Fo_registersAreThere_44 rfl ?_
      refine px_aload_n dx_Fo_registersAreThere_45 rfl ?_
      refine px_getI dx_Fo_registersAreThere_46 fl_Fo_87 kS.1 (by omega) rfl ?_
      refine px_eqi (y := nI (f)) hx10 ?_
      refine px_iload_n dx_Fo_registersAreThere_49 rfl ?_
      refine px_cS (Y := yy_Fo_registersAreThere) (Yc := yy_Fo_isThere) (As := [.ref (e), .int (nI (f)), .int (nI (wdc y))]) dx_Fo_registersAreThere_50 ml_Fo_83 ms_Fo_isThere np_Fo_isThere rfl (Nat.le_of_ble_eq_true rfl) (Nat.le_of_ble_eq_true rfl) rk_Fo_registersAreThere_Fo_isThere rfl (k_isThere (r := f) (w := wdc y) hE hrg h7 (by omega) (by omega)) zz_0 ?_
      refine px_if_eqB dx_Fo_registersAreThere_53 (fun c_53 => ?_) (fun c_53 => ?_)
      · refine px_iconst (v := 0) dx_Fo_registersAreThere_80 rfl ?_
        exact px_zret dx_Fo_registersAreThere_81 rfl (by decide) (by (have e : rgC rg x y r f (some g) = false := by (unfold rgC; rw [decide_eq_true c_4, Bool.true_or, Bool.true_and]; rw [decide_eq_false c_31, Bool.false_or, c_53, Bool.false_and])); rw [e] at hp; exact hp)
      · refine px_aload_n dx_Fo_registersAreThere_56 rfl ?_
        refine px_getI dx_Fo_registersAreThere_57 fl_Fo_90 kS.1 (by omega) rfl ?_
        refine px_eqi (y := nI (g)) h11 ?_
        refine px_iconst (v := -1) dx_Fo_registersAreThere_60 rfl ?_
        refine px_icmp_eq dx_Fo_registersAreThere_61 (fun c_61 => ?_) (fun c_61 => ?_)
        · exact absurd c_61 (nI_m1 (by omega))
        · refine px_aload_n dx_Fo_registersAreThere_64 rfl ?_
          refine px_aload_n dx_Fo_registersAreThere_65 rfl ?_
          refine px_getI dx_Fo_registersAreThere_66 fl_Fo_90 kS.1 (by omega) rfl ?_
          refine px_eqi (y := nI (g)) h11 ?_
          refine px_iload_n dx_Fo_registersAreThere_69 rfl ?_
          refine px_cS (Y := yy_Fo_registersAreThere) (Yc := yy_Fo_isThere) (As := [.ref (e), .int (nI (g)), .int (nI (wdc y))]) dx_Fo_registersAreThere_70 ml_Fo_83 ms_Fo_isThere np_Fo_isThere rfl (Nat.le_of_ble_eq_true rfl) (Nat.le_of_ble_eq_true rfl) rk_Fo_registersAreThere_Fo_isThere rfl (k_isThere (r := g) (w := wdc y) hE hrg h7 (by omega) (by omega)) zz_0 ?_
          refine px_if_eqB dx_Fo_registersAreThere_73 (fun c_73 => ?_) (fun c_73 => ?_)
          · refine px_iconst (v := 0) dx_Fo_registersAreThere_80 rfl ?_
            exact px_zret dx_Fo_registersAreThere_81 rfl (by decide) (by (have e : rgC rg x y r f (some g) = false := by (unfold rgC; rw [decide_eq_true c_4, Bool.true_or, Bool.true_and]; rw [decide_eq_false c_31, Bool.false_or, c_53, Bool.true_and]; exact c_73)); rw [e] at hp; exact hp)
          · refine px_iconst (v := 1) dx_Fo_registersAreThere_76 rfl ?_
            refine px_goto dx_Fo_registersAreThere_77 ?_
            exact px_zret dx_Fo_registersAreThere_81 rfl (by decide) (by (have e : rgC rg x y r f (some g) = true := by (unfold rgC; rw [decide_eq_true c_4, Bool.true_or, Bool.true_and]; rw [decide_eq_false c_31, Bool.false_or, c_53, Bool.true_and]; exact c_73)); rw [e] at hp; exact hp)
    · refine px_iconst (v := 1) dx_Fo_registersAreThere_34 rfl ?_
      exact px_zret dx_Fo_registersAreThere_35 rfl (by decide) (by (have e : rgC rg x y r f (some g) = true := by (unfold rgC; rw [decide_eq_true c_4, Bool.true_or, Bool.true_and]; rw [decide_eq_true c_31, Bool.true_or])); rw [e] at hp; exact hp)
  · refine px_aload_n dx_Fo_registersAreThere_7 rfl ?_
    refine px_aload_n dx_Fo_registersAreThere_8 rfl ?_
    refine px_getI dx_Fo_registersAreThere_9 fl_Fo_76 kS.1 (by omega) rfl ?_
    refine px_eqi (y := nI (r)) hx9 ?_
    refine px_aload_n dx_Fo_registersAreThere_12 rfl ?_
    refine px_getI dx_Fo_registersAreThere_13 fl_Fo_63 kS.1 (by omega) rfl ?_
    refine px_eqi (y := nI (x)) hx7 ?_
    refine px_cS (Y := yy_Fo_registersAreThere) (Yc := yy_V_widthOf) (As := [.int (nI (x))]) dx_Fo_registersAreThere_16 ml_Fo_79 ms_V_widthOf np_V_widthOf rfl (Nat.le_of_ble_eq_true rfl) (Nat.le_of_ble_eq_true rfl) rk_Fo_registersAreThere_V_widthOf rfl (k_widthOf (x := x) (by omega)) zz_0 ?_
    refine px_cS (Y := yy_Fo_registersAreThere) (Yc := yy_Fo_isThere) (As := [.ref (e), .int (nI (r)), .int (nI (wdc x))]) dx_Fo_registersAreThere_19 ml_Fo_83 ms_Fo_isThere np_Fo_isThere rfl (Nat.le_of_ble_eq_true rfl) (Nat.le_of_ble_eq_true rfl) rk_Fo_registersAreThere_Fo_isThere rfl (k_isThere (r := r) (w := wdc x) hE hrg h7 (by omega) (by omega)) zz_0 ?_
    refine px_if_neB dx_Fo_registersAreThere_22 (fun c_22 => ?_) (fun c_22 => ?_)
    · refine px_aload_n dx_Fo_registersAreThere_27 rfl ?_
      refine px_getI dx_Fo_registersAreThere_28 fl_Fo_73 kS.1 (by omega) rfl ?_
      refine px_eqi (y := nI (y)) hx8 ?_
      refine px_if_neN (a := y) dx_Fo_registersAreThere_31 (by omega) (fun c_31 => ?_) (fun c_31 => ?_)
      · refine px_aload_n dx_Fo_registersAreThere_36 rfl ?_
        refine px_getI dx_Fo_registersAreThere_37 fl_Fo_73 kS.1 (by omega) rfl ?_
        refine px_eqi (y := nI (y)) hx8 ?_
        refine px_cS (Y := yy_Fo_registersAreThere) (Yc := yy_V_widthOf) (As := [.int (nI (y))]) dx_Fo_registersAreThere_40 ml_Fo_79 ms_V_widthOf np_V_widthOf rfl (Nat.le_of_ble_eq_true rfl) (Nat.le_of_ble_eq_true rfl) rk_Fo_registersAreThere_V_widthOf rfl (k_widthOf (x := y) (by omega)) zz_0 ?_
        refine px_istore_n (lv' := [(2, .int (nI (wdc y))), (0, .ref (e)), (1, .ref (s))]) dx_Fo_registersAreThere_43 (by decide) rfl ?_
        refine px_aload_n dx_Fo_registersAreThere_44 rfl ?_
        refine px_aload_n dx_Fo_registersAreThere_45 rfl ?_
        refine px_getI dx_Fo_registersAreThere_46 fl_Fo_87 kS.1 (by omega) rfl ?_
        refine px_eqi (y := nI (f)) hx10 ?_
        refine px_iload_n dx_Fo_registersAreThere_49 rfl ?_
        refine px_cS (Y := yy_Fo_registersAreThere) (Yc := yy_Fo_isThere) (As := [.ref (e), .int (nI (f)), .int (nI (wdc y))]) dx_Fo_registersAreThere_50 ml_Fo_83 ms_Fo_isThere np_Fo_isThere rfl (Nat.le_of_ble_eq_true rfl) (Nat.le_of_ble_eq_true rfl) rk_Fo_registersAreThere_Fo_isThere rfl (k_isThere (r := f) (w := wdc y) hE hrg h7 (by omega) (by omega)) zz_0 ?_
        refine px_if_eqB dx_Fo_registersAreThere_53 (fun c_53 => ?_) (fun c_53 => ?_)
        · refine px_iconst (v := 0) dx_Fo_registersAreThere_80 rfl ?_
          exact px_zret dx_Fo_registersAreThere_81 rfl (by decide) (by (have e : rgC rg x y r f (some g) = false := by (unfold rgC; rw [decide_eq_false c_4, c_22, Bool.false_or, Bool.true_and]; rw [decide_eq_false c_31, Bool.false_or, c_53, Bool.false_and])); rw [e] at hp; exact hp)
        · refine px_aload_n dx_Fo_registersAreThere_56 rfl ?_
          refine px_getI dx_Fo_registersAreThere_57 fl_Fo_90 kS.1 (by omega) rfl ?_
          refine px_eqi (y := nI (g)) h11 ?_
          refine px_iconst (v := -1) dx_Fo_registersAreThere_60 rfl ?_
          refine px_icmp_eq dx_Fo_registersAreThere_61 (fun c_61 => ?_) (fun c_61 => ?_)
          · exact absurd c_61 (nI_m1 (by omega))
          · refine px_aload_n dx_Fo_registersAreThere_64 rfl ?_
            refine px_aload_n dx_Fo_registersAreThere_65 rfl ?_
            refine px_getI dx_Fo_registersAreThere_66 fl_Fo_90 kS.1 (by omega) rfl ?_
            refine px_eqi (y := nI (g)) h11 ?_
            refine px_iload_n dx_Fo_registersAreThere_69 rfl ?_
            refine px_cS (Y := yy_Fo_registersAreThere) (Yc := yy_Fo_isThere) (As := [.ref (e), .int (nI (g)), .int (nI (wdc y))]) dx_Fo_registersAreThere_70 ml_Fo_83 ms_Fo_isThere np_Fo_isThere rfl (Nat.le_of_ble_eq_true rfl) (Nat.le_of_ble_eq_true rfl) rk_Fo_registersAreThere_Fo_isThere rfl (k_isThere (r := g) (w := wdc y) hE hrg h7 (by omega) (by omega)) zz_0 ?_
            refine px_if_eqB dx_Fo_registersAreThere_73 (fun c_73 => ?_) (fun c_73 => ?_)
            · refine px_iconst (v := 0) dx_Fo_registersAreThere_80 rfl ?_
              exact px_zret dx_Fo_registersAreThere_81 rfl (by decide) (by (have e : rgC rg x y r f (some g) = false := by (unfold rgC; rw [decide_eq_false c_4, c_22, Bool.false_or, Bool.true_and]; rw [decide_eq_false c_31, Bool.false_or, c_53, Bool.true_and]; exact c_73)); rw [e] at hp; exact hp)
            · refine px_iconst (v := 1) dx_Fo_registersAreThere_76 rfl ?_
              refine px_goto dx_Fo_registersAreThere_77 ?_
              exact px_zret dx_Fo_registersAreThere_81 rfl (by decide) (by (have e : rgC rg x y r f (some g) = true := by (unfold rgC; rw [decide_eq_false c_4, c_22, Bool.false_or, Bool.true_and]; rw [decide_eq_false c_31, Bool.false_or, c_53, Bool.true_and]; exact c_73)); rw [e] at hp; exact hp)
      · refine px_iconst (v := 1) dx_Fo_registersAreThere_34 rfl ?_
        exact px_zret dx_Fo_registersAreThere_35 rfl (by decide) (by (have e : rgC rg x y r f (some g) = true := by (unfold rgC; rw [decide_eq_false c_4, c_22, Bool.false_or, Bool.true_and]; rw [decide_eq_true c_31, Bool.true_or])); rw [e] at hp; exact hp)
    · refine px_iconst (v := 0) dx_Fo_registersAreThere_25 rfl ?_
      exact px_zret dx_Fo_registersAreThere_26 rfl (by decide) (by (have e : rgC rg x y r f (some g) = false := by (unfold rgC; rw [decide_eq_false c_4, c_22, Bool.false_or, Bool.false_and])); rw [e] at hp; exact hp)
def goC (F : Nat → Nat → Nat) (m u k sz : Nat) (x : Int32) : Bool := (!gbK k || (decide (u + sz < F 6 m ∧ bgF F m (u + sz) = true) && (decide (k = 14) || !decide (kdO (opS (F 7 (40 * m + (u + sz)))) = 5)))) && (!brK k || (sA (bgF F m) (F 6 m) x && !decide (kdO (opS (F 7 (40 * m + x.toNatClampNeg))) = 5)))
theorem kdO_5 : ∀ op, op < 256 → (kdO op = 5 ↔ (op = 10 ∨ op = 11)) := by decide +kernel
theorem kdO_lt (w : Nat) : kdO (opS w) < 256 := Nat.lt_of_le_of_lt (kdO_b _ (opS_lt w)).1 (by decide)

theorem sA_p {Bg : Nat → Bool} {n : Nat} {x : Int32} (h : sA Bg n x = true) : x.toNatClampNeg < n ∧ Bg x.toNatClampNeg = true := by
  simp only [sA, Bool.and_eq_true, decide_eq_true_eq] at h
  exact h.2

set_option maxRecDepth 100000 in
set_option maxHeartbeats 1000000 in
theorem k_goesOn {l : Launch} {G : fr_G} {σ : fr_S} {e : Nat} (hE : ME e) {F : Nat → Nat → Nat} (hW : FW F) {m : Nat} (hm : m < 4) (hR : RF σ) (hC : CM σ e F m) (hL : SLm σ e F m) {s : Nat} (hS : SE s) {u k sz : Nat} {x0 : Int32} (hu : u < 40) (hk : k < 256) (hsz : sz ≤ 3) (h3 : gI σ s 3 = nI k) (h4 : gI σ s 4 = nI sz) (h12 : gI σ s 12 = x0) : CT l G yy_Fo_goesOnRightly rm_Fo_goesOnRightly [.ref (e), .int (nI (u)), .ref (s)] σ (some (.int (b2i (goC F m u k sz (nI u + x0))))) (σ) := by
  intro Post hp0
  have hp := hp0
  show PX l G yy_Fo_goesOnRightly rm_Fo_goesOnRightly _ false 742 0 0 0 [(0, .ref (e)), (1, .int (nI (u))), (2, .ref (s))] [] σ
  have kM := kd_M hE
  have kS := kd_S hS
  have h64 := hW.2.2.2.2.2.2.1 m
  have hkk := kdO_lt
  have h40 : ∀ j, j < F 6 m ∧ bgF F m j = true → j < 40 := fun j h => by omega
  have h742 : ∀ j, j < F 6 m ∧ bgF F m j = true → e + 5 + 2 * j < 742 := fun j h => by omega
  have h3o : ∀ j, j < F 6 m ∧ bgF F m j = true → gI σ (e + 5 + 2 * j) 3 = nI (kdO (opS (F 7 (40 * m + j)))) := fun j h => (hL.2 j (by omega) h.2).1.2.1
  refine px_aload_n dx_Fo_goesOnRightly_0 rfl ?_
  refine px_cV (Y := yy_Fo_goesOnRightly) (Yc := yy_St_goesOnBehind) (b := s) (As := []) dx_Fo_goesOnRightly_1 ml_Fo_96 mv_St_goesOnBehind np_St_goesOnBehind ⟨_, rfl⟩ (by decide) kS.1 (by omega) rfl (Nat.le_of_ble_eq_true rfl) (Nat.le_of_ble_eq_true rfl) rk_Fo_goesOnRightly_St_goesOnBehind rfl (k_goes hS hk h3) zz_0 ?_
  refine px_if_eqB dx_Fo_goesOnRightly_4 (fun c_4 => ?_) (fun c_4 => ?_)
  · refine px_aload_n dx_Fo_goesOnRightly_41 rfl ?_
    refine px_cV (Y := yy_Fo_goesOnRightly) (Yc := yy_St_branches) (b := s) (As := []) dx_Fo_goesOnRightly_42 ml_Fo_103 mv_St_branches np_St_branches ⟨_, rfl⟩ (by decide) kS.1 (by omega) rfl (Nat.le_of_ble_eq_true rfl) (Nat.le_of_ble_eq_true rfl) rk_Fo_goesOnRightly_St_branches rfl (k_branches hS hk h3) zz_0 ?_
    refine px_if_neB dx_Fo_goesOnRightly_45 (fun c_45 => ?_) (fun c_45 => ?_)
    · refine px_aload_n dx_Fo_goesOnRightly_50 rfl ?_
      refine px_iload_n dx_Fo_goesOnRightly_51 rfl ?_
      refine px_aload_n dx_Fo_goesOnRightly_52 rfl ?_
      refine px_getI dx_Fo_goesOnRightly_53 fl_Fo_42 kS.1 (by omega) rfl ?_
      refine px_eqi (y := x0) h12 ?_
      refine px_iadd dx_Fo_goesOnRightly_56 ?_
      by_cases q_57 : sA (bgF F m) (F 6 m) ((nI (u)) + x0) = true
      · refine px_cV (Y := yy_Fo_goesOnRightly) (Yc := yy_Me_stepAt) (b := e) (As := [.int ((nI (u)) + x0)]) dx_Fo_goesOnRightly_57 ml_Fo_15 mv_Me_stepAt np_Me_stepAt ⟨_, rfl⟩ (by decide) kM.1 (by omega) rfl (Nat.le_of_ble_eq_true rfl) (Nat.le_of_ble_eq_true rfl) rk_Fo_goesOnRightly_Me_stepAt rfl (k_stepAt_t hE hR h64 hC.2.2.2.2.1 hL.1 q_57) zz_0 ?_
        refine px_astore_n (lv' := [(3, .ref (e + 5 + 2 * ((nI (u)) + x0).toNatClampNeg)), (0, .ref (e)), (1, .int (nI (u))), (2, .ref (s))]) dx_Fo_goesOnRightly_60 (by decide) rfl ?_
        refine px_aload_n dx_Fo_goesOnRightly_61 rfl ?_
        refine px_ifnull dx_Fo_goesOnRightly_62 ?_
        refine px_aload_n dx_Fo_goesOnRightly_65 rfl ?_
        refine px_getI dx_Fo_goesOnRightly_66 fl_Fo_39 (kd_S (SE.s hE (h40 ((nI (u)) + x0).toNatClampNeg (sA_p q_57)))).1 (h742 ((nI (u)) + x0).toNatClampNeg (sA_p q_57)) rfl ?_
        refine px_eqi (y := nI (kdO (opS (F 7 (40 * m + ((nI (u)) + x0).toNatClampNeg))))) (h3o ((nI (u)) + x0).toNatClampNeg (sA_p q_57)) ?_
        refine px_iconst (v := 5) dx_Fo_goesOnRightly_69 rfl ?_
        refine px_icmp_eqN (a := kdO (opS (F 7 (40 * m + ((nI (u)) + x0).toNatClampNeg)))) (b := 5) dx_Fo_goesOnRightly_70 (by (first | omega | exact Nat.lt_trans (kdO_lt _) (by decide))) (by (first | omega | exact Nat.lt_trans (kdO_lt _) (by decide))) (fun c_70 => ?_) (fun c_70 => ?_)
        · refine px_iconst (v := 0) dx_Fo_goesOnRightly_77 rfl ?_
          exact px_zret dx_Fo_goesOnRightly_78 rfl (by decide) (by (have e : goC F m u k sz (nI u + x0) = false := by (unfold goC; rw [c_4, Bool.not_false, Bool.true_or, Bool.true_and]; rw [c_45, q_57, Bool.not_true, Bool.false_or, Bool.true_and]; rw [decide_eq_true (show kdO (opS (F 7 (40 * m + (nI u + x0).toNatClampNeg))) = 5 from c_70)]; rfl)); rw [e] at hp; exact hp)
        · refine px_iconst (v := 1) dx_Fo_goesOnRightly_73 rfl ?_
          refine px_goto dx_Fo_goesOnRightly_74 ?_
          exact px_zret dx_Fo_goesOnRightly_78 rfl (by decide) (by (have e : goC F m u k sz (nI u + x0) = true := by (unfold goC; rw [c_4, Bool.not_false, Bool.true_or, Bool.true_and]; rw [c_45, q_57, Bool.not_true, Bool.false_or, Bool.true_and]; rw [decide_eq_false (show ¬ kdO (opS (F 7 (40 * m + (nI u + x0).toNatClampNeg))) = 5 from c_70)]; rfl)); rw [e] at hp; exact hp)
      · refine px_cV (Y := yy_Fo_goesOnRightly) (Yc := yy_Me_stepAt) (b := e) (As := [.int ((nI (u)) + x0)]) dx_Fo_goesOnRightly_57 ml_Fo_15 mv_Me_stepAt np_Me_stepAt ⟨_, rfl⟩ (by decide) kM.1 (by omega) rfl (Nat.le_of_ble_eq_true rfl) (Nat.le_of_ble_eq_true rfl) rk_Fo_goesOnRightly_Me_stepAt rfl (k_stepAt_f hE hR h64 hC.2.2.2.2.1 hL.1 (by simpa using q_57)) zz_0 ?_
        refine px_astore_nN (lv' := [(3, .null), (0, .ref (e)), (1, .int (nI (u))), (2, .ref (s))]) dx_Fo_goesOnRightly_60 (by decide) rfl ?_
        refine px_aload_nN dx_Fo_goesOnRightly_61 rfl ?_
        refine px_ifnullN dx_Fo_goesOnRightly_62 ?_
        refine px_iconst (v := 0) dx_Fo_goesOnRightly_77 rfl ?_
        exact px_zret dx_Fo_goesOnRightly_78 rfl (by decide) (by (have e : goC F m u k sz (nI u + x0) = false := by (unfold goC; rw [c_4, Bool.not_false, Bool.true_or, Bool.true_and]; rw [c_45, show sA (bgF F m) (F 6 m) (nI u + x0) = false from (by simpa using q_57)]; rfl)); rw [e] at hp; exact hp)
    · refine px_iconst (v := 1) dx_Fo_goesOnRightly_48 rfl ?_
      exact px_zret dx_Fo_goesOnRightly_49 rfl (by decide) (by (have e : goC F m u k sz (nI u + x0) = true := by (unfold goC; rw [c_4, Bool.not_false, Bool.true_or, Bool.true_and]; rw [c_45]; rfl)); rw [e] at hp; exact hp)
  · refine px_aload_n dx_Fo_goesOnRightly_7 rfl ?_
    refine px_iload_n dx_Fo_goesOnRightly_8 rfl ?_
    refine px_aload_n dx_Fo_goesOnRightly_9 rfl ?_
    refine px_getI dx_Fo_goesOnRightly_10 fl_Fo_100 kS.1 (by omega) rfl ?_
    refine px_eqi (y := nI (sz)) h4 ?_
    refine px_iaddN (a := u) (b := sz) dx_Fo_goesOnRightly_13 ?_
    by_cases q_14 : u + sz < F 6 m ∧ bgF F m (u + sz) = true
    · refine px_cV (Y := yy_Fo_goesOnRightly) (Yc := yy_Me_stepAt) (b := e) (As := [.int (nI (u + sz))]) dx_Fo_goesOnRightly_14 ml_Fo_15 mv_Me_stepAt np_Me_stepAt ⟨_, rfl⟩ (by decide) kM.1 (by omega) rfl (Nat.le_of_ble_eq_true rfl) (Nat.le_of_ble_eq_true rfl) rk_Fo_goesOnRightly_Me_stepAt rfl (k_stepAt_N hE hR h64 hC.2.2.2.2.1 hL.1 q_14.1 q_14.2) zz_0 ?_
      refine px_astore_n (lv' := [(3, .ref (e + 5 + 2 * (u + sz))), (0, .ref (e)), (1, .int (nI (u))), (2, .ref (s))]) dx_Fo_goesOnRightly_17 (by decide) rfl ?_
      refine px_aload_n dx_Fo_goesOnRightly_18 rfl ?_
      refine px_ifnull dx_Fo_goesOnRightly_19 ?_
      refine px_aload_n dx_Fo_goesOnRightly_22 rfl ?_
      refine px_getI dx_Fo_goesOnRightly_23 fl_Fo_39 (kd_S (SE.s hE (h40 (u + sz) q_14))).1 (h742 (u + sz) q_14) rfl ?_
      refine px_eqi (y := nI (kdO (opS (F 7 (40 * m + (u + sz)))))) (h3o (u + sz) q_14) ?_
      refine px_iconst (v := 5) dx_Fo_goesOnRightly_26 rfl ?_
      refine px_icmp_neN (a := kdO (opS (F 7 (40 * m + (u + sz))))) (b := 5) dx_Fo_goesOnRightly_27 (by (first | omega | exact Nat.lt_trans (kdO_lt _) (by decide))) (by (first | omega | exact Nat.lt_trans (kdO_lt _) (by decide))) (fun c_27 => ?_) (fun c_27 => ?_)
      · refine px_aload_n dx_Fo_goesOnRightly_41 rfl ?_
        refine px_cV (Y := yy_Fo_goesOnRightly) (Yc := yy_St_branches) (b := s) (As := []) dx_Fo_goesOnRightly_42 ml_Fo_103 mv_St_branches np_St_branches ⟨_, rfl⟩ (by decide) kS.1 (by omega) rfl (Nat.le_of_ble_eq_true rfl) (Nat.le_of_ble_eq_true rfl) rk_Fo_goesOnRightly_St_branches rfl (k_branches hS hk h3) zz_0 ?_
        refine px_if_neB dx_Fo_goesOnRightly_45 (fun c_45 => ?_) (fun c_45 => ?_)
        · refine px_aload_n dx_Fo_goesOnRightly_50 rfl ?_
          refine px_iload_n dx_Fo_goesOnRightly_51 rfl ?_
          refine px_aload_n dx_Fo_goesOnRightly_52 rfl ?_
          refine px_getI dx_Fo_goesOnRightly_53 fl_Fo_42 kS.1 (by omega) rfl ?_
          refine px_eqi (y := x0) h12 ?_
          refine px_iadd dx_Fo_goesOnRightly_56 ?_
          by_cases q_57 : sA (bgF F m) (F 6 m) ((nI (u)) + x0) = true
          · refine px_cV (Y := yy_Fo_goesOnRightly) (Yc := yy_Me_stepAt) (b := e) (As := [.int ((nI (u)) + x0)]) dx_Fo_goesOnRightly_57 ml_Fo_15 mv_Me_stepAt np_Me_stepAt ⟨_, rfl⟩ (by decide) kM.1 (by omega) rfl (Nat.le_of_ble_eq_true rfl) (Nat.le_of_ble_eq_true rfl) rk_Fo_goesOnRightly_Me_stepAt rfl (k_stepAt_t hE hR h64 hC.2.2.2.2.1 hL.1 q_57) zz_0 ?_
            refine px_astore_n (lv' := [(3, .ref (e + 5 + 2 * ((nI (u)) + x0).toNatClampNeg)), (0, .ref (e)), (1, .int (nI (u))), (2, .ref (s))]) dx_Fo_goesOnRightly_60 (by decide) rfl ?_
            refine px_aload_n dx_Fo_goesOnRightly_61 rfl ?_
            refine px_ifnull dx_Fo_goesOnRightly_62 ?_
            refine px_aload_n dx_Fo_goesOnRightly_65 rfl ?_
            refine px_getI dx_Fo_goesOnRightly_66 fl_Fo_39 (kd_S (SE.s hE (h40 ((nI (u)) + x0).toNatClampNeg (sA_p q_57)))).1 (h742 ((nI (u)) + x0).toNatClampNeg (sA_p q_57)) rfl ?_
            refine px_eqi (y := nI (kdO (opS (F 7 (40 * m + ((nI (u)) + x0).toNatClampNeg))))) (h3o ((nI (u)) + x0).toNatClampNeg (sA_p q_57)) ?_
            refine px_iconst (v := 5) dx_Fo_goesOnRightly_69 rfl ?_
            refine px_icmp_eqN (a := kdO (opS (F 7 (40 * m + ((nI (u)) + x0).toNatClampNeg)))) (b := 5) dx_Fo_goesOnRightly_70 (by (first | omega | exact Nat.lt_trans (kdO_lt _) (by decide))) (by (first | omega | exact Nat.lt_trans (kdO_lt _) (by decide))) (fun c_70 => ?_) (fun c_70 => ?_)
            · refine px_iconst (v := 0) dx_Fo_goesOnRightly_77 rfl ?_
              exact px_zret dx_Fo_goesOnRightly_78 rfl (by decide) (by (have e : goC F m u k sz (nI u + x0) = false := by (unfold goC; rw [c_4, decide_eq_true q_14, Bool.not_true, Bool.false_or, Bool.true_and]; rw [decide_eq_false (show ¬ kdO (opS (F 7 (40 * m + (u + sz)))) = 5 from c_27), Bool.not_false, Bool.or_true, Bool.true_and]; rw [c_45, q_57, Bool.not_true, Bool.false_or, Bool.true_and]; rw [decide_eq_true (show kdO (opS (F 7 (40 * m + (nI u + x0).toNatClampNeg))) = 5 from c_70)]; rfl)); rw [e] at hp; exact hp)
            · refine px_iconst (v := 1) dx_Fo_goesOnRightly_73 rfl ?_
              refine px_goto dx_Fo_goesOnRightly_74 ?_
              exact px_zret dx_Fo_goesOnRightly_78 rfl (by decide) (by (have e : goC F m u k sz (nI u + x0) = true := by (unfold goC; rw [c_4, decide_eq_true q_14, Bool.not_true, Bool.false_or, Bool.true_and]; rw [decide_eq_false (show ¬ kdO (opS (F 7 (40 * m + (u + sz)))) = 5 from c_27), Bool.not_false, Bool.or_true, Bool.true_and]; rw [c_45, q_57, Bool.not_true, Bool.false_or, Bool.true_and]; rw [decide_eq_false (show ¬ kdO (opS (F 7 (40 * m + (nI u + x0).toNatClampNeg))) = 5 from c_70)]; rfl)); rw [e] at hp; exact hp)
          · refine px_cV (Y := yy_Fo_goesOnRightly) (Yc := yy_Me_stepAt) (b := e) (As := [.int ((nI (u)) + x0)]) dx_Fo_goesOnRightly_57 ml_Fo_15 mv_Me_stepAt np_Me_stepAt ⟨_, rfl⟩ (by decide) kM.1 (by omega) rfl (Nat.le_of_ble_eq_true rfl) (Nat.le_of_ble_eq_true rfl) rk_Fo_goesOnRightly_Me_stepAt rfl (k_stepAt_f hE hR h64 hC.2.2.2.2.1 hL.1 (by simpa using q_57)) zz_0 ?_
            refine px_astore_nN (lv' := [(3, .null), (0, .ref (e)), (1, .int (nI (u))), (2, .ref (s))]) dx_Fo_goesOnRightly_60 (by decide) rfl ?_
            refine px_aload_nN dx_Fo_goesOnRightly_61 rfl ?_
            refine px_ifnullN dx_Fo_goesOnRightly_62 ?_
            refine px_iconst (v := 0) dx_Fo_goesOnRightly_77 rfl ?_
            exact px_zret dx_Fo_goesOnRightly_78 rfl (by decide) (by (have e : goC F m u k sz (nI u + x0) = false := by (unfold goC; rw [c_4, decide_eq_true q_14, Bool.not_true, Bool.false_or, Bool.true_and]; rw [decide_eq_false (show ¬ kdO (opS (F 7 (40 * m + (u + sz)))) = 5 from c_27), Bool.not_false, Bool.or_true, Bool.true_and]; rw [c_45, show sA (bgF F m) (F 6 m) (nI u + x0) = false from (by simpa using q_57)]; rfl)); rw [e] at hp; exact hp)
        · refine px_iconst (v := 1) dx_Fo_goesOnRightly_48 rfl ?_
          exact px_zret dx_Fo_goesOnRightly_49 rfl (by decide) (by (have e : goC F m u k sz (nI u + x0) = true := by (unfold goC; rw [c_4, decide_eq_true q_14, Bool.not_true, Bool.false_or, Bool.true_and]; rw [decide_eq_false (show ¬ kdO (opS (F 7 (40 * m + (u + sz)))) = 5 from c_27), Bool.not_false, Bool.or_true, Bool.true_and]; rw [c_45]; rfl)); rw [e] at hp; exact hp)
      · refine px_aload_n dx_Fo_goesOnRightly_30 rfl ?_
        refine px_getI dx_Fo_goesOnRightly_31 fl_Fo_39 kS.1 (by omega) rfl ?_
        refine px_eqi (y := nI (k)) h3 ?_
        refine px_bipush (v := 14) dx_Fo_goesOnRightly_34 rfl ?_
        refine px_icmp_eqN (a := k) (b := 14) dx_Fo_goesOnRightly_36 (by (first | omega | exact Nat.lt_trans (kdO_lt _) (by decide))) (by (first | omega | exact Nat.lt_trans (kdO_lt _) (by decide))) (fun c_36 => ?_) (fun c_36 => ?_)
        · refine px_aload_n dx_Fo_goesOnRightly_41 rfl ?_
          refine px_cV (Y := yy_Fo_goesOnRightly) (Yc := yy_St_branches) (b := s) (As := []) dx_Fo_goesOnRightly_42 ml_Fo_103 mv_St_branches np_St_branches ⟨_, rfl⟩ (by decide) kS.1 (by omega) rfl (Nat.le_of_ble_eq_true rfl) (Nat.le_of_ble_eq_true rfl) rk_Fo_goesOnRightly_St_branches rfl (k_branches hS hk h3) zz_0 ?_
          refine px_if_neB dx_Fo_goesOnRightly_45 (fun c_45 => ?_) (fun c_45 => ?_)
          · refine px_aload_n dx_Fo_goesOnRightly_50 rfl ?_
            refine px_iload_n dx_Fo_goesOnRightly_51 rfl ?_
            refine px_aload_n dx_Fo_goesOnRightly_52 rfl ?_
            refine px_getI dx_Fo_goesOnRightly_53 fl_Fo_42 kS.1 (by omega) rfl ?_
            refine px_eqi (y := x0) h12 ?_
            refine px_iadd dx_Fo_goesOnRightly_56 ?_
            by_cases q_57 : sA (bgF F m) (F 6 m) ((nI (u)) + x0) = true
            · refine px_cV (Y := yy_Fo_goesOnRightly) (Yc := yy_Me_stepAt) (b := e) (As := [.int ((nI (u)) + x0)]) dx_Fo_goesOnRightly_57 ml_Fo_15 mv_Me_stepAt np_Me_stepAt ⟨_, rfl⟩ (by decide) kM.1 (by omega) rfl (Nat.le_of_ble_eq_true rfl) (Nat.le_of_ble_eq_true rfl) rk_Fo_goesOnRightly_Me_stepAt rfl (k_stepAt_t hE hR h64 hC.2.2.2.2.1 hL.1 q_57) zz_0 ?_
              refine px_astore_n (lv' := [(3, .ref (e + 5 + 2 * ((nI (u)) + x0).toNatClampNeg)), (0, .ref (e)), (1, .int (nI (u))), (2, .ref (s))]) dx_Fo_goesOnRightly_60 (by decide) rfl ?_
              refine px_aload_n dx_Fo_goesOnRightly_61 rfl ?_
              refine px_ifnull dx_Fo_goesOnRightly_62 ?_
              refine px_aload_n dx_Fo_goesOnRightly_65 rfl ?_
              refine px_getI dx_Fo_goesOnRightly_66 fl_Fo_39 (kd_S (SE.s hE (h40 ((nI (u)) + x0).toNatClampNeg (sA_p q_57)))).1 (h742 ((nI (u)) + x0).toNatClampNeg (sA_p q_57)) rfl ?_
              refine px_eqi (y := nI (kdO (opS (F 7 (40 * m + ((nI (u)) + x0).toNatClampNeg))))) (h3o ((nI (u)) + x0).toNatClampNeg (sA_p q_57)) ?_
              refine px_iconst (v := 5) dx_Fo_goesOnRightly_69 rfl ?_
              refine px_icmp_eqN (a := kdO (opS (F 7 (40 * m + ((nI (u)) + x0).toNatClampNeg)))) (b := 5) dx_Fo_goesOnRightly_70 (by (first | omega | exact Nat.lt_trans (kdO_lt _) (by decide))) (by (first | omega | exact Nat.lt_trans (kdO_lt _) (by decide))) (fun c_70 => ?_) (fun c_70 => ?_)
              · refine px_iconst (v := 0) dx_Fo_goesOnRightly_77 rfl ?_
                exact px_zret dx_Fo_goesOnRightly_78 rfl (by decide) (by (have e : goC F m u k sz (nI u + x0) = false := by (unfold goC; rw [c_4, decide_eq_true q_14, Bool.not_true, Bool.false_or, Bool.true_and]; rw [decide_eq_true (show k = 14 from c_36), Bool.true_or, Bool.true_and]; rw [c_45, q_57, Bool.not_true, Bool.false_or, Bool.true_and]; rw [decide_eq_true (show kdO (opS (F 7 (40 * m + (nI u + x0).toNatClampNeg))) = 5 from c_70)]; rfl)); rw [e] at hp; exact hp)
              · refine px_iconst (v := 1) dx_Fo_goesOnRightly_73 rfl ?_
                refine px_goto dx_Fo_goesOnRightly_74 ?_
                exact px_zret dx_Fo_goesOnRightly_78 rfl (by decide) (by (have e : goC F m u k sz (nI u + x0) = true := by (unfold goC; rw [c_4, decide_eq_true q_14, Bool.not_true, Bool.false_or, Bool.true_and]; rw [decide_eq_true (show k = 14 from c_36), Bool.true_or, Bool.true_and]; rw [c_45, q_57, Bool.not_true, Bool.false_or, Bool.true_and]; rw [decide_eq_false (show ¬ kdO (opS (F 7 (40 * m + (nI u + x0).toNatClampNeg))) = 5 from c_70)]; rfl)); rw [e] at hp; exact hp)
            · refine px_cV (Y := yy_Fo_goesOnRightly) (Yc := yy_Me_stepAt) (b := e) (As := [.int ((nI (u)) + x0)]) dx_Fo_goesOnRightly_57 ml_Fo_15 mv_Me_stepAt np_Me_stepAt ⟨_, rfl⟩ (by decide) kM.1 (by omega) rfl (Nat.le_of_ble_eq_true rfl) (Nat.le_of_ble_eq_true rfl) rk_Fo_goesOnRightly_Me_stepAt rfl (k_stepAt_f hE hR h64 hC.2.2.2.2.1 hL.1 (by simpa using q_57)) zz_0 ?_
              refine px_astore_nN (lv' := [(3, .null), (0, .ref (e)), (1, .int (nI (u))), (2, .ref (s))]) dx_Fo_goesOnRightly_60 (by decide) rfl ?_
              refine px_aload_nN dx_Fo_goesOnRightly_61 rfl ?_
              refine px_ifnullN dx_Fo_goesOnRightly_62 ?_
              refine px_iconst (v := 0) dx_Fo_goesOnRightly_77 rfl ?_
              exact px_zret dx_Fo_goesOnRightly_78 rfl (by decide) (by (have e : goC F m u k sz (nI u + x0) = false := by (unfold goC; rw [c_4, decide_eq_true q_14, Bool.not_true, Bool.false_or, Bool.true_and]; rw [decide_eq_true (show k = 14 from c_36), Bool.true_or, Bool.true_and]; rw [c_45, show sA (bgF F m) (F 6 m) (nI u + x0) = false from (by simpa using q_57)]; rfl)); rw [e] at hp; exact hp)
          · refine px_iconst (v := 1) dx_Fo_goesOnRightly_48 rfl ?_
            exact px_zret dx_Fo_goesOnRightly_49 rfl (by decide) (by (have e : goC F m u k sz (nI u + x0) = true := by (unfold goC; rw [c_4, decide_eq_true q_14, Bool.not_true, Bool.false_or, Bool.true_and]; rw [decide_eq_true (show k = 14 from c_36), Bool.true_or, Bool.true_and]; rw [c_45]; rfl)); rw [e] at hp; exact hp)
        · refine px_iconst (v := 0) dx_Fo_goesOnRightly_39 rfl ?_
          exact px_zret dx_Fo_goesOnRightly_40 rfl (by decide) (by (have e : goC F m u k sz (nI u + x0) = false := by (unfold goC; rw [c_4, decide_eq_true q_14, Bool.not_true, Bool.false_or, Bool.true_and]; rw [decide_eq_false (show ¬ k = 14 from c_36), decide_eq_true (show kdO (opS (F 7 (40 * m + (u + sz)))) = 5 from c_27)]; rfl)); rw [e] at hp; exact hp)
    · refine px_cV (Y := yy_Fo_goesOnRightly) (Yc := yy_Me_stepAt) (b := e) (As := [.int (nI (u + sz))]) dx_Fo_goesOnRightly_14 ml_Fo_15 mv_Me_stepAt np_Me_stepAt ⟨_, rfl⟩ (by decide) kM.1 (by omega) rfl (Nat.le_of_ble_eq_true rfl) (Nat.le_of_ble_eq_true rfl) rk_Fo_goesOnRightly_Me_stepAt rfl (k_stepAt_n hE hR h64 hC.2.2.2.2.1 hL.1 (by omega) q_14) zz_0 ?_
      refine px_astore_nN (lv' := [(3, .null), (0, .ref (e)), (1, .int (nI (u))), (2, .ref (s))]) dx_Fo_goesOnRightly_17 (by decide) rfl ?_
      refine px_aload_nN dx_Fo_goesOnRightly_18 rfl ?_
      refine px_ifnullN dx_Fo_goesOnRightly_19 ?_
      refine px_iconst (v := 0) dx_Fo_goesOnRightly_39 rfl ?_
      exact px_zret dx_Fo_goesOnRightly_40 rfl (by decide) (by (have e : goC F m u k sz (nI u + x0) = false := by (unfold goC; rw [c_4, decide_eq_false q_14]; rfl)); rw [e] at hp; exact hp)
theorem agOK_m {F : Nat → Nat → Nat} {m c w2 j : Nat} (h : agOK F m c w2 j = false) : ∀ d, agOK F m c w2 (j + d) = false
  | 0 => h
  | d + 1 => by
    show ((agOK F m c w2 (j + d) && _) && _) = false
    rw [agOK_m h d]
    rfl

set_option maxRecDepth 100000 in
set_option maxHeartbeats 1000000 in
theorem k_callFits_lp {l : Launch} {G : fr_G} {σ : fr_S} {e : Nat} (hE : ME e) (hR : RF σ) {F : Nat → Nat → Nat} (hW : FW F) {m c w2 nc : Nat} (hm : m < 4) (hc : c < 4) (hw2 : w2 < 65536) (h7 : gI σ e 7 = nI (F 5 m)) {s g : Nat} (hS : SE s) (hG : ME g) (hCg : CM σ g F c) (h13 : gI σ s 13 = nI nc) (h14 : gI σ s 14 = nI w2) (hnc : nc < 16) (hpw : pwF F c ≤ 4) {Post : Option Value → fr_S → Prop} (hp : Post (some (.int (b2i (agOK F m c w2 (F 3 c))))) σ) : ∀ (d : Nat) (j : Nat), F 3 c - j < d → j ≤ F 3 c → agOK F m c w2 j = true → PX l G yy_Fo_callFits rm_Fo_callFits (QR G false 742 0 0 Post) false 742 0 0 30 [(0, .ref (e)), (1, .ref (s)), (2, .ref (g)), (3, .int (nI (agK F c j))), (4, .int (nI (j)))] [] (σ) := by
  intro d
  induction d with
  | zero => intro j hd; exact absurd hd (Nat.not_lt_zero _)
  | succ d ih =>
    intro j hd hj hE2
    have kM := kd_M hE
    have kS := kd_S hS
    have kG := kd_M hG
    have h3 := hW.2.2.2.1 c
    have h5 := hW.2.2.2.2.2.1 m
    have hak := agK_le F c j
    have hag := agW_lt w2 (agK F c j)
    have hag2 := agW_lt w2 (agK F c j + 1)
    have hwd := wdt_le (F 4 (3 * c + j))
    have hwd1 := wdt_1 (F 4 (3 * c + j))
    have hs : j < F 3 c → agK F c j + wdt (F 4 (3 * c + j)) ≤ pwF F c := fun q => by
      have q3 := agK_mono F c (j + 1) (F 3 c) q
      rw [agK_s] at q3
      exact q3
    have htt : tt (F 4 (3 * c + j)) ≤ 5 := tt_b _ (hW.2.2.2.2.1 _)
    refine px_iload dx_Fo_callFits_30 rfl ?_
    refine px_aload_n dx_Fo_callFits_32 rfl ?_
    refine px_getI dx_Fo_callFits_33 fl_Fo_112 kG.1 (by omega) rfl ?_
    refine px_eqi (y := nI (F 3 c)) hCg.2.1 ?_
    refine px_icmp_geN (a := j) (b := F 3 c) dx_Fo_callFits_36 (by omega) (by omega) (fun c_36 => ?_) (fun c_36 => ?_)
    · refine px_iconst (v := 1) dx_Fo_callFits_103 rfl ?_
      exact px_zret dx_Fo_callFits_104 rfl (by decide) (by (obtain rfl : j = F 3 c := by omega); rw [hE2] at hp; exact hp)
    · refine px_aload_n dx_Fo_callFits_39 rfl ?_
      refine px_iload dx_Fo_callFits_40 rfl ?_
      refine px_cV (Y := yy_Fo_callFits) (Yc := yy_Me_parameterAt) (b := g) (As := [.int (nI (j))]) dx_Fo_callFits_42 ml_Fo_115 mv_Me_parameterAt np_Me_parameterAt ⟨_, rfl⟩ (by decide) kG.1 (by omega) rfl (Nat.le_of_ble_eq_true rfl) (Nat.le_of_ble_eq_true rfl) rk_Fo_callFits_Me_parameterAt rfl (k_parameterAt (np := F 3 c) (pt := fun k => tt (F 4 (3 * c + k))) (k := j) hG hR (hW.2.2.2.1 c) hCg.2.1 hCg.2.2.2.2.2.1 (by omega)) zz_0 ?_
      refine px_eqi (y := nI (tt (F 4 (3 * c + j)))) (congrArg nI (if_pos (by omega))) ?_
      refine px_cS (Y := yy_Fo_callFits) (Yc := yy_V_widthOf) (As := [.int (nI (tt (F 4 (3 * c + j))))]) dx_Fo_callFits_45 ml_Fo_79 ms_V_widthOf np_V_widthOf rfl (Nat.le_of_ble_eq_true rfl) (Nat.le_of_ble_eq_true rfl) rk_Fo_callFits_V_widthOf rfl (k_widthOf (x := tt (F 4 (3 * c + j))) (by omega)) zz_0 ?_
      refine px_eqi (y := nI (wdt (F 4 (3 * c + j)))) (congrArg nI (wdc_tt _ (hW.2.2.2.2.1 _))) ?_
      refine px_istore (lv' := [(5, .int (nI (wdt (F 4 (3 * c + j))))), (0, .ref (e)), (1, .ref (s)), (2, .ref (g)), (3, .int (nI (agK F c j))), (4, .int (nI (j)))]) dx_Fo_callFits_48 (by decide) rfl ?_
      refine px_aload_n dx_Fo_callFits_50 rfl ?_
      refine px_iload_n dx_Fo_callFits_51 rfl ?_
      refine px_cV (Y := yy_Fo_callFits) (Yc := yy_St_named) (b := s) (As := [.int (nI (agK F c j))]) dx_Fo_callFits_52 ml_Fo_118 mv_St_named np_St_named ⟨_, rfl⟩ (by decide) kS.1 (by omega) rfl (Nat.le_of_ble_eq_true rfl) (Nat.le_of_ble_eq_true rfl) rk_Fo_callFits_St_named rfl (k_named (w2 := w2) (k := agK F c j) hS hw2 (by omega) (fun _ => h14)) zz_0 ?_
      refine px_eqi (y := nI (agW w2 (agK F c j))) (congrArg nI (if_pos (by omega))) ?_
      refine px_istore (lv' := [(6, .int (nI (agW w2 (agK F c j)))), (5, .int (nI (wdt (F 4 (3 * c + j))))), (0, .ref (e)), (1, .ref (s)), (2, .ref (g)), (3, .int (nI (agK F c j))), (4, .int (nI (j)))]) dx_Fo_callFits_55 (by decide) rfl ?_
      refine px_aload_n dx_Fo_callFits_57 rfl ?_
      refine px_iload dx_Fo_callFits_58 rfl ?_
      refine px_iload dx_Fo_callFits_60 rfl ?_
      refine px_cS (Y := yy_Fo_callFits) (Yc := yy_Fo_isThere) (As := [.ref (e), .int (nI (agW w2 (agK F c j))), .int (nI (wdt (F 4 (3 * c + j))))]) dx_Fo_callFits_62 ml_Fo_83 ms_Fo_isThere np_Fo_isThere rfl (Nat.le_of_ble_eq_true rfl) (Nat.le_of_ble_eq_true rfl) rk_Fo_callFits_Fo_isThere rfl (k_isThere (r := agW w2 (agK F c j)) (w := wdt (F 4 (3 * c + j))) hE (hW.2.2.2.2.2.1 m) h7 (by omega) (by omega)) zz_0 ?_
      refine px_if_neB dx_Fo_callFits_65 (fun c_65 => ?_) (fun c_65 => ?_)
      · refine px_iload dx_Fo_callFits_70 rfl ?_
        refine px_iconst (v := 2) dx_Fo_callFits_72 rfl ?_
        refine px_icmp_neN (a := wdt (F 4 (3 * c + j))) (b := 2) dx_Fo_callFits_73 (by omega) (by omega) (fun c_73 => ?_) (fun c_73 => ?_)
        · refine px_iload_n dx_Fo_callFits_92 rfl ?_
          refine px_iload dx_Fo_callFits_93 rfl ?_
          refine px_iaddN (a := agK F c j) (b := wdt (F 4 (3 * c + j))) dx_Fo_callFits_95 ?_
          refine px_istore_n (lv' := [(3, .int (nI ((agK F c j) + (wdt (F 4 (3 * c + j)))))), (6, .int (nI (agW w2 (agK F c j)))), (5, .int (nI (wdt (F 4 (3 * c + j))))), (0, .ref (e)), (1, .ref (s)), (2, .ref (g)), (4, .int (nI (j)))]) dx_Fo_callFits_96 (by decide) rfl ?_
          refine px_iinc (v := (nI (j + 1))) (lv' := [(4, .int (nI (j + 1))), (3, .int (nI ((agK F c j) + (wdt (F 4 (3 * c + j)))))), (6, .int (nI (agW w2 (agK F c j)))), (5, .int (nI (wdt (F 4 (3 * c + j))))), (0, .ref (e)), (1, .ref (s)), (2, .ref (g))]) dx_Fo_callFits_97 rfl (nI_1 _) (by decide) rfl ?_
          refine px_goto dx_Fo_callFits_100 ?_
          refine px_sub [4, 5, 6, 1, 0] rfl ?_
          exact ih (j + 1) (by omega) (by omega) (by (show ((agOK F m c w2 j && _) && (_ || _)) = true; rw [hE2, show hsR F m (agW w2 (agK F c j)) (F 4 (3 * c + j)) = true from c_65, decide_eq_true c_73]; rfl))
        · refine px_aload_n dx_Fo_callFits_76 rfl ?_
          refine px_iload_n dx_Fo_callFits_77 rfl ?_
          refine px_iconst (v := 1) dx_Fo_callFits_78 rfl ?_
          refine px_iaddN (a := agK F c j) (b := 1) dx_Fo_callFits_79 ?_
          refine px_cV (Y := yy_Fo_callFits) (Yc := yy_St_named) (b := s) (As := [.int (nI ((agK F c j) + 1))]) dx_Fo_callFits_80 ml_Fo_118 mv_St_named np_St_named ⟨_, rfl⟩ (by decide) kS.1 (by omega) rfl (Nat.le_of_ble_eq_true rfl) (Nat.le_of_ble_eq_true rfl) rk_Fo_callFits_St_named rfl (k_named (w2 := w2) (k := (agK F c j) + 1) hS hw2 (by omega) (fun _ => h14)) zz_0 ?_
          refine px_eqi (y := nI (agW w2 ((agK F c j) + 1))) (congrArg nI (if_pos (by omega))) ?_
          refine px_iload dx_Fo_callFits_83 rfl ?_
          refine px_iconst (v := 1) dx_Fo_callFits_85 rfl ?_
          refine px_iaddN (a := agW w2 (agK F c j)) (b := 1) dx_Fo_callFits_86 ?_
          refine px_icmp_eqN (a := agW w2 ((agK F c j) + 1)) (b := (agW w2 (agK F c j)) + 1) dx_Fo_callFits_87 (by omega) (by omega) (fun c_87 => ?_) (fun c_87 => ?_)
          · refine px_iload_n dx_Fo_callFits_92 rfl ?_
            refine px_iload dx_Fo_callFits_93 rfl ?_
            refine px_iaddN (a := agK F c j) (b := wdt (F 4 (3 * c + j))) dx_Fo_callFits_95 ?_
            refine px_istore_n (lv' := [(3, .int (nI ((agK F c j) + (wdt (F 4 (3 * c + j)))))), (6, .int (nI (agW w2 (agK F c j)))), (5, .int (nI (wdt (F 4 (3 * c + j))))), (0, .ref (e)), (1, .ref (s)), (2, .ref (g)), (4, .int (nI (j)))]) dx_Fo_callFits_96 (by decide) rfl ?_
            refine px_iinc (v := (nI (j + 1))) (lv' := [(4, .int (nI (j + 1))), (3, .int (nI ((agK F c j) + (wdt (F 4 (3 * c + j)))))), (6, .int (nI (agW w2 (agK F c j)))), (5, .int (nI (wdt (F 4 (3 * c + j))))), (0, .ref (e)), (1, .ref (s)), (2, .ref (g))]) dx_Fo_callFits_97 rfl (nI_1 _) (by decide) rfl ?_
            refine px_goto dx_Fo_callFits_100 ?_
            refine px_sub [4, 5, 6, 1, 0] rfl ?_
            exact ih (j + 1) (by omega) (by omega) (by (show ((agOK F m c w2 j && _) && (_ || _)) = true; rw [hE2, show hsR F m (agW w2 (agK F c j)) (F 4 (3 * c + j)) = true from c_65, decide_eq_true (show agW w2 (agK F c j + 1) = agW w2 (agK F c j) + 1 from c_87), Bool.or_true]; rfl))
          · refine px_iconst (v := 0) dx_Fo_callFits_90 rfl ?_
            exact px_zret dx_Fo_callFits_91 rfl (by decide) (by (have e1 : agOK F m c w2 (j + 1) = false := by (show ((agOK F m c w2 j && _) && (_ || _)) = false; rw [hE2, show hsR F m (agW w2 (agK F c j)) (F 4 (3 * c + j)) = true from c_65, decide_eq_false (fun z => z c_73), decide_eq_false c_87]; rfl)); (have e2 : agOK F m c w2 (F 3 c) = false := by (have q := agOK_m e1 (F 3 c - (j + 1)); rwa [show j + 1 + (F 3 c - (j + 1)) = F 3 c by omega] at q)); rw [e2] at hp; exact hp)
      · refine px_iconst (v := 0) dx_Fo_callFits_68 rfl ?_
        exact px_zret dx_Fo_callFits_69 rfl (by decide) (by (have e1 : agOK F m c w2 (j + 1) = false := by (show ((agOK F m c w2 j && _) && (_ || _)) = false; rw [hE2, show hsR F m (agW w2 (agK F c j)) (F 4 (3 * c + j)) = false from c_65]; rfl)); (have e2 : agOK F m c w2 (F 3 c) = false := by (have q := agOK_m e1 (F 3 c - (j + 1)); rwa [show j + 1 + (F 3 c - (j + 1)) = F 3 c by omega] at q)); rw [e2] at hp; exact hp)
set_option maxRecDepth 100000 in
set_option maxHeartbeats 1000000 in
theorem k_callFits {l : Launch} {G : fr_G} {σ : fr_S} {e : Nat} (hE : ME e) (hR : RF σ) {F : Nat → Nat → Nat} (hW : FW F) {m c w2 nc : Nat} (hm : m < 4) (hc : c < 4) (hw2 : w2 < 65536) (h7 : gI σ e 7 = nI (F 5 m)) {s g : Nat} (hS : SE s) (hG : ME g) (hCg : CM σ g F c) (h13 : gI σ s 13 = nI nc) (h14 : gI σ s 14 = nI w2) (hnc : nc < 16) : CT l G yy_Fo_callFits rm_Fo_callFits [.ref (e), .ref (s), .ref (g)] σ (some (.int (b2i (decide (nc ≤ 4 ∧ nc = pwF F c) && agOK F m c w2 (F 3 c))))) (σ) := by
  intro Post hp0
  have hp := hp0
  show PX l G yy_Fo_callFits rm_Fo_callFits _ false 742 0 0 0 [(0, .ref (e)), (1, .ref (s)), (2, .ref (g))] [] σ
  have kM := kd_M hE
  have kS := kd_S hS
  have kG := kd_M hG
  have hpw6 := pwF_le hW c
  refine px_aload_n dx_Fo_callFits_0 rfl ?_
  refine px_ifnull dx_Fo_callFits_1 ?_
  refine px_aload_n dx_Fo_callFits_4 rfl ?_
  refine px_getI dx_Fo_callFits_5 fl_Fo_106 kS.1 (by omega) rfl ?_
  refine px_eqi (y := nI (nc)) h13 ?_
  refine px_iconst (v := 4) dx_Fo_callFits_8 rfl ?_
  refine px_icmp_gtN (a := nc) (b := 4) dx_Fo_callFits_9 (by omega) (by omega) (fun c_9 => ?_) (fun c_9 => ?_)
  · refine px_iconst (v := 0) dx_Fo_callFits_23 rfl ?_
    exact px_zret dx_Fo_callFits_24 rfl (by decide) (by (have e : decide (nc ≤ 4 ∧ nc = pwF F c) = false := decide_eq_false (by omega)); rw [e] at hp; exact hp)
  · refine px_aload_n dx_Fo_callFits_12 rfl ?_
    refine px_getI dx_Fo_callFits_13 fl_Fo_106 kS.1 (by omega) rfl ?_
    refine px_eqi (y := nI (nc)) h13 ?_
    refine px_aload_n dx_Fo_callFits_16 rfl ?_
    refine px_getI dx_Fo_callFits_17 fl_Fo_109 kG.1 (by omega) rfl ?_
    refine px_eqi (y := nI (pwF F c)) hCg.2.2.1 ?_
    refine px_icmp_eqN (a := nc) (b := pwF F c) dx_Fo_callFits_20 (by omega) (by omega) (fun c_20 => ?_) (fun c_20 => ?_)
    · refine px_iconst (v := 0) dx_Fo_callFits_25 rfl ?_
      refine px_istore_n (lv' := [(3, .int (0)), (0, .ref (e)), (1, .ref (s)), (2, .ref (g))]) dx_Fo_callFits_26 (by decide) rfl ?_
      refine px_iconst (v := 0) dx_Fo_callFits_27 rfl ?_
      refine px_istore (lv' := [(4, .int (0)), (3, .int (0)), (0, .ref (e)), (1, .ref (s)), (2, .ref (g))]) dx_Fo_callFits_28 (by decide) rfl ?_
      refine px_sub [2, 3, 4, 1, 0] rfl ?_
      exact k_callFits_lp hE hR hW hm hc hw2 h7 hS hG hCg h13 h14 hnc (by omega) (by (have e : decide (nc ≤ 4 ∧ nc = pwF F c) = true := decide_eq_true (by omega)); rw [e] at hp; exact hp) (F 3 c + 1) 0 (by omega) (Nat.zero_le _) rfl
    · refine px_iconst (v := 0) dx_Fo_callFits_23 rfl ?_
      exact px_zret dx_Fo_callFits_24 rfl (by decide) (by (have e : decide (nc ≤ 4 ∧ nc = pwF F c) = false := decide_eq_false (by omega)); rw [e] at hp; exact hp)
set_option maxRecDepth 100000 in
set_option maxHeartbeats 1000000 in
theorem k_callFits_n {l : Launch} {G : fr_G} {σ : fr_S} {e s : Nat} : CT l G yy_Fo_callFits rm_Fo_callFits [.ref (e), .ref (s), .null] σ (some (.int 0)) (σ) := by
  intro Post hp0
  have hp := hp0
  show PX l G yy_Fo_callFits rm_Fo_callFits _ false 742 0 0 0 [(0, .ref (e)), (1, .ref (s)), (2, .null)] [] σ
  refine px_aload_nN dx_Fo_callFits_0 rfl ?_
  refine px_ifnullN dx_Fo_callFits_1 ?_
  refine px_iconst (v := 0) dx_Fo_callFits_23 rfl ?_
  exact px_zret dx_Fo_callFits_24 rfl (by decide) (by exact hp)
def rbC (F : Nat → Nat → Nat) (m : Nat) : Option Nat → Nat
  | none => 0
  | some v => if kdO (opS (F 7 (40 * m + v))) = 14 then (if F 7 (40 * m + (v + 1)) < F 0 0 then tt (F 2 (F 7 (40 * m + (v + 1)))) else 0) else 0
theorem dNum_14 {op w w1 : Nat} (h : kdO op = 14) : dNum op w w1 = nI w1 := by
  unfold dNum
  rw [h]
  rfl
theorem uA_e {F : Nat → Nat → Nat} {m u : Nat} (h : u < F 6 m) : uA F m u = F 7 (40 * m + u) := if_pos h
theorem im_no {F : Nat → Nat → Nat} {c : Nat} (h4 : F 0 0 ≤ 4) (hc : c < 2 ^ 31) (h : ¬ c < F 0 0) : imO F (nI c) = false := decide_eq_false fun z => h ((nI_ltI hc (by omega)).mp z.2)

set_option maxRecDepth 100000 in
set_option maxHeartbeats 1000000 in
theorem k_retB_n {l : Launch} {G : fr_G} {σ : fr_S} {q : Nat} (hq : PB q) {e : Nat} (hE : ME e) (hR : RF σ) {F : Nat → Nat → Nat} (hW : FW F) {m : Nat} (hm : m < 4) (hCP : CP σ q F) (hC : CM σ e F m) (hL : SLm σ e F m) {s : Nat} (hS : SE s) (h6 : gI σ s 6 = -1) : CT l G yy_Pg_returnedBefore rm_Pg_returnedBefore [.ref (q), .ref (e), .ref (s)] σ (some (.int 0)) (σ) := by
  intro Post hp0
  have hp := hp0
  show PX l G yy_Pg_returnedBefore rm_Pg_returnedBefore _ false 742 0 0 0 [(0, .ref (q)), (1, .ref (e)), (2, .ref (s))] [] σ
  have kP := kd_P hq
  have kM := kd_M hE
  have kS := kd_S hS
  have h64 := hW.2.2.2.2.2.2.1 m
  have h04 := hW.1
  have h14 := hW.2.1
  refine px_aload_n dx_Pg_returnedBefore_0 rfl ?_
  refine px_aload_n dx_Pg_returnedBefore_1 rfl ?_
  refine px_getI dx_Pg_returnedBefore_2 fl_Pg_94 kS.1 (by omega) rfl ?_
  refine px_eqi (y := -1) h6 ?_
  refine px_cV (Y := yy_Pg_returnedBefore) (Yc := yy_Me_stepAt) (b := e) (As := [.int (-1)]) dx_Pg_returnedBefore_5 ml_Pg_99 mv_Me_stepAt np_Me_stepAt ⟨_, rfl⟩ (by decide) kM.1 (by omega) rfl (Nat.le_of_ble_eq_true rfl) (Nat.le_of_ble_eq_true rfl) rk_Pg_returnedBefore_Me_stepAt rfl (k_stepAt_x hE hR h64 hC.2.2.2.2.1 hL.1 (by decide)) zz_0 ?_
  refine px_astore_nN (lv' := [(3, .null), (0, .ref (q)), (1, .ref (e)), (2, .ref (s))]) dx_Pg_returnedBefore_8 (by decide) rfl ?_
  refine px_aload_nN dx_Pg_returnedBefore_9 rfl ?_
  refine px_ifnullN dx_Pg_returnedBefore_10 ?_
  refine px_iconst (v := 0) dx_Pg_returnedBefore_22 rfl ?_
  exact px_iret dx_Pg_returnedBefore_23 rfl (by exact hp)
set_option maxRecDepth 100000 in
set_option maxHeartbeats 1000000 in
theorem k_retB_s {l : Launch} {G : fr_G} {σ : fr_S} {q : Nat} (hq : PB q) {e : Nat} (hE : ME e) (hR : RF σ) {F : Nat → Nat → Nat} (hW : FW F) {m : Nat} (hm : m < 4) (hCP : CP σ q F) (hC : CM σ e F m) (hL : SLm σ e F m) {s : Nat} (hS : SE s) {v : Nat} (hv : v < F 6 m ∧ bgF F m v = true) (hv1 : v + 1 < F 6 m) (h6 : gI σ s 6 = nI v) : CT l G yy_Pg_returnedBefore rm_Pg_returnedBefore [.ref (q), .ref (e), .ref (s)] σ (some (.int (nI (rbC F m (some v))))) (σ) := by
  intro Post hp0
  have hp := hp0
  show PX l G yy_Pg_returnedBefore rm_Pg_returnedBefore _ false 742 0 0 0 [(0, .ref (q)), (1, .ref (e)), (2, .ref (s))] [] σ
  have kP := kd_P hq
  have kM := kd_M hE
  have kS := kd_S hS
  have h64 := hW.2.2.2.2.2.2.1 m
  have h04 := hW.1
  have h14 := hW.2.1
  have hF7 := hW.2.2.2.2.2.2.2 (40 * m + (v + 1))
  refine px_aload_n dx_Pg_returnedBefore_0 rfl ?_
  refine px_aload_n dx_Pg_returnedBefore_1 rfl ?_
  refine px_getI dx_Pg_returnedBefore_2 fl_Pg_94 kS.1 (by omega) rfl ?_
  refine px_eqi (y := nI (v)) h6 ?_
  refine px_cV (Y := yy_Pg_returnedBefore) (Yc := yy_Me_stepAt) (b := e) (As := [.int (nI (v))]) dx_Pg_returnedBefore_5 ml_Pg_99 mv_Me_stepAt np_Me_stepAt ⟨_, rfl⟩ (by decide) kM.1 (by omega) rfl (Nat.le_of_ble_eq_true rfl) (Nat.le_of_ble_eq_true rfl) rk_Pg_returnedBefore_Me_stepAt rfl (k_stepAt_N hE hR h64 hC.2.2.2.2.1 hL.1 hv.1 hv.2) zz_0 ?_
  refine px_astore_n (lv' := [(3, .ref (e + 5 + 2 * (v))), (0, .ref (q)), (1, .ref (e)), (2, .ref (s))]) dx_Pg_returnedBefore_8 (by decide) rfl ?_
  refine px_aload_n dx_Pg_returnedBefore_9 rfl ?_
  refine px_ifnull dx_Pg_returnedBefore_10 ?_
  refine px_aload_n dx_Pg_returnedBefore_13 rfl ?_
  refine px_getI dx_Pg_returnedBefore_14 fl_Pg_103 (kd_S (SE.s hE (by omega))).1 (by omega) rfl ?_
  refine px_eqi (y := nI (kdO (opS (F 7 (40 * m + v))))) (hL.2 v (by omega) hv.2).1.2.1 ?_
  refine px_bipush (v := 14) dx_Pg_returnedBefore_17 rfl ?_
  refine px_icmp_eqN (a := kdO (opS (F 7 (40 * m + v)))) (b := 14) dx_Pg_returnedBefore_19 (by (first | omega | exact Nat.lt_trans (kdO_lt _) (by decide))) (by (first | omega | exact Nat.lt_trans (kdO_lt _) (by decide))) (fun c_19 => ?_) (fun c_19 => ?_)
  · refine px_aload_n dx_Pg_returnedBefore_24 rfl ?_
    refine px_aload_n dx_Pg_returnedBefore_25 rfl ?_
    refine px_getI dx_Pg_returnedBefore_26 fl_Pg_106 (kd_S (SE.s hE (by omega))).1 (by omega) rfl ?_
    refine px_eqi (y := nI (F 7 (40 * m + (v + 1)))) ((hL.2 v (by omega) hv.2).1.2.2.2.2.2.2.1.trans ((dNum_14 c_19).trans (congrArg nI (uA_e hv1)))) ?_
    by_cases q_29 : F 7 (40 * m + (v + 1)) < F 0 0
    · refine px_cV (Y := yy_Pg_returnedBefore) (Yc := yy_Pg_methodAt) (b := q) (As := [.int (nI (F 7 (40 * m + (v + 1))))]) dx_Pg_returnedBefore_29 ml_Pg_109 mv_Pg_methodAt np_Pg_methodAt ⟨_, rfl⟩ (by decide) kP.1 (by omega) rfl (Nat.le_of_ble_eq_true rfl) (Nat.le_of_ble_eq_true rfl) rk_Pg_returnedBefore_Pg_methodAt rfl (k_methodAt_t hq hR h04 hCP.1 q_29) zz_0 ?_
      refine px_astore (lv' := [(4, .ref (q + 5 + 85 * (F 7 (40 * m + (v + 1))))), (3, .ref (e + 5 + 2 * (v))), (0, .ref (q)), (1, .ref (e)), (2, .ref (s))]) dx_Pg_returnedBefore_32 (by decide) rfl ?_
      refine px_aload dx_Pg_returnedBefore_34 rfl ?_
      refine px_ifnonnull dx_Pg_returnedBefore_36 ?_
      refine px_aload dx_Pg_returnedBefore_43 rfl ?_
      refine px_getI dx_Pg_returnedBefore_45 fl_Pg_113 (kd_M (ME.m hq (by omega))).1 (by omega) rfl ?_
      refine px_eqi (y := nI (tt (F 2 (F 7 (40 * m + (v + 1)))))) (hCP.2.2 _ (by omega)).1 ?_
      exact px_iret dx_Pg_returnedBefore_48 rfl (by (have e : rbC F m (some v) = tt (F 2 (F 7 (40 * m + (v + 1)))) := by ((show (if kdO (opS (F 7 (40 * m + v))) = 14 then (if F 7 (40 * m + (v + 1)) < F 0 0 then tt (F 2 (F 7 (40 * m + (v + 1)))) else 0) else 0) = _); rw [if_pos c_19, if_pos q_29])); rw [e] at hp; exact hp)
    · refine px_cV (Y := yy_Pg_returnedBefore) (Yc := yy_Pg_methodAt) (b := q) (As := [.int (nI (F 7 (40 * m + (v + 1))))]) dx_Pg_returnedBefore_29 ml_Pg_109 mv_Pg_methodAt np_Pg_methodAt ⟨_, rfl⟩ (by decide) kP.1 (by omega) rfl (Nat.le_of_ble_eq_true rfl) (Nat.le_of_ble_eq_true rfl) rk_Pg_returnedBefore_Pg_methodAt rfl (k_methodAt_f hq hR h04 hCP.1 (im_no h04 (by omega) q_29)) zz_0 ?_
      refine px_astoreN (lv' := [(4, .null), (3, .ref (e + 5 + 2 * (v))), (0, .ref (q)), (1, .ref (e)), (2, .ref (s))]) dx_Pg_returnedBefore_32 (by decide) rfl ?_
      refine px_aloadN dx_Pg_returnedBefore_34 rfl ?_
      refine px_ifnonnullN dx_Pg_returnedBefore_36 ?_
      refine px_iconst (v := 0) dx_Pg_returnedBefore_39 rfl ?_
      refine px_goto dx_Pg_returnedBefore_40 ?_
      exact px_iret dx_Pg_returnedBefore_48 rfl (by (have e : rbC F m (some v) = 0 := by ((show (if kdO (opS (F 7 (40 * m + v))) = 14 then (if F 7 (40 * m + (v + 1)) < F 0 0 then tt (F 2 (F 7 (40 * m + (v + 1)))) else 0) else 0) = _); rw [if_pos c_19, if_neg q_29])); rw [e] at hp; exact hp)
  · refine px_iconst (v := 0) dx_Pg_returnedBefore_22 rfl ?_
    exact px_iret dx_Pg_returnedBefore_23 rfl (by (have e : rbC F m (some v) = 0 := by ((show (if kdO (opS (F 7 (40 * m + v))) = 14 then (if F 7 (40 * m + (v + 1)) < F 0 0 then tt (F 2 (F 7 (40 * m + (v + 1)))) else 0) else 0) = _); rw [if_neg c_19])); rw [e] at hp; exact hp)
theorem k_retB {l : Launch} {G : fr_G} {σ : fr_S} {q : Nat} (hq : PB q) {e : Nat} (hE : ME e) (hR : RF σ) {F : Nat → Nat → Nat} (hW : FW F) {m : Nat} (hm : m < 4) (hCP : CP σ q F) (hC : CM σ e F m) (hL : SLm σ e F m) {s : Nat} (hS : SE s) {u : Nat} (hu : u < F 6 m) (h6 : gI σ s 6 = bfI (pbG (bgF F m) u)) : CT l G yy_Pg_returnedBefore rm_Pg_returnedBefore [.ref q, .ref e, .ref s] σ (some (.int (nI (rbC F m (pbG (bgF F m) u))))) σ := by
  cases hb : pbG (bgF F m) u with
  | none => exact k_retB_n hq hE hR hW hm hCP hC hL hS (by rw [h6, hb]; rfl)
  | some v =>
    have hv := pbG_lt hb
    exact k_retB_s hq hE hR hW hm hCP hC hL hS ⟨by omega, hv.2⟩ (by omega) (by rw [h6, hb]; rfl)
theorem rbC_b {F : Nat → Nat → Nat} (hW : FW F) (m : Nat) (bf : Option Nat) : rbC F m bf ≤ 5 := by
  unfold rbC
  repeat' split
  · exact Nat.zero_le _
  · exact tt_b _ (hW.2.2.1 _)
  · exact Nat.zero_le _
  · exact Nat.zero_le _

theorem k_regs {l : Launch} {G : fr_G} {σ : fr_S} {e : Nat} (hE : ME e) {s : Nat} (hS : SE s) {rg x y r f : Nat} {g : Option Nat} (hrg : rg ≤ 10) (h7 : gI σ e 7 = nI rg) (hx : x < 256) (hy : y < 256) (hr : r < 1000) (hf : f < 1000) (hg : ∀ j, g = some j → j < 1000) (hx7 : gI σ s 7 = nI x) (hx8 : gI σ s 8 = nI y) (hx9 : gI σ s 9 = nI r) (hx10 : gI σ s 10 = nI f) (h11 : gI σ s 11 = bfI g) : CT l G yy_Fo_registersAreThere rm_Fo_registersAreThere [.ref e, .ref s] σ (some (.int (b2i (rgC rg x y r f g)))) σ := by
  cases g with
  | none => exact k_regs_n hE hS hrg h7 hx hy hr hf hx7 hx8 hx9 hx10 h11
  | some j => exact k_regs_s hE hS hrg h7 hx hy hr hf (hg j rfl) hx7 hx8 hx9 hx10 h11
def kdC (F : Nat → Nat → Nat) (m u op w1 w2 nc : Nat) (x : Int32) : Bool :=
  if kdO op ∈ [2] then decide (tt (F 2 m) = 0) else if kdO op ∈ [3] then owC (tt (F 2 m)) (usO op) else if kdO op ∈ [5] then owC (rbC F m (pbG (bgF F m) u)) (stO op)
  else if kdO op ∈ [12, 13] then hfO F x else if kdO op ∈ [14] then decide (w1 < F 0 0) && (decide (nc ≤ 4 ∧ nc = pwF F w1) && agOK F m w1 w2 (F 3 w1)) else true
def ftC (F : Nat → Nat → Nat) (m u op w w1 w2 : Nat) : Bool := cpl F m u && (rgC (F 5 m) (stO op) (usO op) (dRes op w) (dFst op w w1) (dsN op w w1) && (goC F m u (kdO op) (szO op) (nI u + dNum op w w1) && kdC F m u op w1 w2 (opB w) (dNum op w w1)))
theorem dRes_lt {op w : Nat} (hw : w < 65536) : dRes op w < 1000 := by
  have := opA_lt w
  have := opN_lt hw
  unfold dRes
  split <;> omega
theorem dFst_lt {op w w1 : Nat} (hw : w < 65536) : dFst op w w1 < 1000 := by
  have := opA_lt w
  have := opB_lt hw
  have := opN_lt hw
  have := opS_lt w1
  unfold dFst
  repeat' split
  all_goals omega
theorem dsN_lt {op w w1 : Nat} (hw : w < 65536) (hw1 : w1 < 65536) : ∀ j, dsN op w w1 = some j → j < 1000 := by
  intro j h
  have := opB_lt hw
  have := opN_lt hw1
  unfold dsN at h
  repeat' split at h
  all_goals cases h
  all_goals omega

set_option maxRecDepth 100000 in
set_option maxHeartbeats 1000000 in
theorem k_fits {l : Launch} {G : fr_G} {σ : fr_S} {q : Nat} (hq : PB q) {e : Nat} (hE : ME e) (hR : RF σ) {F : Nat → Nat → Nat} (hW : FW F) {m : Nat} (hm : m < 4) (hCP : CP σ q F) (hC : CM σ e F m) (hL : SLm σ e F m) {s : Nat} (hS : SE s) {op w w1 w2 : Nat} (hw : w < 65536) (hw1 : w1 < 65536) (hw2 : w2 < 65536) (hop : op = opS w) {u : Nat} (hu : u < 40) (huF : u < F 6 m) (hSD : SD σ s w w1 w2) (hSU : SU σ s (stO op) (usO op)) (h5 : gI σ s 5 = b2i (cpl F m u)) (h6 : gI σ s 6 = bfI (pbG (bgF F m) u)) : CT l G yy_Fo_fits rm_Fo_fits [.ref (q), .ref (e), .int (nI (u)), .ref (s)] σ (some (.int (b2i (ftC F m u op w w1 w2)))) (σ) := by
  intro Post hp0
  have hp := hp0
  show PX l G yy_Fo_fits rm_Fo_fits _ false 742 0 0 0 [(0, .ref (q)), (1, .ref (e)), (2, .int (nI (u))), (3, .ref (s))] [] σ
  have kP := kd_P hq
  have kM := kd_M hE
  have kS := kd_S hS
  have h64 := hW.2.2.2.2.2.2.1 m
  have h04 := hW.1
  have h14 := hW.2.1
  subst hop
  obtain ⟨op, hop⟩ : ∃ o, o = opS w := ⟨_, rfl⟩
  rw [← hop] at hp hp0 hSU
  unfold SD at hSD
  rw [← hop] at hSD
  have hkb := kdO_b op (hop ▸ opS_lt w)
  have hrb := rbC_b hW m (pbG (bgF F m) u)
  have htb := tt_b _ (hW.2.2.1 m)
  refine px_aload_n dx_Fo_fits_0 rfl ?_
  refine px_getI dx_Fo_fits_1 fl_Fo_25 kS.1 (by omega) rfl ?_
  refine px_eqi (y := b2i (cpl F m u)) h5 ?_
  refine px_if_eqB dx_Fo_fits_4 (fun c_4 => ?_) (fun c_4 => ?_)
  · refine px_iconst (v := 0) dx_Fo_fits_24 rfl ?_
    exact px_zret dx_Fo_fits_25 rfl (by decide) (by (have e : ftC F m u op w w1 w2 = false := by (unfold ftC; rw [c_4]; rfl)); rw [e] at hp; exact hp)
  · refine px_aload_n dx_Fo_fits_7 rfl ?_
    refine px_aload_n dx_Fo_fits_8 rfl ?_
    refine px_cS (Y := yy_Fo_fits) (Yc := yy_Fo_registersAreThere) (As := [.ref (e), .ref (s)]) dx_Fo_fits_9 ml_Fo_31 ms_Fo_registersAreThere np_Fo_registersAreThere rfl (Nat.le_of_ble_eq_true rfl) (Nat.le_of_ble_eq_true rfl) rk_Fo_fits_Fo_registersAreThere rfl (k_regs (g := dsN op w w1) hE hS (hW.2.2.2.2.2.1 m) hC.2.2.2.1 (by omega) (by omega) (dRes_lt hw) (dFst_lt hw) (dsN_lt hw hw1) hSU.1 hSU.2 hSD.2.2.2.1 hSD.2.2.2.2.1 (hSD.2.2.2.2.2.1.trans dSnd_e)) zz_0 ?_
    refine px_if_eqB dx_Fo_fits_12 (fun c_12 => ?_) (fun c_12 => ?_)
    · refine px_iconst (v := 0) dx_Fo_fits_24 rfl ?_
      exact px_zret dx_Fo_fits_25 rfl (by decide) (by (have e : ftC F m u op w w1 w2 = false := by (unfold ftC; rw [c_4, c_12]; rfl)); rw [e] at hp; exact hp)
    · refine px_aload_n dx_Fo_fits_15 rfl ?_
      refine px_iload_n dx_Fo_fits_16 rfl ?_
      refine px_aload_n dx_Fo_fits_17 rfl ?_
      refine px_cS (Y := yy_Fo_fits) (Yc := yy_Fo_goesOnRightly) (As := [.ref (e), .int (nI (u)), .ref (s)]) dx_Fo_fits_18 ml_Fo_35 ms_Fo_goesOnRightly np_Fo_goesOnRightly rfl (Nat.le_of_ble_eq_true rfl) (Nat.le_of_ble_eq_true rfl) rk_Fo_fits_Fo_goesOnRightly rfl (k_goesOn (k := kdO op) (sz := szO op) (x0 := dNum op w w1) hE hW hm hR hC hL hS hu (by omega) (szO_le _) hSD.2.1 hSD.2.2.1 hSD.2.2.2.2.2.2.1) zz_0 ?_
      refine px_if_neB dx_Fo_fits_21 (fun c_21 => ?_) (fun c_21 => ?_)
      · refine px_aload_n dx_Fo_fits_26 rfl ?_
        refine px_getI dx_Fo_fits_27 fl_Fo_39 kS.1 (by omega) rfl ?_
        refine px_eqi (y := nI (kdO op)) hSD.2.1 ?_
        by_cases k_30_0 : kdO op ∈ ([2] : List Nat)
        · refine px_tabG (e := kdO op) (off := 103) [2] dx_Fo_fits_30 (by omega) k_30_0 (by decide) rfl ?_
          refine px_aload_n dx_Fo_fits_133 rfl ?_
          refine px_getI dx_Fo_fits_134 fl_Fo_70 kM.1 (by omega) rfl ?_
          refine px_eqi (y := nI (tt (F 2 m))) hC.1 ?_
          refine px_if_neN (a := tt (F 2 m)) dx_Fo_fits_137 (by omega) (fun c_137 => ?_) (fun c_137 => ?_)
          · refine px_iconst (v := 0) dx_Fo_fits_144 rfl ?_
            exact px_zret dx_Fo_fits_145 rfl (by decide) (by (have e : ftC F m u op w w1 w2 = (false) := by (unfold ftC; rw [c_4, c_12, c_21, Bool.true_and, Bool.true_and, Bool.true_and]; unfold kdC; (first | rw [if_pos k_30_0] | rw [if_neg k_30_0]); (first | rw [decide_eq_true c_137] | rw [decide_eq_false c_137]))); rw [e] at hp; exact hp)
          · refine px_iconst (v := 1) dx_Fo_fits_140 rfl ?_
            refine px_goto dx_Fo_fits_141 ?_
            exact px_zret dx_Fo_fits_145 rfl (by decide) (by (have e : ftC F m u op w w1 w2 = (true) := by (unfold ftC; rw [c_4, c_12, c_21, Bool.true_and, Bool.true_and, Bool.true_and]; unfold kdC; (first | rw [if_pos k_30_0] | rw [if_neg k_30_0]); (first | rw [decide_eq_true c_137] | rw [decide_eq_false c_137]))); rw [e] at hp; exact hp)
        by_cases k_30_1 : kdO op ∈ ([3] : List Nat)
        · refine px_tabG (e := kdO op) (off := 116) [3] dx_Fo_fits_30 (by omega) k_30_1 (by decide) rfl ?_
          refine px_aload_n dx_Fo_fits_146 rfl ?_
          refine px_getI dx_Fo_fits_147 fl_Fo_70 kM.1 (by omega) rfl ?_
          refine px_eqi (y := nI (tt (F 2 m))) hC.1 ?_
          refine px_aload_n dx_Fo_fits_150 rfl ?_
          refine px_getI dx_Fo_fits_151 fl_Fo_73 kS.1 (by omega) rfl ?_
          refine px_eqi (y := nI (usO op)) hSU.2 ?_
          refine px_cS (Y := yy_Fo_fits) (Yc := yy_Fo_isOfWidth) (As := [.int (nI (tt (F 2 m))), .int (nI (usO op))]) dx_Fo_fits_154 ml_Fo_66 ms_Fo_isOfWidth np_Fo_isOfWidth rfl (Nat.le_of_ble_eq_true rfl) (Nat.le_of_ble_eq_true rfl) rk_Fo_fits_Fo_isOfWidth rfl (k_isOfWidth (t := tt (F 2 m)) (a := usO op) (by omega) (by omega)) zz_0 ?_
          exact px_zret dx_Fo_fits_157 rfl (b2i_01 _) (by (have e : ftC F m u op w w1 w2 = (owC (tt (F 2 m)) (usO op)) := by (unfold ftC; rw [c_4, c_12, c_21, Bool.true_and, Bool.true_and, Bool.true_and]; unfold kdC; (first | rw [if_pos k_30_0] | rw [if_neg k_30_0]); (first | rw [if_pos k_30_1] | rw [if_neg k_30_1]))); rw [e] at hp; exact hp)
        by_cases k_30_2 : kdO op ∈ ([5] : List Nat)
        · refine px_tabG (e := kdO op) (off := 89) [5] dx_Fo_fits_30 (by omega) k_30_2 (by decide) rfl ?_
          refine px_aload_n dx_Fo_fits_119 rfl ?_
          refine px_aload_n dx_Fo_fits_120 rfl ?_
          refine px_aload_n dx_Fo_fits_121 rfl ?_
          refine px_cV (Y := yy_Fo_fits) (Yc := yy_Pg_returnedBefore) (b := q) (As := [.ref (e), .ref (s)]) dx_Fo_fits_122 ml_Fo_59 mv_Pg_returnedBefore np_Pg_returnedBefore ⟨_, rfl⟩ (by decide) kP.1 (by omega) rfl (Nat.le_of_ble_eq_true rfl) (Nat.le_of_ble_eq_true rfl) rk_Fo_fits_Pg_returnedBefore rfl (k_retB hq hE hR hW hm hCP hC hL hS huF h6) zz_0 ?_
          refine px_aload_n dx_Fo_fits_125 rfl ?_
          refine px_getI dx_Fo_fits_126 fl_Fo_63 kS.1 (by omega) rfl ?_
          refine px_eqi (y := nI (stO op)) hSU.1 ?_
          refine px_cS (Y := yy_Fo_fits) (Yc := yy_Fo_isOfWidth) (As := [.int (nI (rbC F m (pbG (bgF F m) u))), .int (nI (stO op))]) dx_Fo_fits_129 ml_Fo_66 ms_Fo_isOfWidth np_Fo_isOfWidth rfl (Nat.le_of_ble_eq_true rfl) (Nat.le_of_ble_eq_true rfl) rk_Fo_fits_Fo_isOfWidth rfl (k_isOfWidth (t := rbC F m (pbG (bgF F m) u)) (a := stO op) (by omega) (by omega)) zz_0 ?_
          exact px_zret dx_Fo_fits_132 rfl (b2i_01 _) (by (have e : ftC F m u op w w1 w2 = (owC (rbC F m (pbG (bgF F m) u)) (stO op)) := by (unfold ftC; rw [c_4, c_12, c_21, Bool.true_and, Bool.true_and, Bool.true_and]; unfold kdC; (first | rw [if_pos k_30_0] | rw [if_neg k_30_0]); (first | rw [if_pos k_30_1] | rw [if_neg k_30_1]); (first | rw [if_pos k_30_2] | rw [if_neg k_30_2]))); rw [e] at hp; exact hp)
        by_cases k_30_3 : kdO op ∈ ([12, 13] : List Nat)
        · refine px_tabG (e := kdO op) (off := 66) [12, 13] dx_Fo_fits_30 (by omega) k_30_3 (by decide) rfl ?_
          refine px_aload_n dx_Fo_fits_96 rfl ?_
          refine px_aload_n dx_Fo_fits_97 rfl ?_
          refine px_getI dx_Fo_fits_98 fl_Fo_42 kS.1 (by omega) rfl ?_
          refine px_eqi (y := dNum op w w1) hSD.2.2.2.2.2.2.1 ?_
          refine px_cV (Y := yy_Fo_fits) (Yc := yy_Pg_hasField) (b := q) (As := [.int (dNum op w w1)]) dx_Fo_fits_101 ml_Fo_45 mv_Pg_hasField np_Pg_hasField ⟨_, rfl⟩ (by decide) kP.1 (by omega) rfl (Nat.le_of_ble_eq_true rfl) (Nat.le_of_ble_eq_true rfl) rk_Fo_fits_Pg_hasField rfl (k_hasField hq hR h14 hCP.2.1) zz_0 ?_
          exact px_zret dx_Fo_fits_104 rfl (b2i_01 _) (by (have e : ftC F m u op w w1 w2 = (hfO F (dNum op w w1)) := by (unfold ftC; rw [c_4, c_12, c_21, Bool.true_and, Bool.true_and, Bool.true_and]; unfold kdC; (first | rw [if_pos k_30_0] | rw [if_neg k_30_0]); (first | rw [if_pos k_30_1] | rw [if_neg k_30_1]); (first | rw [if_pos k_30_2] | rw [if_neg k_30_2]); (first | rw [if_pos k_30_3] | rw [if_neg k_30_3]))); rw [e] at hp; exact hp)
        by_cases k_30_4 : kdO op ∈ ([14] : List Nat)
        · refine px_tabG (e := kdO op) (off := 75) [14] dx_Fo_fits_30 (by omega) k_30_4 (by decide) rfl ?_
          refine px_aload_n dx_Fo_fits_105 rfl ?_
          refine px_aload_n dx_Fo_fits_106 rfl ?_
          refine px_aload_n dx_Fo_fits_107 rfl ?_
          refine px_aload_n dx_Fo_fits_108 rfl ?_
          refine px_getI dx_Fo_fits_109 fl_Fo_42 kS.1 (by omega) rfl ?_
          refine px_eqi (y := dNum op w w1) hSD.2.2.2.2.2.2.1 ?_
          have h14k : kdO op = 14 := by simpa using k_30_4
          by_cases q_112 : w1 < F 0 0
          · refine px_cV (Y := yy_Fo_fits) (Yc := yy_Pg_methodAt) (b := q) (As := [.int (dNum op w w1)]) dx_Fo_fits_112 ml_Fo_51 mv_Pg_methodAt np_Pg_methodAt ⟨_, rfl⟩ (by decide) kP.1 (by omega) rfl (Nat.le_of_ble_eq_true rfl) (Nat.le_of_ble_eq_true rfl) rk_Fo_fits_Pg_methodAt rfl ((by (rw [dNum_14 h14k]; exact k_methodAt_t hq hR h04 hCP.1 q_112))) zz_0 ?_
            refine px_cS (Y := yy_Fo_fits) (Yc := yy_Fo_callFits) (As := [.ref (e), .ref (s), .ref (q + 5 + 85 * (w1))]) dx_Fo_fits_115 ml_Fo_55 ms_Fo_callFits np_Fo_callFits rfl (Nat.le_of_ble_eq_true rfl) (Nat.le_of_ble_eq_true rfl) rk_Fo_fits_Fo_callFits rfl (k_callFits (m := m) (c := w1) (w2 := w2) (nc := opB w) (g := q + 5 + 85 * w1) hE hR hW hm (by omega) hw2 hC.2.2.2.1 hS (ME.m hq (by omega)) (hCP.2.2 w1 (by omega)) (hSD.2.2.2.2.2.2.2 h14k).1 (hSD.2.2.2.2.2.2.2 h14k).2 (opB_lt hw)) zz_0 ?_
            exact px_zret dx_Fo_fits_118 rfl (b2i_01 _) (by (have e : ftC F m u op w w1 w2 = (decide (opB w ≤ 4 ∧ opB w = pwF F w1) && agOK F m w1 w2 (F 3 w1)) := by (unfold ftC; rw [c_4, c_12, c_21, Bool.true_and, Bool.true_and, Bool.true_and]; unfold kdC; (first | rw [if_pos k_30_0] | rw [if_neg k_30_0]); (first | rw [if_pos k_30_1] | rw [if_neg k_30_1]); (first | rw [if_pos k_30_2] | rw [if_neg k_30_2]); (first | rw [if_pos k_30_3] | rw [if_neg k_30_3]); (first | rw [if_pos k_30_4] | rw [if_neg k_30_4]); rw [decide_eq_true q_112, Bool.true_and])); rw [e] at hp; exact hp)
          · refine px_cV (Y := yy_Fo_fits) (Yc := yy_Pg_methodAt) (b := q) (As := [.int (dNum op w w1)]) dx_Fo_fits_112 ml_Fo_51 mv_Pg_methodAt np_Pg_methodAt ⟨_, rfl⟩ (by decide) kP.1 (by omega) rfl (Nat.le_of_ble_eq_true rfl) (Nat.le_of_ble_eq_true rfl) rk_Fo_fits_Pg_methodAt rfl ((by (rw [dNum_14 h14k]; exact k_methodAt_f hq hR h04 hCP.1 (im_no h04 (by omega) q_112)))) zz_0 ?_
            refine px_cS (Y := yy_Fo_fits) (Yc := yy_Fo_callFits) (As := [.ref (e), .ref (s), .null]) dx_Fo_fits_115 ml_Fo_55 ms_Fo_callFits np_Fo_callFits rfl (Nat.le_of_ble_eq_true rfl) (Nat.le_of_ble_eq_true rfl) rk_Fo_fits_Fo_callFits rfl (k_callFits_n) zz_0 ?_
            exact px_zret dx_Fo_fits_118 rfl (by decide) (by (have e : ftC F m u op w w1 w2 = (false) := by (unfold ftC; rw [c_4, c_12, c_21, Bool.true_and, Bool.true_and, Bool.true_and]; unfold kdC; (first | rw [if_pos k_30_0] | rw [if_neg k_30_0]); (first | rw [if_pos k_30_1] | rw [if_neg k_30_1]); (first | rw [if_pos k_30_2] | rw [if_neg k_30_2]); (first | rw [if_pos k_30_3] | rw [if_neg k_30_3]); (first | rw [if_pos k_30_4] | rw [if_neg k_30_4]); rw [decide_eq_false q_112]; rfl)); rw [e] at hp; exact hp)
        have kn_30 : kdO op ∉ ([2, 3, 5, 12, 13, 14] : List Nat) := by simp only [List.mem_cons, List.not_mem_nil, or_false, not_or] at *; omega
        refine px_tabD (e := kdO op) [2, 3, 5, 12, 13, 14] dx_Fo_fits_30 (by omega) kn_30 12 2 ⟨rfl, rfl⟩ (by decide) rfl ?_
        refine px_iconst (v := 1) dx_Fo_fits_158 rfl ?_
        exact px_zret dx_Fo_fits_159 rfl (by decide) (by (have e : ftC F m u op w w1 w2 = (true) := by (unfold ftC; rw [c_4, c_12, c_21, Bool.true_and, Bool.true_and, Bool.true_and]; unfold kdC; (first | rw [if_pos k_30_0] | rw [if_neg k_30_0]); (first | rw [if_pos k_30_1] | rw [if_neg k_30_1]); (first | rw [if_pos k_30_2] | rw [if_neg k_30_2]); (first | rw [if_pos k_30_3] | rw [if_neg k_30_3]); (first | rw [if_pos k_30_4] | rw [if_neg k_30_4]))); rw [e] at hp; exact hp)
      · refine px_iconst (v := 0) dx_Fo_fits_24 rfl ?_
        exact px_zret dx_Fo_fits_25 rfl (by decide) (by (have e : ftC F m u op w w1 w2 = false := by (unfold ftC; rw [c_4, c_12, c_21]; rfl)); rw [e] at hp; exact hp)
