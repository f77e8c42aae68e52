/-! the class: bytes and arguments are put -/
theorem k_appendF {l : Launch} {G : fr_G} {σ : fr_S} (hR : RF σ) {b : Nat → Nat} {n : Nat} (hB : KB σ b n) {x : Int32} (h : 220 ≤ n) : CT l G yy_Fb_append rm_Fb_append [.ref 1, .int x] σ (some (.int 0)) σ := fun Post hp => k_append hR hB Post (by
  rintro r σ' (⟨_, rfl, rfl⟩ | ⟨a, _, _⟩)
  · exact hp
  · omega)
theorem k_appendT {l : Launch} {G : fr_G} {σ : fr_S} (hR : RF σ) {b : Nat → Nat} {n : Nat} (hB : KB σ b n) {x : Int32} (h : n < 220) : CT l G yy_Fb_append rm_Fb_append [.ref 1, .int x] σ (some (.int 1)) (sI (sI σ 2 n (nI (byO x))) 1 1 (nI (n + 1))) := fun Post hp => k_append hR hB Post (by
  rintro r σ' (⟨a, _, _⟩ | ⟨_, rfl, rfl⟩)
  · omega
  · exact hp)
def adS (σ : fr_S) (c : Nat) (x : Int32) (w : Int64) (d : UInt64) : fr_S := sI (sD (sL (sI σ 4 c x) 5 c w) 6 c d) 3 3 (nI (c + 1))
theorem k_agAddF {l : Launch} {G : fr_G} {σ : fr_S} (hR : RF σ) {a : AV} (hA : KA σ a) {x : Int32} {w : Int64} {d : UInt64} (h : a.1 = 3) : CT l G yy_Ag_add rm_Ag_add [.ref 3, .int x, .long w, .double d] σ (some (.int 0)) σ := fun Post hp => k_agAdd hR hA.2.1 hA.1 Post (by
  rintro r σ' (⟨_, rfl, rfl⟩ | ⟨z, _, _⟩)
  · exact hp
  · omega)
theorem k_agAddT {l : Launch} {G : fr_G} {σ : fr_S} (hR : RF σ) {a : AV} (hA : KA σ a) {x : Int32} {w : Int64} {d : UInt64} (h : a.1 ≠ 3) : CT l G yy_Ag_add rm_Ag_add [.ref 3, .int x, .long w, .double d] σ (some (.int 1)) (adS σ a.1 x w d) := fun Post hp => k_agAdd hR hA.2.1 hA.1 Post (by
  have := hA.2.1
  rintro r σ' (⟨z, _, _⟩ | ⟨_, rfl, rfl⟩)
  · omega
  · exact hp)
theorem KA.ad {σ : fr_S} {a : AV} (h : KA σ a) (h3 : a.1 ≠ 3) {t : Nat} (ht : t ≤ 4) {w : Int64} {d : UInt64} : KA (adS σ a.1 (nI (tt t)) w d) (adA a t w d) := by
  obtain ⟨h1, h2, h3', h4, h5, h6⟩ := h
  refine ⟨gI_s, by show a.1 + 1 ≤ 3; omega, fun k hk => ?_, fun k => ?_, fun k hk => ?_, fun k hk => ?_⟩
  · show gI (sI (sD (sL (sI σ 4 a.1 (nI (tt t))) 5 a.1 w) 6 a.1 d) 3 3 (nI (a.1 + 1))) 4 k = nI (tt (va_up a.2.1 a.1 t k))
    rw [gI_n (Or.inl (by decide))]
    show gI (sI σ 4 a.1 (nI (tt t))) 4 k = _
    unfold va_up
    by_cases c : k = a.1
    · subst c
      rw [gI_s, if_pos rfl]
    · rw [gI_n (Or.inr c), if_neg c]
      exact h3' k hk
  · show va_up a.2.1 a.1 t k ≤ 4
    unfold va_up
    split
    · exact ht
    · exact h4 k
  · show gL (sL (sI σ 4 a.1 (nI (tt t))) 5 a.1 w) 5 k = va_up a.2.2.1 a.1 w k
    unfold va_up
    by_cases c : k = a.1
    · subst c
      rw [gL_s, if_pos rfl]
    · rw [gL_n (Or.inr c), if_neg c]
      exact h5 k hk
  · show gD (sD (sL (sI σ 4 a.1 (nI (tt t))) 5 a.1 w) 6 a.1 d) 6 k = va_up a.2.2.2 a.1 d k
    unfold va_up
    by_cases c : k = a.1
    · subst c
      rw [gD_s, if_pos rfl]
    · rw [gD_n (Or.inr c), if_neg c]
      exact h6 k hk

set_option maxRecDepth 100000 in
set_option maxHeartbeats 1000000 in
theorem k_putF {l : Launch} {G : fr_G} {σ : fr_S} (hR : RF σ) {b : Nat → Nat} {n : Nat} (hB : KB σ b n) {x : Int32} (h : 220 ≤ n) : CT l G yy_V_put rm_V_put [.ref (0), .int (x)] σ (some (.int (0))) (σ) := by
  intro Post hp0
  have hp := hp0
  show PX l G yy_V_put rm_V_put _ false 742 0 0 0 [(0, .ref (0)), (1, .int (x))] [] σ
  refine px_aload_n dx_V_put_0 rfl ?_
  refine px_getR (r := 1) dx_V_put_1 fl_V_10 rfl (by decide) rfl hR.1.1 ?_
  refine px_iload_n dx_V_put_4 rfl ?_
  refine px_cV (Y := yy_V_put) (Yc := yy_Fb_append) (b := 1) (As := [.int (x)]) dx_V_put_5 ml_V_44 mv_Fb_append np_Fb_append ⟨_, rfl⟩ (by decide) rfl (by decide) rfl (Nat.le_of_ble_eq_true rfl) (Nat.le_of_ble_eq_true rfl) rk_V_put_Fb_append rfl (k_appendF hR hB h) zz_0 ?_
  exact px_zret dx_V_put_8 rfl (by decide) (by exact hp)
set_option maxRecDepth 100000 in
set_option maxHeartbeats 1000000 in
theorem k_putT {l : Launch} {G : fr_G} {σ : fr_S} (hR : RF σ) {b : Nat → Nat} {n : Nat} (hB : KB σ b n) {x : Int32} (h : n < 220) : CT l G yy_V_put rm_V_put [.ref (0), .int (x)] σ (some (.int (1))) (sI (sI σ 2 n (nI (byO x))) 1 1 (nI (n + 1))) := by
  intro Post hp0
  have hp := hp0
  show PX l G yy_V_put rm_V_put _ false 742 0 0 0 [(0, .ref (0)), (1, .int (x))] [] σ
  refine px_aload_n dx_V_put_0 rfl ?_
  refine px_getR (r := 1) dx_V_put_1 fl_V_10 rfl (by decide) rfl hR.1.1 ?_
  refine px_iload_n dx_V_put_4 rfl ?_
  refine px_cV (Y := yy_V_put) (Yc := yy_Fb_append) (b := 1) (As := [.int (x)]) dx_V_put_5 ml_V_44 mv_Fb_append np_Fb_append ⟨_, rfl⟩ (by decide) rfl (by decide) rfl (Nat.le_of_ble_eq_true rfl) (Nat.le_of_ble_eq_true rfl) rk_V_put_Fb_append rfl (k_appendT hR hB h) zz_0 ?_
  exact px_zret dx_V_put_8 rfl (by decide) (by exact hp)
set_option maxRecDepth 100000 in
set_option maxHeartbeats 1000000 in
theorem k_pass1F {l : Launch} {G : fr_G} {σ : fr_S} (hR : RF σ) {a : AV} (hA : KA σ a) {v : Int64} (h : a.1 = 3) : CT l G yy_V_pass rm_V_pass [.ref (0), .int (1), .long (v)] σ (some (.int (0))) (σ) := by
  intro Post hp0
  have hp := hp0
  show PX l G yy_V_pass rm_V_pass _ false 742 0 0 0 [(0, .ref (0)), (1, .int (1)), (2, .long (v))] [] σ
  refine px_iload_n dx_V_pass_0 rfl ?_
  refine px_iconst (v := 1) dx_V_pass_1 rfl ?_
  refine px_icmp_ne dx_V_pass_2 (fun q => absurd q (by decide)) (fun _ => ?_)
  refine px_aload_n dx_V_pass_5 rfl ?_
  refine px_getR (r := 3) dx_V_pass_6 fl_V_19 rfl (by decide) rfl hR.1.2.1 ?_
  refine px_iconst (v := 1) dx_V_pass_9 rfl ?_
  refine px_lload_n dx_V_pass_10 rfl ?_
  refine px_l2i dx_V_pass_11 ?_
  refine px_i2l dx_V_pass_12 ?_
  refine px_dconst0 dx_V_pass_13 ?_
  refine px_cV (Y := yy_V_pass) (Yc := yy_Ag_add) (b := 3) (As := [.int (1), .long (v.toInt32.toInt64), .double (0)]) dx_V_pass_14 ml_V_76 mv_Ag_add np_Ag_add ⟨_, rfl⟩ (by decide) rfl (by decide) rfl (Nat.le_of_ble_eq_true rfl) (Nat.le_of_ble_eq_true rfl) rk_V_pass_Ag_add rfl (k_agAddF hR hA h) zz_0 ?_
  exact px_zret dx_V_pass_17 rfl (by decide) (by exact hp)
set_option maxRecDepth 100000 in
set_option maxHeartbeats 1000000 in
theorem k_pass1T {l : Launch} {G : fr_G} {σ : fr_S} (hR : RF σ) {a : AV} (hA : KA σ a) {v : Int64} (h : a.1 ≠ 3) : CT l G yy_V_pass rm_V_pass [.ref (0), .int (1), .long (v)] σ (some (.int (1))) (adS σ a.1 (1) (v.toInt32.toInt64) (0)) := by
  intro Post hp0
  have hp := hp0
  show PX l G yy_V_pass rm_V_pass _ false 742 0 0 0 [(0, .ref (0)), (1, .int (1)), (2, .long (v))] [] σ
  refine px_iload_n dx_V_pass_0 rfl ?_
  refine px_iconst (v := 1) dx_V_pass_1 rfl ?_
  refine px_icmp_ne dx_V_pass_2 (fun q => absurd q (by decide)) (fun _ => ?_)
  refine px_aload_n dx_V_pass_5 rfl ?_
  refine px_getR (r := 3) dx_V_pass_6 fl_V_19 rfl (by decide) rfl hR.1.2.1 ?_
  refine px_iconst (v := 1) dx_V_pass_9 rfl ?_
  refine px_lload_n dx_V_pass_10 rfl ?_
  refine px_l2i dx_V_pass_11 ?_
  refine px_i2l dx_V_pass_12 ?_
  refine px_dconst0 dx_V_pass_13 ?_
  refine px_cV (Y := yy_V_pass) (Yc := yy_Ag_add) (b := 3) (As := [.int (1), .long (v.toInt32.toInt64), .double (0)]) dx_V_pass_14 ml_V_76 mv_Ag_add np_Ag_add ⟨_, rfl⟩ (by decide) rfl (by decide) rfl (Nat.le_of_ble_eq_true rfl) (Nat.le_of_ble_eq_true rfl) rk_V_pass_Ag_add rfl (k_agAddT hR hA h) zz_0 ?_
  exact px_zret dx_V_pass_17 rfl (by decide) (by exact hp)
set_option maxRecDepth 100000 in
set_option maxHeartbeats 1000000 in
theorem k_pass2F {l : Launch} {G : fr_G} {σ : fr_S} (hR : RF σ) {a : AV} (hA : KA σ a) {v : Int64} (h : a.1 = 3) : CT l G yy_V_pass rm_V_pass [.ref (0), .int (2), .long (v)] σ (some (.int (0))) (σ) := by
  intro Post hp0
  have hp := hp0
  show PX l G yy_V_pass rm_V_pass _ false 742 0 0 0 [(0, .ref (0)), (1, .int (2)), (2, .long (v))] [] σ
  refine px_iload_n dx_V_pass_0 rfl ?_
  refine px_iconst (v := 1) dx_V_pass_1 rfl ?_
  refine px_icmp_ne dx_V_pass_2 (fun _ => ?_) (fun q => absurd q (by decide))
  refine px_iload_n dx_V_pass_18 rfl ?_
  refine px_iconst (v := 2) dx_V_pass_19 rfl ?_
  refine px_icmp_ne dx_V_pass_20 (fun q => absurd q (by decide)) (fun _ => ?_)
  refine px_aload_n dx_V_pass_23 rfl ?_
  refine px_getR (r := 3) dx_V_pass_24 fl_V_19 rfl (by decide) rfl hR.1.2.1 ?_
  refine px_iconst (v := 3) dx_V_pass_27 rfl ?_
  refine px_lload_n dx_V_pass_28 rfl ?_
  refine px_dconst0 dx_V_pass_29 ?_
  refine px_cV (Y := yy_V_pass) (Yc := yy_Ag_add) (b := 3) (As := [.int (3), .long (v), .double (0)]) dx_V_pass_30 ml_V_76 mv_Ag_add np_Ag_add ⟨_, rfl⟩ (by decide) rfl (by decide) rfl (Nat.le_of_ble_eq_true rfl) (Nat.le_of_ble_eq_true rfl) rk_V_pass_Ag_add rfl (k_agAddF hR hA h) zz_0 ?_
  refine px_if_eq dx_V_pass_33 (fun _ => ?_) (fun q => absurd (by decide) q)
  refine px_iconst (v := 0) dx_V_pass_40 rfl ?_
  exact px_zret dx_V_pass_41 rfl (by decide) (by exact hp)
set_option maxRecDepth 100000 in
set_option maxHeartbeats 1000000 in
theorem k_pass2T {l : Launch} {G : fr_G} {σ : fr_S} (hR : RF σ) {a : AV} (hA : KA σ a) {v : Int64} (h : a.1 ≠ 3) : CT l G yy_V_pass rm_V_pass [.ref (0), .int (2), .long (v)] σ (some (.int (1))) (adS σ a.1 (3) (v) (0)) := by
  intro Post hp0
  have hp := hp0
  show PX l G yy_V_pass rm_V_pass _ false 742 0 0 0 [(0, .ref (0)), (1, .int (2)), (2, .long (v))] [] σ
  refine px_iload_n dx_V_pass_0 rfl ?_
  refine px_iconst (v := 1) dx_V_pass_1 rfl ?_
  refine px_icmp_ne dx_V_pass_2 (fun _ => ?_) (fun q => absurd q (by decide))
  refine px_iload_n dx_V_pass_18 rfl ?_
  refine px_iconst (v := 2) dx_V_pass_19 rfl ?_
  refine px_icmp_ne dx_V_pass_20 (fun q => absurd q (by decide)) (fun _ => ?_)
  refine px_aload_n dx_V_pass_23 rfl ?_
  refine px_getR (r := 3) dx_V_pass_24 fl_V_19 rfl (by decide) rfl hR.1.2.1 ?_
  refine px_iconst (v := 3) dx_V_pass_27 rfl ?_
  refine px_lload_n dx_V_pass_28 rfl ?_
  refine px_dconst0 dx_V_pass_29 ?_
  refine px_cV (Y := yy_V_pass) (Yc := yy_Ag_add) (b := 3) (As := [.int (3), .long (v), .double (0)]) dx_V_pass_30 ml_V_76 mv_Ag_add np_Ag_add ⟨_, rfl⟩ (by decide) rfl (by decide) rfl (Nat.le_of_ble_eq_true rfl) (Nat.le_of_ble_eq_true rfl) rk_V_pass_Ag_add rfl (k_agAddT hR hA h) zz_0 ?_
  refine px_if_eq dx_V_pass_33 (fun q => absurd q (by decide)) (fun _ => ?_)
  refine px_iconst (v := 1) dx_V_pass_36 rfl ?_
  refine px_goto dx_V_pass_37 ?_
  exact px_zret dx_V_pass_41 rfl (by decide) (by exact hp)
set_option maxRecDepth 100000 in
set_option maxHeartbeats 1000000 in
theorem k_passN {l : Launch} {G : fr_G} {σ : fr_S} {x : Int32} {v : Int64} (h1 : ¬ x = 1) (h2 : ¬ x = 2) : CT l G yy_V_pass rm_V_pass [.ref (0), .int (x), .long (v)] σ (some (.int (0))) (σ) := by
  intro Post hp0
  have hp := hp0
  show PX l G yy_V_pass rm_V_pass _ false 742 0 0 0 [(0, .ref (0)), (1, .int (x)), (2, .long (v))] [] σ
  refine px_iload_n dx_V_pass_0 rfl ?_
  refine px_iconst (v := 1) dx_V_pass_1 rfl ?_
  refine px_icmp_ne dx_V_pass_2 (fun c_2 => ?_) (fun c_2 => ?_)
  · refine px_iload_n dx_V_pass_18 rfl ?_
    refine px_iconst (v := 2) dx_V_pass_19 rfl ?_
    refine px_icmp_ne dx_V_pass_20 (fun c_20 => ?_) (fun c_20 => ?_)
    · refine px_iconst (v := 0) dx_V_pass_40 rfl ?_
      exact px_zret dx_V_pass_41 rfl (by decide) (by exact hp)
    · exact absurd c_20 h2
  · exact absurd c_2 h1
set_option maxRecDepth 100000 in
set_option maxHeartbeats 1000000 in
theorem k_passR3F {l : Launch} {G : fr_G} {σ : fr_S} (hR : RF σ) {a : AV} (hA : KA σ a) {v : UInt64} (h : a.1 = 3) (hin : ¬ (Op.cmpValue (FP.dcmp v 14100770433297022976) .l < 0 ∨ ¬ Op.cmpValue (FP.dcmp v 4877398396442247168) .g ≤ 0)) (hf32 : vf_n32 (FP.d2f v)) (hf64 : vf_n64 (FP.f2d (FP.d2f v))) : CT l G yy_V_passReal rm_V_passReal [.ref (0), .int (3), .double (v)] σ (some (.int (0))) (σ) := by
  intro Post hp0
  have hp := hp0
  show PX l G yy_V_passReal rm_V_passReal _ false 742 0 0 0 [(0, .ref (0)), (1, .int (3)), (2, .double (v))] [] σ
  refine px_dload_n dx_V_passReal_0 rfl ?_
  refine px_ldc2d dx_V_passReal_1 kk_V_80 ?_
  refine px_dcmp dx_V_passReal_4 ?_
  refine px_if_lt dx_V_passReal_5 (fun c_5 => ?_) (fun c_5 => ?_)
  · exfalso; exact hin (by first | exact Or.inl c_5 | exact Or.inr (by simpa using c_13))
  · refine px_dload_n dx_V_passReal_8 rfl ?_
    refine px_ldc2d dx_V_passReal_9 kk_V_82 ?_
    refine px_dcmp dx_V_passReal_12 ?_
    refine px_if_le dx_V_passReal_13 (fun c_13 => ?_) (fun c_13 => ?_)
    · refine px_iload_n dx_V_passReal_18 rfl ?_
      refine px_iconst (v := 3) dx_V_passReal_19 rfl ?_
      refine px_icmp_ne dx_V_passReal_20 (fun q => absurd q (by decide)) (fun _ => ?_)
      refine px_aload_n dx_V_passReal_23 rfl ?_
      refine px_getR (r := 3) dx_V_passReal_24 fl_V_19 rfl (by decide) rfl hR.1.2.1 ?_
      refine px_iconst (v := 2) dx_V_passReal_27 rfl ?_
      refine px_lconst (v := 0) dx_V_passReal_28 rfl ?_
      refine px_dload_n dx_V_passReal_29 rfl ?_
      refine px_d2f dx_V_passReal_30 hf32 ?_
      refine px_f2d dx_V_passReal_31 hf64 ?_
      refine px_cV (Y := yy_V_passReal) (Yc := yy_Ag_add) (b := 3) (As := [.int (2), .long (0), .double (FP.f2d (FP.d2f v))]) dx_V_passReal_32 ml_V_76 mv_Ag_add np_Ag_add ⟨_, rfl⟩ (by decide) rfl (by decide) rfl (Nat.le_of_ble_eq_true rfl) (Nat.le_of_ble_eq_true rfl) rk_V_passReal_Ag_add rfl (k_agAddF hR hA h) zz_0 ?_
      exact px_zret dx_V_passReal_35 rfl (by decide) (by exact hp)
    · exfalso; exact hin (by first | exact Or.inl c_5 | exact Or.inr (by simpa using c_13))
set_option maxRecDepth 100000 in
set_option maxHeartbeats 1000000 in
theorem k_passR3T {l : Launch} {G : fr_G} {σ : fr_S} (hR : RF σ) {a : AV} (hA : KA σ a) {v : UInt64} (h : a.1 ≠ 3) (hin : ¬ (Op.cmpValue (FP.dcmp v 14100770433297022976) .l < 0 ∨ ¬ Op.cmpValue (FP.dcmp v 4877398396442247168) .g ≤ 0)) (hf32 : vf_n32 (FP.d2f v)) (hf64 : vf_n64 (FP.f2d (FP.d2f v))) : CT l G yy_V_passReal rm_V_passReal [.ref (0), .int (3), .double (v)] σ (some (.int (1))) (adS σ a.1 (2) (0) (FP.f2d (FP.d2f v))) := by
  intro Post hp0
  have hp := hp0
  show PX l G yy_V_passReal rm_V_passReal _ false 742 0 0 0 [(0, .ref (0)), (1, .int (3)), (2, .double (v))] [] σ
  refine px_dload_n dx_V_passReal_0 rfl ?_
  refine px_ldc2d dx_V_passReal_1 kk_V_80 ?_
  refine px_dcmp dx_V_passReal_4 ?_
  refine px_if_lt dx_V_passReal_5 (fun c_5 => ?_) (fun c_5 => ?_)
  · exfalso; exact hin (by first | exact Or.inl c_5 | exact Or.inr (by simpa using c_13))
  · refine px_dload_n dx_V_passReal_8 rfl ?_
    refine px_ldc2d dx_V_passReal_9 kk_V_82 ?_
    refine px_dcmp dx_V_passReal_12 ?_
    refine px_if_le dx_V_passReal_13 (fun c_13 => ?_) (fun c_13 => ?_)
    · refine px_iload_n dx_V_passReal_18 rfl ?_
      refine px_iconst (v := 3) dx_V_passReal_19 rfl ?_
      refine px_icmp_ne dx_V_passReal_20 (fun q => absurd q (by decide)) (fun _ => ?_)
      refine px_aload_n dx_V_passReal_23 rfl ?_
      refine px_getR (r := 3) dx_V_passReal_24 fl_V_19 rfl (by decide) rfl hR.1.2.1 ?_
      refine px_iconst (v := 2) dx_V_passReal_27 rfl ?_
      refine px_lconst (v := 0) dx_V_passReal_28 rfl ?_
      refine px_dload_n dx_V_passReal_29 rfl ?_
      refine px_d2f dx_V_passReal_30 hf32 ?_
      refine px_f2d dx_V_passReal_31 hf64 ?_
      refine px_cV (Y := yy_V_passReal) (Yc := yy_Ag_add) (b := 3) (As := [.int (2), .long (0), .double (FP.f2d (FP.d2f v))]) dx_V_passReal_32 ml_V_76 mv_Ag_add np_Ag_add ⟨_, rfl⟩ (by decide) rfl (by decide) rfl (Nat.le_of_ble_eq_true rfl) (Nat.le_of_ble_eq_true rfl) rk_V_passReal_Ag_add rfl (k_agAddT hR hA h) zz_0 ?_
      exact px_zret dx_V_passReal_35 rfl (by decide) (by exact hp)
    · exfalso; exact hin (by first | exact Or.inl c_5 | exact Or.inr (by simpa using c_13))
set_option maxRecDepth 100000 in
set_option maxHeartbeats 1000000 in
theorem k_passR4F {l : Launch} {G : fr_G} {σ : fr_S} (hR : RF σ) {a : AV} (hA : KA σ a) {v : UInt64} (h : a.1 = 3) (hin : ¬ (Op.cmpValue (FP.dcmp v 14100770433297022976) .l < 0 ∨ ¬ Op.cmpValue (FP.dcmp v 4877398396442247168) .g ≤ 0)) : CT l G yy_V_passReal rm_V_passReal [.ref (0), .int (4), .double (v)] σ (some (.int (0))) (σ) := by
  intro Post hp0
  have hp := hp0
  show PX l G yy_V_passReal rm_V_passReal _ false 742 0 0 0 [(0, .ref (0)), (1, .int (4)), (2, .double (v))] [] σ
  refine px_dload_n dx_V_passReal_0 rfl ?_
  refine px_ldc2d dx_V_passReal_1 kk_V_80 ?_
  refine px_dcmp dx_V_passReal_4 ?_
  refine px_if_lt dx_V_passReal_5 (fun c_5 => ?_) (fun c_5 => ?_)
  · exfalso; exact hin (by first | exact Or.inl c_5 | exact Or.inr (by simpa using c_13))
  · refine px_dload_n dx_V_passReal_8 rfl ?_
    refine px_ldc2d dx_V_passReal_9 kk_V_82 ?_
    refine px_dcmp dx_V_passReal_12 ?_
    refine px_if_le dx_V_passReal_13 (fun c_13 => ?_) (fun c_13 => ?_)
    · refine px_iload_n dx_V_passReal_18 rfl ?_
      refine px_iconst (v := 3) dx_V_passReal_19 rfl ?_
      refine px_icmp_ne dx_V_passReal_20 (fun _ => ?_) (fun q => absurd q (by decide))
      refine px_iload_n dx_V_passReal_36 rfl ?_
      refine px_iconst (v := 4) dx_V_passReal_37 rfl ?_
      refine px_icmp_ne dx_V_passReal_38 (fun q => absurd q (by decide)) (fun _ => ?_)
      refine px_aload_n dx_V_passReal_41 rfl ?_
      refine px_getR (r := 3) dx_V_passReal_42 fl_V_19 rfl (by decide) rfl hR.1.2.1 ?_
      refine px_iconst (v := 5) dx_V_passReal_45 rfl ?_
      refine px_lconst (v := 0) dx_V_passReal_46 rfl ?_
      refine px_dload_n dx_V_passReal_47 rfl ?_
      refine px_cV (Y := yy_V_passReal) (Yc := yy_Ag_add) (b := 3) (As := [.int (5), .long (0), .double (v)]) dx_V_passReal_48 ml_V_76 mv_Ag_add np_Ag_add ⟨_, rfl⟩ (by decide) rfl (by decide) rfl (Nat.le_of_ble_eq_true rfl) (Nat.le_of_ble_eq_true rfl) rk_V_passReal_Ag_add rfl (k_agAddF hR hA h) zz_0 ?_
      refine px_if_eq dx_V_passReal_51 (fun _ => ?_) (fun q => absurd (by decide) q)
      refine px_iconst (v := 0) dx_V_passReal_58 rfl ?_
      exact px_zret dx_V_passReal_59 rfl (by decide) (by exact hp)
    · exfalso; exact hin (by first | exact Or.inl c_5 | exact Or.inr (by simpa using c_13))
set_option maxRecDepth 100000 in
set_option maxHeartbeats 1000000 in
theorem k_passR4T {l : Launch} {G : fr_G} {σ : fr_S} (hR : RF σ) {a : AV} (hA : KA σ a) {v : UInt64} (h : a.1 ≠ 3) (hin : ¬ (Op.cmpValue (FP.dcmp v 14100770433297022976) .l < 0 ∨ ¬ Op.cmpValue (FP.dcmp v 4877398396442247168) .g ≤ 0)) : CT l G yy_V_passReal rm_V_passReal [.ref (0), .int (4), .double (v)] σ (some (.int (1))) (adS σ a.1 (5) (0) (v)) := by
  intro Post hp0
  have hp := hp0
  show PX l G yy_V_passReal rm_V_passReal _ false 742 0 0 0 [(0, .ref (0)), (1, .int (4)), (2, .double (v))] [] σ
  refine px_dload_n dx_V_passReal_0 rfl ?_
  refine px_ldc2d dx_V_passReal_1 kk_V_80 ?_
  refine px_dcmp dx_V_passReal_4 ?_
  refine px_if_lt dx_V_passReal_5 (fun c_5 => ?_) (fun c_5 => ?_)
  · exfalso; exact hin (by first | exact Or.inl c_5 | exact Or.inr (by simpa using c_13))
  · refine px_dload_n dx_V_passReal_8 rfl ?_
    refine px_ldc2d dx_V_passReal_9 kk_V_82 ?_
    refine px_dcmp dx_V_passReal_12 ?_
    refine px_if_le dx_V_passReal_13 (fun c_13 => ?_) (fun c_13 => ?_)
    · refine px_iload_n dx_V_passReal_18 rfl ?_
      refine px_iconst (v := 3) dx_V_passReal_19 rfl ?_
      refine px_icmp_ne dx_V_passReal_20 (fun _ => ?_) (fun q => absurd q (by decide))
      refine px_iload_n dx_V_passReal_36 rfl ?_
      refine px_iconst (v := 4) dx_V_passReal_37 rfl ?_
      refine px_icmp_ne dx_V_passReal_38 (fun q => absurd q (by decide)) (fun _ => ?_)
      refine px_aload_n dx_V_passReal_41 rfl ?_
      refine px_getR (r := 3) dx_V_passReal_42 fl_V_19 rfl (by decide) rfl hR.1.2.1 ?_
      refine px_iconst (v := 5) dx_V_passReal_45 rfl ?_
      refine px_lconst (v := 0) dx_V_passReal_46 rfl ?_
      refine px_dload_n dx_V_passReal_47 rfl ?_
      refine px_cV (Y := yy_V_passReal) (Yc := yy_Ag_add) (b := 3) (As := [.int (5), .long (0), .double (v)]) dx_V_passReal_48 ml_V_76 mv_Ag_add np_Ag_add ⟨_, rfl⟩ (by decide) rfl (by decide) rfl (Nat.le_of_ble_eq_true rfl) (Nat.le_of_ble_eq_true rfl) rk_V_passReal_Ag_add rfl (k_agAddT hR hA h) zz_0 ?_
      refine px_if_eq dx_V_passReal_51 (fun q => absurd q (by decide)) (fun _ => ?_)
      refine px_iconst (v := 1) dx_V_passReal_54 rfl ?_
      refine px_goto dx_V_passReal_55 ?_
      exact px_zret dx_V_passReal_59 rfl (by decide) (by exact hp)
    · exfalso; exact hin (by first | exact Or.inl c_5 | exact Or.inr (by simpa using c_13))
