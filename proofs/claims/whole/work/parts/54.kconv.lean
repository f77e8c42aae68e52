/-! the class: conversions, joins -/
def kvL (op : Nat) (w : Int64) (d : UInt64) : Int64 := if op ∈ [123] then (-w.toInt32).toInt64 else if op ∈ [125] then -w else if op ∈ [127, 128] then 0 else if op ∈ [130, 133] then 0 else if op ∈ [131, 134] then 0 else if op ∈ [132] then w.toInt32.toInt64 else if op ∈ [135, 138] then (FP.d2i d).toInt64 else if op ∈ [136, 139] then FP.d2l d else if op ∈ [140] then 0 else w
def kvE (op : Nat) (w : Int64) (d : UInt64) : UInt64 := if op ∈ [123] then 0 else if op ∈ [125] then 0 else if op ∈ [127, 128] then FP.dneg d else if op ∈ [130, 133] then FP.f2d (FP.l2f w) else if op ∈ [131, 134] then FP.l2d w else if op ∈ [132] then 0 else if op ∈ [135, 138] then 0 else if op ∈ [136, 139] then 0 else if op ∈ [140] then FP.f2d (FP.d2f d) else d

set_option maxRecDepth 100000 in
set_option maxHeartbeats 1000000 in
theorem k_convert {l : Launch} {G : fr_G} {σ : fr_S} {f : Nat} (hF : FE f) (hR : RF σ) {s : Nat} (hS : SE s) {op r1 to : Nat} (hop : op < 256) (h2 : gI σ s 2 = nI op) (h9t : gI σ s 9 = nI to) (h10 : gI σ s 10 = nI r1) (hr1 : r1 < 10) (hto : to < 10) (hd : dB (gD σ (f + 2) r1)) : CT l G yy_Mc_convert rm_Mc_convert [.ref (f), .ref (s)] σ none (sD (sL σ (f + 1) to (kvL op (gL σ (f + 1) r1) (gD σ (f + 2) r1))) (f + 2) to (kvE op (gL σ (f + 1) r1) (gD σ (f + 2) r1))) := by
  intro Post hp0
  have hp := hp0
  show PX l G yy_Mc_convert rm_Mc_convert _ false 742 0 0 0 [(0, .ref (f)), (1, .ref (s))] [] σ
  have kF := kd_F hF
  have kS := kd_S hS
  refine px_aload_n dx_Mc_convert_0 rfl ?_
  refine px_aload_n dx_Mc_convert_1 rfl ?_
  refine px_getI dx_Mc_convert_2 fl_Mc_106 kS.1 (by omega) rfl ?_
  refine px_eqi (y := nI (r1)) h10 ?_
  refine px_cV (Y := yy_Mc_convert) (Yc := yy_Fr_whole) (b := f) (As := [.int (nI (r1))]) dx_Mc_convert_5 ml_Mc_109 mv_Fr_whole np_Fr_whole ⟨_, rfl⟩ (by decide) kF.1 (by omega) rfl (Nat.le_of_ble_eq_true rfl) (Nat.le_of_ble_eq_true rfl) rk_Mc_convert_Fr_whole rfl (k_whole (r := r1) hF hR (by omega)) zz_0 ?_
  refine px_lstore_n (lv' := [(2, .long (gL σ (f + 1) r1)), (0, .ref (f)), (1, .ref (s))]) dx_Mc_convert_8 (by decide) rfl ?_
  refine px_aload_n dx_Mc_convert_9 rfl ?_
  refine px_aload_n dx_Mc_convert_10 rfl ?_
  refine px_getI dx_Mc_convert_11 fl_Mc_106 kS.1 (by omega) rfl ?_
  refine px_eqi (y := nI (r1)) h10 ?_
  refine px_cV (Y := yy_Mc_convert) (Yc := yy_Fr_realNumber) (b := f) (As := [.int (nI (r1))]) dx_Mc_convert_14 ml_Mc_126 mv_Fr_realNumber np_Fr_realNumber ⟨_, rfl⟩ (by decide) kF.1 (by omega) rfl (Nat.le_of_ble_eq_true rfl) (Nat.le_of_ble_eq_true rfl) rk_Mc_convert_Fr_realNumber rfl (k_real (r := r1) hF hR (by omega)) zz_0 ?_
  refine px_dstore (lv' := [(4, .double (gD σ (f + 2) r1)), (2, .long (gL σ (f + 1) r1)), (0, .ref (f)), (1, .ref (s))]) dx_Mc_convert_17 (by decide) rfl ?_
  refine px_aload_n dx_Mc_convert_19 rfl ?_
  refine px_getI dx_Mc_convert_20 fl_Mc_154 kS.1 (by omega) rfl ?_
  refine px_eqi (y := nI (op)) h2 ?_
  by_cases k_23_0 : op ∈ ([123] : List Nat)
  · refine px_tabG (e := op) (off := 85) [123] dx_Mc_convert_23 (by omega) k_23_0 (by decide) rfl ?_
    refine px_aload_n dx_Mc_convert_108 rfl ?_
    refine px_aload_n dx_Mc_convert_109 rfl ?_
    refine px_getI dx_Mc_convert_110 fl_Mc_83 kS.1 (by omega) rfl ?_
    refine px_eqi (y := nI (to)) h9t ?_
    refine px_lload_n dx_Mc_convert_113 rfl ?_
    refine px_l2i dx_Mc_convert_114 ?_
    refine px_ineg dx_Mc_convert_115 ?_
    refine px_i2l dx_Mc_convert_116 ?_
    refine px_dconst0 dx_Mc_convert_117 ?_
    refine px_cV (Y := yy_Mc_convert) (Yc := yy_Fr_set) (b := f) (As := [.int (nI (to)), .long ((-((gL σ (f + 1) r1).toInt32)).toInt64), .double (0)]) dx_Mc_convert_118 ml_Mc_86 mv_Fr_set np_Fr_set ⟨_, rfl⟩ (by decide) kF.1 (by omega) rfl (Nat.le_of_ble_eq_true rfl) (Nat.le_of_ble_eq_true rfl) rk_Mc_convert_Fr_set rfl (k_set (r := to) hF hR (by omega)) zz_0 ?_
    refine px_goto dx_Mc_convert_121 ?_
    exact px_vret dx_Mc_convert_255 rfl (by (have e1 : kvL op (gL σ (f + 1) r1) (gD σ (f + 2) r1) = (-((gL σ (f + 1) r1).toInt32)).toInt64 := by (unfold kvL; (first | rw [if_pos k_23_0] | rw [if_neg k_23_0]))); (have e2 : kvE op (gL σ (f + 1) r1) (gD σ (f + 2) r1) = 0 := by (unfold kvE; (first | rw [if_pos k_23_0] | rw [if_neg k_23_0]))); rw [e1, e2] at hp; exact hp)
  by_cases k_23_1 : op ∈ ([125] : List Nat)
  · refine px_tabG (e := op) (off := 101) [125] dx_Mc_convert_23 (by omega) k_23_1 (by decide) rfl ?_
    refine px_aload_n dx_Mc_convert_124 rfl ?_
    refine px_aload_n dx_Mc_convert_125 rfl ?_
    refine px_getI dx_Mc_convert_126 fl_Mc_83 kS.1 (by omega) rfl ?_
    refine px_eqi (y := nI (to)) h9t ?_
    refine px_lload_n dx_Mc_convert_129 rfl ?_
    refine px_lneg dx_Mc_convert_130 ?_
    refine px_dconst0 dx_Mc_convert_131 ?_
    refine px_cV (Y := yy_Mc_convert) (Yc := yy_Fr_set) (b := f) (As := [.int (nI (to)), .long (-(gL σ (f + 1) r1)), .double (0)]) dx_Mc_convert_132 ml_Mc_86 mv_Fr_set np_Fr_set ⟨_, rfl⟩ (by decide) kF.1 (by omega) rfl (Nat.le_of_ble_eq_true rfl) (Nat.le_of_ble_eq_true rfl) rk_Mc_convert_Fr_set rfl (k_set (r := to) hF hR (by omega)) zz_0 ?_
    refine px_goto dx_Mc_convert_135 ?_
    exact px_vret dx_Mc_convert_255 rfl (by (have e1 : kvL op (gL σ (f + 1) r1) (gD σ (f + 2) r1) = -(gL σ (f + 1) r1) := by (unfold kvL; (first | rw [if_pos k_23_0] | rw [if_neg k_23_0]); (first | rw [if_pos k_23_1] | rw [if_neg k_23_1]))); (have e2 : kvE op (gL σ (f + 1) r1) (gD σ (f + 2) r1) = 0 := by (unfold kvE; (first | rw [if_pos k_23_0] | rw [if_neg k_23_0]); (first | rw [if_pos k_23_1] | rw [if_neg k_23_1]))); rw [e1, e2] at hp; exact hp)
  by_cases k_23_2 : op ∈ ([127, 128] : List Nat)
  · refine px_tabG (e := op) (off := 115) [127, 128] dx_Mc_convert_23 (by omega) k_23_2 (by decide) rfl ?_
    refine px_aload_n dx_Mc_convert_138 rfl ?_
    refine px_aload_n dx_Mc_convert_139 rfl ?_
    refine px_getI dx_Mc_convert_140 fl_Mc_83 kS.1 (by omega) rfl ?_
    refine px_eqi (y := nI (to)) h9t ?_
    refine px_lconst (v := 0) dx_Mc_convert_143 rfl ?_
    refine px_dload dx_Mc_convert_144 rfl ?_
    refine px_dneg dx_Mc_convert_146 ?_
    refine px_cV (Y := yy_Mc_convert) (Yc := yy_Fr_set) (b := f) (As := [.int (nI (to)), .long (0), .double (FP.dneg (gD σ (f + 2) r1))]) dx_Mc_convert_147 ml_Mc_86 mv_Fr_set np_Fr_set ⟨_, rfl⟩ (by decide) kF.1 (by omega) rfl (Nat.le_of_ble_eq_true rfl) (Nat.le_of_ble_eq_true rfl) rk_Mc_convert_Fr_set rfl (k_set (r := to) hF hR (by omega)) zz_0 ?_
    refine px_goto dx_Mc_convert_150 ?_
    exact px_vret dx_Mc_convert_255 rfl (by (have e1 : kvL op (gL σ (f + 1) r1) (gD σ (f + 2) r1) = 0 := by (unfold kvL; (first | rw [if_pos k_23_0] | rw [if_neg k_23_0]); (first | rw [if_pos k_23_1] | rw [if_neg k_23_1]); (first | rw [if_pos k_23_2] | rw [if_neg k_23_2]))); (have e2 : kvE op (gL σ (f + 1) r1) (gD σ (f + 2) r1) = FP.dneg (gD σ (f + 2) r1) := by (unfold kvE; (first | rw [if_pos k_23_0] | rw [if_neg k_23_0]); (first | rw [if_pos k_23_1] | rw [if_neg k_23_1]); (first | rw [if_pos k_23_2] | rw [if_neg k_23_2]))); rw [e1, e2] at hp; exact hp)
  by_cases k_23_3 : op ∈ ([130, 133] : List Nat)
  · refine px_tabG (e := op) (off := 130) [130, 133] dx_Mc_convert_23 (by omega) k_23_3 (by decide) rfl ?_
    refine px_aload_n dx_Mc_convert_153 rfl ?_
    refine px_aload_n dx_Mc_convert_154 rfl ?_
    refine px_getI dx_Mc_convert_155 fl_Mc_83 kS.1 (by omega) rfl ?_
    refine px_eqi (y := nI (to)) h9t ?_
    refine px_lconst (v := 0) dx_Mc_convert_158 rfl ?_
    refine px_lload_n dx_Mc_convert_159 rfl ?_
    refine px_l2f dx_Mc_convert_160 ?_
    refine px_f2d dx_Mc_convert_161 (f2d_dB (l2f_fB _)).vn ?_
    refine px_cV (Y := yy_Mc_convert) (Yc := yy_Fr_set) (b := f) (As := [.int (nI (to)), .long (0), .double (FP.f2d (FP.l2f (gL σ (f + 1) r1)))]) dx_Mc_convert_162 ml_Mc_86 mv_Fr_set np_Fr_set ⟨_, rfl⟩ (by decide) kF.1 (by omega) rfl (Nat.le_of_ble_eq_true rfl) (Nat.le_of_ble_eq_true rfl) rk_Mc_convert_Fr_set rfl (k_set (r := to) hF hR (by omega)) zz_0 ?_
    refine px_goto dx_Mc_convert_165 ?_
    exact px_vret dx_Mc_convert_255 rfl (by (have e1 : kvL op (gL σ (f + 1) r1) (gD σ (f + 2) r1) = 0 := by (unfold kvL; (first | rw [if_pos k_23_0] | rw [if_neg k_23_0]); (first | rw [if_pos k_23_1] | rw [if_neg k_23_1]); (first | rw [if_pos k_23_2] | rw [if_neg k_23_2]); (first | rw [if_pos k_23_3] | rw [if_neg k_23_3]))); (have e2 : kvE op (gL σ (f + 1) r1) (gD σ (f + 2) r1) = FP.f2d (FP.l2f (gL σ (f + 1) r1)) := by (unfold kvE; (first | rw [if_pos k_23_0] | rw [if_neg k_23_0]); (first | rw [if_pos k_23_1] | rw [if_neg k_23_1]); (first | rw [if_pos k_23_2] | rw [if_neg k_23_2]); (first | rw [if_pos k_23_3] | rw [if_neg k_23_3]))); rw [e1, e2] at hp; exact hp)
  by_cases k_23_4 : op ∈ ([131, 134] : List Nat)
  · refine px_tabG (e := op) (off := 145) [131, 134] dx_Mc_convert_23 (by omega) k_23_4 (by decide) rfl ?_
    refine px_aload_n dx_Mc_convert_168 rfl ?_
    refine px_aload_n dx_Mc_convert_169 rfl ?_
    refine px_getI dx_Mc_convert_170 fl_Mc_83 kS.1 (by omega) rfl ?_
    refine px_eqi (y := nI (to)) h9t ?_
    refine px_lconst (v := 0) dx_Mc_convert_173 rfl ?_
    refine px_lload_n dx_Mc_convert_174 rfl ?_
    refine px_l2d dx_Mc_convert_175 ?_
    refine px_cV (Y := yy_Mc_convert) (Yc := yy_Fr_set) (b := f) (As := [.int (nI (to)), .long (0), .double (FP.l2d (gL σ (f + 1) r1))]) dx_Mc_convert_176 ml_Mc_86 mv_Fr_set np_Fr_set ⟨_, rfl⟩ (by decide) kF.1 (by omega) rfl (Nat.le_of_ble_eq_true rfl) (Nat.le_of_ble_eq_true rfl) rk_Mc_convert_Fr_set rfl (k_set (r := to) hF hR (by omega)) zz_0 ?_
    refine px_goto dx_Mc_convert_179 ?_
    exact px_vret dx_Mc_convert_255 rfl (by (have e1 : kvL op (gL σ (f + 1) r1) (gD σ (f + 2) r1) = 0 := by (unfold kvL; (first | rw [if_pos k_23_0] | rw [if_neg k_23_0]); (first | rw [if_pos k_23_1] | rw [if_neg k_23_1]); (first | rw [if_pos k_23_2] | rw [if_neg k_23_2]); (first | rw [if_pos k_23_3] | rw [if_neg k_23_3]); (first | rw [if_pos k_23_4] | rw [if_neg k_23_4]))); (have e2 : kvE op (gL σ (f + 1) r1) (gD σ (f + 2) r1) = FP.l2d (gL σ (f + 1) r1) := by (unfold kvE; (first | rw [if_pos k_23_0] | rw [if_neg k_23_0]); (first | rw [if_pos k_23_1] | rw [if_neg k_23_1]); (first | rw [if_pos k_23_2] | rw [if_neg k_23_2]); (first | rw [if_pos k_23_3] | rw [if_neg k_23_3]); (first | rw [if_pos k_23_4] | rw [if_neg k_23_4]))); rw [e1, e2] at hp; exact hp)
  by_cases k_23_5 : op ∈ ([132] : List Nat)
  · refine px_tabG (e := op) (off := 159) [132] dx_Mc_convert_23 (by omega) k_23_5 (by decide) rfl ?_
    refine px_aload_n dx_Mc_convert_182 rfl ?_
    refine px_aload_n dx_Mc_convert_183 rfl ?_
    refine px_getI dx_Mc_convert_184 fl_Mc_83 kS.1 (by omega) rfl ?_
    refine px_eqi (y := nI (to)) h9t ?_
    refine px_lload_n dx_Mc_convert_187 rfl ?_
    refine px_l2i dx_Mc_convert_188 ?_
    refine px_i2l dx_Mc_convert_189 ?_
    refine px_dconst0 dx_Mc_convert_190 ?_
    refine px_cV (Y := yy_Mc_convert) (Yc := yy_Fr_set) (b := f) (As := [.int (nI (to)), .long (((gL σ (f + 1) r1).toInt32).toInt64), .double (0)]) dx_Mc_convert_191 ml_Mc_86 mv_Fr_set np_Fr_set ⟨_, rfl⟩ (by decide) kF.1 (by omega) rfl (Nat.le_of_ble_eq_true rfl) (Nat.le_of_ble_eq_true rfl) rk_Mc_convert_Fr_set rfl (k_set (r := to) hF hR (by omega)) zz_0 ?_
    refine px_goto dx_Mc_convert_194 ?_
    exact px_vret dx_Mc_convert_255 rfl (by (have e1 : kvL op (gL σ (f + 1) r1) (gD σ (f + 2) r1) = ((gL σ (f + 1) r1).toInt32).toInt64 := by (unfold kvL; (first | rw [if_pos k_23_0] | rw [if_neg k_23_0]); (first | rw [if_pos k_23_1] | rw [if_neg k_23_1]); (first | rw [if_pos k_23_2] | rw [if_neg k_23_2]); (first | rw [if_pos k_23_3] | rw [if_neg k_23_3]); (first | rw [if_pos k_23_4] | rw [if_neg k_23_4]); (first | rw [if_pos k_23_5] | rw [if_neg k_23_5]))); (have e2 : kvE op (gL σ (f + 1) r1) (gD σ (f + 2) r1) = 0 := by (unfold kvE; (first | rw [if_pos k_23_0] | rw [if_neg k_23_0]); (first | rw [if_pos k_23_1] | rw [if_neg k_23_1]); (first | rw [if_pos k_23_2] | rw [if_neg k_23_2]); (first | rw [if_pos k_23_3] | rw [if_neg k_23_3]); (first | rw [if_pos k_23_4] | rw [if_neg k_23_4]); (first | rw [if_pos k_23_5] | rw [if_neg k_23_5]))); rw [e1, e2] at hp; exact hp)
  by_cases k_23_6 : op ∈ ([135, 138] : List Nat)
  · refine px_tabG (e := op) (off := 174) [135, 138] dx_Mc_convert_23 (by omega) k_23_6 (by decide) rfl ?_
    refine px_aload_n dx_Mc_convert_197 rfl ?_
    refine px_aload_n dx_Mc_convert_198 rfl ?_
    refine px_getI dx_Mc_convert_199 fl_Mc_83 kS.1 (by omega) rfl ?_
    refine px_eqi (y := nI (to)) h9t ?_
    refine px_dload dx_Mc_convert_202 rfl ?_
    refine px_d2i dx_Mc_convert_204 ?_
    refine px_i2l dx_Mc_convert_205 ?_
    refine px_dconst0 dx_Mc_convert_206 ?_
    refine px_cV (Y := yy_Mc_convert) (Yc := yy_Fr_set) (b := f) (As := [.int (nI (to)), .long ((FP.d2i (gD σ (f + 2) r1)).toInt64), .double (0)]) dx_Mc_convert_207 ml_Mc_86 mv_Fr_set np_Fr_set ⟨_, rfl⟩ (by decide) kF.1 (by omega) rfl (Nat.le_of_ble_eq_true rfl) (Nat.le_of_ble_eq_true rfl) rk_Mc_convert_Fr_set rfl (k_set (r := to) hF hR (by omega)) zz_0 ?_
    refine px_goto dx_Mc_convert_210 ?_
    exact px_vret dx_Mc_convert_255 rfl (by (have e1 : kvL op (gL σ (f + 1) r1) (gD σ (f + 2) r1) = (FP.d2i (gD σ (f + 2) r1)).toInt64 := by (unfold kvL; (first | rw [if_pos k_23_0] | rw [if_neg k_23_0]); (first | rw [if_pos k_23_1] | rw [if_neg k_23_1]); (first | rw [if_pos k_23_2] | rw [if_neg k_23_2]); (first | rw [if_pos k_23_3] | rw [if_neg k_23_3]); (first | rw [if_pos k_23_4] | rw [if_neg k_23_4]); (first | rw [if_pos k_23_5] | rw [if_neg k_23_5]); (first | rw [if_pos k_23_6] | rw [if_neg k_23_6]))); (have e2 : kvE op (gL σ (f + 1) r1) (gD σ (f + 2) r1) = 0 := by (unfold kvE; (first | rw [if_pos k_23_0] | rw [if_neg k_23_0]); (first | rw [if_pos k_23_1] | rw [if_neg k_23_1]); (first | rw [if_pos k_23_2] | rw [if_neg k_23_2]); (first | rw [if_pos k_23_3] | rw [if_neg k_23_3]); (first | rw [if_pos k_23_4] | rw [if_neg k_23_4]); (first | rw [if_pos k_23_5] | rw [if_neg k_23_5]); (first | rw [if_pos k_23_6] | rw [if_neg k_23_6]))); rw [e1, e2] at hp; exact hp)
  by_cases k_23_7 : op ∈ ([136, 139] : List Nat)
  · refine px_tabG (e := op) (off := 190) [136, 139] dx_Mc_convert_23 (by omega) k_23_7 (by decide) rfl ?_
    refine px_aload_n dx_Mc_convert_213 rfl ?_
    refine px_aload_n dx_Mc_convert_214 rfl ?_
    refine px_getI dx_Mc_convert_215 fl_Mc_83 kS.1 (by omega) rfl ?_
    refine px_eqi (y := nI (to)) h9t ?_
    refine px_dload dx_Mc_convert_218 rfl ?_
    refine px_d2l dx_Mc_convert_220 ?_
    refine px_dconst0 dx_Mc_convert_221 ?_
    refine px_cV (Y := yy_Mc_convert) (Yc := yy_Fr_set) (b := f) (As := [.int (nI (to)), .long (FP.d2l (gD σ (f + 2) r1)), .double (0)]) dx_Mc_convert_222 ml_Mc_86 mv_Fr_set np_Fr_set ⟨_, rfl⟩ (by decide) kF.1 (by omega) rfl (Nat.le_of_ble_eq_true rfl) (Nat.le_of_ble_eq_true rfl) rk_Mc_convert_Fr_set rfl (k_set (r := to) hF hR (by omega)) zz_0 ?_
    refine px_goto dx_Mc_convert_225 ?_
    exact px_vret dx_Mc_convert_255 rfl (by (have e1 : kvL op (gL σ (f + 1) r1) (gD σ (f + 2) r1) = FP.d2l (gD σ (f + 2) r1) := by (unfold kvL; (first | rw [if_pos k_23_0] | rw [if_neg k_23_0]); (first | rw [if_pos k_23_1] | rw [if_neg k_23_1]); (first | rw [if_pos k_23_2] | rw [if_neg k_23_2]); (first | rw [if_pos k_23_3] | rw [if_neg k_23_3]); (first | rw [if_pos k_23_4] | rw [if_neg k_23_4]); (first | rw [if_pos k_23_5] | rw [if_neg k_23_5]); (first | rw [if_pos k_23_6] | rw [if_neg k_23_6]); (first | rw [if_pos k_23_7] | rw [if_neg k_23_7]))); (have e2 : kvE op (gL σ (f + 1) r1) (gD σ (f + 2) r1) = 0 := by (unfold kvE; (first | rw [if_pos k_23_0] | rw [if_neg k_23_0]); (first | rw [if_pos k_23_1] | rw [if_neg k_23_1]); (first | rw [if_pos k_23_2] | rw [if_neg k_23_2]); (first | rw [if_pos k_23_3] | rw [if_neg k_23_3]); (first | rw [if_pos k_23_4] | rw [if_neg k_23_4]); (first | rw [if_pos k_23_5] | rw [if_neg k_23_5]); (first | rw [if_pos k_23_6] | rw [if_neg k_23_6]); (first | rw [if_pos k_23_7] | rw [if_neg k_23_7]))); rw [e1, e2] at hp; exact hp)
  by_cases k_23_8 : op ∈ ([140] : List Nat)
  · refine px_tabG (e := op) (off := 205) [140] dx_Mc_convert_23 (by omega) k_23_8 (by decide) rfl ?_
    refine px_aload_n dx_Mc_convert_228 rfl ?_
    refine px_aload_n dx_Mc_convert_229 rfl ?_
    refine px_getI dx_Mc_convert_230 fl_Mc_83 kS.1 (by omega) rfl ?_
    refine px_eqi (y := nI (to)) h9t ?_
    refine px_lconst (v := 0) dx_Mc_convert_233 rfl ?_
    refine px_dload dx_Mc_convert_234 rfl ?_
    refine px_d2f dx_Mc_convert_236 (d2f_fB hd).vn ?_
    refine px_f2d dx_Mc_convert_237 (f2d_dB (d2f_fB hd)).vn ?_
    refine px_cV (Y := yy_Mc_convert) (Yc := yy_Fr_set) (b := f) (As := [.int (nI (to)), .long (0), .double (FP.f2d (FP.d2f (gD σ (f + 2) r1)))]) dx_Mc_convert_238 ml_Mc_86 mv_Fr_set np_Fr_set ⟨_, rfl⟩ (by decide) kF.1 (by omega) rfl (Nat.le_of_ble_eq_true rfl) (Nat.le_of_ble_eq_true rfl) rk_Mc_convert_Fr_set rfl (k_set (r := to) hF hR (by omega)) zz_0 ?_
    refine px_goto dx_Mc_convert_241 ?_
    exact px_vret dx_Mc_convert_255 rfl (by (have e1 : kvL op (gL σ (f + 1) r1) (gD σ (f + 2) r1) = 0 := by (unfold kvL; (first | rw [if_pos k_23_0] | rw [if_neg k_23_0]); (first | rw [if_pos k_23_1] | rw [if_neg k_23_1]); (first | rw [if_pos k_23_2] | rw [if_neg k_23_2]); (first | rw [if_pos k_23_3] | rw [if_neg k_23_3]); (first | rw [if_pos k_23_4] | rw [if_neg k_23_4]); (first | rw [if_pos k_23_5] | rw [if_neg k_23_5]); (first | rw [if_pos k_23_6] | rw [if_neg k_23_6]); (first | rw [if_pos k_23_7] | rw [if_neg k_23_7]); (first | rw [if_pos k_23_8] | rw [if_neg k_23_8]))); (have e2 : kvE op (gL σ (f + 1) r1) (gD σ (f + 2) r1) = FP.f2d (FP.d2f (gD σ (f + 2) r1)) := by (unfold kvE; (first | rw [if_pos k_23_0] | rw [if_neg k_23_0]); (first | rw [if_pos k_23_1] | rw [if_neg k_23_1]); (first | rw [if_pos k_23_2] | rw [if_neg k_23_2]); (first | rw [if_pos k_23_3] | rw [if_neg k_23_3]); (first | rw [if_pos k_23_4] | rw [if_neg k_23_4]); (first | rw [if_pos k_23_5] | rw [if_neg k_23_5]); (first | rw [if_pos k_23_6] | rw [if_neg k_23_6]); (first | rw [if_pos k_23_7] | rw [if_neg k_23_7]); (first | rw [if_pos k_23_8] | rw [if_neg k_23_8]))); rw [e1, e2] at hp; exact hp)
  have kn_23 : op ∉ ([123, 125, 127, 128, 130, 131, 132, 133, 134, 135, 136, 138, 139, 140] : List Nat) := by simp only [List.mem_cons, List.not_mem_nil, or_false, not_or] at *; omega
  refine px_tabD (e := op) [123, 125, 127, 128, 130, 131, 132, 133, 134, 135, 136, 138, 139, 140] dx_Mc_convert_23 (by omega) kn_23 17 123 ⟨rfl, rfl⟩ (by decide) rfl ?_
  refine px_aload_n dx_Mc_convert_244 rfl ?_
  refine px_aload_n dx_Mc_convert_245 rfl ?_
  refine px_getI dx_Mc_convert_246 fl_Mc_83 kS.1 (by omega) rfl ?_
  refine px_eqi (y := nI (to)) h9t ?_
  refine px_lload_n dx_Mc_convert_249 rfl ?_
  refine px_dload dx_Mc_convert_250 rfl ?_
  refine px_cV (Y := yy_Mc_convert) (Yc := yy_Fr_set) (b := f) (As := [.int (nI (to)), .long (gL σ (f + 1) r1), .double (gD σ (f + 2) r1)]) dx_Mc_convert_252 ml_Mc_86 mv_Fr_set np_Fr_set ⟨_, rfl⟩ (by decide) kF.1 (by omega) rfl (Nat.le_of_ble_eq_true rfl) (Nat.le_of_ble_eq_true rfl) rk_Mc_convert_Fr_set rfl (k_set (r := to) hF hR (by omega)) zz_0 ?_
  exact px_vret dx_Mc_convert_255 rfl (by (have e1 : kvL op (gL σ (f + 1) r1) (gD σ (f + 2) r1) = gL σ (f + 1) r1 := by (unfold kvL; (first | rw [if_pos k_23_0] | rw [if_neg k_23_0]); (first | rw [if_pos k_23_1] | rw [if_neg k_23_1]); (first | rw [if_pos k_23_2] | rw [if_neg k_23_2]); (first | rw [if_pos k_23_3] | rw [if_neg k_23_3]); (first | rw [if_pos k_23_4] | rw [if_neg k_23_4]); (first | rw [if_pos k_23_5] | rw [if_neg k_23_5]); (first | rw [if_pos k_23_6] | rw [if_neg k_23_6]); (first | rw [if_pos k_23_7] | rw [if_neg k_23_7]); (first | rw [if_pos k_23_8] | rw [if_neg k_23_8]))); (have e2 : kvE op (gL σ (f + 1) r1) (gD σ (f + 2) r1) = gD σ (f + 2) r1 := by (unfold kvE; (first | rw [if_pos k_23_0] | rw [if_neg k_23_0]); (first | rw [if_pos k_23_1] | rw [if_neg k_23_1]); (first | rw [if_pos k_23_2] | rw [if_neg k_23_2]); (first | rw [if_pos k_23_3] | rw [if_neg k_23_3]); (first | rw [if_pos k_23_4] | rw [if_neg k_23_4]); (first | rw [if_pos k_23_5] | rw [if_neg k_23_5]); (first | rw [if_pos k_23_6] | rw [if_neg k_23_6]); (first | rw [if_pos k_23_7] | rw [if_neg k_23_7]); (first | rw [if_pos k_23_8] | rw [if_neg k_23_8]))); rw [e1, e2] at hp; exact hp)

theorem f2d_vn {x : UInt32} (h : vf_n32 x) : vf_n64 (FP.f2d x) := le_of_nn64 ((FP.Core.notNaN_iff _).mp (by rw [FP.f2d_core ((FP.Core.notNaN_iff32 x).mpr (vn.nn32 h)), FP.Core.f2d_nan]; exact (FP.Core.notNaN_iff32 x).mpr (vn.nn32 h)))
theorem jFc_vn {op : Nat} {a b : UInt32} (ha : fB a) (hb : fB b) (ho : 166 ≤ op ∧ op ≤ 169) : vf_n32 (jFc op a b) := by
  unfold jFc
  split
  · exact f0_fB.vn
  · rename_i h
    refine jF0_vn ha hb ?_
    by_cases e : op = 169
    · exact Or.inr (Or.inr (Or.inr (cmp0F hb fun q => h ⟨e, q⟩)))
    · omega
def cbW (op us : Nat) (w1 w2 : Int64) (d1 d2 : UInt64) : Int64 := if op = 49 then (cmJ w1 w2).toInt64 else if op = 45 ∨ op = 47 then (cmD d1 d2).toInt64 else if us = 1 then (jI op w1.toInt32 w2.toInt32).toInt64 else if us = 3 then jL op w1 w2 else 0
def cbE (op us : Nat) (w1 w2 : Int64) (d1 d2 : UInt64) : UInt64 := if op = 49 then 0 else if op = 45 ∨ op = 47 then 0 else if us = 1 then 0 else if us = 3 then 0 else if us = 2 then hlD (FP.f2d (jFc op (FP.d2f d1) (FP.d2f d2))) else hlD (jDc op d1 d2)
theorem c9 : ∀ op, op < 256 → kdO op = 9 → (op = 49 ∨ op = 45 ∨ op = 47) ∨ (usO op = 1 ∧ 144 ≤ op ∧ op ≤ 154) ∨ (usO op = 3 ∧ 155 ≤ op ∧ op ≤ 159) ∨ (usO op = 2 ∧ 166 ≤ op ∧ op ≤ 169) ∨ (usO op = 5 ∧ 171 ≤ op ∧ op ≤ 174) := by decide +kernel
def cbS (σ : fr_S) (f to op us : Nat) (w1 w2 : Int64) (d1 d2 : UInt64) : fr_S := if dvO op = true ∧ w2 = 0 then sI (sI σ 7 2 3) 7 3 1 else sD (sL σ (f + 1) to (cbW op us w1 w2 d1 d2)) (f + 2) to (cbE op us w1 w2 d1 d2)

set_option maxRecDepth 100000 in
set_option maxHeartbeats 1000000 in
theorem k_combine {l : Launch} {G : fr_G} {σ : fr_S} {f : Nat} (hF : FE f) (hR : RF σ) {s : Nat} (hS : SE s) {op us r1 r2 to : Nat} (hop : op < 256) (hk9 : kdO op = 9) (hus : us = usO op) (h2 : gI σ s 2 = nI op) (h8 : gI σ s 8 = nI us) (h9t : gI σ s 9 = nI to) (h10 : gI σ s 10 = nI r1) (h11 : gI σ s 11 = nI r2) (hr1 : r1 < 10) (hr2 : r2 < 10) (hto : to < 10) (hd1 : dB (gD σ (f + 2) r1)) (hd2 : dB (gD σ (f + 2) r2)) (hz : op = 147 ∨ op = 148 → ¬ (gL σ (f + 1) r2) = 0 → ¬ (gL σ (f + 1) r2).toInt32 = 0) : CT l G yy_Mc_combine rm_Mc_combine [.ref (7), .ref (f), .ref (s)] σ none (cbS σ f to op us (gL σ (f + 1) r1) (gL σ (f + 1) r2) (gD σ (f + 2) r1) (gD σ (f + 2) r2)) := by
  intro Post hp0
  have hp := hp0
  show PX l G yy_Mc_combine rm_Mc_combine _ false 742 0 0 0 [(0, .ref (7)), (1, .ref (f)), (2, .ref (s))] [] σ
  have kF := kd_F hF
  have kS := kd_S hS
  have h9 := c9 op hop hk9
  rw [← hus] at h9
  refine px_aload_n dx_Mc_combine_0 rfl ?_
  refine px_getI dx_Mc_combine_1 fl_Mc_154 kS.1 (by omega) rfl ?_
  refine px_eqi (y := nI (op)) h2 ?_
  refine px_istore_n (lv' := [(3, .int (nI (op))), (0, .ref (7)), (1, .ref (f)), (2, .ref (s))]) dx_Mc_combine_4 (by decide) rfl ?_
  refine px_aload_n dx_Mc_combine_5 rfl ?_
  refine px_aload_n dx_Mc_combine_6 rfl ?_
  refine px_getI dx_Mc_combine_7 fl_Mc_106 kS.1 (by omega) rfl ?_
  refine px_eqi (y := nI (r1)) h10 ?_
  refine px_cV (Y := yy_Mc_combine) (Yc := yy_Fr_whole) (b := f) (As := [.int (nI (r1))]) dx_Mc_combine_10 ml_Mc_109 mv_Fr_whole np_Fr_whole ⟨_, rfl⟩ (by decide) kF.1 (by omega) rfl (Nat.le_of_ble_eq_true rfl) (Nat.le_of_ble_eq_true rfl) rk_Mc_combine_Fr_whole rfl (k_whole (r := r1) hF hR (by omega)) zz_0 ?_
  refine px_lstore (lv' := [(4, .long (gL σ (f + 1) r1)), (3, .int (nI (op))), (0, .ref (7)), (1, .ref (f)), (2, .ref (s))]) dx_Mc_combine_13 (by decide) rfl ?_
  refine px_aload_n dx_Mc_combine_15 rfl ?_
  refine px_aload_n dx_Mc_combine_16 rfl ?_
  refine px_getI dx_Mc_combine_17 fl_Mc_151 kS.1 (by omega) rfl ?_
  refine px_eqi (y := nI (r2)) h11 ?_
  refine px_cV (Y := yy_Mc_combine) (Yc := yy_Fr_whole) (b := f) (As := [.int (nI (r2))]) dx_Mc_combine_20 ml_Mc_109 mv_Fr_whole np_Fr_whole ⟨_, rfl⟩ (by decide) kF.1 (by omega) rfl (Nat.le_of_ble_eq_true rfl) (Nat.le_of_ble_eq_true rfl) rk_Mc_combine_Fr_whole rfl (k_whole (r := r2) hF hR (by omega)) zz_0 ?_
  refine px_lstore (lv' := [(6, .long (gL σ (f + 1) r2)), (4, .long (gL σ (f + 1) r1)), (3, .int (nI (op))), (0, .ref (7)), (1, .ref (f)), (2, .ref (s))]) dx_Mc_combine_23 (by decide) rfl ?_
  refine px_aload_n dx_Mc_combine_25 rfl ?_
  refine px_aload_n dx_Mc_combine_26 rfl ?_
  refine px_getI dx_Mc_combine_27 fl_Mc_106 kS.1 (by omega) rfl ?_
  refine px_eqi (y := nI (r1)) h10 ?_
  refine px_cV (Y := yy_Mc_combine) (Yc := yy_Fr_realNumber) (b := f) (As := [.int (nI (r1))]) dx_Mc_combine_30 ml_Mc_126 mv_Fr_realNumber np_Fr_realNumber ⟨_, rfl⟩ (by decide) kF.1 (by omega) rfl (Nat.le_of_ble_eq_true rfl) (Nat.le_of_ble_eq_true rfl) rk_Mc_combine_Fr_realNumber rfl (k_real (r := r1) hF hR (by omega)) zz_0 ?_
  refine px_dstore (lv' := [(8, .double (gD σ (f + 2) r1)), (6, .long (gL σ (f + 1) r2)), (4, .long (gL σ (f + 1) r1)), (3, .int (nI (op))), (0, .ref (7)), (1, .ref (f)), (2, .ref (s))]) dx_Mc_combine_33 (by decide) rfl ?_
  refine px_aload_n dx_Mc_combine_35 rfl ?_
  refine px_aload_n dx_Mc_combine_36 rfl ?_
  refine px_getI dx_Mc_combine_37 fl_Mc_151 kS.1 (by omega) rfl ?_
  refine px_eqi (y := nI (r2)) h11 ?_
  refine px_cV (Y := yy_Mc_combine) (Yc := yy_Fr_realNumber) (b := f) (As := [.int (nI (r2))]) dx_Mc_combine_40 ml_Mc_126 mv_Fr_realNumber np_Fr_realNumber ⟨_, rfl⟩ (by decide) kF.1 (by omega) rfl (Nat.le_of_ble_eq_true rfl) (Nat.le_of_ble_eq_true rfl) rk_Mc_combine_Fr_realNumber rfl (k_real (r := r2) hF hR (by omega)) zz_0 ?_
  refine px_dstore (lv' := [(10, .double (gD σ (f + 2) r2)), (8, .double (gD σ (f + 2) r1)), (6, .long (gL σ (f + 1) r2)), (4, .long (gL σ (f + 1) r1)), (3, .int (nI (op))), (0, .ref (7)), (1, .ref (f)), (2, .ref (s))]) dx_Mc_combine_43 (by decide) rfl ?_
  refine px_iload_n dx_Mc_combine_45 rfl ?_
  refine px_cS (Y := yy_Mc_combine) (Yc := yy_Ar_divides) (As := [.int (nI (op))]) dx_Mc_combine_46 ml_Mc_157 ms_Ar_divides np_Ar_divides rfl (Nat.le_of_ble_eq_true rfl) (Nat.le_of_ble_eq_true rfl) rk_Mc_combine_Ar_divides rfl (k_divides hop) zz_0 ?_
  refine px_if_eqB dx_Mc_combine_49 (fun c_49 => ?_) (fun c_49 => ?_)
  · refine px_iload_n dx_Mc_combine_67 rfl ?_
    refine px_bipush (v := 49) dx_Mc_combine_68 rfl ?_
    refine px_icmp_neN (a := op) (b := 49) dx_Mc_combine_70 (by omega) (by omega) (fun c_70 => ?_) (fun c_70 => ?_)
    · refine px_iload_n dx_Mc_combine_93 rfl ?_
      refine px_bipush (v := 45) dx_Mc_combine_94 rfl ?_
      refine px_icmp_eqN (a := op) (b := 45) dx_Mc_combine_96 (by omega) (by omega) (fun c_96 => ?_) (fun c_96 => ?_)
      · refine px_aload_n dx_Mc_combine_105 rfl ?_
        refine px_aload_n dx_Mc_combine_106 rfl ?_
        refine px_getI dx_Mc_combine_107 fl_Mc_83 kS.1 (by omega) rfl ?_
        refine px_eqi (y := nI (to)) h9t ?_
        refine px_dload dx_Mc_combine_110 rfl ?_
        refine px_dload dx_Mc_combine_112 rfl ?_
        refine px_cS (Y := yy_Mc_combine) (Yc := yy_Ar_compareReals) (As := [.double (gD σ (f + 2) r1), .double (gD σ (f + 2) r2)]) dx_Mc_combine_114 ml_Mc_169 ms_Ar_compareReals np_Ar_compareReals rfl (Nat.le_of_ble_eq_true rfl) (Nat.le_of_ble_eq_true rfl) rk_Mc_combine_Ar_compareReals rfl (k_compareReals) zz_0 ?_
        refine px_i2l dx_Mc_combine_117 ?_
        refine px_dconst0 dx_Mc_combine_118 ?_
        refine px_cV (Y := yy_Mc_combine) (Yc := yy_Fr_set) (b := f) (As := [.int (nI (to)), .long ((cmD (gD σ (f + 2) r1) (gD σ (f + 2) r2)).toInt64), .double (0)]) dx_Mc_combine_119 ml_Mc_86 mv_Fr_set np_Fr_set ⟨_, rfl⟩ (by decide) kF.1 (by omega) rfl (Nat.le_of_ble_eq_true rfl) (Nat.le_of_ble_eq_true rfl) rk_Mc_combine_Fr_set rfl (k_set (r := to) hF hR (by omega)) zz_0 ?_
        refine px_goto dx_Mc_combine_122 ?_
        exact px_vret dx_Mc_combine_246 rfl (by (have e : cbS σ f to op us (gL σ (f + 1) r1) (gL σ (f + 1) r2) (gD σ (f + 2) r1) (gD σ (f + 2) r2) = sD (sL σ (f + 1) to ((cmD (gD σ (f + 2) r1) (gD σ (f + 2) r2)).toInt64)) (f + 2) to (0) := by ((have e1 : cbW op us (gL σ (f + 1) r1) (gL σ (f + 1) r2) (gD σ (f + 2) r1) (gD σ (f + 2) r2) = (cmD (gD σ (f + 2) r1) (gD σ (f + 2) r2)).toInt64 := by (unfold cbW; rw [if_neg (show ¬ op = 49 by omega), if_pos (show op = 45 ∨ op = 47 by omega)])); (have e2 : cbE op us (gL σ (f + 1) r1) (gL σ (f + 1) r2) (gD σ (f + 2) r1) (gD σ (f + 2) r2) = 0 := by (unfold cbE; rw [if_neg (show ¬ op = 49 by omega), if_pos (show op = 45 ∨ op = 47 by omega)])); unfold cbS; rw [if_neg (by first | exact fun z => c_56 (by rw [z.2]; exact lg_cmp_s _) | exact fun z => absurd (c_49.symm.trans z.1) (by decide)), e1, e2])); rw [e] at hp; exact hp)
      · refine px_iload_n dx_Mc_combine_99 rfl ?_
        refine px_bipush (v := 47) dx_Mc_combine_100 rfl ?_
        refine px_icmp_neN (a := op) (b := 47) dx_Mc_combine_102 (by omega) (by omega) (fun c_102 => ?_) (fun c_102 => ?_)
        · refine px_aload_n dx_Mc_combine_125 rfl ?_
          refine px_getI dx_Mc_combine_126 fl_Mc_123 kS.1 (by omega) rfl ?_
          refine px_eqi (y := nI (us)) h8 ?_
          refine px_iconst (v := 1) dx_Mc_combine_129 rfl ?_
          refine px_icmp_neN (a := us) (b := 1) dx_Mc_combine_130 (by omega) (by omega) (fun c_130 => ?_) (fun c_130 => ?_)
          · refine px_aload_n dx_Mc_combine_156 rfl ?_
            refine px_getI dx_Mc_combine_157 fl_Mc_123 kS.1 (by omega) rfl ?_
            refine px_eqi (y := nI (us)) h8 ?_
            refine px_iconst (v := 3) dx_Mc_combine_160 rfl ?_
            refine px_icmp_neN (a := us) (b := 3) dx_Mc_combine_161 (by omega) (by omega) (fun c_161 => ?_) (fun c_161 => ?_)
            · refine px_aload_n dx_Mc_combine_184 rfl ?_
              refine px_getI dx_Mc_combine_185 fl_Mc_123 kS.1 (by omega) rfl ?_
              refine px_eqi (y := nI (us)) h8 ?_
              refine px_iconst (v := 2) dx_Mc_combine_188 rfl ?_
              refine px_icmp_neN (a := us) (b := 2) dx_Mc_combine_189 (by omega) (by omega) (fun c_189 => ?_) (fun c_189 => ?_)
              · refine px_iload_n dx_Mc_combine_222 rfl ?_
                refine px_dload dx_Mc_combine_223 rfl ?_
                refine px_dload dx_Mc_combine_225 rfl ?_
                refine px_cS (Y := yy_Mc_combine) (Yc := yy_Ar_ofDoubles) (As := [.int (nI (op)), .double (gD σ (f + 2) r1), .double (gD σ (f + 2) r2)]) dx_Mc_combine_227 ml_Mc_189 ms_Ar_ofDoubles np_Ar_ofDoubles rfl (Nat.le_of_ble_eq_true rfl) (Nat.le_of_ble_eq_true rfl) rk_Mc_combine_Ar_ofDoubles rfl (k_ofDoubles hop (by rcases h9 with h9 | h9 | h9 | h9 | h9 <;> omega) hd1 hd2 (fun _ q => cmp0D hd2 q)) zz_0 ?_
                refine px_dstore (lv' := [(12, .double (jDc op (gD σ (f + 2) r1) (gD σ (f + 2) r2))), (10, .double (gD σ (f + 2) r2)), (8, .double (gD σ (f + 2) r1)), (6, .long (gL σ (f + 1) r2)), (4, .long (gL σ (f + 1) r1)), (3, .int (nI (op))), (0, .ref (7)), (1, .ref (f)), (2, .ref (s))]) dx_Mc_combine_230 (by decide) rfl ?_
                refine px_aload_n dx_Mc_combine_232 rfl ?_
                refine px_aload_n dx_Mc_combine_233 rfl ?_
                refine px_getI dx_Mc_combine_234 fl_Mc_83 kS.1 (by omega) rfl ?_
                refine px_eqi (y := nI (to)) h9t ?_
                refine px_lconst (v := 0) dx_Mc_combine_237 rfl ?_
                refine px_dload dx_Mc_combine_238 rfl ?_
                refine px_cS (Y := yy_Mc_combine) (Yc := yy_Ar_held) (As := [.double (jDc op (gD σ (f + 2) r1) (gD σ (f + 2) r2))]) dx_Mc_combine_240 ml_Mc_185 ms_Ar_held np_Ar_held rfl (Nat.le_of_ble_eq_true rfl) (Nat.le_of_ble_eq_true rfl) rk_Mc_combine_Ar_held rfl (k_held) zz_0 ?_
                refine px_cV (Y := yy_Mc_combine) (Yc := yy_Fr_set) (b := f) (As := [.int (nI (to)), .long (0), .double (hlD (jDc op (gD σ (f + 2) r1) (gD σ (f + 2) r2)))]) dx_Mc_combine_243 ml_Mc_86 mv_Fr_set np_Fr_set ⟨_, rfl⟩ (by decide) kF.1 (by omega) rfl (Nat.le_of_ble_eq_true rfl) (Nat.le_of_ble_eq_true rfl) rk_Mc_combine_Fr_set rfl (k_set (r := to) hF hR (by omega)) zz_0 ?_
                exact px_vret dx_Mc_combine_246 rfl (by (have e : cbS σ f to op us (gL σ (f + 1) r1) (gL σ (f + 1) r2) (gD σ (f + 2) r1) (gD σ (f + 2) r2) = sD (sL σ (f + 1) to (0)) (f + 2) to (hlD (jDc op (gD σ (f + 2) r1) (gD σ (f + 2) r2))) := by ((have e1 : cbW op us (gL σ (f + 1) r1) (gL σ (f + 1) r2) (gD σ (f + 2) r1) (gD σ (f + 2) r2) = 0 := by (unfold cbW; rw [if_neg (show ¬ op = 49 by omega), if_neg (show ¬ (op = 45 ∨ op = 47) by omega), if_neg (show ¬ us = 1 by omega), if_neg (show ¬ us = 3 by omega)])); (have e2 : cbE op us (gL σ (f + 1) r1) (gL σ (f + 1) r2) (gD σ (f + 2) r1) (gD σ (f + 2) r2) = hlD (jDc op (gD σ (f + 2) r1) (gD σ (f + 2) r2)) := by (unfold cbE; rw [if_neg (show ¬ op = 49 by omega), if_neg (show ¬ (op = 45 ∨ op = 47) by omega), if_neg (show ¬ us = 1 by omega), if_neg (show ¬ us = 3 by omega), if_neg (show ¬ us = 2 by omega)])); unfold cbS; rw [if_neg (by first | exact fun z => c_56 (by rw [z.2]; exact lg_cmp_s _) | exact fun z => absurd (c_49.symm.trans z.1) (by decide)), e1, e2])); rw [e] at hp; exact hp)
              · refine px_iload_n dx_Mc_combine_192 rfl ?_
                refine px_dload dx_Mc_combine_193 rfl ?_
                refine px_d2f dx_Mc_combine_195 (d2f_fB hd1).vn ?_
                refine px_dload dx_Mc_combine_196 rfl ?_
                refine px_d2f dx_Mc_combine_198 (d2f_fB hd2).vn ?_
                refine px_cS (Y := yy_Mc_combine) (Yc := yy_Ar_ofFloats) (As := [.int (nI (op)), .float (FP.d2f (gD σ (f + 2) r1)), .float (FP.d2f (gD σ (f + 2) r2))]) dx_Mc_combine_199 ml_Mc_181 ms_Ar_ofFloats np_Ar_ofFloats rfl (Nat.le_of_ble_eq_true rfl) (Nat.le_of_ble_eq_true rfl) rk_Mc_combine_Ar_ofFloats rfl (k_ofFloats hop (by rcases h9 with h9 | h9 | h9 | h9 | h9 <;> omega) (d2f_fB hd1) (d2f_fB hd2) (fun _ q => cmp0F (d2f_fB hd2) q)) zz_0 ?_
                refine px_fstore (lv' := [(12, .float (jFc op (FP.d2f (gD σ (f + 2) r1)) (FP.d2f (gD σ (f + 2) r2)))), (10, .double (gD σ (f + 2) r2)), (8, .double (gD σ (f + 2) r1)), (6, .long (gL σ (f + 1) r2)), (4, .long (gL σ (f + 1) r1)), (3, .int (nI (op))), (0, .ref (7)), (1, .ref (f)), (2, .ref (s))]) dx_Mc_combine_202 (by decide) rfl ?_
                refine px_aload_n dx_Mc_combine_204 rfl ?_
                refine px_aload_n dx_Mc_combine_205 rfl ?_
                refine px_getI dx_Mc_combine_206 fl_Mc_83 kS.1 (by omega) rfl ?_
                refine px_eqi (y := nI (to)) h9t ?_
                refine px_lconst (v := 0) dx_Mc_combine_209 rfl ?_
                refine px_fload dx_Mc_combine_210 rfl ?_
                refine px_f2d dx_Mc_combine_212 (f2d_vn (jFc_vn (d2f_fB hd1) (d2f_fB hd2) (by rcases h9 with h9 | h9 | h9 | h9 | h9 <;> omega))) ?_
                refine px_cS (Y := yy_Mc_combine) (Yc := yy_Ar_held) (As := [.double (FP.f2d (jFc op (FP.d2f (gD σ (f + 2) r1)) (FP.d2f (gD σ (f + 2) r2))))]) dx_Mc_combine_213 ml_Mc_185 ms_Ar_held np_Ar_held rfl (Nat.le_of_ble_eq_true rfl) (Nat.le_of_ble_eq_true rfl) rk_Mc_combine_Ar_held rfl (k_held) zz_0 ?_
                refine px_cV (Y := yy_Mc_combine) (Yc := yy_Fr_set) (b := f) (As := [.int (nI (to)), .long (0), .double (hlD (FP.f2d (jFc op (FP.d2f (gD σ (f + 2) r1)) (FP.d2f (gD σ (f + 2) r2)))))]) dx_Mc_combine_216 ml_Mc_86 mv_Fr_set np_Fr_set ⟨_, rfl⟩ (by decide) kF.1 (by omega) rfl (Nat.le_of_ble_eq_true rfl) (Nat.le_of_ble_eq_true rfl) rk_Mc_combine_Fr_set rfl (k_set (r := to) hF hR (by omega)) zz_0 ?_
                refine px_goto dx_Mc_combine_219 ?_
                exact px_vret dx_Mc_combine_246 rfl (by (have e : cbS σ f to op us (gL σ (f + 1) r1) (gL σ (f + 1) r2) (gD σ (f + 2) r1) (gD σ (f + 2) r2) = sD (sL σ (f + 1) to (0)) (f + 2) to (hlD (FP.f2d (jFc op (FP.d2f (gD σ (f + 2) r1)) (FP.d2f (gD σ (f + 2) r2))))) := by ((have e1 : cbW op us (gL σ (f + 1) r1) (gL σ (f + 1) r2) (gD σ (f + 2) r1) (gD σ (f + 2) r2) = 0 := by (unfold cbW; rw [if_neg (show ¬ op = 49 by omega), if_neg (show ¬ (op = 45 ∨ op = 47) by omega), if_neg (show ¬ us = 1 by omega), if_neg (show ¬ us = 3 by omega)])); (have e2 : cbE op us (gL σ (f + 1) r1) (gL σ (f + 1) r2) (gD σ (f + 2) r1) (gD σ (f + 2) r2) = hlD (FP.f2d (jFc op (FP.d2f (gD σ (f + 2) r1)) (FP.d2f (gD σ (f + 2) r2)))) := by (unfold cbE; rw [if_neg (show ¬ op = 49 by omega), if_neg (show ¬ (op = 45 ∨ op = 47) by omega), if_neg (show ¬ us = 1 by omega), if_neg (show ¬ us = 3 by omega), if_pos (show us = 2 by omega)])); unfold cbS; rw [if_neg (by first | exact fun z => c_56 (by rw [z.2]; exact lg_cmp_s _) | exact fun z => absurd (c_49.symm.trans z.1) (by decide)), e1, e2])); rw [e] at hp; exact hp)
            · refine px_aload_n dx_Mc_combine_164 rfl ?_
              refine px_aload_n dx_Mc_combine_165 rfl ?_
              refine px_getI dx_Mc_combine_166 fl_Mc_83 kS.1 (by omega) rfl ?_
              refine px_eqi (y := nI (to)) h9t ?_
              refine px_iload_n dx_Mc_combine_169 rfl ?_
              refine px_lload dx_Mc_combine_170 rfl ?_
              refine px_lload dx_Mc_combine_172 rfl ?_
              refine px_cS (Y := yy_Mc_combine) (Yc := yy_Ar_ofLongs) (As := [.int (nI (op)), .long (gL σ (f + 1) r1), .long (gL σ (f + 1) r2)]) dx_Mc_combine_174 ml_Mc_177 ms_Ar_ofLongs np_Ar_ofLongs rfl (Nat.le_of_ble_eq_true rfl) (Nat.le_of_ble_eq_true rfl) rk_Mc_combine_Ar_ofLongs rfl (k_ofLongs hop (by rcases h9 with h9 | h9 | h9 | h9 | h9 <;> omega) (by intro q z; first | exact c_56 (by rw [z]; exact lg_cmp_s _) | (rcases q with q | q <;> (rw [q] at c_49; exact absurd c_49 (by decide))))) zz_0 ?_
              refine px_dconst0 dx_Mc_combine_177 ?_
              refine px_cV (Y := yy_Mc_combine) (Yc := yy_Fr_set) (b := f) (As := [.int (nI (to)), .long (jL op (gL σ (f + 1) r1) (gL σ (f + 1) r2)), .double (0)]) dx_Mc_combine_178 ml_Mc_86 mv_Fr_set np_Fr_set ⟨_, rfl⟩ (by decide) kF.1 (by omega) rfl (Nat.le_of_ble_eq_true rfl) (Nat.le_of_ble_eq_true rfl) rk_Mc_combine_Fr_set rfl (k_set (r := to) hF hR (by omega)) zz_0 ?_
              refine px_goto dx_Mc_combine_181 ?_
              exact px_vret dx_Mc_combine_246 rfl (by (have e : cbS σ f to op us (gL σ (f + 1) r1) (gL σ (f + 1) r2) (gD σ (f + 2) r1) (gD σ (f + 2) r2) = sD (sL σ (f + 1) to (jL op (gL σ (f + 1) r1) (gL σ (f + 1) r2))) (f + 2) to (0) := by ((have e1 : cbW op us (gL σ (f + 1) r1) (gL σ (f + 1) r2) (gD σ (f + 2) r1) (gD σ (f + 2) r2) = jL op (gL σ (f + 1) r1) (gL σ (f + 1) r2) := by (unfold cbW; rw [if_neg (show ¬ op = 49 by omega), if_neg (show ¬ (op = 45 ∨ op = 47) by omega), if_neg (show ¬ us = 1 by omega), if_pos (show us = 3 by omega)])); (have e2 : cbE op us (gL σ (f + 1) r1) (gL σ (f + 1) r2) (gD σ (f + 2) r1) (gD σ (f + 2) r2) = 0 := by (unfold cbE; rw [if_neg (show ¬ op = 49 by omega), if_neg (show ¬ (op = 45 ∨ op = 47) by omega), if_neg (show ¬ us = 1 by omega), if_pos (show us = 3 by omega)])); unfold cbS; rw [if_neg (by first | exact fun z => c_56 (by rw [z.2]; exact lg_cmp_s _) | exact fun z => absurd (c_49.symm.trans z.1) (by decide)), e1, e2])); rw [e] at hp; exact hp)
          · refine px_aload_n dx_Mc_combine_133 rfl ?_
            refine px_aload_n dx_Mc_combine_134 rfl ?_
            refine px_getI dx_Mc_combine_135 fl_Mc_83 kS.1 (by omega) rfl ?_
            refine px_eqi (y := nI (to)) h9t ?_
            refine px_iload_n dx_Mc_combine_138 rfl ?_
            refine px_lload dx_Mc_combine_139 rfl ?_
            refine px_l2i dx_Mc_combine_141 ?_
            refine px_lload dx_Mc_combine_142 rfl ?_
            refine px_l2i dx_Mc_combine_144 ?_
            refine px_cS (Y := yy_Mc_combine) (Yc := yy_Ar_ofInts) (As := [.int (nI (op)), .int ((gL σ (f + 1) r1).toInt32), .int ((gL σ (f + 1) r2).toInt32)]) dx_Mc_combine_145 ml_Mc_173 ms_Ar_ofInts np_Ar_ofInts rfl (Nat.le_of_ble_eq_true rfl) (Nat.le_of_ble_eq_true rfl) rk_Mc_combine_Ar_ofInts rfl (k_ofInts hop (by intro q; first | exact hz q (fun z => c_56 (by rw [z]; exact lg_cmp_s _)) | (exfalso; rcases q with q | q <;> (rw [q] at c_49; exact absurd c_49 (by decide))))) zz_0 ?_
            refine px_i2l dx_Mc_combine_148 ?_
            refine px_dconst0 dx_Mc_combine_149 ?_
            refine px_cV (Y := yy_Mc_combine) (Yc := yy_Fr_set) (b := f) (As := [.int (nI (to)), .long ((jI op (gL σ (f + 1) r1).toInt32 (gL σ (f + 1) r2).toInt32).toInt64), .double (0)]) dx_Mc_combine_150 ml_Mc_86 mv_Fr_set np_Fr_set ⟨_, rfl⟩ (by decide) kF.1 (by omega) rfl (Nat.le_of_ble_eq_true rfl) (Nat.le_of_ble_eq_true rfl) rk_Mc_combine_Fr_set rfl (k_set (r := to) hF hR (by omega)) zz_0 ?_
            refine px_goto dx_Mc_combine_153 ?_
            exact px_vret dx_Mc_combine_246 rfl (by (have e : cbS σ f to op us (gL σ (f + 1) r1) (gL σ (f + 1) r2) (gD σ (f + 2) r1) (gD σ (f + 2) r2) = sD (sL σ (f + 1) to ((jI op (gL σ (f + 1) r1).toInt32 (gL σ (f + 1) r2).toInt32).toInt64)) (f + 2) to (0) := by ((have e1 : cbW op us (gL σ (f + 1) r1) (gL σ (f + 1) r2) (gD σ (f + 2) r1) (gD σ (f + 2) r2) = (jI op (gL σ (f + 1) r1).toInt32 (gL σ (f + 1) r2).toInt32).toInt64 := by (unfold cbW; rw [if_neg (show ¬ op = 49 by omega), if_neg (show ¬ (op = 45 ∨ op = 47) by omega), if_pos (show us = 1 by omega)])); (have e2 : cbE op us (gL σ (f + 1) r1) (gL σ (f + 1) r2) (gD σ (f + 2) r1) (gD σ (f + 2) r2) = 0 := by (unfold cbE; rw [if_neg (show ¬ op = 49 by omega), if_neg (show ¬ (op = 45 ∨ op = 47) by omega), if_pos (show us = 1 by omega)])); unfold cbS; rw [if_neg (by first | exact fun z => c_56 (by rw [z.2]; exact lg_cmp_s _) | exact fun z => absurd (c_49.symm.trans z.1) (by decide)), e1, e2])); rw [e] at hp; exact hp)
        · refine px_aload_n dx_Mc_combine_105 rfl ?_
          refine px_aload_n dx_Mc_combine_106 rfl ?_
          refine px_getI dx_Mc_combine_107 fl_Mc_83 kS.1 (by omega) rfl ?_
          refine px_eqi (y := nI (to)) h9t ?_
          refine px_dload dx_Mc_combine_110 rfl ?_
          refine px_dload dx_Mc_combine_112 rfl ?_
          refine px_cS (Y := yy_Mc_combine) (Yc := yy_Ar_compareReals) (As := [.double (gD σ (f + 2) r1), .double (gD σ (f + 2) r2)]) dx_Mc_combine_114 ml_Mc_169 ms_Ar_compareReals np_Ar_compareReals rfl (Nat.le_of_ble_eq_true rfl) (Nat.le_of_ble_eq_true rfl) rk_Mc_combine_Ar_compareReals rfl (k_compareReals) zz_0 ?_
          refine px_i2l dx_Mc_combine_117 ?_
          refine px_dconst0 dx_Mc_combine_118 ?_
          refine px_cV (Y := yy_Mc_combine) (Yc := yy_Fr_set) (b := f) (As := [.int (nI (to)), .long ((cmD (gD σ (f + 2) r1) (gD σ (f + 2) r2)).toInt64), .double (0)]) dx_Mc_combine_119 ml_Mc_86 mv_Fr_set np_Fr_set ⟨_, rfl⟩ (by decide) kF.1 (by omega) rfl (Nat.le_of_ble_eq_true rfl) (Nat.le_of_ble_eq_true rfl) rk_Mc_combine_Fr_set rfl (k_set (r := to) hF hR (by omega)) zz_0 ?_
          refine px_goto dx_Mc_combine_122 ?_
          exact px_vret dx_Mc_combine_246 rfl (by (have e : cbS σ f to op us (gL σ (f + 1) r1) (gL σ (f + 1) r2) (gD σ (f + 2) r1) (gD σ (f + 2) r2) = sD (sL σ (f + 1) to ((cmD (gD σ (f + 2) r1) (gD σ (f + 2) r2)).toInt64)) (f + 2) to (0) := by ((have e1 : cbW op us (gL σ (f + 1) r1) (gL σ (f + 1) r2) (gD σ (f + 2) r1) (gD σ (f + 2) r2) = (cmD (gD σ (f + 2) r1) (gD σ (f + 2) r2)).toInt64 := by (unfold cbW; rw [if_neg (show ¬ op = 49 by omega), if_pos (show op = 45 ∨ op = 47 by omega)])); (have e2 : cbE op us (gL σ (f + 1) r1) (gL σ (f + 1) r2) (gD σ (f + 2) r1) (gD σ (f + 2) r2) = 0 := by (unfold cbE; rw [if_neg (show ¬ op = 49 by omega), if_pos (show op = 45 ∨ op = 47 by omega)])); unfold cbS; rw [if_neg (by first | exact fun z => c_56 (by rw [z.2]; exact lg_cmp_s _) | exact fun z => absurd (c_49.symm.trans z.1) (by decide)), e1, e2])); rw [e] at hp; exact hp)
    · refine px_aload_n dx_Mc_combine_73 rfl ?_
      refine px_aload_n dx_Mc_combine_74 rfl ?_
      refine px_getI dx_Mc_combine_75 fl_Mc_83 kS.1 (by omega) rfl ?_
      refine px_eqi (y := nI (to)) h9t ?_
      refine px_lload dx_Mc_combine_78 rfl ?_
      refine px_lload dx_Mc_combine_80 rfl ?_
      refine px_cS (Y := yy_Mc_combine) (Yc := yy_Jl_compare) (As := [.long (gL σ (f + 1) r1), .long (gL σ (f + 1) r2)]) dx_Mc_combine_82 ml_Mc_163 ms_Jl_compare np_Jl_compare rfl (Nat.le_of_ble_eq_true rfl) (Nat.le_of_ble_eq_true rfl) rk_Mc_combine_Jl_compare rfl (k_compareLongs) zz_0 ?_
      refine px_i2l dx_Mc_combine_85 ?_
      refine px_dconst0 dx_Mc_combine_86 ?_
      refine px_cV (Y := yy_Mc_combine) (Yc := yy_Fr_set) (b := f) (As := [.int (nI (to)), .long ((cmJ (gL σ (f + 1) r1) (gL σ (f + 1) r2)).toInt64), .double (0)]) dx_Mc_combine_87 ml_Mc_86 mv_Fr_set np_Fr_set ⟨_, rfl⟩ (by decide) kF.1 (by omega) rfl (Nat.le_of_ble_eq_true rfl) (Nat.le_of_ble_eq_true rfl) rk_Mc_combine_Fr_set rfl (k_set (r := to) hF hR (by omega)) zz_0 ?_
      refine px_goto dx_Mc_combine_90 ?_
      exact px_vret dx_Mc_combine_246 rfl (by (have e : cbS σ f to op us (gL σ (f + 1) r1) (gL σ (f + 1) r2) (gD σ (f + 2) r1) (gD σ (f + 2) r2) = sD (sL σ (f + 1) to ((cmJ (gL σ (f + 1) r1) (gL σ (f + 1) r2)).toInt64)) (f + 2) to (0) := by ((have e1 : cbW op us (gL σ (f + 1) r1) (gL σ (f + 1) r2) (gD σ (f + 2) r1) (gD σ (f + 2) r2) = (cmJ (gL σ (f + 1) r1) (gL σ (f + 1) r2)).toInt64 := by (unfold cbW; rw [if_pos (show op = 49 by omega)])); (have e2 : cbE op us (gL σ (f + 1) r1) (gL σ (f + 1) r2) (gD σ (f + 2) r1) (gD σ (f + 2) r2) = 0 := by (unfold cbE; rw [if_pos (show op = 49 by omega)])); unfold cbS; rw [if_neg (by first | exact fun z => c_56 (by rw [z.2]; exact lg_cmp_s _) | exact fun z => absurd (c_49.symm.trans z.1) (by decide)), e1, e2])); rw [e] at hp; exact hp)
  · refine px_lload dx_Mc_combine_52 rfl ?_
    refine px_lconst (v := 0) dx_Mc_combine_54 rfl ?_
    refine px_lcmp dx_Mc_combine_55 ?_
    refine px_if_ne dx_Mc_combine_56 (fun c_56 => ?_) (fun c_56 => ?_)
    · refine px_iload_n dx_Mc_combine_67 rfl ?_
      refine px_bipush (v := 49) dx_Mc_combine_68 rfl ?_
      refine px_icmp_neN (a := op) (b := 49) dx_Mc_combine_70 (by omega) (by omega) (fun c_70 => ?_) (fun c_70 => ?_)
      · refine px_iload_n dx_Mc_combine_93 rfl ?_
        refine px_bipush (v := 45) dx_Mc_combine_94 rfl ?_
        refine px_icmp_eqN (a := op) (b := 45) dx_Mc_combine_96 (by omega) (by omega) (fun c_96 => ?_) (fun c_96 => ?_)
        · refine px_aload_n dx_Mc_combine_105 rfl ?_
          refine px_aload_n dx_Mc_combine_106 rfl ?_
          refine px_getI dx_Mc_combine_107 fl_Mc_83 kS.1 (by omega) rfl ?_
          refine px_eqi (y := nI (to)) h9t ?_
          refine px_dload dx_Mc_combine_110 rfl ?_
          refine px_dload dx_Mc_combine_112 rfl ?_
          refine px_cS (Y := yy_Mc_combine) (Yc := yy_Ar_compareReals) (As := [.double (gD σ (f + 2) r1), .double (gD σ (f + 2) r2)]) dx_Mc_combine_114 ml_Mc_169 ms_Ar_compareReals np_Ar_compareReals rfl (Nat.le_of_ble_eq_true rfl) (Nat.le_of_ble_eq_true rfl) rk_Mc_combine_Ar_compareReals rfl (k_compareReals) zz_0 ?_
          refine px_i2l dx_Mc_combine_117 ?_
          refine px_dconst0 dx_Mc_combine_118 ?_
          refine px_cV (Y := yy_Mc_combine) (Yc := yy_Fr_set) (b := f) (As := [.int (nI (to)), .long ((cmD (gD σ (f + 2) r1) (gD σ (f + 2) r2)).toInt64), .double (0)]) dx_Mc_combine_119 ml_Mc_86 mv_Fr_set np_Fr_set ⟨_, rfl⟩ (by decide) kF.1 (by omega) rfl (Nat.le_of_ble_eq_true rfl) (Nat.le_of_ble_eq_true rfl) rk_Mc_combine_Fr_set rfl (k_set (r := to) hF hR (by omega)) zz_0 ?_
          refine px_goto dx_Mc_combine_122 ?_
          exact px_vret dx_Mc_combine_246 rfl (by (have e : cbS σ f to op us (gL σ (f + 1) r1) (gL σ (f + 1) r2) (gD σ (f + 2) r1) (gD σ (f + 2) r2) = sD (sL σ (f + 1) to ((cmD (gD σ (f + 2) r1) (gD σ (f + 2) r2)).toInt64)) (f + 2) to (0) := by ((have e1 : cbW op us (gL σ (f + 1) r1) (gL σ (f + 1) r2) (gD σ (f + 2) r1) (gD σ (f + 2) r2) = (cmD (gD σ (f + 2) r1) (gD σ (f + 2) r2)).toInt64 := by (unfold cbW; rw [if_neg (show ¬ op = 49 by omega), if_pos (show op = 45 ∨ op = 47 by omega)])); (have e2 : cbE op us (gL σ (f + 1) r1) (gL σ (f + 1) r2) (gD σ (f + 2) r1) (gD σ (f + 2) r2) = 0 := by (unfold cbE; rw [if_neg (show ¬ op = 49 by omega), if_pos (show op = 45 ∨ op = 47 by omega)])); unfold cbS; rw [if_neg (by first | exact fun z => c_56 (by rw [z.2]; exact lg_cmp_s _) | exact fun z => absurd (c_49.symm.trans z.1) (by decide)), e1, e2])); rw [e] at hp; exact hp)
        · refine px_iload_n dx_Mc_combine_99 rfl ?_
          refine px_bipush (v := 47) dx_Mc_combine_100 rfl ?_
          refine px_icmp_neN (a := op) (b := 47) dx_Mc_combine_102 (by omega) (by omega) (fun c_102 => ?_) (fun c_102 => ?_)
          · refine px_aload_n dx_Mc_combine_125 rfl ?_
            refine px_getI dx_Mc_combine_126 fl_Mc_123 kS.1 (by omega) rfl ?_
            refine px_eqi (y := nI (us)) h8 ?_
            refine px_iconst (v := 1) dx_Mc_combine_129 rfl ?_
            refine px_icmp_neN (a := us) (b := 1) dx_Mc_combine_130 (by omega) (by omega) (fun c_130 => ?_) (fun c_130 => ?_)
            · refine px_aload_n dx_Mc_combine_156 rfl ?_
              refine px_getI dx_Mc_combine_157 fl_Mc_123 kS.1 (by omega) rfl ?_
              refine px_eqi (y := nI (us)) h8 ?_
              refine px_iconst (v := 3) dx_Mc_combine_160 rfl ?_
              refine px_icmp_neN (a := us) (b := 3) dx_Mc_combine_161 (by omega) (by omega) (fun c_161 => ?_) (fun c_161 => ?_)
              · refine px_aload_n dx_Mc_combine_184 rfl ?_
                refine px_getI dx_Mc_combine_185 fl_Mc_123 kS.1 (by omega) rfl ?_
                refine px_eqi (y := nI (us)) h8 ?_
                refine px_iconst (v := 2) dx_Mc_combine_188 rfl ?_
                refine px_icmp_neN (a := us) (b := 2) dx_Mc_combine_189 (by omega) (by omega) (fun c_189 => ?_) (fun c_189 => ?_)
                · refine px_iload_n dx_Mc_combine_222 rfl ?_
                  refine px_dload dx_Mc_combine_223 rfl ?_
                  refine px_dload dx_Mc_combine_225 rfl ?_
                  refine px_cS (Y := yy_Mc_combine) (Yc := yy_Ar_ofDoubles) (As := [.int (nI (op)), .double (gD σ (f + 2) r1), .double (gD σ (f + 2) r2)]) dx_Mc_combine_227 ml_Mc_189 ms_Ar_ofDoubles np_Ar_ofDoubles rfl (Nat.le_of_ble_eq_true rfl) (Nat.le_of_ble_eq_true rfl) rk_Mc_combine_Ar_ofDoubles rfl (k_ofDoubles hop (by rcases h9 with h9 | h9 | h9 | h9 | h9 <;> omega) hd1 hd2 (fun _ q => cmp0D hd2 q)) zz_0 ?_
                  refine px_dstore (lv' := [(12, .double (jDc op (gD σ (f + 2) r1) (gD σ (f + 2) r2))), (10, .double (gD σ (f + 2) r2)), (8, .double (gD σ (f + 2) r1)), (6, .long (gL σ (f + 1) r2)), (4, .long (gL σ (f + 1) r1)), (3, .int (nI (op))), (0, .ref (7)), (1, .ref (f)), (2, .ref (s))]) dx_Mc_combine_230 (by decide) rfl ?_
                  refine px_aload_n dx_Mc_combine_232 rfl ?_
                  refine px_aload_n dx_Mc_combine_233 rfl ?_
                  refine px_getI dx_Mc_combine_234 fl_Mc_83 kS.1 (by omega) rfl ?_
                  refine px_eqi (y := nI (to)) h9t ?_
                  refine px_lconst (v := 0) dx_Mc_combine_237 rfl ?_
                  refine px_dload dx_Mc_combine_238 rfl ?_
                  refine px_cS (Y := yy_Mc_combine) (Yc := yy_Ar_held) (As := [.double (jDc op (gD σ (f + 2) r1) (gD σ (f + 2) r2))]) dx_Mc_combine_240 ml_Mc_185 ms_Ar_held np_Ar_held rfl (Nat.le_of_ble_eq_true rfl) (Nat.le_of_ble_eq_true rfl) rk_Mc_combine_Ar_held rfl (k_held) zz_0 ?_
                  refine px_cV (Y := yy_Mc_combine) (Yc := yy_Fr_set) (b := f) (As := [.int (nI (to)), .long (0), .double (hlD (jDc op (gD σ (f + 2) r1) (gD σ (f + 2) r2)))]) dx_Mc_combine_243 ml_Mc_86 mv_Fr_set np_Fr_set ⟨_, rfl⟩ (by decide) kF.1 (by omega) rfl (Nat.le_of_ble_eq_true rfl) (Nat.le_of_ble_eq_true rfl) rk_Mc_combine_Fr_set rfl (k_set (r := to) hF hR (by omega)) zz_0 ?_
                  exact px_vret dx_Mc_combine_246 rfl (by (have e : cbS σ f to op us (gL σ (f + 1) r1) (gL σ (f + 1) r2) (gD σ (f + 2) r1) (gD σ (f + 2) r2) = sD (sL σ (f + 1) to (0)) (f + 2) to (hlD (jDc op (gD σ (f + 2) r1) (gD σ (f + 2) r2))) := by ((have e1 : cbW op us (gL σ (f + 1) r1) (gL σ (f + 1) r2) (gD σ (f + 2) r1) (gD σ (f + 2) r2) = 0 := by (unfold cbW; rw [if_neg (show ¬ op = 49 by omega), if_neg (show ¬ (op = 45 ∨ op = 47) by omega), if_neg (show ¬ us = 1 by omega), if_neg (show ¬ us = 3 by omega)])); (have e2 : cbE op us (gL σ (f + 1) r1) (gL σ (f + 1) r2) (gD σ (f + 2) r1) (gD σ (f + 2) r2) = hlD (jDc op (gD σ (f + 2) r1) (gD σ (f + 2) r2)) := by (unfold cbE; rw [if_neg (show ¬ op = 49 by omega), if_neg (show ¬ (op = 45 ∨ op = 47) by omega), if_neg (show ¬ us = 1 by omega), if_neg (show ¬ us = 3 by omega), if_neg (show ¬ us = 2 by omega)])); unfold cbS; rw [if_neg (by first | exact fun z => c_56 (by rw [z.2]; exact lg_cmp_s _) | exact fun z => absurd (c_49.symm.trans z.1) (by decide)), e1, e2])); rw [e] at hp; exact hp)
                · refine px_iload_n dx_Mc_combine_192 rfl ?_
                  refine px_dload dx_Mc_combine_193 rfl ?_
                  refine px_d2f dx_Mc_combine_195 (d2f_fB hd1).vn ?_
                  refine px_dload dx_Mc_combine_196 rfl ?_
                  refine px_d2f dx_Mc_combine_198 (d2f_fB hd2).vn ?_
                  refine px_cS (Y := yy_Mc_combine) (Yc := yy_Ar_ofFloats) (As := [.int (nI (op)), .float (FP.d2f (gD σ (f + 2) r1)), .float (FP.d2f (gD σ (f + 2) r2))]) dx_Mc_combine_199 ml_Mc_181 ms_Ar_ofFloats np_Ar_ofFloats rfl (Nat.le_of_ble_eq_true rfl) (Nat.le_of_ble_eq_true rfl) rk_Mc_combine_Ar_ofFloats rfl (k_ofFloats hop (by rcases h9 with h9 | h9 | h9 | h9 | h9 <;> omega) (d2f_fB hd1) (d2f_fB hd2) (fun _ q => cmp0F (d2f_fB hd2) q)) zz_0 ?_
                  refine px_fstore (lv' := [(12, .float (jFc op (FP.d2f (gD σ (f + 2) r1)) (FP.d2f (gD σ (f + 2) r2)))), (10, .double (gD σ (f + 2) r2)), (8, .double (gD σ (f + 2) r1)), (6, .long (gL σ (f + 1) r2)), (4, .long (gL σ (f + 1) r1)), (3, .int (nI (op))), (0, .ref (7)), (1, .ref (f)), (2, .ref (s))]) dx_Mc_combine_202 (by decide) rfl ?_
                  refine px_aload_n dx_Mc_combine_204 rfl ?_
                  refine px_aload_n dx_Mc_combine_205 rfl ?_
                  refine px_getI dx_Mc_combine_206 fl_Mc_83 kS.1 (by omega) rfl ?_
                  refine px_eqi (y := nI (to)) h9t ?_
                  refine px_lconst (v := 0) dx_Mc_combine_209 rfl ?_
                  refine px_fload dx_Mc_combine_210 rfl ?_
                  refine px_f2d dx_Mc_combine_212 (f2d_vn (jFc_vn (d2f_fB hd1) (d2f_fB hd2) (by rcases h9 with h9 | h9 | h9 | h9 | h9 <;> omega))) ?_
                  refine px_cS (Y := yy_Mc_combine) (Yc := yy_Ar_held) (As := [.double (FP.f2d (jFc op (FP.d2f (gD σ (f + 2) r1)) (FP.d2f (gD σ (f + 2) r2))))]) dx_Mc_combine_213 ml_Mc_185 ms_Ar_held np_Ar_held rfl (Nat.le_of_ble_eq_true rfl) (Nat.le_of_ble_eq_true rfl) rk_Mc_combine_Ar_held rfl (k_held) zz_0 ?_
                  refine px_cV (Y := yy_Mc_combine) (Yc := yy_Fr_set) (b := f) (As := [.int (nI (to)), .long (0), .double (hlD (FP.f2d (jFc op (FP.d2f (gD σ (f + 2) r1)) (FP.d2f (gD σ (f + 2) r2)))))]) dx_Mc_combine_216 ml_Mc_86 mv_Fr_set np_Fr_set ⟨_, rfl⟩ (by decide) kF.1 (by omega) rfl (Nat.le_of_ble_eq_true rfl) (Nat.le_of_ble_eq_true rfl) rk_Mc_combine_Fr_set rfl (k_set (r := to) hF hR (by omega)) zz_0 ?_
                  refine px_goto dx_Mc_combine_219 ?_
                  exact px_vret dx_Mc_combine_246 rfl (by (have e : cbS σ f to op us (gL σ (f + 1) r1) (gL σ (f + 1) r2) (gD σ (f + 2) r1) (gD σ (f + 2) r2) = sD (sL σ (f + 1) to (0)) (f + 2) to (hlD (FP.f2d (jFc op (FP.d2f (gD σ (f + 2) r1)) (FP.d2f (gD σ (f + 2) r2))))) := by ((have e1 : cbW op us (gL σ (f + 1) r1) (gL σ (f + 1) r2) (gD σ (f + 2) r1) (gD σ (f + 2) r2) = 0 := by (unfold cbW; rw [if_neg (show ¬ op = 49 by omega), if_neg (show ¬ (op = 45 ∨ op = 47) by omega), if_neg (show ¬ us = 1 by omega), if_neg (show ¬ us = 3 by omega)])); (have e2 : cbE op us (gL σ (f + 1) r1) (gL σ (f + 1) r2) (gD σ (f + 2) r1) (gD σ (f + 2) r2) = hlD (FP.f2d (jFc op (FP.d2f (gD σ (f + 2) r1)) (FP.d2f (gD σ (f + 2) r2)))) := by (unfold cbE; rw [if_neg (show ¬ op = 49 by omega), if_neg (show ¬ (op = 45 ∨ op = 47) by omega), if_neg (show ¬ us = 1 by omega), if_neg (show ¬ us = 3 by omega), if_pos (show us = 2 by omega)])); unfold cbS; rw [if_neg (by first | exact fun z => c_56 (by rw [z.2]; exact lg_cmp_s _) | exact fun z => absurd (c_49.symm.trans z.1) (by decide)), e1, e2])); rw [e] at hp; exact hp)
              · refine px_aload_n dx_Mc_combine_164 rfl ?_
                refine px_aload_n dx_Mc_combine_165 rfl ?_
                refine px_getI dx_Mc_combine_166 fl_Mc_83 kS.1 (by omega) rfl ?_
                refine px_eqi (y := nI (to)) h9t ?_
                refine px_iload_n dx_Mc_combine_169 rfl ?_
                refine px_lload dx_Mc_combine_170 rfl ?_
                refine px_lload dx_Mc_combine_172 rfl ?_
                refine px_cS (Y := yy_Mc_combine) (Yc := yy_Ar_ofLongs) (As := [.int (nI (op)), .long (gL σ (f + 1) r1), .long (gL σ (f + 1) r2)]) dx_Mc_combine_174 ml_Mc_177 ms_Ar_ofLongs np_Ar_ofLongs rfl (Nat.le_of_ble_eq_true rfl) (Nat.le_of_ble_eq_true rfl) rk_Mc_combine_Ar_ofLongs rfl (k_ofLongs hop (by rcases h9 with h9 | h9 | h9 | h9 | h9 <;> omega) (by intro q z; first | exact c_56 (by rw [z]; exact lg_cmp_s _) | (rcases q with q | q <;> (rw [q] at c_49; exact absurd c_49 (by decide))))) zz_0 ?_
                refine px_dconst0 dx_Mc_combine_177 ?_
                refine px_cV (Y := yy_Mc_combine) (Yc := yy_Fr_set) (b := f) (As := [.int (nI (to)), .long (jL op (gL σ (f + 1) r1) (gL σ (f + 1) r2)), .double (0)]) dx_Mc_combine_178 ml_Mc_86 mv_Fr_set np_Fr_set ⟨_, rfl⟩ (by decide) kF.1 (by omega) rfl (Nat.le_of_ble_eq_true rfl) (Nat.le_of_ble_eq_true rfl) rk_Mc_combine_Fr_set rfl (k_set (r := to) hF hR (by omega)) zz_0 ?_
                refine px_goto dx_Mc_combine_181 ?_
                exact px_vret dx_Mc_combine_246 rfl (by (have e : cbS σ f to op us (gL σ (f + 1) r1) (gL σ (f + 1) r2) (gD σ (f + 2) r1) (gD σ (f + 2) r2) = sD (sL σ (f + 1) to (jL op (gL σ (f + 1) r1) (gL σ (f + 1) r2))) (f + 2) to (0) := by ((have e1 : cbW op us (gL σ (f + 1) r1) (gL σ (f + 1) r2) (gD σ (f + 2) r1) (gD σ (f + 2) r2) = jL op (gL σ (f + 1) r1) (gL σ (f + 1) r2) := by (unfold cbW; rw [if_neg (show ¬ op = 49 by omega), if_neg (show ¬ (op = 45 ∨ op = 47) by omega), if_neg (show ¬ us = 1 by omega), if_pos (show us = 3 by omega)])); (have e2 : cbE op us (gL σ (f + 1) r1) (gL σ (f + 1) r2) (gD σ (f + 2) r1) (gD σ (f + 2) r2) = 0 := by (unfold cbE; rw [if_neg (show ¬ op = 49 by omega), if_neg (show ¬ (op = 45 ∨ op = 47) by omega), if_neg (show ¬ us = 1 by omega), if_pos (show us = 3 by omega)])); unfold cbS; rw [if_neg (by first | exact fun z => c_56 (by rw [z.2]; exact lg_cmp_s _) | exact fun z => absurd (c_49.symm.trans z.1) (by decide)), e1, e2])); rw [e] at hp; exact hp)
            · refine px_aload_n dx_Mc_combine_133 rfl ?_
              refine px_aload_n dx_Mc_combine_134 rfl ?_
              refine px_getI dx_Mc_combine_135 fl_Mc_83 kS.1 (by omega) rfl ?_
              refine px_eqi (y := nI (to)) h9t ?_
              refine px_iload_n dx_Mc_combine_138 rfl ?_
              refine px_lload dx_Mc_combine_139 rfl ?_
              refine px_l2i dx_Mc_combine_141 ?_
              refine px_lload dx_Mc_combine_142 rfl ?_
              refine px_l2i dx_Mc_combine_144 ?_
              refine px_cS (Y := yy_Mc_combine) (Yc := yy_Ar_ofInts) (As := [.int (nI (op)), .int ((gL σ (f + 1) r1).toInt32), .int ((gL σ (f + 1) r2).toInt32)]) dx_Mc_combine_145 ml_Mc_173 ms_Ar_ofInts np_Ar_ofInts rfl (Nat.le_of_ble_eq_true rfl) (Nat.le_of_ble_eq_true rfl) rk_Mc_combine_Ar_ofInts rfl (k_ofInts hop (by intro q; first | exact hz q (fun z => c_56 (by rw [z]; exact lg_cmp_s _)) | (exfalso; rcases q with q | q <;> (rw [q] at c_49; exact absurd c_49 (by decide))))) zz_0 ?_
              refine px_i2l dx_Mc_combine_148 ?_
              refine px_dconst0 dx_Mc_combine_149 ?_
              refine px_cV (Y := yy_Mc_combine) (Yc := yy_Fr_set) (b := f) (As := [.int (nI (to)), .long ((jI op (gL σ (f + 1) r1).toInt32 (gL σ (f + 1) r2).toInt32).toInt64), .double (0)]) dx_Mc_combine_150 ml_Mc_86 mv_Fr_set np_Fr_set ⟨_, rfl⟩ (by decide) kF.1 (by omega) rfl (Nat.le_of_ble_eq_true rfl) (Nat.le_of_ble_eq_true rfl) rk_Mc_combine_Fr_set rfl (k_set (r := to) hF hR (by omega)) zz_0 ?_
              refine px_goto dx_Mc_combine_153 ?_
              exact px_vret dx_Mc_combine_246 rfl (by (have e : cbS σ f to op us (gL σ (f + 1) r1) (gL σ (f + 1) r2) (gD σ (f + 2) r1) (gD σ (f + 2) r2) = sD (sL σ (f + 1) to ((jI op (gL σ (f + 1) r1).toInt32 (gL σ (f + 1) r2).toInt32).toInt64)) (f + 2) to (0) := by ((have e1 : cbW op us (gL σ (f + 1) r1) (gL σ (f + 1) r2) (gD σ (f + 2) r1) (gD σ (f + 2) r2) = (jI op (gL σ (f + 1) r1).toInt32 (gL σ (f + 1) r2).toInt32).toInt64 := by (unfold cbW; rw [if_neg (show ¬ op = 49 by omega), if_neg (show ¬ (op = 45 ∨ op = 47) by omega), if_pos (show us = 1 by omega)])); (have e2 : cbE op us (gL σ (f + 1) r1) (gL σ (f + 1) r2) (gD σ (f + 2) r1) (gD σ (f + 2) r2) = 0 := by (unfold cbE; rw [if_neg (show ¬ op = 49 by omega), if_neg (show ¬ (op = 45 ∨ op = 47) by omega), if_pos (show us = 1 by omega)])); unfold cbS; rw [if_neg (by first | exact fun z => c_56 (by rw [z.2]; exact lg_cmp_s _) | exact fun z => absurd (c_49.symm.trans z.1) (by decide)), e1, e2])); rw [e] at hp; exact hp)
          · refine px_aload_n dx_Mc_combine_105 rfl ?_
            refine px_aload_n dx_Mc_combine_106 rfl ?_
            refine px_getI dx_Mc_combine_107 fl_Mc_83 kS.1 (by omega) rfl ?_
            refine px_eqi (y := nI (to)) h9t ?_
            refine px_dload dx_Mc_combine_110 rfl ?_
            refine px_dload dx_Mc_combine_112 rfl ?_
            refine px_cS (Y := yy_Mc_combine) (Yc := yy_Ar_compareReals) (As := [.double (gD σ (f + 2) r1), .double (gD σ (f + 2) r2)]) dx_Mc_combine_114 ml_Mc_169 ms_Ar_compareReals np_Ar_compareReals rfl (Nat.le_of_ble_eq_true rfl) (Nat.le_of_ble_eq_true rfl) rk_Mc_combine_Ar_compareReals rfl (k_compareReals) zz_0 ?_
            refine px_i2l dx_Mc_combine_117 ?_
            refine px_dconst0 dx_Mc_combine_118 ?_
            refine px_cV (Y := yy_Mc_combine) (Yc := yy_Fr_set) (b := f) (As := [.int (nI (to)), .long ((cmD (gD σ (f + 2) r1) (gD σ (f + 2) r2)).toInt64), .double (0)]) dx_Mc_combine_119 ml_Mc_86 mv_Fr_set np_Fr_set ⟨_, rfl⟩ (by decide) kF.1 (by omega) rfl (Nat.le_of_ble_eq_true rfl) (Nat.le_of_ble_eq_true rfl) rk_Mc_combine_Fr_set rfl (k_set (r := to) hF hR (by omega)) zz_0 ?_
            refine px_goto dx_Mc_combine_122 ?_
            exact px_vret dx_Mc_combine_246 rfl (by (have e : cbS σ f to op us (gL σ (f + 1) r1) (gL σ (f + 1) r2) (gD σ (f + 2) r1) (gD σ (f + 2) r2) = sD (sL σ (f + 1) to ((cmD (gD σ (f + 2) r1) (gD σ (f + 2) r2)).toInt64)) (f + 2) to (0) := by ((have e1 : cbW op us (gL σ (f + 1) r1) (gL σ (f + 1) r2) (gD σ (f + 2) r1) (gD σ (f + 2) r2) = (cmD (gD σ (f + 2) r1) (gD σ (f + 2) r2)).toInt64 := by (unfold cbW; rw [if_neg (show ¬ op = 49 by omega), if_pos (show op = 45 ∨ op = 47 by omega)])); (have e2 : cbE op us (gL σ (f + 1) r1) (gL σ (f + 1) r2) (gD σ (f + 2) r1) (gD σ (f + 2) r2) = 0 := by (unfold cbE; rw [if_neg (show ¬ op = 49 by omega), if_pos (show op = 45 ∨ op = 47 by omega)])); unfold cbS; rw [if_neg (by first | exact fun z => c_56 (by rw [z.2]; exact lg_cmp_s _) | exact fun z => absurd (c_49.symm.trans z.1) (by decide)), e1, e2])); rw [e] at hp; exact hp)
      · refine px_aload_n dx_Mc_combine_73 rfl ?_
        refine px_aload_n dx_Mc_combine_74 rfl ?_
        refine px_getI dx_Mc_combine_75 fl_Mc_83 kS.1 (by omega) rfl ?_
        refine px_eqi (y := nI (to)) h9t ?_
        refine px_lload dx_Mc_combine_78 rfl ?_
        refine px_lload dx_Mc_combine_80 rfl ?_
        refine px_cS (Y := yy_Mc_combine) (Yc := yy_Jl_compare) (As := [.long (gL σ (f + 1) r1), .long (gL σ (f + 1) r2)]) dx_Mc_combine_82 ml_Mc_163 ms_Jl_compare np_Jl_compare rfl (Nat.le_of_ble_eq_true rfl) (Nat.le_of_ble_eq_true rfl) rk_Mc_combine_Jl_compare rfl (k_compareLongs) zz_0 ?_
        refine px_i2l dx_Mc_combine_85 ?_
        refine px_dconst0 dx_Mc_combine_86 ?_
        refine px_cV (Y := yy_Mc_combine) (Yc := yy_Fr_set) (b := f) (As := [.int (nI (to)), .long ((cmJ (gL σ (f + 1) r1) (gL σ (f + 1) r2)).toInt64), .double (0)]) dx_Mc_combine_87 ml_Mc_86 mv_Fr_set np_Fr_set ⟨_, rfl⟩ (by decide) kF.1 (by omega) rfl (Nat.le_of_ble_eq_true rfl) (Nat.le_of_ble_eq_true rfl) rk_Mc_combine_Fr_set rfl (k_set (r := to) hF hR (by omega)) zz_0 ?_
        refine px_goto dx_Mc_combine_90 ?_
        exact px_vret dx_Mc_combine_246 rfl (by (have e : cbS σ f to op us (gL σ (f + 1) r1) (gL σ (f + 1) r2) (gD σ (f + 2) r1) (gD σ (f + 2) r2) = sD (sL σ (f + 1) to ((cmJ (gL σ (f + 1) r1) (gL σ (f + 1) r2)).toInt64)) (f + 2) to (0) := by ((have e1 : cbW op us (gL σ (f + 1) r1) (gL σ (f + 1) r2) (gD σ (f + 2) r1) (gD σ (f + 2) r2) = (cmJ (gL σ (f + 1) r1) (gL σ (f + 1) r2)).toInt64 := by (unfold cbW; rw [if_pos (show op = 49 by omega)])); (have e2 : cbE op us (gL σ (f + 1) r1) (gL σ (f + 1) r2) (gD σ (f + 2) r1) (gD σ (f + 2) r2) = 0 := by (unfold cbE; rw [if_pos (show op = 49 by omega)])); unfold cbS; rw [if_neg (by first | exact fun z => c_56 (by rw [z.2]; exact lg_cmp_s _) | exact fun z => absurd (c_49.symm.trans z.1) (by decide)), e1, e2])); rw [e] at hp; exact hp)
    · refine px_aload_n dx_Mc_combine_59 rfl ?_
      refine px_iconst (v := 1) dx_Mc_combine_60 rfl ?_
      refine px_cV (Y := yy_Mc_combine) (Yc := yy_Mc_stop) (b := 7) (As := [.int (1)]) dx_Mc_combine_61 ml_Mc_130 mv_Mc_stop np_Mc_stop ⟨_, rfl⟩ (by decide) rfl (by decide) rfl (Nat.le_of_ble_eq_true rfl) (Nat.le_of_ble_eq_true rfl) rk_Mc_combine_Mc_stop rfl (k_stop (x := 1)) zz_0 ?_
      refine px_goto dx_Mc_combine_64 ?_
      exact px_vret dx_Mc_combine_246 rfl (by (have e : cbS σ f to op us (gL σ (f + 1) r1) (gL σ (f + 1) r2) (gD σ (f + 2) r1) (gD σ (f + 2) r2) = sI (sI σ 7 2 3) 7 3 1 := if_pos ⟨c_49, (lg_cmp_eq _ _).mp (by simpa using c_56)⟩); rw [e] at hp; exact hp)
