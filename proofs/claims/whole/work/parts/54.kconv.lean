/-! the class: conversions, joins -/
def kvL (op : Nat) (w : Int64) (d : UInt64) : Int64 := if op ∈ [123] then (-w.toInt32).toInt64 else if op ∈ [125] then -w else if op ∈ [127, 128] then 0 else if op ∈ [130, 133] then 0 else if op ∈ [131, 134] then 0 else if op ∈ [132] then w.toInt32.toInt64 else if op ∈ [135, 138] then (FP.d2i d).toInt64 else if op ∈ [136, 139] then FP.d2l d else if op ∈ [140] then 0 else w
def kvE (op : Nat) (w : Int64) (d : UInt64) : UInt64 := if op ∈ [123] then 0 else if op ∈ [125] then 0 else if op ∈ [127, 128] then FP.dneg d else if op ∈ [130, 133] then FP.f2d (FP.l2f w) else if op ∈ [131, 134] then FP.l2d w else if op ∈ [132] then 0 else if op ∈ [135, 138] then 0 else if op ∈ [136, 139] then 0 else if op ∈ [140] then FP.f2d (FP.d2f d) else d

set_option maxRecDepth 100000 in
set_option maxHeartbeats 1000000 in
theorem k_convert {l : Launch} {G : fr_G} {σ : fr_S} {f : Nat} (hF : FE f) (hR : RF σ) {s : Nat} (hS : SE s) {op r1 to : Nat} (hop : op < 256) (h2 : gI σ s 2 = nI op) (h9 : gI σ s 9 = nI to) (h10 : gI σ s 10 = nI r1) (hr1 : r1 < 10) (hto : to < 10) (hd : dB (gD σ (f + 2) r1)) : CT l G yy_Mc_convert rm_Mc_convert [.ref (f), .ref (s)] σ none (sD (sL σ (f + 1) to (kvL op (gL σ (f + 1) r1) (gD σ (f + 2) r1))) (f + 2) to (kvE op (gL σ (f + 1) r1) (gD σ (f + 2) r1))) := by
  intro Post hp0
  have hp := hp0
  show PX l G yy_Mc_convert rm_Mc_convert _ false 742 0 0 0 [(0, .ref (f)), (1, .ref (s))] [] σ
  have kF := kd_F hF
  have kS := kd_S hS
  refine px_aload_n dx_Mc_convert_0 rfl ?_
  refine px_aload_n dx_Mc_convert_1 rfl ?_
  refine px_getI dx_Mc_convert_2 fl_Mc_106 kS.1 (by omega) rfl ?_
  refine px_eqi (y := nI (r1)) h10 ?_
  refine px_cV (Y := yy_Mc_convert) (Yc := yy_Fr_whole) (b := f) (As := [.int (nI (r1))]) dx_Mc_convert_5 ml_Mc_109 mv_Fr_whole np_Fr_whole ⟨_, rfl⟩ (by decide) kF.1 (by omega) rfl (Nat.le_of_ble_eq_true rfl) (Nat.le_of_ble_eq_true rfl) rk_Mc_convert_Fr_whole rfl (k_whole (r := r1) hF hR (by omega)) zz_0 ?_
  refine px_lstore_n (lv' := [(2, .long (gL σ (f + 1) r1)), (0, .ref (f)), (1, .ref (s))]) dx_Mc_convert_8 (by decide) rfl ?_
  refine px_aload_n dx_Mc_convert_9 rfl ?_
  refine px_aload_n dx_Mc_convert_10 rfl ?_
  refine px_getI dx_Mc_convert_11 fl_Mc_106 kS.1 (by omega) rfl ?_
  refine px_eqi (y := nI (r1)) h10 ?_
  refine px_cV (Y := yy_Mc_convert) (Yc := yy_Fr_realNumber) (b := f) (As := [.int (nI (r1))]) dx_Mc_convert_14 ml_Mc_126 mv_Fr_realNumber np_Fr_realNumber ⟨_, rfl⟩ (by decide) kF.1 (by omega) rfl (Nat.le_of_ble_eq_true rfl) (Nat.le_of_ble_eq_true rfl) rk_Mc_convert_Fr_realNumber rfl (k_real (r := r1) hF hR (by omega)) zz_0 ?_
  refine px_dstore (lv' := [(4, .double (gD σ (f + 2) r1)), (2, .long (gL σ (f + 1) r1)), (0, .ref (f)), (1, .ref (s))]) dx_Mc_convert_17 (by decide) rfl ?_
  refine px_aload_n dx_Mc_convert_19 rfl ?_
  refine px_getI dx_Mc_convert_20 fl_Mc_154 kS.1 (by omega) rfl ?_
  refine px_eqi (y := nI (op)) h2 ?_
  by_cases k_23_0 : op ∈ ([123] : List Nat)
  · refine px_tabG (e := op) (off := 85) [123] dx_Mc_convert_23 (by omega) k_23_0 (by decide) rfl ?_
    refine px_aload_n dx_Mc_convert_108 rfl ?_
    refine px_aload_n dx_Mc_convert_109 rfl ?_
    refine px_getI dx_Mc_convert_110 fl_Mc_83 kS.1 (by omega) rfl ?_
    refine px_eqi (y := nI (to)) h9 ?_
    refine px_lload_n dx_Mc_convert_113 rfl ?_
    refine px_l2i dx_Mc_convert_114 ?_
    refine px_ineg dx_Mc_convert_115 ?_
    refine px_i2l dx_Mc_convert_116 ?_
    refine px_dconst0 dx_Mc_convert_117 ?_
    refine px_cV (Y := yy_Mc_convert) (Yc := yy_Fr_set) (b := f) (As := [.int (nI (to)), .long ((-((gL σ (f + 1) r1).toInt32)).toInt64), .double (0)]) dx_Mc_convert_118 ml_Mc_86 mv_Fr_set np_Fr_set ⟨_, rfl⟩ (by decide) kF.1 (by omega) rfl (Nat.le_of_ble_eq_true rfl) (Nat.le_of_ble_eq_true rfl) rk_Mc_convert_Fr_set rfl (k_set (r := to) hF hR (by omega)) zz_0 ?_
    refine px_goto dx_Mc_convert_121 ?_
    exact px_vret dx_Mc_convert_255 rfl (by (have e1 : kvL op (gL σ (f + 1) r1) (gD σ (f + 2) r1) = (-((gL σ (f + 1) r1).toInt32)).toInt64 := by (unfold kvL; (first | rw [if_pos k_23_0] | rw [if_neg k_23_0]))); (have e2 : kvE op (gL σ (f + 1) r1) (gD σ (f + 2) r1) = 0 := by (unfold kvE; (first | rw [if_pos k_23_0] | rw [if_neg k_23_0]))); rw [e1, e2] at hp; exact hp)
  by_cases k_23_1 : op ∈ ([125] : List Nat)
  · refine px_tabG (e := op) (off := 101) [125] dx_Mc_convert_23 (by omega) k_23_1 (by decide) rfl ?_
    refine px_aload_n dx_Mc_convert_124 rfl ?_
    refine px_aload_n dx_Mc_convert_125 rfl ?_
    refine px_getI dx_Mc_convert_126 fl_Mc_83 kS.1 (by omega) rfl ?_
    refine px_eqi (y := nI (to)) h9 ?_
    refine px_lload_n dx_Mc_convert_129 rfl ?_
    refine px_lneg dx_Mc_convert_130 ?_
    refine px_dconst0 dx_Mc_convert_131 ?_
    refine px_cV (Y := yy_Mc_convert) (Yc := yy_Fr_set) (b := f) (As := [.int (nI (to)), .long (-(gL σ (f + 1) r1)), .double (0)]) dx_Mc_convert_132 ml_Mc_86 mv_Fr_set np_Fr_set ⟨_, rfl⟩ (by decide) kF.1 (by omega) rfl (Nat.le_of_ble_eq_true rfl) (Nat.le_of_ble_eq_true rfl) rk_Mc_convert_Fr_set rfl (k_set (r := to) hF hR (by omega)) zz_0 ?_
    refine px_goto dx_Mc_convert_135 ?_
    exact px_vret dx_Mc_convert_255 rfl (by (have e1 : kvL op (gL σ (f + 1) r1) (gD σ (f + 2) r1) = -(gL σ (f + 1) r1) := by (unfold kvL; (first | rw [if_pos k_23_0] | rw [if_neg k_23_0]); (first | rw [if_pos k_23_1] | rw [if_neg k_23_1]))); (have e2 : kvE op (gL σ (f + 1) r1) (gD σ (f + 2) r1) = 0 := by (unfold kvE; (first | rw [if_pos k_23_0] | rw [if_neg k_23_0]); (first | rw [if_pos k_23_1] | rw [if_neg k_23_1]))); rw [e1, e2] at hp; exact hp)
  by_cases k_23_2 : op ∈ ([127, 128] : List Nat)
  · refine px_tabG (e := op) (off := 115) [127, 128] dx_Mc_convert_23 (by omega) k_23_2 (by decide) rfl ?_
    refine px_aload_n dx_Mc_convert_138 rfl ?_
    refine px_aload_n dx_Mc_convert_139 rfl ?_
    refine px_getI dx_Mc_convert_140 fl_Mc_83 kS.1 (by omega) rfl ?_
    refine px_eqi (y := nI (to)) h9 ?_
    refine px_lconst (v := 0) dx_Mc_convert_143 rfl ?_
    refine px_dload dx_Mc_convert_144 rfl ?_
    refine px_dneg dx_Mc_convert_146 ?_
    refine px_cV (Y := yy_Mc_convert) (Yc := yy_Fr_set) (b := f) (As := [.int (nI (to)), .long (0), .double (FP.dneg (gD σ (f + 2) r1))]) dx_Mc_convert_147 ml_Mc_86 mv_Fr_set np_Fr_set ⟨_, rfl⟩ (by decide) kF.1 (by omega) rfl (Nat.le_of_ble_eq_true rfl) (Nat.le_of_ble_eq_true rfl) rk_Mc_convert_Fr_set rfl (k_set (r := to) hF hR (by omega)) zz_0 ?_
    refine px_goto dx_Mc_convert_150 ?_
    exact px_vret dx_Mc_convert_255 rfl (by (have e1 : kvL op (gL σ (f + 1) r1) (gD σ (f + 2) r1) = 0 := by (unfold kvL; (first | rw [if_pos k_23_0] | rw [if_neg k_23_0]); (first | rw [if_pos k_23_1] | rw [if_neg k_23_1]); (first | rw [if_pos k_23_2] | rw [if_neg k_23_2]))); (have e2 : kvE op (gL σ (f + 1) r1) (gD σ (f + 2) r1) = FP.dneg (gD σ (f + 2) r1) := by (unfold kvE; (first | rw [if_pos k_23_0] | rw [if_neg k_23_0]); (first | rw [if_pos k_23_1] | rw [if_neg k_23_1]); (first | rw [if_pos k_23_2] | rw [if_neg k_23_2]))); rw [e1, e2] at hp; exact hp)
  by_cases k_23_3 : op ∈ ([130, 133] : List Nat)
  · refine px_tabG (e := op) (off := 130) [130, 133] dx_Mc_convert_23 (by omega) k_23_3 (by decide) rfl ?_
    refine px_aload_n dx_Mc_convert_153 rfl ?_
    refine px_aload_n dx_Mc_convert_154 rfl ?_
    refine px_getI dx_Mc_convert_155 fl_Mc_83 kS.1 (by omega) rfl ?_
    refine px_eqi (y := nI (to)) h9 ?_
    refine px_lconst (v := 0) dx_Mc_convert_158 rfl ?_
    refine px_lload_n dx_Mc_convert_159 rfl ?_
    refine px_l2f dx_Mc_convert_160 ?_
    refine px_f2d dx_Mc_convert_161 (f2d_dB (l2f_fB _)).vn ?_
    refine px_cV (Y := yy_Mc_convert) (Yc := yy_Fr_set) (b := f) (As := [.int (nI (to)), .long (0), .double (FP.f2d (FP.l2f (gL σ (f + 1) r1)))]) dx_Mc_convert_162 ml_Mc_86 mv_Fr_set np_Fr_set ⟨_, rfl⟩ (by decide) kF.1 (by omega) rfl (Nat.le_of_ble_eq_true rfl) (Nat.le_of_ble_eq_true rfl) rk_Mc_convert_Fr_set rfl (k_set (r := to) hF hR (by omega)) zz_0 ?_
    refine px_goto dx_Mc_convert_165 ?_
    exact px_vret dx_Mc_convert_255 rfl (by (have e1 : kvL op (gL σ (f + 1) r1) (gD σ (f + 2) r1) = 0 := by (unfold kvL; (first | rw [if_pos k_23_0] | rw [if_neg k_23_0]); (first | rw [if_pos k_23_1] | rw [if_neg k_23_1]); (first | rw [if_pos k_23_2] | rw [if_neg k_23_2]); (first | rw [if_pos k_23_3] | rw [if_neg k_23_3]))); (have e2 : kvE op (gL σ (f + 1) r1) (gD σ (f + 2) r1) = FP.f2d (FP.l2f (gL σ (f + 1) r1)) := by (unfold kvE; (first | rw [if_pos k_23_0] | rw [if_neg k_23_0]); (first | rw [if_pos k_23_1] | rw [if_neg k_23_1]); (first | rw [if_pos k_23_2] | rw [if_neg k_23_2]); (first | rw [if_pos k_23_3] | rw [if_neg k_23_3]))); rw [e1, e2] at hp; exact hp)
  by_cases k_23_4 : op ∈ ([131, 134] : List Nat)
  · refine px_tabG (e := op) (off := 145) [131, 134] dx_Mc_convert_23 (by omega) k_23_4 (by decide) rfl ?_
    refine px_aload_n dx_Mc_convert_168 rfl ?_
    refine px_aload_n dx_Mc_convert_169 rfl ?_
    refine px_getI dx_Mc_convert_170 fl_Mc_83 kS.1 (by omega) rfl ?_
    refine px_eqi (y := nI (to)) h9 ?_
    refine px_lconst (v := 0) dx_Mc_convert_173 rfl ?_
    refine px_lload_n dx_Mc_convert_174 rfl ?_
    refine px_l2d dx_Mc_convert_175 ?_
    refine px_cV (Y := yy_Mc_convert) (Yc := yy_Fr_set) (b := f) (As := [.int (nI (to)), .long (0), .double (FP.l2d (gL σ (f + 1) r1))]) dx_Mc_convert_176 ml_Mc_86 mv_Fr_set np_Fr_set ⟨_, rfl⟩ (by decide) kF.1 (by omega) rfl (Nat.le_of_ble_eq_true rfl) (Nat.le_of_ble_eq_true rfl) rk_Mc_convert_Fr_set rfl (k_set (r := to) hF hR (by omega)) zz_0 ?_
    refine px_goto dx_Mc_convert_179 ?_
    exact px_vret dx_Mc_convert_255 rfl (by (have e1 : kvL op (gL σ (f + 1) r1) (gD σ (f + 2) r1) = 0 := by (unfold kvL; (first | rw [if_pos k_23_0] | rw [if_neg k_23_0]); (first | rw [if_pos k_23_1] | rw [if_neg k_23_1]); (first | rw [if_pos k_23_2] | rw [if_neg k_23_2]); (first | rw [if_pos k_23_3] | rw [if_neg k_23_3]); (first | rw [if_pos k_23_4] | rw [if_neg k_23_4]))); (have e2 : kvE op (gL σ (f + 1) r1) (gD σ (f + 2) r1) = FP.l2d (gL σ (f + 1) r1) := by (unfold kvE; (first | rw [if_pos k_23_0] | rw [if_neg k_23_0]); (first | rw [if_pos k_23_1] | rw [if_neg k_23_1]); (first | rw [if_pos k_23_2] | rw [if_neg k_23_2]); (first | rw [if_pos k_23_3] | rw [if_neg k_23_3]); (first | rw [if_pos k_23_4] | rw [if_neg k_23_4]))); rw [e1, e2] at hp; exact hp)
  by_cases k_23_5 : op ∈ ([132] : List Nat)
  · refine px_tabG (e := op) (off := 159) [132] dx_Mc_convert_23 (by omega) k_23_5 (by decide) rfl ?_
    refine px_aload_n dx_Mc_convert_182 rfl ?_
    refine px_aload_n dx_Mc_convert_183 rfl ?_
    refine px_getI dx_Mc_convert_184 fl_Mc_83 kS.1 (by omega) rfl ?_
    refine px_eqi (y := nI (to)) h9 ?_
    refine px_lload_n dx_Mc_convert_187 rfl ?_
    refine px_l2i dx_Mc_convert_188 ?_
    refine px_i2l dx_Mc_convert_189 ?_
    refine px_dconst0 dx_Mc_convert_190 ?_
    refine px_cV (Y := yy_Mc_convert) (Yc := yy_Fr_set) (b := f) (As := [.int (nI (to)), .long (((gL σ (f + 1) r1).toInt32).toInt64), .double (0)]) dx_Mc_convert_191 ml_Mc_86 mv_Fr_set np_Fr_set ⟨_, rfl⟩ (by decide) kF.1 (by omega) rfl (Nat.le_of_ble_eq_true rfl) (Nat.le_of_ble_eq_true rfl) rk_Mc_convert_Fr_set rfl (k_set (r := to) hF hR (by omega)) zz_0 ?_
    refine px_goto dx_Mc_convert_194 ?_
    exact px_vret dx_Mc_convert_255 rfl (by (have e1 : kvL op (gL σ (f + 1) r1) (gD σ (f + 2) r1) = ((gL σ (f + 1) r1).toInt32).toInt64 := by (unfold kvL; (first | rw [if_pos k_23_0] | rw [if_neg k_23_0]); (first | rw [if_pos k_23_1] | rw [if_neg k_23_1]); (first | rw [if_pos k_23_2] | rw [if_neg k_23_2]); (first | rw [if_pos k_23_3] | rw [if_neg k_23_3]); (first | rw [if_pos k_23_4] | rw [if_neg k_23_4]); (first | rw [if_pos k_23_5] | rw [if_neg k_23_5]))); (have e2 : kvE op (gL σ (f + 1) r1) (gD σ (f + 2) r1) = 0 := by (unfold kvE; (first | rw [if_pos k_23_0] | rw [if_neg k_23_0]); (first | rw [if_pos k_23_1] | rw [if_neg k_23_1]); (first | rw [if_pos k_23_2] | rw [if_neg k_23_2]); (first | rw [if_pos k_23_3] | rw [if_neg k_23_3]); (first | rw [if_pos k_23_4] | rw [if_neg k_23_4]); (first | rw [if_pos k_23_5] | rw [if_neg k_23_5]))); rw [e1, e2] at hp; exact hp)
  by_cases k_23_6 : op ∈ ([135, 138] : List Nat)
  · refine px_tabG (e := op) (off := 174) [135, 138] dx_Mc_convert_23 (by omega) k_23_6 (by decide) rfl ?_
    refine px_aload_n dx_Mc_convert_197 rfl ?_
    refine px_aload_n dx_Mc_convert_198 rfl ?_
    refine px_getI dx_Mc_convert_199 fl_Mc_83 kS.1 (by omega) rfl ?_
    refine px_eqi (y := nI (to)) h9 ?_
    refine px_dload dx_Mc_convert_202 rfl ?_
    refine px_d2i dx_Mc_convert_204 ?_
    refine px_i2l dx_Mc_convert_205 ?_
    refine px_dconst0 dx_Mc_convert_206 ?_
    refine px_cV (Y := yy_Mc_convert) (Yc := yy_Fr_set) (b := f) (As := [.int (nI (to)), .long ((FP.d2i (gD σ (f + 2) r1)).toInt64), .double (0)]) dx_Mc_convert_207 ml_Mc_86 mv_Fr_set np_Fr_set ⟨_, rfl⟩ (by decide) kF.1 (by omega) rfl (Nat.le_of_ble_eq_true rfl) (Nat.le_of_ble_eq_true rfl) rk_Mc_convert_Fr_set rfl (k_set (r := to) hF hR (by omega)) zz_0 ?_
    refine px_goto dx_Mc_convert_210 ?_
    exact px_vret dx_Mc_convert_255 rfl (by (have e1 : kvL op (gL σ (f + 1) r1) (gD σ (f + 2) r1) = (FP.d2i (gD σ (f + 2) r1)).toInt64 := by (unfold kvL; (first | rw [if_pos k_23_0] | rw [if_neg k_23_0]); (first | rw [if_pos k_23_1] | rw [if_neg k_23_1]); (first | rw [if_pos k_23_2] | rw [if_neg k_23_2]); (first | rw [if_pos k_23_3] | rw [if_neg k_23_3]); (first | rw [if_pos k_23_4] | rw [if_neg k_23_4]); (first | rw [if_pos k_23_5] | rw [if_neg k_23_5]); (first | rw [if_pos k_23_6] | rw [if_neg k_23_6]))); (have e2 : kvE op (gL σ (f + 1) r1) (gD σ (f + 2) r1) = 0 := by (unfold kvE; (first | rw [if_pos k_23_0] | rw [if_neg k_23_0]); (first | rw [if_pos k_23_1] | rw [if_neg k_23_1]); (first | rw [if_pos k_23_2] | rw [if_neg k_23_2]); (first | rw [if_pos k_23_3] | rw [if_neg k_23_3]); (first | rw [if_pos k_23_4] | rw [if_neg k_23_4]); (first | rw [if_pos k_23_5] | rw [if_neg k_23_5]); (first | rw [if_pos k_23_6] | rw [if_neg k_23_6]))); rw [e1, e2] at hp; exact hp)
  by_cases k_23_7 : op ∈ ([136, 139] : List Nat)
  · refine px_tabG (e := op) (off := 190) [136, 139] dx_Mc_convert_23 (by omega) k_23_7 (by decide) rfl ?_
    refine px_aload_n dx_Mc_convert_213 rfl ?_
    refine px_aload_n dx_Mc_convert_214 rfl ?_
    refine px_getI dx_Mc_convert_215 fl_Mc_83 kS.1 (by omega) rfl ?_
    refine px_eqi (y := nI (to)) h9 ?_
    refine px_dload dx_Mc_convert_218 rfl ?_
    refine px_d2l dx_Mc_convert_220 ?_
    refine px_dconst0 dx_Mc_convert_221 ?_
    refine px_cV (Y := yy_Mc_convert) (Yc := yy_Fr_set) (b := f) (As := [.int (nI (to)), .long (FP.d2l (gD σ (f + 2) r1)), .double (0)]) dx_Mc_convert_222 ml_Mc_86 mv_Fr_set np_Fr_set ⟨_, rfl⟩ (by decide) kF.1 (by omega) rfl (Nat.le_of_ble_eq_true rfl) (Nat.le_of_ble_eq_true rfl) rk_Mc_convert_Fr_set rfl (k_set (r := to) hF hR (by omega)) zz_0 ?_
    refine px_goto dx_Mc_convert_225 ?_
    exact px_vret dx_Mc_convert_255 rfl (by (have e1 : kvL op (gL σ (f + 1) r1) (gD σ (f + 2) r1) = FP.d2l (gD σ (f + 2) r1) := by (unfold kvL; (first | rw [if_pos k_23_0] | rw [if_neg k_23_0]); (first | rw [if_pos k_23_1] | rw [if_neg k_23_1]); (first | rw [if_pos k_23_2] | rw [if_neg k_23_2]); (first | rw [if_pos k_23_3] | rw [if_neg k_23_3]); (first | rw [if_pos k_23_4] | rw [if_neg k_23_4]); (first | rw [if_pos k_23_5] | rw [if_neg k_23_5]); (first | rw [if_pos k_23_6] | rw [if_neg k_23_6]); (first | rw [if_pos k_23_7] | rw [if_neg k_23_7]))); (have e2 : kvE op (gL σ (f + 1) r1) (gD σ (f + 2) r1) = 0 := by (unfold kvE; (first | rw [if_pos k_23_0] | rw [if_neg k_23_0]); (first | rw [if_pos k_23_1] | rw [if_neg k_23_1]); (first | rw [if_pos k_23_2] | rw [if_neg k_23_2]); (first | rw [if_pos k_23_3] | rw [if_neg k_23_3]); (first | rw [if_pos k_23_4] | rw [if_neg k_23_4]); (first | rw [if_pos k_23_5] | rw [if_neg k_23_5]); (first | rw [if_pos k_23_6] | rw [if_neg k_23_6]); (first | rw [if_pos k_23_7] | rw [if_neg k_23_7]))); rw [e1, e2] at hp; exact hp)
  by_cases k_23_8 : op ∈ ([140] : List Nat)
  · refine px_tabG (e := op) (off := 205) [140] dx_Mc_convert_23 (by omega) k_23_8 (by decide) rfl ?_
    refine px_aload_n dx_Mc_convert_228 rfl ?_
    refine px_aload_n dx_Mc_convert_229 rfl ?_
    refine px_getI dx_Mc_convert_230 fl_Mc_83 kS.1 (by omega) rfl ?_
    refine px_eqi (y := nI (to)) h9 ?_
    refine px_lconst (v := 0) dx_Mc_convert_233 rfl ?_
    refine px_dload dx_Mc_convert_234 rfl ?_
    refine px_d2f dx_Mc_convert_236 (d2f_fB hd).vn ?_
    refine px_f2d dx_Mc_convert_237 (f2d_dB (d2f_fB hd)).vn ?_
    refine px_cV (Y := yy_Mc_convert) (Yc := yy_Fr_set) (b := f) (As := [.int (nI (to)), .long (0), .double (FP.f2d (FP.d2f (gD σ (f + 2) r1)))]) dx_Mc_convert_238 ml_Mc_86 mv_Fr_set np_Fr_set ⟨_, rfl⟩ (by decide) kF.1 (by omega) rfl (Nat.le_of_ble_eq_true rfl) (Nat.le_of_ble_eq_true rfl) rk_Mc_convert_Fr_set rfl (k_set (r := to) hF hR (by omega)) zz_0 ?_
    refine px_goto dx_Mc_convert_241 ?_
    exact px_vret dx_Mc_convert_255 rfl (by (have e1 : kvL op (gL σ (f + 1) r1) (gD σ (f + 2) r1) = 0 := by (unfold kvL; (first | rw [if_pos k_23_0] | rw [if_neg k_23_0]); (first | rw [if_pos k_23_1] | rw [if_neg k_23_1]); (first | rw [if_pos k_23_2] | rw [if_neg k_23_2]); (first | rw [if_pos k_23_3] | rw [if_neg k_23_3]); (first | rw [if_pos k_23_4] | rw [if_neg k_23_4]); (first | rw [if_pos k_23_5] | rw [if_neg k_23_5]); (first | rw [if_pos k_23_6] | rw [if_neg k_23_6]); (first | rw [if_pos k_23_7] | rw [if_neg k_23_7]); (first | rw [if_pos k_23_8] | rw [if_neg k_23_8]))); (have e2 : kvE op (gL σ (f + 1) r1) (gD σ (f + 2) r1) = FP.f2d (FP.d2f (gD σ (f + 2) r1)) := by (unfold kvE; (first | rw [if_pos k_23_0] | rw [if_neg k_23_0]); (first | rw [if_pos k_23_1] | rw [if_neg k_23_1]); (first | rw [if_pos k_23_2] | rw [if_neg k_23_2]); (first | rw [if_pos k_23_3] | rw [if_neg k_23_3]); (first | rw [if_pos k_23_4] | rw [if_neg k_23_4]); (first | rw [if_pos k_23_5] | rw [if_neg k_23_5]); (first | rw [if_pos k_23_6] | rw [if_neg k_23_6]); (first | rw [if_pos k_23_7] | rw [if_neg k_23_7]); (first | rw [if_pos k_23_8] | rw [if_neg k_23_8]))); rw [e1, e2] at hp; exact hp)
  have kn_23 : op ∉ ([123, 125, 127, 128, 130, 131, 132, 133, 134, 135, 136, 138, 139, 140] : List Nat) := by simp only [List.mem_cons, List.not_mem_nil, or_false, not_or] at *; omega
  refine px_tabD (e := op) [123, 125, 127, 128, 130, 131, 132, 133, 134, 135, 136, 138, 139, 140] dx_Mc_convert_23 (by omega) kn_23 17 123 ⟨rfl, rfl⟩ (by decide) rfl ?_
  refine px_aload_n dx_Mc_convert_244 rfl ?_
  refine px_aload_n dx_Mc_convert_245 rfl ?_
  refine px_getI dx_Mc_convert_246 fl_Mc_83 kS.1 (by omega) rfl ?_
  refine px_eqi (y := nI (to)) h9 ?_
  refine px_lload_n dx_Mc_convert_249 rfl ?_
  refine px_dload dx_Mc_convert_250 rfl ?_
  refine px_cV (Y := yy_Mc_convert) (Yc := yy_Fr_set) (b := f) (As := [.int (nI (to)), .long (gL σ (f + 1) r1), .double (gD σ (f + 2) r1)]) dx_Mc_convert_252 ml_Mc_86 mv_Fr_set np_Fr_set ⟨_, rfl⟩ (by decide) kF.1 (by omega) rfl (Nat.le_of_ble_eq_true rfl) (Nat.le_of_ble_eq_true rfl) rk_Mc_convert_Fr_set rfl (k_set (r := to) hF hR (by omega)) zz_0 ?_
  exact px_vret dx_Mc_convert_255 rfl (by (have e1 : kvL op (gL σ (f + 1) r1) (gD σ (f + 2) r1) = gL σ (f + 1) r1 := by (unfold kvL; (first | rw [if_pos k_23_0] | rw [if_neg k_23_0]); (first | rw [if_pos k_23_1] | rw [if_neg k_23_1]); (first | rw [if_pos k_23_2] | rw [if_neg k_23_2]); (first | rw [if_pos k_23_3] | rw [if_neg k_23_3]); (first | rw [if_pos k_23_4] | rw [if_neg k_23_4]); (first | rw [if_pos k_23_5] | rw [if_neg k_23_5]); (first | rw [if_pos k_23_6] | rw [if_neg k_23_6]); (first | rw [if_pos k_23_7] | rw [if_neg k_23_7]); (first | rw [if_pos k_23_8] | rw [if_neg k_23_8]))); (have e2 : kvE op (gL σ (f + 1) r1) (gD σ (f + 2) r1) = gD σ (f + 2) r1 := by (unfold kvE; (first | rw [if_pos k_23_0] | rw [if_neg k_23_0]); (first | rw [if_pos k_23_1] | rw [if_neg k_23_1]); (first | rw [if_pos k_23_2] | rw [if_neg k_23_2]); (first | rw [if_pos k_23_3] | rw [if_neg k_23_3]); (first | rw [if_pos k_23_4] | rw [if_neg k_23_4]); (first | rw [if_pos k_23_5] | rw [if_neg k_23_5]); (first | rw [if_pos k_23_6] | rw [if_neg k_23_6]); (first | rw [if_pos k_23_7] | rw [if_neg k_23_7]); (first | rw [if_pos k_23_8] | rw [if_neg k_23_8]))); rw [e1, e2] at hp; exact hp)
