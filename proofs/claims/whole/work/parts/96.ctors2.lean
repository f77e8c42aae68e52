/-! the start: the greater constructors -/
theorem mrf_ite (k : Nat) : mrf k = if k = 35 then some 740 else if k = 31 then some 739 else if k = 30 then some 738 else if k = 29 then some 737 else if k = 28 then some 736 else if k = 25 then some 735 else if k = 24 then some 734 else if k = 23 then some 733 else if k = 19 then some 732 else if k = 18 then some 731 else if k = 17 then some 730 else if k = 16 then some 729 else if k = 15 then some 728 else if k = 14 then some 727 else if k = 13 then some 726 else if k = 12 then some 725 else if k = 11 then some 724 else if k = 10 then some 723 else if k = 9 then some 722 else if k = 8 then some 721 else if k = 7 then some 720 else if k = 6 then some 719 else if k = 2 then some 718 else none := by
  unfold mrf
  split <;> simp_all
/-- an array of objects, filled up to a place -/
def AR (σ : fr_S) (a u : Nat) (f : Nat → Nat) : Prop := (∀ k, gI σ a k = 0) ∧ (∀ k, gL σ a k = 0) ∧ (∀ k, gD σ a k = 0) ∧ ∀ k, gR σ a k = if k < u then some (f k) else none
theorem AR.z {σ : fr_S} {a : Nat} {f : Nat → Nat} (h : ZR σ a) : AR σ a 0 f := ⟨h.1, h.2.1, h.2.2.1, fun k => by rw [if_neg (Nat.not_lt_zero _)]; exact h.2.2.2 k⟩
theorem AR.sm {σ τ : fr_S} {a u : Nat} {f : Nat → Nat} (h : AR σ a u f) (q : SM σ τ a) : AR τ a u f := ⟨fun k => by rw [q.1]; exact h.1 k, fun k => by rw [q.2.1]; exact h.2.1 k, fun k => by rw [q.2.2.1]; exact h.2.2.1 k, fun k => by rw [q.2.2.2]; exact h.2.2.2 k⟩
theorem AR.put {σ : fr_S} {a u x : Nat} {f : Nat → Nat} (h : AR σ a u f) (hx : x = f u) : AR (sR σ a u (some x)) a (u + 1) f := ⟨h.1, h.2.1, h.2.2.1, fun k => by
  subst hx
  have e : gR (sR σ a u (some (f u))) a k = if k = u then some (f u) else gR σ a k := by simp [gR, sR, u_2]
  rw [e, h.2.2.2 k]
  by_cases c : k = u
  · subst c
    rw [if_pos rfl, if_pos (Nat.lt_succ_self _)]
  · rw [if_neg c]
    by_cases d : k < u
    · rw [if_pos d, if_pos (by omega)]
    · rw [if_neg d, if_neg (by omega)]⟩
theorem AR.dn {σ : fr_S} {a u : Nat} {f : Nat → Nat} (h : AR σ a u f) {K : Nat} (hk : kd a = (K, u)) (hi : ∀ k, fIk K k = 0) (hr : ∀ k, fRk K a k = if k < u then some (f k) else none) : DN σ a := by
  unfold DN
  rw [hk]
  exact ⟨fun k _ => (h.1 k).trans (hi k).symm, h.2.1, h.2.2.1, fun k => (h.2.2.2 k).trans (hr k).symm⟩

set_option maxRecDepth 100000 in
set_option maxHeartbeats 4000000 in
theorem c_Mo {l : Launch} {G : fr_G} {σ : fr_S} (hz : ZR σ 717) : PX l G yy_Mo_init ri_Mo (QR G true (717 + 1 + 23) 23 2695 (Pst σ 717 23)) true (717 + 1) 0 0 0 [(0, .ref 717)] [] σ := by
  have k0 : kd 717 = (9, 0) := by decide +kernel
  refine px_aload_n dx_Mo_init_0 rfl ?_
  refine px_objI dx_Mo_init_1 (al_in 969 (by decide +kernel) rfl) ⟨Nat.le_of_ble_eq_true rfl, Nat.le_of_ble_eq_true rfl⟩ ?_
  refine px_aload_n dx_Mo_init_4 rfl ?_
  refine px_sipush (v := nI 232) dx_Mo_init_5 (by decide) ?_
  refine px_newaI (N := 232) rfl dx_Mo_init_8 (by decide +kernel) (by decide) (Nat.le_of_ble_eq_true rfl) (Nat.le_of_ble_eq_true rfl) ?_
  refine px_putR dx_Mo_init_10 fl_Mo_7 (fun _ => ⟨rfl, _, _, ck_Mo, rfl, al_in 972 (by decide +kernel) rfl, rfl, rfl⟩) k0 (by omega) rfl ?_
  refine px_aload_n dx_Mo_init_13 rfl ?_
  refine px_iconst (v := (-1)) dx_Mo_init_14 (by decide) ?_
  refine px_putI dx_Mo_init_15 fl_Mo_13 k0 (by omega) rfl ?_
  refine px_aload_n dx_Mo_init_18 rfl ?_
  refine px_iconst (v := nI 2) dx_Mo_init_19 (by decide) ?_
  refine px_newaI (N := 2) rfl dx_Mo_init_20 (by decide +kernel) (by decide) (Nat.le_of_ble_eq_true rfl) (Nat.le_of_ble_eq_true rfl) ?_
  refine px_putR dx_Mo_init_22 fl_Mo_17 (fun _ => ⟨rfl, _, _, ck_Mo, rfl, al_in 976 (by decide +kernel) rfl, rfl, rfl⟩) k0 (by omega) rfl ?_
  refine px_aload_n dx_Mo_init_25 rfl ?_
  refine px_iconst (v := nI 2) dx_Mo_init_26 (by decide) ?_
  refine px_newaI (N := 2) rfl dx_Mo_init_27 (by decide +kernel) (by decide) (Nat.le_of_ble_eq_true rfl) (Nat.le_of_ble_eq_true rfl) ?_
  refine px_putR dx_Mo_init_29 fl_Mo_20 (fun _ => ⟨rfl, _, _, ck_Mo, rfl, al_in 977 (by decide +kernel) rfl, rfl, rfl⟩) k0 (by omega) rfl ?_
  refine px_aload_n dx_Mo_init_32 rfl ?_
  refine px_bipush (v := nI 8) dx_Mo_init_33 (by decide) ?_
  refine px_newaI (N := 8) rfl dx_Mo_init_35 (by decide +kernel) (by decide) (Nat.le_of_ble_eq_true rfl) (Nat.le_of_ble_eq_true rfl) ?_
  refine px_putR dx_Mo_init_37 fl_Mo_23 (fun _ => ⟨rfl, _, _, ck_Mo, rfl, al_in 978 (by decide +kernel) rfl, rfl, rfl⟩) k0 (by omega) rfl ?_
  refine px_aload_n dx_Mo_init_40 rfl ?_
  refine px_bipush (v := nI 8) dx_Mo_init_41 (by decide) ?_
  refine px_newaI (N := 8) rfl dx_Mo_init_43 (by decide +kernel) (by decide) (Nat.le_of_ble_eq_true rfl) (Nat.le_of_ble_eq_true rfl) ?_
  refine px_putR dx_Mo_init_45 fl_Mo_26 (fun _ => ⟨rfl, _, _, ck_Mo, rfl, al_in 979 (by decide +kernel) rfl, rfl, rfl⟩) k0 (by omega) rfl ?_
  refine px_aload_n dx_Mo_init_48 rfl ?_
  refine px_bipush (v := nI 24) dx_Mo_init_49 (by decide) ?_
  refine px_newaI (N := 24) rfl dx_Mo_init_51 (by decide +kernel) (by decide) (Nat.le_of_ble_eq_true rfl) (Nat.le_of_ble_eq_true rfl) ?_
  refine px_putR dx_Mo_init_53 fl_Mo_29 (fun _ => ⟨rfl, _, _, ck_Mo, rfl, al_in 980 (by decide +kernel) rfl, rfl, rfl⟩) k0 (by omega) rfl ?_
  refine px_aload_n dx_Mo_init_56 rfl ?_
  refine px_bipush (v := nI 8) dx_Mo_init_57 (by decide) ?_
  refine px_newaI (N := 8) rfl dx_Mo_init_59 (by decide +kernel) (by decide) (Nat.le_of_ble_eq_true rfl) (Nat.le_of_ble_eq_true rfl) ?_
  refine px_putR dx_Mo_init_61 fl_Mo_32 (fun _ => ⟨rfl, _, _, ck_Mo, rfl, al_in 981 (by decide +kernel) rfl, rfl, rfl⟩) k0 (by omega) rfl ?_
  refine px_aload_n dx_Mo_init_64 rfl ?_
  refine px_bipush (v := nI 8) dx_Mo_init_65 (by decide) ?_
  refine px_newaI (N := 8) rfl dx_Mo_init_67 (by decide +kernel) (by decide) (Nat.le_of_ble_eq_true rfl) (Nat.le_of_ble_eq_true rfl) ?_
  refine px_putR dx_Mo_init_69 fl_Mo_35 (fun _ => ⟨rfl, _, _, ck_Mo, rfl, al_in 982 (by decide +kernel) rfl, rfl, rfl⟩) k0 (by omega) rfl ?_
  refine px_aload_n dx_Mo_init_72 rfl ?_
  refine px_sipush (v := nI 320) dx_Mo_init_73 (by decide) ?_
  refine px_newaI (N := 320) rfl dx_Mo_init_76 (by decide +kernel) (by decide) (Nat.le_of_ble_eq_true rfl) (Nat.le_of_ble_eq_true rfl) ?_
  refine px_putR dx_Mo_init_78 fl_Mo_38 (fun _ => ⟨rfl, _, _, ck_Mo, rfl, al_in 983 (by decide +kernel) rfl, rfl, rfl⟩) k0 (by omega) rfl ?_
  refine px_aload_n dx_Mo_init_81 rfl ?_
  refine px_iconst (v := nI 4) dx_Mo_init_82 (by decide) ?_
  refine px_newaI (N := 4) rfl dx_Mo_init_83 (by decide +kernel) (by decide) (Nat.le_of_ble_eq_true rfl) (Nat.le_of_ble_eq_true rfl) ?_
  refine px_putR dx_Mo_init_85 fl_Mo_41 (fun _ => ⟨rfl, _, _, ck_Mo, rfl, al_in 984 (by decide +kernel) rfl, rfl, rfl⟩) k0 (by omega) rfl ?_
  refine px_aload_n dx_Mo_init_88 rfl ?_
  refine px_iconst (v := nI 4) dx_Mo_init_89 (by decide) ?_
  refine px_newaI (N := 4) rfl dx_Mo_init_90 (by decide +kernel) (by decide) (Nat.le_of_ble_eq_true rfl) (Nat.le_of_ble_eq_true rfl) ?_
  refine px_putR dx_Mo_init_92 fl_Mo_44 (fun _ => ⟨rfl, _, _, ck_Mo, rfl, al_in 985 (by decide +kernel) rfl, rfl, rfl⟩) k0 (by omega) rfl ?_
  refine px_aload_n dx_Mo_init_95 rfl ?_
  refine px_sipush (v := nI 160) dx_Mo_init_96 (by decide) ?_
  refine px_newaZ (N := 160) rfl dx_Mo_init_99 (by decide +kernel) (by decide) (Nat.le_of_ble_eq_true rfl) (Nat.le_of_ble_eq_true rfl) ?_
  refine px_putR dx_Mo_init_101 fl_Mo_47 (fun _ => ⟨rfl, _, _, ck_Mo, rfl, al_in 986 (by decide +kernel) rfl, rfl, rfl⟩) k0 (by omega) rfl ?_
  refine px_aload_n dx_Mo_init_104 rfl ?_
  refine px_sipush (v := nI 160) dx_Mo_init_105 (by decide) ?_
  refine px_newaZ (N := 160) rfl dx_Mo_init_108 (by decide +kernel) (by decide) (Nat.le_of_ble_eq_true rfl) (Nat.le_of_ble_eq_true rfl) ?_
  refine px_putR dx_Mo_init_110 fl_Mo_51 (fun _ => ⟨rfl, _, _, ck_Mo, rfl, al_in 987 (by decide +kernel) rfl, rfl, rfl⟩) k0 (by omega) rfl ?_
  refine px_aload_n dx_Mo_init_113 rfl ?_
  refine px_sipush (v := nI 1600) dx_Mo_init_114 (by decide) ?_
  refine px_newaI (N := 1600) rfl dx_Mo_init_117 (by decide +kernel) (by decide) (Nat.le_of_ble_eq_true rfl) (Nat.le_of_ble_eq_true rfl) ?_
  refine px_putR dx_Mo_init_119 fl_Mo_54 (fun _ => ⟨rfl, _, _, ck_Mo, rfl, al_in 988 (by decide +kernel) rfl, rfl, rfl⟩) k0 (by omega) rfl ?_
  refine px_aload_n dx_Mo_init_122 rfl ?_
  refine px_bipush (v := nI 10) dx_Mo_init_123 (by decide) ?_
  refine px_newaI (N := 10) rfl dx_Mo_init_125 (by decide +kernel) (by decide) (Nat.le_of_ble_eq_true rfl) (Nat.le_of_ble_eq_true rfl) ?_
  refine px_putR dx_Mo_init_127 fl_Mo_57 (fun _ => ⟨rfl, _, _, ck_Mo, rfl, al_in 989 (by decide +kernel) rfl, rfl, rfl⟩) k0 (by omega) rfl ?_
  refine px_aload_n dx_Mo_init_130 rfl ?_
  refine px_iconst (v := nI 3) dx_Mo_init_131 (by decide) ?_
  refine px_newaI (N := 3) rfl dx_Mo_init_132 (by decide +kernel) (by decide) (Nat.le_of_ble_eq_true rfl) (Nat.le_of_ble_eq_true rfl) ?_
  refine px_putR dx_Mo_init_134 fl_Mo_60 (fun _ => ⟨rfl, _, _, ck_Mo, rfl, al_in 993 (by decide +kernel) rfl, rfl, rfl⟩) k0 (by omega) rfl ?_
  refine px_aload_n dx_Mo_init_137 rfl ?_
  refine px_iconst (v := nI 3) dx_Mo_init_138 (by decide) ?_
  refine px_newaL (N := 3) rfl dx_Mo_init_139 (by decide +kernel) (by decide) (Nat.le_of_ble_eq_true rfl) (Nat.le_of_ble_eq_true rfl) ?_
  refine px_putR dx_Mo_init_141 fl_Mo_63 (fun _ => ⟨rfl, _, _, ck_Mo, rfl, al_in 994 (by decide +kernel) rfl, rfl, rfl⟩) k0 (by omega) rfl ?_
  refine px_aload_n dx_Mo_init_144 rfl ?_
  refine px_iconst (v := nI 3) dx_Mo_init_145 (by decide) ?_
  refine px_newaD (N := 3) rfl dx_Mo_init_146 (by decide +kernel) (by decide) (Nat.le_of_ble_eq_true rfl) (Nat.le_of_ble_eq_true rfl) ?_
  refine px_putR dx_Mo_init_148 fl_Mo_67 (fun _ => ⟨rfl, _, _, ck_Mo, rfl, al_in 995 (by decide +kernel) rfl, rfl, rfl⟩) k0 (by omega) rfl ?_
  refine px_aload_n dx_Mo_init_151 rfl ?_
  refine px_bipush (v := nI 6) dx_Mo_init_152 (by decide) ?_
  refine px_newaI (N := 6) rfl dx_Mo_init_154 (by decide +kernel) (by decide) (Nat.le_of_ble_eq_true rfl) (Nat.le_of_ble_eq_true rfl) ?_
  refine px_putR dx_Mo_init_156 fl_Mo_71 (fun _ => ⟨rfl, _, _, ck_Mo, rfl, al_in 998 (by decide +kernel) rfl, rfl, rfl⟩) k0 (by omega) rfl ?_
  refine px_aload_n dx_Mo_init_159 rfl ?_
  refine px_bipush (v := nI 6) dx_Mo_init_160 (by decide) ?_
  refine px_newaI (N := 6) rfl dx_Mo_init_162 (by decide +kernel) (by decide) (Nat.le_of_ble_eq_true rfl) (Nat.le_of_ble_eq_true rfl) ?_
  refine px_putR dx_Mo_init_164 fl_Mo_74 (fun _ => ⟨rfl, _, _, ck_Mo, rfl, al_in 999 (by decide +kernel) rfl, rfl, rfl⟩) k0 (by omega) rfl ?_
  refine px_aload_n dx_Mo_init_167 rfl ?_
  refine px_bipush (v := nI 60) dx_Mo_init_168 (by decide) ?_
  refine px_newaL (N := 60) rfl dx_Mo_init_170 (by decide +kernel) (by decide) (Nat.le_of_ble_eq_true rfl) (Nat.le_of_ble_eq_true rfl) ?_
  refine px_putR dx_Mo_init_172 fl_Mo_77 (fun _ => ⟨rfl, _, _, ck_Mo, rfl, al_in 1000 (by decide +kernel) rfl, rfl, rfl⟩) k0 (by omega) rfl ?_
  refine px_aload_n dx_Mo_init_175 rfl ?_
  refine px_bipush (v := nI 60) dx_Mo_init_176 (by decide) ?_
  refine px_newaD (N := 60) rfl dx_Mo_init_178 (by decide +kernel) (by decide) (Nat.le_of_ble_eq_true rfl) (Nat.le_of_ble_eq_true rfl) ?_
  refine px_putR dx_Mo_init_180 fl_Mo_80 (fun _ => ⟨rfl, _, _, ck_Mo, rfl, al_in 1001 (by decide +kernel) rfl, rfl, rfl⟩) k0 (by omega) rfl ?_
  refine px_aload_n dx_Mo_init_183 rfl ?_
  refine px_iconst (v := nI 4) dx_Mo_init_184 (by decide) ?_
  refine px_newaI (N := 4) rfl dx_Mo_init_185 (by decide +kernel) (by decide) (Nat.le_of_ble_eq_true rfl) (Nat.le_of_ble_eq_true rfl) ?_
  refine px_putR dx_Mo_init_187 fl_Mo_83 (fun _ => ⟨rfl, _, _, ck_Mo, rfl, al_in 1005 (by decide +kernel) rfl, rfl, rfl⟩) k0 (by omega) rfl ?_
  refine px_vret dx_Mo_init_190 rfl ?_
  refine ⟨rfl, fun o ho => (((((((((((((((((((((((((((((((((((((((((((((((SM.rf.z (by omega)).r (by omega)).i (by omega)).z (by omega)).r (by omega)).z (by omega)).r (by omega)).z (by omega)).r (by omega)).z (by omega)).r (by omega)).z (by omega)).r (by omega)).z (by omega)).r (by omega)).z (by omega)).r (by omega)).z (by omega)).r (by omega)).z (by omega)).r (by omega)).z (by omega)).r (by omega)).z (by omega)).r (by omega)).z (by omega)).r (by omega)).z (by omega)).r (by omega)).z (by omega)).r (by omega)).z (by omega)).r (by omega)).z (by omega)).r (by omega)).z (by omega)).r (by omega)).z (by omega)).r (by omega)).z (by omega)).r (by omega)).z (by omega)).r (by omega)).z (by omega)).r (by omega)).z (by omega)).r (by omega)), fun o h1 h2 => ?_⟩
  rcases (show o = 717 ∨ o = 717 + 1 ∨ o = 717 + 2 ∨ o = 717 + 3 ∨ o = 717 + 4 ∨ o = 717 + 5 ∨ o = 717 + 6 ∨ o = 717 + 7 ∨ o = 717 + 8 ∨ o = 717 + 9 ∨ o = 717 + 10 ∨ o = 717 + 11 ∨ o = 717 + 12 ∨ o = 717 + 13 ∨ o = 717 + 14 ∨ o = 717 + 15 ∨ o = 717 + 16 ∨ o = 717 + 17 ∨ o = 717 + 18 ∨ o = 717 + 19 ∨ o = 717 + 20 ∨ o = 717 + 21 ∨ o = 717 + 22 ∨ o = 717 + 23 by omega) with e | e | e | e | e | e | e | e | e | e | e | e | e | e | e | e | e | e | e | e | e | e | e | e
  · rw [e]
    unfold DN
    rw [k0]
    obtain ⟨z1, z2, z3, z4⟩ := hz
    simp only [gI] at z1
    simp only [gL] at z2
    simp only [gD] at z3
    simp only [gR] at z4
    refine ⟨fun k w => ?_, fun k => ?_, fun k => ?_, fun k => ?_⟩
    · first | exact absurd rfl w | simp [gI, gL, gD, gR, sI, sL, sD, sR, sZ, u_2, fIk, z1]
    · simp [gI, gL, gD, gR, sI, sL, sD, sR, sZ, u_2, z2]
    · simp [gI, gL, gD, gR, sI, sL, sD, sR, sZ, u_2, z3]
    · simp [gI, gL, gD, gR, sI, sL, sD, sR, sZ, u_2, fRk, z4, mrf_ite]
  · rw [e]
    exact DN.z (K := 20) (N := 232) (ZR.z.sm ((((((((((((((((((((((((((((((((((((((((((((((SM.rf.r (by omega)).i (by omega)).z (by omega)).r (by omega)).z (by omega)).r (by omega)).z (by omega)).r (by omega)).z (by omega)).r (by omega)).z (by omega)).r (by omega)).z (by omega)).r (by omega)).z (by omega)).r (by omega)).z (by omega)).r (by omega)).z (by omega)).r (by omega)).z (by omega)).r (by omega)).z (by omega)).r (by omega)).z (by omega)).r (by omega)).z (by omega)).r (by omega)).z (by omega)).r (by omega)).z (by omega)).r (by omega)).z (by omega)).r (by omega)).z (by omega)).r (by omega)).z (by omega)).r (by omega)).z (by omega)).r (by omega)).z (by omega)).r (by omega)).z (by omega)).r (by omega)).z (by omega)).r (by omega))) (by decide +kernel) (by decide)
  · rw [e]
    exact DN.z (K := 20) (N := 2) (ZR.z.sm (((((((((((((((((((((((((((((((((((((((((((SM.rf.r (by omega)).z (by omega)).r (by omega)).z (by omega)).r (by omega)).z (by omega)).r (by omega)).z (by omega)).r (by omega)).z (by omega)).r (by omega)).z (by omega)).r (by omega)).z (by omega)).r (by omega)).z (by omega)).r (by omega)).z (by omega)).r (by omega)).z (by omega)).r (by omega)).z (by omega)).r (by omega)).z (by omega)).r (by omega)).z (by omega)).r (by omega)).z (by omega)).r (by omega)).z (by omega)).r (by omega)).z (by omega)).r (by omega)).z (by omega)).r (by omega)).z (by omega)).r (by omega)).z (by omega)).r (by omega)).z (by omega)).r (by omega)).z (by omega)).r (by omega))) (by decide +kernel) (by decide)
  · rw [e]
    exact DN.z (K := 20) (N := 2) (ZR.z.sm (((((((((((((((((((((((((((((((((((((((((SM.rf.r (by omega)).z (by omega)).r (by omega)).z (by omega)).r (by omega)).z (by omega)).r (by omega)).z (by omega)).r (by omega)).z (by omega)).r (by omega)).z (by omega)).r (by omega)).z (by omega)).r (by omega)).z (by omega)).r (by omega)).z (by omega)).r (by omega)).z (by omega)).r (by omega)).z (by omega)).r (by omega)).z (by omega)).r (by omega)).z (by omega)).r (by omega)).z (by omega)).r (by omega)).z (by omega)).r (by omega)).z (by omega)).r (by omega)).z (by omega)).r (by omega)).z (by omega)).r (by omega)).z (by omega)).r (by omega)).z (by omega)).r (by omega))) (by decide +kernel) (by decide)
  · rw [e]
    exact DN.z (K := 20) (N := 8) (ZR.z.sm (((((((((((((((((((((((((((((((((((((((SM.rf.r (by omega)).z (by omega)).r (by omega)).z (by omega)).r (by omega)).z (by omega)).r (by omega)).z (by omega)).r (by omega)).z (by omega)).r (by omega)).z (by omega)).r (by omega)).z (by omega)).r (by omega)).z (by omega)).r (by omega)).z (by omega)).r (by omega)).z (by omega)).r (by omega)).z (by omega)).r (by omega)).z (by omega)).r (by omega)).z (by omega)).r (by omega)).z (by omega)).r (by omega)).z (by omega)).r (by omega)).z (by omega)).r (by omega)).z (by omega)).r (by omega)).z (by omega)).r (by omega)).z (by omega)).r (by omega))) (by decide +kernel) (by decide)
  · rw [e]
    exact DN.z (K := 20) (N := 8) (ZR.z.sm (((((((((((((((((((((((((((((((((((((SM.rf.r (by omega)).z (by omega)).r (by omega)).z (by omega)).r (by omega)).z (by omega)).r (by omega)).z (by omega)).r (by omega)).z (by omega)).r (by omega)).z (by omega)).r (by omega)).z (by omega)).r (by omega)).z (by omega)).r (by omega)).z (by omega)).r (by omega)).z (by omega)).r (by omega)).z (by omega)).r (by omega)).z (by omega)).r (by omega)).z (by omega)).r (by omega)).z (by omega)).r (by omega)).z (by omega)).r (by omega)).z (by omega)).r (by omega)).z (by omega)).r (by omega)).z (by omega)).r (by omega))) (by decide +kernel) (by decide)
  · rw [e]
    exact DN.z (K := 20) (N := 24) (ZR.z.sm (((((((((((((((((((((((((((((((((((SM.rf.r (by omega)).z (by omega)).r (by omega)).z (by omega)).r (by omega)).z (by omega)).r (by omega)).z (by omega)).r (by omega)).z (by omega)).r (by omega)).z (by omega)).r (by omega)).z (by omega)).r (by omega)).z (by omega)).r (by omega)).z (by omega)).r (by omega)).z (by omega)).r (by omega)).z (by omega)).r (by omega)).z (by omega)).r (by omega)).z (by omega)).r (by omega)).z (by omega)).r (by omega)).z (by omega)).r (by omega)).z (by omega)).r (by omega)).z (by omega)).r (by omega))) (by decide +kernel) (by decide)
  · rw [e]
    exact DN.z (K := 20) (N := 8) (ZR.z.sm (((((((((((((((((((((((((((((((((SM.rf.r (by omega)).z (by omega)).r (by omega)).z (by omega)).r (by omega)).z (by omega)).r (by omega)).z (by omega)).r (by omega)).z (by omega)).r (by omega)).z (by omega)).r (by omega)).z (by omega)).r (by omega)).z (by omega)).r (by omega)).z (by omega)).r (by omega)).z (by omega)).r (by omega)).z (by omega)).r (by omega)).z (by omega)).r (by omega)).z (by omega)).r (by omega)).z (by omega)).r (by omega)).z (by omega)).r (by omega)).z (by omega)).r (by omega))) (by decide +kernel) (by decide)
  · rw [e]
    exact DN.z (K := 20) (N := 8) (ZR.z.sm (((((((((((((((((((((((((((((((SM.rf.r (by omega)).z (by omega)).r (by omega)).z (by omega)).r (by omega)).z (by omega)).r (by omega)).z (by omega)).r (by omega)).z (by omega)).r (by omega)).z (by omega)).r (by omega)).z (by omega)).r (by omega)).z (by omega)).r (by omega)).z (by omega)).r (by omega)).z (by omega)).r (by omega)).z (by omega)).r (by omega)).z (by omega)).r (by omega)).z (by omega)).r (by omega)).z (by omega)).r (by omega)).z (by omega)).r (by omega))) (by decide +kernel) (by decide)
  · rw [e]
    exact DN.z (K := 20) (N := 320) (ZR.z.sm (((((((((((((((((((((((((((((SM.rf.r (by omega)).z (by omega)).r (by omega)).z (by omega)).r (by omega)).z (by omega)).r (by omega)).z (by omega)).r (by omega)).z (by omega)).r (by omega)).z (by omega)).r (by omega)).z (by omega)).r (by omega)).z (by omega)).r (by omega)).z (by omega)).r (by omega)).z (by omega)).r (by omega)).z (by omega)).r (by omega)).z (by omega)).r (by omega)).z (by omega)).r (by omega)).z (by omega)).r (by omega))) (by decide +kernel) (by decide)
  · rw [e]
    exact DN.z (K := 20) (N := 4) (ZR.z.sm (((((((((((((((((((((((((((SM.rf.r (by omega)).z (by omega)).r (by omega)).z (by omega)).r (by omega)).z (by omega)).r (by omega)).z (by omega)).r (by omega)).z (by omega)).r (by omega)).z (by omega)).r (by omega)).z (by omega)).r (by omega)).z (by omega)).r (by omega)).z (by omega)).r (by omega)).z (by omega)).r (by omega)).z (by omega)).r (by omega)).z (by omega)).r (by omega)).z (by omega)).r (by omega))) (by decide +kernel) (by decide)
  · rw [e]
    exact DN.z (K := 20) (N := 4) (ZR.z.sm (((((((((((((((((((((((((SM.rf.r (by omega)).z (by omega)).r (by omega)).z (by omega)).r (by omega)).z (by omega)).r (by omega)).z (by omega)).r (by omega)).z (by omega)).r (by omega)).z (by omega)).r (by omega)).z (by omega)).r (by omega)).z (by omega)).r (by omega)).z (by omega)).r (by omega)).z (by omega)).r (by omega)).z (by omega)).r (by omega)).z (by omega)).r (by omega))) (by decide +kernel) (by decide)
  · rw [e]
    exact DN.z (K := 21) (N := 160) (ZR.z.sm (((((((((((((((((((((((SM.rf.r (by omega)).z (by omega)).r (by omega)).z (by omega)).r (by omega)).z (by omega)).r (by omega)).z (by omega)).r (by omega)).z (by omega)).r (by omega)).z (by omega)).r (by omega)).z (by omega)).r (by omega)).z (by omega)).r (by omega)).z (by omega)).r (by omega)).z (by omega)).r (by omega)).z (by omega)).r (by omega))) (by decide +kernel) (by decide)
  · rw [e]
    exact DN.z (K := 21) (N := 160) (ZR.z.sm (((((((((((((((((((((SM.rf.r (by omega)).z (by omega)).r (by omega)).z (by omega)).r (by omega)).z (by omega)).r (by omega)).z (by omega)).r (by omega)).z (by omega)).r (by omega)).z (by omega)).r (by omega)).z (by omega)).r (by omega)).z (by omega)).r (by omega)).z (by omega)).r (by omega)).z (by omega)).r (by omega))) (by decide +kernel) (by decide)
  · rw [e]
    exact DN.z (K := 20) (N := 1600) (ZR.z.sm (((((((((((((((((((SM.rf.r (by omega)).z (by omega)).r (by omega)).z (by omega)).r (by omega)).z (by omega)).r (by omega)).z (by omega)).r (by omega)).z (by omega)).r (by omega)).z (by omega)).r (by omega)).z (by omega)).r (by omega)).z (by omega)).r (by omega)).z (by omega)).r (by omega))) (by decide +kernel) (by decide)
  · rw [e]
    exact DN.z (K := 20) (N := 10) (ZR.z.sm (((((((((((((((((SM.rf.r (by omega)).z (by omega)).r (by omega)).z (by omega)).r (by omega)).z (by omega)).r (by omega)).z (by omega)).r (by omega)).z (by omega)).r (by omega)).z (by omega)).r (by omega)).z (by omega)).r (by omega)).z (by omega)).r (by omega))) (by decide +kernel) (by decide)
  · rw [e]
    exact DN.z (K := 20) (N := 3) (ZR.z.sm (((((((((((((((SM.rf.r (by omega)).z (by omega)).r (by omega)).z (by omega)).r (by omega)).z (by omega)).r (by omega)).z (by omega)).r (by omega)).z (by omega)).r (by omega)).z (by omega)).r (by omega)).z (by omega)).r (by omega))) (by decide +kernel) (by decide)
  · rw [e]
    exact DN.z (K := 22) (N := 3) (ZR.z.sm (((((((((((((SM.rf.r (by omega)).z (by omega)).r (by omega)).z (by omega)).r (by omega)).z (by omega)).r (by omega)).z (by omega)).r (by omega)).z (by omega)).r (by omega)).z (by omega)).r (by omega))) (by decide +kernel) (by decide)
  · rw [e]
    exact DN.z (K := 23) (N := 3) (ZR.z.sm (((((((((((SM.rf.r (by omega)).z (by omega)).r (by omega)).z (by omega)).r (by omega)).z (by omega)).r (by omega)).z (by omega)).r (by omega)).z (by omega)).r (by omega))) (by decide +kernel) (by decide)
  · rw [e]
    exact DN.z (K := 20) (N := 6) (ZR.z.sm (((((((((SM.rf.r (by omega)).z (by omega)).r (by omega)).z (by omega)).r (by omega)).z (by omega)).r (by omega)).z (by omega)).r (by omega))) (by decide +kernel) (by decide)
  · rw [e]
    exact DN.z (K := 20) (N := 6) (ZR.z.sm (((((((SM.rf.r (by omega)).z (by omega)).r (by omega)).z (by omega)).r (by omega)).z (by omega)).r (by omega))) (by decide +kernel) (by decide)
  · rw [e]
    exact DN.z (K := 22) (N := 60) (ZR.z.sm (((((SM.rf.r (by omega)).z (by omega)).r (by omega)).z (by omega)).r (by omega))) (by decide +kernel) (by decide)
  · rw [e]
    exact DN.z (K := 23) (N := 60) (ZR.z.sm (((SM.rf.r (by omega)).z (by omega)).r (by omega))) (by decide +kernel) (by decide)
  · rw [e]
    exact DN.z (K := 20) (N := 4) (ZR.z.sm (SM.rf.r (by omega))) (by decide +kernel) (by decide)
/-- a method's steps are made -/
def LMe (e u : Nat) (σ τ : fr_S) : Prop := (∀ o, o < e → SM σ τ o) ∧ (∀ o, e ≤ o → o < e + 5 + 2 * u → o ≠ e + 3 → DN τ o) ∧ AR τ (e + 3) u (fun k => e + 5 + 2 * k)
theorem c_Me_l {l : Launch} {G : fr_G} {σ : fr_S} {e : Nat} (he : ME e) : ∀ d u, u + d = 40 → ∀ τ, LMe e u σ τ → PX l G yy_Me_init ri_Me (QA G (e + 1 + 84) 84 1123 (Pst σ e 84)) true (e + 5 + 2 * u) (4 + 2 * u) (123 + 25 * u) 73 [(1, .int (nI u)), (0, .ref e)] [] τ := by
  obtain ⟨k0, k1, k2, k3, k4, k5⟩ := kd_M he
  intro d
  induction d with
  | zero =>
    intro u hu τ h
    obtain rfl : u = 40 := by omega
    refine px_iload_n dx_Me_init_73 rfl ?_
    refine px_bipush (v := nI 40) dx_Me_init_74 (by decide) ?_
    refine px_icmp_geN dx_Me_init_76 (by decide) (by decide) (fun _ => ?_) (fun q => absurd q (by decide))
    refine px_qa (px_vret dx_Me_init_98 rfl ⟨rfl, h.1, fun o h1 h2 => ?_⟩)
    by_cases c : o = e + 3
    · rw [c]
      exact h.2.2.dn k3 (fun _ => rfl) (fun k => by show (if k < 40 then some (e + 3 + 2 + 2 * k) else none) = _; rw [show e + 3 + 2 + 2 * k = e + 5 + 2 * k by omega])
    · exact h.2.1 o h1 (by omega) c
  | succ d ih =>
    intro u hu τ h
    have hs : SE (e + 5 + 2 * u) := SE.s he (by omega)
    obtain ⟨s0, s1, s2, s3⟩ := kd_S hs
    refine px_iload_n dx_Me_init_73 rfl ?_
    refine px_bipush (v := nI 40) dx_Me_init_74 (by decide) ?_
    refine px_icmp_geN dx_Me_init_76 (by omega) (by decide) (fun q => absurd q (by omega)) (fun _ => ?_)
    refine px_aload_n dx_Me_init_79 rfl ?_
    have hr2 : gR τ e 2 = some (e + 3) := by
      have := (h.2.1 e (Nat.le_refl _) (by omega) (by omega)).2.2.2 2
      rw [k0] at this
      exact this
    refine px_getR dx_Me_init_80 fl_Me_20 k0 (by omega) rfl hr2 ?_
    refine px_iload_n dx_Me_init_83 rfl ?_
    refine px_new dx_Me_init_84 ck_St cc_Me_18 (al_in 227 (by decide +kernel) rfl) (al_in 82 (by decide +kernel) rfl) s0 (by decide) (by show 4 + 2 * u + 1 ≤ 84; omega) (by show 123 + 25 * u + 15 ≤ 1123; omega) ?_
    refine px_dup dx_Me_init_87 rfl ?_
    refine px_callI (Rc := ri_St) (As := []) dx_Me_init_88 ml_Me_51 mi_St_init np_St_init (Nat.le_of_ble_eq_true rfl) (Nat.le_of_ble_eq_true rfl) ⟨rfl, rfl, Nat.le_of_ble_eq_true rfl, Nat.le_of_ble_eq_true rfl⟩ ⟨by show 4 + 2 * u + 1 + 1 ≤ 84; omega, by show 123 + 25 * u + 15 + 10 ≤ 1123; omega⟩ rfl (c_St s0 s1 ZR.z) fun r τ2 hp => ?_
    obtain ⟨rfl, p1, p2⟩ := hp
    refine px_aast (j := 6) (ci := 8) (u := u) rfl dx_Me_init_91 (r0 := _) rfl k3 (by decide) rfl (by decide) s0 (by omega) (by omega) (by omega) (by decide) ?_
    refine px_iinc (v := nI (u + 1)) (lv' := [(1, .int (nI (u + 1))), (0, .ref e)]) dx_Me_init_92 rfl (nI_add u 1) (by decide) rfl ?_
    refine px_goto dx_Me_init_95 ?_
    have sm : ∀ o, o < e + 5 + 2 * u → SM τ τ2 o := fun o ho => (SM.rf.z (by omega)).tr (p1 o ho)
    have := ih (u + 1) (by omega) (sR τ2 (e + 3) u (some (e + 5 + 2 * u))) ⟨fun o ho => ((h.1 o ho).tr (sm o (by omega))).r (by omega), fun o h1 h2 h3 => ?_, (h.2.2.sm (sm _ (by omega))).put rfl⟩
    · rw [show e + 5 + 2 * (u + 1) = e + 5 + 2 * u + 1 + 1 by omega, show 4 + 2 * (u + 1) = 4 + 2 * u + 1 + 1 by omega, show 123 + 25 * (u + 1) = 123 + 25 * u + 15 + 10 by omega] at this
      exact this
    · by_cases c : o < e + 5 + 2 * u
      · exact (h.2.1 o h1 c h3).sm ((sm o c).r h3)
      · exact (p2 o (by omega) (by omega)).sm (SM.rf.r h3)
theorem c_Me {l : Launch} {G : fr_G} {σ : fr_S} {e : Nat} (he : ME e) (hz : ZR σ e) : PX l G yy_Me_init ri_Me (QA G (e + 1 + 84) 84 1123 (Pst σ e 84)) true (e + 1) 0 0 0 [(0, .ref e)] [] σ := by
  obtain ⟨k0, k1, k2, k3, k4, k5⟩ := kd_M he
  refine px_aload_n dx_Me_init_0 rfl ?_
  refine px_objI dx_Me_init_1 (al_in 224 (by decide +kernel) rfl) ⟨Nat.le_of_ble_eq_true rfl, Nat.le_of_ble_eq_true rfl⟩ ?_
  refine px_aload_n dx_Me_init_4 rfl ?_
  refine px_iconst (v := nI 3) dx_Me_init_5 (by decide) ?_
  refine px_newaI (N := 3) rfl dx_Me_init_6 k1 (by decide) (Nat.le_of_ble_eq_true rfl) (Nat.le_of_ble_eq_true rfl) ?_
  refine px_putR dx_Me_init_8 fl_Me_9 (fun _ => ⟨rfl, _, _, ck_Me, rfl, al_in 316 (by decide +kernel) rfl, rfl, rfl⟩) k0 (by omega) rfl ?_
  refine px_aload_n dx_Me_init_11 rfl ?_
  refine px_bipush (v := nI 40) dx_Me_init_12 (by decide) ?_
  refine px_newaI (N := 40) rfl dx_Me_init_14 k2 (by decide) (Nat.le_of_ble_eq_true rfl) (Nat.le_of_ble_eq_true rfl) ?_
  refine px_putR dx_Me_init_16 fl_Me_15 (fun _ => ⟨rfl, _, _, ck_Me, rfl, al_in 317 (by decide +kernel) rfl, rfl, rfl⟩) k0 (by omega) rfl ?_
  refine px_aload_n dx_Me_init_19 rfl ?_
  refine px_bipush (v := nI 40) dx_Me_init_20 (by decide) ?_
  refine px_anew (j := 6) (C0 := "PairVm$Step") (N := 40) rfl dx_Me_init_22 cc_Me_18 (fun _ h => h.2.2) rfl k3 ⟨rfl, by decide, by decide⟩ (by decide) (Nat.le_of_ble_eq_true rfl) (Nat.le_of_ble_eq_true rfl) ?_
  refine px_putR dx_Me_init_25 fl_Me_20 (fun _ => ⟨rfl, _, _, ck_Me, rfl, al_in 318 (by decide +kernel) rfl, rfl, rfl⟩) k0 (by omega) rfl ?_
  refine px_aload_n dx_Me_init_28 rfl ?_
  refine px_bipush (v := nI 40) dx_Me_init_29 (by decide) ?_
  refine px_newaZ (N := 40) rfl dx_Me_init_31 k4 (by decide) (Nat.le_of_ble_eq_true rfl) (Nat.le_of_ble_eq_true rfl) ?_
  refine px_putR dx_Me_init_33 fl_Me_24 (fun _ => ⟨rfl, _, _, ck_Me, rfl, al_in 319 (by decide +kernel) rfl, rfl, rfl⟩) k0 (by omega) rfl ?_
  refine px_aload_n dx_Me_init_36 rfl ?_
  refine px_iconst (v := 0) dx_Me_init_37 (by decide) ?_
  refine px_putI dx_Me_init_38 fl_Me_28 k0 (by omega) rfl ?_
  refine px_aload_n dx_Me_init_41 rfl ?_
  refine px_iconst (v := 0) dx_Me_init_42 (by decide) ?_
  refine px_putI dx_Me_init_43 fl_Me_32 k0 (by omega) rfl ?_
  refine px_aload_n dx_Me_init_46 rfl ?_
  refine px_iconst (v := 0) dx_Me_init_47 (by decide) ?_
  refine px_putI dx_Me_init_48 fl_Me_35 k0 (by omega) rfl ?_
  refine px_aload_n dx_Me_init_51 rfl ?_
  refine px_iconst (v := 0) dx_Me_init_52 (by decide) ?_
  refine px_putI dx_Me_init_53 fl_Me_38 k0 (by omega) rfl ?_
  refine px_aload_n dx_Me_init_56 rfl ?_
  refine px_iconst (v := 0) dx_Me_init_57 (by decide) ?_
  refine px_putI dx_Me_init_58 fl_Me_41 k0 (by omega) rfl ?_
  refine px_aload_n dx_Me_init_61 rfl ?_
  refine px_iconst (v := 0) dx_Me_init_62 (by decide) ?_
  refine px_putZ dx_Me_init_63 fl_Me_44 k0 (by omega) rfl (Or.inl rfl) ?_
  refine px_aload_n dx_Me_init_66 rfl ?_
  refine px_iconst (v := (-1)) dx_Me_init_67 (by decide) ?_
  refine px_putI dx_Me_init_68 fl_Me_48 k0 (by omega) rfl ?_
  refine px_iconst (v := nI 0) dx_Me_init_71 (by decide) ?_
  refine px_istore_n (lv' := [(1, .int (nI 0)), (0, .ref (e))]) dx_Me_init_72 (by decide) rfl ?_
  refine c_Me_l he 40 0 rfl _ ⟨fun o ho => (((((((((((((((SM.rf.z (by omega)).r (by omega)).z (by omega)).r (by omega)).z (by omega)).r (by omega)).z (by omega)).r (by omega)).i (by omega)).i (by omega)).i (by omega)).i (by omega)).i (by omega)).i (by omega)).i (by omega)), fun o h1 h2 h3 => ?_, AR.z (ZR.z.sm ((((((((((SM.rf.r (by omega)).z (by omega)).r (by omega)).i (by omega)).i (by omega)).i (by omega)).i (by omega)).i (by omega)).i (by omega)).i (by omega)))⟩
  rcases (show o = e ∨ o = e + 1 ∨ o = e + 2 ∨ o = e + 4 by omega) with e1 | e1 | e1 | e1
  · rw [e1]
    unfold DN
    rw [k0]
    obtain ⟨z1, z2, z3, z4⟩ := hz
    simp only [gI] at z1
    simp only [gL] at z2
    simp only [gD] at z3
    simp only [gR] at z4
    refine ⟨fun k w => ?_, fun k => ?_, fun k => ?_, fun k => ?_⟩
    · first | exact absurd rfl w | simp [gI, gL, gD, gR, sI, sL, sD, sR, sZ, u_2, fIk, z1]
    · simp [gI, gL, gD, gR, sI, sL, sD, sR, sZ, u_2, z2]
    · simp [gI, gL, gD, gR, sI, sL, sD, sR, sZ, u_2, z3]
    · simp [gI, gL, gD, gR, sI, sL, sD, sR, sZ, u_2, fRk, z4, Nat.add_assoc]
  · rw [e1]
    exact DN.z (ZR.z.sm ((((((((((((((SM.rf.r (by omega)).z (by omega)).r (by omega)).z (by omega)).r (by omega)).z (by omega)).r (by omega)).i (by omega)).i (by omega)).i (by omega)).i (by omega)).i (by omega)).i (by omega)).i (by omega))) k1 (by decide)
  · rw [e1]
    exact DN.z (ZR.z.sm ((((((((((((SM.rf.r (by omega)).z (by omega)).r (by omega)).z (by omega)).r (by omega)).i (by omega)).i (by omega)).i (by omega)).i (by omega)).i (by omega)).i (by omega)).i (by omega))) k2 (by decide)
  · rw [e1]
    exact DN.z (ZR.z.sm ((((((((SM.rf.r (by omega)).i (by omega)).i (by omega)).i (by omega)).i (by omega)).i (by omega)).i (by omega)).i (by omega))) k4 (by decide)
