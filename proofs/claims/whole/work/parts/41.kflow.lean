/-! the class: the flow of types -/
theorem cw_Fb_25 : Cond.methodLink "PairVm$FileBytes" 25 arraycopyName ∈ al_W := al_in 518 (by decide +kernel) rfl
theorem cw_Fl_89 : Cond.methodLink "PairVm$Flow" 89 arraycopyName ∈ al_W := al_in 754 (by decide +kernel) rfl
theorem cw_nat : Cond.native arraycopyName ∈ al_W := al_in 520 (by decide +kernel) rfl
theorem cw_sta : Cond.static arraycopyName ∈ al_W := al_in 519 (by decide +kernel) rfl
theorem cw_ini : Cond.initialized "java/lang/System" ∈ al_W := al_in 84 (by decide +kernel) rfl
/-- a piece of an array of ints is copied -/
def cpI (σ : fr_S) (a0 a sp dp n : Nat) : fr_S := (fun o k => if o = a then va_cpy (σ.1 a0) (σ.1 a) sp dp n k else σ.1 o k, σ.2)
section PXN
variable {l : Launch} {G : fr_G} {Y : fr_Y} {R : Room} {QF : List Frame → Array Value → State → State → Prop} {n k sl pc pc' : Nat} {lv : List (Nat × Value)} {st : List Value} {σ : fr_S}
theorem px_copyi {i a0 a N0 N sp dp cn : Nat} {x y z : Int32} (hd : dc Y.2.1 pc (.invokestatic i) 3 pc') (hlk : Cond.methodLink Y.1.cls i arraycopyName ∈ al_W) (hk0 : kd a0 = (20, N0)) (hk : kd a = (20, N)) (ho0 : a0 < n) (ho : a < n) (h4 : sp + cn ≤ N0) (h5 : dp + cn ≤ N) (b1 : sp < 2 ^ 31) (b2 : dp < 2 ^ 31) (b3 : cn < 2 ^ 31) (hx : x = nI sp) (hy : y = nI dp) (hz : z = nI cn) (hfr : 1 ≤ R.frames) (hlo : (st.map fun v : Value => v.category).sum + 18 ≤ R.locals)
    (h : PX l G Y R QF false n k sl pc' lv st (cpI σ a0 a sp dp cn)) : PX l G Y R QF false n k sl pc lv (.int z :: .int y :: .ref a :: .int x :: .ref a0 :: st) σ := by
  intro p e s m args below meth c H locs ls C hl hP hS
  subst hx hy hz
  obtain ⟨hd, rfl⟩ := hd
  have hat0 := wd_at (G := G) (σ := σ) ho0
  have hat := wd_at (G := G) (σ := σ) ho
  unfold ce at hat0 hat
  rw [hk0] at hat0
  rw [hk] at hat
  have hts := C.2.2.2.2.2.1
  have nn : ∀ j : Nat, j < 2 ^ 31 → ¬ nI j < 0 := fun j hj q => absurd q (by rw [Int32.not_lt]; exact nI_pos' hj)
  refine va_copyi C.1 C.2.1 (C.2.2.1.trans hl.1.symm) C.2.2.2.2.1 (hts _ hlk) (hts _ cw_nat) (hts _ cw_sta) (hts _ cw_ini) C.2.2.2.2.2.2.2.2.1 hP.1 wd_D hS a0 a 0 0 hat0 hat rfl rfl rfl (nn _ b1) (nn _ b2) (nn _ b3) (by rw [nI_clamp b1, nI_clamp b3]; exact h4) (by rw [nI_clamp b2, nI_clamp b3]; exact h5) (fun _ _ => rfl) hfr (by rw [cv_sum]; exact hlo) hd (fun H1 locs1 hP1 _ hS1 => h p e s m args below meth c H1 locs1 ls C hl ⟨?_, fun q => by cases q⟩ hS1)
  rw [nI_clamp b1, nI_clamp b2, nI_clamp b3, wd_set (σ' := cpI σ a0 a sp dp cn) ?_ ?_] at hP1
  · exact hP1
  · unfold ce
    rw [hk]
    have e : gI (cpI σ a0 a sp dp cn) a = va_cpy (gI σ a0) (gI σ a) sp dp cn := by
      funext j
      show (if a = a then _ else _) = _
      rw [if_pos rfl]
      rfl
    show cek G (20, N) _ _ _ _ = _
    unfold cek
    simp only [e]
  · intro j hj
    refine ce_c ?_ rfl rfl rfl
    funext x
    show (if j = a then _ else _) = _
    rw [if_neg hj]
    rfl
end PXN
theorem cpI_n {σ : fr_S} {a0 a sp dp n o k : Nat} (h : o ≠ a) : gI (cpI σ a0 a sp dp n) o k = gI σ o k := by
  show (if o = a then _ else _) = _
  rw [if_neg h]
  rfl
theorem cpI_s {σ : fr_S} {a0 a sp dp n k : Nat} : gI (cpI σ a0 a sp dp n) a k = if dp ≤ k ∧ k < dp + n then gI σ a0 (sp + (k - dp)) else gI σ a k := by
  show (if a = a then _ else _) = _
  rw [if_pos rfl]
  rfl


/-- the row behind, as the class holds it -/
def AN (σ : fr_S) (q : Nat) (N : Nat → Nat) : Prop := ∀ r, r < 10 → gI σ (q + 4) r = nI (N r)
theorem AN.up {σ : fr_S} {q : Nat} {N : Nat → Nat} (h : AN σ q N) {k v : Nat} {x : Int32} (hx : x = nI v) : AN (sI σ (q + 4) k x) q (va_up N k v) := fun r hr => if e : r = k then (by subst e; rw [gI_s, hx]; simp [va_up]) else (by rw [gI_n (Or.inr e), h r hr]; simp [va_up, e])
theorem AN.ag {σ σ' : fr_S} {q : Nat} {N : Nat → Nat} (h : AN σ q N) {P : Nat → Nat → Prop} (a : Agp P σ σ') (hn : ∀ r, ¬ P (q + 4) r) : AN σ' q N := fun r hr => (a.1 _ _ (hn r)).trans (h r hr)
def P4 (q : Nat) (o k : Nat) : Prop := o = q + 4

set_option maxRecDepth 100000 in
set_option maxHeartbeats 1000000 in
theorem k_setOne {l : Launch} {G : fr_G} {σ : fr_S} {q : Nat} (hq : PB q) (hR : RF σ) {N : Nat → Nat} (hN : AN σ q N) {r t : Nat} (hr : r < 10) (ht : t ≤ 6) (h6 : ∀ j, N j ≤ 6) : CR l G yy_Fl_setOne rm_Fl_setOne [.ref (q + 3), .int (nI (r)), .int (nI (t))] σ (fun r0 σ' => r0 = none ∧ Agp (P4 q) σ σ' ∧ AN σ' q (s1C N r t)) := by
  intro Post hp0
  show PX l G yy_Fl_setOne rm_Fl_setOne _ false 742 0 0 0 [(0, .ref (q + 3)), (1, .int (nI (r))), (2, .int (nI (t)))] [] σ
  have kP := kd_P hq
  have h6r := h6 r
  refine px_iload_n dx_Fl_setOne_0 rfl ?_
  refine px_if_ltN (a := r) dx_Fl_setOne_1 (by omega) (fun c_1 => ?_) (fun c_1 => ?_)
  · exact px_vret dx_Fl_setOne_13 rfl (by (exfalso; omega))
  · refine px_iload_n dx_Fl_setOne_4 rfl ?_
    refine px_aload_n dx_Fl_setOne_5 rfl ?_
    refine px_getR (r := q + 4) dx_Fl_setOne_6 fl_Fl_9 kP.2.2.2.1 (by omega) rfl (hR.2.2.2.1 q hq).2.2.2.1 ?_
    refine px_alen (v := 10) dx_Fl_setOne_9 kP.2.2.2.2.1 (by decide) (by omega) rfl ?_
    refine px_icmp_ltN (a := r) (b := 10) dx_Fl_setOne_10 (by omega) (by omega) (fun c_10 => ?_) (fun c_10 => ?_)
    · refine px_aload_n dx_Fl_setOne_14 rfl ?_
      refine px_getR (r := q + 4) dx_Fl_setOne_15 fl_Fl_9 kP.2.2.2.1 (by omega) rfl (hR.2.2.2.1 q hq).2.2.2.1 ?_
      refine px_iload_n dx_Fl_setOne_18 rfl ?_
      refine px_ialdN (j := r) dx_Fl_setOne_19 kP.2.2.2.2.1 (by omega) (by omega) ?_
      refine px_eqi (y := nI (N r)) (hN r (by omega)) ?_
      refine px_istore_n (lv' := [(3, .int (nI (N r))), (0, .ref (q + 3)), (1, .int (nI (r))), (2, .int (nI (t)))]) dx_Fl_setOne_20 (by decide) rfl ?_
      refine px_iload_n dx_Fl_setOne_21 rfl ?_
      refine px_iconst (v := 3) dx_Fl_setOne_22 rfl ?_
      refine px_icmp_eqN (a := N r) (b := 3) dx_Fl_setOne_23 (by omega) (by omega) (fun c_23 => ?_) (fun c_23 => ?_)
      · refine px_iconst (v := 1) dx_Fl_setOne_31 rfl ?_
        refine px_goto dx_Fl_setOne_32 ?_
        refine px_istore (lv' := [(4, .int (1)), (3, .int (nI (N r))), (0, .ref (q + 3)), (1, .int (nI (r))), (2, .int (nI (t)))]) dx_Fl_setOne_36 (by decide) rfl ?_
        refine px_iload_n dx_Fl_setOne_38 rfl ?_
        refine px_iconst (v := 4) dx_Fl_setOne_39 rfl ?_
        refine px_icmp_eqN (a := N r) (b := 4) dx_Fl_setOne_40 (by omega) (by omega) (fun c_40 => ?_) (fun c_40 => ?_)
        · refine px_iconst (v := 1) dx_Fl_setOne_49 rfl ?_
          refine px_goto dx_Fl_setOne_50 ?_
          refine px_istore (lv' := [(5, .int (1)), (4, .int (1)), (3, .int (nI (N r))), (0, .ref (q + 3)), (1, .int (nI (r))), (2, .int (nI (t)))]) dx_Fl_setOne_54 (by decide) rfl ?_
          refine px_aload_n dx_Fl_setOne_56 rfl ?_
          refine px_getR (r := q + 4) dx_Fl_setOne_57 fl_Fl_9 kP.2.2.2.1 (by omega) rfl (hR.2.2.2.1 q hq).2.2.2.1 ?_
          refine px_iload_n dx_Fl_setOne_60 rfl ?_
          refine px_iload_n dx_Fl_setOne_61 rfl ?_
          refine px_iastN (j := r) dx_Fl_setOne_62 kP.2.2.2.2.1 (by omega) (by omega) ?_
          refine px_iload dx_Fl_setOne_63 rfl ?_
          refine px_if_eq dx_Fl_setOne_65 (fun q => absurd q (by decide)) (fun _ => ?_)
          refine px_iload_n dx_Fl_setOne_68 rfl ?_
          refine px_iconst (v := 1) dx_Fl_setOne_69 rfl ?_
          refine px_iaddN (a := r) (b := 1) dx_Fl_setOne_70 ?_
          refine px_aload_n dx_Fl_setOne_71 rfl ?_
          refine px_getR (r := q + 4) dx_Fl_setOne_72 fl_Fl_9 kP.2.2.2.1 (by omega) rfl (hR.2.2.2.1 q hq).2.2.2.1 ?_
          refine px_alen (v := 10) dx_Fl_setOne_75 kP.2.2.2.2.1 (by decide) (by omega) rfl ?_
          refine px_icmp_geN (a := r + 1) (b := 10) dx_Fl_setOne_76 (by omega) (by omega) (fun c_76 => ?_) (fun c_76 => ?_)
          · refine px_iload dx_Fl_setOne_91 rfl ?_
            refine px_if_eq dx_Fl_setOne_93 (fun q => absurd q (by decide)) (fun _ => ?_)
            refine px_iload_n dx_Fl_setOne_96 rfl ?_
            refine px_if_leN (a := r) dx_Fl_setOne_97 (by omega) (fun c_97 => ?_) (fun c_97 => ?_)
            · exact px_vret dx_Fl_setOne_109 rfl (by (exfalso; omega))
            · refine px_aload_n dx_Fl_setOne_100 rfl ?_
              refine px_getR (r := q + 4) dx_Fl_setOne_101 fl_Fl_9 kP.2.2.2.1 (by omega) rfl (hR.2.2.2.1 q hq).2.2.2.1 ?_
              refine px_iload_n dx_Fl_setOne_104 rfl ?_
              refine px_iconst (v := 1) dx_Fl_setOne_105 rfl ?_
              refine px_isubN (a := r) (b := 1) dx_Fl_setOne_106 (by omega) ?_
              refine px_iconst (v := 0) dx_Fl_setOne_107 rfl ?_
              refine px_iastN (j := r - 1) dx_Fl_setOne_108 kP.2.2.2.2.1 (by omega) (by omega) ?_
              exact px_vret dx_Fl_setOne_109 rfl (by (exfalso; omega))
          · refine px_aload_n dx_Fl_setOne_79 rfl ?_
            refine px_getR (r := q + 4) dx_Fl_setOne_80 fl_Fl_9 kP.2.2.2.1 (by omega) rfl (hR.2.2.2.1 q hq).2.2.2.1 ?_
            refine px_iload_n dx_Fl_setOne_83 rfl ?_
            refine px_iconst (v := 1) dx_Fl_setOne_84 rfl ?_
            refine px_iaddN (a := r) (b := 1) dx_Fl_setOne_85 ?_
            refine px_iconst (v := 0) dx_Fl_setOne_86 rfl ?_
            refine px_iastN (j := r + 1) dx_Fl_setOne_87 kP.2.2.2.2.1 (by omega) (by omega) ?_
            refine px_goto dx_Fl_setOne_88 ?_
            exact px_vret dx_Fl_setOne_109 rfl (by (exfalso; omega))
        · refine px_iload_n dx_Fl_setOne_43 rfl ?_
          refine px_bipush (v := 6) dx_Fl_setOne_44 rfl ?_
          refine px_icmp_neN (a := N r) (b := 6) dx_Fl_setOne_46 (by omega) (by omega) (fun c_46 => ?_) (fun c_46 => ?_)
          · refine px_iconst (v := 0) dx_Fl_setOne_53 rfl ?_
            refine px_istore (lv' := [(5, .int (0)), (4, .int (1)), (3, .int (nI (N r))), (0, .ref (q + 3)), (1, .int (nI (r))), (2, .int (nI (t)))]) dx_Fl_setOne_54 (by decide) rfl ?_
            refine px_aload_n dx_Fl_setOne_56 rfl ?_
            refine px_getR (r := q + 4) dx_Fl_setOne_57 fl_Fl_9 kP.2.2.2.1 (by omega) rfl (hR.2.2.2.1 q hq).2.2.2.1 ?_
            refine px_iload_n dx_Fl_setOne_60 rfl ?_
            refine px_iload_n dx_Fl_setOne_61 rfl ?_
            refine px_iastN (j := r) dx_Fl_setOne_62 kP.2.2.2.2.1 (by omega) (by omega) ?_
            refine px_iload dx_Fl_setOne_63 rfl ?_
            refine px_if_eq dx_Fl_setOne_65 (fun q => absurd q (by decide)) (fun _ => ?_)
            refine px_iload_n dx_Fl_setOne_68 rfl ?_
            refine px_iconst (v := 1) dx_Fl_setOne_69 rfl ?_
            refine px_iaddN (a := r) (b := 1) dx_Fl_setOne_70 ?_
            refine px_aload_n dx_Fl_setOne_71 rfl ?_
            refine px_getR (r := q + 4) dx_Fl_setOne_72 fl_Fl_9 kP.2.2.2.1 (by omega) rfl (hR.2.2.2.1 q hq).2.2.2.1 ?_
            refine px_alen (v := 10) dx_Fl_setOne_75 kP.2.2.2.2.1 (by decide) (by omega) rfl ?_
            refine px_icmp_geN (a := r + 1) (b := 10) dx_Fl_setOne_76 (by omega) (by omega) (fun c_76 => ?_) (fun c_76 => ?_)
            · refine px_iload dx_Fl_setOne_91 rfl ?_
              refine px_if_eq dx_Fl_setOne_93 (fun _ => ?_) (fun q => absurd (by decide) q)
              exact px_vret dx_Fl_setOne_109 rfl (by (have e : s1C N r t = va_up (N) (r) (t) := by (unfold s1C; rw [if_pos (show N r = 3 ∨ N r = 5 by omega), if_neg (show ¬ r + 1 < 10 by omega)])); exact hp0 _ _ ⟨rfl, (Agp.rf.w (show P4 q (q + 4) _ from rfl)), by rw [e]; exact (AN.up hN (v := t) (by first | rfl | decide))⟩)
            · refine px_aload_n dx_Fl_setOne_79 rfl ?_
              refine px_getR (r := q + 4) dx_Fl_setOne_80 fl_Fl_9 kP.2.2.2.1 (by omega) rfl (hR.2.2.2.1 q hq).2.2.2.1 ?_
              refine px_iload_n dx_Fl_setOne_83 rfl ?_
              refine px_iconst (v := 1) dx_Fl_setOne_84 rfl ?_
              refine px_iaddN (a := r) (b := 1) dx_Fl_setOne_85 ?_
              refine px_iconst (v := 0) dx_Fl_setOne_86 rfl ?_
              refine px_iastN (j := r + 1) dx_Fl_setOne_87 kP.2.2.2.2.1 (by omega) (by omega) ?_
              refine px_goto dx_Fl_setOne_88 ?_
              exact px_vret dx_Fl_setOne_109 rfl (by (have e : s1C N r t = va_up (va_up (N) (r) (t)) (r + 1) (0) := by (unfold s1C; rw [if_pos (show N r = 3 ∨ N r = 5 by omega), if_pos (show r + 1 < 10 by omega)])); exact hp0 _ _ ⟨rfl, ((Agp.rf.w (show P4 q (q + 4) _ from rfl)).w (show P4 q (q + 4) _ from rfl)), by rw [e]; exact (AN.up (AN.up hN (v := t) (by first | rfl | decide)) (v := 0) (by first | rfl | decide))⟩)
          · refine px_iconst (v := 1) dx_Fl_setOne_49 rfl ?_
            refine px_goto dx_Fl_setOne_50 ?_
            refine px_istore (lv' := [(5, .int (1)), (4, .int (1)), (3, .int (nI (N r))), (0, .ref (q + 3)), (1, .int (nI (r))), (2, .int (nI (t)))]) dx_Fl_setOne_54 (by decide) rfl ?_
            refine px_aload_n dx_Fl_setOne_56 rfl ?_
            refine px_getR (r := q + 4) dx_Fl_setOne_57 fl_Fl_9 kP.2.2.2.1 (by omega) rfl (hR.2.2.2.1 q hq).2.2.2.1 ?_
            refine px_iload_n dx_Fl_setOne_60 rfl ?_
            refine px_iload_n dx_Fl_setOne_61 rfl ?_
            refine px_iastN (j := r) dx_Fl_setOne_62 kP.2.2.2.2.1 (by omega) (by omega) ?_
            refine px_iload dx_Fl_setOne_63 rfl ?_
            refine px_if_eq dx_Fl_setOne_65 (fun q => absurd q (by decide)) (fun _ => ?_)
            refine px_iload_n dx_Fl_setOne_68 rfl ?_
            refine px_iconst (v := 1) dx_Fl_setOne_69 rfl ?_
            refine px_iaddN (a := r) (b := 1) dx_Fl_setOne_70 ?_
            refine px_aload_n dx_Fl_setOne_71 rfl ?_
            refine px_getR (r := q + 4) dx_Fl_setOne_72 fl_Fl_9 kP.2.2.2.1 (by omega) rfl (hR.2.2.2.1 q hq).2.2.2.1 ?_
            refine px_alen (v := 10) dx_Fl_setOne_75 kP.2.2.2.2.1 (by decide) (by omega) rfl ?_
            refine px_icmp_geN (a := r + 1) (b := 10) dx_Fl_setOne_76 (by omega) (by omega) (fun c_76 => ?_) (fun c_76 => ?_)
            · refine px_iload dx_Fl_setOne_91 rfl ?_
              refine px_if_eq dx_Fl_setOne_93 (fun q => absurd q (by decide)) (fun _ => ?_)
              refine px_iload_n dx_Fl_setOne_96 rfl ?_
              refine px_if_leN (a := r) dx_Fl_setOne_97 (by omega) (fun c_97 => ?_) (fun c_97 => ?_)
              · exact px_vret dx_Fl_setOne_109 rfl (by (exfalso; omega))
              · refine px_aload_n dx_Fl_setOne_100 rfl ?_
                refine px_getR (r := q + 4) dx_Fl_setOne_101 fl_Fl_9 kP.2.2.2.1 (by omega) rfl (hR.2.2.2.1 q hq).2.2.2.1 ?_
                refine px_iload_n dx_Fl_setOne_104 rfl ?_
                refine px_iconst (v := 1) dx_Fl_setOne_105 rfl ?_
                refine px_isubN (a := r) (b := 1) dx_Fl_setOne_106 (by omega) ?_
                refine px_iconst (v := 0) dx_Fl_setOne_107 rfl ?_
                refine px_iastN (j := r - 1) dx_Fl_setOne_108 kP.2.2.2.2.1 (by omega) (by omega) ?_
                exact px_vret dx_Fl_setOne_109 rfl (by (exfalso; omega))
            · refine px_aload_n dx_Fl_setOne_79 rfl ?_
              refine px_getR (r := q + 4) dx_Fl_setOne_80 fl_Fl_9 kP.2.2.2.1 (by omega) rfl (hR.2.2.2.1 q hq).2.2.2.1 ?_
              refine px_iload_n dx_Fl_setOne_83 rfl ?_
              refine px_iconst (v := 1) dx_Fl_setOne_84 rfl ?_
              refine px_iaddN (a := r) (b := 1) dx_Fl_setOne_85 ?_
              refine px_iconst (v := 0) dx_Fl_setOne_86 rfl ?_
              refine px_iastN (j := r + 1) dx_Fl_setOne_87 kP.2.2.2.2.1 (by omega) (by omega) ?_
              refine px_goto dx_Fl_setOne_88 ?_
              exact px_vret dx_Fl_setOne_109 rfl (by (exfalso; omega))
      · refine px_iload_n dx_Fl_setOne_26 rfl ?_
        refine px_iconst (v := 5) dx_Fl_setOne_27 rfl ?_
        refine px_icmp_neN (a := N r) (b := 5) dx_Fl_setOne_28 (by omega) (by omega) (fun c_28 => ?_) (fun c_28 => ?_)
        · refine px_iconst (v := 0) dx_Fl_setOne_35 rfl ?_
          refine px_istore (lv' := [(4, .int (0)), (3, .int (nI (N r))), (0, .ref (q + 3)), (1, .int (nI (r))), (2, .int (nI (t)))]) dx_Fl_setOne_36 (by decide) rfl ?_
          refine px_iload_n dx_Fl_setOne_38 rfl ?_
          refine px_iconst (v := 4) dx_Fl_setOne_39 rfl ?_
          refine px_icmp_eqN (a := N r) (b := 4) dx_Fl_setOne_40 (by omega) (by omega) (fun c_40 => ?_) (fun c_40 => ?_)
          · refine px_iconst (v := 1) dx_Fl_setOne_49 rfl ?_
            refine px_goto dx_Fl_setOne_50 ?_
            refine px_istore (lv' := [(5, .int (1)), (4, .int (0)), (3, .int (nI (N r))), (0, .ref (q + 3)), (1, .int (nI (r))), (2, .int (nI (t)))]) dx_Fl_setOne_54 (by decide) rfl ?_
            refine px_aload_n dx_Fl_setOne_56 rfl ?_
            refine px_getR (r := q + 4) dx_Fl_setOne_57 fl_Fl_9 kP.2.2.2.1 (by omega) rfl (hR.2.2.2.1 q hq).2.2.2.1 ?_
            refine px_iload_n dx_Fl_setOne_60 rfl ?_
            refine px_iload_n dx_Fl_setOne_61 rfl ?_
            refine px_iastN (j := r) dx_Fl_setOne_62 kP.2.2.2.2.1 (by omega) (by omega) ?_
            refine px_iload dx_Fl_setOne_63 rfl ?_
            refine px_if_eq dx_Fl_setOne_65 (fun _ => ?_) (fun q => absurd (by decide) q)
            refine px_iload dx_Fl_setOne_91 rfl ?_
            refine px_if_eq dx_Fl_setOne_93 (fun q => absurd q (by decide)) (fun _ => ?_)
            refine px_iload_n dx_Fl_setOne_96 rfl ?_
            refine px_if_leN (a := r) dx_Fl_setOne_97 (by omega) (fun c_97 => ?_) (fun c_97 => ?_)
            · exact px_vret dx_Fl_setOne_109 rfl (by (have e : s1C N r t = va_up (N) (r) (t) := by (unfold s1C; rw [if_neg (show ¬ (N r = 3 ∨ N r = 5) by omega), if_pos (show N r = 4 ∨ N r = 6 by omega), if_neg (show ¬ 0 < r by omega)])); exact hp0 _ _ ⟨rfl, (Agp.rf.w (show P4 q (q + 4) _ from rfl)), by rw [e]; exact (AN.up hN (v := t) (by first | rfl | decide))⟩)
            · refine px_aload_n dx_Fl_setOne_100 rfl ?_
              refine px_getR (r := q + 4) dx_Fl_setOne_101 fl_Fl_9 kP.2.2.2.1 (by omega) rfl (hR.2.2.2.1 q hq).2.2.2.1 ?_
              refine px_iload_n dx_Fl_setOne_104 rfl ?_
              refine px_iconst (v := 1) dx_Fl_setOne_105 rfl ?_
              refine px_isubN (a := r) (b := 1) dx_Fl_setOne_106 (by omega) ?_
              refine px_iconst (v := 0) dx_Fl_setOne_107 rfl ?_
              refine px_iastN (j := r - 1) dx_Fl_setOne_108 kP.2.2.2.2.1 (by omega) (by omega) ?_
              exact px_vret dx_Fl_setOne_109 rfl (by (have e : s1C N r t = va_up (va_up (N) (r) (t)) (r - 1) (0) := by (unfold s1C; rw [if_neg (show ¬ (N r = 3 ∨ N r = 5) by omega), if_pos (show N r = 4 ∨ N r = 6 by omega), if_pos (show 0 < r by omega)])); exact hp0 _ _ ⟨rfl, ((Agp.rf.w (show P4 q (q + 4) _ from rfl)).w (show P4 q (q + 4) _ from rfl)), by rw [e]; exact (AN.up (AN.up hN (v := t) (by first | rfl | decide)) (v := 0) (by first | rfl | decide))⟩)
          · refine px_iload_n dx_Fl_setOne_43 rfl ?_
            refine px_bipush (v := 6) dx_Fl_setOne_44 rfl ?_
            refine px_icmp_neN (a := N r) (b := 6) dx_Fl_setOne_46 (by omega) (by omega) (fun c_46 => ?_) (fun c_46 => ?_)
            · refine px_iconst (v := 0) dx_Fl_setOne_53 rfl ?_
              refine px_istore (lv' := [(5, .int (0)), (4, .int (0)), (3, .int (nI (N r))), (0, .ref (q + 3)), (1, .int (nI (r))), (2, .int (nI (t)))]) dx_Fl_setOne_54 (by decide) rfl ?_
              refine px_aload_n dx_Fl_setOne_56 rfl ?_
              refine px_getR (r := q + 4) dx_Fl_setOne_57 fl_Fl_9 kP.2.2.2.1 (by omega) rfl (hR.2.2.2.1 q hq).2.2.2.1 ?_
              refine px_iload_n dx_Fl_setOne_60 rfl ?_
              refine px_iload_n dx_Fl_setOne_61 rfl ?_
              refine px_iastN (j := r) dx_Fl_setOne_62 kP.2.2.2.2.1 (by omega) (by omega) ?_
              refine px_iload dx_Fl_setOne_63 rfl ?_
              refine px_if_eq dx_Fl_setOne_65 (fun _ => ?_) (fun q => absurd (by decide) q)
              refine px_iload dx_Fl_setOne_91 rfl ?_
              refine px_if_eq dx_Fl_setOne_93 (fun _ => ?_) (fun q => absurd (by decide) q)
              exact px_vret dx_Fl_setOne_109 rfl (by (have e : s1C N r t = va_up (N) (r) (t) := by (unfold s1C; rw [if_neg (show ¬ (N r = 3 ∨ N r = 5) by omega), if_neg (show ¬ (N r = 4 ∨ N r = 6) by omega)])); exact hp0 _ _ ⟨rfl, (Agp.rf.w (show P4 q (q + 4) _ from rfl)), by rw [e]; exact (AN.up hN (v := t) (by first | rfl | decide))⟩)
            · refine px_iconst (v := 1) dx_Fl_setOne_49 rfl ?_
              refine px_goto dx_Fl_setOne_50 ?_
              refine px_istore (lv' := [(5, .int (1)), (4, .int (0)), (3, .int (nI (N r))), (0, .ref (q + 3)), (1, .int (nI (r))), (2, .int (nI (t)))]) dx_Fl_setOne_54 (by decide) rfl ?_
              refine px_aload_n dx_Fl_setOne_56 rfl ?_
              refine px_getR (r := q + 4) dx_Fl_setOne_57 fl_Fl_9 kP.2.2.2.1 (by omega) rfl (hR.2.2.2.1 q hq).2.2.2.1 ?_
              refine px_iload_n dx_Fl_setOne_60 rfl ?_
              refine px_iload_n dx_Fl_setOne_61 rfl ?_
              refine px_iastN (j := r) dx_Fl_setOne_62 kP.2.2.2.2.1 (by omega) (by omega) ?_
              refine px_iload dx_Fl_setOne_63 rfl ?_
              refine px_if_eq dx_Fl_setOne_65 (fun _ => ?_) (fun q => absurd (by decide) q)
              refine px_iload dx_Fl_setOne_91 rfl ?_
              refine px_if_eq dx_Fl_setOne_93 (fun q => absurd q (by decide)) (fun _ => ?_)
              refine px_iload_n dx_Fl_setOne_96 rfl ?_
              refine px_if_leN (a := r) dx_Fl_setOne_97 (by omega) (fun c_97 => ?_) (fun c_97 => ?_)
              · exact px_vret dx_Fl_setOne_109 rfl (by (have e : s1C N r t = va_up (N) (r) (t) := by (unfold s1C; rw [if_neg (show ¬ (N r = 3 ∨ N r = 5) by omega), if_pos (show N r = 4 ∨ N r = 6 by omega), if_neg (show ¬ 0 < r by omega)])); exact hp0 _ _ ⟨rfl, (Agp.rf.w (show P4 q (q + 4) _ from rfl)), by rw [e]; exact (AN.up hN (v := t) (by first | rfl | decide))⟩)
              · refine px_aload_n dx_Fl_setOne_100 rfl ?_
                refine px_getR (r := q + 4) dx_Fl_setOne_101 fl_Fl_9 kP.2.2.2.1 (by omega) rfl (hR.2.2.2.1 q hq).2.2.2.1 ?_
                refine px_iload_n dx_Fl_setOne_104 rfl ?_
                refine px_iconst (v := 1) dx_Fl_setOne_105 rfl ?_
                refine px_isubN (a := r) (b := 1) dx_Fl_setOne_106 (by omega) ?_
                refine px_iconst (v := 0) dx_Fl_setOne_107 rfl ?_
                refine px_iastN (j := r - 1) dx_Fl_setOne_108 kP.2.2.2.2.1 (by omega) (by omega) ?_
                exact px_vret dx_Fl_setOne_109 rfl (by (have e : s1C N r t = va_up (va_up (N) (r) (t)) (r - 1) (0) := by (unfold s1C; rw [if_neg (show ¬ (N r = 3 ∨ N r = 5) by omega), if_pos (show N r = 4 ∨ N r = 6 by omega), if_pos (show 0 < r by omega)])); exact hp0 _ _ ⟨rfl, ((Agp.rf.w (show P4 q (q + 4) _ from rfl)).w (show P4 q (q + 4) _ from rfl)), by rw [e]; exact (AN.up (AN.up hN (v := t) (by first | rfl | decide)) (v := 0) (by first | rfl | decide))⟩)
        · refine px_iconst (v := 1) dx_Fl_setOne_31 rfl ?_
          refine px_goto dx_Fl_setOne_32 ?_
          refine px_istore (lv' := [(4, .int (1)), (3, .int (nI (N r))), (0, .ref (q + 3)), (1, .int (nI (r))), (2, .int (nI (t)))]) dx_Fl_setOne_36 (by decide) rfl ?_
          refine px_iload_n dx_Fl_setOne_38 rfl ?_
          refine px_iconst (v := 4) dx_Fl_setOne_39 rfl ?_
          refine px_icmp_eqN (a := N r) (b := 4) dx_Fl_setOne_40 (by omega) (by omega) (fun c_40 => ?_) (fun c_40 => ?_)
          · refine px_iconst (v := 1) dx_Fl_setOne_49 rfl ?_
            refine px_goto dx_Fl_setOne_50 ?_
            refine px_istore (lv' := [(5, .int (1)), (4, .int (1)), (3, .int (nI (N r))), (0, .ref (q + 3)), (1, .int (nI (r))), (2, .int (nI (t)))]) dx_Fl_setOne_54 (by decide) rfl ?_
            refine px_aload_n dx_Fl_setOne_56 rfl ?_
            refine px_getR (r := q + 4) dx_Fl_setOne_57 fl_Fl_9 kP.2.2.2.1 (by omega) rfl (hR.2.2.2.1 q hq).2.2.2.1 ?_
            refine px_iload_n dx_Fl_setOne_60 rfl ?_
            refine px_iload_n dx_Fl_setOne_61 rfl ?_
            refine px_iastN (j := r) dx_Fl_setOne_62 kP.2.2.2.2.1 (by omega) (by omega) ?_
            refine px_iload dx_Fl_setOne_63 rfl ?_
            refine px_if_eq dx_Fl_setOne_65 (fun q => absurd q (by decide)) (fun _ => ?_)
            refine px_iload_n dx_Fl_setOne_68 rfl ?_
            refine px_iconst (v := 1) dx_Fl_setOne_69 rfl ?_
            refine px_iaddN (a := r) (b := 1) dx_Fl_setOne_70 ?_
            refine px_aload_n dx_Fl_setOne_71 rfl ?_
            refine px_getR (r := q + 4) dx_Fl_setOne_72 fl_Fl_9 kP.2.2.2.1 (by omega) rfl (hR.2.2.2.1 q hq).2.2.2.1 ?_
            refine px_alen (v := 10) dx_Fl_setOne_75 kP.2.2.2.2.1 (by decide) (by omega) rfl ?_
            refine px_icmp_geN (a := r + 1) (b := 10) dx_Fl_setOne_76 (by omega) (by omega) (fun c_76 => ?_) (fun c_76 => ?_)
            · refine px_iload dx_Fl_setOne_91 rfl ?_
              refine px_if_eq dx_Fl_setOne_93 (fun q => absurd q (by decide)) (fun _ => ?_)
              refine px_iload_n dx_Fl_setOne_96 rfl ?_
              refine px_if_leN (a := r) dx_Fl_setOne_97 (by omega) (fun c_97 => ?_) (fun c_97 => ?_)
              · exact px_vret dx_Fl_setOne_109 rfl (by (exfalso; omega))
              · refine px_aload_n dx_Fl_setOne_100 rfl ?_
                refine px_getR (r := q + 4) dx_Fl_setOne_101 fl_Fl_9 kP.2.2.2.1 (by omega) rfl (hR.2.2.2.1 q hq).2.2.2.1 ?_
                refine px_iload_n dx_Fl_setOne_104 rfl ?_
                refine px_iconst (v := 1) dx_Fl_setOne_105 rfl ?_
                refine px_isubN (a := r) (b := 1) dx_Fl_setOne_106 (by omega) ?_
                refine px_iconst (v := 0) dx_Fl_setOne_107 rfl ?_
                refine px_iastN (j := r - 1) dx_Fl_setOne_108 kP.2.2.2.2.1 (by omega) (by omega) ?_
                exact px_vret dx_Fl_setOne_109 rfl (by (exfalso; omega))
            · refine px_aload_n dx_Fl_setOne_79 rfl ?_
              refine px_getR (r := q + 4) dx_Fl_setOne_80 fl_Fl_9 kP.2.2.2.1 (by omega) rfl (hR.2.2.2.1 q hq).2.2.2.1 ?_
              refine px_iload_n dx_Fl_setOne_83 rfl ?_
              refine px_iconst (v := 1) dx_Fl_setOne_84 rfl ?_
              refine px_iaddN (a := r) (b := 1) dx_Fl_setOne_85 ?_
              refine px_iconst (v := 0) dx_Fl_setOne_86 rfl ?_
              refine px_iastN (j := r + 1) dx_Fl_setOne_87 kP.2.2.2.2.1 (by omega) (by omega) ?_
              refine px_goto dx_Fl_setOne_88 ?_
              exact px_vret dx_Fl_setOne_109 rfl (by (exfalso; omega))
          · refine px_iload_n dx_Fl_setOne_43 rfl ?_
            refine px_bipush (v := 6) dx_Fl_setOne_44 rfl ?_
            refine px_icmp_neN (a := N r) (b := 6) dx_Fl_setOne_46 (by omega) (by omega) (fun c_46 => ?_) (fun c_46 => ?_)
            · refine px_iconst (v := 0) dx_Fl_setOne_53 rfl ?_
              refine px_istore (lv' := [(5, .int (0)), (4, .int (1)), (3, .int (nI (N r))), (0, .ref (q + 3)), (1, .int (nI (r))), (2, .int (nI (t)))]) dx_Fl_setOne_54 (by decide) rfl ?_
              refine px_aload_n dx_Fl_setOne_56 rfl ?_
              refine px_getR (r := q + 4) dx_Fl_setOne_57 fl_Fl_9 kP.2.2.2.1 (by omega) rfl (hR.2.2.2.1 q hq).2.2.2.1 ?_
              refine px_iload_n dx_Fl_setOne_60 rfl ?_
              refine px_iload_n dx_Fl_setOne_61 rfl ?_
              refine px_iastN (j := r) dx_Fl_setOne_62 kP.2.2.2.2.1 (by omega) (by omega) ?_
              refine px_iload dx_Fl_setOne_63 rfl ?_
              refine px_if_eq dx_Fl_setOne_65 (fun q => absurd q (by decide)) (fun _ => ?_)
              refine px_iload_n dx_Fl_setOne_68 rfl ?_
              refine px_iconst (v := 1) dx_Fl_setOne_69 rfl ?_
              refine px_iaddN (a := r) (b := 1) dx_Fl_setOne_70 ?_
              refine px_aload_n dx_Fl_setOne_71 rfl ?_
              refine px_getR (r := q + 4) dx_Fl_setOne_72 fl_Fl_9 kP.2.2.2.1 (by omega) rfl (hR.2.2.2.1 q hq).2.2.2.1 ?_
              refine px_alen (v := 10) dx_Fl_setOne_75 kP.2.2.2.2.1 (by decide) (by omega) rfl ?_
              refine px_icmp_geN (a := r + 1) (b := 10) dx_Fl_setOne_76 (by omega) (by omega) (fun c_76 => ?_) (fun c_76 => ?_)
              · refine px_iload dx_Fl_setOne_91 rfl ?_
                refine px_if_eq dx_Fl_setOne_93 (fun _ => ?_) (fun q => absurd (by decide) q)
                exact px_vret dx_Fl_setOne_109 rfl (by (have e : s1C N r t = va_up (N) (r) (t) := by (unfold s1C; rw [if_pos (show N r = 3 ∨ N r = 5 by omega), if_neg (show ¬ r + 1 < 10 by omega)])); exact hp0 _ _ ⟨rfl, (Agp.rf.w (show P4 q (q + 4) _ from rfl)), by rw [e]; exact (AN.up hN (v := t) (by first | rfl | decide))⟩)
              · refine px_aload_n dx_Fl_setOne_79 rfl ?_
                refine px_getR (r := q + 4) dx_Fl_setOne_80 fl_Fl_9 kP.2.2.2.1 (by omega) rfl (hR.2.2.2.1 q hq).2.2.2.1 ?_
                refine px_iload_n dx_Fl_setOne_83 rfl ?_
                refine px_iconst (v := 1) dx_Fl_setOne_84 rfl ?_
                refine px_iaddN (a := r) (b := 1) dx_Fl_setOne_85 ?_
                refine px_iconst (v := 0) dx_Fl_setOne_86 rfl ?_
                refine px_iastN (j := r + 1) dx_Fl_setOne_87 kP.2.2.2.2.1 (by omega) (by omega) ?_
                refine px_goto dx_Fl_setOne_88 ?_
                exact px_vret dx_Fl_setOne_109 rfl (by (have e : s1C N r t = va_up (va_up (N) (r) (t)) (r + 1) (0) := by (unfold s1C; rw [if_pos (show N r = 3 ∨ N r = 5 by omega), if_pos (show r + 1 < 10 by omega)])); exact hp0 _ _ ⟨rfl, ((Agp.rf.w (show P4 q (q + 4) _ from rfl)).w (show P4 q (q + 4) _ from rfl)), by rw [e]; exact (AN.up (AN.up hN (v := t) (by first | rfl | decide)) (v := 0) (by first | rfl | decide))⟩)
            · refine px_iconst (v := 1) dx_Fl_setOne_49 rfl ?_
              refine px_goto dx_Fl_setOne_50 ?_
              refine px_istore (lv' := [(5, .int (1)), (4, .int (1)), (3, .int (nI (N r))), (0, .ref (q + 3)), (1, .int (nI (r))), (2, .int (nI (t)))]) dx_Fl_setOne_54 (by decide) rfl ?_
              refine px_aload_n dx_Fl_setOne_56 rfl ?_
              refine px_getR (r := q + 4) dx_Fl_setOne_57 fl_Fl_9 kP.2.2.2.1 (by omega) rfl (hR.2.2.2.1 q hq).2.2.2.1 ?_
              refine px_iload_n dx_Fl_setOne_60 rfl ?_
              refine px_iload_n dx_Fl_setOne_61 rfl ?_
              refine px_iastN (j := r) dx_Fl_setOne_62 kP.2.2.2.2.1 (by omega) (by omega) ?_
              refine px_iload dx_Fl_setOne_63 rfl ?_
              refine px_if_eq dx_Fl_setOne_65 (fun q => absurd q (by decide)) (fun _ => ?_)
              refine px_iload_n dx_Fl_setOne_68 rfl ?_
              refine px_iconst (v := 1) dx_Fl_setOne_69 rfl ?_
              refine px_iaddN (a := r) (b := 1) dx_Fl_setOne_70 ?_
              refine px_aload_n dx_Fl_setOne_71 rfl ?_
              refine px_getR (r := q + 4) dx_Fl_setOne_72 fl_Fl_9 kP.2.2.2.1 (by omega) rfl (hR.2.2.2.1 q hq).2.2.2.1 ?_
              refine px_alen (v := 10) dx_Fl_setOne_75 kP.2.2.2.2.1 (by decide) (by omega) rfl ?_
              refine px_icmp_geN (a := r + 1) (b := 10) dx_Fl_setOne_76 (by omega) (by omega) (fun c_76 => ?_) (fun c_76 => ?_)
              · refine px_iload dx_Fl_setOne_91 rfl ?_
                refine px_if_eq dx_Fl_setOne_93 (fun q => absurd q (by decide)) (fun _ => ?_)
                refine px_iload_n dx_Fl_setOne_96 rfl ?_
                refine px_if_leN (a := r) dx_Fl_setOne_97 (by omega) (fun c_97 => ?_) (fun c_97 => ?_)
                · exact px_vret dx_Fl_setOne_109 rfl (by (exfalso; omega))
                · refine px_aload_n dx_Fl_setOne_100 rfl ?_
                  refine px_getR (r := q + 4) dx_Fl_setOne_101 fl_Fl_9 kP.2.2.2.1 (by omega) rfl (hR.2.2.2.1 q hq).2.2.2.1 ?_
                  refine px_iload_n dx_Fl_setOne_104 rfl ?_
                  refine px_iconst (v := 1) dx_Fl_setOne_105 rfl ?_
                  refine px_isubN (a := r) (b := 1) dx_Fl_setOne_106 (by omega) ?_
                  refine px_iconst (v := 0) dx_Fl_setOne_107 rfl ?_
                  refine px_iastN (j := r - 1) dx_Fl_setOne_108 kP.2.2.2.2.1 (by omega) (by omega) ?_
                  exact px_vret dx_Fl_setOne_109 rfl (by (exfalso; omega))
              · refine px_aload_n dx_Fl_setOne_79 rfl ?_
                refine px_getR (r := q + 4) dx_Fl_setOne_80 fl_Fl_9 kP.2.2.2.1 (by omega) rfl (hR.2.2.2.1 q hq).2.2.2.1 ?_
                refine px_iload_n dx_Fl_setOne_83 rfl ?_
                refine px_iconst (v := 1) dx_Fl_setOne_84 rfl ?_
                refine px_iaddN (a := r) (b := 1) dx_Fl_setOne_85 ?_
                refine px_iconst (v := 0) dx_Fl_setOne_86 rfl ?_
                refine px_iastN (j := r + 1) dx_Fl_setOne_87 kP.2.2.2.2.1 (by omega) (by omega) ?_
                refine px_goto dx_Fl_setOne_88 ?_
                exact px_vret dx_Fl_setOne_109 rfl (by (exfalso; omega))
    · exact px_vret dx_Fl_setOne_13 rfl (by (exfalso; omega))

theorem s1C_6 {N : Nat → Nat} {r t : Nat} (h : ∀ j, N j ≤ 6) (ht : t ≤ 6) : ∀ j, s1C N r t j ≤ 6 := by
  intro j
  have hj := h j
  unfold s1C va_up
  repeat' split
  all_goals first | omega | (simp only; repeat' split) <;> first | omega | exact h _
theorem stC_6 {N : Nat → Nat} {r w t : Nat} (h : ∀ j, N j ≤ 6) (ht : t ≤ 5) : ∀ j, stC N r w t j ≤ 6 := by
  unfold stC
  split
  · exact s1C_6 (s1C_6 h (by omega)) (by split <;> omega)
  · exact s1C_6 h (by omega)

set_option maxRecDepth 100000 in
set_option maxHeartbeats 1000000 in
theorem k_setTypes {l : Launch} {G : fr_G} {σ : fr_S} {q : Nat} (hq : PB q) (hR : RF σ) {N : Nat → Nat} (hN : AN σ q N) {r w t : Nat} (hw : w = 1 ∨ w = 2) (hr : r + w ≤ 10) (ht : t ≤ 5) (h6 : ∀ j, N j ≤ 6) : CR l G yy_Fl_setTypes rm_Fl_setTypes [.ref (q + 3), .int (nI (r)), .int (nI (w)), .int (nI (t))] σ (fun r0 σ' => r0 = none ∧ Agp (P4 q) σ σ' ∧ AN σ' q (stC N r w t)) := by
  intro Post hp0
  show PX l G yy_Fl_setTypes rm_Fl_setTypes _ false 742 0 0 0 [(0, .ref (q + 3)), (1, .int (nI (r))), (2, .int (nI (w))), (3, .int (nI (t)))] [] σ
  have kP := kd_P hq
  refine px_aload_n dx_Fl_setTypes_0 rfl ?_
  refine px_iload_n dx_Fl_setTypes_1 rfl ?_
  refine px_iload_n dx_Fl_setTypes_2 rfl ?_
  refine px_cVR (Y := yy_Fl_setTypes) (Yc := yy_Fl_setOne) (b := q + 3) (As := [.int (nI (r)), .int (nI (t))]) dx_Fl_setTypes_3 ml_Fl_114 mv_Fl_setOne np_Fl_setOne ⟨_, rfl⟩ (by decide) kP.2.2.2.1 (by omega) rfl (Nat.le_of_ble_eq_true rfl) (Nat.le_of_ble_eq_true rfl) rk_Fl_setTypes_Fl_setOne rfl (k_setOne (N := N) (r := r) (t := t) hq hR hN (by omega) (by omega) h6) zz_0 (fun r_3 τ1 h_3 => ?_)
  obtain ⟨rfl, hA1, hN1⟩ := h_3
  have hR := hA1.rfs hR
  refine px_iload_n dx_Fl_setTypes_6 rfl ?_
  refine px_iconst (v := 2) dx_Fl_setTypes_7 rfl ?_
  refine px_icmp_neN (a := w) (b := 2) dx_Fl_setTypes_8 (by omega) (by omega) (fun c_8 => ?_) (fun c_8 => ?_)
  · exact px_vret dx_Fl_setTypes_29 rfl (by (have e : stC N r w t = s1C N r t := if_neg (by omega)); exact hp0 _ _ ⟨rfl, hA1, by rw [e]; exact hN1⟩)
  · refine px_aload_n dx_Fl_setTypes_11 rfl ?_
    refine px_iload_n dx_Fl_setTypes_12 rfl ?_
    refine px_iconst (v := 1) dx_Fl_setTypes_13 rfl ?_
    refine px_iaddN (a := r) (b := 1) dx_Fl_setTypes_14 ?_
    refine px_iload_n dx_Fl_setTypes_15 rfl ?_
    refine px_if_neN (a := t) dx_Fl_setTypes_16 (by omega) (fun c_16 => ?_) (fun c_16 => ?_)
    · refine px_iload_n dx_Fl_setTypes_23 rfl ?_
      refine px_iconst (v := 1) dx_Fl_setTypes_24 rfl ?_
      refine px_iaddN (a := t) (b := 1) dx_Fl_setTypes_25 ?_
      refine px_cVR (Y := yy_Fl_setTypes) (Yc := yy_Fl_setOne) (b := q + 3) (As := [.int (nI (r + 1)), .int (nI (t + 1))]) dx_Fl_setTypes_26 ml_Fl_114 mv_Fl_setOne np_Fl_setOne ⟨_, rfl⟩ (by decide) kP.2.2.2.1 (by omega) rfl (Nat.le_of_ble_eq_true rfl) (Nat.le_of_ble_eq_true rfl) rk_Fl_setTypes_Fl_setOne rfl (k_setOne (N := s1C N r t) (r := r + 1) (t := t + 1) hq hR hN1 (by omega) (by omega) (s1C_6 h6 (by omega))) zz_0 (fun r_26 τ2 h_26 => ?_)
      obtain ⟨rfl, hA2, hN2⟩ := h_26
      exact px_vret dx_Fl_setTypes_29 rfl (by (have e : stC N r w t = s1C (s1C N r t) (r + 1) (t + 1) := by (unfold stC; rw [if_pos (show w = 2 by omega)]; rw [if_neg (show ¬ t = 0 by omega)])); exact hp0 _ _ ⟨rfl, hA1.tr hA2, by rw [e]; exact hN2⟩)
    · refine px_iconst (v := 0) dx_Fl_setTypes_19 rfl ?_
      refine px_goto dx_Fl_setTypes_20 ?_
      refine px_cVR (Y := yy_Fl_setTypes) (Yc := yy_Fl_setOne) (b := q + 3) (As := [.int (nI (r + 1)), .int (0)]) dx_Fl_setTypes_26 ml_Fl_114 mv_Fl_setOne np_Fl_setOne ⟨_, rfl⟩ (by decide) kP.2.2.2.1 (by omega) rfl (Nat.le_of_ble_eq_true rfl) (Nat.le_of_ble_eq_true rfl) rk_Fl_setTypes_Fl_setOne rfl (k_setOne (N := s1C N r t) (r := r + 1) (t := 0) hq hR hN1 (by omega) (by omega) (s1C_6 h6 (by omega))) zz_0 (fun r_26 τ2 h_26 => ?_)
      obtain ⟨rfl, hA2, hN2⟩ := h_26
      exact px_vret dx_Fl_setTypes_29 rfl (by (have e : stC N r w t = s1C (s1C N r t) (r + 1) 0 := by (unfold stC; rw [if_pos (show w = 2 by omega)]; rw [if_pos (show t = 0 by omega)])); exact hp0 _ _ ⟨rfl, hA1.tr hA2, by rw [e]; exact hN2⟩)

theorem S_ne {q s : Nat} (hq : PB q) (hS : SE s) : s ≠ q + 4 ∧ s + 1 ≠ q + 4 ∧ s ≠ q + 3 ∧ s + 1 ≠ q + 3 := by
  have kS := kd_S hS
  have kP := kd_P hq
  refine ⟨fun z => ?_, fun z => ?_, fun z => ?_, fun z => ?_⟩
  · rw [z] at kS
    exact absurd (kS.1.symm.trans kP.2.2.2.2.1) (by decide)
  · rw [show s = q + 3 by omega] at kS
    exact absurd (kS.1.symm.trans kP.2.2.2.1) (by decide)
  · rw [z] at kS
    exact absurd (kS.1.symm.trans kP.2.2.2.1) (by decide)
  · rw [z] at kS
    exact absurd (kS.2.1.symm.trans kP.2.2.2.1) (by decide)
theorem hsC_5 {t y : Nat} (hy : y ≤ 5 ∨ y = 7 ∨ y = 8) (h : hsC t y = true) : t ≤ 5 := by
  unfold hsC at h
  split at h
  · simp only [decide_eq_true_eq] at h; omega
  · split at h
    · simp only [decide_eq_true_eq] at h; omega
    · simp only [decide_eq_true_eq, List.mem_cons, List.not_mem_nil, or_false] at *; omega
theorem wdc_12 (x : Nat) : wdc x = 1 ∨ wdc x = 2 := by
  unfold wdc
  split
  · exact Or.inr rfl
  · exact Or.inl rfl
theorem tyO_6 {T : Nat → Nat} (h : ∀ r, T r ≤ 6) (x : Int32) : tyO T x ≤ 6 := by
  unfold tyO
  split
  · exact h _
  · exact Nat.zero_le _

set_option maxRecDepth 100000 in
set_option maxHeartbeats 1000000 in
theorem k_passOver {l : Launch} {G : fr_G} {σ : fr_S} {q : Nat} (hq : PB q) (hR : RF σ) {s : Nat} (hS : SE s) {op w w1 w2 x y : Nat} (hw : w < 65536) (hop : op = opS w) (hSD : SD σ s w w1 w2) (hSU : SU σ s x y) {T : Nat → Nat} (hT : ∀ r, r < 10 → gI σ (s + 1) r = nI (T r)) (h6 : ∀ r, T r ≤ 6) (hx : x ≤ 5 ∨ x = 7 ∨ x = 8) (hy : y ≤ 5 ∨ y = 7 ∨ y = 8) (hr : x ≠ 0 → dRes op w + wdc x ≤ 10) : CR l G yy_Fl_passOver rm_Fl_passOver [.ref (q + 3), .ref (s)] σ (fun r0 σ' => r0 = none ∧ Agp (P4 q) σ σ' ∧ AN σ' q (poC T x y (dRes op w) (dFst op w w1))) := by
  intro Post hp0
  show PX l G yy_Fl_passOver rm_Fl_passOver _ false 742 0 0 0 [(0, .ref (q + 3)), (1, .ref (s))] [] σ
  have kP := kd_P hq
  have kS := kd_S hS
  have hsq := S_ne hq hS
  unfold SD at hSD
  rw [← hop] at hSD
  have t6 := tyO_6 h6 (nI (dFst op w w1))
  refine px_aload_n dx_Fl_passOver_0 rfl ?_
  refine px_getR (r := s + 1) dx_Fl_passOver_1 fl_Fl_86 kS.1 (by omega) rfl (hR.2.2.2.2.2 s hS) ?_
  refine px_iconst (v := 0) dx_Fl_passOver_4 rfl ?_
  refine px_aload_n dx_Fl_passOver_5 rfl ?_
  refine px_getR (r := q + 4) dx_Fl_passOver_6 fl_Fl_9 kP.2.2.2.1 (by omega) rfl (hR.2.2.2.1 q hq).2.2.2.1 ?_
  refine px_iconst (v := 0) dx_Fl_passOver_9 rfl ?_
  refine px_bipush (v := 10) dx_Fl_passOver_10 rfl ?_
  refine px_copyi (a0 := s + 1) (a := q + 4) (sp := 0) (dp := 0) (cn := 10) dx_Fl_passOver_12 cw_Fl_89 kS.2.1 kP.2.2.2.2.1 (by omega) (by omega) (by omega) (by omega) (by omega) (by omega) (by omega) (by first | rfl | decide) (by first | rfl | decide) (by first | rfl | decide) (Nat.le_of_ble_eq_true rfl) (Nat.le_of_ble_eq_true rfl) ?_
  obtain ⟨σ1, hσ1⟩ : ∃ z, z = cpI (σ) (s + 1) (q + 4) (0) (0) (10) := ⟨_, rfl⟩
  rw [← hσ1]
  have hA0 : Agp (P4 q) σ σ1 := by (rw [hσ1]; exact ⟨fun o k h => cpI_n h, rfl⟩)
  have hN : AN σ1 q T := fun r hr => by (rw [hσ1, cpI_s, if_pos ⟨by omega, by omega⟩, show 0 + (r - 0) = r by omega]; exact hT r hr)
  have hR := hA0.rfs hR
  have hT1 : ∀ r, r < 10 → gI σ1 (s + 1) r = nI (T r) := fun r hr => (hA0.1 _ _ hsq.2.1).trans (hT r hr)
  refine px_aload_n dx_Fl_passOver_15 rfl ?_
  refine px_getI dx_Fl_passOver_16 fl_Fl_95 kS.1 (by omega) rfl ?_
  refine px_eqi (y := nI (x)) ((hA0.1 _ _ hsq.1).trans hSU.1) ?_
  refine px_if_neN (a := x) dx_Fl_passOver_19 (by omega) (fun c_19 => ?_) (fun c_19 => ?_)
  · refine px_aload_n dx_Fl_passOver_23 rfl ?_
    refine px_getI dx_Fl_passOver_24 fl_Fl_95 kS.1 (by omega) rfl ?_
    refine px_eqi (y := nI (x)) ((hA0.1 _ _ hsq.1).trans hSU.1) ?_
    refine px_istore_n (lv' := [(2, .int (nI (x))), (0, .ref (q + 3)), (1, .ref (s))]) dx_Fl_passOver_27 (by decide) rfl ?_
    refine px_iload_n dx_Fl_passOver_28 rfl ?_
    refine px_bipush (v := 7) dx_Fl_passOver_29 rfl ?_
    refine px_icmp_eqN (a := x) (b := 7) dx_Fl_passOver_31 (by omega) (by omega) (fun c_31 => ?_) (fun c_31 => ?_)
    · refine px_aload_n dx_Fl_passOver_40 rfl ?_
      refine px_aload_n dx_Fl_passOver_41 rfl ?_
      refine px_getI dx_Fl_passOver_42 fl_Fl_98 kS.1 (by omega) rfl ?_
      refine px_eqi (y := nI (dFst op w w1)) ((hA0.1 _ _ hsq.1).trans hSD.2.2.2.2.1) ?_
      refine px_aload_n dx_Fl_passOver_45 rfl ?_
      refine px_getI dx_Fl_passOver_46 fl_Fl_101 kS.1 (by omega) rfl ?_
      refine px_eqi (y := nI (y)) ((hA0.1 _ _ hsq.1).trans hSU.2) ?_
      refine px_cV (Y := yy_Fl_passOver) (Yc := yy_St_has) (b := s) (As := [.int (nI (dFst op w w1)), .int (nI (y))]) dx_Fl_passOver_49 ml_Fl_104 mv_St_has np_St_has ⟨_, rfl⟩ (by decide) kS.1 (by omega) rfl (Nat.le_of_ble_eq_true rfl) (Nat.le_of_ble_eq_true rfl) rk_Fl_passOver_St_has rfl (k_has hS hR hT1 h6 (by omega)) zz_0 ?_
      refine px_if_eqB dx_Fl_passOver_52 (fun c_52 => ?_) (fun c_52 => ?_)
      · refine px_iconst (v := 0) dx_Fl_passOver_66 rfl ?_
        refine px_istore_n (lv' := [(2, .int (0)), (0, .ref (q + 3)), (1, .ref (s))]) dx_Fl_passOver_67 (by decide) rfl ?_
        refine px_aload_n dx_Fl_passOver_68 rfl ?_
        refine px_aload_n dx_Fl_passOver_69 rfl ?_
        refine px_getI dx_Fl_passOver_70 fl_Fl_111 kS.1 (by omega) rfl ?_
        refine px_eqi (y := nI (dRes op w)) ((hA0.1 _ _ hsq.1).trans hSD.2.2.2.1) ?_
        refine px_aload_n dx_Fl_passOver_73 rfl ?_
        refine px_getI dx_Fl_passOver_74 fl_Fl_95 kS.1 (by omega) rfl ?_
        refine px_eqi (y := nI (x)) ((hA0.1 _ _ hsq.1).trans hSU.1) ?_
        refine px_cS (Y := yy_Fl_passOver) (Yc := yy_V_widthOf) (As := [.int (nI (x))]) dx_Fl_passOver_77 ml_Fl_79 ms_V_widthOf np_V_widthOf rfl (Nat.le_of_ble_eq_true rfl) (Nat.le_of_ble_eq_true rfl) rk_Fl_passOver_V_widthOf rfl (k_widthOf (by omega)) zz_0 ?_
        refine px_iload_n dx_Fl_passOver_80 rfl ?_
        refine px_cVR (Y := yy_Fl_passOver) (Yc := yy_Fl_setTypes) (b := q + 3) (As := [.int (nI (dRes op w)), .int (nI (wdc (x))), .int (0)]) dx_Fl_passOver_81 ml_Fl_82 mv_Fl_setTypes np_Fl_setTypes ⟨_, rfl⟩ (by decide) kP.2.2.2.1 (by omega) rfl (Nat.le_of_ble_eq_true rfl) (Nat.le_of_ble_eq_true rfl) rk_Fl_passOver_Fl_setTypes rfl (k_setTypes (N := T) (r := dRes op w) (w := wdc x) (t := 0) hq hR hN (wdc_12 x) (hr (by omega)) (by omega) h6) zz_0 (fun r_81 τ1 h_81 => ?_)
        obtain ⟨rfl, hA1, hN1⟩ := h_81
        exact px_vret dx_Fl_passOver_84 rfl (by (have e : poC T x y (dRes op w) (dFst op w w1) = stC T (dRes op w) (wdc x) (0) := by (unfold poC; rw [if_neg (show ¬ x = 0 by omega)]; rw [if_pos (show x = 7 ∨ x = 8 by omega)]; rw [if_neg (by rw [c_52]; decide)])); exact hp0 _ _ ⟨rfl, hA0.tr hA1, by rw [e]; exact hN1⟩)
      · refine px_aload_n dx_Fl_passOver_55 rfl ?_
        refine px_aload_n dx_Fl_passOver_56 rfl ?_
        refine px_getI dx_Fl_passOver_57 fl_Fl_98 kS.1 (by omega) rfl ?_
        refine px_eqi (y := nI (dFst op w w1)) ((hA0.1 _ _ hsq.1).trans hSD.2.2.2.2.1) ?_
        refine px_cV (Y := yy_Fl_passOver) (Yc := yy_St_typeOf) (b := s) (As := [.int (nI (dFst op w w1))]) dx_Fl_passOver_60 ml_Fl_108 mv_St_typeOf np_St_typeOf ⟨_, rfl⟩ (by decide) kS.1 (by omega) rfl (Nat.le_of_ble_eq_true rfl) (Nat.le_of_ble_eq_true rfl) rk_Fl_passOver_St_typeOf rfl (k_typeOf hS hR hT1) zz_0 ?_
        refine px_goto dx_Fl_passOver_63 ?_
        refine px_istore_n (lv' := [(2, .int (nI (tyO T (nI (dFst op w w1))))), (0, .ref (q + 3)), (1, .ref (s))]) dx_Fl_passOver_67 (by decide) rfl ?_
        refine px_aload_n dx_Fl_passOver_68 rfl ?_
        refine px_aload_n dx_Fl_passOver_69 rfl ?_
        refine px_getI dx_Fl_passOver_70 fl_Fl_111 kS.1 (by omega) rfl ?_
        refine px_eqi (y := nI (dRes op w)) ((hA0.1 _ _ hsq.1).trans hSD.2.2.2.1) ?_
        refine px_aload_n dx_Fl_passOver_73 rfl ?_
        refine px_getI dx_Fl_passOver_74 fl_Fl_95 kS.1 (by omega) rfl ?_
        refine px_eqi (y := nI (x)) ((hA0.1 _ _ hsq.1).trans hSU.1) ?_
        refine px_cS (Y := yy_Fl_passOver) (Yc := yy_V_widthOf) (As := [.int (nI (x))]) dx_Fl_passOver_77 ml_Fl_79 ms_V_widthOf np_V_widthOf rfl (Nat.le_of_ble_eq_true rfl) (Nat.le_of_ble_eq_true rfl) rk_Fl_passOver_V_widthOf rfl (k_widthOf (by omega)) zz_0 ?_
        refine px_iload_n dx_Fl_passOver_80 rfl ?_
        refine px_cVR (Y := yy_Fl_passOver) (Yc := yy_Fl_setTypes) (b := q + 3) (As := [.int (nI (dRes op w)), .int (nI (wdc (x))), .int (nI (tyO T (nI (dFst op w w1))))]) dx_Fl_passOver_81 ml_Fl_82 mv_Fl_setTypes np_Fl_setTypes ⟨_, rfl⟩ (by decide) kP.2.2.2.1 (by omega) rfl (Nat.le_of_ble_eq_true rfl) (Nat.le_of_ble_eq_true rfl) rk_Fl_passOver_Fl_setTypes rfl (k_setTypes (N := T) (r := dRes op w) (w := wdc x) (t := tyO T (nI (dFst op w w1))) hq hR hN (wdc_12 x) (hr (by omega)) (hsC_5 hy c_52) h6) zz_0 (fun r_81 τ1 h_81 => ?_)
        obtain ⟨rfl, hA1, hN1⟩ := h_81
        exact px_vret dx_Fl_passOver_84 rfl (by (have e : poC T x y (dRes op w) (dFst op w w1) = stC T (dRes op w) (wdc x) (tyO T (nI (dFst op w w1))) := by (unfold poC; rw [if_neg (show ¬ x = 0 by omega)]; rw [if_pos (show x = 7 ∨ x = 8 by omega)]; rw [if_pos c_52])); exact hp0 _ _ ⟨rfl, hA0.tr hA1, by rw [e]; exact hN1⟩)
    · refine px_iload_n dx_Fl_passOver_34 rfl ?_
      refine px_bipush (v := 8) dx_Fl_passOver_35 rfl ?_
      refine px_icmp_neN (a := x) (b := 8) dx_Fl_passOver_37 (by omega) (by omega) (fun c_37 => ?_) (fun c_37 => ?_)
      · refine px_aload_n dx_Fl_passOver_68 rfl ?_
        refine px_aload_n dx_Fl_passOver_69 rfl ?_
        refine px_getI dx_Fl_passOver_70 fl_Fl_111 kS.1 (by omega) rfl ?_
        refine px_eqi (y := nI (dRes op w)) ((hA0.1 _ _ hsq.1).trans hSD.2.2.2.1) ?_
        refine px_aload_n dx_Fl_passOver_73 rfl ?_
        refine px_getI dx_Fl_passOver_74 fl_Fl_95 kS.1 (by omega) rfl ?_
        refine px_eqi (y := nI (x)) ((hA0.1 _ _ hsq.1).trans hSU.1) ?_
        refine px_cS (Y := yy_Fl_passOver) (Yc := yy_V_widthOf) (As := [.int (nI (x))]) dx_Fl_passOver_77 ml_Fl_79 ms_V_widthOf np_V_widthOf rfl (Nat.le_of_ble_eq_true rfl) (Nat.le_of_ble_eq_true rfl) rk_Fl_passOver_V_widthOf rfl (k_widthOf (by omega)) zz_0 ?_
        refine px_iload_n dx_Fl_passOver_80 rfl ?_
        refine px_cVR (Y := yy_Fl_passOver) (Yc := yy_Fl_setTypes) (b := q + 3) (As := [.int (nI (dRes op w)), .int (nI (wdc (x))), .int (nI (x))]) dx_Fl_passOver_81 ml_Fl_82 mv_Fl_setTypes np_Fl_setTypes ⟨_, rfl⟩ (by decide) kP.2.2.2.1 (by omega) rfl (Nat.le_of_ble_eq_true rfl) (Nat.le_of_ble_eq_true rfl) rk_Fl_passOver_Fl_setTypes rfl (k_setTypes (N := T) (r := dRes op w) (w := wdc x) (t := x) hq hR hN (wdc_12 x) (hr (by omega)) (by omega) h6) zz_0 (fun r_81 τ1 h_81 => ?_)
        obtain ⟨rfl, hA1, hN1⟩ := h_81
        exact px_vret dx_Fl_passOver_84 rfl (by (have e : poC T x y (dRes op w) (dFst op w w1) = stC T (dRes op w) (wdc x) (x) := by (unfold poC; rw [if_neg (show ¬ x = 0 by omega)]; rw [if_neg (show ¬ (x = 7 ∨ x = 8) by omega)])); exact hp0 _ _ ⟨rfl, hA0.tr hA1, by rw [e]; exact hN1⟩)
      · refine px_aload_n dx_Fl_passOver_40 rfl ?_
        refine px_aload_n dx_Fl_passOver_41 rfl ?_
        refine px_getI dx_Fl_passOver_42 fl_Fl_98 kS.1 (by omega) rfl ?_
        refine px_eqi (y := nI (dFst op w w1)) ((hA0.1 _ _ hsq.1).trans hSD.2.2.2.2.1) ?_
        refine px_aload_n dx_Fl_passOver_45 rfl ?_
        refine px_getI dx_Fl_passOver_46 fl_Fl_101 kS.1 (by omega) rfl ?_
        refine px_eqi (y := nI (y)) ((hA0.1 _ _ hsq.1).trans hSU.2) ?_
        refine px_cV (Y := yy_Fl_passOver) (Yc := yy_St_has) (b := s) (As := [.int (nI (dFst op w w1)), .int (nI (y))]) dx_Fl_passOver_49 ml_Fl_104 mv_St_has np_St_has ⟨_, rfl⟩ (by decide) kS.1 (by omega) rfl (Nat.le_of_ble_eq_true rfl) (Nat.le_of_ble_eq_true rfl) rk_Fl_passOver_St_has rfl (k_has hS hR hT1 h6 (by omega)) zz_0 ?_
        refine px_if_eqB dx_Fl_passOver_52 (fun c_52 => ?_) (fun c_52 => ?_)
        · refine px_iconst (v := 0) dx_Fl_passOver_66 rfl ?_
          refine px_istore_n (lv' := [(2, .int (0)), (0, .ref (q + 3)), (1, .ref (s))]) dx_Fl_passOver_67 (by decide) rfl ?_
          refine px_aload_n dx_Fl_passOver_68 rfl ?_
          refine px_aload_n dx_Fl_passOver_69 rfl ?_
          refine px_getI dx_Fl_passOver_70 fl_Fl_111 kS.1 (by omega) rfl ?_
          refine px_eqi (y := nI (dRes op w)) ((hA0.1 _ _ hsq.1).trans hSD.2.2.2.1) ?_
          refine px_aload_n dx_Fl_passOver_73 rfl ?_
          refine px_getI dx_Fl_passOver_74 fl_Fl_95 kS.1 (by omega) rfl ?_
          refine px_eqi (y := nI (x)) ((hA0.1 _ _ hsq.1).trans hSU.1) ?_
          refine px_cS (Y := yy_Fl_passOver) (Yc := yy_V_widthOf) (As := [.int (nI (x))]) dx_Fl_passOver_77 ml_Fl_79 ms_V_widthOf np_V_widthOf rfl (Nat.le_of_ble_eq_true rfl) (Nat.le_of_ble_eq_true rfl) rk_Fl_passOver_V_widthOf rfl (k_widthOf (by omega)) zz_0 ?_
          refine px_iload_n dx_Fl_passOver_80 rfl ?_
          refine px_cVR (Y := yy_Fl_passOver) (Yc := yy_Fl_setTypes) (b := q + 3) (As := [.int (nI (dRes op w)), .int (nI (wdc (x))), .int (0)]) dx_Fl_passOver_81 ml_Fl_82 mv_Fl_setTypes np_Fl_setTypes ⟨_, rfl⟩ (by decide) kP.2.2.2.1 (by omega) rfl (Nat.le_of_ble_eq_true rfl) (Nat.le_of_ble_eq_true rfl) rk_Fl_passOver_Fl_setTypes rfl (k_setTypes (N := T) (r := dRes op w) (w := wdc x) (t := 0) hq hR hN (wdc_12 x) (hr (by omega)) (by omega) h6) zz_0 (fun r_81 τ1 h_81 => ?_)
          obtain ⟨rfl, hA1, hN1⟩ := h_81
          exact px_vret dx_Fl_passOver_84 rfl (by (have e : poC T x y (dRes op w) (dFst op w w1) = stC T (dRes op w) (wdc x) (0) := by (unfold poC; rw [if_neg (show ¬ x = 0 by omega)]; rw [if_pos (show x = 7 ∨ x = 8 by omega)]; rw [if_neg (by rw [c_52]; decide)])); exact hp0 _ _ ⟨rfl, hA0.tr hA1, by rw [e]; exact hN1⟩)
        · refine px_aload_n dx_Fl_passOver_55 rfl ?_
          refine px_aload_n dx_Fl_passOver_56 rfl ?_
          refine px_getI dx_Fl_passOver_57 fl_Fl_98 kS.1 (by omega) rfl ?_
          refine px_eqi (y := nI (dFst op w w1)) ((hA0.1 _ _ hsq.1).trans hSD.2.2.2.2.1) ?_
          refine px_cV (Y := yy_Fl_passOver) (Yc := yy_St_typeOf) (b := s) (As := [.int (nI (dFst op w w1))]) dx_Fl_passOver_60 ml_Fl_108 mv_St_typeOf np_St_typeOf ⟨_, rfl⟩ (by decide) kS.1 (by omega) rfl (Nat.le_of_ble_eq_true rfl) (Nat.le_of_ble_eq_true rfl) rk_Fl_passOver_St_typeOf rfl (k_typeOf hS hR hT1) zz_0 ?_
          refine px_goto dx_Fl_passOver_63 ?_
          refine px_istore_n (lv' := [(2, .int (nI (tyO T (nI (dFst op w w1))))), (0, .ref (q + 3)), (1, .ref (s))]) dx_Fl_passOver_67 (by decide) rfl ?_
          refine px_aload_n dx_Fl_passOver_68 rfl ?_
          refine px_aload_n dx_Fl_passOver_69 rfl ?_
          refine px_getI dx_Fl_passOver_70 fl_Fl_111 kS.1 (by omega) rfl ?_
          refine px_eqi (y := nI (dRes op w)) ((hA0.1 _ _ hsq.1).trans hSD.2.2.2.1) ?_
          refine px_aload_n dx_Fl_passOver_73 rfl ?_
          refine px_getI dx_Fl_passOver_74 fl_Fl_95 kS.1 (by omega) rfl ?_
          refine px_eqi (y := nI (x)) ((hA0.1 _ _ hsq.1).trans hSU.1) ?_
          refine px_cS (Y := yy_Fl_passOver) (Yc := yy_V_widthOf) (As := [.int (nI (x))]) dx_Fl_passOver_77 ml_Fl_79 ms_V_widthOf np_V_widthOf rfl (Nat.le_of_ble_eq_true rfl) (Nat.le_of_ble_eq_true rfl) rk_Fl_passOver_V_widthOf rfl (k_widthOf (by omega)) zz_0 ?_
          refine px_iload_n dx_Fl_passOver_80 rfl ?_
          refine px_cVR (Y := yy_Fl_passOver) (Yc := yy_Fl_setTypes) (b := q + 3) (As := [.int (nI (dRes op w)), .int (nI (wdc (x))), .int (nI (tyO T (nI (dFst op w w1))))]) dx_Fl_passOver_81 ml_Fl_82 mv_Fl_setTypes np_Fl_setTypes ⟨_, rfl⟩ (by decide) kP.2.2.2.1 (by omega) rfl (Nat.le_of_ble_eq_true rfl) (Nat.le_of_ble_eq_true rfl) rk_Fl_passOver_Fl_setTypes rfl (k_setTypes (N := T) (r := dRes op w) (w := wdc x) (t := tyO T (nI (dFst op w w1))) hq hR hN (wdc_12 x) (hr (by omega)) (hsC_5 hy c_52) h6) zz_0 (fun r_81 τ1 h_81 => ?_)
          obtain ⟨rfl, hA1, hN1⟩ := h_81
          exact px_vret dx_Fl_passOver_84 rfl (by (have e : poC T x y (dRes op w) (dFst op w w1) = stC T (dRes op w) (wdc x) (tyO T (nI (dFst op w w1))) := by (unfold poC; rw [if_neg (show ¬ x = 0 by omega)]; rw [if_pos (show x = 7 ∨ x = 8 by omega)]; rw [if_pos c_52])); exact hp0 _ _ ⟨rfl, hA0.tr hA1, by rw [e]; exact hN1⟩)
  · exact px_vret dx_Fl_passOver_22 rfl (by (have e : poC T x y (dRes op w) (dFst op w w1) = T := if_pos (by omega)); exact hp0 _ _ ⟨rfl, hA0, by rw [e]; exact hN⟩)
