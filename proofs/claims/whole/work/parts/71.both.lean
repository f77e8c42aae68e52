/-! an instruction on both sides: what stays in its method -/
theorem isT_r {row : Nat → Nat} {r t : Nat} (h : isT row r t = true) : row r = fsO t := by
  unfold isT at h
  simp only [Bool.and_eq_true, decide_eq_true_eq] at h
  exact h.1
theorem bs_I {A : VM} {a k v : Nat} (h : a ≠ 1) : bs (aI A a k v) = bs A := by
  unfold bs
  rw [aI_n (Or.inl h.symm)]
theorem UP.w {A : VM} {q r : Nat} {v : Int64} : UP A (stW (aI A 3 (A.1 1 0 - 1) q) r v) (A.1 1 0 - 1) q r := ⟨rfl, fun k hk => ⟨up_n (by rw [bs_I (by decide)]; exact hk), rfl⟩, rfl⟩
theorem UP.e {A : VM} {q r : Nat} {v : UInt64} : UP A (stE (aI A 3 (A.1 1 0 - 1) q) r v) (A.1 1 0 - 1) q r := ⟨rfl, fun k hk => ⟨rfl, up_n (by rw [bs_I (by decide)]; exact hk)⟩, rfl⟩
theorem UP.b {A : VM} {q r : Nat} {w : Int64} {v : UInt64} : UP A (stE (stW (aI A 3 (A.1 1 0 - 1) q) r w) r v) (A.1 1 0 - 1) q r := ⟨rfl, fun k hk => ⟨up_n (by rw [bs_I (by decide)]; exact hk), up_n (by rw [show bs (stW (aI A 3 (A.1 1 0 - 1) q) r w) = bs (aI A 3 (A.1 1 0 - 1) q) from rfl, bs_I (by decide)]; exact hk)⟩, rfl⟩
theorem UP.k {B : VM} {i q r : Nat} {w : Int64} {d : UInt64} : UP B (kset (aI B 3 i q) i r w d) i q r := ⟨rfl, fun k hk => ⟨up_n hk, up_n hk⟩, rfl⟩
theorem w_w {A : VM} {q r : Nat} {v : Int64} : (stW (aI A 3 (A.1 1 0 - 1) q) r v).2.1 (bs A + r) = v ∧ (stW (aI A 3 (A.1 1 0 - 1) q) r v).2.2.1 (bs A + r) = gE A r := ⟨by show va_up A.2.1 (bs (aI A 3 (A.1 1 0 - 1) q) + r) v (bs A + r) = v; rw [bs_I (by decide)]; exact up_s, rfl⟩
theorem e_e {A : VM} {q r : Nat} {v : UInt64} : (stE (aI A 3 (A.1 1 0 - 1) q) r v).2.2.1 (bs A + r) = v ∧ (stE (aI A 3 (A.1 1 0 - 1) q) r v).2.1 (bs A + r) = gW A r := ⟨by show va_up A.2.2.1 (bs (aI A 3 (A.1 1 0 - 1) q) + r) v (bs A + r) = v; rw [bs_I (by decide)]; exact up_s, rfl⟩
theorem b_b {A : VM} {q r : Nat} {w : Int64} {v : UInt64} : (stE (stW (aI A 3 (A.1 1 0 - 1) q) r w) r v).2.1 (bs A + r) = w ∧ (stE (stW (aI A 3 (A.1 1 0 - 1) q) r w) r v).2.2.1 (bs A + r) = v := ⟨by show va_up A.2.1 (bs (aI A 3 (A.1 1 0 - 1) q) + r) w (bs A + r) = w; rw [bs_I (by decide)]; exact up_s, by show va_up A.2.2.1 (bs (aI A 3 (A.1 1 0 - 1) q) + r) v (bs A + r) = v; rw [bs_I (by decide)]; exact up_s⟩
theorem k_k {B : VM} {i q r : Nat} {w : Int64} {d : UInt64} : (kset (aI B 3 i q) i r w d).2.1 (10 * i + r) = w ∧ (kset (aI B 3 i q) i r w d).2.2.1 (10 * i + r) = d := ⟨up_s, up_s⟩
/-- what holds at the place where both stand -/
theorem RL.cx {F : Nat → Nat → Nat} {A B : VM} (G : GF F) (h : RL F A B) {m p : Nat} (hm : cmA A = m) (hp : cpA A = p) : m < F 0 0 ∧ RH F m p ∧ frmOK F (bgF F m) m p (pbG (bgF F m) p) = true ∧ insG F m p (TT F m p) = true ∧ bs B = bs A ∧ ∀ r, r < 10 → VRl (TT F m p r) (gW A r) (gW B r) (gE A r) (gE B r) := by
  obtain ⟨f1, f2, f3, f4, f5⟩ := h.fm (A.1 1 0 - 1) (by have := h.d1; omega)
  rw [show A.1 2 (A.1 1 0 - 1) = m from hm] at f1 f4 f5
  rw [show A.1 3 (A.1 1 0 - 1) = p from hp] at f4 f5
  have c := f4.c G f1
  have e : bs B = bs A := by
    unfold bs
    rw [h.de]
  refine ⟨f1, f4, c.1, c.2.1, e, fun r hr => ?_⟩
  unfold gW gE
  rw [e]
  exact f5 r hr
theorem VRl.a {t : Nat} {w w' : Int64} {d d' : UInt64} (h : VRl (fsO 1) w w' d d') : w' = w ∧ ∃ x : Int32, w = x.toInt64 := h.1 rfl
theorem VRl.b {t : Nat} {w w' : Int64} {d d' : UInt64} (h : VRl (fsO 2) w w' d d') : w' = w := h.2.2.1 rfl
theorem VRl.c {t : Nat} {w w' : Int64} {d d' : UInt64} (h : VRl (fsO 3) w w' d d') : d' = d ∧ ∃ x, fB x ∧ d = FP.f2d x := h.2.1 rfl
theorem VRl.e {t : Nat} {w w' : Int64} {d d' : UInt64} (h : VRl (fsO 4) w w' d d') : d' = d := h.2.2.2 rfl
theorem cv_16 : ∀ o, o < 256 → cvt o = true → o = 123 ∨ o = 125 ∨ o = 127 ∨ o = 128 ∨ o = 129 ∨ o = 130 ∨ o = 131 ∨ o = 132 ∨ o = 133 ∨ o = 134 ∨ o = 135 ∨ o = 136 ∨ o = 137 ∨ o = 138 ∨ o = 139 ∨ o = 140 := fun o _ h => by
  simp only [cvt, Bool.or_eq_true, Bool.and_eq_true, decide_eq_true_eq] at h
  omega
theorem cv_123 {w w' w0 : Int64} {d d' d0 : UInt64} (hd : dB d) (h : VRl (fsO (tkO 123)) w w' d d') : VRl (fsO (gvO 123)) (if cvW 123 = true then cvL 123 w d else w0) (kvL 123 w' d') (if cvW 123 = true then d0 else cvE 123 w d) (kvE 123 w' d') := by
  rw [show tkO 123 = 1 by decide] at h
  rw [show gvO 123 = 1 by decide, show cvW 123 = true by decide]
  simp only [if_true]
  obtain ⟨e, k⟩ := VRl.a (t := 0) h
  subst e
  exact VRl.i (kvL_e (by decide)) ⟨(-w').toInt32, by simp [cvL]⟩
theorem cv_125 {w w' w0 : Int64} {d d' d0 : UInt64} (hd : dB d) (h : VRl (fsO (tkO 125)) w w' d d') : VRl (fsO (gvO 125)) (if cvW 125 = true then cvL 125 w d else w0) (kvL 125 w' d') (if cvW 125 = true then d0 else cvE 125 w d) (kvE 125 w' d') := by
  rw [show tkO 125 = 2 by decide] at h
  rw [show gvO 125 = 2 by decide, show cvW 125 = true by decide]
  simp only [if_true]
  have e := VRl.b (t := 0) h
  subst e
  exact VRl.l (kvL_e (by decide))
theorem cv_127 {w w' w0 : Int64} {d d' d0 : UInt64} (hd : dB d) (h : VRl (fsO (tkO 127)) w w' d d') : VRl (fsO (gvO 127)) (if cvW 127 = true then cvL 127 w d else w0) (kvL 127 w' d') (if cvW 127 = true then d0 else cvE 127 w d) (kvE 127 w' d') := by
  rw [show tkO 127 = 3 by decide] at h
  rw [show gvO 127 = 3 by decide, show cvW 127 = false by decide]
  simp only [Bool.false_eq_true, if_false]
  obtain ⟨e, k⟩ := VRl.c (t := 0) h
  subst e
  exact VRl.f ((kvE_e (by decide) (fun _ => k) (fun e => absurd e (by decide))).trans (by simp [cvE])) ⟨FP.fneg (FP.d2f d'), fneg_fB (d2f_fB hd), by simp [cvE]⟩
theorem cv_128 {w w' w0 : Int64} {d d' d0 : UInt64} (hd : dB d) (h : VRl (fsO (tkO 128)) w w' d d') : VRl (fsO (gvO 128)) (if cvW 128 = true then cvL 128 w d else w0) (kvL 128 w' d') (if cvW 128 = true then d0 else cvE 128 w d) (kvE 128 w' d') := by
  rw [show tkO 128 = 4 by decide] at h
  rw [show gvO 128 = 4 by decide, show cvW 128 = false by decide]
  simp only [Bool.false_eq_true, if_false]
  have e := VRl.e (t := 0) h
  subst e
  exact VRl.d ((kvE_e (by decide) (fun e => absurd e (by decide)) (fun e => absurd e (by decide))).trans (by simp [cvE]))
theorem cv_129 {w w' w0 : Int64} {d d' d0 : UInt64} (hd : dB d) (h : VRl (fsO (tkO 129)) w w' d d') : VRl (fsO (gvO 129)) (if cvW 129 = true then cvL 129 w d else w0) (kvL 129 w' d') (if cvW 129 = true then d0 else cvE 129 w d) (kvE 129 w' d') := by
  rw [show tkO 129 = 1 by decide] at h
  rw [show gvO 129 = 2 by decide, show cvW 129 = true by decide]
  simp only [if_true]
  obtain ⟨e, k⟩ := VRl.a (t := 0) h
  subst e
  exact VRl.l (kvL_e (by decide))
theorem cv_130 {w w' w0 : Int64} {d d' d0 : UInt64} (hd : dB d) (h : VRl (fsO (tkO 130)) w w' d d') : VRl (fsO (gvO 130)) (if cvW 130 = true then cvL 130 w d else w0) (kvL 130 w' d') (if cvW 130 = true then d0 else cvE 130 w d) (kvE 130 w' d') := by
  rw [show tkO 130 = 1 by decide] at h
  rw [show gvO 130 = 3 by decide, show cvW 130 = false by decide]
  simp only [Bool.false_eq_true, if_false]
  obtain ⟨e, k⟩ := VRl.a (t := 0) h
  subst e
  exact VRl.f (kvE_e (by decide) (fun e => absurd e (by decide)) (fun _ => k)) ⟨FP.i2f w'.toInt32, i2f_fB _, by simp [cvE]⟩
theorem cv_131 {w w' w0 : Int64} {d d' d0 : UInt64} (hd : dB d) (h : VRl (fsO (tkO 131)) w w' d d') : VRl (fsO (gvO 131)) (if cvW 131 = true then cvL 131 w d else w0) (kvL 131 w' d') (if cvW 131 = true then d0 else cvE 131 w d) (kvE 131 w' d') := by
  rw [show tkO 131 = 1 by decide] at h
  rw [show gvO 131 = 4 by decide, show cvW 131 = false by decide]
  simp only [Bool.false_eq_true, if_false]
  obtain ⟨e, k⟩ := VRl.a (t := 0) h
  subst e
  exact VRl.d (kvE_e (by decide) (fun e => absurd e (by decide)) (fun e => absurd e (by decide)))
theorem cv_132 {w w' w0 : Int64} {d d' d0 : UInt64} (hd : dB d) (h : VRl (fsO (tkO 132)) w w' d d') : VRl (fsO (gvO 132)) (if cvW 132 = true then cvL 132 w d else w0) (kvL 132 w' d') (if cvW 132 = true then d0 else cvE 132 w d) (kvE 132 w' d') := by
  rw [show tkO 132 = 2 by decide] at h
  rw [show gvO 132 = 1 by decide, show cvW 132 = true by decide]
  simp only [if_true]
  have e := VRl.b (t := 0) h
  subst e
  exact VRl.i (kvL_e (by decide)) ⟨w'.toInt32, by simp [cvL]⟩
theorem cv_133 {w w' w0 : Int64} {d d' d0 : UInt64} (hd : dB d) (h : VRl (fsO (tkO 133)) w w' d d') : VRl (fsO (gvO 133)) (if cvW 133 = true then cvL 133 w d else w0) (kvL 133 w' d') (if cvW 133 = true then d0 else cvE 133 w d) (kvE 133 w' d') := by
  rw [show tkO 133 = 2 by decide] at h
  rw [show gvO 133 = 3 by decide, show cvW 133 = false by decide]
  simp only [Bool.false_eq_true, if_false]
  have e := VRl.b (t := 0) h
  subst e
  exact VRl.f (kvE_e (by decide) (fun e => absurd e (by decide)) (fun e => absurd e (by decide))) ⟨FP.l2f w', l2f_fB _, by simp [cvE]⟩
theorem cv_134 {w w' w0 : Int64} {d d' d0 : UInt64} (hd : dB d) (h : VRl (fsO (tkO 134)) w w' d d') : VRl (fsO (gvO 134)) (if cvW 134 = true then cvL 134 w d else w0) (kvL 134 w' d') (if cvW 134 = true then d0 else cvE 134 w d) (kvE 134 w' d') := by
  rw [show tkO 134 = 2 by decide] at h
  rw [show gvO 134 = 4 by decide, show cvW 134 = false by decide]
  simp only [Bool.false_eq_true, if_false]
  have e := VRl.b (t := 0) h
  subst e
  exact VRl.d (kvE_e (by decide) (fun e => absurd e (by decide)) (fun e => absurd e (by decide)))
theorem cv_135 {w w' w0 : Int64} {d d' d0 : UInt64} (hd : dB d) (h : VRl (fsO (tkO 135)) w w' d d') : VRl (fsO (gvO 135)) (if cvW 135 = true then cvL 135 w d else w0) (kvL 135 w' d') (if cvW 135 = true then d0 else cvE 135 w d) (kvE 135 w' d') := by
  rw [show tkO 135 = 3 by decide] at h
  rw [show gvO 135 = 1 by decide, show cvW 135 = true by decide]
  simp only [if_true]
  obtain ⟨e, k⟩ := VRl.c (t := 0) h
  subst e
  exact VRl.i ((kvL_e (by decide)).trans (by simp [cvL])) ⟨FP.d2i d', by simp [cvL]⟩
theorem cv_136 {w w' w0 : Int64} {d d' d0 : UInt64} (hd : dB d) (h : VRl (fsO (tkO 136)) w w' d d') : VRl (fsO (gvO 136)) (if cvW 136 = true then cvL 136 w d else w0) (kvL 136 w' d') (if cvW 136 = true then d0 else cvE 136 w d) (kvE 136 w' d') := by
  rw [show tkO 136 = 3 by decide] at h
  rw [show gvO 136 = 2 by decide, show cvW 136 = true by decide]
  simp only [if_true]
  obtain ⟨e, k⟩ := VRl.c (t := 0) h
  subst e
  exact VRl.l ((kvL_e (by decide)).trans (by simp [cvL]))
theorem cv_137 {w w' w0 : Int64} {d d' d0 : UInt64} (hd : dB d) (h : VRl (fsO (tkO 137)) w w' d d') : VRl (fsO (gvO 137)) (if cvW 137 = true then cvL 137 w d else w0) (kvL 137 w' d') (if cvW 137 = true then d0 else cvE 137 w d) (kvE 137 w' d') := by
  rw [show tkO 137 = 3 by decide] at h
  rw [show gvO 137 = 4 by decide, show cvW 137 = false by decide]
  simp only [Bool.false_eq_true, if_false]
  obtain ⟨e, k⟩ := VRl.c (t := 0) h
  subst e
  exact VRl.d ((kvE_e (by decide) (fun e => absurd e (by decide)) (fun e => absurd e (by decide))).trans (by simp [cvE]))
theorem cv_138 {w w' w0 : Int64} {d d' d0 : UInt64} (hd : dB d) (h : VRl (fsO (tkO 138)) w w' d d') : VRl (fsO (gvO 138)) (if cvW 138 = true then cvL 138 w d else w0) (kvL 138 w' d') (if cvW 138 = true then d0 else cvE 138 w d) (kvE 138 w' d') := by
  rw [show tkO 138 = 4 by decide] at h
  rw [show gvO 138 = 1 by decide, show cvW 138 = true by decide]
  simp only [if_true]
  have e := VRl.e (t := 0) h
  subst e
  exact VRl.i ((kvL_e (by decide)).trans (by simp [cvL])) ⟨FP.d2i d', by simp [cvL]⟩
theorem cv_139 {w w' w0 : Int64} {d d' d0 : UInt64} (hd : dB d) (h : VRl (fsO (tkO 139)) w w' d d') : VRl (fsO (gvO 139)) (if cvW 139 = true then cvL 139 w d else w0) (kvL 139 w' d') (if cvW 139 = true then d0 else cvE 139 w d) (kvE 139 w' d') := by
  rw [show tkO 139 = 4 by decide] at h
  rw [show gvO 139 = 2 by decide, show cvW 139 = true by decide]
  simp only [if_true]
  have e := VRl.e (t := 0) h
  subst e
  exact VRl.l ((kvL_e (by decide)).trans (by simp [cvL]))
theorem cv_140 {w w' w0 : Int64} {d d' d0 : UInt64} (hd : dB d) (h : VRl (fsO (tkO 140)) w w' d d') : VRl (fsO (gvO 140)) (if cvW 140 = true then cvL 140 w d else w0) (kvL 140 w' d') (if cvW 140 = true then d0 else cvE 140 w d) (kvE 140 w' d') := by
  rw [show tkO 140 = 4 by decide] at h
  rw [show gvO 140 = 3 by decide, show cvW 140 = false by decide]
  simp only [Bool.false_eq_true, if_false]
  have e := VRl.e (t := 0) h
  subst e
  exact VRl.f ((kvE_e (by decide) (fun e => absurd e (by decide)) (fun e => absurd e (by decide))).trans (by simp [cvE])) ⟨FP.d2f d', d2f_fB hd, by simp [cvE]⟩
theorem cv_v {o : Nat} (ho : o < 256) (hc : cvt o = true) {w w' w0 : Int64} {d d' d0 : UInt64} (hd : dB d) (h : VRl (fsO (tkO o)) w w' d d') : VRl (fsO (gvO o)) (if cvW o = true then cvL o w d else w0) (kvL o w' d') (if cvW o = true then d0 else cvE o w d) (kvE o w' d') := by
  rcases cv_16 o ho hc with rfl | rfl | rfl | rfl | rfl | rfl | rfl | rfl | rfl | rfl | rfl | rfl | rfl | rfl | rfl | rfl
  · exact cv_123 hd h
  · exact cv_125 hd h
  · exact cv_127 hd h
  · exact cv_128 hd h
  · exact cv_129 hd h
  · exact cv_130 hd h
  · exact cv_131 hd h
  · exact cv_132 hd h
  · exact cv_133 hd h
  · exact cv_134 hd h
  · exact cv_135 hd h
  · exact cv_136 hd h
  · exact cv_137 hd h
  · exact cv_138 hd h
  · exact cv_139 hd h
  · exact cv_140 hd h
theorem kvE_dB {op : Nat} {w : Int64} {d : UInt64} (h : dB d) : dB (kvE op w d) := by
  unfold kvE
  repeat' split
  all_goals first | exact d0_dB | exact dneg_dB h | exact f2d_dB (l2f_fB _) | exact l2d_dB _ | exact f2d_dB (d2f_fB h) | exact h
theorem stA_n {F : Nat → Nat → Nat} {A : VM} {m p : Nat} (hj : jns (opS (F 7 (40 * m + p))) = false) (hb : brs (opS (F 7 (40 * m + p))) = false) : stA F A m p = wkA F (aI A 3 (A.1 1 0 - 1) (p + szO (opS (F 7 (40 * m + p))))) m p := by
  have g : goN F A m p = false := by
    cases e : goN F A m p with
    | false => rfl
    | true => rw [goN_br e] at hb; exact absurd hb (by decide)
  unfold stA nxN
  rw [hj]
  simp only [Bool.false_eq_true, if_false]
  rw [g]
  simp only [Bool.false_eq_true, if_false]
/-- what sort of instruction a conversion is -/
theorem cv_fx : ∀ o, o < 256 → cvt o = true → jns o = false ∧ brs o = false ∧ ens o = false ∧ o ≠ 113 ∧ kdO o = 4 := by decide +kernel
theorem s_cvt {F : Nat → Nat → Nat} {A B : VM} (G : GF F) (h : RL F A B) {m p : Nat} (hm : cmA A = m) (hp : cpA A = p) (hc : cvt (opS (F 7 (40 * m + p))) = true) {w1 w2 : Nat} : RL F (stA F A m p) (stB F B m p (opS (F 7 (40 * m + p))) (F 7 (40 * m + p)) w1 w2) := by
  obtain ⟨c1, c2, c3, c4, c5, c6⟩ := h.cx G hm hp
  obtain ⟨x1, x2, x3, x4, x5⟩ := cv_fx _ (opS_lt _) hc
  obtain ⟨r1, r2⟩ := rg_c G.1 (frm_p c3).2.2.1 hc
  rw [stA_n x1 x2]
  have hs : isT (TT F m p) (opB (F 7 (40 * m + p))) (tkO (opS (F 7 (40 * m + p)))) = true := by
    have := c4
    unfold insG psG at this
    rw [if_pos hc] at this
    exact this
  have hv := c6 _ r2
  rw [isT_r hs] at hv
  have eB : stB F B m p (opS (F 7 (40 * m + p))) (F 7 (40 * m + p)) w1 w2 = kset (aI B 3 (A.1 1 0 - 1) (p + szO (opS (F 7 (40 * m + p))))) (A.1 1 0 - 1) (opA (F 7 (40 * m + p))) (kvL (opS (F 7 (40 * m + p))) (gW B (opB (F 7 (40 * m + p)))) (gE B (opB (F 7 (40 * m + p))))) (kvE (opS (F 7 (40 * m + p))) (gW B (opB (F 7 (40 * m + p)))) (gE B (opB (F 7 (40 * m + p))))) := by
    unfold stB
    rw [x5, h.de]
    rfl
  rw [eB]
  have eA : wkA F (aI A 3 (A.1 1 0 - 1) (p + szO (opS (F 7 (40 * m + p))))) m p = if cvW (opS (F 7 (40 * m + p))) = true then stW (aI A 3 (A.1 1 0 - 1) (p + szO (opS (F 7 (40 * m + p))))) (opA (F 7 (40 * m + p))) (cvL (opS (F 7 (40 * m + p))) (gW A (opB (F 7 (40 * m + p)))) (gE A (opB (F 7 (40 * m + p))))) else stE (aI A 3 (A.1 1 0 - 1) (p + szO (opS (F 7 (40 * m + p))))) (opA (F 7 (40 * m + p))) (cvE (opS (F 7 (40 * m + p))) (gW A (opB (F 7 (40 * m + p)))) (gE A (opB (F 7 (40 * m + p))))) := by
    unfold wkA
    rw [if_pos hc]
    rfl
  rw [eA]
  have hda := h.da.g r2 h.d6
  have hdb : dB (kvE (opS (F 7 (40 * m + p))) (gW B (opB (F 7 (40 * m + p)))) (gE B (opB (F 7 (40 * m + p))))) := kvE_dB (h.db _)
  have hi : insN F m p (pbG (bgF F m) p) (TT F m p) = stN (TT F m p) (opA (F 7 (40 * m + p))) (gvO (opS (F 7 (40 * m + p)))) (decide (gvO (opS (F 7 (40 * m + p))) = 2 ∨ gvO (opS (F 7 (40 * m + p))) = 4)) := by
    unfold insN psN
    rw [if_pos hc]
    rfl
  have hv2 := cv_v (opS_lt _) hc (w0 := gW A (opA (F 7 (40 * m + p)))) (d0 := gE A (opA (F 7 (40 * m + p)))) hda hv
  by_cases k : cvW (opS (F 7 (40 * m + p))) = true
  · rw [if_pos k] at hv2 ⊢
    rw [if_pos k] at hv2
    refine h.up G hm hp (r := opA (F 7 (40 * m + p))) (t := gvO (opS (F 7 (40 * m + p)))) r1 (fun e => by right; simpa using e) hi x3 x4 UP.w UP.k (fun _ => ?_) ?_ ?_
    · rw [w_w.1, w_w.2, show bs A = 10 * (A.1 1 0 - 1) from rfl, k_k.1, k_k.2]
      exact hv2
    · rw [w_w.2]
      exact h.da.g r1 h.d6
    · rw [show bs A = 10 * (A.1 1 0 - 1) from rfl, k_k.2]
      exact hdb
  · rw [if_neg k] at hv2 ⊢
    rw [if_neg k] at hv2
    refine h.up G hm hp (r := opA (F 7 (40 * m + p))) (t := gvO (opS (F 7 (40 * m + p)))) r1 (fun e => by right; simpa using e) hi x3 x4 UP.e UP.k (fun _ => ?_) ?_ ?_
    · rw [e_e.1, e_e.2, show bs A = 10 * (A.1 1 0 - 1) from rfl, k_k.1, k_k.2]
      exact hv2
    · rw [e_e.1]
      exact cvE_dB hda
    · rw [show bs A = 10 * (A.1 1 0 - 1) from rfl, k_k.2]
      exact hdb

