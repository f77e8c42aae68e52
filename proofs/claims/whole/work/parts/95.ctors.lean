/-! the start: what the constructors leave -/
def SM (σ σ' : fr_S) (o : Nat) : Prop := gI σ' o = gI σ o ∧ gL σ' o = gL σ o ∧ gD σ' o = gD σ o ∧ gR σ' o = gR σ o
theorem SM.rf {σ : fr_S} {o : Nat} : SM σ σ o := ⟨rfl, rfl, rfl, rfl⟩
theorem SM.tr {a b c : fr_S} {o : Nat} (h : SM a b o) (q : SM b c o) : SM a c o := ⟨q.1.trans h.1, q.2.1.trans h.2.1, q.2.2.1.trans h.2.2.1, q.2.2.2.trans h.2.2.2⟩
theorem SM.i {σ τ : fr_S} {o x k : Nat} {v : Int32} (h : SM σ τ o) (n : o ≠ x) : SM σ (sI τ x k v) o := h.tr ⟨u_2n n, rfl, rfl, rfl⟩
theorem SM.l {σ τ : fr_S} {o x k : Nat} {v : Int64} (h : SM σ τ o) (n : o ≠ x) : SM σ (sL τ x k v) o := h.tr ⟨rfl, u_2n n, rfl, rfl⟩
theorem SM.d {σ τ : fr_S} {o x k : Nat} {v : UInt64} (h : SM σ τ o) (n : o ≠ x) : SM σ (sD τ x k v) o := h.tr ⟨rfl, rfl, u_2n n, rfl⟩
theorem SM.r {σ τ : fr_S} {o x k : Nat} {v : Option Nat} (h : SM σ τ o) (n : o ≠ x) : SM σ (sR τ x k v) o := h.tr ⟨rfl, rfl, rfl, u_2n n⟩
theorem SM.z {σ τ : fr_S} {o x : Nat} (h : SM σ τ o) (n : o ≠ x) : SM σ (sZ τ x) o := h.tr ⟨by funext q; simp [gI, sZ, n], by funext q; simp [gL, sZ, n], by funext q; simp [gD, sZ, n], by funext q; simp [gR, sZ, n]⟩
def ZR (σ : fr_S) (o : Nat) : Prop := (∀ k, gI σ o k = 0) ∧ (∀ k, gL σ o k = 0) ∧ (∀ k, gD σ o k = 0) ∧ ∀ k, gR σ o k = none
theorem ZR.sm {σ τ : fr_S} {o : Nat} (h : ZR σ o) (q : SM σ τ o) : ZR τ o := ⟨fun k => by rw [q.1]; exact h.1 k, fun k => by rw [q.2.1]; exact h.2.1 k, fun k => by rw [q.2.2.1]; exact h.2.2.1 k, fun k => by rw [q.2.2.2]; exact h.2.2.2 k⟩
theorem ZR.z {σ : fr_S} {o : Nat} : ZR (sZ σ o) o := ⟨fun k => by rw [sZ_I], fun k => by rw [sZ_L], fun k => by rw [sZ_D], fun k => by rw [sZ_R]⟩
def fIk (K k : Nat) : Int32 := match K with
  | 0 => if k = 5 then -1 else 0
  | 1 => if k = 3 then -1 else 0
  | 7 => if k = 10 then -1 else 0
  | 9 => if k = 4 then -1 else 0
  | _ => 0
def fRk (K o k : Nat) : Option Nat := match K with
  | 0 => if k = 4 then some 372 else if k = 3 then some 27 else if k = 2 then some 7 else if k = 1 then some 3 else if k = 0 then some 1 else none
  | 1 => if k = 0 then some (o + 1) else none
  | 2 => if k = 2 then some (o + 3) else if k = 1 then some (o + 2) else if k = 0 then some (o + 1) else none
  | 3 => if k = 0 then some (o + 1) else none
  | 4 => if k = 2 then none else if k = 1 then some (o + 2) else if k = 0 then some (o + 1) else none
  | 5 => if k = 2 then some (o + 3) else if k = 1 then some (o + 2) else if k = 0 then some (o + 1) else none
  | 6 => if k = 0 then some (o + 1) else none
  | 7 => if k = 3 then some (o + 4) else if k = 2 then some (o + 3) else if k = 1 then some (o + 2) else if k = 0 then some (o + 1) else none
  | 8 => if k = 1 then some (o + 1) else none
  | 9 => mrf k
  | 24 => if k < 6 then some (o + 1 + 3 * k) else none
  | 25 => if k < 4 then some (o + 4 + 85 * k) else none
  | 26 => if k < 40 then some (o + 2 + 2 * k) else none
  | _ => none
/-- a cell as its constructor leaves it -/
def DN (σ : fr_S) (o : Nat) : Prop := (∀ k, (kd o).1 ≠ 8 → gI σ o k = fIk (kd o).1 k) ∧ (∀ k, gL σ o k = 0) ∧ (∀ k, gD σ o k = 0) ∧ ∀ k, gR σ o k = fRk (kd o).1 o k
theorem DN.sm {σ τ : fr_S} {o : Nat} (h : DN σ o) (q : SM σ τ o) : DN τ o := ⟨fun k w => by rw [q.1]; exact h.1 k w, fun k => by rw [q.2.1]; exact h.2.1 k, fun k => by rw [q.2.2.1]; exact h.2.2.1 k, fun k => by rw [q.2.2.2]; exact h.2.2.2 k⟩
theorem DN.z {σ : fr_S} {o K N : Nat} (h : ZR σ o) (hk : kd o = (K, N)) (hK : K = 20 ∨ K = 21 ∨ K = 22 ∨ K = 23) : DN σ o := by
  unfold DN
  rw [hk]
  rcases hK with rfl | rfl | rfl | rfl <;> exact ⟨fun k _ => h.1 k, h.2.1, h.2.2.1, h.2.2.2⟩
/-- what a constructor of an object with N more cells leaves -/
def Pst (σ : fr_S) (a N : Nat) (r : Option Value) (σ' : fr_S) : Prop := r = none ∧ (∀ o, o < a → SM σ σ' o) ∧ ∀ o, a ≤ o → o < a + 1 + N → DN σ' o

abbrev ri_Fb : Room := { frames := 1, cells := 1, slots := 220, locals := 12 }
abbrev ri_Ag : Room := { frames := 1, cells := 3, slots := 9, locals := 12 }
abbrev ri_Fr : Room := { frames := 1, cells := 2, slots := 20, locals := 12 }
abbrev ri_Fl : Room := { frames := 1, cells := 1, slots := 10, locals := 12 }
abbrev ri_St : Room := { frames := 1, cells := 1, slots := 10, locals := 12 }
abbrev ri_Mo : Room := { frames := 1, cells := 23, slots := 2695, locals := 12 }
abbrev ri_Me : Room := { frames := 2, cells := 84, slots := 1123, locals := 32 }
abbrev ri_Mc : Room := { frames := 2, cells := 19, slots := 150, locals := 32 }
abbrev ri_Pg : Room := { frames := 3, cells := 344, slots := 4556, locals := 53 }
abbrev ri_V : Room := { frames := 4, cells := 716, slots := 9518, locals := 74 }
theorem c_Fb {l : Launch} {G : fr_G} {σ : fr_S} {a : Nat} (k0 : kd a = (1, 0)) (k1 : kd (a + 1) = (20, 220)) (hz : ZR σ a) : PX l G yy_Fb_init ri_Fb (QR G true (a + 1 + 1) 1 220 (Pst σ a 1)) true (a + 1) 0 0 0 [(0, .ref a)] [] σ := by
  refine px_aload_n dx_Fb_init_0 rfl ?_
  refine px_objI dx_Fb_init_1 (al_in 109 (by decide +kernel) rfl) ⟨Nat.le_of_ble_eq_true rfl, Nat.le_of_ble_eq_true rfl⟩ ?_
  refine px_aload_n dx_Fb_init_4 rfl ?_
  refine px_sipush (v := nI 220) dx_Fb_init_5 (by decide) ?_
  refine px_newaI (N := 220) rfl dx_Fb_init_8 k1 (by decide) (Nat.le_of_ble_eq_true rfl) (Nat.le_of_ble_eq_true rfl) ?_
  refine px_putR dx_Fb_init_10 fl_Fb_9 (fun _ => ⟨rfl, _, _, ck_Fb, rfl, al_in 110 (by decide +kernel) rfl, rfl, rfl⟩) k0 (by omega) rfl ?_
  refine px_aload_n dx_Fb_init_13 rfl ?_
  refine px_iconst (v := 0) dx_Fb_init_14 (by decide) ?_
  refine px_putI dx_Fb_init_15 fl_Fb_15 k0 (by omega) rfl ?_
  refine px_aload_n dx_Fb_init_18 rfl ?_
  refine px_iconst (v := 0) dx_Fb_init_19 (by decide) ?_
  refine px_putI dx_Fb_init_20 fl_Fb_19 k0 (by omega) rfl ?_
  refine px_aload_n dx_Fb_init_23 rfl ?_
  refine px_iconst (v := (-1)) dx_Fb_init_24 (by decide) ?_
  refine px_putI dx_Fb_init_25 fl_Fb_22 k0 (by omega) rfl ?_
  refine px_vret dx_Fb_init_28 rfl ?_
  refine ⟨rfl, fun o ho => (((((SM.rf.z (by omega)).r (by omega)).i (by omega)).i (by omega)).i (by omega)), fun o h1 h2 => ?_⟩
  rcases (show o = a ∨ o = a + 1 by omega) with e | e
  · rw [e]
    unfold DN
    rw [k0]
    obtain ⟨z1, z2, z3, z4⟩ := hz
    simp only [gI] at z1
    simp only [gL] at z2
    simp only [gD] at z3
    simp only [gR] at z4
    refine ⟨fun k w => ?_, fun k => ?_, fun k => ?_, fun k => ?_⟩
    · first | exact absurd rfl w | simp [gI, gL, gD, gR, sI, sL, sD, sR, sZ, u_2, fIk, z1]
    · simp [gI, gL, gD, gR, sI, sL, sD, sR, sZ, u_2, z2]
    · simp [gI, gL, gD, gR, sI, sL, sD, sR, sZ, u_2, z3]
    · simp [gI, gL, gD, gR, sI, sL, sD, sR, sZ, u_2, fRk, z4, Nat.add_assoc]
  · rw [e]
    exact DN.z (K := 20) (N := 220) (ZR.z.sm ((((SM.rf.r (by omega)).i (by omega)).i (by omega)).i (by omega))) k1 (by decide)
theorem c_Ag {l : Launch} {G : fr_G} {σ : fr_S} {a : Nat} (k0 : kd a = (2, 0)) (k1 : kd (a + 1) = (20, 3)) (k2 : kd (a + 2) = (22, 3)) (k3 : kd (a + 3) = (23, 3)) (hz : ZR σ a) : PX l G yy_Ag_init ri_Ag (QR G true (a + 1 + 3) 3 9 (Pst σ a 3)) true (a + 1) 0 0 0 [(0, .ref a)] [] σ := by
  refine px_aload_n dx_Ag_init_0 rfl ?_
  refine px_objI dx_Ag_init_1 (al_in 130 (by decide +kernel) rfl) ⟨Nat.le_of_ble_eq_true rfl, Nat.le_of_ble_eq_true rfl⟩ ?_
  refine px_aload_n dx_Ag_init_4 rfl ?_
  refine px_iconst (v := nI 3) dx_Ag_init_5 (by decide) ?_
  refine px_newaI (N := 3) rfl dx_Ag_init_6 k1 (by decide) (Nat.le_of_ble_eq_true rfl) (Nat.le_of_ble_eq_true rfl) ?_
  refine px_putR dx_Ag_init_8 fl_Ag_9 (fun _ => ⟨rfl, _, _, ck_Ag, rfl, al_in 131 (by decide +kernel) rfl, rfl, rfl⟩) k0 (by omega) rfl ?_
  refine px_aload_n dx_Ag_init_11 rfl ?_
  refine px_iconst (v := nI 3) dx_Ag_init_12 (by decide) ?_
  refine px_newaL (N := 3) rfl dx_Ag_init_13 k2 (by decide) (Nat.le_of_ble_eq_true rfl) (Nat.le_of_ble_eq_true rfl) ?_
  refine px_putR dx_Ag_init_15 fl_Ag_15 (fun _ => ⟨rfl, _, _, ck_Ag, rfl, al_in 132 (by decide +kernel) rfl, rfl, rfl⟩) k0 (by omega) rfl ?_
  refine px_aload_n dx_Ag_init_18 rfl ?_
  refine px_iconst (v := nI 3) dx_Ag_init_19 (by decide) ?_
  refine px_newaD (N := 3) rfl dx_Ag_init_20 k3 (by decide) (Nat.le_of_ble_eq_true rfl) (Nat.le_of_ble_eq_true rfl) ?_
  refine px_putR dx_Ag_init_22 fl_Ag_19 (fun _ => ⟨rfl, _, _, ck_Ag, rfl, al_in 133 (by decide +kernel) rfl, rfl, rfl⟩) k0 (by omega) rfl ?_
  refine px_aload_n dx_Ag_init_25 rfl ?_
  refine px_iconst (v := 0) dx_Ag_init_26 (by decide) ?_
  refine px_putI dx_Ag_init_27 fl_Ag_23 k0 (by omega) rfl ?_
  refine px_vret dx_Ag_init_30 rfl ?_
  refine ⟨rfl, fun o ho => (((((((SM.rf.z (by omega)).r (by omega)).z (by omega)).r (by omega)).z (by omega)).r (by omega)).i (by omega)), fun o h1 h2 => ?_⟩
  rcases (show o = a ∨ o = a + 1 ∨ o = a + 2 ∨ o = a + 3 by omega) with e | e | e | e
  · rw [e]
    unfold DN
    rw [k0]
    obtain ⟨z1, z2, z3, z4⟩ := hz
    simp only [gI] at z1
    simp only [gL] at z2
    simp only [gD] at z3
    simp only [gR] at z4
    refine ⟨fun k w => ?_, fun k => ?_, fun k => ?_, fun k => ?_⟩
    · first | exact absurd rfl w | simp [gI, gL, gD, gR, sI, sL, sD, sR, sZ, u_2, fIk, z1]
    · simp [gI, gL, gD, gR, sI, sL, sD, sR, sZ, u_2, z2]
    · simp [gI, gL, gD, gR, sI, sL, sD, sR, sZ, u_2, z3]
    · simp [gI, gL, gD, gR, sI, sL, sD, sR, sZ, u_2, fRk, z4, Nat.add_assoc]
  · rw [e]
    exact DN.z (K := 20) (N := 3) (ZR.z.sm ((((((SM.rf.r (by omega)).z (by omega)).r (by omega)).z (by omega)).r (by omega)).i (by omega))) k1 (by decide)
  · rw [e]
    exact DN.z (K := 22) (N := 3) (ZR.z.sm ((((SM.rf.r (by omega)).z (by omega)).r (by omega)).i (by omega))) k2 (by decide)
  · rw [e]
    exact DN.z (K := 23) (N := 3) (ZR.z.sm ((SM.rf.r (by omega)).i (by omega))) k3 (by decide)
theorem c_Fr {l : Launch} {G : fr_G} {σ : fr_S} {a : Nat} (k0 : kd a = (4, 0)) (k1 : kd (a + 1) = (22, 10)) (k2 : kd (a + 2) = (23, 10)) (hz : ZR σ a) : PX l G yy_Fr_init ri_Fr (QR G true (a + 1 + 2) 2 20 (Pst σ a 2)) true (a + 1) 0 0 0 [(0, .ref a)] [] σ := by
  refine px_aload_n dx_Fr_init_0 rfl ?_
  refine px_objI dx_Fr_init_1 (al_in 158 (by decide +kernel) rfl) ⟨Nat.le_of_ble_eq_true rfl, Nat.le_of_ble_eq_true rfl⟩ ?_
  refine px_aload_n dx_Fr_init_4 rfl ?_
  refine px_bipush (v := nI 10) dx_Fr_init_5 (by decide) ?_
  refine px_newaL (N := 10) rfl dx_Fr_init_7 k1 (by decide) (Nat.le_of_ble_eq_true rfl) (Nat.le_of_ble_eq_true rfl) ?_
  refine px_putR dx_Fr_init_9 fl_Fr_9 (fun _ => ⟨rfl, _, _, ck_Fr, rfl, al_in 159 (by decide +kernel) rfl, rfl, rfl⟩) k0 (by omega) rfl ?_
  refine px_aload_n dx_Fr_init_12 rfl ?_
  refine px_bipush (v := nI 10) dx_Fr_init_13 (by decide) ?_
  refine px_newaD (N := 10) rfl dx_Fr_init_15 k2 (by decide) (Nat.le_of_ble_eq_true rfl) (Nat.le_of_ble_eq_true rfl) ?_
  refine px_putR dx_Fr_init_17 fl_Fr_15 (fun _ => ⟨rfl, _, _, ck_Fr, rfl, al_in 160 (by decide +kernel) rfl, rfl, rfl⟩) k0 (by omega) rfl ?_
  refine px_aload_n dx_Fr_init_20 rfl ?_
  refine px_null dx_Fr_init_21 ?_
  refine px_putN dx_Fr_init_22 fl_Fr_19 k0 (by omega) rfl ?_
  refine px_aload_n dx_Fr_init_25 rfl ?_
  refine px_iconst (v := 0) dx_Fr_init_26 (by decide) ?_
  refine px_putI dx_Fr_init_27 fl_Fr_23 k0 (by omega) rfl ?_
  refine px_vret dx_Fr_init_30 rfl ?_
  refine ⟨rfl, fun o ho => ((((((SM.rf.z (by omega)).r (by omega)).z (by omega)).r (by omega)).r (by omega)).i (by omega)), fun o h1 h2 => ?_⟩
  rcases (show o = a ∨ o = a + 1 ∨ o = a + 2 by omega) with e | e | e
  · rw [e]
    unfold DN
    rw [k0]
    obtain ⟨z1, z2, z3, z4⟩ := hz
    simp only [gI] at z1
    simp only [gL] at z2
    simp only [gD] at z3
    simp only [gR] at z4
    refine ⟨fun k w => ?_, fun k => ?_, fun k => ?_, fun k => ?_⟩
    · first | exact absurd rfl w | simp [gI, gL, gD, gR, sI, sL, sD, sR, sZ, u_2, fIk, z1]
    · simp [gI, gL, gD, gR, sI, sL, sD, sR, sZ, u_2, z2]
    · simp [gI, gL, gD, gR, sI, sL, sD, sR, sZ, u_2, z3]
    · simp [gI, gL, gD, gR, sI, sL, sD, sR, sZ, u_2, fRk, z4, Nat.add_assoc]
  · rw [e]
    exact DN.z (K := 22) (N := 10) (ZR.z.sm (((((SM.rf.r (by omega)).z (by omega)).r (by omega)).r (by omega)).i (by omega))) k1 (by decide)
  · rw [e]
    exact DN.z (K := 23) (N := 10) (ZR.z.sm (((SM.rf.r (by omega)).r (by omega)).i (by omega))) k2 (by decide)
theorem c_Fl {l : Launch} {G : fr_G} {σ : fr_S} {a : Nat} (k0 : kd a = (6, 0)) (k1 : kd (a + 1) = (20, 10)) (hz : ZR σ a) : PX l G yy_Fl_init ri_Fl (QR G true (a + 1 + 1) 1 10 (Pst σ a 1)) true (a + 1) 0 0 0 [(0, .ref a)] [] σ := by
  refine px_aload_n dx_Fl_init_0 rfl ?_
  refine px_objI dx_Fl_init_1 (al_in 212 (by decide +kernel) rfl) ⟨Nat.le_of_ble_eq_true rfl, Nat.le_of_ble_eq_true rfl⟩ ?_
  refine px_aload_n dx_Fl_init_4 rfl ?_
  refine px_bipush (v := nI 10) dx_Fl_init_5 (by decide) ?_
  refine px_newaI (N := 10) rfl dx_Fl_init_7 k1 (by decide) (Nat.le_of_ble_eq_true rfl) (Nat.le_of_ble_eq_true rfl) ?_
  refine px_putR dx_Fl_init_9 fl_Fl_9 (fun _ => ⟨rfl, _, _, ck_Fl, rfl, al_in 213 (by decide +kernel) rfl, rfl, rfl⟩) k0 (by omega) rfl ?_
  refine px_aload_n dx_Fl_init_12 rfl ?_
  refine px_iconst (v := 0) dx_Fl_init_13 (by decide) ?_
  refine px_putZ dx_Fl_init_14 fl_Fl_15 k0 (by omega) rfl (Or.inl rfl) ?_
  refine px_vret dx_Fl_init_17 rfl ?_
  refine ⟨rfl, fun o ho => (((SM.rf.z (by omega)).r (by omega)).i (by omega)), fun o h1 h2 => ?_⟩
  rcases (show o = a ∨ o = a + 1 by omega) with e | e
  · rw [e]
    unfold DN
    rw [k0]
    obtain ⟨z1, z2, z3, z4⟩ := hz
    simp only [gI] at z1
    simp only [gL] at z2
    simp only [gD] at z3
    simp only [gR] at z4
    refine ⟨fun k w => ?_, fun k => ?_, fun k => ?_, fun k => ?_⟩
    · first | exact absurd rfl w | simp [gI, gL, gD, gR, sI, sL, sD, sR, sZ, u_2, fIk, z1]
    · simp [gI, gL, gD, gR, sI, sL, sD, sR, sZ, u_2, z2]
    · simp [gI, gL, gD, gR, sI, sL, sD, sR, sZ, u_2, z3]
    · simp [gI, gL, gD, gR, sI, sL, sD, sR, sZ, u_2, fRk, z4, Nat.add_assoc]
  · rw [e]
    exact DN.z (K := 20) (N := 10) (ZR.z.sm ((SM.rf.r (by omega)).i (by omega))) k1 (by decide)
theorem c_St {l : Launch} {G : fr_G} {σ : fr_S} {a : Nat} (k0 : kd a = (8, 0)) (k1 : kd (a + 1) = (20, 10)) (hz : ZR σ a) : PX l G yy_St_init ri_St (QR G true (a + 1 + 1) 1 10 (Pst σ a 1)) true (a + 1) 0 0 0 [(0, .ref a)] [] σ := by
  refine px_aload_n dx_St_init_0 rfl ?_
  refine px_objI dx_St_init_1 (al_in 231 (by decide +kernel) rfl) ⟨Nat.le_of_ble_eq_true rfl, Nat.le_of_ble_eq_true rfl⟩ ?_
  refine px_aload_n dx_St_init_4 rfl ?_
  refine px_iconst (v := 0) dx_St_init_5 (by decide) ?_
  refine px_putZ dx_St_init_6 fl_St_9 k0 (by omega) rfl (Or.inl rfl) ?_
  refine px_aload_n dx_St_init_9 rfl ?_
  refine px_bipush (v := nI 10) dx_St_init_10 (by decide) ?_
  refine px_newaI (N := 10) rfl dx_St_init_12 k1 (by decide) (Nat.le_of_ble_eq_true rfl) (Nat.le_of_ble_eq_true rfl) ?_
  refine px_putR dx_St_init_14 fl_St_15 (fun _ => ⟨rfl, _, _, ck_St, rfl, al_in 235 (by decide +kernel) rfl, rfl, rfl⟩) k0 (by omega) rfl ?_
  refine px_aload_n dx_St_init_17 rfl ?_
  refine px_iconst (v := 0) dx_St_init_18 (by decide) ?_
  refine px_putI dx_St_init_19 fl_St_19 k0 (by omega) rfl ?_
  refine px_aload_n dx_St_init_22 rfl ?_
  refine px_iconst (v := 0) dx_St_init_23 (by decide) ?_
  refine px_putI dx_St_init_24 fl_St_23 k0 (by omega) rfl ?_
  refine px_aload_n dx_St_init_27 rfl ?_
  refine px_iconst (v := 0) dx_St_init_28 (by decide) ?_
  refine px_putI dx_St_init_29 fl_St_26 k0 (by omega) rfl ?_
  refine px_aload_n dx_St_init_32 rfl ?_
  refine px_iconst (v := 0) dx_St_init_33 (by decide) ?_
  refine px_putZ dx_St_init_34 fl_St_29 k0 (by omega) rfl (Or.inl rfl) ?_
  refine px_aload_n dx_St_init_37 rfl ?_
  refine px_iconst (v := (-1)) dx_St_init_38 (by decide) ?_
  refine px_putI dx_St_init_39 fl_St_32 k0 (by omega) rfl ?_
  refine px_aload_n dx_St_init_42 rfl ?_
  refine px_iconst (v := 0) dx_St_init_43 (by decide) ?_
  refine px_putI dx_St_init_44 fl_St_35 k0 (by omega) rfl ?_
  refine px_aload_n dx_St_init_47 rfl ?_
  refine px_iconst (v := 0) dx_St_init_48 (by decide) ?_
  refine px_putI dx_St_init_49 fl_St_38 k0 (by omega) rfl ?_
  refine px_aload_n dx_St_init_52 rfl ?_
  refine px_iconst (v := 0) dx_St_init_53 (by decide) ?_
  refine px_putI dx_St_init_54 fl_St_41 k0 (by omega) rfl ?_
  refine px_aload_n dx_St_init_57 rfl ?_
  refine px_iconst (v := 0) dx_St_init_58 (by decide) ?_
  refine px_putI dx_St_init_59 fl_St_44 k0 (by omega) rfl ?_
  refine px_aload_n dx_St_init_62 rfl ?_
  refine px_iconst (v := (-1)) dx_St_init_63 (by decide) ?_
  refine px_putI dx_St_init_64 fl_St_47 k0 (by omega) rfl ?_
  refine px_aload_n dx_St_init_67 rfl ?_
  refine px_iconst (v := 0) dx_St_init_68 (by decide) ?_
  refine px_putI dx_St_init_69 fl_St_50 k0 (by omega) rfl ?_
  refine px_aload_n dx_St_init_72 rfl ?_
  refine px_iconst (v := 0) dx_St_init_73 (by decide) ?_
  refine px_putI dx_St_init_74 fl_St_53 k0 (by omega) rfl ?_
  refine px_aload_n dx_St_init_77 rfl ?_
  refine px_iconst (v := 0) dx_St_init_78 (by decide) ?_
  refine px_putI dx_St_init_79 fl_St_56 k0 (by omega) rfl ?_
  refine px_vret dx_St_init_82 rfl ?_
  refine ⟨rfl, fun o ho => ((((((((((((((((SM.rf.i (by omega)).z (by omega)).r (by omega)).i (by omega)).i (by omega)).i (by omega)).i (by omega)).i (by omega)).i (by omega)).i (by omega)).i (by omega)).i (by omega)).i (by omega)).i (by omega)).i (by omega)).i (by omega)), fun o h1 h2 => ?_⟩
  rcases (show o = a ∨ o = a + 1 by omega) with e | e
  · rw [e]
    unfold DN
    rw [k0]
    obtain ⟨z1, z2, z3, z4⟩ := hz
    simp only [gI] at z1
    simp only [gL] at z2
    simp only [gD] at z3
    simp only [gR] at z4
    refine ⟨fun k w => ?_, fun k => ?_, fun k => ?_, fun k => ?_⟩
    · first | exact absurd rfl w | simp [gI, gL, gD, gR, sI, sL, sD, sR, sZ, u_2, fIk, z1]
    · simp [gI, gL, gD, gR, sI, sL, sD, sR, sZ, u_2, z2]
    · simp [gI, gL, gD, gR, sI, sL, sD, sR, sZ, u_2, z3]
    · simp [gI, gL, gD, gR, sI, sL, sD, sR, sZ, u_2, fRk, z4, Nat.add_assoc]
  · rw [e]
    exact DN.z (K := 20) (N := 10) (ZR.z.sm ((((((((((((((SM.rf.r (by omega)).i (by omega)).i (by omega)).i (by omega)).i (by omega)).i (by omega)).i (by omega)).i (by omega)).i (by omega)).i (by omega)).i (by omega)).i (by omega)).i (by omega)).i (by omega))) k1 (by decide)
