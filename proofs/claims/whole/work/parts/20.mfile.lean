/-! the reference: a file is read -/
theorem sI_id {σ : fr_S} {o k : Nat} {v : Int32} (h : gI σ o k = v) : sI σ o k v = σ := by
  have e : u_2 σ.1 o k v = σ.1 := by
    funext a b
    unfold u_2
    split
    · rename_i c
      rw [c.1, c.2]
      exact h.symm
    · rfl
  unfold sI
  rw [e]
/-- where the reading is, and whether the file is ill there -/
abbrev PS := Nat × Bool
/-- the next byte, which has to be lo .. hi; d where it isn't -/
def nx (b : Nat → Nat) (n lo hi d : Nat) (s : PS) : Nat × PS := if s.2 = true then (d, s) else if s.1 < n ∧ lo ≤ b s.1 ∧ b s.1 ≤ hi then (b s.1, (s.1 + 1, false)) else (d, (s.1, true))
theorem nx_le {b : Nat → Nat} {n lo hi d : Nat} {s : PS} (hd : d ≤ hi) : (nx b n lo hi d s).1 ≤ hi := by
  unfold nx
  repeat' split
  all_goals dsimp only
  all_goals omega
theorem nx_p {b : Nat → Nat} {n lo hi d : Nat} {s : PS} (hs : s.1 ≤ n) : (nx b n lo hi d s).2.1 ≤ n := by
  unfold nx
  repeat' split
  all_goals dsimp only
  all_goals omega
theorem nx_g {b : Nat → Nat} {n lo hi d : Nat} {s : PS} (h : (nx b n lo hi d s).2.2 = false) : s.2 = false ∧ (nx b n lo hi d s).2.1 = s.1 + 1 ∧ (nx b n lo hi d s).1 = b s.1 ∧ s.1 < n ∧ lo ≤ b s.1 ∧ b s.1 ≤ hi := by
  unfold nx at h ⊢
  split at h
  · rename_i c
    rw [c] at h
    cases h
  · rename_i c
    split at h
    · rename_i c2
      rw [if_neg c, if_pos c2]
      exact ⟨by simpa using c, rfl, rfl, c2.1, c2.2.1, c2.2.2⟩
    · cases h
def MB (σ : fr_S) (b : Nat → Nat) (n : Nat) : Prop := gI σ 717 1 = nI n ∧ n ≤ 220 ∧ (∀ k, k < 220 → gI σ 718 k = nI (b k)) ∧ ∀ k, b k < 256
def MPs (σ : fr_S) (s : PS) : Prop := gI σ 717 3 = nI s.1 ∧ gI σ 717 5 = b2i s.2
def uf (F : Nat → Nat → Nat) (a k v : Nat) : Nat → Nat → Nat := fun x y => if x = a ∧ y = k then v else F x y
def fsz : Nat → Nat
  | 0 => 2 | 1 => 2 | 2 => 8 | 3 => 8 | 4 => 24 | 5 => 8 | 6 => 8 | _ => 320
def bnd : Nat → Nat
  | 0 => 4 | 1 => 4 | 2 => 4 | 3 => 3 | 4 => 4 | 5 => 10 | 6 => 40 | _ => 65535
/-- the file's cells, those of the file that is read with them -/
def MF8 (σ : fr_S) (F : Nat → Nat → Nat) : Prop := ∀ a k, a < 8 → k < fsz a → gI σ (719 + a) k = nI (F a k)
def FW8 (F : Nat → Nat → Nat) : Prop := ∀ a k, F a k ≤ bnd a
theorem FW8.fw {F : Nat → Nat → Nat} (h : FW8 F) : FW F := ⟨h 0 0, h 1 0, h 2, h 3, h 4, h 5, h 6, fun j => Nat.lt_succ_of_le (h 7 j)⟩
theorem MF8.mf {σ : fr_S} {F : Nat → Nat → Nat} (h : MF8 σ F) : MF σ F := ⟨h 0 0 (by decide) (by decide), h 1 0 (by decide) (by decide), fun m hm => h 2 m (by decide) (Nat.lt_trans hm (by decide)), fun m hm => h 3 m (by decide) (Nat.lt_trans hm (by decide)), fun m hm => h 4 m (by decide) (Nat.lt_trans hm (by decide)), fun m hm => h 5 m (by decide) (Nat.lt_trans hm (by decide)), fun m hm => h 6 m (by decide) (Nat.lt_trans hm (by decide)), fun m hm => h 7 m (by decide) hm⟩
theorem MF8.w {σ : fr_S} {F : Nat → Nat → Nat} (h : MF8 σ F) {a k v : Nat} : MF8 (sI σ (719 + a) k (nI v)) (uf F a k v) := by
  intro x y hx hy
  unfold uf
  by_cases e : x = a ∧ y = k
  · obtain ⟨e1, e2⟩ := e
    subst e1
    subst e2
    rw [if_pos ⟨rfl, rfl⟩, gI_s]
  · rw [if_neg e, gI_n (by omega)]
    exact h x y hx hy
theorem MF8.o {σ σ' : fr_S} {F : Nat → Nat → Nat} (h : MF8 σ F) {S : List Nat} (a : Ag S σ σ') (hs : ∀ o, 719 ≤ o → o ≤ 726 → o ∉ S) : MF8 σ' F := fun x y hx hy => by
  rw [a.1 (719 + x) (hs _ (by omega) (by omega))]
  exact h x y hx hy
theorem FW8.w {F : Nat → Nat → Nat} (h : FW8 F) {a k v : Nat} (hv : v ≤ bnd a) : FW8 (uf F a k v) := by
  intro x y
  unfold uf
  split
  · rename_i c
    rw [c.1]
    exact hv
  · exact h x y
theorem uf_s {F : Nat → Nat → Nat} {a k v : Nat} : uf F a k v a k = v := by simp [uf]
theorem uf_n {F : Nat → Nat → Nat} {a k v x y : Nat} (h : x ≠ a ∨ y ≠ k) : uf F a k v x y = F x y := by
  unfold uf
  rw [if_neg (by omega)]
def fL : List Nat := [717, 719, 720, 721, 722, 723, 724, 725, 726]
/-- while a file is read -/
def RD (σ0 σ : fr_S) (b : Nat → Nat) (n : Nat) (F : Nat → Nat → Nat) (s : PS) : Prop := MR σ ∧ MB σ b n ∧ (s.1 ≤ 220 ∧ MPs σ s) ∧ MF8 σ F ∧ FW8 F ∧ Ag fL σ0 σ ∧ ∀ k, k ≠ 3 → k ≠ 5 → gI σ 717 k = gI σ0 717 k
theorem RD.w {σ0 σ : fr_S} {b : Nat → Nat} {n : Nat} {F : Nat → Nat → Nat} {s : PS} (h : RD σ0 σ b n F s) {a k v : Nat} (ha : a < 8) (hv : v ≤ bnd a) : RD σ0 (sI σ (719 + a) k (nI v)) b n (uf F a k v) s := by
  obtain ⟨h1, h2, h3, h4, h5, h6, h7⟩ := h
  have e : ∀ o j, (o = 717 ∨ o = 718) → gI (sI σ (719 + a) k (nI v)) o j = gI σ o j := fun o j ho => gI_n (Or.inl (by omega))
  refine ⟨h1, ⟨(e _ _ (Or.inl rfl)).trans h2.1, h2.2.1, fun j hj => (e _ _ (Or.inr rfl)).trans (h2.2.2.1 j hj), h2.2.2.2⟩, ⟨h3.1, (e _ _ (Or.inl rfl)).trans h3.2.1, (e _ _ (Or.inl rfl)).trans h3.2.2⟩, h4.w, h5.w hv, ag_sI h6 ?_, fun j hj hl => (e _ _ (Or.inl rfl)).trans (h7 j hj hl)⟩
  have : a = 0 ∨ a = 1 ∨ a = 2 ∨ a = 3 ∨ a = 4 ∨ a = 5 ∨ a = 6 ∨ a = 7 := by omega
  rcases this with rfl | rfl | rfl | rfl | rfl | rfl | rfl | rfl <;> decide
/-- the place, or whether the file is ill, is set -/
theorem RD.s {σ0 σ : fr_S} {b : Nat → Nat} {n : Nat} {F : Nat → Nat → Nat} {s : PS} (h : RD σ0 σ b n F s) {s' : PS} (hs : s'.1 ≤ 220) {k : Nat} {v : Int32} (hk : (k = 3 ∧ v = nI s'.1 ∧ s'.2 = s.2) ∨ (k = 5 ∧ v = b2i s'.2 ∧ s'.1 = s.1)) : RD σ0 (sI σ 717 k v) b n F s' := by
  obtain ⟨h1, h2, h3, h4, h5, h6, h7⟩ := h
  refine ⟨h1, ⟨(gI_n (Or.inr (by omega))).trans h2.1, h2.2.1, fun j hj => (gI_n (Or.inl (by decide))).trans (h2.2.2.1 j hj), h2.2.2.2⟩, ⟨hs, ?_, ?_⟩, h4.o (S := [717]) (ag_sI Ag.rf (by decide)) (fun o _ _ => by simp; omega), h5, ag_sI h6 (by decide), fun j hj hl => (gI_n (Or.inr (by omega))).trans (h7 j hj hl)⟩
  · rcases hk with ⟨rfl, rfl, e⟩ | ⟨rfl, rfl, e⟩
    · exact gI_s
    · rw [gI_n (Or.inr (by decide)), e]
      exact h3.2.1
  · rcases hk with ⟨rfl, rfl, e⟩ | ⟨rfl, rfl, e⟩
    · rw [gI_n (Or.inr (by decide)), e]
      exact h3.2.2
    · exact gI_s
theorem RD.rd {σ0 σ : fr_S} {b : Nat → Nat} {n : Nat} {F : Nat → Nat → Nat} {s : PS} (h : RD σ0 σ b n F s) {τ : fr_S} {F' : Nat → Nat → Nat} {s' : PS} (h2 : RD σ τ b n F' s') : RD σ0 τ b n F' s' := by
  obtain ⟨h1, h2, h3, h4, h5, h6, h7⟩ := h2
  exact ⟨h1, h2, h3, h4, h5, h.2.2.2.2.2.1.tr h6, fun k hk hl => (h7 k hk hl).trans (h.2.2.2.2.2.2 k hk hl)⟩

set_option maxRecDepth 100000 in
set_option maxHeartbeats 1000000 in
theorem m_next {l : Launch} {G : fr_G} {σ : fr_S} {σ0 : fr_S} {b : Nat → Nat} {n : Nat} {F : Nat → Nat → Nat} {s : PS} {lo hi : Nat} (hR : RD σ0 σ b n F s) (hl : lo < 256) (hh : hi < 256) : CR l G yy_Mo_next rm_Mo_next [.ref (717), .int (nI (lo)), .int (nI (hi))] σ (fun r0 σ' => r0 = some (.int (nI (nx b n lo hi 0 s).1)) ∧ RD σ0 σ' b n F (nx b n lo hi 0 s).2) := by
  intro Post hp0
  show PX l G yy_Mo_next rm_Mo_next _ false 742 0 0 0 [(0, .ref (717)), (1, .int (nI (lo))), (2, .int (nI (hi)))] [] σ
  have hn := hR.2.1.2.1
  have hsn := hR.2.2.1.1
  refine px_aload_n dx_Mo_next_0 rfl ?_
  refine px_getI dx_Mo_next_1 fl_Mo_92 rfl (by decide) rfl ?_
  refine px_eqi (y := b2i (s.2)) hR.2.2.1.2.2 ?_
  refine px_if_eqB dx_Mo_next_4 (fun c_4 => ?_) (fun c_4 => ?_)
  · refine px_aload_n dx_Mo_next_9 rfl ?_
    refine px_getI dx_Mo_next_10 fl_Mo_96 rfl (by decide) rfl ?_
    refine px_eqi (y := nI (s.1)) hR.2.2.1.2.1 ?_
    refine px_aload_n dx_Mo_next_13 rfl ?_
    refine px_getI dx_Mo_next_14 fl_Mo_89 rfl (by decide) rfl ?_
    refine px_eqi (y := nI (n)) hR.2.1.1 ?_
    refine px_icmp_geN (a := s.1) (b := n) dx_Mo_next_17 (by first | omega | exact Nat.lt_trans (hR.2.1.2.2.2 _) (by decide)) (by first | omega | exact Nat.lt_trans (hR.2.1.2.2.2 _) (by decide)) (fun c_17 => ?_) (fun c_17 => ?_)
    · refine px_aload_n dx_Mo_next_46 rfl ?_
      refine px_iconst (v := 1) dx_Mo_next_47 rfl ?_
      refine px_putZ dx_Mo_next_48 fl_Mo_92 rfl (by decide) rfl (by decide) ?_
      refine px_iconst (v := 0) dx_Mo_next_51 rfl ?_
      exact px_iret dx_Mo_next_52 rfl (by (have e : nx b n lo hi 0 s = (0, (s.1, true)) := by unfold nx; rw [if_neg (by rw [c_4]; decide), if_neg (by omega)]); exact hp0 _ _ ⟨by (rw [e]; try rfl), by rw [e]; exact hR.s (s' := (s.1, true)) hR.2.2.1.1 (Or.inr ⟨rfl, rfl, rfl⟩)⟩)
    · refine px_aload_n dx_Mo_next_20 rfl ?_
      refine px_getR (r := 718) dx_Mo_next_21 fl_Mo_7 rfl (by decide) rfl (hR.1 2) ?_
      refine px_aload_n dx_Mo_next_24 rfl ?_
      refine px_getI dx_Mo_next_25 fl_Mo_96 rfl (by decide) rfl ?_
      refine px_eqi (y := nI (s.1)) hR.2.2.1.2.1 ?_
      refine px_ialdN (j := s.1) dx_Mo_next_28 rfl (by decide) (by omega) ?_
      refine px_eqi (y := nI (b (s.1))) (hR.2.1.2.2.1 s.1 (by omega)) ?_
      refine px_iload_n dx_Mo_next_29 rfl ?_
      refine px_icmp_ltN (a := b (s.1)) (b := lo) dx_Mo_next_30 (by first | omega | exact Nat.lt_trans (hR.2.1.2.2.2 _) (by decide)) (by first | omega | exact Nat.lt_trans (hR.2.1.2.2.2 _) (by decide)) (fun c_30 => ?_) (fun c_30 => ?_)
      · refine px_aload_n dx_Mo_next_46 rfl ?_
        refine px_iconst (v := 1) dx_Mo_next_47 rfl ?_
        refine px_putZ dx_Mo_next_48 fl_Mo_92 rfl (by decide) rfl (by decide) ?_
        refine px_iconst (v := 0) dx_Mo_next_51 rfl ?_
        exact px_iret dx_Mo_next_52 rfl (by (have e : nx b n lo hi 0 s = (0, (s.1, true)) := by unfold nx; rw [if_neg (by rw [c_4]; decide), if_neg (by omega)]); exact hp0 _ _ ⟨by (rw [e]; try rfl), by rw [e]; exact hR.s (s' := (s.1, true)) hR.2.2.1.1 (Or.inr ⟨rfl, rfl, rfl⟩)⟩)
      · refine px_aload_n dx_Mo_next_33 rfl ?_
        refine px_getR (r := 718) dx_Mo_next_34 fl_Mo_7 rfl (by decide) rfl (hR.1 2) ?_
        refine px_aload_n dx_Mo_next_37 rfl ?_
        refine px_getI dx_Mo_next_38 fl_Mo_96 rfl (by decide) rfl ?_
        refine px_eqi (y := nI (s.1)) hR.2.2.1.2.1 ?_
        refine px_ialdN (j := s.1) dx_Mo_next_41 rfl (by decide) (by omega) ?_
        refine px_eqi (y := nI (b (s.1))) (hR.2.1.2.2.1 s.1 (by omega)) ?_
        refine px_iload_n dx_Mo_next_42 rfl ?_
        refine px_icmp_leN (a := b (s.1)) (b := hi) dx_Mo_next_43 (by first | omega | exact Nat.lt_trans (hR.2.1.2.2.2 _) (by decide)) (by first | omega | exact Nat.lt_trans (hR.2.1.2.2.2 _) (by decide)) (fun c_43 => ?_) (fun c_43 => ?_)
        · refine px_aload_n dx_Mo_next_53 rfl ?_
          refine px_dup dx_Mo_next_54 rfl ?_
          refine px_getI dx_Mo_next_55 fl_Mo_96 rfl (by decide) rfl ?_
          refine px_eqi (y := nI (s.1)) hR.2.2.1.2.1 ?_
          refine px_iconst (v := 1) dx_Mo_next_58 rfl ?_
          refine px_iaddN (a := s.1) (b := 1) dx_Mo_next_59 ?_
          refine px_putI dx_Mo_next_60 fl_Mo_96 rfl (by decide) rfl ?_
          refine px_aload_n dx_Mo_next_63 rfl ?_
          refine px_getR (r := 718) dx_Mo_next_64 fl_Mo_7 rfl (by decide) rfl (hR.1 2) ?_
          refine px_aload_n dx_Mo_next_67 rfl ?_
          refine px_getI dx_Mo_next_68 fl_Mo_96 rfl (by decide) rfl ?_
          refine px_eqi (y := nI (s.1 + 1)) (gI_s.trans rfl) ?_
          refine px_iconst (v := 1) dx_Mo_next_71 rfl ?_
          refine px_isubN (a := s.1 + 1) (b := 1) dx_Mo_next_72 (by omega) ?_
          refine px_ialdN (j := (s.1 + 1) - 1) dx_Mo_next_73 rfl (by decide) (by omega) ?_
          refine px_eqi (y := nI (b (s.1))) (hR.2.1.2.2.1 s.1 (by omega)) ?_
          exact px_iret dx_Mo_next_74 rfl (by (have e : nx b n lo hi 0 s = (b s.1, (s.1 + 1, false)) := by unfold nx; rw [if_neg (by rw [c_4]; decide), if_pos (by omega)]); exact hp0 _ _ ⟨by (rw [e]; try rfl), by rw [e]; exact hR.s (s' := (s.1 + 1, false)) (by show s.1 + 1 ≤ 220; omega) (Or.inl ⟨rfl, rfl, c_4.symm⟩)⟩)
        · refine px_aload_n dx_Mo_next_46 rfl ?_
          refine px_iconst (v := 1) dx_Mo_next_47 rfl ?_
          refine px_putZ dx_Mo_next_48 fl_Mo_92 rfl (by decide) rfl (by decide) ?_
          refine px_iconst (v := 0) dx_Mo_next_51 rfl ?_
          exact px_iret dx_Mo_next_52 rfl (by (have e : nx b n lo hi 0 s = (0, (s.1, true)) := by unfold nx; rw [if_neg (by rw [c_4]; decide), if_neg (by omega)]); exact hp0 _ _ ⟨by (rw [e]; try rfl), by rw [e]; exact hR.s (s' := (s.1, true)) hR.2.2.1.1 (Or.inr ⟨rfl, rfl, rfl⟩)⟩)
  · refine px_iconst (v := 0) dx_Mo_next_7 rfl ?_
    exact px_iret dx_Mo_next_8 rfl (by (have e : nx b n lo hi 0 s = (0, s) := by unfold nx; rw [if_pos c_4]); exact hp0 _ _ ⟨by (rw [e]; try rfl), by rw [e]; exact hR⟩)
theorem m_nextx {l : Launch} {G : fr_G} {σ : fr_S} {σ0 : fr_S} {b : Nat → Nat} {n : Nat} {F : Nat → Nat → Nat} {s : PS} {lo hi : Nat} (hR : RD σ0 σ b n F s) (hl : lo < 256) (hh : hi < 256) {x : Nat × PS} (hx : x = nx b n lo hi 0 s) : CR l G yy_Mo_next rm_Mo_next [.ref 717, .int (nI lo), .int (nI hi)] σ (fun r0 σ' => r0 = some (.int (nI x.1)) ∧ RD σ0 σ' b n F x.2) := hx ▸ m_next hR hl hh
/-- the types of k parameters are read -/
def rdP (b : Nat → Nat) (n m : Nat) (dl : Bool) : Nat → (Nat → Nat → Nat) × PS → (Nat → Nat → Nat) × PS
  | 0, q => q
  | k + 1, q => (uf (rdP b n m dl k q).1 4 (3 * m + k) (nx b n 1 4 (if dl = true then 1 else 0) (rdP b n m dl k q).2).1, (nx b n 1 4 (if dl = true then 1 else 0) (rdP b n m dl k q).2).2)
/-- k units are read -/
def rdU (b : Nat → Nat) (n m : Nat) : Nat → (Nat → Nat → Nat) × PS → (Nat → Nat → Nat) × PS
  | 0, q => q
  | k + 1, q => (uf (rdU b n m k q).1 7 (40 * m + k) ((nx b n 0 255 0 (rdU b n m k q).2).1 + 256 * (nx b n 0 255 0 (nx b n 0 255 0 (rdU b n m k q).2).2).1), (nx b n 0 255 0 (nx b n 0 255 0 (rdU b n m k q).2).2).2)

theorem rdP_o {b : Nat → Nat} {n m : Nat} {dl : Bool} {q : (Nat → Nat → Nat) × PS} {a y : Nat} (h : a ≠ 4) : ∀ k, (rdP b n m dl k q).1 a y = q.1 a y
  | 0 => rfl
  | k + 1 => by
    show uf _ _ _ _ a y = _
    rw [uf_n (Or.inl h)]
    exact rdP_o h k
theorem rdU_o {b : Nat → Nat} {n m : Nat} {q : (Nat → Nat → Nat) × PS} {a y : Nat} (h : a ≠ 7) : ∀ k, (rdU b n m k q).1 a y = q.1 a y
  | 0 => rfl
  | k + 1 => by
    show uf _ _ _ _ a y = _
    rw [uf_n (Or.inl h)]
    exact rdU_o h k
/-- the number of units, and where the reading is then -/
def rdN (b : Nat → Nat) (n : Nat) (s : PS) : Nat × PS :=
  if 127 < (nx b n 0 255 0 s).1 then ((nx b n 0 255 0 s).1 % 128 + 128 * (nx b n 0 127 0 (nx b n 0 255 0 s).2).1, (nx b n 0 127 0 (nx b n 0 255 0 s).2).2) else ((nx b n 0 255 0 s).1 % 128, (nx b n 0 255 0 s).2)
def rdS (u : Nat × PS) : PS := if u.2.2 = false ∧ (u.1 < 1 ∨ 40 < u.1) then (u.2.1 - 1, true) else u.2
def rdT (b : Nat → Nat) (n m : Nat) (q : (Nat → Nat → Nat) × PS) : (Nat → Nat → Nat) × PS :=
  if (rdS (rdN b n (nx b n (pwF q.1 m) 10 0 q.2).2)).2 = true then (uf q.1 5 m (nx b n (pwF q.1 m) 10 0 q.2).1, rdS (rdN b n (nx b n (pwF q.1 m) 10 0 q.2).2))
  else rdU b n m (rdN b n (nx b n (pwF q.1 m) 10 0 q.2).2).1 (uf (uf q.1 5 m (nx b n (pwF q.1 m) 10 0 q.2).1) 6 m (rdN b n (nx b n (pwF q.1 m) 10 0 q.2).2).1, rdS (rdN b n (nx b n (pwF q.1 m) 10 0 q.2).2))
/-- a method is read -/
def rdM (b : Nat → Nat) (n m : Nat) (F : Nat → Nat → Nat) (s : PS) : (Nat → Nat → Nat) × PS :=
  rdT b n m (rdP b n m false (nx b n 0 3 0 (nx b n 0 4 0 s).2).1 (uf (uf F 2 m (nx b n 0 4 0 s).1) 3 m (nx b n 0 3 0 (nx b n 0 4 0 s).2).1, (nx b n 0 3 0 (nx b n 0 4 0 s).2).2))

set_option maxRecDepth 100000 in
set_option maxHeartbeats 1000000 in
theorem m_rdU {l : Launch} {G : fr_G} {σ : fr_S} {σ0 : fr_S} {b : Nat → Nat} {n m : Nat} {F : Nat → Nat → Nat} {s : PS} (hm : m < 8) {c : Nat} (hc : c ≤ 40) {Post : Option Value → fr_S → Prop} (hq : ∀ σ', RD σ0 σ' b n (rdU b n m c (F, s)).1 (rdU b n m c (F, s)).2 → Post none σ') : ∀ (d : Nat) (j : Nat) (σ1 : fr_S) (F1 : Nat → Nat → Nat) (s1 : PS), c - j < d → j ≤ c → RD σ0 σ1 b n F1 s1 → rdU b n m j (F, s) = (F1, s1) → PX l G yy_Mo_readMethod rm_Mo_readMethod (QR G false 742 0 0 Post) false 742 0 0 160 [(0, .ref (717)), (1, .int (nI (m))), (3, .int (nI (c))), (4, .int (nI (j)))] [] (σ1) := by
  intro d
  induction d with
  | zero => intro j σ1 F1 s1 hd; exact absurd hd (Nat.not_lt_zero _)
  | succ d ih =>
    intro j σ1 F1 s1 hd hj hR hE
    have h3b := hR.2.2.2.2.1 3 m
    have e3b : bnd 3 = 3 := rfl
    have hnb := hR.2.1.2.1
    refine px_iload dx_Mo_readMethod_160 rfl ?_
    refine px_iload_n dx_Mo_readMethod_162 rfl ?_
    refine px_icmp_geN (a := j) (b := c) dx_Mo_readMethod_163 (by omega) (by omega) (fun c_163 => ?_) (fun c_163 => ?_)
    · exact px_vret dx_Mo_readMethod_209 rfl (by (obtain rfl : j = c := by omega); exact hq σ1 (by rw [hE]; exact hR))
    · refine px_aload_n dx_Mo_readMethod_166 rfl ?_
      refine px_iconst (v := 0) dx_Mo_readMethod_167 rfl ?_
      refine px_sipush (v := 255) dx_Mo_readMethod_168 rfl ?_
      obtain ⟨x_171, hx_171⟩ : ∃ x, x = nx b n (0) (255) 0 s1 := ⟨_, rfl⟩
      have hb_171 : x_171.1 ≤ 255 := hx_171 ▸ nx_le (Nat.zero_le _)
      refine px_cVR (Y := yy_Mo_readMethod) (Yc := yy_Mo_next) (b := 717) (As := [.int (0), .int (255)]) dx_Mo_readMethod_171 ml_Mo_103 mv_Mo_next np_Mo_next ⟨_, rfl⟩ (by decide) rfl (by decide) rfl (Nat.le_of_ble_eq_true rfl) (Nat.le_of_ble_eq_true rfl) rk_Mo_readMethod_Mo_next rfl (m_nextx (lo := 0) (hi := 255) hR (by decide) (by decide) hx_171) zz_0 (fun r_171 τ_171 h_171 => ?_)
      obtain ⟨rfl, hR⟩ := h_171
      refine px_istore (lv' := [(5, .int (nI (x_171.1))), (0, .ref (717)), (1, .int (nI (m))), (3, .int (nI (c))), (4, .int (nI (j)))]) dx_Mo_readMethod_174 (by decide) rfl ?_
      refine px_aload_n dx_Mo_readMethod_176 rfl ?_
      refine px_getR (r := 726) dx_Mo_readMethod_177 fl_Mo_38 rfl (by decide) rfl (hR.1 13) ?_
      refine px_bipush (v := 40) dx_Mo_readMethod_180 rfl ?_
      refine px_iload_n dx_Mo_readMethod_182 rfl ?_
      refine px_imulN (a := 40) (b := m) dx_Mo_readMethod_183 ?_
      refine px_iload dx_Mo_readMethod_184 rfl ?_
      refine px_iaddN (a := 40 * m) (b := j) dx_Mo_readMethod_186 ?_
      refine px_iload dx_Mo_readMethod_187 rfl ?_
      refine px_sipush (v := 256) dx_Mo_readMethod_189 rfl ?_
      refine px_aload_n dx_Mo_readMethod_192 rfl ?_
      refine px_iconst (v := 0) dx_Mo_readMethod_193 rfl ?_
      refine px_sipush (v := 255) dx_Mo_readMethod_194 rfl ?_
      obtain ⟨x_197, hx_197⟩ : ∃ x, x = nx b n (0) (255) 0 x_171.2 := ⟨_, rfl⟩
      have hb_197 : x_197.1 ≤ 255 := hx_197 ▸ nx_le (Nat.zero_le _)
      refine px_cVR (Y := yy_Mo_readMethod) (Yc := yy_Mo_next) (b := 717) (As := [.int (0), .int (255)]) dx_Mo_readMethod_197 ml_Mo_103 mv_Mo_next np_Mo_next ⟨_, rfl⟩ (by decide) rfl (by decide) rfl (Nat.le_of_ble_eq_true rfl) (Nat.le_of_ble_eq_true rfl) rk_Mo_readMethod_Mo_next rfl (m_nextx (lo := 0) (hi := 255) hR (by decide) (by decide) hx_197) zz_0 (fun r_197 τ_197 h_197 => ?_)
      obtain ⟨rfl, hR⟩ := h_197
      refine px_imulN (a := 256) (b := x_197.1) dx_Mo_readMethod_200 ?_
      refine px_iaddN (a := x_171.1) (b := 256 * x_197.1) dx_Mo_readMethod_201 ?_
      refine px_iastN (j := (40 * m) + j) dx_Mo_readMethod_202 rfl (by decide) (by first | decide | omega) ?_
      obtain ⟨F_202, hF_202⟩ : ∃ X, X = uf F1 7 ((40 * m) + j) (x_171.1 + (256 * x_197.1)) := ⟨_, rfl⟩
      have hR := hF_202 ▸ RD.w hR (a := 7) (k := ((40 * m) + j)) (v := (x_171.1 + (256 * x_197.1))) (by decide) (by show _ ≤ 65535; omega)
      refine px_iinc (v := (nI (j + 1))) (lv' := [(4, .int (nI (j + 1))), (5, .int (nI (x_171.1))), (0, .ref (717)), (1, .int (nI (m))), (3, .int (nI (c)))]) dx_Mo_readMethod_203 rfl (nI_1 _) (by decide) rfl ?_
      refine px_goto dx_Mo_readMethod_206 ?_
      refine px_sub [2, 3, 4, 0] rfl ?_
      exact ih (j + 1) (sI τ_197 726 ((40 * m) + j) (nI (x_171.1 + (256 * x_197.1)))) F_202 x_197.2 (by omega) (by omega) hR (by simp only [rdU, hE, ← hx_171, ← hx_197, ← hF_202])
set_option maxRecDepth 100000 in
set_option maxHeartbeats 1000000 in
theorem m_rdP {l : Launch} {G : fr_G} {σ : fr_S} {σ0 : fr_S} {b : Nat → Nat} {n m : Nat} {F : Nat → Nat → Nat} {s : PS} (hm : m < 8) {QF : List Frame → Array Value → State → State → Prop} (hq : ∀ σ' F' s', rdP b n m false (F 3 m) (F, s) = (F', s') → RD σ0 σ' b n F' s' → PX l G yy_Mo_readMethod rm_Mo_readMethod QF false 742 0 0 58 [(0, .ref 717), (1, .int (nI m))] [] σ')  : ∀ (d : Nat) (j : Nat) (σ1 : fr_S) (F1 : Nat → Nat → Nat) (s1 : PS), F 3 m - j < d → j ≤ F 3 m → RD σ0 σ1 b n F1 s1 → rdP b n m false j (F, s) = (F1, s1) → PX l G yy_Mo_readMethod rm_Mo_readMethod QF false 742 0 0 26 [(0, .ref (717)), (1, .int (nI (m))), (2, .int (nI (j)))] [] (σ1) := by
  intro d
  induction d with
  | zero => intro j σ1 F1 s1 hd; exact absurd hd (Nat.not_lt_zero _)
  | succ d ih =>
    intro j σ1 F1 s1 hd hj hR hE
    have h3b := hR.2.2.2.2.1 3 m
    have e3b : bnd 3 = 3 := rfl
    have hnb := hR.2.1.2.1
    have h3 : F1 3 m = F 3 m := by (have e := rdP_o (b := b) (n := n) (m := m) (dl := false) (q := (F, s)) (a := 3) (y := m) (by decide) j; rw [hE] at e; exact e)
    refine px_iload_n dx_Mo_readMethod_26 rfl ?_
    refine px_aload_n dx_Mo_readMethod_27 rfl ?_
    refine px_getR (r := 722) dx_Mo_readMethod_28 fl_Mo_26 rfl (by decide) rfl (hR.1 9) ?_
    refine px_iload_n dx_Mo_readMethod_31 rfl ?_
    refine px_ialdN (j := m) dx_Mo_readMethod_32 rfl (by decide) (by first | decide | omega) ?_
    refine px_eqi (y := nI (F1 3 m)) (hR.2.2.2.1 3 m (by decide) (by first | decide | (show _ < 8; omega))) ?_
    refine px_icmp_geN (a := j) (b := F1 3 m) dx_Mo_readMethod_33 (by omega) (by omega) (fun c_33 => ?_) (fun c_33 => ?_)
    · refine px_sub [0, 1] rfl ?_
      obtain rfl : j = F 3 m := by omega
      exact hq σ1 F1 s1 hE hR
    · refine px_aload_n dx_Mo_readMethod_36 rfl ?_
      refine px_getR (r := 723) dx_Mo_readMethod_37 fl_Mo_29 rfl (by decide) rfl (hR.1 10) ?_
      refine px_iconst (v := 3) dx_Mo_readMethod_40 rfl ?_
      refine px_iload_n dx_Mo_readMethod_41 rfl ?_
      refine px_imulN (a := 3) (b := m) dx_Mo_readMethod_42 ?_
      refine px_iload_n dx_Mo_readMethod_43 rfl ?_
      refine px_iaddN (a := 3 * m) (b := j) dx_Mo_readMethod_44 ?_
      refine px_aload_n dx_Mo_readMethod_45 rfl ?_
      refine px_iconst (v := 1) dx_Mo_readMethod_46 rfl ?_
      refine px_iconst (v := 4) dx_Mo_readMethod_47 rfl ?_
      obtain ⟨x_48, hx_48⟩ : ∃ x, x = nx b n (1) (4) 0 s1 := ⟨_, rfl⟩
      have hb_48 : x_48.1 ≤ 4 := hx_48 ▸ nx_le (Nat.zero_le _)
      refine px_cVR (Y := yy_Mo_readMethod) (Yc := yy_Mo_next) (b := 717) (As := [.int (1), .int (4)]) dx_Mo_readMethod_48 ml_Mo_103 mv_Mo_next np_Mo_next ⟨_, rfl⟩ (by decide) rfl (by decide) rfl (Nat.le_of_ble_eq_true rfl) (Nat.le_of_ble_eq_true rfl) rk_Mo_readMethod_Mo_next rfl (m_nextx (lo := 1) (hi := 4) hR (by decide) (by decide) hx_48) zz_0 (fun r_48 τ_48 h_48 => ?_)
      obtain ⟨rfl, hR⟩ := h_48
      refine px_iastN (j := (3 * m) + j) dx_Mo_readMethod_51 rfl (by decide) (by first | decide | omega) ?_
      obtain ⟨F_51, hF_51⟩ : ∃ X, X = uf F1 4 ((3 * m) + j) (x_48.1) := ⟨_, rfl⟩
      have hR := hF_51 ▸ RD.w hR (a := 4) (k := ((3 * m) + j)) (v := (x_48.1)) (by decide) (by show _ ≤ 4; omega)
      refine px_iinc (v := (nI (j + 1))) (lv' := [(2, .int (nI (j + 1))), (0, .ref (717)), (1, .int (nI (m)))]) dx_Mo_readMethod_52 rfl (nI_1 _) (by decide) rfl ?_
      refine px_goto dx_Mo_readMethod_55 ?_
      refine px_sub [1, 2, 0] rfl ?_
      exact ih (j + 1) (sI τ_48 723 ((3 * m) + j) (nI (x_48.1))) F_51 x_48.2 (by omega) (by omega) hR (by simp only [rdP, hE, Bool.false_eq_true, if_false, ← hx_48, ← hF_51])
theorem rdT_ill {b : Nat → Nat} {n m : Nat} {q : (Nat → Nat → Nat) × PS} {x u : Nat × PS} {F' : Nat → Nat → Nat} (hx : x = nx b n (pwF q.1 m) 10 0 q.2) (hF : F' = uf q.1 5 m x.1) (hu : rdN b n x.2 = u) (h : (rdS u).2 = true) : rdT b n m q = (F', rdS u) := by
  unfold rdT
  rw [← hx, hu, if_pos h, hF]
theorem rdT_ok {b : Nat → Nat} {n m : Nat} {q : (Nat → Nat → Nat) × PS} {x u : Nat × PS} {F' F2 : Nat → Nat → Nat} (hx : x = nx b n (pwF q.1 m) 10 0 q.2) (hF : F' = uf q.1 5 m x.1) (hu : rdN b n x.2 = u) (h : (rdS u).2 = false) (h2 : F2 = uf F' 6 m u.1) : rdT b n m q = rdU b n m u.1 (F2, rdS u) := by
  unfold rdT
  rw [← hx, hu, if_neg (by rw [h]; exact Bool.false_ne_true), h2, hF]
theorem rdN_a {b : Nat → Nat} {n : Nat} {s : PS} {x : Nat × PS} (hx : x = nx b n 0 255 0 s) (h : x.1 ≤ 127) : rdN b n s = (x.1 % 128, x.2) := by
  unfold rdN
  rw [← hx, if_neg (by omega)]
theorem rdN_b {b : Nat → Nat} {n : Nat} {s : PS} {x y : Nat × PS} (hx : x = nx b n 0 255 0 s) (hy : y = nx b n 0 127 0 x.2) (h : 127 < x.1) : rdN b n s = (x.1 % 128 + 128 * y.1, y.2) := by
  unfold rdN
  rw [← hx, if_pos h, ← hy]
theorem rdS_i {a : Nat} {s : PS} (h : s.2 = true) : rdS (a, s) = s := by
  unfold rdS
  dsimp only
  rw [if_neg (by rw [h]; exact fun q => Bool.noConfusion q.1)]
theorem rdS_b {a : Nat} {s : PS} (h : s.2 = false) (h2 : a < 1 ∨ 40 < a) : rdS (a, s) = (s.1 - 1, true) := by
  unfold rdS
  dsimp only
  rw [if_pos ⟨h, h2⟩]
theorem rdS_g {a : Nat} {s : PS} (h2 : 1 ≤ a ∧ a ≤ 40) : rdS (a, s) = s := by
  unfold rdS
  dsimp only
  rw [if_neg (by omega)]

set_option maxRecDepth 100000 in
set_option maxHeartbeats 1000000 in
theorem m_readMethod_b {l : Launch} {G : fr_G} {σ0 σ : fr_S} {b : Nat → Nat} {n m : Nat} {F1 : Nat → Nat → Nat} {s1 : PS} (hm : m < 8) (hR : RD σ0 σ b n F1 s1) {Post : Option Value → fr_S → Prop} (hq : ∀ σ', RD σ0 σ' b n (rdT b n m (F1, s1)).1 (rdT b n m (F1, s1)).2 → Post none σ') : PX l G yy_Mo_readMethod rm_Mo_readMethod (QR G false 742 0 0 Post) false 742 0 0 58 [(0, .ref 717), (1, .int (nI m))] [] σ := by
  have h3b := hR.2.2.2.2.1 3 m
  have e3b : bnd 3 = 3 := rfl
  have hnb := hR.2.1.2.1
  have hpw := pwF_le (hR.2.2.2.2.1.fw) m
  refine px_aload_n dx_Mo_readMethod_58 rfl ?_
  refine px_getR (r := 724) dx_Mo_readMethod_59 fl_Mo_32 rfl (by decide) rfl (hR.1 11) ?_
  refine px_iload_n dx_Mo_readMethod_62 rfl ?_
  refine px_aload_n dx_Mo_readMethod_63 rfl ?_
  refine px_aload_n dx_Mo_readMethod_64 rfl ?_
  refine px_iload_n dx_Mo_readMethod_65 rfl ?_
  refine px_cV (Y := yy_Mo_readMethod) (Yc := yy_Mo_paramWords) (b := 717) (As := [.int (nI (m))]) dx_Mo_readMethod_66 ml_Mo_107 mv_Mo_paramWords np_Mo_paramWords ⟨_, rfl⟩ (by decide) rfl (by decide) rfl (Nat.le_of_ble_eq_true rfl) (Nat.le_of_ble_eq_true rfl) rk_Mo_readMethod_Mo_paramWords rfl (m_paramWords (pt := fun k => F1 4 (3 * m + k)) (np := F1 3 m) hR.1 (by omega) (hR.2.2.2.2.1 3 m) (hR.2.2.2.1 3 m (by decide) (by show _ < 8; omega)) (fun k hk => hR.2.2.2.1 4 _ (by decide) (by show _ < 24; have := hR.2.2.2.2.1 3 m; have e : bnd 3 = 3 := rfl; omega)) (fun k => Nat.lt_of_le_of_lt (hR.2.2.2.2.1 4 _) (by decide))) zz_0 ?_
  refine px_bipush (v := 10) dx_Mo_readMethod_69 rfl ?_
  obtain ⟨x_71, hx_71⟩ : ∃ x, x = nx b n (pwF F1 m) (10) 0 s1 := ⟨_, rfl⟩
  have hb_71 : x_71.1 ≤ 10 := hx_71 ▸ nx_le (Nat.zero_le _)
  refine px_cVR (Y := yy_Mo_readMethod) (Yc := yy_Mo_next) (b := 717) (As := [.int (nI (pwF F1 m)), .int (10)]) dx_Mo_readMethod_71 ml_Mo_103 mv_Mo_next np_Mo_next ⟨_, rfl⟩ (by decide) rfl (by decide) rfl (Nat.le_of_ble_eq_true rfl) (Nat.le_of_ble_eq_true rfl) rk_Mo_readMethod_Mo_next rfl (m_nextx (lo := pwF F1 m) (hi := 10) hR (by omega) (by decide) hx_71) zz_0 (fun r_71 τ_71 h_71 => ?_)
  obtain ⟨rfl, hR⟩ := h_71
  refine px_iastN (j := m) dx_Mo_readMethod_74 rfl (by decide) (by first | decide | omega) ?_
  obtain ⟨F_74, hF_74⟩ : ∃ X, X = uf F1 5 m (x_71.1) := ⟨_, rfl⟩
  have hR := hF_74 ▸ RD.w hR (a := 5) (k := m) (v := (x_71.1)) (by decide) (by show _ ≤ 10; omega)
  refine px_aload_n dx_Mo_readMethod_75 rfl ?_
  refine px_iconst (v := 0) dx_Mo_readMethod_76 rfl ?_
  refine px_sipush (v := 255) dx_Mo_readMethod_77 rfl ?_
  obtain ⟨x_80, hx_80⟩ : ∃ x, x = nx b n (0) (255) 0 x_71.2 := ⟨_, rfl⟩
  have hb_80 : x_80.1 ≤ 255 := hx_80 ▸ nx_le (Nat.zero_le _)
  refine px_cVR (Y := yy_Mo_readMethod) (Yc := yy_Mo_next) (b := 717) (As := [.int (0), .int (255)]) dx_Mo_readMethod_80 ml_Mo_103 mv_Mo_next np_Mo_next ⟨_, rfl⟩ (by decide) rfl (by decide) rfl (Nat.le_of_ble_eq_true rfl) (Nat.le_of_ble_eq_true rfl) rk_Mo_readMethod_Mo_next rfl (m_nextx (lo := 0) (hi := 255) hR (by decide) (by decide) hx_80) zz_0 (fun r_80 τ_80 h_80 => ?_)
  obtain ⟨rfl, hR⟩ := h_80
  refine px_istore_n (lv' := [(2, .int (nI (x_80.1))), (0, .ref (717)), (1, .int (nI (m)))]) dx_Mo_readMethod_83 (by decide) rfl ?_
  refine px_iload_n dx_Mo_readMethod_84 rfl ?_
  refine px_bipush (v := 127) dx_Mo_readMethod_85 rfl ?_
  refine px_iandN (a := x_80.1) (w := 7) dx_Mo_readMethod_87 (by omega) rfl ?_
  refine px_istore_n (lv' := [(3, .int (nI (x_80.1 % 128))), (2, .int (nI (x_80.1))), (0, .ref (717)), (1, .int (nI (m)))]) dx_Mo_readMethod_88 (by decide) rfl ?_
  refine px_iload_n dx_Mo_readMethod_89 rfl ?_
  refine px_bipush (v := 127) dx_Mo_readMethod_90 rfl ?_
  refine px_icmp_leN (a := x_80.1) (b := 127) dx_Mo_readMethod_92 (by omega) (by omega) (fun c_92 => ?_) (fun c_92 => ?_)
  · have eN : rdN b n x_71.2 = (x_80.1 % 128, x_80.2) := rdN_a hx_80 c_92
    have hs0 : x_80.2.2 = false → 1 ≤ x_80.2.1 := fun q => by (rw [hx_80] at q ⊢; have := (nx_g q).2.1; omega)
    refine px_aload_n dx_Mo_readMethod_109 rfl ?_
    refine px_getI dx_Mo_readMethod_110 fl_Mo_92 rfl (by decide) rfl ?_
    refine px_eqi (y := b2i (x_80.2.2)) hR.2.2.1.2.2 ?_
    refine px_if_neB dx_Mo_readMethod_113 (fun c_113 => ?_) (fun c_113 => ?_)
    · refine px_aload_n dx_Mo_readMethod_142 rfl ?_
      refine px_getI dx_Mo_readMethod_143 fl_Mo_92 rfl (by decide) rfl ?_
      refine px_eqi (y := b2i (x_80.2.2)) hR.2.2.1.2.2 ?_
      refine px_if_eqB dx_Mo_readMethod_146 (fun c_146 => ?_) (fun c_146 => ?_)
      · exact Bool.noConfusion (c_113.symm.trans c_146)
      · exact px_vret dx_Mo_readMethod_149 rfl (by (have e := rdT_ill (q := (F1, s1)) hx_71 hF_74 eN (by rw [rdS_i c_113]; exact c_113)); rw [rdS_i c_113] at e; exact hq _ (by rw [e]; exact hR))
    · refine px_iload_n dx_Mo_readMethod_116 rfl ?_
      refine px_iconst (v := 1) dx_Mo_readMethod_117 rfl ?_
      refine px_icmp_ltN (a := x_80.1 % 128) (b := 1) dx_Mo_readMethod_118 (by omega) (by omega) (fun c_118 => ?_) (fun c_118 => ?_)
      · refine px_aload_n dx_Mo_readMethod_127 rfl ?_
        refine px_iconst (v := 1) dx_Mo_readMethod_128 rfl ?_
        refine px_putZ dx_Mo_readMethod_129 fl_Mo_92 rfl (by decide) rfl (by decide) ?_
        obtain ⟨s_129, hs_129⟩ : ∃ X : PS, X = (x_80.2.1, true) := ⟨_, rfl⟩
        have hR := RD.s hR (s' := s_129) (k := 5) (v := 1) (by rw [hs_129]; exact hR.2.2.1.1) (Or.inr ⟨rfl, by rw [hs_129]; rfl, by rw [hs_129]⟩)
        have hs1 : 1 ≤ s_129.1 := by (rw [hs_129]; exact hs0 c_113)
        refine px_aload_n dx_Mo_readMethod_132 rfl ?_
        refine px_dup dx_Mo_readMethod_133 rfl ?_
        refine px_getI dx_Mo_readMethod_134 fl_Mo_96 rfl (by decide) rfl ?_
        refine px_eqi (y := nI (s_129.1)) hR.2.2.1.2.1 ?_
        refine px_iconst (v := 1) dx_Mo_readMethod_137 rfl ?_
        refine px_isubN (a := s_129.1) (b := 1) dx_Mo_readMethod_138 (by omega) ?_
        refine px_putI dx_Mo_readMethod_139 fl_Mo_96 rfl (by decide) rfl ?_
        obtain ⟨s_139, hs_139⟩ : ∃ X : PS, X = (s_129.1 - 1, true) := ⟨_, rfl⟩
        have hR := RD.s hR (s' := s_139) (k := 3) (v := nI (s_129.1 - 1)) (by rw [hs_139]; exact Nat.le_trans (Nat.sub_le _ _) hR.2.2.1.1) (Or.inl ⟨rfl, by rw [hs_139], by rw [hs_139, hs_129]⟩)
        refine px_aload_n dx_Mo_readMethod_142 rfl ?_
        refine px_getI dx_Mo_readMethod_143 fl_Mo_92 rfl (by decide) rfl ?_
        refine px_eqi (y := b2i (s_139.2)) hR.2.2.1.2.2 ?_
        refine px_if_eqB dx_Mo_readMethod_146 (fun c_146 => ?_) (fun c_146 => ?_)
        · exact Bool.noConfusion ((congrArg Prod.snd hs_139).symm.trans c_146)
        · exact px_vret dx_Mo_readMethod_149 rfl (by (have e := rdT_ill (q := (F1, s1)) hx_71 hF_74 eN (by rw [rdS_b c_113 (by omega)])); rw [rdS_b c_113 (by omega)] at e; exact hq _ (by rw [e, show (x_80.2.1 - 1, true) = s_139 by rw [hs_139, hs_129]]; exact hR))
      · refine px_iload_n dx_Mo_readMethod_121 rfl ?_
        refine px_bipush (v := 40) dx_Mo_readMethod_122 rfl ?_
        refine px_icmp_leN (a := x_80.1 % 128) (b := 40) dx_Mo_readMethod_124 (by omega) (by omega) (fun c_124 => ?_) (fun c_124 => ?_)
        · refine px_aload_n dx_Mo_readMethod_142 rfl ?_
          refine px_getI dx_Mo_readMethod_143 fl_Mo_92 rfl (by decide) rfl ?_
          refine px_eqi (y := b2i (x_80.2.2)) hR.2.2.1.2.2 ?_
          refine px_if_eqB dx_Mo_readMethod_146 (fun c_146 => ?_) (fun c_146 => ?_)
          · refine px_aload_n dx_Mo_readMethod_150 rfl ?_
            refine px_getR (r := 725) dx_Mo_readMethod_151 fl_Mo_35 rfl (by decide) rfl (hR.1 12) ?_
            refine px_iload_n dx_Mo_readMethod_154 rfl ?_
            refine px_iload_n dx_Mo_readMethod_155 rfl ?_
            refine px_iastN (j := m) dx_Mo_readMethod_156 rfl (by decide) (by first | decide | omega) ?_
            obtain ⟨F_156, hF_156⟩ : ∃ X, X = uf F_74 6 m (x_80.1 % 128) := ⟨_, rfl⟩
            have hR := hF_156 ▸ RD.w hR (a := 6) (k := m) (v := (x_80.1 % 128)) (by decide) (by show _ ≤ 40; omega)
            refine px_iconst (v := 0) dx_Mo_readMethod_157 rfl ?_
            refine px_istore (lv' := [(4, .int (0)), (3, .int (nI (x_80.1 % 128))), (2, .int (nI (x_80.1))), (0, .ref (717)), (1, .int (nI (m)))]) dx_Mo_readMethod_158 (by decide) rfl ?_
            refine px_sub [3, 4, 1, 0] rfl ?_
            have e := rdT_ok (q := (F1, s1)) hx_71 hF_74 eN (by rw [rdS_g (by omega)]; exact c_113) hF_156
            rw [rdS_g (by omega)] at e
            exact m_rdU (σ := sI τ_80 725 m (nI (x_80.1 % 128))) (F := F_156) (s := x_80.2) (c := x_80.1 % 128) hm (by omega) (fun σ' h => hq σ' (by rw [e]; exact h)) ((x_80.1 % 128) + 1) 0 (sI τ_80 725 m (nI (x_80.1 % 128))) F_156 x_80.2 (by omega) (Nat.zero_le _) hR rfl
          · exact Bool.noConfusion (c_113.symm.trans c_146)
        · refine px_aload_n dx_Mo_readMethod_127 rfl ?_
          refine px_iconst (v := 1) dx_Mo_readMethod_128 rfl ?_
          refine px_putZ dx_Mo_readMethod_129 fl_Mo_92 rfl (by decide) rfl (by decide) ?_
          obtain ⟨s_129, hs_129⟩ : ∃ X : PS, X = (x_80.2.1, true) := ⟨_, rfl⟩
          have hR := RD.s hR (s' := s_129) (k := 5) (v := 1) (by rw [hs_129]; exact hR.2.2.1.1) (Or.inr ⟨rfl, by rw [hs_129]; rfl, by rw [hs_129]⟩)
          have hs1 : 1 ≤ s_129.1 := by (rw [hs_129]; exact hs0 c_113)
          refine px_aload_n dx_Mo_readMethod_132 rfl ?_
          refine px_dup dx_Mo_readMethod_133 rfl ?_
          refine px_getI dx_Mo_readMethod_134 fl_Mo_96 rfl (by decide) rfl ?_
          refine px_eqi (y := nI (s_129.1)) hR.2.2.1.2.1 ?_
          refine px_iconst (v := 1) dx_Mo_readMethod_137 rfl ?_
          refine px_isubN (a := s_129.1) (b := 1) dx_Mo_readMethod_138 (by omega) ?_
          refine px_putI dx_Mo_readMethod_139 fl_Mo_96 rfl (by decide) rfl ?_
          obtain ⟨s_139, hs_139⟩ : ∃ X : PS, X = (s_129.1 - 1, true) := ⟨_, rfl⟩
          have hR := RD.s hR (s' := s_139) (k := 3) (v := nI (s_129.1 - 1)) (by rw [hs_139]; exact Nat.le_trans (Nat.sub_le _ _) hR.2.2.1.1) (Or.inl ⟨rfl, by rw [hs_139], by rw [hs_139, hs_129]⟩)
          refine px_aload_n dx_Mo_readMethod_142 rfl ?_
          refine px_getI dx_Mo_readMethod_143 fl_Mo_92 rfl (by decide) rfl ?_
          refine px_eqi (y := b2i (s_139.2)) hR.2.2.1.2.2 ?_
          refine px_if_eqB dx_Mo_readMethod_146 (fun c_146 => ?_) (fun c_146 => ?_)
          · exact Bool.noConfusion ((congrArg Prod.snd hs_139).symm.trans c_146)
          · exact px_vret dx_Mo_readMethod_149 rfl (by (have e := rdT_ill (q := (F1, s1)) hx_71 hF_74 eN (by rw [rdS_b c_113 (by omega)])); rw [rdS_b c_113 (by omega)] at e; exact hq _ (by rw [e, show (x_80.2.1 - 1, true) = s_139 by rw [hs_139, hs_129]]; exact hR))
  · refine px_iload_n dx_Mo_readMethod_95 rfl ?_
    refine px_sipush (v := 128) dx_Mo_readMethod_96 rfl ?_
    refine px_aload_n dx_Mo_readMethod_99 rfl ?_
    refine px_iconst (v := 0) dx_Mo_readMethod_100 rfl ?_
    refine px_bipush (v := 127) dx_Mo_readMethod_101 rfl ?_
    obtain ⟨x_103, hx_103⟩ : ∃ x, x = nx b n (0) (127) 0 x_80.2 := ⟨_, rfl⟩
    have hb_103 : x_103.1 ≤ 127 := hx_103 ▸ nx_le (Nat.zero_le _)
    refine px_cVR (Y := yy_Mo_readMethod) (Yc := yy_Mo_next) (b := 717) (As := [.int (0), .int (127)]) dx_Mo_readMethod_103 ml_Mo_103 mv_Mo_next np_Mo_next ⟨_, rfl⟩ (by decide) rfl (by decide) rfl (Nat.le_of_ble_eq_true rfl) (Nat.le_of_ble_eq_true rfl) rk_Mo_readMethod_Mo_next rfl (m_nextx (lo := 0) (hi := 127) hR (by decide) (by decide) hx_103) zz_0 (fun r_103 τ_103 h_103 => ?_)
    obtain ⟨rfl, hR⟩ := h_103
    refine px_imulN (a := 128) (b := x_103.1) dx_Mo_readMethod_106 ?_
    refine px_iaddN (a := x_80.1 % 128) (b := 128 * x_103.1) dx_Mo_readMethod_107 ?_
    refine px_istore_n (lv' := [(3, .int (nI ((x_80.1 % 128) + (128 * x_103.1)))), (2, .int (nI (x_80.1))), (0, .ref (717)), (1, .int (nI (m)))]) dx_Mo_readMethod_108 (by decide) rfl ?_
    have eN : rdN b n x_71.2 = ((x_80.1 % 128) + (128 * x_103.1), x_103.2) := rdN_b hx_80 hx_103 c_92
    have hs0 : x_103.2.2 = false → 1 ≤ x_103.2.1 := fun q => by (rw [hx_103] at q ⊢; have := (nx_g q).2.1; omega)
    refine px_aload_n dx_Mo_readMethod_109 rfl ?_
    refine px_getI dx_Mo_readMethod_110 fl_Mo_92 rfl (by decide) rfl ?_
    refine px_eqi (y := b2i (x_103.2.2)) hR.2.2.1.2.2 ?_
    refine px_if_neB dx_Mo_readMethod_113 (fun c_113 => ?_) (fun c_113 => ?_)
    · refine px_aload_n dx_Mo_readMethod_142 rfl ?_
      refine px_getI dx_Mo_readMethod_143 fl_Mo_92 rfl (by decide) rfl ?_
      refine px_eqi (y := b2i (x_103.2.2)) hR.2.2.1.2.2 ?_
      refine px_if_eqB dx_Mo_readMethod_146 (fun c_146 => ?_) (fun c_146 => ?_)
      · exact Bool.noConfusion (c_113.symm.trans c_146)
      · exact px_vret dx_Mo_readMethod_149 rfl (by (have e := rdT_ill (q := (F1, s1)) hx_71 hF_74 eN (by rw [rdS_i c_113]; exact c_113)); rw [rdS_i c_113] at e; exact hq _ (by rw [e]; exact hR))
    · refine px_iload_n dx_Mo_readMethod_116 rfl ?_
      refine px_iconst (v := 1) dx_Mo_readMethod_117 rfl ?_
      refine px_icmp_ltN (a := (x_80.1 % 128) + (128 * x_103.1)) (b := 1) dx_Mo_readMethod_118 (by omega) (by omega) (fun c_118 => ?_) (fun c_118 => ?_)
      · refine px_aload_n dx_Mo_readMethod_127 rfl ?_
        refine px_iconst (v := 1) dx_Mo_readMethod_128 rfl ?_
        refine px_putZ dx_Mo_readMethod_129 fl_Mo_92 rfl (by decide) rfl (by decide) ?_
        obtain ⟨s_129, hs_129⟩ : ∃ X : PS, X = (x_103.2.1, true) := ⟨_, rfl⟩
        have hR := RD.s hR (s' := s_129) (k := 5) (v := 1) (by rw [hs_129]; exact hR.2.2.1.1) (Or.inr ⟨rfl, by rw [hs_129]; rfl, by rw [hs_129]⟩)
        have hs1 : 1 ≤ s_129.1 := by (rw [hs_129]; exact hs0 c_113)
        refine px_aload_n dx_Mo_readMethod_132 rfl ?_
        refine px_dup dx_Mo_readMethod_133 rfl ?_
        refine px_getI dx_Mo_readMethod_134 fl_Mo_96 rfl (by decide) rfl ?_
        refine px_eqi (y := nI (s_129.1)) hR.2.2.1.2.1 ?_
        refine px_iconst (v := 1) dx_Mo_readMethod_137 rfl ?_
        refine px_isubN (a := s_129.1) (b := 1) dx_Mo_readMethod_138 (by omega) ?_
        refine px_putI dx_Mo_readMethod_139 fl_Mo_96 rfl (by decide) rfl ?_
        obtain ⟨s_139, hs_139⟩ : ∃ X : PS, X = (s_129.1 - 1, true) := ⟨_, rfl⟩
        have hR := RD.s hR (s' := s_139) (k := 3) (v := nI (s_129.1 - 1)) (by rw [hs_139]; exact Nat.le_trans (Nat.sub_le _ _) hR.2.2.1.1) (Or.inl ⟨rfl, by rw [hs_139], by rw [hs_139, hs_129]⟩)
        refine px_aload_n dx_Mo_readMethod_142 rfl ?_
        refine px_getI dx_Mo_readMethod_143 fl_Mo_92 rfl (by decide) rfl ?_
        refine px_eqi (y := b2i (s_139.2)) hR.2.2.1.2.2 ?_
        refine px_if_eqB dx_Mo_readMethod_146 (fun c_146 => ?_) (fun c_146 => ?_)
        · exact Bool.noConfusion ((congrArg Prod.snd hs_139).symm.trans c_146)
        · exact px_vret dx_Mo_readMethod_149 rfl (by (have e := rdT_ill (q := (F1, s1)) hx_71 hF_74 eN (by rw [rdS_b c_113 (by omega)])); rw [rdS_b c_113 (by omega)] at e; exact hq _ (by rw [e, show (x_103.2.1 - 1, true) = s_139 by rw [hs_139, hs_129]]; exact hR))
      · refine px_iload_n dx_Mo_readMethod_121 rfl ?_
        refine px_bipush (v := 40) dx_Mo_readMethod_122 rfl ?_
        refine px_icmp_leN (a := (x_80.1 % 128) + (128 * x_103.1)) (b := 40) dx_Mo_readMethod_124 (by omega) (by omega) (fun c_124 => ?_) (fun c_124 => ?_)
        · refine px_aload_n dx_Mo_readMethod_142 rfl ?_
          refine px_getI dx_Mo_readMethod_143 fl_Mo_92 rfl (by decide) rfl ?_
          refine px_eqi (y := b2i (x_103.2.2)) hR.2.2.1.2.2 ?_
          refine px_if_eqB dx_Mo_readMethod_146 (fun c_146 => ?_) (fun c_146 => ?_)
          · refine px_aload_n dx_Mo_readMethod_150 rfl ?_
            refine px_getR (r := 725) dx_Mo_readMethod_151 fl_Mo_35 rfl (by decide) rfl (hR.1 12) ?_
            refine px_iload_n dx_Mo_readMethod_154 rfl ?_
            refine px_iload_n dx_Mo_readMethod_155 rfl ?_
            refine px_iastN (j := m) dx_Mo_readMethod_156 rfl (by decide) (by first | decide | omega) ?_
            obtain ⟨F_156, hF_156⟩ : ∃ X, X = uf F_74 6 m ((x_80.1 % 128) + (128 * x_103.1)) := ⟨_, rfl⟩
            have hR := hF_156 ▸ RD.w hR (a := 6) (k := m) (v := ((x_80.1 % 128) + (128 * x_103.1))) (by decide) (by show _ ≤ 40; omega)
            refine px_iconst (v := 0) dx_Mo_readMethod_157 rfl ?_
            refine px_istore (lv' := [(4, .int (0)), (3, .int (nI ((x_80.1 % 128) + (128 * x_103.1)))), (2, .int (nI (x_80.1))), (0, .ref (717)), (1, .int (nI (m)))]) dx_Mo_readMethod_158 (by decide) rfl ?_
            refine px_sub [3, 4, 1, 0] rfl ?_
            have e := rdT_ok (q := (F1, s1)) hx_71 hF_74 eN (by rw [rdS_g (by omega)]; exact c_113) hF_156
            rw [rdS_g (by omega)] at e
            exact m_rdU (σ := sI τ_103 725 m (nI ((x_80.1 % 128) + (128 * x_103.1)))) (F := F_156) (s := x_103.2) (c := (x_80.1 % 128) + (128 * x_103.1)) hm (by omega) (fun σ' h => hq σ' (by rw [e]; exact h)) (((x_80.1 % 128) + (128 * x_103.1)) + 1) 0 (sI τ_103 725 m (nI ((x_80.1 % 128) + (128 * x_103.1)))) F_156 x_103.2 (by omega) (Nat.zero_le _) hR rfl
          · exact Bool.noConfusion (c_113.symm.trans c_146)
        · refine px_aload_n dx_Mo_readMethod_127 rfl ?_
          refine px_iconst (v := 1) dx_Mo_readMethod_128 rfl ?_
          refine px_putZ dx_Mo_readMethod_129 fl_Mo_92 rfl (by decide) rfl (by decide) ?_
          obtain ⟨s_129, hs_129⟩ : ∃ X : PS, X = (x_103.2.1, true) := ⟨_, rfl⟩
          have hR := RD.s hR (s' := s_129) (k := 5) (v := 1) (by rw [hs_129]; exact hR.2.2.1.1) (Or.inr ⟨rfl, by rw [hs_129]; rfl, by rw [hs_129]⟩)
          have hs1 : 1 ≤ s_129.1 := by (rw [hs_129]; exact hs0 c_113)
          refine px_aload_n dx_Mo_readMethod_132 rfl ?_
          refine px_dup dx_Mo_readMethod_133 rfl ?_
          refine px_getI dx_Mo_readMethod_134 fl_Mo_96 rfl (by decide) rfl ?_
          refine px_eqi (y := nI (s_129.1)) hR.2.2.1.2.1 ?_
          refine px_iconst (v := 1) dx_Mo_readMethod_137 rfl ?_
          refine px_isubN (a := s_129.1) (b := 1) dx_Mo_readMethod_138 (by omega) ?_
          refine px_putI dx_Mo_readMethod_139 fl_Mo_96 rfl (by decide) rfl ?_
          obtain ⟨s_139, hs_139⟩ : ∃ X : PS, X = (s_129.1 - 1, true) := ⟨_, rfl⟩
          have hR := RD.s hR (s' := s_139) (k := 3) (v := nI (s_129.1 - 1)) (by rw [hs_139]; exact Nat.le_trans (Nat.sub_le _ _) hR.2.2.1.1) (Or.inl ⟨rfl, by rw [hs_139], by rw [hs_139, hs_129]⟩)
          refine px_aload_n dx_Mo_readMethod_142 rfl ?_
          refine px_getI dx_Mo_readMethod_143 fl_Mo_92 rfl (by decide) rfl ?_
          refine px_eqi (y := b2i (s_139.2)) hR.2.2.1.2.2 ?_
          refine px_if_eqB dx_Mo_readMethod_146 (fun c_146 => ?_) (fun c_146 => ?_)
          · exact Bool.noConfusion ((congrArg Prod.snd hs_139).symm.trans c_146)
          · exact px_vret dx_Mo_readMethod_149 rfl (by (have e := rdT_ill (q := (F1, s1)) hx_71 hF_74 eN (by rw [rdS_b c_113 (by omega)])); rw [rdS_b c_113 (by omega)] at e; exact hq _ (by rw [e, show (x_103.2.1 - 1, true) = s_139 by rw [hs_139, hs_129]]; exact hR))
set_option maxRecDepth 100000 in
set_option maxHeartbeats 1000000 in
theorem m_readMethod {l : Launch} {G : fr_G} {σ : fr_S} {σ0 : fr_S} {b : Nat → Nat} {n m : Nat} {F : Nat → Nat → Nat} {s : PS} (hm : m < 8) (hR : RD σ0 σ b n F s) : CR l G yy_Mo_readMethod rm_Mo_readMethod [.ref (717), .int (nI (m))] σ (fun r0 σ' => r0 = none ∧ RD σ0 σ' b n (rdM b n m F s).1 (rdM b n m F s).2) := by
  intro Post hp0
  show PX l G yy_Mo_readMethod rm_Mo_readMethod _ false 742 0 0 0 [(0, .ref (717)), (1, .int (nI (m)))] [] σ
  refine px_aload_n dx_Mo_readMethod_0 rfl ?_
  refine px_getR (r := 721) dx_Mo_readMethod_1 fl_Mo_23 rfl (by decide) rfl (hR.1 8) ?_
  refine px_iload_n dx_Mo_readMethod_4 rfl ?_
  refine px_aload_n dx_Mo_readMethod_5 rfl ?_
  refine px_iconst (v := 0) dx_Mo_readMethod_6 rfl ?_
  refine px_iconst (v := 4) dx_Mo_readMethod_7 rfl ?_
  obtain ⟨x_8, hx_8⟩ : ∃ x, x = nx b n (0) (4) 0 s := ⟨_, rfl⟩
  have hb_8 : x_8.1 ≤ 4 := hx_8 ▸ nx_le (Nat.zero_le _)
  refine px_cVR (Y := yy_Mo_readMethod) (Yc := yy_Mo_next) (b := 717) (As := [.int (0), .int (4)]) dx_Mo_readMethod_8 ml_Mo_103 mv_Mo_next np_Mo_next ⟨_, rfl⟩ (by decide) rfl (by decide) rfl (Nat.le_of_ble_eq_true rfl) (Nat.le_of_ble_eq_true rfl) rk_Mo_readMethod_Mo_next rfl (m_nextx (lo := 0) (hi := 4) hR (by decide) (by decide) hx_8) zz_0 (fun r_8 τ_8 h_8 => ?_)
  obtain ⟨rfl, hR⟩ := h_8
  refine px_iastN (j := m) dx_Mo_readMethod_11 rfl (by decide) (by first | decide | omega) ?_
  obtain ⟨F_11, hF_11⟩ : ∃ X, X = uf F 2 m (x_8.1) := ⟨_, rfl⟩
  have hR := hF_11 ▸ RD.w hR (a := 2) (k := m) (v := (x_8.1)) (by decide) (by show _ ≤ 4; omega)
  refine px_aload_n dx_Mo_readMethod_12 rfl ?_
  refine px_getR (r := 722) dx_Mo_readMethod_13 fl_Mo_26 rfl (by decide) rfl (hR.1 9) ?_
  refine px_iload_n dx_Mo_readMethod_16 rfl ?_
  refine px_aload_n dx_Mo_readMethod_17 rfl ?_
  refine px_iconst (v := 0) dx_Mo_readMethod_18 rfl ?_
  refine px_iconst (v := 3) dx_Mo_readMethod_19 rfl ?_
  obtain ⟨x_20, hx_20⟩ : ∃ x, x = nx b n (0) (3) 0 x_8.2 := ⟨_, rfl⟩
  have hb_20 : x_20.1 ≤ 3 := hx_20 ▸ nx_le (Nat.zero_le _)
  refine px_cVR (Y := yy_Mo_readMethod) (Yc := yy_Mo_next) (b := 717) (As := [.int (0), .int (3)]) dx_Mo_readMethod_20 ml_Mo_103 mv_Mo_next np_Mo_next ⟨_, rfl⟩ (by decide) rfl (by decide) rfl (Nat.le_of_ble_eq_true rfl) (Nat.le_of_ble_eq_true rfl) rk_Mo_readMethod_Mo_next rfl (m_nextx (lo := 0) (hi := 3) hR (by decide) (by decide) hx_20) zz_0 (fun r_20 τ_20 h_20 => ?_)
  obtain ⟨rfl, hR⟩ := h_20
  refine px_iastN (j := m) dx_Mo_readMethod_23 rfl (by decide) (by first | decide | omega) ?_
  obtain ⟨F_23, hF_23⟩ : ∃ X, X = uf F_11 3 m (x_20.1) := ⟨_, rfl⟩
  have hR := hF_23 ▸ RD.w hR (a := 3) (k := m) (v := (x_20.1)) (by decide) (by show _ ≤ 3; omega)
  refine px_iconst (v := 0) dx_Mo_readMethod_24 rfl ?_
  refine px_istore_n (lv' := [(2, .int (0)), (0, .ref (717)), (1, .int (nI (m)))]) dx_Mo_readMethod_25 (by decide) rfl ?_
  refine px_sub [1, 2, 0] rfl ?_
  exact m_rdP (σ := sI τ_20 722 m (nI (x_20.1))) (F := F_23) (s := x_20.2) hm (fun σ' F' s' e hR' => m_readMethod_b hm hR' (fun σ'' h => hp0 _ _ ⟨rfl, by (have eM : rdM b n m F s = rdT b n m (F', s') := by (rw [← e, hF_23, uf_s]; simp only [rdM, ← hx_8, ← hx_20, ← hF_11])); rw [eM]; exact h⟩)) (F_23 3 m + 1) 0 (sI τ_20 722 m (nI (x_20.1))) F_23 x_20.2 (by omega) (Nat.zero_le _) hR rfl
