/-! the reference: its machine -/
section UPD
variable {σ : fr_S} {o k o' k' : Nat}
theorem gL_s {v : Int64} : gL (sL σ o k v) o k = v := by simp [gL, sL, u_2]
theorem gL_n {v : Int64} (h : o' ≠ o ∨ k' ≠ k) : gL (sL σ o k v) o' k' = gL σ o' k' := by
  show (if o' = o ∧ k' = k then v else _) = _
  rw [if_neg (by omega)]
  rfl
theorem gD_s {v : UInt64} : gD (sD σ o k v) o k = v := by simp [gD, sD, u_2]
theorem gD_n {v : UInt64} (h : o' ≠ o ∨ k' ≠ k) : gD (sD σ o k v) o' k' = gD σ o' k' := by
  show (if o' = o ∧ k' = k then v else _) = _
  rw [if_neg (by omega)]
  rfl
end UPD
/-- a machine: numbers (0 state, 1 depth, 2 k methods, 3 k places, 4 the type that came out), whole numbers (60 what came out), reals (60 too), fields -/
abbrev VM : Type := (Nat → Nat → Nat) × (Nat → Int64) × (Nat → UInt64) × (Nat → Int32)
def MMc (σ : fr_S) (A : VM) : Prop := gI σ 717 26 = nI (A.1 0 0) ∧ gI σ 717 27 = nI (A.1 1 0) ∧ (∀ k, k < 6 → gI σ 736 k = nI (A.1 2 k)) ∧ (∀ k, k < 6 → gI σ 737 k = nI (A.1 3 k)) ∧ gI σ 717 32 = nI (A.1 4 0)
  ∧ (∀ k, k < 60 → gL σ 738 k = A.2.1 k) ∧ gL σ 717 33 = A.2.1 60 ∧ (∀ k, k < 60 → gD σ 739 k = A.2.2.1 k) ∧ gD σ 717 34 = A.2.2.1 60 ∧ ∀ k, k < 4 → gI σ 740 k = A.2.2.2 k
def AB (A : VM) : Prop := A.1 0 0 ≤ 3 ∧ A.1 1 0 ≤ 6 ∧ (∀ k, A.1 2 k ≤ 3) ∧ (∀ k, A.1 3 k ≤ 100) ∧ A.1 4 0 ≤ 4
/-- but for the machine's cells nothing is another -/
def AgM (σ0 σ : fr_S) : Prop := (∀ o, o ∉ [717, 736, 737, 740] → ∀ k, gI σ o k = gI σ0 o k) ∧ (∀ k, k ∉ [0, 26, 27, 32] → gI σ 717 k = gI σ0 717 k) ∧ (∀ o, o ∉ [717, 738] → ∀ k, gL σ o k = gL σ0 o k) ∧ (∀ o, o ∉ [717, 739] → ∀ k, gD σ o k = gD σ0 o k) ∧ ∀ o k, gR σ o k = gR σ0 o k
theorem AgM.rf {σ : fr_S} : AgM σ σ := ⟨fun _ _ _ => rfl, fun _ _ => rfl, fun _ _ _ => rfl, fun _ _ _ => rfl, fun _ _ => rfl⟩
theorem AgM.tr {a b c : fr_S} (h : AgM a b) (q : AgM b c) : AgM a c := ⟨fun o ho k => (q.1 o ho k).trans (h.1 o ho k), fun k hk => (q.2.1 k hk).trans (h.2.1 k hk), fun o ho k => (q.2.2.1 o ho k).trans (h.2.2.1 o ho k), fun o ho k => (q.2.2.2.1 o ho k).trans (h.2.2.2.1 o ho k), fun o k => (q.2.2.2.2 o k).trans (h.2.2.2.2 o k)⟩
def MX (σ0 σ : fr_S) (F : Nat → Nat → Nat) (A : VM) : Prop := MR σ ∧ MF σ F ∧ FW F ∧ MMc σ A ∧ AB A ∧ AgM σ0 σ
def aI (A : VM) (a k v : Nat) : VM := (uf A.1 a k v, A.2)
def aW (A : VM) (k : Nat) (v : Int64) : VM := (A.1, va_up A.2.1 k v, A.2.2)
def aD (A : VM) (k : Nat) (v : UInt64) : VM := (A.1, A.2.1, va_up A.2.2.1 k v, A.2.2.2)
def aF (A : VM) (k : Nat) (v : Int32) : VM := (A.1, A.2.1, A.2.2.1, va_up A.2.2.2 k v)
theorem up_s {α : Type} {f : Nat → α} {k : Nat} {v : α} : va_up f k v k = v := by simp [va_up]
theorem up_n {α : Type} {f : Nat → α} {k j : Nat} {v : α} (h : j ≠ k) : va_up f k v j = f j := by simp [va_up, h]
section AUP
variable {A : VM} {a k v x y B : Nat}
theorem aI_s : (aI A a k v).1 a k = v := uf_s
theorem aI_n (h : x ≠ a ∨ y ≠ k) : (aI A a k v).1 x y = A.1 x y := uf_n h
theorem aW_s {w : Int64} : (aW A k w).2.1 k = w := up_s
theorem aW_n {w : Int64} (h : y ≠ k) : (aW A k w).2.1 y = A.2.1 y := up_n h
theorem aD_s {w : UInt64} : (aD A k w).2.2.1 k = w := up_s
theorem aD_n {w : UInt64} (h : y ≠ k) : (aD A k w).2.2.1 y = A.2.2.1 y := up_n h
theorem aF_s {w : Int32} : (aF A k w).2.2.2 k = w := up_s
theorem aF_n {w : Int32} (h : y ≠ k) : (aF A k w).2.2.2 y = A.2.2.2 y := up_n h
theorem aI_le_n (h : x ≠ a) (hb : A.1 x y ≤ B) : (aI A a k v).1 x y ≤ B := by rw [aI_n (Or.inl h)]; exact hb
theorem aI_le_k (hv : v ≤ B) (hb : A.1 a y ≤ B) : (aI A a k v).1 a y ≤ B := by
  show uf A.1 a k v a y ≤ B
  unfold uf
  split
  · exact hv
  · exact hb
end AUP
theorem uf_le_n {F : Nat → Nat → Nat} {a k v x y B : Nat} (h : x ≠ a) (hb : F x y ≤ B) : uf F a k v x y ≤ B := by rw [uf_n (Or.inl h)]; exact hb
theorem uf_le_k {F : Nat → Nat → Nat} {a k v y B : Nat} (hv : v ≤ B) (hb : F a y ≤ B) : uf F a k v a y ≤ B := by
  unfold uf
  split
  · exact hv
  · exact hb
def bs (A : VM) : Nat := 10 * (A.1 1 0 - 1)
def gW (A : VM) (r : Nat) : Int64 := A.2.1 (bs A + r)
def gE (A : VM) (r : Nat) : UInt64 := A.2.2.1 (bs A + r)
def stW (A : VM) (r : Nat) (v : Int64) : VM := aW A (bs A + r) v
def stE (A : VM) (r : Nat) (v : UInt64) : VM := aD A (bs A + r) v
theorem MX.rd {σ0 σ τ : fr_S} {F : Nat → Nat → Nat} {A A' : VM} (h : MX σ0 σ F A) (q : MX σ τ F A') : MX σ0 τ F A' := ⟨q.1, q.2.1, q.2.2.1, q.2.2.2.1, q.2.2.2.2.1, h.2.2.2.2.2.tr q.2.2.2.2.2⟩
theorem MX.self {σ0 σ : fr_S} {F : Nat → Nat → Nat} {A : VM} (h : MX σ0 σ F A) : MX σ σ F A := ⟨h.1, h.2.1, h.2.2.1, h.2.2.2.1, h.2.2.2.2.1, AgM.rf⟩

theorem MX.st {σ0 σ : fr_S} {F : Nat → Nat → Nat} {A : VM} (H : MX σ0 σ F A) {v : Nat} (hv : v ≤ 3) : MX σ0 (sI σ 717 26 (nI v)) F (aI A 0 0 v) := by
  obtain ⟨r, m, w, h, b, q⟩ := H
  exact ⟨r, ⟨Eq.trans (gI_n (Or.inl (by decide))) m.1, Eq.trans (gI_n (Or.inl (by decide))) m.2.1, fun i hi => Eq.trans (gI_n (Or.inl (by decide))) (m.2.2.1 i hi), fun i hi => Eq.trans (gI_n (Or.inl (by decide))) (m.2.2.2.1 i hi), fun i hi => Eq.trans (gI_n (Or.inl (by decide))) (m.2.2.2.2.1 i hi), fun i hi => Eq.trans (gI_n (Or.inl (by decide))) (m.2.2.2.2.2.1 i hi), fun i hi => Eq.trans (gI_n (Or.inl (by decide))) (m.2.2.2.2.2.2.1 i hi), fun i hi => Eq.trans (gI_n (Or.inl (by decide))) (m.2.2.2.2.2.2.2 i hi)⟩, w, ⟨Eq.trans gI_s (Eq.symm (congrArg nI (aI_s))), Eq.trans (gI_n (Or.inr (by decide))) (Eq.trans h.2.1 (Eq.symm (congrArg nI (aI_n (Or.inl (by decide)))))), fun j hj => Eq.trans (gI_n (Or.inl (by decide))) (Eq.trans (h.2.2.1 j hj) (Eq.symm (congrArg nI (aI_n (Or.inl (by decide)))))), fun j hj => Eq.trans (gI_n (Or.inl (by decide))) (Eq.trans (h.2.2.2.1 j hj) (Eq.symm (congrArg nI (aI_n (Or.inl (by decide)))))), Eq.trans (gI_n (Or.inr (by decide))) (Eq.trans h.2.2.2.2.1 (Eq.symm (congrArg nI (aI_n (Or.inl (by decide)))))), fun k hk => h.2.2.2.2.2.1 k hk, h.2.2.2.2.2.2.1, fun k hk => h.2.2.2.2.2.2.2.1 k hk, h.2.2.2.2.2.2.2.2.1, fun j hj => Eq.trans (gI_n (Or.inl (by decide))) (h.2.2.2.2.2.2.2.2.2 j hj)⟩, ⟨aI_le_k hv b.1, aI_le_n (x := 1) (a := 0) (by decide) b.2.1, fun j => aI_le_n (x := 2) (a := 0) (by decide) (b.2.2.1 j), fun j => aI_le_n (x := 3) (a := 0) (by decide) (b.2.2.2.1 j), aI_le_n (x := 4) (a := 0) (by decide) b.2.2.2.2⟩, ⟨fun o ho k => (gI_n (Or.inl (by rintro rfl; simp at ho))).trans (q.1 o ho k), fun k hk => (gI_n (Or.inr (by rintro rfl; simp at hk))).trans (q.2.1 k hk), fun o ho k => q.2.2.1 o ho k, fun o ho k => q.2.2.2.1 o ho k, q.2.2.2.2⟩⟩
theorem MX.dp {σ0 σ : fr_S} {F : Nat → Nat → Nat} {A : VM} (H : MX σ0 σ F A) {v : Nat} (hv : v ≤ 6) : MX σ0 (sI σ 717 27 (nI v)) F (aI A 1 0 v) := by
  obtain ⟨r, m, w, h, b, q⟩ := H
  exact ⟨r, ⟨Eq.trans (gI_n (Or.inl (by decide))) m.1, Eq.trans (gI_n (Or.inl (by decide))) m.2.1, fun i hi => Eq.trans (gI_n (Or.inl (by decide))) (m.2.2.1 i hi), fun i hi => Eq.trans (gI_n (Or.inl (by decide))) (m.2.2.2.1 i hi), fun i hi => Eq.trans (gI_n (Or.inl (by decide))) (m.2.2.2.2.1 i hi), fun i hi => Eq.trans (gI_n (Or.inl (by decide))) (m.2.2.2.2.2.1 i hi), fun i hi => Eq.trans (gI_n (Or.inl (by decide))) (m.2.2.2.2.2.2.1 i hi), fun i hi => Eq.trans (gI_n (Or.inl (by decide))) (m.2.2.2.2.2.2.2 i hi)⟩, w, ⟨Eq.trans (gI_n (Or.inr (by decide))) (Eq.trans h.1 (Eq.symm (congrArg nI (aI_n (Or.inl (by decide)))))), Eq.trans gI_s (Eq.symm (congrArg nI (aI_s))), fun j hj => Eq.trans (gI_n (Or.inl (by decide))) (Eq.trans (h.2.2.1 j hj) (Eq.symm (congrArg nI (aI_n (Or.inl (by decide)))))), fun j hj => Eq.trans (gI_n (Or.inl (by decide))) (Eq.trans (h.2.2.2.1 j hj) (Eq.symm (congrArg nI (aI_n (Or.inl (by decide)))))), Eq.trans (gI_n (Or.inr (by decide))) (Eq.trans h.2.2.2.2.1 (Eq.symm (congrArg nI (aI_n (Or.inl (by decide)))))), fun k hk => h.2.2.2.2.2.1 k hk, h.2.2.2.2.2.2.1, fun k hk => h.2.2.2.2.2.2.2.1 k hk, h.2.2.2.2.2.2.2.2.1, fun j hj => Eq.trans (gI_n (Or.inl (by decide))) (h.2.2.2.2.2.2.2.2.2 j hj)⟩, ⟨aI_le_n (x := 0) (a := 1) (by decide) b.1, aI_le_k hv b.2.1, fun j => aI_le_n (x := 2) (a := 1) (by decide) (b.2.2.1 j), fun j => aI_le_n (x := 3) (a := 1) (by decide) (b.2.2.2.1 j), aI_le_n (x := 4) (a := 1) (by decide) b.2.2.2.2⟩, ⟨fun o ho k => (gI_n (Or.inl (by rintro rfl; simp at ho))).trans (q.1 o ho k), fun k hk => (gI_n (Or.inr (by rintro rfl; simp at hk))).trans (q.2.1 k hk), fun o ho k => q.2.2.1 o ho k, fun o ho k => q.2.2.2.1 o ho k, q.2.2.2.2⟩⟩
theorem MX.fm {σ0 σ : fr_S} {F : Nat → Nat → Nat} {A : VM} (H : MX σ0 σ F A) {k v : Nat} (hv : v ≤ 3) : MX σ0 (sI σ 736 k (nI v)) F (aI A 2 k v) := by
  obtain ⟨r, m, w, h, b, q⟩ := H
  exact ⟨r, ⟨Eq.trans (gI_n (Or.inl (by decide))) m.1, Eq.trans (gI_n (Or.inl (by decide))) m.2.1, fun i hi => Eq.trans (gI_n (Or.inl (by decide))) (m.2.2.1 i hi), fun i hi => Eq.trans (gI_n (Or.inl (by decide))) (m.2.2.2.1 i hi), fun i hi => Eq.trans (gI_n (Or.inl (by decide))) (m.2.2.2.2.1 i hi), fun i hi => Eq.trans (gI_n (Or.inl (by decide))) (m.2.2.2.2.2.1 i hi), fun i hi => Eq.trans (gI_n (Or.inl (by decide))) (m.2.2.2.2.2.2.1 i hi), fun i hi => Eq.trans (gI_n (Or.inl (by decide))) (m.2.2.2.2.2.2.2 i hi)⟩, w, ⟨Eq.trans (gI_n (Or.inl (by decide))) (Eq.trans h.1 (Eq.symm (congrArg nI (aI_n (Or.inl (by decide)))))), Eq.trans (gI_n (Or.inl (by decide))) (Eq.trans h.2.1 (Eq.symm (congrArg nI (aI_n (Or.inl (by decide)))))), fun j hj => if e : j = k then (by subst e; exact Eq.trans gI_s (Eq.symm (congrArg nI (aI_s)))) else Eq.trans (gI_n (Or.inr e)) (Eq.trans (h.2.2.1 j hj) (Eq.symm (congrArg nI (aI_n (Or.inr e))))), fun j hj => Eq.trans (gI_n (Or.inl (by decide))) (Eq.trans (h.2.2.2.1 j hj) (Eq.symm (congrArg nI (aI_n (Or.inl (by decide)))))), Eq.trans (gI_n (Or.inl (by decide))) (Eq.trans h.2.2.2.2.1 (Eq.symm (congrArg nI (aI_n (Or.inl (by decide)))))), fun k hk => h.2.2.2.2.2.1 k hk, h.2.2.2.2.2.2.1, fun k hk => h.2.2.2.2.2.2.2.1 k hk, h.2.2.2.2.2.2.2.2.1, fun j hj => Eq.trans (gI_n (Or.inl (by decide))) (h.2.2.2.2.2.2.2.2.2 j hj)⟩, ⟨aI_le_n (x := 0) (a := 2) (by decide) b.1, aI_le_n (x := 1) (a := 2) (by decide) b.2.1, fun j => aI_le_k hv (b.2.2.1 j), fun j => aI_le_n (x := 3) (a := 2) (by decide) (b.2.2.2.1 j), aI_le_n (x := 4) (a := 2) (by decide) b.2.2.2.2⟩, ⟨fun o ho k => (gI_n (Or.inl (by rintro rfl; simp at ho))).trans (q.1 o ho k), fun k hk => (gI_n (Or.inl (by decide))).trans (q.2.1 k hk), fun o ho k => q.2.2.1 o ho k, fun o ho k => q.2.2.2.1 o ho k, q.2.2.2.2⟩⟩
theorem MX.fp {σ0 σ : fr_S} {F : Nat → Nat → Nat} {A : VM} (H : MX σ0 σ F A) {k v : Nat} (hv : v ≤ 100) : MX σ0 (sI σ 737 k (nI v)) F (aI A 3 k v) := by
  obtain ⟨r, m, w, h, b, q⟩ := H
  exact ⟨r, ⟨Eq.trans (gI_n (Or.inl (by decide))) m.1, Eq.trans (gI_n (Or.inl (by decide))) m.2.1, fun i hi => Eq.trans (gI_n (Or.inl (by decide))) (m.2.2.1 i hi), fun i hi => Eq.trans (gI_n (Or.inl (by decide))) (m.2.2.2.1 i hi), fun i hi => Eq.trans (gI_n (Or.inl (by decide))) (m.2.2.2.2.1 i hi), fun i hi => Eq.trans (gI_n (Or.inl (by decide))) (m.2.2.2.2.2.1 i hi), fun i hi => Eq.trans (gI_n (Or.inl (by decide))) (m.2.2.2.2.2.2.1 i hi), fun i hi => Eq.trans (gI_n (Or.inl (by decide))) (m.2.2.2.2.2.2.2 i hi)⟩, w, ⟨Eq.trans (gI_n (Or.inl (by decide))) (Eq.trans h.1 (Eq.symm (congrArg nI (aI_n (Or.inl (by decide)))))), Eq.trans (gI_n (Or.inl (by decide))) (Eq.trans h.2.1 (Eq.symm (congrArg nI (aI_n (Or.inl (by decide)))))), fun j hj => Eq.trans (gI_n (Or.inl (by decide))) (Eq.trans (h.2.2.1 j hj) (Eq.symm (congrArg nI (aI_n (Or.inl (by decide)))))), fun j hj => if e : j = k then (by subst e; exact Eq.trans gI_s (Eq.symm (congrArg nI (aI_s)))) else Eq.trans (gI_n (Or.inr e)) (Eq.trans (h.2.2.2.1 j hj) (Eq.symm (congrArg nI (aI_n (Or.inr e))))), Eq.trans (gI_n (Or.inl (by decide))) (Eq.trans h.2.2.2.2.1 (Eq.symm (congrArg nI (aI_n (Or.inl (by decide)))))), fun k hk => h.2.2.2.2.2.1 k hk, h.2.2.2.2.2.2.1, fun k hk => h.2.2.2.2.2.2.2.1 k hk, h.2.2.2.2.2.2.2.2.1, fun j hj => Eq.trans (gI_n (Or.inl (by decide))) (h.2.2.2.2.2.2.2.2.2 j hj)⟩, ⟨aI_le_n (x := 0) (a := 3) (by decide) b.1, aI_le_n (x := 1) (a := 3) (by decide) b.2.1, fun j => aI_le_n (x := 2) (a := 3) (by decide) (b.2.2.1 j), fun j => aI_le_k hv (b.2.2.2.1 j), aI_le_n (x := 4) (a := 3) (by decide) b.2.2.2.2⟩, ⟨fun o ho k => (gI_n (Or.inl (by rintro rfl; simp at ho))).trans (q.1 o ho k), fun k hk => (gI_n (Or.inl (by decide))).trans (q.2.1 k hk), fun o ho k => q.2.2.1 o ho k, fun o ho k => q.2.2.2.1 o ho k, q.2.2.2.2⟩⟩
theorem MX.ot {σ0 σ : fr_S} {F : Nat → Nat → Nat} {A : VM} (H : MX σ0 σ F A) {v : Nat} (hv : v ≤ 4) : MX σ0 (sI σ 717 32 (nI v)) F (aI A 4 0 v) := by
  obtain ⟨r, m, w, h, b, q⟩ := H
  exact ⟨r, ⟨Eq.trans (gI_n (Or.inl (by decide))) m.1, Eq.trans (gI_n (Or.inl (by decide))) m.2.1, fun i hi => Eq.trans (gI_n (Or.inl (by decide))) (m.2.2.1 i hi), fun i hi => Eq.trans (gI_n (Or.inl (by decide))) (m.2.2.2.1 i hi), fun i hi => Eq.trans (gI_n (Or.inl (by decide))) (m.2.2.2.2.1 i hi), fun i hi => Eq.trans (gI_n (Or.inl (by decide))) (m.2.2.2.2.2.1 i hi), fun i hi => Eq.trans (gI_n (Or.inl (by decide))) (m.2.2.2.2.2.2.1 i hi), fun i hi => Eq.trans (gI_n (Or.inl (by decide))) (m.2.2.2.2.2.2.2 i hi)⟩, w, ⟨Eq.trans (gI_n (Or.inr (by decide))) (Eq.trans h.1 (Eq.symm (congrArg nI (aI_n (Or.inl (by decide)))))), Eq.trans (gI_n (Or.inr (by decide))) (Eq.trans h.2.1 (Eq.symm (congrArg nI (aI_n (Or.inl (by decide)))))), fun j hj => Eq.trans (gI_n (Or.inl (by decide))) (Eq.trans (h.2.2.1 j hj) (Eq.symm (congrArg nI (aI_n (Or.inl (by decide)))))), fun j hj => Eq.trans (gI_n (Or.inl (by decide))) (Eq.trans (h.2.2.2.1 j hj) (Eq.symm (congrArg nI (aI_n (Or.inl (by decide)))))), Eq.trans gI_s (Eq.symm (congrArg nI (aI_s))), fun k hk => h.2.2.2.2.2.1 k hk, h.2.2.2.2.2.2.1, fun k hk => h.2.2.2.2.2.2.2.1 k hk, h.2.2.2.2.2.2.2.2.1, fun j hj => Eq.trans (gI_n (Or.inl (by decide))) (h.2.2.2.2.2.2.2.2.2 j hj)⟩, ⟨aI_le_n (x := 0) (a := 4) (by decide) b.1, aI_le_n (x := 1) (a := 4) (by decide) b.2.1, fun j => aI_le_n (x := 2) (a := 4) (by decide) (b.2.2.1 j), fun j => aI_le_n (x := 3) (a := 4) (by decide) (b.2.2.2.1 j), aI_le_k hv b.2.2.2.2⟩, ⟨fun o ho k => (gI_n (Or.inl (by rintro rfl; simp at ho))).trans (q.1 o ho k), fun k hk => (gI_n (Or.inr (by rintro rfl; simp at hk))).trans (q.2.1 k hk), fun o ho k => q.2.2.1 o ho k, fun o ho k => q.2.2.2.1 o ho k, q.2.2.2.2⟩⟩
theorem MX.w {σ0 σ : fr_S} {F : Nat → Nat → Nat} {A : VM} (H : MX σ0 σ F A) {k : Nat} {v : Int64} (hk : k < 60) : MX σ0 (sL σ 738 k v) F (aW A k v) := by
  obtain ⟨r, m, w, h, b, q⟩ := H
  exact ⟨r, ⟨m.1, m.2.1, fun i hi => m.2.2.1 i hi, fun i hi => m.2.2.2.1 i hi, fun i hi => m.2.2.2.2.1 i hi, fun i hi => m.2.2.2.2.2.1 i hi, fun i hi => m.2.2.2.2.2.2.1 i hi, fun i hi => m.2.2.2.2.2.2.2 i hi⟩, w, ⟨h.1, h.2.1, fun k hk => h.2.2.1 k hk, fun k hk => h.2.2.2.1 k hk, h.2.2.2.2.1, fun j hj => if e : j = k then (by subst e; exact Eq.trans gL_s (Eq.symm (aW_s))) else Eq.trans (gL_n (Or.inr e)) (Eq.trans (h.2.2.2.2.2.1 j hj) (Eq.symm (aW_n e))), Eq.trans (gL_n (Or.inl (by decide))) (Eq.trans h.2.2.2.2.2.2.1 (Eq.symm (aW_n (by omega)))), fun k hk => h.2.2.2.2.2.2.2.1 k hk, h.2.2.2.2.2.2.2.2.1, fun k hk => h.2.2.2.2.2.2.2.2.2 k hk⟩, b, ⟨fun o ho k => q.1 o ho k, fun k hk => q.2.1 k hk, fun o ho k => (gL_n (Or.inl (by rintro rfl; simp at ho))).trans (q.2.2.1 o ho k), fun o ho k => q.2.2.2.1 o ho k, q.2.2.2.2⟩⟩
theorem MX.ow {σ0 σ : fr_S} {F : Nat → Nat → Nat} {A : VM} (H : MX σ0 σ F A) {v : Int64} : MX σ0 (sL σ 717 33 v) F (aW A 60 v) := by
  obtain ⟨r, m, w, h, b, q⟩ := H
  exact ⟨r, ⟨m.1, m.2.1, fun i hi => m.2.2.1 i hi, fun i hi => m.2.2.2.1 i hi, fun i hi => m.2.2.2.2.1 i hi, fun i hi => m.2.2.2.2.2.1 i hi, fun i hi => m.2.2.2.2.2.2.1 i hi, fun i hi => m.2.2.2.2.2.2.2 i hi⟩, w, ⟨h.1, h.2.1, fun k hk => h.2.2.1 k hk, fun k hk => h.2.2.2.1 k hk, h.2.2.2.2.1, fun j hj => Eq.trans (gL_n (Or.inl (by decide))) (Eq.trans (h.2.2.2.2.2.1 j hj) (Eq.symm (aW_n (by omega)))), Eq.trans gL_s (Eq.symm (aW_s)), fun k hk => h.2.2.2.2.2.2.2.1 k hk, h.2.2.2.2.2.2.2.2.1, fun k hk => h.2.2.2.2.2.2.2.2.2 k hk⟩, b, ⟨fun o ho k => q.1 o ho k, fun k hk => q.2.1 k hk, fun o ho k => (gL_n (Or.inl (by rintro rfl; simp at ho))).trans (q.2.2.1 o ho k), fun o ho k => q.2.2.2.1 o ho k, q.2.2.2.2⟩⟩
theorem MX.d {σ0 σ : fr_S} {F : Nat → Nat → Nat} {A : VM} (H : MX σ0 σ F A) {k : Nat} {v : UInt64} (hk : k < 60) : MX σ0 (sD σ 739 k v) F (aD A k v) := by
  obtain ⟨r, m, w, h, b, q⟩ := H
  exact ⟨r, ⟨m.1, m.2.1, fun i hi => m.2.2.1 i hi, fun i hi => m.2.2.2.1 i hi, fun i hi => m.2.2.2.2.1 i hi, fun i hi => m.2.2.2.2.2.1 i hi, fun i hi => m.2.2.2.2.2.2.1 i hi, fun i hi => m.2.2.2.2.2.2.2 i hi⟩, w, ⟨h.1, h.2.1, fun k hk => h.2.2.1 k hk, fun k hk => h.2.2.2.1 k hk, h.2.2.2.2.1, fun k hk => h.2.2.2.2.2.1 k hk, h.2.2.2.2.2.2.1, fun j hj => if e : j = k then (by subst e; exact Eq.trans gD_s (Eq.symm (aD_s))) else Eq.trans (gD_n (Or.inr e)) (Eq.trans (h.2.2.2.2.2.2.2.1 j hj) (Eq.symm (aD_n e))), Eq.trans (gD_n (Or.inl (by decide))) (Eq.trans h.2.2.2.2.2.2.2.2.1 (Eq.symm (aD_n (by omega)))), fun k hk => h.2.2.2.2.2.2.2.2.2 k hk⟩, b, ⟨fun o ho k => q.1 o ho k, fun k hk => q.2.1 k hk, fun o ho k => q.2.2.1 o ho k, fun o ho k => (gD_n (Or.inl (by rintro rfl; simp at ho))).trans (q.2.2.2.1 o ho k), q.2.2.2.2⟩⟩
theorem MX.od {σ0 σ : fr_S} {F : Nat → Nat → Nat} {A : VM} (H : MX σ0 σ F A) {v : UInt64} : MX σ0 (sD σ 717 34 v) F (aD A 60 v) := by
  obtain ⟨r, m, w, h, b, q⟩ := H
  exact ⟨r, ⟨m.1, m.2.1, fun i hi => m.2.2.1 i hi, fun i hi => m.2.2.2.1 i hi, fun i hi => m.2.2.2.2.1 i hi, fun i hi => m.2.2.2.2.2.1 i hi, fun i hi => m.2.2.2.2.2.2.1 i hi, fun i hi => m.2.2.2.2.2.2.2 i hi⟩, w, ⟨h.1, h.2.1, fun k hk => h.2.2.1 k hk, fun k hk => h.2.2.2.1 k hk, h.2.2.2.2.1, fun k hk => h.2.2.2.2.2.1 k hk, h.2.2.2.2.2.2.1, fun j hj => Eq.trans (gD_n (Or.inl (by decide))) (Eq.trans (h.2.2.2.2.2.2.2.1 j hj) (Eq.symm (aD_n (by omega)))), Eq.trans gD_s (Eq.symm (aD_s)), fun k hk => h.2.2.2.2.2.2.2.2.2 k hk⟩, b, ⟨fun o ho k => q.1 o ho k, fun k hk => q.2.1 k hk, fun o ho k => q.2.2.1 o ho k, fun o ho k => (gD_n (Or.inl (by rintro rfl; simp at ho))).trans (q.2.2.2.1 o ho k), q.2.2.2.2⟩⟩
theorem MX.f {σ0 σ : fr_S} {F : Nat → Nat → Nat} {A : VM} (H : MX σ0 σ F A) {k : Nat} {v : Int32} : MX σ0 (sI σ 740 k v) F (aF A k v) := by
  obtain ⟨r, m, w, h, b, q⟩ := H
  exact ⟨r, ⟨Eq.trans (gI_n (Or.inl (by decide))) m.1, Eq.trans (gI_n (Or.inl (by decide))) m.2.1, fun i hi => Eq.trans (gI_n (Or.inl (by decide))) (m.2.2.1 i hi), fun i hi => Eq.trans (gI_n (Or.inl (by decide))) (m.2.2.2.1 i hi), fun i hi => Eq.trans (gI_n (Or.inl (by decide))) (m.2.2.2.2.1 i hi), fun i hi => Eq.trans (gI_n (Or.inl (by decide))) (m.2.2.2.2.2.1 i hi), fun i hi => Eq.trans (gI_n (Or.inl (by decide))) (m.2.2.2.2.2.2.1 i hi), fun i hi => Eq.trans (gI_n (Or.inl (by decide))) (m.2.2.2.2.2.2.2 i hi)⟩, w, ⟨Eq.trans (gI_n (Or.inl (by decide))) h.1, Eq.trans (gI_n (Or.inl (by decide))) h.2.1, fun j hj => Eq.trans (gI_n (Or.inl (by decide))) (h.2.2.1 j hj), fun j hj => Eq.trans (gI_n (Or.inl (by decide))) (h.2.2.2.1 j hj), Eq.trans (gI_n (Or.inl (by decide))) h.2.2.2.2.1, fun k hk => h.2.2.2.2.2.1 k hk, h.2.2.2.2.2.2.1, fun k hk => h.2.2.2.2.2.2.2.1 k hk, h.2.2.2.2.2.2.2.2.1, fun j hj => if e : j = k then (by subst e; exact Eq.trans gI_s (Eq.symm (aF_s))) else Eq.trans (gI_n (Or.inr e)) (Eq.trans (h.2.2.2.2.2.2.2.2.2 j hj) (Eq.symm (aF_n e)))⟩, b, ⟨fun o ho k => (gI_n (Or.inl (by rintro rfl; simp at ho))).trans (q.1 o ho k), fun k hk => (gI_n (Or.inl (by decide))).trans (q.2.1 k hk), fun o ho k => q.2.2.1 o ho k, fun o ho k => q.2.2.2.1 o ho k, q.2.2.2.2⟩⟩
set_option maxRecDepth 100000 in
set_option maxHeartbeats 1000000 in
theorem m_base {l : Launch} {G : fr_G} {σ : fr_S} {σ0 : fr_S} {F : Nat → Nat → Nat} {A : VM} (hX : MX σ0 σ F A) (hd : 1 ≤ A.1 1 0) : CT l G yy_Mo_base rm_Mo_base [.ref (717)] σ (some (.int (nI (bs A)))) (σ) := by
  intro Post hp0
  have hp := hp0
  show PX l G yy_Mo_base rm_Mo_base _ false 742 0 0 0 [(0, .ref (717))] [] σ
  have b6 := hX.2.2.2.2.1.2.1
  refine px_bipush (v := 10) dx_Mo_base_0 rfl ?_
  refine px_aload_n dx_Mo_base_2 rfl ?_
  refine px_getI dx_Mo_base_3 fl_Mo_130 rfl (by decide) rfl ?_
  refine px_eqi (y := nI (A.1 1 0)) hX.2.2.2.1.2.1 ?_
  refine px_iconst (v := 1) dx_Mo_base_6 rfl ?_
  refine px_isubN (a := A.1 1 0) (b := 1) dx_Mo_base_7 (by omega) ?_
  refine px_imulN (a := 10) (b := (A.1 1 0) - 1) dx_Mo_base_8 ?_
  exact px_iret dx_Mo_base_9 rfl (by exact hp)
set_option maxRecDepth 100000 in
set_option maxHeartbeats 1000000 in
theorem m_wholeOf {l : Launch} {G : fr_G} {σ : fr_S} {σ0 : fr_S} {F : Nat → Nat → Nat} {A : VM} (hX : MX σ0 σ F A) (hd : 1 ≤ A.1 1 0) {r : Nat} (hr : r < 10) : CT l G yy_Mo_wholeOf rm_Mo_wholeOf [.ref (717), .int (nI (r))] σ (some (.long (gW A r))) (σ) := by
  intro Post hp0
  have hp := hp0
  show PX l G yy_Mo_wholeOf rm_Mo_wholeOf _ false 742 0 0 0 [(0, .ref (717)), (1, .int (nI (r)))] [] σ
  have b6 := hX.2.2.2.2.1.2.1
  have e60 : bs A + r < 60 := by unfold bs; omega
  refine px_aload_n dx_Mo_wholeOf_0 rfl ?_
  refine px_getR (r := 738) dx_Mo_wholeOf_1 fl_Mo_77 rfl (by decide) rfl (hX.1 30) ?_
  refine px_aload_n dx_Mo_wholeOf_4 rfl ?_
  refine px_cV (Y := yy_Mo_wholeOf) (Yc := yy_Mo_base) (b := 717) (As := []) dx_Mo_wholeOf_5 ml_Mo_312 mv_Mo_base np_Mo_base ⟨_, rfl⟩ (by decide) rfl (by decide) rfl (Nat.le_of_ble_eq_true rfl) (Nat.le_of_ble_eq_true rfl) rk_Mo_wholeOf_Mo_base rfl (m_base (A := A) hX (by assumption)) zz_0 ?_
  refine px_iload_n dx_Mo_wholeOf_8 rfl ?_
  refine px_iaddN (a := bs A) (b := r) dx_Mo_wholeOf_9 ?_
  refine px_laldN (j := (bs A) + r) dx_Mo_wholeOf_10 rfl (by decide) (by omega) ?_
  refine px_eql (y := A.2.1 ((bs A) + r)) (hX.2.2.2.1.2.2.2.2.2.1 ((bs A) + r) (by omega)) ?_
  exact px_lret dx_Mo_wholeOf_11 rfl (by exact hp)
set_option maxRecDepth 100000 in
set_option maxHeartbeats 1000000 in
theorem m_realOf {l : Launch} {G : fr_G} {σ : fr_S} {σ0 : fr_S} {F : Nat → Nat → Nat} {A : VM} (hX : MX σ0 σ F A) (hd : 1 ≤ A.1 1 0) {r : Nat} (hr : r < 10) : CT l G yy_Mo_realOf rm_Mo_realOf [.ref (717), .int (nI (r))] σ (some (.double (gE A r))) (σ) := by
  intro Post hp0
  have hp := hp0
  show PX l G yy_Mo_realOf rm_Mo_realOf _ false 742 0 0 0 [(0, .ref (717)), (1, .int (nI (r)))] [] σ
  have b6 := hX.2.2.2.2.1.2.1
  have e60 : bs A + r < 60 := by unfold bs; omega
  refine px_aload_n dx_Mo_realOf_0 rfl ?_
  refine px_getR (r := 739) dx_Mo_realOf_1 fl_Mo_80 rfl (by decide) rfl (hX.1 31) ?_
  refine px_aload_n dx_Mo_realOf_4 rfl ?_
  refine px_cV (Y := yy_Mo_realOf) (Yc := yy_Mo_base) (b := 717) (As := []) dx_Mo_realOf_5 ml_Mo_312 mv_Mo_base np_Mo_base ⟨_, rfl⟩ (by decide) rfl (by decide) rfl (Nat.le_of_ble_eq_true rfl) (Nat.le_of_ble_eq_true rfl) rk_Mo_realOf_Mo_base rfl (m_base (A := A) hX (by assumption)) zz_0 ?_
  refine px_iload_n dx_Mo_realOf_8 rfl ?_
  refine px_iaddN (a := bs A) (b := r) dx_Mo_realOf_9 ?_
  refine px_daldN (j := (bs A) + r) dx_Mo_realOf_10 rfl (by decide) (by omega) ?_
  refine px_eqd (y := A.2.2.1 ((bs A) + r)) (hX.2.2.2.1.2.2.2.2.2.2.2.1 ((bs A) + r) (by omega)) ?_
  exact px_dret dx_Mo_realOf_11 rfl (by exact hp)
set_option maxRecDepth 100000 in
set_option maxHeartbeats 1000000 in
theorem m_setWhole {l : Launch} {G : fr_G} {σ : fr_S} {σ0 : fr_S} {F : Nat → Nat → Nat} {A : VM} (hX : MX σ0 σ F A) (hd : 1 ≤ A.1 1 0) {r : Nat} (hr : r < 10) {v : Int64} : CR l G yy_Mo_setWhole rm_Mo_setWhole [.ref (717), .int (nI (r)), .long (v)] σ (fun r0 σ' => r0 = none ∧ MX σ0 σ' F (stW A r v)) := by
  intro Post hp0
  show PX l G yy_Mo_setWhole rm_Mo_setWhole _ false 742 0 0 0 [(0, .ref (717)), (1, .int (nI (r))), (2, .long (v))] [] σ
  have b6 := hX.2.2.2.2.1.2.1
  have e60 : bs A + r < 60 := by unfold bs; omega
  refine px_aload_n dx_Mo_setWhole_0 rfl ?_
  refine px_getR (r := 738) dx_Mo_setWhole_1 fl_Mo_77 rfl (by decide) rfl (hX.1 30) ?_
  refine px_aload_n dx_Mo_setWhole_4 rfl ?_
  refine px_cV (Y := yy_Mo_setWhole) (Yc := yy_Mo_base) (b := 717) (As := []) dx_Mo_setWhole_5 ml_Mo_312 mv_Mo_base np_Mo_base ⟨_, rfl⟩ (by decide) rfl (by decide) rfl (Nat.le_of_ble_eq_true rfl) (Nat.le_of_ble_eq_true rfl) rk_Mo_setWhole_Mo_base rfl (m_base (A := A) hX (by assumption)) zz_0 ?_
  refine px_iload_n dx_Mo_setWhole_8 rfl ?_
  refine px_iaddN (a := bs A) (b := r) dx_Mo_setWhole_9 ?_
  refine px_lload_n dx_Mo_setWhole_10 rfl ?_
  refine px_lastN (j := (bs A) + r) dx_Mo_setWhole_11 rfl (by decide) (by omega) ?_
  obtain ⟨A_11, hA_11⟩ : ∃ X, X = aW A ((bs A) + r) v := ⟨_, rfl⟩
  have hX : MX _ (sL σ 738 ((bs A) + r) v) F A_11 := hA_11 ▸ MX.w hX (k := ((bs A) + r)) (v := v) (by omega)
  exact px_vret dx_Mo_setWhole_12 rfl (by exact hp0 _ _ ⟨rfl, (by rw [stW, ← hA_11]; exact hX)⟩)
set_option maxRecDepth 100000 in
set_option maxHeartbeats 1000000 in
theorem m_setReal {l : Launch} {G : fr_G} {σ : fr_S} {σ0 : fr_S} {F : Nat → Nat → Nat} {A : VM} (hX : MX σ0 σ F A) (hd : 1 ≤ A.1 1 0) {r : Nat} (hr : r < 10) {v : UInt64} : CR l G yy_Mo_setReal rm_Mo_setReal [.ref (717), .int (nI (r)), .double (v)] σ (fun r0 σ' => r0 = none ∧ MX σ0 σ' F (stE A r v)) := by
  intro Post hp0
  show PX l G yy_Mo_setReal rm_Mo_setReal _ false 742 0 0 0 [(0, .ref (717)), (1, .int (nI (r))), (2, .double (v))] [] σ
  have b6 := hX.2.2.2.2.1.2.1
  have e60 : bs A + r < 60 := by unfold bs; omega
  refine px_aload_n dx_Mo_setReal_0 rfl ?_
  refine px_getR (r := 739) dx_Mo_setReal_1 fl_Mo_80 rfl (by decide) rfl (hX.1 31) ?_
  refine px_aload_n dx_Mo_setReal_4 rfl ?_
  refine px_cV (Y := yy_Mo_setReal) (Yc := yy_Mo_base) (b := 717) (As := []) dx_Mo_setReal_5 ml_Mo_312 mv_Mo_base np_Mo_base ⟨_, rfl⟩ (by decide) rfl (by decide) rfl (Nat.le_of_ble_eq_true rfl) (Nat.le_of_ble_eq_true rfl) rk_Mo_setReal_Mo_base rfl (m_base (A := A) hX (by assumption)) zz_0 ?_
  refine px_iload_n dx_Mo_setReal_8 rfl ?_
  refine px_iaddN (a := bs A) (b := r) dx_Mo_setReal_9 ?_
  refine px_dload_n dx_Mo_setReal_10 rfl ?_
  refine px_dastN (j := (bs A) + r) dx_Mo_setReal_11 rfl (by decide) (by omega) ?_
  obtain ⟨A_11, hA_11⟩ : ∃ X, X = aD A ((bs A) + r) v := ⟨_, rfl⟩
  have hX : MX _ (sD σ 739 ((bs A) + r) v) F A_11 := hA_11 ▸ MX.d hX (k := ((bs A) + r)) (v := v) (by omega)
  exact px_vret dx_Mo_setReal_12 rfl (by exact hp0 _ _ ⟨rfl, (by rw [stE, ← hA_11]; exact hX)⟩)
