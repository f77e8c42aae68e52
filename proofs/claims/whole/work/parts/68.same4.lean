/-! both sides convert alike -/
theorem kvL_e {op : Nat} {w : Int64} {d : UInt64} (h : op ∈ [123, 125, 129, 132, 135, 138, 136, 139]) : kvL op w d = cvL op w d := by
  simp only [List.mem_cons, List.not_mem_nil, or_false] at h
  rcases h with rfl | rfl | rfl | rfl | rfl | rfl | rfl | rfl
  · simp only [kvL, cvL, List.mem_singleton, if_true]
    rw [Int64.toInt32_neg]
  all_goals simp [kvL, cvL]
theorem kvE_e {op : Nat} {w : Int64} {d : UInt64} (h : op ∈ [127, 128, 130, 131, 133, 134, 137, 140]) (hf : op = 127 → ∃ x, fB x ∧ d = FP.f2d x) (hw : op = 130 → ∃ v : Int32, w = v.toInt64) : kvE op w d = cvE op w d := by
  simp only [List.mem_cons, List.not_mem_nil, or_false] at h
  rcases h with rfl | rfl | rfl | rfl | rfl | rfl | rfl | rfl
  · obtain ⟨x, hx, rfl⟩ := hf rfl
    show FP.dneg (FP.f2d x) = FP.f2d (FP.fneg (FP.d2f (FP.f2d x)))
    rw [d2f_f2d hx, dneg_f2d hx]
  · rfl
  · obtain ⟨v, rfl⟩ := hw rfl
    show FP.f2d (FP.l2f v.toInt64) = FP.f2d (FP.i2f v.toInt64.toInt32)
    rw [l2f_32, t32_64]
  all_goals rfl

