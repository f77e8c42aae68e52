/-! the class: a real refused -/
set_option maxRecDepth 100000 in
set_option maxHeartbeats 1000000 in
theorem k_passRN {l : Launch} {G : fr_G} {σ : fr_S} {x : Int32} {v : UInt64} (hr : (¬ x = 3 ∧ ¬ x = 4) ∨ ¬ inR v) : CT l G yy_V_passReal rm_V_passReal [.ref (0), .int (x), .double (v)] σ (some (.int (0))) (σ) := by
  intro Post hp0
  have hp := hp0
  show PX l G yy_V_passReal rm_V_passReal _ false 742 0 0 0 [(0, .ref (0)), (1, .int (x)), (2, .double (v))] [] σ
  refine px_dload_n dx_V_passReal_0 rfl ?_
  refine px_ldc2d dx_V_passReal_1 kk_V_80 ?_
  refine px_dcmp dx_V_passReal_4 ?_
  refine px_if_lt dx_V_passReal_5 (fun c_5 => ?_) (fun c_5 => ?_)
  · refine px_iconst (v := 0) dx_V_passReal_16 rfl ?_
    exact px_zret dx_V_passReal_17 rfl (by decide) (by exact hp)
  · refine px_dload_n dx_V_passReal_8 rfl ?_
    refine px_ldc2d dx_V_passReal_9 kk_V_82 ?_
    refine px_dcmp dx_V_passReal_12 ?_
    refine px_if_le dx_V_passReal_13 (fun c_13 => ?_) (fun c_13 => ?_)
    · refine px_iload_n dx_V_passReal_18 rfl ?_
      refine px_iconst (v := 3) dx_V_passReal_19 rfl ?_
      refine px_icmp_ne dx_V_passReal_20 (fun c_20 => ?_) (fun c_20 => ?_)
      · refine px_iload_n dx_V_passReal_36 rfl ?_
        refine px_iconst (v := 4) dx_V_passReal_37 rfl ?_
        refine px_icmp_ne dx_V_passReal_38 (fun c_38 => ?_) (fun c_38 => ?_)
        · refine px_iconst (v := 0) dx_V_passReal_58 rfl ?_
          exact px_zret dx_V_passReal_59 rfl (by decide) (by exact hp)
        · exact hr.elim (fun z => absurd c_38 z.2) (fun z => absurd ⟨c_5, c_13⟩ z)
      · exact hr.elim (fun z => absurd c_20 z.1) (fun z => absurd ⟨c_5, c_13⟩ z)
    · refine px_iconst (v := 0) dx_V_passReal_16 rfl ?_
      exact px_zret dx_V_passReal_17 rfl (by decide) (by exact hp)
