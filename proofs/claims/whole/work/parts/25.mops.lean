/-! a float of the pool -/
section LDCW
variable {p : Program} {l : Launch} {e : Env} {R : Room} {s : State} {m : MethodId} {args : Array Value} {below : List Frame} {meth : Method} {c : Code}
theorem va_ldcwF {T : State} {locs : List Loc} {cells slots : Nat} (X : Stand p l e R s m args below meth c T locs cells slots) (hexec : p.tables.exec = Jvm.exec) {own : String} {index : Nat} {v : UInt32} (hown : s.vm.findClass own = some m.cls)
    (hconst : (Jvm.Cond.constantFloat own index v).before args s = true) {g : JFrame} (hg : g.method = m) (hdg : decode c.code g.pc = .ok (.ldc_w index, 3)) :
    ∀ target, Steps p.tables e below (T.setTop { g with pc := g.pc + 3, stack := .float v :: g.stack }) target → Steps p.tables e below (T.setTop g) target := by
  obtain ⟨k, cf, hk, hcf, hcp⟩ := Cond.constantFloat_spec hown hconst
  obtain ⟨k', hk', he⟩ := X.warmed.alike.2.2 _ _ hk
  intro target hrest
  subst hg
  jvm_step X.here [hexec, hdg, ldc_w.wp_float (s := T) (f := g) X.here.top hk' (by rw [he]; exact hcf) hcp]
  exact hrest
end LDCW
theorem px_ldcwf {l : Launch} {G : fr_G} {Y : fr_Y} {R : Room} {QF : List Frame → Array Value → State → State → Prop} {ex : Bool} {n k sl pc pc' : Nat} {lv : List (Nat × Value)} {st : List Value} {σ : fr_S} {i : Nat} {v : UInt32} (hd : dc Y.2.1 pc (.ldc_w i) 3 pc') (hw : Jvm.Cond.constantFloat Y.1.cls i v ∈ al_W) (h : PX l G Y R QF ex n k sl pc' lv (.float v :: st) σ) : PX l G Y R QF ex n k sl pc lv st σ := by
  intro p e s m args below meth c H locs ls C hl hP hS
  obtain ⟨hd, rfl⟩ := hd
  intro T hT X
  obtain ⟨t, a, b⟩ := h p e s m args below meth c H locs ls C hl hP hS T hT X
  exact ⟨t, va_ldcwF X C.1 C.2.2.2.2.1 (C.2.2.2.2.2.1 _ hw) (g := F0 m pc ls (st.map (cv G))) rfl (by rw [C.2.1]; exact hd) t a, b⟩
/-! the reference: what instructions do -/
def hdO (how : Nat) (a b : Int32) : Bool := if how ∈ [0] then decide (a = b) else if how ∈ [1] then decide (¬ a = b) else if how ∈ [2] then decide (a < b) else if how ∈ [3] then decide (b ≤ a) else if how ∈ [4] then decide (b < a) else decide (a ≤ b)
def jI (op : Nat) (a b : Int32) : Int32 := if op ∈ [144] then a + b else if op ∈ [145] then a - b else if op ∈ [146] then a * b else if op ∈ [147] then a / b else if op ∈ [148] then a - a / b * b else if op ∈ [149] then a &&& b else if op ∈ [150] then a ||| b else if op ∈ [151] then a ^^^ b
  else if op ∈ [152] then a <<< (b &&& 31) else if op ∈ [153] then a >>> (b &&& 31) else (a.toUInt32 >>> (b.toUInt32 &&& Int32.toUInt32 31)).toInt32
def jL (op : Nat) (a b : Int64) : Int64 := if op ∈ [155] then a + b else if op ∈ [156] then a - b else if op ∈ [157] then a * b else if op ∈ [158] then a / b else a - a / b * b
def jF0 (op : Nat) (a b : UInt32) : UInt32 := if op = 166 then FP.fadd a b else if op = 167 then FP.fsub a b else if op = 168 then FP.fmul a b else FP.fdiv a b
def jD0 (op : Nat) (a b : UInt64) : UInt64 := if op = 171 then FP.dadd a b else if op = 172 then FP.dsub a b else if op = 173 then FP.dmul a b else FP.ddiv a b
/-- what is too great is 0 -/
def hlF (v : UInt32) : UInt32 := if 0 < Op.cmpValue (FP.fcmp v 1568669696) .l then 0 else if Op.cmpValue (FP.fcmp v 3716153344) .g < 0 then 0 else v
def hlD (v : UInt64) : UInt64 := if 0 < Op.cmpValue (FP.dcmp v 4877398396442247168) .l then 0 else if Op.cmpValue (FP.dcmp v 14100770433297022976) .g < 0 then 0 else v
def jF (op : Nat) (a b : UInt32) : UInt32 := if op = 169 ∧ Op.cmpValue (FP.fcmp b 0) .l = 0 then 0 else hlF (jF0 op a b)
def jD (op : Nat) (a b : UInt64) : UInt64 := if op = 174 ∧ Op.cmpValue (FP.dcmp b 0) .l = 0 then 0 else hlD (jD0 op a b)
def cvL (op : Nat) (v : Int64) (d : UInt64) : Int64 := if op ∈ [123] then (-v).toInt32.toInt64 else if op ∈ [125] then -v else if op ∈ [129] then v else if op ∈ [132] then v.toInt32.toInt64 else if op ∈ [135, 138] then (FP.d2i d).toInt64 else FP.d2l d
def cvE (op : Nat) (v : Int64) (d : UInt64) : UInt64 := if op ∈ [127] then FP.f2d (FP.fneg (FP.d2f d)) else if op ∈ [128] then FP.dneg d else if op ∈ [130] then FP.f2d (FP.i2f v.toInt32) else if op ∈ [131, 134] then FP.l2d v else if op ∈ [133] then FP.f2d (FP.l2f v) else if op ∈ [137] then d else FP.f2d (FP.d2f d)
def cvW (op : Nat) : Bool := decide (op ∈ [123, 125, 129, 132, 135, 138, 136, 139])
def cvA (A : VM) (op a b : Nat) : VM := if cvW op = true then stW A a (cvL op (gW A b) (gE A b)) else stE A a (cvE op (gW A b) (gE A b))
def dvO (op : Nat) : Bool := op = 147 || op = 148 || op = 158 || op = 159
def jnA (A : VM) (op to c d : Nat) : VM := if jnO op = 1 then stW A to (jI op (gW A c).toInt32 (gW A d).toInt32).toInt64 else if jnO op = 2 then stW A to (jL op (gW A c) (gW A d)) else if jnO op = 3 then stE A to (FP.f2d (jF op (FP.d2f (gE A c)) (FP.d2f (gE A d)))) else stE A to (jD op (gE A c) (gE A d))
def cmL (op : Nat) (A : VM) (c d : Nat) : Int32 := if op = 49 then (if lg_cmp (gW A c) (gW A d) < 0 then -1 else if lg_cmp (gW A c) (gW A d) = 0 then 0 else 1) else (if Op.cmpValue (FP.dcmp (gE A c) (gE A d)) .g < 0 then -1 else if Op.cmpValue (FP.dcmp (gE A c) (gE A d)) .l = 0 then 0 else 1)
theorem ge_lt {a b : Int32} (h : ¬ b ≤ a) : a < b := by
  rw [Int32.lt_iff_toInt_lt]
  rw [Int32.le_iff_toInt_le] at h
  omega
theorem lt_ge {a b : Int32} (h : ¬ a < b) : b ≤ a := by
  rw [Int32.le_iff_toInt_le]
  rw [Int32.lt_iff_toInt_lt] at h
  omega
theorem lt_nge {a b : Int32} (h : a < b) : ¬ b ≤ a := by
  rw [Int32.le_iff_toInt_le]
  rw [Int32.lt_iff_toInt_lt] at h
  omega
theorem not_lt_ge {a b : Int32} (h : b ≤ a) : ¬ a < b := by
  rw [Int32.lt_iff_toInt_lt]
  rw [Int32.le_iff_toInt_le] at h
  omega

set_option maxRecDepth 100000 in
set_option maxHeartbeats 1000000 in
theorem m_holds {l : Launch} {G : fr_G} {σ : fr_S} {how : Nat} (hh : how < 256) {a b : Int32} : CT l G yy_Mo_holds rm_Mo_holds [.int (nI (how)), .int (a), .int (b)] σ (some (.int (b2i (hdO how a b)))) (σ) := by
  intro Post hp0
  have hp := hp0
  show PX l G yy_Mo_holds rm_Mo_holds _ false 742 0 0 0 [(0, .int (nI (how))), (1, .int (a)), (2, .int (b))] [] σ
  refine px_iload_n dx_Mo_holds_0 rfl ?_
  by_cases k_1_0 : how ∈ ([0] : List Nat)
  · refine px_tabG (e := how) (off := 35) [0] dx_Mo_holds_1 (by omega) k_1_0 (by decide) rfl ?_
    refine px_iload_n dx_Mo_holds_36 rfl ?_
    refine px_iload_n dx_Mo_holds_37 rfl ?_
    refine px_icmp_ne dx_Mo_holds_38 (fun c_38 => ?_) (fun c_38 => ?_)
    · refine px_iconst (v := 0) dx_Mo_holds_45 rfl ?_
      exact px_zret dx_Mo_holds_46 rfl (by decide) (by (have e : hdO how a b = false := by (simp only [hdO]; simp only [k_1_0,  if_true, if_false]; first | (simp [c_38]; done) | (simp [ge_lt c_38]; done) | (simp [not_lt_ge c_38]; done) | (simp [lt_ge c_38]; done) | (simp [lt_nge c_38]; done))); rw [e] at hp; exact hp)
    · refine px_iconst (v := 1) dx_Mo_holds_41 rfl ?_
      refine px_goto dx_Mo_holds_42 ?_
      exact px_zret dx_Mo_holds_46 rfl (by decide) (by (have e : hdO how a b = true := by (simp only [hdO]; simp only [k_1_0,  if_true, if_false]; first | (simp [c_38]; done) | (simp [ge_lt c_38]; done) | (simp [not_lt_ge c_38]; done) | (simp [lt_ge c_38]; done) | (simp [lt_nge c_38]; done))); rw [e] at hp; exact hp)
  by_cases k_1_1 : how ∈ ([1] : List Nat)
  · refine px_tabG (e := how) (off := 46) [1] dx_Mo_holds_1 (by omega) k_1_1 (by decide) rfl ?_
    refine px_iload_n dx_Mo_holds_47 rfl ?_
    refine px_iload_n dx_Mo_holds_48 rfl ?_
    refine px_icmp_eq dx_Mo_holds_49 (fun c_49 => ?_) (fun c_49 => ?_)
    · refine px_iconst (v := 0) dx_Mo_holds_56 rfl ?_
      exact px_zret dx_Mo_holds_57 rfl (by decide) (by (have e : hdO how a b = false := by (simp only [hdO]; simp only [k_1_0, k_1_1,  if_true, if_false]; first | (simp [c_49]; done) | (simp [ge_lt c_49]; done) | (simp [not_lt_ge c_49]; done) | (simp [lt_ge c_49]; done) | (simp [lt_nge c_49]; done))); rw [e] at hp; exact hp)
    · refine px_iconst (v := 1) dx_Mo_holds_52 rfl ?_
      refine px_goto dx_Mo_holds_53 ?_
      exact px_zret dx_Mo_holds_57 rfl (by decide) (by (have e : hdO how a b = true := by (simp only [hdO]; simp only [k_1_0, k_1_1,  if_true, if_false]; first | (simp [c_49]; done) | (simp [ge_lt c_49]; done) | (simp [not_lt_ge c_49]; done) | (simp [lt_ge c_49]; done) | (simp [lt_nge c_49]; done))); rw [e] at hp; exact hp)
  by_cases k_1_2 : how ∈ ([2] : List Nat)
  · refine px_tabG (e := how) (off := 57) [2] dx_Mo_holds_1 (by omega) k_1_2 (by decide) rfl ?_
    refine px_iload_n dx_Mo_holds_58 rfl ?_
    refine px_iload_n dx_Mo_holds_59 rfl ?_
    refine px_icmp_ge dx_Mo_holds_60 (fun c_60 => ?_) (fun c_60 => ?_)
    · refine px_iconst (v := 0) dx_Mo_holds_67 rfl ?_
      exact px_zret dx_Mo_holds_68 rfl (by decide) (by (have e : hdO how a b = false := by (simp only [hdO]; simp only [k_1_0, k_1_1, k_1_2,  if_true, if_false]; first | (simp [c_60]; done) | (simp [ge_lt c_60]; done) | (simp [not_lt_ge c_60]; done) | (simp [lt_ge c_60]; done) | (simp [lt_nge c_60]; done))); rw [e] at hp; exact hp)
    · refine px_iconst (v := 1) dx_Mo_holds_63 rfl ?_
      refine px_goto dx_Mo_holds_64 ?_
      exact px_zret dx_Mo_holds_68 rfl (by decide) (by (have e : hdO how a b = true := by (simp only [hdO]; simp only [k_1_0, k_1_1, k_1_2,  if_true, if_false]; first | (simp [c_60]; done) | (simp [ge_lt c_60]; done) | (simp [not_lt_ge c_60]; done) | (simp [lt_ge c_60]; done) | (simp [lt_nge c_60]; done))); rw [e] at hp; exact hp)
  by_cases k_1_3 : how ∈ ([3] : List Nat)
  · refine px_tabG (e := how) (off := 68) [3] dx_Mo_holds_1 (by omega) k_1_3 (by decide) rfl ?_
    refine px_iload_n dx_Mo_holds_69 rfl ?_
    refine px_iload_n dx_Mo_holds_70 rfl ?_
    refine px_icmp_lt dx_Mo_holds_71 (fun c_71 => ?_) (fun c_71 => ?_)
    · refine px_iconst (v := 0) dx_Mo_holds_78 rfl ?_
      exact px_zret dx_Mo_holds_79 rfl (by decide) (by (have e : hdO how a b = false := by (simp only [hdO]; simp only [k_1_0, k_1_1, k_1_2, k_1_3,  if_true, if_false]; first | (simp [c_71]; done) | (simp [ge_lt c_71]; done) | (simp [not_lt_ge c_71]; done) | (simp [lt_ge c_71]; done) | (simp [lt_nge c_71]; done))); rw [e] at hp; exact hp)
    · refine px_iconst (v := 1) dx_Mo_holds_74 rfl ?_
      refine px_goto dx_Mo_holds_75 ?_
      exact px_zret dx_Mo_holds_79 rfl (by decide) (by (have e : hdO how a b = true := by (simp only [hdO]; simp only [k_1_0, k_1_1, k_1_2, k_1_3,  if_true, if_false]; first | (simp [c_71]; done) | (simp [ge_lt c_71]; done) | (simp [not_lt_ge c_71]; done) | (simp [lt_ge c_71]; done) | (simp [lt_nge c_71]; done))); rw [e] at hp; exact hp)
  by_cases k_1_4 : how ∈ ([4] : List Nat)
  · refine px_tabG (e := how) (off := 79) [4] dx_Mo_holds_1 (by omega) k_1_4 (by decide) rfl ?_
    refine px_iload_n dx_Mo_holds_80 rfl ?_
    refine px_iload_n dx_Mo_holds_81 rfl ?_
    refine px_icmp_le dx_Mo_holds_82 (fun c_82 => ?_) (fun c_82 => ?_)
    · refine px_iconst (v := 0) dx_Mo_holds_89 rfl ?_
      exact px_zret dx_Mo_holds_90 rfl (by decide) (by (have e : hdO how a b = false := by (simp only [hdO]; simp only [k_1_0, k_1_1, k_1_2, k_1_3, k_1_4,  if_true, if_false]; first | (simp [c_82]; done) | (simp [ge_lt c_82]; done) | (simp [not_lt_ge c_82]; done) | (simp [lt_ge c_82]; done) | (simp [lt_nge c_82]; done))); rw [e] at hp; exact hp)
    · refine px_iconst (v := 1) dx_Mo_holds_85 rfl ?_
      refine px_goto dx_Mo_holds_86 ?_
      exact px_zret dx_Mo_holds_90 rfl (by decide) (by (have e : hdO how a b = true := by (simp only [hdO]; simp only [k_1_0, k_1_1, k_1_2, k_1_3, k_1_4,  if_true, if_false]; first | (simp [c_82]; done) | (simp [ge_lt c_82]; done) | (simp [not_lt_ge c_82]; done) | (simp [lt_ge c_82]; done) | (simp [lt_nge c_82]; done))); rw [e] at hp; exact hp)
  have kn_1 : how ∉ ([0, 1, 2, 3, 4] : List Nat) := by simp only [List.mem_cons, List.not_mem_nil, or_false, not_or] at *; omega
  refine px_tabD (e := how) [0, 1, 2, 3, 4] dx_Mo_holds_1 (by omega) kn_1 4 0 ⟨rfl, rfl⟩ (by decide) rfl ?_
  refine px_iload_n dx_Mo_holds_91 rfl ?_
  refine px_iload_n dx_Mo_holds_92 rfl ?_
  refine px_icmp_gt dx_Mo_holds_93 (fun c_93 => ?_) (fun c_93 => ?_)
  · refine px_iconst (v := 0) dx_Mo_holds_100 rfl ?_
    exact px_zret dx_Mo_holds_101 rfl (by decide) (by (have e : hdO how a b = false := by (simp only [hdO]; simp only [k_1_0, k_1_1, k_1_2, k_1_3, k_1_4,  if_true, if_false]; first | (simp [c_93]; done) | (simp [ge_lt c_93]; done) | (simp [not_lt_ge c_93]; done) | (simp [lt_ge c_93]; done) | (simp [lt_nge c_93]; done))); rw [e] at hp; exact hp)
  · refine px_iconst (v := 1) dx_Mo_holds_96 rfl ?_
    refine px_goto dx_Mo_holds_97 ?_
    exact px_zret dx_Mo_holds_101 rfl (by decide) (by (have e : hdO how a b = true := by (simp only [hdO]; simp only [k_1_0, k_1_1, k_1_2, k_1_3, k_1_4,  if_true, if_false]; first | (simp [c_93]; done) | (simp [ge_lt c_93]; done) | (simp [not_lt_ge c_93]; done) | (simp [lt_ge c_93]; done) | (simp [lt_nge c_93]; done))); rw [e] at hp; exact hp)
set_option maxRecDepth 100000 in
set_option maxHeartbeats 1000000 in
theorem m_joinInts {l : Launch} {G : fr_G} {σ : fr_S} {op : Nat} (hop : op < 256) {a b : Int32} (hz : op = 147 ∨ op = 148 → ¬ b = 0) : CT l G yy_Mo_joinInts rm_Mo_joinInts [.int (nI (op)), .int (a), .int (b)] σ (some (.int (jI op a b))) (σ) := by
  intro Post hp0
  have hp := hp0
  show PX l G yy_Mo_joinInts rm_Mo_joinInts _ false 742 0 0 0 [(0, .int (nI (op))), (1, .int (a)), (2, .int (b))] [] σ
  refine px_iload_n dx_Mo_joinInts_0 rfl ?_
  by_cases k_1_0 : op ∈ ([144] : List Nat)
  · refine px_tabG (e := op) (off := 55) [144] dx_Mo_joinInts_1 (by omega) k_1_0 (by decide) rfl ?_
    refine px_iload_n dx_Mo_joinInts_56 rfl ?_
    refine px_iload_n dx_Mo_joinInts_57 rfl ?_
    refine px_iadd dx_Mo_joinInts_58 ?_
    exact px_iret dx_Mo_joinInts_59 rfl (by (have e : jI op a b = a + b := by simp only [jI, k_1_0,  if_true, if_false]); rw [e] at hp; exact hp)
  by_cases k_1_1 : op ∈ ([145] : List Nat)
  · refine px_tabG (e := op) (off := 59) [145] dx_Mo_joinInts_1 (by omega) k_1_1 (by decide) rfl ?_
    refine px_iload_n dx_Mo_joinInts_60 rfl ?_
    refine px_iload_n dx_Mo_joinInts_61 rfl ?_
    refine px_isub dx_Mo_joinInts_62 ?_
    exact px_iret dx_Mo_joinInts_63 rfl (by (have e : jI op a b = a - b := by simp only [jI, k_1_0, k_1_1,  if_true, if_false]); rw [e] at hp; exact hp)
  by_cases k_1_2 : op ∈ ([146] : List Nat)
  · refine px_tabG (e := op) (off := 63) [146] dx_Mo_joinInts_1 (by omega) k_1_2 (by decide) rfl ?_
    refine px_iload_n dx_Mo_joinInts_64 rfl ?_
    refine px_iload_n dx_Mo_joinInts_65 rfl ?_
    refine px_imul dx_Mo_joinInts_66 ?_
    exact px_iret dx_Mo_joinInts_67 rfl (by (have e : jI op a b = a * b := by simp only [jI, k_1_0, k_1_1, k_1_2,  if_true, if_false]); rw [e] at hp; exact hp)
  by_cases k_1_3 : op ∈ ([147] : List Nat)
  · refine px_tabG (e := op) (off := 67) [147] dx_Mo_joinInts_1 (by omega) k_1_3 (by decide) rfl ?_
    refine px_iload_n dx_Mo_joinInts_68 rfl ?_
    refine px_iload_n dx_Mo_joinInts_69 rfl ?_
    refine px_idiv dx_Mo_joinInts_70 (hz (by first | (left; simpa using k_1_3) | (right; simpa using k_1_3))) ?_
    exact px_iret dx_Mo_joinInts_71 rfl (by (have e : jI op a b = a / b := by simp only [jI, k_1_0, k_1_1, k_1_2, k_1_3,  if_true, if_false]); rw [e] at hp; exact hp)
  by_cases k_1_4 : op ∈ ([148] : List Nat)
  · refine px_tabG (e := op) (off := 71) [148] dx_Mo_joinInts_1 (by omega) k_1_4 (by decide) rfl ?_
    refine px_iload_n dx_Mo_joinInts_72 rfl ?_
    refine px_iload_n dx_Mo_joinInts_73 rfl ?_
    refine px_irem dx_Mo_joinInts_74 (hz (by first | (left; simpa using k_1_4) | (right; simpa using k_1_4))) ?_
    exact px_iret dx_Mo_joinInts_75 rfl (by (have e : jI op a b = a - a / b * b := by simp only [jI, k_1_0, k_1_1, k_1_2, k_1_3, k_1_4,  if_true, if_false]); rw [e] at hp; exact hp)
  by_cases k_1_5 : op ∈ ([149] : List Nat)
  · refine px_tabG (e := op) (off := 75) [149] dx_Mo_joinInts_1 (by omega) k_1_5 (by decide) rfl ?_
    refine px_iload_n dx_Mo_joinInts_76 rfl ?_
    refine px_iload_n dx_Mo_joinInts_77 rfl ?_
    refine px_iand dx_Mo_joinInts_78 ?_
    exact px_iret dx_Mo_joinInts_79 rfl (by (have e : jI op a b = a &&& b := by simp only [jI, k_1_0, k_1_1, k_1_2, k_1_3, k_1_4, k_1_5,  if_true, if_false]); rw [e] at hp; exact hp)
  by_cases k_1_6 : op ∈ ([150] : List Nat)
  · refine px_tabG (e := op) (off := 79) [150] dx_Mo_joinInts_1 (by omega) k_1_6 (by decide) rfl ?_
    refine px_iload_n dx_Mo_joinInts_80 rfl ?_
    refine px_iload_n dx_Mo_joinInts_81 rfl ?_
    refine px_ior dx_Mo_joinInts_82 ?_
    exact px_iret dx_Mo_joinInts_83 rfl (by (have e : jI op a b = a ||| b := by simp only [jI, k_1_0, k_1_1, k_1_2, k_1_3, k_1_4, k_1_5, k_1_6,  if_true, if_false]); rw [e] at hp; exact hp)
  by_cases k_1_7 : op ∈ ([151] : List Nat)
  · refine px_tabG (e := op) (off := 83) [151] dx_Mo_joinInts_1 (by omega) k_1_7 (by decide) rfl ?_
    refine px_iload_n dx_Mo_joinInts_84 rfl ?_
    refine px_iload_n dx_Mo_joinInts_85 rfl ?_
    refine px_ixor dx_Mo_joinInts_86 ?_
    exact px_iret dx_Mo_joinInts_87 rfl (by (have e : jI op a b = a ^^^ b := by simp only [jI, k_1_0, k_1_1, k_1_2, k_1_3, k_1_4, k_1_5, k_1_6, k_1_7,  if_true, if_false]); rw [e] at hp; exact hp)
  by_cases k_1_8 : op ∈ ([152] : List Nat)
  · refine px_tabG (e := op) (off := 87) [152] dx_Mo_joinInts_1 (by omega) k_1_8 (by decide) rfl ?_
    refine px_iload_n dx_Mo_joinInts_88 rfl ?_
    refine px_iload_n dx_Mo_joinInts_89 rfl ?_
    refine px_ishl dx_Mo_joinInts_90 ?_
    exact px_iret dx_Mo_joinInts_91 rfl (by (have e : jI op a b = a <<< (b &&& 31) := by simp only [jI, k_1_0, k_1_1, k_1_2, k_1_3, k_1_4, k_1_5, k_1_6, k_1_7, k_1_8,  if_true, if_false]); rw [e] at hp; exact hp)
  by_cases k_1_9 : op ∈ ([153] : List Nat)
  · refine px_tabG (e := op) (off := 91) [153] dx_Mo_joinInts_1 (by omega) k_1_9 (by decide) rfl ?_
    refine px_iload_n dx_Mo_joinInts_92 rfl ?_
    refine px_iload_n dx_Mo_joinInts_93 rfl ?_
    refine px_ishr dx_Mo_joinInts_94 ?_
    exact px_iret dx_Mo_joinInts_95 rfl (by (have e : jI op a b = a >>> (b &&& 31) := by simp only [jI, k_1_0, k_1_1, k_1_2, k_1_3, k_1_4, k_1_5, k_1_6, k_1_7, k_1_8, k_1_9,  if_true, if_false]); rw [e] at hp; exact hp)
  have kn_1 : op ∉ ([144, 145, 146, 147, 148, 149, 150, 151, 152, 153] : List Nat) := by simp only [List.mem_cons, List.not_mem_nil, or_false, not_or] at *; omega
  refine px_tabD (e := op) [144, 145, 146, 147, 148, 149, 150, 151, 152, 153] dx_Mo_joinInts_1 (by omega) kn_1 9 144 ⟨rfl, rfl⟩ (by decide) rfl ?_
  refine px_iload_n dx_Mo_joinInts_96 rfl ?_
  refine px_iload_n dx_Mo_joinInts_97 rfl ?_
  refine px_iushr dx_Mo_joinInts_98 ?_
  exact px_iret dx_Mo_joinInts_99 rfl (by (have e : jI op a b = (a.toUInt32 >>> (b.toUInt32 &&& Int32.toUInt32 31)).toInt32 := by simp only [jI, k_1_0, k_1_1, k_1_2, k_1_3, k_1_4, k_1_5, k_1_6, k_1_7, k_1_8, k_1_9,  if_true, if_false]); rw [e] at hp; exact hp)
set_option maxRecDepth 100000 in
set_option maxHeartbeats 1000000 in
theorem m_joinLongs {l : Launch} {G : fr_G} {σ : fr_S} {op : Nat} (hop : op < 256) (ho : 155 ≤ op ∧ op ≤ 159) {a b : Int64} (hz : op = 158 ∨ op = 159 → ¬ b = 0) : CT l G yy_Mo_joinLongs rm_Mo_joinLongs [.int (nI (op)), .long (a), .long (b)] σ (some (.long (jL op a b))) (σ) := by
  intro Post hp0
  have hp := hp0
  show PX l G yy_Mo_joinLongs rm_Mo_joinLongs _ false 742 0 0 0 [(0, .int (nI (op))), (1, .long (a)), (3, .long (b))] [] σ
  refine px_iload_n dx_Mo_joinLongs_0 rfl ?_
  by_cases k_1_0 : op ∈ ([155] : List Nat)
  · refine px_tabG (e := op) (off := 31) [155] dx_Mo_joinLongs_1 (by omega) k_1_0 (by decide) rfl ?_
    refine px_lload_n dx_Mo_joinLongs_32 rfl ?_
    refine px_lload_n dx_Mo_joinLongs_33 rfl ?_
    refine px_ladd dx_Mo_joinLongs_34 ?_
    exact px_lret dx_Mo_joinLongs_35 rfl (by (have e : jL op a b = a + b := by simp only [jL, k_1_0,  if_true, if_false]); rw [e] at hp; exact hp)
  by_cases k_1_1 : op ∈ ([156] : List Nat)
  · refine px_tabG (e := op) (off := 35) [156] dx_Mo_joinLongs_1 (by omega) k_1_1 (by decide) rfl ?_
    refine px_lload_n dx_Mo_joinLongs_36 rfl ?_
    refine px_lload_n dx_Mo_joinLongs_37 rfl ?_
    refine px_lsub dx_Mo_joinLongs_38 ?_
    exact px_lret dx_Mo_joinLongs_39 rfl (by (have e : jL op a b = a - b := by simp only [jL, k_1_0, k_1_1,  if_true, if_false]); rw [e] at hp; exact hp)
  by_cases k_1_2 : op ∈ ([157] : List Nat)
  · refine px_tabG (e := op) (off := 39) [157] dx_Mo_joinLongs_1 (by omega) k_1_2 (by decide) rfl ?_
    refine px_lload_n dx_Mo_joinLongs_40 rfl ?_
    refine px_lload_n dx_Mo_joinLongs_41 rfl ?_
    refine px_lmul dx_Mo_joinLongs_42 ?_
    exact px_lret dx_Mo_joinLongs_43 rfl (by (have e : jL op a b = a * b := by simp only [jL, k_1_0, k_1_1, k_1_2,  if_true, if_false]); rw [e] at hp; exact hp)
  by_cases k_1_3 : op ∈ ([158] : List Nat)
  · refine px_tabG (e := op) (off := 43) [158] dx_Mo_joinLongs_1 (by omega) k_1_3 (by decide) rfl ?_
    refine px_lload_n dx_Mo_joinLongs_44 rfl ?_
    refine px_lload_n dx_Mo_joinLongs_45 rfl ?_
    refine px_ldiv dx_Mo_joinLongs_46 (hz (by first | (have q := k_1_3; simp only [List.mem_cons, List.not_mem_nil, or_false] at q; omega) | (have q := kn_1; simp only [List.mem_cons, List.not_mem_nil, or_false, not_or] at q; omega))) ?_
    exact px_lret dx_Mo_joinLongs_47 rfl (by (have e : jL op a b = a / b := by simp only [jL, k_1_0, k_1_1, k_1_2, k_1_3,  if_true, if_false]); rw [e] at hp; exact hp)
  have kn_1 : op ∉ ([155, 156, 157, 158] : List Nat) := by simp only [List.mem_cons, List.not_mem_nil, or_false, not_or] at *; omega
  refine px_tabD (e := op) [155, 156, 157, 158] dx_Mo_joinLongs_1 (by omega) kn_1 3 155 ⟨rfl, rfl⟩ (by decide) rfl ?_
  refine px_lload_n dx_Mo_joinLongs_48 rfl ?_
  refine px_lload_n dx_Mo_joinLongs_49 rfl ?_
  refine px_lrem dx_Mo_joinLongs_50 (hz (by first | (have q := k_1_3; simp only [List.mem_cons, List.not_mem_nil, or_false] at q; omega) | (have q := kn_1; simp only [List.mem_cons, List.not_mem_nil, or_false, not_or] at q; omega))) ?_
  exact px_lret dx_Mo_joinLongs_51 rfl (by (have e : jL op a b = a - a / b * b := by simp only [jL, k_1_0, k_1_1, k_1_2, k_1_3,  if_true, if_false]); rw [e] at hp; exact hp)
set_option maxRecDepth 100000 in
set_option maxHeartbeats 1000000 in
theorem m_joinFloats {l : Launch} {G : fr_G} {σ : fr_S} {op : Nat} (hop : op < 256) (ho : 166 ≤ op ∧ op ≤ 169) {a b : UInt32} (ha : fB a) (hb : fB b) (hb0 : op = 169 → ¬ Op.cmpValue (FP.fcmp b 0) .l = 0 → b.toNat % 2 ^ 31 ≠ 0) : CT l G yy_Mo_joinFloats rm_Mo_joinFloats [.int (nI (op)), .float (a), .float (b)] σ (some (.float (jF op a b))) (σ) := by
  intro Post hp0
  have hp := hp0
  show PX l G yy_Mo_joinFloats rm_Mo_joinFloats _ false 742 0 0 0 [(0, .int (nI (op))), (1, .float (a)), (2, .float (b))] [] σ
  refine px_iload_n dx_Mo_joinFloats_0 rfl ?_
  refine px_sipush (v := 169) dx_Mo_joinFloats_1 rfl ?_
  refine px_icmp_neN (a := op) (b := 169) dx_Mo_joinFloats_4 (by omega) (by omega) (fun c_4 => ?_) (fun c_4 => ?_)
  · refine px_iload_n dx_Mo_joinFloats_15 rfl ?_
    refine px_sipush (v := 166) dx_Mo_joinFloats_16 rfl ?_
    refine px_icmp_neN (a := op) (b := 166) dx_Mo_joinFloats_19 (by omega) (by omega) (fun c_19 => ?_) (fun c_19 => ?_)
    · refine px_iload_n dx_Mo_joinFloats_28 rfl ?_
      refine px_sipush (v := 167) dx_Mo_joinFloats_29 rfl ?_
      refine px_icmp_neN (a := op) (b := 167) dx_Mo_joinFloats_32 (by omega) (by omega) (fun c_32 => ?_) (fun c_32 => ?_)
      · refine px_iload_n dx_Mo_joinFloats_41 rfl ?_
        refine px_sipush (v := 168) dx_Mo_joinFloats_42 rfl ?_
        refine px_icmp_neN (a := op) (b := 168) dx_Mo_joinFloats_45 (by omega) (by omega) (fun c_45 => ?_) (fun c_45 => ?_)
        · refine px_fload_n dx_Mo_joinFloats_54 rfl ?_
          refine px_fload_n dx_Mo_joinFloats_55 rfl ?_
          refine px_fdiv dx_Mo_joinFloats_56 (fdiv_vn ha hb (hb0 (by omega) (by first | assumption | (exfalso; omega)))) ?_
          refine px_fstore_n (lv' := [(3, .float (FP.fdiv a b)), (0, .int (nI (op))), (1, .float (a)), (2, .float (b))]) dx_Mo_joinFloats_57 (by decide) rfl ?_
          refine px_fload_n dx_Mo_joinFloats_58 rfl ?_
          refine px_ldcwf dx_Mo_joinFloats_59 kk_Mo_330 ?_
          refine px_fcmp dx_Mo_joinFloats_62 ?_
          refine px_if_gt dx_Mo_joinFloats_63 (fun c_63 => ?_) (fun c_63 => ?_)
          · refine px_fconst0 dx_Mo_joinFloats_74 ?_
            refine px_goto dx_Mo_joinFloats_75 ?_
            exact px_fret dx_Mo_joinFloats_79 rfl (by (have e : jF op a b = 0 := by (have e0 : jF0 op a b = FP.fdiv a b := (by unfold jF0; (first | rw [if_neg c_19] | rw [if_pos c_19]); (first | rw [if_neg c_32] | rw [if_pos c_32]); (first | rw [if_neg c_45] | rw [if_pos c_45])); (unfold jF; first | rw [if_neg (fun q => c_4 q.1)] | rw [if_neg (fun q => c_10 q.2)]); unfold hlF; rw [e0]; (first | rw [if_pos c_63] | rw [if_neg c_63]))); rw [e] at hp; exact hp)
          · refine px_fload_n dx_Mo_joinFloats_66 rfl ?_
            refine px_ldcwf dx_Mo_joinFloats_67 kk_Mo_331 ?_
            refine px_fcmp dx_Mo_joinFloats_70 ?_
            refine px_if_ge dx_Mo_joinFloats_71 (fun c_71 => ?_) (fun c_71 => ?_)
            · refine px_fload_n dx_Mo_joinFloats_78 rfl ?_
              exact px_fret dx_Mo_joinFloats_79 rfl (by (have e : jF op a b = FP.fdiv a b := by (have e0 : jF0 op a b = FP.fdiv a b := (by unfold jF0; (first | rw [if_neg c_19] | rw [if_pos c_19]); (first | rw [if_neg c_32] | rw [if_pos c_32]); (first | rw [if_neg c_45] | rw [if_pos c_45])); (unfold jF; first | rw [if_neg (fun q => c_4 q.1)] | rw [if_neg (fun q => c_10 q.2)]); unfold hlF; rw [e0]; (first | rw [if_pos c_63] | rw [if_neg c_63]); (first | rw [if_neg (not_lt_ge c_71)] | rw [if_pos (ge_lt c_71)]))); rw [e] at hp; exact hp)
            · refine px_fconst0 dx_Mo_joinFloats_74 ?_
              refine px_goto dx_Mo_joinFloats_75 ?_
              exact px_fret dx_Mo_joinFloats_79 rfl (by (have e : jF op a b = 0 := by (have e0 : jF0 op a b = FP.fdiv a b := (by unfold jF0; (first | rw [if_neg c_19] | rw [if_pos c_19]); (first | rw [if_neg c_32] | rw [if_pos c_32]); (first | rw [if_neg c_45] | rw [if_pos c_45])); (unfold jF; first | rw [if_neg (fun q => c_4 q.1)] | rw [if_neg (fun q => c_10 q.2)]); unfold hlF; rw [e0]; (first | rw [if_pos c_63] | rw [if_neg c_63]); (first | rw [if_neg (not_lt_ge c_71)] | rw [if_pos (ge_lt c_71)]))); rw [e] at hp; exact hp)
        · refine px_fload_n dx_Mo_joinFloats_48 rfl ?_
          refine px_fload_n dx_Mo_joinFloats_49 rfl ?_
          refine px_fmul dx_Mo_joinFloats_50 (fmul_vn ha hb) ?_
          refine px_goto dx_Mo_joinFloats_51 ?_
          refine px_fstore_n (lv' := [(3, .float (FP.fmul a b)), (0, .int (nI (op))), (1, .float (a)), (2, .float (b))]) dx_Mo_joinFloats_57 (by decide) rfl ?_
          refine px_fload_n dx_Mo_joinFloats_58 rfl ?_
          refine px_ldcwf dx_Mo_joinFloats_59 kk_Mo_330 ?_
          refine px_fcmp dx_Mo_joinFloats_62 ?_
          refine px_if_gt dx_Mo_joinFloats_63 (fun c_63 => ?_) (fun c_63 => ?_)
          · refine px_fconst0 dx_Mo_joinFloats_74 ?_
            refine px_goto dx_Mo_joinFloats_75 ?_
            exact px_fret dx_Mo_joinFloats_79 rfl (by (have e : jF op a b = 0 := by (have e0 : jF0 op a b = FP.fmul a b := (by unfold jF0; (first | rw [if_neg c_19] | rw [if_pos c_19]); (first | rw [if_neg c_32] | rw [if_pos c_32]); (first | rw [if_neg c_45] | rw [if_pos c_45])); (unfold jF; first | rw [if_neg (fun q => c_4 q.1)] | rw [if_neg (fun q => c_10 q.2)]); unfold hlF; rw [e0]; (first | rw [if_pos c_63] | rw [if_neg c_63]))); rw [e] at hp; exact hp)
          · refine px_fload_n dx_Mo_joinFloats_66 rfl ?_
            refine px_ldcwf dx_Mo_joinFloats_67 kk_Mo_331 ?_
            refine px_fcmp dx_Mo_joinFloats_70 ?_
            refine px_if_ge dx_Mo_joinFloats_71 (fun c_71 => ?_) (fun c_71 => ?_)
            · refine px_fload_n dx_Mo_joinFloats_78 rfl ?_
              exact px_fret dx_Mo_joinFloats_79 rfl (by (have e : jF op a b = FP.fmul a b := by (have e0 : jF0 op a b = FP.fmul a b := (by unfold jF0; (first | rw [if_neg c_19] | rw [if_pos c_19]); (first | rw [if_neg c_32] | rw [if_pos c_32]); (first | rw [if_neg c_45] | rw [if_pos c_45])); (unfold jF; first | rw [if_neg (fun q => c_4 q.1)] | rw [if_neg (fun q => c_10 q.2)]); unfold hlF; rw [e0]; (first | rw [if_pos c_63] | rw [if_neg c_63]); (first | rw [if_neg (not_lt_ge c_71)] | rw [if_pos (ge_lt c_71)]))); rw [e] at hp; exact hp)
            · refine px_fconst0 dx_Mo_joinFloats_74 ?_
              refine px_goto dx_Mo_joinFloats_75 ?_
              exact px_fret dx_Mo_joinFloats_79 rfl (by (have e : jF op a b = 0 := by (have e0 : jF0 op a b = FP.fmul a b := (by unfold jF0; (first | rw [if_neg c_19] | rw [if_pos c_19]); (first | rw [if_neg c_32] | rw [if_pos c_32]); (first | rw [if_neg c_45] | rw [if_pos c_45])); (unfold jF; first | rw [if_neg (fun q => c_4 q.1)] | rw [if_neg (fun q => c_10 q.2)]); unfold hlF; rw [e0]; (first | rw [if_pos c_63] | rw [if_neg c_63]); (first | rw [if_neg (not_lt_ge c_71)] | rw [if_pos (ge_lt c_71)]))); rw [e] at hp; exact hp)
      · refine px_fload_n dx_Mo_joinFloats_35 rfl ?_
        refine px_fload_n dx_Mo_joinFloats_36 rfl ?_
        refine px_fsub dx_Mo_joinFloats_37 (fsub_vn ha hb) ?_
        refine px_goto dx_Mo_joinFloats_38 ?_
        refine px_fstore_n (lv' := [(3, .float (FP.fsub a b)), (0, .int (nI (op))), (1, .float (a)), (2, .float (b))]) dx_Mo_joinFloats_57 (by decide) rfl ?_
        refine px_fload_n dx_Mo_joinFloats_58 rfl ?_
        refine px_ldcwf dx_Mo_joinFloats_59 kk_Mo_330 ?_
        refine px_fcmp dx_Mo_joinFloats_62 ?_
        refine px_if_gt dx_Mo_joinFloats_63 (fun c_63 => ?_) (fun c_63 => ?_)
        · refine px_fconst0 dx_Mo_joinFloats_74 ?_
          refine px_goto dx_Mo_joinFloats_75 ?_
          exact px_fret dx_Mo_joinFloats_79 rfl (by (have e : jF op a b = 0 := by (have e0 : jF0 op a b = FP.fsub a b := (by unfold jF0; (first | rw [if_neg c_19] | rw [if_pos c_19]); (first | rw [if_neg c_32] | rw [if_pos c_32])); (unfold jF; first | rw [if_neg (fun q => c_4 q.1)] | rw [if_neg (fun q => c_10 q.2)]); unfold hlF; rw [e0]; (first | rw [if_pos c_63] | rw [if_neg c_63]))); rw [e] at hp; exact hp)
        · refine px_fload_n dx_Mo_joinFloats_66 rfl ?_
          refine px_ldcwf dx_Mo_joinFloats_67 kk_Mo_331 ?_
          refine px_fcmp dx_Mo_joinFloats_70 ?_
          refine px_if_ge dx_Mo_joinFloats_71 (fun c_71 => ?_) (fun c_71 => ?_)
          · refine px_fload_n dx_Mo_joinFloats_78 rfl ?_
            exact px_fret dx_Mo_joinFloats_79 rfl (by (have e : jF op a b = FP.fsub a b := by (have e0 : jF0 op a b = FP.fsub a b := (by unfold jF0; (first | rw [if_neg c_19] | rw [if_pos c_19]); (first | rw [if_neg c_32] | rw [if_pos c_32])); (unfold jF; first | rw [if_neg (fun q => c_4 q.1)] | rw [if_neg (fun q => c_10 q.2)]); unfold hlF; rw [e0]; (first | rw [if_pos c_63] | rw [if_neg c_63]); (first | rw [if_neg (not_lt_ge c_71)] | rw [if_pos (ge_lt c_71)]))); rw [e] at hp; exact hp)
          · refine px_fconst0 dx_Mo_joinFloats_74 ?_
            refine px_goto dx_Mo_joinFloats_75 ?_
            exact px_fret dx_Mo_joinFloats_79 rfl (by (have e : jF op a b = 0 := by (have e0 : jF0 op a b = FP.fsub a b := (by unfold jF0; (first | rw [if_neg c_19] | rw [if_pos c_19]); (first | rw [if_neg c_32] | rw [if_pos c_32])); (unfold jF; first | rw [if_neg (fun q => c_4 q.1)] | rw [if_neg (fun q => c_10 q.2)]); unfold hlF; rw [e0]; (first | rw [if_pos c_63] | rw [if_neg c_63]); (first | rw [if_neg (not_lt_ge c_71)] | rw [if_pos (ge_lt c_71)]))); rw [e] at hp; exact hp)
    · refine px_fload_n dx_Mo_joinFloats_22 rfl ?_
      refine px_fload_n dx_Mo_joinFloats_23 rfl ?_
      refine px_fadd dx_Mo_joinFloats_24 (fadd_vn ha hb) ?_
      refine px_goto dx_Mo_joinFloats_25 ?_
      refine px_fstore_n (lv' := [(3, .float (FP.fadd a b)), (0, .int (nI (op))), (1, .float (a)), (2, .float (b))]) dx_Mo_joinFloats_57 (by decide) rfl ?_
      refine px_fload_n dx_Mo_joinFloats_58 rfl ?_
      refine px_ldcwf dx_Mo_joinFloats_59 kk_Mo_330 ?_
      refine px_fcmp dx_Mo_joinFloats_62 ?_
      refine px_if_gt dx_Mo_joinFloats_63 (fun c_63 => ?_) (fun c_63 => ?_)
      · refine px_fconst0 dx_Mo_joinFloats_74 ?_
        refine px_goto dx_Mo_joinFloats_75 ?_
        exact px_fret dx_Mo_joinFloats_79 rfl (by (have e : jF op a b = 0 := by (have e0 : jF0 op a b = FP.fadd a b := (by unfold jF0; (first | rw [if_neg c_19] | rw [if_pos c_19])); (unfold jF; first | rw [if_neg (fun q => c_4 q.1)] | rw [if_neg (fun q => c_10 q.2)]); unfold hlF; rw [e0]; (first | rw [if_pos c_63] | rw [if_neg c_63]))); rw [e] at hp; exact hp)
      · refine px_fload_n dx_Mo_joinFloats_66 rfl ?_
        refine px_ldcwf dx_Mo_joinFloats_67 kk_Mo_331 ?_
        refine px_fcmp dx_Mo_joinFloats_70 ?_
        refine px_if_ge dx_Mo_joinFloats_71 (fun c_71 => ?_) (fun c_71 => ?_)
        · refine px_fload_n dx_Mo_joinFloats_78 rfl ?_
          exact px_fret dx_Mo_joinFloats_79 rfl (by (have e : jF op a b = FP.fadd a b := by (have e0 : jF0 op a b = FP.fadd a b := (by unfold jF0; (first | rw [if_neg c_19] | rw [if_pos c_19])); (unfold jF; first | rw [if_neg (fun q => c_4 q.1)] | rw [if_neg (fun q => c_10 q.2)]); unfold hlF; rw [e0]; (first | rw [if_pos c_63] | rw [if_neg c_63]); (first | rw [if_neg (not_lt_ge c_71)] | rw [if_pos (ge_lt c_71)]))); rw [e] at hp; exact hp)
        · refine px_fconst0 dx_Mo_joinFloats_74 ?_
          refine px_goto dx_Mo_joinFloats_75 ?_
          exact px_fret dx_Mo_joinFloats_79 rfl (by (have e : jF op a b = 0 := by (have e0 : jF0 op a b = FP.fadd a b := (by unfold jF0; (first | rw [if_neg c_19] | rw [if_pos c_19])); (unfold jF; first | rw [if_neg (fun q => c_4 q.1)] | rw [if_neg (fun q => c_10 q.2)]); unfold hlF; rw [e0]; (first | rw [if_pos c_63] | rw [if_neg c_63]); (first | rw [if_neg (not_lt_ge c_71)] | rw [if_pos (ge_lt c_71)]))); rw [e] at hp; exact hp)
  · refine px_fload_n dx_Mo_joinFloats_7 rfl ?_
    refine px_fconst0 dx_Mo_joinFloats_8 ?_
    refine px_fcmp dx_Mo_joinFloats_9 ?_
    refine px_if_ne dx_Mo_joinFloats_10 (fun c_10 => ?_) (fun c_10 => ?_)
    · refine px_iload_n dx_Mo_joinFloats_15 rfl ?_
      refine px_sipush (v := 166) dx_Mo_joinFloats_16 rfl ?_
      refine px_icmp_neN (a := op) (b := 166) dx_Mo_joinFloats_19 (by omega) (by omega) (fun c_19 => ?_) (fun c_19 => ?_)
      · refine px_iload_n dx_Mo_joinFloats_28 rfl ?_
        refine px_sipush (v := 167) dx_Mo_joinFloats_29 rfl ?_
        refine px_icmp_neN (a := op) (b := 167) dx_Mo_joinFloats_32 (by omega) (by omega) (fun c_32 => ?_) (fun c_32 => ?_)
        · refine px_iload_n dx_Mo_joinFloats_41 rfl ?_
          refine px_sipush (v := 168) dx_Mo_joinFloats_42 rfl ?_
          refine px_icmp_neN (a := op) (b := 168) dx_Mo_joinFloats_45 (by omega) (by omega) (fun c_45 => ?_) (fun c_45 => ?_)
          · refine px_fload_n dx_Mo_joinFloats_54 rfl ?_
            refine px_fload_n dx_Mo_joinFloats_55 rfl ?_
            refine px_fdiv dx_Mo_joinFloats_56 (fdiv_vn ha hb (hb0 (by omega) (by first | assumption | (exfalso; omega)))) ?_
            refine px_fstore_n (lv' := [(3, .float (FP.fdiv a b)), (0, .int (nI (op))), (1, .float (a)), (2, .float (b))]) dx_Mo_joinFloats_57 (by decide) rfl ?_
            refine px_fload_n dx_Mo_joinFloats_58 rfl ?_
            refine px_ldcwf dx_Mo_joinFloats_59 kk_Mo_330 ?_
            refine px_fcmp dx_Mo_joinFloats_62 ?_
            refine px_if_gt dx_Mo_joinFloats_63 (fun c_63 => ?_) (fun c_63 => ?_)
            · refine px_fconst0 dx_Mo_joinFloats_74 ?_
              refine px_goto dx_Mo_joinFloats_75 ?_
              exact px_fret dx_Mo_joinFloats_79 rfl (by (have e : jF op a b = 0 := by (have e0 : jF0 op a b = FP.fdiv a b := (by unfold jF0; (first | rw [if_neg c_19] | rw [if_pos c_19]); (first | rw [if_neg c_32] | rw [if_pos c_32]); (first | rw [if_neg c_45] | rw [if_pos c_45])); (unfold jF; first | rw [if_neg (fun q => c_4 q.1)] | rw [if_neg (fun q => c_10 q.2)]); unfold hlF; rw [e0]; (first | rw [if_pos c_63] | rw [if_neg c_63]))); rw [e] at hp; exact hp)
            · refine px_fload_n dx_Mo_joinFloats_66 rfl ?_
              refine px_ldcwf dx_Mo_joinFloats_67 kk_Mo_331 ?_
              refine px_fcmp dx_Mo_joinFloats_70 ?_
              refine px_if_ge dx_Mo_joinFloats_71 (fun c_71 => ?_) (fun c_71 => ?_)
              · refine px_fload_n dx_Mo_joinFloats_78 rfl ?_
                exact px_fret dx_Mo_joinFloats_79 rfl (by (have e : jF op a b = FP.fdiv a b := by (have e0 : jF0 op a b = FP.fdiv a b := (by unfold jF0; (first | rw [if_neg c_19] | rw [if_pos c_19]); (first | rw [if_neg c_32] | rw [if_pos c_32]); (first | rw [if_neg c_45] | rw [if_pos c_45])); (unfold jF; first | rw [if_neg (fun q => c_4 q.1)] | rw [if_neg (fun q => c_10 q.2)]); unfold hlF; rw [e0]; (first | rw [if_pos c_63] | rw [if_neg c_63]); (first | rw [if_neg (not_lt_ge c_71)] | rw [if_pos (ge_lt c_71)]))); rw [e] at hp; exact hp)
              · refine px_fconst0 dx_Mo_joinFloats_74 ?_
                refine px_goto dx_Mo_joinFloats_75 ?_
                exact px_fret dx_Mo_joinFloats_79 rfl (by (have e : jF op a b = 0 := by (have e0 : jF0 op a b = FP.fdiv a b := (by unfold jF0; (first | rw [if_neg c_19] | rw [if_pos c_19]); (first | rw [if_neg c_32] | rw [if_pos c_32]); (first | rw [if_neg c_45] | rw [if_pos c_45])); (unfold jF; first | rw [if_neg (fun q => c_4 q.1)] | rw [if_neg (fun q => c_10 q.2)]); unfold hlF; rw [e0]; (first | rw [if_pos c_63] | rw [if_neg c_63]); (first | rw [if_neg (not_lt_ge c_71)] | rw [if_pos (ge_lt c_71)]))); rw [e] at hp; exact hp)
          · refine px_fload_n dx_Mo_joinFloats_48 rfl ?_
            refine px_fload_n dx_Mo_joinFloats_49 rfl ?_
            refine px_fmul dx_Mo_joinFloats_50 (fmul_vn ha hb) ?_
            refine px_goto dx_Mo_joinFloats_51 ?_
            refine px_fstore_n (lv' := [(3, .float (FP.fmul a b)), (0, .int (nI (op))), (1, .float (a)), (2, .float (b))]) dx_Mo_joinFloats_57 (by decide) rfl ?_
            refine px_fload_n dx_Mo_joinFloats_58 rfl ?_
            refine px_ldcwf dx_Mo_joinFloats_59 kk_Mo_330 ?_
            refine px_fcmp dx_Mo_joinFloats_62 ?_
            refine px_if_gt dx_Mo_joinFloats_63 (fun c_63 => ?_) (fun c_63 => ?_)
            · refine px_fconst0 dx_Mo_joinFloats_74 ?_
              refine px_goto dx_Mo_joinFloats_75 ?_
              exact px_fret dx_Mo_joinFloats_79 rfl (by (have e : jF op a b = 0 := by (have e0 : jF0 op a b = FP.fmul a b := (by unfold jF0; (first | rw [if_neg c_19] | rw [if_pos c_19]); (first | rw [if_neg c_32] | rw [if_pos c_32]); (first | rw [if_neg c_45] | rw [if_pos c_45])); (unfold jF; first | rw [if_neg (fun q => c_4 q.1)] | rw [if_neg (fun q => c_10 q.2)]); unfold hlF; rw [e0]; (first | rw [if_pos c_63] | rw [if_neg c_63]))); rw [e] at hp; exact hp)
            · refine px_fload_n dx_Mo_joinFloats_66 rfl ?_
              refine px_ldcwf dx_Mo_joinFloats_67 kk_Mo_331 ?_
              refine px_fcmp dx_Mo_joinFloats_70 ?_
              refine px_if_ge dx_Mo_joinFloats_71 (fun c_71 => ?_) (fun c_71 => ?_)
              · refine px_fload_n dx_Mo_joinFloats_78 rfl ?_
                exact px_fret dx_Mo_joinFloats_79 rfl (by (have e : jF op a b = FP.fmul a b := by (have e0 : jF0 op a b = FP.fmul a b := (by unfold jF0; (first | rw [if_neg c_19] | rw [if_pos c_19]); (first | rw [if_neg c_32] | rw [if_pos c_32]); (first | rw [if_neg c_45] | rw [if_pos c_45])); (unfold jF; first | rw [if_neg (fun q => c_4 q.1)] | rw [if_neg (fun q => c_10 q.2)]); unfold hlF; rw [e0]; (first | rw [if_pos c_63] | rw [if_neg c_63]); (first | rw [if_neg (not_lt_ge c_71)] | rw [if_pos (ge_lt c_71)]))); rw [e] at hp; exact hp)
              · refine px_fconst0 dx_Mo_joinFloats_74 ?_
                refine px_goto dx_Mo_joinFloats_75 ?_
                exact px_fret dx_Mo_joinFloats_79 rfl (by (have e : jF op a b = 0 := by (have e0 : jF0 op a b = FP.fmul a b := (by unfold jF0; (first | rw [if_neg c_19] | rw [if_pos c_19]); (first | rw [if_neg c_32] | rw [if_pos c_32]); (first | rw [if_neg c_45] | rw [if_pos c_45])); (unfold jF; first | rw [if_neg (fun q => c_4 q.1)] | rw [if_neg (fun q => c_10 q.2)]); unfold hlF; rw [e0]; (first | rw [if_pos c_63] | rw [if_neg c_63]); (first | rw [if_neg (not_lt_ge c_71)] | rw [if_pos (ge_lt c_71)]))); rw [e] at hp; exact hp)
        · refine px_fload_n dx_Mo_joinFloats_35 rfl ?_
          refine px_fload_n dx_Mo_joinFloats_36 rfl ?_
          refine px_fsub dx_Mo_joinFloats_37 (fsub_vn ha hb) ?_
          refine px_goto dx_Mo_joinFloats_38 ?_
          refine px_fstore_n (lv' := [(3, .float (FP.fsub a b)), (0, .int (nI (op))), (1, .float (a)), (2, .float (b))]) dx_Mo_joinFloats_57 (by decide) rfl ?_
          refine px_fload_n dx_Mo_joinFloats_58 rfl ?_
          refine px_ldcwf dx_Mo_joinFloats_59 kk_Mo_330 ?_
          refine px_fcmp dx_Mo_joinFloats_62 ?_
          refine px_if_gt dx_Mo_joinFloats_63 (fun c_63 => ?_) (fun c_63 => ?_)
          · refine px_fconst0 dx_Mo_joinFloats_74 ?_
            refine px_goto dx_Mo_joinFloats_75 ?_
            exact px_fret dx_Mo_joinFloats_79 rfl (by (have e : jF op a b = 0 := by (have e0 : jF0 op a b = FP.fsub a b := (by unfold jF0; (first | rw [if_neg c_19] | rw [if_pos c_19]); (first | rw [if_neg c_32] | rw [if_pos c_32])); (unfold jF; first | rw [if_neg (fun q => c_4 q.1)] | rw [if_neg (fun q => c_10 q.2)]); unfold hlF; rw [e0]; (first | rw [if_pos c_63] | rw [if_neg c_63]))); rw [e] at hp; exact hp)
          · refine px_fload_n dx_Mo_joinFloats_66 rfl ?_
            refine px_ldcwf dx_Mo_joinFloats_67 kk_Mo_331 ?_
            refine px_fcmp dx_Mo_joinFloats_70 ?_
            refine px_if_ge dx_Mo_joinFloats_71 (fun c_71 => ?_) (fun c_71 => ?_)
            · refine px_fload_n dx_Mo_joinFloats_78 rfl ?_
              exact px_fret dx_Mo_joinFloats_79 rfl (by (have e : jF op a b = FP.fsub a b := by (have e0 : jF0 op a b = FP.fsub a b := (by unfold jF0; (first | rw [if_neg c_19] | rw [if_pos c_19]); (first | rw [if_neg c_32] | rw [if_pos c_32])); (unfold jF; first | rw [if_neg (fun q => c_4 q.1)] | rw [if_neg (fun q => c_10 q.2)]); unfold hlF; rw [e0]; (first | rw [if_pos c_63] | rw [if_neg c_63]); (first | rw [if_neg (not_lt_ge c_71)] | rw [if_pos (ge_lt c_71)]))); rw [e] at hp; exact hp)
            · refine px_fconst0 dx_Mo_joinFloats_74 ?_
              refine px_goto dx_Mo_joinFloats_75 ?_
              exact px_fret dx_Mo_joinFloats_79 rfl (by (have e : jF op a b = 0 := by (have e0 : jF0 op a b = FP.fsub a b := (by unfold jF0; (first | rw [if_neg c_19] | rw [if_pos c_19]); (first | rw [if_neg c_32] | rw [if_pos c_32])); (unfold jF; first | rw [if_neg (fun q => c_4 q.1)] | rw [if_neg (fun q => c_10 q.2)]); unfold hlF; rw [e0]; (first | rw [if_pos c_63] | rw [if_neg c_63]); (first | rw [if_neg (not_lt_ge c_71)] | rw [if_pos (ge_lt c_71)]))); rw [e] at hp; exact hp)
      · refine px_fload_n dx_Mo_joinFloats_22 rfl ?_
        refine px_fload_n dx_Mo_joinFloats_23 rfl ?_
        refine px_fadd dx_Mo_joinFloats_24 (fadd_vn ha hb) ?_
        refine px_goto dx_Mo_joinFloats_25 ?_
        refine px_fstore_n (lv' := [(3, .float (FP.fadd a b)), (0, .int (nI (op))), (1, .float (a)), (2, .float (b))]) dx_Mo_joinFloats_57 (by decide) rfl ?_
        refine px_fload_n dx_Mo_joinFloats_58 rfl ?_
        refine px_ldcwf dx_Mo_joinFloats_59 kk_Mo_330 ?_
        refine px_fcmp dx_Mo_joinFloats_62 ?_
        refine px_if_gt dx_Mo_joinFloats_63 (fun c_63 => ?_) (fun c_63 => ?_)
        · refine px_fconst0 dx_Mo_joinFloats_74 ?_
          refine px_goto dx_Mo_joinFloats_75 ?_
          exact px_fret dx_Mo_joinFloats_79 rfl (by (have e : jF op a b = 0 := by (have e0 : jF0 op a b = FP.fadd a b := (by unfold jF0; (first | rw [if_neg c_19] | rw [if_pos c_19])); (unfold jF; first | rw [if_neg (fun q => c_4 q.1)] | rw [if_neg (fun q => c_10 q.2)]); unfold hlF; rw [e0]; (first | rw [if_pos c_63] | rw [if_neg c_63]))); rw [e] at hp; exact hp)
        · refine px_fload_n dx_Mo_joinFloats_66 rfl ?_
          refine px_ldcwf dx_Mo_joinFloats_67 kk_Mo_331 ?_
          refine px_fcmp dx_Mo_joinFloats_70 ?_
          refine px_if_ge dx_Mo_joinFloats_71 (fun c_71 => ?_) (fun c_71 => ?_)
          · refine px_fload_n dx_Mo_joinFloats_78 rfl ?_
            exact px_fret dx_Mo_joinFloats_79 rfl (by (have e : jF op a b = FP.fadd a b := by (have e0 : jF0 op a b = FP.fadd a b := (by unfold jF0; (first | rw [if_neg c_19] | rw [if_pos c_19])); (unfold jF; first | rw [if_neg (fun q => c_4 q.1)] | rw [if_neg (fun q => c_10 q.2)]); unfold hlF; rw [e0]; (first | rw [if_pos c_63] | rw [if_neg c_63]); (first | rw [if_neg (not_lt_ge c_71)] | rw [if_pos (ge_lt c_71)]))); rw [e] at hp; exact hp)
          · refine px_fconst0 dx_Mo_joinFloats_74 ?_
            refine px_goto dx_Mo_joinFloats_75 ?_
            exact px_fret dx_Mo_joinFloats_79 rfl (by (have e : jF op a b = 0 := by (have e0 : jF0 op a b = FP.fadd a b := (by unfold jF0; (first | rw [if_neg c_19] | rw [if_pos c_19])); (unfold jF; first | rw [if_neg (fun q => c_4 q.1)] | rw [if_neg (fun q => c_10 q.2)]); unfold hlF; rw [e0]; (first | rw [if_pos c_63] | rw [if_neg c_63]); (first | rw [if_neg (not_lt_ge c_71)] | rw [if_pos (ge_lt c_71)]))); rw [e] at hp; exact hp)
    · refine px_fconst0 dx_Mo_joinFloats_13 ?_
      exact px_fret dx_Mo_joinFloats_14 rfl (by (have e : jF op a b = 0 := by (unfold jF; rw [if_pos ⟨c_4, c_10⟩])); rw [e] at hp; exact hp)
set_option maxRecDepth 100000 in
set_option maxHeartbeats 1000000 in
theorem m_joinDoubles {l : Launch} {G : fr_G} {σ : fr_S} {op : Nat} (hop : op < 256) (ho : 171 ≤ op ∧ op ≤ 174) {a b : UInt64} (ha : dB a) (hb : dB b) (hb0 : op = 174 → ¬ Op.cmpValue (FP.dcmp b 0) .l = 0 → b.toNat % 2 ^ 63 ≠ 0) : CT l G yy_Mo_joinDoubles rm_Mo_joinDoubles [.int (nI (op)), .double (a), .double (b)] σ (some (.double (jD op a b))) (σ) := by
  intro Post hp0
  have hp := hp0
  show PX l G yy_Mo_joinDoubles rm_Mo_joinDoubles _ false 742 0 0 0 [(0, .int (nI (op))), (1, .double (a)), (3, .double (b))] [] σ
  refine px_iload_n dx_Mo_joinDoubles_0 rfl ?_
  refine px_sipush (v := 174) dx_Mo_joinDoubles_1 rfl ?_
  refine px_icmp_neN (a := op) (b := 174) dx_Mo_joinDoubles_4 (by omega) (by omega) (fun c_4 => ?_) (fun c_4 => ?_)
  · refine px_iload_n dx_Mo_joinDoubles_15 rfl ?_
    refine px_sipush (v := 171) dx_Mo_joinDoubles_16 rfl ?_
    refine px_icmp_neN (a := op) (b := 171) dx_Mo_joinDoubles_19 (by omega) (by omega) (fun c_19 => ?_) (fun c_19 => ?_)
    · refine px_iload_n dx_Mo_joinDoubles_28 rfl ?_
      refine px_sipush (v := 172) dx_Mo_joinDoubles_29 rfl ?_
      refine px_icmp_neN (a := op) (b := 172) dx_Mo_joinDoubles_32 (by omega) (by omega) (fun c_32 => ?_) (fun c_32 => ?_)
      · refine px_iload_n dx_Mo_joinDoubles_41 rfl ?_
        refine px_sipush (v := 173) dx_Mo_joinDoubles_42 rfl ?_
        refine px_icmp_neN (a := op) (b := 173) dx_Mo_joinDoubles_45 (by omega) (by omega) (fun c_45 => ?_) (fun c_45 => ?_)
        · refine px_dload_n dx_Mo_joinDoubles_54 rfl ?_
          refine px_dload_n dx_Mo_joinDoubles_55 rfl ?_
          refine px_ddiv dx_Mo_joinDoubles_56 (ddiv_vn ha hb (hb0 (by omega) (by first | assumption | (exfalso; omega)))) ?_
          refine px_dstore (lv' := [(5, .double (FP.ddiv a b)), (0, .int (nI (op))), (1, .double (a)), (3, .double (b))]) dx_Mo_joinDoubles_57 (by decide) rfl ?_
          refine px_dload dx_Mo_joinDoubles_59 rfl ?_
          refine px_ldc2d dx_Mo_joinDoubles_61 kk_Mo_307 ?_
          refine px_dcmp dx_Mo_joinDoubles_64 ?_
          refine px_if_gt dx_Mo_joinDoubles_65 (fun c_65 => ?_) (fun c_65 => ?_)
          · refine px_dconst0 dx_Mo_joinDoubles_77 ?_
            refine px_goto dx_Mo_joinDoubles_78 ?_
            exact px_dret dx_Mo_joinDoubles_83 rfl (by (have e : jD op a b = 0 := by (have e0 : jD0 op a b = FP.ddiv a b := (by unfold jD0; (first | rw [if_neg c_19] | rw [if_pos c_19]); (first | rw [if_neg c_32] | rw [if_pos c_32]); (first | rw [if_neg c_45] | rw [if_pos c_45])); (unfold jD; first | rw [if_neg (fun q => c_4 q.1)] | rw [if_neg (fun q => c_10 q.2)]); unfold hlD; rw [e0]; (first | rw [if_pos c_65] | rw [if_neg c_65]))); rw [e] at hp; exact hp)
          · refine px_dload dx_Mo_joinDoubles_68 rfl ?_
            refine px_ldc2d dx_Mo_joinDoubles_70 kk_Mo_305 ?_
            refine px_dcmp dx_Mo_joinDoubles_73 ?_
            refine px_if_ge dx_Mo_joinDoubles_74 (fun c_74 => ?_) (fun c_74 => ?_)
            · refine px_dload dx_Mo_joinDoubles_81 rfl ?_
              exact px_dret dx_Mo_joinDoubles_83 rfl (by (have e : jD op a b = FP.ddiv a b := by (have e0 : jD0 op a b = FP.ddiv a b := (by unfold jD0; (first | rw [if_neg c_19] | rw [if_pos c_19]); (first | rw [if_neg c_32] | rw [if_pos c_32]); (first | rw [if_neg c_45] | rw [if_pos c_45])); (unfold jD; first | rw [if_neg (fun q => c_4 q.1)] | rw [if_neg (fun q => c_10 q.2)]); unfold hlD; rw [e0]; (first | rw [if_pos c_65] | rw [if_neg c_65]); (first | rw [if_neg (not_lt_ge c_74)] | rw [if_pos (ge_lt c_74)]))); rw [e] at hp; exact hp)
            · refine px_dconst0 dx_Mo_joinDoubles_77 ?_
              refine px_goto dx_Mo_joinDoubles_78 ?_
              exact px_dret dx_Mo_joinDoubles_83 rfl (by (have e : jD op a b = 0 := by (have e0 : jD0 op a b = FP.ddiv a b := (by unfold jD0; (first | rw [if_neg c_19] | rw [if_pos c_19]); (first | rw [if_neg c_32] | rw [if_pos c_32]); (first | rw [if_neg c_45] | rw [if_pos c_45])); (unfold jD; first | rw [if_neg (fun q => c_4 q.1)] | rw [if_neg (fun q => c_10 q.2)]); unfold hlD; rw [e0]; (first | rw [if_pos c_65] | rw [if_neg c_65]); (first | rw [if_neg (not_lt_ge c_74)] | rw [if_pos (ge_lt c_74)]))); rw [e] at hp; exact hp)
        · refine px_dload_n dx_Mo_joinDoubles_48 rfl ?_
          refine px_dload_n dx_Mo_joinDoubles_49 rfl ?_
          refine px_dmul dx_Mo_joinDoubles_50 (dmul_vn ha hb) ?_
          refine px_goto dx_Mo_joinDoubles_51 ?_
          refine px_dstore (lv' := [(5, .double (FP.dmul a b)), (0, .int (nI (op))), (1, .double (a)), (3, .double (b))]) dx_Mo_joinDoubles_57 (by decide) rfl ?_
          refine px_dload dx_Mo_joinDoubles_59 rfl ?_
          refine px_ldc2d dx_Mo_joinDoubles_61 kk_Mo_307 ?_
          refine px_dcmp dx_Mo_joinDoubles_64 ?_
          refine px_if_gt dx_Mo_joinDoubles_65 (fun c_65 => ?_) (fun c_65 => ?_)
          · refine px_dconst0 dx_Mo_joinDoubles_77 ?_
            refine px_goto dx_Mo_joinDoubles_78 ?_
            exact px_dret dx_Mo_joinDoubles_83 rfl (by (have e : jD op a b = 0 := by (have e0 : jD0 op a b = FP.dmul a b := (by unfold jD0; (first | rw [if_neg c_19] | rw [if_pos c_19]); (first | rw [if_neg c_32] | rw [if_pos c_32]); (first | rw [if_neg c_45] | rw [if_pos c_45])); (unfold jD; first | rw [if_neg (fun q => c_4 q.1)] | rw [if_neg (fun q => c_10 q.2)]); unfold hlD; rw [e0]; (first | rw [if_pos c_65] | rw [if_neg c_65]))); rw [e] at hp; exact hp)
          · refine px_dload dx_Mo_joinDoubles_68 rfl ?_
            refine px_ldc2d dx_Mo_joinDoubles_70 kk_Mo_305 ?_
            refine px_dcmp dx_Mo_joinDoubles_73 ?_
            refine px_if_ge dx_Mo_joinDoubles_74 (fun c_74 => ?_) (fun c_74 => ?_)
            · refine px_dload dx_Mo_joinDoubles_81 rfl ?_
              exact px_dret dx_Mo_joinDoubles_83 rfl (by (have e : jD op a b = FP.dmul a b := by (have e0 : jD0 op a b = FP.dmul a b := (by unfold jD0; (first | rw [if_neg c_19] | rw [if_pos c_19]); (first | rw [if_neg c_32] | rw [if_pos c_32]); (first | rw [if_neg c_45] | rw [if_pos c_45])); (unfold jD; first | rw [if_neg (fun q => c_4 q.1)] | rw [if_neg (fun q => c_10 q.2)]); unfold hlD; rw [e0]; (first | rw [if_pos c_65] | rw [if_neg c_65]); (first | rw [if_neg (not_lt_ge c_74)] | rw [if_pos (ge_lt c_74)]))); rw [e] at hp; exact hp)
            · refine px_dconst0 dx_Mo_joinDoubles_77 ?_
              refine px_goto dx_Mo_joinDoubles_78 ?_
              exact px_dret dx_Mo_joinDoubles_83 rfl (by (have e : jD op a b = 0 := by (have e0 : jD0 op a b = FP.dmul a b := (by unfold jD0; (first | rw [if_neg c_19] | rw [if_pos c_19]); (first | rw [if_neg c_32] | rw [if_pos c_32]); (first | rw [if_neg c_45] | rw [if_pos c_45])); (unfold jD; first | rw [if_neg (fun q => c_4 q.1)] | rw [if_neg (fun q => c_10 q.2)]); unfold hlD; rw [e0]; (first | rw [if_pos c_65] | rw [if_neg c_65]); (first | rw [if_neg (not_lt_ge c_74)] | rw [if_pos (ge_lt c_74)]))); rw [e] at hp; exact hp)
      · refine px_dload_n dx_Mo_joinDoubles_35 rfl ?_
        refine px_dload_n dx_Mo_joinDoubles_36 rfl ?_
        refine px_dsub dx_Mo_joinDoubles_37 (dsub_vn ha hb) ?_
        refine px_goto dx_Mo_joinDoubles_38 ?_
        refine px_dstore (lv' := [(5, .double (FP.dsub a b)), (0, .int (nI (op))), (1, .double (a)), (3, .double (b))]) dx_Mo_joinDoubles_57 (by decide) rfl ?_
        refine px_dload dx_Mo_joinDoubles_59 rfl ?_
        refine px_ldc2d dx_Mo_joinDoubles_61 kk_Mo_307 ?_
        refine px_dcmp dx_Mo_joinDoubles_64 ?_
        refine px_if_gt dx_Mo_joinDoubles_65 (fun c_65 => ?_) (fun c_65 => ?_)
        · refine px_dconst0 dx_Mo_joinDoubles_77 ?_
          refine px_goto dx_Mo_joinDoubles_78 ?_
          exact px_dret dx_Mo_joinDoubles_83 rfl (by (have e : jD op a b = 0 := by (have e0 : jD0 op a b = FP.dsub a b := (by unfold jD0; (first | rw [if_neg c_19] | rw [if_pos c_19]); (first | rw [if_neg c_32] | rw [if_pos c_32])); (unfold jD; first | rw [if_neg (fun q => c_4 q.1)] | rw [if_neg (fun q => c_10 q.2)]); unfold hlD; rw [e0]; (first | rw [if_pos c_65] | rw [if_neg c_65]))); rw [e] at hp; exact hp)
        · refine px_dload dx_Mo_joinDoubles_68 rfl ?_
          refine px_ldc2d dx_Mo_joinDoubles_70 kk_Mo_305 ?_
          refine px_dcmp dx_Mo_joinDoubles_73 ?_
          refine px_if_ge dx_Mo_joinDoubles_74 (fun c_74 => ?_) (fun c_74 => ?_)
          · refine px_dload dx_Mo_joinDoubles_81 rfl ?_
            exact px_dret dx_Mo_joinDoubles_83 rfl (by (have e : jD op a b = FP.dsub a b := by (have e0 : jD0 op a b = FP.dsub a b := (by unfold jD0; (first | rw [if_neg c_19] | rw [if_pos c_19]); (first | rw [if_neg c_32] | rw [if_pos c_32])); (unfold jD; first | rw [if_neg (fun q => c_4 q.1)] | rw [if_neg (fun q => c_10 q.2)]); unfold hlD; rw [e0]; (first | rw [if_pos c_65] | rw [if_neg c_65]); (first | rw [if_neg (not_lt_ge c_74)] | rw [if_pos (ge_lt c_74)]))); rw [e] at hp; exact hp)
          · refine px_dconst0 dx_Mo_joinDoubles_77 ?_
            refine px_goto dx_Mo_joinDoubles_78 ?_
            exact px_dret dx_Mo_joinDoubles_83 rfl (by (have e : jD op a b = 0 := by (have e0 : jD0 op a b = FP.dsub a b := (by unfold jD0; (first | rw [if_neg c_19] | rw [if_pos c_19]); (first | rw [if_neg c_32] | rw [if_pos c_32])); (unfold jD; first | rw [if_neg (fun q => c_4 q.1)] | rw [if_neg (fun q => c_10 q.2)]); unfold hlD; rw [e0]; (first | rw [if_pos c_65] | rw [if_neg c_65]); (first | rw [if_neg (not_lt_ge c_74)] | rw [if_pos (ge_lt c_74)]))); rw [e] at hp; exact hp)
    · refine px_dload_n dx_Mo_joinDoubles_22 rfl ?_
      refine px_dload_n dx_Mo_joinDoubles_23 rfl ?_
      refine px_dadd dx_Mo_joinDoubles_24 (dadd_vn ha hb) ?_
      refine px_goto dx_Mo_joinDoubles_25 ?_
      refine px_dstore (lv' := [(5, .double (FP.dadd a b)), (0, .int (nI (op))), (1, .double (a)), (3, .double (b))]) dx_Mo_joinDoubles_57 (by decide) rfl ?_
      refine px_dload dx_Mo_joinDoubles_59 rfl ?_
      refine px_ldc2d dx_Mo_joinDoubles_61 kk_Mo_307 ?_
      refine px_dcmp dx_Mo_joinDoubles_64 ?_
      refine px_if_gt dx_Mo_joinDoubles_65 (fun c_65 => ?_) (fun c_65 => ?_)
      · refine px_dconst0 dx_Mo_joinDoubles_77 ?_
        refine px_goto dx_Mo_joinDoubles_78 ?_
        exact px_dret dx_Mo_joinDoubles_83 rfl (by (have e : jD op a b = 0 := by (have e0 : jD0 op a b = FP.dadd a b := (by unfold jD0; (first | rw [if_neg c_19] | rw [if_pos c_19])); (unfold jD; first | rw [if_neg (fun q => c_4 q.1)] | rw [if_neg (fun q => c_10 q.2)]); unfold hlD; rw [e0]; (first | rw [if_pos c_65] | rw [if_neg c_65]))); rw [e] at hp; exact hp)
      · refine px_dload dx_Mo_joinDoubles_68 rfl ?_
        refine px_ldc2d dx_Mo_joinDoubles_70 kk_Mo_305 ?_
        refine px_dcmp dx_Mo_joinDoubles_73 ?_
        refine px_if_ge dx_Mo_joinDoubles_74 (fun c_74 => ?_) (fun c_74 => ?_)
        · refine px_dload dx_Mo_joinDoubles_81 rfl ?_
          exact px_dret dx_Mo_joinDoubles_83 rfl (by (have e : jD op a b = FP.dadd a b := by (have e0 : jD0 op a b = FP.dadd a b := (by unfold jD0; (first | rw [if_neg c_19] | rw [if_pos c_19])); (unfold jD; first | rw [if_neg (fun q => c_4 q.1)] | rw [if_neg (fun q => c_10 q.2)]); unfold hlD; rw [e0]; (first | rw [if_pos c_65] | rw [if_neg c_65]); (first | rw [if_neg (not_lt_ge c_74)] | rw [if_pos (ge_lt c_74)]))); rw [e] at hp; exact hp)
        · refine px_dconst0 dx_Mo_joinDoubles_77 ?_
          refine px_goto dx_Mo_joinDoubles_78 ?_
          exact px_dret dx_Mo_joinDoubles_83 rfl (by (have e : jD op a b = 0 := by (have e0 : jD0 op a b = FP.dadd a b := (by unfold jD0; (first | rw [if_neg c_19] | rw [if_pos c_19])); (unfold jD; first | rw [if_neg (fun q => c_4 q.1)] | rw [if_neg (fun q => c_10 q.2)]); unfold hlD; rw [e0]; (first | rw [if_pos c_65] | rw [if_neg c_65]); (first | rw [if_neg (not_lt_ge c_74)] | rw [if_pos (ge_lt c_74)]))); rw [e] at hp; exact hp)
  · refine px_dload_n dx_Mo_joinDoubles_7 rfl ?_
    refine px_dconst0 dx_Mo_joinDoubles_8 ?_
    refine px_dcmp dx_Mo_joinDoubles_9 ?_
    refine px_if_ne dx_Mo_joinDoubles_10 (fun c_10 => ?_) (fun c_10 => ?_)
    · refine px_iload_n dx_Mo_joinDoubles_15 rfl ?_
      refine px_sipush (v := 171) dx_Mo_joinDoubles_16 rfl ?_
      refine px_icmp_neN (a := op) (b := 171) dx_Mo_joinDoubles_19 (by omega) (by omega) (fun c_19 => ?_) (fun c_19 => ?_)
      · refine px_iload_n dx_Mo_joinDoubles_28 rfl ?_
        refine px_sipush (v := 172) dx_Mo_joinDoubles_29 rfl ?_
        refine px_icmp_neN (a := op) (b := 172) dx_Mo_joinDoubles_32 (by omega) (by omega) (fun c_32 => ?_) (fun c_32 => ?_)
        · refine px_iload_n dx_Mo_joinDoubles_41 rfl ?_
          refine px_sipush (v := 173) dx_Mo_joinDoubles_42 rfl ?_
          refine px_icmp_neN (a := op) (b := 173) dx_Mo_joinDoubles_45 (by omega) (by omega) (fun c_45 => ?_) (fun c_45 => ?_)
          · refine px_dload_n dx_Mo_joinDoubles_54 rfl ?_
            refine px_dload_n dx_Mo_joinDoubles_55 rfl ?_
            refine px_ddiv dx_Mo_joinDoubles_56 (ddiv_vn ha hb (hb0 (by omega) (by first | assumption | (exfalso; omega)))) ?_
            refine px_dstore (lv' := [(5, .double (FP.ddiv a b)), (0, .int (nI (op))), (1, .double (a)), (3, .double (b))]) dx_Mo_joinDoubles_57 (by decide) rfl ?_
            refine px_dload dx_Mo_joinDoubles_59 rfl ?_
            refine px_ldc2d dx_Mo_joinDoubles_61 kk_Mo_307 ?_
            refine px_dcmp dx_Mo_joinDoubles_64 ?_
            refine px_if_gt dx_Mo_joinDoubles_65 (fun c_65 => ?_) (fun c_65 => ?_)
            · refine px_dconst0 dx_Mo_joinDoubles_77 ?_
              refine px_goto dx_Mo_joinDoubles_78 ?_
              exact px_dret dx_Mo_joinDoubles_83 rfl (by (have e : jD op a b = 0 := by (have e0 : jD0 op a b = FP.ddiv a b := (by unfold jD0; (first | rw [if_neg c_19] | rw [if_pos c_19]); (first | rw [if_neg c_32] | rw [if_pos c_32]); (first | rw [if_neg c_45] | rw [if_pos c_45])); (unfold jD; first | rw [if_neg (fun q => c_4 q.1)] | rw [if_neg (fun q => c_10 q.2)]); unfold hlD; rw [e0]; (first | rw [if_pos c_65] | rw [if_neg c_65]))); rw [e] at hp; exact hp)
            · refine px_dload dx_Mo_joinDoubles_68 rfl ?_
              refine px_ldc2d dx_Mo_joinDoubles_70 kk_Mo_305 ?_
              refine px_dcmp dx_Mo_joinDoubles_73 ?_
              refine px_if_ge dx_Mo_joinDoubles_74 (fun c_74 => ?_) (fun c_74 => ?_)
              · refine px_dload dx_Mo_joinDoubles_81 rfl ?_
                exact px_dret dx_Mo_joinDoubles_83 rfl (by (have e : jD op a b = FP.ddiv a b := by (have e0 : jD0 op a b = FP.ddiv a b := (by unfold jD0; (first | rw [if_neg c_19] | rw [if_pos c_19]); (first | rw [if_neg c_32] | rw [if_pos c_32]); (first | rw [if_neg c_45] | rw [if_pos c_45])); (unfold jD; first | rw [if_neg (fun q => c_4 q.1)] | rw [if_neg (fun q => c_10 q.2)]); unfold hlD; rw [e0]; (first | rw [if_pos c_65] | rw [if_neg c_65]); (first | rw [if_neg (not_lt_ge c_74)] | rw [if_pos (ge_lt c_74)]))); rw [e] at hp; exact hp)
              · refine px_dconst0 dx_Mo_joinDoubles_77 ?_
                refine px_goto dx_Mo_joinDoubles_78 ?_
                exact px_dret dx_Mo_joinDoubles_83 rfl (by (have e : jD op a b = 0 := by (have e0 : jD0 op a b = FP.ddiv a b := (by unfold jD0; (first | rw [if_neg c_19] | rw [if_pos c_19]); (first | rw [if_neg c_32] | rw [if_pos c_32]); (first | rw [if_neg c_45] | rw [if_pos c_45])); (unfold jD; first | rw [if_neg (fun q => c_4 q.1)] | rw [if_neg (fun q => c_10 q.2)]); unfold hlD; rw [e0]; (first | rw [if_pos c_65] | rw [if_neg c_65]); (first | rw [if_neg (not_lt_ge c_74)] | rw [if_pos (ge_lt c_74)]))); rw [e] at hp; exact hp)
          · refine px_dload_n dx_Mo_joinDoubles_48 rfl ?_
            refine px_dload_n dx_Mo_joinDoubles_49 rfl ?_
            refine px_dmul dx_Mo_joinDoubles_50 (dmul_vn ha hb) ?_
            refine px_goto dx_Mo_joinDoubles_51 ?_
            refine px_dstore (lv' := [(5, .double (FP.dmul a b)), (0, .int (nI (op))), (1, .double (a)), (3, .double (b))]) dx_Mo_joinDoubles_57 (by decide) rfl ?_
            refine px_dload dx_Mo_joinDoubles_59 rfl ?_
            refine px_ldc2d dx_Mo_joinDoubles_61 kk_Mo_307 ?_
            refine px_dcmp dx_Mo_joinDoubles_64 ?_
            refine px_if_gt dx_Mo_joinDoubles_65 (fun c_65 => ?_) (fun c_65 => ?_)
            · refine px_dconst0 dx_Mo_joinDoubles_77 ?_
              refine px_goto dx_Mo_joinDoubles_78 ?_
              exact px_dret dx_Mo_joinDoubles_83 rfl (by (have e : jD op a b = 0 := by (have e0 : jD0 op a b = FP.dmul a b := (by unfold jD0; (first | rw [if_neg c_19] | rw [if_pos c_19]); (first | rw [if_neg c_32] | rw [if_pos c_32]); (first | rw [if_neg c_45] | rw [if_pos c_45])); (unfold jD; first | rw [if_neg (fun q => c_4 q.1)] | rw [if_neg (fun q => c_10 q.2)]); unfold hlD; rw [e0]; (first | rw [if_pos c_65] | rw [if_neg c_65]))); rw [e] at hp; exact hp)
            · refine px_dload dx_Mo_joinDoubles_68 rfl ?_
              refine px_ldc2d dx_Mo_joinDoubles_70 kk_Mo_305 ?_
              refine px_dcmp dx_Mo_joinDoubles_73 ?_
              refine px_if_ge dx_Mo_joinDoubles_74 (fun c_74 => ?_) (fun c_74 => ?_)
              · refine px_dload dx_Mo_joinDoubles_81 rfl ?_
                exact px_dret dx_Mo_joinDoubles_83 rfl (by (have e : jD op a b = FP.dmul a b := by (have e0 : jD0 op a b = FP.dmul a b := (by unfold jD0; (first | rw [if_neg c_19] | rw [if_pos c_19]); (first | rw [if_neg c_32] | rw [if_pos c_32]); (first | rw [if_neg c_45] | rw [if_pos c_45])); (unfold jD; first | rw [if_neg (fun q => c_4 q.1)] | rw [if_neg (fun q => c_10 q.2)]); unfold hlD; rw [e0]; (first | rw [if_pos c_65] | rw [if_neg c_65]); (first | rw [if_neg (not_lt_ge c_74)] | rw [if_pos (ge_lt c_74)]))); rw [e] at hp; exact hp)
              · refine px_dconst0 dx_Mo_joinDoubles_77 ?_
                refine px_goto dx_Mo_joinDoubles_78 ?_
                exact px_dret dx_Mo_joinDoubles_83 rfl (by (have e : jD op a b = 0 := by (have e0 : jD0 op a b = FP.dmul a b := (by unfold jD0; (first | rw [if_neg c_19] | rw [if_pos c_19]); (first | rw [if_neg c_32] | rw [if_pos c_32]); (first | rw [if_neg c_45] | rw [if_pos c_45])); (unfold jD; first | rw [if_neg (fun q => c_4 q.1)] | rw [if_neg (fun q => c_10 q.2)]); unfold hlD; rw [e0]; (first | rw [if_pos c_65] | rw [if_neg c_65]); (first | rw [if_neg (not_lt_ge c_74)] | rw [if_pos (ge_lt c_74)]))); rw [e] at hp; exact hp)
        · refine px_dload_n dx_Mo_joinDoubles_35 rfl ?_
          refine px_dload_n dx_Mo_joinDoubles_36 rfl ?_
          refine px_dsub dx_Mo_joinDoubles_37 (dsub_vn ha hb) ?_
          refine px_goto dx_Mo_joinDoubles_38 ?_
          refine px_dstore (lv' := [(5, .double (FP.dsub a b)), (0, .int (nI (op))), (1, .double (a)), (3, .double (b))]) dx_Mo_joinDoubles_57 (by decide) rfl ?_
          refine px_dload dx_Mo_joinDoubles_59 rfl ?_
          refine px_ldc2d dx_Mo_joinDoubles_61 kk_Mo_307 ?_
          refine px_dcmp dx_Mo_joinDoubles_64 ?_
          refine px_if_gt dx_Mo_joinDoubles_65 (fun c_65 => ?_) (fun c_65 => ?_)
          · refine px_dconst0 dx_Mo_joinDoubles_77 ?_
            refine px_goto dx_Mo_joinDoubles_78 ?_
            exact px_dret dx_Mo_joinDoubles_83 rfl (by (have e : jD op a b = 0 := by (have e0 : jD0 op a b = FP.dsub a b := (by unfold jD0; (first | rw [if_neg c_19] | rw [if_pos c_19]); (first | rw [if_neg c_32] | rw [if_pos c_32])); (unfold jD; first | rw [if_neg (fun q => c_4 q.1)] | rw [if_neg (fun q => c_10 q.2)]); unfold hlD; rw [e0]; (first | rw [if_pos c_65] | rw [if_neg c_65]))); rw [e] at hp; exact hp)
          · refine px_dload dx_Mo_joinDoubles_68 rfl ?_
            refine px_ldc2d dx_Mo_joinDoubles_70 kk_Mo_305 ?_
            refine px_dcmp dx_Mo_joinDoubles_73 ?_
            refine px_if_ge dx_Mo_joinDoubles_74 (fun c_74 => ?_) (fun c_74 => ?_)
            · refine px_dload dx_Mo_joinDoubles_81 rfl ?_
              exact px_dret dx_Mo_joinDoubles_83 rfl (by (have e : jD op a b = FP.dsub a b := by (have e0 : jD0 op a b = FP.dsub a b := (by unfold jD0; (first | rw [if_neg c_19] | rw [if_pos c_19]); (first | rw [if_neg c_32] | rw [if_pos c_32])); (unfold jD; first | rw [if_neg (fun q => c_4 q.1)] | rw [if_neg (fun q => c_10 q.2)]); unfold hlD; rw [e0]; (first | rw [if_pos c_65] | rw [if_neg c_65]); (first | rw [if_neg (not_lt_ge c_74)] | rw [if_pos (ge_lt c_74)]))); rw [e] at hp; exact hp)
            · refine px_dconst0 dx_Mo_joinDoubles_77 ?_
              refine px_goto dx_Mo_joinDoubles_78 ?_
              exact px_dret dx_Mo_joinDoubles_83 rfl (by (have e : jD op a b = 0 := by (have e0 : jD0 op a b = FP.dsub a b := (by unfold jD0; (first | rw [if_neg c_19] | rw [if_pos c_19]); (first | rw [if_neg c_32] | rw [if_pos c_32])); (unfold jD; first | rw [if_neg (fun q => c_4 q.1)] | rw [if_neg (fun q => c_10 q.2)]); unfold hlD; rw [e0]; (first | rw [if_pos c_65] | rw [if_neg c_65]); (first | rw [if_neg (not_lt_ge c_74)] | rw [if_pos (ge_lt c_74)]))); rw [e] at hp; exact hp)
      · refine px_dload_n dx_Mo_joinDoubles_22 rfl ?_
        refine px_dload_n dx_Mo_joinDoubles_23 rfl ?_
        refine px_dadd dx_Mo_joinDoubles_24 (dadd_vn ha hb) ?_
        refine px_goto dx_Mo_joinDoubles_25 ?_
        refine px_dstore (lv' := [(5, .double (FP.dadd a b)), (0, .int (nI (op))), (1, .double (a)), (3, .double (b))]) dx_Mo_joinDoubles_57 (by decide) rfl ?_
        refine px_dload dx_Mo_joinDoubles_59 rfl ?_
        refine px_ldc2d dx_Mo_joinDoubles_61 kk_Mo_307 ?_
        refine px_dcmp dx_Mo_joinDoubles_64 ?_
        refine px_if_gt dx_Mo_joinDoubles_65 (fun c_65 => ?_) (fun c_65 => ?_)
        · refine px_dconst0 dx_Mo_joinDoubles_77 ?_
          refine px_goto dx_Mo_joinDoubles_78 ?_
          exact px_dret dx_Mo_joinDoubles_83 rfl (by (have e : jD op a b = 0 := by (have e0 : jD0 op a b = FP.dadd a b := (by unfold jD0; (first | rw [if_neg c_19] | rw [if_pos c_19])); (unfold jD; first | rw [if_neg (fun q => c_4 q.1)] | rw [if_neg (fun q => c_10 q.2)]); unfold hlD; rw [e0]; (first | rw [if_pos c_65] | rw [if_neg c_65]))); rw [e] at hp; exact hp)
        · refine px_dload dx_Mo_joinDoubles_68 rfl ?_
          refine px_ldc2d dx_Mo_joinDoubles_70 kk_Mo_305 ?_
          refine px_dcmp dx_Mo_joinDoubles_73 ?_
          refine px_if_ge dx_Mo_joinDoubles_74 (fun c_74 => ?_) (fun c_74 => ?_)
          · refine px_dload dx_Mo_joinDoubles_81 rfl ?_
            exact px_dret dx_Mo_joinDoubles_83 rfl (by (have e : jD op a b = FP.dadd a b := by (have e0 : jD0 op a b = FP.dadd a b := (by unfold jD0; (first | rw [if_neg c_19] | rw [if_pos c_19])); (unfold jD; first | rw [if_neg (fun q => c_4 q.1)] | rw [if_neg (fun q => c_10 q.2)]); unfold hlD; rw [e0]; (first | rw [if_pos c_65] | rw [if_neg c_65]); (first | rw [if_neg (not_lt_ge c_74)] | rw [if_pos (ge_lt c_74)]))); rw [e] at hp; exact hp)
          · refine px_dconst0 dx_Mo_joinDoubles_77 ?_
            refine px_goto dx_Mo_joinDoubles_78 ?_
            exact px_dret dx_Mo_joinDoubles_83 rfl (by (have e : jD op a b = 0 := by (have e0 : jD0 op a b = FP.dadd a b := (by unfold jD0; (first | rw [if_neg c_19] | rw [if_pos c_19])); (unfold jD; first | rw [if_neg (fun q => c_4 q.1)] | rw [if_neg (fun q => c_10 q.2)]); unfold hlD; rw [e0]; (first | rw [if_pos c_65] | rw [if_neg c_65]); (first | rw [if_neg (not_lt_ge c_74)] | rw [if_pos (ge_lt c_74)]))); rw [e] at hp; exact hp)
    · refine px_dconst0 dx_Mo_joinDoubles_13 ?_
      exact px_dret dx_Mo_joinDoubles_14 rfl (by (have e : jD op a b = 0 := by (unfold jD; rw [if_pos ⟨c_4, c_10⟩])); rw [e] at hp; exact hp)
set_option maxRecDepth 100000 in
set_option maxHeartbeats 1000000 in
theorem m_convert {l : Launch} {G : fr_G} {σ : fr_S} {σ0 : fr_S} {F : Nat → Nat → Nat} {A : VM} (hX : MX σ0 σ F A) (hd : 1 ≤ A.1 1 0) {op : Nat} (hop : cvt op = true) {a b : Nat} (ha : a < 10) (hb10 : b < 10) (hb : dB (gE A b)) : CR l G yy_Mo_convert rm_Mo_convert [.ref (717), .int (nI (op)), .int (nI (a)), .int (nI (b))] σ (fun r0 σ' => r0 = none ∧ MX σ0 σ' F (cvA A op a b)) := by
  intro Post hp0
  show PX l G yy_Mo_convert rm_Mo_convert _ false 742 0 0 0 [(0, .ref (717)), (1, .int (nI (op))), (2, .int (nI (a))), (3, .int (nI (b)))] [] σ
  have b6 := hX.2.2.2.2.1.2.1
  have ho : op = 123 ∨ op = 125 ∨ (127 ≤ op ∧ op ≤ 140) := by (simp only [cvt, Bool.or_eq_true, Bool.and_eq_true, decide_eq_true_eq] at hop; omega)
  refine px_aload_n dx_Mo_convert_0 rfl ?_
  refine px_iload_n dx_Mo_convert_1 rfl ?_
  refine px_cV (Y := yy_Mo_convert) (Yc := yy_Mo_wholeOf) (b := 717) (As := [.int (nI (b))]) dx_Mo_convert_2 ml_Mo_315 mv_Mo_wholeOf np_Mo_wholeOf ⟨_, rfl⟩ (by decide) rfl (by decide) rfl (Nat.le_of_ble_eq_true rfl) (Nat.le_of_ble_eq_true rfl) rk_Mo_convert_Mo_wholeOf rfl (m_wholeOf (A := A) (r := b) hX hd (by omega)) zz_0 ?_
  refine px_lstore (lv' := [(4, .long (gW A b)), (0, .ref (717)), (1, .int (nI (op))), (2, .int (nI (a))), (3, .int (nI (b)))]) dx_Mo_convert_5 (by decide) rfl ?_
  refine px_aload_n dx_Mo_convert_7 rfl ?_
  refine px_iload_n dx_Mo_convert_8 rfl ?_
  refine px_cV (Y := yy_Mo_convert) (Yc := yy_Mo_realOf) (b := 717) (As := [.int (nI (b))]) dx_Mo_convert_9 ml_Mo_322 mv_Mo_realOf np_Mo_realOf ⟨_, rfl⟩ (by decide) rfl (by decide) rfl (Nat.le_of_ble_eq_true rfl) (Nat.le_of_ble_eq_true rfl) rk_Mo_convert_Mo_realOf rfl (m_realOf (A := A) (r := b) hX hd (by omega)) zz_0 ?_
  refine px_dstore (lv' := [(6, .double (gE A b)), (4, .long (gW A b)), (0, .ref (717)), (1, .int (nI (op))), (2, .int (nI (a))), (3, .int (nI (b)))]) dx_Mo_convert_12 (by decide) rfl ?_
  refine px_iload_n dx_Mo_convert_14 rfl ?_
  by_cases k_15_0 : op ∈ ([123] : List Nat)
  · refine px_tabG (e := op) (off := 81) [123] dx_Mo_convert_15 (by omega) k_15_0 (by decide) rfl ?_
    refine px_aload_n dx_Mo_convert_96 rfl ?_
    refine px_iload_n dx_Mo_convert_97 rfl ?_
    refine px_lload dx_Mo_convert_98 rfl ?_
    refine px_lneg dx_Mo_convert_100 ?_
    refine px_l2i dx_Mo_convert_101 ?_
    refine px_i2l dx_Mo_convert_102 ?_
    refine px_cVR (Y := yy_Mo_convert) (Yc := yy_Mo_setWhole) (b := 717) (As := [.int (nI (a)), .long (((-(gW A b)).toInt32).toInt64)]) dx_Mo_convert_103 ml_Mo_318 mv_Mo_setWhole np_Mo_setWhole ⟨_, rfl⟩ (by decide) rfl (by decide) rfl (Nat.le_of_ble_eq_true rfl) (Nat.le_of_ble_eq_true rfl) rk_Mo_convert_Mo_setWhole rfl (m_setWhole (A := A) (r := a) (v := ((-(gW A b)).toInt32).toInt64) hX hd (by omega)) zz_0 (fun r_103 τ_103 h_103 => ?_)
    obtain ⟨rfl, hX⟩ := h_103
    exact px_vret dx_Mo_convert_106 rfl (by (have e : cvA A op a b = stW A a (((-(gW A b)).toInt32).toInt64) := by (have ew : cvW op = true := (by (unfold cvW; apply decide_eq_true; first | (have q := kn_15; simp only [List.mem_cons, List.not_mem_nil, or_false, not_or] at q ⊢; omega) | (have q := k_15_0; simp only [List.mem_cons, List.not_mem_nil, or_false, not_or] at q ⊢; omega))); unfold cvA; rw [ew]; simp only [cvL, k_15_0, if_true, if_false, Bool.false_eq_true])); exact hp0 _ _ ⟨rfl, e ▸ hX⟩)
  by_cases k_15_1 : op ∈ ([125] : List Nat)
  · refine px_tabG (e := op) (off := 92) [125] dx_Mo_convert_15 (by omega) k_15_1 (by decide) rfl ?_
    refine px_aload_n dx_Mo_convert_107 rfl ?_
    refine px_iload_n dx_Mo_convert_108 rfl ?_
    refine px_lload dx_Mo_convert_109 rfl ?_
    refine px_lneg dx_Mo_convert_111 ?_
    refine px_cVR (Y := yy_Mo_convert) (Yc := yy_Mo_setWhole) (b := 717) (As := [.int (nI (a)), .long (-(gW A b))]) dx_Mo_convert_112 ml_Mo_318 mv_Mo_setWhole np_Mo_setWhole ⟨_, rfl⟩ (by decide) rfl (by decide) rfl (Nat.le_of_ble_eq_true rfl) (Nat.le_of_ble_eq_true rfl) rk_Mo_convert_Mo_setWhole rfl (m_setWhole (A := A) (r := a) (v := -(gW A b)) hX hd (by omega)) zz_0 (fun r_112 τ_112 h_112 => ?_)
    obtain ⟨rfl, hX⟩ := h_112
    exact px_vret dx_Mo_convert_115 rfl (by (have e : cvA A op a b = stW A a (-(gW A b)) := by (have ew : cvW op = true := (by (unfold cvW; apply decide_eq_true; first | (have q := kn_15; simp only [List.mem_cons, List.not_mem_nil, or_false, not_or] at q ⊢; omega) | (have q := k_15_1; simp only [List.mem_cons, List.not_mem_nil, or_false, not_or] at q ⊢; omega))); unfold cvA; rw [ew]; simp only [cvL, k_15_0, k_15_1, if_true, if_false, Bool.false_eq_true])); exact hp0 _ _ ⟨rfl, e ▸ hX⟩)
  by_cases k_15_2 : op ∈ ([127] : List Nat)
  · refine px_tabG (e := op) (off := 101) [127] dx_Mo_convert_15 (by omega) k_15_2 (by decide) rfl ?_
    refine px_aload_n dx_Mo_convert_116 rfl ?_
    refine px_iload_n dx_Mo_convert_117 rfl ?_
    refine px_dload dx_Mo_convert_118 rfl ?_
    refine px_d2f dx_Mo_convert_120 (d2f_fB hb).vn ?_
    refine px_fneg dx_Mo_convert_121 ?_
    refine px_f2d dx_Mo_convert_122 (f2d_dB (fneg_fB (d2f_fB hb))).vn ?_
    refine px_cVR (Y := yy_Mo_convert) (Yc := yy_Mo_setReal) (b := 717) (As := [.int (nI (a)), .double (FP.f2d (FP.fneg (FP.d2f (gE A b))))]) dx_Mo_convert_123 ml_Mo_326 mv_Mo_setReal np_Mo_setReal ⟨_, rfl⟩ (by decide) rfl (by decide) rfl (Nat.le_of_ble_eq_true rfl) (Nat.le_of_ble_eq_true rfl) rk_Mo_convert_Mo_setReal rfl (m_setReal (A := A) (r := a) (v := FP.f2d (FP.fneg (FP.d2f (gE A b)))) hX hd (by omega)) zz_0 (fun r_123 τ_123 h_123 => ?_)
    obtain ⟨rfl, hX⟩ := h_123
    exact px_vret dx_Mo_convert_126 rfl (by (have e : cvA A op a b = stE A a (FP.f2d (FP.fneg (FP.d2f (gE A b)))) := by (have ew : cvW op = false := (by (unfold cvW; apply decide_eq_false; first | (have q := kn_15; simp only [List.mem_cons, List.not_mem_nil, or_false, not_or] at q ⊢; omega) | (have q := k_15_2; simp only [List.mem_cons, List.not_mem_nil, or_false, not_or] at q ⊢; omega))); unfold cvA; rw [ew]; simp only [cvE, k_15_0, k_15_1, k_15_2, if_true, if_false, Bool.false_eq_true])); exact hp0 _ _ ⟨rfl, e ▸ hX⟩)
  by_cases k_15_3 : op ∈ ([128] : List Nat)
  · refine px_tabG (e := op) (off := 112) [128] dx_Mo_convert_15 (by omega) k_15_3 (by decide) rfl ?_
    refine px_aload_n dx_Mo_convert_127 rfl ?_
    refine px_iload_n dx_Mo_convert_128 rfl ?_
    refine px_dload dx_Mo_convert_129 rfl ?_
    refine px_dneg dx_Mo_convert_131 ?_
    refine px_cVR (Y := yy_Mo_convert) (Yc := yy_Mo_setReal) (b := 717) (As := [.int (nI (a)), .double (FP.dneg (gE A b))]) dx_Mo_convert_132 ml_Mo_326 mv_Mo_setReal np_Mo_setReal ⟨_, rfl⟩ (by decide) rfl (by decide) rfl (Nat.le_of_ble_eq_true rfl) (Nat.le_of_ble_eq_true rfl) rk_Mo_convert_Mo_setReal rfl (m_setReal (A := A) (r := a) (v := FP.dneg (gE A b)) hX hd (by omega)) zz_0 (fun r_132 τ_132 h_132 => ?_)
    obtain ⟨rfl, hX⟩ := h_132
    exact px_vret dx_Mo_convert_135 rfl (by (have e : cvA A op a b = stE A a (FP.dneg (gE A b)) := by (have ew : cvW op = false := (by (unfold cvW; apply decide_eq_false; first | (have q := kn_15; simp only [List.mem_cons, List.not_mem_nil, or_false, not_or] at q ⊢; omega) | (have q := k_15_3; simp only [List.mem_cons, List.not_mem_nil, or_false, not_or] at q ⊢; omega))); unfold cvA; rw [ew]; simp only [cvE, k_15_0, k_15_1, k_15_2, k_15_3, if_true, if_false, Bool.false_eq_true])); exact hp0 _ _ ⟨rfl, e ▸ hX⟩)
  by_cases k_15_4 : op ∈ ([129] : List Nat)
  · refine px_tabG (e := op) (off := 121) [129] dx_Mo_convert_15 (by omega) k_15_4 (by decide) rfl ?_
    refine px_aload_n dx_Mo_convert_136 rfl ?_
    refine px_iload_n dx_Mo_convert_137 rfl ?_
    refine px_lload dx_Mo_convert_138 rfl ?_
    refine px_cVR (Y := yy_Mo_convert) (Yc := yy_Mo_setWhole) (b := 717) (As := [.int (nI (a)), .long (gW A b)]) dx_Mo_convert_140 ml_Mo_318 mv_Mo_setWhole np_Mo_setWhole ⟨_, rfl⟩ (by decide) rfl (by decide) rfl (Nat.le_of_ble_eq_true rfl) (Nat.le_of_ble_eq_true rfl) rk_Mo_convert_Mo_setWhole rfl (m_setWhole (A := A) (r := a) (v := gW A b) hX hd (by omega)) zz_0 (fun r_140 τ_140 h_140 => ?_)
    obtain ⟨rfl, hX⟩ := h_140
    exact px_vret dx_Mo_convert_143 rfl (by (have e : cvA A op a b = stW A a (gW A b) := by (have ew : cvW op = true := (by (unfold cvW; apply decide_eq_true; first | (have q := kn_15; simp only [List.mem_cons, List.not_mem_nil, or_false, not_or] at q ⊢; omega) | (have q := k_15_4; simp only [List.mem_cons, List.not_mem_nil, or_false, not_or] at q ⊢; omega))); unfold cvA; rw [ew]; simp only [cvL, k_15_0, k_15_1, k_15_2, k_15_3, k_15_4, if_true, if_false, Bool.false_eq_true])); exact hp0 _ _ ⟨rfl, e ▸ hX⟩)
  by_cases k_15_5 : op ∈ ([130] : List Nat)
  · refine px_tabG (e := op) (off := 129) [130] dx_Mo_convert_15 (by omega) k_15_5 (by decide) rfl ?_
    refine px_aload_n dx_Mo_convert_144 rfl ?_
    refine px_iload_n dx_Mo_convert_145 rfl ?_
    refine px_lload dx_Mo_convert_146 rfl ?_
    refine px_l2i dx_Mo_convert_148 ?_
    refine px_i2f dx_Mo_convert_149 ?_
    refine px_f2d dx_Mo_convert_150 (f2d_dB (i2f_fB _)).vn ?_
    refine px_cVR (Y := yy_Mo_convert) (Yc := yy_Mo_setReal) (b := 717) (As := [.int (nI (a)), .double (FP.f2d (FP.i2f ((gW A b).toInt32)))]) dx_Mo_convert_151 ml_Mo_326 mv_Mo_setReal np_Mo_setReal ⟨_, rfl⟩ (by decide) rfl (by decide) rfl (Nat.le_of_ble_eq_true rfl) (Nat.le_of_ble_eq_true rfl) rk_Mo_convert_Mo_setReal rfl (m_setReal (A := A) (r := a) (v := FP.f2d (FP.i2f ((gW A b).toInt32))) hX hd (by omega)) zz_0 (fun r_151 τ_151 h_151 => ?_)
    obtain ⟨rfl, hX⟩ := h_151
    exact px_vret dx_Mo_convert_154 rfl (by (have e : cvA A op a b = stE A a (FP.f2d (FP.i2f ((gW A b).toInt32))) := by (have ew : cvW op = false := (by (unfold cvW; apply decide_eq_false; first | (have q := kn_15; simp only [List.mem_cons, List.not_mem_nil, or_false, not_or] at q ⊢; omega) | (have q := k_15_5; simp only [List.mem_cons, List.not_mem_nil, or_false, not_or] at q ⊢; omega))); unfold cvA; rw [ew]; simp only [cvE, k_15_0, k_15_1, k_15_2, k_15_3, k_15_4, k_15_5, if_true, if_false, Bool.false_eq_true])); exact hp0 _ _ ⟨rfl, e ▸ hX⟩)
  by_cases k_15_6 : op ∈ ([131, 134] : List Nat)
  · refine px_tabG (e := op) (off := 140) [131, 134] dx_Mo_convert_15 (by omega) k_15_6 (by decide) rfl ?_
    refine px_aload_n dx_Mo_convert_155 rfl ?_
    refine px_iload_n dx_Mo_convert_156 rfl ?_
    refine px_lload dx_Mo_convert_157 rfl ?_
    refine px_l2d dx_Mo_convert_159 ?_
    refine px_cVR (Y := yy_Mo_convert) (Yc := yy_Mo_setReal) (b := 717) (As := [.int (nI (a)), .double (FP.l2d (gW A b))]) dx_Mo_convert_160 ml_Mo_326 mv_Mo_setReal np_Mo_setReal ⟨_, rfl⟩ (by decide) rfl (by decide) rfl (Nat.le_of_ble_eq_true rfl) (Nat.le_of_ble_eq_true rfl) rk_Mo_convert_Mo_setReal rfl (m_setReal (A := A) (r := a) (v := FP.l2d (gW A b)) hX hd (by omega)) zz_0 (fun r_160 τ_160 h_160 => ?_)
    obtain ⟨rfl, hX⟩ := h_160
    exact px_vret dx_Mo_convert_163 rfl (by (have e : cvA A op a b = stE A a (FP.l2d (gW A b)) := by (have ew : cvW op = false := (by (unfold cvW; apply decide_eq_false; first | (have q := kn_15; simp only [List.mem_cons, List.not_mem_nil, or_false, not_or] at q ⊢; omega) | (have q := k_15_6; simp only [List.mem_cons, List.not_mem_nil, or_false, not_or] at q ⊢; omega))); unfold cvA; rw [ew]; simp only [cvE, k_15_0, k_15_1, k_15_2, k_15_3, k_15_4, k_15_5, k_15_6, if_true, if_false, Bool.false_eq_true])); exact hp0 _ _ ⟨rfl, e ▸ hX⟩)
  by_cases k_15_7 : op ∈ ([132] : List Nat)
  · refine px_tabG (e := op) (off := 149) [132] dx_Mo_convert_15 (by omega) k_15_7 (by decide) rfl ?_
    refine px_aload_n dx_Mo_convert_164 rfl ?_
    refine px_iload_n dx_Mo_convert_165 rfl ?_
    refine px_lload dx_Mo_convert_166 rfl ?_
    refine px_l2i dx_Mo_convert_168 ?_
    refine px_i2l dx_Mo_convert_169 ?_
    refine px_cVR (Y := yy_Mo_convert) (Yc := yy_Mo_setWhole) (b := 717) (As := [.int (nI (a)), .long (((gW A b).toInt32).toInt64)]) dx_Mo_convert_170 ml_Mo_318 mv_Mo_setWhole np_Mo_setWhole ⟨_, rfl⟩ (by decide) rfl (by decide) rfl (Nat.le_of_ble_eq_true rfl) (Nat.le_of_ble_eq_true rfl) rk_Mo_convert_Mo_setWhole rfl (m_setWhole (A := A) (r := a) (v := ((gW A b).toInt32).toInt64) hX hd (by omega)) zz_0 (fun r_170 τ_170 h_170 => ?_)
    obtain ⟨rfl, hX⟩ := h_170
    exact px_vret dx_Mo_convert_173 rfl (by (have e : cvA A op a b = stW A a (((gW A b).toInt32).toInt64) := by (have ew : cvW op = true := (by (unfold cvW; apply decide_eq_true; first | (have q := kn_15; simp only [List.mem_cons, List.not_mem_nil, or_false, not_or] at q ⊢; omega) | (have q := k_15_7; simp only [List.mem_cons, List.not_mem_nil, or_false, not_or] at q ⊢; omega))); unfold cvA; rw [ew]; simp only [cvL, k_15_0, k_15_1, k_15_2, k_15_3, k_15_4, k_15_5, k_15_6, k_15_7, if_true, if_false, Bool.false_eq_true])); exact hp0 _ _ ⟨rfl, e ▸ hX⟩)
  by_cases k_15_8 : op ∈ ([133] : List Nat)
  · refine px_tabG (e := op) (off := 159) [133] dx_Mo_convert_15 (by omega) k_15_8 (by decide) rfl ?_
    refine px_aload_n dx_Mo_convert_174 rfl ?_
    refine px_iload_n dx_Mo_convert_175 rfl ?_
    refine px_lload dx_Mo_convert_176 rfl ?_
    refine px_l2f dx_Mo_convert_178 ?_
    refine px_f2d dx_Mo_convert_179 (f2d_dB (l2f_fB _)).vn ?_
    refine px_cVR (Y := yy_Mo_convert) (Yc := yy_Mo_setReal) (b := 717) (As := [.int (nI (a)), .double (FP.f2d (FP.l2f (gW A b)))]) dx_Mo_convert_180 ml_Mo_326 mv_Mo_setReal np_Mo_setReal ⟨_, rfl⟩ (by decide) rfl (by decide) rfl (Nat.le_of_ble_eq_true rfl) (Nat.le_of_ble_eq_true rfl) rk_Mo_convert_Mo_setReal rfl (m_setReal (A := A) (r := a) (v := FP.f2d (FP.l2f (gW A b))) hX hd (by omega)) zz_0 (fun r_180 τ_180 h_180 => ?_)
    obtain ⟨rfl, hX⟩ := h_180
    exact px_vret dx_Mo_convert_183 rfl (by (have e : cvA A op a b = stE A a (FP.f2d (FP.l2f (gW A b))) := by (have ew : cvW op = false := (by (unfold cvW; apply decide_eq_false; first | (have q := kn_15; simp only [List.mem_cons, List.not_mem_nil, or_false, not_or] at q ⊢; omega) | (have q := k_15_8; simp only [List.mem_cons, List.not_mem_nil, or_false, not_or] at q ⊢; omega))); unfold cvA; rw [ew]; simp only [cvE, k_15_0, k_15_1, k_15_2, k_15_3, k_15_4, k_15_5, k_15_6, k_15_7, k_15_8, if_true, if_false, Bool.false_eq_true])); exact hp0 _ _ ⟨rfl, e ▸ hX⟩)
  by_cases k_15_9 : op ∈ ([135, 138] : List Nat)
  · refine px_tabG (e := op) (off := 169) [135, 138] dx_Mo_convert_15 (by omega) k_15_9 (by decide) rfl ?_
    refine px_aload_n dx_Mo_convert_184 rfl ?_
    refine px_iload_n dx_Mo_convert_185 rfl ?_
    refine px_dload dx_Mo_convert_186 rfl ?_
    refine px_d2i dx_Mo_convert_188 ?_
    refine px_i2l dx_Mo_convert_189 ?_
    refine px_cVR (Y := yy_Mo_convert) (Yc := yy_Mo_setWhole) (b := 717) (As := [.int (nI (a)), .long ((FP.d2i (gE A b)).toInt64)]) dx_Mo_convert_190 ml_Mo_318 mv_Mo_setWhole np_Mo_setWhole ⟨_, rfl⟩ (by decide) rfl (by decide) rfl (Nat.le_of_ble_eq_true rfl) (Nat.le_of_ble_eq_true rfl) rk_Mo_convert_Mo_setWhole rfl (m_setWhole (A := A) (r := a) (v := (FP.d2i (gE A b)).toInt64) hX hd (by omega)) zz_0 (fun r_190 τ_190 h_190 => ?_)
    obtain ⟨rfl, hX⟩ := h_190
    exact px_vret dx_Mo_convert_193 rfl (by (have e : cvA A op a b = stW A a ((FP.d2i (gE A b)).toInt64) := by (have ew : cvW op = true := (by (unfold cvW; apply decide_eq_true; first | (have q := kn_15; simp only [List.mem_cons, List.not_mem_nil, or_false, not_or] at q ⊢; omega) | (have q := k_15_9; simp only [List.mem_cons, List.not_mem_nil, or_false, not_or] at q ⊢; omega))); unfold cvA; rw [ew]; simp only [cvL, k_15_0, k_15_1, k_15_2, k_15_3, k_15_4, k_15_5, k_15_6, k_15_7, k_15_8, k_15_9, if_true, if_false, Bool.false_eq_true])); exact hp0 _ _ ⟨rfl, e ▸ hX⟩)
  by_cases k_15_10 : op ∈ ([136, 139] : List Nat)
  · refine px_tabG (e := op) (off := 179) [136, 139] dx_Mo_convert_15 (by omega) k_15_10 (by decide) rfl ?_
    refine px_aload_n dx_Mo_convert_194 rfl ?_
    refine px_iload_n dx_Mo_convert_195 rfl ?_
    refine px_dload dx_Mo_convert_196 rfl ?_
    refine px_d2l dx_Mo_convert_198 ?_
    refine px_cVR (Y := yy_Mo_convert) (Yc := yy_Mo_setWhole) (b := 717) (As := [.int (nI (a)), .long (FP.d2l (gE A b))]) dx_Mo_convert_199 ml_Mo_318 mv_Mo_setWhole np_Mo_setWhole ⟨_, rfl⟩ (by decide) rfl (by decide) rfl (Nat.le_of_ble_eq_true rfl) (Nat.le_of_ble_eq_true rfl) rk_Mo_convert_Mo_setWhole rfl (m_setWhole (A := A) (r := a) (v := FP.d2l (gE A b)) hX hd (by omega)) zz_0 (fun r_199 τ_199 h_199 => ?_)
    obtain ⟨rfl, hX⟩ := h_199
    exact px_vret dx_Mo_convert_202 rfl (by (have e : cvA A op a b = stW A a (FP.d2l (gE A b)) := by (have ew : cvW op = true := (by (unfold cvW; apply decide_eq_true; first | (have q := kn_15; simp only [List.mem_cons, List.not_mem_nil, or_false, not_or] at q ⊢; omega) | (have q := k_15_10; simp only [List.mem_cons, List.not_mem_nil, or_false, not_or] at q ⊢; omega))); unfold cvA; rw [ew]; simp only [cvL, k_15_0, k_15_1, k_15_2, k_15_3, k_15_4, k_15_5, k_15_6, k_15_7, k_15_8, k_15_9, k_15_10, if_true, if_false, Bool.false_eq_true])); exact hp0 _ _ ⟨rfl, e ▸ hX⟩)
  by_cases k_15_11 : op ∈ ([137] : List Nat)
  · refine px_tabG (e := op) (off := 188) [137] dx_Mo_convert_15 (by omega) k_15_11 (by decide) rfl ?_
    refine px_aload_n dx_Mo_convert_203 rfl ?_
    refine px_iload_n dx_Mo_convert_204 rfl ?_
    refine px_dload dx_Mo_convert_205 rfl ?_
    refine px_cVR (Y := yy_Mo_convert) (Yc := yy_Mo_setReal) (b := 717) (As := [.int (nI (a)), .double (gE A b)]) dx_Mo_convert_207 ml_Mo_326 mv_Mo_setReal np_Mo_setReal ⟨_, rfl⟩ (by decide) rfl (by decide) rfl (Nat.le_of_ble_eq_true rfl) (Nat.le_of_ble_eq_true rfl) rk_Mo_convert_Mo_setReal rfl (m_setReal (A := A) (r := a) (v := gE A b) hX hd (by omega)) zz_0 (fun r_207 τ_207 h_207 => ?_)
    obtain ⟨rfl, hX⟩ := h_207
    exact px_vret dx_Mo_convert_210 rfl (by (have e : cvA A op a b = stE A a (gE A b) := by (have ew : cvW op = false := (by (unfold cvW; apply decide_eq_false; first | (have q := kn_15; simp only [List.mem_cons, List.not_mem_nil, or_false, not_or] at q ⊢; omega) | (have q := k_15_11; simp only [List.mem_cons, List.not_mem_nil, or_false, not_or] at q ⊢; omega))); unfold cvA; rw [ew]; simp only [cvE, k_15_0, k_15_1, k_15_2, k_15_3, k_15_4, k_15_5, k_15_6, k_15_7, k_15_8, k_15_9, k_15_10, k_15_11, if_true, if_false, Bool.false_eq_true])); exact hp0 _ _ ⟨rfl, e ▸ hX⟩)
  have kn_15 : op ∉ ([123, 125, 127, 128, 129, 130, 131, 132, 133, 134, 135, 136, 137, 138, 139] : List Nat) := by simp only [List.mem_cons, List.not_mem_nil, or_false, not_or] at *; omega
  refine px_tabD (e := op) [123, 125, 127, 128, 129, 130, 131, 132, 133, 134, 135, 136, 137, 138, 139] dx_Mo_convert_15 (by omega) kn_15 16 123 ⟨rfl, rfl⟩ (by decide) rfl ?_
  refine px_aload_n dx_Mo_convert_211 rfl ?_
  refine px_iload_n dx_Mo_convert_212 rfl ?_
  refine px_dload dx_Mo_convert_213 rfl ?_
  refine px_d2f dx_Mo_convert_215 (d2f_fB hb).vn ?_
  refine px_f2d dx_Mo_convert_216 (f2d_dB (d2f_fB hb)).vn ?_
  refine px_cVR (Y := yy_Mo_convert) (Yc := yy_Mo_setReal) (b := 717) (As := [.int (nI (a)), .double (FP.f2d (FP.d2f (gE A b)))]) dx_Mo_convert_217 ml_Mo_326 mv_Mo_setReal np_Mo_setReal ⟨_, rfl⟩ (by decide) rfl (by decide) rfl (Nat.le_of_ble_eq_true rfl) (Nat.le_of_ble_eq_true rfl) rk_Mo_convert_Mo_setReal rfl (m_setReal (A := A) (r := a) (v := FP.f2d (FP.d2f (gE A b))) hX hd (by omega)) zz_0 (fun r_217 τ_217 h_217 => ?_)
  obtain ⟨rfl, hX⟩ := h_217
  exact px_vret dx_Mo_convert_220 rfl (by (have e : cvA A op a b = stE A a (FP.f2d (FP.d2f (gE A b))) := by (have ew : cvW op = false := (by (unfold cvW; apply decide_eq_false; first | (have q := kn_15; simp only [List.mem_cons, List.not_mem_nil, or_false, not_or] at q ⊢; omega) | (have q := k_15_11; simp only [List.mem_cons, List.not_mem_nil, or_false, not_or] at q ⊢; omega))); unfold cvA; rw [ew]; simp only [cvE, k_15_0, k_15_1, k_15_2, k_15_3, k_15_4, k_15_5, k_15_6, k_15_7, k_15_8, k_15_9, k_15_10, k_15_11, if_true, if_false, Bool.false_eq_true])); exact hp0 _ _ ⟨rfl, e ▸ hX⟩)
set_option maxRecDepth 100000 in
set_option maxHeartbeats 1000000 in
theorem m_divides {l : Launch} {G : fr_G} {σ : fr_S} {op : Nat} (hop : op < 256) : CT l G yy_Mo_divides rm_Mo_divides [.int (nI (op))] σ (some (.int (b2i (dvO op)))) (σ) := by
  intro Post hp0
  have hp := hp0
  show PX l G yy_Mo_divides rm_Mo_divides _ false 742 0 0 0 [(0, .int (nI (op)))] [] σ
  refine px_iload_n dx_Mo_divides_0 rfl ?_
  refine px_sipush (v := 147) dx_Mo_divides_1 rfl ?_
  refine px_icmp_eqN (a := op) (b := 147) dx_Mo_divides_4 (by omega) (by omega) (fun c_4 => ?_) (fun c_4 => ?_)
  · refine px_iconst (v := 1) dx_Mo_divides_28 rfl ?_
    refine px_goto dx_Mo_divides_29 ?_
    exact px_zret dx_Mo_divides_33 rfl (by decide) (by (have e : (dvO op) = true := by (simp only [dvO, Bool.or_eq_true, Bool.and_eq_true, decide_eq_true_eq, Bool.or_eq_false_iff, Bool.and_eq_false_iff, decide_eq_false_iff_not]; omega)); rw [e] at hp; exact hp)
  · refine px_iload_n dx_Mo_divides_7 rfl ?_
    refine px_sipush (v := 148) dx_Mo_divides_8 rfl ?_
    refine px_icmp_eqN (a := op) (b := 148) dx_Mo_divides_11 (by omega) (by omega) (fun c_11 => ?_) (fun c_11 => ?_)
    · refine px_iconst (v := 1) dx_Mo_divides_28 rfl ?_
      refine px_goto dx_Mo_divides_29 ?_
      exact px_zret dx_Mo_divides_33 rfl (by decide) (by (have e : (dvO op) = true := by (simp only [dvO, Bool.or_eq_true, Bool.and_eq_true, decide_eq_true_eq, Bool.or_eq_false_iff, Bool.and_eq_false_iff, decide_eq_false_iff_not]; omega)); rw [e] at hp; exact hp)
    · refine px_iload_n dx_Mo_divides_14 rfl ?_
      refine px_sipush (v := 158) dx_Mo_divides_15 rfl ?_
      refine px_icmp_eqN (a := op) (b := 158) dx_Mo_divides_18 (by omega) (by omega) (fun c_18 => ?_) (fun c_18 => ?_)
      · refine px_iconst (v := 1) dx_Mo_divides_28 rfl ?_
        refine px_goto dx_Mo_divides_29 ?_
        exact px_zret dx_Mo_divides_33 rfl (by decide) (by (have e : (dvO op) = true := by (simp only [dvO, Bool.or_eq_true, Bool.and_eq_true, decide_eq_true_eq, Bool.or_eq_false_iff, Bool.and_eq_false_iff, decide_eq_false_iff_not]; omega)); rw [e] at hp; exact hp)
      · refine px_iload_n dx_Mo_divides_21 rfl ?_
        refine px_sipush (v := 159) dx_Mo_divides_22 rfl ?_
        refine px_icmp_neN (a := op) (b := 159) dx_Mo_divides_25 (by omega) (by omega) (fun c_25 => ?_) (fun c_25 => ?_)
        · refine px_iconst (v := 0) dx_Mo_divides_32 rfl ?_
          exact px_zret dx_Mo_divides_33 rfl (by decide) (by (have e : (dvO op) = false := by (simp only [dvO, Bool.or_eq_true, Bool.and_eq_true, decide_eq_true_eq, Bool.or_eq_false_iff, Bool.and_eq_false_iff, decide_eq_false_iff_not]; omega)); rw [e] at hp; exact hp)
        · refine px_iconst (v := 1) dx_Mo_divides_28 rfl ?_
          refine px_goto dx_Mo_divides_29 ?_
          exact px_zret dx_Mo_divides_33 rfl (by decide) (by (have e : (dvO op) = true := by (simp only [dvO, Bool.or_eq_true, Bool.and_eq_true, decide_eq_true_eq, Bool.or_eq_false_iff, Bool.and_eq_false_iff, decide_eq_false_iff_not]; omega)); rw [e] at hp; exact hp)
theorem cmp0D {x : UInt64} (h : dB x) (c : ¬ Op.cmpValue (FP.dcmp x 0) .l = 0) : x.toNat % 2 ^ 63 ≠ 0 := fun e => by
  refine c ?_
  rw [dcmp_ky h.vn d0_dB.vn, cmz_eq, ky_e, ky_e, e]
  split <;> rfl
theorem cmp0F {x : UInt32} (h : fB x) (c : ¬ Op.cmpValue (FP.fcmp x 0) .l = 0) : x.toNat % 2 ^ 31 ≠ 0 := fun e => by
  refine c ?_
  rw [fcmp_kf h.vn f0_fB.vn, cmz_eq, kf_e, kf_e, e]
  split <;> rfl
theorem cmz_1 (a b : Int) : cmz a b = 1 ∨ cmz a b = 0 ∨ cmz a b = -1 := by
  unfold cmz
  split
  · exact Or.inr (Or.inr rfl)
  · split
    · exact Or.inr (Or.inl rfl)
    · exact Or.inl rfl
theorem hlF_fB {v : UInt32} (h : vf_n32 v) : fB (hlF v) := by
  have a1 : vf_n32 1568669696 := vn32 (by decide)
  have a2 : vf_n32 3716153344 := vn32 (by decide)
  unfold hlF
  rw [fcmp_kf h a1, fcmp_kf h a2]
  have k1 : kf 1568669696 = 1568669696 := by rw [kf_e]; decide
  have k2 : kf 3716153344 = -1568669696 := by rw [kf_e]; decide
  split
  · exact f0_fB
  · split
    · exact f0_fB
    · rename_i h1 h2
      unfold fB
      replace h1 : ¬ kf 1568669696 < kf v := fun q => h1 (cmz_gt.mpr q)
      replace h2 : ¬ kf v < kf 3716153344 := fun q => h2 (cmz_lt.mpr q)
      rw [k1, kf_e] at h1
      rw [k2, kf_e] at h2
      split at h1
      · rename_i hs
        rw [if_pos hs] at h2
        omega
      · rename_i hs
        rw [if_neg hs] at h2
        omega
theorem hlD_dB {v : UInt64} (h : vf_n64 v) : dB (hlD v) := by
  have a1 : vf_n64 4877398396442247168 := vn64 (by decide)
  have a2 : vf_n64 14100770433297022976 := vn64 (by decide)
  unfold hlD
  rw [dcmp_ky h a1, dcmp_ky h a2]
  have k1 : ky 4877398396442247168 = 4877398396442247168 := by rw [ky_e]; decide
  have k2 : ky 14100770433297022976 = -4877398396442247168 := by rw [ky_e]; decide
  split
  · exact d0_dB
  · split
    · exact d0_dB
    · rename_i h1 h2
      unfold dB
      replace h1 : ¬ ky 4877398396442247168 < ky v := fun q => h1 (cmz_gt.mpr q)
      replace h2 : ¬ ky v < ky 14100770433297022976 := fun q => h2 (cmz_lt.mpr q)
      rw [k1, ky_e] at h1
      rw [k2, ky_e] at h2
      split at h1
      · rename_i hs
        rw [if_pos hs] at h2
        omega
      · rename_i hs
        rw [if_neg hs] at h2
        omega
theorem jF0_vn {op : Nat} {a b : UInt32} (ha : fB a) (hb : fB b) (h : op = 166 ∨ op = 167 ∨ op = 168 ∨ b.toNat % 2 ^ 31 ≠ 0) : vf_n32 (jF0 op a b) := by
  unfold jF0
  split
  · exact fadd_vn ha hb
  · split
    · exact fsub_vn ha hb
    · split
      · exact fmul_vn ha hb
      · exact fdiv_vn ha hb (by omega)
theorem jD0_vn {op : Nat} {a b : UInt64} (ha : dB a) (hb : dB b) (h : op = 171 ∨ op = 172 ∨ op = 173 ∨ b.toNat % 2 ^ 63 ≠ 0) : vf_n64 (jD0 op a b) := by
  unfold jD0
  split
  · exact dadd_vn ha hb
  · split
    · exact dsub_vn ha hb
    · split
      · exact dmul_vn ha hb
      · exact ddiv_vn ha hb (by omega)
theorem jF_fB {op : Nat} {a b : UInt32} (ha : fB a) (hb : fB b) (ho : 166 ≤ op ∧ op ≤ 169) : fB (jF op a b) := by
  unfold jF
  split
  · exact f0_fB
  · rename_i h
    refine hlF_fB (jF0_vn ha hb ?_)
    by_cases e : op = 169
    · exact Or.inr (Or.inr (Or.inr (cmp0F hb fun q => h ⟨e, q⟩)))
    · omega
theorem jD_dB {op : Nat} {a b : UInt64} (ha : dB a) (hb : dB b) (ho : 171 ≤ op ∧ op ≤ 174) : dB (jD op a b) := by
  unfold jD
  split
  · exact d0_dB
  · rename_i h
    refine hlD_dB (jD0_vn ha hb ?_)
    by_cases e : op = 174
    · exact Or.inr (Or.inr (Or.inr (cmp0D hb fun q => h ⟨e, q⟩)))
    · omega
theorem cvE_dB {op : Nat} {v : Int64} {d : UInt64} (h : dB d) : dB (cvE op v d) := by
  unfold cvE
  repeat' split
  · exact f2d_dB (fneg_fB (d2f_fB h))
  · exact dneg_dB h
  · exact f2d_dB (i2f_fB _)
  · exact l2d_dB _
  · exact f2d_dB (l2f_fB _)
  · exact h
  · exact f2d_dB (d2f_fB h)
theorem dvO_i {op : Nat} (h : jnO op = 1) (q : op = 147 ∨ op = 148) : dvO op = true := by rcases q with rfl | rfl <;> rfl
theorem dvO_l {op : Nat} (q : op = 158 ∨ op = 159) : dvO op = true := by rcases q with rfl | rfl <;> rfl
theorem jnO_i {op : Nat} (h : jnO op = 1) : op < 155 := by
  unfold jnO at h
  split at h
  · assumption
  · repeat' split at h
    all_goals cases h
theorem jnO_l {op : Nat} (h : jnO op = 2) : 155 ≤ op ∧ op < 160 := by
  unfold jnO at h
  split at h
  · cases h
  · split at h
    · omega
    · split at h <;> cases h
theorem jnO_f {op : Nat} (h : jnO op = 3) : 160 ≤ op ∧ op < 170 := by
  unfold jnO at h
  split at h
  · cases h
  · split at h
    · cases h
    · split at h
      · omega
      · cases h
theorem jnO_d {op : Nat} (h1 : ¬ jnO op = 1) (h2 : ¬ jnO op = 2) (h3 : ¬ jnO op = 3) : 170 ≤ op := by
  refine Nat.le_of_not_lt fun h => ?_
  by_cases a : op < 155
  · exact h1 (by unfold jnO; rw [if_pos a])
  · by_cases b : op < 160
    · exact h2 (by unfold jnO; rw [if_neg a, if_pos b])
    · exact h3 (by unfold jnO; rw [if_neg a, if_neg b, if_pos h])
theorem lcmp_0 {x : Int64} (h : ¬ lg_cmp x 0 = 0) : ¬ x = 0 := fun e => h (by rw [e]; decide)
theorem lcmp_z {x : Int64} (h : lg_cmp x 0 = 0) : x = 0 := by
  unfold lg_cmp at h
  by_cases c : x > 0
  · rw [if_pos c] at h; exact absurd h (by decide)
  · rw [if_neg c] at h
    by_cases c2 : x = 0
    · exact c2
    · rw [if_neg c2] at h; exact absurd h (by decide)
/-- whether an instruction stops the machine -/
def dzA (A : VM) (op d : Nat) : Bool := dvO op && decide (gW A d = 0)

set_option maxRecDepth 100000 in
set_option maxHeartbeats 1000000 in
theorem m_join {l : Launch} {G : fr_G} {σ : fr_S} {σ0 : fr_S} {F : Nat → Nat → Nat} {A : VM} (hX : MX σ0 σ F A) (hd : 1 ≤ A.1 1 0) {op : Nat} (hop : op < 256) (hjn : jns op = true) {to c d : Nat} (hto : to < 10) (hc : c < 10) (hd10 : d < 10) (hbc : dB (gE A c)) (hbd : dB (gE A d)) (hIT : jnO op = 1 → ¬ gW A d = 0 → ¬ (gW A d).toInt32 = 0) : CR l G yy_Mo_join rm_Mo_join [.ref (717), .int (nI (op)), .int (nI (to)), .int (nI (c)), .int (nI (d))] σ (fun r0 σ' => r0 = some (.int (b2i (!dzA A op d))) ∧ MX σ0 σ' F (if dzA A op d = true then A else jnA A op to c d)) := by
  intro Post hp0
  show PX l G yy_Mo_join rm_Mo_join _ false 742 0 0 0 [(0, .ref (717)), (1, .int (nI (op))), (2, .int (nI (to))), (3, .int (nI (c))), (4, .int (nI (d)))] [] σ
  have b6 := hX.2.2.2.2.1.2.1
  have ho : (144 ≤ op ∧ op ≤ 159) ∨ (166 ≤ op ∧ op ≤ 169) ∨ (171 ≤ op ∧ op ≤ 174) := by (simp only [jns, Bool.or_eq_true, Bool.and_eq_true, decide_eq_true_eq] at hjn; omega)
  have hjo : jnO op ≤ 4 := (jnO_b op).2
  refine px_iload_n dx_Mo_join_0 rfl ?_
  refine px_cS (Y := yy_Mo_join) (Yc := yy_Mo_divides) (As := [.int (nI (op))]) dx_Mo_join_1 ml_Mo_332 ms_Mo_divides np_Mo_divides rfl (Nat.le_of_ble_eq_true rfl) (Nat.le_of_ble_eq_true rfl) rk_Mo_join_Mo_divides rfl (m_divides hop) zz_0 ?_
  refine px_if_eqB dx_Mo_join_4 (fun c_4 => ?_) (fun c_4 => ?_)
  · have hzl : dvO op = true → ¬ gW A d = 0 := by (first | exact fun q => absurd q (by rw [c_4]; decide) | exact fun _ => lcmp_0 c_15)
    have hzi : jnO op = 1 → dvO op = true → ¬ (gW A d).toInt32 = 0 := fun r q => hIT r (hzl q)
    refine px_iload_n dx_Mo_join_20 rfl ?_
    refine px_cS (Y := yy_Mo_join) (Yc := yy_Mo_joined) (As := [.int (nI (op))]) dx_Mo_join_21 ml_Mo_202 ms_Mo_joined np_Mo_joined rfl (Nat.le_of_ble_eq_true rfl) (Nat.le_of_ble_eq_true rfl) rk_Mo_join_Mo_joined rfl (m_joined hop) zz_0 ?_
    refine px_istore (lv' := [(5, .int (nI (jnO op))), (0, .ref (717)), (1, .int (nI (op))), (2, .int (nI (to))), (3, .int (nI (c))), (4, .int (nI (d)))]) dx_Mo_join_24 (by decide) rfl ?_
    refine px_iload dx_Mo_join_26 rfl ?_
    refine px_iconst (v := 1) dx_Mo_join_28 rfl ?_
    refine px_icmp_neN (a := jnO op) (b := 1) dx_Mo_join_29 (by omega) (by omega) (fun c_29 => ?_) (fun c_29 => ?_)
    · refine px_iload dx_Mo_join_58 rfl ?_
      refine px_iconst (v := 2) dx_Mo_join_60 rfl ?_
      refine px_icmp_neN (a := jnO op) (b := 2) dx_Mo_join_61 (by omega) (by omega) (fun c_61 => ?_) (fun c_61 => ?_)
      · refine px_iload dx_Mo_join_87 rfl ?_
        refine px_iconst (v := 3) dx_Mo_join_89 rfl ?_
        refine px_icmp_neN (a := jnO op) (b := 3) dx_Mo_join_90 (by omega) (by omega) (fun c_90 => ?_) (fun c_90 => ?_)
        · refine px_aload_n dx_Mo_join_119 rfl ?_
          refine px_iload_n dx_Mo_join_120 rfl ?_
          refine px_iload_n dx_Mo_join_121 rfl ?_
          refine px_aload_n dx_Mo_join_122 rfl ?_
          refine px_iload_n dx_Mo_join_123 rfl ?_
          refine px_cV (Y := yy_Mo_join) (Yc := yy_Mo_realOf) (b := 717) (As := [.int (nI (c))]) dx_Mo_join_124 ml_Mo_322 mv_Mo_realOf np_Mo_realOf ⟨_, rfl⟩ (by decide) rfl (by decide) rfl (Nat.le_of_ble_eq_true rfl) (Nat.le_of_ble_eq_true rfl) rk_Mo_join_Mo_realOf rfl (m_realOf (A := A) (r := c) hX hd (by omega)) zz_0 ?_
          refine px_aload_n dx_Mo_join_127 rfl ?_
          refine px_iload dx_Mo_join_128 rfl ?_
          refine px_cV (Y := yy_Mo_join) (Yc := yy_Mo_realOf) (b := 717) (As := [.int (nI (d))]) dx_Mo_join_130 ml_Mo_322 mv_Mo_realOf np_Mo_realOf ⟨_, rfl⟩ (by decide) rfl (by decide) rfl (Nat.le_of_ble_eq_true rfl) (Nat.le_of_ble_eq_true rfl) rk_Mo_join_Mo_realOf rfl (m_realOf (A := A) (r := d) hX hd (by omega)) zz_0 ?_
          refine px_cS (Y := yy_Mo_join) (Yc := yy_Mo_joinDoubles) (As := [.int (nI (op)), .double (gE A c), .double (gE A d)]) dx_Mo_join_133 ml_Mo_346 ms_Mo_joinDoubles np_Mo_joinDoubles rfl (Nat.le_of_ble_eq_true rfl) (Nat.le_of_ble_eq_true rfl) rk_Mo_join_Mo_joinDoubles rfl (m_joinDoubles (op := op) hop (by have := jnO_d c_29 c_61 c_90; omega) hbc hbd (fun _ => cmp0D hbd)) zz_0 ?_
          refine px_cVR (Y := yy_Mo_join) (Yc := yy_Mo_setReal) (b := 717) (As := [.int (nI (to)), .double (jD op (gE A c) (gE A d))]) dx_Mo_join_136 ml_Mo_326 mv_Mo_setReal np_Mo_setReal ⟨_, rfl⟩ (by decide) rfl (by decide) rfl (Nat.le_of_ble_eq_true rfl) (Nat.le_of_ble_eq_true rfl) rk_Mo_join_Mo_setReal rfl (m_setReal (A := A) (r := to) (v := jD op (gE A c) (gE A d)) hX hd (by omega)) zz_0 (fun r_136 τ_136 h_136 => ?_)
          obtain ⟨rfl, hX⟩ := h_136
          refine px_iconst (v := 1) dx_Mo_join_139 rfl ?_
          exact px_zret dx_Mo_join_140 rfl (by decide) (by (have ez : dzA A op d = false := by unfold dzA; first | (rw [c_4]; rfl) | (rw [decide_eq_false (lcmp_0 c_15), Bool.and_false])); (have ej : jnA A op to c d = stE A to (jD op (gE A c) (gE A d)) := by unfold jnA; (first | rw [if_neg c_29] | rw [if_pos c_29]); (first | rw [if_neg c_61] | rw [if_pos c_61]); (first | rw [if_neg c_90] | rw [if_pos c_90])); exact hp0 _ _ ⟨by rw [ez]; rfl, by rw [ez]; exact ej ▸ hX⟩)
        · refine px_aload_n dx_Mo_join_93 rfl ?_
          refine px_iload_n dx_Mo_join_94 rfl ?_
          refine px_iload_n dx_Mo_join_95 rfl ?_
          refine px_aload_n dx_Mo_join_96 rfl ?_
          refine px_iload_n dx_Mo_join_97 rfl ?_
          refine px_cV (Y := yy_Mo_join) (Yc := yy_Mo_realOf) (b := 717) (As := [.int (nI (c))]) dx_Mo_join_98 ml_Mo_322 mv_Mo_realOf np_Mo_realOf ⟨_, rfl⟩ (by decide) rfl (by decide) rfl (Nat.le_of_ble_eq_true rfl) (Nat.le_of_ble_eq_true rfl) rk_Mo_join_Mo_realOf rfl (m_realOf (A := A) (r := c) hX hd (by omega)) zz_0 ?_
          refine px_d2f dx_Mo_join_101 (d2f_fB hbc).vn ?_
          refine px_aload_n dx_Mo_join_102 rfl ?_
          refine px_iload dx_Mo_join_103 rfl ?_
          refine px_cV (Y := yy_Mo_join) (Yc := yy_Mo_realOf) (b := 717) (As := [.int (nI (d))]) dx_Mo_join_105 ml_Mo_322 mv_Mo_realOf np_Mo_realOf ⟨_, rfl⟩ (by decide) rfl (by decide) rfl (Nat.le_of_ble_eq_true rfl) (Nat.le_of_ble_eq_true rfl) rk_Mo_join_Mo_realOf rfl (m_realOf (A := A) (r := d) hX hd (by omega)) zz_0 ?_
          refine px_d2f dx_Mo_join_108 (d2f_fB hbd).vn ?_
          refine px_cS (Y := yy_Mo_join) (Yc := yy_Mo_joinFloats) (As := [.int (nI (op)), .float (FP.d2f (gE A c)), .float (FP.d2f (gE A d))]) dx_Mo_join_109 ml_Mo_342 ms_Mo_joinFloats np_Mo_joinFloats rfl (Nat.le_of_ble_eq_true rfl) (Nat.le_of_ble_eq_true rfl) rk_Mo_join_Mo_joinFloats rfl (m_joinFloats (op := op) hop (by have := jnO_f c_90; omega) (d2f_fB hbc) (d2f_fB hbd) (fun _ => cmp0F (d2f_fB hbd))) zz_0 ?_
          refine px_f2d dx_Mo_join_112 (f2d_dB (jF_fB (d2f_fB hbc) (d2f_fB hbd) (by have := jnO_f c_90; omega))).vn ?_
          refine px_cVR (Y := yy_Mo_join) (Yc := yy_Mo_setReal) (b := 717) (As := [.int (nI (to)), .double (FP.f2d (jF op (FP.d2f (gE A c)) (FP.d2f (gE A d))))]) dx_Mo_join_113 ml_Mo_326 mv_Mo_setReal np_Mo_setReal ⟨_, rfl⟩ (by decide) rfl (by decide) rfl (Nat.le_of_ble_eq_true rfl) (Nat.le_of_ble_eq_true rfl) rk_Mo_join_Mo_setReal rfl (m_setReal (A := A) (r := to) (v := FP.f2d (jF op (FP.d2f (gE A c)) (FP.d2f (gE A d)))) hX hd (by omega)) zz_0 (fun r_113 τ_113 h_113 => ?_)
          obtain ⟨rfl, hX⟩ := h_113
          refine px_goto dx_Mo_join_116 ?_
          refine px_iconst (v := 1) dx_Mo_join_139 rfl ?_
          exact px_zret dx_Mo_join_140 rfl (by decide) (by (have ez : dzA A op d = false := by unfold dzA; first | (rw [c_4]; rfl) | (rw [decide_eq_false (lcmp_0 c_15), Bool.and_false])); (have ej : jnA A op to c d = stE A to (FP.f2d (jF op (FP.d2f (gE A c)) (FP.d2f (gE A d)))) := by unfold jnA; (first | rw [if_neg c_29] | rw [if_pos c_29]); (first | rw [if_neg c_61] | rw [if_pos c_61]); (first | rw [if_neg c_90] | rw [if_pos c_90])); exact hp0 _ _ ⟨by rw [ez]; rfl, by rw [ez]; exact ej ▸ hX⟩)
      · refine px_aload_n dx_Mo_join_64 rfl ?_
        refine px_iload_n dx_Mo_join_65 rfl ?_
        refine px_iload_n dx_Mo_join_66 rfl ?_
        refine px_aload_n dx_Mo_join_67 rfl ?_
        refine px_iload_n dx_Mo_join_68 rfl ?_
        refine px_cV (Y := yy_Mo_join) (Yc := yy_Mo_wholeOf) (b := 717) (As := [.int (nI (c))]) dx_Mo_join_69 ml_Mo_315 mv_Mo_wholeOf np_Mo_wholeOf ⟨_, rfl⟩ (by decide) rfl (by decide) rfl (Nat.le_of_ble_eq_true rfl) (Nat.le_of_ble_eq_true rfl) rk_Mo_join_Mo_wholeOf rfl (m_wholeOf (A := A) (r := c) hX hd (by omega)) zz_0 ?_
        refine px_aload_n dx_Mo_join_72 rfl ?_
        refine px_iload dx_Mo_join_73 rfl ?_
        refine px_cV (Y := yy_Mo_join) (Yc := yy_Mo_wholeOf) (b := 717) (As := [.int (nI (d))]) dx_Mo_join_75 ml_Mo_315 mv_Mo_wholeOf np_Mo_wholeOf ⟨_, rfl⟩ (by decide) rfl (by decide) rfl (Nat.le_of_ble_eq_true rfl) (Nat.le_of_ble_eq_true rfl) rk_Mo_join_Mo_wholeOf rfl (m_wholeOf (A := A) (r := d) hX hd (by omega)) zz_0 ?_
        refine px_cS (Y := yy_Mo_join) (Yc := yy_Mo_joinLongs) (As := [.int (nI (op)), .long (gW A c), .long (gW A d)]) dx_Mo_join_78 ml_Mo_338 ms_Mo_joinLongs np_Mo_joinLongs rfl (Nat.le_of_ble_eq_true rfl) (Nat.le_of_ble_eq_true rfl) rk_Mo_join_Mo_joinLongs rfl (m_joinLongs (op := op) hop (by have := jnO_l c_61; omega) (fun q => hzl (dvO_l q))) zz_0 ?_
        refine px_cVR (Y := yy_Mo_join) (Yc := yy_Mo_setWhole) (b := 717) (As := [.int (nI (to)), .long (jL op (gW A c) (gW A d))]) dx_Mo_join_81 ml_Mo_318 mv_Mo_setWhole np_Mo_setWhole ⟨_, rfl⟩ (by decide) rfl (by decide) rfl (Nat.le_of_ble_eq_true rfl) (Nat.le_of_ble_eq_true rfl) rk_Mo_join_Mo_setWhole rfl (m_setWhole (A := A) (r := to) (v := jL op (gW A c) (gW A d)) hX hd (by omega)) zz_0 (fun r_81 τ_81 h_81 => ?_)
        obtain ⟨rfl, hX⟩ := h_81
        refine px_goto dx_Mo_join_84 ?_
        refine px_iconst (v := 1) dx_Mo_join_139 rfl ?_
        exact px_zret dx_Mo_join_140 rfl (by decide) (by (have ez : dzA A op d = false := by unfold dzA; first | (rw [c_4]; rfl) | (rw [decide_eq_false (lcmp_0 c_15), Bool.and_false])); (have ej : jnA A op to c d = stW A to (jL op (gW A c) (gW A d)) := by unfold jnA; (first | rw [if_neg c_29] | rw [if_pos c_29]); (first | rw [if_neg c_61] | rw [if_pos c_61])); exact hp0 _ _ ⟨by rw [ez]; rfl, by rw [ez]; exact ej ▸ hX⟩)
    · refine px_aload_n dx_Mo_join_32 rfl ?_
      refine px_iload_n dx_Mo_join_33 rfl ?_
      refine px_iload_n dx_Mo_join_34 rfl ?_
      refine px_aload_n dx_Mo_join_35 rfl ?_
      refine px_iload_n dx_Mo_join_36 rfl ?_
      refine px_cV (Y := yy_Mo_join) (Yc := yy_Mo_wholeOf) (b := 717) (As := [.int (nI (c))]) dx_Mo_join_37 ml_Mo_315 mv_Mo_wholeOf np_Mo_wholeOf ⟨_, rfl⟩ (by decide) rfl (by decide) rfl (Nat.le_of_ble_eq_true rfl) (Nat.le_of_ble_eq_true rfl) rk_Mo_join_Mo_wholeOf rfl (m_wholeOf (A := A) (r := c) hX hd (by omega)) zz_0 ?_
      refine px_l2i dx_Mo_join_40 ?_
      refine px_aload_n dx_Mo_join_41 rfl ?_
      refine px_iload dx_Mo_join_42 rfl ?_
      refine px_cV (Y := yy_Mo_join) (Yc := yy_Mo_wholeOf) (b := 717) (As := [.int (nI (d))]) dx_Mo_join_44 ml_Mo_315 mv_Mo_wholeOf np_Mo_wholeOf ⟨_, rfl⟩ (by decide) rfl (by decide) rfl (Nat.le_of_ble_eq_true rfl) (Nat.le_of_ble_eq_true rfl) rk_Mo_join_Mo_wholeOf rfl (m_wholeOf (A := A) (r := d) hX hd (by omega)) zz_0 ?_
      refine px_l2i dx_Mo_join_47 ?_
      refine px_cS (Y := yy_Mo_join) (Yc := yy_Mo_joinInts) (As := [.int (nI (op)), .int ((gW A c).toInt32), .int ((gW A d).toInt32)]) dx_Mo_join_48 ml_Mo_335 ms_Mo_joinInts np_Mo_joinInts rfl (Nat.le_of_ble_eq_true rfl) (Nat.le_of_ble_eq_true rfl) rk_Mo_join_Mo_joinInts rfl (m_joinInts (op := op) hop (fun q => hzi c_29 (dvO_i c_29 q))) zz_0 ?_
      refine px_i2l dx_Mo_join_51 ?_
      refine px_cVR (Y := yy_Mo_join) (Yc := yy_Mo_setWhole) (b := 717) (As := [.int (nI (to)), .long ((jI op ((gW A c).toInt32) ((gW A d).toInt32)).toInt64)]) dx_Mo_join_52 ml_Mo_318 mv_Mo_setWhole np_Mo_setWhole ⟨_, rfl⟩ (by decide) rfl (by decide) rfl (Nat.le_of_ble_eq_true rfl) (Nat.le_of_ble_eq_true rfl) rk_Mo_join_Mo_setWhole rfl (m_setWhole (A := A) (r := to) (v := (jI op ((gW A c).toInt32) ((gW A d).toInt32)).toInt64) hX hd (by omega)) zz_0 (fun r_52 τ_52 h_52 => ?_)
      obtain ⟨rfl, hX⟩ := h_52
      refine px_goto dx_Mo_join_55 ?_
      refine px_iconst (v := 1) dx_Mo_join_139 rfl ?_
      exact px_zret dx_Mo_join_140 rfl (by decide) (by (have ez : dzA A op d = false := by unfold dzA; first | (rw [c_4]; rfl) | (rw [decide_eq_false (lcmp_0 c_15), Bool.and_false])); (have ej : jnA A op to c d = stW A to ((jI op ((gW A c).toInt32) ((gW A d).toInt32)).toInt64) := by unfold jnA; (first | rw [if_neg c_29] | rw [if_pos c_29])); exact hp0 _ _ ⟨by rw [ez]; rfl, by rw [ez]; exact ej ▸ hX⟩)
  · refine px_aload_n dx_Mo_join_7 rfl ?_
    refine px_iload dx_Mo_join_8 rfl ?_
    refine px_cV (Y := yy_Mo_join) (Yc := yy_Mo_wholeOf) (b := 717) (As := [.int (nI (d))]) dx_Mo_join_10 ml_Mo_315 mv_Mo_wholeOf np_Mo_wholeOf ⟨_, rfl⟩ (by decide) rfl (by decide) rfl (Nat.le_of_ble_eq_true rfl) (Nat.le_of_ble_eq_true rfl) rk_Mo_join_Mo_wholeOf rfl (m_wholeOf (A := A) (r := d) hX hd (by omega)) zz_0 ?_
    refine px_lconst (v := 0) dx_Mo_join_13 rfl ?_
    refine px_lcmp dx_Mo_join_14 ?_
    refine px_if_ne dx_Mo_join_15 (fun c_15 => ?_) (fun c_15 => ?_)
    · have hzl : dvO op = true → ¬ gW A d = 0 := by (first | exact fun q => absurd q (by rw [c_4]; decide) | exact fun _ => lcmp_0 c_15)
      have hzi : jnO op = 1 → dvO op = true → ¬ (gW A d).toInt32 = 0 := fun r q => hIT r (hzl q)
      refine px_iload_n dx_Mo_join_20 rfl ?_
      refine px_cS (Y := yy_Mo_join) (Yc := yy_Mo_joined) (As := [.int (nI (op))]) dx_Mo_join_21 ml_Mo_202 ms_Mo_joined np_Mo_joined rfl (Nat.le_of_ble_eq_true rfl) (Nat.le_of_ble_eq_true rfl) rk_Mo_join_Mo_joined rfl (m_joined hop) zz_0 ?_
      refine px_istore (lv' := [(5, .int (nI (jnO op))), (0, .ref (717)), (1, .int (nI (op))), (2, .int (nI (to))), (3, .int (nI (c))), (4, .int (nI (d)))]) dx_Mo_join_24 (by decide) rfl ?_
      refine px_iload dx_Mo_join_26 rfl ?_
      refine px_iconst (v := 1) dx_Mo_join_28 rfl ?_
      refine px_icmp_neN (a := jnO op) (b := 1) dx_Mo_join_29 (by omega) (by omega) (fun c_29 => ?_) (fun c_29 => ?_)
      · refine px_iload dx_Mo_join_58 rfl ?_
        refine px_iconst (v := 2) dx_Mo_join_60 rfl ?_
        refine px_icmp_neN (a := jnO op) (b := 2) dx_Mo_join_61 (by omega) (by omega) (fun c_61 => ?_) (fun c_61 => ?_)
        · refine px_iload dx_Mo_join_87 rfl ?_
          refine px_iconst (v := 3) dx_Mo_join_89 rfl ?_
          refine px_icmp_neN (a := jnO op) (b := 3) dx_Mo_join_90 (by omega) (by omega) (fun c_90 => ?_) (fun c_90 => ?_)
          · refine px_aload_n dx_Mo_join_119 rfl ?_
            refine px_iload_n dx_Mo_join_120 rfl ?_
            refine px_iload_n dx_Mo_join_121 rfl ?_
            refine px_aload_n dx_Mo_join_122 rfl ?_
            refine px_iload_n dx_Mo_join_123 rfl ?_
            refine px_cV (Y := yy_Mo_join) (Yc := yy_Mo_realOf) (b := 717) (As := [.int (nI (c))]) dx_Mo_join_124 ml_Mo_322 mv_Mo_realOf np_Mo_realOf ⟨_, rfl⟩ (by decide) rfl (by decide) rfl (Nat.le_of_ble_eq_true rfl) (Nat.le_of_ble_eq_true rfl) rk_Mo_join_Mo_realOf rfl (m_realOf (A := A) (r := c) hX hd (by omega)) zz_0 ?_
            refine px_aload_n dx_Mo_join_127 rfl ?_
            refine px_iload dx_Mo_join_128 rfl ?_
            refine px_cV (Y := yy_Mo_join) (Yc := yy_Mo_realOf) (b := 717) (As := [.int (nI (d))]) dx_Mo_join_130 ml_Mo_322 mv_Mo_realOf np_Mo_realOf ⟨_, rfl⟩ (by decide) rfl (by decide) rfl (Nat.le_of_ble_eq_true rfl) (Nat.le_of_ble_eq_true rfl) rk_Mo_join_Mo_realOf rfl (m_realOf (A := A) (r := d) hX hd (by omega)) zz_0 ?_
            refine px_cS (Y := yy_Mo_join) (Yc := yy_Mo_joinDoubles) (As := [.int (nI (op)), .double (gE A c), .double (gE A d)]) dx_Mo_join_133 ml_Mo_346 ms_Mo_joinDoubles np_Mo_joinDoubles rfl (Nat.le_of_ble_eq_true rfl) (Nat.le_of_ble_eq_true rfl) rk_Mo_join_Mo_joinDoubles rfl (m_joinDoubles (op := op) hop (by have := jnO_d c_29 c_61 c_90; omega) hbc hbd (fun _ => cmp0D hbd)) zz_0 ?_
            refine px_cVR (Y := yy_Mo_join) (Yc := yy_Mo_setReal) (b := 717) (As := [.int (nI (to)), .double (jD op (gE A c) (gE A d))]) dx_Mo_join_136 ml_Mo_326 mv_Mo_setReal np_Mo_setReal ⟨_, rfl⟩ (by decide) rfl (by decide) rfl (Nat.le_of_ble_eq_true rfl) (Nat.le_of_ble_eq_true rfl) rk_Mo_join_Mo_setReal rfl (m_setReal (A := A) (r := to) (v := jD op (gE A c) (gE A d)) hX hd (by omega)) zz_0 (fun r_136 τ_136 h_136 => ?_)
            obtain ⟨rfl, hX⟩ := h_136
            refine px_iconst (v := 1) dx_Mo_join_139 rfl ?_
            exact px_zret dx_Mo_join_140 rfl (by decide) (by (have ez : dzA A op d = false := by unfold dzA; first | (rw [c_4]; rfl) | (rw [decide_eq_false (lcmp_0 c_15), Bool.and_false])); (have ej : jnA A op to c d = stE A to (jD op (gE A c) (gE A d)) := by unfold jnA; (first | rw [if_neg c_29] | rw [if_pos c_29]); (first | rw [if_neg c_61] | rw [if_pos c_61]); (first | rw [if_neg c_90] | rw [if_pos c_90])); exact hp0 _ _ ⟨by rw [ez]; rfl, by rw [ez]; exact ej ▸ hX⟩)
          · refine px_aload_n dx_Mo_join_93 rfl ?_
            refine px_iload_n dx_Mo_join_94 rfl ?_
            refine px_iload_n dx_Mo_join_95 rfl ?_
            refine px_aload_n dx_Mo_join_96 rfl ?_
            refine px_iload_n dx_Mo_join_97 rfl ?_
            refine px_cV (Y := yy_Mo_join) (Yc := yy_Mo_realOf) (b := 717) (As := [.int (nI (c))]) dx_Mo_join_98 ml_Mo_322 mv_Mo_realOf np_Mo_realOf ⟨_, rfl⟩ (by decide) rfl (by decide) rfl (Nat.le_of_ble_eq_true rfl) (Nat.le_of_ble_eq_true rfl) rk_Mo_join_Mo_realOf rfl (m_realOf (A := A) (r := c) hX hd (by omega)) zz_0 ?_
            refine px_d2f dx_Mo_join_101 (d2f_fB hbc).vn ?_
            refine px_aload_n dx_Mo_join_102 rfl ?_
            refine px_iload dx_Mo_join_103 rfl ?_
            refine px_cV (Y := yy_Mo_join) (Yc := yy_Mo_realOf) (b := 717) (As := [.int (nI (d))]) dx_Mo_join_105 ml_Mo_322 mv_Mo_realOf np_Mo_realOf ⟨_, rfl⟩ (by decide) rfl (by decide) rfl (Nat.le_of_ble_eq_true rfl) (Nat.le_of_ble_eq_true rfl) rk_Mo_join_Mo_realOf rfl (m_realOf (A := A) (r := d) hX hd (by omega)) zz_0 ?_
            refine px_d2f dx_Mo_join_108 (d2f_fB hbd).vn ?_
            refine px_cS (Y := yy_Mo_join) (Yc := yy_Mo_joinFloats) (As := [.int (nI (op)), .float (FP.d2f (gE A c)), .float (FP.d2f (gE A d))]) dx_Mo_join_109 ml_Mo_342 ms_Mo_joinFloats np_Mo_joinFloats rfl (Nat.le_of_ble_eq_true rfl) (Nat.le_of_ble_eq_true rfl) rk_Mo_join_Mo_joinFloats rfl (m_joinFloats (op := op) hop (by have := jnO_f c_90; omega) (d2f_fB hbc) (d2f_fB hbd) (fun _ => cmp0F (d2f_fB hbd))) zz_0 ?_
            refine px_f2d dx_Mo_join_112 (f2d_dB (jF_fB (d2f_fB hbc) (d2f_fB hbd) (by have := jnO_f c_90; omega))).vn ?_
            refine px_cVR (Y := yy_Mo_join) (Yc := yy_Mo_setReal) (b := 717) (As := [.int (nI (to)), .double (FP.f2d (jF op (FP.d2f (gE A c)) (FP.d2f (gE A d))))]) dx_Mo_join_113 ml_Mo_326 mv_Mo_setReal np_Mo_setReal ⟨_, rfl⟩ (by decide) rfl (by decide) rfl (Nat.le_of_ble_eq_true rfl) (Nat.le_of_ble_eq_true rfl) rk_Mo_join_Mo_setReal rfl (m_setReal (A := A) (r := to) (v := FP.f2d (jF op (FP.d2f (gE A c)) (FP.d2f (gE A d)))) hX hd (by omega)) zz_0 (fun r_113 τ_113 h_113 => ?_)
            obtain ⟨rfl, hX⟩ := h_113
            refine px_goto dx_Mo_join_116 ?_
            refine px_iconst (v := 1) dx_Mo_join_139 rfl ?_
            exact px_zret dx_Mo_join_140 rfl (by decide) (by (have ez : dzA A op d = false := by unfold dzA; first | (rw [c_4]; rfl) | (rw [decide_eq_false (lcmp_0 c_15), Bool.and_false])); (have ej : jnA A op to c d = stE A to (FP.f2d (jF op (FP.d2f (gE A c)) (FP.d2f (gE A d)))) := by unfold jnA; (first | rw [if_neg c_29] | rw [if_pos c_29]); (first | rw [if_neg c_61] | rw [if_pos c_61]); (first | rw [if_neg c_90] | rw [if_pos c_90])); exact hp0 _ _ ⟨by rw [ez]; rfl, by rw [ez]; exact ej ▸ hX⟩)
        · refine px_aload_n dx_Mo_join_64 rfl ?_
          refine px_iload_n dx_Mo_join_65 rfl ?_
          refine px_iload_n dx_Mo_join_66 rfl ?_
          refine px_aload_n dx_Mo_join_67 rfl ?_
          refine px_iload_n dx_Mo_join_68 rfl ?_
          refine px_cV (Y := yy_Mo_join) (Yc := yy_Mo_wholeOf) (b := 717) (As := [.int (nI (c))]) dx_Mo_join_69 ml_Mo_315 mv_Mo_wholeOf np_Mo_wholeOf ⟨_, rfl⟩ (by decide) rfl (by decide) rfl (Nat.le_of_ble_eq_true rfl) (Nat.le_of_ble_eq_true rfl) rk_Mo_join_Mo_wholeOf rfl (m_wholeOf (A := A) (r := c) hX hd (by omega)) zz_0 ?_
          refine px_aload_n dx_Mo_join_72 rfl ?_
          refine px_iload dx_Mo_join_73 rfl ?_
          refine px_cV (Y := yy_Mo_join) (Yc := yy_Mo_wholeOf) (b := 717) (As := [.int (nI (d))]) dx_Mo_join_75 ml_Mo_315 mv_Mo_wholeOf np_Mo_wholeOf ⟨_, rfl⟩ (by decide) rfl (by decide) rfl (Nat.le_of_ble_eq_true rfl) (Nat.le_of_ble_eq_true rfl) rk_Mo_join_Mo_wholeOf rfl (m_wholeOf (A := A) (r := d) hX hd (by omega)) zz_0 ?_
          refine px_cS (Y := yy_Mo_join) (Yc := yy_Mo_joinLongs) (As := [.int (nI (op)), .long (gW A c), .long (gW A d)]) dx_Mo_join_78 ml_Mo_338 ms_Mo_joinLongs np_Mo_joinLongs rfl (Nat.le_of_ble_eq_true rfl) (Nat.le_of_ble_eq_true rfl) rk_Mo_join_Mo_joinLongs rfl (m_joinLongs (op := op) hop (by have := jnO_l c_61; omega) (fun q => hzl (dvO_l q))) zz_0 ?_
          refine px_cVR (Y := yy_Mo_join) (Yc := yy_Mo_setWhole) (b := 717) (As := [.int (nI (to)), .long (jL op (gW A c) (gW A d))]) dx_Mo_join_81 ml_Mo_318 mv_Mo_setWhole np_Mo_setWhole ⟨_, rfl⟩ (by decide) rfl (by decide) rfl (Nat.le_of_ble_eq_true rfl) (Nat.le_of_ble_eq_true rfl) rk_Mo_join_Mo_setWhole rfl (m_setWhole (A := A) (r := to) (v := jL op (gW A c) (gW A d)) hX hd (by omega)) zz_0 (fun r_81 τ_81 h_81 => ?_)
          obtain ⟨rfl, hX⟩ := h_81
          refine px_goto dx_Mo_join_84 ?_
          refine px_iconst (v := 1) dx_Mo_join_139 rfl ?_
          exact px_zret dx_Mo_join_140 rfl (by decide) (by (have ez : dzA A op d = false := by unfold dzA; first | (rw [c_4]; rfl) | (rw [decide_eq_false (lcmp_0 c_15), Bool.and_false])); (have ej : jnA A op to c d = stW A to (jL op (gW A c) (gW A d)) := by unfold jnA; (first | rw [if_neg c_29] | rw [if_pos c_29]); (first | rw [if_neg c_61] | rw [if_pos c_61])); exact hp0 _ _ ⟨by rw [ez]; rfl, by rw [ez]; exact ej ▸ hX⟩)
      · refine px_aload_n dx_Mo_join_32 rfl ?_
        refine px_iload_n dx_Mo_join_33 rfl ?_
        refine px_iload_n dx_Mo_join_34 rfl ?_
        refine px_aload_n dx_Mo_join_35 rfl ?_
        refine px_iload_n dx_Mo_join_36 rfl ?_
        refine px_cV (Y := yy_Mo_join) (Yc := yy_Mo_wholeOf) (b := 717) (As := [.int (nI (c))]) dx_Mo_join_37 ml_Mo_315 mv_Mo_wholeOf np_Mo_wholeOf ⟨_, rfl⟩ (by decide) rfl (by decide) rfl (Nat.le_of_ble_eq_true rfl) (Nat.le_of_ble_eq_true rfl) rk_Mo_join_Mo_wholeOf rfl (m_wholeOf (A := A) (r := c) hX hd (by omega)) zz_0 ?_
        refine px_l2i dx_Mo_join_40 ?_
        refine px_aload_n dx_Mo_join_41 rfl ?_
        refine px_iload dx_Mo_join_42 rfl ?_
        refine px_cV (Y := yy_Mo_join) (Yc := yy_Mo_wholeOf) (b := 717) (As := [.int (nI (d))]) dx_Mo_join_44 ml_Mo_315 mv_Mo_wholeOf np_Mo_wholeOf ⟨_, rfl⟩ (by decide) rfl (by decide) rfl (Nat.le_of_ble_eq_true rfl) (Nat.le_of_ble_eq_true rfl) rk_Mo_join_Mo_wholeOf rfl (m_wholeOf (A := A) (r := d) hX hd (by omega)) zz_0 ?_
        refine px_l2i dx_Mo_join_47 ?_
        refine px_cS (Y := yy_Mo_join) (Yc := yy_Mo_joinInts) (As := [.int (nI (op)), .int ((gW A c).toInt32), .int ((gW A d).toInt32)]) dx_Mo_join_48 ml_Mo_335 ms_Mo_joinInts np_Mo_joinInts rfl (Nat.le_of_ble_eq_true rfl) (Nat.le_of_ble_eq_true rfl) rk_Mo_join_Mo_joinInts rfl (m_joinInts (op := op) hop (fun q => hzi c_29 (dvO_i c_29 q))) zz_0 ?_
        refine px_i2l dx_Mo_join_51 ?_
        refine px_cVR (Y := yy_Mo_join) (Yc := yy_Mo_setWhole) (b := 717) (As := [.int (nI (to)), .long ((jI op ((gW A c).toInt32) ((gW A d).toInt32)).toInt64)]) dx_Mo_join_52 ml_Mo_318 mv_Mo_setWhole np_Mo_setWhole ⟨_, rfl⟩ (by decide) rfl (by decide) rfl (Nat.le_of_ble_eq_true rfl) (Nat.le_of_ble_eq_true rfl) rk_Mo_join_Mo_setWhole rfl (m_setWhole (A := A) (r := to) (v := (jI op ((gW A c).toInt32) ((gW A d).toInt32)).toInt64) hX hd (by omega)) zz_0 (fun r_52 τ_52 h_52 => ?_)
        obtain ⟨rfl, hX⟩ := h_52
        refine px_goto dx_Mo_join_55 ?_
        refine px_iconst (v := 1) dx_Mo_join_139 rfl ?_
        exact px_zret dx_Mo_join_140 rfl (by decide) (by (have ez : dzA A op d = false := by unfold dzA; first | (rw [c_4]; rfl) | (rw [decide_eq_false (lcmp_0 c_15), Bool.and_false])); (have ej : jnA A op to c d = stW A to ((jI op ((gW A c).toInt32) ((gW A d).toInt32)).toInt64) := by unfold jnA; (first | rw [if_neg c_29] | rw [if_pos c_29])); exact hp0 _ _ ⟨by rw [ez]; rfl, by rw [ez]; exact ej ▸ hX⟩)
    · refine px_iconst (v := 0) dx_Mo_join_18 rfl ?_
      exact px_zret dx_Mo_join_19 rfl (by decide) (by (have e : dzA A op d = true := by (unfold dzA; rw [c_4, lcmp_z c_15]; rfl)); exact hp0 _ _ ⟨by rw [e]; rfl, by rw [e]; exact hX⟩)
