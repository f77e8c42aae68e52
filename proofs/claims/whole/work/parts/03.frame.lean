/-! the nest mates' links; the operations' table -/
def nw_F : List (String × Nat × String × String × String × String) := [("PairVm$Program", 66, "PairVm$FileBytes", "fault", "I", "PairVm"), ("PairVm$Machine", 57, "PairVm$Frame", "unit", "I", "PairVm"), ("PairVm", 136, "PairVm$Machine", "open", "I", "PairVm"), ("PairVm", 100, "PairVm$Machine", "condition", "I", "PairVm"), ("PairVm", 109, "PairVm$Machine", "trouble", "I", "PairVm"), ("PairVm", 128, "PairVm$Machine", "realResult", "D", "PairVm"), ("PairVm$Flow", 33, "PairVm$Step", "reached", "Z", "PairVm"), ("PairVm$Method", 76, "PairVm$Step", "reached", "Z", "PairVm"), ("PairVm$Flow", 86, "PairVm$Step", "types", "[I", "PairVm"), ("PairVm$Machine", 154, "PairVm$Step", "operation", "I", "PairVm"), ("PairVm$Form", 39, "PairVm$Step", "kind", "I", "PairVm"), ("PairVm$Program", 103, "PairVm$Step", "kind", "I", "PairVm"), ("PairVm$Flow", 118, "PairVm$Step", "kind", "I", "PairVm"), ("PairVm$Machine", 73, "PairVm$Step", "kind", "I", "PairVm"), ("PairVm$Flow", 46, "PairVm$Step", "length", "I", "PairVm"), ("PairVm$Form", 100, "PairVm$Step", "length", "I", "PairVm"), ("PairVm$Method", 82, "PairVm$Step", "length", "I", "PairVm"), ("PairVm$Machine", 68, "PairVm$Step", "length", "I", "PairVm"), ("PairVm$Form", 25, "PairVm$Step", "complete", "Z", "PairVm"), ("PairVm$Method", 85, "PairVm$Step", "complete", "Z", "PairVm"), ("PairVm$Method", 79, "PairVm$Step", "before", "I", "PairVm"), ("PairVm$Program", 94, "PairVm$Step", "before", "I", "PairVm"), ("PairVm$Form", 63, "PairVm$Step", "sets", "I", "PairVm"), ("PairVm$Flow", 95, "PairVm$Step", "sets", "I", "PairVm"), ("PairVm$Program", 123, "PairVm$Step", "sets", "I", "PairVm"), ("PairVm$Form", 73, "PairVm$Step", "uses", "I", "PairVm"), ("PairVm$Flow", 101, "PairVm$Step", "uses", "I", "PairVm"), ("PairVm$Program", 126, "PairVm$Step", "uses", "I", "PairVm"), ("PairVm$Machine", 123, "PairVm$Step", "uses", "I", "PairVm"), ("PairVm$Form", 76, "PairVm$Step", "result", "I", "PairVm"), ("PairVm$Flow", 111, "PairVm$Step", "result", "I", "PairVm"), ("PairVm$Machine", 83, "PairVm$Step", "result", "I", "PairVm"), ("PairVm$Form", 87, "PairVm$Step", "first", "I", "PairVm"), ("PairVm$Flow", 98, "PairVm$Step", "first", "I", "PairVm"), ("PairVm$Machine", 106, "PairVm$Step", "first", "I", "PairVm"), ("PairVm$Form", 90, "PairVm$Step", "second", "I", "PairVm"), ("PairVm$Flow", 131, "PairVm$Step", "second", "I", "PairVm"), ("PairVm$Machine", 151, "PairVm$Step", "second", "I", "PairVm"), ("PairVm$Flow", 55, "PairVm$Step", "number", "I", "PairVm"), ("PairVm$Form", 42, "PairVm$Step", "number", "I", "PairVm"), ("PairVm$Program", 106, "PairVm$Step", "number", "I", "PairVm"), ("PairVm$Machine", 90, "PairVm$Step", "number", "I", "PairVm"), ("PairVm$Form", 106, "PairVm$Step", "namedCount", "I", "PairVm"), ("PairVm$Form", 70, "PairVm$Method", "returns", "I", "PairVm"), ("PairVm$Program", 113, "PairVm$Method", "returns", "I", "PairVm"), ("PairVm$Arguments", 27, "PairVm$Method", "parameterCount", "I", "PairVm"), ("PairVm$Flow", 72, "PairVm$Method", "parameterCount", "I", "PairVm"), ("PairVm$Form", 112, "PairVm$Method", "parameterCount", "I", "PairVm"), ("PairVm$Machine", 134, "PairVm$Method", "parameterCount", "I", "PairVm"), ("PairVm$Form", 109, "PairVm$Method", "words", "I", "PairVm"), ("PairVm$Form", 93, "PairVm$Method", "registers", "I", "PairVm"), ("PairVm$Form", 9, "PairVm$Method", "unitCount", "I", "PairVm"), ("PairVm$Flow", 23, "PairVm$Method", "unitCount", "I", "PairVm"), ("PairVm$Program", 116, "PairVm$Method", "unitCount", "I", "PairVm"), ("PairVm$Program", 81, "PairVm$Method", "formed", "Z", "PairVm"), ("PairVm", 67, "PairVm$Method", "verdict", "I", "PairVm"), ("PairVm$Program", 78, "PairVm$Method", "verdict", "I", "PairVm"), ("PairVm", 158, "PairVm$Program", "methodCount", "I", "PairVm"), ("PairVm", 165, "PairVm$Program", "fit", "Z", "PairVm")]
def nw_M : List (String × Nat × MethodName × String) := [("PairVm", 9, ⟨"PairVm$FileBytes", "<init>", "()V"⟩, "PairVm"), ("PairVm", 18, ⟨"PairVm$Arguments", "<init>", "()V"⟩, "PairVm"), ("PairVm$Machine", 38, ⟨"PairVm$Frame", "<init>", "()V"⟩, "PairVm"), ("PairVm$Program", 23, ⟨"PairVm$Flow", "<init>", "()V"⟩, "PairVm"), ("PairVm$Method", 51, ⟨"PairVm$Step", "<init>", "()V"⟩, "PairVm"), ("PairVm$Method", 62, ⟨"PairVm", "widthOf", "(I)I"⟩, "PairVm"), ("PairVm$Form", 79, ⟨"PairVm", "widthOf", "(I)I"⟩, "PairVm"), ("PairVm$Flow", 79, ⟨"PairVm", "widthOf", "(I)I"⟩, "PairVm"), ("PairVm$Arguments", 46, ⟨"PairVm", "widthOf", "(I)I"⟩, "PairVm"), ("PairVm$Machine", 148, ⟨"PairVm", "widthOf", "(I)I"⟩, "PairVm")]
def ops_l : List Int32 := [0, 0, 1, 0, 0, 1, 1, 4, 7, 7, 4, 4, 4, 8, 8, 10, 10, 5, 7, 0, 11, 11, 5, 8, 0, 14, 14, 2, 0, 0, 15, 15, 3, 0, 7, 16, 16, 3, 0, 8, 18, 18, 6, 1, 0, 19, 19, 8, 1, 0, 22, 22, 8, 3, 0, 40, 40, 7, 0, 0, 45, 45, 9, 1, 2, 47, 47, 9, 1, 5, 49, 49, 9, 1, 3, 50, 55, 10, 0, 1, 56, 61, 11, 0, 1, 96, 96, 12, 1, 0, 103, 103, 13, 0, 1, 113, 113, 14, 0, 0, 123, 123, 4, 1, 1, 125, 125, 4, 3, 3, 127, 127, 4, 2, 2, 128, 128, 4, 5, 5, 129, 129, 4, 3, 1, 130, 130, 4, 2, 1, 131, 131, 4, 5, 1, 132, 132, 4, 1, 3, 133, 133, 4, 2, 3, 134, 134, 4, 5, 3, 135, 135, 4, 1, 2, 136, 136, 4, 3, 2, 137, 137, 4, 5, 2, 138, 138, 4, 1, 5, 139, 139, 4, 3, 5, 140, 140, 4, 2, 5, 144, 154, 9, 1, 1, 155, 159, 9, 3, 3, 166, 169, 9, 2, 2, 171, 174, 9, 5, 5]
def ops_t (j : Nat) : Int32 := ops_l.getD j 0
/-! THE FRAME: the state of the system as four maps over the numbers of its cells; one judgement over them, one row an instruction -/
abbrev fr_S : Type := (Nat → Nat → Int32) × (Nat → Nat → Int64) × (Nat → Nat → UInt64) × (Nat → Nat → Option Nat)
def gI (σ : fr_S) (o k : Nat) : Int32 := σ.1 o k
def gL (σ : fr_S) (o k : Nat) : Int64 := σ.2.1 o k
def gD (σ : fr_S) (o k : Nat) : UInt64 := σ.2.2.1 o k
def gR (σ : fr_S) (o k : Nat) : Option Nat := σ.2.2.2 o k
def u_2 {α : Type} (f : Nat → Nat → α) (o k : Nat) (v : α) : Nat → Nat → α := fun a b => if a = o ∧ b = k then v else f a b
def sI (σ : fr_S) (o k : Nat) (v : Int32) : fr_S := (u_2 σ.1 o k v, σ.2)
def sL (σ : fr_S) (o k : Nat) (v : Int64) : fr_S := (σ.1, u_2 σ.2.1 o k v, σ.2.2)
def sD (σ : fr_S) (o k : Nat) (v : UInt64) : fr_S := (σ.1, σ.2.1, u_2 σ.2.2.1 o k v, σ.2.2.2)
def sR (σ : fr_S) (o k : Nat) (v : Option Nat) : fr_S := (σ.1, σ.2.1, σ.2.2.1, u_2 σ.2.2.2 o k v)
/-- a new cell: all its slots blank -/
def sZ (σ : fr_S) (n : Nat) : fr_S := (fun o k => if o = n then 0 else σ.1 o k, fun o k => if o = n then 0 else σ.2.1 o k, fun o k => if o = n then 0 else σ.2.2.1 o k, fun o k => if o = n then none else σ.2.2.2 o k)
/-- a program's block of 345 cells -/
def kd_a (r : Nat) : Nat × Nat :=
  if r = 0 then (5, 0) else if r = 1 then (25, 4) else if r = 2 then (20, 4) else if r = 3 then (6, 0) else if r = 4 then (20, 10)
  else if (r - 5) % 85 = 0 then (7, 0) else if (r - 5) % 85 = 1 then (20, 3) else if (r - 5) % 85 = 2 then (20, 40) else if (r - 5) % 85 = 3 then (26, 40) else if (r - 5) % 85 = 4 then (21, 40)
  else if ((r - 5) % 85 - 5) % 2 = 0 then (8, 0) else (20, 10)
def kd_t : List (Nat × Nat) := [(9, 0), (20, 232), (20, 2), (20, 2), (20, 8), (20, 8), (20, 24), (20, 8), (20, 8), (20, 320), (20, 4), (20, 4), (21, 160), (21, 160), (20, 1600), (20, 10), (20, 3), (22, 3), (23, 3), (20, 6), (20, 6), (22, 60), (23, 60), (20, 4), (22, 1)]
def kd_h : List (Nat × Nat) := [(0, 0), (1, 0), (20, 220), (2, 0), (20, 3), (22, 3), (23, 3), (3, 0), (24, 6), (4, 0), (22, 10), (23, 10), (4, 0), (22, 10), (23, 10), (4, 0), (22, 10), (23, 10), (4, 0), (22, 10), (23, 10), (4, 0), (22, 10), (23, 10), (4, 0), (22, 10), (23, 10)]
/-- what the cell of a number is: an object's class, or an array's kind and length -/
def kd (o : Nat) : Nat × Nat := if o < 27 then kd_h.getD o (99, 0) else if o < 717 then kd_a ((o - 27) % 345) else kd_t.getD (o - 717) (99, 0)
def tyc (ci k : Nat) : FieldType := match ci with
  | 0 => ty_V k | 1 => ty_Fb k | 2 => ty_Ag k | 3 => ty_Mc k | 4 => ty_Fr k | 5 => ty_Pg k | 6 => ty_Fl k | 7 => ty_Me k | 8 => ty_St k | _ => ty_Mo k
def nfc (ci : Nat) : Nat := match ci with
  | 0 => 6 | 1 => 4 | 2 => 4 | 3 => 7 | 4 => 4 | 5 => 6 | 6 => 2 | 7 => 11 | 8 => 15 | _ => 36
/-- the tables' data, the first address, the array classes, the address of the operations' table -/
abbrev fr_G : Type := va_G × Nat × (Nat → ClassId) × Nat
abbrev fr_D (G : fr_G) : va_G := G.1
abbrev fr_q (G : fr_G) : Nat := G.2.1
abbrev fr_a (G : fr_G) : Nat → ClassId := G.2.2.1
abbrev fr_t (G : fr_G) : Nat := G.2.2.2
/-- a value as the machine has it: a number of a cell is its address; retAddr stands for the operations' table -/
def cv (G : fr_G) : Value → Value
  | .ref o => .ref (fr_q G + o)
  | .null => .null
  | .int x => .int x
  | .long x => .long x
  | .float x => .float x
  | .double x => .double x
  | .retAddr _ => .ref (fr_t G)
def cvp (G : fr_G) (x : Nat × Value) : Nat × Value := (x.1, cv G x.2)
def fv (q : Nat) (fI : Nat → Int32) (fL : Nat → Int64) (fD : Nat → UInt64) (fR : Nat → Option Nat) (k : Nat) (ty : FieldType) : Value := match ty with
  | .long => .long (fL k)
  | .double => .double (fD k)
  | .object _ => va_rf ((fR k).map (q + ·))
  | .array _ => va_rf ((fR k).map (q + ·))
  | _ => .int (fI k)
def ceo (q : Nat) (fI : Nat → Int32) (fL : Nat → Int64) (fD : Nat → UInt64) (fR : Nat → Option Nat) (ci : Nat) : List Value := (List.range (nfc ci)).map fun k => fv q fI fL fD fR k (tyc ci k)
def cek (G : fr_G) (K : Nat × Nat) (fI : Nat → Int32) (fL : Nat → Int64) (fD : Nat → UInt64) (fR : Nat → Option Nat) : va_E := match K.1 with
  | 20 => .inl (fr_a G 0, K.2, .inl fI)
  | 21 => .inl (fr_a G 1, K.2, .inl fI)
  | 22 => .inl (fr_a G 2, K.2, .inr (.inl fL))
  | 23 => .inl (fr_a G 3, K.2, .inr (.inr (.inr (.inl fD))))
  | 24 => .inl (fr_a G 4, K.2, .inr (.inr (.inr (.inr fun j => (fR j).map (fr_q G + ·)))))
  | 25 => .inl (fr_a G 5, K.2, .inr (.inr (.inr (.inr fun j => (fR j).map (fr_q G + ·)))))
  | 26 => .inl (fr_a G 6, K.2, .inr (.inr (.inr (.inr fun j => (fR j).map (fr_q G + ·)))))
  | ci => .inr (ci, ceo (fr_q G) fI fL fD fR ci)
def ce (G : fr_G) (σ : fr_S) (o : Nat) : va_E := cek G (kd o) (gI σ o) (gL σ o) (gD σ o) (gR σ o)
def wd (G : fr_G) (σ : fr_S) (n : Nat) : va_W := (List.range n).map fun o => (fr_q G + o, ce G σ o)
def AA (q : Nat) : Nat → Prop := fun x => q ≤ x
def ty_all (G : fr_G) : List (ClassId × FieldType) := [(fr_a G 0, .int), (fr_a G 1, .boolean), (fr_a G 2, .long), (fr_a G 3, .double), (fr_a G 4, .object "PairVm$Frame"), (fr_a G 5, .object "PairVm$Method"), (fr_a G 6, .object "PairVm$Step")]
/-- the picture: n cells from the first address on, as σ says; with ex, nothing lies behind them -/
def Pic (G : fr_G) (ex : Bool) (n : Nat) (σ : fr_S) (H : Heap) : Prop := va_P (fr_D G) cl_all (wd G σ n) H ∧ (ex = true → H.size = fr_q G + n)
/-- what the tables and the cells that nobody writes hold -/
def TB (G : fr_G) (U : State) : Prop := va_K (fr_D G) cl_all (ty_all G) U ∧ (∀ w ∈ nw_F, va_Nw (.fieldLinkNest w.1 w.2.1 w.2.2.1 w.2.2.2.1 w.2.2.2.2.1 w.2.2.2.2.2) U) ∧ (∀ w ∈ nw_M, va_Nw (.methodLinkNest w.1 w.2.1 w.2.2.1 w.2.2.2) U)
  ∧ va_Z "PairVm$Step" "OPERATIONS" "[I" (.ref (fr_t G)) (AA (fr_q G)) U U.heap ∧ va_T .int (fr_t G) 200 (fun j => .int (ops_t j)) (AA (fr_q G)) U U.heap
  ∧ va_Zq "java/lang/Throwable" "UNASSIGNED_STACK" "[Ljava/lang/StackTraceElement;" (AA (fr_q G)) U U.heap ∧ va_Zq "java/lang/Throwable" "SUPPRESSED_SENTINEL" "Ljava/util/List;" (AA (fr_q G)) U U.heap
theorem TB.call {G : fr_G} {s U : State} {locs : List Loc} (h : TB G s) (hS : va_S (AA (fr_q G)) s.heap U.heap locs) (hW : s.WarmedH U.vm) : TB G U := by
  obtain ⟨h1, h2, h3, h4, h5, h6, h7⟩ := h
  have a := hW.alike
  exact ⟨h1.moved a, fun w hw => (h2 w hw).warmF hW, fun w hw => (h3 w hw).warmM hW, (h4.kept hS.2.1).moved a, (h5.kept hS.2.1).moved a, (h6.kept hS.2.1).moved a, (h7.kept hS.2.1).moved a⟩
/-- a method: its name, its code, its locals, its type -/
abbrev fr_Y : Type := MethodName × ByteArray × Nat × Option FieldType
def Cx (G : fr_G) (Y : fr_Y) (p : Program) (s : State) (m : MethodId) (args : Array Value) (meth : Method) (c : Code) : Prop :=
  p.tables.exec = Jvm.exec ∧ c.code = Y.2.1 ∧ c.maxLocals = Y.2.2.1 ∧ meth.sig.returnType = Y.2.2.2 ∧ s.vm.findClass Y.1.cls = some m.cls ∧ (∀ w ∈ al_W, w.before args s = true) ∧ meth.locks = false ∧ meth.name = Y.1.name ∧ TB G s
/-- THE JUDGEMENT -/
def PX (l : Launch) (G : fr_G) (Y : fr_Y) (R : Room) (QF : List Frame → Array Value → State → State → Prop) (ex : Bool) (n k sl pc : Nat) (lv : List (Nat × Value)) (st : List Value) (σ : fr_S) : Prop :=
  ∀ (p : Program) (e : Env) (s : State) (m : MethodId) (args : Array Value) (below : List Frame) (meth : Method) (c : Code) (H : Heap) (locs : List Loc) (ls : Array Slot),
    Cx G Y p s m args meth c → lv_has ls Y.2.2.1 (lv.map (cvp G)) → Pic G ex n σ H → va_S (AA (fr_q G)) s.heap H locs →
    W p l e R s m args below meth c H locs k sl (QF below args s) (F0 m pc ls (st.map (cv G)))
def Qc (G : fr_G) (ex : Bool) (n : Nat) (Post : Option Value → fr_S → Prop) : Array Value → State → Outcome → State → Prop := fun _ st oc t =>
  (∃ (r : Option Value) (σ : fr_S), oc = .returned (r.map (cv G)) ∧ Post r σ ∧ Pic G ex n σ t.heap) ∧ va_F (AA (fr_q G)) st t
/-- a method's end, by a return -/
def QR (G : fr_G) (ex : Bool) (n mc ms : Nat) (Post : Option Value → fr_S → Prop) : List Frame → Array Value → State → State → Prop := fun below args s => MQ below (Qc G ex n Post) args s mc ms (AA (fr_q G))
theorem cv_cat (q : fr_G) (v : Value) : (cv q v).category = v.category := by cases v <;> rfl
def lk : List (Nat × Value) → Nat → Option Value
  | [], _ => none
  | x :: t, i => if x.1 = i then some x.2 else lk t i
theorem lk_mem {l : List (Nat × Value)} {i : Nat} {v : Value} (h : lk l i = some v) : (i, v) ∈ l := by
  induction l with
  | nil => cases h
  | cons x t ih =>
    unfold lk at h
    by_cases e : x.1 = i
    · rw [if_pos e] at h
      cases h
      rw [← e]
      exact List.mem_cons_self
    · rw [if_neg e] at h
      exact List.mem_cons_of_mem _ (ih h)
theorem lk_at {q : fr_G} {nL : Nat} {ls : Array Slot} {lv : List (Nat × Value)} (h : lv_has ls nL (lv.map (cvp q))) {i : Nat} {v : Value} (hk : lk lv i = some v) : ls[i]? = some (.val (cv q v)) :=
  h.2.2 (cvp q (i, v)) (List.mem_map_of_mem (lk_mem hk))
def s_1 (i : Nat) (v : Value) (lv : List (Nat × Value)) : List (Nat × Value) := (i, v) :: lv.filter fun x => !(x.1 == i) && !(x.1 + 1 == i && x.2.category == 2)
def s_2 (i : Nat) (v : Value) (lv : List (Nat × Value)) : List (Nat × Value) := (i, v) :: lv.filter fun x => !(x.1 == i) && (!(x.1 == i + 1) && !(x.1 + 1 == i && x.2.category == 2))
theorem s_1m (q : fr_G) (i : Nat) (v : Value) (lv : List (Nat × Value)) : (i, cv q v) :: (lv.map (cvp q)).filter (fun x => !(x.1 == i) && !(x.1 + 1 == i && x.2.category == 2)) = (s_1 i v lv).map (cvp q) := by
  unfold s_1
  rw [List.filter_map, List.map_cons]
  congr 2
  congr 1
  funext x
  simp only [Function.comp_apply, cvp, cv_cat]
theorem s_2m (q : fr_G) (i : Nat) (v : Value) (lv : List (Nat × Value)) : (i, cv q v) :: (lv.map (cvp q)).filter (fun x => !(x.1 == i) && (!(x.1 == i + 1) && !(x.1 + 1 == i && x.2.category == 2))) = (s_2 i v lv).map (cvp q) := by
  unfold s_2
  rw [List.filter_map, List.map_cons]
  congr 2
  congr 1
  funext x
  simp only [Function.comp_apply, cvp, cv_cat]
