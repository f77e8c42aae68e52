section PXR
variable {l : Launch} {G : fr_G} {Y : fr_Y} {R : Room} {QF : List Frame → Array Value → State → State → Prop} {ex : Bool} {n k sl pc pc' : Nat} {lv lv' : List (Nat × Value)} {st : List Value} {σ σ' : fr_S}
theorem px_iconst {i : Int} {v : Int32} (hd : dc Y.2.1 pc (.iconst i) 1 pc') (hv : Int32.ofInt i = v) (h : PX l G Y R QF ex n k sl pc' lv (.int v :: st) σ) : PX l G Y R QF ex n k sl pc lv st σ := by
  intro p e s m args below meth c H locs ls C hl hP hS
  obtain ⟨hd, rfl⟩ := hd
  exact lv_iconst C.1 C.2.1 hd hv (h p e s m args below meth c H locs ls C hl hP hS)
theorem px_bipush {i : Int} {v : Int32} (hd : dc Y.2.1 pc (.bipush i) 2 pc') (hv : (Int8.ofInt i).toInt32 = v) (h : PX l G Y R QF ex n k sl pc' lv (.int v :: st) σ) : PX l G Y R QF ex n k sl pc lv st σ := by
  intro p e s m args below meth c H locs ls C hl hP hS
  obtain ⟨hd, rfl⟩ := hd
  exact lv_bipush C.1 C.2.1 hd hv (h p e s m args below meth c H locs ls C hl hP hS)
theorem px_sipush {i : Int} {v : Int32} (hd : dc Y.2.1 pc (.sipush i) 3 pc') (hv : (Int16.ofInt i).toInt32 = v) (h : PX l G Y R QF ex n k sl pc' lv (.int v :: st) σ) : PX l G Y R QF ex n k sl pc lv st σ := by
  intro p e s m args below meth c H locs ls C hl hP hS
  obtain ⟨hd, rfl⟩ := hd
  exact lv_sipush C.1 C.2.1 hd hv (h p e s m args below meth c H locs ls C hl hP hS)
theorem px_lconst {i : Fin 2} {v : Int64} (hd : dc Y.2.1 pc (.lconst i) 1 pc') (hv : Int64.ofNat (i : Nat) = v) (h : PX l G Y R QF ex n k sl pc' lv (.long v :: st) σ) : PX l G Y R QF ex n k sl pc lv st σ := by
  intro p e s m args below meth c H locs ls C hl hP hS
  obtain ⟨hd, rfl⟩ := hd
  exact lv_lconst C.1 C.2.1 hd hv (h p e s m args below meth c H locs ls C hl hP hS)
theorem px_dconst0 (hd : dc Y.2.1 pc (.dconst 0) 1 pc') (h : PX l G Y R QF ex n k sl pc' lv (.double 0 :: st) σ) : PX l G Y R QF ex n k sl pc lv st σ := by
  intro p e s m args below meth c H locs ls C hl hP hS
  obtain ⟨hd, rfl⟩ := hd
  exact lv_dconst0 C.1 C.2.1 hd (h p e s m args below meth c H locs ls C hl hP hS)
theorem px_fconst0 (hd : dc Y.2.1 pc (.fconst 0) 1 pc') (h : PX l G Y R QF ex n k sl pc' lv (.float 0 :: st) σ) : PX l G Y R QF ex n k sl pc lv st σ := by
  intro p e s m args below meth c H locs ls C hl hP hS
  obtain ⟨hd, rfl⟩ := hd
  exact lv_fconst0 C.1 C.2.1 hd (h p e s m args below meth c H locs ls C hl hP hS)
theorem px_null (hd : dc Y.2.1 pc .aconst_null 1 pc') (h : PX l G Y R QF ex n k sl pc' lv (.null :: st) σ) : PX l G Y R QF ex n k sl pc lv st σ := by
  intro p e s m args below meth c H locs ls C hl hP hS
  obtain ⟨hd, rfl⟩ := hd
  exact lv_null C.1 C.2.1 hd (h p e s m args below meth c H locs ls C hl hP hS)
theorem px_iload_n {i : Fin 4} {x : Int32} (hd : dc Y.2.1 pc (.iload_n i) 1 pc') (hl0 : lk lv (i : Nat) = some (.int x)) (h : PX l G Y R QF ex n k sl pc' lv (.int x :: st) σ) : PX l G Y R QF ex n k sl pc lv st σ := by
  intro p e s m args below meth c H locs ls C hl hP hS
  obtain ⟨hd, rfl⟩ := hd
  exact lv_iload_n C.1 C.2.1 hd rfl (lk_at hl hl0) (h p e s m args below meth c H locs ls C hl hP hS)
theorem px_iload {i : Nat} {x : Int32} (hd : dc Y.2.1 pc (.iload i) 2 pc') (hl0 : lk lv i = some (.int x)) (h : PX l G Y R QF ex n k sl pc' lv (.int x :: st) σ) : PX l G Y R QF ex n k sl pc lv st σ := by
  intro p e s m args below meth c H locs ls C hl hP hS
  obtain ⟨hd, rfl⟩ := hd
  exact lv_iload C.1 C.2.1 hd (lk_at hl hl0) (h p e s m args below meth c H locs ls C hl hP hS)
theorem px_lload_n {i : Fin 4} {x : Int64} (hd : dc Y.2.1 pc (.lload_n i) 1 pc') (hl0 : lk lv (i : Nat) = some (.long x)) (h : PX l G Y R QF ex n k sl pc' lv (.long x :: st) σ) : PX l G Y R QF ex n k sl pc lv st σ := by
  intro p e s m args below meth c H locs ls C hl hP hS
  obtain ⟨hd, rfl⟩ := hd
  exact lv_lload_n C.1 C.2.1 hd rfl (lk_at hl hl0) (h p e s m args below meth c H locs ls C hl hP hS)
theorem px_lload {i : Nat} {x : Int64} (hd : dc Y.2.1 pc (.lload i) 2 pc') (hl0 : lk lv i = some (.long x)) (h : PX l G Y R QF ex n k sl pc' lv (.long x :: st) σ) : PX l G Y R QF ex n k sl pc lv st σ := by
  intro p e s m args below meth c H locs ls C hl hP hS
  obtain ⟨hd, rfl⟩ := hd
  exact lv_lload C.1 C.2.1 hd (lk_at hl hl0) (h p e s m args below meth c H locs ls C hl hP hS)
theorem px_fload_n {i : Fin 4} {x : UInt32} (hd : dc Y.2.1 pc (.fload_n i) 1 pc') (hl0 : lk lv (i : Nat) = some (.float x)) (h : PX l G Y R QF ex n k sl pc' lv (.float x :: st) σ) : PX l G Y R QF ex n k sl pc lv st σ := by
  intro p e s m args below meth c H locs ls C hl hP hS
  obtain ⟨hd, rfl⟩ := hd
  exact lv_fload_n C.1 C.2.1 hd rfl (lk_at hl hl0) (h p e s m args below meth c H locs ls C hl hP hS)
theorem px_fload {i : Nat} {x : UInt32} (hd : dc Y.2.1 pc (.fload i) 2 pc') (hl0 : lk lv i = some (.float x)) (h : PX l G Y R QF ex n k sl pc' lv (.float x :: st) σ) : PX l G Y R QF ex n k sl pc lv st σ := by
  intro p e s m args below meth c H locs ls C hl hP hS
  obtain ⟨hd, rfl⟩ := hd
  exact lv_fload C.1 C.2.1 hd (lk_at hl hl0) (h p e s m args below meth c H locs ls C hl hP hS)
theorem px_dload_n {i : Fin 4} {x : UInt64} (hd : dc Y.2.1 pc (.dload_n i) 1 pc') (hl0 : lk lv (i : Nat) = some (.double x)) (h : PX l G Y R QF ex n k sl pc' lv (.double x :: st) σ) : PX l G Y R QF ex n k sl pc lv st σ := by
  intro p e s m args below meth c H locs ls C hl hP hS
  obtain ⟨hd, rfl⟩ := hd
  exact lv_dload_n C.1 C.2.1 hd rfl (lk_at hl hl0) (h p e s m args below meth c H locs ls C hl hP hS)
theorem px_dload {i : Nat} {x : UInt64} (hd : dc Y.2.1 pc (.dload i) 2 pc') (hl0 : lk lv i = some (.double x)) (h : PX l G Y R QF ex n k sl pc' lv (.double x :: st) σ) : PX l G Y R QF ex n k sl pc lv st σ := by
  intro p e s m args below meth c H locs ls C hl hP hS
  obtain ⟨hd, rfl⟩ := hd
  exact lv_dload C.1 C.2.1 hd (lk_at hl hl0) (h p e s m args below meth c H locs ls C hl hP hS)
theorem px_aload_n {i : Fin 4} {x : Nat} (hd : dc Y.2.1 pc (.aload_n i) 1 pc') (hl0 : lk lv (i : Nat) = some (.ref x)) (h : PX l G Y R QF ex n k sl pc' lv (.ref x :: st) σ) : PX l G Y R QF ex n k sl pc lv st σ := by
  intro p e s m args below meth c H locs ls C hl hP hS
  obtain ⟨hd, rfl⟩ := hd
  exact lv_aload_n C.1 C.2.1 hd rfl (lk_at hl hl0) (h p e s m args below meth c H locs ls C hl hP hS)
theorem px_aload {i : Nat} {x : Nat} (hd : dc Y.2.1 pc (.aload i) 2 pc') (hl0 : lk lv i = some (.ref x)) (h : PX l G Y R QF ex n k sl pc' lv (.ref x :: st) σ) : PX l G Y R QF ex n k sl pc lv st σ := by
  intro p e s m args below meth c H locs ls C hl hP hS
  obtain ⟨hd, rfl⟩ := hd
  exact lv_aload C.1 C.2.1 hd (lk_at hl hl0) (h p e s m args below meth c H locs ls C hl hP hS)
theorem px_aload_nN {i : Fin 4} (hd : dc Y.2.1 pc (.aload_n i) 1 pc') (hl0 : lk lv (i : Nat) = some .null) (h : PX l G Y R QF ex n k sl pc' lv (.null :: st) σ) : PX l G Y R QF ex n k sl pc lv st σ := by
  intro p e s m args below meth c H locs ls C hl hP hS
  obtain ⟨hd, rfl⟩ := hd
  exact lv_aload_nN C.1 C.2.1 hd rfl (lk_at hl hl0) (h p e s m args below meth c H locs ls C hl hP hS)
theorem px_aloadN {i : Nat} (hd : dc Y.2.1 pc (.aload i) 2 pc') (hl0 : lk lv i = some .null) (h : PX l G Y R QF ex n k sl pc' lv (.null :: st) σ) : PX l G Y R QF ex n k sl pc lv st σ := by
  intro p e s m args below meth c H locs ls C hl hP hS
  obtain ⟨hd, rfl⟩ := hd
  exact lv_aloadN C.1 C.2.1 hd (lk_at hl hl0) (h p e s m args below meth c H locs ls C hl hP hS)
theorem px_istore_n {i : Fin 4} {x : Int32} (hd : dc Y.2.1 pc (.istore_n i) 1 pc') (hn : (i : Nat) < Y.2.2.1) (he : s_1 (i : Nat) (.int x) lv = lv') (h : PX l G Y R QF ex n k sl pc' lv' st σ) : PX l G Y R QF ex n k sl pc lv (.int x :: st) σ := by
  intro p e s m args below meth c H locs ls C hl hP hS
  obtain ⟨hd, rfl⟩ := hd
  subst he
  exact lv_istore_n C.1 C.2.1 hd rfl hl hn (s_1m G _ (.int x) lv) (fun ls hl => (h p e s m args below meth c H locs ls C hl hP hS))
theorem px_istore {i : Nat} {x : Int32} (hd : dc Y.2.1 pc (.istore i) 2 pc') (hn : (i : Nat) < Y.2.2.1) (he : s_1 i (.int x) lv = lv') (h : PX l G Y R QF ex n k sl pc' lv' st σ) : PX l G Y R QF ex n k sl pc lv (.int x :: st) σ := by
  intro p e s m args below meth c H locs ls C hl hP hS
  obtain ⟨hd, rfl⟩ := hd
  subst he
  exact lv_istore C.1 C.2.1 hd hl hn (s_1m G _ (.int x) lv) (fun ls hl => (h p e s m args below meth c H locs ls C hl hP hS))
theorem px_lstore_n {i : Fin 4} {x : Int64} (hd : dc Y.2.1 pc (.lstore_n i) 1 pc') (hn : (i : Nat) + 1 < Y.2.2.1) (he : s_2 (i : Nat) (.long x) lv = lv') (h : PX l G Y R QF ex n k sl pc' lv' st σ) : PX l G Y R QF ex n k sl pc lv (.long x :: st) σ := by
  intro p e s m args below meth c H locs ls C hl hP hS
  obtain ⟨hd, rfl⟩ := hd
  subst he
  exact lv_lstore_n C.1 C.2.1 hd rfl hl hn (s_2m G _ (.long x) lv) (fun ls hl => (h p e s m args below meth c H locs ls C hl hP hS))
theorem px_lstore {i : Nat} {x : Int64} (hd : dc Y.2.1 pc (.lstore i) 2 pc') (hn : (i : Nat) + 1 < Y.2.2.1) (he : s_2 i (.long x) lv = lv') (h : PX l G Y R QF ex n k sl pc' lv' st σ) : PX l G Y R QF ex n k sl pc lv (.long x :: st) σ := by
  intro p e s m args below meth c H locs ls C hl hP hS
  obtain ⟨hd, rfl⟩ := hd
  subst he
  exact lv_lstore C.1 C.2.1 hd hl hn (s_2m G _ (.long x) lv) (fun ls hl => (h p e s m args below meth c H locs ls C hl hP hS))
theorem px_fstore_n {i : Fin 4} {x : UInt32} (hd : dc Y.2.1 pc (.fstore_n i) 1 pc') (hn : (i : Nat) < Y.2.2.1) (he : s_1 (i : Nat) (.float x) lv = lv') (h : PX l G Y R QF ex n k sl pc' lv' st σ) : PX l G Y R QF ex n k sl pc lv (.float x :: st) σ := by
  intro p e s m args below meth c H locs ls C hl hP hS
  obtain ⟨hd, rfl⟩ := hd
  subst he
  exact lv_fstore_n C.1 C.2.1 hd rfl hl hn (s_1m G _ (.float x) lv) (fun ls hl => (h p e s m args below meth c H locs ls C hl hP hS))
theorem px_fstore {i : Nat} {x : UInt32} (hd : dc Y.2.1 pc (.fstore i) 2 pc') (hn : (i : Nat) < Y.2.2.1) (he : s_1 i (.float x) lv = lv') (h : PX l G Y R QF ex n k sl pc' lv' st σ) : PX l G Y R QF ex n k sl pc lv (.float x :: st) σ := by
  intro p e s m args below meth c H locs ls C hl hP hS
  obtain ⟨hd, rfl⟩ := hd
  subst he
  exact lv_fstore C.1 C.2.1 hd hl hn (s_1m G _ (.float x) lv) (fun ls hl => (h p e s m args below meth c H locs ls C hl hP hS))
theorem px_dstore_n {i : Fin 4} {x : UInt64} (hd : dc Y.2.1 pc (.dstore_n i) 1 pc') (hn : (i : Nat) + 1 < Y.2.2.1) (he : s_2 (i : Nat) (.double x) lv = lv') (h : PX l G Y R QF ex n k sl pc' lv' st σ) : PX l G Y R QF ex n k sl pc lv (.double x :: st) σ := by
  intro p e s m args below meth c H locs ls C hl hP hS
  obtain ⟨hd, rfl⟩ := hd
  subst he
  exact lv_dstore_n C.1 C.2.1 hd rfl hl hn (s_2m G _ (.double x) lv) (fun ls hl => (h p e s m args below meth c H locs ls C hl hP hS))
theorem px_dstore {i : Nat} {x : UInt64} (hd : dc Y.2.1 pc (.dstore i) 2 pc') (hn : (i : Nat) + 1 < Y.2.2.1) (he : s_2 i (.double x) lv = lv') (h : PX l G Y R QF ex n k sl pc' lv' st σ) : PX l G Y R QF ex n k sl pc lv (.double x :: st) σ := by
  intro p e s m args below meth c H locs ls C hl hP hS
  obtain ⟨hd, rfl⟩ := hd
  subst he
  exact lv_dstore C.1 C.2.1 hd hl hn (s_2m G _ (.double x) lv) (fun ls hl => (h p e s m args below meth c H locs ls C hl hP hS))
theorem px_astore_n {i : Fin 4} {x : Nat} (hd : dc Y.2.1 pc (.astore_n i) 1 pc') (hn : (i : Nat) < Y.2.2.1) (he : s_1 (i : Nat) (.ref x) lv = lv') (h : PX l G Y R QF ex n k sl pc' lv' st σ) : PX l G Y R QF ex n k sl pc lv (.ref x :: st) σ := by
  intro p e s m args below meth c H locs ls C hl hP hS
  obtain ⟨hd, rfl⟩ := hd
  subst he
  exact lv_astore_n C.1 C.2.1 hd rfl hl hn (s_1m G _ (.ref x) lv) (fun ls hl => (h p e s m args below meth c H locs ls C hl hP hS))
theorem px_astore {i : Nat} {x : Nat} (hd : dc Y.2.1 pc (.astore i) 2 pc') (hn : (i : Nat) < Y.2.2.1) (he : s_1 i (.ref x) lv = lv') (h : PX l G Y R QF ex n k sl pc' lv' st σ) : PX l G Y R QF ex n k sl pc lv (.ref x :: st) σ := by
  intro p e s m args below meth c H locs ls C hl hP hS
  obtain ⟨hd, rfl⟩ := hd
  subst he
  exact lv_astore C.1 C.2.1 hd hl hn (s_1m G _ (.ref x) lv) (fun ls hl => (h p e s m args below meth c H locs ls C hl hP hS))
theorem px_astore_nN {i : Fin 4} (hd : dc Y.2.1 pc (.astore_n i) 1 pc') (hn : (i : Nat) < Y.2.2.1) (he : s_1 (i : Nat) (.null) lv = lv') (h : PX l G Y R QF ex n k sl pc' lv' st σ) : PX l G Y R QF ex n k sl pc lv (.null :: st) σ := by
  intro p e s m args below meth c H locs ls C hl hP hS
  obtain ⟨hd, rfl⟩ := hd
  subst he
  exact lv_astore_nN C.1 C.2.1 hd rfl hl hn (s_1m G _ (.null) lv) (fun ls hl => (h p e s m args below meth c H locs ls C hl hP hS))
theorem px_astoreN {i : Nat} (hd : dc Y.2.1 pc (.astore i) 2 pc') (hn : (i : Nat) < Y.2.2.1) (he : s_1 i (.null) lv = lv') (h : PX l G Y R QF ex n k sl pc' lv' st σ) : PX l G Y R QF ex n k sl pc lv (.null :: st) σ := by
  intro p e s m args below meth c H locs ls C hl hP hS
  obtain ⟨hd, rfl⟩ := hd
  subst he
  exact lv_astoreN C.1 C.2.1 hd hl hn (s_1m G _ (.null) lv) (fun ls hl => (h p e s m args below meth c H locs ls C hl hP hS))
theorem px_iinc {i : Nat} {a : Int} {x v : Int32} (hd : dc Y.2.1 pc (.iinc i a) 3 pc') (hl0 : lk lv i = some (.int x)) (hv : x + Int32.ofInt a = v) (hn : i < Y.2.2.1) (he : s_1 i (.int v) lv = lv') (h : PX l G Y R QF ex n k sl pc' lv' st σ) : PX l G Y R QF ex n k sl pc lv st σ := by
  intro p e s m args below meth c H locs ls C hl hP hS
  obtain ⟨hd, rfl⟩ := hd
  subst he
  obtain ⟨z, hz⟩ := List.getElem?_of_mem (List.mem_map_of_mem (f := cvp G) (lk_mem hl0))
  exact lv_iinc C.1 C.2.1 hd hl hz hv hn (s_1m G _ (.int v) lv) (fun ls hl => (h p e s m args below meth c H locs ls C hl hP hS))
theorem px_iadd {x y : Int32} (hd : dc Y.2.1 pc .iadd 1 pc') (h : PX l G Y R QF ex n k sl pc' lv (.int (x + y) :: st) σ) : PX l G Y R QF ex n k sl pc lv (.int y :: .int x :: st) σ := by
  intro p e s m args below meth c H locs ls C hl hP hS
  obtain ⟨hd, rfl⟩ := hd
  exact lv_iadd C.1 C.2.1 hd (h p e s m args below meth c H locs ls C hl hP hS)
theorem px_isub {x y : Int32} (hd : dc Y.2.1 pc .isub 1 pc') (h : PX l G Y R QF ex n k sl pc' lv (.int (x - y) :: st) σ) : PX l G Y R QF ex n k sl pc lv (.int y :: .int x :: st) σ := by
  intro p e s m args below meth c H locs ls C hl hP hS
  obtain ⟨hd, rfl⟩ := hd
  exact lv_isub C.1 C.2.1 hd (h p e s m args below meth c H locs ls C hl hP hS)
theorem px_imul {x y : Int32} (hd : dc Y.2.1 pc .imul 1 pc') (h : PX l G Y R QF ex n k sl pc' lv (.int (x * y) :: st) σ) : PX l G Y R QF ex n k sl pc lv (.int y :: .int x :: st) σ := by
  intro p e s m args below meth c H locs ls C hl hP hS
  obtain ⟨hd, rfl⟩ := hd
  exact lv_imul C.1 C.2.1 hd (h p e s m args below meth c H locs ls C hl hP hS)
theorem px_iand {x y : Int32} (hd : dc Y.2.1 pc .iand 1 pc') (h : PX l G Y R QF ex n k sl pc' lv (.int (x &&& y) :: st) σ) : PX l G Y R QF ex n k sl pc lv (.int y :: .int x :: st) σ := by
  intro p e s m args below meth c H locs ls C hl hP hS
  obtain ⟨hd, rfl⟩ := hd
  exact lv_iand C.1 C.2.1 hd (h p e s m args below meth c H locs ls C hl hP hS)
theorem px_ior {x y : Int32} (hd : dc Y.2.1 pc .ior 1 pc') (h : PX l G Y R QF ex n k sl pc' lv (.int (x ||| y) :: st) σ) : PX l G Y R QF ex n k sl pc lv (.int y :: .int x :: st) σ := by
  intro p e s m args below meth c H locs ls C hl hP hS
  obtain ⟨hd, rfl⟩ := hd
  exact lv_ior C.1 C.2.1 hd (h p e s m args below meth c H locs ls C hl hP hS)
theorem px_ixor {x y : Int32} (hd : dc Y.2.1 pc .ixor 1 pc') (h : PX l G Y R QF ex n k sl pc' lv (.int (x ^^^ y) :: st) σ) : PX l G Y R QF ex n k sl pc lv (.int y :: .int x :: st) σ := by
  intro p e s m args below meth c H locs ls C hl hP hS
  obtain ⟨hd, rfl⟩ := hd
  exact lv_ixor C.1 C.2.1 hd (h p e s m args below meth c H locs ls C hl hP hS)
theorem px_ishl {x y : Int32} (hd : dc Y.2.1 pc .ishl 1 pc') (h : PX l G Y R QF ex n k sl pc' lv (.int (x <<< (y &&& 31)) :: st) σ) : PX l G Y R QF ex n k sl pc lv (.int y :: .int x :: st) σ := by
  intro p e s m args below meth c H locs ls C hl hP hS
  obtain ⟨hd, rfl⟩ := hd
  exact lv_ishl C.1 C.2.1 hd (h p e s m args below meth c H locs ls C hl hP hS)
theorem px_ishr {x y : Int32} (hd : dc Y.2.1 pc .ishr 1 pc') (h : PX l G Y R QF ex n k sl pc' lv (.int (x >>> (y &&& 31)) :: st) σ) : PX l G Y R QF ex n k sl pc lv (.int y :: .int x :: st) σ := by
  intro p e s m args below meth c H locs ls C hl hP hS
  obtain ⟨hd, rfl⟩ := hd
  exact lv_ishr C.1 C.2.1 hd (h p e s m args below meth c H locs ls C hl hP hS)
theorem px_iushr {x y : Int32} (hd : dc Y.2.1 pc .iushr 1 pc') (h : PX l G Y R QF ex n k sl pc' lv (.int (x.toUInt32 >>> (y.toUInt32 &&& Int32.toUInt32 31)).toInt32 :: st) σ) : PX l G Y R QF ex n k sl pc lv (.int y :: .int x :: st) σ := by
  intro p e s m args below meth c H locs ls C hl hP hS
  obtain ⟨hd, rfl⟩ := hd
  exact lv_iushr C.1 C.2.1 hd rfl (h p e s m args below meth c H locs ls C hl hP hS)
theorem px_idiv {x y : Int32} (hd : dc Y.2.1 pc .idiv 1 pc') (hy : ¬ y = 0) (h : PX l G Y R QF ex n k sl pc' lv (.int (x / y) :: st) σ) : PX l G Y R QF ex n k sl pc lv (.int y :: .int x :: st) σ := by
  intro p e s m args below meth c H locs ls C hl hP hS
  obtain ⟨hd, rfl⟩ := hd
  exact lv_idiv C.1 C.2.1 hd hy (h p e s m args below meth c H locs ls C hl hP hS)
theorem px_irem {x y : Int32} (hd : dc Y.2.1 pc .irem 1 pc') (hy : ¬ y = 0) (h : PX l G Y R QF ex n k sl pc' lv (.int (x - x / y * y) :: st) σ) : PX l G Y R QF ex n k sl pc lv (.int y :: .int x :: st) σ := by
  intro p e s m args below meth c H locs ls C hl hP hS
  obtain ⟨hd, rfl⟩ := hd
  exact lv_irem C.1 C.2.1 hd hy (h p e s m args below meth c H locs ls C hl hP hS)
theorem px_ineg {x : Int32} (hd : dc Y.2.1 pc .ineg 1 pc') (h : PX l G Y R QF ex n k sl pc' lv (.int (-x) :: st) σ) : PX l G Y R QF ex n k sl pc lv (.int x :: st) σ := by
  intro p e s m args below meth c H locs ls C hl hP hS
  obtain ⟨hd, rfl⟩ := hd
  exact lv_ineg C.1 C.2.1 hd (h p e s m args below meth c H locs ls C hl hP hS)
theorem px_ladd {x y : Int64} (hd : dc Y.2.1 pc .ladd 1 pc') (h : PX l G Y R QF ex n k sl pc' lv (.long (x + y) :: st) σ) : PX l G Y R QF ex n k sl pc lv (.long y :: .long x :: st) σ := by
  intro p e s m args below meth c H locs ls C hl hP hS
  obtain ⟨hd, rfl⟩ := hd
  exact lv_ladd C.1 C.2.1 hd (h p e s m args below meth c H locs ls C hl hP hS)
theorem px_lsub {x y : Int64} (hd : dc Y.2.1 pc .lsub 1 pc') (h : PX l G Y R QF ex n k sl pc' lv (.long (x - y) :: st) σ) : PX l G Y R QF ex n k sl pc lv (.long y :: .long x :: st) σ := by
  intro p e s m args below meth c H locs ls C hl hP hS
  obtain ⟨hd, rfl⟩ := hd
  exact lv_lsub C.1 C.2.1 hd (h p e s m args below meth c H locs ls C hl hP hS)
theorem px_lmul {x y : Int64} (hd : dc Y.2.1 pc .lmul 1 pc') (h : PX l G Y R QF ex n k sl pc' lv (.long (x * y) :: st) σ) : PX l G Y R QF ex n k sl pc lv (.long y :: .long x :: st) σ := by
  intro p e s m args below meth c H locs ls C hl hP hS
  obtain ⟨hd, rfl⟩ := hd
  exact lv_lmul C.1 C.2.1 hd (h p e s m args below meth c H locs ls C hl hP hS)
theorem px_land {x y : Int64} (hd : dc Y.2.1 pc .land 1 pc') (h : PX l G Y R QF ex n k sl pc' lv (.long (x &&& y) :: st) σ) : PX l G Y R QF ex n k sl pc lv (.long y :: .long x :: st) σ := by
  intro p e s m args below meth c H locs ls C hl hP hS
  obtain ⟨hd, rfl⟩ := hd
  exact lv_land C.1 C.2.1 hd (h p e s m args below meth c H locs ls C hl hP hS)
theorem px_lor {x y : Int64} (hd : dc Y.2.1 pc .lor 1 pc') (h : PX l G Y R QF ex n k sl pc' lv (.long (x ||| y) :: st) σ) : PX l G Y R QF ex n k sl pc lv (.long y :: .long x :: st) σ := by
  intro p e s m args below meth c H locs ls C hl hP hS
  obtain ⟨hd, rfl⟩ := hd
  exact lv_lor C.1 C.2.1 hd (h p e s m args below meth c H locs ls C hl hP hS)
theorem px_ldiv {x y : Int64} (hd : dc Y.2.1 pc .ldiv 1 pc') (hy : ¬ y = 0) (h : PX l G Y R QF ex n k sl pc' lv (.long (x / y) :: st) σ) : PX l G Y R QF ex n k sl pc lv (.long y :: .long x :: st) σ := by
  intro p e s m args below meth c H locs ls C hl hP hS
  obtain ⟨hd, rfl⟩ := hd
  exact lv_ldiv C.1 C.2.1 hd hy (h p e s m args below meth c H locs ls C hl hP hS)
theorem px_lrem {x y : Int64} (hd : dc Y.2.1 pc .lrem 1 pc') (hy : ¬ y = 0) (h : PX l G Y R QF ex n k sl pc' lv (.long (x - x / y * y) :: st) σ) : PX l G Y R QF ex n k sl pc lv (.long y :: .long x :: st) σ := by
  intro p e s m args below meth c H locs ls C hl hP hS
  obtain ⟨hd, rfl⟩ := hd
  exact lv_lrem C.1 C.2.1 hd hy (h p e s m args below meth c H locs ls C hl hP hS)
theorem px_lneg {x : Int64} (hd : dc Y.2.1 pc .lneg 1 pc') (h : PX l G Y R QF ex n k sl pc' lv (.long (-x) :: st) σ) : PX l G Y R QF ex n k sl pc lv (.long x :: st) σ := by
  intro p e s m args below meth c H locs ls C hl hP hS
  obtain ⟨hd, rfl⟩ := hd
  exact lv_lneg C.1 C.2.1 hd (h p e s m args below meth c H locs ls C hl hP hS)
theorem px_lshl {x : Int64} {y : Int32} (hd : dc Y.2.1 pc .lshl 1 pc') (h : PX l G Y R QF ex n k sl pc' lv (.long (x <<< (y.toInt64 &&& 63)) :: st) σ) : PX l G Y R QF ex n k sl pc lv (.int y :: .long x :: st) σ := by
  intro p e s m args below meth c H locs ls C hl hP hS
  obtain ⟨hd, rfl⟩ := hd
  exact lv_lshl C.1 C.2.1 hd rfl (h p e s m args below meth c H locs ls C hl hP hS)
theorem px_lshr {x : Int64} {y : Int32} (hd : dc Y.2.1 pc .lshr 1 pc') (h : PX l G Y R QF ex n k sl pc' lv (.long (x >>> (y.toInt64 &&& 63)) :: st) σ) : PX l G Y R QF ex n k sl pc lv (.int y :: .long x :: st) σ := by
  intro p e s m args below meth c H locs ls C hl hP hS
  obtain ⟨hd, rfl⟩ := hd
  exact lv_lshr C.1 C.2.1 hd rfl (h p e s m args below meth c H locs ls C hl hP hS)
theorem px_lcmp {x y : Int64} (hd : dc Y.2.1 pc .lcmp 1 pc') (h : PX l G Y R QF ex n k sl pc' lv (.int (lg_cmp x y) :: st) σ) : PX l G Y R QF ex n k sl pc lv (.long y :: .long x :: st) σ := by
  intro p e s m args below meth c H locs ls C hl hP hS
  obtain ⟨hd, rfl⟩ := hd
  exact W.lcmp C.1 C.2.1 hd (h p e s m args below meth c H locs ls C hl hP hS)
theorem px_i2l {x : Int32} (hd : dc Y.2.1 pc .i2l 1 pc') (h : PX l G Y R QF ex n k sl pc' lv (.long x.toInt64 :: st) σ) : PX l G Y R QF ex n k sl pc lv (.int x :: st) σ := by
  intro p e s m args below meth c H locs ls C hl hP hS
  obtain ⟨hd, rfl⟩ := hd
  exact lv_i2l C.1 C.2.1 hd rfl (h p e s m args below meth c H locs ls C hl hP hS)
theorem px_l2i {x : Int64} (hd : dc Y.2.1 pc .l2i 1 pc') (h : PX l G Y R QF ex n k sl pc' lv (.int x.toInt32 :: st) σ) : PX l G Y R QF ex n k sl pc lv (.long x :: st) σ := by
  intro p e s m args below meth c H locs ls C hl hP hS
  obtain ⟨hd, rfl⟩ := hd
  exact lv_l2i C.1 C.2.1 hd rfl (h p e s m args below meth c H locs ls C hl hP hS)
theorem px_i2b {x : Int32} (hd : dc Y.2.1 pc .i2b 1 pc') (h : PX l G Y R QF ex n k sl pc' lv (.int x.toInt8.toInt32 :: st) σ) : PX l G Y R QF ex n k sl pc lv (.int x :: st) σ := by
  intro p e s m args below meth c H locs ls C hl hP hS
  obtain ⟨hd, rfl⟩ := hd
  exact lv_i2b C.1 C.2.1 hd rfl (h p e s m args below meth c H locs ls C hl hP hS)
theorem px_i2s {x : Int32} (hd : dc Y.2.1 pc .i2s 1 pc') (h : PX l G Y R QF ex n k sl pc' lv (.int x.toInt16.toInt32 :: st) σ) : PX l G Y R QF ex n k sl pc lv (.int x :: st) σ := by
  intro p e s m args below meth c H locs ls C hl hP hS
  obtain ⟨hd, rfl⟩ := hd
  exact lv_i2s C.1 C.2.1 hd rfl (h p e s m args below meth c H locs ls C hl hP hS)
theorem px_fadd {x y : UInt32} (hd : dc Y.2.1 pc .fadd 1 pc') (hne : vf_n32 (FP.fadd x y)) (h : PX l G Y R QF ex n k sl pc' lv (.float (FP.fadd x y) :: st) σ) : PX l G Y R QF ex n k sl pc lv (.float y :: .float x :: st) σ := by
  intro p e s m args below meth c H locs ls C hl hP hS
  obtain ⟨hd, rfl⟩ := hd
  exact lv_fadd C.1 C.2.1 hd hne (h p e s m args below meth c H locs ls C hl hP hS)
theorem px_fsub {x y : UInt32} (hd : dc Y.2.1 pc .fsub 1 pc') (hne : vf_n32 (FP.fsub x y)) (h : PX l G Y R QF ex n k sl pc' lv (.float (FP.fsub x y) :: st) σ) : PX l G Y R QF ex n k sl pc lv (.float y :: .float x :: st) σ := by
  intro p e s m args below meth c H locs ls C hl hP hS
  obtain ⟨hd, rfl⟩ := hd
  exact lv_fsub C.1 C.2.1 hd hne (h p e s m args below meth c H locs ls C hl hP hS)
theorem px_fmul {x y : UInt32} (hd : dc Y.2.1 pc .fmul 1 pc') (hne : vf_n32 (FP.fmul x y)) (h : PX l G Y R QF ex n k sl pc' lv (.float (FP.fmul x y) :: st) σ) : PX l G Y R QF ex n k sl pc lv (.float y :: .float x :: st) σ := by
  intro p e s m args below meth c H locs ls C hl hP hS
  obtain ⟨hd, rfl⟩ := hd
  exact lv_fmul C.1 C.2.1 hd hne (h p e s m args below meth c H locs ls C hl hP hS)
theorem px_fdiv {x y : UInt32} (hd : dc Y.2.1 pc .fdiv 1 pc') (hne : vf_n32 (FP.fdiv x y)) (h : PX l G Y R QF ex n k sl pc' lv (.float (FP.fdiv x y) :: st) σ) : PX l G Y R QF ex n k sl pc lv (.float y :: .float x :: st) σ := by
  intro p e s m args below meth c H locs ls C hl hP hS
  obtain ⟨hd, rfl⟩ := hd
  exact lv_fdiv C.1 C.2.1 hd hne (h p e s m args below meth c H locs ls C hl hP hS)
theorem px_fneg {x : UInt32} (hd : dc Y.2.1 pc .fneg 1 pc') (h : PX l G Y R QF ex n k sl pc' lv (.float (FP.fneg x) :: st) σ) : PX l G Y R QF ex n k sl pc lv (.float x :: st) σ := by
  intro p e s m args below meth c H locs ls C hl hP hS
  obtain ⟨hd, rfl⟩ := hd
  exact lv_fneg C.1 C.2.1 hd (h p e s m args below meth c H locs ls C hl hP hS)
theorem px_fcmp {x y : UInt32} {op : CmpOp} (hd : dc Y.2.1 pc (.fcmp op) 1 pc') (h : PX l G Y R QF ex n k sl pc' lv (.int (Op.cmpValue (FP.fcmp x y) op) :: st) σ) : PX l G Y R QF ex n k sl pc lv (.float y :: .float x :: st) σ := by
  intro p e s m args below meth c H locs ls C hl hP hS
  obtain ⟨hd, rfl⟩ := hd
  exact lv_fcmp C.1 C.2.1 hd (h p e s m args below meth c H locs ls C hl hP hS)
theorem px_dadd {x y : UInt64} (hd : dc Y.2.1 pc .dadd 1 pc') (hne : vf_n64 (FP.dadd x y)) (h : PX l G Y R QF ex n k sl pc' lv (.double (FP.dadd x y) :: st) σ) : PX l G Y R QF ex n k sl pc lv (.double y :: .double x :: st) σ := by
  intro p e s m args below meth c H locs ls C hl hP hS
  obtain ⟨hd, rfl⟩ := hd
  exact lv_dadd C.1 C.2.1 hd hne (h p e s m args below meth c H locs ls C hl hP hS)
theorem px_dsub {x y : UInt64} (hd : dc Y.2.1 pc .dsub 1 pc') (hne : vf_n64 (FP.dsub x y)) (h : PX l G Y R QF ex n k sl pc' lv (.double (FP.dsub x y) :: st) σ) : PX l G Y R QF ex n k sl pc lv (.double y :: .double x :: st) σ := by
  intro p e s m args below meth c H locs ls C hl hP hS
  obtain ⟨hd, rfl⟩ := hd
  exact lv_dsub C.1 C.2.1 hd hne (h p e s m args below meth c H locs ls C hl hP hS)
theorem px_dmul {x y : UInt64} (hd : dc Y.2.1 pc .dmul 1 pc') (hne : vf_n64 (FP.dmul x y)) (h : PX l G Y R QF ex n k sl pc' lv (.double (FP.dmul x y) :: st) σ) : PX l G Y R QF ex n k sl pc lv (.double y :: .double x :: st) σ := by
  intro p e s m args below meth c H locs ls C hl hP hS
  obtain ⟨hd, rfl⟩ := hd
  exact lv_dmul C.1 C.2.1 hd hne (h p e s m args below meth c H locs ls C hl hP hS)
theorem px_ddiv {x y : UInt64} (hd : dc Y.2.1 pc .ddiv 1 pc') (hne : vf_n64 (FP.ddiv x y)) (h : PX l G Y R QF ex n k sl pc' lv (.double (FP.ddiv x y) :: st) σ) : PX l G Y R QF ex n k sl pc lv (.double y :: .double x :: st) σ := by
  intro p e s m args below meth c H locs ls C hl hP hS
  obtain ⟨hd, rfl⟩ := hd
  exact lv_ddiv C.1 C.2.1 hd hne (h p e s m args below meth c H locs ls C hl hP hS)
theorem px_dneg {x : UInt64} (hd : dc Y.2.1 pc .dneg 1 pc') (h : PX l G Y R QF ex n k sl pc' lv (.double (FP.dneg x) :: st) σ) : PX l G Y R QF ex n k sl pc lv (.double x :: st) σ := by
  intro p e s m args below meth c H locs ls C hl hP hS
  obtain ⟨hd, rfl⟩ := hd
  exact lv_dneg C.1 C.2.1 hd (h p e s m args below meth c H locs ls C hl hP hS)
theorem px_dcmp {x y : UInt64} {op : CmpOp} (hd : dc Y.2.1 pc (.dcmp op) 1 pc') (h : PX l G Y R QF ex n k sl pc' lv (.int (Op.cmpValue (FP.dcmp x y) op) :: st) σ) : PX l G Y R QF ex n k sl pc lv (.double y :: .double x :: st) σ := by
  intro p e s m args below meth c H locs ls C hl hP hS
  obtain ⟨hd, rfl⟩ := hd
  exact lv_dcmp C.1 C.2.1 hd (h p e s m args below meth c H locs ls C hl hP hS)
theorem px_i2f {x : Int32} (hd : dc Y.2.1 pc .i2f 1 pc') (h : PX l G Y R QF ex n k sl pc' lv (.float (FP.i2f x) :: st) σ) : PX l G Y R QF ex n k sl pc lv (.int x :: st) σ := by
  intro p e s m args below meth c H locs ls C hl hP hS
  obtain ⟨hd, rfl⟩ := hd
  exact lv_i2f C.1 C.2.1 hd (h p e s m args below meth c H locs ls C hl hP hS)
theorem px_i2d {x : Int32} (hd : dc Y.2.1 pc .i2d 1 pc') (h : PX l G Y R QF ex n k sl pc' lv (.double (FP.i2d x) :: st) σ) : PX l G Y R QF ex n k sl pc lv (.int x :: st) σ := by
  intro p e s m args below meth c H locs ls C hl hP hS
  obtain ⟨hd, rfl⟩ := hd
  exact lv_i2d C.1 C.2.1 hd (h p e s m args below meth c H locs ls C hl hP hS)
theorem px_l2f {x : Int64} (hd : dc Y.2.1 pc .l2f 1 pc') (h : PX l G Y R QF ex n k sl pc' lv (.float (FP.l2f x) :: st) σ) : PX l G Y R QF ex n k sl pc lv (.long x :: st) σ := by
  intro p e s m args below meth c H locs ls C hl hP hS
  obtain ⟨hd, rfl⟩ := hd
  exact lv_l2f C.1 C.2.1 hd (h p e s m args below meth c H locs ls C hl hP hS)
theorem px_l2d {x : Int64} (hd : dc Y.2.1 pc .l2d 1 pc') (h : PX l G Y R QF ex n k sl pc' lv (.double (FP.l2d x) :: st) σ) : PX l G Y R QF ex n k sl pc lv (.long x :: st) σ := by
  intro p e s m args below meth c H locs ls C hl hP hS
  obtain ⟨hd, rfl⟩ := hd
  exact lv_l2d C.1 C.2.1 hd (h p e s m args below meth c H locs ls C hl hP hS)
theorem px_d2i {x : UInt64} (hd : dc Y.2.1 pc .d2i 1 pc') (h : PX l G Y R QF ex n k sl pc' lv (.int (FP.d2i x) :: st) σ) : PX l G Y R QF ex n k sl pc lv (.double x :: st) σ := by
  intro p e s m args below meth c H locs ls C hl hP hS
  obtain ⟨hd, rfl⟩ := hd
  exact lv_d2i C.1 C.2.1 hd (h p e s m args below meth c H locs ls C hl hP hS)
theorem px_d2l {x : UInt64} (hd : dc Y.2.1 pc .d2l 1 pc') (h : PX l G Y R QF ex n k sl pc' lv (.long (FP.d2l x) :: st) σ) : PX l G Y R QF ex n k sl pc lv (.double x :: st) σ := by
  intro p e s m args below meth c H locs ls C hl hP hS
  obtain ⟨hd, rfl⟩ := hd
  exact lv_d2l C.1 C.2.1 hd (h p e s m args below meth c H locs ls C hl hP hS)
theorem px_f2d {x : UInt32} (hd : dc Y.2.1 pc .f2d 1 pc') (hne : vf_n64 (FP.f2d x)) (h : PX l G Y R QF ex n k sl pc' lv (.double (FP.f2d x) :: st) σ) : PX l G Y R QF ex n k sl pc lv (.float x :: st) σ := by
  intro p e s m args below meth c H locs ls C hl hP hS
  obtain ⟨hd, rfl⟩ := hd
  exact lv_f2d C.1 C.2.1 hd hne (h p e s m args below meth c H locs ls C hl hP hS)
theorem px_d2f {x : UInt64} (hd : dc Y.2.1 pc .d2f 1 pc') (hne : vf_n32 (FP.d2f x)) (h : PX l G Y R QF ex n k sl pc' lv (.float (FP.d2f x) :: st) σ) : PX l G Y R QF ex n k sl pc lv (.double x :: st) σ := by
  intro p e s m args below meth c H locs ls C hl hP hS
  obtain ⟨hd, rfl⟩ := hd
  exact lv_d2f C.1 C.2.1 hd hne (h p e s m args below meth c H locs ls C hl hP hS)
theorem px_dup {v : Value} (hd : dc Y.2.1 pc .dup 1 pc') (hv : v.category = 1) (h : PX l G Y R QF ex n k sl pc' lv (v :: v :: st) σ) : PX l G Y R QF ex n k sl pc lv (v :: st) σ := by
  intro p e s m args below meth c H locs ls C hl hP hS
  obtain ⟨hd, rfl⟩ := hd
  exact lv_dup C.1 C.2.1 hd ((cv_cat _ _).trans hv) (h p e s m args below meth c H locs ls C hl hP hS)
theorem px_pop {v : Value} (hd : dc Y.2.1 pc .pop 1 pc') (hv : v.category = 1) (h : PX l G Y R QF ex n k sl pc' lv st σ) : PX l G Y R QF ex n k sl pc lv (v :: st) σ := by
  intro p e s m args below meth c H locs ls C hl hP hS
  obtain ⟨hd, rfl⟩ := hd
  exact lv_pop C.1 C.2.1 hd ((cv_cat _ _).trans hv) (h p e s m args below meth c H locs ls C hl hP hS)
theorem px_if_eq {x : Int32} {t : Nat} (hd : dz Y.2.1 pc .eq pc' t) (h1 : x = 0 → PX l G Y R QF ex n k sl t lv st σ) (h2 : ¬ x = 0 → PX l G Y R QF ex n k sl pc' lv st σ) : PX l G Y R QF ex n k sl pc lv (.int x :: st) σ := by
  intro p e s m args below meth c H locs ls C hl hP hS
  obtain ⟨off, hd, rfl, ht⟩ := hd
  exact lv_if_eq C.1 C.2.1 hd ht (fun q => h1 q p e s m args below meth c H locs ls C hl hP hS) (fun q => h2 q p e s m args below meth c H locs ls C hl hP hS)
theorem px_icmp_eq {x y : Int32} {t : Nat} (hd : di Y.2.1 pc .eq pc' t) (h1 : x = y → PX l G Y R QF ex n k sl t lv st σ) (h2 : ¬ x = y → PX l G Y R QF ex n k sl pc' lv st σ) : PX l G Y R QF ex n k sl pc lv (.int y :: .int x :: st) σ := by
  intro p e s m args below meth c H locs ls C hl hP hS
  obtain ⟨off, hd, rfl, ht⟩ := hd
  exact lv_icmp_eq C.1 C.2.1 hd ht (fun q => h1 q p e s m args below meth c H locs ls C hl hP hS) (fun q => h2 q p e s m args below meth c H locs ls C hl hP hS)
theorem px_if_ne {x : Int32} {t : Nat} (hd : dz Y.2.1 pc .ne pc' t) (h1 : ¬ x = 0 → PX l G Y R QF ex n k sl t lv st σ) (h2 : x = 0 → PX l G Y R QF ex n k sl pc' lv st σ) : PX l G Y R QF ex n k sl pc lv (.int x :: st) σ := by
  intro p e s m args below meth c H locs ls C hl hP hS
  obtain ⟨off, hd, rfl, ht⟩ := hd
  exact lv_if_ne C.1 C.2.1 hd ht (fun q => h1 q p e s m args below meth c H locs ls C hl hP hS) (fun q => h2 q p e s m args below meth c H locs ls C hl hP hS)
theorem px_icmp_ne {x y : Int32} {t : Nat} (hd : di Y.2.1 pc .ne pc' t) (h1 : ¬ x = y → PX l G Y R QF ex n k sl t lv st σ) (h2 : x = y → PX l G Y R QF ex n k sl pc' lv st σ) : PX l G Y R QF ex n k sl pc lv (.int y :: .int x :: st) σ := by
  intro p e s m args below meth c H locs ls C hl hP hS
  obtain ⟨off, hd, rfl, ht⟩ := hd
  exact lv_icmp_ne C.1 C.2.1 hd ht (fun q => h1 q p e s m args below meth c H locs ls C hl hP hS) (fun q => h2 q p e s m args below meth c H locs ls C hl hP hS)
theorem px_if_lt {x : Int32} {t : Nat} (hd : dz Y.2.1 pc .lt pc' t) (h1 : x < 0 → PX l G Y R QF ex n k sl t lv st σ) (h2 : ¬ x < 0 → PX l G Y R QF ex n k sl pc' lv st σ) : PX l G Y R QF ex n k sl pc lv (.int x :: st) σ := by
  intro p e s m args below meth c H locs ls C hl hP hS
  obtain ⟨off, hd, rfl, ht⟩ := hd
  exact lv_if_lt C.1 C.2.1 hd ht (fun q => h1 q p e s m args below meth c H locs ls C hl hP hS) (fun q => h2 q p e s m args below meth c H locs ls C hl hP hS)
theorem px_icmp_lt {x y : Int32} {t : Nat} (hd : di Y.2.1 pc .lt pc' t) (h1 : x < y → PX l G Y R QF ex n k sl t lv st σ) (h2 : ¬ x < y → PX l G Y R QF ex n k sl pc' lv st σ) : PX l G Y R QF ex n k sl pc lv (.int y :: .int x :: st) σ := by
  intro p e s m args below meth c H locs ls C hl hP hS
  obtain ⟨off, hd, rfl, ht⟩ := hd
  exact lv_icmp_lt C.1 C.2.1 hd ht (fun q => h1 q p e s m args below meth c H locs ls C hl hP hS) (fun q => h2 q p e s m args below meth c H locs ls C hl hP hS)
theorem px_if_ge {x : Int32} {t : Nat} (hd : dz Y.2.1 pc .ge pc' t) (h1 : 0 ≤ x → PX l G Y R QF ex n k sl t lv st σ) (h2 : ¬ 0 ≤ x → PX l G Y R QF ex n k sl pc' lv st σ) : PX l G Y R QF ex n k sl pc lv (.int x :: st) σ := by
  intro p e s m args below meth c H locs ls C hl hP hS
  obtain ⟨off, hd, rfl, ht⟩ := hd
  exact lv_if_ge C.1 C.2.1 hd ht (fun q => h1 q p e s m args below meth c H locs ls C hl hP hS) (fun q => h2 q p e s m args below meth c H locs ls C hl hP hS)
theorem px_icmp_ge {x y : Int32} {t : Nat} (hd : di Y.2.1 pc .ge pc' t) (h1 : y ≤ x → PX l G Y R QF ex n k sl t lv st σ) (h2 : ¬ y ≤ x → PX l G Y R QF ex n k sl pc' lv st σ) : PX l G Y R QF ex n k sl pc lv (.int y :: .int x :: st) σ := by
  intro p e s m args below meth c H locs ls C hl hP hS
  obtain ⟨off, hd, rfl, ht⟩ := hd
  exact lv_icmp_ge C.1 C.2.1 hd ht (fun q => h1 q p e s m args below meth c H locs ls C hl hP hS) (fun q => h2 q p e s m args below meth c H locs ls C hl hP hS)
theorem px_if_gt {x : Int32} {t : Nat} (hd : dz Y.2.1 pc .gt pc' t) (h1 : 0 < x → PX l G Y R QF ex n k sl t lv st σ) (h2 : ¬ 0 < x → PX l G Y R QF ex n k sl pc' lv st σ) : PX l G Y R QF ex n k sl pc lv (.int x :: st) σ := by
  intro p e s m args below meth c H locs ls C hl hP hS
  obtain ⟨off, hd, rfl, ht⟩ := hd
  exact lv_if_gt C.1 C.2.1 hd ht (fun q => h1 q p e s m args below meth c H locs ls C hl hP hS) (fun q => h2 q p e s m args below meth c H locs ls C hl hP hS)
theorem px_icmp_gt {x y : Int32} {t : Nat} (hd : di Y.2.1 pc .gt pc' t) (h1 : y < x → PX l G Y R QF ex n k sl t lv st σ) (h2 : ¬ y < x → PX l G Y R QF ex n k sl pc' lv st σ) : PX l G Y R QF ex n k sl pc lv (.int y :: .int x :: st) σ := by
  intro p e s m args below meth c H locs ls C hl hP hS
  obtain ⟨off, hd, rfl, ht⟩ := hd
  exact lv_icmp_gt C.1 C.2.1 hd ht (fun q => h1 q p e s m args below meth c H locs ls C hl hP hS) (fun q => h2 q p e s m args below meth c H locs ls C hl hP hS)
theorem px_if_le {x : Int32} {t : Nat} (hd : dz Y.2.1 pc .le pc' t) (h1 : x ≤ 0 → PX l G Y R QF ex n k sl t lv st σ) (h2 : ¬ x ≤ 0 → PX l G Y R QF ex n k sl pc' lv st σ) : PX l G Y R QF ex n k sl pc lv (.int x :: st) σ := by
  intro p e s m args below meth c H locs ls C hl hP hS
  obtain ⟨off, hd, rfl, ht⟩ := hd
  exact lv_if_le C.1 C.2.1 hd ht (fun q => h1 q p e s m args below meth c H locs ls C hl hP hS) (fun q => h2 q p e s m args below meth c H locs ls C hl hP hS)
theorem px_icmp_le {x y : Int32} {t : Nat} (hd : di Y.2.1 pc .le pc' t) (h1 : x ≤ y → PX l G Y R QF ex n k sl t lv st σ) (h2 : ¬ x ≤ y → PX l G Y R QF ex n k sl pc' lv st σ) : PX l G Y R QF ex n k sl pc lv (.int y :: .int x :: st) σ := by
  intro p e s m args below meth c H locs ls C hl hP hS
  obtain ⟨off, hd, rfl, ht⟩ := hd
  exact lv_icmp_le C.1 C.2.1 hd ht (fun q => h1 q p e s m args below meth c H locs ls C hl hP hS) (fun q => h2 q p e s m args below meth c H locs ls C hl hP hS)
theorem px_goto {t : Nat} (hd : dg Y.2.1 pc t) (h : PX l G Y R QF ex n k sl t lv st σ) : PX l G Y R QF ex n k sl pc lv st σ := by
  intro p e s m args below meth c H locs ls C hl hP hS
  obtain ⟨off, hd, ht⟩ := hd
  exact lv_goto C.1 C.2.1 hd ht (h p e s m args below meth c H locs ls C hl hP hS)
theorem px_ifnull {x t : Nat} (hd : dn Y.2.1 pc pc' t) (h : PX l G Y R QF ex n k sl pc' lv st σ) : PX l G Y R QF ex n k sl pc lv (.ref x :: st) σ := by
  intro p e s m args below meth c H locs ls C hl hP hS
  obtain ⟨off, hd, rfl, ht⟩ := hd
  exact lv_ifnull C.1 C.2.1 hd (h p e s m args below meth c H locs ls C hl hP hS)
theorem px_ifnonnull {x t : Nat} (hd : do_ Y.2.1 pc pc' t) (h : PX l G Y R QF ex n k sl t lv st σ) : PX l G Y R QF ex n k sl pc lv (.ref x :: st) σ := by
  intro p e s m args below meth c H locs ls C hl hP hS
  obtain ⟨off, hd, rfl, ht⟩ := hd
  exact lv_ifnonnull C.1 C.2.1 hd ht (h p e s m args below meth c H locs ls C hl hP hS)
theorem px_ifnullN {t : Nat} (hd : dn Y.2.1 pc pc' t) (h : PX l G Y R QF ex n k sl t lv st σ) : PX l G Y R QF ex n k sl pc lv (.null :: st) σ := by
  intro p e s m args below meth c H locs ls C hl hP hS
  obtain ⟨off, hd, rfl, ht⟩ := hd
  exact lv_ifnullN C.1 C.2.1 hd ht (h p e s m args below meth c H locs ls C hl hP hS)
theorem px_ifnonnullN {t : Nat} (hd : do_ Y.2.1 pc pc' t) (h : PX l G Y R QF ex n k sl pc' lv st σ) : PX l G Y R QF ex n k sl pc lv (.null :: st) σ := by
  intro p e s m args below meth c H locs ls C hl hP hS
  obtain ⟨off, hd, rfl, ht⟩ := hd
  exact lv_ifnonnullN C.1 C.2.1 hd (h p e s m args below meth c H locs ls C hl hP hS)
theorem px_tabIn {dflt lo hi : Int} {offs : Array Int} {len t : Nat} {x : Int32} {off : Int} (hd : dc Y.2.1 pc (.tableswitch dflt lo hi offs) len pc') (h1 : ¬ x.toInt < lo) (h2 : ¬ hi < x.toInt) (ho : offs[(x.toInt - lo).toNat]? = some off) (ht : (pc : Int) + off = (t : Int)) (h : PX l G Y R QF ex n k sl t lv st σ) : PX l G Y R QF ex n k sl pc lv (.int x :: st) σ := by
  intro p e s m args below meth c H locs ls C hl hP hS
  exact lv_tableIn C.1 C.2.1 hd.1 h1 h2 ho ht (h p e s m args below meth c H locs ls C hl hP hS)
theorem px_tabOut {dflt lo hi : Int} {offs : Array Int} {len t : Nat} {x : Int32} (hd : dc Y.2.1 pc (.tableswitch dflt lo hi offs) len pc') (h0 : x.toInt < lo ∨ hi < x.toInt) (ht : (pc : Int) + dflt = (t : Int)) (h : PX l G Y R QF ex n k sl t lv st σ) : PX l G Y R QF ex n k sl pc lv (.int x :: st) σ := by
  intro p e s m args below meth c H locs ls C hl hP hS
  exact lv_tableOut C.1 C.2.1 hd.1 h0 ht (h p e s m args below meth c H locs ls C hl hP hS)
theorem px_lookup {dflt : Int} {ps : Array (Int × Int)} {len t : Nat} {x : Int32} {off : Int} (hd : dc Y.2.1 pc (.lookupswitch dflt ps) len pc') (hp : (ps.toList.zip (ps.toList.drop 1)).all (fun (a, next) => a.1 < next.1) = true) (ho : Op.lookupswitch.offset ps.toList dflt x.toInt = off) (ht : (pc : Int) + off = (t : Int)) (h : PX l G Y R QF ex n k sl t lv st σ) : PX l G Y R QF ex n k sl pc lv (.int x :: st) σ := by
  intro p e s m args below meth c H locs ls C hl hP hS
  exact lv_lookup C.1 C.2.1 hd.1 hp ho ht (h p e s m args below meth c H locs ls C hl hP hS)
theorem px_nmi {x : Int32} (h : ∀ y : Int32, y = x → PX l G Y R QF ex n k sl pc lv (.int y :: st) σ) : PX l G Y R QF ex n k sl pc lv (.int x :: st) σ := h x rfl
theorem px_nml {x : Int64} (h : ∀ y : Int64, y = x → PX l G Y R QF ex n k sl pc lv (.long y :: st) σ) : PX l G Y R QF ex n k sl pc lv (.long x :: st) σ := h x rfl
theorem px_nmf {x : UInt32} (h : ∀ y : UInt32, y = x → PX l G Y R QF ex n k sl pc lv (.float y :: st) σ) : PX l G Y R QF ex n k sl pc lv (.float x :: st) σ := h x rfl
theorem px_nmd {x : UInt64} (h : ∀ y : UInt64, y = x → PX l G Y R QF ex n k sl pc lv (.double y :: st) σ) : PX l G Y R QF ex n k sl pc lv (.double x :: st) σ := h x rfl
theorem px_nmσ (h : ∀ τ : fr_S, τ = σ → PX l G Y R QF ex n k sl pc lv st τ) : PX l G Y R QF ex n k sl pc lv st σ := h σ rfl
theorem px_ldc {i : Nat} {v : Int32} (hd : dc Y.2.1 pc (.ldc i) 2 pc') (hw : Jvm.Cond.constant Y.1.cls i v ∈ al_W) (h : PX l G Y R QF ex n k sl pc' lv (.int v :: st) σ) : PX l G Y R QF ex n k sl pc lv st σ := by
  intro p e s m args below meth c H locs ls C hl hP hS
  obtain ⟨hd, rfl⟩ := hd
  exact lv_ldc C.1 C.2.1 C.2.2.2.2.1 (C.2.2.2.2.2.1 _ hw) hd (h p e s m args below meth c H locs ls C hl hP hS)
theorem px_ldcf {i : Nat} {v : UInt32} (hd : dc Y.2.1 pc (.ldc i) 2 pc') (hw : Jvm.Cond.constantFloat Y.1.cls i v ∈ al_W) (h : PX l G Y R QF ex n k sl pc' lv (.float v :: st) σ) : PX l G Y R QF ex n k sl pc lv st σ := by
  intro p e s m args below meth c H locs ls C hl hP hS
  obtain ⟨hd, rfl⟩ := hd
  exact lv_ldcf C.1 C.2.1 C.2.2.2.2.1 (C.2.2.2.2.2.1 _ hw) hd (h p e s m args below meth c H locs ls C hl hP hS)
theorem px_ldc2 {i : Nat} {v : Int64} (hd : dc Y.2.1 pc (.ldc2_w i) 3 pc') (hw : Jvm.Cond.constantLong Y.1.cls i v ∈ al_W) (h : PX l G Y R QF ex n k sl pc' lv (.long v :: st) σ) : PX l G Y R QF ex n k sl pc lv st σ := by
  intro p e s m args below meth c H locs ls C hl hP hS
  obtain ⟨hd, rfl⟩ := hd
  exact lv_ldc2 C.1 C.2.1 C.2.2.2.2.1 (C.2.2.2.2.2.1 _ hw) hd (h p e s m args below meth c H locs ls C hl hP hS)
theorem px_ldc2d {i : Nat} {v : UInt64} (hd : dc Y.2.1 pc (.ldc2_w i) 3 pc') (hw : Jvm.Cond.constantDouble Y.1.cls i v ∈ al_W) (h : PX l G Y R QF ex n k sl pc' lv (.double v :: st) σ) : PX l G Y R QF ex n k sl pc lv st σ := by
  intro p e s m args below meth c H locs ls C hl hP hS
  obtain ⟨hd, rfl⟩ := hd
  exact lv_ldc2d C.1 C.2.1 C.2.2.2.2.1 (C.2.2.2.2.2.1 _ hw) hd (h p e s m args below meth c H locs ls C hl hP hS)
end PXR
