/-! ===== the engine once more: a walk in any room, with any end ===== -/
abbrev cm_M : Type := Room × Nat × Nat × (State → Method → Prop) × (List Frame → Array Value → State → State → Prop)
def cm_E (X : ch_X) (M : cm_M) (y : ch_M) (p : Program) (s : State) (m : MethodId) (args : Array Value) (meth : Method) (c : Code) : Prop :=
  p.tables.exec = Jvm.exec ∧ c.code = y.2.1 ∧ meth.sig.returnType = y.2.2.2 ∧ c.maxLocals = y.2.2.1 ∧ (∀ w ∈ ch_T, w.before args s = true) ∧ s.vm.findClass y.1.cls = some m.cls ∧ meth.locks = false ∧ ch_K X s ∧ ch_B X s.heap ∧ ch_Ok X ∧ ch_NS X s ∧ M.2.2.2.1 s meth
def cm_At (X : ch_X) (M : cm_M) (y : ch_M) (pc : Nat) (L : ch_Lo) (S : List Value) (w : ch_W) : Prop :=
  ∀ (p : Program) (e : Env) (s : State) (m : MethodId) (args : Array Value) (below : List Frame) (meth : Method) (c : Code), cm_E X M y p s m args meth c →
  ∀ (H : Heap) (locs : List Loc) (ls : Array Slot), ch_P X w H → va_S (ch_A X) s.heap H locs → lv_has ls y.2.2.1 (ch_as X 0 L) →
  W p X.1 e M.1 s m args below meth c H locs M.2.1 M.2.2.1 (M.2.2.2.2 below args s) (F0 m pc ls (S.map (ch_re X)))
section CMR
variable {X : ch_X} {M : cm_M} {y : ch_M} {pc : Nat} {L : ch_Lo} {S : List Value} {w : ch_W}
theorem cmr_iconst {n : Int} (v : Int32) (hd : decode y.2.1 pc = .ok (.iconst n, 1)) (hv : Int32.ofInt n = v) (k : cm_At X M y (pc + 1) L (.int v :: S) w) : cm_At X M y pc L S w := by
  intro p e s m args below meth c E H locs ls hP hS hl
  exact lv_iconst E.1 E.2.1 hd hv (k p e s m args below meth c E H locs ls hP hS hl)
theorem cmr_bipush {n : Int} (v : Int32) (hd : decode y.2.1 pc = .ok (.bipush n, 2)) (hv : (Int8.ofInt n).toInt32 = v) (k : cm_At X M y (pc + 2) L (.int v :: S) w) : cm_At X M y pc L S w := by
  intro p e s m args below meth c E H locs ls hP hS hl
  exact lv_bipush E.1 E.2.1 hd hv (k p e s m args below meth c E H locs ls hP hS hl)
theorem cmr_sipush {n : Int} (v : Int32) (hd : decode y.2.1 pc = .ok (.sipush n, 3)) (hv : (Int16.ofInt n).toInt32 = v) (k : cm_At X M y (pc + 3) L (.int v :: S) w) : cm_At X M y pc L S w := by
  intro p e s m args below meth c E H locs ls hP hS hl
  exact lv_sipush E.1 E.2.1 hd hv (k p e s m args below meth c E H locs ls hP hS hl)
theorem cmr_lconst {n : Fin 2} (v : Int64) (hd : decode y.2.1 pc = .ok (.lconst n, 1)) (hv : Int64.ofNat (n : Nat) = v) (k : cm_At X M y (pc + 1) L (.long v :: S) w) : cm_At X M y pc L S w := by
  intro p e s m args below meth c E H locs ls hP hS hl
  exact lv_lconst E.1 E.2.1 hd hv (k p e s m args below meth c E H locs ls hP hS hl)
theorem cmr_ldc {index : Nat} {v : Int32} (hc : Jvm.Cond.constant y.1.cls index v ∈ ch_T) (hd : decode y.2.1 pc = .ok (.ldc index, 2)) (k : cm_At X M y (pc + 2) L (.int v :: S) w) : cm_At X M y pc L S w := by
  intro p e s m args below meth c E H locs ls hP hS hl
  obtain ⟨hx, hb, hr, hml, hts, hown, hlocks, hK, hB, hO, hN⟩ := id E
  exact lv_ldc hx hb hown (hts _ hc) hd (k p e s m args below meth c E H locs ls hP hS hl)
theorem cmr_ldcw {index : Nat} {v : Int32} (hc : Jvm.Cond.constant y.1.cls index v ∈ ch_T) (hd : decode y.2.1 pc = .ok (.ldc_w index, 3)) (k : cm_At X M y (pc + 3) L (.int v :: S) w) : cm_At X M y pc L S w := by
  intro p e s m args below meth c E H locs ls hP hS hl
  obtain ⟨hx, hb, hr, hml, hts, hown, hlocks, hK, hB, hO, hN⟩ := id E
  exact lv_ldcw hx hb hown (hts _ hc) hd (k p e s m args below meth c E H locs ls hP hS hl)
theorem cmr_ldc2 {index : Nat} {v : Int64} (hc : Jvm.Cond.constantLong y.1.cls index v ∈ ch_T) (hd : decode y.2.1 pc = .ok (.ldc2_w index, 3)) (k : cm_At X M y (pc + 3) L (.long v :: S) w) : cm_At X M y pc L S w := by
  intro p e s m args below meth c E H locs ls hP hS hl
  obtain ⟨hx, hb, hr, hml, hts, hown, hlocks, hK, hB, hO, hN⟩ := id E
  exact lv_ldc2 hx hb hown (hts _ hc) hd (k p e s m args below meth c E H locs ls hP hS hl)
theorem cmr_iload_n {q : Fin 4} {x : Int32} (i : Nat) (hd : decode y.2.1 pc = .ok (.iload_n q, 1)) (hi : (q : Nat) = i) (hL : L[i]? = some (some (.int x))) (k : cm_At X M y (pc + 1) L (.int x :: S) w) : cm_At X M y pc L S w := by
  intro p e s m args below meth c E H locs ls hP hS hl
  exact lv_iload_n E.1 E.2.1 hd hi (ch_rd hl hL) (k p e s m args below meth c E H locs ls hP hS hl)
theorem cmr_iload {i : Nat} {x : Int32} (hd : decode y.2.1 pc = .ok (.iload i, 2)) (hL : L[i]? = some (some (.int x))) (k : cm_At X M y (pc + 2) L (.int x :: S) w) : cm_At X M y pc L S w := by
  intro p e s m args below meth c E H locs ls hP hS hl
  exact lv_iload E.1 E.2.1 hd (ch_rd hl hL) (k p e s m args below meth c E H locs ls hP hS hl)
theorem cmr_istore_n {q : Fin 4} {x : Int32} (i : Nat) (L' : ch_Lo) (hd : decode y.2.1 pc = .ok (.istore_n q, 1)) (hi : (q : Nat) = i) (hn : i < y.2.2.1) (h2 : ch_n2 L i = true) (hL : L.set i (some (.int x)) = L') (k : cm_At X M y (pc + 1) L' S w) : cm_At X M y pc L (.int x :: S) w := by
  intro p e s m args below meth c E H locs ls hP hS hl
  exact lv_istore_n E.1 E.2.1 hd hi hl hn rfl (fun ls' hl' => k p e s m args below meth c E H locs ls' hP hS (by rw [← hL]; exact ch_w1 (v := .int x) hl' h2))
theorem cmr_istore {i : Nat} {x : Int32} (L' : ch_Lo) (hd : decode y.2.1 pc = .ok (.istore i, 2)) (hn : i < y.2.2.1) (h2 : ch_n2 L i = true) (hL : L.set i (some (.int x)) = L') (k : cm_At X M y (pc + 2) L' S w) : cm_At X M y pc L (.int x :: S) w := by
  intro p e s m args below meth c E H locs ls hP hS hl
  exact lv_istore E.1 E.2.1 hd hl hn rfl (fun ls' hl' => k p e s m args below meth c E H locs ls' hP hS (by rw [← hL]; exact ch_w1 (v := .int x) hl' h2))
theorem cmr_lload_n {q : Fin 4} {x : Int64} (i : Nat) (hd : decode y.2.1 pc = .ok (.lload_n q, 1)) (hi : (q : Nat) = i) (hL : L[i]? = some (some (.long x))) (k : cm_At X M y (pc + 1) L (.long x :: S) w) : cm_At X M y pc L S w := by
  intro p e s m args below meth c E H locs ls hP hS hl
  exact lv_lload_n E.1 E.2.1 hd hi (ch_rd hl hL) (k p e s m args below meth c E H locs ls hP hS hl)
theorem cmr_lload {i : Nat} {x : Int64} (hd : decode y.2.1 pc = .ok (.lload i, 2)) (hL : L[i]? = some (some (.long x))) (k : cm_At X M y (pc + 2) L (.long x :: S) w) : cm_At X M y pc L S w := by
  intro p e s m args below meth c E H locs ls hP hS hl
  exact lv_lload E.1 E.2.1 hd (ch_rd hl hL) (k p e s m args below meth c E H locs ls hP hS hl)
theorem cmr_lstore_n {q : Fin 4} {x : Int64} (i : Nat) (L' : ch_Lo) (hd : decode y.2.1 pc = .ok (.lstore_n q, 1)) (hi : (q : Nat) = i) (hn : i + 1 < y.2.2.1) (h2 : ch_n2 L i = true) (hL : (L.set i (some (.long x))).set (i + 1) none = L') (k : cm_At X M y (pc + 1) L' S w) : cm_At X M y pc L (.long x :: S) w := by
  intro p e s m args below meth c E H locs ls hP hS hl
  exact lv_lstore_n E.1 E.2.1 hd hi hl hn rfl (fun ls' hl' => k p e s m args below meth c E H locs ls' hP hS (by rw [← hL]; exact ch_w2 (v := .long x) hl' h2))
theorem cmr_lstore {i : Nat} {x : Int64} (L' : ch_Lo) (hd : decode y.2.1 pc = .ok (.lstore i, 2)) (hn : i + 1 < y.2.2.1) (h2 : ch_n2 L i = true) (hL : (L.set i (some (.long x))).set (i + 1) none = L') (k : cm_At X M y (pc + 2) L' S w) : cm_At X M y pc L (.long x :: S) w := by
  intro p e s m args below meth c E H locs ls hP hS hl
  exact lv_lstore E.1 E.2.1 hd hl hn rfl (fun ls' hl' => k p e s m args below meth c E H locs ls' hP hS (by rw [← hL]; exact ch_w2 (v := .long x) hl' h2))
theorem cmr_aload_n {q : Fin 4} {x : Nat} (i : Nat) (hd : decode y.2.1 pc = .ok (.aload_n q, 1)) (hi : (q : Nat) = i) (hL : L[i]? = some (some (.ref x))) (k : cm_At X M y (pc + 1) L (.ref x :: S) w) : cm_At X M y pc L S w := by
  intro p e s m args below meth c E H locs ls hP hS hl
  exact lv_aload_n E.1 E.2.1 hd hi (ch_rd hl hL) (k p e s m args below meth c E H locs ls hP hS hl)
theorem cmr_aload {i : Nat} {x : Nat} (hd : decode y.2.1 pc = .ok (.aload i, 2)) (hL : L[i]? = some (some (.ref x))) (k : cm_At X M y (pc + 2) L (.ref x :: S) w) : cm_At X M y pc L S w := by
  intro p e s m args below meth c E H locs ls hP hS hl
  exact lv_aload E.1 E.2.1 hd (ch_rd hl hL) (k p e s m args below meth c E H locs ls hP hS hl)
theorem cmr_astore_n {q : Fin 4} {x : Nat} (i : Nat) (L' : ch_Lo) (hd : decode y.2.1 pc = .ok (.astore_n q, 1)) (hi : (q : Nat) = i) (hn : i < y.2.2.1) (h2 : ch_n2 L i = true) (hL : L.set i (some (.ref x)) = L') (k : cm_At X M y (pc + 1) L' S w) : cm_At X M y pc L (.ref x :: S) w := by
  intro p e s m args below meth c E H locs ls hP hS hl
  exact lv_astore_n E.1 E.2.1 hd hi hl hn rfl (fun ls' hl' => k p e s m args below meth c E H locs ls' hP hS (by rw [← hL]; exact ch_w1 (v := .ref x) hl' h2))
theorem cmr_astore {i : Nat} {x : Nat} (L' : ch_Lo) (hd : decode y.2.1 pc = .ok (.astore i, 2)) (hn : i < y.2.2.1) (h2 : ch_n2 L i = true) (hL : L.set i (some (.ref x)) = L') (k : cm_At X M y (pc + 2) L' S w) : cm_At X M y pc L (.ref x :: S) w := by
  intro p e s m args below meth c E H locs ls hP hS hl
  exact lv_astore E.1 E.2.1 hd hl hn rfl (fun ls' hl' => k p e s m args below meth c E H locs ls' hP hS (by rw [← hL]; exact ch_w1 (v := .ref x) hl' h2))
theorem cmr_iinc {i : Nat} {n : Int} {x : Int32} (v : Int32) (L' : ch_Lo) (hd : decode y.2.1 pc = .ok (.iinc i n, 3)) (hx : L[i]? = some (some (.int x))) (hv : x + Int32.ofInt n = v) (hn : i < y.2.2.1) (h2 : ch_n2 L i = true) (hL : L.set i (some (.int v)) = L') (k : cm_At X M y (pc + 3) L' S w) : cm_At X M y pc L S w := by
  intro p e s m args below meth c E H locs ls hP hS hl
  have hm : ((i, Value.int x) : Nat × Value) ∈ ch_as X 0 L := ch_as_mem.mpr ⟨i, .int x, hx, by simp [ch_re]⟩
  obtain ⟨j, hj⟩ := List.getElem?_of_mem hm
  exact lv_iinc E.1 E.2.1 hd hl hj hv hn rfl (fun ls' hl' => k p e s m args below meth c E H locs ls' hP hS (by rw [← hL]; exact ch_w1 (v := .int v) hl' h2))
theorem cmr_iadd {x z : Int32} (hd : decode y.2.1 pc = .ok (.iadd, 1)) (k : cm_At X M y (pc + 1) L (.int (x + z) :: S) w) : cm_At X M y pc L (.int z :: .int x :: S) w := by
  intro p e s m args below meth c E H locs ls hP hS hl
  exact lv_iadd E.1 E.2.1 hd (k p e s m args below meth c E H locs ls hP hS hl)
theorem cmr_isub {x z : Int32} (hd : decode y.2.1 pc = .ok (.isub, 1)) (k : cm_At X M y (pc + 1) L (.int (x - z) :: S) w) : cm_At X M y pc L (.int z :: .int x :: S) w := by
  intro p e s m args below meth c E H locs ls hP hS hl
  exact lv_isub E.1 E.2.1 hd (k p e s m args below meth c E H locs ls hP hS hl)
theorem cmr_imul {x z : Int32} (hd : decode y.2.1 pc = .ok (.imul, 1)) (k : cm_At X M y (pc + 1) L (.int (x * z) :: S) w) : cm_At X M y pc L (.int z :: .int x :: S) w := by
  intro p e s m args below meth c E H locs ls hP hS hl
  exact lv_imul E.1 E.2.1 hd (k p e s m args below meth c E H locs ls hP hS hl)
theorem cmr_iand {x z : Int32} (hd : decode y.2.1 pc = .ok (.iand, 1)) (k : cm_At X M y (pc + 1) L (.int (x &&& z) :: S) w) : cm_At X M y pc L (.int z :: .int x :: S) w := by
  intro p e s m args below meth c E H locs ls hP hS hl
  exact lv_iand E.1 E.2.1 hd (k p e s m args below meth c E H locs ls hP hS hl)
theorem cmr_ior {x z : Int32} (hd : decode y.2.1 pc = .ok (.ior, 1)) (k : cm_At X M y (pc + 1) L (.int (x ||| z) :: S) w) : cm_At X M y pc L (.int z :: .int x :: S) w := by
  intro p e s m args below meth c E H locs ls hP hS hl
  exact lv_ior E.1 E.2.1 hd (k p e s m args below meth c E H locs ls hP hS hl)
theorem cmr_ixor {x z : Int32} (hd : decode y.2.1 pc = .ok (.ixor, 1)) (k : cm_At X M y (pc + 1) L (.int (x ^^^ z) :: S) w) : cm_At X M y pc L (.int z :: .int x :: S) w := by
  intro p e s m args below meth c E H locs ls hP hS hl
  exact lv_ixor E.1 E.2.1 hd (k p e s m args below meth c E H locs ls hP hS hl)
theorem cmr_ishl {x z : Int32} (hd : decode y.2.1 pc = .ok (.ishl, 1)) (k : cm_At X M y (pc + 1) L (.int (x <<< (z &&& 31)) :: S) w) : cm_At X M y pc L (.int z :: .int x :: S) w := by
  intro p e s m args below meth c E H locs ls hP hS hl
  exact lv_ishl E.1 E.2.1 hd (k p e s m args below meth c E H locs ls hP hS hl)
theorem cmr_ishr {x z : Int32} (hd : decode y.2.1 pc = .ok (.ishr, 1)) (k : cm_At X M y (pc + 1) L (.int (x >>> (z &&& 31)) :: S) w) : cm_At X M y pc L (.int z :: .int x :: S) w := by
  intro p e s m args below meth c E H locs ls hP hS hl
  exact lv_ishr E.1 E.2.1 hd (k p e s m args below meth c E H locs ls hP hS hl)
theorem cmr_iushr {x z : Int32} (hd : decode y.2.1 pc = .ok (.iushr, 1)) (k : cm_At X M y (pc + 1) L (.int ((x.toUInt32 >>> (z.toUInt32 &&& Int32.toUInt32 31)).toInt32) :: S) w) : cm_At X M y pc L (.int z :: .int x :: S) w := by
  intro p e s m args below meth c E H locs ls hP hS hl
  exact lv_iushr E.1 E.2.1 hd rfl (k p e s m args below meth c E H locs ls hP hS hl)
theorem cmr_ladd {x z : Int64} (hd : decode y.2.1 pc = .ok (.ladd, 1)) (k : cm_At X M y (pc + 1) L (.long (x + z) :: S) w) : cm_At X M y pc L (.long z :: .long x :: S) w := by
  intro p e s m args below meth c E H locs ls hP hS hl
  exact lv_ladd E.1 E.2.1 hd (k p e s m args below meth c E H locs ls hP hS hl)
theorem cmr_lsub {x z : Int64} (hd : decode y.2.1 pc = .ok (.lsub, 1)) (k : cm_At X M y (pc + 1) L (.long (x - z) :: S) w) : cm_At X M y pc L (.long z :: .long x :: S) w := by
  intro p e s m args below meth c E H locs ls hP hS hl
  exact lv_lsub E.1 E.2.1 hd (k p e s m args below meth c E H locs ls hP hS hl)
theorem cmr_lmul {x z : Int64} (hd : decode y.2.1 pc = .ok (.lmul, 1)) (k : cm_At X M y (pc + 1) L (.long (x * z) :: S) w) : cm_At X M y pc L (.long z :: .long x :: S) w := by
  intro p e s m args below meth c E H locs ls hP hS hl
  exact lv_lmul E.1 E.2.1 hd (k p e s m args below meth c E H locs ls hP hS hl)
theorem cmr_land {x z : Int64} (hd : decode y.2.1 pc = .ok (.land, 1)) (k : cm_At X M y (pc + 1) L (.long (x &&& z) :: S) w) : cm_At X M y pc L (.long z :: .long x :: S) w := by
  intro p e s m args below meth c E H locs ls hP hS hl
  exact lv_land E.1 E.2.1 hd (k p e s m args below meth c E H locs ls hP hS hl)
theorem cmr_lor {x z : Int64} (hd : decode y.2.1 pc = .ok (.lor, 1)) (k : cm_At X M y (pc + 1) L (.long (x ||| z) :: S) w) : cm_At X M y pc L (.long z :: .long x :: S) w := by
  intro p e s m args below meth c E H locs ls hP hS hl
  exact lv_lor E.1 E.2.1 hd (k p e s m args below meth c E H locs ls hP hS hl)
theorem cmr_lxor {x z : Int64} (hd : decode y.2.1 pc = .ok (.lxor, 1)) (k : cm_At X M y (pc + 1) L (.long (x ^^^ z) :: S) w) : cm_At X M y pc L (.long z :: .long x :: S) w := by
  intro p e s m args below meth c E H locs ls hP hS hl
  exact lv_lxor E.1 E.2.1 hd (k p e s m args below meth c E H locs ls hP hS hl)
theorem cmr_idiv {x z : Int32} (hd : decode y.2.1 pc = .ok (.idiv, 1)) (hne : ¬ z = 0) (k : cm_At X M y (pc + 1) L (.int (x / z) :: S) w) : cm_At X M y pc L (.int z :: .int x :: S) w := by
  intro p e s m args below meth c E H locs ls hP hS hl
  exact lv_idiv E.1 E.2.1 hd hne (k p e s m args below meth c E H locs ls hP hS hl)
theorem cmr_irem {x z : Int32} (hd : decode y.2.1 pc = .ok (.irem, 1)) (hne : ¬ z = 0) (k : cm_At X M y (pc + 1) L (.int (x - x / z * z) :: S) w) : cm_At X M y pc L (.int z :: .int x :: S) w := by
  intro p e s m args below meth c E H locs ls hP hS hl
  exact lv_irem E.1 E.2.1 hd hne (k p e s m args below meth c E H locs ls hP hS hl)
theorem cmr_ldiv {x z : Int64} (hd : decode y.2.1 pc = .ok (.ldiv, 1)) (hne : ¬ z = 0) (k : cm_At X M y (pc + 1) L (.long (x / z) :: S) w) : cm_At X M y pc L (.long z :: .long x :: S) w := by
  intro p e s m args below meth c E H locs ls hP hS hl
  exact lv_ldiv E.1 E.2.1 hd hne (k p e s m args below meth c E H locs ls hP hS hl)
theorem cmr_lrem {x z : Int64} (hd : decode y.2.1 pc = .ok (.lrem, 1)) (hne : ¬ z = 0) (k : cm_At X M y (pc + 1) L (.long (x - x / z * z) :: S) w) : cm_At X M y pc L (.long z :: .long x :: S) w := by
  intro p e s m args below meth c E H locs ls hP hS hl
  exact lv_lrem E.1 E.2.1 hd hne (k p e s m args below meth c E H locs ls hP hS hl)
theorem cmr_ineg {x : Int32} (hd : decode y.2.1 pc = .ok (.ineg, 1)) (k : cm_At X M y (pc + 1) L (.int (-x) :: S) w) : cm_At X M y pc L (.int x :: S) w := by
  intro p e s m args below meth c E H locs ls hP hS hl
  exact lv_ineg E.1 E.2.1 hd (k p e s m args below meth c E H locs ls hP hS hl)
theorem cmr_lneg {x : Int64} (hd : decode y.2.1 pc = .ok (.lneg, 1)) (k : cm_At X M y (pc + 1) L (.long (-x) :: S) w) : cm_At X M y pc L (.long x :: S) w := by
  intro p e s m args below meth c E H locs ls hP hS hl
  exact lv_lneg E.1 E.2.1 hd (k p e s m args below meth c E H locs ls hP hS hl)
theorem cmr_lshl {x : Int64} {z : Int32} (hd : decode y.2.1 pc = .ok (.lshl, 1)) (k : cm_At X M y (pc + 1) L (.long (x <<< (z.toInt64 &&& 63)) :: S) w) : cm_At X M y pc L (.int z :: .long x :: S) w := by
  intro p e s m args below meth c E H locs ls hP hS hl
  exact lv_lshl E.1 E.2.1 hd rfl (k p e s m args below meth c E H locs ls hP hS hl)
theorem cmr_lcmp {x z : Int64} (hd : decode y.2.1 pc = .ok (.lcmp, 1)) (k : cm_At X M y (pc + 1) L (.int (lg_cmp x z) :: S) w) : cm_At X M y pc L (.long z :: .long x :: S) w := by
  intro p e s m args below meth c E H locs ls hP hS hl
  exact W.lcmp E.1 E.2.1 hd (k p e s m args below meth c E H locs ls hP hS hl)
theorem cmr_i2l {x : Int32} (hd : decode y.2.1 pc = .ok (.i2l, 1)) (k : cm_At X M y (pc + 1) L (.long x.toInt64 :: S) w) : cm_At X M y pc L (.int x :: S) w := by
  intro p e s m args below meth c E H locs ls hP hS hl
  exact lv_i2l E.1 E.2.1 hd rfl (k p e s m args below meth c E H locs ls hP hS hl)
theorem cmr_l2i {x : Int64} (hd : decode y.2.1 pc = .ok (.l2i, 1)) (k : cm_At X M y (pc + 1) L (.int x.toInt32 :: S) w) : cm_At X M y pc L (.long x :: S) w := by
  intro p e s m args below meth c E H locs ls hP hS hl
  exact lv_l2i E.1 E.2.1 hd rfl (k p e s m args below meth c E H locs ls hP hS hl)
theorem cmr_i2c {x : Int32} (hd : decode y.2.1 pc = .ok (.i2c, 1)) (k : cm_At X M y (pc + 1) L (.int (x.toUInt32 % 65536).toInt32 :: S) w) : cm_At X M y pc L (.int x :: S) w := by
  intro p e s m args below meth c E H locs ls hP hS hl
  exact lv_i2c E.1 E.2.1 hd rfl (k p e s m args below meth c E H locs ls hP hS hl)
theorem cmr_dup {v : Value} (hd : decode y.2.1 pc = .ok (.dup, 1)) (hv : v.category = 1) (k : cm_At X M y (pc + 1) L (v :: v :: S) w) : cm_At X M y pc L (v :: S) w := by
  intro p e s m args below meth c E H locs ls hP hS hl
  exact lv_dup E.1 E.2.1 hd (by rw [ch_re_cat]; exact hv) (k p e s m args below meth c E H locs ls hP hS hl)
theorem cmr_dup2 {v u : Value} (hd : decode y.2.1 pc = .ok (.dup2, 1)) (hv : v.category = 1) (hu : u.category = 1) (k : cm_At X M y (pc + 1) L (v :: u :: v :: u :: S) w) : cm_At X M y pc L (v :: u :: S) w := by
  intro p e s m args below meth c E H locs ls hP hS hl
  exact lv_dup2_11 E.1 E.2.1 hd (by rw [ch_re_cat]; exact hv) (by rw [ch_re_cat]; exact hu) (k p e s m args below meth c E H locs ls hP hS hl)
theorem cmr_pop {v : Value} (hd : decode y.2.1 pc = .ok (.pop, 1)) (hv : v.category = 1) (k : cm_At X M y (pc + 1) L S w) : cm_At X M y pc L (v :: S) w := by
  intro p e s m args below meth c E H locs ls hP hS hl
  exact lv_pop E.1 E.2.1 hd (by rw [ch_re_cat]; exact hv) (k p e s m args below meth c E H locs ls hP hS hl)
theorem cmr_goto {off : Int} (tgt : Nat) (hd : decode y.2.1 pc = .ok (.goto off, 3)) (ht : (pc : Int) + off = (tgt : Int)) (k : cm_At X M y tgt L S w) : cm_At X M y pc L S w := by
  intro p e s m args below meth c E H locs ls hP hS hl
  exact lv_goto E.1 E.2.1 hd ht (k p e s m args below meth c E H locs ls hP hS hl)
theorem cmr_tblOut {dflt lo hi : Int} {offs : Array Int} {len : Nat} {x : Int32} (tgt : Nat) (hd : decode y.2.1 pc = .ok (.tableswitch dflt lo hi offs, len)) (h : x.toInt < lo ∨ hi < x.toInt) (ht : (pc : Int) + dflt = (tgt : Int)) (k : cm_At X M y tgt L S w) : cm_At X M y pc L (.int x :: S) w := by
  intro p e s m args below meth c E H locs ls hP hS hl
  exact lv_tableOut E.1 E.2.1 hd h ht (k p e s m args below meth c E H locs ls hP hS hl)
theorem cmr_tblIn {dflt lo hi : Int} {offs : Array Int} {len : Nat} {x : Int32} {off : Int} (tgt : Nat) (hd : decode y.2.1 pc = .ok (.tableswitch dflt lo hi offs, len)) (h1 : ¬ x.toInt < lo) (h2 : ¬ hi < x.toInt) (ho : offs[(x.toInt - lo).toNat]? = some off) (ht : (pc : Int) + off = (tgt : Int)) (k : cm_At X M y tgt L S w) : cm_At X M y pc L (.int x :: S) w := by
  intro p e s m args below meth c E H locs ls hP hS hl
  exact lv_tableIn E.1 E.2.1 hd h1 h2 ho ht (k p e s m args below meth c E H locs ls hP hS hl)
theorem cmr_if_eq {x : Int32} {off : Int} (tgt : Nat) (hd : decode y.2.1 pc = .ok (.ifCond .eq off, 3)) (ht : (pc : Int) + off = (tgt : Int)) (kt : x = 0 → cm_At X M y tgt L S w) (kf : ¬ x = 0 → cm_At X M y (pc + 3) L S w) : cm_At X M y pc L (.int x :: S) w := by
  intro p e s m args below meth c E H locs ls hP hS hl
  exact lv_if_eq E.1 E.2.1 hd ht (fun h => kt h p e s m args below meth c E H locs ls hP hS hl) (fun h => kf h p e s m args below meth c E H locs ls hP hS hl)
theorem cmr_icmp_eq {x z : Int32} {off : Int} (tgt : Nat) (hd : decode y.2.1 pc = .ok (.if_icmp .eq off, 3)) (ht : (pc : Int) + off = (tgt : Int)) (kt : x = z → cm_At X M y tgt L S w) (kf : ¬ x = z → cm_At X M y (pc + 3) L S w) : cm_At X M y pc L (.int z :: .int x :: S) w := by
  intro p e s m args below meth c E H locs ls hP hS hl
  exact lv_icmp_eq E.1 E.2.1 hd ht (fun h => kt h p e s m args below meth c E H locs ls hP hS hl) (fun h => kf h p e s m args below meth c E H locs ls hP hS hl)
theorem cmr_if_ne {x : Int32} {off : Int} (tgt : Nat) (hd : decode y.2.1 pc = .ok (.ifCond .ne off, 3)) (ht : (pc : Int) + off = (tgt : Int)) (kt : ¬ x = 0 → cm_At X M y tgt L S w) (kf : x = 0 → cm_At X M y (pc + 3) L S w) : cm_At X M y pc L (.int x :: S) w := by
  intro p e s m args below meth c E H locs ls hP hS hl
  exact lv_if_ne E.1 E.2.1 hd ht (fun h => kt h p e s m args below meth c E H locs ls hP hS hl) (fun h => kf h p e s m args below meth c E H locs ls hP hS hl)
theorem cmr_icmp_ne {x z : Int32} {off : Int} (tgt : Nat) (hd : decode y.2.1 pc = .ok (.if_icmp .ne off, 3)) (ht : (pc : Int) + off = (tgt : Int)) (kt : ¬ x = z → cm_At X M y tgt L S w) (kf : x = z → cm_At X M y (pc + 3) L S w) : cm_At X M y pc L (.int z :: .int x :: S) w := by
  intro p e s m args below meth c E H locs ls hP hS hl
  exact lv_icmp_ne E.1 E.2.1 hd ht (fun h => kt h p e s m args below meth c E H locs ls hP hS hl) (fun h => kf h p e s m args below meth c E H locs ls hP hS hl)
theorem cmr_if_lt {x : Int32} {off : Int} (tgt : Nat) (hd : decode y.2.1 pc = .ok (.ifCond .lt off, 3)) (ht : (pc : Int) + off = (tgt : Int)) (kt : x < 0 → cm_At X M y tgt L S w) (kf : ¬ x < 0 → cm_At X M y (pc + 3) L S w) : cm_At X M y pc L (.int x :: S) w := by
  intro p e s m args below meth c E H locs ls hP hS hl
  exact lv_if_lt E.1 E.2.1 hd ht (fun h => kt h p e s m args below meth c E H locs ls hP hS hl) (fun h => kf h p e s m args below meth c E H locs ls hP hS hl)
theorem cmr_icmp_lt {x z : Int32} {off : Int} (tgt : Nat) (hd : decode y.2.1 pc = .ok (.if_icmp .lt off, 3)) (ht : (pc : Int) + off = (tgt : Int)) (kt : x < z → cm_At X M y tgt L S w) (kf : ¬ x < z → cm_At X M y (pc + 3) L S w) : cm_At X M y pc L (.int z :: .int x :: S) w := by
  intro p e s m args below meth c E H locs ls hP hS hl
  exact lv_icmp_lt E.1 E.2.1 hd ht (fun h => kt h p e s m args below meth c E H locs ls hP hS hl) (fun h => kf h p e s m args below meth c E H locs ls hP hS hl)
theorem cmr_if_ge {x : Int32} {off : Int} (tgt : Nat) (hd : decode y.2.1 pc = .ok (.ifCond .ge off, 3)) (ht : (pc : Int) + off = (tgt : Int)) (kt : 0 ≤ x → cm_At X M y tgt L S w) (kf : ¬ 0 ≤ x → cm_At X M y (pc + 3) L S w) : cm_At X M y pc L (.int x :: S) w := by
  intro p e s m args below meth c E H locs ls hP hS hl
  exact lv_if_ge E.1 E.2.1 hd ht (fun h => kt h p e s m args below meth c E H locs ls hP hS hl) (fun h => kf h p e s m args below meth c E H locs ls hP hS hl)
theorem cmr_icmp_ge {x z : Int32} {off : Int} (tgt : Nat) (hd : decode y.2.1 pc = .ok (.if_icmp .ge off, 3)) (ht : (pc : Int) + off = (tgt : Int)) (kt : z ≤ x → cm_At X M y tgt L S w) (kf : ¬ z ≤ x → cm_At X M y (pc + 3) L S w) : cm_At X M y pc L (.int z :: .int x :: S) w := by
  intro p e s m args below meth c E H locs ls hP hS hl
  exact lv_icmp_ge E.1 E.2.1 hd ht (fun h => kt h p e s m args below meth c E H locs ls hP hS hl) (fun h => kf h p e s m args below meth c E H locs ls hP hS hl)
theorem cmr_if_gt {x : Int32} {off : Int} (tgt : Nat) (hd : decode y.2.1 pc = .ok (.ifCond .gt off, 3)) (ht : (pc : Int) + off = (tgt : Int)) (kt : 0 < x → cm_At X M y tgt L S w) (kf : ¬ 0 < x → cm_At X M y (pc + 3) L S w) : cm_At X M y pc L (.int x :: S) w := by
  intro p e s m args below meth c E H locs ls hP hS hl
  exact lv_if_gt E.1 E.2.1 hd ht (fun h => kt h p e s m args below meth c E H locs ls hP hS hl) (fun h => kf h p e s m args below meth c E H locs ls hP hS hl)
theorem cmr_icmp_gt {x z : Int32} {off : Int} (tgt : Nat) (hd : decode y.2.1 pc = .ok (.if_icmp .gt off, 3)) (ht : (pc : Int) + off = (tgt : Int)) (kt : z < x → cm_At X M y tgt L S w) (kf : ¬ z < x → cm_At X M y (pc + 3) L S w) : cm_At X M y pc L (.int z :: .int x :: S) w := by
  intro p e s m args below meth c E H locs ls hP hS hl
  exact lv_icmp_gt E.1 E.2.1 hd ht (fun h => kt h p e s m args below meth c E H locs ls hP hS hl) (fun h => kf h p e s m args below meth c E H locs ls hP hS hl)
theorem cmr_if_le {x : Int32} {off : Int} (tgt : Nat) (hd : decode y.2.1 pc = .ok (.ifCond .le off, 3)) (ht : (pc : Int) + off = (tgt : Int)) (kt : x ≤ 0 → cm_At X M y tgt L S w) (kf : ¬ x ≤ 0 → cm_At X M y (pc + 3) L S w) : cm_At X M y pc L (.int x :: S) w := by
  intro p e s m args below meth c E H locs ls hP hS hl
  exact lv_if_le E.1 E.2.1 hd ht (fun h => kt h p e s m args below meth c E H locs ls hP hS hl) (fun h => kf h p e s m args below meth c E H locs ls hP hS hl)
theorem cmr_icmp_le {x z : Int32} {off : Int} (tgt : Nat) (hd : decode y.2.1 pc = .ok (.if_icmp .le off, 3)) (ht : (pc : Int) + off = (tgt : Int)) (kt : x ≤ z → cm_At X M y tgt L S w) (kf : ¬ x ≤ z → cm_At X M y (pc + 3) L S w) : cm_At X M y pc L (.int z :: .int x :: S) w := by
  intro p e s m args below meth c E H locs ls hP hS hl
  exact lv_icmp_le E.1 E.2.1 hd ht (fun h => kt h p e s m args below meth c E H locs ls hP hS hl) (fun h => kf h p e s m args below meth c E H locs ls hP hS hl)
theorem cmr_get {k ci j index : Nat} {fs : List ch_F} {f : ch_F} (v : Value) (hd : decode y.2.1 pc = .ok (.getfield index, 3)) (hl0 : ch_FL y.1.cls index ci j) (hs : X.2.2.2.2.2[k]? = some (.inr (ci, fs))) (hf : fs[j]? = some f) (hv : ch_rv w k j f = v) (kk : cm_At X M y (pc + 3) L (v :: S) w) : cm_At X M y pc L (.ref k :: S) w := by
  intro p e s m args below meth c E H locs ls hP hS hl
  obtain ⟨hx, hb, hr, hml, hts, hown, hlocks, hK, hB, hO, hN⟩ := id E
  obtain ⟨C, T, N, hc, hj, hlk, hin⟩ := hl0
  have ha := ch_ws_at (w := w) hs
  refine va_get (D := X.2.1) (cl := vwCl) (ci := ci) (v := ch_re X v) (C := C) (T := T) (N := N) hx hb hts hin hown hK hP k ha hc j hj (hts _ hlk) (fun _ h9 => h9) ?_ hd (kk p e s m args below meth c E H locs ls hP hS hl)
  rw [List.getElem?_mapIdx, hf, ← hv, ch_re_rv]
  rfl
theorem cmr_puti {k ci j index : Nat} {fs : List ch_F} {v : Int32} (ty : FieldType) (hd : decode y.2.1 pc = .ok (.putfield index, 3)) (hl0 : ch_FP y.1.cls index ci j ty) (hs : X.2.2.2.2.2[k]? = some (.inr (ci, fs))) (hf : fs[j]? = some (.inl ())) (hn : narrow ty (.int v) = .int v) (hfit : fits ty (.int v) = true) (kk : cm_At X M y (pc + 3) L S (ch_ui w k j v)) : cm_At X M y pc L (.int v :: .ref k :: S) w := by
  intro p e s m args below meth c E H locs ls hP hS hl
  obtain ⟨hx, hb, hr, hml, hts, hown, hlocks, hK, hB, hO, hN⟩ := id E
  obtain ⟨C, T, N, hc, hj, hlk, hin, hfin, hdd, ⟨ty0, hty⟩, hnm⟩ := hl0
  have ha := ch_ws_at (w := w) hs
  have hjl : j < fs.length := (List.getElem?_eq_some_iff.mp hf).1
  refine va_put (D := X.2.1) (cl := vwCl) (ci := ci) (v := .int v) (ty := ty) (C := C) (T := T) (N := N) hx hb hts hin ty0 hty hnm hown hK hP (hO.D w) hS k ha hc j hj (hts _ hlk) (fun _ h9 => h9) hfin hdd hn hfit (by simpa using hjl) hd (fun H1 locs1 hP1 hD1 hS1 => ?_)
  refine kk p e s m args below meth c E H1 locs1 ls ?_ hS1 hl
  show va_P X.2.1 vwCl (ch_ws X (ch_ui w k j v)) H1
  rw [← ch_ws_set (w := w) (w' := ch_ui w k j v) (e := .inr (ci, (fs.mapIdx (fun j f => ch_fv X w k j f)).set j (.int v))) hs (fun i h => ch_ui_ne i h) (fun i h => rfl) ?_]
  · exact hP1
  · have hq : (fs.mapIdx (fun j f => ch_fv X w k j f)).set j (.int v) = fs.mapIdx (fun j' f' => ch_fv X (ch_ui w k j v) k j' f') :=
      ch_mapIdx_set hf (fun i q hi => by rcases q with q | q | q <;> simp [ch_fv, ch_ui, hi]) (by simp [ch_fv, ch_ui])
    rw [hq]
    rfl
theorem cmr_putl {k ci j index : Nat} {fs : List ch_F} {v : Int64} (hd : decode y.2.1 pc = .ok (.putfield index, 3)) (hl0 : ch_FP y.1.cls index ci j .long) (hs : X.2.2.2.2.2[k]? = some (.inr (ci, fs))) (hf : fs[j]? = some (.inr (.inl ()))) (kk : cm_At X M y (pc + 3) L S (ch_ul w k j v)) : cm_At X M y pc L (.long v :: .ref k :: S) w := by
  intro p e s m args below meth c E H locs ls hP hS hl
  obtain ⟨hx, hb, hr, hml, hts, hown, hlocks, hK, hB, hO, hN⟩ := id E
  obtain ⟨C, T, N, hc, hj, hlk, hin, hfin, hdd, ⟨ty0, hty⟩, hnm⟩ := hl0
  have ha := ch_ws_at (w := w) hs
  have hjl : j < fs.length := (List.getElem?_eq_some_iff.mp hf).1
  refine va_put (D := X.2.1) (cl := vwCl) (ci := ci) (v := .long v) (ty := .long) (C := C) (T := T) (N := N) hx hb hts hin ty0 hty hnm hown hK hP (hO.D w) hS k ha hc j hj (hts _ hlk) (fun _ h9 => h9) hfin hdd rfl rfl (by simpa using hjl) hd (fun H1 locs1 hP1 hD1 hS1 => ?_)
  refine kk p e s m args below meth c E H1 locs1 ls ?_ hS1 hl
  show va_P X.2.1 vwCl (ch_ws X (ch_ul w k j v)) H1
  rw [← ch_ws_set (w := w) (w' := ch_ul w k j v) (e := .inr (ci, (fs.mapIdx (fun j f => ch_fv X w k j f)).set j (.long v))) hs (fun i h => rfl) (fun i h => ch_ul_ne i h) ?_]
  · exact hP1
  · have hq : (fs.mapIdx (fun j f => ch_fv X w k j f)).set j (.long v) = fs.mapIdx (fun j' f' => ch_fv X (ch_ul w k j v) k j' f') :=
      ch_mapIdx_set hf (fun i q hi => by rcases q with q | q | q <;> simp [ch_fv, ch_ul, hi]) (by simp [ch_fv, ch_ul])
    rw [hq]
    rfl
theorem cmr_iald {k n : Nat} {i : Int32} (hd : decode y.2.1 pc = .ok (.iaload, 1)) (hs : X.2.2.2.2.2[k]? = some (.inl (.int, n))) (hin : 0 ≤ i.toInt ∧ i.toInt < n) (kk : cm_At X M y (pc + 1) L (.int (w.1 k i.toInt.toNat) :: S) w) : cm_At X M y pc L (.int i :: .ref k :: S) w := by
  intro p e s m args below meth c E H locs ls hP hS hl
  obtain ⟨hx, hb, hr, hml, hts, hown, hlocks, hK, hB, hO, hN⟩ := id E
  exact va_iald hx hb hK hP k 0 (ch_ws_at (w := w) hs) rfl (ch_in hin) hd (kk p e s m args below meth c E H locs ls hP hS hl)
theorem cmr_zald {k n : Nat} {i : Int32} (hd : decode y.2.1 pc = .ok (.baload, 1)) (hs : X.2.2.2.2.2[k]? = some (.inl (.boolean, n))) (hin : 0 ≤ i.toInt ∧ i.toInt < n) (kk : cm_At X M y (pc + 1) L (.int (w.1 k i.toInt.toNat) :: S) w) : cm_At X M y pc L (.int i :: .ref k :: S) w := by
  intro p e s m args below meth c E H locs ls hP hS hl
  obtain ⟨hx, hb, hr, hml, hts, hown, hlocks, hK, hB, hO, hN⟩ := id E
  exact va_zald hx hb hK hP k 2 (ch_ws_at (w := w) hs) rfl (ch_in hin) hd (kk p e s m args below meth c E H locs ls hP hS hl)
theorem cmr_lald {k n : Nat} {i : Int32} (hd : decode y.2.1 pc = .ok (.laload, 1)) (hs : X.2.2.2.2.2[k]? = some (.inl (.long, n))) (hin : 0 ≤ i.toInt ∧ i.toInt < n) (kk : cm_At X M y (pc + 1) L (.long (w.2 k i.toInt.toNat) :: S) w) : cm_At X M y pc L (.int i :: .ref k :: S) w := by
  intro p e s m args below meth c E H locs ls hP hS hl
  obtain ⟨hx, hb, hr, hml, hts, hown, hlocks, hK, hB, hO, hN⟩ := id E
  exact va_lald hx hb hK hP k 1 (ch_ws_at (w := w) hs) rfl (ch_in hin) hd (kk p e s m args below meth c E H locs ls hP hS hl)
theorem cmr_iast {k n : Nat} {i v : Int32} (hd : decode y.2.1 pc = .ok (.iastore, 1)) (hs : X.2.2.2.2.2[k]? = some (.inl (.int, n))) (hin : 0 ≤ i.toInt ∧ i.toInt < n) (kk : cm_At X M y (pc + 1) L S (ch_ui w k i.toInt.toNat v)) : cm_At X M y pc L (.int v :: .int i :: .ref k :: S) w := by
  intro p e s m args below meth c E H locs ls hP hS hl
  obtain ⟨hx, hb, hr, hml, hts, hown, hlocks, hK, hB, hO, hN⟩ := id E
  refine va_iast hx hb hK hP (hO.D w) hS k 0 (ch_ws_at (w := w) hs) rfl (ch_in hin) hd (fun H1 locs1 hP1 hD1 hS1 => ?_)
  refine kk p e s m args below meth c E H1 locs1 ls ?_ hS1 hl
  show va_P X.2.1 vwCl (ch_ws X (ch_ui w k i.toInt.toNat v)) H1
  rw [← ch_ws_set (w := w) (w' := ch_ui w k i.toInt.toNat v) (e := .inl (X.2.2.1 .int, n, .inl (upd (w.1 k) i.toInt.toNat v))) hs (fun i h => ch_ui_ne i h) (fun i h => rfl) ?_]
  · exact hP1
  · simp only [ch_cell, ch_ui_row]
theorem cmr_zast {k n : Nat} {i v : Int32} (hd : decode y.2.1 pc = .ok (.bastore, 1)) (hs : X.2.2.2.2.2[k]? = some (.inl (.boolean, n))) (hin : 0 ≤ i.toInt ∧ i.toInt < n) (hn : vp_nar .boolean v = v) (kk : cm_At X M y (pc + 1) L S (ch_ui w k i.toInt.toNat v)) : cm_At X M y pc L (.int v :: .int i :: .ref k :: S) w := by
  intro p e s m args below meth c E H locs ls hP hS hl
  obtain ⟨hx, hb, hr, hml, hts, hown, hlocks, hK, hB, hO, hN⟩ := id E
  refine va_zast hx hb hK hP (hO.D w) hS k 2 (ch_ws_at (w := w) hs) rfl (ch_in hin) hd (fun H1 locs1 hP1 hD1 hS1 => ?_)
  refine kk p e s m args below meth c E H1 locs1 ls ?_ hS1 hl
  show va_P X.2.1 vwCl (ch_ws X (ch_ui w k i.toInt.toNat v)) H1
  rw [hn] at hP1
  rw [← ch_ws_set (w := w) (w' := ch_ui w k i.toInt.toNat v) (e := .inl (X.2.2.1 .boolean, n, .inl (upd (w.1 k) i.toInt.toNat v))) hs (fun i h => ch_ui_ne i h) (fun i h => rfl) ?_]
  · exact hP1
  · simp only [ch_cell, ch_ui_row]
theorem cmr_last {k n : Nat} {i : Int32} {v : Int64} (hd : decode y.2.1 pc = .ok (.lastore, 1)) (hs : X.2.2.2.2.2[k]? = some (.inl (.long, n))) (hin : 0 ≤ i.toInt ∧ i.toInt < n) (kk : cm_At X M y (pc + 1) L S (ch_ul w k i.toInt.toNat v)) : cm_At X M y pc L (.long v :: .int i :: .ref k :: S) w := by
  intro p e s m args below meth c E H locs ls hP hS hl
  obtain ⟨hx, hb, hr, hml, hts, hown, hlocks, hK, hB, hO, hN⟩ := id E
  refine va_last hx hb hK hP (hO.D w) hS k 1 (ch_ws_at (w := w) hs) rfl (ch_in hin) hd (fun H1 locs1 hP1 hD1 hS1 => ?_)
  refine kk p e s m args below meth c E H1 locs1 ls ?_ hS1 hl
  show va_P X.2.1 vwCl (ch_ws X (ch_ul w k i.toInt.toNat v)) H1
  rw [← ch_ws_set (w := w) (w' := ch_ul w k i.toInt.toNat v) (e := .inl (X.2.2.1 .long, n, .inr (.inl (vp_updL (w.2 k) i.toInt.toNat v)))) hs (fun i h => rfl) (fun i h => ch_ul_ne i h) ?_]
  · exact hP1
  · simp only [ch_cell, ch_ul_row]
theorem cmr_alen {k n : Nat} {ty : FieldType} (t0 : Nat) (v : Int32) (hd : decode y.2.1 pc = .ok (.arraylength, 1)) (hs : X.2.2.2.2.2[k]? = some (.inl (ty, n))) (ht : (ch_Tys X)[t0]? = some (X.2.2.1 ty, ty)) (hv : Int32.ofNat n = v) (kk : cm_At X M y (pc + 1) L (.int v :: S) w) : cm_At X M y pc L (.ref k :: S) w := by
  intro p e s m args below meth c E H locs ls hP hS hl
  obtain ⟨hx, hb, hr, hml, hts, hown, hlocks, hK, hB, hO, hN⟩ := id E
  have ha := ch_ws_at (w := w) hs
  have hc : ∃ x : vp_A, ch_cell X w k (.inl (ty, n)) = .inl (X.2.2.1 ty, x) ∧ x.1 = n := by
    cases ty <;> exact ⟨_, rfl, rfl⟩
  obtain ⟨x, hc1, hc2⟩ := hc
  rw [hc1] at ha
  exact va_alen hx hb hK hP k t0 ha ht (by rw [hc2]; exact hv) hd (kk p e s m args below meth c E H locs ls hP hS hl)
end CMR
def cq_At (X : ch_X) (M : cm_M) (y : ch_M) (pc : Nat) (L : ck_L) (S : List ck_V) (w : ck_W) : Prop :=
  ck_ok X.2.2.2.2.2 w → ck_lok L → cm_At X M y pc (L.map (Option.map ck_v)) (S.map ck_v) (ck_w w)
section CQR
variable {X : ch_X} {M : cm_M} {y : ch_M} {pc : Nat} {L : ck_L} {S : List ck_V} {w : ck_W}
theorem cq_tr {X : ch_X} {M : cm_M} {y : ch_M} {pc : Nat} {L : ch_Lo} {S : List Value} {w1 w2 : ch_W} (h : ch_ws X w1 = ch_ws X w2) (k : cm_At X M y pc L S w2) : cm_At X M y pc L S w1 := by
  intro p e s m args below meth c E H locs ls hP hS hl
  refine k p e s m args below meth c E H locs ls ?_ hS hl
  show va_P X.2.1 vwCl (ch_ws X w2) H
  rw [← h]
  exact hP
theorem cq_drop {X : ch_X} {M : cm_M} {y : ch_M} {pc : Nat} {L : ck_L} {S : List ck_V} {w : ck_W} (L' : ck_L) (h : ck_le L' L) (k : cq_At X M y pc L' S w) : cq_At X M y pc L S w := by
  intro hw hl p e s m args below meth c E H locs ls hP hS h2
  refine k hw (ck_le_ok h hl) p e s m args below meth c E H locs ls hP hS (ch_has h2 (fun q hq => ?_))
  obtain ⟨j, u, h3, rfl⟩ := ch_as_mem.mp hq
  rw [List.getElem?_map] at h3
  rcases hj : L'[j]? with _ | (_ | v)
  · rw [hj] at h3; cases h3
  · rw [hj] at h3; cases h3
  · rw [hj] at h3
    cases h3
    exact ch_as_mem.mpr ⟨j, ck_v v, ck_lget (ck_le_at h hj), rfl⟩
theorem cq_in {X : ch_X} {M : cm_M} {y : ch_M} {pc : Nat} {L : ck_L} {S : List ck_V} {w : ck_W} (h : ck_lok L → cq_At X M y pc L S w) : cq_At X M y pc L S w := fun hw hl => h hl hw hl
theorem cq_nmw {X : ch_X} {M : cm_M} {y : ch_M} {pc : Nat} {L : ck_L} {S : List ck_V} {e : ck_W} (h : ∀ u, u = e → cq_At X M y pc L S u) : cq_At X M y pc L S e := h e rfl
theorem cq_nmi {X : ch_X} {M : cm_M} {y : ch_M} {pc : Nat} {L : ck_L} {S : List ck_V} {w : ck_W} {e : Int} (h : ∀ u, u = e → cq_At X M y pc L (.inl u :: S) w) : cq_At X M y pc L (.inl e :: S) w := h e rfl
theorem cq_nml {X : ch_X} {M : cm_M} {y : ch_M} {pc : Nat} {L : ck_L} {S : List ck_V} {w : ck_W} {e : Int} (h : ∀ u, u = e → cq_At X M y pc L (.inr (.inl u) :: S) w) : cq_At X M y pc L (.inr (.inl e) :: S) w := h e rfl
theorem cq_iconst (nx : Nat) (hp : pc + 1 = nx) {n : Int} (hd : decode y.2.1 pc = .ok (.iconst n, 1)) (hv : Int32.ofInt n = Int32.ofInt n) (k : cq_At X M y nx L (.inl n :: S) w) : cq_At X M y pc L S w := by
  intro hw hl
  subst hp; exact cmr_iconst _ hd hv (k hw hl)
theorem cq_bipush (nx : Nat) (hp : pc + 2 = nx) {n : Int} (hd : decode y.2.1 pc = .ok (.bipush n, 2)) (hv : (Int8.ofInt n).toInt32 = Int32.ofInt n) (k : cq_At X M y nx L (.inl n :: S) w) : cq_At X M y pc L S w := by
  intro hw hl
  subst hp; exact cmr_bipush _ hd hv (k hw hl)
theorem cq_sipush (nx : Nat) (hp : pc + 3 = nx) {n : Int} (hd : decode y.2.1 pc = .ok (.sipush n, 3)) (hv : (Int16.ofInt n).toInt32 = Int32.ofInt n) (k : cq_At X M y nx L (.inl n :: S) w) : cq_At X M y pc L S w := by
  intro hw hl
  subst hp; exact cmr_sipush _ hd hv (k hw hl)
theorem cq_lconst (nx : Nat) (hp : pc + 1 = nx) {n : Fin 2} (e : Int) (hd : decode y.2.1 pc = .ok (.lconst n, 1)) (hv : Int64.ofNat (n : Nat) = Int64.ofInt e) (k : cq_At X M y nx L (.inr (.inl e) :: S) w) : cq_At X M y pc L S w := by
  intro hw hl
  subst hp; exact cmr_lconst _ hd hv (k hw hl)
theorem cq_ldc (nx : Nat) (hp : pc + 2 = nx) {index : Nat} {v : Int32} (e : Int) (hc : Jvm.Cond.constant y.1.cls index v ∈ ch_T) (hd : decode y.2.1 pc = .ok (.ldc index, 2)) (hv : v = Int32.ofInt e) (k : cq_At X M y nx L (.inl e :: S) w) : cq_At X M y pc L S w := by
  intro hw hl
  subst hp; subst hv; exact cmr_ldc hc hd (k hw hl)
theorem cq_ldcw (nx : Nat) (hp : pc + 3 = nx) {index : Nat} {v : Int32} (e : Int) (hc : Jvm.Cond.constant y.1.cls index v ∈ ch_T) (hd : decode y.2.1 pc = .ok (.ldc_w index, 3)) (hv : v = Int32.ofInt e) (k : cq_At X M y nx L (.inl e :: S) w) : cq_At X M y pc L S w := by
  intro hw hl
  subst hp; subst hv; exact cmr_ldcw hc hd (k hw hl)
theorem cq_ldc2 (nx : Nat) (hp : pc + 3 = nx) {index : Nat} {v : Int64} (e : Int) (hc : Jvm.Cond.constantLong y.1.cls index v ∈ ch_T) (hd : decode y.2.1 pc = .ok (.ldc2_w index, 3)) (hv : v = Int64.ofInt e) (k : cq_At X M y nx L (.inr (.inl e) :: S) w) : cq_At X M y pc L S w := by
  intro hw hl
  subst hp; subst hv; exact cmr_ldc2 hc hd (k hw hl)
theorem cq_iload_n (nx : Nat) (hp : pc + 1 = nx) {q : Fin 4} {e : Int} (i : Nat) (hd : decode y.2.1 pc = .ok (.iload_n q, 1)) (hi : (q : Nat) = i) (hL : L[i]? = some (some (.inl e))) (k : cq_At X M y nx L (.inl e :: S) w) : cq_At X M y pc L S w := by
  intro hw hl
  subst hp; exact cmr_iload_n i hd hi (ck_lget hL) (k hw hl)
theorem cq_iload (nx : Nat) (hp : pc + 2 = nx) {i : Nat} {e : Int} (hd : decode y.2.1 pc = .ok (.iload i, 2)) (hL : L[i]? = some (some (.inl e))) (k : cq_At X M y nx L (.inl e :: S) w) : cq_At X M y pc L S w := by
  intro hw hl
  subst hp; exact cmr_iload hd (ck_lget hL) (k hw hl)
theorem cq_istore_n (nx : Nat) (hp : pc + 1 = nx) {q : Fin 4} {e : Int} (i : Nat) (L' : ck_L) (hd : decode y.2.1 pc = .ok (.istore_n q, 1)) (hi : (q : Nat) = i) (hn : i < y.2.2.1) (h2 : ck_n2 L i = true) (hL : L.set i (some (.inl e)) = L') (he : ck_i e) (k : cq_At X M y nx L' S w) : cq_At X M y pc L (.inl e :: S) w := by
  intro hw hl
  subst hp; subst hL; exact cmr_istore_n i _ hd hi hn (ck_n2h h2) (ck_lset (v := .inl e)) (k hw (ck_lok_set hl he))
theorem cq_istore (nx : Nat) (hp : pc + 2 = nx) {i : Nat} {e : Int} (L' : ck_L) (hd : decode y.2.1 pc = .ok (.istore i, 2)) (hn : i < y.2.2.1) (h2 : ck_n2 L i = true) (hL : L.set i (some (.inl e)) = L') (he : ck_i e) (k : cq_At X M y nx L' S w) : cq_At X M y pc L (.inl e :: S) w := by
  intro hw hl
  subst hp; subst hL; exact cmr_istore _ hd hn (ck_n2h h2) (ck_lset (v := .inl e)) (k hw (ck_lok_set hl he))
theorem cq_lload_n (nx : Nat) (hp : pc + 1 = nx) {q : Fin 4} {e : Int} (i : Nat) (hd : decode y.2.1 pc = .ok (.lload_n q, 1)) (hi : (q : Nat) = i) (hL : L[i]? = some (some (.inr (.inl e)))) (k : cq_At X M y nx L (.inr (.inl e) :: S) w) : cq_At X M y pc L S w := by
  intro hw hl
  subst hp; exact cmr_lload_n i hd hi (ck_lget hL) (k hw hl)
theorem cq_lload (nx : Nat) (hp : pc + 2 = nx) {i : Nat} {e : Int} (hd : decode y.2.1 pc = .ok (.lload i, 2)) (hL : L[i]? = some (some (.inr (.inl e)))) (k : cq_At X M y nx L (.inr (.inl e) :: S) w) : cq_At X M y pc L S w := by
  intro hw hl
  subst hp; exact cmr_lload hd (ck_lget hL) (k hw hl)
theorem cq_lstore_n (nx : Nat) (hp : pc + 1 = nx) {q : Fin 4} {e : Int} (i : Nat) (L' : ck_L) (hd : decode y.2.1 pc = .ok (.lstore_n q, 1)) (hi : (q : Nat) = i) (hn : i + 1 < y.2.2.1) (h2 : ck_n2 L i = true) (hL : (L.set i (some (.inr (.inl e)))).set (i + 1) none = L') (he : ck_l e) (k : cq_At X M y nx L' S w) : cq_At X M y pc L (.inr (.inl e) :: S) w := by
  intro hw hl
  subst hp; subst hL; exact cmr_lstore_n i _ hd hi hn (ck_n2h h2) (ck_lset2 (v := .inr (.inl e))) (k hw (ck_lok_none (ck_lok_set hl he)))
theorem cq_lstore (nx : Nat) (hp : pc + 2 = nx) {i : Nat} {e : Int} (L' : ck_L) (hd : decode y.2.1 pc = .ok (.lstore i, 2)) (hn : i + 1 < y.2.2.1) (h2 : ck_n2 L i = true) (hL : (L.set i (some (.inr (.inl e)))).set (i + 1) none = L') (he : ck_l e) (k : cq_At X M y nx L' S w) : cq_At X M y pc L (.inr (.inl e) :: S) w := by
  intro hw hl
  subst hp; subst hL; exact cmr_lstore _ hd hn (ck_n2h h2) (ck_lset2 (v := .inr (.inl e))) (k hw (ck_lok_none (ck_lok_set hl he)))
theorem cq_aload_n (nx : Nat) (hp : pc + 1 = nx) {q : Fin 4} {e : Nat} (i : Nat) (hd : decode y.2.1 pc = .ok (.aload_n q, 1)) (hi : (q : Nat) = i) (hL : L[i]? = some (some (.inr (.inr e)))) (k : cq_At X M y nx L (.inr (.inr e) :: S) w) : cq_At X M y pc L S w := by
  intro hw hl
  subst hp; exact cmr_aload_n i hd hi (ck_lget hL) (k hw hl)
theorem cq_aload (nx : Nat) (hp : pc + 2 = nx) {i : Nat} {e : Nat} (hd : decode y.2.1 pc = .ok (.aload i, 2)) (hL : L[i]? = some (some (.inr (.inr e)))) (k : cq_At X M y nx L (.inr (.inr e) :: S) w) : cq_At X M y pc L S w := by
  intro hw hl
  subst hp; exact cmr_aload hd (ck_lget hL) (k hw hl)
theorem cq_astore_n (nx : Nat) (hp : pc + 1 = nx) {q : Fin 4} {e : Nat} (i : Nat) (L' : ck_L) (hd : decode y.2.1 pc = .ok (.astore_n q, 1)) (hi : (q : Nat) = i) (hn : i < y.2.2.1) (h2 : ck_n2 L i = true) (hL : L.set i (some (.inr (.inr e))) = L') (k : cq_At X M y nx L' S w) : cq_At X M y pc L (.inr (.inr e) :: S) w := by
  intro hw hl
  subst hp; subst hL; exact cmr_astore_n i _ hd hi hn (ck_n2h h2) (ck_lset (v := .inr (.inr e))) (k hw (ck_lok_set hl trivial))
theorem cq_astore (nx : Nat) (hp : pc + 2 = nx) {i : Nat} {e : Nat} (L' : ck_L) (hd : decode y.2.1 pc = .ok (.astore i, 2)) (hn : i < y.2.2.1) (h2 : ck_n2 L i = true) (hL : L.set i (some (.inr (.inr e))) = L') (k : cq_At X M y nx L' S w) : cq_At X M y pc L (.inr (.inr e) :: S) w := by
  intro hw hl
  subst hp; subst hL; exact cmr_astore _ hd hn (ck_n2h h2) (ck_lset (v := .inr (.inr e))) (k hw (ck_lok_set hl trivial))
theorem cq_iinc (nx : Nat) (hp : pc + 3 = nx) {i : Nat} {n e : Int} (L' : ck_L) (hd : decode y.2.1 pc = .ok (.iinc i n, 3)) (hx : L[i]? = some (some (.inl e))) (hn : i < y.2.2.1) (h2 : ck_n2 L i = true) (hL : L.set i (some (.inl (e + n))) = L') (he : ck_i (e + n)) (k : cq_At X M y nx L' S w) : cq_At X M y pc L S w := by
  intro hw hl
  subst hp; subst hL; exact cmr_iinc _ _ hd (ck_lget hx) (by rw [← Int32.ofInt_add]) hn (ck_n2h h2) (ck_lset (v := .inl (e + n))) (k hw (ck_lok_set hl he))
theorem cq_iadd (nx : Nat) (hp : pc + 1 = nx) {a b : Int} (hd : decode y.2.1 pc = .ok (.iadd, 1)) (k : cq_At X M y nx L (.inl (a + b) :: S) w) : cq_At X M y pc L (.inl b :: .inl a :: S) w := by
  intro hw hl
  subst hp; refine cmr_iadd hd ?_; have h := k hw hl; simp only [List.map_cons, ck_v] at h ⊢; rw [← Int32.ofInt_add]; exact h
theorem cq_isub (nx : Nat) (hp : pc + 1 = nx) {a b : Int} (hd : decode y.2.1 pc = .ok (.isub, 1)) (k : cq_At X M y nx L (.inl (a - b) :: S) w) : cq_At X M y pc L (.inl b :: .inl a :: S) w := by
  intro hw hl
  subst hp; refine cmr_isub hd ?_; have h := k hw hl; simp only [List.map_cons, ck_v] at h ⊢; rw [← Int32.ofInt_sub]; exact h
theorem cq_imul (nx : Nat) (hp : pc + 1 = nx) {a b : Int} (hd : decode y.2.1 pc = .ok (.imul, 1)) (k : cq_At X M y nx L (.inl (a * b) :: S) w) : cq_At X M y pc L (.inl b :: .inl a :: S) w := by
  intro hw hl
  subst hp; refine cmr_imul hd ?_; have h := k hw hl; simp only [List.map_cons, ck_v] at h ⊢; rw [← Int32.ofInt_mul]; exact h
theorem cq_ladd (nx : Nat) (hp : pc + 1 = nx) {a b : Int} (hd : decode y.2.1 pc = .ok (.ladd, 1)) (k : cq_At X M y nx L (.inr (.inl (a + b)) :: S) w) : cq_At X M y pc L (.inr (.inl b) :: .inr (.inl a) :: S) w := by
  intro hw hl
  subst hp; refine cmr_ladd hd ?_; have h := k hw hl; simp only [List.map_cons, ck_v] at h ⊢; rw [← Int64.ofInt_add]; exact h
theorem cq_lsub (nx : Nat) (hp : pc + 1 = nx) {a b : Int} (hd : decode y.2.1 pc = .ok (.lsub, 1)) (k : cq_At X M y nx L (.inr (.inl (a - b)) :: S) w) : cq_At X M y pc L (.inr (.inl b) :: .inr (.inl a) :: S) w := by
  intro hw hl
  subst hp; refine cmr_lsub hd ?_; have h := k hw hl; simp only [List.map_cons, ck_v] at h ⊢; rw [← Int64.ofInt_sub]; exact h
theorem cq_lmul (nx : Nat) (hp : pc + 1 = nx) {a b : Int} (hd : decode y.2.1 pc = .ok (.lmul, 1)) (k : cq_At X M y nx L (.inr (.inl (a * b)) :: S) w) : cq_At X M y pc L (.inr (.inl b) :: .inr (.inl a) :: S) w := by
  intro hw hl
  subst hp; refine cmr_lmul hd ?_; have h := k hw hl; simp only [List.map_cons, ck_v] at h ⊢; rw [← Int64.ofInt_mul]; exact h
theorem cq_iand (nx : Nat) (hp : pc + 1 = nx) {a b : Int} (hd : decode y.2.1 pc = .ok (.iand, 1)) (k : cq_At X M y nx L (.inl (ck_and a b) :: S) w) : cq_At X M y pc L (.inl b :: .inl a :: S) w := by
  intro hw hl
  subst hp; refine cmr_iand hd ?_; have h := k hw hl; simp only [List.map_cons, ck_v, ck_and, Int32.ofInt_toInt] at h ⊢; exact h
theorem cq_ior (nx : Nat) (hp : pc + 1 = nx) {a b : Int} (hd : decode y.2.1 pc = .ok (.ior, 1)) (k : cq_At X M y nx L (.inl (ck_or a b) :: S) w) : cq_At X M y pc L (.inl b :: .inl a :: S) w := by
  intro hw hl
  subst hp; refine cmr_ior hd ?_; have h := k hw hl; simp only [List.map_cons, ck_v, ck_or, Int32.ofInt_toInt] at h ⊢; exact h
theorem cq_ixor (nx : Nat) (hp : pc + 1 = nx) {a b : Int} (hd : decode y.2.1 pc = .ok (.ixor, 1)) (k : cq_At X M y nx L (.inl (ck_xor a b) :: S) w) : cq_At X M y pc L (.inl b :: .inl a :: S) w := by
  intro hw hl
  subst hp; refine cmr_ixor hd ?_; have h := k hw hl; simp only [List.map_cons, ck_v, ck_xor, Int32.ofInt_toInt] at h ⊢; exact h
theorem cq_ishl (nx : Nat) (hp : pc + 1 = nx) {a b : Int} (hd : decode y.2.1 pc = .ok (.ishl, 1)) (k : cq_At X M y nx L (.inl (ck_shl a b) :: S) w) : cq_At X M y pc L (.inl b :: .inl a :: S) w := by
  intro hw hl
  subst hp; refine cmr_ishl hd ?_; have h := k hw hl; simp only [List.map_cons, ck_v, ck_shl, Int32.ofInt_toInt] at h ⊢; exact h
theorem cq_ishr (nx : Nat) (hp : pc + 1 = nx) {a b : Int} (hd : decode y.2.1 pc = .ok (.ishr, 1)) (k : cq_At X M y nx L (.inl (ck_shr a b) :: S) w) : cq_At X M y pc L (.inl b :: .inl a :: S) w := by
  intro hw hl
  subst hp; refine cmr_ishr hd ?_; have h := k hw hl; simp only [List.map_cons, ck_v, ck_shr, Int32.ofInt_toInt] at h ⊢; exact h
theorem cq_iushr (nx : Nat) (hp : pc + 1 = nx) {a b : Int} (hd : decode y.2.1 pc = .ok (.iushr, 1)) (k : cq_At X M y nx L (.inl (ck_ushr a b) :: S) w) : cq_At X M y pc L (.inl b :: .inl a :: S) w := by
  intro hw hl
  subst hp; refine cmr_iushr hd ?_; have h := k hw hl; simp only [List.map_cons, ck_v, ck_ushr, Int32.ofInt_toInt] at h ⊢; exact h
theorem cq_land (nx : Nat) (hp : pc + 1 = nx) {a b : Int} (hd : decode y.2.1 pc = .ok (.land, 1)) (k : cq_At X M y nx L (.inr (.inl (ck_Land a b)) :: S) w) : cq_At X M y pc L (.inr (.inl b) :: .inr (.inl a) :: S) w := by
  intro hw hl
  subst hp; refine cmr_land hd ?_; have h := k hw hl; simp only [List.map_cons, ck_v, ck_Land, Int64.ofInt_toInt] at h ⊢; exact h
theorem cq_lor (nx : Nat) (hp : pc + 1 = nx) {a b : Int} (hd : decode y.2.1 pc = .ok (.lor, 1)) (k : cq_At X M y nx L (.inr (.inl (ck_Lor a b)) :: S) w) : cq_At X M y pc L (.inr (.inl b) :: .inr (.inl a) :: S) w := by
  intro hw hl
  subst hp; refine cmr_lor hd ?_; have h := k hw hl; simp only [List.map_cons, ck_v, ck_Lor, Int64.ofInt_toInt] at h ⊢; exact h
theorem cq_lshl (nx : Nat) (hp : pc + 1 = nx) {a b : Int} (hd : decode y.2.1 pc = .ok (.lshl, 1)) (k : cq_At X M y nx L (.inr (.inl (ck_Lshl a b)) :: S) w) : cq_At X M y pc L (.inl b :: .inr (.inl a) :: S) w := by
  intro hw hl
  subst hp; refine cmr_lshl hd ?_; have h := k hw hl; simp only [List.map_cons, ck_v, ck_Lshl, Int64.ofInt_toInt] at h ⊢; exact h
theorem cq_idiv (nx : Nat) (hp : pc + 1 = nx) {a b : Int} (hd : decode y.2.1 pc = .ok (.idiv, 1)) (ha : ck_i a) (hb : ck_i b) (hz : ¬ b = 0) (k : cq_At X M y nx L (.inl (a.tdiv b) :: S) w) : cq_At X M y pc L (.inl b :: .inl a :: S) w := by
  intro hw hl
  subst hp; refine cmr_idiv hd (fun h => hz ((ck_eq32 hb ck_i0).mp h)) ?_; have h := k hw hl; simp only [List.map_cons, ck_v] at h ⊢; rw [ck_div32 ha hb]; exact h
theorem cq_irem (nx : Nat) (hp : pc + 1 = nx) {a b : Int} (hd : decode y.2.1 pc = .ok (.irem, 1)) (ha : ck_i a) (hb : ck_i b) (hz : ¬ b = 0) (k : cq_At X M y nx L (.inl (a.tmod b) :: S) w) : cq_At X M y pc L (.inl b :: .inl a :: S) w := by
  intro hw hl
  subst hp; refine cmr_irem hd (fun h => hz ((ck_eq32 hb ck_i0).mp h)) ?_; have h := k hw hl; simp only [List.map_cons, ck_v] at h ⊢; rw [ck_div32 ha hb, ← Int32.ofInt_mul, ← Int32.ofInt_sub, ck_rem]; exact h
theorem cq_ldiv (nx : Nat) (hp : pc + 1 = nx) {a b : Int} (hd : decode y.2.1 pc = .ok (.ldiv, 1)) (ha : ck_l a) (hb : ck_l b) (hz : ¬ b = 0) (k : cq_At X M y nx L (.inr (.inl (a.tdiv b)) :: S) w) : cq_At X M y pc L (.inr (.inl b) :: .inr (.inl a) :: S) w := by
  intro hw hl
  subst hp; refine cmr_ldiv hd (fun h => hz (by have h1 := congrArg Int64.toInt h; rw [ck_l64 hb] at h1; simpa using h1)) ?_; have h := k hw hl; simp only [List.map_cons, ck_v] at h ⊢; rw [ck_div64 ha hb]; exact h
theorem cq_lrem (nx : Nat) (hp : pc + 1 = nx) {a b : Int} (hd : decode y.2.1 pc = .ok (.lrem, 1)) (ha : ck_l a) (hb : ck_l b) (hz : ¬ b = 0) (k : cq_At X M y nx L (.inr (.inl (a.tmod b)) :: S) w) : cq_At X M y pc L (.inr (.inl b) :: .inr (.inl a) :: S) w := by
  intro hw hl
  subst hp; refine cmr_lrem hd (fun h => hz (by have h1 := congrArg Int64.toInt h; rw [ck_l64 hb] at h1; simpa using h1)) ?_; have h := k hw hl; simp only [List.map_cons, ck_v] at h ⊢; rw [ck_div64 ha hb, ← Int64.ofInt_mul, ← Int64.ofInt_sub, ck_rem]; exact h
theorem cq_ineg (nx : Nat) (hp : pc + 1 = nx) {a : Int} (hd : decode y.2.1 pc = .ok (.ineg, 1)) (k : cq_At X M y nx L (.inl (-a) :: S) w) : cq_At X M y pc L (.inl a :: S) w := by
  intro hw hl
  subst hp; refine cmr_ineg hd ?_; have h := k hw hl; simp only [List.map_cons, ck_v] at h ⊢; rw [← Int32.ofInt_neg]; exact h
theorem cq_lneg (nx : Nat) (hp : pc + 1 = nx) {a : Int} (hd : decode y.2.1 pc = .ok (.lneg, 1)) (k : cq_At X M y nx L (.inr (.inl (-a)) :: S) w) : cq_At X M y pc L (.inr (.inl a) :: S) w := by
  intro hw hl
  subst hp; refine cmr_lneg hd ?_; have h := k hw hl; simp only [List.map_cons, ck_v] at h ⊢; rw [← Int64.ofInt_neg]; exact h
theorem cq_i2l (nx : Nat) (hp : pc + 1 = nx) {a : Int} (hd : decode y.2.1 pc = .ok (.i2l, 1)) (ha : ck_i a) (k : cq_At X M y nx L (.inr (.inl a) :: S) w) : cq_At X M y pc L (.inl a :: S) w := by
  intro hw hl
  subst hp; refine cmr_i2l hd ?_; have h := k hw hl; simp only [List.map_cons, ck_v] at h ⊢; rw [ck_i2l_e ha]; exact h
theorem cq_l2i (nx : Nat) (hp : pc + 1 = nx) {a : Int} (hd : decode y.2.1 pc = .ok (.l2i, 1)) (k : cq_At X M y nx L (.inl a :: S) w) : cq_At X M y pc L (.inr (.inl a) :: S) w := by
  intro hw hl
  subst hp; refine cmr_l2i hd ?_; have h := k hw hl; simp only [List.map_cons, ck_v] at h ⊢; rw [ck_l2i_e]; exact h
theorem cq_i2cr (nx : Nat) (hp : pc + 1 = nx) {a : Int} (hd : decode y.2.1 pc = .ok (.i2c, 1)) (k : cq_At X M y nx L (.inl (ck_i2c a) :: S) w) : cq_At X M y pc L (.inl a :: S) w := by
  intro hw hl
  subst hp; refine cmr_i2c hd ?_; have h := k hw hl; simp only [List.map_cons, ck_v, ck_i2c, Int32.ofInt_toInt] at h ⊢; exact h
theorem cq_lcmp (nx : Nat) (hp : pc + 1 = nx) {a b : Int} (hd : decode y.2.1 pc = .ok (.lcmp, 1)) (ha : ck_l a) (hb : ck_l b) (k : cq_At X M y nx L (.inl (ck_cmp a b) :: S) w) : cq_At X M y pc L (.inr (.inl b) :: .inr (.inl a) :: S) w := by
  intro hw hl
  subst hp; refine cmr_lcmp hd ?_; have h := k hw hl; simp only [List.map_cons, ck_v] at h ⊢; rw [ck_cmp_of ha hb]; exact h
theorem cq_dup (nx : Nat) (hp : pc + 1 = nx) {v : ck_V} (hd : decode y.2.1 pc = .ok (.dup, 1)) (hv : ck_c1 v = true) (k : cq_At X M y nx L (v :: v :: S) w) : cq_At X M y pc L (v :: S) w := by
  intro hw hl
  subst hp; exact cmr_dup hd (ck_c1h hv) (k hw hl)
theorem cq_dup2 (nx : Nat) (hp : pc + 1 = nx) {v u : ck_V} (hd : decode y.2.1 pc = .ok (.dup2, 1)) (hv : ck_c1 v = true) (hu : ck_c1 u = true) (k : cq_At X M y nx L (v :: u :: v :: u :: S) w) : cq_At X M y pc L (v :: u :: S) w := by
  intro hw hl
  subst hp; exact cmr_dup2 hd (ck_c1h hv) (ck_c1h hu) (k hw hl)
theorem cq_pop (nx : Nat) (hp : pc + 1 = nx) {v : ck_V} (hd : decode y.2.1 pc = .ok (.pop, 1)) (hv : ck_c1 v = true) (k : cq_At X M y nx L S w) : cq_At X M y pc L (v :: S) w := by
  intro hw hl
  subst hp; exact cmr_pop hd (ck_c1h hv) (k hw hl)
theorem cq_goto {off : Int} (tgt : Nat) (hd : decode y.2.1 pc = .ok (.goto off, 3)) (ht : (pc : Int) + off = (tgt : Int)) (k : cq_At X M y tgt L S w) : cq_At X M y pc L S w := by
  intro hw hl
  exact cmr_goto tgt hd ht (k hw hl)
theorem cq_tswO {dflt lo hi : Int} {offs : Array Int} {len : Nat} {a : Int} (tgt : Nat) (hd : decode y.2.1 pc = .ok (.tableswitch dflt lo hi offs, len)) (ha : ck_i a) (h : a < lo ∨ hi < a) (ht : (pc : Int) + dflt = (tgt : Int)) (k : cq_At X M y tgt L S w) : cq_At X M y pc L (.inl a :: S) w := by
  intro hw hl
  exact cmr_tblOut tgt hd (by rw [ck_i32 ha]; exact h) ht (k hw hl)
theorem cq_tswI {dflt lo hi : Int} {offs : Array Int} {len : Nat} {a : Int} (c : Nat) (off : Int) (tgt : Nat) (hd : decode y.2.1 pc = .ok (.tableswitch dflt lo hi offs, len)) (ha : ck_i a) (h : a = lo + (c : Int)) (hh : lo + (c : Int) ≤ hi) (ho : offs[c]? = some off) (ht : (pc : Int) + off = (tgt : Int)) (k : cq_At X M y tgt L S w) : cq_At X M y pc L (.inl a :: S) w := by
  intro hw hl
  exact cmr_tblIn tgt hd (by rw [ck_i32 ha]; omega) (by rw [ck_i32 ha]; omega) (by rw [ck_i32 ha, h, show (lo + (c : Int) - lo).toNat = c from by omega]; exact ho) ht (k hw hl)
theorem cq_icmp_eq (nx : Nat) (hp : pc + 3 = nx) {a z off : Int} (tgt : Nat) (hd : decode y.2.1 pc = .ok (.if_icmp .eq off, 3)) (ht : (pc : Int) + off = (tgt : Int)) (ha : ck_i a) (hz : ck_i z) (kt : a = z → cq_At X M y tgt L S w) (kf : ¬ a = z → cq_At X M y nx L S w) : cq_At X M y pc L (.inl z :: .inl a :: S) w := by
  intro hw hl
  subst hp; exact cmr_icmp_eq tgt hd ht (fun h => kt ((ck_eq32 ha hz).mp h) hw hl) (fun h => kf (fun q => h ((ck_eq32 ha hz).mpr q)) hw hl)
theorem cq_if_eq (nx : Nat) (hp : pc + 3 = nx) {a off : Int} (tgt : Nat) (hd : decode y.2.1 pc = .ok (.ifCond .eq off, 3)) (ht : (pc : Int) + off = (tgt : Int)) (ha : ck_i a) (kt : a = 0 → cq_At X M y tgt L S w) (kf : ¬ a = 0 → cq_At X M y nx L S w) : cq_At X M y pc L (.inl a :: S) w := by
  intro hw hl
  subst hp; exact cmr_if_eq tgt hd ht (fun h => kt ((ck_eq32 ha ck_i0).mp h) hw hl) (fun h => kf (fun q => h ((ck_eq32 ha ck_i0).mpr q)) hw hl)
theorem cq_icmp_ne (nx : Nat) (hp : pc + 3 = nx) {a z off : Int} (tgt : Nat) (hd : decode y.2.1 pc = .ok (.if_icmp .ne off, 3)) (ht : (pc : Int) + off = (tgt : Int)) (ha : ck_i a) (hz : ck_i z) (kt : ¬ a = z → cq_At X M y tgt L S w) (kf : a = z → cq_At X M y nx L S w) : cq_At X M y pc L (.inl z :: .inl a :: S) w := by
  intro hw hl
  subst hp; exact cmr_icmp_ne tgt hd ht (fun h => kt (fun q => h ((ck_eq32 ha hz).mpr q)) hw hl) (fun h => kf ((ck_eq32 ha hz).mp h) hw hl)
theorem cq_if_ne (nx : Nat) (hp : pc + 3 = nx) {a off : Int} (tgt : Nat) (hd : decode y.2.1 pc = .ok (.ifCond .ne off, 3)) (ht : (pc : Int) + off = (tgt : Int)) (ha : ck_i a) (kt : ¬ a = 0 → cq_At X M y tgt L S w) (kf : a = 0 → cq_At X M y nx L S w) : cq_At X M y pc L (.inl a :: S) w := by
  intro hw hl
  subst hp; exact cmr_if_ne tgt hd ht (fun h => kt (fun q => h ((ck_eq32 ha ck_i0).mpr q)) hw hl) (fun h => kf ((ck_eq32 ha ck_i0).mp h) hw hl)
theorem cq_icmp_lt (nx : Nat) (hp : pc + 3 = nx) {a z off : Int} (tgt : Nat) (hd : decode y.2.1 pc = .ok (.if_icmp .lt off, 3)) (ht : (pc : Int) + off = (tgt : Int)) (ha : ck_i a) (hz : ck_i z) (kt : a < z → cq_At X M y tgt L S w) (kf : ¬ a < z → cq_At X M y nx L S w) : cq_At X M y pc L (.inl z :: .inl a :: S) w := by
  intro hw hl
  subst hp; exact cmr_icmp_lt tgt hd ht (fun h => kt ((ck_lt32 ha hz).mp h) hw hl) (fun h => kf (fun q => h ((ck_lt32 ha hz).mpr q)) hw hl)
theorem cq_if_lt (nx : Nat) (hp : pc + 3 = nx) {a off : Int} (tgt : Nat) (hd : decode y.2.1 pc = .ok (.ifCond .lt off, 3)) (ht : (pc : Int) + off = (tgt : Int)) (ha : ck_i a) (kt : a < 0 → cq_At X M y tgt L S w) (kf : ¬ a < 0 → cq_At X M y nx L S w) : cq_At X M y pc L (.inl a :: S) w := by
  intro hw hl
  subst hp; exact cmr_if_lt tgt hd ht (fun h => kt ((ck_lt32 ha ck_i0).mp h) hw hl) (fun h => kf (fun q => h ((ck_lt32 ha ck_i0).mpr q)) hw hl)
theorem cq_icmp_ge (nx : Nat) (hp : pc + 3 = nx) {a z off : Int} (tgt : Nat) (hd : decode y.2.1 pc = .ok (.if_icmp .ge off, 3)) (ht : (pc : Int) + off = (tgt : Int)) (ha : ck_i a) (hz : ck_i z) (kt : z ≤ a → cq_At X M y tgt L S w) (kf : ¬ z ≤ a → cq_At X M y nx L S w) : cq_At X M y pc L (.inl z :: .inl a :: S) w := by
  intro hw hl
  subst hp; exact cmr_icmp_ge tgt hd ht (fun h => kt ((ck_le32 hz ha).mp h) hw hl) (fun h => kf (fun q => h ((ck_le32 hz ha).mpr q)) hw hl)
theorem cq_if_ge (nx : Nat) (hp : pc + 3 = nx) {a off : Int} (tgt : Nat) (hd : decode y.2.1 pc = .ok (.ifCond .ge off, 3)) (ht : (pc : Int) + off = (tgt : Int)) (ha : ck_i a) (kt : 0 ≤ a → cq_At X M y tgt L S w) (kf : ¬ 0 ≤ a → cq_At X M y nx L S w) : cq_At X M y pc L (.inl a :: S) w := by
  intro hw hl
  subst hp; exact cmr_if_ge tgt hd ht (fun h => kt ((ck_le32 ck_i0 ha).mp h) hw hl) (fun h => kf (fun q => h ((ck_le32 ck_i0 ha).mpr q)) hw hl)
theorem cq_icmp_gt (nx : Nat) (hp : pc + 3 = nx) {a z off : Int} (tgt : Nat) (hd : decode y.2.1 pc = .ok (.if_icmp .gt off, 3)) (ht : (pc : Int) + off = (tgt : Int)) (ha : ck_i a) (hz : ck_i z) (kt : z < a → cq_At X M y tgt L S w) (kf : ¬ z < a → cq_At X M y nx L S w) : cq_At X M y pc L (.inl z :: .inl a :: S) w := by
  intro hw hl
  subst hp; exact cmr_icmp_gt tgt hd ht (fun h => kt ((ck_lt32 hz ha).mp h) hw hl) (fun h => kf (fun q => h ((ck_lt32 hz ha).mpr q)) hw hl)
theorem cq_if_gt (nx : Nat) (hp : pc + 3 = nx) {a off : Int} (tgt : Nat) (hd : decode y.2.1 pc = .ok (.ifCond .gt off, 3)) (ht : (pc : Int) + off = (tgt : Int)) (ha : ck_i a) (kt : 0 < a → cq_At X M y tgt L S w) (kf : ¬ 0 < a → cq_At X M y nx L S w) : cq_At X M y pc L (.inl a :: S) w := by
  intro hw hl
  subst hp; exact cmr_if_gt tgt hd ht (fun h => kt ((ck_lt32 ck_i0 ha).mp h) hw hl) (fun h => kf (fun q => h ((ck_lt32 ck_i0 ha).mpr q)) hw hl)
theorem cq_icmp_le (nx : Nat) (hp : pc + 3 = nx) {a z off : Int} (tgt : Nat) (hd : decode y.2.1 pc = .ok (.if_icmp .le off, 3)) (ht : (pc : Int) + off = (tgt : Int)) (ha : ck_i a) (hz : ck_i z) (kt : a ≤ z → cq_At X M y tgt L S w) (kf : ¬ a ≤ z → cq_At X M y nx L S w) : cq_At X M y pc L (.inl z :: .inl a :: S) w := by
  intro hw hl
  subst hp; exact cmr_icmp_le tgt hd ht (fun h => kt ((ck_le32 ha hz).mp h) hw hl) (fun h => kf (fun q => h ((ck_le32 ha hz).mpr q)) hw hl)
theorem cq_if_le (nx : Nat) (hp : pc + 3 = nx) {a off : Int} (tgt : Nat) (hd : decode y.2.1 pc = .ok (.ifCond .le off, 3)) (ht : (pc : Int) + off = (tgt : Int)) (ha : ck_i a) (kt : a ≤ 0 → cq_At X M y tgt L S w) (kf : ¬ a ≤ 0 → cq_At X M y nx L S w) : cq_At X M y pc L (.inl a :: S) w := by
  intro hw hl
  subst hp; exact cmr_if_le tgt hd ht (fun h => kt ((ck_le32 ha ck_i0).mp h) hw hl) (fun h => kf (fun q => h ((ck_le32 ha ck_i0).mpr q)) hw hl)
theorem cq_iald (nx : Nat) (hp : pc + 1 = nx) {k n : Nat} {i : Int} (hd : decode y.2.1 pc = .ok (.iaload, 1)) (hs : X.2.2.2.2.2[k]? = some (.inl (.int, n))) (hn : n < 2147483648) (hin : 0 ≤ i ∧ i < (n : Int)) (v : Int) (hv : w k i = v) (kk : ck_i v → cq_At X M y nx L (.inl v :: S) w) : cq_At X M y pc L (.inl i :: .inr (.inr k) :: S) w := by
  intro hw hl
  subst hp; subst hv; refine cmr_iald hd hs (ck_ix hin hn) ?_; have h := kk (ck_ld hs (by decide) hw) hw hl; rw [ck_ixe hin hn]; simp only [List.map_cons, ck_v, ck_w, ck_tn hin.1] at h ⊢; exact h
theorem cq_zald (nx : Nat) (hp : pc + 1 = nx) {k n : Nat} {i : Int} (hd : decode y.2.1 pc = .ok (.baload, 1)) (hs : X.2.2.2.2.2[k]? = some (.inl (.boolean, n))) (hn : n < 2147483648) (hin : 0 ≤ i ∧ i < (n : Int)) (v : Int) (hv : w k i = v) (kk : ck_i v → cq_At X M y nx L (.inl v :: S) w) : cq_At X M y pc L (.inl i :: .inr (.inr k) :: S) w := by
  intro hw hl
  subst hp; subst hv; refine cmr_zald hd hs (ck_ix hin hn) ?_; have h := kk (ck_ld hs (by decide) hw) hw hl; rw [ck_ixe hin hn]; simp only [List.map_cons, ck_v, ck_w, ck_tn hin.1] at h ⊢; exact h
theorem cq_lald (nx : Nat) (hp : pc + 1 = nx) {k n : Nat} {i : Int} (hd : decode y.2.1 pc = .ok (.laload, 1)) (hs : X.2.2.2.2.2[k]? = some (.inl (.long, n))) (hn : n < 2147483648) (hin : 0 ≤ i ∧ i < (n : Int)) (v : Int) (hv : w k i = v) (kk : ck_l v → cq_At X M y nx L (.inr (.inl v) :: S) w) : cq_At X M y pc L (.inl i :: .inr (.inr k) :: S) w := by
  intro hw hl
  subst hp; subst hv; refine cmr_lald hd hs (ck_ix hin hn) ?_; have h := kk (ck_ldl hs hw) hw hl; rw [ck_ixe hin hn]; simp only [List.map_cons, ck_v, ck_w, ck_tn hin.1] at h ⊢; exact h
theorem cq_iast (nx : Nat) (hp : pc + 1 = nx) {k n : Nat} {i v : Int} (hd : decode y.2.1 pc = .ok (.iastore, 1)) (hs : X.2.2.2.2.2[k]? = some (.inl (.int, n))) (hn : n < 2147483648) (hin : 0 ≤ i ∧ i < (n : Int)) (hv : ck_i v) (kk : cq_At X M y nx L S (ck_up w k i v)) : cq_At X M y pc L (.inl v :: .inl i :: .inr (.inr k) :: S) w := by
  intro hw hl
  subst hp; refine cmr_iast hd hs (ck_ix hin hn) (cq_tr ?_ (kk (ck_ok_up hw (fun h => absurd h (by rw [ck_lgA hs (by decide)]; decide)) (fun _ => hv)) hl)); rw [ck_ixe hin hn]; exact ck_ws_ai hs (by decide) hin.1
theorem cq_zast (nx : Nat) (hp : pc + 1 = nx) {k n : Nat} {i v : Int} (hd : decode y.2.1 pc = .ok (.bastore, 1)) (hs : X.2.2.2.2.2[k]? = some (.inl (.boolean, n))) (hn : n < 2147483648) (hin : 0 ≤ i ∧ i < (n : Int)) (hv : v = 0 ∨ v = 1) (kk : cq_At X M y nx L S (ck_up w k i v)) : cq_At X M y pc L (.inl v :: .inl i :: .inr (.inr k) :: S) w := by
  intro hw hl
  subst hp; refine cmr_zast hd hs (ck_ix hin hn) (by rcases hv with h | h <;> subst h <;> rfl) (cq_tr ?_ (kk (ck_ok_up hw (fun h => absurd h (by rw [ck_lgA hs (by decide)]; decide)) (fun _ => by constructor <;> omega)) hl)); rw [ck_ixe hin hn]; exact ck_ws_ai hs (by decide) hin.1
theorem cq_last (nx : Nat) (hp : pc + 1 = nx) {k n : Nat} {i v : Int} (hd : decode y.2.1 pc = .ok (.lastore, 1)) (hs : X.2.2.2.2.2[k]? = some (.inl (.long, n))) (hn : n < 2147483648) (hin : 0 ≤ i ∧ i < (n : Int)) (hv : ck_l v) (kk : cq_At X M y nx L S (ck_up w k i v)) : cq_At X M y pc L (.inr (.inl v) :: .inl i :: .inr (.inr k) :: S) w := by
  intro hw hl
  subst hp; refine cmr_last hd hs (ck_ix hin hn) (cq_tr ?_ (kk (ck_ok_up hw (fun _ => hv) (fun h => absurd h (by rw [ck_lgL hs]; decide))) hl)); rw [ck_ixe hin hn]; exact ck_ws_al hs hin.1
theorem cq_alen (nx : Nat) (hp : pc + 1 = nx) {k n : Nat} {ty : FieldType} (t0 : Nat) (e : Int) (hd : decode y.2.1 pc = .ok (.arraylength, 1)) (hs : X.2.2.2.2.2[k]? = some (.inl (ty, n))) (ht : (ch_Tys X)[t0]? = some (X.2.2.1 ty, ty)) (he : (n : Int) = e) (kk : cq_At X M y nx L (.inl e :: S) w) : cq_At X M y pc L (.inr (.inr k) :: S) w := by
  intro hw hl
  subst hp; exact cmr_alen t0 _ hd hs ht (ck_nat e he) (kk hw hl)
theorem cq_geti (nx : Nat) (hp : pc + 3 = nx) {k ci j index : Nat} {fs : List ch_F} (jj : Int) (hd : decode y.2.1 pc = .ok (.getfield index, 3)) (hl0 : ch_FL y.1.cls index ci j) (hs : X.2.2.2.2.2[k]? = some (.inr (ci, fs))) (hf : fs[j]? = some (.inl ())) (hj : (j : Int) = jj) (v : Int) (hv : w k jj = v) (kk : ck_i v → cq_At X M y nx L (.inl v :: S) w) : cq_At X M y pc L (.inr (.inr k) :: S) w := by
  intro hw hl
  subst hp; subst hv; subst hj; exact cmr_get _ hd hl0 hs hf rfl (kk ((hw k j).2 (ck_lgF hs hf)) hw hl)
theorem cq_getl (nx : Nat) (hp : pc + 3 = nx) {k ci j index : Nat} {fs : List ch_F} (jj : Int) (hd : decode y.2.1 pc = .ok (.getfield index, 3)) (hl0 : ch_FL y.1.cls index ci j) (hs : X.2.2.2.2.2[k]? = some (.inr (ci, fs))) (hf : fs[j]? = some (.inr (.inl ()))) (hj : (j : Int) = jj) (v : Int) (hv : w k jj = v) (kk : ck_l v → cq_At X M y nx L (.inr (.inl v) :: S) w) : cq_At X M y pc L (.inr (.inr k) :: S) w := by
  intro hw hl
  subst hp; subst hv; subst hj; exact cmr_get _ hd hl0 hs hf rfl (kk ((hw k j).1 (ck_lgG hs hf)) hw hl)
theorem cq_getr (nx : Nat) (hp : pc + 3 = nx) {k ci j index q : Nat} {fs : List ch_F} (hd : decode y.2.1 pc = .ok (.getfield index, 3)) (hl0 : ch_FL y.1.cls index ci j) (hs : X.2.2.2.2.2[k]? = some (.inr (ci, fs))) (hf : fs[j]? = some (.inr (.inr q))) (kk : cq_At X M y nx L (.inr (.inr q) :: S) w) : cq_At X M y pc L (.inr (.inr k) :: S) w := by
  intro hw hl
  subst hp; exact cmr_get _ hd hl0 hs hf rfl (kk hw hl)
theorem cq_puti (nx : Nat) (hp : pc + 3 = nx) {k ci j index : Nat} {fs : List ch_F} {v : Int} (jj : Int) (hd : decode y.2.1 pc = .ok (.putfield index, 3)) (hl0 : ch_FP y.1.cls index ci j .int) (hs : X.2.2.2.2.2[k]? = some (.inr (ci, fs))) (hf : fs[j]? = some (.inl ())) (hj : (j : Int) = jj) (hv : ck_i v) (kk : cq_At X M y nx L S (ck_up w k jj v)) : cq_At X M y pc L (.inl v :: .inr (.inr k) :: S) w := by
  intro hw hl
  subst hp; subst hj; exact cmr_puti .int hd hl0 hs hf rfl rfl (cq_tr (ck_ws_fi hs hf) (kk (ck_ok_up hw (fun h => absurd h (by rw [ck_lgF hs hf]; decide)) (fun _ => hv)) hl))
theorem cq_putz (nx : Nat) (hp : pc + 3 = nx) {k ci j index : Nat} {fs : List ch_F} {v : Int} (jj : Int) (hd : decode y.2.1 pc = .ok (.putfield index, 3)) (hl0 : ch_FP y.1.cls index ci j .boolean) (hs : X.2.2.2.2.2[k]? = some (.inr (ci, fs))) (hf : fs[j]? = some (.inl ())) (hj : (j : Int) = jj) (hv : v = 0 ∨ v = 1) (kk : cq_At X M y nx L S (ck_up w k jj v)) : cq_At X M y pc L (.inl v :: .inr (.inr k) :: S) w := by
  intro hw hl
  subst hp; subst hj; exact cmr_puti .boolean hd hl0 hs hf (by rcases hv with h | h <;> subst h <;> rfl) (by rcases hv with h | h <;> subst h <;> rfl) (cq_tr (ck_ws_fi hs hf) (kk (ck_ok_up hw (fun h => absurd h (by rw [ck_lgF hs hf]; decide)) (fun _ => by constructor <;> omega)) hl))
theorem cq_putl (nx : Nat) (hp : pc + 3 = nx) {k ci j index : Nat} {fs : List ch_F} {v : Int} (jj : Int) (hd : decode y.2.1 pc = .ok (.putfield index, 3)) (hl0 : ch_FP y.1.cls index ci j .long) (hs : X.2.2.2.2.2[k]? = some (.inr (ci, fs))) (hf : fs[j]? = some (.inr (.inl ()))) (hj : (j : Int) = jj) (hv : ck_l v) (kk : cq_At X M y nx L S (ck_up w k jj v)) : cq_At X M y pc L (.inr (.inl v) :: .inr (.inr k) :: S) w := by
  intro hw hl
  subst hp; subst hj; exact cmr_putl hd hl0 hs hf (cq_tr (ck_ws_fl hs hf) (kk (ck_ok_up hw (fun _ => hv) (fun h => absurd h (by rw [ck_lgG hs hf]; decide))) hl))
end CQR
