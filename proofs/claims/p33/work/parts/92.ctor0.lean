/-! ===== constructors: walks over a world that grows ===== -/
def cn_f (X : ch_X) : Nat → Prop := fun q => X.2.2.2.2.1.size ≤ q
/-- the texts and statics, none of them among the cells that come -/
def cn_St (X : ch_X) (U : State) : Prop := (vk_R "CharredRoll$Script" 100 ch_tx0 (X.2.2.2.1 97) U ∧ vk_R "CharredRoll$Script" 120 ch_tx1 (X.2.2.2.1 98) U) ∧ vk_S 2 ch_sl ch_sb (fun i => X.2.2.2.1 (97 + i)) (fun i => X.2.2.2.1 (99 + i)) (cn_f X) U U.heap ∧ va_Z "java/lang/String" "COMPACT_STRINGS" "Z" (.int 1) (cn_f X) U U.heap ∧ (va_Z "jdk/internal/util/Preconditions" "SIOOBE_FORMATTER" "Ljava/util/function/BiFunction;" .null (cn_f X) U U.heap ∨ va_Z "jdk/internal/util/Preconditions" "SIOOBE_FORMATTER" "Ljava/util/function/BiFunction;" (.ref (X.2.2.2.1 101)) (cn_f X) U U.heap)
theorem cn_St.warm {X : ch_X} {s U : State} (h : cn_St X s) (hW : s.WarmedH U.vm) (hS : ∀ q : Nat, q < s.heap.size → ¬ cn_f X q → U.heap[q]? = s.heap[q]?) : cn_St X U := by
  obtain ⟨⟨h1, h2⟩, h3, h4, h5⟩ := h
  refine ⟨⟨h1.warm hW, h2.warm hW⟩, vk_S.moved hW.alike (h3.kept hS), va_Z.moved hW.alike (h4.kept hS), ?_⟩
  rcases h5 with h | h
  · exact Or.inl (va_Z.moved hW.alike (h.kept hS))
  · exact Or.inr (va_Z.moved hW.alike (h.kept hS))
theorem cn_St.same {X : ch_X} {s U : State} (h : cn_St X s) (hv : s.vm = U.vm) (hU : U.heap = s.heap) : cn_St X U := by
  obtain ⟨⟨h1, h2⟩, h3, h4, h5⟩ := h
  have hm : s.vm.Alike U.vm := by rw [hv]; exact Vm.Alike.refl U.vm
  unfold cn_St
  rw [hU]
  refine ⟨⟨h1.same hv.symm, h2.same hv.symm⟩, vk_S.moved hm h3, va_Z.moved hm h4, ?_⟩
  rcases h5 with h | h
  · exact Or.inl (va_Z.moved hm h)
  · exact Or.inr (va_Z.moved hm h)
def cn_NS (X : ch_X) (U : State) : Prop := ch_Nw U ∧ cn_St X U
def cn_R (d C S : Nat) : Room := { frames := d, cells := C, slots := S, locals := 40 * d }
def cn_Pc (X : ch_X) (args : List Value) (sz : Nat) (ws : va_W) : Array Value → State → Prop := fun v U => v = args.toArray ∧ U.heap.size = sz ∧ va_P X.2.1 vwCl ws U.heap ∧ va_D (cn_f X) ws ∧ ch_B X U.heap ∧ ch_K X U ∧ cn_NS X U
def cn_Qc (X : ch_X) (sz : Nat) (ws : va_W) (K : va_W → Prop) : Array Value → State → Outcome → State → Prop := fun _ st oc t => (∃ ws', oc = .returned none ∧ K ws' ∧ va_P X.2.1 vwCl ws' t.heap ∧ va_D (va_A ws sz) ws') ∧ va_F (va_A ws sz) st t
/-- the constructor y, called on the objects ws, comes back with objects of which K holds; C cells and S slots at most come to the heap -/
def cn_Ex (X : ch_X) (d C S : Nat) (y : ch_M) (args : List Value) (ws : va_W) (K : va_W → Prop) : Prop :=
  ∀ sz, Met X.1 y.1 (ch_wd y) (cn_R d C S) (cn_Pc X args sz ws) (cn_Qc X sz ws K) C S (va_A ws sz)
def cn_E (X : ch_X) (y : ch_M) (ws0 : va_W) (p : Program) (s : State) (m : MethodId) (args : Array Value) (meth : Method) (c : Code) : Prop :=
  p.tables.exec = Jvm.exec ∧ c.code = y.2.1 ∧ meth.sig.returnType = y.2.2.2 ∧ c.maxLocals = y.2.2.1 ∧ (∀ w ∈ ch_T, w.before args s = true) ∧ s.vm.findClass y.1.cls = some m.cls ∧ meth.locks = false ∧ meth.name = y.1.name ∧ ch_K X s ∧ ch_B X s.heap ∧ cn_NS X s ∧ va_D (cn_f X) ws0
def cn_At (X : ch_X) (d C S : Nat) (y : ch_M) (ws0 : va_W) (K : va_W → Prop) (pc : Nat) (L : List (Nat × Value)) (St : List Value) (cells slots : Nat) (ws : va_W) : Prop :=
  ∀ (p : Program) (e : Env) (s : State) (m : MethodId) (args : Array Value) (below : List Frame) (meth : Method) (c : Code), cn_E X y ws0 p s m args meth c →
  ∀ (H : Heap) (locs : List Loc) (ls : Array Slot), va_P X.2.1 vwCl ws H → va_D (va_A ws0 s.heap.size) ws → va_S (va_A ws0 s.heap.size) s.heap H locs → lv_has ls y.2.2.1 L →
  W p X.1 e (cn_R d C S) s m args below meth c H locs cells slots (MQ below (cn_Qc X s.heap.size ws0 K) args s C S (va_A ws0 s.heap.size)) (F0 m pc ls St)
theorem cn_entry {X : ch_X} {d C S : Nat} {y : ch_M} {args : List Value} {ws : va_W} {K : va_W → Prop} (L : List (Nat × Value)) (hy : plainName y.1.cls = true) (hn : (lg_sl args).length ≤ y.2.2.1) (hL : L = lv_args 0 args) (k : cn_At X d C S y ws K 0 L [] 0 0 ws) : cn_Ex X d C S y args ws K := by
  intro sz
  refine Met.ofW (cc := y.2.1) (maxL := y.2.2.1) (ret := y.2.2.2) (ws' := ch_T) hy rfl ?_
  intro p e s m args' below meth c s₁ B hml hv
  obtain ⟨rfl, rfl, hP, hD, hB, hK, hN⟩ := hv
  have hts := atoms_spec (ws := ch_wd y) B.pre
  have hown : s.vm.findClass y.1.cls = some m.cls := findClass_of_methodNamed B.named
  have hl := lv_entry args (n := y.2.2.1) hn
  rw [lg_entry_eq]
  generalize (lg_sl args ++ List.replicate (y.2.2.1 - (lg_sl args).length) Slot.unset).toArray = ls at hl ⊢
  rw [← hL] at hl
  exact k p e s m _ below meth c ⟨B.exec, B.bytes, B.returns, hml, fun w h => hts w (List.mem_cons_of_mem _ h), hown, B.notSynchronized, (name_of_methodNamed B.named B.method).1, hK, hB, hN, hD⟩ s.heap [] ls hP hD.self va_S.rf hl
section CNR
variable {X : ch_X} {d C S : Nat} {y : ch_M} {ws0 : va_W} {K : va_W → Prop} {pc : Nat} {L : List (Nat × Value)} {St : List Value} {cells slots : Nat} {ws : va_W}
theorem cn_iconst {n : Int} (v : Int32) (hd : decode y.2.1 pc = .ok (.iconst n, 1)) (hv : Int32.ofInt n = v) (k : cn_At X d C S y ws0 K (pc + 1) L (.int v :: St) cells slots ws) : cn_At X d C S y ws0 K pc L St cells slots ws := by
  intro p e s m args below meth c E H locs ls hP hD hS hl
  exact lv_iconst E.1 E.2.1 hd hv (k p e s m args below meth c E H locs ls hP hD hS hl)
theorem cn_bipush {n : Int} (v : Int32) (hd : decode y.2.1 pc = .ok (.bipush n, 2)) (hv : (Int8.ofInt n).toInt32 = v) (k : cn_At X d C S y ws0 K (pc + 2) L (.int v :: St) cells slots ws) : cn_At X d C S y ws0 K pc L St cells slots ws := by
  intro p e s m args below meth c E H locs ls hP hD hS hl
  exact lv_bipush E.1 E.2.1 hd hv (k p e s m args below meth c E H locs ls hP hD hS hl)
theorem cn_sipush {n : Int} (v : Int32) (hd : decode y.2.1 pc = .ok (.sipush n, 3)) (hv : (Int16.ofInt n).toInt32 = v) (k : cn_At X d C S y ws0 K (pc + 3) L (.int v :: St) cells slots ws) : cn_At X d C S y ws0 K pc L St cells slots ws := by
  intro p e s m args below meth c E H locs ls hP hD hS hl
  exact lv_sipush E.1 E.2.1 hd hv (k p e s m args below meth c E H locs ls hP hD hS hl)
theorem cn_aload_n {q : Fin 4} {x : Nat} (i j : Nat) (hd : decode y.2.1 pc = .ok (.aload_n q, 1)) (hi : (q : Nat) = i) (hL : L[j]? = some (i, .ref x)) (k : cn_At X d C S y ws0 K (pc + 1) L (.ref x :: St) cells slots ws) : cn_At X d C S y ws0 K pc L St cells slots ws := by
  intro p e s m args below meth c E H locs ls hP hD hS hl
  exact lv_aload_n E.1 E.2.1 hd hi (lv_at hl j hL) (k p e s m args below meth c E H locs ls hP hD hS hl)
theorem cn_iload_n {q : Fin 4} {x : Int32} (i j : Nat) (hd : decode y.2.1 pc = .ok (.iload_n q, 1)) (hi : (q : Nat) = i) (hL : L[j]? = some (i, .int x)) (k : cn_At X d C S y ws0 K (pc + 1) L (.int x :: St) cells slots ws) : cn_At X d C S y ws0 K pc L St cells slots ws := by
  intro p e s m args below meth c E H locs ls hP hD hS hl
  exact lv_iload_n E.1 E.2.1 hd hi (lv_at hl j hL) (k p e s m args below meth c E H locs ls hP hD hS hl)
theorem cn_dup {x : Nat} (hd : decode y.2.1 pc = .ok (.dup, 1)) (k : cn_At X d C S y ws0 K (pc + 1) L (.ref x :: .ref x :: St) cells slots ws) : cn_At X d C S y ws0 K pc L (.ref x :: St) cells slots ws := by
  intro p e s m args below meth c E H locs ls hP hD hS hl
  exact lv_dup E.1 E.2.1 hd rfl (k p e s m args below meth c E H locs ls hP hD hS hl)
theorem cn_newI {v : Int32} (N : Nat) {ws' : Nat → va_W} (hd : decode y.2.1 pc = .ok (.newarray .int, 2)) (hT : Cond.arrayClass .int ∈ ch_T) (hn : ¬ v < 0) (hN : v.toNatClampNeg = N) (hb4 : N * 4 ≤ 536870912) (hc : cells + 1 ≤ C) (hs : slots + N ≤ S) (hw : ∀ q, ws ++ [(q, .inl (X.2.2.1 .int, N, .inl (fun _ => 0)))] = ws' q)
    (k : ∀ q, cn_At X d C S y ws0 K (pc + 2) L (.ref q :: St) (cells + 1) (slots + N) (ws' q)) : cn_At X d C S y ws0 K pc L (.int v :: St) cells slots ws := by
  intro p e s m args below meth c E H locs ls hP hD hS hl
  obtain ⟨hx, hb, hr, hml, hts, hown, hlocks, hnm, hK, hB, hN', hD0⟩ := id E
  refine va_newa (atype := .int) (a0 := (N, .inl (fun _ => 0))) hx hb (hts _ hT) rfl hK hP hD hS (fun q h => Or.inr h) (fun cA => rfl) hn hN hb4 hc hs hd (fun q cA H1 hK1 hP1 hD1 hS1 => ?_)
  have e1 : cA = X.2.2.1 .int := by
    have a := (hK1.2 3 (cA, .int) rfl).2
    have b := (hK.2 0 (X.2.2.1 .int, .int) rfl).2
    exact Option.some.inj ((va_nm_int a).symm.trans (va_nm_int b))
  subst e1
  rw [hw] at hP1 hD1
  exact k q p e s m args below meth c E H1 locs ls hP1 hD1 hS1 hl
theorem cn_ret (hd : decode y.2.1 pc = .ok (.return_, 1)) (hr0 : y.2.2.2 = none) (hc : cells ≤ C) (hs : slots ≤ S) (hK0 : K ws) : cn_At X d C S y ws0 K pc L [] cells slots ws := by
  intro p e s m args below meth c E H locs ls hP hD hS hl
  obtain ⟨hx, hb, hr, hml, hts, hown, hlocks, hnm, hK, hB, hN', hD0⟩ := id E
  refine W.widen (k := C) (n := S) hc hs ?_
  exact W.vret hx hb (hr.trans hr0) (fun t ht hW => ⟨⟨ws, rfl, hK0, by rw [ht]; exact hP, hD⟩, hS.F ht⟩) hS.2.2 hd hlocks
/-- a field of one's own, by its name in the pool -/
def cn_FQ (own : String) (index ci j : Nat) (ty : FieldType) (fin : Bool) : Prop := ∃ (C : String) (T : u_T) (N : Nat), vwCl[ci]? = some (C, T, N) ∧ j < N ∧ Cond.fieldLink own index (T j).1 (T j).2.1 (T j).2.2.1 ∈ ch_T ∧ (∀ w ∈ u_ws C T N, w ∈ ch_T) ∧ (T j).2.2.2 = fin ∧ (T j).1 = own ∧ parseFieldDescriptor (T j).2.2.1 = some ty ∧ (∃ ty0 : Nat → FieldType, ∀ k, k < N → parseFieldDescriptor (T k).2.2.1 = some (ty0 k)) ∧ ∀ a, a < N → ∀ b, b < N → a ≠ b → (T a).2.1 ≠ (T b).2.1
theorem cn_putF {b ci j index : Nat} {fs : List Value} {v : Value} {ty : FieldType} {ws' : va_W} (i : Nat) (hd : decode y.2.1 pc = .ok (.putfield index, 3)) (hq : cn_FQ y.1.cls index ci j ty true) (hin : y.1.name = "<init>") (he : ws[i]? = some (b, .inr (ci, fs))) (hn : narrow ty v = v) (hf : fits ty v = true) (hl0 : j < fs.length) (hw : ws.set i (b, .inr (ci, fs.set j v)) = ws') (k : cn_At X d C S y ws0 K (pc + 3) L St cells slots ws') : cn_At X d C S y ws0 K pc L (v :: .ref b :: St) cells slots ws := by
  intro p e s m args below meth c E H locs ls hP hD hS hl
  obtain ⟨hx, hb, hr, hml, hts, hown, hlocks, hnm, hK, hB, hN', hD0⟩ := id E
  obtain ⟨C1, T, N, hc, hj, hlk, hin1, hfin, hdecl, hdd, ⟨ty0, hty⟩, hnm1⟩ := hq
  refine va_putF (D := X.2.1) (cl := vwCl) (ci := ci) (v := v) (ty := ty) (C := C1) (T := T) (N := N) hx hb hts hin1 ty0 hty hnm1 hown hK hP hD hS i he hc j hj (hts _ hlk) (fun _ h9 => h9) hfin (hnm.trans hin) hdecl hdd hn hf hl0 hd (fun H1 locs1 hP1 hD1 hS1 => ?_)
  rw [hw] at hP1 hD1
  exact k p e s m args below meth c E H1 locs1 ls hP1 hD1 hS1 hl
theorem cn_put {b ci j index : Nat} {fs : List Value} {v : Value} {ty : FieldType} {ws' : va_W} (i : Nat) (hd : decode y.2.1 pc = .ok (.putfield index, 3)) (hq : cn_FQ y.1.cls index ci j ty false) (he : ws[i]? = some (b, .inr (ci, fs))) (hn : narrow ty v = v) (hf : fits ty v = true) (hl0 : j < fs.length) (hw : ws.set i (b, .inr (ci, fs.set j v)) = ws') (k : cn_At X d C S y ws0 K (pc + 3) L St cells slots ws') : cn_At X d C S y ws0 K pc L (v :: .ref b :: St) cells slots ws := by
  intro p e s m args below meth c E H locs ls hP hD hS hl
  obtain ⟨hx, hb, hr, hml, hts, hown, hlocks, hnm, hK, hB, hN', hD0⟩ := id E
  obtain ⟨C1, T, N, hc, hj, hlk, hin1, hfin, hdecl, hdd, ⟨ty0, hty⟩, hnm1⟩ := hq
  refine va_put (D := X.2.1) (cl := vwCl) (ci := ci) (v := v) (ty := ty) (C := C1) (T := T) (N := N) hx hb hts hin1 ty0 hty hnm1 hown hK hP hD hS i he hc j hj (hts _ hlk) (fun _ h9 => h9) hfin hdd hn hf hl0 hd (fun H1 locs1 hP1 hD1 hS1 => ?_)
  rw [hw] at hP1 hD1
  exact k p e s m args below meth c E H1 locs1 ls hP1 hD1 hS1 hl
theorem cn_objInit {b index : Nat} (hd : decode y.2.1 pc = .ok (.invokespecial index, 3)) (h1 : Cond.methodLink y.1.cls index objectInit ∈ ch_T) (h2 : Cond.instanceMethod objectInit ∈ ch_T) (h3 : Cond.code objectInit ⟨#[0xb1]⟩ 1 none ∈ ch_T) (hR : 1 ≤ d) (k : cn_At X d C S y ws0 K (pc + 3) L [] cells slots ws) : cn_At X d C S y ws0 K pc L [.ref b] cells slots ws := by
  intro p e s m args below meth c E H locs ls hP hD hS hl
  obtain ⟨hx, hb, hr, hml, hts, hown, hlocks, hnm, hK, hB, hN', hD0⟩ := id E
  refine W.objInit hx hb hown (hts _ h1) (hts _ h2) (hts _ h3) rfl (by rw [hml]; exact hl.1) rfl hd hR ?_ ?_
  · show 12 ≤ 40 * d
    omega
  · exact W.eq (g2 := F0 m (pc + 3) ls []) rfl (k p e s m args below meth c E H locs ls hP hD hS hl)
/-- a class of ours, by its name in the pool, and what a new object of it holds -/
def cn_NW (own : String) (index ci N : Nat) (fs : List Value) : Prop := ∃ (C : String) (T : u_T), vwCl[ci]? = some (C, T, N) ∧ (∀ w ∈ u_ws C T N, w ∈ ch_T) ∧ Cond.classLink own index C ∈ ch_T ∧ Cond.instantiable C N ∈ ch_T ∧ Cond.initialized C ∈ ch_T ∧ ∃ ty : Nat → FieldType, (∀ k, k < N → parseFieldDescriptor (T k).2.2.1 = some (ty k)) ∧ ∀ j, j < N → defaultValue (ty j) = vp_V fs j
theorem cn_new {index ci N : Nat} {fs : List Value} {ws' : Nat → va_W} (hd : decode y.2.1 pc = .ok (.new index, 3)) (hq : cn_NW y.1.cls index ci N fs) (hc : cells + 1 ≤ C) (hs : slots + N ≤ S) (hw : ∀ q, ws ++ [(q, .inr (ci, fs))] = ws' q) (k : ∀ q, cn_At X d C S y ws0 K (pc + 3) L (.ref q :: St) (cells + 1) (slots + N) (ws' q)) : cn_At X d C S y ws0 K pc L St cells slots ws := by
  intro p e s m args below meth c E H locs ls hP hD hS hl
  obtain ⟨hx, hb, hr, hml, hts, hown, hlocks, hnm, hK, hB, hN', hD0⟩ := id E
  obtain ⟨C1, T, hc1, hin1, hcl, hi1, hi2, ty0, hty, hdf⟩ := hq
  refine va_new (ci := ci) (fs := fs) (C := C1) (T := T) (N := N) hx hb hts hin1 ty0 hty hown (hts _ hcl) (hts _ hi1) (hts _ hi2) hK hP hD hS (fun q h => Or.inr h) hc1 hdf hc hs hd (fun q H1 hP1 hD1 hS1 => ?_)
  rw [hw] at hP1 hD1
  exact k q p e s m args below meth c E H1 locs ls hP1 hD1 hS1 hl
end CNR
