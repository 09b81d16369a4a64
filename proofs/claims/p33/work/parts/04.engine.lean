
/-! ===== the engine: walks over a world of fixed shape ===== -/
abbrev ch_W : Type := (Nat → Nat → Int32) × (Nat → Nat → Int64)
abbrev ch_F : Type := Unit ⊕ Unit ⊕ Nat
abbrev ch_D : Type := (FieldType × Nat) ⊕ (Nat × List ch_F)
abbrev ch_X : Type := Launch × va_G × (FieldType → ClassId) × (Nat → Nat) × Heap × List ch_D
abbrev ch_M : Type := MethodName × ByteArray × Nat × Option FieldType
abbrev ch_Lo : Type := List (Option Value)
def ch_T : List Cond := lw_tbl.filter goodWord
def ch_wd (y : ch_M) : List Cond := .code y.1 y.2.1 y.2.2.1 y.2.2.2 :: ch_T
theorem ch_mem {w : Cond} (h : w ∈ lw_tbl) (hg : goodWord w = true) : w ∈ ch_T := List.mem_filter.mpr ⟨h, hg⟩
theorem ch_t0 {w : Cond} (i : Nat) (h : (k2_sels lw_privs)[i]? = some w) : w ∈ lw_tbl := List.mem_append_left _ (List.mem_of_getElem? h)
theorem ch_t1 {w : Cond} (i : Nat) (h : tables_1_1[i]? = some w) : w ∈ lw_tbl := List.mem_append_right _ (List.mem_append_left _ (List.mem_of_getElem? h))
theorem ch_t2 {w : Cond} (i : Nat) (h : tables_1_2[i]? = some w) : w ∈ lw_tbl := List.mem_append_right _ (List.mem_append_right _ (List.mem_append_left _ (List.mem_of_getElem? h)))
theorem ch_t3 {w : Cond} (i : Nat) (h : tables_1_3[i]? = some w) : w ∈ lw_tbl := List.mem_append_right _ (List.mem_append_right _ (List.mem_append_right _ (List.mem_append_left _ (List.mem_of_getElem? h))))
theorem ch_t4 {w : Cond} (i : Nat) (h : tables_1_4[i]? = some w) : w ∈ lw_tbl := List.mem_append_right _ (List.mem_append_right _ (List.mem_append_right _ (List.mem_append_right _ (List.mem_append_left _ (List.mem_of_getElem? h)))))
theorem ch_t5 {w : Cond} (i : Nat) (h : tables_1_5[i]? = some w) : w ∈ lw_tbl := List.mem_append_right _ (List.mem_append_right _ (List.mem_append_right _ (List.mem_append_right _ (List.mem_append_right _ (List.mem_append_left _ (List.mem_of_getElem? h))))))
theorem ch_t6 {w : Cond} (i : Nat) (h : tables_1_6[i]? = some w) : w ∈ lw_tbl := List.mem_append_right _ (List.mem_append_right _ (List.mem_append_right _ (List.mem_append_right _ (List.mem_append_right _ (List.mem_append_right _ (List.mem_append_left _ (List.mem_of_getElem? h)))))))
theorem ch_t7 {w : Cond} (i : Nat) (h : tables_1_7[i]? = some w) : w ∈ lw_tbl := List.mem_append_right _ (List.mem_append_right _ (List.mem_append_right _ (List.mem_append_right _ (List.mem_append_right _ (List.mem_append_right _ (List.mem_append_right _ (List.mem_append_left _ (List.mem_of_getElem? h))))))))
theorem ch_t8 {w : Cond} (i : Nat) (h : tables_1_8[i]? = some w) : w ∈ lw_tbl := List.mem_append_right _ (List.mem_append_right _ (List.mem_append_right _ (List.mem_append_right _ (List.mem_append_right _ (List.mem_append_right _ (List.mem_append_right _ (List.mem_append_right _ (List.mem_of_getElem? h))))))))
theorem ch_T_lw {w : Cond} (h : w ∈ ch_T) : w ∈ lw_tbl := (List.mem_filter.mp h).1
theorem ch_good {big : List Cond} (h : ∀ w ∈ ch_T, w ∈ big) {z : ch_M} (hz : Cond.code z.1 z.2.1 z.2.2.1 z.2.2.2 ∈ ch_T) : GoodIn big (ch_wd z) := by
  intro w hw
  have hw2 : w ∈ ch_T := by
    rcases List.mem_cons.mp hw with rfl | h2
    · exact hz
    · exact h2
  exact ⟨h w hw2, good_of_word (List.mem_filter.mp hw2).2⟩
def ch_re (X : ch_X) (v : Value) : Value := match v with
  | .ref k => .ref (X.2.2.2.1 k)
  | .int x => .int x
  | .long x => .long x
  | u => u
theorem ch_re_cat (X : ch_X) (v : Value) : (ch_re X v).category = v.category := by cases v <;> rfl
def ch_fv (X : ch_X) (w : ch_W) (k j : Nat) (f : ch_F) : Value := match f with
  | .inl _ => .int (w.1 k j)
  | .inr (.inl _) => .long (w.2 k j)
  | .inr (.inr q) => .ref (X.2.2.2.1 q)
def ch_cell (X : ch_X) (w : ch_W) (k : Nat) (d : ch_D) : va_E := match d with
  | .inl (.long, n) => .inl (X.2.2.1 .long, n, .inr (.inl (w.2 k)))
  | .inl (ty, n) => .inl (X.2.2.1 ty, n, .inl (w.1 k))
  | .inr (ci, fs) => .inr (ci, fs.mapIdx (fun j f => ch_fv X w k j f))
def ch_ws (X : ch_X) (w : ch_W) : va_W := X.2.2.2.2.2.mapIdx (fun k d => (X.2.2.2.1 k, ch_cell X w k d))
theorem ch_ws_at {X : ch_X} {w : ch_W} {k : Nat} {d : ch_D} (h : X.2.2.2.2.2[k]? = some d) : (ch_ws X w)[k]? = some (X.2.2.2.1 k, ch_cell X w k d) := by
  simp [ch_ws, List.getElem?_mapIdx, h]
def ch_A (X : ch_X) : Nat → Prop := fun q => ∃ k, k < X.2.2.2.2.2.length ∧ q = X.2.2.2.1 k
def ch_Ok (X : ch_X) : Prop := (∀ i j, i < X.2.2.2.2.2.length → j < X.2.2.2.2.2.length → X.2.2.2.1 i = X.2.2.2.1 j → i = j) ∧ ∀ i, i < X.2.2.2.2.2.length → X.2.2.2.2.1.size ≤ X.2.2.2.1 i
theorem ch_ws_get {X : ch_X} {w : ch_W} {k : Nat} {q : Nat × va_E} (h : (ch_ws X w)[k]? = some q) : k < X.2.2.2.2.2.length ∧ q.1 = X.2.2.2.1 k := by
  simp only [ch_ws, List.getElem?_mapIdx] at h
  cases hd : X.2.2.2.2.2[k]? with
  | none => rw [hd] at h; cases h
  | some d =>
    rw [hd] at h
    cases h
    exact ⟨(List.getElem?_eq_some_iff.mp hd).1, rfl⟩
theorem ch_Ok.D {X : ch_X} (h : ch_Ok X) (w : ch_W) : va_D (ch_A X) (ch_ws X w) := by
  refine ⟨fun i j p q hp hq e => ?_, fun k q hk => ?_⟩
  · obtain ⟨h1, h2⟩ := ch_ws_get hp
    obtain ⟨h3, h4⟩ := ch_ws_get hq
    exact h.1 i j h1 h3 (by rw [← h2, ← h4]; exact e)
  · obtain ⟨h1, h2⟩ := ch_ws_get hk
    exact ⟨k, h1, h2⟩
def ch_Tys (X : ch_X) : List (ClassId × FieldType) := [(X.2.2.1 .int, .int), (X.2.2.1 .long, .long), (X.2.2.1 .boolean, .boolean)]
abbrev ch_P (X : ch_X) (w : ch_W) (H : Heap) : Prop := va_P X.2.1 vwCl (ch_ws X w) H
abbrev ch_K (X : ch_X) (U : State) : Prop := va_K X.2.1 vwCl (ch_Tys X) U
def ch_B (X : ch_X) (H : Heap) : Prop := X.2.2.2.2.1.size ≤ H.size ∧ ∀ q : Nat, q < X.2.2.2.2.1.size → H[q]? = X.2.2.2.2.1[q]?
def ch_isN : Cond → Bool
  | .methodLinkNest .. => true
  | _ => false
/-- the words of calls among nest mates -/
def ch_Nw (U : State) : Prop := ∀ w ∈ lw_tbl, ch_isN w = true → va_Nw w U
theorem ch_Nw.warm {s U : State} (h : ch_Nw s) (hW : s.WarmedH U.vm) : ch_Nw U := by
  intro w hw hi
  have h1 := h w hw hi
  cases w <;> first | (simp [ch_isN] at hi; done) | exact va_Nw.warmM hW h1
theorem ch_Nw.same {s U : State} (h : ch_Nw s) (hv : s.vm = U.vm) : ch_Nw U := by
  intro w hw hi
  have h1 := h w hw hi
  cases w <;> first | (simp [ch_isN] at hi; done) | exact va_tabs rfl hv h1
theorem ch_Nw.of {s : State} {A : Array Value} (h : ∀ w ∈ lw_tbl, w.before A s = true) : ch_Nw s := by
  intro w hw hi
  have h1 := h w hw
  cases w <;> first | (simp [ch_isN] at hi; done) | exact va_tabs rfl rfl h1
/-- the two texts, their bytes, and two statics of the library -/
def ch_tx0 : String := "ink bare or and not grey crack radius turn angle slice in out sharp "
def ch_tx1 : String := "< > =#+-*/();"
def ch_sl : List Nat := [68, 13]
def ch_sb : List (List Int32) := [[105, 110, 107, 32, 98, 97, 114, 101, 32, 111, 114, 32, 97, 110, 100, 32, 110, 111, 116, 32, 103, 114, 101, 121, 32, 99, 114, 97, 99, 107, 32, 114, 97, 100, 105, 117, 115, 32, 116, 117, 114, 110, 32, 97, 110, 103, 108, 101, 32, 115, 108, 105, 99, 101, 32, 105, 110, 32, 111, 117, 116, 32, 115, 104, 97, 114, 112, 32], [60, 32, 62, 32, 61, 35, 43, 45, 42, 47, 40, 41, 59]]
def ch_St (X : ch_X) (U : State) : Prop := (vk_R "CharredRoll$Script" 100 ch_tx0 (X.2.2.2.1 97) U ∧ vk_R "CharredRoll$Script" 120 ch_tx1 (X.2.2.2.1 98) U) ∧ vk_S 2 ch_sl ch_sb (fun i => X.2.2.2.1 (97 + i)) (fun i => X.2.2.2.1 (99 + i)) (ch_A X) U U.heap ∧ va_Z "java/lang/String" "COMPACT_STRINGS" "Z" (.int 1) (ch_A X) U U.heap ∧ (va_Z "jdk/internal/util/Preconditions" "SIOOBE_FORMATTER" "Ljava/util/function/BiFunction;" .null (ch_A X) U U.heap ∨ va_Z "jdk/internal/util/Preconditions" "SIOOBE_FORMATTER" "Ljava/util/function/BiFunction;" (.ref (X.2.2.2.1 101)) (ch_A X) U U.heap)
theorem ch_St.warm {X : ch_X} {s U : State} {H : Heap} {locs : List Loc} (h : ch_St X s) (hW : s.WarmedH U.vm) (hU : U.heap = H) (hS : va_S (ch_A X) s.heap H locs) : ch_St X U := by
  obtain ⟨⟨h1, h2⟩, h3, h4, h5⟩ := h
  subst hU
  refine ⟨⟨h1.warm hW, h2.warm hW⟩, vk_S.moved hW.alike (h3.kept hS.2.1), va_Z.moved hW.alike (h4.kept hS.2.1), ?_⟩
  rcases h5 with h | h
  · exact Or.inl (va_Z.moved hW.alike (h.kept hS.2.1))
  · exact Or.inr (va_Z.moved hW.alike (h.kept hS.2.1))
theorem ch_St.same {X : ch_X} {s U : State} (h : ch_St X s) (hv : s.vm = U.vm) (hU : U.heap = s.heap) : ch_St X U := by
  obtain ⟨⟨h1, h2⟩, h3, h4, h5⟩ := h
  have hm : s.vm.Alike U.vm := by rw [hv]; exact Vm.Alike.refl U.vm
  unfold ch_St
  rw [hU]
  refine ⟨⟨h1.same hv.symm, h2.same hv.symm⟩, vk_S.moved hm h3, va_Z.moved hm h4, ?_⟩
  rcases h5 with h | h
  · exact Or.inl (va_Z.moved hm h)
  · exact Or.inr (va_Z.moved hm h)
def ch_NS (X : ch_X) (U : State) : Prop := ch_Nw U ∧ ch_St X U
theorem ch_NS.warm {X : ch_X} {s U : State} {H : Heap} {locs : List Loc} (h : ch_NS X s) (hW : s.WarmedH U.vm) (hU : U.heap = H) (hS : va_S (ch_A X) s.heap H locs) : ch_NS X U := ⟨h.1.warm hW, h.2.warm hW hU hS⟩
theorem ch_NS.same {X : ch_X} {s U : State} (h : ch_NS X s) (hv : s.vm = U.vm) (hU : U.heap = s.heap) : ch_NS X U := ⟨h.1.same hv, h.2.same hv hU⟩
def ch_Pc (X : ch_X) (args : List Value) (w : ch_W) : Array Value → State → Prop := fun v U => v = (args.map (ch_re X)).toArray ∧ ch_P X w U.heap ∧ ch_B X U.heap ∧ ch_K X U ∧ ch_NS X U
def ch_Qc (X : ch_X) (K : Option Value → ch_W → Prop) : Array Value → State → Outcome → State → Prop := fun _ st oc t => (∃ (r : Option Value) (w : ch_W), oc = .returned (r.map (ch_re X)) ∧ K r w ∧ ch_P X w t.heap) ∧ va_F (ch_A X) st t
def ch_R (d : Nat) : Room := { frames := d, cells := 0, slots := 0, locals := 40 * d }
/-- the method y, called with these arguments in the world w, comes back with an answer and a world of which K holds -/
def ch_Ex (X : ch_X) (d : Nat) (y : ch_M) (args : List Value) (w : ch_W) (K : Option Value → ch_W → Prop) : Prop :=
  Met X.1 y.1 (ch_wd y) (ch_R d) (ch_Pc X args w) (ch_Qc X K) 0 0 (ch_A X)
def ch_as (X : ch_X) : Nat → ch_Lo → List (Nat × Value)
  | _, [] => []
  | i, none :: l => ch_as X (i + 1) l
  | i, some v :: l => (i, ch_re X v) :: ch_as X (i + 1) l
theorem ch_as_mem {X : ch_X} : ∀ {l : ch_Lo} {n : Nat} {q : Nat × Value}, q ∈ ch_as X n l ↔ ∃ (j : Nat) (u : Value), l[j]? = some (some u) ∧ q = (n + j, ch_re X u)
  | [], n, q => by simp [ch_as]
  | none :: l, n, q => by
    rw [ch_as, ch_as_mem]
    constructor
    · rintro ⟨j, u, h1, h2⟩
      exact ⟨j + 1, u, by simpa using h1, by rw [h2]; congr 1; omega⟩
    · rintro ⟨j, u, h1, h2⟩
      cases j with
      | zero => simp at h1
      | succ j => exact ⟨j, u, by simpa using h1, by rw [h2]; congr 1; omega⟩
  | some v :: l, n, q => by
    rw [ch_as, List.mem_cons, ch_as_mem]
    constructor
    · rintro (h | ⟨j, u, h1, h2⟩)
      · exact ⟨0, v, by simp, by rw [h]; rfl⟩
      · exact ⟨j + 1, u, by simpa using h1, by rw [h2]; congr 1; omega⟩
    · rintro ⟨j, u, h1, h2⟩
      cases j with
      | zero =>
        have : v = u := by simpa using h1
        subst this
        exact Or.inl (by rw [h2]; rfl)
      | succ j => exact Or.inr ⟨j, u, by simpa using h1, by rw [h2]; congr 1; omega⟩
theorem ch_has {ls : Array Slot} {n : Nat} {l l' : List (Nat × Value)} (h : lv_has ls n l) (hs : ∀ q ∈ l', q ∈ l) : lv_has ls n l' := ⟨h.1, h.2.1, fun q hq => h.2.2 q (hs q hq)⟩
theorem ch_rd {X : ch_X} {ls : Array Slot} {n : Nat} {L : ch_Lo} {i : Nat} {v : Value} (h : lv_has ls n (ch_as X 0 L)) (hL : L[i]? = some (some v)) : ls[i]? = some (.val (ch_re X v)) :=
  h.2.2 (i, ch_re X v) (ch_as_mem.mpr ⟨i, v, hL, by simp⟩)
def ch_n2 (L : ch_Lo) (i : Nat) : Bool := match i with
  | 0 => true
  | j + 1 => match L[j]? with
    | some (some v) => v.category == 1
    | _ => true
theorem ch_w1 {X : ch_X} {ls : Array Slot} {n : Nat} {L : ch_Lo} {i : Nat} {v : Value} (h : lv_has ls n ((i, ch_re X v) :: (ch_as X 0 L).filter (fun q => !(q.1 == i) && !(q.1 + 1 == i && q.2.category == 2)))) (h2 : ch_n2 L i = true) : lv_has ls n (ch_as X 0 (L.set i (some v))) := by
  refine ch_has h (fun q hq => ?_)
  obtain ⟨j, u, h3, rfl⟩ := ch_as_mem.mp hq
  by_cases hj : j = i
  · subst hj
    have hl : j < L.length := by
      have := (List.getElem?_eq_some_iff.mp h3).1
      simpa using this
    rw [List.getElem?_set_self hl] at h3
    cases h3
    simp
  · rw [List.getElem?_set_ne (Ne.symm hj)] at h3
    refine List.mem_cons_of_mem _ (List.mem_filter.mpr ⟨ch_as_mem.mpr ⟨j, u, h3, rfl⟩, ?_⟩)
    have e1 : (0 + j == i) = false := by simpa using hj
    by_cases hc : j + 1 = i
    · subst hc
      simp only [ch_n2, h3] at h2
      have h2 : u.category = 1 := by simpa using h2
      simp [ch_re_cat, h2]
    · have e2 : (0 + j + 1 == i) = false := by simpa using hc
      simp only [e1, e2, Bool.false_and, Bool.not_false, Bool.and_self]
theorem ch_w2 {X : ch_X} {ls : Array Slot} {n : Nat} {L : ch_Lo} {i : Nat} {v : Value} (h : lv_has ls n ((i, ch_re X v) :: (ch_as X 0 L).filter (fun q => !(q.1 == i) && (!(q.1 == i + 1) && !(q.1 + 1 == i && q.2.category == 2))))) (h2 : ch_n2 L i = true) : lv_has ls n (ch_as X 0 ((L.set i (some v)).set (i + 1) none)) := by
  refine ch_has h (fun q hq => ?_)
  obtain ⟨j, u, h3, rfl⟩ := ch_as_mem.mp hq
  by_cases hk : j = i + 1
  · subst hk
    have hl : i + 1 < (L.set i (some v)).length := by
      have := (List.getElem?_eq_some_iff.mp h3).1
      simpa using this
    rw [List.getElem?_set_self hl] at h3
    cases h3
  · rw [List.getElem?_set_ne (Ne.symm hk)] at h3
    by_cases hj : j = i
    · subst hj
      have hl : j < L.length := by
        have := (List.getElem?_eq_some_iff.mp h3).1
        simpa using this
      rw [List.getElem?_set_self hl] at h3
      cases h3
      simp
    · rw [List.getElem?_set_ne (Ne.symm hj)] at h3
      refine List.mem_cons_of_mem _ (List.mem_filter.mpr ⟨ch_as_mem.mpr ⟨j, u, h3, rfl⟩, ?_⟩)
      have e1 : (0 + j == i) = false := by simpa using hj
      have e3 : (0 + j == i + 1) = false := by simpa using hk
      by_cases hc : j + 1 = i
      · subst hc
        simp only [ch_n2, h3] at h2
        have h2 : u.category = 1 := by simpa using h2
        simp [ch_re_cat, h2]
        omega
      · have e2 : (0 + j + 1 == i) = false := by simpa using hc
        simp only [e1, e2, e3, Bool.false_and, Bool.not_false, Bool.and_self]
/-- what holds of the machine in a frame of y -/
def ch_E (X : ch_X) (y : ch_M) (p : Program) (s : State) (m : MethodId) (args : Array Value) (meth : Method) (c : Code) : Prop :=
  p.tables.exec = Jvm.exec ∧ c.code = y.2.1 ∧ meth.sig.returnType = y.2.2.2 ∧ c.maxLocals = y.2.2.1 ∧ (∀ w ∈ ch_T, w.before args s = true) ∧ s.vm.findClass y.1.cls = some m.cls ∧ meth.locks = false ∧ ch_K X s ∧ ch_B X s.heap ∧ ch_Ok X ∧ ch_NS X s
/-- the walk of y goes on at pc with these locals and stack in the world w, and ends with K -/
def ch_At (X : ch_X) (d : Nat) (y : ch_M) (K : Option Value → ch_W → Prop) (pc : Nat) (L : ch_Lo) (S : List Value) (w : ch_W) : Prop :=
  ∀ (p : Program) (e : Env) (s : State) (m : MethodId) (args : Array Value) (below : List Frame) (meth : Method) (c : Code), ch_E X y p s m args meth c →
  ∀ (H : Heap) (locs : List Loc) (ls : Array Slot), ch_P X w H → va_S (ch_A X) s.heap H locs → lv_has ls y.2.2.1 (ch_as X 0 L) →
  W p X.1 e (ch_R d) s m args below meth c H locs 0 0 (MQ below (ch_Qc X K) args s 0 0 (ch_A X)) (F0 m pc ls (S.map (ch_re X)))
theorem ch_entry {X : ch_X} (hO : ch_Ok X) {d : Nat} {y : ch_M} {args : List Value} {w : ch_W} {K : Option Value → ch_W → Prop} (L : ch_Lo) (hy : plainName y.1.cls = true) (hn : (lg_sl (args.map (ch_re X))).length ≤ y.2.2.1) (hL : ch_as X 0 L = lv_args 0 (args.map (ch_re X)))
    (k : ch_At X d y K 0 L [] w) : ch_Ex X d y args w K := by
  refine Met.ofW (cc := y.2.1) (maxL := y.2.2.1) (ret := y.2.2.2) (ws' := ch_T) hy rfl ?_
  intro p e s m args' below meth c s₁ B hml hv
  obtain ⟨rfl, hP, hB, hK, hN⟩ := hv
  have hts := atoms_spec (ws := ch_wd y) B.pre
  have hown : s.vm.findClass y.1.cls = some m.cls := findClass_of_methodNamed B.named
  have hl := lv_entry (args.map (ch_re X)) (n := y.2.2.1) hn
  rw [lg_entry_eq]
  generalize (lg_sl (args.map (ch_re X)) ++ List.replicate (y.2.2.1 - (lg_sl (args.map (ch_re X))).length) Slot.unset).toArray = ls at hl ⊢
  rw [← hL] at hl
  exact k p e s m _ below meth c ⟨B.exec, B.bytes, B.returns, hml, fun w h => hts w (List.mem_cons_of_mem _ h), hown, B.notSynchronized, hK, hB, hO, hN⟩ s.heap [] ls hP va_S.rf hl
section CHR
variable {X : ch_X} {d : Nat} {y : ch_M} {K : Option Value → ch_W → Prop} {pc : Nat} {L : ch_Lo} {S : List Value} {w : ch_W}

theorem ch_iconst {n : Int} (v : Int32) (hd : decode y.2.1 pc = .ok (.iconst n, 1)) (hv : Int32.ofInt n = v) (k : ch_At X d y K (pc + 1) L (.int v :: S) w) : ch_At X d y K pc L S w := by
  intro p e s m args below meth c E H locs ls hP hS hl
  exact lv_iconst E.1 E.2.1 hd hv (k p e s m args below meth c E H locs ls hP hS hl)
theorem ch_bipush {n : Int} (v : Int32) (hd : decode y.2.1 pc = .ok (.bipush n, 2)) (hv : (Int8.ofInt n).toInt32 = v) (k : ch_At X d y K (pc + 2) L (.int v :: S) w) : ch_At X d y K pc L S w := by
  intro p e s m args below meth c E H locs ls hP hS hl
  exact lv_bipush E.1 E.2.1 hd hv (k p e s m args below meth c E H locs ls hP hS hl)
theorem ch_sipush {n : Int} (v : Int32) (hd : decode y.2.1 pc = .ok (.sipush n, 3)) (hv : (Int16.ofInt n).toInt32 = v) (k : ch_At X d y K (pc + 3) L (.int v :: S) w) : ch_At X d y K pc L S w := by
  intro p e s m args below meth c E H locs ls hP hS hl
  exact lv_sipush E.1 E.2.1 hd hv (k p e s m args below meth c E H locs ls hP hS hl)
theorem ch_lconst {n : Fin 2} (v : Int64) (hd : decode y.2.1 pc = .ok (.lconst n, 1)) (hv : Int64.ofNat (n : Nat) = v) (k : ch_At X d y K (pc + 1) L (.long v :: S) w) : ch_At X d y K pc L S w := by
  intro p e s m args below meth c E H locs ls hP hS hl
  exact lv_lconst E.1 E.2.1 hd hv (k p e s m args below meth c E H locs ls hP hS hl)
theorem ch_ldc {index : Nat} {v : Int32} (hc : Jvm.Cond.constant y.1.cls index v ∈ ch_T) (hd : decode y.2.1 pc = .ok (.ldc index, 2)) (k : ch_At X d y K (pc + 2) L (.int v :: S) w) : ch_At X d y K pc L S w := by
  intro p e s m args below meth c E H locs ls hP hS hl
  obtain ⟨hx, hb, hr, hml, hts, hown, hlocks, hK, hB, hO, hN⟩ := id E
  exact lv_ldc hx hb hown (hts _ hc) hd (k p e s m args below meth c E H locs ls hP hS hl)
theorem ch_ldcw {index : Nat} {v : Int32} (hc : Jvm.Cond.constant y.1.cls index v ∈ ch_T) (hd : decode y.2.1 pc = .ok (.ldc_w index, 3)) (k : ch_At X d y K (pc + 3) L (.int v :: S) w) : ch_At X d y K pc L S w := by
  intro p e s m args below meth c E H locs ls hP hS hl
  obtain ⟨hx, hb, hr, hml, hts, hown, hlocks, hK, hB, hO, hN⟩ := id E
  exact lv_ldcw hx hb hown (hts _ hc) hd (k p e s m args below meth c E H locs ls hP hS hl)
theorem ch_ldc2 {index : Nat} {v : Int64} (hc : Jvm.Cond.constantLong y.1.cls index v ∈ ch_T) (hd : decode y.2.1 pc = .ok (.ldc2_w index, 3)) (k : ch_At X d y K (pc + 3) L (.long v :: S) w) : ch_At X d y K pc L S w := by
  intro p e s m args below meth c E H locs ls hP hS hl
  obtain ⟨hx, hb, hr, hml, hts, hown, hlocks, hK, hB, hO, hN⟩ := id E
  exact lv_ldc2 hx hb hown (hts _ hc) hd (k p e s m args below meth c E H locs ls hP hS hl)

theorem ch_iload_n {q : Fin 4} {x : Int32} (i : Nat) (hd : decode y.2.1 pc = .ok (.iload_n q, 1)) (hi : (q : Nat) = i) (hL : L[i]? = some (some (.int x))) (k : ch_At X d y K (pc + 1) L (.int x :: S) w) : ch_At X d y K pc L S w := by
  intro p e s m args below meth c E H locs ls hP hS hl
  exact lv_iload_n E.1 E.2.1 hd hi (ch_rd hl hL) (k p e s m args below meth c E H locs ls hP hS hl)
theorem ch_iload {i : Nat} {x : Int32} (hd : decode y.2.1 pc = .ok (.iload i, 2)) (hL : L[i]? = some (some (.int x))) (k : ch_At X d y K (pc + 2) L (.int x :: S) w) : ch_At X d y K pc L S w := by
  intro p e s m args below meth c E H locs ls hP hS hl
  exact lv_iload E.1 E.2.1 hd (ch_rd hl hL) (k p e s m args below meth c E H locs ls hP hS hl)

theorem ch_istore_n {q : Fin 4} {x : Int32} (i : Nat) (L' : ch_Lo) (hd : decode y.2.1 pc = .ok (.istore_n q, 1)) (hi : (q : Nat) = i) (hn : i < y.2.2.1) (h2 : ch_n2 L i = true) (hL : L.set i (some (.int x)) = L') (k : ch_At X d y K (pc + 1) L' S w) : ch_At X d y K pc L (.int x :: S) w := by
  intro p e s m args below meth c E H locs ls hP hS hl
  exact lv_istore_n E.1 E.2.1 hd hi hl hn rfl (fun ls' hl' => k p e s m args below meth c E H locs ls' hP hS (by rw [← hL]; exact ch_w1 (v := .int x) hl' h2))
theorem ch_istore {i : Nat} {x : Int32} (L' : ch_Lo) (hd : decode y.2.1 pc = .ok (.istore i, 2)) (hn : i < y.2.2.1) (h2 : ch_n2 L i = true) (hL : L.set i (some (.int x)) = L') (k : ch_At X d y K (pc + 2) L' S w) : ch_At X d y K pc L (.int x :: S) w := by
  intro p e s m args below meth c E H locs ls hP hS hl
  exact lv_istore E.1 E.2.1 hd hl hn rfl (fun ls' hl' => k p e s m args below meth c E H locs ls' hP hS (by rw [← hL]; exact ch_w1 (v := .int x) hl' h2))

theorem ch_lload_n {q : Fin 4} {x : Int64} (i : Nat) (hd : decode y.2.1 pc = .ok (.lload_n q, 1)) (hi : (q : Nat) = i) (hL : L[i]? = some (some (.long x))) (k : ch_At X d y K (pc + 1) L (.long x :: S) w) : ch_At X d y K pc L S w := by
  intro p e s m args below meth c E H locs ls hP hS hl
  exact lv_lload_n E.1 E.2.1 hd hi (ch_rd hl hL) (k p e s m args below meth c E H locs ls hP hS hl)
theorem ch_lload {i : Nat} {x : Int64} (hd : decode y.2.1 pc = .ok (.lload i, 2)) (hL : L[i]? = some (some (.long x))) (k : ch_At X d y K (pc + 2) L (.long x :: S) w) : ch_At X d y K pc L S w := by
  intro p e s m args below meth c E H locs ls hP hS hl
  exact lv_lload E.1 E.2.1 hd (ch_rd hl hL) (k p e s m args below meth c E H locs ls hP hS hl)

theorem ch_lstore_n {q : Fin 4} {x : Int64} (i : Nat) (L' : ch_Lo) (hd : decode y.2.1 pc = .ok (.lstore_n q, 1)) (hi : (q : Nat) = i) (hn : i + 1 < y.2.2.1) (h2 : ch_n2 L i = true) (hL : (L.set i (some (.long x))).set (i + 1) none = L') (k : ch_At X d y K (pc + 1) L' S w) : ch_At X d y K pc L (.long x :: S) w := by
  intro p e s m args below meth c E H locs ls hP hS hl
  exact lv_lstore_n E.1 E.2.1 hd hi hl hn rfl (fun ls' hl' => k p e s m args below meth c E H locs ls' hP hS (by rw [← hL]; exact ch_w2 (v := .long x) hl' h2))
theorem ch_lstore {i : Nat} {x : Int64} (L' : ch_Lo) (hd : decode y.2.1 pc = .ok (.lstore i, 2)) (hn : i + 1 < y.2.2.1) (h2 : ch_n2 L i = true) (hL : (L.set i (some (.long x))).set (i + 1) none = L') (k : ch_At X d y K (pc + 2) L' S w) : ch_At X d y K pc L (.long x :: S) w := by
  intro p e s m args below meth c E H locs ls hP hS hl
  exact lv_lstore E.1 E.2.1 hd hl hn rfl (fun ls' hl' => k p e s m args below meth c E H locs ls' hP hS (by rw [← hL]; exact ch_w2 (v := .long x) hl' h2))

theorem ch_aload_n {q : Fin 4} {x : Nat} (i : Nat) (hd : decode y.2.1 pc = .ok (.aload_n q, 1)) (hi : (q : Nat) = i) (hL : L[i]? = some (some (.ref x))) (k : ch_At X d y K (pc + 1) L (.ref x :: S) w) : ch_At X d y K pc L S w := by
  intro p e s m args below meth c E H locs ls hP hS hl
  exact lv_aload_n E.1 E.2.1 hd hi (ch_rd hl hL) (k p e s m args below meth c E H locs ls hP hS hl)
theorem ch_aload {i : Nat} {x : Nat} (hd : decode y.2.1 pc = .ok (.aload i, 2)) (hL : L[i]? = some (some (.ref x))) (k : ch_At X d y K (pc + 2) L (.ref x :: S) w) : ch_At X d y K pc L S w := by
  intro p e s m args below meth c E H locs ls hP hS hl
  exact lv_aload E.1 E.2.1 hd (ch_rd hl hL) (k p e s m args below meth c E H locs ls hP hS hl)

theorem ch_astore_n {q : Fin 4} {x : Nat} (i : Nat) (L' : ch_Lo) (hd : decode y.2.1 pc = .ok (.astore_n q, 1)) (hi : (q : Nat) = i) (hn : i < y.2.2.1) (h2 : ch_n2 L i = true) (hL : L.set i (some (.ref x)) = L') (k : ch_At X d y K (pc + 1) L' S w) : ch_At X d y K pc L (.ref x :: S) w := by
  intro p e s m args below meth c E H locs ls hP hS hl
  exact lv_astore_n E.1 E.2.1 hd hi hl hn rfl (fun ls' hl' => k p e s m args below meth c E H locs ls' hP hS (by rw [← hL]; exact ch_w1 (v := .ref x) hl' h2))
theorem ch_astore {i : Nat} {x : Nat} (L' : ch_Lo) (hd : decode y.2.1 pc = .ok (.astore i, 2)) (hn : i < y.2.2.1) (h2 : ch_n2 L i = true) (hL : L.set i (some (.ref x)) = L') (k : ch_At X d y K (pc + 2) L' S w) : ch_At X d y K pc L (.ref x :: S) w := by
  intro p e s m args below meth c E H locs ls hP hS hl
  exact lv_astore E.1 E.2.1 hd hl hn rfl (fun ls' hl' => k p e s m args below meth c E H locs ls' hP hS (by rw [← hL]; exact ch_w1 (v := .ref x) hl' h2))

theorem ch_iinc {i : Nat} {n : Int} {x : Int32} (v : Int32) (L' : ch_Lo) (hd : decode y.2.1 pc = .ok (.iinc i n, 3)) (hx : L[i]? = some (some (.int x))) (hv : x + Int32.ofInt n = v) (hn : i < y.2.2.1) (h2 : ch_n2 L i = true) (hL : L.set i (some (.int v)) = L') (k : ch_At X d y K (pc + 3) L' S w) : ch_At X d y K pc L S w := by
  intro p e s m args below meth c E H locs ls hP hS hl
  have hm : ((i, Value.int x) : Nat × Value) ∈ ch_as X 0 L := ch_as_mem.mpr ⟨i, .int x, hx, by simp [ch_re]⟩
  obtain ⟨j, hj⟩ := List.getElem?_of_mem hm
  exact lv_iinc E.1 E.2.1 hd hl hj hv hn rfl (fun ls' hl' => k p e s m args below meth c E H locs ls' hP hS (by rw [← hL]; exact ch_w1 (v := .int v) hl' h2))

theorem ch_iadd {x z : Int32} (hd : decode y.2.1 pc = .ok (.iadd, 1)) (k : ch_At X d y K (pc + 1) L (.int (x + z) :: S) w) : ch_At X d y K pc L (.int z :: .int x :: S) w := by
  intro p e s m args below meth c E H locs ls hP hS hl
  exact lv_iadd E.1 E.2.1 hd (k p e s m args below meth c E H locs ls hP hS hl)

theorem ch_isub {x z : Int32} (hd : decode y.2.1 pc = .ok (.isub, 1)) (k : ch_At X d y K (pc + 1) L (.int (x - z) :: S) w) : ch_At X d y K pc L (.int z :: .int x :: S) w := by
  intro p e s m args below meth c E H locs ls hP hS hl
  exact lv_isub E.1 E.2.1 hd (k p e s m args below meth c E H locs ls hP hS hl)

theorem ch_imul {x z : Int32} (hd : decode y.2.1 pc = .ok (.imul, 1)) (k : ch_At X d y K (pc + 1) L (.int (x * z) :: S) w) : ch_At X d y K pc L (.int z :: .int x :: S) w := by
  intro p e s m args below meth c E H locs ls hP hS hl
  exact lv_imul E.1 E.2.1 hd (k p e s m args below meth c E H locs ls hP hS hl)

theorem ch_iand {x z : Int32} (hd : decode y.2.1 pc = .ok (.iand, 1)) (k : ch_At X d y K (pc + 1) L (.int (x &&& z) :: S) w) : ch_At X d y K pc L (.int z :: .int x :: S) w := by
  intro p e s m args below meth c E H locs ls hP hS hl
  exact lv_iand E.1 E.2.1 hd (k p e s m args below meth c E H locs ls hP hS hl)

theorem ch_ior {x z : Int32} (hd : decode y.2.1 pc = .ok (.ior, 1)) (k : ch_At X d y K (pc + 1) L (.int (x ||| z) :: S) w) : ch_At X d y K pc L (.int z :: .int x :: S) w := by
  intro p e s m args below meth c E H locs ls hP hS hl
  exact lv_ior E.1 E.2.1 hd (k p e s m args below meth c E H locs ls hP hS hl)

theorem ch_ixor {x z : Int32} (hd : decode y.2.1 pc = .ok (.ixor, 1)) (k : ch_At X d y K (pc + 1) L (.int (x ^^^ z) :: S) w) : ch_At X d y K pc L (.int z :: .int x :: S) w := by
  intro p e s m args below meth c E H locs ls hP hS hl
  exact lv_ixor E.1 E.2.1 hd (k p e s m args below meth c E H locs ls hP hS hl)

theorem ch_ishl {x z : Int32} (hd : decode y.2.1 pc = .ok (.ishl, 1)) (k : ch_At X d y K (pc + 1) L (.int (x <<< (z &&& 31)) :: S) w) : ch_At X d y K pc L (.int z :: .int x :: S) w := by
  intro p e s m args below meth c E H locs ls hP hS hl
  exact lv_ishl E.1 E.2.1 hd (k p e s m args below meth c E H locs ls hP hS hl)

theorem ch_ishr {x z : Int32} (hd : decode y.2.1 pc = .ok (.ishr, 1)) (k : ch_At X d y K (pc + 1) L (.int (x >>> (z &&& 31)) :: S) w) : ch_At X d y K pc L (.int z :: .int x :: S) w := by
  intro p e s m args below meth c E H locs ls hP hS hl
  exact lv_ishr E.1 E.2.1 hd (k p e s m args below meth c E H locs ls hP hS hl)

theorem ch_iushr {x z : Int32} (hd : decode y.2.1 pc = .ok (.iushr, 1)) (k : ch_At X d y K (pc + 1) L (.int ((x.toUInt32 >>> (z.toUInt32 &&& Int32.toUInt32 31)).toInt32) :: S) w) : ch_At X d y K pc L (.int z :: .int x :: S) w := by
  intro p e s m args below meth c E H locs ls hP hS hl
  exact lv_iushr E.1 E.2.1 hd rfl (k p e s m args below meth c E H locs ls hP hS hl)

theorem ch_ladd {x z : Int64} (hd : decode y.2.1 pc = .ok (.ladd, 1)) (k : ch_At X d y K (pc + 1) L (.long (x + z) :: S) w) : ch_At X d y K pc L (.long z :: .long x :: S) w := by
  intro p e s m args below meth c E H locs ls hP hS hl
  exact lv_ladd E.1 E.2.1 hd (k p e s m args below meth c E H locs ls hP hS hl)

theorem ch_lsub {x z : Int64} (hd : decode y.2.1 pc = .ok (.lsub, 1)) (k : ch_At X d y K (pc + 1) L (.long (x - z) :: S) w) : ch_At X d y K pc L (.long z :: .long x :: S) w := by
  intro p e s m args below meth c E H locs ls hP hS hl
  exact lv_lsub E.1 E.2.1 hd (k p e s m args below meth c E H locs ls hP hS hl)

theorem ch_lmul {x z : Int64} (hd : decode y.2.1 pc = .ok (.lmul, 1)) (k : ch_At X d y K (pc + 1) L (.long (x * z) :: S) w) : ch_At X d y K pc L (.long z :: .long x :: S) w := by
  intro p e s m args below meth c E H locs ls hP hS hl
  exact lv_lmul E.1 E.2.1 hd (k p e s m args below meth c E H locs ls hP hS hl)

theorem ch_land {x z : Int64} (hd : decode y.2.1 pc = .ok (.land, 1)) (k : ch_At X d y K (pc + 1) L (.long (x &&& z) :: S) w) : ch_At X d y K pc L (.long z :: .long x :: S) w := by
  intro p e s m args below meth c E H locs ls hP hS hl
  exact lv_land E.1 E.2.1 hd (k p e s m args below meth c E H locs ls hP hS hl)

theorem ch_lor {x z : Int64} (hd : decode y.2.1 pc = .ok (.lor, 1)) (k : ch_At X d y K (pc + 1) L (.long (x ||| z) :: S) w) : ch_At X d y K pc L (.long z :: .long x :: S) w := by
  intro p e s m args below meth c E H locs ls hP hS hl
  exact lv_lor E.1 E.2.1 hd (k p e s m args below meth c E H locs ls hP hS hl)

theorem ch_lxor {x z : Int64} (hd : decode y.2.1 pc = .ok (.lxor, 1)) (k : ch_At X d y K (pc + 1) L (.long (x ^^^ z) :: S) w) : ch_At X d y K pc L (.long z :: .long x :: S) w := by
  intro p e s m args below meth c E H locs ls hP hS hl
  exact lv_lxor E.1 E.2.1 hd (k p e s m args below meth c E H locs ls hP hS hl)

theorem ch_idiv {x z : Int32} (hd : decode y.2.1 pc = .ok (.idiv, 1)) (hne : ¬ z = 0) (k : ch_At X d y K (pc + 1) L (.int (x / z) :: S) w) : ch_At X d y K pc L (.int z :: .int x :: S) w := by
  intro p e s m args below meth c E H locs ls hP hS hl
  exact lv_idiv E.1 E.2.1 hd hne (k p e s m args below meth c E H locs ls hP hS hl)

theorem ch_irem {x z : Int32} (hd : decode y.2.1 pc = .ok (.irem, 1)) (hne : ¬ z = 0) (k : ch_At X d y K (pc + 1) L (.int (x - x / z * z) :: S) w) : ch_At X d y K pc L (.int z :: .int x :: S) w := by
  intro p e s m args below meth c E H locs ls hP hS hl
  exact lv_irem E.1 E.2.1 hd hne (k p e s m args below meth c E H locs ls hP hS hl)

theorem ch_ldiv {x z : Int64} (hd : decode y.2.1 pc = .ok (.ldiv, 1)) (hne : ¬ z = 0) (k : ch_At X d y K (pc + 1) L (.long (x / z) :: S) w) : ch_At X d y K pc L (.long z :: .long x :: S) w := by
  intro p e s m args below meth c E H locs ls hP hS hl
  exact lv_ldiv E.1 E.2.1 hd hne (k p e s m args below meth c E H locs ls hP hS hl)

theorem ch_lrem {x z : Int64} (hd : decode y.2.1 pc = .ok (.lrem, 1)) (hne : ¬ z = 0) (k : ch_At X d y K (pc + 1) L (.long (x - x / z * z) :: S) w) : ch_At X d y K pc L (.long z :: .long x :: S) w := by
  intro p e s m args below meth c E H locs ls hP hS hl
  exact lv_lrem E.1 E.2.1 hd hne (k p e s m args below meth c E H locs ls hP hS hl)

theorem ch_ineg {x : Int32} (hd : decode y.2.1 pc = .ok (.ineg, 1)) (k : ch_At X d y K (pc + 1) L (.int (-x) :: S) w) : ch_At X d y K pc L (.int x :: S) w := by
  intro p e s m args below meth c E H locs ls hP hS hl
  exact lv_ineg E.1 E.2.1 hd (k p e s m args below meth c E H locs ls hP hS hl)
theorem ch_lneg {x : Int64} (hd : decode y.2.1 pc = .ok (.lneg, 1)) (k : ch_At X d y K (pc + 1) L (.long (-x) :: S) w) : ch_At X d y K pc L (.long x :: S) w := by
  intro p e s m args below meth c E H locs ls hP hS hl
  exact lv_lneg E.1 E.2.1 hd (k p e s m args below meth c E H locs ls hP hS hl)
theorem ch_lshl {x : Int64} {z : Int32} (hd : decode y.2.1 pc = .ok (.lshl, 1)) (k : ch_At X d y K (pc + 1) L (.long (x <<< (z.toInt64 &&& 63)) :: S) w) : ch_At X d y K pc L (.int z :: .long x :: S) w := by
  intro p e s m args below meth c E H locs ls hP hS hl
  exact lv_lshl E.1 E.2.1 hd rfl (k p e s m args below meth c E H locs ls hP hS hl)
theorem ch_lcmp {x z : Int64} (hd : decode y.2.1 pc = .ok (.lcmp, 1)) (k : ch_At X d y K (pc + 1) L (.int (lg_cmp x z) :: S) w) : ch_At X d y K pc L (.long z :: .long x :: S) w := by
  intro p e s m args below meth c E H locs ls hP hS hl
  exact W.lcmp E.1 E.2.1 hd (k p e s m args below meth c E H locs ls hP hS hl)
theorem ch_i2l {x : Int32} (hd : decode y.2.1 pc = .ok (.i2l, 1)) (k : ch_At X d y K (pc + 1) L (.long x.toInt64 :: S) w) : ch_At X d y K pc L (.int x :: S) w := by
  intro p e s m args below meth c E H locs ls hP hS hl
  exact lv_i2l E.1 E.2.1 hd rfl (k p e s m args below meth c E H locs ls hP hS hl)
theorem ch_l2i {x : Int64} (hd : decode y.2.1 pc = .ok (.l2i, 1)) (k : ch_At X d y K (pc + 1) L (.int x.toInt32 :: S) w) : ch_At X d y K pc L (.long x :: S) w := by
  intro p e s m args below meth c E H locs ls hP hS hl
  exact lv_l2i E.1 E.2.1 hd rfl (k p e s m args below meth c E H locs ls hP hS hl)
theorem ch_i2c {x : Int32} (hd : decode y.2.1 pc = .ok (.i2c, 1)) (k : ch_At X d y K (pc + 1) L (.int (x.toUInt32 % 65536).toInt32 :: S) w) : ch_At X d y K pc L (.int x :: S) w := by
  intro p e s m args below meth c E H locs ls hP hS hl
  exact lv_i2c E.1 E.2.1 hd rfl (k p e s m args below meth c E H locs ls hP hS hl)
theorem ch_dup {v : Value} (hd : decode y.2.1 pc = .ok (.dup, 1)) (hv : v.category = 1) (k : ch_At X d y K (pc + 1) L (v :: v :: S) w) : ch_At X d y K pc L (v :: S) w := by
  intro p e s m args below meth c E H locs ls hP hS hl
  exact lv_dup E.1 E.2.1 hd (by rw [ch_re_cat]; exact hv) (k p e s m args below meth c E H locs ls hP hS hl)
theorem ch_dup2 {v u : Value} (hd : decode y.2.1 pc = .ok (.dup2, 1)) (hv : v.category = 1) (hu : u.category = 1) (k : ch_At X d y K (pc + 1) L (v :: u :: v :: u :: S) w) : ch_At X d y K pc L (v :: u :: S) w := by
  intro p e s m args below meth c E H locs ls hP hS hl
  exact lv_dup2_11 E.1 E.2.1 hd (by rw [ch_re_cat]; exact hv) (by rw [ch_re_cat]; exact hu) (k p e s m args below meth c E H locs ls hP hS hl)
theorem ch_pop {v : Value} (hd : decode y.2.1 pc = .ok (.pop, 1)) (hv : v.category = 1) (k : ch_At X d y K (pc + 1) L S w) : ch_At X d y K pc L (v :: S) w := by
  intro p e s m args below meth c E H locs ls hP hS hl
  exact lv_pop E.1 E.2.1 hd (by rw [ch_re_cat]; exact hv) (k p e s m args below meth c E H locs ls hP hS hl)
theorem ch_goto {off : Int} (tgt : Nat) (hd : decode y.2.1 pc = .ok (.goto off, 3)) (ht : (pc : Int) + off = (tgt : Int)) (k : ch_At X d y K tgt L S w) : ch_At X d y K pc L S w := by
  intro p e s m args below meth c E H locs ls hP hS hl
  exact lv_goto E.1 E.2.1 hd ht (k p e s m args below meth c E H locs ls hP hS hl)
theorem ch_tblOut {dflt lo hi : Int} {offs : Array Int} {len : Nat} {x : Int32} (tgt : Nat) (hd : decode y.2.1 pc = .ok (.tableswitch dflt lo hi offs, len)) (h : x.toInt < lo ∨ hi < x.toInt) (ht : (pc : Int) + dflt = (tgt : Int)) (k : ch_At X d y K tgt L S w) : ch_At X d y K pc L (.int x :: S) w := by
  intro p e s m args below meth c E H locs ls hP hS hl
  exact lv_tableOut E.1 E.2.1 hd h ht (k p e s m args below meth c E H locs ls hP hS hl)
theorem ch_tblIn {dflt lo hi : Int} {offs : Array Int} {len : Nat} {x : Int32} {off : Int} (tgt : Nat) (hd : decode y.2.1 pc = .ok (.tableswitch dflt lo hi offs, len)) (h1 : ¬ x.toInt < lo) (h2 : ¬ hi < x.toInt) (ho : offs[(x.toInt - lo).toNat]? = some off) (ht : (pc : Int) + off = (tgt : Int)) (k : ch_At X d y K tgt L S w) : ch_At X d y K pc L (.int x :: S) w := by
  intro p e s m args below meth c E H locs ls hP hS hl
  exact lv_tableIn E.1 E.2.1 hd h1 h2 ho ht (k p e s m args below meth c E H locs ls hP hS hl)

theorem ch_if_eq {x : Int32} {off : Int} (tgt : Nat) (hd : decode y.2.1 pc = .ok (.ifCond .eq off, 3)) (ht : (pc : Int) + off = (tgt : Int)) (kt : x = 0 → ch_At X d y K tgt L S w) (kf : ¬ x = 0 → ch_At X d y K (pc + 3) L S w) : ch_At X d y K pc L (.int x :: S) w := by
  intro p e s m args below meth c E H locs ls hP hS hl
  exact lv_if_eq E.1 E.2.1 hd ht (fun h => kt h p e s m args below meth c E H locs ls hP hS hl) (fun h => kf h p e s m args below meth c E H locs ls hP hS hl)
theorem ch_icmp_eq {x z : Int32} {off : Int} (tgt : Nat) (hd : decode y.2.1 pc = .ok (.if_icmp .eq off, 3)) (ht : (pc : Int) + off = (tgt : Int)) (kt : x = z → ch_At X d y K tgt L S w) (kf : ¬ x = z → ch_At X d y K (pc + 3) L S w) : ch_At X d y K pc L (.int z :: .int x :: S) w := by
  intro p e s m args below meth c E H locs ls hP hS hl
  exact lv_icmp_eq E.1 E.2.1 hd ht (fun h => kt h p e s m args below meth c E H locs ls hP hS hl) (fun h => kf h p e s m args below meth c E H locs ls hP hS hl)

theorem ch_if_ne {x : Int32} {off : Int} (tgt : Nat) (hd : decode y.2.1 pc = .ok (.ifCond .ne off, 3)) (ht : (pc : Int) + off = (tgt : Int)) (kt : ¬ x = 0 → ch_At X d y K tgt L S w) (kf : x = 0 → ch_At X d y K (pc + 3) L S w) : ch_At X d y K pc L (.int x :: S) w := by
  intro p e s m args below meth c E H locs ls hP hS hl
  exact lv_if_ne E.1 E.2.1 hd ht (fun h => kt h p e s m args below meth c E H locs ls hP hS hl) (fun h => kf h p e s m args below meth c E H locs ls hP hS hl)
theorem ch_icmp_ne {x z : Int32} {off : Int} (tgt : Nat) (hd : decode y.2.1 pc = .ok (.if_icmp .ne off, 3)) (ht : (pc : Int) + off = (tgt : Int)) (kt : ¬ x = z → ch_At X d y K tgt L S w) (kf : x = z → ch_At X d y K (pc + 3) L S w) : ch_At X d y K pc L (.int z :: .int x :: S) w := by
  intro p e s m args below meth c E H locs ls hP hS hl
  exact lv_icmp_ne E.1 E.2.1 hd ht (fun h => kt h p e s m args below meth c E H locs ls hP hS hl) (fun h => kf h p e s m args below meth c E H locs ls hP hS hl)

theorem ch_if_lt {x : Int32} {off : Int} (tgt : Nat) (hd : decode y.2.1 pc = .ok (.ifCond .lt off, 3)) (ht : (pc : Int) + off = (tgt : Int)) (kt : x < 0 → ch_At X d y K tgt L S w) (kf : ¬ x < 0 → ch_At X d y K (pc + 3) L S w) : ch_At X d y K pc L (.int x :: S) w := by
  intro p e s m args below meth c E H locs ls hP hS hl
  exact lv_if_lt E.1 E.2.1 hd ht (fun h => kt h p e s m args below meth c E H locs ls hP hS hl) (fun h => kf h p e s m args below meth c E H locs ls hP hS hl)
theorem ch_icmp_lt {x z : Int32} {off : Int} (tgt : Nat) (hd : decode y.2.1 pc = .ok (.if_icmp .lt off, 3)) (ht : (pc : Int) + off = (tgt : Int)) (kt : x < z → ch_At X d y K tgt L S w) (kf : ¬ x < z → ch_At X d y K (pc + 3) L S w) : ch_At X d y K pc L (.int z :: .int x :: S) w := by
  intro p e s m args below meth c E H locs ls hP hS hl
  exact lv_icmp_lt E.1 E.2.1 hd ht (fun h => kt h p e s m args below meth c E H locs ls hP hS hl) (fun h => kf h p e s m args below meth c E H locs ls hP hS hl)

theorem ch_if_ge {x : Int32} {off : Int} (tgt : Nat) (hd : decode y.2.1 pc = .ok (.ifCond .ge off, 3)) (ht : (pc : Int) + off = (tgt : Int)) (kt : 0 ≤ x → ch_At X d y K tgt L S w) (kf : ¬ 0 ≤ x → ch_At X d y K (pc + 3) L S w) : ch_At X d y K pc L (.int x :: S) w := by
  intro p e s m args below meth c E H locs ls hP hS hl
  exact lv_if_ge E.1 E.2.1 hd ht (fun h => kt h p e s m args below meth c E H locs ls hP hS hl) (fun h => kf h p e s m args below meth c E H locs ls hP hS hl)
theorem ch_icmp_ge {x z : Int32} {off : Int} (tgt : Nat) (hd : decode y.2.1 pc = .ok (.if_icmp .ge off, 3)) (ht : (pc : Int) + off = (tgt : Int)) (kt : z ≤ x → ch_At X d y K tgt L S w) (kf : ¬ z ≤ x → ch_At X d y K (pc + 3) L S w) : ch_At X d y K pc L (.int z :: .int x :: S) w := by
  intro p e s m args below meth c E H locs ls hP hS hl
  exact lv_icmp_ge E.1 E.2.1 hd ht (fun h => kt h p e s m args below meth c E H locs ls hP hS hl) (fun h => kf h p e s m args below meth c E H locs ls hP hS hl)

theorem ch_if_gt {x : Int32} {off : Int} (tgt : Nat) (hd : decode y.2.1 pc = .ok (.ifCond .gt off, 3)) (ht : (pc : Int) + off = (tgt : Int)) (kt : 0 < x → ch_At X d y K tgt L S w) (kf : ¬ 0 < x → ch_At X d y K (pc + 3) L S w) : ch_At X d y K pc L (.int x :: S) w := by
  intro p e s m args below meth c E H locs ls hP hS hl
  exact lv_if_gt E.1 E.2.1 hd ht (fun h => kt h p e s m args below meth c E H locs ls hP hS hl) (fun h => kf h p e s m args below meth c E H locs ls hP hS hl)
theorem ch_icmp_gt {x z : Int32} {off : Int} (tgt : Nat) (hd : decode y.2.1 pc = .ok (.if_icmp .gt off, 3)) (ht : (pc : Int) + off = (tgt : Int)) (kt : z < x → ch_At X d y K tgt L S w) (kf : ¬ z < x → ch_At X d y K (pc + 3) L S w) : ch_At X d y K pc L (.int z :: .int x :: S) w := by
  intro p e s m args below meth c E H locs ls hP hS hl
  exact lv_icmp_gt E.1 E.2.1 hd ht (fun h => kt h p e s m args below meth c E H locs ls hP hS hl) (fun h => kf h p e s m args below meth c E H locs ls hP hS hl)

theorem ch_if_le {x : Int32} {off : Int} (tgt : Nat) (hd : decode y.2.1 pc = .ok (.ifCond .le off, 3)) (ht : (pc : Int) + off = (tgt : Int)) (kt : x ≤ 0 → ch_At X d y K tgt L S w) (kf : ¬ x ≤ 0 → ch_At X d y K (pc + 3) L S w) : ch_At X d y K pc L (.int x :: S) w := by
  intro p e s m args below meth c E H locs ls hP hS hl
  exact lv_if_le E.1 E.2.1 hd ht (fun h => kt h p e s m args below meth c E H locs ls hP hS hl) (fun h => kf h p e s m args below meth c E H locs ls hP hS hl)
theorem ch_icmp_le {x z : Int32} {off : Int} (tgt : Nat) (hd : decode y.2.1 pc = .ok (.if_icmp .le off, 3)) (ht : (pc : Int) + off = (tgt : Int)) (kt : x ≤ z → ch_At X d y K tgt L S w) (kf : ¬ x ≤ z → ch_At X d y K (pc + 3) L S w) : ch_At X d y K pc L (.int z :: .int x :: S) w := by
  intro p e s m args below meth c E H locs ls hP hS hl
  exact lv_icmp_le E.1 E.2.1 hd ht (fun h => kt h p e s m args below meth c E H locs ls hP hS hl) (fun h => kf h p e s m args below meth c E H locs ls hP hS hl)

end CHR

