/-! ===== the whole-number engine: values, worlds and conditions in Int ===== -/
abbrev ck_V : Type := Int ⊕ (Int ⊕ Nat)
abbrev ck_W : Type := Nat → Int → Int
abbrev ck_L : Type := List (Option ck_V)
def ck_v (v : ck_V) : Value := match v with
  | .inl e => .int (Int32.ofInt e)
  | .inr (.inl e) => .long (Int64.ofInt e)
  | .inr (.inr k) => .ref k
abbrev ck_i (e : Int) : Prop := -2147483648 ≤ e ∧ e ≤ 2147483647
abbrev ck_l (e : Int) : Prop := -9223372036854775808 ≤ e ∧ e ≤ 9223372036854775807
def ck_ov (v : ck_V) : Prop := match v with
  | .inl e => ck_i e
  | .inr (.inl e) => ck_l e
  | .inr (.inr _) => True
def ck_lok : ck_L → Prop
  | [] => True
  | none :: l => ck_lok l
  | some v :: l => ck_ov v ∧ ck_lok l
def ck_aok : List ck_V → Prop
  | [] => True
  | v :: l => ck_ov v ∧ ck_aok l
def ck_w (w : ck_W) : ch_W := (fun k j => Int32.ofInt (w k j), fun k j => Int64.ofInt (w k j))
def ck_lg (sh : List ch_D) (k : Nat) (j : Int) : Bool := match sh[k]? with
  | some (.inl (.long, _)) => true
  | some (.inr (_, fs)) => (match fs[j.toNat]? with
    | some (.inr (.inl _)) => true
    | _ => false)
  | _ => false
def ck_ok (sh : List ch_D) (w : ck_W) : Prop := ∀ k j, (ck_lg sh k j = true → ck_l (w k j)) ∧ (ck_lg sh k j = false → ck_i (w k j))
def ck_up (w : ck_W) (k : Nat) (i v : Int) : ck_W := fun a => if a = k then (fun j => if j = i then v else w k j) else w a
theorem ck_up_ne {w : ck_W} {k a : Nat} {i v : Int} (h : a ≠ k) : ck_up w k i v a = w a := by simp [ck_up, h]
theorem ck_up_at {w : ck_W} {k : Nat} {i j v : Int} : ck_up w k i v k j = if j = i then v else w k j := by simp [ck_up]
theorem ck_up_eq {w : ck_W} {k : Nat} {i v : Int} : ck_up w k i v k i = v := by simp [ck_up]
theorem ck_up_nj {w : ck_W} {k : Nat} {i j v : Int} (h : j ≠ i) : ck_up w k i v k j = w k j := by simp [ck_up, h]
theorem ck_i32 {e : Int} (h : ck_i e) : (Int32.ofInt e).toInt = e := by
  rw [Int32.toInt_ofInt]; exact ch_bm h
theorem ck_l64 {e : Int} (h : ck_l e) : (Int64.ofInt e).toInt = e := by
  have hs : Int64.size = 18446744073709551616 := rfl
  rw [Int64.toInt_ofInt, hs, Int.bmod_eq_of_le] <;> simp only [ck_l] at h <;> omega
theorem ck_rng (x : Int32) : ck_i x.toInt := ch_rng x
theorem ck_rngl (x : Int64) : ck_l x.toInt := ⟨by have := Int64.le_toInt x; simpa using this, by have := Int64.toInt_lt x; omega⟩
theorem ck_ws_c {X : ch_X} {w w' : ch_W} (h : ∀ a d, X.2.2.2.2.2[a]? = some d → ch_cell X w a d = ch_cell X w' a d) : ch_ws X w = ch_ws X w' := by
  apply List.ext_getElem?
  intro i
  simp only [ch_ws, List.getElem?_mapIdx]
  cases hd : X.2.2.2.2.2[i]? with
  | none => rfl
  | some d0 =>
    show some (_, _) = some (_, _)
    rw [h i d0 hd]
theorem ck_jn {i : Int} (hi : 0 ≤ i) {b : Nat} : (b = i.toNat) ↔ ((b : Int) = i) := by omega
theorem ck_ws_ai {X : ch_X} {w : ck_W} {k n : Nat} {ty : FieldType} {i v : Int} (hs : X.2.2.2.2.2[k]? = some (.inl (ty, n))) (ht : ty ≠ .long) (hi : 0 ≤ i) : ch_ws X (ch_ui (ck_w w) k i.toNat (Int32.ofInt v)) = ch_ws X (ck_w (ck_up w k i v)) := by
  refine ck_ws_c (fun a d hd => ?_)
  by_cases ha : a = k
  · subst ha
    rw [hs] at hd
    cases hd
    have : (ch_ui (ck_w w) a i.toNat (Int32.ofInt v)).1 a = (ck_w (ck_up w a i v)).1 a := by
      funext b
      simp only [ch_ui, ck_w, ck_up_at, ck_jn hi, true_and]
      split <;> rfl
    cases ty <;> first | exact absurd rfl ht | (simp only [ch_cell, this])
  · exact ch_cell_ne d (by funext b; simp [ch_ui, ck_w, ck_up, ha]) (by funext b; simp [ch_ui, ck_w, ck_up, ha])
theorem ck_ws_al {X : ch_X} {w : ck_W} {k n : Nat} {i v : Int} (hs : X.2.2.2.2.2[k]? = some (.inl (.long, n))) (hi : 0 ≤ i) : ch_ws X (ch_ul (ck_w w) k i.toNat (Int64.ofInt v)) = ch_ws X (ck_w (ck_up w k i v)) := by
  refine ck_ws_c (fun a d hd => ?_)
  by_cases ha : a = k
  · subst ha
    rw [hs] at hd
    cases hd
    have : (ch_ul (ck_w w) a i.toNat (Int64.ofInt v)).2 a = (ck_w (ck_up w a i v)).2 a := by
      funext b
      simp only [ch_ul, ck_w, ck_up_at, ck_jn hi, true_and]
      split <;> rfl
    simp only [ch_cell, this]
  · exact ch_cell_ne d (by funext b; simp [ch_ul, ck_w, ck_up, ha]) (by funext b; simp [ch_ul, ck_w, ck_up, ha])
theorem ck_fs_c {fs : List ch_F} {g g' : Nat → ch_F → Value} (h : ∀ j f, fs[j]? = some f → g j f = g' j f) : fs.mapIdx g = fs.mapIdx g' := by
  apply List.ext_getElem?
  intro i
  simp only [List.getElem?_mapIdx]
  cases hd : fs[i]? with
  | none => rfl
  | some f => show some _ = some _; rw [h i f hd]
theorem ck_ws_fi {X : ch_X} {w : ck_W} {k ci j : Nat} {fs : List ch_F} {v : Int} (hs : X.2.2.2.2.2[k]? = some (.inr (ci, fs))) (hf : fs[j]? = some (.inl ())) : ch_ws X (ch_ui (ck_w w) k j (Int32.ofInt v)) = ch_ws X (ck_w (ck_up w k (j : Int) v)) := by
  refine ck_ws_c (fun a d hd => ?_)
  by_cases ha : a = k
  · subst ha
    rw [hs] at hd
    cases hd
    simp only [ch_cell]
    rw [ck_fs_c (g' := fun j' f => ch_fv X (ck_w (ck_up w a (j : Int) v)) a j' f) ?_]
    intro b f hb
    by_cases hbj : b = j
    · subst hbj
      rw [hf] at hb
      cases hb
      simp [ch_fv, ch_ui, ck_w, ck_up_at]
    · rcases f with f | f | f <;> simp [ch_fv, ch_ui, ck_w, ck_up_at, hbj, Int.ofNat_inj]
  · exact ch_cell_ne d (by funext b; simp [ch_ui, ck_w, ck_up, ha]) (by funext b; simp [ch_ui, ck_w, ck_up, ha])
theorem ck_ws_fl {X : ch_X} {w : ck_W} {k ci j : Nat} {fs : List ch_F} {v : Int} (hs : X.2.2.2.2.2[k]? = some (.inr (ci, fs))) (hf : fs[j]? = some (.inr (.inl ()))) : ch_ws X (ch_ul (ck_w w) k j (Int64.ofInt v)) = ch_ws X (ck_w (ck_up w k (j : Int) v)) := by
  refine ck_ws_c (fun a d hd => ?_)
  by_cases ha : a = k
  · subst ha
    rw [hs] at hd
    cases hd
    simp only [ch_cell]
    rw [ck_fs_c (g' := fun j' f => ch_fv X (ck_w (ck_up w a (j : Int) v)) a j' f) ?_]
    intro b f hb
    by_cases hbj : b = j
    · subst hbj
      rw [hf] at hb
      cases hb
      simp [ch_fv, ch_ul, ck_w, ck_up_at]
    · rcases f with f | f | f <;> simp [ch_fv, ch_ul, ck_w, ck_up_at, hbj, Int.ofNat_inj]
  · exact ch_cell_ne d (by funext b; simp [ch_ul, ck_w, ck_up, ha]) (by funext b; simp [ch_ul, ck_w, ck_up, ha])
theorem ck_ok_up {sh : List ch_D} {w : ck_W} {k : Nat} {i v : Int} (h : ck_ok sh w) (hl : ck_lg sh k i = true → ck_l v) (hi : ck_lg sh k i = false → ck_i v) : ck_ok sh (ck_up w k i v) := by
  intro a j
  by_cases ha : a = k
  · subst ha
    rw [ck_up_at]
    by_cases hj : j = i
    · subst hj; rw [if_pos rfl]; exact ⟨hl, hi⟩
    · rw [if_neg hj]; exact h a j
  · rw [ck_up_ne ha]; exact h a j
/-- answer and world of a method, in whole numbers -/
def ck_K (X : ch_X) (K : Option ck_V → ck_W → Prop) : Option Value → ch_W → Prop := fun r w0 => ∃ (r' : Option ck_V) (w' : ck_W), r = r'.map ck_v ∧ ch_ws X w0 = ch_ws X (ck_w w') ∧ ck_ok X.2.2.2.2.2 w' ∧ ck_aok r'.toList ∧ K r' w'
def ck_At (X : ch_X) (d : Nat) (y : ch_M) (K : Option ck_V → ck_W → Prop) (pc : Nat) (L : ck_L) (S : List ck_V) (w : ck_W) : Prop :=
  ck_ok X.2.2.2.2.2 w → ck_lok L → ch_At X d y (ck_K X K) pc (L.map (Option.map ck_v)) (S.map ck_v) (ck_w w)
def ck_Ex (X : ch_X) (d : Nat) (y : ch_M) (args : List ck_V) (w : ck_W) (K : Option ck_V → ck_W → Prop) : Prop :=
  ck_ok X.2.2.2.2.2 w → ck_aok args → ch_Ex X d y (args.map ck_v) (ck_w w) (ck_K X K)
theorem ck_tr {X : ch_X} {d : Nat} {y : ch_M} {K : Option Value → ch_W → Prop} {pc : Nat} {L : ch_Lo} {S : List Value} {w1 w2 : ch_W} (h : ch_ws X w1 = ch_ws X w2) (k : ch_At X d y K pc L S w2) : ch_At X d y K pc L S w1 := by
  intro p e s m args below meth c E H locs ls hP hS hl
  refine k p e s m args below meth c E H locs ls ?_ hS hl
  show va_P X.2.1 vwCl (ch_ws X w2) H
  rw [← h]
  exact hP
theorem ck_exm {X : ch_X} {d : Nat} {z : ch_M} {As : List Value} {w : ch_W} {K K' : Option Value → ch_W → Prop} (h : ch_Ex X d z As w K) (hm : ∀ r w', K r w' → K' r w') : ch_Ex X d z As w K' :=
fun p e h1 h2 h3 s m args below h4 h5 h6 h7 => by
  obtain ⟨n, o, a1, a2, a3, ⟨⟨⟨r, w', b1, b2, b3⟩, b4⟩, b5⟩⟩ := h p e h1 h2 h3 s m args below h4 h5 h6 h7
  exact ⟨n, o, a1, a2, a3, ⟨⟨⟨r, w', b1, hm _ _ b2, b3⟩, b4⟩, b5⟩⟩
theorem ck_mono {X : ch_X} {d : Nat} {z : ch_M} {As : List ck_V} {w : ck_W} {K K' : Option ck_V → ck_W → Prop} (h : ck_Ex X d z As w K) (hm : ∀ r w', ck_ok X.2.2.2.2.2 w' → ck_aok r.toList → K r w' → K' r w') : ck_Ex X d z As w K' :=
  fun hw ha => ck_exm (h hw ha) (fun _ _ ⟨r', w', h1, h2, h3, h4, h5⟩ => ⟨r', w', h1, h2, h3, h4, hm r' w' h3 h4 h5⟩)
theorem ck_lget {L : ck_L} {i : Nat} {v : ck_V} (h : L[i]? = some (some v)) : (L.map (Option.map ck_v))[i]? = some (some (ck_v v)) := by
  rw [List.getElem?_map, h]; rfl
theorem ck_lset {L : ck_L} {i : Nat} {v : ck_V} : (L.map (Option.map ck_v)).set i (some (ck_v v)) = (L.set i (some v)).map (Option.map ck_v) := by
  rw [List.map_set]; rfl
theorem ck_lset2 {L : ck_L} {i : Nat} {v : ck_V} : ((L.map (Option.map ck_v)).set i (some (ck_v v))).set (i + 1) none = ((L.set i (some v)).set (i + 1) none).map (Option.map ck_v) := by
  rw [List.map_set, List.map_set]; rfl
theorem ck_lok_set : ∀ {L : ck_L} {i : Nat} {v : ck_V}, ck_lok L → ck_ov v → ck_lok (L.set i (some v))
  | [], _, _, _, _ => trivial
  | none :: _, 0, _, h, hv => ⟨hv, h⟩
  | some _ :: _, 0, _, h, hv => ⟨hv, h.2⟩
  | none :: l, _ + 1, _, h, hv => ck_lok_set (L := l) h hv
  | some _ :: _, _ + 1, _, h, hv => ⟨h.1, ck_lok_set h.2 hv⟩
theorem ck_lok_none : ∀ {L : ck_L} {i : Nat}, ck_lok L → ck_lok (L.set i none)
  | [], _, _ => trivial
  | none :: _, 0, h => h
  | some _ :: _, 0, h => h.2
  | none :: l, _ + 1, h => ck_lok_none (L := l) h
  | some _ :: _, _ + 1, h => ⟨h.1, ck_lok_none h.2⟩
def ck_n2 (L : ck_L) (i : Nat) : Bool := match i with
  | 0 => true
  | j + 1 => match L[j]? with
    | some (some (.inr (.inl _))) => false
    | _ => true
theorem ck_n2h {L : ck_L} {i : Nat} (h : ck_n2 L i = true) : ch_n2 (L.map (Option.map ck_v)) i = true := by
  cases i with
  | zero => rfl
  | succ j =>
    simp only [ck_n2] at h
    simp only [ch_n2, List.getElem?_map]
    rcases hj : L[j]? with _ | (_ | (e | e | e)) <;> simp only [hj] at h ⊢ <;> first | rfl | exact absurd h (by decide)
/-- fewer locals known -/
def ck_le : ck_L → ck_L → Prop
  | [], _ => True
  | none :: a, _ :: b => ck_le a b
  | some v :: a, some u :: b => v = u ∧ ck_le a b
  | _, _ => False
theorem ck_le_at : ∀ {a b : ck_L} {i : Nat} {v : ck_V}, ck_le a b → a[i]? = some (some v) → b[i]? = some (some v)
  | [], _, _, _, _, h => by simp at h
  | none :: a, [], _, _, h, _ => absurd h (by simp [ck_le])
  | some _ :: a, [], _, _, h, _ => absurd h (by simp [ck_le])
  | some _ :: a, none :: b, _, _, h, _ => absurd h (by simp [ck_le])
  | none :: a, _ :: b, 0, _, _, h => by simp at h
  | none :: a, _ :: b, i + 1, _, h, hi => by simpa using ck_le_at (a := a) (b := b) (i := i) (by simpa [ck_le] using h) (by simpa using hi)
  | some _ :: a, some _ :: b, 0, _, h, hi => by
    have := h.1
    subst this
    simpa using hi
  | some _ :: a, some _ :: b, i + 1, _, h, hi => by simpa using ck_le_at (a := a) (b := b) (i := i) h.2 (by simpa using hi)
theorem ck_le_ok : ∀ {a b : ck_L}, ck_le a b → ck_lok b → ck_lok a
  | [], _, _, _ => trivial
  | none :: a, [], h, _ => absurd h (by simp [ck_le])
  | some _ :: a, [], h, _ => absurd h (by simp [ck_le])
  | some _ :: a, none :: b, h, _ => absurd h (by simp [ck_le])
  | none :: a, none :: b, h, hb => ck_le_ok (a := a) (b := b) (by simpa [ck_le] using h) hb
  | none :: a, some _ :: b, h, hb => ck_le_ok (a := a) (b := b) (by simpa [ck_le] using h) hb.2
  | some _ :: a, some _ :: b, h, hb => ⟨by rw [h.1]; exact hb.1, ck_le_ok h.2 hb.2⟩
theorem ck_drop {X : ch_X} {d : Nat} {y : ch_M} {K : Option ck_V → ck_W → Prop} {pc : Nat} {L : ck_L} {S : List ck_V} {w : ck_W} (L' : ck_L) (h : ck_le L' L) (k : ck_At X d y K pc L' S w) : ck_At X d y K pc L S w := by
  intro hw hl p e s m args below meth c E H locs ls hP hS h2
  refine k hw (ck_le_ok h hl) p e s m args below meth c E H locs ls hP hS (ch_has h2 (fun q hq => ?_))
  obtain ⟨j, u, h3, rfl⟩ := ch_as_mem.mp hq
  rw [List.getElem?_map] at h3
  rcases hj : L'[j]? with _ | (_ | v)
  · rw [hj] at h3; cases h3
  · rw [hj] at h3; cases h3
  · rw [hj] at h3
    cases h3
    exact ch_as_mem.mpr ⟨j, ck_v v, ck_lget (ck_le_at h hj), rfl⟩
theorem ck_ofWF {l : Launch} {y : MethodName} {ws ws' : List Cond} {rm : Room} {Pc : Array Value → State → Prop} {Qc : Array Value → State → Outcome → State → Prop} {mc ms : Nat} {free : Addr → Prop} {cc : ByteArray} {maxL : Nat} {ret : Option FieldType} (hy : plainFor y = true) (hw : ws = Cond.code y cc maxL ret :: ws')
    (body : ∀ p e s m args below meth c s₁, BodyLoose p l y (headSpec ws rm) cc maxL ret e s m args below meth c s₁ → c.maxLocals = maxL → Pc args s → W p l e (headSpec ws rm).room s m args below meth c s.heap [] 0 0 (MQ below Qc args s mc ms free) (entryFrame m args maxL)) : Met l y ws rm Pc Qc mc ms free := by
  refine MetFree.of_bodySF (code := cc) (maxLocals := maxL) (ret := ret) hy (fun args s m h hn => ?_) (fun p e s m args below meth c s₁ B hml hP _ => ?_)
  · obtain ⟨meth, c, h1, h2, h3, h4, h5, h6, -, -⟩ := Cond.code_spec hn (atoms_spec (ws := ws) h _ (by rw [hw]; exact List.mem_cons_self))
    exact ⟨meth, c, h1, h2, h3, h4, h5, h6⟩
  · have hh0 : s₁.heap = s.heap := by rw [B.state]; rfl
    obtain ⟨t, a1, o, b1, b2, b3⟩ := body p e s m args below meth c s₁ B hml hP s₁ hh0 (Stand.of_body B)
    exact ⟨t, o, a1, b1, b2, ⟨b3.1, b3.2⟩⟩
theorem ck_chentry {X : ch_X} (hO : ch_Ok X) {d : Nat} {y : ch_M} {args : List Value} {w : ch_W} {K : Option Value → ch_W → Prop} (L : ch_Lo) (hy : plainFor y.1 = true) (hn : (lg_sl (args.map (ch_re X))).length ≤ y.2.2.1) (hL : ch_as X 0 L = lv_args 0 (args.map (ch_re X)))
    (k : ch_At X d y K 0 L [] w) : ch_Ex X d y args w K := by
  refine ck_ofWF (cc := y.2.1) (maxL := y.2.2.1) (ret := y.2.2.2) (ws' := ch_T) hy rfl ?_
  intro p e s m args' below meth c s₁ B hml hv
  obtain ⟨rfl, hP, hB, hK, hN⟩ := hv
  have hts := atoms_spec (ws := ch_wd y) B.pre
  have hown : s.vm.findClass y.1.cls = some m.cls := findClass_of_methodNamed B.named
  have hl := lv_entry (args.map (ch_re X)) (n := y.2.2.1) hn
  rw [lg_entry_eq]
  generalize (lg_sl (args.map (ch_re X)) ++ List.replicate (y.2.2.1 - (lg_sl (args.map (ch_re X))).length) Slot.unset).toArray = ls at hl ⊢
  rw [← hL] at hl
  exact k p e s m _ below meth c ⟨B.exec, B.bytes, B.returns, hml, fun w h => hts w (List.mem_cons_of_mem _ h), hown, B.notSynchronized, hK, hB, hO, hN⟩ s.heap [] ls hP va_S.rf hl
theorem ck_entryF {X : ch_X} (hO : ch_Ok X) {d : Nat} {y : ch_M} {args : List ck_V} {w : ck_W} {K : Option ck_V → ck_W → Prop} (L : ck_L) (hy : plainFor y.1 = true) (hn : (lg_sl ((args.map ck_v).map (ch_re X))).length ≤ y.2.2.1) (hL : ch_as X 0 (L.map (Option.map ck_v)) = lv_args 0 ((args.map ck_v).map (ch_re X))) (ho : ck_aok args → ck_lok L)
    (k : ck_At X d y K 0 L [] w) : ck_Ex X d y args w K :=
  fun hw ha => ck_chentry hO _ hy hn hL (k hw (ho ha))
theorem ck_entry {X : ch_X} (hO : ch_Ok X) {d : Nat} {y : ch_M} {args : List ck_V} {w : ck_W} {K : Option ck_V → ck_W → Prop} (L : ck_L) (hy : plainName y.1.cls = true) (hn : (lg_sl ((args.map ck_v).map (ch_re X))).length ≤ y.2.2.1) (hL : ch_as X 0 (L.map (Option.map ck_v)) = lv_args 0 ((args.map ck_v).map (ch_re X))) (ho : ck_aok args → ck_lok L)
    (k : ck_At X d y K 0 L [] w) : ck_Ex X d y args w K :=
  fun hw ha => ch_entry hO _ hy hn hL (k hw (ho ha))
theorem ck_in {X : ch_X} {d : Nat} {y : ch_M} {K : Option ck_V → ck_W → Prop} {pc : Nat} {L : ck_L} {S : List ck_V} {w : ck_W} (h : ck_lok L → ck_At X d y K pc L S w) : ck_At X d y K pc L S w := fun hw hl => h hl hw hl
theorem ck_nmw {X : ch_X} {d : Nat} {y : ch_M} {K : Option ck_V → ck_W → Prop} {pc : Nat} {L : ck_L} {S : List ck_V} {e : ck_W} (h : ∀ u, u = e → ck_At X d y K pc L S u) : ck_At X d y K pc L S e := h e rfl
theorem ck_nmi {X : ch_X} {d : Nat} {y : ch_M} {K : Option ck_V → ck_W → Prop} {pc : Nat} {L : ck_L} {S : List ck_V} {w : ck_W} {e : Int} (h : ∀ u, u = e → ck_At X d y K pc L (.inl u :: S) w) : ck_At X d y K pc L (.inl e :: S) w := h e rfl
theorem ck_nml {X : ch_X} {d : Nat} {y : ch_M} {K : Option ck_V → ck_W → Prop} {pc : Nat} {L : ck_L} {S : List ck_V} {w : ck_W} {e : Int} (h : ∀ u, u = e → ck_At X d y K pc L (.inr (.inl u) :: S) w) : ck_At X d y K pc L (.inr (.inl e) :: S) w := h e rfl
def ck_and (a b : Int) : Int := (Int32.ofInt a &&& Int32.ofInt b).toInt
def ck_or (a b : Int) : Int := (Int32.ofInt a ||| Int32.ofInt b).toInt
def ck_xor (a b : Int) : Int := (Int32.ofInt a ^^^ Int32.ofInt b).toInt
def ck_shl (a b : Int) : Int := (Int32.ofInt a <<< (Int32.ofInt b &&& 31)).toInt
def ck_shr (a b : Int) : Int := (Int32.ofInt a >>> (Int32.ofInt b &&& 31)).toInt
def ck_ushr (a b : Int) : Int := ((Int32.ofInt a).toUInt32 >>> ((Int32.ofInt b).toUInt32 &&& Int32.toUInt32 31)).toInt32.toInt
def ck_i2c (a : Int) : Int := ((Int32.ofInt a).toUInt32 % 65536).toInt32.toInt
def ck_Land (a b : Int) : Int := (Int64.ofInt a &&& Int64.ofInt b).toInt
def ck_Lor (a b : Int) : Int := (Int64.ofInt a ||| Int64.ofInt b).toInt
def ck_Lshl (a b : Int) : Int := (Int64.ofInt a <<< ((Int32.ofInt b).toInt64 &&& 63)).toInt
def ck_cmp (a b : Int) : Int := if a < b then -1 else if a = b then 0 else 1
theorem ck_cmp_lt {a b : Int} : ck_cmp a b < 0 ↔ a < b := by unfold ck_cmp; split <;> (try split) <;> omega
theorem ck_cmp_ge {a b : Int} : 0 ≤ ck_cmp a b ↔ b ≤ a := by unfold ck_cmp; split <;> (try split) <;> omega
theorem ck_cmp_le {a b : Int} : ck_cmp a b ≤ 0 ↔ a ≤ b := by unfold ck_cmp; split <;> (try split) <;> omega
theorem ck_cmp_gt {a b : Int} : 0 < ck_cmp a b ↔ b < a := by unfold ck_cmp; split <;> (try split) <;> omega
theorem ck_cmp_eq {a b : Int} : ck_cmp a b = 0 ↔ a = b := by unfold ck_cmp; split <;> (try split) <;> omega
theorem ck_cmp_i {a b : Int} : ck_i (ck_cmp a b) := by unfold ck_cmp; split <;> (try split) <;> constructor <;> omega
theorem ck_cmp_of {a b : Int} (ha : ck_l a) (hb : ck_l b) : lg_cmp (Int64.ofInt a) (Int64.ofInt b) = Int32.ofInt (ck_cmp a b) := by
  have h3 : (Int64.ofInt a > Int64.ofInt b) ↔ b < a := by show Int64.ofInt b < Int64.ofInt a ↔ _; rw [Int64.lt_iff_toInt_lt, ck_l64 ha, ck_l64 hb]
  have h2 : (Int64.ofInt a = Int64.ofInt b) ↔ a = b := by rw [← Int64.toInt_inj, ck_l64 ha, ck_l64 hb]
  unfold ck_cmp
  rcases Int.lt_trichotomy a b with h | h | h
  · rw [if_pos h]; unfold lg_cmp; rw [if_neg (fun q => by have := h3.mp q; omega), if_neg (fun q => by have := h2.mp q; omega)]; rfl
  · rw [if_neg (by omega), if_pos h]; unfold lg_cmp; rw [if_neg (fun q => by have := h3.mp q; omega), if_pos (h2.mpr h)]; rfl
  · rw [if_neg (by omega), if_neg (by omega)]; unfold lg_cmp; rw [if_pos (h3.mpr h)]; rfl
theorem ck_lt32 {a b : Int} (ha : ck_i a) (hb : ck_i b) : (Int32.ofInt a < Int32.ofInt b) ↔ a < b := by rw [Int32.lt_iff_toInt_lt, ck_i32 ha, ck_i32 hb]
theorem ck_le32 {a b : Int} (ha : ck_i a) (hb : ck_i b) : (Int32.ofInt a ≤ Int32.ofInt b) ↔ a ≤ b := by rw [Int32.le_iff_toInt_le, ck_i32 ha, ck_i32 hb]
theorem ck_eq32 {a b : Int} (ha : ck_i a) (hb : ck_i b) : (Int32.ofInt a = Int32.ofInt b) ↔ a = b := by rw [← Int32.toInt_inj, ck_i32 ha, ck_i32 hb]
theorem ck_i0 : ck_i 0 := by decide
theorem ck_div32 {a b : Int} (ha : ck_i a) (hb : ck_i b) : Int32.ofInt a / Int32.ofInt b = Int32.ofInt (a.tdiv b) := by
  rw [← Int32.toInt_inj, Int32.toInt_div, ck_i32 ha, ck_i32 hb, Int32.toInt_ofInt]
theorem ck_div64 {a b : Int} (ha : ck_l a) (hb : ck_l b) : Int64.ofInt a / Int64.ofInt b = Int64.ofInt (a.tdiv b) := by
  rw [← Int64.toInt_inj, Int64.toInt_div, ck_l64 ha, ck_l64 hb, Int64.toInt_ofInt]
theorem ck_rem (a b : Int) : a - a.tdiv b * b = a.tmod b := by
  have := Int.mul_tdiv_add_tmod a b
  rw [Int.mul_comm] at this
  omega
theorem ck_i2l_e {e : Int} (h : ck_i e) : (Int32.ofInt e).toInt64 = Int64.ofInt e := by
  rw [← Int64.toInt_inj, Int32.toInt_toInt64, ck_i32 h, ck_l64]
  simp only [ck_i] at h; constructor <;> omega
theorem ck_l2i_e (e : Int) : (Int64.ofInt e).toInt32 = Int32.ofInt e := by
  rw [← Int32.toInt_inj, Int64.toInt_toInt32, Int64.toInt_ofInt, Int32.toInt_ofInt]
  exact Int.bmod_bmod_of_dvd (by decide)
theorem ck_nat {n : Nat} (v : Int) (h : (n : Int) = v) : Int32.ofNat n = Int32.ofInt v := by rw [← h]; rfl
section CKR
variable {X : ch_X} {d : Nat} {y : ch_M} {K : Option ck_V → ck_W → Prop} {pc : Nat} {L : ck_L} {S : List ck_V} {w : ck_W}

theorem ck_iconst (nx : Nat) (hp : pc + 1 = nx) {n : Int} (hd : decode y.2.1 pc = .ok (.iconst n, 1)) (hv : Int32.ofInt n = Int32.ofInt n) (k : ck_At X d y K nx L (.inl n :: S) w) : ck_At X d y K pc L S w := by
  intro hw hl
  subst hp; exact ch_iconst _ hd hv (k hw hl)
theorem ck_bipush (nx : Nat) (hp : pc + 2 = nx) {n : Int} (hd : decode y.2.1 pc = .ok (.bipush n, 2)) (hv : (Int8.ofInt n).toInt32 = Int32.ofInt n) (k : ck_At X d y K nx L (.inl n :: S) w) : ck_At X d y K pc L S w := by
  intro hw hl
  subst hp; exact ch_bipush _ hd hv (k hw hl)
theorem ck_sipush (nx : Nat) (hp : pc + 3 = nx) {n : Int} (hd : decode y.2.1 pc = .ok (.sipush n, 3)) (hv : (Int16.ofInt n).toInt32 = Int32.ofInt n) (k : ck_At X d y K nx L (.inl n :: S) w) : ck_At X d y K pc L S w := by
  intro hw hl
  subst hp; exact ch_sipush _ hd hv (k hw hl)
theorem ck_lconst (nx : Nat) (hp : pc + 1 = nx) {n : Fin 2} (e : Int) (hd : decode y.2.1 pc = .ok (.lconst n, 1)) (hv : Int64.ofNat (n : Nat) = Int64.ofInt e) (k : ck_At X d y K nx L (.inr (.inl e) :: S) w) : ck_At X d y K pc L S w := by
  intro hw hl
  subst hp; exact ch_lconst _ hd hv (k hw hl)
theorem ck_ldc (nx : Nat) (hp : pc + 2 = nx) {index : Nat} {v : Int32} (e : Int) (hc : Jvm.Cond.constant y.1.cls index v ∈ ch_T) (hd : decode y.2.1 pc = .ok (.ldc index, 2)) (hv : v = Int32.ofInt e) (k : ck_At X d y K nx L (.inl e :: S) w) : ck_At X d y K pc L S w := by
  intro hw hl
  subst hp; subst hv; exact ch_ldc hc hd (k hw hl)
theorem ck_ldcw (nx : Nat) (hp : pc + 3 = nx) {index : Nat} {v : Int32} (e : Int) (hc : Jvm.Cond.constant y.1.cls index v ∈ ch_T) (hd : decode y.2.1 pc = .ok (.ldc_w index, 3)) (hv : v = Int32.ofInt e) (k : ck_At X d y K nx L (.inl e :: S) w) : ck_At X d y K pc L S w := by
  intro hw hl
  subst hp; subst hv; exact ch_ldcw hc hd (k hw hl)
theorem ck_ldc2 (nx : Nat) (hp : pc + 3 = nx) {index : Nat} {v : Int64} (e : Int) (hc : Jvm.Cond.constantLong y.1.cls index v ∈ ch_T) (hd : decode y.2.1 pc = .ok (.ldc2_w index, 3)) (hv : v = Int64.ofInt e) (k : ck_At X d y K nx L (.inr (.inl e) :: S) w) : ck_At X d y K pc L S w := by
  intro hw hl
  subst hp; subst hv; exact ch_ldc2 hc hd (k hw hl)
theorem ck_iload_n (nx : Nat) (hp : pc + 1 = nx) {q : Fin 4} {e : Int} (i : Nat) (hd : decode y.2.1 pc = .ok (.iload_n q, 1)) (hi : (q : Nat) = i) (hL : L[i]? = some (some (.inl e))) (k : ck_At X d y K nx L (.inl e :: S) w) : ck_At X d y K pc L S w := by
  intro hw hl
  subst hp; exact ch_iload_n i hd hi (ck_lget hL) (k hw hl)
theorem ck_iload (nx : Nat) (hp : pc + 2 = nx) {i : Nat} {e : Int} (hd : decode y.2.1 pc = .ok (.iload i, 2)) (hL : L[i]? = some (some (.inl e))) (k : ck_At X d y K nx L (.inl e :: S) w) : ck_At X d y K pc L S w := by
  intro hw hl
  subst hp; exact ch_iload hd (ck_lget hL) (k hw hl)
theorem ck_istore_n (nx : Nat) (hp : pc + 1 = nx) {q : Fin 4} {e : Int} (i : Nat) (L' : ck_L) (hd : decode y.2.1 pc = .ok (.istore_n q, 1)) (hi : (q : Nat) = i) (hn : i < y.2.2.1) (h2 : ck_n2 L i = true) (hL : L.set i (some (.inl e)) = L') (he : ck_i e) (k : ck_At X d y K nx L' S w) : ck_At X d y K pc L (.inl e :: S) w := by
  intro hw hl
  subst hp; subst hL; exact ch_istore_n i _ hd hi hn (ck_n2h h2) (ck_lset (v := .inl e)) (k hw (ck_lok_set hl he))
theorem ck_istore (nx : Nat) (hp : pc + 2 = nx) {i : Nat} {e : Int} (L' : ck_L) (hd : decode y.2.1 pc = .ok (.istore i, 2)) (hn : i < y.2.2.1) (h2 : ck_n2 L i = true) (hL : L.set i (some (.inl e)) = L') (he : ck_i e) (k : ck_At X d y K nx L' S w) : ck_At X d y K pc L (.inl e :: S) w := by
  intro hw hl
  subst hp; subst hL; exact ch_istore _ hd hn (ck_n2h h2) (ck_lset (v := .inl e)) (k hw (ck_lok_set hl he))
theorem ck_lload_n (nx : Nat) (hp : pc + 1 = nx) {q : Fin 4} {e : Int} (i : Nat) (hd : decode y.2.1 pc = .ok (.lload_n q, 1)) (hi : (q : Nat) = i) (hL : L[i]? = some (some (.inr (.inl e)))) (k : ck_At X d y K nx L (.inr (.inl e) :: S) w) : ck_At X d y K pc L S w := by
  intro hw hl
  subst hp; exact ch_lload_n i hd hi (ck_lget hL) (k hw hl)
theorem ck_lload (nx : Nat) (hp : pc + 2 = nx) {i : Nat} {e : Int} (hd : decode y.2.1 pc = .ok (.lload i, 2)) (hL : L[i]? = some (some (.inr (.inl e)))) (k : ck_At X d y K nx L (.inr (.inl e) :: S) w) : ck_At X d y K pc L S w := by
  intro hw hl
  subst hp; exact ch_lload hd (ck_lget hL) (k hw hl)
theorem ck_lstore_n (nx : Nat) (hp : pc + 1 = nx) {q : Fin 4} {e : Int} (i : Nat) (L' : ck_L) (hd : decode y.2.1 pc = .ok (.lstore_n q, 1)) (hi : (q : Nat) = i) (hn : i + 1 < y.2.2.1) (h2 : ck_n2 L i = true) (hL : (L.set i (some (.inr (.inl e)))).set (i + 1) none = L') (he : ck_l e) (k : ck_At X d y K nx L' S w) : ck_At X d y K pc L (.inr (.inl e) :: S) w := by
  intro hw hl
  subst hp; subst hL; exact ch_lstore_n i _ hd hi hn (ck_n2h h2) (ck_lset2 (v := .inr (.inl e))) (k hw (ck_lok_none (ck_lok_set hl he)))
theorem ck_lstore (nx : Nat) (hp : pc + 2 = nx) {i : Nat} {e : Int} (L' : ck_L) (hd : decode y.2.1 pc = .ok (.lstore i, 2)) (hn : i + 1 < y.2.2.1) (h2 : ck_n2 L i = true) (hL : (L.set i (some (.inr (.inl e)))).set (i + 1) none = L') (he : ck_l e) (k : ck_At X d y K nx L' S w) : ck_At X d y K pc L (.inr (.inl e) :: S) w := by
  intro hw hl
  subst hp; subst hL; exact ch_lstore _ hd hn (ck_n2h h2) (ck_lset2 (v := .inr (.inl e))) (k hw (ck_lok_none (ck_lok_set hl he)))
theorem ck_aload_n (nx : Nat) (hp : pc + 1 = nx) {q : Fin 4} {e : Nat} (i : Nat) (hd : decode y.2.1 pc = .ok (.aload_n q, 1)) (hi : (q : Nat) = i) (hL : L[i]? = some (some (.inr (.inr e)))) (k : ck_At X d y K nx L (.inr (.inr e) :: S) w) : ck_At X d y K pc L S w := by
  intro hw hl
  subst hp; exact ch_aload_n i hd hi (ck_lget hL) (k hw hl)
theorem ck_aload (nx : Nat) (hp : pc + 2 = nx) {i : Nat} {e : Nat} (hd : decode y.2.1 pc = .ok (.aload i, 2)) (hL : L[i]? = some (some (.inr (.inr e)))) (k : ck_At X d y K nx L (.inr (.inr e) :: S) w) : ck_At X d y K pc L S w := by
  intro hw hl
  subst hp; exact ch_aload hd (ck_lget hL) (k hw hl)
theorem ck_astore_n (nx : Nat) (hp : pc + 1 = nx) {q : Fin 4} {e : Nat} (i : Nat) (L' : ck_L) (hd : decode y.2.1 pc = .ok (.astore_n q, 1)) (hi : (q : Nat) = i) (hn : i < y.2.2.1) (h2 : ck_n2 L i = true) (hL : L.set i (some (.inr (.inr e))) = L') (k : ck_At X d y K nx L' S w) : ck_At X d y K pc L (.inr (.inr e) :: S) w := by
  intro hw hl
  subst hp; subst hL; exact ch_astore_n i _ hd hi hn (ck_n2h h2) (ck_lset (v := .inr (.inr e))) (k hw (ck_lok_set hl trivial))
theorem ck_astore (nx : Nat) (hp : pc + 2 = nx) {i : Nat} {e : Nat} (L' : ck_L) (hd : decode y.2.1 pc = .ok (.astore i, 2)) (hn : i < y.2.2.1) (h2 : ck_n2 L i = true) (hL : L.set i (some (.inr (.inr e))) = L') (k : ck_At X d y K nx L' S w) : ck_At X d y K pc L (.inr (.inr e) :: S) w := by
  intro hw hl
  subst hp; subst hL; exact ch_astore _ hd hn (ck_n2h h2) (ck_lset (v := .inr (.inr e))) (k hw (ck_lok_set hl trivial))
theorem ck_iinc (nx : Nat) (hp : pc + 3 = nx) {i : Nat} {n e : Int} (L' : ck_L) (hd : decode y.2.1 pc = .ok (.iinc i n, 3)) (hx : L[i]? = some (some (.inl e))) (hn : i < y.2.2.1) (h2 : ck_n2 L i = true) (hL : L.set i (some (.inl (e + n))) = L') (he : ck_i (e + n)) (k : ck_At X d y K nx L' S w) : ck_At X d y K pc L S w := by
  intro hw hl
  subst hp; subst hL; exact ch_iinc _ _ hd (ck_lget hx) (by rw [← Int32.ofInt_add]) hn (ck_n2h h2) (ck_lset (v := .inl (e + n))) (k hw (ck_lok_set hl he))
theorem ck_iadd (nx : Nat) (hp : pc + 1 = nx) {a b : Int} (hd : decode y.2.1 pc = .ok (.iadd, 1)) (k : ck_At X d y K nx L (.inl (a + b) :: S) w) : ck_At X d y K pc L (.inl b :: .inl a :: S) w := by
  intro hw hl
  subst hp; refine ch_iadd hd ?_; have h := k hw hl; simp only [List.map_cons, ck_v] at h ⊢; rw [← Int32.ofInt_add]; exact h
theorem ck_isub (nx : Nat) (hp : pc + 1 = nx) {a b : Int} (hd : decode y.2.1 pc = .ok (.isub, 1)) (k : ck_At X d y K nx L (.inl (a - b) :: S) w) : ck_At X d y K pc L (.inl b :: .inl a :: S) w := by
  intro hw hl
  subst hp; refine ch_isub hd ?_; have h := k hw hl; simp only [List.map_cons, ck_v] at h ⊢; rw [← Int32.ofInt_sub]; exact h
theorem ck_imul (nx : Nat) (hp : pc + 1 = nx) {a b : Int} (hd : decode y.2.1 pc = .ok (.imul, 1)) (k : ck_At X d y K nx L (.inl (a * b) :: S) w) : ck_At X d y K pc L (.inl b :: .inl a :: S) w := by
  intro hw hl
  subst hp; refine ch_imul hd ?_; have h := k hw hl; simp only [List.map_cons, ck_v] at h ⊢; rw [← Int32.ofInt_mul]; exact h
theorem ck_ladd (nx : Nat) (hp : pc + 1 = nx) {a b : Int} (hd : decode y.2.1 pc = .ok (.ladd, 1)) (k : ck_At X d y K nx L (.inr (.inl (a + b)) :: S) w) : ck_At X d y K pc L (.inr (.inl b) :: .inr (.inl a) :: S) w := by
  intro hw hl
  subst hp; refine ch_ladd hd ?_; have h := k hw hl; simp only [List.map_cons, ck_v] at h ⊢; rw [← Int64.ofInt_add]; exact h
theorem ck_lsub (nx : Nat) (hp : pc + 1 = nx) {a b : Int} (hd : decode y.2.1 pc = .ok (.lsub, 1)) (k : ck_At X d y K nx L (.inr (.inl (a - b)) :: S) w) : ck_At X d y K pc L (.inr (.inl b) :: .inr (.inl a) :: S) w := by
  intro hw hl
  subst hp; refine ch_lsub hd ?_; have h := k hw hl; simp only [List.map_cons, ck_v] at h ⊢; rw [← Int64.ofInt_sub]; exact h
theorem ck_lmul (nx : Nat) (hp : pc + 1 = nx) {a b : Int} (hd : decode y.2.1 pc = .ok (.lmul, 1)) (k : ck_At X d y K nx L (.inr (.inl (a * b)) :: S) w) : ck_At X d y K pc L (.inr (.inl b) :: .inr (.inl a) :: S) w := by
  intro hw hl
  subst hp; refine ch_lmul hd ?_; have h := k hw hl; simp only [List.map_cons, ck_v] at h ⊢; rw [← Int64.ofInt_mul]; exact h
theorem ck_iand (nx : Nat) (hp : pc + 1 = nx) {a b : Int} (hd : decode y.2.1 pc = .ok (.iand, 1)) (k : ck_At X d y K nx L (.inl (ck_and a b) :: S) w) : ck_At X d y K pc L (.inl b :: .inl a :: S) w := by
  intro hw hl
  subst hp; refine ch_iand hd ?_; have h := k hw hl; simp only [List.map_cons, ck_v, ck_and, Int32.ofInt_toInt] at h ⊢; exact h
theorem ck_ior (nx : Nat) (hp : pc + 1 = nx) {a b : Int} (hd : decode y.2.1 pc = .ok (.ior, 1)) (k : ck_At X d y K nx L (.inl (ck_or a b) :: S) w) : ck_At X d y K pc L (.inl b :: .inl a :: S) w := by
  intro hw hl
  subst hp; refine ch_ior hd ?_; have h := k hw hl; simp only [List.map_cons, ck_v, ck_or, Int32.ofInt_toInt] at h ⊢; exact h
theorem ck_ixor (nx : Nat) (hp : pc + 1 = nx) {a b : Int} (hd : decode y.2.1 pc = .ok (.ixor, 1)) (k : ck_At X d y K nx L (.inl (ck_xor a b) :: S) w) : ck_At X d y K pc L (.inl b :: .inl a :: S) w := by
  intro hw hl
  subst hp; refine ch_ixor hd ?_; have h := k hw hl; simp only [List.map_cons, ck_v, ck_xor, Int32.ofInt_toInt] at h ⊢; exact h
theorem ck_ishl (nx : Nat) (hp : pc + 1 = nx) {a b : Int} (hd : decode y.2.1 pc = .ok (.ishl, 1)) (k : ck_At X d y K nx L (.inl (ck_shl a b) :: S) w) : ck_At X d y K pc L (.inl b :: .inl a :: S) w := by
  intro hw hl
  subst hp; refine ch_ishl hd ?_; have h := k hw hl; simp only [List.map_cons, ck_v, ck_shl, Int32.ofInt_toInt] at h ⊢; exact h
theorem ck_ishr (nx : Nat) (hp : pc + 1 = nx) {a b : Int} (hd : decode y.2.1 pc = .ok (.ishr, 1)) (k : ck_At X d y K nx L (.inl (ck_shr a b) :: S) w) : ck_At X d y K pc L (.inl b :: .inl a :: S) w := by
  intro hw hl
  subst hp; refine ch_ishr hd ?_; have h := k hw hl; simp only [List.map_cons, ck_v, ck_shr, Int32.ofInt_toInt] at h ⊢; exact h
theorem ck_iushr (nx : Nat) (hp : pc + 1 = nx) {a b : Int} (hd : decode y.2.1 pc = .ok (.iushr, 1)) (k : ck_At X d y K nx L (.inl (ck_ushr a b) :: S) w) : ck_At X d y K pc L (.inl b :: .inl a :: S) w := by
  intro hw hl
  subst hp; refine ch_iushr hd ?_; have h := k hw hl; simp only [List.map_cons, ck_v, ck_ushr, Int32.ofInt_toInt] at h ⊢; exact h
theorem ck_land (nx : Nat) (hp : pc + 1 = nx) {a b : Int} (hd : decode y.2.1 pc = .ok (.land, 1)) (k : ck_At X d y K nx L (.inr (.inl (ck_Land a b)) :: S) w) : ck_At X d y K pc L (.inr (.inl b) :: .inr (.inl a) :: S) w := by
  intro hw hl
  subst hp; refine ch_land hd ?_; have h := k hw hl; simp only [List.map_cons, ck_v, ck_Land, Int64.ofInt_toInt] at h ⊢; exact h
theorem ck_lor (nx : Nat) (hp : pc + 1 = nx) {a b : Int} (hd : decode y.2.1 pc = .ok (.lor, 1)) (k : ck_At X d y K nx L (.inr (.inl (ck_Lor a b)) :: S) w) : ck_At X d y K pc L (.inr (.inl b) :: .inr (.inl a) :: S) w := by
  intro hw hl
  subst hp; refine ch_lor hd ?_; have h := k hw hl; simp only [List.map_cons, ck_v, ck_Lor, Int64.ofInt_toInt] at h ⊢; exact h
theorem ck_lshl (nx : Nat) (hp : pc + 1 = nx) {a b : Int} (hd : decode y.2.1 pc = .ok (.lshl, 1)) (k : ck_At X d y K nx L (.inr (.inl (ck_Lshl a b)) :: S) w) : ck_At X d y K pc L (.inl b :: .inr (.inl a) :: S) w := by
  intro hw hl
  subst hp; refine ch_lshl hd ?_; have h := k hw hl; simp only [List.map_cons, ck_v, ck_Lshl, Int64.ofInt_toInt] at h ⊢; exact h
theorem ck_idiv (nx : Nat) (hp : pc + 1 = nx) {a b : Int} (hd : decode y.2.1 pc = .ok (.idiv, 1)) (ha : ck_i a) (hb : ck_i b) (hz : ¬ b = 0) (k : ck_At X d y K nx L (.inl (a.tdiv b) :: S) w) : ck_At X d y K pc L (.inl b :: .inl a :: S) w := by
  intro hw hl
  subst hp; refine ch_idiv hd (fun h => hz ((ck_eq32 hb ck_i0).mp h)) ?_; have h := k hw hl; simp only [List.map_cons, ck_v] at h ⊢; rw [ck_div32 ha hb]; exact h
theorem ck_irem (nx : Nat) (hp : pc + 1 = nx) {a b : Int} (hd : decode y.2.1 pc = .ok (.irem, 1)) (ha : ck_i a) (hb : ck_i b) (hz : ¬ b = 0) (k : ck_At X d y K nx L (.inl (a.tmod b) :: S) w) : ck_At X d y K pc L (.inl b :: .inl a :: S) w := by
  intro hw hl
  subst hp; refine ch_irem hd (fun h => hz ((ck_eq32 hb ck_i0).mp h)) ?_; have h := k hw hl; simp only [List.map_cons, ck_v] at h ⊢; rw [ck_div32 ha hb, ← Int32.ofInt_mul, ← Int32.ofInt_sub, ck_rem]; exact h
theorem ck_ldiv (nx : Nat) (hp : pc + 1 = nx) {a b : Int} (hd : decode y.2.1 pc = .ok (.ldiv, 1)) (ha : ck_l a) (hb : ck_l b) (hz : ¬ b = 0) (k : ck_At X d y K nx L (.inr (.inl (a.tdiv b)) :: S) w) : ck_At X d y K pc L (.inr (.inl b) :: .inr (.inl a) :: S) w := by
  intro hw hl
  subst hp; refine ch_ldiv hd (fun h => hz (by have h1 := congrArg Int64.toInt h; rw [ck_l64 hb] at h1; simpa using h1)) ?_; have h := k hw hl; simp only [List.map_cons, ck_v] at h ⊢; rw [ck_div64 ha hb]; exact h
theorem ck_lrem (nx : Nat) (hp : pc + 1 = nx) {a b : Int} (hd : decode y.2.1 pc = .ok (.lrem, 1)) (ha : ck_l a) (hb : ck_l b) (hz : ¬ b = 0) (k : ck_At X d y K nx L (.inr (.inl (a.tmod b)) :: S) w) : ck_At X d y K pc L (.inr (.inl b) :: .inr (.inl a) :: S) w := by
  intro hw hl
  subst hp; refine ch_lrem hd (fun h => hz (by have h1 := congrArg Int64.toInt h; rw [ck_l64 hb] at h1; simpa using h1)) ?_; have h := k hw hl; simp only [List.map_cons, ck_v] at h ⊢; rw [ck_div64 ha hb, ← Int64.ofInt_mul, ← Int64.ofInt_sub, ck_rem]; exact h
theorem ck_ineg (nx : Nat) (hp : pc + 1 = nx) {a : Int} (hd : decode y.2.1 pc = .ok (.ineg, 1)) (k : ck_At X d y K nx L (.inl (-a) :: S) w) : ck_At X d y K pc L (.inl a :: S) w := by
  intro hw hl
  subst hp; refine ch_ineg hd ?_; have h := k hw hl; simp only [List.map_cons, ck_v] at h ⊢; rw [← Int32.ofInt_neg]; exact h
theorem ck_lneg (nx : Nat) (hp : pc + 1 = nx) {a : Int} (hd : decode y.2.1 pc = .ok (.lneg, 1)) (k : ck_At X d y K nx L (.inr (.inl (-a)) :: S) w) : ck_At X d y K pc L (.inr (.inl a) :: S) w := by
  intro hw hl
  subst hp; refine ch_lneg hd ?_; have h := k hw hl; simp only [List.map_cons, ck_v] at h ⊢; rw [← Int64.ofInt_neg]; exact h
theorem ck_i2l (nx : Nat) (hp : pc + 1 = nx) {a : Int} (hd : decode y.2.1 pc = .ok (.i2l, 1)) (ha : ck_i a) (k : ck_At X d y K nx L (.inr (.inl a) :: S) w) : ck_At X d y K pc L (.inl a :: S) w := by
  intro hw hl
  subst hp; refine ch_i2l hd ?_; have h := k hw hl; simp only [List.map_cons, ck_v] at h ⊢; rw [ck_i2l_e ha]; exact h
theorem ck_l2i (nx : Nat) (hp : pc + 1 = nx) {a : Int} (hd : decode y.2.1 pc = .ok (.l2i, 1)) (k : ck_At X d y K nx L (.inl a :: S) w) : ck_At X d y K pc L (.inr (.inl a) :: S) w := by
  intro hw hl
  subst hp; refine ch_l2i hd ?_; have h := k hw hl; simp only [List.map_cons, ck_v] at h ⊢; rw [ck_l2i_e]; exact h
theorem ck_i2cr (nx : Nat) (hp : pc + 1 = nx) {a : Int} (hd : decode y.2.1 pc = .ok (.i2c, 1)) (k : ck_At X d y K nx L (.inl (ck_i2c a) :: S) w) : ck_At X d y K pc L (.inl a :: S) w := by
  intro hw hl
  subst hp; refine ch_i2c hd ?_; have h := k hw hl; simp only [List.map_cons, ck_v, ck_i2c, Int32.ofInt_toInt] at h ⊢; exact h
theorem ck_lcmp (nx : Nat) (hp : pc + 1 = nx) {a b : Int} (hd : decode y.2.1 pc = .ok (.lcmp, 1)) (ha : ck_l a) (hb : ck_l b) (k : ck_At X d y K nx L (.inl (ck_cmp a b) :: S) w) : ck_At X d y K pc L (.inr (.inl b) :: .inr (.inl a) :: S) w := by
  intro hw hl
  subst hp; refine ch_lcmp hd ?_; have h := k hw hl; simp only [List.map_cons, ck_v] at h ⊢; rw [ck_cmp_of ha hb]; exact h
def ck_c1 (v : ck_V) : Bool := match v with
  | .inr (.inl _) => false
  | _ => true
theorem ck_c1h {v : ck_V} (h : ck_c1 v = true) : (ck_v v).category = 1 := by
  rcases v with e | e | e
  · rfl
  · exact absurd h (by simp [ck_c1])
  · rfl
theorem ck_dup (nx : Nat) (hp : pc + 1 = nx) {v : ck_V} (hd : decode y.2.1 pc = .ok (.dup, 1)) (hv : ck_c1 v = true) (k : ck_At X d y K nx L (v :: v :: S) w) : ck_At X d y K pc L (v :: S) w := by
  intro hw hl
  subst hp; exact ch_dup hd (ck_c1h hv) (k hw hl)
theorem ck_dup2 (nx : Nat) (hp : pc + 1 = nx) {v u : ck_V} (hd : decode y.2.1 pc = .ok (.dup2, 1)) (hv : ck_c1 v = true) (hu : ck_c1 u = true) (k : ck_At X d y K nx L (v :: u :: v :: u :: S) w) : ck_At X d y K pc L (v :: u :: S) w := by
  intro hw hl
  subst hp; exact ch_dup2 hd (ck_c1h hv) (ck_c1h hu) (k hw hl)
theorem ck_pop (nx : Nat) (hp : pc + 1 = nx) {v : ck_V} (hd : decode y.2.1 pc = .ok (.pop, 1)) (hv : ck_c1 v = true) (k : ck_At X d y K nx L S w) : ck_At X d y K pc L (v :: S) w := by
  intro hw hl
  subst hp; exact ch_pop hd (ck_c1h hv) (k hw hl)
theorem ck_goto {off : Int} (tgt : Nat) (hd : decode y.2.1 pc = .ok (.goto off, 3)) (ht : (pc : Int) + off = (tgt : Int)) (k : ck_At X d y K tgt L S w) : ck_At X d y K pc L S w := by
  intro hw hl
  exact ch_goto tgt hd ht (k hw hl)
theorem ck_tswO {dflt lo hi : Int} {offs : Array Int} {len : Nat} {a : Int} (tgt : Nat) (hd : decode y.2.1 pc = .ok (.tableswitch dflt lo hi offs, len)) (ha : ck_i a) (h : a < lo ∨ hi < a) (ht : (pc : Int) + dflt = (tgt : Int)) (k : ck_At X d y K tgt L S w) : ck_At X d y K pc L (.inl a :: S) w := by
  intro hw hl
  exact ch_tblOut tgt hd (by rw [ck_i32 ha]; exact h) ht (k hw hl)
theorem ck_tswI {dflt lo hi : Int} {offs : Array Int} {len : Nat} {a : Int} (c : Nat) (off : Int) (tgt : Nat) (hd : decode y.2.1 pc = .ok (.tableswitch dflt lo hi offs, len)) (ha : ck_i a) (h : a = lo + (c : Int)) (hh : lo + (c : Int) ≤ hi) (ho : offs[c]? = some off) (ht : (pc : Int) + off = (tgt : Int)) (k : ck_At X d y K tgt L S w) : ck_At X d y K pc L (.inl a :: S) w := by
  intro hw hl
  exact ch_tblIn tgt hd (by rw [ck_i32 ha]; omega) (by rw [ck_i32 ha]; omega) (by rw [ck_i32 ha, h, show (lo + (c : Int) - lo).toNat = c from by omega]; exact ho) ht (k hw hl)
theorem ck_icmp_eq (nx : Nat) (hp : pc + 3 = nx) {a z off : Int} (tgt : Nat) (hd : decode y.2.1 pc = .ok (.if_icmp .eq off, 3)) (ht : (pc : Int) + off = (tgt : Int)) (ha : ck_i a) (hz : ck_i z) (kt : a = z → ck_At X d y K tgt L S w) (kf : ¬ a = z → ck_At X d y K nx L S w) : ck_At X d y K pc L (.inl z :: .inl a :: S) w := by
  intro hw hl
  subst hp; exact ch_icmp_eq tgt hd ht (fun h => kt ((ck_eq32 ha hz).mp h) hw hl) (fun h => kf (fun q => h ((ck_eq32 ha hz).mpr q)) hw hl)
theorem ck_if_eq (nx : Nat) (hp : pc + 3 = nx) {a off : Int} (tgt : Nat) (hd : decode y.2.1 pc = .ok (.ifCond .eq off, 3)) (ht : (pc : Int) + off = (tgt : Int)) (ha : ck_i a) (kt : a = 0 → ck_At X d y K tgt L S w) (kf : ¬ a = 0 → ck_At X d y K nx L S w) : ck_At X d y K pc L (.inl a :: S) w := by
  intro hw hl
  subst hp; exact ch_if_eq tgt hd ht (fun h => kt ((ck_eq32 ha ck_i0).mp h) hw hl) (fun h => kf (fun q => h ((ck_eq32 ha ck_i0).mpr q)) hw hl)
theorem ck_icmp_ne (nx : Nat) (hp : pc + 3 = nx) {a z off : Int} (tgt : Nat) (hd : decode y.2.1 pc = .ok (.if_icmp .ne off, 3)) (ht : (pc : Int) + off = (tgt : Int)) (ha : ck_i a) (hz : ck_i z) (kt : ¬ a = z → ck_At X d y K tgt L S w) (kf : a = z → ck_At X d y K nx L S w) : ck_At X d y K pc L (.inl z :: .inl a :: S) w := by
  intro hw hl
  subst hp; exact ch_icmp_ne tgt hd ht (fun h => kt (fun q => h ((ck_eq32 ha hz).mpr q)) hw hl) (fun h => kf ((ck_eq32 ha hz).mp h) hw hl)
theorem ck_if_ne (nx : Nat) (hp : pc + 3 = nx) {a off : Int} (tgt : Nat) (hd : decode y.2.1 pc = .ok (.ifCond .ne off, 3)) (ht : (pc : Int) + off = (tgt : Int)) (ha : ck_i a) (kt : ¬ a = 0 → ck_At X d y K tgt L S w) (kf : a = 0 → ck_At X d y K nx L S w) : ck_At X d y K pc L (.inl a :: S) w := by
  intro hw hl
  subst hp; exact ch_if_ne tgt hd ht (fun h => kt (fun q => h ((ck_eq32 ha ck_i0).mpr q)) hw hl) (fun h => kf ((ck_eq32 ha ck_i0).mp h) hw hl)
theorem ck_icmp_lt (nx : Nat) (hp : pc + 3 = nx) {a z off : Int} (tgt : Nat) (hd : decode y.2.1 pc = .ok (.if_icmp .lt off, 3)) (ht : (pc : Int) + off = (tgt : Int)) (ha : ck_i a) (hz : ck_i z) (kt : a < z → ck_At X d y K tgt L S w) (kf : ¬ a < z → ck_At X d y K nx L S w) : ck_At X d y K pc L (.inl z :: .inl a :: S) w := by
  intro hw hl
  subst hp; exact ch_icmp_lt tgt hd ht (fun h => kt ((ck_lt32 ha hz).mp h) hw hl) (fun h => kf (fun q => h ((ck_lt32 ha hz).mpr q)) hw hl)
theorem ck_if_lt (nx : Nat) (hp : pc + 3 = nx) {a off : Int} (tgt : Nat) (hd : decode y.2.1 pc = .ok (.ifCond .lt off, 3)) (ht : (pc : Int) + off = (tgt : Int)) (ha : ck_i a) (kt : a < 0 → ck_At X d y K tgt L S w) (kf : ¬ a < 0 → ck_At X d y K nx L S w) : ck_At X d y K pc L (.inl a :: S) w := by
  intro hw hl
  subst hp; exact ch_if_lt tgt hd ht (fun h => kt ((ck_lt32 ha ck_i0).mp h) hw hl) (fun h => kf (fun q => h ((ck_lt32 ha ck_i0).mpr q)) hw hl)
theorem ck_icmp_ge (nx : Nat) (hp : pc + 3 = nx) {a z off : Int} (tgt : Nat) (hd : decode y.2.1 pc = .ok (.if_icmp .ge off, 3)) (ht : (pc : Int) + off = (tgt : Int)) (ha : ck_i a) (hz : ck_i z) (kt : z ≤ a → ck_At X d y K tgt L S w) (kf : ¬ z ≤ a → ck_At X d y K nx L S w) : ck_At X d y K pc L (.inl z :: .inl a :: S) w := by
  intro hw hl
  subst hp; exact ch_icmp_ge tgt hd ht (fun h => kt ((ck_le32 hz ha).mp h) hw hl) (fun h => kf (fun q => h ((ck_le32 hz ha).mpr q)) hw hl)
theorem ck_if_ge (nx : Nat) (hp : pc + 3 = nx) {a off : Int} (tgt : Nat) (hd : decode y.2.1 pc = .ok (.ifCond .ge off, 3)) (ht : (pc : Int) + off = (tgt : Int)) (ha : ck_i a) (kt : 0 ≤ a → ck_At X d y K tgt L S w) (kf : ¬ 0 ≤ a → ck_At X d y K nx L S w) : ck_At X d y K pc L (.inl a :: S) w := by
  intro hw hl
  subst hp; exact ch_if_ge tgt hd ht (fun h => kt ((ck_le32 ck_i0 ha).mp h) hw hl) (fun h => kf (fun q => h ((ck_le32 ck_i0 ha).mpr q)) hw hl)
theorem ck_icmp_gt (nx : Nat) (hp : pc + 3 = nx) {a z off : Int} (tgt : Nat) (hd : decode y.2.1 pc = .ok (.if_icmp .gt off, 3)) (ht : (pc : Int) + off = (tgt : Int)) (ha : ck_i a) (hz : ck_i z) (kt : z < a → ck_At X d y K tgt L S w) (kf : ¬ z < a → ck_At X d y K nx L S w) : ck_At X d y K pc L (.inl z :: .inl a :: S) w := by
  intro hw hl
  subst hp; exact ch_icmp_gt tgt hd ht (fun h => kt ((ck_lt32 hz ha).mp h) hw hl) (fun h => kf (fun q => h ((ck_lt32 hz ha).mpr q)) hw hl)
theorem ck_if_gt (nx : Nat) (hp : pc + 3 = nx) {a off : Int} (tgt : Nat) (hd : decode y.2.1 pc = .ok (.ifCond .gt off, 3)) (ht : (pc : Int) + off = (tgt : Int)) (ha : ck_i a) (kt : 0 < a → ck_At X d y K tgt L S w) (kf : ¬ 0 < a → ck_At X d y K nx L S w) : ck_At X d y K pc L (.inl a :: S) w := by
  intro hw hl
  subst hp; exact ch_if_gt tgt hd ht (fun h => kt ((ck_lt32 ck_i0 ha).mp h) hw hl) (fun h => kf (fun q => h ((ck_lt32 ck_i0 ha).mpr q)) hw hl)
theorem ck_icmp_le (nx : Nat) (hp : pc + 3 = nx) {a z off : Int} (tgt : Nat) (hd : decode y.2.1 pc = .ok (.if_icmp .le off, 3)) (ht : (pc : Int) + off = (tgt : Int)) (ha : ck_i a) (hz : ck_i z) (kt : a ≤ z → ck_At X d y K tgt L S w) (kf : ¬ a ≤ z → ck_At X d y K nx L S w) : ck_At X d y K pc L (.inl z :: .inl a :: S) w := by
  intro hw hl
  subst hp; exact ch_icmp_le tgt hd ht (fun h => kt ((ck_le32 ha hz).mp h) hw hl) (fun h => kf (fun q => h ((ck_le32 ha hz).mpr q)) hw hl)
theorem ck_if_le (nx : Nat) (hp : pc + 3 = nx) {a off : Int} (tgt : Nat) (hd : decode y.2.1 pc = .ok (.ifCond .le off, 3)) (ht : (pc : Int) + off = (tgt : Int)) (ha : ck_i a) (kt : a ≤ 0 → ck_At X d y K tgt L S w) (kf : ¬ a ≤ 0 → ck_At X d y K nx L S w) : ck_At X d y K pc L (.inl a :: S) w := by
  intro hw hl
  subst hp; exact ch_if_le tgt hd ht (fun h => kt ((ck_le32 ha ck_i0).mp h) hw hl) (fun h => kf (fun q => h ((ck_le32 ha ck_i0).mpr q)) hw hl)
theorem ck_ld {k n : Nat} {ty : FieldType} {i : Int} (hs : X.2.2.2.2.2[k]? = some (.inl (ty, n))) (ht : ty ≠ .long) (hw : ck_ok X.2.2.2.2.2 w) : ck_i (w k i) := (hw k i).2 (by unfold ck_lg; rw [hs]; cases ty <;> first | rfl | exact absurd rfl ht)
theorem ck_ldl {k n : Nat} {i : Int} (hs : X.2.2.2.2.2[k]? = some (.inl (.long, n))) (hw : ck_ok X.2.2.2.2.2 w) : ck_l (w k i) := (hw k i).1 (by unfold ck_lg; rw [hs])
theorem ck_ix {i : Int} {n : Nat} (h : 0 ≤ i ∧ i < (n : Int)) (hn : n < 2147483648) : 0 ≤ (Int32.ofInt i).toInt ∧ (Int32.ofInt i).toInt < (n : Int) := by
  rw [ck_i32 ⟨by omega, by omega⟩]; exact h
theorem ck_ixe {i : Int} {n : Nat} (h : 0 ≤ i ∧ i < (n : Int)) (hn : n < 2147483648) : (Int32.ofInt i).toInt.toNat = i.toNat := by
  rw [ck_i32 ⟨by omega, by omega⟩]
theorem ck_tn {i : Int} (h : 0 ≤ i) : ((i.toNat : Nat) : Int) = i := by omega
theorem ck_iald (nx : Nat) (hp : pc + 1 = nx) {k n : Nat} {i : Int} (hd : decode y.2.1 pc = .ok (.iaload, 1)) (hs : X.2.2.2.2.2[k]? = some (.inl (.int, n))) (hn : n < 2147483648) (hin : 0 ≤ i ∧ i < (n : Int)) (v : Int) (hv : w k i = v) (kk : ck_i v → ck_At X d y K nx L (.inl v :: S) w) : ck_At X d y K pc L (.inl i :: .inr (.inr k) :: S) w := by
  intro hw hl
  subst hp; subst hv; refine ch_iald hd hs (ck_ix hin hn) ?_; have h := kk (ck_ld hs (by decide) hw) hw hl; rw [ck_ixe hin hn]; simp only [List.map_cons, ck_v, ck_w, ck_tn hin.1] at h ⊢; exact h
theorem ck_zald (nx : Nat) (hp : pc + 1 = nx) {k n : Nat} {i : Int} (hd : decode y.2.1 pc = .ok (.baload, 1)) (hs : X.2.2.2.2.2[k]? = some (.inl (.boolean, n))) (hn : n < 2147483648) (hin : 0 ≤ i ∧ i < (n : Int)) (v : Int) (hv : w k i = v) (kk : ck_i v → ck_At X d y K nx L (.inl v :: S) w) : ck_At X d y K pc L (.inl i :: .inr (.inr k) :: S) w := by
  intro hw hl
  subst hp; subst hv; refine ch_zald hd hs (ck_ix hin hn) ?_; have h := kk (ck_ld hs (by decide) hw) hw hl; rw [ck_ixe hin hn]; simp only [List.map_cons, ck_v, ck_w, ck_tn hin.1] at h ⊢; exact h
theorem ck_lald (nx : Nat) (hp : pc + 1 = nx) {k n : Nat} {i : Int} (hd : decode y.2.1 pc = .ok (.laload, 1)) (hs : X.2.2.2.2.2[k]? = some (.inl (.long, n))) (hn : n < 2147483648) (hin : 0 ≤ i ∧ i < (n : Int)) (v : Int) (hv : w k i = v) (kk : ck_l v → ck_At X d y K nx L (.inr (.inl v) :: S) w) : ck_At X d y K pc L (.inl i :: .inr (.inr k) :: S) w := by
  intro hw hl
  subst hp; subst hv; refine ch_lald hd hs (ck_ix hin hn) ?_; have h := kk (ck_ldl hs hw) hw hl; rw [ck_ixe hin hn]; simp only [List.map_cons, ck_v, ck_w, ck_tn hin.1] at h ⊢; exact h
theorem ck_lgA {k n : Nat} {ty : FieldType} {i : Int} (hs : X.2.2.2.2.2[k]? = some (.inl (ty, n))) (ht : ty ≠ .long) : ck_lg X.2.2.2.2.2 k i = false := by
  unfold ck_lg; rw [hs]; cases ty <;> first | rfl | exact absurd rfl ht
theorem ck_lgL {k n : Nat} {i : Int} (hs : X.2.2.2.2.2[k]? = some (.inl (.long, n))) : ck_lg X.2.2.2.2.2 k i = true := by
  unfold ck_lg; rw [hs]
theorem ck_lgF {k ci j : Nat} {fs : List ch_F} (hs : X.2.2.2.2.2[k]? = some (.inr (ci, fs))) (hf : fs[j]? = some (.inl ())) : ck_lg X.2.2.2.2.2 k (j : Int) = false := by
  unfold ck_lg; rw [hs]; simp [hf]
theorem ck_lgG {k ci j : Nat} {fs : List ch_F} (hs : X.2.2.2.2.2[k]? = some (.inr (ci, fs))) (hf : fs[j]? = some (.inr (.inl ()))) : ck_lg X.2.2.2.2.2 k (j : Int) = true := by
  unfold ck_lg; rw [hs]; simp [hf]
theorem ck_iast (nx : Nat) (hp : pc + 1 = nx) {k n : Nat} {i v : Int} (hd : decode y.2.1 pc = .ok (.iastore, 1)) (hs : X.2.2.2.2.2[k]? = some (.inl (.int, n))) (hn : n < 2147483648) (hin : 0 ≤ i ∧ i < (n : Int)) (hv : ck_i v) (kk : ck_At X d y K nx L S (ck_up w k i v)) : ck_At X d y K pc L (.inl v :: .inl i :: .inr (.inr k) :: S) w := by
  intro hw hl
  subst hp; refine ch_iast hd hs (ck_ix hin hn) (ck_tr ?_ (kk (ck_ok_up hw (fun h => absurd h (by rw [ck_lgA hs (by decide)]; decide)) (fun _ => hv)) hl)); rw [ck_ixe hin hn]; exact ck_ws_ai hs (by decide) hin.1
theorem ck_zast (nx : Nat) (hp : pc + 1 = nx) {k n : Nat} {i v : Int} (hd : decode y.2.1 pc = .ok (.bastore, 1)) (hs : X.2.2.2.2.2[k]? = some (.inl (.boolean, n))) (hn : n < 2147483648) (hin : 0 ≤ i ∧ i < (n : Int)) (hv : v = 0 ∨ v = 1) (kk : ck_At X d y K nx L S (ck_up w k i v)) : ck_At X d y K pc L (.inl v :: .inl i :: .inr (.inr k) :: S) w := by
  intro hw hl
  subst hp; refine ch_zast hd hs (ck_ix hin hn) (by rcases hv with h | h <;> subst h <;> rfl) (ck_tr ?_ (kk (ck_ok_up hw (fun h => absurd h (by rw [ck_lgA hs (by decide)]; decide)) (fun _ => by constructor <;> omega)) hl)); rw [ck_ixe hin hn]; exact ck_ws_ai hs (by decide) hin.1
theorem ck_last (nx : Nat) (hp : pc + 1 = nx) {k n : Nat} {i v : Int} (hd : decode y.2.1 pc = .ok (.lastore, 1)) (hs : X.2.2.2.2.2[k]? = some (.inl (.long, n))) (hn : n < 2147483648) (hin : 0 ≤ i ∧ i < (n : Int)) (hv : ck_l v) (kk : ck_At X d y K nx L S (ck_up w k i v)) : ck_At X d y K pc L (.inr (.inl v) :: .inl i :: .inr (.inr k) :: S) w := by
  intro hw hl
  subst hp; refine ch_last hd hs (ck_ix hin hn) (ck_tr ?_ (kk (ck_ok_up hw (fun _ => hv) (fun h => absurd h (by rw [ck_lgL hs]; decide))) hl)); rw [ck_ixe hin hn]; exact ck_ws_al hs hin.1
theorem ck_alen (nx : Nat) (hp : pc + 1 = nx) {k n : Nat} {ty : FieldType} (t0 : Nat) (e : Int) (hd : decode y.2.1 pc = .ok (.arraylength, 1)) (hs : X.2.2.2.2.2[k]? = some (.inl (ty, n))) (ht : (ch_Tys X)[t0]? = some (X.2.2.1 ty, ty)) (he : (n : Int) = e) (kk : ck_At X d y K nx L (.inl e :: S) w) : ck_At X d y K pc L (.inr (.inr k) :: S) w := by
  intro hw hl
  subst hp; exact ch_alen t0 _ hd hs ht (ck_nat e he) (kk hw hl)
theorem ck_geti (nx : Nat) (hp : pc + 3 = nx) {k ci j index : Nat} {fs : List ch_F} (jj : Int) (hd : decode y.2.1 pc = .ok (.getfield index, 3)) (hl0 : ch_FL y.1.cls index ci j) (hs : X.2.2.2.2.2[k]? = some (.inr (ci, fs))) (hf : fs[j]? = some (.inl ())) (hj : (j : Int) = jj) (v : Int) (hv : w k jj = v) (kk : ck_i v → ck_At X d y K nx L (.inl v :: S) w) : ck_At X d y K pc L (.inr (.inr k) :: S) w := by
  intro hw hl
  subst hp; subst hv; subst hj; exact ch_get _ hd hl0 hs hf rfl (kk ((hw k j).2 (ck_lgF hs hf)) hw hl)
theorem ck_getl (nx : Nat) (hp : pc + 3 = nx) {k ci j index : Nat} {fs : List ch_F} (jj : Int) (hd : decode y.2.1 pc = .ok (.getfield index, 3)) (hl0 : ch_FL y.1.cls index ci j) (hs : X.2.2.2.2.2[k]? = some (.inr (ci, fs))) (hf : fs[j]? = some (.inr (.inl ()))) (hj : (j : Int) = jj) (v : Int) (hv : w k jj = v) (kk : ck_l v → ck_At X d y K nx L (.inr (.inl v) :: S) w) : ck_At X d y K pc L (.inr (.inr k) :: S) w := by
  intro hw hl
  subst hp; subst hv; subst hj; exact ch_get _ hd hl0 hs hf rfl (kk ((hw k j).1 (ck_lgG hs hf)) hw hl)
theorem ck_getr (nx : Nat) (hp : pc + 3 = nx) {k ci j index q : Nat} {fs : List ch_F} (hd : decode y.2.1 pc = .ok (.getfield index, 3)) (hl0 : ch_FL y.1.cls index ci j) (hs : X.2.2.2.2.2[k]? = some (.inr (ci, fs))) (hf : fs[j]? = some (.inr (.inr q))) (kk : ck_At X d y K nx L (.inr (.inr q) :: S) w) : ck_At X d y K pc L (.inr (.inr k) :: S) w := by
  intro hw hl
  subst hp; exact ch_get _ hd hl0 hs hf rfl (kk hw hl)
theorem ck_puti (nx : Nat) (hp : pc + 3 = nx) {k ci j index : Nat} {fs : List ch_F} {v : Int} (jj : Int) (hd : decode y.2.1 pc = .ok (.putfield index, 3)) (hl0 : ch_FP y.1.cls index ci j .int) (hs : X.2.2.2.2.2[k]? = some (.inr (ci, fs))) (hf : fs[j]? = some (.inl ())) (hj : (j : Int) = jj) (hv : ck_i v) (kk : ck_At X d y K nx L S (ck_up w k jj v)) : ck_At X d y K pc L (.inl v :: .inr (.inr k) :: S) w := by
  intro hw hl
  subst hp; subst hj; exact ch_puti .int hd hl0 hs hf rfl rfl (ck_tr (ck_ws_fi hs hf) (kk (ck_ok_up hw (fun h => absurd h (by rw [ck_lgF hs hf]; decide)) (fun _ => hv)) hl))
theorem ck_putz (nx : Nat) (hp : pc + 3 = nx) {k ci j index : Nat} {fs : List ch_F} {v : Int} (jj : Int) (hd : decode y.2.1 pc = .ok (.putfield index, 3)) (hl0 : ch_FP y.1.cls index ci j .boolean) (hs : X.2.2.2.2.2[k]? = some (.inr (ci, fs))) (hf : fs[j]? = some (.inl ())) (hj : (j : Int) = jj) (hv : v = 0 ∨ v = 1) (kk : ck_At X d y K nx L S (ck_up w k jj v)) : ck_At X d y K pc L (.inl v :: .inr (.inr k) :: S) w := by
  intro hw hl
  subst hp; subst hj; exact ch_puti .boolean hd hl0 hs hf (by rcases hv with h | h <;> subst h <;> rfl) (by rcases hv with h | h <;> subst h <;> rfl) (ck_tr (ck_ws_fi hs hf) (kk (ck_ok_up hw (fun h => absurd h (by rw [ck_lgF hs hf]; decide)) (fun _ => by constructor <;> omega)) hl))
theorem ck_putl (nx : Nat) (hp : pc + 3 = nx) {k ci j index : Nat} {fs : List ch_F} {v : Int} (jj : Int) (hd : decode y.2.1 pc = .ok (.putfield index, 3)) (hl0 : ch_FP y.1.cls index ci j .long) (hs : X.2.2.2.2.2[k]? = some (.inr (ci, fs))) (hf : fs[j]? = some (.inr (.inl ()))) (hj : (j : Int) = jj) (hv : ck_l v) (kk : ck_At X d y K nx L S (ck_up w k jj v)) : ck_At X d y K pc L (.inr (.inl v) :: .inr (.inr k) :: S) w := by
  intro hw hl
  subst hp; subst hj; exact ch_putl hd hl0 hs hf (ck_tr (ck_ws_fl hs hf) (kk (ck_ok_up hw (fun _ => hv) (fun h => absurd h (by rw [ck_lgG hs hf]; decide))) hl))
theorem ck_iret {v : Int} (hd : decode y.2.1 pc = .ok (.ireturn, 1)) (hr0 : y.2.2.2 = some .int) (hv : ck_i v) (hK : K (some (.inl v)) w) : ck_At X d y K pc L [.inl v] w := by
  intro hw hl
  exact ch_iret hd hr0 rfl ⟨some (.inl v), w, rfl, rfl, hw, ⟨hv, trivial⟩, hK⟩
theorem ck_zret {v : Int} (hd : decode y.2.1 pc = .ok (.ireturn, 1)) (hr0 : y.2.2.2 = some .boolean) (hv : v = 0 ∨ v = 1) (hK : K (some (.inl v)) w) : ck_At X d y K pc L [.inl v] w := by
  intro hw hl
  exact ch_iret hd hr0 (by rcases hv with h | h <;> subst h <;> rfl) ⟨some (.inl v), w, rfl, rfl, hw, ⟨(by rcases hv with h | h <;> subst h <;> decide : ck_i v), trivial⟩, hK⟩
theorem ck_lret {v : Int} (hd : decode y.2.1 pc = .ok (.lreturn, 1)) (hr0 : y.2.2.2 = some .long) (hv : ck_l v) (hK : K (some (.inr (.inl v))) w) : ck_At X d y K pc L [.inr (.inl v)] w := by
  intro hw hl
  exact ch_lret hd hr0 ⟨some (.inr (.inl v)), w, rfl, rfl, hw, ⟨hv, trivial⟩, hK⟩
theorem ck_vret (hd : decode y.2.1 pc = .ok (.return_, 1)) (hr0 : y.2.2.2 = none) (hK : K none w) : ck_At X d y K pc L [] w := by
  intro hw hl
  exact ch_vret hd hr0 ⟨none, w, rfl, rfl, hw, trivial, hK⟩
def ck_cat (v : ck_V) : Nat := match v with
  | .inr (.inl _) => 2
  | _ => 1
theorem ck_cats (S : List ck_V) : ((S.map ck_v).map fun v => v.category).sum = (S.map ck_cat).sum := by
  induction S with
  | nil => rfl
  | cons v S ih =>
    simp only [List.map_cons, List.sum_cons, ih]
    rcases v with e | e | e <;> rfl
theorem ck_callS (nx : Nat) (hp : pc + 3 = nx) {z : ch_M} {index n : Nat} (As S : List ck_V) {S0 : List ck_V} (hd : decode y.2.1 pc = .ok (.invokestatic index, 3)) (hc : ch_CS y.1.cls index n z) (hn : As.length = n) (h0 : S0 = As.reverse ++ S) (h8 : (S.map ck_cat).sum ≤ 8) (ha : ck_aok As) (k : ck_Ex X d z As w (fun r w' => ck_aok r.toList → ck_At X (d + 1) y K nx L (r.toList ++ S) w')) : ck_At X (d + 1) y K pc L S0 w := by
  intro hw hl
  subst hp; subst h0; exact ch_callS (As.map ck_v) (S.map ck_v) hd hc (by rw [List.length_map]; exact hn) (by simp) (by rw [ck_cats]; exact h8) (ck_exm (k hw ha) (fun _ _ ⟨r', w', h1, h2, h3, h4, h5⟩ => by subst h1; refine ck_tr h2 ?_; have h := h5 h4 h3 hl; cases r' <;> exact h))
theorem ck_callSN (nx : Nat) (hp : pc + 3 = nx) {z : ch_M} {index n : Nat} {host : String} (As S : List ck_V) {S0 : List ck_V} (hd : decode y.2.1 pc = .ok (.invokestatic index, 3)) (hc : ch_CSN y.1.cls index n z host) (hn : As.length = n) (h0 : S0 = As.reverse ++ S) (h8 : (S.map ck_cat).sum ≤ 8) (ha : ck_aok As) (k : ck_Ex X d z As w (fun r w' => ck_aok r.toList → ck_At X (d + 1) y K nx L (r.toList ++ S) w')) : ck_At X (d + 1) y K pc L S0 w := by
  intro hw hl
  subst hp; subst h0; exact ch_callSN (As.map ck_v) (S.map ck_v) hd hc (by rw [List.length_map]; exact hn) (by simp) (by rw [ck_cats]; exact h8) (ck_exm (k hw ha) (fun _ _ ⟨r', w', h1, h2, h3, h4, h5⟩ => by subst h1; refine ck_tr h2 ?_; have h := h5 h4 h3 hl; cases r' <;> exact h))
theorem ck_callV (nx : Nat) (hp : pc + 3 = nx) {z : ch_M} {index n ci k : Nat} {fs : List ch_F} (As S : List ck_V) {S0 : List ck_V} (hd : decode y.2.1 pc = .ok (.invokevirtual index, 3)) (hc : ch_CV y.1.cls index n ci z) (hs : X.2.2.2.2.2[k]? = some (.inr (ci, fs))) (hn : As.length = n) (h0 : S0 = As.reverse ++ .inr (.inr k) :: S) (h8 : (S.map ck_cat).sum ≤ 8) (ha : ck_aok As) (kk : ck_Ex X d z (.inr (.inr k) :: As) w (fun r w' => ck_aok r.toList → ck_At X (d + 1) y K nx L (r.toList ++ S) w')) : ck_At X (d + 1) y K pc L S0 w := by
  intro hw hl
  subst hp; subst h0; exact ch_callV (As.map ck_v) (S.map ck_v) hd hc hs (by rw [List.length_map]; exact hn) (by simp [ck_v]) (by rw [ck_cats]; exact h8) (ck_exm (kk hw ⟨trivial, ha⟩) (fun _ _ ⟨r', w', h1, h2, h3, h4, h5⟩ => by subst h1; refine ck_tr h2 ?_; have h := h5 h4 h3 hl; cases r' <;> exact h))
end CKR
/-- a call that answers an int, a long, nothing -/
abbrev ck_CI (X : ch_X) (d : Nat) (z : ch_M) (As : List ck_V) (w : ck_W) (Q : Int → ck_W → Prop) : Prop := ck_Ex X d z As w (fun r w' => ∃ v, r = some (.inl v) ∧ (ck_i v → Q v w'))
abbrev ck_CJ (X : ch_X) (d : Nat) (z : ch_M) (As : List ck_V) (w : ck_W) (Q : Int → ck_W → Prop) : Prop := ck_Ex X d z As w (fun r w' => ∃ v, r = some (.inr (.inl v)) ∧ (ck_l v → Q v w'))
abbrev ck_CN (X : ch_X) (d : Nat) (z : ch_M) (As : List ck_V) (w : ck_W) (Q : ck_W → Prop) : Prop := ck_Ex X d z As w (fun r w' => r = none ∧ Q w')
theorem ck_mI {X : ch_X} {d : Nat} {z : ch_M} {As : List ck_V} {w : ck_W} {Q : Int → ck_W → Prop} {B : Option ck_V → ck_W → Prop} (h : ck_CI X d z As w Q) (hm : ∀ v w', ck_i v → Q v w' → B (some (.inl v)) w') : ck_Ex X d z As w (fun r w' => ck_aok r.toList → B r w') :=
  ck_mono h (fun r w' _ _ ⟨v, e, q⟩ ho => by subst e; exact hm v w' ho.1 (q ho.1))
theorem ck_mJ {X : ch_X} {d : Nat} {z : ch_M} {As : List ck_V} {w : ck_W} {Q : Int → ck_W → Prop} {B : Option ck_V → ck_W → Prop} (h : ck_CJ X d z As w Q) (hm : ∀ v w', ck_l v → Q v w' → B (some (.inr (.inl v))) w') : ck_Ex X d z As w (fun r w' => ck_aok r.toList → B r w') :=
  ck_mono h (fun r w' _ _ ⟨v, e, q⟩ ho => by subst e; exact hm v w' ho.1 (q ho.1))
theorem ck_mN {X : ch_X} {d : Nat} {z : ch_M} {As : List ck_V} {w : ck_W} {Q : ck_W → Prop} {B : Option ck_V → ck_W → Prop} (h : ck_CN X d z As w Q) (hm : ∀ w', Q w' → B none w') : ck_Ex X d z As w (fun r w' => ck_aok r.toList → B r w') :=
  ck_mono h (fun r w' _ _ ⟨e, q⟩ _ => by subst e; exact hm w' q)

