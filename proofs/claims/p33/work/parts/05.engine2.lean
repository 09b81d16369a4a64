/-! ===== the engine, second part: fields, rows, answers, calls ===== -/
def ch_FL (own : String) (index ci j : Nat) : Prop := ∃ (C : String) (T : u_T) (N : Nat), vwCl[ci]? = some (C, T, N) ∧ j < N ∧ Cond.fieldLink own index (T j).1 (T j).2.1 (T j).2.2.1 ∈ ch_T ∧ ∀ w ∈ u_ws C T N, w ∈ ch_T
/-- a field that may be put: its type, not final -/
def ch_FP (own : String) (index ci j : Nat) (ty : FieldType) : Prop := ∃ (C : String) (T : u_T) (N : Nat), vwCl[ci]? = some (C, T, N) ∧ j < N ∧ Cond.fieldLink own index (T j).1 (T j).2.1 (T j).2.2.1 ∈ ch_T ∧ (∀ w ∈ u_ws C T N, w ∈ ch_T) ∧ (T j).2.2.2 = false ∧ parseFieldDescriptor (T j).2.2.1 = some ty ∧ (∃ ty0 : Nat → FieldType, ∀ k, k < N → parseFieldDescriptor (T k).2.2.1 = some (ty0 k)) ∧ ∀ a, a < N → ∀ b, b < N → a ≠ b → (T a).2.1 ≠ (T b).2.1
def ch_rv (w : ch_W) (k j : Nat) (f : ch_F) : Value := match f with
  | .inl _ => .int (w.1 k j)
  | .inr (.inl _) => .long (w.2 k j)
  | .inr (.inr q) => .ref q
theorem ch_re_rv (X : ch_X) (w : ch_W) (k j : Nat) (f : ch_F) : ch_re X (ch_rv w k j f) = ch_fv X w k j f := by
  rcases f with _ | _ | q <;> rfl
def ch_ui (w : ch_W) (k j : Nat) (v : Int32) : ch_W := (fun a b => if a = k ∧ b = j then v else w.1 a b, w.2)
def ch_ul (w : ch_W) (k j : Nat) (v : Int64) : ch_W := (w.1, fun a b => if a = k ∧ b = j then v else w.2 a b)
theorem ch_cell_ne {X : ch_X} {w w' : ch_W} {i : Nat} (d : ch_D) (h1 : w'.1 i = w.1 i) (h2 : w'.2 i = w.2 i) : ch_cell X w' i d = ch_cell X w i d := by
  rcases d with ⟨ty, n⟩ | ⟨ci, fs⟩
  · cases ty <;> simp [ch_cell, h1, h2]
  · have hq : (fun j f => ch_fv X w' i j f) = (fun j f => ch_fv X w i j f) := by
      funext j f
      rcases f with f | f | f <;> simp [ch_fv, h1, h2]
    simp only [ch_cell]
    rw [hq]
theorem ch_ws_set {X : ch_X} {w w' : ch_W} {k : Nat} {d : ch_D} {e : va_E} (hs : X.2.2.2.2.2[k]? = some d) (h1 : ∀ i, i ≠ k → w'.1 i = w.1 i) (h2 : ∀ i, i ≠ k → w'.2 i = w.2 i) (he : ch_cell X w' k d = e) : (ch_ws X w).set k (X.2.2.2.1 k, e) = ch_ws X w' := by
  apply List.ext_getElem?
  intro i
  by_cases hi : i = k
  · subst hi
    have hl : i < (ch_ws X w).length := (List.getElem?_eq_some_iff.mp (ch_ws_at (w := w) hs)).1
    rw [List.getElem?_set_self hl, ch_ws_at hs, he]
  · rw [List.getElem?_set_ne (Ne.symm hi)]
    simp only [ch_ws, List.getElem?_mapIdx]
    cases hd : X.2.2.2.2.2[i]? with
    | none => rfl
    | some d0 =>
      show some (_, _) = some (_, _)
      rw [ch_cell_ne d0 (h1 i hi) (h2 i hi)]
theorem ch_ui_ne {w : ch_W} {k j : Nat} {v : Int32} (i : Nat) (h : i ≠ k) : (ch_ui w k j v).1 i = w.1 i := by
  funext b
  simp [ch_ui, h]
theorem ch_ul_ne {w : ch_W} {k j : Nat} {v : Int64} (i : Nat) (h : i ≠ k) : (ch_ul w k j v).2 i = w.2 i := by
  funext b
  simp [ch_ul, h]
theorem ch_ui_row (w : ch_W) (k j : Nat) (v : Int32) : (ch_ui w k j v).1 k = upd (w.1 k) j v := by
  funext b
  simp [ch_ui, upd]
theorem ch_ul_row (w : ch_W) (k j : Nat) (v : Int64) : (ch_ul w k j v).2 k = vp_updL (w.2 k) j v := by
  funext b
  simp [ch_ul, vp_updL]
theorem ch_mapIdx_set {fs : List ch_F} {g g' : Nat → ch_F → Value} {j : Nat} {f : ch_F} (hf : fs[j]? = some f) (h : ∀ i q, i ≠ j → g' i q = g i q) {v : Value} (hv : g' j f = v) : (fs.mapIdx g).set j v = fs.mapIdx g' := by
  apply List.ext_getElem?
  intro i
  by_cases hi : i = j
  · subst hi
    have hl : i < (fs.mapIdx g).length := by
      have := (List.getElem?_eq_some_iff.mp hf).1
      simpa using this
    rw [List.getElem?_set_self hl, List.getElem?_mapIdx, hf, ← hv]
    rfl
  · rw [List.getElem?_set_ne (Ne.symm hi), List.getElem?_mapIdx, List.getElem?_mapIdx]
    cases fs[i]? with
    | none => rfl
    | some q => show some _ = some _; rw [h i q hi]
theorem ch_cl32 {i : Int32} (h : 0 ≤ i.toInt) : i.toNatClampNeg = i.toInt.toNat := rfl
section CHS
variable {X : ch_X} {d : Nat} {y : ch_M} {K : Option Value → ch_W → Prop} {pc : Nat} {L : ch_Lo} {S : List Value} {w : ch_W}
theorem ch_get {k ci j index : Nat} {fs : List ch_F} {f : ch_F} (v : Value) (hd : decode y.2.1 pc = .ok (.getfield index, 3)) (hl0 : ch_FL y.1.cls index ci j) (hs : X.2.2.2.2.2[k]? = some (.inr (ci, fs))) (hf : fs[j]? = some f) (hv : ch_rv w k j f = v) (kk : ch_At X d y K (pc + 3) L (v :: S) w) : ch_At X d y K pc L (.ref k :: S) w := by
  intro p e s m args below meth c E H locs ls hP hS hl
  obtain ⟨hx, hb, hr, hml, hts, hown, hlocks, hK, hB, hO, hN⟩ := id E
  obtain ⟨C, T, N, hc, hj, hlk, hin⟩ := hl0
  have ha := ch_ws_at (w := w) hs
  refine va_get (D := X.2.1) (cl := vwCl) (ci := ci) (v := ch_re X v) (C := C) (T := T) (N := N) hx hb hts hin hown hK hP k ha hc j hj (hts _ hlk) (fun _ h9 => h9) ?_ hd (kk p e s m args below meth c E H locs ls hP hS hl)
  rw [List.getElem?_mapIdx, hf, ← hv, ch_re_rv]
  rfl
theorem ch_puti {k ci j index : Nat} {fs : List ch_F} {v : Int32} (ty : FieldType) (hd : decode y.2.1 pc = .ok (.putfield index, 3)) (hl0 : ch_FP y.1.cls index ci j ty) (hs : X.2.2.2.2.2[k]? = some (.inr (ci, fs))) (hf : fs[j]? = some (.inl ())) (hn : narrow ty (.int v) = .int v) (hfit : fits ty (.int v) = true) (kk : ch_At X d y K (pc + 3) L S (ch_ui w k j v)) : ch_At X d y K pc L (.int v :: .ref k :: S) w := by
  intro p e s m args below meth c E H locs ls hP hS hl
  obtain ⟨hx, hb, hr, hml, hts, hown, hlocks, hK, hB, hO, hN⟩ := id E
  obtain ⟨C, T, N, hc, hj, hlk, hin, hfin, hdd, ⟨ty0, hty⟩, hnm⟩ := hl0
  have ha := ch_ws_at (w := w) hs
  have hjl : j < fs.length := (List.getElem?_eq_some_iff.mp hf).1
  refine va_put (D := X.2.1) (cl := vwCl) (ci := ci) (v := .int v) (ty := ty) (C := C) (T := T) (N := N) hx hb hts hin ty0 hty hnm hown hK hP (hO.D w) hS k ha hc j hj (hts _ hlk) (fun _ h9 => h9) hfin hdd hn hfit (by simpa using hjl) hd (fun H1 locs1 hP1 hD1 hS1 => ?_)
  refine kk p e s m args below meth c E H1 locs1 ls ?_ hS1 hl
  show va_P X.2.1 vwCl (ch_ws X (ch_ui w k j v)) H1
  rw [← ch_ws_set (w := w) (w' := ch_ui w k j v) (e := .inr (ci, (fs.mapIdx (fun j f => ch_fv X w k j f)).set j (.int v))) hs (fun i h => ch_ui_ne i h) (fun i h => rfl) ?_]
  · exact hP1
  · have hq : (fs.mapIdx (fun j f => ch_fv X w k j f)).set j (.int v) = fs.mapIdx (fun j' f' => ch_fv X (ch_ui w k j v) k j' f') :=
      ch_mapIdx_set hf (fun i q hi => by rcases q with q | q | q <;> simp [ch_fv, ch_ui, hi]) (by simp [ch_fv, ch_ui])
    rw [hq]
    rfl
theorem ch_putl {k ci j index : Nat} {fs : List ch_F} {v : Int64} (hd : decode y.2.1 pc = .ok (.putfield index, 3)) (hl0 : ch_FP y.1.cls index ci j .long) (hs : X.2.2.2.2.2[k]? = some (.inr (ci, fs))) (hf : fs[j]? = some (.inr (.inl ()))) (kk : ch_At X d y K (pc + 3) L S (ch_ul w k j v)) : ch_At X d y K pc L (.long v :: .ref k :: S) w := by
  intro p e s m args below meth c E H locs ls hP hS hl
  obtain ⟨hx, hb, hr, hml, hts, hown, hlocks, hK, hB, hO, hN⟩ := id E
  obtain ⟨C, T, N, hc, hj, hlk, hin, hfin, hdd, ⟨ty0, hty⟩, hnm⟩ := hl0
  have ha := ch_ws_at (w := w) hs
  have hjl : j < fs.length := (List.getElem?_eq_some_iff.mp hf).1
  refine va_put (D := X.2.1) (cl := vwCl) (ci := ci) (v := .long v) (ty := .long) (C := C) (T := T) (N := N) hx hb hts hin ty0 hty hnm hown hK hP (hO.D w) hS k ha hc j hj (hts _ hlk) (fun _ h9 => h9) hfin hdd rfl rfl (by simpa using hjl) hd (fun H1 locs1 hP1 hD1 hS1 => ?_)
  refine kk p e s m args below meth c E H1 locs1 ls ?_ hS1 hl
  show va_P X.2.1 vwCl (ch_ws X (ch_ul w k j v)) H1
  rw [← ch_ws_set (w := w) (w' := ch_ul w k j v) (e := .inr (ci, (fs.mapIdx (fun j f => ch_fv X w k j f)).set j (.long v))) hs (fun i h => rfl) (fun i h => ch_ul_ne i h) ?_]
  · exact hP1
  · have hq : (fs.mapIdx (fun j f => ch_fv X w k j f)).set j (.long v) = fs.mapIdx (fun j' f' => ch_fv X (ch_ul w k j v) k j' f') :=
      ch_mapIdx_set hf (fun i q hi => by rcases q with q | q | q <;> simp [ch_fv, ch_ul, hi]) (by simp [ch_fv, ch_ul])
    rw [hq]
    rfl
theorem ch_in {i : Int32} {n : Nat} (h : 0 ≤ i.toInt ∧ i.toInt < n) : vp_in i n := vp_in_iff.mpr h
theorem ch_iald {k n : Nat} {i : Int32} (hd : decode y.2.1 pc = .ok (.iaload, 1)) (hs : X.2.2.2.2.2[k]? = some (.inl (.int, n))) (hin : 0 ≤ i.toInt ∧ i.toInt < n) (kk : ch_At X d y K (pc + 1) L (.int (w.1 k i.toInt.toNat) :: S) w) : ch_At X d y K pc L (.int i :: .ref k :: S) w := by
  intro p e s m args below meth c E H locs ls hP hS hl
  obtain ⟨hx, hb, hr, hml, hts, hown, hlocks, hK, hB, hO, hN⟩ := id E
  exact va_iald hx hb hK hP k 0 (ch_ws_at (w := w) hs) rfl (ch_in hin) hd (kk p e s m args below meth c E H locs ls hP hS hl)
theorem ch_zald {k n : Nat} {i : Int32} (hd : decode y.2.1 pc = .ok (.baload, 1)) (hs : X.2.2.2.2.2[k]? = some (.inl (.boolean, n))) (hin : 0 ≤ i.toInt ∧ i.toInt < n) (kk : ch_At X d y K (pc + 1) L (.int (w.1 k i.toInt.toNat) :: S) w) : ch_At X d y K pc L (.int i :: .ref k :: S) w := by
  intro p e s m args below meth c E H locs ls hP hS hl
  obtain ⟨hx, hb, hr, hml, hts, hown, hlocks, hK, hB, hO, hN⟩ := id E
  exact va_zald hx hb hK hP k 2 (ch_ws_at (w := w) hs) rfl (ch_in hin) hd (kk p e s m args below meth c E H locs ls hP hS hl)
theorem ch_lald {k n : Nat} {i : Int32} (hd : decode y.2.1 pc = .ok (.laload, 1)) (hs : X.2.2.2.2.2[k]? = some (.inl (.long, n))) (hin : 0 ≤ i.toInt ∧ i.toInt < n) (kk : ch_At X d y K (pc + 1) L (.long (w.2 k i.toInt.toNat) :: S) w) : ch_At X d y K pc L (.int i :: .ref k :: S) w := by
  intro p e s m args below meth c E H locs ls hP hS hl
  obtain ⟨hx, hb, hr, hml, hts, hown, hlocks, hK, hB, hO, hN⟩ := id E
  exact va_lald hx hb hK hP k 1 (ch_ws_at (w := w) hs) rfl (ch_in hin) hd (kk p e s m args below meth c E H locs ls hP hS hl)
theorem ch_iast {k n : Nat} {i v : Int32} (hd : decode y.2.1 pc = .ok (.iastore, 1)) (hs : X.2.2.2.2.2[k]? = some (.inl (.int, n))) (hin : 0 ≤ i.toInt ∧ i.toInt < n) (kk : ch_At X d y K (pc + 1) L S (ch_ui w k i.toInt.toNat v)) : ch_At X d y K pc L (.int v :: .int i :: .ref k :: S) w := by
  intro p e s m args below meth c E H locs ls hP hS hl
  obtain ⟨hx, hb, hr, hml, hts, hown, hlocks, hK, hB, hO, hN⟩ := id E
  refine va_iast hx hb hK hP (hO.D w) hS k 0 (ch_ws_at (w := w) hs) rfl (ch_in hin) hd (fun H1 locs1 hP1 hD1 hS1 => ?_)
  refine kk p e s m args below meth c E H1 locs1 ls ?_ hS1 hl
  show va_P X.2.1 vwCl (ch_ws X (ch_ui w k i.toInt.toNat v)) H1
  rw [← ch_ws_set (w := w) (w' := ch_ui w k i.toInt.toNat v) (e := .inl (X.2.2.1 .int, n, .inl (upd (w.1 k) i.toInt.toNat v))) hs (fun i h => ch_ui_ne i h) (fun i h => rfl) ?_]
  · exact hP1
  · simp only [ch_cell, ch_ui_row]
theorem ch_zast {k n : Nat} {i v : Int32} (hd : decode y.2.1 pc = .ok (.bastore, 1)) (hs : X.2.2.2.2.2[k]? = some (.inl (.boolean, n))) (hin : 0 ≤ i.toInt ∧ i.toInt < n) (hn : vp_nar .boolean v = v) (kk : ch_At X d y K (pc + 1) L S (ch_ui w k i.toInt.toNat v)) : ch_At X d y K pc L (.int v :: .int i :: .ref k :: S) w := by
  intro p e s m args below meth c E H locs ls hP hS hl
  obtain ⟨hx, hb, hr, hml, hts, hown, hlocks, hK, hB, hO, hN⟩ := id E
  refine va_zast hx hb hK hP (hO.D w) hS k 2 (ch_ws_at (w := w) hs) rfl (ch_in hin) hd (fun H1 locs1 hP1 hD1 hS1 => ?_)
  refine kk p e s m args below meth c E H1 locs1 ls ?_ hS1 hl
  show va_P X.2.1 vwCl (ch_ws X (ch_ui w k i.toInt.toNat v)) H1
  rw [hn] at hP1
  rw [← ch_ws_set (w := w) (w' := ch_ui w k i.toInt.toNat v) (e := .inl (X.2.2.1 .boolean, n, .inl (upd (w.1 k) i.toInt.toNat v))) hs (fun i h => ch_ui_ne i h) (fun i h => rfl) ?_]
  · exact hP1
  · simp only [ch_cell, ch_ui_row]
theorem ch_last {k n : Nat} {i : Int32} {v : Int64} (hd : decode y.2.1 pc = .ok (.lastore, 1)) (hs : X.2.2.2.2.2[k]? = some (.inl (.long, n))) (hin : 0 ≤ i.toInt ∧ i.toInt < n) (kk : ch_At X d y K (pc + 1) L S (ch_ul w k i.toInt.toNat v)) : ch_At X d y K pc L (.long v :: .int i :: .ref k :: S) w := by
  intro p e s m args below meth c E H locs ls hP hS hl
  obtain ⟨hx, hb, hr, hml, hts, hown, hlocks, hK, hB, hO, hN⟩ := id E
  refine va_last hx hb hK hP (hO.D w) hS k 1 (ch_ws_at (w := w) hs) rfl (ch_in hin) hd (fun H1 locs1 hP1 hD1 hS1 => ?_)
  refine kk p e s m args below meth c E H1 locs1 ls ?_ hS1 hl
  show va_P X.2.1 vwCl (ch_ws X (ch_ul w k i.toInt.toNat v)) H1
  rw [← ch_ws_set (w := w) (w' := ch_ul w k i.toInt.toNat v) (e := .inl (X.2.2.1 .long, n, .inr (.inl (vp_updL (w.2 k) i.toInt.toNat v)))) hs (fun i h => rfl) (fun i h => ch_ul_ne i h) ?_]
  · exact hP1
  · simp only [ch_cell, ch_ul_row]
theorem ch_alen {k n : Nat} {ty : FieldType} (t0 : Nat) (v : Int32) (hd : decode y.2.1 pc = .ok (.arraylength, 1)) (hs : X.2.2.2.2.2[k]? = some (.inl (ty, n))) (ht : (ch_Tys X)[t0]? = some (X.2.2.1 ty, ty)) (hv : Int32.ofNat n = v) (kk : ch_At X d y K (pc + 1) L (.int v :: S) w) : ch_At X d y K pc L (.ref k :: S) w := by
  intro p e s m args below meth c E H locs ls hP hS hl
  obtain ⟨hx, hb, hr, hml, hts, hown, hlocks, hK, hB, hO, hN⟩ := id E
  have ha := ch_ws_at (w := w) hs
  have hc : ∃ x : vp_A, ch_cell X w k (.inl (ty, n)) = .inl (X.2.2.1 ty, x) ∧ x.1 = n := by
    cases ty <;> exact ⟨_, rfl, rfl⟩
  obtain ⟨x, hc1, hc2⟩ := hc
  rw [hc1] at ha
  exact va_alen hx hb hK hP k t0 ha ht (by rw [hc2]; exact hv) hd (kk p e s m args below meth c E H locs ls hP hS hl)
theorem ch_iret {v : Int32} {ty : FieldType} (hd : decode y.2.1 pc = .ok (.ireturn, 1)) (hr0 : y.2.2.2 = some ty) (hn : narrow ty (.int v) = .int v) (hK0 : K (some (.int v)) w) : ch_At X d y K pc L [.int v] w := by
  intro p e s m args below meth c E H locs ls hP hS hl
  obtain ⟨hx, hb, hr, hml, hts, hown, hlocks, hK, hB, hO, hN⟩ := id E
  exact W.zret (ty := ty) hx hb (hr.trans hr0) hn (fun t ht hW => ⟨⟨some (.int v), w, rfl, hK0, by rw [ht]; exact hP⟩, hS.F ht⟩) hS.2.2 hd hlocks
theorem ch_lret {v : Int64} (hd : decode y.2.1 pc = .ok (.lreturn, 1)) (hr0 : y.2.2.2 = some .long) (hK0 : K (some (.long v)) w) : ch_At X d y K pc L [.long v] w := by
  intro p e s m args below meth c E H locs ls hP hS hl
  obtain ⟨hx, hb, hr, hml, hts, hown, hlocks, hK, hB, hO, hN⟩ := id E
  exact W.lret hx hb (hr.trans hr0) (fun t ht hW => ⟨⟨some (.long v), w, rfl, hK0, by rw [ht]; exact hP⟩, hS.F ht⟩) hS.2.2 hd hlocks
theorem ch_vret (hd : decode y.2.1 pc = .ok (.return_, 1)) (hr0 : y.2.2.2 = none) (hK0 : K none w) : ch_At X d y K pc L [] w := by
  intro p e s m args below meth c E H locs ls hP hS hl
  obtain ⟨hx, hb, hr, hml, hts, hown, hlocks, hK, hB, hO, hN⟩ := id E
  exact W.vret hx hb (hr.trans hr0) (fun t ht hW => ⟨⟨none, w, rfl, hK0, by rw [ht]; exact hP⟩, hS.F ht⟩) hS.2.2 hd hlocks
end CHS
theorem ch_blind {X : ch_X} {As : List Value} {w : ch_W} : FrameBlind (ch_Pc X As w) := fun a U g mk q => by
  obtain ⟨q0, q1, q2, q3, q4⟩ := q
  exact ⟨q0, q1, q2, va_K.moved (u := U) (U := U.calling g mk a) (Vm.Alike.refl U.vm) q3, q4.same rfl rfl⟩
theorem ch_B.of {X : ch_X} (hO : ch_Ok X) {H0 H : Heap} {locs : List Loc} (h : ch_B X H0) (hS : va_S (ch_A X) H0 H locs) : ch_B X H := by
  refine ⟨Nat.le_trans h.1 hS.1, fun q hq => ?_⟩
  rw [hS.2.1 q (Nat.lt_of_lt_of_le hq h.1) ?_]
  · exact h.2 q hq
  · rintro ⟨k, hk, rfl⟩
    exact absurd (hO.2 k hk) (by omega)
section CHC
variable {X : ch_X} {d : Nat} {y : ch_M} {K : Option Value → ch_W → Prop} {pc : Nat} {L : ch_Lo} {S : List Value} {w : ch_W}
/-- behind a call -/
theorem ch_back {z : ch_M} {As S' : List Value} {n : Nat} (hn : n = 0) {p : Program} {e : Env} {s : State} {m : MethodId} {args : Array Value} {below : List Frame} {meth : Method} {c : Code} (E : ch_E X y p s m args meth c) {H : Heap} {locs : List Loc} {ls : Array Slot} (hS : va_S (ch_A X) s.heap H locs) (hl : lv_has ls y.2.2.1 (ch_as X 0 L)) {a : Array Value}
    (hr : va_Run p X.1 e (ch_R (d + 1)) s m args below meth c H locs 0 0 0 0 (F0 m pc ls S') (S.map (ch_re X)) (ch_Qc X (fun r w' => ch_At X (d + 1) y K (pc + 3) L (r.toList ++ S) w') a) (ch_A X)) :
    W p X.1 e (ch_R (d + 1)) s m args below meth c H locs 0 0 (MQ below (ch_Qc X K) args s 0 0 (ch_A X)) (F0 m pc ls S') := by
  intro T hT Y
  obtain ⟨v, st₀, t, T', L', h0, Y', hL, e1, e2, ⟨⟨r, w', hv, hk, hP'⟩, hz, hk2⟩, st⟩ := hr T hT Y
  cases hv
  rw [h0] at hz hk2
  have hS' : va_S (ch_A X) s.heap T'.heap (locs ++ L') := ⟨Nat.le_trans hS.1 (by rw [e1]; exact hz), fun q h1 h2 => by rw [e1, hk2 q (Nat.lt_of_lt_of_le h1 hS.1) h2]; exact hS.2.1 q h1 h2, fun q hq => by
      rcases List.mem_append.mp hq with h | h
      · exact hS.2.2 q h
      · exact hL q h⟩
  obtain ⟨t2, a1, b1⟩ := hk p e s m args below meth c E T'.heap (locs ++ L') ls (by rw [e1]; exact hP') hS' hl T' rfl Y'
  refine ⟨t2, st t2 ?_, b1⟩
  have e3 : (r.map (ch_re X)).toList ++ S.map (ch_re X) = (r.toList ++ S).map (ch_re X) := by
    cases r <;> simp
  rw [e3]
  exact a1
/-- words of a method z: static (ch_ZS), of an object (ch_ZV) -/
def ch_ZS (z : ch_M) (n : Nat) : Prop := Cond.static z.1 ∈ ch_T ∧ Cond.initialized z.1.cls ∈ ch_T ∧ Cond.code z.1 z.2.1 z.2.2.1 z.2.2.2 ∈ ch_T ∧ (z.1.cls ≠ "java/lang/invoke/MethodHandle" ∧ z.1.cls ≠ "java/lang/invoke/VarHandle" ∧ (parseMethodDescriptor z.1.desc).map (fun d => d.parameters.length) = some n) ∧ z.2.2.1 ≤ 21
def ch_ZV (z : ch_M) (n ci : Nat) : Prop := Cond.instanceMethod z.1 ∈ ch_T ∧ Cond.selects z.1.cls z.1 z.1 ∈ ch_T ∧ Cond.initialized z.1.cls ∈ ch_T ∧ Cond.code z.1 z.2.1 z.2.2.1 z.2.2.2 ∈ ch_T ∧ (z.1.cls ≠ "java/lang/invoke/MethodHandle" ∧ z.1.cls ≠ "java/lang/invoke/VarHandle" ∧ (parseMethodDescriptor z.1.desc).map (fun d => d.parameters.length) = some n) ∧ z.2.2.1 ≤ 21 ∧ ∃ (T : u_T) (N : Nat), vwCl[ci]? = some (z.1.cls, T, N)
/-- words of a call of z out of the class own: static or not, plain or of a nest mate -/
def ch_CS (own : String) (index n : Nat) (z : ch_M) : Prop := Cond.methodLink own index z.1 ∈ ch_T ∧ ch_ZS z n
def ch_CSN (own : String) (index n : Nat) (z : ch_M) (host : String) : Prop := Cond.methodLinkNest own index z.1 host ∈ lw_tbl ∧ ch_ZS z n
def ch_CV (own : String) (index n ci : Nat) (z : ch_M) : Prop := Cond.methodLink own index z.1 ∈ ch_T ∧ ch_ZV z n ci
theorem ch_callS {z : ch_M} {index n : Nat} (As S : List Value) {S0 : List Value} (hd : decode y.2.1 pc = .ok (.invokestatic index, 3)) (hc : ch_CS y.1.cls index n z) (hn : As.length = n) (h0 : S0 = As.reverse ++ S) (h8 : (S.map fun v => v.category).sum ≤ 8)
    (k : ch_Ex X d z As w (fun r w' => ch_At X (d + 1) y K (pc + 3) L (r.toList ++ S) w')) : ch_At X (d + 1) y K pc L S0 w := by
  intro p e s m args below meth c E H locs ls hP hS hl
  obtain ⟨hx, hb, hr, hml, hts, hown, hlocks, hK, hB, hO, hN⟩ := id E
  obtain ⟨c1, c2, c3, c4, c5, c6⟩ := hc
  subst h0
  refine ch_back (z := z) (As := As) (n := 0) rfl E hS hl (va_runS (n := n) (As := As.map (ch_re X)) (rest := S.map (ch_re X)) (Ts := ch_T) (own := y.1.cls) (nL := y.2.2.1) ⟨hx, hb, hml, hown, hts⟩ k ⟨callB_of n hts (ch_good (fun _ h => h) c4) rfl rfl rfl (hts _ c3) (hts _ c1) c5 ⟨Nat.le_refl _, ?_⟩, hts _ c2⟩ ⟨ch_blind, fun U hU hW => ⟨rfl, by rw [hU]; exact hP, by rw [hU]; exact ch_B.of hO hB hS, va_K.moved hW.alike hK, hN.warm hW hU hS⟩⟩ rfl (by simp [hn]) hl.1 (by simp) (lv_room ?_) hd ⟨Nat.zero_le _, Nat.zero_le _⟩)
  · show 8 + (z.2.2.1 + 11) + 40 * d ≤ 40 * (d + 1)
    omega
  · have : (S.map (ch_re X)).map (fun v => v.category) = S.map (fun v => v.category) := by simp [ch_re_cat]
    rw [this]; exact h8
theorem ch_callSN {z : ch_M} {index n : Nat} {host : String} (As S : List Value) {S0 : List Value} (hd : decode y.2.1 pc = .ok (.invokestatic index, 3)) (hc : ch_CSN y.1.cls index n z host) (hn : As.length = n) (h0 : S0 = As.reverse ++ S) (h8 : (S.map fun v => v.category).sum ≤ 8)
    (k : ch_Ex X d z As w (fun r w' => ch_At X (d + 1) y K (pc + 3) L (r.toList ++ S) w')) : ch_At X (d + 1) y K pc L S0 w := by
  intro p e s m args below meth c E H locs ls hP hS hl
  obtain ⟨hx, hb, hr, hml, hts, hown, hlocks, hK, hB, hO, hN⟩ := id E
  obtain ⟨c1, c2, c3, c4, c5, c6⟩ := hc
  subst h0
  refine ch_back (z := z) (As := As) (n := 0) rfl E hS hl (va_runSN (n := n) (As := As.map (ch_re X)) (rest := S.map (ch_re X)) (Ts := ch_T) (own := y.1.cls) (host := host) (nL := y.2.2.1) ⟨hx, hb, hml, hown, hts⟩ k ⟨va_cnB n hts (ch_good (fun _ h => h) c4) rfl rfl rfl (hN.1 _ c1 rfl) (hts _ c3) c5 ⟨Nat.le_refl _, ?_⟩, hts _ c2, trivial⟩ ⟨ch_blind, fun U hU hW => ⟨rfl, by rw [hU]; exact hP, by rw [hU]; exact ch_B.of hO hB hS, va_K.moved hW.alike hK, hN.warm hW hU hS⟩⟩ rfl (by simp [hn]) hl.1 (by simp) (lv_room ?_) hd ⟨Nat.zero_le _, Nat.zero_le _⟩)
  · show 8 + (z.2.2.1 + 11) + 40 * d ≤ 40 * (d + 1)
    omega
  · have : (S.map (ch_re X)).map (fun v => v.category) = S.map (fun v => v.category) := by simp [ch_re_cat]
    rw [this]; exact h8
theorem ch_callV {z : ch_M} {index n ci k : Nat} {fs : List ch_F} (As S : List Value) {S0 : List Value} (hd : decode y.2.1 pc = .ok (.invokevirtual index, 3)) (hc : ch_CV y.1.cls index n ci z) (hs : X.2.2.2.2.2[k]? = some (.inr (ci, fs))) (hn : As.length = n) (h0 : S0 = As.reverse ++ .ref k :: S) (h8 : (S.map fun v => v.category).sum ≤ 8)
    (kk : ch_Ex X d z (.ref k :: As) w (fun r w' => ch_At X (d + 1) y K (pc + 3) L (r.toList ++ S) w')) : ch_At X (d + 1) y K pc L S0 w := by
  intro p e s m args below meth c E H locs ls hP hS hl
  obtain ⟨hx, hb, hr, hml, hts, hown, hlocks, hK, hB, hO, hN⟩ := id E
  obtain ⟨c1, c2, c2b, c3, c4, c5, c6, T, N, hcl⟩ := hc
  subst h0
  have ha := ch_ws_at (w := w) hs
  refine ch_back (z := z) (As := As) (n := 0) rfl E hS hl (va_runV (n := n) (C := z.1.cls) (b := X.2.2.2.1 k) (As := As.map (ch_re X)) (rest := S.map (ch_re X)) (Ts := ch_T) (own := y.1.cls) (nL := y.2.2.1) ⟨hx, hb, hml, hown, hts⟩ kk ⟨callB_of n hts (ch_good (fun _ h => h) c4) rfl rfl rfl (hts _ c3) (hts _ c1) c5 ⟨Nat.le_refl _, ?_⟩, hts _ c2, hts _ c2b⟩ ⟨ch_blind, va_recv hK hP hcl ha, fun U hU hW => ⟨rfl, by rw [hU]; exact hP, by rw [hU]; exact ch_B.of hO hB hS, va_K.moved hW.alike hK, hN.warm hW hU hS⟩⟩ rfl (by simp [hn]) hl.1 (by simp [ch_re]) (lv_room ?_) hd ⟨Nat.zero_le _, Nat.zero_le _⟩)
  · show 8 + (z.2.2.1 + 11) + 40 * d ≤ 40 * (d + 1)
    omega
  · have : (S.map (ch_re X)).map (fun v => v.category) = S.map (fun v => v.category) := by simp [ch_re_cat]
    rw [this]; exact h8
end CHC
