/-! ===== constructors: rows with whole numbers, fields, arrays of any length ===== -/
section CNS
variable {X : ch_X} {d C S : Nat} {y : ch_M} {ws0 : va_W} {K : va_W → Prop} {pc : Nat} {L : List (Nat × Value)} {St : List Value} {cells slots : Nat} {ws : va_W}
theorem cn_imul {a b : Int} (hd : decode y.2.1 pc = .ok (.imul, 1)) (k : cn_At X d C S y ws0 K (pc + 1) L (.int (Int32.ofInt (a * b)) :: St) cells slots ws) : cn_At X d C S y ws0 K pc L (.int (Int32.ofInt b) :: .int (Int32.ofInt a) :: St) cells slots ws := by
  intro p e s m args below meth c E H locs ls hP hD hS hl
  refine lv_imul E.1 E.2.1 hd ?_
  rw [← Int32.ofInt_mul]
  exact k p e s m args below meth c E H locs ls hP hD hS hl
theorem cn_iadd {a b : Int} (hd : decode y.2.1 pc = .ok (.iadd, 1)) (k : cn_At X d C S y ws0 K (pc + 1) L (.int (Int32.ofInt (a + b)) :: St) cells slots ws) : cn_At X d C S y ws0 K pc L (.int (Int32.ofInt b) :: .int (Int32.ofInt a) :: St) cells slots ws := by
  intro p e s m args below meth c E H locs ls hP hD hS hl
  refine lv_iadd E.1 E.2.1 hd ?_
  rw [← Int32.ofInt_add]
  exact k p e s m args below meth c E H locs ls hP hD hS hl
theorem cn_isub {a b : Int} (hd : decode y.2.1 pc = .ok (.isub, 1)) (k : cn_At X d C S y ws0 K (pc + 1) L (.int (Int32.ofInt (a - b)) :: St) cells slots ws) : cn_At X d C S y ws0 K pc L (.int (Int32.ofInt b) :: .int (Int32.ofInt a) :: St) cells slots ws := by
  intro p e s m args below meth c E H locs ls hP hD hS hl
  refine lv_isub E.1 E.2.1 hd ?_
  rw [← Int32.ofInt_sub]
  exact k p e s m args below meth c E H locs ls hP hD hS hl
theorem cn_l2i {a : Int} (hd : decode y.2.1 pc = .ok (.l2i, 1)) (k : cn_At X d C S y ws0 K (pc + 1) L (.int (Int32.ofInt a) :: St) cells slots ws) : cn_At X d C S y ws0 K pc L (.long (Int64.ofInt a) :: St) cells slots ws := by
  intro p e s m args below meth c E H locs ls hP hD hS hl
  exact lv_l2i E.1 E.2.1 hd (ck_l2i_e a) (k p e s m args below meth c E H locs ls hP hD hS hl)
theorem cn_ofI {a b : Int} (h : a = b) (k : cn_At X d C S y ws0 K pc L (.int (Int32.ofInt b) :: St) cells slots ws) : cn_At X d C S y ws0 K pc L (.int (Int32.ofInt a) :: St) cells slots ws := by rw [h]; exact k
theorem cn_getf {b ci j index : Nat} {fs : List Value} {v : Value} (i : Nat) (hd : decode y.2.1 pc = .ok (.getfield index, 3)) (hq : ch_FL y.1.cls index ci j) (he : ws[i]? = some (b, .inr (ci, fs))) (hv : fs[j]? = some v) (k : cn_At X d C S y ws0 K (pc + 3) L (v :: St) cells slots ws) : cn_At X d C S y ws0 K pc L (.ref b :: St) cells slots ws := by
  intro p e s m args below meth c E H locs ls hP hD hS hl
  obtain ⟨hx, hb, hr, hml, hts, hown, hlocks, hnm, hK, hB, hN', hD0⟩ := id E
  obtain ⟨C1, T, N, hc, hj, hlk, hin1⟩ := hq
  exact va_get (D := X.2.1) (cl := vwCl) (ci := ci) (C := C1) (T := T) (N := N) hx hb hts hin1 hown hK hP i he hc j hj (hts _ hlk) (fun _ h9 => h9) hv hd (k p e s m args below meth c E H locs ls hP hD hS hl)
theorem cn_lenI {e : Int} {N : Nat} (he : e = (N : Int)) (hN : N ≤ 134217728) : ¬ Int32.ofInt e < 0 ∧ (Int32.ofInt e).toNatClampNeg = N := by
  have h : ck_i e := ⟨by omega, by omega⟩
  constructor
  · rw [Int32.lt_iff_toInt_lt, ck_i32 h]
    show ¬ e < 0
    omega
  · show (Int32.ofInt e).toInt.toNat = N
    rw [ck_i32 h]; omega
theorem cn_newN {e : Int} (N : Nat) {ws' : Nat → va_W} (hd : decode y.2.1 pc = .ok (.newarray .int, 2)) (hT : Cond.arrayClass .int ∈ ch_T) (he : e = (N : Int)) (hN : N ≤ 134217728) (hc : cells + 1 ≤ C) (hs : slots + N ≤ S) (hw : ∀ q, ws ++ [(q, .inl (X.2.2.1 .int, N, .inl (fun _ => 0)))] = ws' q)
    (k : ∀ q, cn_At X d C S y ws0 K (pc + 2) L (.ref q :: St) (cells + 1) (slots + N) (ws' q)) : cn_At X d C S y ws0 K pc L (.int (Int32.ofInt e) :: St) cells slots ws :=
  cn_newI N hd hT (cn_lenI he hN).1 (cn_lenI he hN).2 (by omega) hc hs hw k
theorem cn_newL {e : Int} (N : Nat) {ws' : Nat → va_W} (hd : decode y.2.1 pc = .ok (.newarray .long, 2)) (hT : Cond.arrayClass .long ∈ ch_T) (he : e = (N : Int)) (hN : N ≤ 67108864) (hc : cells + 1 ≤ C) (hs : slots + N ≤ S) (hw : ∀ q, ws ++ [(q, .inl (X.2.2.1 .long, N, .inr (.inl (fun _ => 0))))] = ws' q)
    (k : ∀ q, cn_At X d C S y ws0 K (pc + 2) L (.ref q :: St) (cells + 1) (slots + N) (ws' q)) : cn_At X d C S y ws0 K pc L (.int (Int32.ofInt e) :: St) cells slots ws := by
  intro p e0 s m args below meth c E H locs ls hP hD hS hl
  obtain ⟨hx, hb, hr, hml, hts, hown, hlocks, hnm, hK, hB, hN', hD0⟩ := id E
  refine va_newa (atype := .long) (a0 := (N, .inr (.inl (fun _ => 0)))) hx hb (hts _ hT) rfl hK hP hD hS (fun q h => Or.inr h) (fun cA => rfl) (cn_lenI he (by omega)).1 (cn_lenI he (by omega)).2 (show N * 8 ≤ 536870912 by omega) hc hs hd (fun q cA H1 hK1 hP1 hD1 hS1 => ?_)
  have e1 : cA = X.2.2.1 .long := by
    have a := (hK1.2 3 (cA, .long) rfl).2
    have b := (hK.2 1 (X.2.2.1 .long, .long) rfl).2
    exact Option.some.inj ((va_nm_long a).symm.trans (va_nm_long b))
  subst e1
  rw [hw] at hP1 hD1
  exact k q p e0 s m args below meth c E H1 locs ls hP1 hD1 hS1 hl
theorem cn_newZ {e : Int} (N : Nat) {ws' : Nat → va_W} (hd : decode y.2.1 pc = .ok (.newarray .boolean, 2)) (hT : Cond.arrayClass .boolean ∈ ch_T) (he : e = (N : Int)) (hN : N ≤ 134217728) (hc : cells + 1 ≤ C) (hs : slots + N ≤ S) (hw : ∀ q, ws ++ [(q, .inl (X.2.2.1 .boolean, N, .inl (fun _ => 0)))] = ws' q)
    (k : ∀ q, cn_At X d C S y ws0 K (pc + 2) L (.ref q :: St) (cells + 1) (slots + N) (ws' q)) : cn_At X d C S y ws0 K pc L (.int (Int32.ofInt e) :: St) cells slots ws := by
  intro p e0 s m args below meth c E H locs ls hP hD hS hl
  obtain ⟨hx, hb, hr, hml, hts, hown, hlocks, hnm, hK, hB, hN', hD0⟩ := id E
  refine va_newa (atype := .boolean) (a0 := (N, .inl (fun _ => 0))) hx hb (hts _ hT) rfl hK hP hD hS (fun q h => Or.inr h) (fun cA => rfl) (cn_lenI he hN).1 (cn_lenI he hN).2 (show N * 1 ≤ 536870912 by omega) hc hs hd (fun q cA H1 hK1 hP1 hD1 hS1 => ?_)
  have e1 : cA = X.2.2.1 .boolean := by
    have a := (hK1.2 3 (cA, .boolean) rfl).2
    have b := (hK.2 2 (X.2.2.1 .boolean, .boolean) rfl).2
    exact Option.some.inj ((va_nm_boolean a).symm.trans (va_nm_boolean b))
  subst e1
  rw [hw] at hP1 hD1
  exact k q p e0 s m args below meth c E H1 locs ls hP1 hD1 hS1 hl
theorem cn_ldc {idx : Nat} {v : Int32} (e0 : Int) (hk : Cond.constant y.1.cls idx v ∈ ch_T) (hv : v = Int32.ofInt e0) (hd : decode y.2.1 pc = .ok (.ldc idx, 2)) (k : cn_At X d C S y ws0 K (pc + 2) L (.int (Int32.ofInt e0) :: St) cells slots ws) : cn_At X d C S y ws0 K pc L St cells slots ws := by
  intro p e s m args below meth c E H locs ls hP hD hS hl
  obtain ⟨hx, hb, hr, hml, hts, hown, hlocks, hnm, hK, hB, hN', hD0⟩ := id E
  subst hv
  exact lv_ldc hx hb hown (hts _ hk) hd (k p e s m args below meth c E H locs ls hP hD hS hl)
theorem cn_okn : ck_ok [] (fun _ _ => 0) := by
  intro k j
  exact ⟨fun _ => (show ck_l 0 by decide), fun _ => (show ck_i 0 by decide)⟩
theorem cn_max {index : Nat} {a b : Int} (isR : List Nat) (hd : decode y.2.1 pc = .ok (.invokestatic index, 3)) (hc : ch_CS y.1.cls index 2 mJ9_max_7cf53) (ha : ck_i a) (hb : ck_i b) (h8 : (St.map fun v => v.category).sum ≤ 8) (hR : isR.map (fun i => ws[i]?) = ws.map some) (hnd : va_nd isR = true) (hd1 : 1 ≤ d) (hce : cells ≤ C) (hsl : slots ≤ S) (k : cn_At X d C S y ws0 K (pc + 3) L (.int (Int32.ofInt (max a b)) :: St) cells slots ws) : cn_At X d C S y ws0 K pc L (.int (Int32.ofInt b) :: .int (Int32.ofInt a) :: St) cells slots ws := by
  refine cn_callS (dz := 0) (wr := ws) (w := ck_w (fun _ _ => 0)) (fun _ => 0) [] [.int (Int32.ofInt a), .int (Int32.ofInt b)] [] isR hd hc rfl rfl h8 rfl rfl hR rfl hnd (fun _ _ h => by cases h) hd1 hce hsl (fun hO => gx_max (K := fun r _ => r = some (.inl (max a b))) hO rfl cn_okn ⟨ha, hb, trivial⟩) (fun r w1 h => ?_)
  obtain ⟨r', w', rfl, h2, h3, h4, rfl⟩ := h
  rw [show ch_ws (cn_X X (fun _ => 0) []) w1 = [] from rfl, List.append_nil]
  exact k
theorem cn_min {index : Nat} {a b : Int} (isR : List Nat) (hd : decode y.2.1 pc = .ok (.invokestatic index, 3)) (hc : ch_CS y.1.cls index 2 mJ9_min_7cf53) (ha : ck_i a) (hb : ck_i b) (h8 : (St.map fun v => v.category).sum ≤ 8) (hR : isR.map (fun i => ws[i]?) = ws.map some) (hnd : va_nd isR = true) (hd1 : 1 ≤ d) (hce : cells ≤ C) (hsl : slots ≤ S) (k : cn_At X d C S y ws0 K (pc + 3) L (.int (Int32.ofInt (min a b)) :: St) cells slots ws) : cn_At X d C S y ws0 K pc L (.int (Int32.ofInt b) :: .int (Int32.ofInt a) :: St) cells slots ws := by
  refine cn_callS (dz := 0) (wr := ws) (w := ck_w (fun _ _ => 0)) (fun _ => 0) [] [.int (Int32.ofInt a), .int (Int32.ofInt b)] [] isR hd hc rfl rfl h8 rfl rfl hR rfl hnd (fun _ _ h => by cases h) hd1 hce hsl (fun hO => gx_min (K := fun r _ => r = some (.inl (min a b))) hO rfl cn_okn ⟨ha, hb, trivial⟩) (fun r w1 h => ?_)
  obtain ⟨r', w', rfl, h2, h3, h4, rfl⟩ := h
  rw [show ch_ws (cn_X X (fun _ => 0) []) w1 = [] from rfl, List.append_nil]
  exact k
/-- another order of the same objects, or fewer of them -/
theorem cn_perm {ws' : va_W} (is : List Nat) (h1 : is.filterMap (fun i => ws[i]?) = ws') (h2 : is.map (fun i => ws[i]?) = ws'.map some) (h3 : va_nd is = true) (k : cn_At X d C S y ws0 K pc L St cells slots ws') : cn_At X d C S y ws0 K pc L St cells slots ws := by
  intro p e s m args below meth c E H locs ls hP hD hS hl
  exact k p e s m args below meth c E H locs ls (hP.sub is h1) (hD.sub is h3 h2) hS hl
theorem cn_arrE {cA : ClassId} {n : Nat} {f g : Nat → Int32} (h : ∀ j, j < n → f j = g j) : vp_cell cA (n, .inl f) = vp_cell cA (n, .inl g) := by
  rw [vp_cell_i, vp_cell_i]
  unfold arrV
  have e : (fun j : Fin n => Value.int (f j.val)) = fun j : Fin n => Value.int (g j.val) := funext fun j => by rw [h j.val j.isLt]
  rw [e]
/-- the last array, by what it holds -/
theorem cn_last {wr : va_W} {q n : Nat} {cA : ClassId} {f g : Nat → Int32} (h : ∀ j, j < n → f j = g j) (k : cn_At X d C S y ws0 K pc L St cells slots (wr ++ [(q, .inl (cA, n, .inl g))])) : cn_At X d C S y ws0 K pc L St cells slots (wr ++ [(q, .inl (cA, n, .inl f))]) := by
  intro p e s m args below meth c E H locs ls hP hD hS hl
  have g1 : ∀ (i : Nat) (x : Nat × va_E), (wr ++ [(q, Sum.inl (cA, n, Sum.inl g))])[i]? = some x → ∃ x', (wr ++ [(q, Sum.inl (cA, n, Sum.inl f))])[i]? = some x' ∧ x'.1 = x.1 ∧ (x' = x ∨ (x' = (q, .inl (cA, n, .inl f)) ∧ x = (q, .inl (cA, n, .inl g)))) := by
    intro i x hx
    by_cases hi : i < wr.length
    · rw [List.getElem?_append_left hi] at hx
      exact ⟨x, by rw [List.getElem?_append_left hi]; exact hx, rfl, Or.inl rfl⟩
    · rw [List.getElem?_append_right (by omega)] at hx
      have hz : i - wr.length < 1 := (List.getElem?_eq_some_iff.mp hx).1
      rw [show i - wr.length = 0 by omega] at hx
      cases hx
      exact ⟨(q, .inl (cA, n, .inl f)), by rw [List.getElem?_append_right (by omega), show i - wr.length = 0 by omega]; rfl, rfl, Or.inr ⟨rfl, rfl⟩⟩
  refine k p e s m args below meth c E H locs ls (fun i x hx => ?_) ⟨fun i j x z hx hz e1 => ?_, fun i x hx => ?_⟩ hS hl
  · obtain ⟨x', h1, h2, h3⟩ := g1 i x hx
    rcases h3 with rfl | ⟨rfl, rfl⟩
    · exact hP i _ h1
    · have := hP i _ h1
      show H[q]? = some (vp_cell cA (n, .inl g))
      rw [← cn_arrE h]
      exact this
  · obtain ⟨x', h1, h2, h3⟩ := g1 i x hx
    obtain ⟨z', h4, h5, h6⟩ := g1 j z hz
    exact hD.1 i j x' z' h1 h4 (by rw [h2, h5]; exact e1)
  · obtain ⟨x', h1, h2, h3⟩ := g1 i x hx
    rw [← h2]
    exact hD.2 i x' h1
theorem cn_ok1 (n : Nat) : ck_ok [.inl (.int, n)] (fun _ _ => 0) := by
  intro k j
  exact ⟨fun _ => (show ck_l 0 by decide), fun _ => (show ck_i 0 by decide)⟩
theorem cn_fill {index q n : Nat} {v : Int} {wr : va_W} (i : Nat) (isR : List Nat) (hd : decode y.2.1 pc = .ok (.invokestatic index, 3)) (hc : ch_CS y.1.cls index 2 mJ7_fill_53178) (he : ws[i]? = some (q, .inl (X.2.2.1 .int, n, .inl (fun _ => 0)))) (hn : n < 2147483648) (hv : ck_i v) (h8 : (St.map fun v => v.category).sum ≤ 8) (hR : isR.map (fun i => ws[i]?) = wr.map some) (hnd : va_nd isR = true) (hdis : i ∉ isR) (hd1 : 1 ≤ d) (hce : cells ≤ C) (hsl : slots ≤ S) (k : cn_At X d C S y ws0 K (pc + 3) L St cells slots (wr ++ [(q, .inl (X.2.2.1 .int, n, .inl (fun _ => Int32.ofInt v)))])) : cn_At X d C S y ws0 K pc L (.int (Int32.ofInt v) :: .ref q :: St) cells slots ws := by
  refine cn_callS (dz := 0) (wr := wr) (w := ck_w (fun _ _ => 0)) (fun _ => q) [.inl (.int, n)] [.ref 0, .int (Int32.ofInt v)] [i] isR hd hc rfl rfl h8 (by simp only [List.map_cons, List.map_nil, he]; rfl) (by simp only [List.filterMap_cons, List.filterMap_nil, he]; rfl) hR rfl hnd (fun a ha hb => by rw [List.mem_singleton.mp hb] at ha; exact hdis ha) hd1 hce hsl (fun hO => gx_fill (k := 0) (n := n) (v := v) (K := fun r w' => r = none ∧ ∀ j, 0 ≤ j → j < (n : Int) → w' 0 j = v) hO rfl hn (fun w' _ h => ⟨rfl, h⟩) (cn_ok1 n) ⟨trivial, hv, trivial⟩) (fun r w1 h => ?_)
  obtain ⟨r', w', rfl, h2, h3, h4, rfl, h5⟩ := h
  rw [h2]
  show cn_At X d C S y ws0 K (pc + 3) L St cells slots (wr ++ [(q, .inl (X.2.2.1 .int, n, .inl (fun j => Int32.ofInt (w' 0 (j : Int)))))])
  refine cn_last (fun j hj => ?_) k
  show Int32.ofInt (w' 0 (j : Int)) = _
  rw [h5 (j : Int) (by omega) (by omega)]
end CNS
/-! ===== a constructor's tail, in a world of fixed shape ===== -/
def cu_M (X : ch_X) (d C S : Nat) (ws0 : va_W) (K : va_W → Prop) (Y : ch_X) (cells slots : Nat) : cm_M :=
  (cn_R d C S, cells, slots, (fun s meth => (∀ q, ch_A Y q → va_A ws0 s.heap.size q) ∧ meth.name = "<init>"), fun below args s => MQ below (cn_Qc X s.heap.size ws0 K) args s C S (va_A ws0 s.heap.size))
theorem cu_forget {p : Program} {l : Launch} {e : Env} {R : Room} {s : State} {m : MethodId} {args : Array Value} {below : List Frame} {meth : Method} {c : Code} {H : Heap} {locs locs' : List Loc} {cells slots : Nat} {Q : State → Prop} {g : JFrame} (hf : ∀ q ∈ locs, q.base < s.heap.size → q ∈ locs') (kk : W p l e R s m args below meth c H locs' cells slots Q g) : W p l e R s m args below meth c H locs cells slots Q g :=
  fun T hT Y => kk T hT { Y with same := Y.same.weaken (fun y hy hlt => hf y hy hlt) (Nat.le_refl _) (Nat.le_refl _) }
section CUR
variable {X : ch_X} {d C S : Nat} {y : ch_M} {ws0 : va_W} {K : va_W → Prop} {pc : Nat} {cells slots : Nat} {ad : Nat → Nat} {sh : List ch_D} {L : ck_L} {St : List ck_V} {w : ck_W}
theorem cu_tail (hin : y.1.name = "<init>") (hw : ck_ok sh w) (h0 : ∀ (k : Nat) (q : Nat × va_E), ws0[k]? = some q → ∃ i, i < sh.length ∧ q.1 = (if i < 97 then ad i else X.2.2.2.1 i)) {L1 : List (Nat × Value)} {ws : va_W} (hws : ws = ch_ws (cn_X X ad sh) (ck_w w)) (hL : L1 = ch_as (cn_X X ad sh) 0 (L.map (Option.map ck_v))) (hlok : ck_lok L)
    (k : ch_Ok (cn_X X ad sh) → cq_At (cn_X X ad sh) (cu_M X d C S ws0 K (cn_X X ad sh) cells slots) y pc L [] w) : cn_At X d C S y ws0 K pc L1 [] cells slots ws := by
  subst hws
  subst hL
  intro p e s m args below meth c E H locs ls hP hD hS hl
  have hfr := cn_fr E
  obtain ⟨hx, hb, hr, hml, hts, hown, hlocks, hnm, hK, hB, hN', hD0⟩ := id E
  have hO : ch_Ok (cn_X X ad sh) := cn_Okx hD hfr
  have hA : ∀ q, ch_A (cn_X X ad sh) q → va_A ws0 s.heap.size q := by
    rintro q ⟨i, hi, rfl⟩
    exact hD.2 i _ (ch_ws_at (List.getElem?_eq_getElem hi))
  refine cu_forget (locs' := locs.filter (fun q => decide (q.base < s.heap.size))) (fun q hq hlt => List.mem_filter.mpr ⟨hq, decide_eq_true hlt⟩) ?_
  refine k hO hw hlok p e s m args below meth c ⟨hx, hb, hr, hml, hts, hown, hlocks, hK, hB, hO, cn_NSx hN' (fun q h => hfr q (hA q h)), hA, hnm.trans hin⟩ H _ ls hP ⟨hS.1, fun q h1 h2 => hS.2.1 q h1 (fun z => ?_), fun q hq => ?_⟩ hl
  · rcases z with ⟨i, e1, h⟩ | h
    · obtain ⟨j, hj, e2⟩ := h0 i _ h
      exact h2 ⟨j, hj, e2⟩
    · omega
  · obtain ⟨h1, h2⟩ := List.mem_filter.mp hq
    have h3 : q.base < s.heap.size := of_decide_eq_true h2
    rcases hS.2.2 q h1 with ⟨i, e1, h⟩ | h
    · obtain ⟨j, hj, e2⟩ := h0 i _ h
      exact ⟨j, hj, e2⟩
    · exact absurd h3 (Nat.not_lt.mpr h)
theorem cu_ret (hcs : cells ≤ C ∧ slots ≤ S) (hd : decode y.2.1 pc = .ok (.return_, 1)) (hr0 : y.2.2.2 = none) (hK0 : ck_ok sh w → K (ch_ws (cn_X X ad sh) (ck_w w))) : cq_At (cn_X X ad sh) (cu_M X d C S ws0 K (cn_X X ad sh) cells slots) y pc L [] w := by
  intro hw hl p e s m args below meth c E H locs ls hP hS hl2
  obtain ⟨hx, hb, hr, hml, hts, hown, hlocks, hK, hB, hO, hN, hV, hV2⟩ := id E
  refine W.widen (k := C) (n := S) hcs.1 hcs.2 ?_
  have hS2 : va_S (va_A ws0 s.heap.size) s.heap H locs := ⟨hS.1, fun q h1 h2 => hS.2.1 q h1 (fun z => h2 (hV q z)), fun q hq => hV _ (hS.2.2 q hq)⟩
  exact W.vret hx hb (hr.trans hr0) (fun t ht hW => ⟨⟨_, rfl, hK0 hw, by rw [ht]; exact hP, (hO.D (ck_w w)).weaken (fun _ _ _ h => hV _ h)⟩, hS2.F ht⟩) hS2.2.2 hd hlocks
theorem cu_callV (hcs : cells ≤ C ∧ slots ≤ S) (nx : Nat) (hp : pc + 3 = nx) {z : ch_M} {index q ci k : Nat} {fs : List ch_F} (As St : List ck_V) {S0 : List ck_V} (hd : decode y.2.1 pc = .ok (.invokevirtual index, 3)) (hc : ch_CV y.1.cls index q ci z) (hs : (cn_X X ad sh).2.2.2.2.2[k]? = some (.inr (ci, fs))) (hn : As.length = q) (h0 : S0 = As.reverse ++ .inr (.inr k) :: St) (h8 : (St.map ck_cat).sum ≤ 8) (ha : ck_aok As) (kk : ck_Ex (cn_X X ad sh) d z (.inr (.inr k) :: As) w (fun r w' => ck_aok r.toList → cq_At (cn_X X ad sh) (cu_M X (d + 1) C S ws0 K (cn_X X ad sh) cells slots) y nx L (r.toList ++ St) w')) : cq_At (cn_X X ad sh) (cu_M X (d + 1) C S ws0 K (cn_X X ad sh) cells slots) y pc L S0 w := by
  subst hp; intro hw hl; subst h0
  exact cl_callV0 (M := cu_M X (d + 1) C S ws0 K (cn_X X ad sh) cells slots) (As.map ck_v) (St.map ck_v) ⟨Nat.le_refl _, Nat.le_refl _⟩ hcs hd hc hs (by rw [List.length_map]; exact hn) (by simp [ck_v]) (by rw [ck_cats]; exact h8) (ck_exm (kk hw ⟨trivial, ha⟩) (fun _ _ ⟨r', w', h1, h2, h3, h4, h5⟩ => by subst h1; refine cq_tr h2 ?_; have h := h5 h4 h3 hl; cases r' <;> exact h))
theorem cl_callS0 {X : ch_X} {M : cm_M} {y z : ch_M} {L : ch_Lo} {w : ch_W} {d index n : Nat} (As S : List Value) {S0 : List Value} (hR : d + 1 ≤ M.1.frames ∧ 40 * (d + 1) ≤ M.1.locals) (hM : M.2.1 ≤ M.1.cells ∧ M.2.2.1 ≤ M.1.slots) (hd : decode y.2.1 pc = .ok (.invokestatic index, 3)) (hc : ch_CS y.1.cls index n z) (hn : As.length = n) (h0 : S0 = As.reverse ++ S) (h8 : (S.map fun v => v.category).sum ≤ 8)
    (kk : ch_Ex X d z As w (fun r w' => cm_At X M y (pc + 3) L (r.toList ++ S) w')) : cm_At X M y pc L S0 w := by
  intro p e s m args below meth c E H locs ls hP hS hl
  obtain ⟨hx, hb, hr, hml, hts, hown, hlocks, hK, hB, hO, hN, hV⟩ := id E
  obtain ⟨c1, c2, c3, c4, c5, c6⟩ := hc
  subst h0
  refine cl_back (S := S) E hS hl (va_runS (n := n) (As := As.map (ch_re X)) (rest := S.map (ch_re X)) (Ts := ch_T) (own := y.1.cls) (nL := y.2.2.1) ⟨hx, hb, hml, hown, hts⟩ kk ⟨callB_of n hts (ch_good (fun _ h => h) c4) rfl rfl rfl (hts _ c3) (hts _ c1) c5 ⟨hR.1, ?_⟩, hts _ c2⟩ ⟨ch_blind, fun U hU hW => ⟨rfl, by rw [hU]; exact hP, by rw [hU]; exact ch_B.of hO hB hS, va_K.moved hW.alike hK, hN.warm hW hU hS⟩⟩ rfl (by simp [hn]) hl.1 (by simp) (lv_room ?_) hd hM)
  · show 8 + (z.2.2.1 + 11) + 40 * d ≤ M.1.locals
    have := hR.2
    omega
  · have : (S.map (ch_re X)).map (fun v => v.category) = S.map (fun v => v.category) := by simp [ch_re_cat]
    rw [this]; exact h8
theorem cu_callS (hcs : cells ≤ C ∧ slots ≤ S) (nx : Nat) (hp : pc + 3 = nx) {z : ch_M} {index q : Nat} (As St : List ck_V) {S0 : List ck_V} (hd : decode y.2.1 pc = .ok (.invokestatic index, 3)) (hc : ch_CS y.1.cls index q z) (hn : As.length = q) (h0 : S0 = As.reverse ++ St) (h8 : (St.map ck_cat).sum ≤ 8) (ha : ck_aok As) (kk : ck_Ex (cn_X X ad sh) d z As w (fun r w' => ck_aok r.toList → cq_At (cn_X X ad sh) (cu_M X (d + 1) C S ws0 K (cn_X X ad sh) cells slots) y nx L (r.toList ++ St) w')) : cq_At (cn_X X ad sh) (cu_M X (d + 1) C S ws0 K (cn_X X ad sh) cells slots) y pc L S0 w := by
  subst hp; intro hw hl; subst h0
  exact cl_callS0 (M := cu_M X (d + 1) C S ws0 K (cn_X X ad sh) cells slots) (As.map ck_v) (St.map ck_v) ⟨Nat.le_refl _, Nat.le_refl _⟩ hcs hd hc (by rw [List.length_map]; exact hn) (by simp) (by rw [ck_cats]; exact h8) (ck_exm (kk hw ha) (fun _ _ ⟨r', w', h1, h2, h3, h4, h5⟩ => by subst h1; refine cq_tr h2 ?_; have h := h5 h4 h3 hl; cases r' <;> exact h))
theorem cu_putiF {Y : ch_X} (nx : Nat) (hp : pc + 3 = nx) {k ci j index : Nat} {fs : List ch_F} {v : Int} (jj : Int) (hd : decode y.2.1 pc = .ok (.putfield index, 3)) (hq : cn_FQ y.1.cls index ci j .int true) (hs : Y.2.2.2.2.2[k]? = some (.inr (ci, fs))) (hf : fs[j]? = some (.inl ())) (hj : (j : Int) = jj) (hv : ck_i v) (kk : cq_At Y (cu_M X d C S ws0 K Y cells slots) y nx L St (ck_up w k jj v)) : cq_At Y (cu_M X d C S ws0 K Y cells slots) y pc L (.inl v :: .inr (.inr k) :: St) w := by
  intro hw hl
  subst hp; subst hj
  have kk2 : cm_At Y (cu_M X d C S ws0 K Y cells slots) y (pc + 3) (L.map (Option.map ck_v)) (St.map ck_v) (ch_ui (ck_w w) k j (Int32.ofInt v)) := cq_tr (ck_ws_fi hs hf) (kk (ck_ok_up hw (fun h => absurd h (by rw [ck_lgF hs hf]; decide)) (fun _ => hv)) hl)
  intro p e s m args below meth c E H locs ls hP hS hl
  obtain ⟨hx, hb, hr, hml, hts, hown, hlocks, hK, hB, hO, hN, hV, hV2⟩ := id E
  obtain ⟨C1, T, N, hc, hj, hlk, hin1, hfin, hdecl, hdd, ⟨ty0, hty⟩, hnm1⟩ := hq
  have ha := ch_ws_at (w := ck_w w) hs
  have hjl : j < fs.length := (List.getElem?_eq_some_iff.mp hf).1
  refine va_putF (D := Y.2.1) (cl := vwCl) (ci := ci) (v := .int (Int32.ofInt v)) (ty := .int) (C := C1) (T := T) (N := N) hx hb hts hin1 ty0 hty hnm1 hown hK hP (hO.D (ck_w w)) hS k ha hc j hj (hts _ hlk) (fun _ h9 => h9) hfin hV2 hdecl hdd rfl rfl (by simpa using hjl) hd (fun H1 locs1 hP1 hD1 hS1 => ?_)
  refine kk2 p e s m args below meth c E H1 locs1 ls ?_ hS1 hl
  show va_P Y.2.1 vwCl (ch_ws Y (ch_ui (ck_w w) k j (Int32.ofInt v))) H1
  rw [← ch_ws_set (w := ck_w w) (w' := ch_ui (ck_w w) k j (Int32.ofInt v)) (e := .inr (ci, (fs.mapIdx (fun j f => ch_fv Y (ck_w w) k j f)).set j (.int (Int32.ofInt v)))) hs (fun i h => ch_ui_ne i h) (fun i h => rfl) ?_]
  · exact hP1
  · have hq : (fs.mapIdx (fun j f => ch_fv Y (ck_w w) k j f)).set j (.int (Int32.ofInt v)) = fs.mapIdx (fun j' f' => ch_fv Y (ch_ui (ck_w w) k j (Int32.ofInt v)) k j' f') :=
      ch_mapIdx_set hf (fun i q hi => by rcases q with q | q | q <;> simp [ch_fv, ch_ui, hi]) (by simp [ch_fv, ch_ui])
    rw [hq]
    rfl
end CUR
theorem cn_callSN {X : ch_X} {d C S : Nat} {y : ch_M} {ws0 : va_W} {K : va_W → Prop} {pc : Nat} {L : List (Nat × Value)} {St : List Value} {cells slots : Nat} {ws : va_W} {z : ch_M} {index n dz : Nat} {host : String} {wr : va_W} {w : ch_W} {Kz : Option Value → ch_W → Prop} (ad : Nat → Nat) (sh : List ch_D) (As : List Value) (isC isR : List Nat) {S0 : List Value} (hd : decode y.2.1 pc = .ok (.invokestatic index, 3)) (hc : ch_CSN y.1.cls index n z host) (hn : As.length = n) (h0 : S0 = (As.map (ch_re (cn_X X ad sh))).reverse ++ St) (h8 : (St.map fun v => v.category).sum ≤ 8) (hC : isC.map (fun i => ws[i]?) = (ch_ws (cn_X X ad sh) w).map some) (hCf : isC.filterMap (fun i => ws[i]?) = ch_ws (cn_X X ad sh) w) (hR : isR.map (fun i => ws[i]?) = wr.map some) (hnc : va_nd isC = true) (hnd : va_nd isR = true) (hdis : ∀ i ∈ isR, i ∉ isC) (hd1 : dz + 1 ≤ d) (hce : cells ≤ C) (hsl : slots ≤ S) (kk : ch_Ok (cn_X X ad sh) → ch_Ex (cn_X X ad sh) dz z As w Kz)
    (k : ∀ r w1, Kz r w1 → cn_At X d C S y ws0 K (pc + 3) L ((r.map (ch_re (cn_X X ad sh))).toList ++ St) cells slots (wr ++ ch_ws (cn_X X ad sh) w1)) : cn_At X d C S y ws0 K pc L S0 cells slots ws := by
  intro p e s m args below meth c E H locs ls hP hD hS hl
  obtain ⟨hx, hb, hr, hml, hts, hown, hlocks, hnm, hK, hB, hN', hD0⟩ := id E
  obtain ⟨c1, c2, c3, c4, c5, c6⟩ := hc
  subst h0
  have hfr := cn_fr E
  have hBH := cn_BH E hS
  have hFc := va_free (wc := ch_ws (cn_X X ad sh) w) hD hS (fun q h => Or.inr h) isC hC
  have hPc := hP.sub (ws' := ch_ws (cn_X X ad sh) w) isC hCf
  have hDc := hD.sub (ws' := ch_ws (cn_X X ad sh) w) isC hnc hC
  have hO : ch_Ok (cn_X X ad sh) := cn_Okx hDc hfr
  have hAx : ∀ q, ch_A (cn_X X ad sh) q → va_A (ch_ws (cn_X X ad sh) w) H.size q := fun q h => Or.inl (cn_Ax h)
  have hAf : ∀ q, ch_A (cn_X X ad sh) q → cn_f X q := fun q h => hfr q (hFc q (hAx q h))
  intro T hT Y
  have run := va_runSN (p := p) (l := X.1) (e := e) (R := cn_R d C S) (s := s) (m := m) (args := args) (below := below) (meth := meth) (c := c) (H := H) (locs := locs) (cells := cells) (slots := slots) (n := n) (As := As.map (ch_re (cn_X X ad sh))) (rest := St) (Ts := ch_T) (own := y.1.cls) (host := host) (nL := y.2.2.1) (g := F0 m pc ls ((As.map (ch_re (cn_X X ad sh))).reverse ++ St)) ⟨hx, hb, hml, hown, hts⟩ (kk hO) ⟨va_cnB n hts (ch_good (fun _ h => h) c4) rfl rfl rfl (hN'.1 _ c1 rfl) (hts _ c3) c5 ⟨hd1, (show 8 + (z.2.2.1 + 11) + 40 * dz ≤ 40 * d by omega)⟩, hts _ c2, trivial⟩ ⟨ch_blind, fun U hU hW => ⟨rfl, by rw [hU]; exact hPc, by rw [hU]; exact hBH.1, va_K.moved hW.alike hK, cn_NSx ⟨hN'.1.warm hW, hN'.2.warm hW (by rw [hU]; exact hBH.2)⟩ hAf⟩⟩ rfl (by simp [hn]) hl.1 rfl (lv_room h8) hd ⟨hce, hsl⟩
  obtain ⟨v, st₀, t, T', L', h0, Y', hL, e1, e2, ⟨⟨r, w1, hv, hkz, hP1⟩, hz, hk2⟩, st⟩ := run T hT Y
  cases hv
  rw [h0] at hz hk2
  have hk3 : ∀ q : Nat, q < H.size → ¬ va_A (ch_ws (cn_X X ad sh) w) H.size q → t.heap[q]? = H[q]? := fun q h1 h2 => hk2 q h1 (fun z => h2 (hAx q z))
  have hD1 : va_D (va_A (ch_ws (cn_X X ad sh) w) H.size) (ch_ws (cn_X X ad sh) w1) := (hO.D w1).weaken (fun _ _ _ h => hAx _ h)
  have hj := va_join (wr := wr) (w1 := ch_ws (cn_X X ad sh) w1) hP hD isC isR hC hR hnd hdis hk3 hFc hP1 hD1
  have hS' : va_S (va_A ws0 s.heap.size) s.heap T'.heap (locs ++ L') := ⟨Nat.le_trans hS.1 (by rw [e1]; exact hz), fun q h1 h2 => by rw [e1, hk3 q (Nat.lt_of_lt_of_le h1 hS.1) (fun z => h2 (hFc q z))]; exact hS.2.1 q h1 h2, fun q hq => by
      rcases List.mem_append.mp hq with h | h
      · exact hS.2.2 q h
      · exact hFc _ (hAx _ (hL q h))⟩
  obtain ⟨t2, a1, b1⟩ := k r w1 hkz p e s m args below meth c E T'.heap (locs ++ L') ls (by rw [e1]; exact hj.1) hj.2 hS' hl T' rfl Y'
  exact ⟨t2, st t2 a1, b1⟩
/-- words of a constructor z of a nest mate, called out of the class own -/
def cn_CIN (own : String) (index n : Nat) (z : ch_M) (host : String) : Prop := Cond.methodLinkNest own index z.1 host ∈ lw_tbl ∧ Cond.instanceMethod z.1 ∈ ch_T ∧ Cond.initialized z.1.cls ∈ ch_T ∧ Cond.code z.1 z.2.1 z.2.2.1 z.2.2.2 ∈ ch_T ∧ (z.1.cls ≠ "java/lang/invoke/MethodHandle" ∧ z.1.cls ≠ "java/lang/invoke/VarHandle" ∧ (parseMethodDescriptor z.1.desc).map (fun d => d.parameters.length) = some n) ∧ z.2.2.1 ≤ 21 ∧ z.1.name = "<init>" ∧ z.2.2.2 = none
theorem cn_initN {X : ch_X} {d C S : Nat} {y : ch_M} {ws0 : va_W} {K : va_W → Prop} {pc : Nat} {L : List (Nat × Value)} {St : List Value} {cells slots : Nat} {ws : va_W} {z : ch_M} {index n b Cz Sz dz : Nat} {host : String} {wc wr : va_W} {Kz : va_W → Prop} (As : List Value) (isC isR : List Nat) {S0 : List Value} (hd : decode y.2.1 pc = .ok (.invokespecial index, 3)) (hc : cn_CIN y.1.cls index n z host) (hn : As.length = n) (h0 : S0 = As.reverse ++ .ref b :: St) (h8 : (St.map fun v => v.category).sum ≤ 8) (hC : isC.map (fun i => ws[i]?) = wc.map some) (hCf : isC.filterMap (fun i => ws[i]?) = wc) (hR : isR.map (fun i => ws[i]?) = wr.map some) (hnc : va_nd isC = true) (hnd : va_nd isR = true) (hdis : ∀ i ∈ isR, i ∉ isC) (hd1 : dz + 1 ≤ d) (hce : cells + Cz ≤ C) (hsl : slots + Sz ≤ S) (kk : cn_Ex X dz Cz Sz z (.ref b :: As) wc Kz)
    (k : ∀ w1, Kz w1 → cn_At X d C S y ws0 K (pc + 3) L St (cells + Cz) (slots + Sz) (wr ++ w1)) : cn_At X d C S y ws0 K pc L S0 cells slots ws := by
  intro p e s m args below meth c E H locs ls hP hD hS hl
  obtain ⟨hx, hb, hr, hml, hts, hown, hlocks, hnm, hK, hB, hN', hD0⟩ := id E
  obtain ⟨c1, c2, c3, c4, c5, c6, c7, c8⟩ := hc
  subst h0
  have hfr := cn_fr E
  have hBH := cn_BH E hS
  have hFc := va_free (wc := wc) hD hS (fun q h => Or.inr h) isC hC
  have hPc := hP.sub (ws' := wc) isC hCf
  have hDc := hD.sub (ws' := wc) isC hnc hC
  intro T hT Y
  have run := va_runIN (p := p) (l := X.1) (e := e) (R := cn_R d C S) (s := s) (m := m) (args := args) (below := below) (meth := meth) (c := c) (H := H) (locs := locs) (cells := cells) (slots := slots) (n := n) (b := b) (As := As) (rest := St) (Ts := ch_T) (own := y.1.cls) (host := host) (nL := y.2.2.1) (g := F0 m pc ls (As.reverse ++ .ref b :: St)) ⟨hx, hb, hml, hown, hts⟩ (kk H.size) ⟨va_cnB n hts (ch_good (fun _ h => h) c4) (show ch_wd z = Cond.code z.1 z.2.1 z.2.2.1 none :: ch_T by rw [ch_wd, c8]) rfl rfl (hN'.1 _ c1 rfl) (hts _ c3) c5 ⟨hd1, (show 8 + (z.2.2.1 + 11) + 40 * dz ≤ 40 * d by omega)⟩, c7, hts _ c2⟩ ⟨cn_blind, fun U hU hW => ⟨rfl, by rw [hU], by rw [hU]; exact hPc, hDc.weaken (fun _ _ _ h => hfr _ h), by rw [hU]; exact hBH.1, va_K.moved hW.alike hK, ⟨hN'.1.warm hW, hN'.2.warm hW (by rw [hU]; exact hBH.2)⟩⟩⟩ rfl hn hl.1 rfl (lv_room h8) hd ⟨hce, hsl⟩
  obtain ⟨v, st₀, t, T', L', h0, Y', hL, e1, e2, ⟨⟨w1, hv, hkz, hP1, hD1⟩, hz, hk2⟩, st⟩ := run T hT Y
  cases hv
  rw [h0] at hz hk2
  have hj := va_join (wr := wr) (w1 := w1) hP hD isC isR hC hR hnd hdis hk2 hFc hP1 hD1
  have hS' : va_S (va_A ws0 s.heap.size) s.heap T'.heap (locs ++ L') := ⟨Nat.le_trans hS.1 (by rw [e1]; exact hz), fun q h1 h2 => by rw [e1, hk2 q (Nat.lt_of_lt_of_le h1 hS.1) (fun z => h2 (hFc q z))]; exact hS.2.1 q h1 h2, fun q hq => by
      rcases List.mem_append.mp hq with h | h
      · exact hS.2.2 q h
      · exact hFc _ (hL q h)⟩
  obtain ⟨t2, a1, b1⟩ := k w1 hkz p e s m args below meth c E T'.heap (locs ++ L') ls (by rw [e1]; exact hj.1) hj.2 hS' hl T' rfl Y'
  exact ⟨t2, st t2 a1, b1⟩
