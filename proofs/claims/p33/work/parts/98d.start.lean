/-! ===== the law's start ===== -/
def cl_cell (f : Nat → Int32) (n i : Nat) : Int32 := if i < n then f i else 0
def ce_Pc (b n i : Nat) (f : Nat → Int32) : Array Value → State → Prop := fun v U => v = #[.ref b, .int (Int32.ofNat i)] ∧ va_X b n f U U.heap ∧ b < U.heap.size
def ce_Qc (n i : Nat) (f : Nat → Int32) : Array Value → State → Outcome → State → Prop := fun _ st oc t => oc = .returned (some (.int (cl_cell f n i))) ∧ va_F (fun _ => False) st t
theorem ce_met {l : Launch} {b n i : Nat} {f : Nat → Int32} (hn : n < 2147483648) (hi : i < 2147483648) : Met l mL_cell.1 (ch_wd mL_cell) (ch_R 0) (ce_Pc b n i f) (ce_Qc n i f) 0 0 (fun _ => False) := by
  refine Met.ofW (cc := mL_cell.2.1) (maxL := mL_cell.2.2.1) (ret := mL_cell.2.2.2) (ws' := ch_T) (by decide) rfl ?_
  intro p e s m args' below meth c s₁ B hml hv
  obtain ⟨rfl, hX, hbl⟩ := hv
  have hl := lv_entry [.ref b, .int (Int32.ofNat i)] (n := 2) (Nat.le_of_ble_eq_true rfl)
  have e0 : (#[.ref b, .int (Int32.ofNat i)] : Array Value) = ([.ref b, .int (Int32.ofNat i)] : List Value).toArray := rfl
  rw [e0, lg_entry_eq]
  show W p l e (ch_R 0) s m _ below meth c s.heap [] 0 0 _ (F0 m 0 (lg_sl [Value.ref b, .int (Int32.ofNat i)] ++ List.replicate (2 - (lg_sl [Value.ref b, .int (Int32.ofNat i)]).length) Slot.unset).toArray [])
  generalize (lg_sl [Value.ref b, .int (Int32.ofNat i)] ++ List.replicate (2 - (lg_sl [Value.ref b, .int (Int32.ofNat i)]).length) Slot.unset).toArray = ls at hl ⊢
  have hS : va_S (fun _ => False) s.heap s.heap [] := va_S.rf
  have hx := B.exec
  have hb := B.bytes
  have hr := B.returns
  have hlk := B.notSynchronized
  have ti : (Int32.ofNat i).toInt = (i : Int) := by rw [show Int32.ofNat i = Int32.ofInt (i : Int) from rfl]; exact ck_i32 ⟨by omega, by omega⟩
  have tn : (Int32.ofNat n).toInt = (n : Int) := by rw [show Int32.ofNat n = Int32.ofInt (n : Int) from rfl]; exact ck_i32 ⟨by omega, by omega⟩
  have fin : ∀ v : Int32, v = cl_cell f n i → W p l e (ch_R 0) s m ([.ref b, .int (Int32.ofNat i)] : List Value).toArray below meth c s.heap [] 0 0 (MQ below (ce_Qc n i f) ([.ref b, .int (Int32.ofNat i)] : List Value).toArray s 0 0 (fun _ => False)) (F0 m 13 ls [.int v]) := fun v hv =>
    W.zret (ty := .int) hx hb hr rfl (fun t ht hW => ⟨by rw [hv], hS.F ht⟩) hS.2.2 (ch_at tL_cell 9 rfl) hlk
  refine lv_iload_n hx hb (ch_at tL_cell 0 rfl) rfl (lv_at hl 1 rfl) ?_
  refine lv_aload_n hx hb (ch_at tL_cell 1 rfl) rfl (lv_at hl 0 rfl) ?_
  refine va_slen hx hb hX hbl (fun h => h) hS (ch_at tL_cell 2 rfl) ?_
  refine lv_icmp_ge (tgt := 12) hx hb (ch_at tL_cell 3 rfl) rfl (fun h => ?_) (fun h => ?_)
  · rw [Int32.le_iff_toInt_le, ti, tn] at h
    refine lv_iconst hx hb (ch_at tL_cell 8 rfl) rfl (fin _ ?_)
    unfold cl_cell
    rw [if_neg (by omega)]
    rfl
  · rw [Int32.le_iff_toInt_le, ti, tn] at h
    refine lv_aload_n hx hb (ch_at tL_cell 4 rfl) rfl (lv_at hl 0 rfl) ?_
    refine lv_iload_n hx hb (ch_at tL_cell 5 rfl) rfl (lv_at hl 1 rfl) ?_
    refine va_sld hx hb hX hbl (fun h => h) hS (ch_in (by rw [ti]; omega)) (ch_at tL_cell 6 rfl) ?_
    refine lv_goto (tgt := 13) hx hb (ch_at tL_cell 7 rfl) rfl (fin _ ?_)
    unfold cl_cell
    rw [if_pos (by omega), show (Int32.ofNat i).toNatClampNeg = (Int32.ofNat i).toInt.toNat from rfl, ti]
    rfl
def ce_E (X : ch_X) (n : Nat) (f : Nat → Int32) (p : Program) (s : State) (m : MethodId) (args : Array Value) (meth : Method) (c : Code) : Prop :=
  p.tables.exec = Jvm.exec ∧ c.code = code ∧ meth.sig.returnType = ret ∧ c.maxLocals = 4 ∧ (∀ w ∈ ch_T, w.before args s = true) ∧ s.vm.findClass RL = some m.cls ∧ meth.locks = false ∧ ch_K X s ∧ X.2.2.2.2.1 = s.heap ∧ cn_NS X s ∧ va_X (X.2.2.2.1 102) n f s s.heap ∧ X.2.2.2.1 102 < s.heap.size
def ce_At (X : ch_X) (n : Nat) (f : Nat → Int32) (pc : Nat) (L : List (Nat × Value)) (St : List Value) (cells slots : Nat) (ws : va_W) : Prop :=
  ∀ (p : Program) (e : Env) (s : State) (m : MethodId) (args : Array Value) (below : List Frame) (meth : Method) (c : Code), ce_E X n f p s m args meth c →
  ∀ (H : Heap) (locs : List Loc) (ls : Array Slot), va_P X.2.1 vwCl ws H → va_D (cn_f X) ws → va_S (cn_f X) s.heap H locs → lv_has ls 4 L →
  W p X.1 e room_1 s m args below meth c H locs cells slots (lw_Z below args s) (F0 m pc ls St)
section CER
variable {X : ch_X} {n : Nat} {f : Nat → Int32} {pc : Nat} {L : List (Nat × Value)} {St : List Value} {cells slots : Nat} {ws : va_W}
theorem ce_iconst {q : Int} (v : Int32) (hd : decode code pc = .ok (.iconst q, 1)) (hv : Int32.ofInt q = v) (k : ce_At X n f (pc + 1) L (.int v :: St) cells slots ws) : ce_At X n f pc L St cells slots ws := by
  intro p e s m args below meth c E H locs ls hP hD hS hl
  exact lv_iconst E.1 E.2.1 hd hv (k p e s m args below meth c E H locs ls hP hD hS hl)
theorem ce_aload_n {q : Fin 4} {x : Nat} (i j : Nat) (hd : decode code pc = .ok (.aload_n q, 1)) (hi : (q : Nat) = i) (hL : L[j]? = some (i, .ref x)) (k : ce_At X n f (pc + 1) L (.ref x :: St) cells slots ws) : ce_At X n f pc L St cells slots ws := by
  intro p e s m args below meth c E H locs ls hP hD hS hl
  exact lv_aload_n E.1 E.2.1 hd hi (lv_at hl j hL) (k p e s m args below meth c E H locs ls hP hD hS hl)
theorem ce_dup {x : Nat} (hd : decode code pc = .ok (.dup, 1)) (k : ce_At X n f (pc + 1) L (.ref x :: .ref x :: St) cells slots ws) : ce_At X n f pc L (.ref x :: St) cells slots ws := by
  intro p e s m args below meth c E H locs ls hP hD hS hl
  exact lv_dup E.1 E.2.1 hd rfl (k p e s m args below meth c E H locs ls hP hD hS hl)
theorem ce_astore_n {q : Fin 4} {x : Nat} {L' : List (Nat × Value)} (i : Nat) (hd : decode code pc = .ok (.astore_n q, 1)) (hi : (q : Nat) = i) (hn : i < 4) (hL : (i, Value.ref x) :: L.filter (fun q => !(q.1 == i) && !(q.1 + 1 == i && q.2.category == 2)) = L') (k : ce_At X n f (pc + 1) L' St cells slots ws) : ce_At X n f pc L (.ref x :: St) cells slots ws := by
  intro p e s m args below meth c E H locs ls hP hD hS hl
  exact lv_astore_n E.1 E.2.1 hd hi hl hn hL (fun ls' hl' => k p e s m args below meth c E H locs ls' hP hD hS hl')
theorem ce_istore_n {q : Fin 4} {x : Int32} {L' : List (Nat × Value)} (i : Nat) (hd : decode code pc = .ok (.istore_n q, 1)) (hi : (q : Nat) = i) (hn : i < 4) (hL : (i, Value.int x) :: L.filter (fun q => !(q.1 == i) && !(q.1 + 1 == i && q.2.category == 2)) = L') (k : ce_At X n f (pc + 1) L' St cells slots ws) : ce_At X n f pc L (.int x :: St) cells slots ws := by
  intro p e s m args below meth c E H locs ls hP hD hS hl
  exact lv_istore_n E.1 E.2.1 hd hi hl hn hL (fun ls' hl' => k p e s m args below meth c E H locs ls' hP hD hS hl')
theorem ce_new {index ci N : Nat} {fs : List Value} {ws' : Nat → va_W} (hd : decode code pc = .ok (.new index, 3)) (hq : cn_NW RL index ci N fs) (hc : cells + 1 ≤ 600000) (hs : slots + N ≤ 7302250) (hw : ∀ q, ws ++ [(q, .inr (ci, fs))] = ws' q) (k : ∀ q, ce_At X n f (pc + 3) L (.ref q :: St) (cells + 1) (slots + N) (ws' q)) : ce_At X n f pc L St cells slots ws := by
  intro p e s m args below meth c E H locs ls hP hD hS hl
  obtain ⟨hx, hb, hr, hml, hts, hown, hlocks, hK, hB, hN', hV⟩ := id E
  obtain ⟨C1, T, hc1, hin1, hcl, hi1, hi2, ty0, hty, hdf⟩ := hq
  refine va_new (ci := ci) (fs := fs) (C := C1) (T := T) (N := N) hx hb hts hin1 ty0 hty hown (hts _ hcl) (hts _ hi1) (hts _ hi2) hK hP hD hS (fun q h => by unfold cn_f; rw [hB]; exact h) hc1 hdf hc hs hd (fun q H1 hP1 hD1 hS1 => ?_)
  rw [hw] at hP1 hD1
  exact k q p e s m args below meth c E H1 locs ls hP1 hD1 hS1 hl
theorem ce_cell (i : Nat) {index : Nat} (hd : decode code pc = .ok (.invokestatic index, 3)) (hc : ch_CS RL index 2 mL_cell) (hn : n < 2147483648) (hi : i < 2147483648) (h8 : (St.map fun v => v.category).sum ≤ 8) (hce : cells ≤ 600000) (hsl : slots ≤ 7302250) (k : ce_At X n f (pc + 3) L (.int (cl_cell f n i) :: St) cells slots ws) : ce_At X n f pc L (.int (Int32.ofNat i) :: .ref (X.2.2.2.1 102) :: St) cells slots ws := by
  intro p e s m args below meth c E H locs ls hP hD hS hl
  obtain ⟨hx, hb, hr, hml, hts, hown, hlocks, hK, hB, hN', hV, hV2⟩ := id E
  obtain ⟨c1, c2, c3, c4, c5, c6⟩ := hc
  have hnA : ¬ cn_f X (X.2.2.2.1 102) := fun h => by unfold cn_f at h; rw [hB] at h; exact absurd hV2 (Nat.not_lt.mpr h)
  have hbH : X.2.2.2.1 102 < H.size := Nat.lt_of_lt_of_le hV2 hS.1
  intro T hT Y
  have run := va_runS (p := p) (l := X.1) (e := e) (R := room_1) (s := s) (m := m) (args := args) (below := below) (meth := meth) (c := c) (H := H) (locs := locs) (cells := cells) (slots := slots) (n := 2) (As := [.ref (X.2.2.2.1 102), .int (Int32.ofNat i)]) (rest := St) (Ts := ch_T) (own := RL) (nL := 4) (g := F0 m pc ls (.int (Int32.ofNat i) :: .ref (X.2.2.2.1 102) :: St)) ⟨hx, hb, hml, hown, hts⟩ (ce_met (b := X.2.2.2.1 102) (f := f) hn hi) ⟨callB_of 2 hts (ch_good (fun _ h => h) c4) rfl rfl rfl (hts _ c3) (hts _ c1) c5 ⟨Nat.le_of_ble_eq_true rfl, Nat.le_of_ble_eq_true rfl⟩, hts _ c2⟩ ⟨fun a U g mk q => ⟨q.1, va_X.moved (u := U) (U := U.calling g mk a) (Vm.Alike.refl U.vm) q.2.1, q.2.2⟩, fun U hU hW => ⟨rfl, by rw [hU]; exact va_X.moved hW.alike (hV.kept (hS.2.1 _ hV2 hnA)), by rw [hU]; exact hbH⟩⟩ rfl rfl hl.1 rfl (lv_room h8) hd ⟨hce, hsl⟩
  obtain ⟨v, st₀, t, T', L', h0, Y', hL, e1, e2, ⟨hv, hz, hk2⟩, st⟩ := run T hT Y
  cases hv
  rw [h0] at hz hk2
  have hh : ∀ q : Nat, q < H.size → T'.heap[q]? = H[q]? := fun q hq => by rw [e1]; exact hk2 q hq (fun h => h)
  have hS' : va_S (cn_f X) s.heap T'.heap (locs ++ L') := ⟨Nat.le_trans hS.1 (by rw [e1]; exact hz), fun q h1 h2 => by rw [hh q (Nat.lt_of_lt_of_le h1 hS.1)]; exact hS.2.1 q h1 h2, fun q hq => by
      rcases List.mem_append.mp hq with h | h
      · exact hS.2.2 q h
      · exact (hL q h).elim⟩
  obtain ⟨t2, a1, b1⟩ := k p e s m args below meth c E T'.heap (locs ++ L') ls (hP.kept (fun j q hj => hh q.1 ((hP j q hj).lt))) hD hS' hl T' rfl Y'
  exact ⟨t2, st t2 a1, b1⟩
theorem ce_init {z : ch_M} {index nn b Cz Sz dz : Nat} {wc wr : va_W} {Kz : va_W → Prop} (As : List Value) (isC isR : List Nat) {S0 : List Value} (hd : decode code pc = .ok (.invokespecial index, 3)) (hc : cn_CI RL index nn z) (hn : As.length = nn) (h0 : S0 = As.reverse ++ .ref b :: St) (h8 : (St.map fun v => v.category).sum ≤ 8) (hC : isC.map (fun i => ws[i]?) = wc.map some) (hCf : isC.filterMap (fun i => ws[i]?) = wc) (hR : isR.map (fun i => ws[i]?) = wr.map some) (hnc : va_nd isC = true) (hnd : va_nd isR = true) (hdis : ∀ i ∈ isR, i ∉ isC) (hd1 : dz ≤ 9) (hce : cells + Cz ≤ 600000) (hsl : slots + Sz ≤ 7302250) (kk : cn_Ex X dz Cz Sz z (.ref b :: As) wc Kz)
    (k : ∀ w1, Kz w1 → ce_At X n f (pc + 3) L St (cells + Cz) (slots + Sz) (wr ++ w1)) : ce_At X n f pc L S0 cells slots ws := by
  intro p e s m args below meth c E H locs ls hP hD hS hl
  obtain ⟨hx, hb, hr, hml, hts, hown, hlocks, hK, hB, hN', hV, hV2⟩ := id E
  obtain ⟨c1, c2, c3, c4, c5, c6, c7, c8⟩ := hc
  subst h0
  have hfr : ∀ q : Nat, s.heap.size ≤ q → cn_f X q := fun q h => by unfold cn_f; rw [hB]; exact h
  have hFc := va_free (wc := wc) hD hS hfr isC hC
  have hPc := hP.sub (ws' := wc) isC hCf
  have hDc := hD.sub (ws' := wc) isC hnc hC
  have hBH : ch_B X H := ⟨by rw [hB]; exact hS.1, fun q hq => by
    have h1 : q < s.heap.size := by rw [← hB]; exact hq
    have h2 : ¬ cn_f X q := fun h => absurd hq (Nat.not_lt.mpr h)
    rw [hS.2.1 q h1 h2, hB]⟩
  intro T hT Y
  have run := va_runI (p := p) (l := X.1) (e := e) (R := room_1) (s := s) (m := m) (args := args) (below := below) (meth := meth) (c := c) (H := H) (locs := locs) (cells := cells) (slots := slots) (n := nn) (b := b) (As := As) (rest := St) (Ts := ch_T) (own := RL) (nL := 4) (g := F0 m pc ls (As.reverse ++ .ref b :: St)) ⟨hx, hb, hml, hown, hts⟩ (kk H.size) ⟨callB_of nn hts (ch_good (fun _ h => h) c4) (show ch_wd z = Cond.code z.1 z.2.1 z.2.2.1 none :: ch_T by rw [ch_wd, c8]) rfl rfl (hts _ c3) (hts _ c1) c5 ⟨(show dz + 1 ≤ 13 by omega), Nat.le_trans (m := 400) (show 8 + (z.2.2.1 + 11) + 40 * dz ≤ 400 by omega) (Nat.le_of_ble_eq_true rfl)⟩, c7, hts _ c2⟩ ⟨cn_blind, fun U hU hW => ⟨rfl, by rw [hU], by rw [hU]; exact hPc, hDc, by rw [hU]; exact hBH, va_K.moved hW.alike hK, ⟨hN'.1.warm hW, hN'.2.warm hW (by rw [hU]; exact hS.2.1)⟩⟩⟩ rfl hn hl.1 rfl (lv_room h8) hd ⟨hce, hsl⟩
  obtain ⟨v, st₀, t, T', L', h0, Y', hL, e1, e2, ⟨⟨w1, hv, hkz, hP1, hD1⟩, hz, hk2⟩, st⟩ := run T hT Y
  cases hv
  rw [h0] at hz hk2
  have hj := va_join (wr := wr) (w1 := w1) hP hD isC isR hC hR hnd hdis hk2 hFc hP1 hD1
  have hS' : va_S (cn_f X) s.heap T'.heap (locs ++ L') := ⟨Nat.le_trans hS.1 (by rw [e1]; exact hz), fun q h1 h2 => by rw [e1, hk2 q (Nat.lt_of_lt_of_le h1 hS.1) (fun z => h2 (hFc q z))]; exact hS.2.1 q h1 h2, fun q hq => by
      rcases List.mem_append.mp hq with h | h
      · exact hS.2.2 q h
      · exact hFc _ (hL q h)⟩
  obtain ⟨t2, a1, b1⟩ := k w1 hkz p e s m args below meth c E T'.heap (locs ++ L') ls (by rw [e1]; exact hj.1) hj.2 hS' hl T' rfl Y'
  exact ⟨t2, st t2 a1, b1⟩
/-- into the loop: all cells of the fixed shape are there -/
theorem ce_loop {ad : Nat → Nat} {sh : List ch_D} {w : ck_W} {L' : ck_L} (hw : ck_ok sh w) (hlok : ck_lok L') (hws : ws = ch_ws (cn_X X ad sh) (ck_w w)) (hL : L = ch_as (cn_X X ad sh) 0 (L'.map (Option.map ck_v))) (hc : cells ≤ 600000) (hs : slots ≤ 7302250)
    (k : ch_Ok (cn_X X ad sh) → cq_At (cn_X X ad sh) (cl_M (cn_X X ad sh) n f) mL_law pc L' [] w) : ce_At X n f pc L [] cells slots ws := by
  subst hws
  subst hL
  intro p e s m args below meth c E H locs ls hP hD hS hl
  obtain ⟨hx, hb, hr, hml, hts, hown, hlocks, hK, hB, hN', hV, hV2⟩ := id E
  have hO : ch_Ok (cn_X X ad sh) := cn_Okx hD (fun q h => h)
  have hA : ∀ q, ch_A (cn_X X ad sh) q → cn_f X q := by
    rintro q ⟨i, hi, rfl⟩
    exact hD.2 i _ (ch_ws_at (List.getElem?_eq_getElem hi))
  refine W.widen (k := 600000) (n := 7302250) hc hs ?_
  refine va_forget (fun q hq => by have := hS.2.2 q hq; unfold cn_f at this; rw [hB] at this; exact this) ?_
  refine k hO hw hlok p e s m args below meth c ⟨hx, hb, hr, hml, hts, hown, hlocks, hK, ⟨by show X.2.2.2.2.1.size ≤ s.heap.size; rw [hB]; exact Nat.le_refl _, fun q _ => by show s.heap[q]? = X.2.2.2.2.1[q]?; rw [hB]⟩, hO, cn_NSx hN' hA, hV, (by show X.2.2.2.1 102 < X.2.2.2.2.1.size; rw [hB]; exact hV2), (by show s.heap.size = X.2.2.2.2.1.size; rw [hB])⟩ H [] ls hP ⟨hS.1, fun q h1 _ => hS.2.1 q h1 (fun z => by unfold cn_f at z; rw [hB] at z; exact absurd h1 (Nat.not_lt.mpr z)), fun q hq => by cases hq⟩ hl
end CER
