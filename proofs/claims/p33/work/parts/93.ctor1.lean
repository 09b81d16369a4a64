/-! ===== constructors: a constructor calls another ===== -/
theorem cn_blind {X : ch_X} {As : List Value} {sz : Nat} {ws : va_W} : FrameBlind (cn_Pc X As sz ws) := fun a U g mk q => by
  obtain ⟨q0, q1, q2, q3, q4, q5, q6⟩ := q
  exact ⟨q0, q1, q2, q3, q4, va_K.moved (u := U) (U := U.calling g mk a) (Vm.Alike.refl U.vm) q5, ⟨q6.1.same rfl, q6.2.same rfl rfl⟩⟩
/-- words of a constructor z, called out of the class own -/
def cn_CI (own : String) (index n : Nat) (z : ch_M) : Prop := Cond.methodLink own index z.1 ∈ ch_T ∧ Cond.instanceMethod z.1 ∈ ch_T ∧ Cond.initialized z.1.cls ∈ ch_T ∧ Cond.code z.1 z.2.1 z.2.2.1 z.2.2.2 ∈ ch_T ∧ (z.1.cls ≠ "java/lang/invoke/MethodHandle" ∧ z.1.cls ≠ "java/lang/invoke/VarHandle" ∧ (parseMethodDescriptor z.1.desc).map (fun d => d.parameters.length) = some n) ∧ z.2.2.1 ≤ 21 ∧ z.1.name = "<init>" ∧ z.2.2.2 = none
theorem cn_fr {X : ch_X} {y : ch_M} {ws0 : va_W} {p : Program} {s : State} {m : MethodId} {args : Array Value} {meth : Method} {c : Code} (E : cn_E X y ws0 p s m args meth c) : ∀ q, va_A ws0 s.heap.size q → cn_f X q := by
  intro q h
  obtain ⟨hx, hb, hr, hml, hts, hown, hlocks, hnm, hK, hB, hN', hD0⟩ := id E
  rcases h with ⟨k, e, h⟩ | h
  · exact hD0.2 k (q, e) h
  · exact Nat.le_trans hB.1 h
theorem cn_BH {X : ch_X} {y : ch_M} {ws0 : va_W} {p : Program} {s : State} {m : MethodId} {args : Array Value} {meth : Method} {c : Code} (E : cn_E X y ws0 p s m args meth c) {H : Heap} {locs : List Loc} (hS : va_S (va_A ws0 s.heap.size) s.heap H locs) : ch_B X H ∧ ∀ q : Nat, q < s.heap.size → ¬ cn_f X q → H[q]? = s.heap[q]? := by
  have hf := cn_fr E
  obtain ⟨hx, hb, hr, hml, hts, hown, hlocks, hnm, hK, hB, hN', hD0⟩ := id E
  have g : ∀ q : Nat, q < s.heap.size → ¬ cn_f X q → H[q]? = s.heap[q]? := fun q h1 h2 => hS.2.1 q h1 (fun z => h2 (hf q z))
  exact ⟨⟨Nat.le_trans hB.1 hS.1, fun q hq => (g q (Nat.lt_of_lt_of_le hq hB.1) (fun z => Nat.not_le_of_lt hq z)).trans (hB.2 q hq)⟩, g⟩
theorem cn_init {X : ch_X} {d C S : Nat} {y : ch_M} {ws0 : va_W} {K : va_W → Prop} {pc : Nat} {L : List (Nat × Value)} {St : List Value} {cells slots : Nat} {ws : va_W} {z : ch_M} {index n b Cz Sz dz : Nat} {wc wr : va_W} {Kz : va_W → Prop} (As : List Value) (isC isR : List Nat) {S0 : List Value} (hd : decode y.2.1 pc = .ok (.invokespecial index, 3)) (hc : cn_CI y.1.cls index n z) (hn : As.length = n) (h0 : S0 = As.reverse ++ .ref b :: St) (h8 : (St.map fun v => v.category).sum ≤ 8) (hC : isC.map (fun i => ws[i]?) = wc.map some) (hCf : isC.filterMap (fun i => ws[i]?) = wc) (hR : isR.map (fun i => ws[i]?) = wr.map some) (hnc : va_nd isC = true) (hnd : va_nd isR = true) (hdis : ∀ i ∈ isR, i ∉ isC) (hd1 : dz + 1 ≤ d) (hce : cells + Cz ≤ C) (hsl : slots + Sz ≤ S) (kk : cn_Ex X dz Cz Sz z (.ref b :: As) wc Kz)
    (k : ∀ w1, Kz w1 → cn_At X d C S y ws0 K (pc + 3) L St (cells + Cz) (slots + Sz) (wr ++ w1)) : cn_At X d C S y ws0 K pc L S0 cells slots ws := by
  intro p e s m args below meth c E H locs ls hP hD hS hl
  obtain ⟨hx, hb, hr, hml, hts, hown, hlocks, hnm, hK, hB, hN', hD0⟩ := id E
  obtain ⟨c1, c2, c3, c4, c5, c6, c7, c8⟩ := hc
  subst h0
  have hfr := cn_fr E
  have hBH := cn_BH E hS
  have hFc := va_free (wc := wc) hD hS (fun q h => Or.inr h) isC hC
  have hPc := hP.sub (ws' := wc) isC hCf
  have hDc := hD.sub (ws' := wc) isC hnc hC
  intro T hT Y
  have run := va_runI (p := p) (l := X.1) (e := e) (R := cn_R d C S) (s := s) (m := m) (args := args) (below := below) (meth := meth) (c := c) (H := H) (locs := locs) (cells := cells) (slots := slots) (n := n) (b := b) (As := As) (rest := St) (Ts := ch_T) (own := y.1.cls) (nL := y.2.2.1) (g := F0 m pc ls (As.reverse ++ .ref b :: St)) ⟨hx, hb, hml, hown, hts⟩ (kk H.size) ⟨callB_of n hts (ch_good (fun _ h => h) c4) (show ch_wd z = Cond.code z.1 z.2.1 z.2.2.1 none :: ch_T by rw [ch_wd, c8]) rfl rfl (hts _ c3) (hts _ c1) c5 ⟨hd1, (show 8 + (z.2.2.1 + 11) + 40 * dz ≤ 40 * d by omega)⟩, c7, hts _ c2⟩ ⟨cn_blind, fun U hU hW => ⟨rfl, by rw [hU], by rw [hU]; exact hPc, hDc.weaken (fun _ _ _ h => hfr _ h), by rw [hU]; exact hBH.1, va_K.moved hW.alike hK, ⟨hN'.1.warm hW, hN'.2.warm hW (by rw [hU]; exact hBH.2)⟩⟩⟩ rfl hn hl.1 rfl (lv_room h8) hd ⟨hce, hsl⟩
  obtain ⟨v, st₀, t, T', L', h0, Y', hL, e1, e2, ⟨⟨w1, hv, hkz, hP1, hD1⟩, hz, hk2⟩, st⟩ := run T hT Y
  cases hv
  rw [h0] at hz hk2
  have hj := va_join (wr := wr) (w1 := w1) hP hD isC isR hC hR hnd hdis hk2 hFc hP1 hD1
  have hS' : va_S (va_A ws0 s.heap.size) s.heap T'.heap (locs ++ L') := ⟨Nat.le_trans hS.1 (by rw [e1]; exact hz), fun q h1 h2 => by rw [e1, hk2 q (Nat.lt_of_lt_of_le h1 hS.1) (fun z => h2 (hFc q z))]; exact hS.2.1 q h1 h2, fun q hq => by
      rcases List.mem_append.mp hq with h | h
      · exact hS.2.2 q h
      · exact hFc _ (hL q h)⟩
  obtain ⟨t2, a1, b1⟩ := k w1 hkz p e s m args below meth c E T'.heap (locs ++ L') ls (by rw [e1]; exact hj.1) hj.2 hS' hl T' rfl Y'
  exact ⟨t2, st t2 a1, b1⟩
