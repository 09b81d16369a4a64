/-! ===== constructors: calls of methods that only compute ===== -/
def cn_X (X : ch_X) (ad : Nat → Nat) (sh : List ch_D) : ch_X := (X.1, X.2.1, X.2.2.1, fun k => if k < 97 then ad k else X.2.2.2.1 k, X.2.2.2.2.1, sh)
theorem cn_NSx {X : ch_X} {ad : Nat → Nat} {sh : List ch_D} {U : State} (h : cn_NS X U) (hA : ∀ q, ch_A (cn_X X ad sh) q → cn_f X q) : ch_NS (cn_X X ad sh) U := by
  refine ⟨h.1, ?_⟩
  obtain ⟨⟨h1, h2⟩, h3, h4, h5⟩ := h.2
  have e : ∀ k, 97 ≤ k → (cn_X X ad sh).2.2.2.1 k = X.2.2.2.1 k := fun k hk => if_neg (by omega)
  have e1 : (fun i => (cn_X X ad sh).2.2.2.1 (97 + i)) = fun i => X.2.2.2.1 (97 + i) := funext fun i => e _ (by omega)
  have e2 : (fun i => (cn_X X ad sh).2.2.2.1 (99 + i)) = fun i => X.2.2.2.1 (99 + i) := funext fun i => e _ (by omega)
  unfold ch_St
  rw [e1, e2, e 97 (by omega), e 98 (by omega), e 101 (by omega)]
  refine ⟨⟨h1, h2⟩, h3.narrow hA, h4.narrow hA, ?_⟩
  rcases h5 with h | h
  · exact Or.inl (h.narrow hA)
  · exact Or.inr (h.narrow hA)
theorem cn_Ax {X : ch_X} {w : ch_W} {q : Nat} (h : ch_A X q) : ∃ (k : Nat) (e : va_E), (ch_ws X w)[k]? = some (q, e) := by
  obtain ⟨k, hk, rfl⟩ := h
  exact ⟨k, _, ch_ws_at (List.getElem?_eq_getElem hk)⟩
theorem cn_Okx {X : ch_X} {w : ch_W} {A : Nat → Prop} (hD : va_D A (ch_ws X w)) (hA : ∀ q, A q → X.2.2.2.2.1.size ≤ q) : ch_Ok X := by
  refine ⟨fun i j hi hj he => ?_, fun i hi => ?_⟩
  · exact hD.1 i j _ _ (ch_ws_at (List.getElem?_eq_getElem hi)) (ch_ws_at (List.getElem?_eq_getElem hj)) he
  · exact hA _ (hD.2 i _ (ch_ws_at (List.getElem?_eq_getElem hi)))
theorem cn_callS {X : ch_X} {d C S : Nat} {y : ch_M} {ws0 : va_W} {K : va_W → Prop} {pc : Nat} {L : List (Nat × Value)} {St : List Value} {cells slots : Nat} {ws : va_W} {z : ch_M} {index n dz : Nat} {wr : va_W} {w : ch_W} {Kz : Option Value → ch_W → Prop} (ad : Nat → Nat) (sh : List ch_D) (As : List Value) (isC isR : List Nat) {S0 : List Value} (hd : decode y.2.1 pc = .ok (.invokestatic index, 3)) (hc : ch_CS y.1.cls index n z) (hn : As.length = n) (h0 : S0 = (As.map (ch_re (cn_X X ad sh))).reverse ++ St) (h8 : (St.map fun v => v.category).sum ≤ 8) (hC : isC.map (fun i => ws[i]?) = (ch_ws (cn_X X ad sh) w).map some) (hCf : isC.filterMap (fun i => ws[i]?) = ch_ws (cn_X X ad sh) w) (hR : isR.map (fun i => ws[i]?) = wr.map some) (hnc : va_nd isC = true) (hnd : va_nd isR = true) (hdis : ∀ i ∈ isR, i ∉ isC) (hd1 : dz + 1 ≤ d) (hce : cells ≤ C) (hsl : slots ≤ S) (kk : ch_Ok (cn_X X ad sh) → ch_Ex (cn_X X ad sh) dz z As w Kz)
    (k : ∀ r w1, Kz r w1 → cn_At X d C S y ws0 K (pc + 3) L ((r.map (ch_re (cn_X X ad sh))).toList ++ St) cells slots (wr ++ ch_ws (cn_X X ad sh) w1)) : cn_At X d C S y ws0 K pc L S0 cells slots ws := by
  intro p e s m args below meth c E H locs ls hP hD hS hl
  obtain ⟨hx, hb, hr, hml, hts, hown, hlocks, hnm, hK, hB, hN', hD0⟩ := id E
  obtain ⟨c1, c2, c3, c4, c5, c6⟩ := hc
  subst h0
  have hfr := cn_fr E
  have hBH := cn_BH E hS
  have hFc := va_free (wc := ch_ws (cn_X X ad sh) w) hD hS (fun q h => Or.inr h) isC hC
  have hPc := hP.sub (ws' := ch_ws (cn_X X ad sh) w) isC hCf
  have hDc := hD.sub (ws' := ch_ws (cn_X X ad sh) w) isC hnc hC
  have hO : ch_Ok (cn_X X ad sh) := cn_Okx hDc hfr
  have hAx : ∀ q, ch_A (cn_X X ad sh) q → va_A (ch_ws (cn_X X ad sh) w) H.size q := fun q h => Or.inl (cn_Ax h)
  have hAf : ∀ q, ch_A (cn_X X ad sh) q → cn_f X q := fun q h => hfr q (hFc q (hAx q h))
  intro T hT Y
  have run := va_runS (p := p) (l := X.1) (e := e) (R := cn_R d C S) (s := s) (m := m) (args := args) (below := below) (meth := meth) (c := c) (H := H) (locs := locs) (cells := cells) (slots := slots) (n := n) (As := As.map (ch_re (cn_X X ad sh))) (rest := St) (Ts := ch_T) (own := y.1.cls) (nL := y.2.2.1) (g := F0 m pc ls ((As.map (ch_re (cn_X X ad sh))).reverse ++ St)) ⟨hx, hb, hml, hown, hts⟩ (kk hO) ⟨callB_of n hts (ch_good (fun _ h => h) c4) rfl rfl rfl (hts _ c3) (hts _ c1) c5 ⟨hd1, (show 8 + (z.2.2.1 + 11) + 40 * dz ≤ 40 * d by omega)⟩, hts _ c2⟩ ⟨ch_blind, fun U hU hW => ⟨rfl, by rw [hU]; exact hPc, by rw [hU]; exact hBH.1, va_K.moved hW.alike hK, cn_NSx ⟨hN'.1.warm hW, hN'.2.warm hW (by rw [hU]; exact hBH.2)⟩ hAf⟩⟩ rfl (by simp [hn]) hl.1 rfl (lv_room h8) hd ⟨hce, hsl⟩
  obtain ⟨v, st₀, t, T', L', h0, Y', hL, e1, e2, ⟨⟨r, w1, hv, hkz, hP1⟩, hz, hk2⟩, st⟩ := run T hT Y
  cases hv
  rw [h0] at hz hk2
  have hk3 : ∀ q : Nat, q < H.size → ¬ va_A (ch_ws (cn_X X ad sh) w) H.size q → t.heap[q]? = H[q]? := fun q h1 h2 => hk2 q h1 (fun z => h2 (hAx q z))
  have hD1 : va_D (va_A (ch_ws (cn_X X ad sh) w) H.size) (ch_ws (cn_X X ad sh) w1) := (hO.D w1).weaken (fun _ _ _ h => hAx _ h)
  have hj := va_join (wr := wr) (w1 := ch_ws (cn_X X ad sh) w1) hP hD isC isR hC hR hnd hdis hk3 hFc hP1 hD1
  have hS' : va_S (va_A ws0 s.heap.size) s.heap T'.heap (locs ++ L') := ⟨Nat.le_trans hS.1 (by rw [e1]; exact hz), fun q h1 h2 => by rw [e1, hk3 q (Nat.lt_of_lt_of_le h1 hS.1) (fun z => h2 (hFc q z))]; exact hS.2.1 q h1 h2, fun q hq => by
      rcases List.mem_append.mp hq with h | h
      · exact hS.2.2 q h
      · exact hFc _ (hAx _ (hL q h))⟩
  obtain ⟨t2, a1, b1⟩ := k r w1 hkz p e s m args below meth c E T'.heap (locs ++ L') ls (by rw [e1]; exact hj.1) hj.2 hS' hl T' rfl Y'
  exact ⟨t2, st t2 a1, b1⟩
