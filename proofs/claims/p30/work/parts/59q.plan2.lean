/-! ===== the class's plan, exact: its rows hold the best of all sets ===== -/
def qk_G (W : Int → Int) : Int → Int := fun k => W k * 65536 - ck_shl 1 k
theorem S2_X3_addFetched {g : ch_G} {A R : Nat} (hC : ck_Cx g A R) {d : Nat} {K : Option ck_V → ck_W → Prop} {w : ck_W} {a1 a2 : Int} (hP : cs_P w) (h1 : 0 ≤ a1 ∧ a1 < w 20 3) (h2 : 0 ≤ a2 ∧ a2 ≤ 400) (B : Int) (hB : 0 ≤ B ∧ B ≤ 15) (hv : cs_vb a2 (w 26) B) (h : ∀ w', (∀ k, k ≠ 26 → w' k = w k) → cs_vb a2 (w' 26) (B + 1) → (∀ y, 0 ≤ y → y ≤ a2 → w' 26 y = if y < w 21 a1 then w 26 y else if w 26 (y - w 21 a1) = -1 then w 26 y else max (w 26 y) (w 26 (y - w 21 a1) + qk_G (w 22) a1)) → K none w') : ck_Ex (ch_C g A R) (d + 1) mX3_addFetched [.inr (.inr 20), .inl a1, .inl a2] w K := by
  have p0 := hP.1
  have p1 := hP.2.1 a1 h1.1 h1.2
  have pp := cs_pp (k := a1) (by omega)
  have l : ∀ (n : Nat) (a4 : Int) (u : ck_W), a4 ≤ n → -50 ≤ a4 → a4 ≤ a2 → (∀ k, k ≠ 26 → u k = w k) → cs_vb a2 (u 26) (B + 1) → (∀ y, 0 ≤ y → y ≤ a4 → u 26 y = w 26 y) → (∀ y, 0 ≤ y → a4 < y → y ≤ a2 → u 26 y = if y < w 21 a1 then w 26 y else if w 26 (y - w 21 a1) = -1 then w 26 y else max (w 26 y) (w 26 (y - w 21 a1) + qk_G (w 22) a1)) → ck_At (ch_C g A R) (d + 1) mX3_addFetched K 17 [some (.inr (.inr 20)), some (.inl a1), none, some (.inl (qk_G (w 22) a1)), some (.inl a4), none] [] u := by
    have gb : 0 ≤ qk_G (w 22) a1 ∧ qk_G (w 22) a1 ≤ 65470464 := by unfold qk_G; omega
    have fin : ∀ (a4 : Int) (u : ck_W), a4 < w 21 a1 → (∀ k, k ≠ 26 → u k = w k) → cs_vb a2 (u 26) (B + 1) → (∀ y, 0 ≤ y → y ≤ a4 → u 26 y = w 26 y) → (∀ y, 0 ≤ y → a4 < y → y ≤ a2 → u 26 y = if y < w 21 a1 then w 26 y else if w 26 (y - w 21 a1) = -1 then w 26 y else max (w 26 y) (w 26 (y - w 21 a1) + qk_G (w 22) a1)) → K none u := by
      intro a4 u q g5 g6 g7 g8
      refine h u g5 g6 (fun y y0 y1 => ?_)
      by_cases z : a4 < y
      · exact g8 y y0 z y1
      · rw [if_pos (by omega)]; exact g7 y y0 (by omega)
    intro n
    induction n with
    | zero =>
      intro a4 u g1 g2 g3 g5 g6 g7 g8
      have e : u 21 a1 = w 21 a1 := by rw [g5 21 (by decide)]
      exact r_X3_addFetched_17 hC ⟨by omega, fun q => fin a4 u (by omega) g5 g6 g7 g8, fun q => absurd (by omega) q⟩
    | succ n ih =>
      intro a4 u g1 g2 g3 g5 g6 g7 g8
      have e : u 21 a1 = w 21 a1 := by rw [g5 21 (by decide)]
      refine r_X3_addFetched_17 hC ⟨by omega, fun q => fin a4 u (by omega) g5 g6 g7 g8, fun q => ?_⟩
      rw [e] at q ⊢
      have k1 := g7 (a4 - w 21 a1) (by omega) (by omega)
      have k2 := hv (a4 - w 21 a1) (by omega) (by omega)
      have k3 := g6 a4 (by omega) (by omega)
      have k4 := g7 a4 (by omega) (by omega)
      rw [k1]
      refine ⟨by omega, fun z => ⟨by constructor <;> omega, ih _ u (by omega) (by omega) (by omega) g5 g6 (fun x y z => g7 x y (by omega)) (fun y y0 y1 y2 => ?_)⟩, fun z => ⟨by omega, by constructor <;> omega, by constructor <;> omega, ih _ _ (by omega) (by omega) (by omega) (fun k hk => by rw [ck_up_ne hk]; exact g5 k hk) (fun x y z2 => ?_) (fun x y z2 => ?_) (fun y y0 y1 y2 => ?_)⟩⟩
      · by_cases ya : y = a4
        · rw [ya, if_neg q, if_pos z]; exact k4
        · exact g8 y y0 (by omega) y2
      · rw [ck_up_at]
        split
        · have m1 := Int.le_max_left (u 26 a4) (w 26 (a4 - w 21 a1) + qk_G (w 22) a1)
          refine ⟨by omega, Int.max_le.mpr ⟨by omega, by omega⟩⟩
        · exact g6 x y z2
      · rw [ck_up_nj (by omega)]; exact g7 x y (by omega)
      · by_cases ya : y = a4
        · rw [ya, ck_up_eq, if_neg q, if_neg z, k4]
        · rw [ck_up_nj ya]; exact g8 y y0 (by omega) y2
  refine e_X3_addFetched hC ⟨by omega, fun x3 e3 => ⟨by constructor <;> omega, ?_⟩⟩
  rw [e3]
  exact l 400 a2 w (by omega) (by omega) (by omega) (fun _ _ => rfl) (cs_vbm hv (by omega)) (fun _ _ _ => rfl) (fun y y0 y1 y2 => absurd y1 (by omega))
theorem qk_uc {L : Int → Int} {n : Nat} {b : Nat → Bool} {m : Nat} (i : Int) (hm : m < n) : qk_u L (qk_1 b m true) n i ↔ (L m = i ∨ qk_u L b n i) := by
  refine ⟨fun ⟨k, k1, k2, k3⟩ => ?_, fun h => ?_⟩
  · by_cases e : k = m
    · rw [e] at k3; exact Or.inl k3
    · rw [qk_1n e] at k2; exact Or.inr ⟨k, k1, k2, k3⟩
  · rcases h with h | ⟨k, k1, k2, k3⟩
    · exact ⟨m, hm, qk_1e, h⟩
    · by_cases e : k = m
      · exact ⟨m, hm, qk_1e, by rw [← e]; exact k3⟩
      · exact ⟨k, k1, by rw [qk_1n e]; exact k2, k3⟩
theorem S2_X3_fill {g : ch_G} {A R : Nat} (hC : ck_Cx g A R) {d : Nat} {K : Option ck_V → ck_W → Prop} {w : ck_W} {a1 : Int} (hP : cs_P w) (h1 : 0 ≤ a1 ∧ a1 ≤ 400) (h : ∀ w', (∀ k, k ≠ 25 → k ≠ 26 → w' k = w k) → cs_vb a1 (w' 25) 16 → qk_V (fun k => k < (w 20 3).toNat) (qk_h (w 21) (w 23) (w 24) (w 20 3).toNat) (qk_G (w 22)) (w 20 3).toNat a1 (w' 25) → K none w') : ck_Ex (ch_C g A R) (d + 2) mX3_fill [.inr (.inr 20), .inl a1] w K := by
  have p0 := hP.1
  have cb := fun r => cs_clb (w 23) r (w 20 3).toNat
  have em : min a1 400 = a1 := by omega
  generalize hN : (w 20 3).toNat = N at *
  have hN2 : w 20 3 = N := by omega
  have fr : ∀ u : ck_W, (∀ k, k ≠ 25 → k ≠ 26 → u k = w k) → cs_P u := fun u g => by
    unfold cs_P
    rw [g 20 (by decide) (by decide), g 21 (by decide) (by decide), g 22 (by decide) (by decide), g 23 (by decide) (by decide), g 24 (by decide) (by decide)]
    exact hP
  have hH : ∀ b, 0 ≤ qk_s (w 21) b N ∧ qk_s (w 21) b N ≤ 50 * N := fun b => qk_sb N (fun k hk => by have := hP.2.1 k (by omega) (by omega); omega)
  have hG : ∀ b, 0 ≤ qk_s (qk_G (w 22)) b N := fun b => (qk_sb (B := 65470464) N (fun k hk => by
    have := hP.2.1 k (by omega) (by omega)
    have := cs_pp (k := k) (by omega)
    unfold qk_G; omega)).1
  have hF : ∀ i, 0 ≤ i → i < 4 → 0 ≤ w 24 i := fun i i0 i1 => (hP.2.2 i i0 i1).1
  have hf0 : ∀ P : Int → Prop, 0 ≤ qk_f (w 24) P := fun P => by
    have := qk_fm (F := w 24) (P := fun _ => False) (Q := P) hF (fun _ z => z.elim)
    rw [qk_f0 (fun _ z => z)] at this
    exact this
  have hr0 : ∀ b, 0 ≤ qk_h (w 21) (w 23) (w 24) N b := fun b => by
    have := (hH b).1
    have := hf0 (qk_u (w 23) b N)
    unfold qk_h; omega
  have hx0 : ∀ r b, 0 ≤ qk_x (w 21) (w 23) (w 24) N r b := fun r b => by
    have := (hH b).1
    have := hf0 (fun i => i = r ∨ qk_u (w 23) b N i)
    unfold qk_x; omega
  have lo : ∀ (n : Nat) (a3 : Int) (u : ck_W), 4 - a3 = n → 0 ≤ a3 → (∀ k, k ≠ 25 → k ≠ 26 → u k = w k) → cs_vb a1 (u 25) (cs_cl (w 23) a3 N) → qk_V (fun k => k < N ∧ w 23 k < a3) (qk_h (w 21) (w 23) (w 24) N) (qk_G (w 22)) N a1 (u 25) → ck_At (ch_C g A R) (d + 2) mX3_fill K 25 [some (.inr (.inr 20)), none, some (.inl a1), some (.inl a3), none] [] u := by
    intro n
    induction n with
    | zero =>
      intro a3 u g1 g2 g3 g4 g5
      refine r_X3_fill_25 hC ⟨fun _ => h u g3 (cs_vbm g4 (by have := cb a3; omega)) (qk_V_c g5 (fun k => ⟨fun z => z.1, fun z => ⟨z, ?_⟩⟩)), fun q => absurd (by omega) q⟩
      have := hP.2.1 k (by omega) (by omega)
      omega
    | succ n ih =>
      intro a3 u g1 g2 g3 g4 g5
      have c0 := cb a3
      have c1 := cs_cls (w 23) a3 N
      have c2 := cs_ceb (w 23) a3 N
      have c3 := cb (a3 + 1)
      -- the last loop
      have l3 : ∀ (m : Nat) (a4 : Int) (v : ck_W) (f : Int → Int), a1 + 1 - a4 = m → 0 ≤ a4 → (∀ k, k ≠ 25 → k ≠ 26 → v k = w k) → cs_vb a1 (v 25) (cs_cl (w 23) (a3 + 1) N) → cs_vb a1 (v 26) (cs_cl (w 23) (a3 + 1) N) → v 26 = f → (∀ y, 0 ≤ y → y < a4 → v 25 y = max (u 25 y) (f y)) → (∀ y, a4 ≤ y → y ≤ a1 → v 25 y = u 25 y) → qk_V (fun k => (k < N ∧ w 23 k < a3) ∨ (k < N ∧ w 23 k = a3)) (qk_x (w 21) (w 23) (w 24) N a3) (qk_G (w 22)) N a1 f → ck_At (ch_C g A R) (d + 2) mX3_fill K 120 [some (.inr (.inr 20)), none, some (.inl a1), some (.inl a3), some (.inl a4)] [] v := by
        intro m
        induction m with
        | zero =>
          intro a4 v f e1 e2 e3 e4 e5 e6 e7 e8 e9
          refine r_X3_fill_120 hC ⟨fun _ => ⟨by constructor <;> omega, ih (a3 + 1) v (by omega) (by omega) e3 e4 ?_⟩, fun q => absurd (by omega) q⟩
          refine qk_V_c (qk_V_join g5 e9 hr0 (fun k z => Or.inl z) (fun b => ?_) (fun b hb => ?_) (fun y y0 y1 => e7 y y0 (by omega))) (fun k => ⟨fun z => ?_, fun z => ?_⟩)
          · have := qk_fm (F := w 24) (P := qk_u (w 23) b N) (Q := fun i => i = a3 ∨ qk_u (w 23) b N i) hF (fun _ z => Or.inr z)
            unfold qk_h qk_x; omega
          · by_cases q : qk_u (w 23) b N a3
            · refine Or.inr ?_
              have : qk_f (w 24) (qk_u (w 23) b N) = qk_f (w 24) (fun i => i = a3 ∨ qk_u (w 23) b N i) := qk_fc (fun i _ _ => ⟨fun z => Or.inr z, fun z => z.elim (fun y => by rw [y]; exact q) (fun y => y)⟩)
              unfold qk_h qk_x; rw [this]
            · refine Or.inl (fun k hk => ?_)
              rcases hb k hk with z | z
              · exact z
              · exact absurd ⟨k, z.1, hk, z.2⟩ q
          · rcases z with z | z
            · exact ⟨z.1, by omega⟩
            · exact ⟨z.1, by omega⟩
          · by_cases q : w 23 k < a3
            · exact Or.inl ⟨z.1, q⟩
            · exact Or.inr ⟨z.1, by omega⟩
        | succ m ih3 =>
          intro a4 v f e1 e2 e3 e4 e5 e6 e7 e8 e9
          refine r_X3_fill_120 hC ⟨fun q => absurd q (by omega), fun _ => ⟨by omega, by constructor <;> omega, ih3 (a4 + 1) _ f (by omega) (by omega) (fun k x y => by rw [ck_up_ne x]; exact e3 k x y) (fun j x y => ?_) (by rw [ck_up_ne (by decide)]; exact e5) (by rw [ck_up_ne (by decide)]; exact e6) (fun y y0 y1 => ?_) (fun y y0 y1 => ?_) e9⟩⟩
          · rw [ck_up_at]
            split
            · have b1 := e4 a4 (by omega) (by omega)
              have b2 := e5 a4 (by omega) (by omega)
              have m1 := Int.le_max_left (v 25 a4) (v 26 a4)
              exact ⟨by omega, Int.max_le.mpr ⟨by omega, by omega⟩⟩
            · exact e4 j x y
          · by_cases ya : y = a4
            · rw [ya, ck_up_eq, e6, e8 a4 (by omega) (by omega)]
            · rw [ck_up_nj ya]; exact e7 y y0 (by omega)
          · rw [ck_up_nj (by omega)]; exact e8 y (by omega) y1
      -- the loop over parts
      have l2 : ∀ (m n4 : Nat) (a4 : Int) (v : ck_W), w 20 3 - a4 = m → a4 = n4 → (∀ k, k ≠ 25 → k ≠ 26 → v k = w k) → v 25 = u 25 → cs_vb a1 (v 26) (cs_cl (w 23) a3 N + cs_ce (w 23) a3 n4) → qk_V (fun k => (k < N ∧ w 23 k < a3) ∨ (k < n4 ∧ w 23 k = a3)) (qk_x (w 21) (w 23) (w 24) N a3) (qk_G (w 22)) N a1 (v 26) → ck_At (ch_C g A R) (d + 2) mX3_fill K 84 [some (.inr (.inr 20)), none, some (.inl a1), some (.inl a3), some (.inl a4)] [] v := by
        intro m
        induction m with
        | zero =>
          intro n4 a4 v e1 e2 e3 e4 e5 e6
          have e0 : v 20 3 = w 20 3 := by rw [e3 20 (by decide) (by decide)]
          have en : n4 = N := by omega
          rw [en] at e5 e6
          exact r_X3_fill_84 hC ⟨fun _ => l3 (a1 + 1).toNat 0 v _ (by omega) (by omega) e3 (by rw [e4]; exact cs_vbm g4 (by omega)) (cs_vbm e5 (by omega)) rfl (fun y y0 y1 => absurd y1 (by omega)) (fun y _ _ => by rw [e4]) e6, fun q => absurd (by omega) q⟩
        | succ m ih2 =>
          intro n4 a4 v e1 e2 e3 e4 e5 e6
          have e0 : v 20 3 = w 20 3 := by rw [e3 20 (by decide) (by decide)]
          have e21 : v 21 = w 21 := e3 21 (by decide) (by decide)
          have e22 : v 22 = w 22 := e3 22 (by decide) (by decide)
          have er : v 23 a4 = w 23 a4 := by rw [e3 23 (by decide) (by decide)]
          have st : cs_ce (w 23) a3 (n4 + 1) = cs_ce (w 23) a3 n4 + if w 23 a4 = a3 then 1 else 0 := by rw [cs_ce, e2]
          have cm := cs_cem (w 23) a3 (n4 + 1) (N - (n4 + 1))
          rw [show n4 + 1 + (N - (n4 + 1)) = N by omega] at cm
          have cz := cs_ceb (w 23) a3 n4
          refine r_X3_fill_84 hC ⟨fun q => absurd q (by omega), fun q => ⟨by omega, fun z => ⟨by constructor <;> omega, ih2 (n4 + 1) (a4 + 1) v (by omega) (by omega) e3 e4 ?_ ?_⟩, fun z => ?_⟩⟩
          · rw [er] at z
            rw [st, if_neg z]
            exact cs_vbm e5 (by omega)
          · rw [er, e2] at z
            refine qk_V_c e6 (fun k => ⟨fun y => y.elim Or.inl (fun y => Or.inr ⟨by omega, y.2⟩), fun y => y.elim Or.inl (fun y => Or.inr ⟨?_, y.2⟩)⟩)
            have : k ≠ n4 := fun x => z (by rw [← x]; exact y.2)
            omega
          · rw [er] at z
            rw [if_pos z] at st
            refine S2_X3_addFetched hC (fr v e3) (by omega) h1 (cs_cl (w 23) a3 N + cs_ce (w 23) a3 n4) (by omega) e5 (fun w' k1 k2 k3 => ⟨rfl, by constructor <;> omega, ih2 (n4 + 1) (a4 + 1) w' (by omega) (by omega) (fun k x y => by rw [k1 k y]; exact e3 k x y) (by rw [k1 25 (by decide)]; exact e4) ?_ ?_⟩)
            · rw [st]
              exact cs_vbm k2 (by omega)
            · rw [e2] at z
              have pn := hP.2.1 n4 (by omega) (by omega)
              refine qk_V_add (m := n4) (x := w 21 n4) e6 (hx0 a3) hG (by omega) (fun y => by omega) (fun k => ⟨fun y => ?_, fun y => ?_⟩) (by omega) (fun b _ bm => ?_) (fun y y0 y1 => ?_)
              · rcases y with y | y
                · exact Or.inl (Or.inl y)
                · by_cases x : k = n4
                  · exact Or.inr x
                  · exact Or.inl (Or.inr ⟨by omega, y.2⟩)
              · rcases y with (y | y) | y
                · exact Or.inl y
                · exact Or.inr ⟨by omega, y.2⟩
                · exact Or.inr ⟨by omega, by rw [y]; exact z⟩
              · have q1 := qk_s1 (t := w 21) bm N (by omega)
                have q2 : qk_f (w 24) (fun i => i = a3 ∨ qk_u (w 23) (qk_1 b n4 true) N i) = qk_f (w 24) (fun i => i = a3 ∨ qk_u (w 23) b N i) := qk_fc (fun i _ _ => by rw [qk_uc i (by omega)]; exact ⟨fun x => x.elim Or.inl (fun x => x.elim (fun x => Or.inl (by omega)) Or.inr), fun x => x.elim Or.inl (fun x => Or.inr (Or.inr x))⟩)
                unfold qk_x
                rw [q1, q2]; omega
              · have q := k3 y y0 y1
                rw [e21, e22, e2] at q
                exact q
      -- the first loop
      have l1 : ∀ (m : Nat) (a4 : Int) (v : ck_W), a1 + 1 - a4 = m → 0 ≤ a4 → (∀ k, k ≠ 25 → k ≠ 26 → v k = w k) → v 25 = u 25 → (∀ j, 0 ≤ j → j < a4 → -1 ≤ v 26 j ∧ v 26 j ≤ 65470464 * (cs_cl (w 23) a3 N)) → (∀ j, 0 ≤ j → j < a4 → v 26 j = if j < w 24 a3 then -1 else u 25 (j - w 24 a3)) → ck_At (ch_C g A R) (d + 2) mX3_fill K 33 [some (.inr (.inr 20)), none, some (.inl a1), some (.inl a3), some (.inl a4)] [] v := by
        intro m
        induction m with
        | zero =>
          intro a4 v e1 e2 e3 e4 e5 e6
          refine r_X3_fill_33 hC ⟨fun _ => l2 (w 20 3).toNat 0 0 v (by omega) (by omega) e3 e4 (fun j x y => by have := e5 j x (by omega); rw [cs_ce]; omega) ?_, fun q => absurd (by omega) q⟩
          refine qk_V_c (qk_V_init (hx := qk_x (w 21) (w 23) (w 24) N a3) (x := w 24 a3) g5 hr0 (hF a3 g2 (by omega)) (fun b hb => ?_) (fun y y0 y1 => e6 y y0 (by omega))) (fun k => ⟨Or.inl, fun y => y.elim id (fun y => absurd y.1 (by omega))⟩)
          have nr : ¬ qk_u (w 23) b N a3 := fun ⟨k, k1, k2, k3⟩ => by have := hb k k2; omega
          have := qk_fr (F := w 24) nr ⟨g2, by omega⟩
          unfold qk_h qk_x
          rw [this]; omega
        | succ m ih1 =>
          intro a4 v e1 e2 e3 e4 e5 e6
          have ef : v 24 a3 = w 24 a3 := by rw [e3 24 (by decide) (by decide)]
          have fb := hP.2.2 a3 (by omega) (by omega)
          have b4 := g4 (a4 - w 24 a3)
          refine r_X3_fill_33 hC ⟨fun q => absurd q (by omega), fun q => ⟨by omega, fun z => ⟨by omega, by constructor <;> omega, ih1 (a4 + 1) _ (by omega) (by omega) (fun k x y => by rw [ck_up_ne y]; exact e3 k x y) (by rw [ck_up_ne (by decide)]; exact e4) (fun j x y => ?_) (fun j x y => ?_)⟩, fun z => ⟨by omega, by omega, by constructor <;> omega, ih1 (a4 + 1) _ (by omega) (by omega) (fun k x y => by rw [ck_up_ne y]; exact e3 k x y) (by rw [ck_up_ne (by decide)]; exact e4) (fun j x y => ?_) (fun j x y => ?_)⟩⟩⟩
          · rw [ck_up_at]
            split
            · omega
            · exact e5 j x (by omega)
          · by_cases ya : j = a4
            · rw [ya, ck_up_eq, if_pos (by omega)]
            · rw [ck_up_nj ya]; exact e6 j x (by omega)
          · rw [ck_up_at]
            split
            · rw [ef, e4]; exact b4 (by omega) (by omega)
            · exact e5 j x (by omega)
          · by_cases ya : j = a4
            · rw [ya, ck_up_eq, if_neg (by omega), ef, e4]
            · rw [ck_up_nj ya]; exact e6 j x (by omega)
      exact r_X3_fill_25 hC ⟨fun q => absurd q (by omega), fun _ => l1 (a1 + 1).toNat 0 u (by omega) (by omega) g3 rfl (fun j a b => by omega) (fun j a b => by omega)⟩
  have e := e_X3_fill (K := K) (d := d + 1) (w := w) (a1 := a1) hC
  rw [em] at e
  refine e (S_fill_25 hC (fun w' k1 k2 => ⟨rfl, lo 4 0 _ (by omega) (by omega) (fun k x y => by rw [ck_up_ne x]; exact k1 k x) (fun j x y => ?_) ⟨fun y y0 y1 => ?_, fun b hb hM => ?_⟩⟩))
  · have c0 := cb 0
    rw [ck_up_at]
    split
    · omega
    · rw [k2 j x (by omega)]; omega
  · by_cases ya : y = 0
    · refine Or.inr ⟨fun _ => false, fun k z => (Bool.false_ne_true z).elim, ?_, ?_⟩
      · rw [ya, ck_up_eq, qk_s0]
      · have : qk_f (w 24) (qk_u (w 23) (fun _ => false) N) = 0 := qk_f0 (fun i ⟨k, _, z, _⟩ => Bool.false_ne_true z)
        unfold qk_h
        rw [qk_s0, this]; omega
    · rw [ck_up_nj ya, k2 y y0 (by omega)]; exact Or.inl rfl
  · have eb : b = fun _ => false := funext fun k => by
      cases z : b k with
      | false => rfl
      | true =>
        have := hb k z
        have := hP.2.1 k (by omega) (by omega)
        omega
    have : qk_f (w 24) (qk_u (w 23) (fun _ => false) N) = 0 := qk_f0 (fun i ⟨k, _, z, _⟩ => Bool.false_ne_true z)
    rw [eb]
    unfold qk_h
    rw [qk_s0, qk_s0, this, Int.add_zero, ck_up_eq]; omega
/-- the least of the hours with the greatest worth -/
theorem cs_hbw (f : Int → Int) : ∀ (n : Nat) (k b : Int), 0 ≤ b → b < k → (∀ j, 0 ≤ j → j < k → cs_wo (f j) ≤ cs_wo (f b) ∧ (j < b → cs_wo (f j) < cs_wo (f b))) → ∀ j, 0 ≤ j → j < k + n → cs_wo (f j) ≤ cs_wo (f (cs_hb f n k b)) ∧ (j < cs_hb f n k b → cs_wo (f j) < cs_wo (f (cs_hb f n k b)))
  | 0, k, b, _, _, h, j, j0, j1 => by rw [cs_hb]; exact h j j0 (by omega)
  | n + 1, k, b, h0, h1, h, j, j0, j1 => by
    rw [cs_hb]
    refine cs_hbw f n (k + 1) _ (by split <;> omega) (by split <;> omega) (fun i i0 i1 => ?_) j j0 (by omega)
    have hb := h b h0 h1
    by_cases q : cs_wo (f k) ≤ cs_wo (f b)
    · rw [if_pos q]
      by_cases e : i = k
      · rw [e]; exact ⟨q, fun z => absurd z (by omega)⟩
      · exact h i i0 (by omega)
    · rw [if_neg q]
      by_cases e : i = k
      · rw [e]; exact ⟨Int.le_refl _, fun z => absurd z (by omega)⟩
      · have := h i i0 (by omega)
        exact ⟨by omega, fun _ => by omega⟩
theorem C2_plan {g : ch_G} {A R : Nat} (hC : ck_Cx g A R) {d : Nat} {K : Option ck_V → ck_W → Prop} {w : ck_W} {a1 a2 : Int} (hP : cs_P w) (h1 : ∀ w', (0 ≤ a1 ∧ a1 ≤ 400) → (0 ≤ a2 ∧ a2 ≤ 2) → (∀ k, k ≠ 25 → k ≠ 26 → w' k = w k) → qk_V (fun k => k < (w 20 3).toNat) (qk_h (w 21) (w 23) (w 24) (w 20 3).toNat) (qk_G (w 22)) (w 20 3).toNat a1 (w' 25) → ∀ v, v = (if a2 = 2 then cs_hb (w' 25) a1.toNat 1 0 else if a2 = 1 then cs_wo (w' 25 (cs_hb (w' 25) a1.toNat 1 0)) else if w' 25 (cs_hb (w' 25) a1.toNat 1 0) = -1 then -1 else cs_wo (w' 25 (cs_hb (w' 25) a1.toNat 1 0)) * 65536 - w' 25 (cs_hb (w' 25) a1.toNat 1 0)) → K (some (.inl v)) w') (h0 : ¬ ((0 ≤ a1 ∧ a1 ≤ 400) ∧ (0 ≤ a2 ∧ a2 ≤ 2)) → K (some (.inl (-1))) w) : ck_Ex (ch_C g A R) (d + 3) mX11_plan [.inr (.inr 0), .inl a1, .inl a2] w K := by
  refine e_X11_plan hC ⟨fun q1 => ⟨fun q2 => S2_X3_fill hC hP q1 (fun w' k1 k2 kv => ⟨rfl, S_X3_hoursOfBest hC q1 k2 ⟨_, rfl, fun _ => ?_⟩⟩), fun q => h0 (fun x => q x.2)⟩, fun q => h0 (fun x => q x.1)⟩
  have b := cs_hbb (w' 25) a1.toNat 1 0 (by omega) (by omega)
  have H := h1 w' q1 q2 k1 kv
  refine ⟨fun z => ⟨fun y => p_X3_setAt hC (m := a1) (by omega) q1.2 k2 ⟨_, rfl, fun _ => H _ ?_⟩, fun y => p_X3_worthAt hC (m := a1) (by omega) q1.2 k2 ⟨_, rfl, fun _ => H _ ?_⟩⟩, fun z => H _ ?_⟩
  · rw [if_neg z, if_neg y]
  · rw [if_neg z, if_pos y]
  · rw [if_pos z]
