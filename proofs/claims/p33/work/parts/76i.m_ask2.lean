/-! ===== the reference's sums and asks, seen from without ===== -/
/-- between sums: B stand in the pile, dl of the open ones are no more counted by the reference -/
def pa (kk f B : Int) (L Z : Int → Int) (cm cl dl : Int) (s u : ck_W) : Prop := (s 0 10 = cm ∧ s 0 11 = cl ∧ s 0 12 = kk + 1) ∧ (s 0 13 = u 76 30 + dl ∧ s 0 14 = 0) ∧ s 0 16 = B ∧ (∀ i, 0 ≤ i → i < B → s 1 i = L i) ∧ pk kk f Z s u
theorem pa_u {kk f B cm cl dl : Int} {L Z : Int → Int} {s u u' : ck_W} (h : pa kk f B L Z cm cl dl s u) (e24 : u' 76 24 = u 76 24) (e26 : u' 76 26 = u 76 26) (e30 : u' 76 30 = u 76 30) (e79 : u' 79 = u 79) : pa kk f B L Z cm cl dl s u' :=
  ⟨h.1, by rw [e30]; exact h.2.1, h.2.2.1, h.2.2.2.1, pk_u h.2.2.2.2 e24 e26 e79⟩
def sA (b : Int → Int) (s0 : ck_W) (kk f B cm cl : Int) (L Z : Int → Int) (u : ck_W) : Prop := ∃ s p, p_R b s0 p s ∧ tkn b p u ∧ (s 0 9 = 2 ∨ (s 0 9 = 1 ∧ ¬ tk_k (u 76 21) (u 76 23) = 8)) ∧ pa kk f B L Z cm cl 0 s u
/-- behind a sum: unwound down to the rank r -/
def sE (r : Int) (b : Int → Int) (s0 : ck_W) (kk f B cm cl : Int) (L Z : Int → Int) (u : ck_W) : Prop := ∃ s p, p_R b s0 p s ∧ tkn b p u ∧ s 0 9 = 3 ∧ pa kk f B L Z cm cl 0 (p_U s r) u ∧ ¬ (15 ≤ tk_k (u 76 21) (u 76 23) ∧ tk_k (u 76 21) (u 76 23) ≤ 18)
theorem S2_X12_summed {g : ch_G} {A R : Nat} (hC : ck_Cx g A R) {d : Nat} {K : Option ck_V → ck_W → Prop} {w : ck_W} {T X f E N n m kk B cm cl : Int} {b L Z : Int → Int} {s0 : ck_W} (hT : 0 ≤ T ∧ T ≤ 300) (hX : 0 ≤ X ∧ X ≤ 2400) (hE : 0 ≤ kk ∧ kk ≤ E) (hN : 0 ≤ N) (hn : 0 ≤ n) (hm : 0 ≤ m) (hB : tp b w) (hL : pL B L) (hcm : cm = 0 ∨ cm = 1) (hy : py T X f E N n m w) (hS : sA b s0 kk f B cm cl L Z w)
    (h : ∀ v w', pr w w' → (¬ v = 0 → ∃ z, p_O b 0 s0 v (w' 76 20) z) → (v = 0 → py T X f E N (n + 1) m w' ∧ w 76 20 < w' 76 20 ∧ sE 5 b s0 kk f B cm cl L Z w') → K (some (.inl v)) w') : ck_Ex (ch_C g A R) (d + 5) mX12_summed [.inr (.inr 76)] w K := by
  have l : ∀ (q : Nat) (u : ck_W), 301 - u 76 20 ≤ q → pr w u → w 76 20 ≤ u 76 20 → (u 76 31 = 1 → w 76 20 < u 76 20) → pz T X f E N n m u → sm b s0 kk f B cm cl L Z u → ck_At (ch_C g A R) (d + 5) mX12_summed K 10 [some (.inr (.inr 76)), none] [] u := by
    intro q
    induction q with
    | zero => intro u q1 q2 q3 q3b q4 q5; have := q4.1; omega
    | succ q ih =>
      intro u q1 q2 q3 q3b q4 q5
      have pb := pz_piled q4 hN
      obtain ⟨h1, h2, h3, h4, h5, h6, h7, h8, h9, h10, h11⟩ := id q4
      have hBu := tp_pr hB q2
      have begin_ : u 76 31 = 0 → ck_CI (ch_C g A R) (d + 4) mX12_beginOne [.inr (.inr 76)] u (fun v4 w3 => (v4 = 0 → ck_At (ch_C g A R) (d + 5) mX12_summed K 10 [some (.inr (.inr 76)), none] [] w3) ∧ (¬ v4 = 0 → K (some (.inl v4)) w3)) := fun z => S2_X12_beginOne hC hT hX hE hN hn hm hBu hL q4 z q5 (fun v w' c1 c2 c3 => ⟨_, rfl, fun _ => ⟨fun e => ih w' (by have := (c3 e).2.1; omega) (pr_tr q2 c1) (by have := (c3 e).2.1; omega) (fun _ => by have := (c3 e).2.1; omega) (c3 e).1 (c3 e).2.2, fun e => h v w' (pr_tr q2 c1) c2 (fun e' => absurd e' e)⟩⟩)
      refine r_X12_summed_10 hC ⟨fun z => ⟨fun _ => begin_ z, fun y => absurd z y⟩, fun z => ?_⟩
      have z1 : u 76 31 = 1 := by omega
      refine S2_X12_goesOn hC (by omega) (fun ng => ⟨_, rfl, fun _ => ⟨fun _ => ?_, fun y => absurd rfl y⟩⟩) (fun go => ⟨_, rfl, fun _ => ⟨fun y => absurd y (by decide), fun _ => ⟨fun y => absurd y z, fun _ => ?_⟩⟩⟩)
      · obtain ⟨hP, s, p, hR, htk, hD⟩ := q5
        have hD' : s 0 9 = 3 ∧ pq kk f B L Z cm cl (p_U s 7) u ∧ (u 76 29 ≤ 0 ∨ ¬ u 90 (u 76 29 - 1) = 2) := by
          rcases hD with x | x
          · have := x.1; omega
          · exact x.2
        clear hD
        obtain ⟨s9, hQ, hP2⟩ := hD'
        have nn : 0 ≤ s 0 16 := p_U_nn (r := 7) (by have := hQ.2.2.1; have := hL.1; omega)
        have s14 : s 0 14 = pl_pa (u 90) (u 76 29).toNat := by
          have e := hQ.2.1.2
          rw [p_U_0 (by decide) (by decide) (by decide)] at e
          exact e
        have nop : ¬ (15 ≤ tk_k (u 76 21) (u 76 23) ∧ tk_k (u 76 21) (u 76 23) ≤ 18) := fun x => ng (by
          have c : tk_k (u 76 21) (u 76 23) = 15 ∨ tk_k (u 76 21) (u 76 23) = 16 ∨ tk_k (u 76 21) (u 76 23) = 17 ∨ tk_k (u 76 21) (u 76 23) = 18 := by omega
          rcases c with c | c | c | c
          · exact Or.inl (tk_15.mp c)
          · exact Or.inr (Or.inl (tk_16.mp c))
          · exact Or.inr (Or.inr (Or.inl (tk_17.mp c)))
          · exact Or.inr (Or.inr (Or.inr (Or.inl (tk_18.mp c)))))
        refine e_X12_settle hC (L2_X12_settle hC hT hX hE hN hn hL (Or.inl rfl) 30 (by omega) q4 z1 hQ hP hP2 (fun w2 s2 c1 c2 c3 c4 c5 c6 c7 c8 c9 c10 => ⟨rfl, ?_⟩))
        obtain ⟨k1, k2, k3, k4, k5, k6, k7, k8, k9, k10, k11⟩ := id c7
        have e31 : w2 76 31 = 1 := by rw [c2 31 (by decide) (by decide)]; exact z1
        have e20 := c2 20 (by decide) (by decide)
        have e21 := c2 21 (by decide) (by decide)
        have e23 := c2 23 (by decide) (by decide)
        have op0 := pl_op0 (w2 90) (w2 76 29).toNat
        have ty : ¬ w2 76 29 ≤ 0 → (2 ≤ u 90 (w2 76 29 - 1) ∧ u 90 (w2 76 29 - 1) ≤ 6) ∨ u 90 (w2 76 29 - 1) = 40 := fun x => by
          have t := k8.1 (w2 76 29 - 1).toNat (by omega)
          rw [show (((w2 76 29 - 1).toNat : Nat) : Int) = w2 76 29 - 1 by omega, c3] at t
          exact t
        have st : p_U s2 5 = s2 := by
          refine pq_st c8 hL (by decide) k6 ?_
          by_cases x : w2 76 29 ≤ 0
          · exact Or.inl x
          · rw [c3]
            have y := pq_sp (ty x) (c6.resolve_left x) (c10.resolve_left x) (Or.inl rfl)
            rw [if_pos rfl] at y
            exact Or.inr y
        have eU : p_U s 5 = s2 := by rw [← p_UU (r' := 7) (by decide) nn, ← c9 5 (by decide), st]
        refine ⟨fun x => h 0 w2 (pr_tr q2 c1) (fun e => absurd rfl e) (fun _ => ⟨⟨k1, k2, k3, k4, k5, by omega, by omega, ?_⟩, by have := q3b z1; omega, s, p, hR, tkn_c htk (fun j j0 j1 => c2 j (by omega) (by omega)), s9, ?_, by rw [e21, e23]; exact nop⟩), fun x => h 1 w2 (pr_tr q2 c1) (fun _ => ?_) (fun e => absurd e (by decide))⟩
        · rw [k11, show (w2 76 29).toNat = 0 by omega, e31]
          show some (n + 0 + 1, m) = _
          rw [show n + 0 + 1 = n + 1 by omega]
        · rw [eU]
          obtain ⟨g1, ⟨g2, g3⟩, g4, g5, g6, g7⟩ := c8
          refine ⟨g1, ⟨by rw [g2]; omega, ?_⟩, by omega, g5, g7⟩
          rw [g3, show (w2 76 29).toNat = 0 by omega]
          rfl
        · obtain ⟨v, hl, -, -⟩ := htk
          have t40 : u 90 (w2 76 29 - 1) = 40 := by
            have a := ty x
            have c := c6.resolve_left x
            have e := c10.resolve_left x
            omega
          have pos := pl_pap (p := u 90) (k := w2 76 29 - 1) (by omega) t40 (u 76 29).toNat (by omega)
          have n20 : ¬ tk_k (u 76 21) (u 76 23) = 20 := fun y => ng (Or.inr (Or.inr (Or.inr (Or.inr ⟨tk_20.mp y, w2 76 29 - 1, by omega, by omega, t40⟩))))
          rw [e20]
          refine ⟨s, p_R_bad hR hl (p_f1 ?_) (by decide)⟩
          unfold p_cs
          omega
      · exact S2_X12_behindOne hC hT hX hE hN hn hm hBu hL hcm q4 z1 go q5 (fun w' c1 c2 c3 c4 => ⟨_, rfl, fun _ => ⟨fun _ => ih w' (by omega) (pr_tr q2 c1) (by omega) (fun _ => by omega) c2 c4, fun e => absurd rfl e⟩⟩)
  obtain ⟨h1, h2, h3, h4, h5, h7, h9, h11⟩ := id hy
  have f' : ∀ j, j ≠ 29 → j ≠ 31 → (ck_up (ck_up w 76 29 0) 76 31 0) 76 j = w 76 j := fun j x y => by rw [ck_up_nj y, ck_up_nj x]
  have f29 : (ck_up (ck_up w 76 29 0) 76 31 0) 76 29 = 0 := by rw [ck_up_nj (by decide), ck_up_eq]
  have f31 : (ck_up (ck_up w 76 29 0) 76 31 0) 76 31 = 0 := ck_up_eq
  have f79 : (ck_up (ck_up w 76 29 0) 76 31 0) 79 = w 79 := rfl
  have p0 : pr w (ck_up (ck_up w 76 29 0) 76 31 0) := pr_tr (pr_up (by omega) (by omega) (by omega)) (pr_up (by omega) (by omega) (by omega))
  refine e_X12_summed hC ?_
  generalize (ck_up (ck_up w 76 29 0) 76 31 0) = U at *
  refine l 301 U (by rw [f' 20 (by decide) (by decide)]; omega) p0 (by rw [f' 20 (by decide) (by decide)]; omega) (fun e => by rw [f31] at e; omega) ⟨?_, ?_, ?_, ?_, ?_, ?_, ?_, ?_, ?_, ?_, ?_⟩ ⟨?_, ?_⟩
  · rw [f' 19 (by decide) (by decide), f' 20 (by decide) (by decide)]; exact h1
  · rw [f' 19 (by decide) (by decide), f' 20 (by decide) (by decide), f' 21 (by decide) (by decide)]; exact h2
  · rw [f' 22 (by decide) (by decide)]; exact h3
  · rw [f' 16 (by decide) (by decide), f' 24 (by decide) (by decide)]; exact h4
  · rw [f' 26 (by decide) (by decide)]; exact h5
  · rw [f29]; omega
  · rw [f29, f' 26 (by decide) (by decide), f' 20 (by decide) (by decide)]; omega
  · rw [f29]; exact ⟨fun k hk => absurd hk (Nat.not_lt_zero k), fun k hk => by rw [show k = 0 from Nat.le_zero.mp hk]; simp [pl_op, pl_sv]⟩
  · rw [f29, f' 30 (by decide) (by decide)]; show (0 : Int) + N ≤ _ ∧ _; omega
  · rw [f31]; exact Or.inl rfl
  · rw [f29, f31, f' 26 (by decide) (by decide), f79]
    show tx_st (w 79) _ _ _ = some (n + 0 + 0, m)
    rw [h11, show n + 0 + 0 = n by omega]
  · rw [f29]; exact fun k k0 k1 => by omega
  · obtain ⟨s, p, hR, htk, s9, hA⟩ := hS
    obtain ⟨g1, ⟨g2, g3⟩, g4, g5, g6⟩ := hA
    refine ⟨s, p, hR, tkn_c htk (fun j j0 j1 => f' j (by omega) (by omega)), Or.inl ⟨f31, by rw [f' 21 (by decide) (by decide), f' 23 (by decide) (by decide)]; exact s9, g1, ⟨by rw [f' 30 (by decide) (by decide), g2]; omega, ?_⟩, by rw [f29]; omega, g5, fun k k0 k1 => by rw [f29] at k1; omega, pk_u g6 (f' 24 (by decide) (by decide)) (f' 26 (by decide) (by decide)) f79⟩⟩
    rw [f29, g3]
    rfl
/-- the next token, between sums -/
theorem S2_nexty {g : ch_G} {A R : Nat} (hC : ck_Cx g A R) {d : Nat} {K : Option ck_V → ck_W → Prop} {w : ck_W} {T X f E N n m : Int} {b : Int → Int} (hT : 0 ≤ T ∧ T ≤ 300) (hB : tp b w) (hy : py T X f E N n m w) (ht : ¬ w 76 21 = 0) (h : ∀ w', pr w w' → (∀ j, j < 19 ∨ 24 ≤ j → w' 76 j = w 76 j) → (∀ k, k ≠ 76 → w' k = w k) → py T X f (E + 1) N n m w' → w 76 20 < w' 76 20 → tkn b (w 76 19) w' → K none w') : ck_Ex (ch_C g A R) (d + 2) mX12_nextToken [.inr (.inr 76)] w K := by
  obtain ⟨h1, h2, h3, h4, h5, h7, h9, h11⟩ := hy
  refine S2_X12_nextToken hC (by omega) (by omega) h3 hB.2 (fun u i1 i2 i3 i4 i5 => h u (pr_nt i1 i4) i1.2 i1.1 ⟨?_, i3, i4, ?_, ?_, ?_, ?_, ?_⟩ (by omega) (by rw [hB.1]; exact i5))
  · rw [h4.1] at i2; omega
  · rw [i1.2 16 (by omega), i1.2 24 (by omega)]; exact h4
  · rw [i1.2 26 (by omega)]; exact h5
  · rw [i1.2 26 (by omega)]; omega
  · rw [i1.2 30 (by omega)]; exact h9
  · rw [i1.2 26 (by omega), i1.1 79 (by decide)]; exact h11
/-- a step more, between sums: the topmost of the machine's pile -/
theorem S2_emity {g : ch_G} {A R : Nat} (hC : ck_Cx g A R) {d : Nat} {K : Option ck_V → ck_W → Prop} {w : ck_W} {T X f E N n m o n' m' kk B cm cl dl : Int} {L Z : Int → Int} {s : ck_W} (hT : 0 ≤ T ∧ T ≤ 300) (hX : 0 ≤ X ∧ X ≤ 2400) (hE : 0 ≤ kk ∧ kk + 1 ≤ E) (hy : py T X f E N n m w) (ho : tx_eff o 0 (n, m) = some (n', m')) (hn : (20 ≤ o ∧ n = 0) ∨ (10 ≤ o ∧ o < 20 ∧ n = 2)) (hA : pa kk f B L Z cm cl dl s w) (hB : 0 < B) (hc : scv o 0 = 20000 + L (B - 1)) (hc2 : ¬ L (B - 1) = 22)
    (h : ∀ w', pr w w' → (∀ j, j ≠ 26 → w' 76 j = w 76 j) → py T X f (E - 1) N n' m' w' → pa kk f (B - 1) L Z cm cl (if L (B - 1) = 8 then dl - 1 else dl) (p_pop s (s 0 16 - 1)) w' → s 1 (s 0 16 - 1) = L (B - 1) → K none w') : ck_Ex (ch_C g A R) d mX12_emit [.inr (.inr 76), .inl o, .inl 0] w K := by
  obtain ⟨h1, h2, h3, h4, h5, h7, h9, h11⟩ := hy
  refine S_X12_emit hC (by omega) (by omega) (fun u b1 b2 b3 b4 b5 => h u b1 b3 ⟨?_, ?_, ?_, ?_, ?_, ?_, ?_, ?_⟩ ?_ ?_)
  · rw [b3 19 (by decide), b3 20 (by decide)]; exact h1
  · rw [b3 19 (by decide), b3 20 (by decide), b3 21 (by decide)]; exact h2
  · rw [b3 22 (by decide)]; exact h3
  · rw [b3 16 (by decide), b3 24 (by decide)]; exact h4
  · rw [b4]; omega
  · rw [b4, b3 20 (by decide)]; omega
  · rw [b3 30 (by decide)]; exact h9
  · have te := tx_emit (t := w 79) (c := X + 50) (s := f) (wr := w 76 26) (o := o) (v := 0) h5.2
    rw [b5, b4, h4.2, te, h11]
    exact ho
  · obtain ⟨g1, ⟨g2, g3⟩, g4, g5, g6⟩ := hA
    have top : s 1 (s 0 16 - 1) = L (B - 1) := by rw [g4]; exact g5 _ (by omega) (by omega)
    refine ⟨⟨?_, ?_, ?_⟩, ⟨?_, ?_⟩, ?_, ?_, ?_⟩
    · rw [p_pop_0 (by decide) (by decide) (by decide)]; exact g1.1
    · rw [p_pop_0 (by decide) (by decide) (by decide)]; exact g1.2.1
    · rw [p_pop_0 (by decide) (by decide) (by decide)]; exact g1.2.2
    · unfold p_pop p_less
      rw [ck_up_nj (by decide), p_emit_0 (by decide), top, b3 30 (by decide)]
      by_cases x : L (B - 1) = 8
      · rw [if_pos (Or.inl x), ck_up_eq, if_pos x, g2]; omega
      · rw [if_neg (by omega), if_neg x, g2]
    · rw [p_pop_0 (by decide) (by decide) (by decide)]; exact g3
    · rw [p_pop_16, g4]
    · rw [p_pop_1]; exact fun i i0 i1 => g5 i i0 (by omega)
    · unfold p_pop
      refine pk_s (s := p_emit (p_less s (s 1 (s 0 16 - 1))) (20000 + s 1 (s 0 16 - 1))) (pk_emit (o := o) (v := 0) (pk_s g6 (p_less_0 (by decide)) (p_less_k (by decide))) (by omega) h5.2 (b3 24 (by decide)) b4 b5 ?_ (Or.inr ⟨n, m, by rw [h4.2, h11], hn⟩)) (ck_up_nj (by decide)) (ck_up_ne (by decide))
      rw [top]
      exact hc.symm
  · obtain ⟨g1, ⟨g2, g3⟩, g4, g5, g6⟩ := hA
    rw [g4]; exact g5 _ (by omega) (by omega)
