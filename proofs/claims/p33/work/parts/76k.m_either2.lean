/-! ===== the reference's asks in a row: the machine of 76a ===== -/
def Le (a i : Int) : Int := if i < a then 6 else 7
theorem Le_O {a c : Int} (ha : a = 0 ∨ a = 1) (hc : c = 0 ∨ c = 1) : pO (a + c) (Le a) := by
  refine ⟨by omega, fun i i0 i1 => ?_⟩
  unfold Le
  split
  · exact Or.inl rfl
  · exact Or.inr rfl
theorem S2_X12_either {g : ch_G} {A R : Nat} (hC : ck_Cx g A R) {d : Nat} {K : Option ck_V → ck_W → Prop} {w : ck_W} {T X f kk cl : Int} {b Z : Int → Int} {s0 : ck_W} (hT : 0 ≤ T ∧ T ≤ 300) (hX : 0 ≤ X ∧ X ≤ 2400) (hk : 0 ≤ kk) (hB : tp b w) (hy : py T X f kk 0 0 0 w) (hS : sQ b s0 kk f 0 cl (Le 0) Z w)
    (h : ∀ v w', pr w w' → (¬ v = 0 → ∃ z, p_O b 0 s0 v (w' 76 20) z) → (v = 0 → py T X f kk 0 0 1 w' ∧ w 76 20 < w' 76 20 ∧ sE 1 b s0 kk f 0 1 cl (Le 0) Z w' ∧ ¬ tk_k (w' 76 21) (w' 76 23) = 6 ∧ ¬ tk_k (w' 76 21) (w' 76 23) = 7) → K (some (.inl v)) w') : ck_Ex (ch_C g A R) (d + 7) mX12_either [.inr (.inr 76)] w K := by
  have l : ∀ (q : Nat) (a1 a2 : Int) (u : ck_W), 301 - u 76 20 ≤ q → (a1 = 0 ∨ a1 = 1) → (a2 = 0 ∨ a2 = 1) → pr w u → w 76 20 ≤ u 76 20 → py T X f (kk + (a1 + a2)) 0 0 (a1 + a2) u → sQ b s0 kk f (a2 + a1) cl (Le a2) Z u → ck_At (ch_C g A R) (d + 7) mX12_either K 6 [some (.inr (.inr 76)), some (.inl a1), some (.inl a2), some (.inl 1), none, none] [] u := by
    intro q
    induction q with
    | zero => intro a1 a2 u q1 q2 q3 q4 q5 q6 q7; have := q6.1; omega
    | succ q ih =>
      intro a1 a2 u q1 q2 q3 q4 q5 q6 q7
      -- on to the next ask, or out; b1: and, b2: or, b3: more
      have l108 : ∀ (b1 b2 b3 : Int) (u' : ck_W), (b1 = 0 ∨ b1 = 1) → (b2 = 0 ∨ b2 = 1) → (b3 = 0 ∨ b3 = 1) → pr w u' → u 76 20 < u' 76 20 → (b3 = 1 → ¬ u' 76 21 = 0 ∧ py T X f (kk + (b1 + b2) - 1) 0 0 (b1 + b2) u' ∧ ∃ s, p_R b s0 (u' 76 19) s ∧ s 0 9 = 1 ∧ pa kk f (b2 + b1) (Le b2) Z 0 cl 0 s u') → (b3 = 0 → py T X f kk 0 0 1 u' ∧ sE 1 b s0 kk f 0 1 cl (Le 0) Z u' ∧ ¬ tk_k (u' 76 21) (u' 76 23) = 6 ∧ ¬ tk_k (u' 76 21) (u' 76 23) = 7) → ck_At (ch_C g A R) (d + 7) mX12_either K 108 [some (.inr (.inr 76)), some (.inl b1), some (.inl b2), some (.inl b3), none, none] [] u' := by
        intro b1 b2 b3 u' c1 c2 c3 c4 c5 c6 c7
        refine r_X12_either_108 hC ⟨fun z => ?_, fun z => ?_⟩
        · subst z
          obtain ⟨e1, e2⟩ := c7 rfl
          clear c6 c7
          exact r_X12_either_6 hC ⟨fun _ => h 0 u' c4 (fun x => absurd rfl x) (fun _ => ⟨e1, by omega, e2⟩), fun y => absurd rfl y⟩
        · have e3 := c3.resolve_left z
          subst e3
          obtain ⟨t1, t2, s, R, s9, A⟩ := c6 rfl
          clear c6 c7
          exact S2_nexty hC hT (tp_pr hB c4) t2 t1 (fun w' d1 d2 d3 d4 d5 d6 => ⟨rfl, ih b1 b2 w' (by omega) c1 c2 (pr_tr c4 d1) (by omega) (by rw [show kk + (b1 + b2) - 1 + 1 = kk + (b1 + b2) by omega] at d4; exact d4) ⟨s, u' 76 19, R, d6, s9, pa_u A (d2 24 (by omega)) (d2 26 (by omega)) (d2 30 (by omega)) (d3 79 (by decide))⟩⟩)
      -- b1: and, b5: or follows
      have l35 : ∀ u' : ck_W, pr w u' → u 76 20 < u' 76 20 → py T X f (kk + a2) 0 0 (a2 + 1) u' → sE 2 b s0 kk f a2 1 cl (Le a2) Z u' → ck_At (ch_C g A R) (d + 7) mX12_either K 35 [some (.inr (.inr 76)), none, some (.inl a2), none, none, none] [] u' := by
        intro u' c4 c5 c6 c7
        obtain ⟨s, p, hR, htk, s9, hA, nop⟩ := c7
        obtain ⟨v, hl, -, -⟩ := id htk
        have nn : 0 ≤ s 0 16 := p_U_nn (r := 2) (by rw [hA.2.2.1]; omega)
        have e10 : s 0 10 = 1 := by have x := hA.1.1; rw [p_U_0 (by decide) (by decide) (by decide)] at x; exact x
        have e14 : s 0 14 = 0 := by have x := hA.2.1.2; rw [p_U_0 (by decide) (by decide) (by decide)] at x; exact x
        have cs : ∀ k, k = 6 ∨ k = 7 → p_cs s k := fun k hk' => Or.inr (Or.inr (Or.inr ⟨s9, Or.inr (Or.inr (Or.inl ⟨by omega, by omega, by omega⟩))⟩))
        have pfo : ∀ k, k = 6 ∨ k = 7 → p_f s k v 0 := fun k hk' => p_f0 (cs k hk') (by omega) (by omega) (by omega)
        have ett : ∀ k, k = 6 ∨ k = 7 → p_t s k v = p_cmp (p_push (p_U s (rk k)) k) k := fun k hk' => by
          unfold p_t p_tor
          rw [if_neg (by omega), if_pos s9, if_neg (by omega), if_neg (by omega)]
        have nine : ∀ k (t : ck_W), k = 6 ∨ k = 7 → p_cmp t k 0 9 = 1 := fun k t hk' => by
          unfold p_cmp
          rw [ck_up_eq, if_pos hk']
        -- an and
        have and_ : tk_k (u' 76 21) (u' 76 23) = 7 → ¬ u' 76 21 = 0 → ck_At (ch_C g A R) (d + 7) mX12_either K 75 [some (.inr (.inr 76)), some (.inl 1), some (.inl a2), none, none, some (.inl 0)] [] u' := fun k7 tk => by
          rw [k7] at hl
          have R1 := p_R_go hR hl (pfo 7 (by omega)) (by decide)
          rw [ett 7 (by omega), show rk 7 = 2 from rfl] at R1
          have A1 := pa_op (k := 7) (cm' := 0) hA (by omega) (by rw [if_neg (by omega)])
          refine r_X12_either_75 hC ⟨fun z => ?_, fun z => absurd z (by decide)⟩
          refine r_X12_either_93 hC ⟨fun _ => l108 1 a2 1 u' (by omega) q3 (by omega) c4 c5 (fun _ => ⟨tk, by rw [show kk + (1 + a2) - 1 = kk + a2 by omega, show 1 + a2 = a2 + 1 by omega]; exact c6, _, R1, nine 7 _ (by omega), pa_L A1 (fun i i0 i1 => ?_)⟩) (fun x => by omega), fun y => absurd y (by decide)⟩
          by_cases x : i = a2
          · rw [if_pos x]
            unfold Le
            rw [if_neg (by omega)]
          · rw [if_neg x]
        -- no and: an or, or the end
        have oro : ∀ b5, (b5 = 0 ∨ b5 = 1) → (b5 = 1 → tk_k (u' 76 21) (u' 76 23) = 6) → (b5 = 0 → ¬ tk_k (u' 76 21) (u' 76 23) = 6) → ¬ tk_k (u' 76 21) (u' 76 23) = 7 → (b5 = 1 → ¬ u' 76 21 = 0) → ck_At (ch_C g A R) (d + 7) mX12_either K 75 [some (.inr (.inr 76)), some (.inl 0), some (.inl a2), none, none, some (.inl b5)] [] u' := by
          intro b5 e5 k6 n6 n7 tk
          have out : ∀ u2 : ck_W, pr w u2 → u 76 20 < u2 76 20 → (∀ j, 19 ≤ j → j ≤ 23 → u2 76 j = u' 76 j) → py T X f kk 0 0 1 u2 → pa kk f 0 (Le 0) Z 1 cl 0 (p_U s 1) u2 → ck_At (ch_C g A R) (d + 7) mX12_either K 93 [some (.inr (.inr 76)), some (.inl 0), some (.inl b5), none, none, some (.inl b5)] [] u2 := by
            intro u2 f1 f2 f3 f4 f5
            have g21 := f3 21 (by decide) (by decide)
            have g23 := f3 23 (by decide) (by decide)
            refine r_X12_either_93 hC ⟨fun y => absurd rfl y, fun _ => ⟨fun y => ?_, fun y => ?_⟩⟩
            · subst y
              refine l108 0 0 0 u2 (by omega) (by omega) (by omega) f1 f2 (fun x => by omega) (fun _ => ⟨f4, ⟨s, p, hR, tkn_c htk f3, s9, f5, by rw [g21, g23]; exact nop⟩, by rw [g21, g23]; exact n6 rfl, by rw [g21, g23]; exact n7⟩)
            · obtain rfl : b5 = 1 := by omega
              rw [k6 rfl] at hl
              have R1 := p_R_go hR hl (pfo 6 (by omega)) (by decide)
              rw [ett 6 (by omega), show rk 6 = 1 from rfl] at R1
              have A1 := pa_op (k := 6) (cm' := 0) f5 (by omega) (by rw [if_neg (by omega)])
              refine l108 0 1 1 u2 (by omega) (by omega) (by omega) f1 f2 (fun _ => ⟨by rw [g21]; exact tk rfl, by rw [show kk + ((0 : Int) + 1) - 1 = kk by omega, show (0 : Int) + 1 = 1 by omega]; exact f4, _, by rw [f3 19 (by decide) (by decide)]; exact R1, nine 6 _ (by omega), ?_⟩) (fun x => by omega)
              rw [show (1 : Int) + 0 = 0 + 1 by omega]
              refine pa_L A1 (fun i i0 i1 => ?_)
              rw [if_pos (by omega)]
              unfold Le
              rw [if_pos (by omega)]
          refine r_X12_either_75 hC ⟨fun z => absurd rfl z, fun _ => ⟨fun y => ?_, fun y => ?_⟩⟩
          · subst y
            have eU : p_U s 1 = p_U s 2 := by
              rw [← p_UU (r := 1) (r' := 2) (by decide) nn]
              exact p_Ust (Or.inl (by rw [hA.2.2.1]; decide))
            exact out u' c4 c5 (fun _ _ _ => rfl) (by rw [show (0 : Int) + 1 = 1 by omega, show kk + 0 = kk by omega] at c6; exact c6) (by rw [eU]; exact hA)
          · obtain rfl : a2 = 1 := by omega
            have top : Le 1 (1 - 1) = 6 := by decide
            refine S2_emity hC hT hX (by omega) c6 (n' := 0) (m' := 1) (by decide) (Or.inl ⟨by decide, rfl⟩) hA (by decide) (by decide) (by decide) (fun w' d1 d2 d3 d4 d5 => ⟨rfl, out w' (pr_tr c4 d1) (by rw [d2 20 (by decide)]; exact c5) (fun j j0 j1 => d2 j (by omega)) (by rw [show kk + 1 - 1 = kk by omega] at d3; exact d3) ?_⟩)
            rw [top] at d5
            rw [top, if_neg (by decide), show (1 : Int) - 1 = 0 by omega] at d4
            have eU : p_U s 1 = p_pop (p_U s 2) (p_U s 2 0 16 - 1) := by
              rw [← p_UU (r := 1) (r' := 2) (by decide) nn, p_Upo (by rw [hA.2.2.1]; decide) (by rw [d5]; decide) (by rw [d5]; decide)]
              exact p_Ust (Or.inl (by rw [d4.2.2.1]; decide))
            rw [eU]
            exact pa_L d4 (fun i i0 i1 => by omega)
        refine r_X12_either_35 hC ⟨fun z => ?_, fun z => ?_⟩
        · rw [kc_and] at z
          refine ⟨fun y => absurd z.1 y, fun _ => ⟨fun _ => and_ (tk_7.mpr z) (by omega), fun y => absurd (z.2.symm.trans y) (by decide)⟩⟩
        · rw [kc_and] at z
          have n7 : ¬ tk_k (u' 76 21) (u' 76 23) = 7 := fun y => z (tk_7.mp y)
          exact ⟨fun y => oro 0 (by omega) (fun x => by omega) (fun _ x => y (tk_6.mp x).1) n7 (fun x => by omega), fun t2 => ⟨fun y => oro 0 (by omega) (fun x => by omega) (fun _ x => y (tk_6.mp x).2) n7 (fun x => by omega), fun y => oro 1 (by omega) (fun _ => tk_6.mpr ⟨t2, y⟩) (fun x => by omega) n7 (fun _ => by omega)⟩⟩
      refine r_X12_either_6 hC ⟨fun z => absurd z (by decide), fun _ => ?_⟩
      refine S2_X12_asks hC hT hX (by omega) (by omega) (tp_pr hB q4) (Le_O q3 q2) q6 q7 (fun v w1 b1 bf b2 => ⟨_, rfl, fun _ => ⟨fun e => ⟨fun z => ?_, fun z => ?_⟩, fun e => h v w1 (pr_tr q4 b1) bf (fun e' => absurd e' e)⟩⟩)
      · subst z
        obtain ⟨y1, y2, s, p, hR, htk, s9, hA, nop⟩ := b2 e
        have nn : 0 ≤ s 0 16 := p_U_nn (r := 3) (by rw [hA.2.2.1]; omega)
        rw [show a2 + 0 = a2 by omega] at hA
        have eU : p_U s 2 = p_U s 3 := by
          rw [← p_UU (r := 2) (r' := 3) (by decide) nn]
          refine p_Ust ?_
          rw [hA.2.2.1]
          by_cases x : a2 ≤ 0
          · exact Or.inl x
          · rw [hA.2.2.2.1 _ (by omega) (by omega)]
            unfold Le
            rw [if_pos (by omega)]
            exact Or.inr (Or.inr (by decide))
        exact l35 w1 (pr_tr q4 b1) y2 (by rw [show 0 + a2 = a2 by omega] at y1; exact y1) ⟨s, p, hR, htk, s9, by rw [eU]; exact hA, nop⟩
      · obtain rfl : a1 = 1 := by omega
        obtain ⟨y1, y2, s, p, hR, htk, s9, hA, nop⟩ := b2 e
        have nn : 0 ≤ s 0 16 := p_U_nn (r := 3) (by rw [hA.2.2.1]; omega)
        have top : Le a2 (a2 + 1 - 1) = 7 := by unfold Le; rw [if_neg (by omega)]
        refine S2_emity hC hT hX (by omega) y1 (n' := 0) (m' := a2 + 1) ?_ (Or.inl ⟨by decide, rfl⟩) hA (by omega) (by rw [top]; decide) (by rw [top]; decide) (fun w' d1 d2 d3 d4 d5 => ⟨rfl, l35 w' (pr_tr (pr_tr q4 b1) d1) (by rw [d2 20 (by decide)]; exact y2) (by rw [show kk + (1 + a2) - 1 = kk + a2 by omega] at d3; exact d3) ⟨s, p, hR, tkn_c htk (fun j j0 j1 => d2 j (by omega)), s9, ?_, by rw [d2 21 (by decide), d2 23 (by decide)]; exact nop⟩⟩)
        · unfold tx_eff
          rw [if_neg (by decide), if_neg (by decide), if_neg (by decide), if_neg (by decide), if_neg (by decide), if_neg (by decide), if_pos (by decide), if_pos (by dsimp only; omega)]
          dsimp only
          rw [show 1 + a2 + 1 - 1 = a2 + 1 by omega]
        · rw [top] at d5
          rw [top, if_neg (by decide), show a2 + 1 - 1 = a2 by omega] at d4
          have eU : p_U s 2 = p_pop (p_U s 3) (p_U s 3 0 16 - 1) := by
            rw [← p_UU (r := 2) (r' := 3) (by decide) nn, p_Upo (by rw [hA.2.2.1]; omega) (by rw [d5]; decide) (by rw [d5]; decide)]
            refine p_Ust ?_
            rw [d4.2.2.1]
            by_cases x : a2 ≤ 0
            · exact Or.inl x
            · rw [d4.2.2.2.1 _ (by omega) (by omega)]
              unfold Le
              rw [if_pos (by omega)]
              exact Or.inr (Or.inr (by decide))
          rw [eU]
          exact d4
  exact e_X12_either hC (l 301 0 0 w (by have := hy.1; omega) (by omega) (by omega) pr_rf (Int.le_refl _) (by rw [show kk + ((0 : Int) + 0) = kk by omega, show (0 : Int) + 0 = 0 by omega]; exact hy) (by rw [show (0 : Int) + 0 = 0 by omega]; exact hS))
