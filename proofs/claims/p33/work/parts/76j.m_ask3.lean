/-! ===== the reference's asks: the machine of 76a ===== -/
theorem kc_not : ck_Lor (ck_Lshl (ck_Lor (ck_Lshl 110 8) 111) 8) 116 = 7237492 := by decide +kernel
theorem kc_and : ck_Lor (ck_Lshl (ck_Lor (ck_Lshl 97 8) 110) 8) 100 = 6385252 := by decide +kernel
theorem kc_ink : ck_Lor (ck_Lshl (ck_Lor (ck_Lshl 105 8) 110) 8) 107 = 6909547 := by decide +kernel
theorem kc_bare : ck_Lor (ck_Lshl (ck_Lor (ck_Lshl (ck_Lor (ck_Lshl 98 8) 97) 8) 114) 8) 101 = 1650553445 := by decide +kernel
/-- below an ask -/
def pO (B : Int) (L : Int → Int) : Prop := (0 ≤ B ∧ B ≤ 2) ∧ ∀ i, 0 ≤ i → i < B → L i = 6 ∨ L i = 7
def Ln (B : Int) (L : Int → Int) (i : Int) : Int := if i < B then L i else 8
theorem Ln_L {B a : Int} {L : Int → Int} (h : pO B L) (ha : 0 ≤ a ∧ a ≤ 8) : pL (B + a) (Ln B L) := by
  have hb := h.1
  refine ⟨by omega, fun i i0 i1 => ?_⟩
  unfold Ln
  by_cases x : i < B
  · rw [if_pos x]
    rcases h.2 i i0 x with e | e
    · rw [e]; decide
    · rw [e]; decide
  · rw [if_neg x]; decide
theorem pa_L {kk f B cm cl dl : Int} {L L' Z : Int → Int} {s u : ck_W} (h : pa kk f B L Z cm cl dl s u) (e : ∀ i, 0 ≤ i → i < B → L i = L' i) : pa kk f B L' Z cm cl dl s u :=
  ⟨h.1, h.2.1, h.2.2.1, fun i i0 i1 => (h.2.2.2.1 i i0 i1).trans (e i i0 i1), h.2.2.2.2⟩
/-- an operator more -/
theorem pa_op {kk f B cm cm' cl k : Int} {L Z : Int → Int} {s u : ck_W} (h : pa kk f B L Z cm cl 0 s u) (hB : 0 ≤ B ∧ B ≤ 63) (hc : cm' = if (9 ≤ k ∧ k ≤ 14) ∨ (¬ cm = 0 ∧ 15 ≤ k ∧ k ≤ 18) then 1 else 0) : pa kk f (B + 1) (fun i => if i = B then k else L i) Z cm' cl 0 (p_cmp (p_push s k) k) u := by
  obtain ⟨g1, ⟨g2, g3⟩, g4, g5, g6⟩ := h
  have z10 : p_push s k 0 10 = cm := by rw [p_push_0 (by decide)]; exact g1.1
  unfold p_cmp
  refine ⟨⟨?_, ?_, ?_⟩, ⟨?_, ?_⟩, ?_, ?_, ?_⟩
  · rw [ck_up_nj (by decide), ck_up_eq, z10]; exact hc.symm
  · rw [ck_up_nj (by decide), ck_up_nj (by decide), p_push_0 (by decide)]; exact g1.2.1
  · rw [ck_up_nj (by decide), ck_up_nj (by decide), p_push_0 (by decide)]; exact g1.2.2
  · rw [ck_up_nj (by decide), ck_up_nj (by decide), p_push_0 (by decide)]; exact g2
  · rw [ck_up_nj (by decide), ck_up_nj (by decide), p_push_0 (by decide)]; exact g3
  · rw [ck_up_nj (by decide), ck_up_nj (by decide)]
    unfold p_push
    rw [if_pos (by omega), ck_up_eq, g4]
  · intro i i0 i1
    rw [ck_up_ne (by decide), ck_up_ne (by decide)]
    unfold p_push
    rw [if_pos (by omega), ck_up_ne (by decide), ck_up_at, g4]
    dsimp only
    by_cases x : i = B
    · rw [if_pos x, if_pos x]
    · rw [if_neg x, if_neg x]; exact g5 i i0 (by omega)
  · refine pk_s g6 ?_ ?_
    · rw [ck_up_nj (by decide), ck_up_nj (by decide), p_push_0 (by decide)]
    · rw [ck_up_ne (by decide), ck_up_ne (by decide), p_push_2]
/-- a not more -/
theorem pa_not {kk f B cl : Int} {L Z : Int → Int} {s u u' : ck_W} (h : pa kk f B L Z 0 cl 0 s u) (hB : 0 ≤ B ∧ B ≤ 63) (hL : L B = 8) (e24 : u' 76 24 = u 76 24) (e26 : u' 76 26 = u 76 26) (e30 : u' 76 30 = u 76 30 + 1) (e79 : u' 79 = u 79) : pa kk f (B + 1) L Z 0 cl 0 (p_opn (p_push s 8) 8) u' := by
  obtain ⟨g1, ⟨g2, g3⟩, g4, g5, g6⟩ := h
  unfold p_opn
  rw [if_neg (show ¬ (8 : Int) = 19 by decide)]
  refine ⟨⟨?_, ?_, ?_⟩, ⟨?_, ?_⟩, ?_, ?_, ?_⟩
  · rw [ck_up_nj (by decide), ck_up_nj (by decide), p_push_0 (by decide)]; exact g1.1
  · rw [ck_up_nj (by decide), ck_up_nj (by decide), p_push_0 (by decide)]; exact g1.2.1
  · rw [ck_up_nj (by decide), ck_up_nj (by decide), p_push_0 (by decide)]; exact g1.2.2
  · rw [ck_up_nj (by decide), ck_up_eq, p_push_0 (by decide), g2, e30]; omega
  · rw [ck_up_nj (by decide), ck_up_nj (by decide), p_push_0 (by decide)]; exact g3
  · rw [ck_up_nj (by decide), ck_up_nj (by decide)]
    unfold p_push
    rw [if_pos (by omega), ck_up_eq, g4]
  · intro i i0 i1
    rw [ck_up_ne (by decide), ck_up_ne (by decide)]
    unfold p_push
    rw [if_pos (by omega), ck_up_ne (by decide), ck_up_at, g4]
    by_cases x : i = B
    · rw [if_pos x, x]; exact hL.symm
    · rw [if_neg x]; exact g5 i i0 (by omega)
  · refine pk_s (pk_u g6 e24 e26 e79) ?_ ?_
    · rw [ck_up_nj (by decide), ck_up_nj (by decide), p_push_0 (by decide)]
    · rw [ck_up_ne (by decide), ck_up_ne (by decide), p_push_2]
/-- at the beginning of an ask -/
def sQ (b : Int → Int) (s0 : ck_W) (kk f B cl : Int) (L Z : Int → Int) (u : ck_W) : Prop := ∃ s p, p_R b s0 p s ∧ tkn b p u ∧ s 0 9 = 1 ∧ pa kk f B L Z 0 cl 0 s u
theorem S2_asks105 {g : ch_G} {A R : Nat} (hC : ck_Cx g A R) {d : Nat} {K : Option ck_V → ck_W → Prop} {w : ck_W} {T X f E m kk B cl : Int} {b L Z : Int → Int} {s0 w0 : ck_W} (hT : 0 ≤ T ∧ T ≤ 300) (hX : 0 ≤ X ∧ X ≤ 2400) (hE : 0 ≤ kk ∧ kk ≤ E) (hm : 0 ≤ m) (hO : pO B L)
    (h : ∀ w', pr w0 w' → py T X f E 0 0 (m + 1) w' → w0 76 20 < w' 76 20 → sE 3 b s0 kk f B 1 cl L Z w' → K (some (.inl 0)) w') : ∀ (q : Nat) (a1 a4 : Int) (u s s' : ck_W) (p : Int), a1 - a4 = q → 0 ≤ a4 → (0 ≤ a1 ∧ a1 ≤ 8) → pr w0 u → w0 76 20 < u 76 20 → py T X f (E + (a1 - a4)) 0 0 (m + 1) u → p_R b s0 p s → tkn b p u → s 0 9 = 3 → ¬ (15 ≤ tk_k (u 76 21) (u 76 23) ∧ tk_k (u 76 21) (u 76 23) ≤ 18) → p_U s' 3 = p_U s 3 → pa kk f (B + (a1 - a4)) (Ln B L) Z 1 cl (a1 - a4) s' u → ck_At (ch_C g A R) (d + 6) mX12_asks K 105 [some (.inr (.inr 76)), some (.inl a1), none, none, some (.inl a4)] [] u := by
  intro q
  have hB0 := hO.1
  induction q with
  | zero =>
    intro a1 a4 u s s' p q1 q2 q3 q4 q5 q6 hR htk s9 nop eU hA
    refine r_X12_asks_105 hC ⟨fun _ => h u q4 (by rw [show E + (a1 - a4) = E by omega] at q6; exact q6) q5 ⟨s, p, hR, htk, s9, ?_, nop⟩, fun z => absurd (by omega) z⟩
    rw [show a1 - a4 = 0 by omega, show B + 0 = B by omega] at hA
    have st : p_U s' 3 = s' := by
      refine p_Ust ?_
      rw [hA.2.2.1]
      by_cases x : B ≤ 0
      · exact Or.inl x
      · rw [hA.2.2.2.1 _ (by omega) (by omega)]
        unfold Ln
        rw [if_pos (by omega)]
        rcases hO.2 (B - 1) (by omega) (by omega) with e | e
        · rw [e]; exact Or.inr (Or.inr (by decide))
        · rw [e]; exact Or.inr (Or.inr (by decide))
    rw [← eU, st]
    exact pa_L hA (fun i i0 i1 => by unfold Ln; rw [if_pos i1])
  | succ q ih =>
    intro a1 a4 u s s' p q1 q2 q3 q4 q5 q6 hR htk s9 nop eU hA
    have top : Ln B L (B + (a1 - a4) - 1) = 8 := by unfold Ln; rw [if_neg (by omega)]
    refine r_X12_asks_105 hC ⟨fun z => absurd z (by omega), fun _ => S2_emity hC hT hX (by omega) q6 (n' := 0) (m' := m + 1) ?_ (Or.inl ⟨by decide, rfl⟩) hA (by omega) (by rw [top]; decide) (by rw [top]; decide) (fun w' c1 c2 c3 c4 c5 => ⟨rfl, by constructor <;> omega, ih a1 (a4 + 1) w' s (p_pop s' (s' 0 16 - 1)) p (by omega) (by omega) q3 (pr_tr q4 c1) (by rw [c2 20 (by decide)]; exact q5) (by rw [show E + (a1 - a4) - 1 = E + (a1 - (a4 + 1)) by omega] at c3; exact c3) hR (tkn_c htk (fun j j0 j1 => c2 j (by omega))) s9 (by rw [c2 21 (by decide), c2 23 (by decide)]; exact nop) ?_ ?_⟩)⟩
    · unfold tx_eff
      rw [if_neg (by decide), if_neg (by decide), if_neg (by decide), if_neg (by decide), if_neg (by decide), if_pos rfl, if_pos (by dsimp only; omega)]
    · rw [← eU]
      rw [top] at c5
      exact (p_Upo (by rw [hA.2.2.1]; omega) (by rw [c5]; decide) (by rw [c5]; decide)).symm
    · rw [top, if_pos rfl, show B + (a1 - a4) - 1 = B + (a1 - (a4 + 1)) by omega, show a1 - a4 - 1 = a1 - (a4 + 1) by omega] at c4
      exact c4
theorem S2_X12_asks {g : ch_G} {A R : Nat} (hC : ck_Cx g A R) {d : Nat} {K : Option ck_V → ck_W → Prop} {w : ck_W} {T X f E m kk B cl : Int} {b L Z : Int → Int} {s0 : ck_W} (hT : 0 ≤ T ∧ T ≤ 300) (hX : 0 ≤ X ∧ X ≤ 2400) (hE : 0 ≤ kk ∧ kk ≤ E) (hm : 0 ≤ m) (hB : tp b w) (hO : pO B L) (hy : py T X f E 0 0 m w) (hS : sQ b s0 kk f B cl L Z w)
    (h : ∀ v w', pr w w' → (¬ v = 0 → ∃ z, p_O b 0 s0 v (w' 76 20) z) → (v = 0 → py T X f E 0 0 (m + 1) w' ∧ w 76 20 < w' 76 20 ∧ sE 3 b s0 kk f B 1 cl L Z w') → K (some (.inl v)) w') : ck_Ex (ch_C g A R) (d + 6) mX12_asks [.inr (.inr 76)] w K := by
  have hB0 := hO.1
  have l2 := S2_asks105 (K := K) (d := d) (w := w) (w0 := w) hC hT hX hE hm hO (fun w' a c e z => h 0 w' a (fun x => absurd rfl x) (fun _ => ⟨c, e, z⟩))
  have l1 : ∀ (q : Nat) (a1 : Int) (u : ck_W), 301 - u 76 20 ≤ q → (0 ≤ a1 ∧ a1 ≤ 8) → pr w u → w 76 20 ≤ u 76 20 → py T X f (E + a1) a1 0 m u → sQ b s0 kk f (B + a1) cl (Ln B L) Z u → ck_At (ch_C g A R) (d + 6) mX12_asks K 2 [some (.inr (.inr 76)), some (.inl a1), none, none, none] [] u := by
    intro q
    induction q with
    | zero => intro a1 u q1 q2 q3 q4 q5 q6; have := q5.1; omega
    | succ q ih =>
      intro a1 u q1 q2 q3 q4 q5 q6
      obtain ⟨h1, h2, h3, h4, h5, h7, h9, h11⟩ := id q5
      obtain ⟨s, p, hR, htk, s9, hA⟩ := q6
      have hBu := tp_pr hB q3
      have LL := Ln_L (a := a1) hO q2
      refine r_X12_asks_2 hC ⟨fun z => ?_, fun z => ?_⟩
      · rw [kc_not] at z
        have k8 := tk_8.mpr z
        obtain ⟨v, hl, -, -⟩ := htk
        rw [k8] at hl
        have cs : p_cs s 8 := Or.inr (Or.inl ⟨s9, rfl⟩)
        have s13 := hA.2.1.1
        refine ⟨fun z2 => ⟨by constructor <;> omega, by constructor <;> omega, ?_⟩, fun z2 => h 3 u q3 (fun _ => ⟨s, p_R_bad hR hl (p_f3 cs (by omega) ⟨by omega, Or.inr (Or.inl rfl), by omega⟩) (by decide)⟩) (fun e => absurd e (by decide))⟩
        have R1 := p_R_go hR hl (p_f0 (v := v) cs (by omega) (by omega) (by omega)) (by decide)
        have et : p_t s 8 v = p_opn (p_push s 8) 8 := by
          unfold p_t p_and
          rw [if_neg (by omega), if_neg (by omega), if_neg (by decide), if_neg (by decide), if_neg (show ¬ (8 : Int) = 16 by decide)]
        rw [et] at R1
        have A1 := pa_not (u' := ck_up u 76 30 (u 76 30 + 1)) hA (by omega) (by unfold Ln; rw [if_neg (by omega)]) (ck_up_nj (by decide)) (ck_up_nj (by decide)) ck_up_eq rfl
        have t9 : p_opn (p_push s 8) 8 0 9 = 1 := by
          unfold p_opn
          rw [ck_up_eq, if_pos rfl]
        generalize p_opn (p_push s 8) 8 = s1 at *
        refine S2_nexty hC hT (tp_c hBu (ck_up_nj (by decide)) rfl) (py_30 (N' := a1 + 1) q5 (v := u 76 30 + 1) (by omega)) (by rw [ck_up_nj (by decide)]; omega) (fun w' c1 c2 c3 c4 c5 c6 => ⟨rfl, ih (a1 + 1) w' ?_ ?_ (pr_tr (pr_tr q3 (pr_up (by omega) (by omega) (by omega))) c1) ?_ (by rw [show E + a1 + 1 = E + (a1 + 1) by omega] at c4; exact c4) ⟨s1, u 76 19, R1, ?_, t9, ?_⟩⟩)
        · rw [ck_up_nj (by decide)] at c5; omega
        · have := c4.2.2.2.2.2.2.1; omega
        · rw [ck_up_nj (by decide)] at c5; omega
        · rw [ck_up_nj (by decide)] at c6; exact c6
        · rw [show B + (a1 + 1) = B + a1 + 1 by omega]
          exact pa_u A1 (c2 24 (by omega)) (c2 26 (by omega)) (c2 30 (by omega)) (c3 79 (by decide))
      · rw [kc_not] at z
        have n8 : ¬ tk_k (u 76 21) (u 76 23) = 8 := fun y => z (tk_8.mp y)
        refine S2_X12_summed hC hT hX (by omega) (by omega) (by omega) hm hBu LL (Or.inl rfl) q5 ⟨s, p, hR, htk, Or.inr ⟨s9, n8⟩, hA⟩ (fun v w1 b1 bf b2 => ⟨_, rfl, fun _ => ⟨fun e => ?_, fun e => h v w1 (pr_tr q3 b1) bf (fun e' => absurd e' e)⟩⟩)
        obtain ⟨y1, y1b, s1, p1, R1, tk1, t9, A1, nop⟩ := b2 e
        clear hR htk s9 hA
        have hB1 := tp_pr hBu b1
        have nn : 0 ≤ s1 0 16 := p_U_nn (r := 5) (by rw [A1.2.2.1]; omega)
        have e10 : s1 0 10 = 0 := by have x := A1.1.1; rw [p_U_0 (by decide) (by decide) (by decide)] at x; exact x
        have e14 : s1 0 14 = 0 := by have x := A1.2.1.2; rw [p_U_0 (by decide) (by decide) (by decide)] at x; exact x
        obtain ⟨v1, hl, -, -⟩ := id tk1
        obtain ⟨kap, hk⟩ : ∃ kap, kap = tk_k (w1 76 21) (w1 76 23) := ⟨_, rfl⟩
        rw [← hk] at hl nop
        have cmp : ∀ v, (10 ≤ v ∧ v ≤ 15) → kap = v - 1 → ¬ w1 76 21 = 0 → ∃ v', some (.inl v : ck_V) = some (.inl v') ∧ (ck_i v' → (0 ≤ v' → ck_CN (ch_C g A R) (d + 5) mX12_nextToken [.inr (.inr 76)] w1 (fun w18 => ck_CI (ch_C g A R) (d + 5) mX12_summed [.inr (.inr 76)] w18 (fun v20 w19 => (v20 = 0 → ck_CN (ch_C g A R) (d + 5) mX12_emit [.inr (.inr 76), .inl v', .inl 0] w19 (fun w23 => ck_i ((w23 76 30) - a1) ∧ (ck_At (ch_C g A R) (d + 6) mX12_asks K 105 [some (.inr (.inr 76)), some (.inl a1), none, none, some (.inl 0)] [] (ck_up w23 76 30 ((w23 76 30) - a1))))) ∧ (¬ v20 = 0 → K (some (.inl v20)) w19)))) ∧ (¬ 0 ≤ v' → K (some (.inl 1)) w1)) := by
          intro v vb kv tk
          refine ⟨v, rfl, fun _ => ⟨fun _ => ?_, fun x => absurd (by omega) x⟩⟩
          have rk4 : ∀ k, 9 ≤ k ∧ k ≤ 14 → rk k = 4 := fun k hk' => by
            unfold rk
            rw [if_neg (by omega), if_neg (by omega), if_neg (by omega), if_neg (by omega), if_neg (by omega), if_neg (by omega), if_neg (by omega), if_neg (by omega), if_pos hk']
          have st : p_U s1 4 = p_U s1 5 := by
            rw [← p_UU (r := 4) (r' := 5) (by decide) nn]
            refine p_Ust ?_
            rw [A1.2.2.1]
            by_cases x : B + a1 ≤ 0
            · exact Or.inl x
            · rw [A1.2.2.2.1 _ (by omega) (by omega)]
              have q := LL.2 (B + a1 - 1) (by omega) (by omega)
              unfold Ln
              by_cases y : B + a1 - 1 < B
              · rw [if_pos y]
                rcases hO.2 (B + a1 - 1) (by omega) y with e | e
                · rw [e]; exact Or.inr (Or.inr (by decide))
                · rw [e]; exact Or.inr (Or.inr (by decide))
              · rw [if_neg y]; exact Or.inr (Or.inr (by decide))
          have cs : p_cs s1 kap := Or.inr (Or.inr (Or.inr ⟨t9, Or.inr (Or.inr (Or.inr ⟨by omega, e10, by omega, by omega⟩))⟩))
          have R2 := p_R_go R1 hl (p_f0 (v := v1) cs (by omega) (by omega) (by omega)) (by omega)
          have et : p_t s1 kap v1 = p_cmp (p_push (p_U s1 5) kap) kap := by
            unfold p_t p_tor
            rw [if_neg (by omega), if_pos t9, rk4 kap (by omega), st, if_neg (by omega), if_neg (by omega)]
          rw [et] at R2
          have A2 := pa_op (k := kap) (cm' := 1) A1 (by omega) (by rw [if_pos (Or.inl (by omega))])
          have u9 : p_cmp (p_push (p_U s1 5) kap) kap 0 9 = 2 := by
            unfold p_cmp
            rw [ck_up_eq, if_neg (by omega)]
          generalize p_cmp (p_push (p_U s1 5) kap) kap = s2 at *
          refine S2_nexty hC hT hB1 y1 tk (fun w2 c1 c2 c3 c4 c5 c6 => ⟨rfl, ?_⟩)
          have hB2 := tp_pr hB1 c1
          have L2 : pL (B + a1 + 1) (fun i => if i = B + a1 then kap else Ln B L i) := by
            refine ⟨by omega, fun i i0 i1 => ?_⟩
            dsimp only
            by_cases x : i = B + a1
            · rw [if_pos x, rk4 kap (by omega)]; omega
            · rw [if_neg x]; exact LL.2 i i0 (by omega)
          refine S2_X12_summed hC hT hX (by omega) (by omega) (by omega) hm hB2 L2 (Or.inr rfl) c4 ⟨s2, w1 76 19, R2, c6, Or.inl u9, pa_u A2 (c2 24 (by omega)) (c2 26 (by omega)) (c2 30 (by omega)) (c3 79 (by decide))⟩ (fun v2 w3 d1 df d2 => ⟨_, rfl, fun _ => ⟨fun e2 => ?_, fun e2 => h v2 w3 (pr_tr (pr_tr (pr_tr q3 b1) c1) d1) df (fun e' => absurd e' e2)⟩⟩)
          obtain ⟨y3, y3b, s3, p3, R3, tk3, t39, A3, nop3⟩ := d2 e2
          have top : (if B + a1 + 1 - 1 = B + a1 then kap else Ln B L (B + a1 + 1 - 1)) = kap := if_pos (by omega)
          have sc : scv v 0 = 20000 + kap := by
            unfold scv
            rw [if_neg (by omega), if_neg (by omega), if_neg (by omega), if_neg (by omega), if_pos (by omega)]
            omega
          refine S2_emity hC hT hX (by omega) y3 (n' := 0) (m' := m + 1) ?_ (Or.inr ⟨by omega, by omega, by decide⟩) A3 (by omega) (by rw [top]; exact sc) (by rw [top]; omega) (fun w4 f1 f2 f3 f4 f5 => ⟨rfl, ?_, ?_⟩)
          · unfold tx_eff
            rw [if_neg (by omega), if_neg (by omega), if_neg (by omega), if_neg (by omega), if_pos vb, if_pos (by dsimp only; omega)]
            dsimp only
            rw [show (0 : Int) + 1 + 1 - 2 = 0 by omega]
          · have := f3.2.2.2.2.2.2.1; constructor <;> omega
          · have f9 := f3.2.2.2.2.2.2.1
            have n3 : 0 ≤ s3 0 16 := p_U_nn (r := 5) (by rw [A3.2.2.1]; omega)
            rw [top] at f5
            rw [top, if_neg (by omega)] at f4
            have eU : p_U (p_pop (p_U s3 5) (p_U s3 5 0 16 - 1)) 3 = p_U s3 3 := by
              rw [← p_UU (r := 3) (r' := 5) (by decide) n3]
              exact (p_Upo (by rw [A3.2.2.1]; omega) (by rw [f5]; omega) (by rw [f5, rk4 kap (by omega)]; decide)).symm
            refine l2 a1.toNat a1 0 (ck_up w4 76 30 (w4 76 30 - a1)) s3 (p_pop (p_U s3 5) (p_U s3 5 0 16 - 1)) p3 (by omega) (by omega) (by omega) (pr_tr (pr_tr (pr_tr (pr_tr (pr_tr q3 b1) c1) d1) f1) (pr_up (by omega) (by omega) (by omega))) ?_ (py_30 (N := a1) ?_ (by omega)) R3 (tkn_c tk3 (fun j j0 j1 => by rw [ck_up_nj (by omega), f2 j (by omega)])) t39 (by rw [ck_up_nj (by decide), ck_up_nj (by decide), f2 21 (by decide), f2 23 (by decide)]; exact nop3) eU ?_
            · rw [ck_up_nj (by decide), f2 20 (by decide)]; omega
            · rw [show E + a1 + 1 - 1 = E + (a1 - 0) by omega] at f3; exact f3
            · obtain ⟨g1, ⟨g2, g3⟩, g4, g5, g6⟩ := f4
              refine ⟨g1, ⟨by rw [ck_up_eq, g2]; omega, g3⟩, by rw [g4]; omega, fun i i0 i1 => ?_, pk_u g6 (ck_up_nj (by decide)) (ck_up_nj (by decide)) rfl⟩
              rw [g5 i i0 (by omega)]
              exact if_neg (by omega)
        have kt : ∀ t k, w1 76 21 = t → (∀ x, tk_k t x = k) → kap = k := fun t k e q => by rw [hk, e]; exact q _
        refine e_X12_compareOf hC ?_
        have no : ¬ (9 ≤ kap ∧ kap ≤ 14) → ∃ v', some (.inl (-1) : ck_V) = some (.inl v') ∧ (ck_i v' → (0 ≤ v' → ck_CN (ch_C g A R) (d + 5) mX12_nextToken [.inr (.inr 76)] w1 (fun w18 => ck_CI (ch_C g A R) (d + 5) mX12_summed [.inr (.inr 76)] w18 (fun v20 w19 => (v20 = 0 → ck_CN (ch_C g A R) (d + 5) mX12_emit [.inr (.inr 76), .inl v', .inl 0] w19 (fun w23 => ck_i ((w23 76 30) - a1) ∧ (ck_At (ch_C g A R) (d + 6) mX12_asks K 105 [some (.inr (.inr 76)), some (.inl a1), none, none, some (.inl 0)] [] (ck_up w23 76 30 ((w23 76 30) - a1))))) ∧ (¬ v20 = 0 → K (some (.inl v20)) w19)))) ∧ (¬ 0 ≤ v' → K (some (.inl 1)) w1)) := fun nk => ⟨-1, rfl, fun _ => ⟨fun x => absurd x (by decide), fun _ => h 1 w1 (pr_tr q3 b1) (fun _ => ⟨s1, p_R_bad R1 hl (p_f1 (by unfold p_cs; omega)) (by decide)⟩) (fun e' => absurd e' (by decide))⟩⟩
        refine ⟨fun z60 => ⟨fun z4 => ⟨fun z62 => ⟨fun z5 => ⟨fun z61 => ⟨fun z35 => no (fun x => ?_), fun x => cmp 15 (by omega) (kt 35 14 x (fun _ => rfl)) (by omega)⟩, fun x => cmp 14 (by omega) (kt 61 13 x (fun _ => rfl)) (by omega)⟩, fun x => cmp 13 (by omega) (kt 5 12 x (fun _ => rfl)) (by omega)⟩, fun x => cmp 12 (by omega) (kt 62 11 x (fun _ => rfl)) (by omega)⟩, fun x => cmp 11 (by omega) (kt 4 10 x (fun _ => rfl)) (by omega)⟩, fun x => cmp 10 (by omega) (kt 60 9 x (fun _ => rfl)) (by omega)⟩
        have c : kap = 9 ∨ kap = 10 ∨ kap = 11 ∨ kap = 12 ∨ kap = 13 ∨ kap = 14 := by omega
        rcases c with c | c | c | c | c | c
        · exact z60 (tk_9.mp (hk.symm.trans c))
        · exact z4 (tk_10.mp (hk.symm.trans c))
        · exact z62 (tk_11.mp (hk.symm.trans c))
        · exact z5 (tk_12.mp (hk.symm.trans c))
        · exact z61 (tk_13.mp (hk.symm.trans c))
        · exact z35 (tk_14.mp (hk.symm.trans c))
  refine e_X12_asks hC (l1 301 0 w (by have := hy.1; omega) (by omega) pr_rf (Int.le_refl _) (by rw [show E + 0 = E by omega]; exact hy) ?_)
  obtain ⟨s, p, hR, htk, s9, hA⟩ := hS
  refine ⟨s, p, hR, htk, s9, ?_⟩
  rw [show B + 0 = B by omega]
  exact pa_L hA (fun i i0 i1 => by unfold Ln; rw [if_pos i1])
