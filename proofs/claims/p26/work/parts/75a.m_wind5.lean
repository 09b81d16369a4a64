/-! ===== the reference: the best way, exact ===== -/
/-- the way that goes on by the least change, place by place -/
def rm_gw (w : ck_W) (z n r0 : Int) (rad code : Int → Int) : Prop := rad 0 = r0 ∧ code 0 = (w 76 2 - 1).tdiv 2 ∧ ∀ p, 0 ≤ p → p + 1 < n → ∃ e, (-1 ≤ e ∧ e ≤ 1) ∧ rm_nx w z p (rad p) (code p) e ∧ (∀ e', -1 ≤ e' → e' < e → ¬ rm_nx w z p (rad p) (code p) e') ∧ rad (p + 1) = rad p + e ∧ code (p + 1) = rm_nc (w 76 2) (code p) e
theorem rm_gw_up {w : ck_W} {z n r0 e : Int} {rad code : Int → Int} (hn : 0 ≤ n) (h : rm_gw w z (n + 1) r0 rad code) (he : -1 ≤ e ∧ e ≤ 1) (hx : rm_nx w z n (rad n) (code n) e) (hm : ∀ e', -1 ≤ e' → e' < e → ¬ rm_nx w z n (rad n) (code n) e') : rm_gw w z (n + 1 + 1) r0 (fun q => if q = n + 1 then rad n + e else rad q) (fun q => if q = n + 1 then rm_nc (w 76 2) (code n) e else code q) := by
  obtain ⟨h1, h2, h3⟩ := h
  refine ⟨by dsimp only; rw [if_neg (by omega)]; exact h1, by dsimp only; rw [if_neg (by omega)]; exact h2, fun p p0 p1 => ?_⟩
  dsimp only
  by_cases q : p = n
  · subst q
    rw [if_neg (by omega), if_neg (by omega), if_pos rfl, if_pos rfl]
    exact ⟨e, he, hx, hm, rfl, rfl⟩
  · rw [if_neg (by omega), if_neg (by omega), if_neg (by omega), if_neg (by omega)]
    exact h3 p p0 (by omega)
theorem S2_X12_goBest {g : ch_G} {A R : Nat} (hC : ck_Cx g A R) {d : Nat} {K : Option ck_V → ck_W → Prop} {w : ck_W} {a1 a2 : Int} (hI : rm_I A R w) (h1 : 0 ≤ a1 ∧ a1 ≤ 5) (h2 : 1 ≤ a2 ∧ a2 ≤ 24) (hf : rm_ft R a1 a2 w) (hm : ∀ r, 0 ≤ r → r < (R : Int) → w 82 (rm_x 0 r ((w 76 2 - 1).tdiv 2)) ≠ 0 → 0 ≤ w 80 (rm_x 0 r ((w 76 2 - 1).tdiv 2))) (he : ∃ r, 0 ≤ r ∧ r < (R : Int) ∧ w 82 (rm_x 0 r ((w 76 2 - 1).tdiv 2)) ≠ 0)
    (h : ∀ w', (∀ k, k ≠ 85 → w' k = w k) → (∀ j, j < 24 * a1 ∨ 24 * a1 + 24 ≤ j → w' 85 j = w 85 j) → (∀ p, 0 ≤ p → p < a2 → 0 ≤ w' 85 (24 * a1 + p) ∧ w' 85 (24 * a1 + p) < (R : Int)) → (∃ r0 rad code, ((0 ≤ r0 ∧ r0 < (R : Int)) ∧ w 82 (rm_x 0 r0 ((w 76 2 - 1).tdiv 2)) ≠ 0 ∧ ∀ r, 0 ≤ r → r < r0 → w 82 (rm_x 0 r ((w 76 2 - 1).tdiv 2)) = 0) ∧ rm_gw w a1 a2 r0 rad code ∧ ∀ p, 0 ≤ p → p < a2 → w' 85 (24 * a1 + p) = rad p) → K none w') : ck_Ex (ch_C g A R) (d + 4) mX12_goBest [.inr (.inr 76), .inl a1, .inl a2] w K := by
  have c := rm_cp hC hI
  have sb : 0 ≤ (w 76 2 - 1).tdiv 2 ∧ (w 76 2 - 1).tdiv 2 < w 76 2 := by
    rw [Int.tdiv_eq_ediv_of_nonneg (by omega)]; omega
  have st : ∀ u : ck_W, (∀ k, k ≠ 85 → u k = w k) → rm_I A R u ∧ rm_ft R a1 a2 u := fun u e =>
    ⟨rm_I_c hI (e 76 (by decide)) (e 77 (by decide)) (e 78 (by decide)) (e 79 (by decide)), rm_ft_c hC hI hf (e 76 (by decide)) (e 77 (by decide)) (e 87 (by decide)) (e 80 (by decide)) (e 81 (by decide))⟩
  -- from a place on; n: places to come; b0: the first radius
  have l2 : ∀ (n : Nat) (b0 a3 a4 a5 : Int) (u : ck_W), ((0 ≤ b0 ∧ b0 < (R : Int)) ∧ w 82 (rm_x 0 b0 ((w 76 2 - 1).tdiv 2)) ≠ 0 ∧ ∀ r, 0 ≤ r → r < b0 → w 82 (rm_x 0 r ((w 76 2 - 1).tdiv 2)) = 0) → a2 - a5 = n → 0 ≤ a5 → a5 < a2 → (0 ≤ a3 ∧ a3 < (R : Int)) → (0 ≤ a4 ∧ a4 < w 76 2) → 0 ≤ w 80 (rm_x a5 a3 a4) → (∀ k, k ≠ 85 → u k = w k) → (∀ j, j < 24 * a1 ∨ 24 * a1 + 24 ≤ j → u 85 j = w 85 j) → (∀ p, 0 ≤ p → p < a5 → 0 ≤ u 85 (24 * a1 + p) ∧ u 85 (24 * a1 + p) < (R : Int)) → (∃ rad code, rm_gw w a1 (a5 + 1) b0 rad code ∧ rad a5 = a3 ∧ code a5 = a4 ∧ ∀ p, 0 ≤ p → p < a5 → u 85 (24 * a1 + p) = rad p) → ck_At (ch_C g A R) (d + 4) mX12_goBest K 34 [some (.inr (.inr 76)), some (.inl a1), some (.inl a2), some (.inl a3), some (.inl a4), some (.inl a5), none] [] u := by
    intro n
    induction n with
    | zero => intro b0 a3 a4 a5 u q0 q1 q2 q3; omega
    | succ n ih =>
      intro b0 a3 a4 a5 u q0 q1 q2 q3 q4 q5 q6 q7 q8 q9 q10
      obtain ⟨rad, code, w1, w2, w3, w4⟩ := q10
      have pl : ∀ p, 0 ≤ p → p < a5 + 1 → 0 ≤ (ck_up u 85 (24 * a1 + a5) a3) 85 (24 * a1 + p) ∧ (ck_up u 85 (24 * a1 + a5) a3) 85 (24 * a1 + p) < (R : Int) := fun p p0 p1 => by
        by_cases e : p = a5
        · subst e; rw [ck_up_eq]; exact q4
        · rw [ck_up_nj (by omega)]; exact q9 p p0 (by omega)
      have pr : ∀ p, 0 ≤ p → p < a5 + 1 → (ck_up u 85 (24 * a1 + a5) a3) 85 (24 * a1 + p) = rad p := fun p p0 p1 => by
        by_cases e : p = a5
        · subst e; rw [ck_up_eq]; exact w2.symm
        · rw [ck_up_nj (by omega)]; exact w4 p p0 (by omega)
      have k1 : ∀ k, k ≠ 85 → (ck_up u 85 (24 * a1 + a5) a3) k = w k := fun k k1 => by rw [ck_up_ne k1, q7 k k1]
      have k2 : ∀ j, j < 24 * a1 ∨ 24 * a1 + 24 ≤ j → (ck_up u 85 (24 * a1 + a5) a3) 85 j = w 85 j := fun j hj => by rw [ck_up_nj (by omega), q8 j hj]
      refine r_X12_goBest_34 hC ⟨fun z => absurd z (by omega), fun _ => ⟨by omega, by constructor <;> omega, fun z => ?_, fun z => h _ k1 k2 (fun p p0 p1 => pl p p0 (by omega)) ⟨b0, rad, code, q0, by rw [show a2 = a5 + 1 by omega]; exact w1, fun p p0 p1 => pr p p0 (by omega)⟩⟩⟩
      -- there is a change
      obtain ⟨I2, F2⟩ := st _ k1
      have en := hf a5 a3 a4 q2 q3 q4.1 q4.2 q5.1 q5.2
      obtain ⟨e, e1, e2, e3⟩ := rm_ws_src z (by rw [← en.1]; exact q6) (by rw [← en.1])
      have k76 := k1 76 (by decide)
      have nxe : ∀ e, rm_nx (ck_up u 85 (24 * a1 + a5) a3) a1 a5 a3 a4 e ↔ rm_nx w a1 a5 a3 a4 e := fun e => by
        unfold rm_nx rm_gr
        rw [k1 76 (by decide), k1 77 (by decide), k1 80 (by decide), k1 87 (by decide)]
      have nxt : ∀ a6, -1 ≤ a6 → a6 ≤ 1 → rm_nx w a1 a5 a3 a4 a6 → (∀ e', -1 ≤ e' → e' < a6 → ¬ rm_nx w a1 a5 a3 a4 e') → ∃ rad code, rm_gw w a1 (a5 + 1 + 1) b0 rad code ∧ rad (a5 + 1) = a3 + a6 ∧ code (a5 + 1) = rm_nc (w 76 2) a4 a6 ∧ ∀ p, 0 ≤ p → p < a5 + 1 → (ck_up u 85 (24 * a1 + a5) a3) 85 (24 * a1 + p) = rad p := by
        intro a6 b1 b2 hx hmn
        refine ⟨_, _, rm_gw_up q2 w1 ⟨b1, b2⟩ (by rw [w2, w3]; exact hx) (by rw [w2, w3]; exact hmn), ?_, ?_, fun p p0 p1 => ?_⟩
        · rw [if_pos rfl, w2]
        · rw [if_pos rfl, w3]
        · rw [if_neg (by omega)]; exact pr p p0 p1
      have l3 : ∀ (m : Nat) (a6 : Int), e - a6 = m → -1 ≤ a6 → (∀ e', -1 ≤ e' → e' < a6 → ¬ rm_nx w a1 a5 a3 a4 e') → ck_At (ch_C g A R) (d + 4) mX12_goBest K 65 [some (.inr (.inr 76)), some (.inl a1), some (.inl a2), some (.inl a3), some (.inl a4), some (.inl a5), some (.inl a6)] [] (ck_up u 85 (24 * a1 + a5) a3) := by
        intro m
        induction m with
        | zero =>
          intro a6 r1 r2 r3
          obtain rfl : a6 = e := by omega
          refine r_X12_goBest_65 hC (S_X12_isNext hC I2 h1 (by omega) q4 (by rw [k76]; exact q5) (by omega) (rm_ft_f F2 (by omega) (by omega) h2.2) (fun nx => ⟨_, rfl, fun _ => ⟨fun _ => ?_, fun y => absurd y (by decide)⟩⟩) (fun nx => absurd ((nxe _).mpr e3) nx))
          have gg := e3.1.1
          rw [k76]
          have nb : 0 ≤ (3 * a4 + a6 + 1).tmod (w 76 2) ∧ (3 * a4 + a6 + 1).tmod (w 76 2) < w 76 2 := rm_ncb (m := w 76 2) (c := a4) (e := a6) (by omega) (by omega)
          refine ⟨by constructor <;> omega, by constructor <;> omega, by omega, by constructor <;> omega, fun x ex => ⟨by constructor <;> omega, ?_⟩⟩
          subst ex
          exact ih _ _ _ _ _ q0 (by omega) (by omega) (by omega) (by omega) nb e3.2.1 k1 k2 pl (nxt a6 r2 (by omega) e3 r3)
        | succ m ih2 =>
          intro a6 r1 r2 r3
          refine r_X12_goBest_65 hC (S_X12_isNext hC I2 h1 (by omega) q4 (by rw [k76]; exact q5) (by omega) (rm_ft_f F2 (by omega) (by omega) h2.2) (fun nx => ⟨_, rfl, fun _ => ⟨fun _ => ?_, fun y => absurd y (by decide)⟩⟩) (fun nx => ⟨_, rfl, fun _ => ⟨fun y => absurd rfl y, fun _ => ⟨by constructor <;> omega, ih2 _ (by omega) (by omega) (fun e' b1 b2 => ?_)⟩⟩⟩))
          · have nx' := (nxe _).mp nx
            have gg := nx'.1.1
            rw [k76]
            have nb : 0 ≤ (3 * a4 + a6 + 1).tmod (w 76 2) ∧ (3 * a4 + a6 + 1).tmod (w 76 2) < w 76 2 := rm_ncb (m := w 76 2) (c := a4) (e := a6) (by omega) (by omega)
            refine ⟨by constructor <;> omega, by constructor <;> omega, by omega, by constructor <;> omega, fun x ex => ⟨by constructor <;> omega, ?_⟩⟩
            subst ex
            exact ih _ _ _ _ _ q0 (by omega) (by omega) (by omega) (by omega) nb nx'.2.1 k1 k2 pl (nxt a6 r2 (by omega) nx' r3)
          · by_cases y : e' = a6
            · rw [y]; exact fun z2 => nx ((nxe _).mpr z2)
            · exact r3 e' b1 (by omega)
      exact l3 (e + 1).toNat (-1) (by omega) (by omega) (fun e' b1 b2 => by omega)
  obtain ⟨r0, r1, r2, r3⟩ := he
  have l1 : ∀ (n : Nat) (a3 : Int), r0 - a3 = n → 0 ≤ a3 → (∀ r, 0 ≤ r → r < a3 → w 82 (rm_x 0 r ((w 76 2 - 1).tdiv 2)) = 0) → ck_At (ch_C g A R) (d + 4) mX12_goBest K 2 [some (.inr (.inr 76)), some (.inl a1), some (.inl a2), some (.inl a3), none, none, none] [] w := by
    intro n
    have go : ∀ a3, 0 ≤ a3 → a3 < (R : Int) → w 82 (rm_x 0 a3 ((w 76 2 - 1).tdiv 2)) ≠ 0 → (∀ r, 0 ≤ r → r < a3 → w 82 (rm_x 0 r ((w 76 2 - 1).tdiv 2)) = 0) → ck_At (ch_C g A R) (d + 4) mX12_goBest K 34 [some (.inr (.inr 76)), some (.inl a1), some (.inl a2), some (.inl a3), some (.inl ((w 76 2 - 1).tdiv 2)), some (.inl 0), none] [] w := fun a3 b1 b2 b3 b4 => l2 a2.toNat a3 _ _ _ _ ⟨⟨b1, b2⟩, b3, b4⟩ (by omega) (by omega) (by omega) ⟨b1, b2⟩ sb (hm a3 b1 b2 b3) (fun _ _ => rfl) (fun _ _ => rfl) (fun p p0 p1 => by omega) ⟨fun _ => a3, fun _ => (w 76 2 - 1).tdiv 2, ⟨rfl, rfl, fun p p0 p1 => by omega⟩, rfl, rfl, fun p p0 p1 => by omega⟩
    induction n with
    | zero =>
      intro a3 q1 q2 q3
      obtain rfl : a3 = r0 := by omega
      exact r_X12_goBest_2 hC ⟨⟨by omega, by omega, by constructor <;> omega⟩, by constructor <;> omega, by omega, fun z => go _ r1 r2 r3 q3, fun z => absurd z r3⟩
    | succ n ih =>
      intro a3 q1 q2 q3
      refine r_X12_goBest_2 hC ⟨⟨by omega, by omega, by constructor <;> omega⟩, by constructor <;> omega, by omega, fun z => go _ q2 (by omega) z q3, fun z => ⟨by constructor <;> omega, ih _ (by omega) (by omega) (fun r b1 b2 => ?_)⟩⟩
      by_cases y : r = a3
      · rw [y]; exact z
      · exact q3 r b1 (by omega)
  exact e_X12_goBest hC (l1 r0.toNat 0 (by omega) (by omega) (fun r b1 b2 => by omega))
