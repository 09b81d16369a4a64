/-! ===== the reference: a slice wound, exact ===== -/
/-- the best of the first r radii, and how many -/
def rwb (t8 t9 : Int → Int) (p0 st : Int) : Nat → Int × Int
  | 0 => (-1, 0)
  | r + 1 => if ¬ (p0 < 0 ∨ p0 = (r : Int)) ∨ t8 (rm_x 0 (r : Int) st) < 0 ∨ t8 (rm_x 0 (r : Int) st) < (rwb t8 t9 p0 st r).1 then rwb t8 t9 p0 st r else (t8 (rm_x 0 (r : Int) st), (if t8 (rm_x 0 (r : Int) st) = (rwb t8 t9 p0 st r).1 then (rwb t8 t9 p0 st r).2 else 0) + t9 (rm_x 0 (r : Int) st))
def rm_w2 (A R : Nat) (w : ck_W) (z n : Int) (cp : Int → Int) (w' : ck_W) : Prop := ∃ v : ck_W, rm_ft R z n v ∧ rm_I A R v ∧ v 76 = w 76 ∧ v 77 = w 77 ∧ (∀ p, 0 ≤ p → p < n → v 87 p = cp p) ∧ w' 83 z = (rwb (v 80) (v 81) (v 87 0) ((w 76 2 - 1).tdiv 2) R).1 ∧ w' 84 z = min (rwb (v 80) (v 81) (v 87 0) ((w 76 2 - 1).tdiv 2) R).2 1000000 ∧ (0 ≤ w' 83 z → ∃ r0 rad code, ((0 ≤ r0 ∧ r0 < (R : Int)) ∧ ((v 87 0 < 0 ∨ v 87 0 = r0) ∧ v 80 (rm_x 0 r0 ((w 76 2 - 1).tdiv 2)) = w' 83 z) ∧ ∀ r, 0 ≤ r → r < r0 → ¬ ((v 87 0 < 0 ∨ v 87 0 = r) ∧ v 80 (rm_x 0 r ((w 76 2 - 1).tdiv 2)) = w' 83 z)) ∧ rm_gw v z n r0 rad code ∧ ∀ p, 0 ≤ p → p < n → w' 85 (24 * z + p) = rad p)
theorem S2_X12_wind {g : ch_G} {A R : Nat} (hC : ck_Cx g A R) {d : Nat} {K : Option ck_V → ck_W → Prop} {w : ck_W} {a1 : Int} {cp : Int → Int} (hI : rm_I A R w) (h1 : 0 ≤ a1 ∧ a1 ≤ 5) (hc1 : ∀ k, 0 ≤ k → k < w 77 1 → w 77 (900 + 3 * k) = a1 → cp (w 77 (900 + 3 * k + 1)) = w 77 (900 + 3 * k + 2)) (hc2 : ∀ p, 0 ≤ p → p < 24 → (∀ k, 0 ≤ k → k < w 77 1 → ¬ (w 77 (900 + 3 * k) = a1 ∧ w 77 (900 + 3 * k + 1) = p)) → cp p = -1)
    (h : ∀ w', rm_wf w w' → (∀ z, z ≠ a1 → w' 83 z = w 83 z ∧ w' 84 z = w 84 z) → (∀ j, j < 24 * a1 ∨ 24 * a1 + 24 ≤ j → w' 85 j = w 85 j ∧ w' 86 j = w 86 j) → rm_wd R (w 77 (10 + a1) * A) a1 w' → rm_w2 A R w a1 (w 77 (10 + a1) * A) cp w' → K none w') : ck_Ex (ch_C g A R) (d + 5) mX12_wind [.inr (.inr 76), .inl a1] w K := by
  have c := rm_cp hC hI
  have tb := rm_turn hI.2.2.2.1 h1.1 h1.2
  obtain ⟨n, en, n0, n1⟩ : ∃ n, n = w 77 (10 + a1) * (A : Int) ∧ 1 ≤ n ∧ n ≤ 24 := by
    refine ⟨_, rfl, ?_, ?_⟩
    · have := Int.mul_le_mul tb.1 (show (1 : Int) ≤ A by omega) (by decide) (by omega); omega
    · have := Int.mul_le_mul tb.2 (show (A : Int) ≤ 6 by omega) (by omega) (by decide); omega
  rw [← en] at h
  have f0 := rm_c0 hI.2.2.2.1
  -- the end: marks, then the best way
  have fin : ∀ (m : Nat) (a3 a5 : Int) (u : ck_W), (R : Int) - a5 = m → 0 ≤ a5 → (0 ≤ a3 ∧ a3 ≤ 1000) → rm_I A R u → rm_ft R a1 n u → rm_wf w u → (∀ z, z ≠ a1 → u 83 z = w 83 z ∧ u 84 z = w 84 z) → (u 83 a1 = a3 ∧ 0 ≤ u 84 a1 ∧ u 84 a1 ≤ 1000000) → (∀ j, j < 24 * a1 ∨ 24 * a1 + 24 ≤ j → u 85 j = w 85 j ∧ u 86 j = w 86 j) →
      (a3 = (rwb (u 80) (u 81) (u 87 0) ((w 76 2 - 1).tdiv 2) R).1 ∧ u 84 a1 = min (rwb (u 80) (u 81) (u 87 0) ((w 76 2 - 1).tdiv 2) R).2 1000000 ∧ ∀ p, 0 ≤ p → p < n → u 87 p = cp p) → (∀ r, 0 ≤ r → r < a5 → (u 87 0 < 0 ∨ u 87 0 = r) → u 80 (rm_x 0 r ((w 76 2 - 1).tdiv 2)) = a3 → u 82 (rm_x 0 r ((w 76 2 - 1).tdiv 2)) ≠ 0) → (∀ r, 0 ≤ r → r < (R : Int) → u 82 (rm_x 0 r ((w 76 2 - 1).tdiv 2)) ≠ 0 → r < a5 ∧ (u 87 0 < 0 ∨ u 87 0 = r) ∧ u 80 (rm_x 0 r ((w 76 2 - 1).tdiv 2)) = a3) → ((∃ r, 0 ≤ r ∧ r < a5 ∧ u 82 (rm_x 0 r ((w 76 2 - 1).tdiv 2)) ≠ 0) ∨ ∃ r, a5 ≤ r ∧ r < (R : Int) ∧ (u 87 0 < 0 ∨ u 87 0 = r) ∧ u 80 (rm_x 0 r ((w 76 2 - 1).tdiv 2)) = a3) →
      ck_At (ch_C g A R) (d + 5) mX12_wind K 351 [some (.inr (.inr 76)), some (.inl a1), some (.inl n), some (.inl a3), none, some (.inl a5), none] [] u := by
    intro m
    have sb : 0 ≤ (w 76 2 - 1).tdiv 2 ∧ (w 76 2 - 1).tdiv 2 < w 76 2 := by
      rw [Int.tdiv_eq_ediv_of_nonneg (by omega)]; omega
    induction m with
    | zero =>
      intro a3 a5 u q1 q2 q3 q4 q5 q6 q7 q7b q8 qx qy q9 q10
      have u76 : u 76 = w 76 := q6 76 (by decide) (by decide) (by decide) (by decide) (by decide) (by decide) (by decide) (by decide)
      refine r_X12_wind_351 hC ⟨fun _ => ?_, fun z => absurd (by rw [u76]; omega) z⟩
      refine S_X12_markBest hC q4 h1 n1 q5 (fun w1 i1 i2 i3 => ⟨rfl, ?_⟩)
      have j76 := i1 76 (by decide) (by decide)
      have ro : ∀ r, 0 ≤ r → r < (R : Int) → w1 82 (rm_x 0 r ((w 76 2 - 1).tdiv 2)) = u 82 (rm_x 0 r ((w 76 2 - 1).tdiv 2)) := fun r a b => i2 _ (by unfold rm_x; omega)
      refine S2_X12_goBest hC (rm_I_c q4 j76 (i1 77 (by decide) (by decide)) (i1 78 (by decide) (by decide)) (i1 79 (by decide) (by decide))) h1 ⟨n0, n1⟩ (rm_ft_c hC q4 q5 j76 (i1 77 (by decide) (by decide)) (i1 87 (by decide) (by decide)) (i1 80 (by decide) (by decide)) (i1 81 (by decide) (by decide))) ?_ ?_ (fun w2 k1 k2 k3 k4 => ⟨rfl, ?_⟩)
      · intro r a b y
        rw [j76, u76] at y ⊢
        rw [ro r a b] at y
        rw [i1 80 (by decide) (by decide), (q9 r a b y).2.2]
        exact q3.1
      · rcases q10 with ⟨r, a, b, y⟩ | ⟨r, a, b, y⟩
        · exact ⟨r, a, by omega, by rw [j76, u76, ro r a (by omega)]; exact y⟩
        · omega
      · refine h w2 (fun k b1 b2 b3 b4 b5 b6 b7 b8 => by rw [k1 k b6, i1 k b3 b7, q6 k b1 b2 b3 b4 b5 b6 b7 b8]) (fun z hz => by rw [k1 83 (by decide), k1 84 (by decide), i1 83 (by decide) (by decide), i1 84 (by decide) (by decide)]; exact q7 z hz) (fun j hj => ⟨by rw [k2 j hj, i1 85 (by decide) (by decide)]; exact (q8 j hj).1, by rw [k1 86 (by decide), i3 j hj]; exact (q8 j hj).2⟩) ⟨?_, ?_, fun _ => k3⟩ ?_
        · rw [k1 83 (by decide), i1 83 (by decide) (by decide), q7b.1]; omega
        · rw [k1 84 (by decide), i1 84 (by decide) (by decide)]; exact q7b.2
        · have e80 := i1 80 (by decide) (by decide)
          have e81 := i1 81 (by decide) (by decide)
          have e87 := i1 87 (by decide) (by decide)
          have e83 : w2 83 a1 = a3 := by rw [k1 83 (by decide), i1 83 (by decide) (by decide), q7b.1]
          refine ⟨w1, rm_ft_c hC q4 q5 j76 (i1 77 (by decide) (by decide)) e87 e80 e81, rm_I_c q4 j76 (i1 77 (by decide) (by decide)) (i1 78 (by decide) (by decide)) (i1 79 (by decide) (by decide)), by rw [j76, u76], by rw [i1 77 (by decide) (by decide)]; exact q6 77 (by decide) (by decide) (by decide) (by decide) (by decide) (by decide) (by decide) (by decide), fun p p0 p1 => by rw [e87]; exact qx.2.2 p p0 p1, by rw [e83, e80, e81, e87]; exact qx.1, by rw [k1 84 (by decide), i1 84 (by decide) (by decide), e80, e81, e87]; exact qx.2.1, fun _ => ?_⟩
          obtain ⟨r0, rad, code, ⟨o1, o2, o3⟩, gw, pa⟩ := k4
          rw [j76, u76] at o2 o3
          rw [ro r0 o1.1 o1.2] at o2
          have f9 := q9 r0 o1.1 o1.2 o2
          refine ⟨r0, rad, code, ⟨o1, ⟨by rw [e87]; exact f9.2.1, by rw [e80, e83]; exact f9.2.2⟩, fun r a b y => ?_⟩, gw, pa⟩
          rw [e87, e80, e83] at y
          have z0 := o3 r a b
          rw [ro r a (by omega)] at z0
          exact qy r a (by omega) y.1 y.2 z0
    | succ m ih =>
      intro a3 a5 u q1 q2 q3 q4 q5 q6 q7 q7b q8 qx qy q9 q10
      have u76 : u 76 = w 76 := q6 76 (by decide) (by decide) (by decide) (by decide) (by decide) (by decide) (by decide) (by decide)
      -- not this one
      have no : ¬ ((u 87 0 < 0 ∨ u 87 0 = a5) ∧ u 80 (rm_x 0 a5 ((w 76 2 - 1).tdiv 2)) = a3) → ck_At (ch_C g A R) (d + 5) mX12_wind K 351 [some (.inr (.inr 76)), some (.inl a1), some (.inl n), some (.inl a3), none, some (.inl (a5 + 1)), none] [] u := fun y => by
        refine ih a3 (a5 + 1) u (by omega) (by omega) q3 q4 q5 q6 q7 q7b q8 qx (fun r a b e f => by
          by_cases x : r = a5
          · subst x; exact absurd ⟨e, f⟩ y
          · exact qy r a (by omega) e f) (fun r a b e => ⟨by have := (q9 r a b e).1; omega, (q9 r a b e).2⟩) ?_
        rcases q10 with ⟨r, a, b, e⟩ | ⟨r, a, b, e, f⟩
        · exact Or.inl ⟨r, a, by omega, e⟩
        · by_cases x : r = a5
          · subst x; exact absurd ⟨e, f⟩ y
          · exact Or.inr ⟨r, by omega, b, e, f⟩
      -- this one
      have yes : (u 87 0 < 0 ∨ u 87 0 = a5) → u 80 (rm_x 0 a5 ((w 76 2 - 1).tdiv 2)) = a3 → ck_At (ch_C g A R) (d + 5) mX12_wind K 351 [some (.inr (.inr 76)), some (.inl a1), some (.inl n), some (.inl a3), none, some (.inl (a5 + 1)), none] [] (ck_up u 82 (rm_x 0 a5 ((w 76 2 - 1).tdiv 2)) 1) := fun yp y => by
        refine ih a3 (a5 + 1) _ (by omega) (by omega) q3 (rm_I_c q4 rfl rfl rfl rfl) (rm_ft_c hC q4 q5 rfl rfl rfl rfl rfl) (fun k b1 b2 b3 b4 b5 b6 b7 b8 => by rw [ck_up_ne b3]; exact q6 k b1 b2 b3 b4 b5 b6 b7 b8) q7 q7b q8 qx (fun r a b e f => ?_) (fun r a b e => ?_) (Or.inl ⟨a5, q2, by omega, by rw [ck_up_eq]; decide⟩)
        · by_cases x : r = a5
          · rw [x, ck_up_eq]; decide
          · rw [ck_up_nj (by unfold rm_x; omega)]; exact qy r a (by omega) e f
        by_cases x : r = a5
        · subst x; exact ⟨by omega, yp, y⟩
        · rw [ck_up_nj (by unfold rm_x; omega)] at e
          have := q9 r a b e
          exact ⟨by omega, this.2⟩
      refine r_X12_wind_351 hC ⟨fun z => absurd z (by rw [u76]; omega), fun _ => ?_⟩
      rw [u76]
      refine ⟨fun z => ⟨⟨by omega, by omega, by constructor <;> omega⟩, by constructor <;> omega, by omega, fun y => ⟨by constructor <;> omega, no (fun e => y e.2)⟩, fun y => ⟨by constructor <;> omega, yes (Or.inl z) y⟩⟩, fun z => ⟨fun y => ⟨by constructor <;> omega, no (fun e => by omega)⟩, fun y => ⟨⟨by omega, by omega, by constructor <;> omega⟩, by constructor <;> omega, by omega, fun y2 => ⟨by constructor <;> omega, no (fun e => y2 e.2)⟩, fun y2 => ⟨by constructor <;> omega, yes (Or.inr y) y2⟩⟩⟩⟩
  -- the slice's marks of what is sure, emptied
  have l8 : ∀ (m : Nat) (a3 a5 : Int) (u : ck_W), 24 - a5 = m → 0 ≤ a5 → (-1 ≤ a3 ∧ a3 ≤ 1000) → rm_I A R u → rm_ft R a1 n u → rm_wf w u → (∀ z, z ≠ a1 → u 83 z = w 83 z ∧ u 84 z = w 84 z) → (u 83 a1 = a3 ∧ 0 ≤ u 84 a1 ∧ u 84 a1 ≤ 1000000) → (∀ j, j < 24 * a1 ∨ 24 * a1 + 24 ≤ j → u 85 j = w 85 j ∧ u 86 j = w 86 j) →
      (a3 = (rwb (u 80) (u 81) (u 87 0) ((w 76 2 - 1).tdiv 2) R).1 ∧ u 84 a1 = min (rwb (u 80) (u 81) (u 87 0) ((w 76 2 - 1).tdiv 2) R).2 1000000 ∧ ∀ p, 0 ≤ p → p < n → u 87 p = cp p) → (∀ r, 0 ≤ r → r < (R : Int) → u 82 (rm_x 0 r ((w 76 2 - 1).tdiv 2)) = 0) → (0 ≤ a3 → ∃ r, 0 ≤ r ∧ r < (R : Int) ∧ (u 87 0 < 0 ∨ u 87 0 = r) ∧ u 80 (rm_x 0 r ((w 76 2 - 1).tdiv 2)) = a3) →
      ck_At (ch_C g A R) (d + 5) mX12_wind K 317 [some (.inr (.inr 76)), some (.inl a1), some (.inl n), some (.inl a3), none, some (.inl a5), none] [] u := by
    intro m
    induction m with
    | zero =>
      intro a3 a5 u q1 q2 q3 q4 q5 q6 q7 q7b q8 qx q9 q10
      refine r_X12_wind_317 hC ⟨fun _ => ⟨fun z => ?_, fun z => ?_⟩, fun z => absurd (by omega) z⟩
      · exact fin R a3 0 u (by omega) (by omega) ⟨z, q3.2⟩ q4 q5 q6 q7 q7b q8 qx (fun r a b e f => by omega) (fun r a b e => absurd (q9 r a b) e) (Or.inr (q10 z))
      · exact h u q6 q7 q8 ⟨by rw [q7b.1]; exact q3, q7b.2, fun e => by rw [q7b.1] at e; omega⟩ ⟨u, q5, q4, q6 76 (by decide) (by decide) (by decide) (by decide) (by decide) (by decide) (by decide) (by decide), q6 77 (by decide) (by decide) (by decide) (by decide) (by decide) (by decide) (by decide) (by decide), qx.2.2, by rw [q7b.1]; exact qx.1, qx.2.1, fun e => by rw [q7b.1] at e; omega⟩
    | succ m ih =>
      intro a3 a5 u q1 q2 q3 q4 q5 q6 q7 q7b q8 qx q9 q10
      refine r_X12_wind_317 hC ⟨fun z => absurd z (by omega), fun _ => ⟨by omega, by constructor <;> omega, ih a3 (a5 + 1) _ (by omega) (by omega) q3 (rm_I_c q4 rfl rfl rfl rfl) (rm_ft_c hC q4 q5 rfl rfl rfl rfl rfl) (fun k b1 b2 b3 b4 b5 b6 b7 b8 => by rw [ck_up_ne b7]; exact q6 k b1 b2 b3 b4 b5 b6 b7 b8) q7 q7b (fun j hj => ⟨(q8 j hj).1, by rw [ck_up_nj (by omega)]; exact (q8 j hj).2⟩) qx q9 q10⟩⟩
  -- the best of all first radii
  have l7 : ∀ (m : Nat) (a3 a4 a5 : Int) (u : ck_W), (R : Int) - a5 = m → 0 ≤ a5 → (-1 ≤ a3 ∧ a3 ≤ 1000) → (0 ≤ a4 ∧ a4 ≤ 1000000 * a5) → rm_I A R u → rm_ft R a1 n u → (∀ p r c, 0 ≤ p → p < n → 0 ≤ r → r < (R : Int) → 0 ≤ c → c < w 76 2 → u 82 (rm_x p r c) = 0) → (∀ k, k ≠ 80 → k ≠ 81 → k ≠ 82 → k ≠ 87 → u k = w k) → (∀ p, 0 ≤ p → p < n → u 87 p = cp p) → (a3, a4) = rwb (u 80) (u 81) (u 87 0) ((w 76 2 - 1).tdiv 2) a5.toNat →
      (0 ≤ a3 → ∃ r, 0 ≤ r ∧ r < (R : Int) ∧ (u 87 0 < 0 ∨ u 87 0 = r) ∧ u 80 (rm_x 0 r ((w 76 2 - 1).tdiv 2)) = a3) →
      ck_At (ch_C g A R) (d + 5) mX12_wind K 181 [some (.inr (.inr 76)), some (.inl a1), some (.inl n), some (.inl a3), some (.inl a4), some (.inl a5), none] [] u := by
    intro m
    have sb : 0 ≤ (w 76 2 - 1).tdiv 2 ∧ (w 76 2 - 1).tdiv 2 < w 76 2 := by
      rw [Int.tdiv_eq_ediv_of_nonneg (by omega)]; omega
    induction m with
    | zero =>
      intro a3 a4 a5 u q1 q2 q3 q4 q5 q6 q7 q8 qp qw q9
      have u76 : u 76 = w 76 := q8 76 (by decide) (by decide) (by decide) (by decide)
      have nx : ∀ v, 0 ≤ v → v ≤ 1000000 → v = min a4 1000000 → ck_At (ch_C g A R) (d + 5) mX12_wind K 317 [some (.inr (.inr 76)), some (.inl a1), some (.inl n), some (.inl a3), none, some (.inl 0), none] [] (ck_up (ck_up u 83 a1 a3) 84 a1 v) := fun v v0 v1 v2 => by
        refine l8 24 a3 0 _ (by omega) (by omega) q3 (rm_I_c q5 rfl rfl rfl rfl) (rm_ft_c hC q5 q6 rfl rfl rfl rfl rfl) (fun k b1 b2 b3 b4 b5 b6 b7 b8 => by rw [ck_up_ne b5, ck_up_ne b4]; exact q8 k b1 b2 b3 b8) (fun z hz => ⟨by rw [ck_up_ne (by decide), ck_up_nj hz, q8 83 (by decide) (by decide) (by decide) (by decide)], by rw [ck_up_nj hz, ck_up_ne (by decide), q8 84 (by decide) (by decide) (by decide) (by decide)]⟩) ⟨by rw [ck_up_ne (by decide), ck_up_eq], by rw [ck_up_eq]; omega, by rw [ck_up_eq]; omega⟩ (fun j _ => ⟨by rw [ck_up_ne (by decide), ck_up_ne (by decide), q8 85 (by decide) (by decide) (by decide) (by decide)], by rw [ck_up_ne (by decide), ck_up_ne (by decide), q8 86 (by decide) (by decide) (by decide) (by decide)]⟩) ⟨?_, ?_, qp⟩ (fun r a b => q7 0 r _ (by omega) (by omega) a b sb.1 sb.2) q9
        · rw [show a5.toNat = R by omega] at qw
          exact congrArg Prod.fst qw
        · rw [show a5.toNat = R by omega] at qw
          rw [ck_up_eq, v2]
          exact congrArg (fun z : Int × Int => min z.2 1000000) qw
      exact r_X12_wind_181 hC ⟨fun _ => ⟨by omega, fun z => nx a4 q4.1 z (by omega), fun z => nx 1000000 (by decide) (by decide) (by omega)⟩, fun z => absurd (by rw [u76]; omega) z⟩
    | succ m ih =>
      intro a3 a4 a5 u q1 q2 q3 q4 q5 q6 q7 q8 qp qw q9
      have u76 : u 76 = w 76 := q8 76 (by decide) (by decide) (by decide) (by decide)
      have en0 := q6 0 a5 _ (by omega) (by omega) q2 (by omega) sb.1 (by rw [u76]; exact sb.2)
      have e1 : (a5 + 1).toNat = a5.toNat + 1 := by omega
      have ec5 : ((a5.toNat : Nat) : Int) = a5 := by omega
      have no : (¬ (u 87 0 < 0 ∨ u 87 0 = a5) ∨ u 80 (rm_x 0 a5 ((w 76 2 - 1).tdiv 2)) < 0 ∨ u 80 (rm_x 0 a5 ((w 76 2 - 1).tdiv 2)) < a3) → ck_i (a5 + 1) ∧ ck_At (ch_C g A R) (d + 5) mX12_wind K 181 [some (.inr (.inr 76)), some (.inl a1), some (.inl n), some (.inl a3), some (.inl a4), some (.inl (a5 + 1)), none] [] u := fun hs => ⟨by constructor <;> omega, ih a3 a4 (a5 + 1) u (by omega) (by omega) q3 (by omega) q5 q6 q7 q8 qp (by rw [e1, rwb, ← qw, ec5]; dsimp only; rw [if_pos hs]) q9⟩
      have yes : (u 87 0 < 0 ∨ u 87 0 = a5) → ¬ u 80 (rm_x 0 a5 ((w 76 2 - 1).tdiv 2)) < 0 → a3 ≤ u 80 (rm_x 0 a5 ((w 76 2 - 1).tdiv 2)) → ∀ v, 0 ≤ v → v ≤ 1000000 * (a5 + 1) → v = (if u 80 (rm_x 0 a5 ((w 76 2 - 1).tdiv 2)) = a3 then a4 else 0) + u 81 (rm_x 0 a5 ((w 76 2 - 1).tdiv 2)) → ck_i (a5 + 1) ∧ ck_At (ch_C g A R) (d + 5) mX12_wind K 181 [some (.inr (.inr 76)), some (.inl a1), some (.inl n), some (.inl (u 80 (rm_x 0 a5 ((w 76 2 - 1).tdiv 2)))), some (.inl v), some (.inl (a5 + 1)), none] [] u := fun y1 y2 y3 v v0 v1 v2 => ⟨by constructor <;> omega, ih _ v (a5 + 1) u (by omega) (by omega) (by have := en0.2.1; omega) (by omega) q5 q6 q7 q8 qp (by
        rw [e1, rwb, ← qw, ec5]
        dsimp only
        rw [if_neg (fun z => by rcases z with z | z | z; exact z y1; exact y2 z; omega), v2]) (fun _ => ⟨a5, q2, by omega, y1, rfl⟩)⟩
      refine r_X12_wind_181 hC ⟨fun z => absurd z (by rw [u76]; omega), fun _ => ?_⟩
      rw [u76]
      refine ⟨⟨by omega, by omega, by constructor <;> omega⟩, by constructor <;> omega, fun x ex => ?_⟩
      obtain rfl : x = rm_x 0 a5 ((w 76 2 - 1).tdiv 2) := ex
      have xb : 0 ≤ rm_x 0 a5 ((w 76 2 - 1).tdiv 2) ∧ rm_x 0 a5 ((w 76 2 - 1).tdiv 2) < 70000 := by unfold rm_x; omega
      have e81 := en0.2.2
      have core : (u 87 0 < 0 ∨ u 87 0 = a5) → (0 ≤ rm_x 0 a5 ((w 76 2 - 1).tdiv 2) ∧ rm_x 0 a5 ((w 76 2 - 1).tdiv 2) < 70000) ∧ (((u 80 (rm_x 0 a5 ((w 76 2 - 1).tdiv 2))) < 0 → ck_i (a5 + 1) ∧ (ck_At (ch_C g A R) (d + 5) mX12_wind K 181 [some (.inr (.inr 76)), some (.inl a1), some (.inl n), some (.inl a3), some (.inl a4), some (.inl (a5 + 1)), none] [] u)) ∧ (¬ (u 80 (rm_x 0 a5 ((w 76 2 - 1).tdiv 2))) < 0 → (a3 ≤ (u 80 (rm_x 0 a5 ((w 76 2 - 1).tdiv 2))) → (¬ (u 80 (rm_x 0 a5 ((w 76 2 - 1).tdiv 2))) = a3 → ck_i (0 + (u 81 (rm_x 0 a5 ((w 76 2 - 1).tdiv 2)))) ∧ (ck_i (a5 + 1) ∧ (ck_At (ch_C g A R) (d + 5) mX12_wind K 181 [some (.inr (.inr 76)), some (.inl a1), some (.inl n), some (.inl (u 80 (rm_x 0 a5 ((w 76 2 - 1).tdiv 2)))), some (.inl (0 + (u 81 (rm_x 0 a5 ((w 76 2 - 1).tdiv 2))))), some (.inl (a5 + 1)), none] [] u))) ∧ ((u 80 (rm_x 0 a5 ((w 76 2 - 1).tdiv 2))) = a3 → ck_i (a4 + (u 81 (rm_x 0 a5 ((w 76 2 - 1).tdiv 2)))) ∧ (ck_i (a5 + 1) ∧ (ck_At (ch_C g A R) (d + 5) mX12_wind K 181 [some (.inr (.inr 76)), some (.inl a1), some (.inl n), some (.inl (u 80 (rm_x 0 a5 ((w 76 2 - 1).tdiv 2)))), some (.inl (a4 + (u 81 (rm_x 0 a5 ((w 76 2 - 1).tdiv 2))))), some (.inl (a5 + 1)), none] [] u)))) ∧ (¬ a3 ≤ (u 80 (rm_x 0 a5 ((w 76 2 - 1).tdiv 2))) → ck_i (a5 + 1) ∧ (ck_At (ch_C g A R) (d + 5) mX12_wind K 181 [some (.inr (.inr 76)), some (.inl a1), some (.inl n), some (.inl a3), some (.inl a4), some (.inl (a5 + 1)), none] [] u)))) := fun y1 =>
        ⟨xb, fun z => no (Or.inr (Or.inl z)), fun y2 => ⟨fun y3 => ⟨fun y4 => ⟨by constructor <;> omega, yes y1 y2 y3 _ (by omega) (by omega) (by rw [if_neg y4])⟩, fun y4 => ⟨by constructor <;> omega, yes y1 y2 y3 _ (by omega) (by omega) (by rw [if_pos y4])⟩⟩, fun y3 => no (Or.inr (Or.inr (by omega)))⟩⟩
      exact ⟨fun z => core (Or.inl z), fun z => ⟨fun y => no (Or.inl (fun x => by rcases x with x | x; exact z x; exact y x)), fun y => core (Or.inr y)⟩⟩
  -- the tables; v: the world with the pins told
  have tab : ∀ v : ck_W, (∀ k, k ≠ 87 → v k = w k) → (∀ p, 0 ≤ p → p < n → v 87 p = cp p) → ck_At (ch_C g A R) (d + 5) mX12_wind K 116 [some (.inr (.inr 76)), some (.inl a1), some (.inl n), some (.inl (n - 1)), none, none, none] [] v := by
    intro v hv hvp
    have hIv : rm_I A R v := rm_I_c hI (hv 76 (by decide)) (hv 77 (by decide)) (hv 78 (by decide)) (hv 79 (by decide))
    have v76 := hv 76 (by decide)
    have l6 : ∀ (m : Nat) (a3 a4 a5 : Int) (u : ck_W), w 76 2 - a5 = m → 0 ≤ a5 → (0 ≤ a3 ∧ a3 < n) → (0 ≤ a4 ∧ a4 < (R : Int)) → rm_dn R a1 n a3 a4 a5 v u → (∀ u', rm_dn R a1 n a3 a4 (w 76 2) v u' → ck_At (ch_C g A R) (d + 5) mX12_wind K 123 [some (.inr (.inr 76)), some (.inl a1), some (.inl n), some (.inl a3), some (.inl (a4 + 1)), none, none] [] u') → ck_At (ch_C g A R) (d + 5) mX12_wind K 135 [some (.inr (.inr 76)), some (.inl a1), some (.inl n), some (.inl a3), some (.inl a4), some (.inl a5), none] [] u := by
      intro m
      induction m with
      | zero =>
        intro a3 a4 a5 u q1 q2 q3 q4 q5 k
        have u76 := q5.1 76 (by decide) (by decide) (by decide)
        exact r_X12_wind_135 hC ⟨fun _ => ⟨by constructor <;> omega, k u (by rw [show w 76 2 = a5 by omega]; exact q5)⟩, fun z => absurd (by rw [u76, v76]; omega) z⟩
      | succ m ih =>
        intro a3 a4 a5 u q1 q2 q3 q4 q5 k
        have u76 := q5.1 76 (by decide) (by decide) (by decide)
        have hIu : rm_I A R u := rm_I_c hIv u76 (q5.1 77 (by decide) (by decide) (by decide)) (q5.1 78 (by decide) (by decide) (by decide)) (q5.1 79 (by decide) (by decide) (by decide))
        refine r_X12_wind_135 hC ⟨fun z => absurd z (by rw [u76, v76]; omega), fun _ => S_X12_windState hC hIu h1 (by omega) q4 (by rw [u76, v76]; omega) (fun e r c b1 b2 b3 b4 => ?_) (fun w' i1 i2 i3 i4 => ⟨rfl, by constructor <;> omega, ih _ _ _ _ (by omega) (by omega) q3 q4 (rm_dn_step hC hIv q5 h1 (by omega) q4 (by rw [v76]; omega) i1 i2 i3 i4) k⟩)⟩
        have := (q5.2 (a3 + 1) r c (by omega) (by omega) b1 b2 b3 (by rw [← u76]; exact b4) (by omega)).1.2
        omega
    have l5 : ∀ (m : Nat) (a3 a4 : Int) (u : ck_W), (R : Int) - a4 = m → 0 ≤ a4 → (0 ≤ a3 ∧ a3 < n) → rm_dn R a1 n a3 a4 0 v u → (∀ u', rm_dn R a1 n a3 (R : Int) 0 v u' → ck_At (ch_C g A R) (d + 5) mX12_wind K 116 [some (.inr (.inr 76)), some (.inl a1), some (.inl n), some (.inl (a3 + -1)), none, none, none] [] u') → ck_At (ch_C g A R) (d + 5) mX12_wind K 123 [some (.inr (.inr 76)), some (.inl a1), some (.inl n), some (.inl a3), some (.inl a4), none, none] [] u := by
      intro m
      induction m with
      | zero =>
        intro a3 a4 u q1 q2 q3 q5 k
        have u76 := q5.1 76 (by decide) (by decide) (by decide)
        exact r_X12_wind_123 hC ⟨fun _ => ⟨by constructor <;> omega, k u (by rw [show (R : Int) = a4 by omega]; exact q5)⟩, fun z => absurd (by rw [u76, v76]; omega) z⟩
      | succ m ih =>
        intro a3 a4 u q1 q2 q3 q5 k
        have u76 := q5.1 76 (by decide) (by decide) (by decide)
        exact r_X12_wind_123 hC ⟨fun z => absurd z (by rw [u76, v76]; omega), fun _ => l6 (w 76 2).toNat a3 a4 0 u (by omega) (by omega) q3 (by omega) q5 (fun u' hu => ih _ _ _ (by omega) (by omega) q3 ⟨hu.1, fun p' r' c' b1 b2 b3 b4 b5 b6 b7 => hu.2 p' r' c' b1 b2 b3 b4 b5 b6 (by rw [v76] at b6; omega)⟩ k)⟩
    have l4 : ∀ (m : Nat) (a3 : Int) (u : ck_W), a3 + 1 = m → a3 < n → rm_dn R a1 n a3 0 0 v u → ck_At (ch_C g A R) (d + 5) mX12_wind K 116 [some (.inr (.inr 76)), some (.inl a1), some (.inl n), some (.inl a3), none, none, none] [] u := by
      intro m
      induction m with
      | zero =>
        intro a3 u q1 q2 q5
        refine r_X12_wind_116 hC ⟨fun _ => ?_, fun z => absurd (by omega) z⟩
        have all : ∀ p r c, 0 ≤ p → p < n → 0 ≤ r → r < (R : Int) → 0 ≤ c → c < w 76 2 → rm_en u a1 n p r c ∧ u 82 (rm_x p r c) = 0 := fun p r c b1 b2 b3 b4 b5 b6 => q5.2 p r c b1 b2 b3 b4 b5 (by rw [v76]; exact b6) (by omega)
        have u76 := q5.1 76 (by decide) (by decide) (by decide)
        refine l7 R (-1) 0 0 u (by omega) (by omega) (by omega) (by omega) (rm_I_c hIv u76 (q5.1 77 (by decide) (by decide) (by decide)) (q5.1 78 (by decide) (by decide) (by decide)) (q5.1 79 (by decide) (by decide) (by decide))) (fun p r c b1 b2 b3 b4 b5 b6 => (all p r c b1 b2 b3 b4 b5 (by rw [u76, v76] at b6; exact b6)).1) (fun p r c b1 b2 b3 b4 b5 b6 => (all p r c b1 b2 b3 b4 b5 b6).2) (fun k b1 b2 b3 b4 => by rw [q5.1 k b1 b2 b3, hv k b4]) (fun p p0 p1 => by rw [q5.1 87 (by decide) (by decide) (by decide)]; exact hvp p p0 p1) rfl (fun e => by omega)
      | succ m ih =>
        intro a3 u q1 q2 q5
        refine r_X12_wind_116 hC ⟨fun z => absurd z (by omega), fun _ => l5 R a3 0 u (by omega) (by omega) (by omega) q5 (fun u' hu => ih _ _ (by omega) (by omega) ⟨hu.1, fun p' r' c' b1 b2 b3 b4 b5 b6 b7 => hu.2 p' r' c' b1 b2 b3 b4 b5 b6 (by omega)⟩)⟩
    exact l4 n.toNat (n - 1) v (by omega) (by omega) ⟨fun _ _ _ _ => rfl, fun p' r' c' b1 b2 b3 b4 b5 b6 b7 => by omega⟩
  -- the pins
  have l3 : ∀ (m : Nat) (a3 : Int) (u : ck_W), w 77 1 - a3 ≤ m → 0 ≤ a3 → (∀ k, k ≠ 87 → u k = w k) → (∀ p, 0 ≤ p → p < n → ((∃ k, (0 ≤ k ∧ k < a3) ∧ w 77 (900 + 3 * k) = a1 ∧ w 77 (900 + 3 * k + 1) = p) → u 87 p = cp p) ∧ ((∀ k, 0 ≤ k → k < a3 → ¬ (w 77 (900 + 3 * k) = a1 ∧ w 77 (900 + 3 * k + 1) = p)) → u 87 p = -1)) → ck_At (ch_C g A R) (d + 5) mX12_wind K 29 [some (.inr (.inr 76)), some (.inl a1), some (.inl n), some (.inl a3), none, none, none] [] u := by
    have fin3 : ∀ (a3 : Int) (u : ck_W), w 77 1 ≤ a3 → (∀ p, 0 ≤ p → p < n → ((∃ k, (0 ≤ k ∧ k < a3) ∧ w 77 (900 + 3 * k) = a1 ∧ w 77 (900 + 3 * k + 1) = p) → u 87 p = cp p) ∧ ((∀ k, 0 ≤ k → k < a3 → ¬ (w 77 (900 + 3 * k) = a1 ∧ w 77 (900 + 3 * k + 1) = p)) → u 87 p = -1)) → ∀ p, 0 ≤ p → p < n → u 87 p = cp p := by
      intro a3 u g1 g2 p p0 p1
      by_cases y : ∃ k, (0 ≤ k ∧ k < w 77 1) ∧ w 77 (900 + 3 * k) = a1 ∧ w 77 (900 + 3 * k + 1) = p
      · obtain ⟨k, hk, hm⟩ := y
        exact (g2 p p0 p1).1 ⟨k, by omega, hm⟩
      · have no : ∀ k, 0 ≤ k → k < w 77 1 → ¬ (w 77 (900 + 3 * k) = a1 ∧ w 77 (900 + 3 * k + 1) = p) := fun k b1 b2 b3 => y ⟨k, ⟨b1, b2⟩, b3⟩
        rw [hc2 p p0 (by omega) no]
        by_cases z : ∃ k, (0 ≤ k ∧ k < a3) ∧ w 77 (900 + 3 * k) = a1 ∧ w 77 (900 + 3 * k + 1) = p
        · rw [(g2 p p0 p1).1 z]; exact hc2 p p0 (by omega) no
        · exact (g2 p p0 p1).2 (fun k b1 b2 b3 => z ⟨k, ⟨b1, b2⟩, b3⟩)
    -- one pin more that is none of this slice's places
    have skip : ∀ (a3 : Int) (u : ck_W), ¬ (w 77 (900 + 3 * a3) = a1 ∧ w 77 (900 + 3 * a3 + 1) < n) → 0 ≤ a3 → (∀ p, 0 ≤ p → p < n → ((∃ k, (0 ≤ k ∧ k < a3) ∧ w 77 (900 + 3 * k) = a1 ∧ w 77 (900 + 3 * k + 1) = p) → u 87 p = cp p) ∧ ((∀ k, 0 ≤ k → k < a3 → ¬ (w 77 (900 + 3 * k) = a1 ∧ w 77 (900 + 3 * k + 1) = p)) → u 87 p = -1)) → (∀ p, 0 ≤ p → p < n → ((∃ k, (0 ≤ k ∧ k < a3 + 1) ∧ w 77 (900 + 3 * k) = a1 ∧ w 77 (900 + 3 * k + 1) = p) → u 87 p = cp p) ∧ ((∀ k, 0 ≤ k → k < a3 + 1 → ¬ (w 77 (900 + 3 * k) = a1 ∧ w 77 (900 + 3 * k + 1) = p)) → u 87 p = -1)) := by
      intro a3 u g1 g0 g2 p p0 p1
      refine ⟨fun ⟨k, hk, hm⟩ => ?_, fun g => (g2 p p0 p1).2 (fun k b1 b2 => g k b1 (by omega))⟩
      by_cases e : k = a3
      · rw [e] at hm
        exact absurd ⟨hm.1, by omega⟩ g1
      · exact (g2 p p0 p1).1 ⟨k, by omega, hm⟩
    intro m
    induction m with
    | zero =>
      intro a3 u q1 q2 q3 q4
      have u77 := q3 77 (by decide)
      exact r_X12_wind_29 hC ⟨fun z => ⟨by constructor <;> omega, tab u q3 (fin3 a3 u (by rw [u77] at z; exact z) q4)⟩, fun z => absurd (by rw [u77]; omega) z⟩
    | succ m ih =>
      intro a3 u q1 q2 q3 q4
      have u77 := q3 77 (by decide)
      refine r_X12_wind_29 hC ⟨fun z => ⟨by constructor <;> omega, tab u q3 (fin3 a3 u (by rw [u77] at z; exact z) q4)⟩, fun z => ?_⟩
      rw [u77] at z ⊢
      have p1 := rm_pin1 hI.2.2.2.1 (k := a3) (by omega) (by omega)
      refine ⟨by omega, fun y1 => ⟨by constructor <;> omega, ih _ _ (by omega) (by omega) q3 (skip a3 u (fun x => y1 x.1) q2 q4)⟩, fun y1 => ⟨by omega, fun y2 => ⟨by constructor <;> omega, ih _ _ (by omega) (by omega) q3 (skip a3 u (fun x => by omega) q2 q4)⟩, fun y2 => ⟨by omega, by omega, by constructor <;> omega, ih _ _ (by omega) (by omega) (fun k hk => by rw [ck_up_ne hk, q3 k hk]) (fun p p0 p1 => ?_)⟩⟩⟩
      by_cases e : p = w 77 (900 + 3 * a3 + 1)
      · rw [e, ck_up_eq]
        exact ⟨fun _ => (hc1 a3 q2 (by omega) (by omega)).symm, fun g => absurd ⟨by omega, rfl⟩ (g a3 q2 (by omega))⟩
      · rw [ck_up_nj e]
        refine ⟨fun ⟨k, hk, hm⟩ => ?_, fun g => (q4 p p0 p1).2 (fun k b1 b2 => g k b1 (by omega))⟩
        by_cases e2 : k = a3
        · rw [e2] at hm
          exact absurd hm.2.symm e
        · exact (q4 p p0 p1).1 ⟨k, by omega, hm⟩
  have l2 : ∀ (m : Nat) (a3 : Int) (u : ck_W), 24 - a3 = m → 0 ≤ a3 → (∀ k, k ≠ 87 → u k = w k) → (∀ j, 0 ≤ j → j < a3 → u 87 j = -1) → ck_At (ch_C g A R) (d + 5) mX12_wind K 8 [some (.inr (.inr 76)), some (.inl a1), some (.inl n), some (.inl a3), none, none, none] [] u := by
    intro m
    induction m with
    | zero =>
      intro a3 u q1 q2 q3 q4
      exact r_X12_wind_8 hC ⟨fun _ => l3 20 0 u (by omega) (by omega) q3 (fun p p0 p1 => ⟨fun ⟨k, hk, _⟩ => by omega, fun _ => q4 p p0 (by omega)⟩), fun z => absurd (by omega) z⟩
    | succ m ih =>
      intro a3 u q1 q2 q3 q4
      refine r_X12_wind_8 hC ⟨fun z => absurd z (by omega), fun _ => ⟨by omega, by constructor <;> omega, ih _ _ (by omega) (by omega) (fun k hk => by rw [ck_up_ne hk, q3 k hk]) (fun j j0 j1 => ?_)⟩⟩
      by_cases e : j = a3
      · rw [e, ck_up_eq]
      · rw [ck_up_nj e]; exact q4 j j0 (by omega)
  refine e_X12_wind hC ⟨by omega, ?_, fun x ex => ?_⟩
  · rw [c.1, ← en]; constructor <;> omega
  · rw [c.1, ← en] at ex
    subst ex
    exact l2 24 0 w (by omega) (by omega) (fun _ _ => rfl) (fun j a b => by omega)
