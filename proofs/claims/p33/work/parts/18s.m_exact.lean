/-! ===== the reference: exact rows of grey, column, wound, jump, chances ===== -/
theorem M2_grey {g : ch_G} {A R : Nat} (hC : ck_Cx g A R) {d : Nat} {K : Option ck_V → ck_W → Prop} {w : ck_W} {a1 a2 a3 a4 a5 : Int} (hI : rm_I A R w)
    (h : ∀ v w', rm_I A R w' → rm_fr w w' → ((0 ≤ a1 ∧ a1 ≤ 5) ∧ (0 ≤ a2 ∧ a2 < (A : Int)) ∧ (0 ≤ a3 ∧ a3 < (R : Int)) ∧ (0 ≤ a4 ∧ a4 ≤ 9) ∧ (0 ≤ a5 ∧ a5 ≤ 9) → v = 1 ∧ w' 77 = rm_u (rm_u (w 77) (20 + (72 * a1 + 12 * a2 + a3)) a4) (460 + (72 * a1 + 12 * a2 + a3)) a5) → (¬ ((0 ≤ a1 ∧ a1 ≤ 5) ∧ (0 ≤ a2 ∧ a2 < (A : Int)) ∧ (0 ≤ a3 ∧ a3 < (R : Int)) ∧ (0 ≤ a4 ∧ a4 ≤ 9) ∧ (0 ≤ a5 ∧ a5 ≤ 9)) → v = 0 ∧ w' 77 = w 77) → w' 78 = w 78 → w' 76 = w 76 → K (some (.inl v)) w') :
    ck_Ex (ch_C g A R) (d + 2) mX12_grey [.inr (.inr 76), .inl a1, .inl a2, .inl a3, .inl a4, .inl a5] w K := by
  have hA := hI.1
  have hR := hI.2.1
  have c := hC.2
  have r0 : ∀ (q : ¬ ((0 ≤ a1 ∧ a1 ≤ 5) ∧ (0 ≤ a2 ∧ a2 < (A : Int)) ∧ (0 ≤ a3 ∧ a3 < (R : Int)) ∧ (0 ≤ a4 ∧ a4 ≤ 9) ∧ (0 ≤ a5 ∧ a5 ≤ 9))), K (some (.inl 0)) w := fun q => h 0 w hI rm_fr_rf (fun q' => absurd q' q) (fun _ => ⟨rfl, rfl⟩) rfl rfl
  refine e_X12_grey hC ?_
  with_reducible repeat' (first | apply And.intro | intro _)
  all_goals first | omega | exact r0 (by omega) | skip
  have b1 := rh_grey (A := A) (R := R) (j := 20 + (72 * a1 + 12 * a2 + a3)) (by omega) (by omega)
  have b2 := rh_grey (A := A) (R := R) (j := 460 + (72 * a1 + 12 * a2 + a3)) (by omega) (by omega)
  refine h 1 _ (rm_Ia (rm_Ia hI (rm_up hI.2.2.2.1 (by omega) (by omega) (by omega) (by omega) (by omega)) (by omega)) ?_ (by omega)) (rm_fr_up (rm_fr_up rm_fr_rf (by decide)) (by decide)) (fun _ => ⟨rfl, by rw [ck_up_row, ck_up_row]⟩) (fun q => absurd (by omega) q) rfl rfl
  rw [ck_up_row]; exact rm_up (rm_up hI.2.2.2.1 (by omega) (by omega) (by omega) (by omega) (by omega)) (by omega) (by omega) (by omega) (by omega) (by omega)
theorem M2_wound {g : ch_G} {A R : Nat} (hC : ck_Cx g A R) {d : Nat} {K : Option ck_V → ck_W → Prop} {w : ck_W} {a1 a2 : Int} (hI : rm_I A R w)
    (h : ∀ v w', rm_I A R w' → rm_fr w w' → ((0 ≤ a1 ∧ a1 ≤ 5) ∧ (1 ≤ a2 ∧ a2 ≤ 4) → v = 1 ∧ w' 77 = rm_u (w 77) (10 + a1) a2) → (¬ ((0 ≤ a1 ∧ a1 ≤ 5) ∧ (1 ≤ a2 ∧ a2 ≤ 4)) → v = 0 ∧ w' 77 = w 77) → w' 78 = w 78 → w' 76 = w 76 → K (some (.inl v)) w') :
    ck_Ex (ch_C g A R) (d + 2) mX12_wound [.inr (.inr 76), .inl a1, .inl a2] w K := by
  have r0 : ∀ (q : ¬ ((0 ≤ a1 ∧ a1 ≤ 5) ∧ (1 ≤ a2 ∧ a2 ≤ 4))), K (some (.inl 0)) w := fun q => h 0 w hI rm_fr_rf (fun q' => absurd q' q) (fun _ => ⟨rfl, rfl⟩) rfl rfl
  refine e_X12_wound hC ?_
  with_reducible repeat' (first | apply And.intro | intro _)
  all_goals first | omega | exact r0 (by omega) | skip
  have b1 := rh_turn (A := A) (R := R) (z := a1) (by omega) (by omega)
  exact h 1 _ (rm_Ia hI (rm_up hI.2.2.2.1 (by omega) (by omega) (by omega) (by omega) (by omega)) (by omega)) (rm_fr_up rm_fr_rf (by decide)) (fun _ => ⟨rfl, ck_up_row⟩) (fun q => absurd (by omega) q) rfl rfl
theorem M2_jump {g : ch_G} {A R : Nat} (hC : ck_Cx g A R) {d : Nat} {K : Option ck_V → ck_W → Prop} {w : ck_W} {a1 : Int} (hI : rm_I A R w)
    (h : ∀ v w', rm_I A R w' → rm_fr w w' → (0 ≤ a1 ∧ a1 ≤ 99 → v = 1 ∧ w' 77 = rm_u (w 77) 7 a1) → (¬ (0 ≤ a1 ∧ a1 ≤ 99) → v = 0 ∧ w' 77 = w 77) → w' 78 = w 78 → w' 76 = w 76 → K (some (.inl v)) w') :
    ck_Ex (ch_C g A R) (d + 1) mX12_jump [.inr (.inr 76), .inl a1] w K := by
  refine e_X12_jump hC ⟨fun q => ?_, fun q => h 0 w hI rm_fr_rf (fun q' => absurd q' q) (fun _ => ⟨rfl, rfl⟩) rfl rfl⟩
  exact h 1 _ (rm_Ia hI (rm_up hI.2.2.2.1 q (by omega) (by omega) (by omega) (by omega)) (by omega)) (rm_fr_up rm_fr_rf (by decide)) (fun _ => ⟨rfl, ck_up_row⟩) (fun q' => absurd q q') rfl rfl
theorem M2_chances {g : ch_G} {A R : Nat} (hC : ck_Cx g A R) {d : Nat} {K : Option ck_V → ck_W → Prop} {w : ck_W} {a1 a2 : Int} (hI : rm_I A R w)
    (h : ∀ v w', rm_I A R w' → rm_fr w w' → ((1 ≤ a1 ∧ a1 ≤ 3) ∧ (1 ≤ a2 ∧ a2 ≤ 3) → v = 1 ∧ w' 77 = rm_u (rm_u (w 77) 8 a1) 9 a2) → (¬ ((1 ≤ a1 ∧ a1 ≤ 3) ∧ (1 ≤ a2 ∧ a2 ≤ 3)) → v = 0 ∧ w' 77 = w 77) → w' 78 = w 78 → w' 76 = w 76 → K (some (.inl v)) w') :
    ck_Ex (ch_C g A R) (d + 1) mX12_chances [.inr (.inr 76), .inl a1, .inl a2] w K := by
  have r0 : ∀ (q : ¬ ((1 ≤ a1 ∧ a1 ≤ 3) ∧ (1 ≤ a2 ∧ a2 ≤ 3))), K (some (.inl 0)) w := fun q => h 0 w hI rm_fr_rf (fun q' => absurd q' q) (fun _ => ⟨rfl, rfl⟩) rfl rfl
  refine e_X12_chances hC ?_
  with_reducible repeat' (first | apply And.intro | intro _)
  all_goals first | omega | exact r0 (by omega) | skip
  have b8 : rm_lo 8 = 1 ∧ rm_hi A R 8 = 3 := ⟨rfl, rfl⟩
  have b9 : rm_lo 9 = 1 ∧ rm_hi A R 9 = 3 := ⟨rfl, rfl⟩
  refine h 1 _ (rm_Ib hI (fun k hk => by rw [ck_up_ne hk, ck_up_ne hk]) ?_ rfl) (rm_fr_up (rm_fr_up rm_fr_rf (by decide)) (by decide)) (fun _ => ⟨rfl, by rw [ck_up_row, ck_up_row]⟩) (fun q => absurd (by omega) q) rfl rfl
  rw [ck_up_row, ck_up_row]
  exact rm_up (rm_up hI.2.2.2.1 (by omega) (by omega) (by omega) (by omega) (by omega)) (by omega) (by omega) (by omega) (by omega) (by omega)
