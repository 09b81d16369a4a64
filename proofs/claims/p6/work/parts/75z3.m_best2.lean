/-! ===== the reference's best, exact ===== -/
theorem M2_best {g : ch_G} {A R : Nat} (hC : ck_Cx g A R) {d : Nat} {K : Option ck_V → ck_W → Prop} {w : ck_W} {a1 a2 : Int} {cp : Int → Int → Int} (hI : rm_I A R w) (hc : rm_cps w cp)
    (h1 : (0 ≤ a1 ∧ a1 ≤ 5) → ((0 ≤ a2 ∧ a2 ≤ 1) ∨ (100 ≤ a2 ∧ a2 < 100 + w 77 (10 + a1) * (A : Int)) ∨ (200 ≤ a2 ∧ a2 < 200 + w 77 (10 + a1) * (A : Int))) → ∀ w', rm_q w w' → rm_w2 A R w a1 (w 77 (10 + a1) * A) (cp a1) w' → rm_w3 A R w a1 (w 77 (10 + a1) * A) (cp a1) w' → 0 ≤ w' 83 a1 → ∀ v, v = (if a2 = 0 then w' 83 a1 else if a2 = 1 then w' 84 a1 else if a2 < 200 then w' 85 (24 * a1 + (a2 - 100)) else if ck_and (w' 86 (24 * a1 + (a2 - 200))) (w' 86 (24 * a1 + (a2 - 200)) - 1) = 0 then 1 else 0) → K (some (.inl v)) w')
    (h0 : ∀ w', rm_q w w' → ((0 ≤ a1 ∧ a1 ≤ 5) → ((0 ≤ a2 ∧ a2 ≤ 1) ∨ (100 ≤ a2 ∧ a2 < 100 + w 77 (10 + a1) * (A : Int)) ∨ (200 ≤ a2 ∧ a2 < 200 + w 77 (10 + a1) * (A : Int))) → rm_w2 A R w a1 (w 77 (10 + a1) * A) (cp a1) w' ∧ w' 83 a1 < 0) → K (some (.inl (-1))) w') : ck_Ex (ch_C g A R) (d + 6) mX12_best [.inr (.inr 76), .inl a1, .inl a2] w K := by
  have c := rm_cp hC hI
  have nn : (0 ≤ a1 ∧ a1 ≤ 5) → ((0 ≤ a2 ∧ a2 ≤ 1) ∨ (100 ≤ a2 ∧ a2 < 100 + w 77 (10 + a1) * (A : Int)) ∨ (200 ≤ a2 ∧ a2 < 200 + w 77 (10 + a1) * (A : Int))) → ck_At (ch_C g A R) (d + 6) mX12_best K 66 [some (.inr (.inr 76)), some (.inl a1), some (.inl a2), none, none, none] [] w := fun q1 q2 => by
    have pb := rm_pb hC hI q1.1 q1.2
    rw [c.1] at pb
    refine r_X12_best_66 hC (S3_X12_wind hC hI q1 (hc.1 a1) (fun p p0 p1 => hc.2 a1 p q1 p0 p1) (fun w' i1 i2 i3 i4 i5 i6 => ⟨rfl, ?_⟩))
    have qq := rm_q_wf i1
    refine ⟨by omega, fun z => ?_, fun z => h0 _ qq (fun _ _ => ⟨i5, by omega⟩)⟩
    have k := h1 q1 q2 w' qq i5 i6 z
    refine ⟨fun y => ⟨fun y2 => ⟨by omega, fun x ex => ?_⟩, fun y2 => ⟨by omega, k _ ?_⟩⟩, fun y => ⟨fun y2 => k _ ?_, fun y2 => k _ ?_⟩⟩
    · rw [show 24 * a1 + a2 - 200 = 24 * a1 + (a2 - 200) by omega] at ex
      refine ⟨fun y3 => k _ ?_, fun y3 => k _ ?_⟩
      · rw [if_neg (show ¬ a2 = 0 by omega), if_neg (show ¬ a2 = 1 by omega), if_neg (show ¬ a2 < 200 by omega), ← ex, if_neg y3]
      · rw [if_neg (show ¬ a2 = 0 by omega), if_neg (show ¬ a2 = 1 by omega), if_neg (show ¬ a2 < 200 by omega), ← ex, if_pos y3]
    · rw [if_neg (show ¬ a2 = 0 by omega), if_neg (show ¬ a2 = 1 by omega), if_pos (show a2 < 200 by omega), show 24 * a1 + a2 - 100 = 24 * a1 + (a2 - 100) by omega]
    · rw [if_neg y2, if_pos (show a2 = 1 by omega)]
    · rw [if_pos y2]
  refine e_X12_best hC ⟨fun q1 => ?_, fun q1 => h0 _ rm_q_rf (fun y => absurd y q1)⟩
  have pb := rm_pb hC hI q1.1 q1.2
  refine ⟨by omega, by constructor <;> omega, fun x ex => ?_⟩
  rw [c.1] at ex pb
  exact ⟨fun q2 => nn q1 (Or.inl q2), fun q3 => ⟨by constructor <;> omega, fun q2 => nn q1 (by omega), fun q4 => ⟨by constructor <;> omega, fun q2 => nn q1 (by omega), fun q5 => h0 _ rm_q_rf (fun _ y => by omega)⟩⟩⟩
