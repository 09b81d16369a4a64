/-! ===== the reference: about, fault, learnt, end, feed, exact ===== -/
def rs_ab (w : ck_W) (a1 : Int) : Int := if 10 ≤ a1 ∧ a1 ≤ 15 then w 77 (10 + a1 - 10) else if 20 ≤ a1 ∧ a1 ≤ 19 + w 77 0 then w 77 (1260 + a1 - 20) else if a1 = 0 then w 76 0 else if a1 = 1 then w 76 1 else if a1 = 2 then w 77 0 else if a1 = 3 then w 77 1 else if a1 = 4 then w 77 2 else if a1 = 5 then w 77 3 else if a1 = 6 then w 77 4 else if a1 = 7 then w 77 5 else if a1 = 8 then w 77 6 else if a1 = 9 then w 76 16 else -1
theorem M2_about {g : ch_G} {A R : Nat} (hC : ck_Cx g A R) {d : Nat} {K : Option ck_V → ck_W → Prop} {w : ck_W} {a1 : Int} (hI : rm_I A R w) (h : K (some (.inl (rs_ab w a1))) w) : ck_Ex (ch_C g A R) (d + 1) mX12_about [.inr (.inr 76), .inl a1] w K := by
  have c0 := rm_c0 hI.2.2.2.1
  unfold rs_ab at h
  refine e_X12_about hC ⟨fun q => ⟨by omega, by rw [if_pos q] at h; exact h⟩, fun q => ⟨by constructor <;> omega, fun q2 => ⟨by omega, by rw [if_neg q, if_pos q2] at h; exact h⟩, fun q2 => ?_⟩⟩
  rw [if_neg q, if_neg q2] at h
  clear c0 q q2
  with_reducible repeat' (first | apply And.intro | intro _)
  all_goals (refine K_of h ?_; repeat' split)
  all_goals first | rfl | omega
theorem M2_fault {g : ch_G} {A R : Nat} (hC : ck_Cx g A R) {d : Nat} {K : Option ck_V → ck_W → Prop} {w : ck_W} {a1 : Int} (h : K (some (.inl (if a1 = 0 then w 76 17 else if a1 = 1 then w 76 18 else -1))) w) : ck_Ex (ch_C g A R) d mX12_fault [.inr (.inr 76), .inl a1] w K := by
  refine e_X12_fault hC ⟨fun q => ⟨fun q2 => ?_, fun q2 => ?_⟩, fun q => ?_⟩
  · rw [if_neg q, if_neg q2] at h; exact h
  · rw [if_neg q, if_pos q2] at h; exact h
  · rw [if_pos q] at h; exact h
theorem M2_learnt {g : ch_G} {A R : Nat} (hC : ck_Cx g A R) {d : Nat} {K : Option ck_V → ck_W → Prop} {w : ck_W} {a1 a2 : Int} (hI : rm_I A R w) (h1 : (0 ≤ a1 ∧ a1 < w 77 0) ∧ (0 ≤ a2 ∧ a2 ≤ 15) → K (some (.inl 1)) (ck_up w 77 (1260 + a1) a2)) (h0 : ¬ ((0 ≤ a1 ∧ a1 < w 77 0) ∧ (0 ≤ a2 ∧ a2 ≤ 15)) → K (some (.inl 0)) w) : ck_Ex (ch_C g A R) (d + 2) mX12_learnt [.inr (.inr 76), .inl a1, .inl a2] w K := by
  have c0 := rm_c0 hI.2.2.2.1
  exact e_X12_learnt hC ⟨by omega, fun q => ⟨fun q2 => ⟨by omega, h1 ⟨by omega, q2⟩⟩, fun q2 => h0 (fun x => q2 x.2)⟩, fun q => h0 (fun x => q (by omega))⟩
theorem M2_end {g : ch_G} {A R : Nat} (hC : ck_Cx g A R) {d : Nat} {K : Option ck_V → ck_W → Prop} {w : ck_W} {a1 : Int} (h1 : 0 ≤ a1 ∧ a1 ≤ w 76 16 → K (some (.inl a1)) (ck_up w 76 16 a1)) (h0 : ¬ (0 ≤ a1 ∧ a1 ≤ w 76 16) → K (some (.inl (-1))) w) : ck_Ex (ch_C g A R) (d + 1) mX12_end [.inr (.inr 76), .inl a1] w K := e_X12_end hC ⟨h1, h0⟩
/-- a byte more on the reference's tape -/
def rs_by (w : ck_W) (a s : Int) : ck_W := ck_up (ck_up w 89 (w 76 16) (ck_and (ck_shr a s) 255)) 76 16 (w 76 16 + 1)
def rs_four (w : ck_W) (a : Int) : ck_W := rs_by (rs_by (rs_by (rs_by w a 24) a 16) a 8) a 0
theorem rs_by1 {w : ck_W} {a s : Int} : rs_by w a s 76 16 = w 76 16 + 1 := by unfold rs_by; rw [ck_up_eq]
theorem rs_four1 {w : ck_W} {a : Int} : rs_four w a 76 16 = w 76 16 + 4 := by unfold rs_four; rw [rs_by1, rs_by1, rs_by1, rs_by1]; omega
theorem rs_byI {A R : Nat} {w : ck_W} {a s : Int} (hI : rm_I A R w) (h : w 76 16 + 1 ≤ 300) : rm_I A R (rs_by w a s) := by
  have t0 := hI.2.2.2.2.2.2.1
  unfold rs_by
  refine rm_Itaped ?_ (by omega) (by omega)
  exact hI
theorem rs_fourI {A R : Nat} {w : ck_W} {a : Int} (hI : rm_I A R w) (h : w 76 16 + 4 ≤ 300) : rm_I A R (rs_four w a) := by
  unfold rs_four
  exact rs_byI (rs_byI (rs_byI (rs_byI hI (by omega)) (by rw [rs_by1]; omega)) (by rw [rs_by1, rs_by1]; omega)) (by rw [rs_by1, rs_by1, rs_by1]; omega)
theorem rs_fourf {w : ck_W} {a : Int} : (∀ j, j ≠ 16 → rs_four w a 76 j = w 76 j) ∧ ∀ k, k ≠ 76 → k ≠ 89 → rs_four w a k = w k := by
  refine ⟨fun j hj => ?_, fun k x y => ?_⟩
  · unfold rs_four rs_by
    simp [ck_up, hj]
  · unfold rs_four rs_by
    simp [ck_up, x, y]
theorem S2_by {g : ch_G} {A R : Nat} (hC : ck_Cx g A R) {d : Nat} {K : Option ck_V → ck_W → Prop} {w : ck_W} {a1 a2 : Int} (h2 : 0 ≤ a2 ∧ a2 ≤ 24) (ht : 0 ≤ w 76 16 ∧ w 76 16 < 300) (h : ck_At (ch_C g A R) d mX12_four K 3 [some (.inr (.inr 76)), some (.inl a1), some (.inl (a2 + (-8)))] [] (rs_by w a1 a2)) : ck_At (ch_C g A R) d mX12_four K 3 [some (.inr (.inr 76)), some (.inl a1), some (.inl a2)] [] w :=
  r_X12_four_3 hC ⟨fun q => absurd q (by omega), fun _ => ⟨ht, by constructor <;> omega, by constructor <;> omega, h⟩⟩
theorem S2_X12_four {g : ch_G} {A R : Nat} (hC : ck_Cx g A R) {d : Nat} {K : Option ck_V → ck_W → Prop} {w : ck_W} {a1 : Int} (ht : 0 ≤ w 76 16 ∧ w 76 16 + 4 ≤ 300) (h : K none (rs_four w a1)) : ck_Ex (ch_C g A R) d mX12_four [.inr (.inr 76), .inl a1] w K := by
  unfold rs_four at h
  refine e_X12_four hC (S2_by hC (by decide) (by omega) ?_)
  rw [show (24 : Int) + (-8) = 16 from rfl]
  refine S2_by hC (by decide) (by rw [rs_by1]; omega) ?_
  rw [show (16 : Int) + (-8) = 8 from rfl]
  refine S2_by hC (by decide) (by rw [rs_by1, rs_by1]; omega) ?_
  rw [show (8 : Int) + (-8) = 0 from rfl]
  refine S2_by hC (by decide) (by rw [rs_by1, rs_by1, rs_by1]; omega) ?_
  exact r_X12_four_3 hC ⟨fun _ => h, fun q => absurd (by decide) q⟩
theorem M2_feed {g : ch_G} {A R : Nat} (hC : ck_Cx g A R) {d : Nat} {K : Option ck_V → ck_W → Prop} {w : ck_W} {a1 a2 a3 a4 a5 : Int} (hI : rm_I A R w) (h1 : w 76 16 ≤ 280 → rm_I A R (rs_four (rs_four (rs_four (rs_four (rs_four w a1) a2) a3) a4) a5) → (∀ j, j ≠ 16 → (rs_four (rs_four (rs_four (rs_four (rs_four w a1) a2) a3) a4) a5) 76 j = w 76 j) → (∀ k, k ≠ 76 → k ≠ 89 → (rs_four (rs_four (rs_four (rs_four (rs_four w a1) a2) a3) a4) a5) k = w k) → K (some (.inl (w 76 16 + 20))) (rs_four (rs_four (rs_four (rs_four (rs_four w a1) a2) a3) a4) a5)) (h0 : ¬ w 76 16 ≤ 280 → K (some (.inl (-1))) w) : ck_Ex (ch_C g A R) (d + 1) mX12_feed [.inr (.inr 76), .inl a1, .inl a2, .inl a3, .inl a4, .inl a5] w K := by
  have t0 := hI.2.2.2.2.2.2.1
  have t1 := hI.2.2.2.2.2.2.2.1
  refine e_X12_feed hC ⟨by constructor <;> omega, fun q => ?_, fun q => h0 (by omega)⟩
  refine S2_X12_four hC (by omega) ⟨rfl, ?_⟩
  refine S2_X12_four hC (by rw [rs_four1]; omega) ⟨rfl, ?_⟩
  refine S2_X12_four hC (by rw [rs_four1, rs_four1]; omega) ⟨rfl, ?_⟩
  refine S2_X12_four hC (by rw [rs_four1, rs_four1, rs_four1]; omega) ⟨rfl, ?_⟩
  refine S2_X12_four hC (by rw [rs_four1, rs_four1, rs_four1, rs_four1]; omega) ⟨rfl, ?_⟩
  have k := h1 (by omega) (rs_fourI (rs_fourI (rs_fourI (rs_fourI (rs_fourI hI (by omega)) (by rw [rs_four1]; omega)) (by rw [rs_four1, rs_four1]; omega)) (by rw [rs_four1, rs_four1, rs_four1]; omega)) (by rw [rs_four1, rs_four1, rs_four1, rs_four1]; omega)) (fun j hj => by rw [rs_fourf.1 j hj, rs_fourf.1 j hj, rs_fourf.1 j hj, rs_fourf.1 j hj, rs_fourf.1 j hj]) (fun k x y => by rw [rs_fourf.2 k x y, rs_fourf.2 k x y, rs_fourf.2 k x y, rs_fourf.2 k x y, rs_fourf.2 k x y])
  refine K_of k ?_
  rw [rs_four1, rs_four1, rs_four1, rs_four1, rs_four1]
  omega
