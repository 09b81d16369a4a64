/-! ===== the reference: column and seen, exact ===== -/
theorem ck_dg_s (x : Int) (n : Nat) : ck_dg (n + 1) x = ck_dg n (x / 10) := rfl
theorem M2_column {g : ch_G} {A R : Nat} (hC : ck_Cx g A R) {d : Nat} {K : Option ck_V → ck_W → Prop} {w : ck_W} {a1 a2 a3 : Int} (hI : rm_I A R w)
    (h : ∀ v w', rm_I A R w' → rm_fr w w' → ((0 ≤ a1 ∧ a1 ≤ 5) ∧ (0 ≤ a2 ∧ a2 < (A : Int)) ∧ (0 ≤ a3 ∧ a3 < ck_pw 10 (R : Int)) → v = 1 ∧ (∀ r, 0 ≤ r → r < (R : Int) → w' 77 (20 + (72 * a1 + 12 * a2 + r)) = ck_dg r.toNat a3) ∧ ∀ j, j < 20 + (72 * a1 + 12 * a2) ∨ 20 + (72 * a1 + 12 * a2) + (R : Int) ≤ j → w' 77 j = w 77 j) → (¬ ((0 ≤ a1 ∧ a1 ≤ 5) ∧ (0 ≤ a2 ∧ a2 < (A : Int)) ∧ (0 ≤ a3 ∧ a3 < ck_pw 10 (R : Int))) → v = 0 ∧ w' 77 = w 77) → w' 78 = w 78 → w' 76 = w 76 → K (some (.inl v)) w') :
    ck_Ex (ch_C g A R) (d + 2) mX12_column [.inr (.inr 76), .inl a1, .inl a2, .inr (.inl a3)] w K := by
  have hA := hI.1
  have hR := hI.2.1
  have c := hC.2
  have r0 : ∀ (q : ¬ ((0 ≤ a1 ∧ a1 ≤ 5) ∧ (0 ≤ a2 ∧ a2 < (A : Int)) ∧ (0 ≤ a3 ∧ a3 < ck_pw 10 (R : Int)))), K (some (.inl 0)) w := fun q => h 0 w hI rm_fr_rf (fun q' => absurd q' q) (fun _ => ⟨rfl, rfl⟩) rfl rfl
  have l2 : ∀ (n : Nat) (a7 a9 : Int) (u : ck_W), (R : Int) - a9 ≤ n → (0 ≤ a9 ∧ a9 ≤ (R : Int)) → (0 ≤ a7) → (a7 ≤ 1000000000000) → rm_I A R u → rm_fr w u → (∀ t : Nat, ck_dg t a7 = ck_dg (a9.toNat + t) a3) → (∀ r, 0 ≤ r → r < a9 → u 77 (20 + (72 * a1 + 12 * a2 + r)) = ck_dg r.toNat a3) → (∀ j, j < 20 + (72 * a1 + 12 * a2) ∨ 20 + (72 * a1 + 12 * a2) + a9 ≤ j → u 77 j = w 77 j) → u 78 = w 78 → u 76 = w 76 → (0 ≤ a1 ∧ a1 ≤ 5) ∧ (0 ≤ a2 ∧ a2 < (A : Int)) ∧ (0 ≤ a3 ∧ a3 < ck_pw 10 (R : Int)) → ck_At (ch_C g A R) (d + 2) mX12_column K 71 [some (.inr (.inr 76)), some (.inl a1), some (.inl a2), none, none, none, none, some (.inr (.inl a7)), none, some (.inl a9)] [] u := by
    intro n
    have fin : ∀ (a9 : Int) (u : ck_W), a9 = (R : Int) → rm_I A R u → rm_fr w u → (∀ r, 0 ≤ r → r < a9 → u 77 (20 + (72 * a1 + 12 * a2 + r)) = ck_dg r.toNat a3) → (∀ j, j < 20 + (72 * a1 + 12 * a2) ∨ 20 + (72 * a1 + 12 * a2) + a9 ≤ j → u 77 j = w 77 j) → u 78 = w 78 → u 76 = w 76 → (0 ≤ a1 ∧ a1 ≤ 5) ∧ (0 ≤ a2 ∧ a2 < (A : Int)) ∧ (0 ≤ a3 ∧ a3 < ck_pw 10 (R : Int)) → K (some (.inl 1)) u := fun a9 u e q4 q5 q6 q6b q7 q8 q9 => by
      subst e
      exact h 1 u q4 q5 (fun _ => ⟨rfl, q6, q6b⟩) (fun z => absurd q9 z) q7 q8
    induction n with
    | zero =>
      intro a7 a9 u q1 q2 q3 q3b q4 q5 qd q6 q6b q7 q8 q9
      have := q4.2.1
      exact r_X12_column_71 hC ⟨fun _ => fin a9 u (by omega) q4 q5 q6 q6b q7 q8 q9, fun z => absurd (by omega) z⟩
    | succ n ih =>
      intro a7 a9 u q1 q2 q3 q3b q4 q5 qd q6 q6b q7 q8 q9
      have hr := q4.2.1
      refine r_X12_column_71 hC ⟨fun _ => fin a9 u (by omega) q4 q5 q6 q6b q7 q8 q9, fun z => ?_⟩
      have t1 : a7.tmod 10 = a7 % 10 := Int.tmod_eq_emod_of_nonneg q3
      have t2 : a7.tdiv 10 = a7 / 10 := Int.tdiv_eq_ediv_of_nonneg q3
      rw [t1, t2]
      have b1 := rh_grey (A := A) (R := R) (j := 20 + (72 * a1 + 12 * a2 + a9)) (by omega) (by omega)
      refine ⟨by constructor <;> omega, by constructor <;> omega, by omega, by constructor <;> omega, by constructor <;> omega, ih _ _ _ (by omega) (by omega) (by omega) (by omega) (rm_Ia q4 (rm_up q4.2.2.2.1 (by omega) (by omega) (by omega) (by omega) (by omega)) (by omega)) (rm_fr_up q5 (by decide)) (fun t => ?_) (fun r r0 r1 => ?_) (fun j hj => by rw [ck_up_nj (by omega)]; exact q6b j (by omega)) q7 q8 q9⟩
      · have y := qd (t + 1)
        rw [ck_dg_s] at y
        rw [y, show (a9 + 1).toNat + t = a9.toNat + (t + 1) by omega]
      · by_cases e : r = a9
        · have y := qd 0
          rw [e, ck_up_eq, show a9.toNat = a9.toNat + 0 by omega, ← y]
          rfl
        · rw [ck_up_nj (by omega)]
          exact q6 r r0 (by omega)
  have l1 : ∀ (n : Nat) (a5 a7 : Int), (R : Int) - a7 ≤ n → 0 ≤ a7 → a7 ≤ (R : Int) → a5 = ck_pw 10 a7 → ck_At (ch_C g A R) (d + 2) mX12_column K 6 [some (.inr (.inr 76)), some (.inl a1), some (.inl a2), some (.inr (.inl a3)), none, some (.inr (.inl a5)), none, some (.inl a7), none, none] [] w := by
    have ex : ∀ a5 a7, a7 = (R : Int) → a5 = ck_pw 10 a7 → (0 ≤ a1 ∧ a1 ≤ 5 → ck_i ((w 76 0) - 1) ∧ ((0 ≤ a2 ∧ a2 ≤ ((w 76 0) - 1) → (a3 < 0 → K (some (.inl 0)) w) ∧ (¬ a3 < 0 → (a3 < a5 → ck_At (ch_C g A R) (d + 2) mX12_column K 71 [some (.inr (.inr 76)), some (.inl a1), some (.inl a2), none, none, none, none, some (.inr (.inl a3)), none, some (.inl 0)] [] w) ∧ (¬ a3 < a5 → K (some (.inl 0)) w))) ∧ (¬ (0 ≤ a2 ∧ a2 ≤ ((w 76 0) - 1)) → K (some (.inl 0)) w))) ∧ (¬ (0 ≤ a1 ∧ a1 ≤ 5) → K (some (.inl 0)) w) := by
      intro a5 a7 e7 e5
      rw [e7] at e5
      have pb := ck_pw_b (b := 10) (e := (R : Int)) (by decide) (by omega)
      have pr : (10 : Nat) ^ R ≤ 10 ^ 12 := Nat.pow_le_pow_right (by decide) (by omega)
      have pe : ck_pw 10 (R : Int) = ((10 ^ R : Nat) : Int) := by unfold ck_pw; simp
      have pc : (10 : Nat) ^ 12 = 1000000000000 := by decide
      refine ⟨fun z1 => ⟨by constructor <;> omega, fun z2 => ⟨fun z3 => r0 (by omega), fun z3 => ⟨fun z4 => ?_, fun z4 => r0 (by omega)⟩⟩, fun z2 => r0 (by omega)⟩, fun z1 => r0 (by omega)⟩
      exact l2 R a3 0 w (by omega) (by omega) (by omega) (by omega) hI rm_fr_rf (fun t => by rw [show (0 : Int).toNat + t = t by omega]) (fun r r0 r1 => by omega) (fun _ _ => rfl) rfl rfl (by omega)
    intro n
    induction n with
    | zero =>
      intro a5 a7 q1 q2 q3 q4
      exact r_X12_column_6 hC ⟨fun z => ex a5 a7 (by omega) q4, fun z => absurd (by omega) z⟩
    | succ n ih =>
      intro a5 a7 q1 q2 q3 q4
      refine r_X12_column_6 hC ⟨fun z => ex a5 a7 (by omega) q4, fun z => ?_⟩
      have e1 : a5 * 10 = ck_pw 10 (a7 + 1) := by rw [ck_pw_s q2, q4]
      have pb := ck_pw_b (b := 10) (e := a7 + 1) (by decide) (by omega)
      refine ⟨?_, by constructor <;> omega, ih _ _ (by omega) (by omega) (by omega) e1⟩
      rw [e1]; exact ⟨by omega, by omega⟩
  exact e_X12_column hC (l1 R 1 0 (by omega) (by omega) (by omega) ck_pw_0.symm)
/-- some letter of the reference is like a shape at so many bits -/
def rs_some (f : Int → Int) (m s : Int) : Prop := ∃ k, (0 ≤ k ∧ k < f 4) ∧ m ≤ 9 - ck_on 9 (ck_xor s (f (1270 + 2 * k)))
noncomputable def rs_st (f : Int → Int) (q m s : Int) : Int := cs_tm (rs_some f m s) (ck_pw q (ck_on 9 s) * ck_pw (10 - q) (9 - ck_on 9 s))
theorem M2_seen {g : ch_G} {A R : Nat} (hC : ck_Cx g A R) {d : Nat} {K : Option ck_V → ck_W → Prop} {w : ck_W} {a1 a2 : Int} (hI : rm_I A R w) (h1 : (0 ≤ a1 ∧ a1 ≤ 10) ∧ (0 ≤ a2 ∧ a2 ≤ 9) → K (some (.inl (ck_wr (cs_sm (rs_st (w 77) a1 a2) 512)))) w) (h0 : ¬ ((0 ≤ a1 ∧ a1 ≤ 10) ∧ (0 ≤ a2 ∧ a2 ≤ 9)) → K (some (.inl (-1))) w) : ck_Ex (ch_C g A R) (d + 1) mX12_seen [.inr (.inr 76), .inl a1, .inl a2] w K := by
  have f0 := rm_c0 hI.2.2.2.1
  refine e_X12_seen hC ⟨fun q1 => ⟨fun q2 => ?_, fun q2 => h0 (fun x => q2 x.2)⟩, fun q1 => h0 (fun x => q1 x.1)⟩
  have l : ∀ (m n : Nat) (a3 a5 : Int), 512 - a5 = m → a5 = n → (0 ≤ a3 ∧ a3 ≤ 1000000000 * a5) → a3 = cs_sm (rs_st (w 77) a1 a2) n → ck_At (ch_C g A R) (d + 1) mX12_seen K 27 [some (.inr (.inr 76)), some (.inl a1), some (.inl a2), some (.inr (.inl a3)), none, some (.inl a5), none, none] [] w := by
    intro m
    induction m with
    | zero =>
      intro n a3 a5 q3 q4 q5 q6
      have e : n = 512 := by omega
      rw [e] at q6
      have hh := h1 ⟨q1, q2⟩
      rw [← q6] at hh
      exact r_X12_seen_27 hC ⟨fun _ => hh, fun z => absurd (by omega) z⟩
    | succ m ih =>
      intro n a3 a5 q3 q4 q5 q6
      have ob := ck_onb (x := a5) (by omega) 9 (by decide)
      have tail : ∀ a6, (a6 = 0 → ¬ rs_some (w 77) a2 a5) → (¬ a6 = 0 → rs_some (w 77) a2 a5) → ck_At (ch_C g A R) (d + 1) mX12_seen K 96 [some (.inr (.inr 76)), some (.inl a1), some (.inl a2), some (.inr (.inl a3)), none, some (.inl a5), some (.inl a6), none] [] w := fun a6 s0 s1 => by
        have fb := ck_fitb (h := a1) (m := 10 - a1) (a := ck_on 9 a5) (n := 9) (top := 10) (by omega) (by omega) (by omega)
        rw [show ck_pw ((10 : Nat) : Int) 9 = 1000000000 by decide] at fb
        have p1 := (ck_pw_b (b := a1) (e := ck_on 9 a5) (by omega) (by omega)).1
        have p2 := (ck_pw_b (b := 10 - a1) (e := 9 - ck_on 9 a5) (by omega) (by omega)).1
        have pp := Int.mul_nonneg p1 p2
        refine r_X12_seen_96 hC ⟨fun z => ⟨by constructor <;> omega, ih (n + 1) _ _ (by omega) (by omega) (by omega) ?_⟩, fun z => ⟨by omega, by omega, by omega, by omega, by constructor <;> omega, by constructor <;> omega, by omega, by omega, by omega, fun x ex => ⟨by constructor <;> omega, by constructor <;> omega, ih (n + 1) _ _ (by omega) (by omega) (by omega) ?_⟩⟩⟩
        · have e : rs_st (w 77) a1 a2 a5 = 0 := cs_tm0 (s0 z)
          rw [cs_sm, ← q4, e, q6]; omega
        · have e : rs_st (w 77) a1 a2 a5 = ck_pw a1 (ck_on 9 a5) * ck_pw (10 - a1) (9 - ck_on 9 a5) := cs_tm1 (s1 z)
          rw [cs_sm, ← q4, e, ex, q6]
      have l2 : ∀ (m2 : Nat) (a6 a7 : Int), w 77 4 - a7 = m2 → 0 ≤ a7 → (a6 = 0 → ∀ k, 0 ≤ k → k < a7 → ¬ a2 ≤ 9 - ck_on 9 (ck_xor a5 (w 77 (1270 + 2 * k)))) → (¬ a6 = 0 → rs_some (w 77) a2 a5) → ck_At (ch_C g A R) (d + 1) mX12_seen K 41 [some (.inr (.inr 76)), some (.inl a1), some (.inl a2), some (.inr (.inl a3)), none, some (.inl a5), some (.inl a6), some (.inl a7)] [] w := by
        intro m2
        induction m2 with
        | zero =>
          intro a6 a7 b1 b2 s0 s1
          exact r_X12_seen_41 hC ⟨fun _ => tail a6 (fun z ⟨k, hk, hm⟩ => s0 z k hk.1 (by omega) hm) s1, fun z => absurd (by omega) z⟩
        | succ m2 ih2 =>
          intro a6 a7 b1 b2 s0 s1
          have l0 := rm_let0 hI.2.2.2.1 (k := a7) b2 (by omega)
          have xb := kb_xor9 (x := a5) (y := w 77 (1270 + 2 * a7)) (by omega) (by omega)
          have ob2 := ck_onb xb 9 (by decide)
          refine r_X12_seen_41 hC ⟨fun z => absurd z (by omega), fun _ => ⟨fun z => tail a6 (fun y => absurd y z) s1, fun z => ⟨by omega, xb, by constructor <;> omega, fun y => ⟨by constructor <;> omega, ih2 _ _ (by omega) (by omega) (fun _ k k0 k1 => ?_) (fun x => absurd rfl x)⟩, fun y => ⟨by constructor <;> omega, ih2 _ _ (by omega) (by omega) (fun x => absurd x (by decide)) (fun _ => ⟨a7, ⟨b2, by omega⟩, by omega⟩)⟩⟩⟩⟩
          by_cases e : k = a7
          · rw [e]; omega
          · exact s0 z k k0 (by omega)
      exact r_X12_seen_27 hC ⟨fun z => absurd z (by omega), fun _ => l2 (w 77 4).toNat 0 0 (by omega) (by omega) (fun _ k k0 k1 => by omega) (fun x => absurd rfl x)⟩
  exact l 512 0 0 0 (by omega) (by omega) (by omega) rfl
theorem ck_xor_c (x y : Int) : ck_xor x y = ck_xor y x := by unfold ck_xor; rw [Int32.xor_comm]
theorem rs_st_eq {w : ck_W} {f : Int → Int} (h2 : w 15 2 = f 4) (h : ∀ k, 0 ≤ k → k < f 4 → w 16 k = f (1270 + 2 * k)) (q m s : Int) : cs_st w q m s = rs_st f q m s := by
  unfold cs_st rs_st
  have e : cs_some w m s = rs_some f m s := by
    refine propext ⟨fun ⟨k, hk, hm⟩ => ⟨k, by rw [← h2]; exact hk, ?_⟩, fun ⟨k, hk, hm⟩ => ⟨k, by rw [h2]; exact hk, ?_⟩⟩
    · rw [h2] at hk
      rw [ck_xor_c, ← h k hk.1 hk.2]; exact hm
    · rw [ck_xor_c, h k hk.1 hk.2]; exact hm
  rw [e]
theorem cs_sm_eq {f f' : Int → Int} (h : ∀ s, f s = f' s) : ∀ n, cs_sm f n = cs_sm f' n
  | 0 => rfl
  | n + 1 => by rw [cs_sm, cs_sm, cs_sm_eq h n, h]
