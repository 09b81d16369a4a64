/-! ===== the reference: boxes and letters ===== -/
/-- how many of the lowest bits are set -/
def ck_on : Nat → Int → Int
  | 0, _ => 0
  | k + 1, x => ck_on k x + ck_and (ck_shr x (k : Int)) 1
theorem ck_onb {x : Int} (h : 0 ≤ x ∧ x < 512) : ∀ k : Nat, k ≤ 9 → 0 ≤ ck_on k x ∧ ck_on k x ≤ k
  | 0, _ => by simp [ck_on]
  | k + 1, hk => by
    have a := ck_onb h k (by omega)
    have b := kb_bit01 (x := x) (k := (k : Int)) h.1 (by omega) (by omega) (by omega)
    simp only [ck_on]
    omega
theorem dX12_ones_0 : decode cX12_ones 0 = .ok (.iconst 0, 1) := dk_3 (by decide +kernel)
theorem dX12_ones_1 : decode cX12_ones 1 = .ok (.istore_n 1, 1) := dk_60 (by decide +kernel)
theorem dX12_ones_2 : decode cX12_ones 2 = .ok (.iconst 0, 1) := dk_3 (by decide +kernel)
theorem dX12_ones_3 : decode cX12_ones 3 = .ok (.istore_n 2, 1) := dk_61 (by decide +kernel)
theorem dX12_ones_4 : decode cX12_ones 4 = .ok (.iload_n 2, 1) := dk_28 (by decide +kernel)
theorem dX12_ones_5 : decode cX12_ones 5 = .ok (.bipush 9, 2) := dk_16 9 (by decide +kernel)
theorem dX12_ones_7 : decode cX12_ones 7 = .ok (.if_icmp .ge 17, 3) := dk_162 0 17 (by decide +kernel)
theorem dX12_ones_10 : decode cX12_ones 10 = .ok (.iload_n 1, 1) := dk_27 (by decide +kernel)
theorem dX12_ones_11 : decode cX12_ones 11 = .ok (.iload_n 0, 1) := dk_26 (by decide +kernel)
theorem dX12_ones_12 : decode cX12_ones 12 = .ok (.iload_n 2, 1) := dk_28 (by decide +kernel)
theorem dX12_ones_13 : decode cX12_ones 13 = .ok (.ishr, 1) := dk_122 (by decide +kernel)
theorem dX12_ones_14 : decode cX12_ones 14 = .ok (.iconst 1, 1) := dk_4 (by decide +kernel)
theorem dX12_ones_15 : decode cX12_ones 15 = .ok (.iand, 1) := dk_126 (by decide +kernel)
theorem dX12_ones_16 : decode cX12_ones 16 = .ok (.iadd, 1) := dk_96 (by decide +kernel)
theorem dX12_ones_17 : decode cX12_ones 17 = .ok (.istore_n 1, 1) := dk_60 (by decide +kernel)
theorem dX12_ones_18 : decode cX12_ones 18 = .ok (.iinc 2 1, 3) := dk_132 1 (by decide +kernel)
theorem dX12_ones_21 : decode cX12_ones 21 = .ok (.goto (-17), 3) := dk_167 255 239 (by decide +kernel)
theorem dX12_ones_24 : decode cX12_ones 24 = .ok (.iload_n 1, 1) := dk_27 (by decide +kernel)
theorem dX12_ones_25 : decode cX12_ones 25 = .ok (.ireturn, 1) := dk_172 (by decide +kernel)
set_option maxRecDepth 8000 in
theorem e_X12_ones {g : ch_G} {A R : Nat} (hC : ck_Cx g A R) {d : Nat} {K : Option ck_V → ck_W → Prop} {w : ck_W} {a0 : Int} (h : ck_At (ch_C g A R) d mX12_ones K 4 [some (.inl a0), some (.inl 0), some (.inl 0)] [] w) : ck_Ex (ch_C g A R) d mX12_ones [.inl a0] w K :=
  ck_entry hC.1 [some (.inl a0), none, none] (by decide) (Nat.le_of_ble_eq_true rfl) rfl (fun q => q) (ck_in (fun hl => (ck_iconst 1 rfl dX12_ones_0 rfl (ck_istore_n 2 rfl 1 [some (.inl a0), some (.inl 0), none] dX12_ones_1 rfl (Nat.le_of_ble_eq_true rfl) rfl rfl (show ck_i 0 by decide) (ck_iconst 3 rfl dX12_ones_2 rfl (ck_istore_n 4 rfl 2 [some (.inl a0), some (.inl 0), some (.inl 0)] dX12_ones_3 rfl (Nat.le_of_ble_eq_true rfl) rfl rfl (show ck_i 0 by decide) h))))))
set_option maxRecDepth 8000 in
theorem r_X12_ones_4 {g : ch_G} {A R : Nat} (hC : ck_Cx g A R) {d : Nat} {K : Option ck_V → ck_W → Prop} {w : ck_W} {a0 a1 a2 : Int} (h : (9 ≤ a2 → K (some (.inl a1)) w) ∧ (¬ 9 ≤ a2 → ∀ x1, x1 = a1 + (ck_and (ck_shr a0 a2) 1) → ck_i x1 ∧ (ck_i (a2 + 1) ∧ (ck_At (ch_C g A R) d mX12_ones K 4 [some (.inl a0), some (.inl x1), some (.inl (a2 + 1))] [] w)))) : ck_At (ch_C g A R) d mX12_ones K 4 [some (.inl a0), some (.inl a1), some (.inl a2)] [] w :=
  ck_in (fun hl => (ck_iload_n 5 rfl 2 dX12_ones_4 rfl rfl (ck_bipush 7 rfl dX12_ones_5 rfl (ck_icmp_ge 10 rfl 24 dX12_ones_7 rfl hl.2.2.1 (show ck_i 9 by decide) (fun c5 => (ck_iload_n 25 rfl 1 dX12_ones_24 rfl rfl (ck_iret dX12_ones_25 rfl hl.2.1 (h.1 c5)))) (fun c6 => (ck_iload_n 11 rfl 1 dX12_ones_10 rfl rfl (ck_iload_n 12 rfl 0 dX12_ones_11 rfl rfl (ck_iload_n 13 rfl 2 dX12_ones_12 rfl rfl (ck_ishr 14 rfl dX12_ones_13 (ck_iconst 15 rfl dX12_ones_14 rfl (ck_iand 16 rfl dX12_ones_15 (ck_iadd 17 rfl dX12_ones_16 (ck_nmi (fun x1 e2 => (have h8 := ((h.2 c6) x1 e2); have o3 := h8.1; have h7 := h8.2; (ck_istore_n 18 rfl 1 [some (.inl a0), some (.inl x1), some (.inl a2)] dX12_ones_17 rfl (Nat.le_of_ble_eq_true rfl) rfl rfl o3 (have h10 := h7; have o4 := h10.1; have h9 := h10.2; (ck_iinc 21 rfl [some (.inl a0), some (.inl x1), some (.inl (a2 + 1))] dX12_ones_18 rfl (Nat.le_of_ble_eq_true rfl) rfl rfl o4 (ck_goto 4 dX12_ones_21 rfl h9)))))))))))))))))))
theorem p_X12_ones {g : ch_G} {A R : Nat} (hC : ck_Cx g A R) {d : Nat} {K : Option ck_V → ck_W → Prop} {w : ck_W} {a0 : Int} (o0 : 0 ≤ a0 ∧ a0 < 512) (h : K (some (.inl (ck_on 9 a0))) w) : ck_Ex (ch_C g A R) d mX12_ones [.inl a0] w K := by
  have l : ∀ (m : Nat) (a1 : Int) (k : Nat), 9 - k = m → k ≤ 9 → a1 = ck_on k a0 → ck_At (ch_C g A R) d mX12_ones K 4 [some (.inl a0), some (.inl a1), some (.inl (k : Int))] [] w := by
    intro m
    induction m with
    | zero =>
      intro a1 k q1 q2 q3
      obtain rfl : k = 9 := by omega
      exact r_X12_ones_4 hC ⟨fun _ => by rw [q3]; exact h, fun z => absurd (by decide) z⟩
    | succ m ih =>
      intro a1 k q1 q2 q3
      have b := kb_bit01 (x := a0) (k := (k : Int)) o0.1 (by omega) (by omega) (by omega)
      have c := ck_onb o0 k (by omega)
      exact r_X12_ones_4 hC ⟨fun z => absurd z (by omega), fun _ => fun x ex => ⟨by constructor <;> omega, by constructor <;> omega, ih x (k + 1) (by omega) (by omega) (by rw [ex, q3, ck_on])⟩⟩
  exact e_X12_ones hC (l 9 0 0 (by omega) (by omega) rfl)
theorem dX12_isBox_0 : decode cX12_isBox 0 = .ok (.iload_n 1, 1) := dk_27 (by decide +kernel)
theorem dX12_isBox_1 : decode cX12_isBox 1 = .ok (.iconst 0, 1) := dk_3 (by decide +kernel)
theorem dX12_isBox_2 : decode cX12_isBox 2 = .ok (.iconst 3, 1) := dk_6 (by decide +kernel)
theorem dX12_isBox_3 : decode cX12_isBox 3 = .ok (.invokestatic 93, 3) := dk_184 0 93 (by decide +kernel)
theorem dX12_isBox_6 : decode cX12_isBox 6 = .ok (.ifCond .eq 7, 3) := dk_153 0 7 (by decide +kernel)
theorem dX12_isBox_9 : decode cX12_isBox 9 = .ok (.iload_n 2, 1) := dk_28 (by decide +kernel)
theorem dX12_isBox_10 : decode cX12_isBox 10 = .ok (.ifCond .ge 5, 3) := dk_156 0 5 (by decide +kernel)
theorem dX12_isBox_13 : decode cX12_isBox 13 = .ok (.iconst 0, 1) := dk_3 (by decide +kernel)
theorem dX12_isBox_14 : decode cX12_isBox 14 = .ok (.ireturn, 1) := dk_172 (by decide +kernel)
theorem dX12_isBox_15 : decode cX12_isBox 15 = .ok (.iload_n 1, 1) := dk_27 (by decide +kernel)
theorem dX12_isBox_16 : decode cX12_isBox 16 = .ok (.istore_n 3, 1) := dk_62 (by decide +kernel)
theorem dX12_isBox_17 : decode cX12_isBox 17 = .ok (.iload_n 3, 1) := dk_29 (by decide +kernel)
theorem dX12_isBox_18 : decode cX12_isBox 18 = .ok (.iload_n 1, 1) := dk_27 (by decide +kernel)
theorem dX12_isBox_19 : decode cX12_isBox 19 = .ok (.iconst 3, 1) := dk_6 (by decide +kernel)
theorem dX12_isBox_20 : decode cX12_isBox 20 = .ok (.iadd, 1) := dk_96 (by decide +kernel)
theorem dX12_isBox_21 : decode cX12_isBox 21 = .ok (.if_icmp .ge 22, 3) := dk_162 0 22 (by decide +kernel)
theorem dX12_isBox_24 : decode cX12_isBox 24 = .ok (.aload_n 0, 1) := dk_42 (by decide +kernel)
theorem dX12_isBox_25 : decode cX12_isBox 25 = .ok (.iload_n 3, 1) := dk_29 (by decide +kernel)
theorem dX12_isBox_26 : decode cX12_isBox 26 = .ok (.iload_n 2, 1) := dk_28 (by decide +kernel)
theorem dX12_isBox_27 : decode cX12_isBox 27 = .ok (.iconst 2, 1) := dk_5 (by decide +kernel)
theorem dX12_isBox_28 : decode cX12_isBox 28 = .ok (.iadd, 1) := dk_96 (by decide +kernel)
theorem dX12_isBox_29 : decode cX12_isBox 29 = .ok (.invokevirtual 333, 3) := dk_182 1 77 (by decide +kernel)
theorem dX12_isBox_32 : decode cX12_isBox 32 = .ok (.ifCond .ne 5, 3) := dk_154 0 5 (by decide +kernel)
theorem dX12_isBox_35 : decode cX12_isBox 35 = .ok (.iconst 0, 1) := dk_3 (by decide +kernel)
theorem dX12_isBox_36 : decode cX12_isBox 36 = .ok (.ireturn, 1) := dk_172 (by decide +kernel)
theorem dX12_isBox_37 : decode cX12_isBox 37 = .ok (.iinc 3 1, 3) := dk_132 1 (by decide +kernel)
theorem dX12_isBox_40 : decode cX12_isBox 40 = .ok (.goto (-23), 3) := dk_167 255 233 (by decide +kernel)
theorem dX12_isBox_43 : decode cX12_isBox 43 = .ok (.iconst 1, 1) := dk_4 (by decide +kernel)
theorem dX12_isBox_44 : decode cX12_isBox 44 = .ok (.ireturn, 1) := dk_172 (by decide +kernel)
set_option maxRecDepth 8000 in
theorem e_X12_isBox {g : ch_G} {A R : Nat} (hC : ck_Cx g A R) {d : Nat} {K : Option ck_V → ck_W → Prop} {w : ck_W} {a1 a2 : Int} (h : (0 ≤ a1 ∧ a1 ≤ 3 → (0 ≤ a2 → ck_At (ch_C g A R) (d + 1) mX12_isBox K 17 [some (.inr (.inr 76)), some (.inl a1), some (.inl a2), some (.inl a1)] [] w) ∧ (¬ 0 ≤ a2 → K (some (.inl 0)) w)) ∧ (¬ (0 ≤ a1 ∧ a1 ≤ 3) → K (some (.inl 0)) w)) : ck_Ex (ch_C g A R) (d + 1) mX12_isBox [.inr (.inr 76), .inl a1, .inl a2] w K :=
  ck_entry hC.1 [some (.inr (.inr 76)), some (.inl a1), some (.inl a2), none] (by decide) (Nat.le_of_ble_eq_true rfl) rfl (fun q => q) (ck_in (fun hl => (ck_iload_n 1 rfl 1 dX12_isBox_0 rfl rfl (ck_iconst 2 rfl dX12_isBox_1 rfl (ck_iconst 3 rfl dX12_isBox_2 rfl (have h5 := h; ck_callS 6 rfl [.inl a1, .inl 0, .inl 3] [] dX12_isBox_3 cs_X12_93 rfl rfl (Nat.le_of_ble_eq_true rfl) (And.intro hl.2.1 (And.intro (show ck_i 0 by decide) (And.intro (show ck_i 3 by decide) True.intro))) (p_X12_isIn hC (fun c3 _ => (ck_if_eq 9 rfl 13 dX12_isBox_6 rfl (by decide) (fun q => absurd q (by decide)) (fun _ => (ck_iload_n 10 rfl 2 dX12_isBox_9 rfl rfl (have h6 := (h5.1 c3); (ck_if_ge 13 rfl 15 dX12_isBox_10 rfl hl.2.2.1 (fun c1 => (ck_iload_n 16 rfl 1 dX12_isBox_15 rfl rfl (ck_istore_n 17 rfl 3 [some (.inr (.inr 76)), some (.inl a1), some (.inl a2), some (.inl a1)] dX12_isBox_16 rfl (Nat.le_of_ble_eq_true rfl) rfl rfl hl.2.1 (h6.1 c1)))) (fun c2 => (ck_iconst 14 rfl dX12_isBox_13 rfl (ck_zret dX12_isBox_14 rfl (by decide) (h6.2 c2)))))))))) (fun c4 _ => (ck_if_eq 9 rfl 13 dX12_isBox_6 rfl (by decide) (fun _ => (ck_iconst 14 rfl dX12_isBox_13 rfl (ck_zret dX12_isBox_14 rfl (by decide) (h5.2 c4)))) (fun q => absurd q (by decide)))))))))))
set_option maxRecDepth 8000 in
theorem r_X12_isBox_17 {g : ch_G} {A R : Nat} (hC : ck_Cx g A R) {d : Nat} {K : Option ck_V → ck_W → Prop} {w : ck_W} {a1 a2 a3 : Int} (h : ck_i (a1 + 3) ∧ (((a1 + 3) ≤ a3 → K (some (.inl 1)) w) ∧ (¬ (a1 + 3) ≤ a3 → ck_CI (ch_C g A R) d mX12_isThere [.inr (.inr 76), .inl a3, .inl (ck_wr (a2 + 2))] w (fun v3 w2 => (¬ v3 = 0 → ck_i (a3 + 1) ∧ (ck_At (ch_C g A R) (d + 1) mX12_isBox K 17 [some (.inr (.inr 76)), some (.inl a1), some (.inl a2), some (.inl (a3 + 1))] [] w2)) ∧ (v3 = 0 → K (some (.inl 0)) w2))))) : ck_At (ch_C g A R) (d + 1) mX12_isBox K 17 [some (.inr (.inr 76)), some (.inl a1), some (.inl a2), some (.inl a3)] [] w :=
  ck_in (fun hl => (ck_iload_n 18 rfl 3 dX12_isBox_17 rfl rfl (ck_iload_n 19 rfl 1 dX12_isBox_18 rfl rfl (ck_iconst 20 rfl dX12_isBox_19 rfl (ck_iadd 21 rfl dX12_isBox_20 (have h12 := h; have o1 := h12.1; have h11 := h12.2; (ck_icmp_ge 24 rfl 43 dX12_isBox_21 rfl hl.2.2.2.1 o1 (fun c9 => (ck_iconst 44 rfl dX12_isBox_43 rfl (ck_zret dX12_isBox_44 rfl (by decide) (h11.1 c9)))) (fun c10 => (ck_aload_n 25 rfl 0 dX12_isBox_24 rfl rfl (ck_iload_n 26 rfl 3 dX12_isBox_25 rfl rfl (ck_iload_n 27 rfl 2 dX12_isBox_26 rfl rfl (ck_iconst 28 rfl dX12_isBox_27 rfl (ck_iadd 29 rfl dX12_isBox_28 (ck_wrp (ck_callV 32 rfl [.inl a3, .inl (ck_wr (a2 + 2))] [] dX12_isBox_29 cv_X12_333 sh_76 rfl rfl (Nat.le_of_ble_eq_true rfl) (And.intro hl.2.2.2.1 (And.intro (ck_rng _) True.intro)) (ck_mI (h11.2 c10) (fun v3 w2 q4 h5 => (ck_if_ne 35 rfl 37 dX12_isBox_32 rfl q4 (fun c7 => (have h14 := (h5.1 c7); have o6 := h14.1; have h13 := h14.2; (ck_iinc 40 rfl [some (.inr (.inr 76)), some (.inl a1), some (.inl a2), some (.inl (a3 + 1))] dX12_isBox_37 rfl (Nat.le_of_ble_eq_true rfl) rfl rfl o6 (ck_goto 17 dX12_isBox_40 rfl h13)))) (fun c8 => (ck_iconst 36 rfl dX12_isBox_35 rfl (ck_zret dX12_isBox_36 rfl (by decide) (h5.2 c8))))))))))))))))))))))
/-- a box: three slices with three places each -/
def rm_bx (w : ck_W) (z p : Int) : Prop := (0 ≤ z ∧ z ≤ 3) ∧ 0 ≤ p ∧ ∀ y, z ≤ y → y < z + 3 → rm_th w y (p + 2)
theorem S_X12_isBox {g : ch_G} {A R : Nat} (hC : ck_Cx g A R) {d : Nat} {K : Option ck_V → ck_W → Prop} {w : ck_W} {a1 a2 : Int} (hI : rm_I A R w) (ha : ck_i a2) (k1 : rm_bx w a1 a2 → K (some (.inl 1)) w) (k0 : K (some (.inl 0)) w) : ck_Ex (ch_C g A R) (d + 2) mX12_isBox [.inr (.inr 76), .inl a1, .inl a2] w K := by
  refine e_X12_isBox hC ⟨fun q1 => ⟨fun q2 => ?_, fun _ => k0⟩, fun _ => k0⟩
  have l : ∀ (m : Nat) (a3 : Int), a1 + 3 - a3 = m → a1 ≤ a3 → (∀ y, a1 ≤ y → y < a3 → rm_th w y (a2 + 2)) → ck_At (ch_C g A R) (d + 2) mX12_isBox K 17 [some (.inr (.inr 76)), some (.inl a1), some (.inl a2), some (.inl a3)] [] w := by
    intro m
    induction m with
    | zero =>
      intro a3 q3 q4 q5
      exact r_X12_isBox_17 hC ⟨by constructor <;> omega, fun _ => k1 ⟨q1, q2, fun y y0 y1 => q5 y y0 (by omega)⟩, fun z => absurd (by omega) z⟩
    | succ m ih =>
      intro a3 q3 q4 q5
      refine r_X12_isBox_17 hC ⟨by constructor <;> omega, fun z => absurd z (by omega), fun _ => ?_⟩
      refine S_X12_isThere hC hI (by omega) (fun th => ⟨_, rfl, fun _ => ⟨fun _ => ⟨by constructor <;> omega, ih _ (by omega) (by omega) (fun y y0 y1 => ?_)⟩, fun z => absurd z (by decide)⟩⟩) (fun th => ⟨_, rfl, fun _ => ⟨fun z => absurd rfl z, fun _ => k0⟩⟩)
      by_cases e : y = a3
      · subst e
        have c := ck_wr_add (a := a2) (b := 2) ha (by omega)
        have t := th.1
        have pb := rm_pb hC hI (z := y) (by omega) (by omega)
        rcases c with c | c | c
        · rw [c] at th; exact th
        · omega
        · omega
      · exact q5 y y0 (by omega)
  exact l 3 a1 (by omega) (by omega) (fun y y0 y1 => by omega)
theorem dX12_bitsAt_0 : decode cX12_bitsAt 0 = .ok (.iconst 0, 1) := dk_3 (by decide +kernel)
theorem dX12_bitsAt_1 : decode cX12_bitsAt 1 = .ok (.istore 4, 2) := dk_54 (by decide +kernel)
theorem dX12_bitsAt_3 : decode cX12_bitsAt 3 = .ok (.iconst 0, 1) := dk_3 (by decide +kernel)
theorem dX12_bitsAt_4 : decode cX12_bitsAt 4 = .ok (.istore 5, 2) := dk_54 (by decide +kernel)
theorem dX12_bitsAt_6 : decode cX12_bitsAt 6 = .ok (.iload 5, 2) := dk_21 (by decide +kernel)
theorem dX12_bitsAt_8 : decode cX12_bitsAt 8 = .ok (.bipush 9, 2) := dk_16 9 (by decide +kernel)
theorem dX12_bitsAt_10 : decode cX12_bitsAt 10 = .ok (.if_icmp .ge 38, 3) := dk_162 0 38 (by decide +kernel)
theorem dX12_bitsAt_13 : decode cX12_bitsAt 13 = .ok (.aload_n 0, 1) := dk_42 (by decide +kernel)
theorem dX12_bitsAt_14 : decode cX12_bitsAt 14 = .ok (.iload_n 1, 1) := dk_27 (by decide +kernel)
theorem dX12_bitsAt_15 : decode cX12_bitsAt 15 = .ok (.iload_n 2, 1) := dk_28 (by decide +kernel)
theorem dX12_bitsAt_16 : decode cX12_bitsAt 16 = .ok (.iload 5, 2) := dk_21 (by decide +kernel)
theorem dX12_bitsAt_18 : decode cX12_bitsAt 18 = .ok (.iconst 3, 1) := dk_6 (by decide +kernel)
theorem dX12_bitsAt_19 : decode cX12_bitsAt 19 = .ok (.idiv, 1) := dk_108 (by decide +kernel)
theorem dX12_bitsAt_20 : decode cX12_bitsAt 20 = .ok (.iadd, 1) := dk_96 (by decide +kernel)
theorem dX12_bitsAt_21 : decode cX12_bitsAt 21 = .ok (.iload_n 3, 1) := dk_29 (by decide +kernel)
theorem dX12_bitsAt_22 : decode cX12_bitsAt 22 = .ok (.iload 5, 2) := dk_21 (by decide +kernel)
theorem dX12_bitsAt_24 : decode cX12_bitsAt 24 = .ok (.iconst 3, 1) := dk_6 (by decide +kernel)
theorem dX12_bitsAt_25 : decode cX12_bitsAt 25 = .ok (.irem, 1) := dk_112 (by decide +kernel)
theorem dX12_bitsAt_26 : decode cX12_bitsAt 26 = .ok (.iadd, 1) := dk_96 (by decide +kernel)
theorem dX12_bitsAt_27 : decode cX12_bitsAt 27 = .ok (.invokevirtual 336, 3) := dk_182 1 80 (by decide +kernel)
theorem dX12_bitsAt_30 : decode cX12_bitsAt 30 = .ok (.ifCond .eq 12, 3) := dk_153 0 12 (by decide +kernel)
theorem dX12_bitsAt_33 : decode cX12_bitsAt 33 = .ok (.iload 4, 2) := dk_21 (by decide +kernel)
theorem dX12_bitsAt_35 : decode cX12_bitsAt 35 = .ok (.iconst 1, 1) := dk_4 (by decide +kernel)
theorem dX12_bitsAt_36 : decode cX12_bitsAt 36 = .ok (.iload 5, 2) := dk_21 (by decide +kernel)
theorem dX12_bitsAt_38 : decode cX12_bitsAt 38 = .ok (.ishl, 1) := dk_120 (by decide +kernel)
theorem dX12_bitsAt_39 : decode cX12_bitsAt 39 = .ok (.ior, 1) := dk_128 (by decide +kernel)
theorem dX12_bitsAt_40 : decode cX12_bitsAt 40 = .ok (.istore 4, 2) := dk_54 (by decide +kernel)
theorem dX12_bitsAt_42 : decode cX12_bitsAt 42 = .ok (.iinc 5 1, 3) := dk_132 1 (by decide +kernel)
theorem dX12_bitsAt_45 : decode cX12_bitsAt 45 = .ok (.goto (-39), 3) := dk_167 255 217 (by decide +kernel)
theorem dX12_bitsAt_48 : decode cX12_bitsAt 48 = .ok (.iload 4, 2) := dk_21 (by decide +kernel)
theorem dX12_bitsAt_50 : decode cX12_bitsAt 50 = .ok (.ireturn, 1) := dk_172 (by decide +kernel)
set_option maxRecDepth 8000 in
theorem e_X12_bitsAt {g : ch_G} {A R : Nat} (hC : ck_Cx g A R) {d : Nat} {K : Option ck_V → ck_W → Prop} {w : ck_W} {a1 a2 a3 : Int} (h : ck_At (ch_C g A R) (d + 1) mX12_bitsAt K 6 [some (.inr (.inr 76)), some (.inl a1), some (.inl a2), some (.inl a3), some (.inl 0), some (.inl 0)] [] w) : ck_Ex (ch_C g A R) (d + 1) mX12_bitsAt [.inr (.inr 76), .inl a1, .inl a2, .inl a3] w K :=
  ck_entry hC.1 [some (.inr (.inr 76)), some (.inl a1), some (.inl a2), some (.inl a3), none, none] (by decide) (Nat.le_of_ble_eq_true rfl) rfl (fun q => q) (ck_in (fun hl => (ck_iconst 1 rfl dX12_bitsAt_0 rfl (ck_istore 3 rfl [some (.inr (.inr 76)), some (.inl a1), some (.inl a2), some (.inl a3), some (.inl 0), none] dX12_bitsAt_1 (Nat.le_of_ble_eq_true rfl) rfl rfl (show ck_i 0 by decide) (ck_iconst 4 rfl dX12_bitsAt_3 rfl (ck_istore 6 rfl [some (.inr (.inr 76)), some (.inl a1), some (.inl a2), some (.inl a3), some (.inl 0), some (.inl 0)] dX12_bitsAt_4 (Nat.le_of_ble_eq_true rfl) rfl rfl (show ck_i 0 by decide) h))))))
set_option maxRecDepth 8000 in
theorem r_X12_bitsAt_6 {g : ch_G} {A R : Nat} (hC : ck_Cx g A R) {d : Nat} {K : Option ck_V → ck_W → Prop} {w : ck_W} {a1 a2 a3 a4 a5 : Int} (h : (9 ≤ a5 → K (some (.inl a4)) w) ∧ (¬ 9 ≤ a5 → ck_i (a2 + (a5.tdiv 3)) ∧ (ck_i (a3 + (a5.tmod 3)) ∧ (ck_CI (ch_C g A R) d mX12_isInk [.inr (.inr 76), .inl a1, .inl (a2 + (a5.tdiv 3)), .inl (a3 + (a5.tmod 3))] w (fun v4 w3 => (v4 = 0 → ck_i (a5 + 1) ∧ (ck_At (ch_C g A R) (d + 1) mX12_bitsAt K 6 [some (.inr (.inr 76)), some (.inl a1), some (.inl a2), some (.inl a3), some (.inl a4), some (.inl (a5 + 1))] [] w3)) ∧ (¬ v4 = 0 → ck_i (a5 + 1) ∧ (ck_At (ch_C g A R) (d + 1) mX12_bitsAt K 6 [some (.inr (.inr 76)), some (.inl a1), some (.inl a2), some (.inl a3), some (.inl (ck_or a4 (ck_shl 1 a5))), some (.inl (a5 + 1))] [] w3))))))) : ck_At (ch_C g A R) (d + 1) mX12_bitsAt K 6 [some (.inr (.inr 76)), some (.inl a1), some (.inl a2), some (.inl a3), some (.inl a4), some (.inl a5)] [] w :=
  ck_in (fun hl => (ck_iload 8 rfl dX12_bitsAt_6 rfl (ck_bipush 10 rfl dX12_bitsAt_8 rfl (ck_icmp_ge 13 rfl 48 dX12_bitsAt_10 rfl hl.2.2.2.2.2.1 (show ck_i 9 by decide) (fun c11 => (ck_iload 50 rfl dX12_bitsAt_48 rfl (ck_iret dX12_bitsAt_50 rfl hl.2.2.2.2.1 (h.1 c11)))) (fun c12 => (ck_aload_n 14 rfl 0 dX12_bitsAt_13 rfl rfl (ck_iload_n 15 rfl 1 dX12_bitsAt_14 rfl rfl (ck_iload_n 16 rfl 2 dX12_bitsAt_15 rfl rfl (ck_iload 18 rfl dX12_bitsAt_16 rfl (ck_iconst 19 rfl dX12_bitsAt_18 rfl (ck_idiv 20 rfl dX12_bitsAt_19 hl.2.2.2.2.2.1 (show ck_i 3 by decide) (by decide) (ck_iadd 21 rfl dX12_bitsAt_20 (ck_iload_n 22 rfl 3 dX12_bitsAt_21 rfl rfl (ck_iload 24 rfl dX12_bitsAt_22 rfl (ck_iconst 25 rfl dX12_bitsAt_24 rfl (ck_irem 26 rfl dX12_bitsAt_25 hl.2.2.2.2.2.1 (show ck_i 3 by decide) (by decide) (ck_iadd 27 rfl dX12_bitsAt_26 (have h14 := (h.2 c12); have o1 := h14.1; have h13 := h14.2; (have h16 := h13; have o2 := h16.1; have h15 := h16.2; (ck_callV 30 rfl [.inl a1, .inl (a2 + (a5.tdiv 3)), .inl (a3 + (a5.tmod 3))] [] dX12_bitsAt_27 cv_X12_336 sh_76 rfl rfl (Nat.le_of_ble_eq_true rfl) (And.intro hl.2.1 (And.intro o1 (And.intro o2 True.intro))) (ck_mI h15 (fun v4 w3 q5 h6 => (ck_if_eq 33 rfl 42 dX12_bitsAt_30 rfl q5 (fun c9 => (have h18 := (h6.1 c9); have o7 := h18.1; have h17 := h18.2; (ck_iinc 45 rfl [some (.inr (.inr 76)), some (.inl a1), some (.inl a2), some (.inl a3), some (.inl a4), some (.inl (a5 + 1))] dX12_bitsAt_42 rfl (Nat.le_of_ble_eq_true rfl) rfl rfl o7 (ck_goto 6 dX12_bitsAt_45 rfl h17)))) (fun c10 => (ck_iload 35 rfl dX12_bitsAt_33 rfl (ck_iconst 36 rfl dX12_bitsAt_35 rfl (ck_iload 38 rfl dX12_bitsAt_36 rfl (ck_ishl 39 rfl dX12_bitsAt_38 (ck_ior 40 rfl dX12_bitsAt_39 (ck_istore 42 rfl [some (.inr (.inr 76)), some (.inl a1), some (.inl a2), some (.inl a3), some (.inl (ck_or a4 (ck_shl 1 a5))), some (.inl a5)] dX12_bitsAt_40 (Nat.le_of_ble_eq_true rfl) rfl rfl (ck_rng _) (have h20 := (h6.2 c10); have o8 := h20.1; have h19 := h20.2; (ck_iinc 45 rfl [some (.inr (.inr 76)), some (.inl a1), some (.inl a2), some (.inl a3), some (.inl (ck_or a4 (ck_shl 1 a5))), some (.inl (a5 + 1))] dX12_bitsAt_42 rfl (Nat.le_of_ble_eq_true rfl) rfl rfl o8 (ck_goto 6 dX12_bitsAt_45 rfl h19)))))))))))))))))))))))))))))))))
theorem S_X12_bitsAt {g : ch_G} {A R : Nat} (hC : ck_Cx g A R) {d : Nat} {K : Option ck_V → ck_W → Prop} {w : ck_W} {a1 a2 a3 : Int} (hs : rm_st A R w w) (h0 : 0 ≤ a1 ∧ a1 < w 77 0) (hb : rm_bx w a2 a3) (h : ∀ v w', (0 ≤ v ∧ v < 512) → (∀ k, k ≠ 91 → k ≠ 92 → k ≠ 93 → w' k = w k) → K (some (.inl v)) w') : ck_Ex (ch_C g A R) (d + 5) mX12_bitsAt [.inr (.inr 76), .inl a1, .inl a2, .inl a3] w K := by
  have l : ∀ (m : Nat) (a4 a5 : Int) (u : ck_W), 9 - a5 = m → 0 ≤ a5 → (0 ≤ a4 ∧ a4 < 512) → (∀ k, k ≠ 91 → k ≠ 92 → k ≠ 93 → u k = w k) → ck_At (ch_C g A R) (d + 5) mX12_bitsAt K 6 [some (.inr (.inr 76)), some (.inl a1), some (.inl a2), some (.inl a3), some (.inl a4), some (.inl a5)] [] u := by
    intro m
    induction m with
    | zero =>
      intro a4 a5 u q1 q2 q3 q4
      exact r_X12_bitsAt_6 hC ⟨fun _ => h a4 u q3 q4, fun z => absurd (by omega) z⟩
    | succ m ih =>
      intro a4 a5 u q1 q2 q3 q4
      have su := rm_st_ink hs q4
      have t1 : a5.tmod 3 = a5 % 3 := Int.tmod_eq_emod_of_nonneg q2
      have t2 : a5.tdiv 3 = a5 / 3 := Int.tdiv_eq_ediv_of_nonneg q2
      have e77 := q4 77 (by decide) (by decide) (by decide)
      have e76 := q4 76 (by decide) (by decide) (by decide)
      have th := hb.2.2 (a2 + a5.tdiv 3) (by omega) (by omega)
      have z0 := hb.1
      have p0 := hb.2.1
      have th1 := th.1
      have th2 := th.2
      have pb := rm_pb hC hs.2.1 (z := a2 + a5.tdiv 3) (by omega) (by omega)
      refine r_X12_bitsAt_6 hC ⟨fun z => absurd z (by omega), fun _ => ⟨by constructor <;> omega, by constructor <;> omega, ?_⟩⟩
      refine S_X12_isInk hC su.2.1 (by rw [e77]; exact h0) (by omega) (by rw [e77, e76]; omega) (su.2.2 _ (by omega) (by omega) (by rw [q4 83 (by decide) (by decide) (by decide)]; omega)) (fun v w' b1 b2 => ⟨_, rfl, fun _ => ?_⟩)
      have kk : ∀ k, k ≠ 91 → k ≠ 92 → k ≠ 93 → w' k = w k := fun k x y z => by rw [b2 k x y z, q4 k x y z]
      exact ⟨fun _ => ⟨by constructor <;> omega, ih _ _ _ (by omega) (by omega) q3 kk⟩, fun _ => ⟨by constructor <;> omega, ih _ _ _ (by omega) (by omega) (kb_or9 q3 (kb_shl9 q2 (by omega))) kk⟩⟩
  exact e_X12_bitsAt hC (l 9 0 0 w (by omega) (by omega) (by omega) (fun _ _ _ _ => rfl))
/-- HIT to the like, MISS to the rest -/
theorem ck_pwm {b n e : Nat} (h : b ≤ n) : ck_pw (b : Int) (e : Int) ≤ ck_pw (n : Int) (e : Int) := by
  unfold ck_pw
  have := (ck_pn (b := b) (n := n) (k := (e : Int).toNat) (by omega)).1
  have e2 : ((n ^ (e : Int).toNat : Nat) : Int) = (n : Int) ^ (e : Int).toNat := by simp
  rw [e2] at this
  exact this
theorem ck_pwa {b : Int} {x y : Int} (hx : 0 ≤ x) (hy : 0 ≤ y) : ck_pw b x * ck_pw b y = ck_pw b (x + y) := by
  unfold ck_pw
  rw [← Int.pow_add, show (x + y).toNat = x.toNat + y.toNat by omega]
theorem ck_fitb {h m a n : Int} {top : Nat} (hh : 0 ≤ h ∧ h ≤ top) (hm : 0 ≤ m ∧ m ≤ top) (ha : 0 ≤ a ∧ a ≤ n) : ck_pw h a * ck_pw m (n - a) ≤ ck_pw (top : Int) n := by
  obtain ⟨h', rfl⟩ := kb_nat hh.1
  obtain ⟨m', rfl⟩ := kb_nat hm.1
  obtain ⟨a', ea⟩ := kb_nat ha.1
  obtain ⟨b', eb⟩ := kb_nat (show 0 ≤ n - a by omega)
  have p1 := ck_pwm (b := h') (n := top) (e := a') (by omega)
  have p2 := ck_pwm (b := m') (n := top) (e := b') (by omega)
  rw [← ea] at p1
  rw [← eb] at p2
  have n2 : 0 ≤ ck_pw (m' : Int) (n - a) := by unfold ck_pw; exact Int.pow_nonneg (by omega)
  have n3 : 0 ≤ ck_pw (top : Int) a := by unfold ck_pw; exact Int.pow_nonneg (by omega)
  have := Int.mul_le_mul p1 p2 n2 n3
  rw [ck_pwa (by omega) (by omega), show a + (n - a) = n by omega] at this
  exact this
theorem ck_fit1 {h m a n : Int} (hh : 1 ≤ h) (hm : 1 ≤ m) : 1 ≤ ck_pw h a * ck_pw m (n - a) := by
  have a1 := ck_pw_pos (b := h) (e := a) hh
  have a2 := ck_pw_pos (b := m) (e := n - a) hm
  have := Int.mul_le_mul a1 a2 (by decide) (by omega)
  omega
theorem ck_p39 : ck_pw ((3 : Nat) : Int) 9 = 19683 := by decide
theorem dX12_fitting_0 : decode cX12_fitting 0 = .ok (.bipush 9, 2) := dk_16 9 (by decide +kernel)
theorem dX12_fitting_2 : decode cX12_fitting 2 = .ok (.iload_n 1, 1) := dk_27 (by decide +kernel)
theorem dX12_fitting_3 : decode cX12_fitting 3 = .ok (.aload_n 0, 1) := dk_42 (by decide +kernel)
theorem dX12_fitting_4 : decode cX12_fitting 4 = .ok (.getfield 7, 3) := dk_180 0 7 (by decide +kernel)
theorem dX12_fitting_7 : decode cX12_fitting 7 = .ok (.sipush 1270, 3) := dk_17 4 246 (by decide +kernel)
theorem dX12_fitting_10 : decode cX12_fitting 10 = .ok (.iconst 2, 1) := dk_5 (by decide +kernel)
theorem dX12_fitting_11 : decode cX12_fitting 11 = .ok (.iload_n 2, 1) := dk_28 (by decide +kernel)
theorem dX12_fitting_12 : decode cX12_fitting 12 = .ok (.imul, 1) := dk_104 (by decide +kernel)
theorem dX12_fitting_13 : decode cX12_fitting 13 = .ok (.iadd, 1) := dk_96 (by decide +kernel)
theorem dX12_fitting_14 : decode cX12_fitting 14 = .ok (.iaload, 1) := dk_46 (by decide +kernel)
theorem dX12_fitting_15 : decode cX12_fitting 15 = .ok (.ixor, 1) := dk_130 (by decide +kernel)
theorem dX12_fitting_16 : decode cX12_fitting 16 = .ok (.invokestatic 345, 3) := dk_184 1 89 (by decide +kernel)
theorem dX12_fitting_19 : decode cX12_fitting 19 = .ok (.isub, 1) := dk_100 (by decide +kernel)
theorem dX12_fitting_20 : decode cX12_fitting 20 = .ok (.istore_n 3, 1) := dk_62 (by decide +kernel)
theorem dX12_fitting_21 : decode cX12_fitting 21 = .ok (.aload_n 0, 1) := dk_42 (by decide +kernel)
theorem dX12_fitting_22 : decode cX12_fitting 22 = .ok (.aload_n 0, 1) := dk_42 (by decide +kernel)
theorem dX12_fitting_23 : decode cX12_fitting 23 = .ok (.getfield 7, 3) := dk_180 0 7 (by decide +kernel)
theorem dX12_fitting_26 : decode cX12_fitting 26 = .ok (.bipush 8, 2) := dk_16 8 (by decide +kernel)
theorem dX12_fitting_28 : decode cX12_fitting 28 = .ok (.iaload, 1) := dk_46 (by decide +kernel)
theorem dX12_fitting_29 : decode cX12_fitting 29 = .ok (.iload_n 3, 1) := dk_29 (by decide +kernel)
theorem dX12_fitting_30 : decode cX12_fitting 30 = .ok (.invokevirtual 348, 3) := dk_182 1 92 (by decide +kernel)
theorem dX12_fitting_33 : decode cX12_fitting 33 = .ok (.aload_n 0, 1) := dk_42 (by decide +kernel)
theorem dX12_fitting_34 : decode cX12_fitting 34 = .ok (.aload_n 0, 1) := dk_42 (by decide +kernel)
theorem dX12_fitting_35 : decode cX12_fitting 35 = .ok (.getfield 7, 3) := dk_180 0 7 (by decide +kernel)
theorem dX12_fitting_38 : decode cX12_fitting 38 = .ok (.bipush 9, 2) := dk_16 9 (by decide +kernel)
theorem dX12_fitting_40 : decode cX12_fitting 40 = .ok (.iaload, 1) := dk_46 (by decide +kernel)
theorem dX12_fitting_41 : decode cX12_fitting 41 = .ok (.bipush 9, 2) := dk_16 9 (by decide +kernel)
theorem dX12_fitting_43 : decode cX12_fitting 43 = .ok (.iload_n 3, 1) := dk_29 (by decide +kernel)
theorem dX12_fitting_44 : decode cX12_fitting 44 = .ok (.isub, 1) := dk_100 (by decide +kernel)
theorem dX12_fitting_45 : decode cX12_fitting 45 = .ok (.invokevirtual 348, 3) := dk_182 1 92 (by decide +kernel)
theorem dX12_fitting_48 : decode cX12_fitting 48 = .ok (.lmul, 1) := dk_105 (by decide +kernel)
theorem dX12_fitting_49 : decode cX12_fitting 49 = .ok (.lreturn, 1) := dk_173 (by decide +kernel)
set_option maxRecDepth 8000 in
theorem e_X12_fitting {g : ch_G} {A R : Nat} (hC : ck_Cx g A R) {d : Nat} {K : Option ck_V → ck_W → Prop} {w : ck_W} {a1 a2 : Int} (h : (0 ≤ (1270 + (2 * a2)) ∧ (1270 + (2 * a2)) < 1430) ∧ ((0 ≤ (ck_xor a1 (w 77 (1270 + (2 * a2)))) ∧ (ck_xor a1 (w 77 (1270 + (2 * a2)))) < 512) ∧ (∀ x5, x5 = 9 - (ck_on 9 (ck_xor a1 (w 77 (1270 + (2 * a2))))) → ck_i x5 ∧ ((0 ≤ (w 77 8)) ∧ ((0 ≤ x5) ∧ ((((w 77 8) ≤ 3 ∧ x5 ≤ 27) ∨ ((w 77 8) ≤ 10 ∧ x5 ≤ 12)) ∧ (ck_i (9 - x5) ∧ ((0 ≤ (w 77 9)) ∧ ((0 ≤ (9 - x5)) ∧ ((((w 77 9) ≤ 3 ∧ (9 - x5) ≤ 27) ∨ ((w 77 9) ≤ 10 ∧ (9 - x5) ≤ 12)) ∧ (ck_l ((ck_pw (w 77 8) x5) * (ck_pw (w 77 9) (9 - x5))) ∧ (K (some (.inr (.inl ((ck_pw (w 77 8) x5) * (ck_pw (w 77 9) (9 - x5)))))) w)))))))))))) : ck_Ex (ch_C g A R) (d + 1) mX12_fitting [.inr (.inr 76), .inl a1, .inl a2] w K :=
  ck_entry hC.1 [some (.inr (.inr 76)), some (.inl a1), some (.inl a2), none] (by decide) (Nat.le_of_ble_eq_true rfl) rfl (fun q => q) (ck_in (fun hl => (ck_bipush 2 rfl dX12_fitting_0 rfl (ck_iload_n 3 rfl 1 dX12_fitting_2 rfl rfl (ck_aload_n 4 rfl 0 dX12_fitting_3 rfl rfl (ck_getr 7 rfl dX12_fitting_4 fl_X12_7 sh_76 rfl (ck_sipush 10 rfl dX12_fitting_7 rfl (ck_iconst 11 rfl dX12_fitting_10 rfl (ck_iload_n 12 rfl 2 dX12_fitting_11 rfl rfl (ck_imul 13 rfl dX12_fitting_12 (ck_iadd 14 rfl dX12_fitting_13 (have h21 := h; have o1 := h21.1; have h20 := h21.2; (ck_iald 15 rfl dX12_fitting_14 sh_77 (shn_77 hC) o1 _ rfl (fun (q2 : ck_i (w 77 (1270 + (2 * a2)))) => (ck_ixor 16 rfl dX12_fitting_15 (have h23 := h20; have o3 := h23.1; have h22 := h23.2; (ck_callS 19 rfl [.inl (ck_xor a1 (w 77 (1270 + (2 * a2))))] [.inl 9] dX12_fitting_16 cs_X12_345 rfl rfl (Nat.le_of_ble_eq_true rfl) (And.intro (ck_rng _) True.intro) (p_X12_ones hC o3 (fun q4 => (ck_isub 20 rfl dX12_fitting_19 (ck_nmi (fun x5 e6 => (have h25 := (h22 x5 e6); have o7 := h25.1; have h24 := h25.2; (ck_istore_n 21 rfl 3 [some (.inr (.inr 76)), some (.inl a1), some (.inl a2), some (.inl x5)] dX12_fitting_20 rfl (Nat.le_of_ble_eq_true rfl) rfl rfl o7 (ck_aload_n 22 rfl 0 dX12_fitting_21 rfl rfl (ck_aload_n 23 rfl 0 dX12_fitting_22 rfl rfl (ck_getr 26 rfl dX12_fitting_23 fl_X12_7 sh_76 rfl (ck_bipush 28 rfl dX12_fitting_26 rfl (ck_iald 29 rfl dX12_fitting_28 sh_77 (shn_77 hC) (by decide) _ rfl (fun (q8 : ck_i (w 77 8)) => (ck_iload_n 30 rfl 3 dX12_fitting_29 rfl rfl (have h27 := h24; have o9 := h27.1; have h26 := h27.2; (have h29 := h26; have o10 := h29.1; have h28 := h29.2; (have h31 := h28; have o11 := h31.1; have h30 := h31.2; (ck_callV 33 rfl [.inl (w 77 8), .inl x5] [] dX12_fitting_30 cv_X12_348 sh_76 rfl rfl (Nat.le_of_ble_eq_true rfl) (And.intro q8 (And.intro o7 True.intro)) (p_X12_power hC o9 o10 o11 (fun q12 => (ck_aload_n 34 rfl 0 dX12_fitting_33 rfl rfl (ck_aload_n 35 rfl 0 dX12_fitting_34 rfl rfl (ck_getr 38 rfl dX12_fitting_35 fl_X12_7 sh_76 rfl (ck_bipush 40 rfl dX12_fitting_38 rfl (ck_iald 41 rfl dX12_fitting_40 sh_77 (shn_77 hC) (by decide) _ rfl (fun (q13 : ck_i (w 77 9)) => (ck_bipush 43 rfl dX12_fitting_41 rfl (ck_iload_n 44 rfl 3 dX12_fitting_43 rfl rfl (ck_isub 45 rfl dX12_fitting_44 (have h33 := h30; have o14 := h33.1; have h32 := h33.2; (have h35 := h32; have o15 := h35.1; have h34 := h35.2; (have h37 := h34; have o16 := h37.1; have h36 := h37.2; (have h39 := h36; have o17 := h39.1; have h38 := h39.2; (ck_callV 48 rfl [.inl (w 77 9), .inl (9 - x5)] [.inr (.inl (ck_pw (w 77 8) x5))] dX12_fitting_45 cv_X12_348 sh_76 rfl rfl (Nat.le_of_ble_eq_true rfl) (And.intro q13 (And.intro o14 True.intro)) (p_X12_power hC o15 o16 o17 (fun q18 => (ck_lmul 49 rfl dX12_fitting_48 (have h41 := h38; have o19 := h41.1; have h40 := h41.2; (ck_lret dX12_fitting_49 rfl o19 h40))))))))))))))))))))))))))))))))))))))))))))))))))))))))
theorem S_X12_fitting {g : ch_G} {A R : Nat} (hC : ck_Cx g A R) {d : Nat} {K : Option ck_V → ck_W → Prop} {w : ck_W} {a1 a2 : Int} (hI : rm_I A R w) (h1 : 0 ≤ a1 ∧ a1 < 512) (h2 : 0 ≤ a2 ∧ a2 < 12) (h : ∀ v, (1 ≤ v ∧ v ≤ 19683) → K (some (.inr (.inl v))) w) : ck_Ex (ch_C g A R) (d + 1) mX12_fitting [.inr (.inr 76), .inl a1, .inl a2] w K := by
  have f0 := rm_c0 hI.2.2.2.1
  have l0 := rm_let0 hI.2.2.2.1 h2.1 h2.2
  have xb := kb_xor9 (x := a1) (y := w 77 (1270 + 2 * a2)) h1 (by omega)
  have ob := ck_onb xb 9 (by decide)
  have b1 := ck_pw_b (b := w 77 8) (e := 9 - ck_on 9 (ck_xor a1 (w 77 (1270 + 2 * a2)))) (by omega) (by omega)
  have b2 := ck_pw_b (b := w 77 9) (e := 9 - (9 - ck_on 9 (ck_xor a1 (w 77 (1270 + 2 * a2))))) (by omega) (by omega)
  have fb := ck_fitb (h := w 77 8) (m := w 77 9) (a := 9 - ck_on 9 (ck_xor a1 (w 77 (1270 + 2 * a2)))) (n := 9) (top := 3) (by omega) (by omega) (by omega)
  have f1 := ck_fit1 (h := w 77 8) (m := w 77 9) (a := 9 - ck_on 9 (ck_xor a1 (w 77 (1270 + 2 * a2)))) (n := 9) (by omega) (by omega)
  rw [ck_p39] at fb
  refine e_X12_fitting hC ⟨by omega, by omega, fun x ex => ?_⟩
  subst ex
  exact ⟨by constructor <;> omega, by omega, by omega, by omega, by constructor <;> omega, by omega, by omega, by omega, by constructor <;> omega, h _ ⟨f1, fb⟩⟩
theorem ck_mlb {x y a b : Int} (hx : 0 ≤ x ∧ x ≤ a) (hy : 0 ≤ y ∧ y ≤ b) : 0 ≤ x * y ∧ x * y ≤ a * b := ⟨Int.mul_nonneg hx.1 hy.1, Int.mul_le_mul hx.2 hy.2 hy.1 (by omega)⟩
theorem ck_mlp {x y : Int} (hx : 1 ≤ x) (hy : 1 ≤ y) : 1 ≤ x * y := by
  have := Int.mul_le_mul hx hy (by decide) (by omega)
  omega
theorem dX12_letterOf_0 : decode cX12_letterOf 0 = .ok (.iconst (-1), 1) := dk_2 (by decide +kernel)
theorem dX12_letterOf_1 : decode cX12_letterOf 1 = .ok (.istore_n 2, 1) := dk_61 (by decide +kernel)
theorem dX12_letterOf_2 : decode cX12_letterOf 2 = .ok (.lconst 0, 1) := dk_9 (by decide +kernel)
theorem dX12_letterOf_3 : decode cX12_letterOf 3 = .ok (.lstore_n 3, 1) := dk_66 (by decide +kernel)
theorem dX12_letterOf_4 : decode cX12_letterOf 4 = .ok (.iconst 0, 1) := dk_3 (by decide +kernel)
theorem dX12_letterOf_5 : decode cX12_letterOf 5 = .ok (.istore 5, 2) := dk_54 (by decide +kernel)
theorem dX12_letterOf_7 : decode cX12_letterOf 7 = .ok (.iload 5, 2) := dk_21 (by decide +kernel)
theorem dX12_letterOf_9 : decode cX12_letterOf 9 = .ok (.aload_n 0, 1) := dk_42 (by decide +kernel)
theorem dX12_letterOf_10 : decode cX12_letterOf 10 = .ok (.getfield 7, 3) := dk_180 0 7 (by decide +kernel)
theorem dX12_letterOf_13 : decode cX12_letterOf 13 = .ok (.iconst 4, 1) := dk_7 (by decide +kernel)
theorem dX12_letterOf_14 : decode cX12_letterOf 14 = .ok (.iaload, 1) := dk_46 (by decide +kernel)
theorem dX12_letterOf_15 : decode cX12_letterOf 15 = .ok (.if_icmp .ge 55, 3) := dk_162 0 55 (by decide +kernel)
theorem dX12_letterOf_18 : decode cX12_letterOf 18 = .ok (.aload_n 0, 1) := dk_42 (by decide +kernel)
theorem dX12_letterOf_19 : decode cX12_letterOf 19 = .ok (.getfield 7, 3) := dk_180 0 7 (by decide +kernel)
theorem dX12_letterOf_22 : decode cX12_letterOf 22 = .ok (.sipush 1270, 3) := dk_17 4 246 (by decide +kernel)
theorem dX12_letterOf_25 : decode cX12_letterOf 25 = .ok (.iconst 2, 1) := dk_5 (by decide +kernel)
theorem dX12_letterOf_26 : decode cX12_letterOf 26 = .ok (.iload 5, 2) := dk_21 (by decide +kernel)
theorem dX12_letterOf_28 : decode cX12_letterOf 28 = .ok (.imul, 1) := dk_104 (by decide +kernel)
theorem dX12_letterOf_29 : decode cX12_letterOf 29 = .ok (.iadd, 1) := dk_96 (by decide +kernel)
theorem dX12_letterOf_30 : decode cX12_letterOf 30 = .ok (.iconst 1, 1) := dk_4 (by decide +kernel)
theorem dX12_letterOf_31 : decode cX12_letterOf 31 = .ok (.iadd, 1) := dk_96 (by decide +kernel)
theorem dX12_letterOf_32 : decode cX12_letterOf 32 = .ok (.iaload, 1) := dk_46 (by decide +kernel)
theorem dX12_letterOf_33 : decode cX12_letterOf 33 = .ok (.i2l, 1) := dk_133 (by decide +kernel)
theorem dX12_letterOf_34 : decode cX12_letterOf 34 = .ok (.aload_n 0, 1) := dk_42 (by decide +kernel)
theorem dX12_letterOf_35 : decode cX12_letterOf 35 = .ok (.iload_n 1, 1) := dk_27 (by decide +kernel)
theorem dX12_letterOf_36 : decode cX12_letterOf 36 = .ok (.iload 5, 2) := dk_21 (by decide +kernel)
theorem dX12_letterOf_38 : decode cX12_letterOf 38 = .ok (.invokevirtual 352, 3) := dk_182 1 96 (by decide +kernel)
theorem dX12_letterOf_41 : decode cX12_letterOf 41 = .ok (.lmul, 1) := dk_105 (by decide +kernel)
theorem dX12_letterOf_42 : decode cX12_letterOf 42 = .ok (.lstore 6, 2) := dk_55 (by decide +kernel)
theorem dX12_letterOf_44 : decode cX12_letterOf 44 = .ok (.iload_n 2, 1) := dk_28 (by decide +kernel)
theorem dX12_letterOf_45 : decode cX12_letterOf 45 = .ok (.ifCond .lt 13, 3) := dk_155 0 13 (by decide +kernel)
theorem dX12_letterOf_48 : decode cX12_letterOf 48 = .ok (.lload 6, 2) := dk_22 (by decide +kernel)
theorem dX12_letterOf_50 : decode cX12_letterOf 50 = .ok (.lload_n 3, 1) := dk_33 (by decide +kernel)
theorem dX12_letterOf_51 : decode cX12_letterOf 51 = .ok (.lcmp, 1) := dk_148 (by decide +kernel)
theorem dX12_letterOf_52 : decode cX12_letterOf 52 = .ok (.ifCond .gt 6, 3) := dk_157 0 6 (by decide +kernel)
theorem dX12_letterOf_55 : decode cX12_letterOf 55 = .ok (.goto 9, 3) := dk_167 0 9 (by decide +kernel)
theorem dX12_letterOf_58 : decode cX12_letterOf 58 = .ok (.iload 5, 2) := dk_21 (by decide +kernel)
theorem dX12_letterOf_60 : decode cX12_letterOf 60 = .ok (.istore_n 2, 1) := dk_61 (by decide +kernel)
theorem dX12_letterOf_61 : decode cX12_letterOf 61 = .ok (.lload 6, 2) := dk_22 (by decide +kernel)
theorem dX12_letterOf_63 : decode cX12_letterOf 63 = .ok (.lstore_n 3, 1) := dk_66 (by decide +kernel)
theorem dX12_letterOf_64 : decode cX12_letterOf 64 = .ok (.iinc 5 1, 3) := dk_132 1 (by decide +kernel)
theorem dX12_letterOf_67 : decode cX12_letterOf 67 = .ok (.goto (-60), 3) := dk_167 255 196 (by decide +kernel)
theorem dX12_letterOf_70 : decode cX12_letterOf 70 = .ok (.iload_n 2, 1) := dk_28 (by decide +kernel)
theorem dX12_letterOf_71 : decode cX12_letterOf 71 = .ok (.ireturn, 1) := dk_172 (by decide +kernel)
set_option maxRecDepth 8000 in
theorem e_X12_letterOf {g : ch_G} {A R : Nat} (hC : ck_Cx g A R) {d : Nat} {K : Option ck_V → ck_W → Prop} {w : ck_W} {a1 : Int} (h : ck_At (ch_C g A R) (d + 1) mX12_letterOf K 7 [some (.inr (.inr 76)), some (.inl a1), some (.inl (-1)), some (.inr (.inl 0)), none, some (.inl 0), none, none] [] w) : ck_Ex (ch_C g A R) (d + 1) mX12_letterOf [.inr (.inr 76), .inl a1] w K :=
  ck_entry hC.1 [some (.inr (.inr 76)), some (.inl a1), none, none, none, none, none, none] (by decide) (Nat.le_of_ble_eq_true rfl) rfl (fun q => q) (ck_in (fun hl => (ck_iconst 1 rfl dX12_letterOf_0 rfl (ck_istore_n 2 rfl 2 [some (.inr (.inr 76)), some (.inl a1), some (.inl (-1)), none, none, none, none, none] dX12_letterOf_1 rfl (Nat.le_of_ble_eq_true rfl) rfl rfl (show ck_i (-1) by decide) (ck_lconst 3 rfl 0 dX12_letterOf_2 rfl (ck_lstore_n 4 rfl 3 [some (.inr (.inr 76)), some (.inl a1), some (.inl (-1)), some (.inr (.inl 0)), none, none, none, none] dX12_letterOf_3 rfl (Nat.le_of_ble_eq_true rfl) rfl rfl (show ck_l 0 by decide) (ck_iconst 5 rfl dX12_letterOf_4 rfl (ck_istore 7 rfl [some (.inr (.inr 76)), some (.inl a1), some (.inl (-1)), some (.inr (.inl 0)), none, some (.inl 0), none, none] dX12_letterOf_5 (Nat.le_of_ble_eq_true rfl) rfl rfl (show ck_i 0 by decide) h))))))))
set_option maxRecDepth 8000 in
theorem r_X12_letterOf_7 {g : ch_G} {A R : Nat} (hC : ck_Cx g A R) {d : Nat} {K : Option ck_V → ck_W → Prop} {w : ck_W} {a1 a2 a3 a5 : Int} (h : ((w 77 4) ≤ a5 → K (some (.inl a2)) w) ∧ (¬ (w 77 4) ≤ a5 → (0 ≤ ((1270 + (2 * a5)) + 1) ∧ ((1270 + (2 * a5)) + 1) < 1430) ∧ (ck_CJ (ch_C g A R) d mX12_fitting [.inr (.inr 76), .inl a1, .inl a5] w (fun v5 w4 => ∀ x8, x8 = (w 77 ((1270 + (2 * a5)) + 1)) * v5 → ck_l x8 ∧ ((a2 < 0 → ck_i (a5 + 1) ∧ (ck_At (ch_C g A R) (d + 1) mX12_letterOf K 7 [some (.inr (.inr 76)), some (.inl a1), some (.inl a5), some (.inr (.inl x8)), none, some (.inl (a5 + 1)), none, none] [] w4)) ∧ (¬ a2 < 0 → (a3 < x8 → ck_i (a5 + 1) ∧ (ck_At (ch_C g A R) (d + 1) mX12_letterOf K 7 [some (.inr (.inr 76)), some (.inl a1), some (.inl a5), some (.inr (.inl x8)), none, some (.inl (a5 + 1)), none, none] [] w4)) ∧ (¬ a3 < x8 → ck_i (a5 + 1) ∧ (ck_At (ch_C g A R) (d + 1) mX12_letterOf K 7 [some (.inr (.inr 76)), some (.inl a1), some (.inl a2), some (.inr (.inl a3)), none, some (.inl (a5 + 1)), none, none] [] w4)))))))) : ck_At (ch_C g A R) (d + 1) mX12_letterOf K 7 [some (.inr (.inr 76)), some (.inl a1), some (.inl a2), some (.inr (.inl a3)), none, some (.inl a5), none, none] [] w :=
  ck_in (fun hl => (ck_iload 9 rfl dX12_letterOf_7 rfl (ck_aload_n 10 rfl 0 dX12_letterOf_9 rfl rfl (ck_getr 13 rfl dX12_letterOf_10 fl_X12_7 sh_76 rfl (ck_iconst 14 rfl dX12_letterOf_13 rfl (ck_iald 15 rfl dX12_letterOf_14 sh_77 (shn_77 hC) (by decide) _ rfl (fun (q1 : ck_i (w 77 4)) => (ck_icmp_ge 18 rfl 70 dX12_letterOf_15 rfl hl.2.2.2.2.1 q1 (fun c18 => (ck_iload_n 71 rfl 2 dX12_letterOf_70 rfl rfl (ck_iret dX12_letterOf_71 rfl hl.2.2.1 (h.1 c18)))) (fun c19 => (ck_aload_n 19 rfl 0 dX12_letterOf_18 rfl rfl (ck_getr 22 rfl dX12_letterOf_19 fl_X12_7 sh_76 rfl (ck_sipush 25 rfl dX12_letterOf_22 rfl (ck_iconst 26 rfl dX12_letterOf_25 rfl (ck_iload 28 rfl dX12_letterOf_26 rfl (ck_imul 29 rfl dX12_letterOf_28 (ck_iadd 30 rfl dX12_letterOf_29 (ck_iconst 31 rfl dX12_letterOf_30 rfl (ck_iadd 32 rfl dX12_letterOf_31 (have h21 := (h.2 c19); have o2 := h21.1; have h20 := h21.2; (ck_iald 33 rfl dX12_letterOf_32 sh_77 (shn_77 hC) o2 _ rfl (fun (q3 : ck_i (w 77 ((1270 + (2 * a5)) + 1))) => (ck_i2l 34 rfl dX12_letterOf_33 q3 (ck_aload_n 35 rfl 0 dX12_letterOf_34 rfl rfl (ck_iload_n 36 rfl 1 dX12_letterOf_35 rfl rfl (ck_iload 38 rfl dX12_letterOf_36 rfl (ck_callV 41 rfl [.inl a1, .inl a5] [.inr (.inl (w 77 ((1270 + (2 * a5)) + 1)))] dX12_letterOf_38 cv_X12_352 sh_76 rfl rfl (Nat.le_of_ble_eq_true rfl) (And.intro hl.2.1 (And.intro hl.2.2.2.2.1 True.intro)) (ck_mJ h20 (fun v5 w4 q6 h7 => (ck_lmul 42 rfl dX12_letterOf_41 (ck_nml (fun x8 e9 => (have h23 := (h7 x8 e9); have o10 := h23.1; have h22 := h23.2; (ck_lstore 44 rfl [some (.inr (.inr 76)), some (.inl a1), some (.inl a2), some (.inr (.inl a3)), none, some (.inl a5), some (.inr (.inl x8)), none] dX12_letterOf_42 (Nat.le_of_ble_eq_true rfl) rfl rfl o10 (ck_iload_n 45 rfl 2 dX12_letterOf_44 rfl rfl (ck_if_lt 48 rfl 58 dX12_letterOf_45 rfl hl.2.2.1 (fun c16 => (ck_iload 60 rfl dX12_letterOf_58 rfl (ck_istore_n 61 rfl 2 [some (.inr (.inr 76)), some (.inl a1), some (.inl a5), some (.inr (.inl a3)), none, some (.inl a5), some (.inr (.inl x8)), none] dX12_letterOf_60 rfl (Nat.le_of_ble_eq_true rfl) rfl rfl hl.2.2.2.2.1 (ck_lload 63 rfl dX12_letterOf_61 rfl (ck_lstore_n 64 rfl 3 [some (.inr (.inr 76)), some (.inl a1), some (.inl a5), some (.inr (.inl x8)), none, some (.inl a5), some (.inr (.inl x8)), none] dX12_letterOf_63 rfl (Nat.le_of_ble_eq_true rfl) rfl rfl o10 (have h25 := (h22.1 c16); have o11 := h25.1; have h24 := h25.2; (ck_iinc 67 rfl [some (.inr (.inr 76)), some (.inl a1), some (.inl a5), some (.inr (.inl x8)), none, some (.inl (a5 + 1)), some (.inr (.inl x8)), none] dX12_letterOf_64 rfl (Nat.le_of_ble_eq_true rfl) rfl rfl o11 (ck_goto 7 dX12_letterOf_67 rfl (ck_drop [some (.inr (.inr 76)), some (.inl a1), some (.inl a5), some (.inr (.inl x8)), none, some (.inl (a5 + 1)), none, none] (And.intro rfl (And.intro rfl (And.intro rfl (And.intro rfl (And.intro rfl True.intro))))) h24))))))))) (fun c17 => (ck_lload 50 rfl dX12_letterOf_48 rfl (ck_lload_n 51 rfl 3 dX12_letterOf_50 rfl rfl (ck_lcmp 52 rfl dX12_letterOf_51 o10 hl.2.2.2.1 (have h26 := (h22.2 c17); (ck_if_gt 55 rfl 58 dX12_letterOf_52 rfl ck_cmp_i (fun q => have c14 : a3 < x8 := (ck_cmp_gt.mp q); (ck_iload 60 rfl dX12_letterOf_58 rfl (ck_istore_n 61 rfl 2 [some (.inr (.inr 76)), some (.inl a1), some (.inl a5), some (.inr (.inl a3)), none, some (.inl a5), some (.inr (.inl x8)), none] dX12_letterOf_60 rfl (Nat.le_of_ble_eq_true rfl) rfl rfl hl.2.2.2.2.1 (ck_lload 63 rfl dX12_letterOf_61 rfl (ck_lstore_n 64 rfl 3 [some (.inr (.inr 76)), some (.inl a1), some (.inl a5), some (.inr (.inl x8)), none, some (.inl a5), some (.inr (.inl x8)), none] dX12_letterOf_63 rfl (Nat.le_of_ble_eq_true rfl) rfl rfl o10 (have h28 := (h26.1 c14); have o12 := h28.1; have h27 := h28.2; (ck_iinc 67 rfl [some (.inr (.inr 76)), some (.inl a1), some (.inl a5), some (.inr (.inl x8)), none, some (.inl (a5 + 1)), some (.inr (.inl x8)), none] dX12_letterOf_64 rfl (Nat.le_of_ble_eq_true rfl) rfl rfl o12 (ck_goto 7 dX12_letterOf_67 rfl (ck_drop [some (.inr (.inr 76)), some (.inl a1), some (.inl a5), some (.inr (.inl x8)), none, some (.inl (a5 + 1)), none, none] (And.intro rfl (And.intro rfl (And.intro rfl (And.intro rfl (And.intro rfl True.intro))))) h27))))))))) (fun q => have c15 : ¬ a3 < x8 := (fun r => q (ck_cmp_gt.mpr r)); (ck_goto 64 dX12_letterOf_55 rfl (have h30 := (h26.2 c15); have o13 := h30.1; have h29 := h30.2; (ck_iinc 67 rfl [some (.inr (.inr 76)), some (.inl a1), some (.inl a2), some (.inr (.inl a3)), none, some (.inl (a5 + 1)), some (.inr (.inl x8)), none] dX12_letterOf_64 rfl (Nat.le_of_ble_eq_true rfl) rfl rfl o13 (ck_goto 7 dX12_letterOf_67 rfl (ck_drop [some (.inr (.inr 76)), some (.inl a1), some (.inl a2), some (.inr (.inl a3)), none, some (.inl (a5 + 1)), none, none] (And.intro rfl (And.intro rfl (And.intro rfl (And.intro rfl (And.intro rfl True.intro))))) h29)))))))))))))))))))))))))))))))))))))))))))))))
theorem S_X12_letterOf {g : ch_G} {A R : Nat} (hC : ck_Cx g A R) {d : Nat} {K : Option ck_V → ck_W → Prop} {w : ck_W} {a1 : Int} (hI : rm_I A R w) (h1 : 0 ≤ a1 ∧ a1 < 512) (h : ∀ v, (-1 ≤ v ∧ v < w 77 4) → (1 ≤ w 77 4 → 0 ≤ v) → K (some (.inl v)) w) : ck_Ex (ch_C g A R) (d + 2) mX12_letterOf [.inr (.inr 76), .inl a1] w K := by
  have f0 := rm_c0 hI.2.2.2.1
  have l : ∀ (m : Nat) (a2 a3 a5 : Int), w 77 4 - a5 = m → 0 ≤ a5 → (-1 ≤ a2 ∧ a2 < w 77 4) → (1 ≤ a5 → 0 ≤ a2) → ck_At (ch_C g A R) (d + 2) mX12_letterOf K 7 [some (.inr (.inr 76)), some (.inl a1), some (.inl a2), some (.inr (.inl a3)), none, some (.inl a5), none, none] [] w := by
    intro m
    induction m with
    | zero =>
      intro a2 a3 a5 q1 q2 q3 q4
      exact r_X12_letterOf_7 hC ⟨fun _ => h a2 q3 (fun _ => q4 (by omega)), fun z => absurd (by omega) z⟩
    | succ m ih =>
      intro a2 a3 a5 q1 q2 q3 q4
      have l1 := rm_let1 hI.2.2.2.1 (k := a5) q2 (by omega)
      refine r_X12_letterOf_7 hC ⟨fun z => absurd z (by omega), fun _ => ⟨by omega, S_X12_fitting hC hI h1 (by omega) (fun v b => ⟨_, rfl, fun _ => fun x ex => ?_⟩)⟩⟩
      have mb := ck_mlb (x := w 77 (1270 + 2 * a5 + 1)) (y := v) (a := 99) (b := 19683) l1 (by omega)
      exact ⟨by constructor <;> omega, fun _ => ⟨by constructor <;> omega, ih _ _ _ (by omega) (by omega) (by omega) (fun _ => q2)⟩, fun _ => ⟨fun _ => ⟨by constructor <;> omega, ih _ _ _ (by omega) (by omega) (by omega) (fun _ => q2)⟩, fun _ => ⟨by constructor <;> omega, ih _ _ _ (by omega) (by omega) q3 (fun _ => by omega)⟩⟩⟩
  exact e_X12_letterOf hC (l (w 77 4).toNat (-1) 0 0 (by omega) (by omega) (by omega) (fun _ => by omega))
theorem dX12_letterOdds_0 : decode cX12_letterOdds 0 = .ok (.lconst 0, 1) := dk_9 (by decide +kernel)
theorem dX12_letterOdds_1 : decode cX12_letterOdds 1 = .ok (.lstore_n 2, 1) := dk_65 (by decide +kernel)
theorem dX12_letterOdds_2 : decode cX12_letterOdds 2 = .ok (.iconst 0, 1) := dk_3 (by decide +kernel)
theorem dX12_letterOdds_3 : decode cX12_letterOdds 3 = .ok (.istore 4, 2) := dk_54 (by decide +kernel)
theorem dX12_letterOdds_5 : decode cX12_letterOdds 5 = .ok (.iload 4, 2) := dk_21 (by decide +kernel)
theorem dX12_letterOdds_7 : decode cX12_letterOdds 7 = .ok (.aload_n 0, 1) := dk_42 (by decide +kernel)
theorem dX12_letterOdds_8 : decode cX12_letterOdds 8 = .ok (.getfield 7, 3) := dk_180 0 7 (by decide +kernel)
theorem dX12_letterOdds_11 : decode cX12_letterOdds 11 = .ok (.iconst 4, 1) := dk_7 (by decide +kernel)
theorem dX12_letterOdds_12 : decode cX12_letterOdds 12 = .ok (.iaload, 1) := dk_46 (by decide +kernel)
theorem dX12_letterOdds_13 : decode cX12_letterOdds 13 = .ok (.if_icmp .ge 36, 3) := dk_162 0 36 (by decide +kernel)
theorem dX12_letterOdds_16 : decode cX12_letterOdds 16 = .ok (.lload_n 2, 1) := dk_32 (by decide +kernel)
theorem dX12_letterOdds_17 : decode cX12_letterOdds 17 = .ok (.aload_n 0, 1) := dk_42 (by decide +kernel)
theorem dX12_letterOdds_18 : decode cX12_letterOdds 18 = .ok (.getfield 7, 3) := dk_180 0 7 (by decide +kernel)
theorem dX12_letterOdds_21 : decode cX12_letterOdds 21 = .ok (.sipush 1270, 3) := dk_17 4 246 (by decide +kernel)
theorem dX12_letterOdds_24 : decode cX12_letterOdds 24 = .ok (.iconst 2, 1) := dk_5 (by decide +kernel)
theorem dX12_letterOdds_25 : decode cX12_letterOdds 25 = .ok (.iload 4, 2) := dk_21 (by decide +kernel)
theorem dX12_letterOdds_27 : decode cX12_letterOdds 27 = .ok (.imul, 1) := dk_104 (by decide +kernel)
theorem dX12_letterOdds_28 : decode cX12_letterOdds 28 = .ok (.iadd, 1) := dk_96 (by decide +kernel)
theorem dX12_letterOdds_29 : decode cX12_letterOdds 29 = .ok (.iconst 1, 1) := dk_4 (by decide +kernel)
theorem dX12_letterOdds_30 : decode cX12_letterOdds 30 = .ok (.iadd, 1) := dk_96 (by decide +kernel)
theorem dX12_letterOdds_31 : decode cX12_letterOdds 31 = .ok (.iaload, 1) := dk_46 (by decide +kernel)
theorem dX12_letterOdds_32 : decode cX12_letterOdds 32 = .ok (.i2l, 1) := dk_133 (by decide +kernel)
theorem dX12_letterOdds_33 : decode cX12_letterOdds 33 = .ok (.aload_n 0, 1) := dk_42 (by decide +kernel)
theorem dX12_letterOdds_34 : decode cX12_letterOdds 34 = .ok (.iload_n 1, 1) := dk_27 (by decide +kernel)
theorem dX12_letterOdds_35 : decode cX12_letterOdds 35 = .ok (.iload 4, 2) := dk_21 (by decide +kernel)
theorem dX12_letterOdds_37 : decode cX12_letterOdds 37 = .ok (.invokevirtual 352, 3) := dk_182 1 96 (by decide +kernel)
theorem dX12_letterOdds_40 : decode cX12_letterOdds 40 = .ok (.lmul, 1) := dk_105 (by decide +kernel)
theorem dX12_letterOdds_41 : decode cX12_letterOdds 41 = .ok (.ladd, 1) := dk_97 (by decide +kernel)
theorem dX12_letterOdds_42 : decode cX12_letterOdds 42 = .ok (.lstore_n 2, 1) := dk_65 (by decide +kernel)
theorem dX12_letterOdds_43 : decode cX12_letterOdds 43 = .ok (.iinc 4 1, 3) := dk_132 1 (by decide +kernel)
theorem dX12_letterOdds_46 : decode cX12_letterOdds 46 = .ok (.goto (-41), 3) := dk_167 255 215 (by decide +kernel)
theorem dX12_letterOdds_49 : decode cX12_letterOdds 49 = .ok (.aload_n 0, 1) := dk_42 (by decide +kernel)
theorem dX12_letterOdds_50 : decode cX12_letterOdds 50 = .ok (.iload_n 1, 1) := dk_27 (by decide +kernel)
theorem dX12_letterOdds_51 : decode cX12_letterOdds 51 = .ok (.invokevirtual 355, 3) := dk_182 1 99 (by decide +kernel)
theorem dX12_letterOdds_54 : decode cX12_letterOdds 54 = .ok (.istore 4, 2) := dk_54 (by decide +kernel)
theorem dX12_letterOdds_56 : decode cX12_letterOdds 56 = .ok (.ldc2_w 358, 3) := dk_20 1 102 (by decide +kernel)
theorem dX12_letterOdds_59 : decode cX12_letterOdds 59 = .ok (.aload_n 0, 1) := dk_42 (by decide +kernel)
theorem dX12_letterOdds_60 : decode cX12_letterOdds 60 = .ok (.getfield 7, 3) := dk_180 0 7 (by decide +kernel)
theorem dX12_letterOdds_63 : decode cX12_letterOdds 63 = .ok (.sipush 1270, 3) := dk_17 4 246 (by decide +kernel)
theorem dX12_letterOdds_66 : decode cX12_letterOdds 66 = .ok (.iconst 2, 1) := dk_5 (by decide +kernel)
theorem dX12_letterOdds_67 : decode cX12_letterOdds 67 = .ok (.iload 4, 2) := dk_21 (by decide +kernel)
theorem dX12_letterOdds_69 : decode cX12_letterOdds 69 = .ok (.imul, 1) := dk_104 (by decide +kernel)
theorem dX12_letterOdds_70 : decode cX12_letterOdds 70 = .ok (.iadd, 1) := dk_96 (by decide +kernel)
theorem dX12_letterOdds_71 : decode cX12_letterOdds 71 = .ok (.iconst 1, 1) := dk_4 (by decide +kernel)
theorem dX12_letterOdds_72 : decode cX12_letterOdds 72 = .ok (.iadd, 1) := dk_96 (by decide +kernel)
theorem dX12_letterOdds_73 : decode cX12_letterOdds 73 = .ok (.iaload, 1) := dk_46 (by decide +kernel)
theorem dX12_letterOdds_74 : decode cX12_letterOdds 74 = .ok (.i2l, 1) := dk_133 (by decide +kernel)
theorem dX12_letterOdds_75 : decode cX12_letterOdds 75 = .ok (.lmul, 1) := dk_105 (by decide +kernel)
theorem dX12_letterOdds_76 : decode cX12_letterOdds 76 = .ok (.aload_n 0, 1) := dk_42 (by decide +kernel)
theorem dX12_letterOdds_77 : decode cX12_letterOdds 77 = .ok (.iload_n 1, 1) := dk_27 (by decide +kernel)
theorem dX12_letterOdds_78 : decode cX12_letterOdds 78 = .ok (.iload 4, 2) := dk_21 (by decide +kernel)
theorem dX12_letterOdds_80 : decode cX12_letterOdds 80 = .ok (.invokevirtual 352, 3) := dk_182 1 96 (by decide +kernel)
theorem dX12_letterOdds_83 : decode cX12_letterOdds 83 = .ok (.lmul, 1) := dk_105 (by decide +kernel)
theorem dX12_letterOdds_84 : decode cX12_letterOdds 84 = .ok (.lload_n 2, 1) := dk_32 (by decide +kernel)
theorem dX12_letterOdds_85 : decode cX12_letterOdds 85 = .ok (.ldiv, 1) := dk_109 (by decide +kernel)
theorem dX12_letterOdds_86 : decode cX12_letterOdds 86 = .ok (.l2i, 1) := dk_136 (by decide +kernel)
theorem dX12_letterOdds_87 : decode cX12_letterOdds 87 = .ok (.ireturn, 1) := dk_172 (by decide +kernel)
set_option maxRecDepth 8000 in
theorem e_X12_letterOdds {g : ch_G} {A R : Nat} (hC : ck_Cx g A R) {d : Nat} {K : Option ck_V → ck_W → Prop} {w : ck_W} {a1 : Int} (h : ck_At (ch_C g A R) (d + 1) mX12_letterOdds K 5 [some (.inr (.inr 76)), some (.inl a1), some (.inr (.inl 0)), none, some (.inl 0)] [] w) : ck_Ex (ch_C g A R) (d + 1) mX12_letterOdds [.inr (.inr 76), .inl a1] w K :=
  ck_entry hC.1 [some (.inr (.inr 76)), some (.inl a1), none, none, none] (by decide) (Nat.le_of_ble_eq_true rfl) rfl (fun q => q) (ck_in (fun hl => (ck_lconst 1 rfl 0 dX12_letterOdds_0 rfl (ck_lstore_n 2 rfl 2 [some (.inr (.inr 76)), some (.inl a1), some (.inr (.inl 0)), none, none] dX12_letterOdds_1 rfl (Nat.le_of_ble_eq_true rfl) rfl rfl (show ck_l 0 by decide) (ck_iconst 3 rfl dX12_letterOdds_2 rfl (ck_istore 5 rfl [some (.inr (.inr 76)), some (.inl a1), some (.inr (.inl 0)), none, some (.inl 0)] dX12_letterOdds_3 (Nat.le_of_ble_eq_true rfl) rfl rfl (show ck_i 0 by decide) h))))))
set_option maxRecDepth 8000 in
theorem r_X12_letterOdds_5 {g : ch_G} {A R : Nat} (hC : ck_Cx g A R) {d : Nat} {K : Option ck_V → ck_W → Prop} {w : ck_W} {a1 a2 a4 : Int} (h : ((w 77 4) ≤ a4 → ck_CI (ch_C g A R) d mX12_letterOf [.inr (.inr 76), .inl a1] w (fun v3 w2 => (0 ≤ ((1270 + (2 * v3)) + 1) ∧ ((1270 + (2 * v3)) + 1) < 1430) ∧ (ck_CJ (ch_C g A R) d mX12_fitting [.inr (.inr 76), .inl a1, .inl v3] w2 (fun v9 w8 => ck_l ((1000 * (w2 77 ((1270 + (2 * v3)) + 1))) * v9) ∧ ((¬ a2 = 0) ∧ (ck_i (((1000 * (w2 77 ((1270 + (2 * v3)) + 1))) * v9).tdiv a2) ∧ (K (some (.inl (((1000 * (w2 77 ((1270 + (2 * v3)) + 1))) * v9).tdiv a2))) w8))))))) ∧ (¬ (w 77 4) ≤ a4 → (0 ≤ ((1270 + (2 * a4)) + 1) ∧ ((1270 + (2 * a4)) + 1) < 1430) ∧ (ck_CJ (ch_C g A R) d mX12_fitting [.inr (.inr 76), .inl a1, .inl a4] w (fun v18 w17 => ∀ x21, x21 = a2 + ((w 77 ((1270 + (2 * a4)) + 1)) * v18) → ck_l x21 ∧ (ck_i (a4 + 1) ∧ (ck_At (ch_C g A R) (d + 1) mX12_letterOdds K 5 [some (.inr (.inr 76)), some (.inl a1), some (.inr (.inl x21)), none, some (.inl (a4 + 1))] [] w17)))))) : ck_At (ch_C g A R) (d + 1) mX12_letterOdds K 5 [some (.inr (.inr 76)), some (.inl a1), some (.inr (.inl a2)), none, some (.inl a4)] [] w :=
  ck_in (fun hl => (ck_iload 7 rfl dX12_letterOdds_5 rfl (ck_aload_n 8 rfl 0 dX12_letterOdds_7 rfl rfl (ck_getr 11 rfl dX12_letterOdds_8 fl_X12_7 sh_76 rfl (ck_iconst 12 rfl dX12_letterOdds_11 rfl (ck_iald 13 rfl dX12_letterOdds_12 sh_77 (shn_77 hC) (by decide) _ rfl (fun (q1 : ck_i (w 77 4)) => (ck_icmp_ge 16 rfl 49 dX12_letterOdds_13 rfl hl.2.2.2.1 q1 (fun c25 => (ck_aload_n 50 rfl 0 dX12_letterOdds_49 rfl rfl (ck_iload_n 51 rfl 1 dX12_letterOdds_50 rfl rfl (ck_callV 54 rfl [.inl a1] [] dX12_letterOdds_51 cv_X12_355 sh_76 rfl rfl (Nat.le_of_ble_eq_true rfl) (And.intro hl.2.1 True.intro) (ck_mI (h.1 c25) (fun v3 w2 q4 h5 => (ck_istore 56 rfl [some (.inr (.inr 76)), some (.inl a1), some (.inr (.inl a2)), none, some (.inl v3)] dX12_letterOdds_54 (Nat.le_of_ble_eq_true rfl) rfl rfl q4 (ck_ldc2 59 rfl 1000 kl_X12_358 dX12_letterOdds_56 rfl (ck_aload_n 60 rfl 0 dX12_letterOdds_59 rfl rfl (ck_getr 63 rfl dX12_letterOdds_60 fl_X12_7 sh_76 rfl (ck_sipush 66 rfl dX12_letterOdds_63 rfl (ck_iconst 67 rfl dX12_letterOdds_66 rfl (ck_iload 69 rfl dX12_letterOdds_67 rfl (ck_imul 70 rfl dX12_letterOdds_69 (ck_iadd 71 rfl dX12_letterOdds_70 (ck_iconst 72 rfl dX12_letterOdds_71 rfl (ck_iadd 73 rfl dX12_letterOdds_72 (have h28 := h5; have o6 := h28.1; have h27 := h28.2; (ck_iald 74 rfl dX12_letterOdds_73 sh_77 (shn_77 hC) o6 _ rfl (fun (q7 : ck_i (w2 77 ((1270 + (2 * v3)) + 1))) => (ck_i2l 75 rfl dX12_letterOdds_74 q7 (ck_lmul 76 rfl dX12_letterOdds_75 (ck_aload_n 77 rfl 0 dX12_letterOdds_76 rfl rfl (ck_iload_n 78 rfl 1 dX12_letterOdds_77 rfl rfl (ck_iload 80 rfl dX12_letterOdds_78 rfl (ck_callV 83 rfl [.inl a1, .inl v3] [.inr (.inl (1000 * (w2 77 ((1270 + (2 * v3)) + 1))))] dX12_letterOdds_80 cv_X12_352 sh_76 rfl rfl (Nat.le_of_ble_eq_true rfl) (And.intro hl.2.1 (And.intro q4 True.intro)) (ck_mJ h27 (fun v9 w8 q10 h11 => (ck_lmul 84 rfl dX12_letterOdds_83 (ck_lload_n 85 rfl 2 dX12_letterOdds_84 rfl rfl (have h30 := h11; have o12 := h30.1; have h29 := h30.2; (have h32 := h29; have o13 := h32.1; have h31 := h32.2; (ck_ldiv 86 rfl dX12_letterOdds_85 o12 hl.2.2.1 o13 (ck_l2i 87 rfl dX12_letterOdds_86 (have h34 := h31; have o14 := h34.1; have h33 := h34.2; (ck_iret dX12_letterOdds_87 rfl o14 h33)))))))))))))))))))))))))))))))))))) (fun c26 => (ck_lload_n 17 rfl 2 dX12_letterOdds_16 rfl rfl (ck_aload_n 18 rfl 0 dX12_letterOdds_17 rfl rfl (ck_getr 21 rfl dX12_letterOdds_18 fl_X12_7 sh_76 rfl (ck_sipush 24 rfl dX12_letterOdds_21 rfl (ck_iconst 25 rfl dX12_letterOdds_24 rfl (ck_iload 27 rfl dX12_letterOdds_25 rfl (ck_imul 28 rfl dX12_letterOdds_27 (ck_iadd 29 rfl dX12_letterOdds_28 (ck_iconst 30 rfl dX12_letterOdds_29 rfl (ck_iadd 31 rfl dX12_letterOdds_30 (have h36 := (h.2 c26); have o15 := h36.1; have h35 := h36.2; (ck_iald 32 rfl dX12_letterOdds_31 sh_77 (shn_77 hC) o15 _ rfl (fun (q16 : ck_i (w 77 ((1270 + (2 * a4)) + 1))) => (ck_i2l 33 rfl dX12_letterOdds_32 q16 (ck_aload_n 34 rfl 0 dX12_letterOdds_33 rfl rfl (ck_iload_n 35 rfl 1 dX12_letterOdds_34 rfl rfl (ck_iload 37 rfl dX12_letterOdds_35 rfl (ck_callV 40 rfl [.inl a1, .inl a4] [.inr (.inl (w 77 ((1270 + (2 * a4)) + 1))), .inr (.inl a2)] dX12_letterOdds_37 cv_X12_352 sh_76 rfl rfl (Nat.le_of_ble_eq_true rfl) (And.intro hl.2.1 (And.intro hl.2.2.2.1 True.intro)) (ck_mJ h35 (fun v18 w17 q19 h20 => (ck_lmul 41 rfl dX12_letterOdds_40 (ck_ladd 42 rfl dX12_letterOdds_41 (ck_nml (fun x21 e22 => (have h38 := (h20 x21 e22); have o23 := h38.1; have h37 := h38.2; (ck_lstore_n 43 rfl 2 [some (.inr (.inr 76)), some (.inl a1), some (.inr (.inl x21)), none, some (.inl a4)] dX12_letterOdds_42 rfl (Nat.le_of_ble_eq_true rfl) rfl rfl o23 (have h40 := h37; have o24 := h40.1; have h39 := h40.2; (ck_iinc 46 rfl [some (.inr (.inr 76)), some (.inl a1), some (.inr (.inl x21)), none, some (.inl (a4 + 1))] dX12_letterOdds_43 rfl (Nat.le_of_ble_eq_true rfl) rfl rfl o24 (ck_goto 5 dX12_letterOdds_46 rfl h39))))))))))))))))))))))))))))))))))))))
theorem S_X12_letterOdds {g : ch_G} {A R : Nat} (hC : ck_Cx g A R) {d : Nat} {K : Option ck_V → ck_W → Prop} {w : ck_W} {a1 : Int} (hI : rm_I A R w) (h1 : 0 ≤ a1 ∧ a1 < 512) (hl : 1 ≤ w 77 4) (h : ∀ v, K (some (.inl v)) w) : ck_Ex (ch_C g A R) (d + 3) mX12_letterOdds [.inr (.inr 76), .inl a1] w K := by
  have f0 := rm_c0 hI.2.2.2.1
  have l : ∀ (m : Nat) (a2 a4 : Int), w 77 4 - a4 = m → 0 ≤ a4 → (a4 ≤ a2 ∧ a2 ≤ 2000000 * a4) → ck_At (ch_C g A R) (d + 3) mX12_letterOdds K 5 [some (.inr (.inr 76)), some (.inl a1), some (.inr (.inl a2)), none, some (.inl a4)] [] w := by
    intro m
    induction m with
    | zero =>
      intro a2 a4 q1 q2 q3
      refine r_X12_letterOdds_5 hC ⟨fun _ => S_X12_letterOf hC hI h1 (fun v b1 b2 => ⟨_, rfl, fun _ => ?_⟩), fun z => absurd (by omega) z⟩
      have b2' := b2 hl
      have l1 := rm_let1 hI.2.2.2.1 (k := v) b2' (by omega)
      refine ⟨by omega, S_X12_fitting hC hI h1 (by omega) (fun v2 b => ⟨_, rfl, fun _ => ?_⟩)⟩
      have mb := ck_mlb (x := 1000 * w 77 (1270 + 2 * v + 1)) (y := v2) (a := 99000) (b := 19683) (by omega) (by omega)
      have tb := ck_tdb (x := 1000 * w 77 (1270 + 2 * v + 1) * v2) (y := a2) (b := 1948617000) (by omega)
      exact ⟨by constructor <;> omega, by omega, by constructor <;> omega, h _⟩
    | succ m ih =>
      intro a2 a4 q1 q2 q3
      have l1 := rm_let1 hI.2.2.2.1 (k := a4) q2 (by omega)
      have l2 := hI.2.2.2.1.2.1 a4 q2 (by omega)
      rw [show (1271 + 2 * a4 : Int) = 1270 + 2 * a4 + 1 by omega] at l2
      refine r_X12_letterOdds_5 hC ⟨fun z => absurd z (by omega), fun _ => ⟨by omega, S_X12_fitting hC hI h1 (by omega) (fun v b => ⟨_, rfl, fun _ => fun x ex => ?_⟩)⟩⟩
      have mb := ck_mlb (x := w 77 (1270 + 2 * a4 + 1)) (y := v) (a := 99) (b := 19683) l1 (by omega)
      have mp := ck_mlp (x := w 77 (1270 + 2 * a4 + 1)) (y := v) l2 b.1
      exact ⟨by constructor <;> omega, by constructor <;> omega, ih _ _ (by omega) (by omega) (by omega)⟩
  exact e_X12_letterOdds hC (l (w 77 4).toNat 0 0 (by omega) (by omega) (by omega))
theorem dX12_box_0 : decode cX12_box 0 = .ok (.aload_n 0, 1) := dk_42 (by decide +kernel)
theorem dX12_box_1 : decode cX12_box 1 = .ok (.iload_n 1, 1) := dk_27 (by decide +kernel)
theorem dX12_box_2 : decode cX12_box 2 = .ok (.invokevirtual 330, 3) := dk_182 1 74 (by decide +kernel)
theorem dX12_box_5 : decode cX12_box 5 = .ok (.ifCond .eq 34, 3) := dk_153 0 34 (by decide +kernel)
theorem dX12_box_8 : decode cX12_box 8 = .ok (.iload 4, 2) := dk_21 (by decide +kernel)
theorem dX12_box_10 : decode cX12_box 10 = .ok (.iconst 0, 1) := dk_3 (by decide +kernel)
theorem dX12_box_11 : decode cX12_box 11 = .ok (.iconst 1, 1) := dk_4 (by decide +kernel)
theorem dX12_box_12 : decode cX12_box 12 = .ok (.invokestatic 93, 3) := dk_184 0 93 (by decide +kernel)
theorem dX12_box_15 : decode cX12_box 15 = .ok (.ifCond .ne 15, 3) := dk_154 0 15 (by decide +kernel)
theorem dX12_box_18 : decode cX12_box 18 = .ok (.aload_n 0, 1) := dk_42 (by decide +kernel)
theorem dX12_box_19 : decode cX12_box 19 = .ok (.iload 4, 2) := dk_21 (by decide +kernel)
theorem dX12_box_21 : decode cX12_box 21 = .ok (.bipush 100, 2) := dk_16 100 (by decide +kernel)
theorem dX12_box_23 : decode cX12_box 23 = .ok (.isub, 1) := dk_100 (by decide +kernel)
theorem dX12_box_24 : decode cX12_box 24 = .ok (.invokevirtual 342, 3) := dk_182 1 86 (by decide +kernel)
theorem dX12_box_27 : decode cX12_box 27 = .ok (.ifCond .eq 12, 3) := dk_153 0 12 (by decide +kernel)
theorem dX12_box_30 : decode cX12_box 30 = .ok (.aload_n 0, 1) := dk_42 (by decide +kernel)
theorem dX12_box_31 : decode cX12_box 31 = .ok (.getfield 7, 3) := dk_180 0 7 (by decide +kernel)
theorem dX12_box_34 : decode cX12_box 34 = .ok (.iconst 4, 1) := dk_7 (by decide +kernel)
theorem dX12_box_35 : decode cX12_box 35 = .ok (.iaload, 1) := dk_46 (by decide +kernel)
theorem dX12_box_36 : decode cX12_box 36 = .ok (.ifCond .ne 5, 3) := dk_154 0 5 (by decide +kernel)
theorem dX12_box_39 : decode cX12_box 39 = .ok (.iconst (-1), 1) := dk_2 (by decide +kernel)
theorem dX12_box_40 : decode cX12_box 40 = .ok (.ireturn, 1) := dk_172 (by decide +kernel)
theorem dX12_box_41 : decode cX12_box 41 = .ok (.aload_n 0, 1) := dk_42 (by decide +kernel)
theorem dX12_box_42 : decode cX12_box 42 = .ok (.invokevirtual 171, 3) := dk_182 0 171 (by decide +kernel)
theorem dX12_box_45 : decode cX12_box 45 = .ok (.aload_n 0, 1) := dk_42 (by decide +kernel)
theorem dX12_box_46 : decode cX12_box 46 = .ok (.iload_n 2, 1) := dk_28 (by decide +kernel)
theorem dX12_box_47 : decode cX12_box 47 = .ok (.iload_n 3, 1) := dk_29 (by decide +kernel)
theorem dX12_box_48 : decode cX12_box 48 = .ok (.invokevirtual 360, 3) := dk_182 1 104 (by decide +kernel)
theorem dX12_box_51 : decode cX12_box 51 = .ok (.ifCond .ne 5, 3) := dk_154 0 5 (by decide +kernel)
theorem dX12_box_54 : decode cX12_box 54 = .ok (.iconst (-1), 1) := dk_2 (by decide +kernel)
theorem dX12_box_55 : decode cX12_box 55 = .ok (.ireturn, 1) := dk_172 (by decide +kernel)
theorem dX12_box_56 : decode cX12_box 56 = .ok (.aload_n 0, 1) := dk_42 (by decide +kernel)
theorem dX12_box_57 : decode cX12_box 57 = .ok (.iload_n 1, 1) := dk_27 (by decide +kernel)
theorem dX12_box_58 : decode cX12_box 58 = .ok (.iload_n 2, 1) := dk_28 (by decide +kernel)
theorem dX12_box_59 : decode cX12_box 59 = .ok (.iload_n 3, 1) := dk_29 (by decide +kernel)
theorem dX12_box_60 : decode cX12_box 60 = .ok (.invokevirtual 363, 3) := dk_182 1 107 (by decide +kernel)
theorem dX12_box_63 : decode cX12_box 63 = .ok (.istore 5, 2) := dk_54 (by decide +kernel)
theorem dX12_box_65 : decode cX12_box 65 = .ok (.iload 4, 2) := dk_21 (by decide +kernel)
theorem dX12_box_67 : decode cX12_box 67 = .ok (.ifCond .ne 12, 3) := dk_154 0 12 (by decide +kernel)
theorem dX12_box_70 : decode cX12_box 70 = .ok (.aload_n 0, 1) := dk_42 (by decide +kernel)
theorem dX12_box_71 : decode cX12_box 71 = .ok (.iload 5, 2) := dk_21 (by decide +kernel)
theorem dX12_box_73 : decode cX12_box 73 = .ok (.invokevirtual 355, 3) := dk_182 1 99 (by decide +kernel)
theorem dX12_box_76 : decode cX12_box 76 = .ok (.goto 43, 3) := dk_167 0 43 (by decide +kernel)
theorem dX12_box_79 : decode cX12_box 79 = .ok (.iload 4, 2) := dk_21 (by decide +kernel)
theorem dX12_box_81 : decode cX12_box 81 = .ok (.iconst 1, 1) := dk_4 (by decide +kernel)
theorem dX12_box_82 : decode cX12_box 82 = .ok (.if_icmp .ne 12, 3) := dk_160 0 12 (by decide +kernel)
theorem dX12_box_85 : decode cX12_box 85 = .ok (.aload_n 0, 1) := dk_42 (by decide +kernel)
theorem dX12_box_86 : decode cX12_box 86 = .ok (.iload 5, 2) := dk_21 (by decide +kernel)
theorem dX12_box_88 : decode cX12_box 88 = .ok (.invokevirtual 366, 3) := dk_182 1 110 (by decide +kernel)
theorem dX12_box_91 : decode cX12_box 91 = .ok (.goto 28, 3) := dk_167 0 28 (by decide +kernel)
theorem dX12_box_94 : decode cX12_box 94 = .ok (.bipush 9, 2) := dk_16 9 (by decide +kernel)
theorem dX12_box_96 : decode cX12_box 96 = .ok (.iload 5, 2) := dk_21 (by decide +kernel)
theorem dX12_box_98 : decode cX12_box 98 = .ok (.aload_n 0, 1) := dk_42 (by decide +kernel)
theorem dX12_box_99 : decode cX12_box 99 = .ok (.getfield 7, 3) := dk_180 0 7 (by decide +kernel)
theorem dX12_box_102 : decode cX12_box 102 = .ok (.sipush 1270, 3) := dk_17 4 246 (by decide +kernel)
theorem dX12_box_105 : decode cX12_box 105 = .ok (.iconst 2, 1) := dk_5 (by decide +kernel)
theorem dX12_box_106 : decode cX12_box 106 = .ok (.iload 4, 2) := dk_21 (by decide +kernel)
theorem dX12_box_108 : decode cX12_box 108 = .ok (.bipush 100, 2) := dk_16 100 (by decide +kernel)
theorem dX12_box_110 : decode cX12_box 110 = .ok (.isub, 1) := dk_100 (by decide +kernel)
theorem dX12_box_111 : decode cX12_box 111 = .ok (.imul, 1) := dk_104 (by decide +kernel)
theorem dX12_box_112 : decode cX12_box 112 = .ok (.iadd, 1) := dk_96 (by decide +kernel)
theorem dX12_box_113 : decode cX12_box 113 = .ok (.iaload, 1) := dk_46 (by decide +kernel)
theorem dX12_box_114 : decode cX12_box 114 = .ok (.ixor, 1) := dk_130 (by decide +kernel)
theorem dX12_box_115 : decode cX12_box 115 = .ok (.invokestatic 345, 3) := dk_184 1 89 (by decide +kernel)
theorem dX12_box_118 : decode cX12_box 118 = .ok (.isub, 1) := dk_100 (by decide +kernel)
theorem dX12_box_119 : decode cX12_box 119 = .ok (.ireturn, 1) := dk_172 (by decide +kernel)
set_option maxRecDepth 8000 in
theorem e_X12_box {g : ch_G} {A R : Nat} (hC : ck_Cx g A R) {d : Nat} {K : Option ck_V → ck_W → Prop} {w : ck_W} {a1 a2 a3 a4 : Int} (h : (0 ≤ (w 77 0) ∧ (w 77 0) ≤ 1000) ∧ ((0 ≤ a1 ∧ a1 ≤ (w 77 0) - 1 → (0 ≤ a4 ∧ a4 ≤ 1 → (¬ (w 77 4) = 0 → ck_At (ch_C g A R) (d + 2) mX12_box K 41 [some (.inr (.inr 76)), some (.inl a1), some (.inl a2), some (.inl a3), some (.inl a4), none] [] w) ∧ ((w 77 4) = 0 → K (some (.inl (-1))) w)) ∧ (¬ (0 ≤ a4 ∧ a4 ≤ 1) → (0 ≤ (w 77 4) ∧ (w 77 4) ≤ 1000) ∧ ((0 ≤ (ck_wr (a4 - 100)) ∧ (ck_wr (a4 - 100)) ≤ (w 77 4) - 1 → (¬ (w 77 4) = 0 → ck_At (ch_C g A R) (d + 2) mX12_box K 41 [some (.inr (.inr 76)), some (.inl a1), some (.inl a2), some (.inl a3), some (.inl a4), none] [] w) ∧ ((w 77 4) = 0 → K (some (.inl (-1))) w)) ∧ (¬ (0 ≤ (ck_wr (a4 - 100)) ∧ (ck_wr (a4 - 100)) ≤ (w 77 4) - 1) → K (some (.inl (-1))) w)))) ∧ (¬ (0 ≤ a1 ∧ a1 ≤ (w 77 0) - 1) → K (some (.inl (-1))) w))) : ck_Ex (ch_C g A R) (d + 2) mX12_box [.inr (.inr 76), .inl a1, .inl a2, .inl a3, .inl a4] w K :=
  ck_entry hC.1 [some (.inr (.inr 76)), some (.inl a1), some (.inl a2), some (.inl a3), some (.inl a4), none] (by decide) (Nat.le_of_ble_eq_true rfl) rfl (fun q => q) (ck_in (fun hl => (ck_aload_n 1 rfl 0 dX12_box_0 rfl rfl (ck_iload_n 2 rfl 1 dX12_box_1 rfl rfl (have h19 := h; have o1 := h19.1; have h18 := h19.2; (have h17 := h18; ck_callV 5 rfl [.inl a1] [] dX12_box_2 cv_X12_330 sh_76 rfl rfl (Nat.le_of_ble_eq_true rfl) (And.intro hl.2.1 True.intro) (p_X12_isReader hC o1 (fun c15 _ => (ck_if_eq 8 rfl 39 dX12_box_5 rfl (by decide) (fun q => absurd q (by decide)) (fun _ => (ck_iload 10 rfl dX12_box_8 rfl (ck_iconst 11 rfl dX12_box_10 rfl (ck_iconst 12 rfl dX12_box_11 rfl (have h14 := (h17.1 c15); ck_callS 15 rfl [.inl a4, .inl 0, .inl 1] [] dX12_box_12 cs_X12_93 rfl rfl (Nat.le_of_ble_eq_true rfl) (And.intro hl.2.2.2.2.1 (And.intro (show ck_i 0 by decide) (And.intro (show ck_i 1 by decide) True.intro))) (p_X12_isIn hC (fun c12 _ => (ck_if_ne 18 rfl 30 dX12_box_15 rfl (by decide) (fun _ => (ck_aload_n 31 rfl 0 dX12_box_30 rfl rfl (ck_getr 34 rfl dX12_box_31 fl_X12_7 sh_76 rfl (ck_iconst 35 rfl dX12_box_34 rfl (ck_iald 36 rfl dX12_box_35 sh_77 (shn_77 hC) (by decide) _ rfl (fun (q2 : ck_i (w 77 4)) => (have h20 := (h14.1 c12); (ck_if_ne 39 rfl 41 dX12_box_36 rfl q2 (fun c3 => (h20.1 c3)) (fun c4 => (ck_iconst 40 rfl dX12_box_39 rfl (ck_iret dX12_box_40 rfl (show ck_i (-1) by decide) (h20.2 c4)))))))))))) (fun q => absurd q (by decide)))) (fun c13 _ => (ck_if_ne 18 rfl 30 dX12_box_15 rfl (by decide) (fun q => absurd q (by decide)) (fun _ => (ck_aload_n 19 rfl 0 dX12_box_18 rfl rfl (ck_iload 21 rfl dX12_box_19 rfl (ck_bipush 23 rfl dX12_box_21 rfl (ck_isub 24 rfl dX12_box_23 (ck_wrp (have h22 := (h14.2 c13); have o5 := h22.1; have h21 := h22.2; (have h11 := h21; ck_callV 27 rfl [.inl (ck_wr (a4 - 100))] [] dX12_box_24 cv_X12_342 sh_76 rfl rfl (Nat.le_of_ble_eq_true rfl) (And.intro (ck_rng _) True.intro) (p_X12_isLetter12 hC o5 (fun c9 _ => (ck_if_eq 30 rfl 39 dX12_box_27 rfl (by decide) (fun q => absurd q (by decide)) (fun _ => (ck_aload_n 31 rfl 0 dX12_box_30 rfl rfl (ck_getr 34 rfl dX12_box_31 fl_X12_7 sh_76 rfl (ck_iconst 35 rfl dX12_box_34 rfl (ck_iald 36 rfl dX12_box_35 sh_77 (shn_77 hC) (by decide) _ rfl (fun (q6 : ck_i (w 77 4)) => (have h23 := (h11.1 c9); (ck_if_ne 39 rfl 41 dX12_box_36 rfl q6 (fun c7 => (h23.1 c7)) (fun c8 => (ck_iconst 40 rfl dX12_box_39 rfl (ck_iret dX12_box_40 rfl (show ck_i (-1) by decide) (h23.2 c8)))))))))))))) (fun c10 _ => (ck_if_eq 30 rfl 39 dX12_box_27 rfl (by decide) (fun _ => (ck_iconst 40 rfl dX12_box_39 rfl (ck_iret dX12_box_40 rfl (show ck_i (-1) by decide) (h11.2 c10)))) (fun q => absurd q (by decide))))))))))))))))))))))) (fun c16 _ => (ck_if_eq 8 rfl 39 dX12_box_5 rfl (by decide) (fun _ => (ck_iconst 40 rfl dX12_box_39 rfl (ck_iret dX12_box_40 rfl (show ck_i (-1) by decide) (h17.2 c16)))) (fun q => absurd q (by decide)))))))))))
set_option maxRecDepth 8000 in
theorem r_X12_box_41 {g : ch_G} {A R : Nat} (hC : ck_Cx g A R) {d : Nat} {K : Option ck_V → ck_W → Prop} {w : ck_W} {a1 a2 a3 a4 : Int} (h : ck_CN (ch_C g A R) (d + 1) mX12_windAll [.inr (.inr 76)] w (fun w1 => ck_CI (ch_C g A R) (d + 1) mX12_isBox [.inr (.inr 76), .inl a2, .inl a3] w1 (fun v3 w2 => (¬ v3 = 0 → ck_CI (ch_C g A R) (d + 1) mX12_bitsAt [.inr (.inr 76), .inl a1, .inl a2, .inl a3] w2 (fun v7 w6 => (¬ a4 = 0 → (¬ a4 = 1 → (0 ≤ (1270 + (2 * (a4 - 100))) ∧ (1270 + (2 * (a4 - 100))) < 1430) ∧ ((0 ≤ (ck_xor v7 (w6 77 (1270 + (2 * (a4 - 100))))) ∧ (ck_xor v7 (w6 77 (1270 + (2 * (a4 - 100))))) < 512) ∧ (ck_i (9 - (ck_on 9 (ck_xor v7 (w6 77 (1270 + (2 * (a4 - 100))))))) ∧ (K (some (.inl (9 - (ck_on 9 (ck_xor v7 (w6 77 (1270 + (2 * (a4 - 100))))))))) w6)))) ∧ (a4 = 1 → ck_CI (ch_C g A R) (d + 1) mX12_letterOdds [.inr (.inr 76), .inl v7] w6 (fun v16 w15 => K (some (.inl v16)) w15))) ∧ (a4 = 0 → ck_CI (ch_C g A R) (d + 1) mX12_letterOf [.inr (.inr 76), .inl v7] w6 (fun v22 w21 => K (some (.inl v22)) w21)))) ∧ (v3 = 0 → K (some (.inl (-1))) w2)))) : ck_At (ch_C g A R) (d + 2) mX12_box K 41 [some (.inr (.inr 76)), some (.inl a1), some (.inl a2), some (.inl a3), some (.inl a4), none] [] w :=
  ck_in (fun hl => (ck_aload_n 42 rfl 0 dX12_box_41 rfl rfl (ck_callV 45 rfl [] [] dX12_box_42 cv_X12_171 sh_76 rfl rfl (Nat.le_of_ble_eq_true rfl) True.intro (ck_mN h (fun w1 h29 => (ck_aload_n 46 rfl 0 dX12_box_45 rfl rfl (ck_iload_n 47 rfl 2 dX12_box_46 rfl rfl (ck_iload_n 48 rfl 3 dX12_box_47 rfl rfl (ck_callV 51 rfl [.inl a2, .inl a3] [] dX12_box_48 cv_X12_360 sh_76 rfl rfl (Nat.le_of_ble_eq_true rfl) (And.intro hl.2.2.1 (And.intro hl.2.2.2.1 True.intro)) (ck_mI h29 (fun v3 w2 q4 h5 => (ck_if_ne 54 rfl 56 dX12_box_51 rfl q4 (fun c27 => (ck_aload_n 57 rfl 0 dX12_box_56 rfl rfl (ck_iload_n 58 rfl 1 dX12_box_57 rfl rfl (ck_iload_n 59 rfl 2 dX12_box_58 rfl rfl (ck_iload_n 60 rfl 3 dX12_box_59 rfl rfl (ck_callV 63 rfl [.inl a1, .inl a2, .inl a3] [] dX12_box_60 cv_X12_363 sh_76 rfl rfl (Nat.le_of_ble_eq_true rfl) (And.intro hl.2.1 (And.intro hl.2.2.1 (And.intro hl.2.2.2.1 True.intro))) (ck_mI (h5.1 c27) (fun v7 w6 q8 h9 => (ck_istore 65 rfl [some (.inr (.inr 76)), some (.inl a1), some (.inl a2), some (.inl a3), some (.inl a4), some (.inl v7)] dX12_box_63 (Nat.le_of_ble_eq_true rfl) rfl rfl q8 (ck_iload 67 rfl dX12_box_65 rfl (ck_if_ne 70 rfl 79 dX12_box_67 rfl hl.2.2.2.2.1 (fun c25 => (ck_iload 81 rfl dX12_box_79 rfl (ck_iconst 82 rfl dX12_box_81 rfl (have h30 := (h9.1 c25); (ck_icmp_ne 85 rfl 94 dX12_box_82 rfl hl.2.2.2.2.1 (show ck_i 1 by decide) (fun c19 => (ck_bipush 96 rfl dX12_box_94 rfl (ck_iload 98 rfl dX12_box_96 rfl (ck_aload_n 99 rfl 0 dX12_box_98 rfl rfl (ck_getr 102 rfl dX12_box_99 fl_X12_7 sh_76 rfl (ck_sipush 105 rfl dX12_box_102 rfl (ck_iconst 106 rfl dX12_box_105 rfl (ck_iload 108 rfl dX12_box_106 rfl (ck_bipush 110 rfl dX12_box_108 rfl (ck_isub 111 rfl dX12_box_110 (ck_imul 112 rfl dX12_box_111 (ck_iadd 113 rfl dX12_box_112 (have h32 := (h30.1 c19); have o10 := h32.1; have h31 := h32.2; (ck_iald 114 rfl dX12_box_113 sh_77 (shn_77 hC) o10 _ rfl (fun (q11 : ck_i (w6 77 (1270 + (2 * (a4 - 100))))) => (ck_ixor 115 rfl dX12_box_114 (have h34 := h31; have o12 := h34.1; have h33 := h34.2; (ck_callS 118 rfl [.inl (ck_xor v7 (w6 77 (1270 + (2 * (a4 - 100)))))] [.inl 9] dX12_box_115 cs_X12_345 rfl rfl (Nat.le_of_ble_eq_true rfl) (And.intro (ck_rng _) True.intro) (p_X12_ones hC o12 (fun q13 => (ck_isub 119 rfl dX12_box_118 (have h36 := h33; have o14 := h36.1; have h35 := h36.2; (ck_iret dX12_box_119 rfl o14 h35))))))))))))))))))))))) (fun c20 => (ck_aload_n 86 rfl 0 dX12_box_85 rfl rfl (ck_iload 88 rfl dX12_box_86 rfl (ck_callV 91 rfl [.inl v7] [] dX12_box_88 cv_X12_366 sh_76 rfl rfl (Nat.le_of_ble_eq_true rfl) (And.intro q8 True.intro) (ck_mI (h30.2 c20) (fun v16 w15 q17 h18 => (ck_goto 119 dX12_box_91 rfl (ck_iret dX12_box_119 rfl q17 h18))))))))))))) (fun c26 => (ck_aload_n 71 rfl 0 dX12_box_70 rfl rfl (ck_iload 73 rfl dX12_box_71 rfl (ck_callV 76 rfl [.inl v7] [] dX12_box_73 cv_X12_355 sh_76 rfl rfl (Nat.le_of_ble_eq_true rfl) (And.intro q8 True.intro) (ck_mI (h9.2 c26) (fun v22 w21 q23 h24 => (ck_goto 119 dX12_box_76 rfl (ck_iret dX12_box_119 rfl q23 h24))))))))))))))))))) (fun c28 => (ck_iconst 55 rfl dX12_box_54 rfl (ck_iret dX12_box_55 rfl (show ck_i (-1) by decide) (h5.2 c28))))))))))))))))
theorem M_box {g : ch_G} {A R : Nat} (hC : ck_Cx g A R) {d : Nat} {K : Option ck_V → ck_W → Prop} {w : ck_W} {a1 a2 a3 a4 : Int} (hI : rm_I A R w) (h : ∀ v w', rm_q w w' → K (some (.inl v)) w') : ck_Ex (ch_C g A R) (d + 7) mX12_box [.inr (.inr 76), .inl a1, .inl a2, .inl a3, .inl a4] w K := by
  refine ck_exi (fun ha => ?_)
  have f0 := rm_c0 hI.2.2.2.1
  have i3 : ck_i a3 := ha.2.2.2.1
  have i4 : ck_i a4 := ha.2.2.2.2.1
  have main : (0 ≤ a1 ∧ a1 ≤ w 77 0 - 1) → ¬ w 77 4 = 0 → (0 ≤ a4 ∧ a4 ≤ 1) ∨ (0 ≤ a4 - 100 ∧ a4 - 100 ≤ w 77 4 - 1) → ck_At (ch_C g A R) (d + 7) mX12_box K 41 [some (.inr (.inr 76)), some (.inl a1), some (.inl a2), some (.inl a3), some (.inl a4), none] [] w := fun q1 q2 q3 => by
    refine r_X12_box_41 hC (S_X12_windAll hC hI (fun w1 i1 i2 => ⟨rfl, ?_⟩))
    have s1 : rm_st A R w w1 := ⟨rm_q_wf i1, rm_I_q hI (rm_q_wf i1), rm_wa_of hC hI i1 i2⟩
    have s11 : rm_st A R w1 w1 := ⟨rm_q_rf, s1.2⟩
    have e77 := s1.1.2.1
    refine S_X12_isBox hC s1.2.1 i3 (fun bx => ⟨_, rfl, fun _ => ⟨fun _ => ?_, fun z => absurd z (by decide)⟩⟩) ⟨_, rfl, fun _ => ⟨fun z => absurd rfl z, fun _ => h _ _ s1.1⟩⟩
    refine S_X12_bitsAt hC s11 (by rw [e77]; omega) bx (fun v w2 b1 b2 => ⟨_, rfl, fun _ => ?_⟩)
    have s2 := rm_st_ink s1 b2
    have e772 := s2.1.2.1
    have l0 : 0 ≤ a4 - 100 → a4 - 100 ≤ w 77 4 - 1 → 0 ≤ w 77 (1270 + 2 * (a4 - 100)) ∧ w 77 (1270 + 2 * (a4 - 100)) ≤ 511 := fun x y => rm_let0 hI.2.2.2.1 x (by omega)
    refine ⟨fun z => ⟨fun z2 => ?_, fun z2 => S_X12_letterOdds hC s2.2.1 b1 (by rw [e772]; omega) (fun v => ⟨_, rfl, fun _ => h _ _ s2.1⟩)⟩, fun z => S_X12_letterOf hC s2.2.1 b1 (fun v _ _ => ⟨_, rfl, fun _ => h _ _ s2.1⟩)⟩
    have lb := l0 (by omega) (by omega)
    have xb := kb_xor9 (x := v) (y := w 77 (1270 + 2 * (a4 - 100))) b1 (by omega)
    have ob := ck_onb xb 9 (by decide)
    rw [e772]
    exact ⟨by omega, xb, by constructor <;> omega, h _ _ s2.1⟩
  have c4 := ck_wr_add (a := a4) (b := -100) i4 (by omega)
  rw [show a4 + -100 = a4 - 100 by omega] at c4
  refine e_X12_box hC ⟨by omega, fun q1 => ⟨fun q2 => ⟨fun q3 => main q1 q3 (Or.inl q2), fun _ => h _ _ rm_q_rf⟩, fun q2 => ⟨by omega, fun q3 => ⟨fun q4 => main q1 q4 (Or.inr (by omega)), fun _ => h _ _ rm_q_rf⟩, fun _ => h _ _ rm_q_rf⟩⟩, fun _ => h _ _ rm_q_rf⟩
