/-! ===== the reference: methods that only set and tell ===== -/
theorem dX12_grey_0 : decode cX12_grey 0 = .ok (.iload_n 1, 1) := by decide +kernel
theorem dX12_grey_1 : decode cX12_grey 1 = .ok (.invokestatic 97, 3) := by decide +kernel
theorem dX12_grey_4 : decode cX12_grey 4 = .ok (.ifCond .eq 41, 3) := by decide +kernel
theorem dX12_grey_7 : decode cX12_grey 7 = .ok (.iload_n 2, 1) := by decide +kernel
theorem dX12_grey_8 : decode cX12_grey 8 = .ok (.iconst 0, 1) := by decide +kernel
theorem dX12_grey_9 : decode cX12_grey 9 = .ok (.aload_n 0, 1) := by decide +kernel
theorem dX12_grey_10 : decode cX12_grey 10 = .ok (.getfield 80, 3) := by decide +kernel
theorem dX12_grey_13 : decode cX12_grey 13 = .ok (.iconst 1, 1) := by decide +kernel
theorem dX12_grey_14 : decode cX12_grey 14 = .ok (.isub, 1) := by decide +kernel
theorem dX12_grey_15 : decode cX12_grey 15 = .ok (.invokestatic 93, 3) := by decide +kernel
theorem dX12_grey_18 : decode cX12_grey 18 = .ok (.ifCond .eq 27, 3) := by decide +kernel
theorem dX12_grey_21 : decode cX12_grey 21 = .ok (.aload_n 0, 1) := by decide +kernel
theorem dX12_grey_22 : decode cX12_grey 22 = .ok (.iload_n 3, 1) := by decide +kernel
theorem dX12_grey_23 : decode cX12_grey 23 = .ok (.invokevirtual 101, 3) := by decide +kernel
theorem dX12_grey_26 : decode cX12_grey 26 = .ok (.ifCond .eq 19, 3) := by decide +kernel
theorem dX12_grey_29 : decode cX12_grey 29 = .ok (.iload 4, 2) := by decide +kernel
theorem dX12_grey_31 : decode cX12_grey 31 = .ok (.invokestatic 104, 3) := by decide +kernel
theorem dX12_grey_34 : decode cX12_grey 34 = .ok (.ifCond .eq 11, 3) := by decide +kernel
theorem dX12_grey_37 : decode cX12_grey 37 = .ok (.iload 5, 2) := by decide +kernel
theorem dX12_grey_39 : decode cX12_grey 39 = .ok (.invokestatic 104, 3) := by decide +kernel
theorem dX12_grey_42 : decode cX12_grey 42 = .ok (.ifCond .ne 5, 3) := by decide +kernel
theorem dX12_grey_45 : decode cX12_grey 45 = .ok (.iconst 0, 1) := by decide +kernel
theorem dX12_grey_46 : decode cX12_grey 46 = .ok (.ireturn, 1) := by decide +kernel
theorem dX12_grey_47 : decode cX12_grey 47 = .ok (.aload_n 0, 1) := by decide +kernel
theorem dX12_grey_48 : decode cX12_grey 48 = .ok (.getfield 7, 3) := by decide +kernel
theorem dX12_grey_51 : decode cX12_grey 51 = .ok (.bipush 20, 2) := by decide +kernel
theorem dX12_grey_53 : decode cX12_grey 53 = .ok (.iload_n 1, 1) := by decide +kernel
theorem dX12_grey_54 : decode cX12_grey 54 = .ok (.iload_n 2, 1) := by decide +kernel
theorem dX12_grey_55 : decode cX12_grey 55 = .ok (.iload_n 3, 1) := by decide +kernel
theorem dX12_grey_56 : decode cX12_grey 56 = .ok (.invokestatic 107, 3) := by decide +kernel
theorem dX12_grey_59 : decode cX12_grey 59 = .ok (.iadd, 1) := by decide +kernel
theorem dX12_grey_60 : decode cX12_grey 60 = .ok (.iload 4, 2) := by decide +kernel
theorem dX12_grey_62 : decode cX12_grey 62 = .ok (.iastore, 1) := by decide +kernel
theorem dX12_grey_63 : decode cX12_grey 63 = .ok (.aload_n 0, 1) := by decide +kernel
theorem dX12_grey_64 : decode cX12_grey 64 = .ok (.getfield 7, 3) := by decide +kernel
theorem dX12_grey_67 : decode cX12_grey 67 = .ok (.sipush 460, 3) := by decide +kernel
theorem dX12_grey_70 : decode cX12_grey 70 = .ok (.iload_n 1, 1) := by decide +kernel
theorem dX12_grey_71 : decode cX12_grey 71 = .ok (.iload_n 2, 1) := by decide +kernel
theorem dX12_grey_72 : decode cX12_grey 72 = .ok (.iload_n 3, 1) := by decide +kernel
theorem dX12_grey_73 : decode cX12_grey 73 = .ok (.invokestatic 107, 3) := by decide +kernel
theorem dX12_grey_76 : decode cX12_grey 76 = .ok (.iadd, 1) := by decide +kernel
theorem dX12_grey_77 : decode cX12_grey 77 = .ok (.iload 5, 2) := by decide +kernel
theorem dX12_grey_79 : decode cX12_grey 79 = .ok (.iastore, 1) := by decide +kernel
theorem dX12_grey_80 : decode cX12_grey 80 = .ok (.iconst 1, 1) := by decide +kernel
theorem dX12_grey_81 : decode cX12_grey 81 = .ok (.ireturn, 1) := by decide +kernel
set_option maxRecDepth 8000 in
theorem e_X12_grey {g : ch_G} {A R : Nat} (hC : ck_Cx g A R) {d : Nat} {K : Option ck_V → ck_W → Prop} {w : ck_W} {a1 a2 a3 a4 a5 : Int} (h : (0 ≤ a1 ∧ a1 ≤ 5 → ck_i ((w 76 0) - 1) ∧ ((0 ≤ a2 ∧ a2 ≤ ((w 76 0) - 1) → (1 ≤ (w 76 1) ∧ (w 76 1) ≤ 1000) ∧ ((0 ≤ a3 ∧ a3 ≤ (w 76 1) - 1 → (0 ≤ a4 ∧ a4 ≤ 9 → (0 ≤ a5 ∧ a5 ≤ 9 → (ck_i (72 * a1 + 12 * a2 + a3)) ∧ ((0 ≤ (20 + (72 * a1 + 12 * a2 + a3)) ∧ (20 + (72 * a1 + 12 * a2 + a3)) < 1430) ∧ ((0 ≤ (460 + (72 * a1 + 12 * a2 + a3)) ∧ (460 + (72 * a1 + 12 * a2 + a3)) < 1430) ∧ (K (some (.inl 1)) (ck_up (ck_up w 77 (20 + (72 * a1 + 12 * a2 + a3)) a4) 77 (460 + (72 * a1 + 12 * a2 + a3)) a5))))) ∧ (¬ (0 ≤ a5 ∧ a5 ≤ 9) → K (some (.inl 0)) w)) ∧ (¬ (0 ≤ a4 ∧ a4 ≤ 9) → K (some (.inl 0)) w)) ∧ (¬ (0 ≤ a3 ∧ a3 ≤ (w 76 1) - 1) → K (some (.inl 0)) w))) ∧ (¬ (0 ≤ a2 ∧ a2 ≤ ((w 76 0) - 1)) → K (some (.inl 0)) w))) ∧ (¬ (0 ≤ a1 ∧ a1 ≤ 5) → K (some (.inl 0)) w)) : ck_Ex (ch_C g A R) (d + 2) mX12_grey [.inr (.inr 76), .inl a1, .inl a2, .inl a3, .inl a4, .inl a5] w K :=
  ck_entry hC.1 [some (.inr (.inr 76)), some (.inl a1), some (.inl a2), some (.inl a3), some (.inl a4), some (.inl a5)] (by decide) (Nat.le_of_ble_eq_true rfl) rfl (fun q => q) (ck_in (fun hl => (ck_iload_n 1 rfl 1 dX12_grey_0 rfl rfl (have h23 := h; ck_callS 4 rfl [.inl a1] [] dX12_grey_1 cs_X12_97 rfl rfl (Nat.le_of_ble_eq_true rfl) (And.intro hl.2.1 True.intro) (p_X12_isSlice hC (fun c21 _ => (ck_if_eq 7 rfl 45 dX12_grey_4 rfl (by decide) (fun q => absurd q (by decide)) (fun _ => (ck_iload_n 8 rfl 2 dX12_grey_7 rfl rfl (ck_iconst 9 rfl dX12_grey_8 rfl (ck_aload_n 10 rfl 0 dX12_grey_9 rfl rfl (ck_geti 13 rfl 0 dX12_grey_10 fl_X12_80 sh_76 rfl rfl _ rfl (fun (q1 : ck_i (w 76 0)) => (ck_iconst 14 rfl dX12_grey_13 rfl (ck_isub 15 rfl dX12_grey_14 (have h25 := (h23.1 c21); have o2 := h25.1; have h24 := h25.2; (have h20 := h24; ck_callS 18 rfl [.inl a2, .inl 0, .inl ((w 76 0) - 1)] [] dX12_grey_15 cs_X12_93 rfl rfl (Nat.le_of_ble_eq_true rfl) (And.intro hl.2.2.1 (And.intro (show ck_i 0 by decide) (And.intro o2 True.intro))) (p_X12_isIn hC (fun c18 _ => (ck_if_eq 21 rfl 45 dX12_grey_18 rfl (by decide) (fun q => absurd q (by decide)) (fun _ => (ck_aload_n 22 rfl 0 dX12_grey_21 rfl rfl (ck_iload_n 23 rfl 3 dX12_grey_22 rfl rfl (have h27 := (h20.1 c18); have o3 := h27.1; have h26 := h27.2; (have h17 := h26; ck_callV 26 rfl [.inl a3] [] dX12_grey_23 cv_X12_101 sh_76 rfl rfl (Nat.le_of_ble_eq_true rfl) (And.intro hl.2.2.2.1 True.intro) (p_X12_isRadius hC o3 (fun c15 _ => (ck_if_eq 29 rfl 45 dX12_grey_26 rfl (by decide) (fun q => absurd q (by decide)) (fun _ => (ck_iload 31 rfl dX12_grey_29 rfl (have h14 := (h17.1 c15); ck_callS 34 rfl [.inl a4] [] dX12_grey_31 cs_X12_104 rfl rfl (Nat.le_of_ble_eq_true rfl) (And.intro hl.2.2.2.2.1 True.intro) (p_X12_isDigit10 hC (fun c12 _ => (ck_if_eq 37 rfl 45 dX12_grey_34 rfl (by decide) (fun q => absurd q (by decide)) (fun _ => (ck_iload 39 rfl dX12_grey_37 rfl (have h11 := (h14.1 c12); ck_callS 42 rfl [.inl a5] [] dX12_grey_39 cs_X12_104 rfl rfl (Nat.le_of_ble_eq_true rfl) (And.intro hl.2.2.2.2.2.1 True.intro) (p_X12_isDigit10 hC (fun c9 _ => (ck_if_ne 45 rfl 47 dX12_grey_42 rfl (by decide) (fun _ => (ck_aload_n 48 rfl 0 dX12_grey_47 rfl rfl (ck_getr 51 rfl dX12_grey_48 fl_X12_7 sh_76 rfl (ck_bipush 53 rfl dX12_grey_51 rfl (ck_iload_n 54 rfl 1 dX12_grey_53 rfl rfl (ck_iload_n 55 rfl 2 dX12_grey_54 rfl rfl (ck_iload_n 56 rfl 3 dX12_grey_55 rfl rfl (have h29 := (h11.1 c9); have o4 := h29.1; have h28 := h29.2; (ck_callS 59 rfl [.inl a1, .inl a2, .inl a3] [.inl 20, .inr (.inr 77)] dX12_grey_56 cs_X12_107 rfl rfl (Nat.le_of_ble_eq_true rfl) (And.intro hl.2.1 (And.intro hl.2.2.1 (And.intro hl.2.2.2.1 True.intro))) (p_X12_spot hC o4 (fun q5 => (ck_iadd 60 rfl dX12_grey_59 (ck_iload 62 rfl dX12_grey_60 rfl (have h31 := h28; have o6 := h31.1; have h30 := h31.2; (ck_iast 63 rfl dX12_grey_62 sh_77 (shn_77 hC) o6 hl.2.2.2.2.1 (ck_aload_n 64 rfl 0 dX12_grey_63 rfl rfl (ck_getr 67 rfl dX12_grey_64 fl_X12_7 sh_76 rfl (ck_sipush 70 rfl dX12_grey_67 rfl (ck_iload_n 71 rfl 1 dX12_grey_70 rfl rfl (ck_iload_n 72 rfl 2 dX12_grey_71 rfl rfl (ck_iload_n 73 rfl 3 dX12_grey_72 rfl rfl (ck_callS 76 rfl [.inl a1, .inl a2, .inl a3] [.inl 460, .inr (.inr 77)] dX12_grey_73 cs_X12_107 rfl rfl (Nat.le_of_ble_eq_true rfl) (And.intro hl.2.1 (And.intro hl.2.2.1 (And.intro hl.2.2.2.1 True.intro))) (p_X12_spot hC o4 (fun q7 => (ck_iadd 77 rfl dX12_grey_76 (ck_iload 79 rfl dX12_grey_77 rfl (have h33 := h30; have o8 := h33.1; have h32 := h33.2; (ck_iast 80 rfl dX12_grey_79 sh_77 (shn_77 hC) o8 hl.2.2.2.2.2.1 (ck_iconst 81 rfl dX12_grey_80 rfl (ck_zret dX12_grey_81 rfl (by decide) h32)))))))))))))))))))))))))))))) (fun q => absurd q (by decide)))) (fun c10 _ => (ck_if_ne 45 rfl 47 dX12_grey_42 rfl (by decide) (fun q => absurd q (by decide)) (fun _ => (ck_iconst 46 rfl dX12_grey_45 rfl (ck_zret dX12_grey_46 rfl (by decide) (h11.2 c10)))))))))))) (fun c13 _ => (ck_if_eq 37 rfl 45 dX12_grey_34 rfl (by decide) (fun _ => (ck_iconst 46 rfl dX12_grey_45 rfl (ck_zret dX12_grey_46 rfl (by decide) (h14.2 c13)))) (fun q => absurd q (by decide)))))))))) (fun c16 _ => (ck_if_eq 29 rfl 45 dX12_grey_26 rfl (by decide) (fun _ => (ck_iconst 46 rfl dX12_grey_45 rfl (ck_zret dX12_grey_46 rfl (by decide) (h17.2 c16)))) (fun q => absurd q (by decide)))))))))))) (fun c19 _ => (ck_if_eq 21 rfl 45 dX12_grey_18 rfl (by decide) (fun _ => (ck_iconst 46 rfl dX12_grey_45 rfl (ck_zret dX12_grey_46 rfl (by decide) (h20.2 c19)))) (fun q => absurd q (by decide))))))))))))))))) (fun c22 _ => (ck_if_eq 7 rfl 45 dX12_grey_4 rfl (by decide) (fun _ => (ck_iconst 46 rfl dX12_grey_45 rfl (ck_zret dX12_grey_46 rfl (by decide) (h23.2 c22)))) (fun q => absurd q (by decide)))))))))
theorem dX12_wound_0 : decode cX12_wound 0 = .ok (.iload_n 1, 1) := by decide +kernel
theorem dX12_wound_1 : decode cX12_wound 1 = .ok (.invokestatic 97, 3) := by decide +kernel
theorem dX12_wound_4 : decode cX12_wound 4 = .ok (.ifCond .eq 12, 3) := by decide +kernel
theorem dX12_wound_7 : decode cX12_wound 7 = .ok (.iload_n 2, 1) := by decide +kernel
theorem dX12_wound_8 : decode cX12_wound 8 = .ok (.iconst 1, 1) := by decide +kernel
theorem dX12_wound_9 : decode cX12_wound 9 = .ok (.iconst 4, 1) := by decide +kernel
theorem dX12_wound_10 : decode cX12_wound 10 = .ok (.invokestatic 93, 3) := by decide +kernel
theorem dX12_wound_13 : decode cX12_wound 13 = .ok (.ifCond .ne 5, 3) := by decide +kernel
theorem dX12_wound_16 : decode cX12_wound 16 = .ok (.iconst 0, 1) := by decide +kernel
theorem dX12_wound_17 : decode cX12_wound 17 = .ok (.ireturn, 1) := by decide +kernel
theorem dX12_wound_18 : decode cX12_wound 18 = .ok (.aload_n 0, 1) := by decide +kernel
theorem dX12_wound_19 : decode cX12_wound 19 = .ok (.getfield 7, 3) := by decide +kernel
theorem dX12_wound_22 : decode cX12_wound 22 = .ok (.bipush 10, 2) := by decide +kernel
theorem dX12_wound_24 : decode cX12_wound 24 = .ok (.iload_n 1, 1) := by decide +kernel
theorem dX12_wound_25 : decode cX12_wound 25 = .ok (.iadd, 1) := by decide +kernel
theorem dX12_wound_26 : decode cX12_wound 26 = .ok (.iload_n 2, 1) := by decide +kernel
theorem dX12_wound_27 : decode cX12_wound 27 = .ok (.iastore, 1) := by decide +kernel
theorem dX12_wound_28 : decode cX12_wound 28 = .ok (.iconst 1, 1) := by decide +kernel
theorem dX12_wound_29 : decode cX12_wound 29 = .ok (.ireturn, 1) := by decide +kernel
set_option maxRecDepth 8000 in
theorem e_X12_wound {g : ch_G} {A R : Nat} (hC : ck_Cx g A R) {d : Nat} {K : Option ck_V → ck_W → Prop} {w : ck_W} {a1 a2 : Int} (h : (0 ≤ a1 ∧ a1 ≤ 5 → (1 ≤ a2 ∧ a2 ≤ 4 → (0 ≤ (10 + a1) ∧ (10 + a1) < 1430) ∧ (K (some (.inl 1)) (ck_up w 77 (10 + a1) a2))) ∧ (¬ (1 ≤ a2 ∧ a2 ≤ 4) → K (some (.inl 0)) w)) ∧ (¬ (0 ≤ a1 ∧ a1 ≤ 5) → K (some (.inl 0)) w)) : ck_Ex (ch_C g A R) (d + 2) mX12_wound [.inr (.inr 76), .inl a1, .inl a2] w K :=
  ck_entry hC.1 [some (.inr (.inr 76)), some (.inl a1), some (.inl a2)] (by decide) (Nat.le_of_ble_eq_true rfl) rfl (fun q => q) (ck_in (fun hl => (ck_iload_n 1 rfl 1 dX12_wound_0 rfl rfl (have h7 := h; ck_callS 4 rfl [.inl a1] [] dX12_wound_1 cs_X12_97 rfl rfl (Nat.le_of_ble_eq_true rfl) (And.intro hl.2.1 True.intro) (p_X12_isSlice hC (fun c5 _ => (ck_if_eq 7 rfl 16 dX12_wound_4 rfl (by decide) (fun q => absurd q (by decide)) (fun _ => (ck_iload_n 8 rfl 2 dX12_wound_7 rfl rfl (ck_iconst 9 rfl dX12_wound_8 rfl (ck_iconst 10 rfl dX12_wound_9 rfl (have h4 := (h7.1 c5); ck_callS 13 rfl [.inl a2, .inl 1, .inl 4] [] dX12_wound_10 cs_X12_93 rfl rfl (Nat.le_of_ble_eq_true rfl) (And.intro hl.2.2.1 (And.intro (show ck_i 1 by decide) (And.intro (show ck_i 4 by decide) True.intro))) (p_X12_isIn hC (fun c2 _ => (ck_if_ne 16 rfl 18 dX12_wound_13 rfl (by decide) (fun _ => (ck_aload_n 19 rfl 0 dX12_wound_18 rfl rfl (ck_getr 22 rfl dX12_wound_19 fl_X12_7 sh_76 rfl (ck_bipush 24 rfl dX12_wound_22 rfl (ck_iload_n 25 rfl 1 dX12_wound_24 rfl rfl (ck_iadd 26 rfl dX12_wound_25 (ck_iload_n 27 rfl 2 dX12_wound_26 rfl rfl (have h9 := (h4.1 c2); have o1 := h9.1; have h8 := h9.2; (ck_iast 28 rfl dX12_wound_27 sh_77 (shn_77 hC) o1 hl.2.2.1 (ck_iconst 29 rfl dX12_wound_28 rfl (ck_zret dX12_wound_29 rfl (by decide) h8))))))))))) (fun q => absurd q (by decide)))) (fun c3 _ => (ck_if_ne 16 rfl 18 dX12_wound_13 rfl (by decide) (fun q => absurd q (by decide)) (fun _ => (ck_iconst 17 rfl dX12_wound_16 rfl (ck_zret dX12_wound_17 rfl (by decide) (h4.2 c3)))))))))))))) (fun c6 _ => (ck_if_eq 7 rfl 16 dX12_wound_4 rfl (by decide) (fun _ => (ck_iconst 17 rfl dX12_wound_16 rfl (ck_zret dX12_wound_17 rfl (by decide) (h7.2 c6)))) (fun q => absurd q (by decide)))))))))
theorem dX12_jump_0 : decode cX12_jump 0 = .ok (.iload_n 1, 1) := by decide +kernel
theorem dX12_jump_1 : decode cX12_jump 1 = .ok (.iconst 0, 1) := by decide +kernel
theorem dX12_jump_2 : decode cX12_jump 2 = .ok (.bipush 99, 2) := by decide +kernel
theorem dX12_jump_4 : decode cX12_jump 4 = .ok (.invokestatic 93, 3) := by decide +kernel
theorem dX12_jump_7 : decode cX12_jump 7 = .ok (.ifCond .ne 5, 3) := by decide +kernel
theorem dX12_jump_10 : decode cX12_jump 10 = .ok (.iconst 0, 1) := by decide +kernel
theorem dX12_jump_11 : decode cX12_jump 11 = .ok (.ireturn, 1) := by decide +kernel
theorem dX12_jump_12 : decode cX12_jump 12 = .ok (.aload_n 0, 1) := by decide +kernel
theorem dX12_jump_13 : decode cX12_jump 13 = .ok (.getfield 7, 3) := by decide +kernel
theorem dX12_jump_16 : decode cX12_jump 16 = .ok (.bipush 7, 2) := by decide +kernel
theorem dX12_jump_18 : decode cX12_jump 18 = .ok (.iload_n 1, 1) := by decide +kernel
theorem dX12_jump_19 : decode cX12_jump 19 = .ok (.iastore, 1) := by decide +kernel
theorem dX12_jump_20 : decode cX12_jump 20 = .ok (.iconst 1, 1) := by decide +kernel
theorem dX12_jump_21 : decode cX12_jump 21 = .ok (.ireturn, 1) := by decide +kernel
set_option maxRecDepth 8000 in
theorem e_X12_jump {g : ch_G} {A R : Nat} (hC : ck_Cx g A R) {d : Nat} {K : Option ck_V → ck_W → Prop} {w : ck_W} {a1 : Int} (h : (0 ≤ a1 ∧ a1 ≤ 99 → K (some (.inl 1)) (ck_up w 77 7 a1)) ∧ (¬ (0 ≤ a1 ∧ a1 ≤ 99) → K (some (.inl 0)) w)) : ck_Ex (ch_C g A R) (d + 1) mX12_jump [.inr (.inr 76), .inl a1] w K :=
  ck_entry hC.1 [some (.inr (.inr 76)), some (.inl a1)] (by decide) (Nat.le_of_ble_eq_true rfl) rfl (fun q => q) (ck_in (fun hl => (ck_iload_n 1 rfl 1 dX12_jump_0 rfl rfl (ck_iconst 2 rfl dX12_jump_1 rfl (ck_bipush 4 rfl dX12_jump_2 rfl (have h3 := h; ck_callS 7 rfl [.inl a1, .inl 0, .inl 99] [] dX12_jump_4 cs_X12_93 rfl rfl (Nat.le_of_ble_eq_true rfl) (And.intro hl.2.1 (And.intro (show ck_i 0 by decide) (And.intro (show ck_i 99 by decide) True.intro))) (p_X12_isIn hC (fun c1 _ => (ck_if_ne 10 rfl 12 dX12_jump_7 rfl (by decide) (fun _ => (ck_aload_n 13 rfl 0 dX12_jump_12 rfl rfl (ck_getr 16 rfl dX12_jump_13 fl_X12_7 sh_76 rfl (ck_bipush 18 rfl dX12_jump_16 rfl (ck_iload_n 19 rfl 1 dX12_jump_18 rfl rfl (ck_iast 20 rfl dX12_jump_19 sh_77 (shn_77 hC) (by decide) hl.2.1 (ck_iconst 21 rfl dX12_jump_20 rfl (ck_zret dX12_jump_21 rfl (by decide) (h3.1 c1))))))))) (fun q => absurd q (by decide)))) (fun c2 _ => (ck_if_ne 10 rfl 12 dX12_jump_7 rfl (by decide) (fun q => absurd q (by decide)) (fun _ => (ck_iconst 11 rfl dX12_jump_10 rfl (ck_zret dX12_jump_11 rfl (by decide) (h3.2 c2)))))))))))))
theorem dX12_step_0 : decode cX12_step 0 = .ok (.aload_n 0, 1) := by decide +kernel
theorem dX12_step_1 : decode cX12_step 1 = .ok (.iload_n 1, 1) := by decide +kernel
theorem dX12_step_2 : decode cX12_step 2 = .ok (.invokevirtual 101, 3) := by decide +kernel
theorem dX12_step_5 : decode cX12_step 5 = .ok (.ifCond .eq 14, 3) := by decide +kernel
theorem dX12_step_8 : decode cX12_step 8 = .ok (.aload_n 0, 1) := by decide +kernel
theorem dX12_step_9 : decode cX12_step 9 = .ok (.getfield 7, 3) := by decide +kernel
theorem dX12_step_12 : decode cX12_step 12 = .ok (.iconst 2, 1) := by decide +kernel
theorem dX12_step_13 : decode cX12_step 13 = .ok (.iaload, 1) := by decide +kernel
theorem dX12_step_14 : decode cX12_step 14 = .ok (.bipush 30, 2) := by decide +kernel
theorem dX12_step_16 : decode cX12_step 16 = .ok (.if_icmp .ne 5, 3) := by decide +kernel
theorem dX12_step_19 : decode cX12_step 19 = .ok (.iconst (-1), 1) := by decide +kernel
theorem dX12_step_20 : decode cX12_step 20 = .ok (.ireturn, 1) := by decide +kernel
theorem dX12_step_21 : decode cX12_step 21 = .ok (.aload_n 0, 1) := by decide +kernel
theorem dX12_step_22 : decode cX12_step 22 = .ok (.getfield 7, 3) := by decide +kernel
theorem dX12_step_25 : decode cX12_step 25 = .ok (.sipush 970, 3) := by decide +kernel
theorem dX12_step_28 : decode cX12_step 28 = .ok (.aload_n 0, 1) := by decide +kernel
theorem dX12_step_29 : decode cX12_step 29 = .ok (.getfield 7, 3) := by decide +kernel
theorem dX12_step_32 : decode cX12_step 32 = .ok (.iconst 2, 1) := by decide +kernel
theorem dX12_step_33 : decode cX12_step 33 = .ok (.iaload, 1) := by decide +kernel
theorem dX12_step_34 : decode cX12_step 34 = .ok (.iadd, 1) := by decide +kernel
theorem dX12_step_35 : decode cX12_step 35 = .ok (.iload_n 1, 1) := by decide +kernel
theorem dX12_step_36 : decode cX12_step 36 = .ok (.iastore, 1) := by decide +kernel
theorem dX12_step_37 : decode cX12_step 37 = .ok (.aload_n 0, 1) := by decide +kernel
theorem dX12_step_38 : decode cX12_step 38 = .ok (.getfield 7, 3) := by decide +kernel
theorem dX12_step_41 : decode cX12_step 41 = .ok (.iconst 2, 1) := by decide +kernel
theorem dX12_step_42 : decode cX12_step 42 = .ok (.dup2, 1) := by decide +kernel
theorem dX12_step_43 : decode cX12_step 43 = .ok (.iaload, 1) := by decide +kernel
theorem dX12_step_44 : decode cX12_step 44 = .ok (.iconst 1, 1) := by decide +kernel
theorem dX12_step_45 : decode cX12_step 45 = .ok (.iadd, 1) := by decide +kernel
theorem dX12_step_46 : decode cX12_step 46 = .ok (.iastore, 1) := by decide +kernel
theorem dX12_step_47 : decode cX12_step 47 = .ok (.aload_n 0, 1) := by decide +kernel
theorem dX12_step_48 : decode cX12_step 48 = .ok (.getfield 7, 3) := by decide +kernel
theorem dX12_step_51 : decode cX12_step 51 = .ok (.iconst 2, 1) := by decide +kernel
theorem dX12_step_52 : decode cX12_step 52 = .ok (.iaload, 1) := by decide +kernel
theorem dX12_step_53 : decode cX12_step 53 = .ok (.ireturn, 1) := by decide +kernel
set_option maxRecDepth 8000 in
theorem e_X12_step {g : ch_G} {A R : Nat} (hC : ck_Cx g A R) {d : Nat} {K : Option ck_V → ck_W → Prop} {w : ck_W} {a1 : Int} (h : (1 ≤ (w 76 1) ∧ (w 76 1) ≤ 1000) ∧ ((0 ≤ a1 ∧ a1 ≤ (w 76 1) - 1 → (¬ (w 77 2) = 30 → (0 ≤ (970 + (w 77 2)) ∧ (970 + (w 77 2)) < 1430) ∧ (∀ x6, x6 = (ck_up w 77 (970 + (w 77 2)) a1) 77 2 → ck_i (x6 + 1) ∧ (K (some (.inl (x6 + 1))) (ck_up (ck_up w 77 (970 + (w 77 2)) a1) 77 2 (x6 + 1))))) ∧ ((w 77 2) = 30 → K (some (.inl (-1))) w)) ∧ (¬ (0 ≤ a1 ∧ a1 ≤ (w 76 1) - 1) → K (some (.inl (-1))) w))) : ck_Ex (ch_C g A R) (d + 2) mX12_step [.inr (.inr 76), .inl a1] w K :=
  ck_entry hC.1 [some (.inr (.inr 76)), some (.inl a1)] (by decide) (Nat.le_of_ble_eq_true rfl) rfl (fun q => q) (ck_in (fun hl => (ck_aload_n 1 rfl 0 dX12_step_0 rfl rfl (ck_iload_n 2 rfl 1 dX12_step_1 rfl rfl (have h17 := h; have o1 := h17.1; have h16 := h17.2; (have h15 := h16; ck_callV 5 rfl [.inl a1] [] dX12_step_2 cv_X12_101 sh_76 rfl rfl (Nat.le_of_ble_eq_true rfl) (And.intro hl.2.1 True.intro) (p_X12_isRadius hC o1 (fun c13 _ => (ck_if_eq 8 rfl 19 dX12_step_5 rfl (by decide) (fun q => absurd q (by decide)) (fun _ => (ck_aload_n 9 rfl 0 dX12_step_8 rfl rfl (ck_getr 12 rfl dX12_step_9 fl_X12_7 sh_76 rfl (ck_iconst 13 rfl dX12_step_12 rfl (ck_iald 14 rfl dX12_step_13 sh_77 (shn_77 hC) (by decide) _ rfl (fun (q2 : ck_i (w 77 2)) => (ck_bipush 16 rfl dX12_step_14 rfl (have h18 := (h15.1 c13); (ck_icmp_ne 19 rfl 21 dX12_step_16 rfl q2 (show ck_i 30 by decide) (fun c11 => (ck_aload_n 22 rfl 0 dX12_step_21 rfl rfl (ck_getr 25 rfl dX12_step_22 fl_X12_7 sh_76 rfl (ck_sipush 28 rfl dX12_step_25 rfl (ck_aload_n 29 rfl 0 dX12_step_28 rfl rfl (ck_getr 32 rfl dX12_step_29 fl_X12_7 sh_76 rfl (ck_iconst 33 rfl dX12_step_32 rfl (ck_iald 34 rfl dX12_step_33 sh_77 (shn_77 hC) (by decide) _ rfl (fun (q3 : ck_i (w 77 2)) => (ck_iadd 35 rfl dX12_step_34 (ck_iload_n 36 rfl 1 dX12_step_35 rfl rfl (have h20 := (h18.1 c11); have o4 := h20.1; have h19 := h20.2; (ck_iast 37 rfl dX12_step_36 sh_77 (shn_77 hC) o4 hl.2.1 (ck_aload_n 38 rfl 0 dX12_step_37 rfl rfl (ck_getr 41 rfl dX12_step_38 fl_X12_7 sh_76 rfl (ck_iconst 42 rfl dX12_step_41 rfl (ck_dup2 43 rfl dX12_step_42 rfl rfl (ck_iald 44 rfl dX12_step_43 sh_77 (shn_77 hC) (by decide) _ rfl (fun (q5 : ck_i ((ck_up w 77 (970 + (w 77 2)) a1) 77 2)) => ck_nmi (fun x6 e7 => (have q8 : ck_i x6 := (by rw [e7]; exact q5); (ck_iconst 45 rfl dX12_step_44 rfl (ck_iadd 46 rfl dX12_step_45 (have h22 := (h19 x6 e7); have o9 := h22.1; have h21 := h22.2; (ck_iast 47 rfl dX12_step_46 sh_77 (shn_77 hC) (by decide) o9 (ck_aload_n 48 rfl 0 dX12_step_47 rfl rfl (ck_getr 51 rfl dX12_step_48 fl_X12_7 sh_76 rfl (ck_iconst 52 rfl dX12_step_51 rfl (ck_iald 53 rfl dX12_step_52 sh_77 (shn_77 hC) (by decide) _ rfl (fun (q10 : ck_i (x6 + 1)) => (ck_iret dX12_step_53 rfl q10 h21))))))))))))))))))))))))))))))) (fun c12 => (ck_iconst 20 rfl dX12_step_19 rfl (ck_iret dX12_step_20 rfl (show ck_i (-1) by decide) (h18.2 c12))))))))))))))) (fun c14 _ => (ck_if_eq 8 rfl 19 dX12_step_5 rfl (by decide) (fun _ => (ck_iconst 20 rfl dX12_step_19 rfl (ck_iret dX12_step_20 rfl (show ck_i (-1) by decide) (h15.2 c14)))) (fun q => absurd q (by decide)))))))))))
theorem dX12_unwalk_0 : decode cX12_unwalk 0 = .ok (.aload_n 0, 1) := by decide +kernel
theorem dX12_unwalk_1 : decode cX12_unwalk 1 = .ok (.getfield 7, 3) := by decide +kernel
theorem dX12_unwalk_4 : decode cX12_unwalk 4 = .ok (.iconst 2, 1) := by decide +kernel
theorem dX12_unwalk_5 : decode cX12_unwalk 5 = .ok (.iaload, 1) := by decide +kernel
theorem dX12_unwalk_6 : decode cX12_unwalk 6 = .ok (.istore_n 1, 1) := by decide +kernel
theorem dX12_unwalk_7 : decode cX12_unwalk 7 = .ok (.aload_n 0, 1) := by decide +kernel
theorem dX12_unwalk_8 : decode cX12_unwalk 8 = .ok (.getfield 7, 3) := by decide +kernel
theorem dX12_unwalk_11 : decode cX12_unwalk 11 = .ok (.iconst 2, 1) := by decide +kernel
theorem dX12_unwalk_12 : decode cX12_unwalk 12 = .ok (.iconst 0, 1) := by decide +kernel
theorem dX12_unwalk_13 : decode cX12_unwalk 13 = .ok (.iastore, 1) := by decide +kernel
theorem dX12_unwalk_14 : decode cX12_unwalk 14 = .ok (.iload_n 1, 1) := by decide +kernel
theorem dX12_unwalk_15 : decode cX12_unwalk 15 = .ok (.ireturn, 1) := by decide +kernel
set_option maxRecDepth 8000 in
theorem e_X12_unwalk {g : ch_G} {A R : Nat} (hC : ck_Cx g A R) {d : Nat} {K : Option ck_V → ck_W → Prop} {w : ck_W} (h : K (some (.inl (w 77 2))) (ck_up w 77 2 0)) : ck_Ex (ch_C g A R) d mX12_unwalk [.inr (.inr 76)] w K :=
  ck_entry hC.1 [some (.inr (.inr 76)), none] (by decide) (Nat.le_of_ble_eq_true rfl) rfl (fun q => q) (ck_in (fun hl => (ck_aload_n 1 rfl 0 dX12_unwalk_0 rfl rfl (ck_getr 4 rfl dX12_unwalk_1 fl_X12_7 sh_76 rfl (ck_iconst 5 rfl dX12_unwalk_4 rfl (ck_iald 6 rfl dX12_unwalk_5 sh_77 (shn_77 hC) (by decide) _ rfl (fun (q1 : ck_i (w 77 2)) => (ck_istore_n 7 rfl 1 [some (.inr (.inr 76)), some (.inl (w 77 2))] dX12_unwalk_6 rfl (Nat.le_of_ble_eq_true rfl) rfl rfl q1 (ck_aload_n 8 rfl 0 dX12_unwalk_7 rfl rfl (ck_getr 11 rfl dX12_unwalk_8 fl_X12_7 sh_76 rfl (ck_iconst 12 rfl dX12_unwalk_11 rfl (ck_iconst 13 rfl dX12_unwalk_12 rfl (ck_iast 14 rfl dX12_unwalk_13 sh_77 (shn_77 hC) (by decide) (show ck_i 0 by decide) (ck_iload_n 15 rfl 1 dX12_unwalk_14 rfl rfl (ck_iret dX12_unwalk_15 rfl q1 h)))))))))))))))
theorem M_grey {g : ch_G} {A R : Nat} (hC : ck_Cx g A R) {d : Nat} {K : Option ck_V → ck_W → Prop} {w : ck_W} {a1 a2 a3 a4 a5 : Int} (hI : rm_I A R w)
    (h : ∀ v w', rm_I A R w' → rm_fr w w' → (v = if (0 ≤ a1 ∧ a1 ≤ 5) ∧ (0 ≤ a2 ∧ a2 < (A : Int)) ∧ (0 ≤ a3 ∧ a3 < (R : Int)) ∧ (0 ≤ a4 ∧ a4 ≤ 9) ∧ (0 ≤ a5 ∧ a5 ≤ 9) then 1 else 0) → (∀ j, j < 20 ∨ 900 ≤ j → w' 77 j = w 77 j) → w' 78 = w 78 → w' 76 = w 76 → K (some (.inl v)) w') :
    ck_Ex (ch_C g A R) (d + 2) mX12_grey [.inr (.inr 76), .inl a1, .inl a2, .inl a3, .inl a4, .inl a5] w K := by
  have hA := hI.1
  have hR := hI.2.1
  have c := hC.2
  have r0 : ∀ (q : ¬ ((0 ≤ a1 ∧ a1 ≤ 5) ∧ (0 ≤ a2 ∧ a2 < (A : Int)) ∧ (0 ≤ a3 ∧ a3 < (R : Int)) ∧ (0 ≤ a4 ∧ a4 ≤ 9) ∧ (0 ≤ a5 ∧ a5 ≤ 9))), K (some (.inl 0)) w := fun q => h 0 w hI rm_fr_rf (by rw [if_neg q]) (fun _ _ => rfl) rfl rfl
  refine e_X12_grey hC ?_
  with_reducible repeat' (first | apply And.intro | intro _)
  all_goals first | omega | exact r0 (by omega) | skip
  have b1 := rh_grey (A := A) (R := R) (j := 20 + (72 * a1 + 12 * a2 + a3)) (by omega) (by omega)
  have b2 := rh_grey (A := A) (R := R) (j := 460 + (72 * a1 + 12 * a2 + a3)) (by omega) (by omega)
  refine h 1 _ (rm_Ia (rm_Ia hI (rm_up hI.2.2.2.1 (by omega) (by omega) (by omega) (by omega) (by omega)) (by omega)) ?_ (by omega)) (rm_fr_up (rm_fr_up rm_fr_rf (by decide)) (by decide)) (by rw [if_pos (by omega)]) (fun j hj => ?_) rfl rfl
  · rw [ck_up_row]; exact rm_up (rm_up hI.2.2.2.1 (by omega) (by omega) (by omega) (by omega) (by omega)) (by omega) (by omega) (by omega) (by omega) (by omega)
  · rw [ck_up_nj (by omega), ck_up_nj (by omega)]
