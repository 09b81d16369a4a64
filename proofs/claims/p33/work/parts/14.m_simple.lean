/-! ===== the reference: methods that only set and tell ===== -/
theorem dX12_grey_0 : decode cX12_grey 0 = .ok (.iload_n 1, 1) := dk_27 (by decide +kernel)
theorem dX12_grey_1 : decode cX12_grey 1 = .ok (.invokestatic 97, 3) := dk_184 0 97 (by decide +kernel)
theorem dX12_grey_4 : decode cX12_grey 4 = .ok (.ifCond .eq 41, 3) := dk_153 0 41 (by decide +kernel)
theorem dX12_grey_7 : decode cX12_grey 7 = .ok (.iload_n 2, 1) := dk_28 (by decide +kernel)
theorem dX12_grey_8 : decode cX12_grey 8 = .ok (.iconst 0, 1) := dk_3 (by decide +kernel)
theorem dX12_grey_9 : decode cX12_grey 9 = .ok (.aload_n 0, 1) := dk_42 (by decide +kernel)
theorem dX12_grey_10 : decode cX12_grey 10 = .ok (.getfield 80, 3) := dk_180 0 80 (by decide +kernel)
theorem dX12_grey_13 : decode cX12_grey 13 = .ok (.iconst 1, 1) := dk_4 (by decide +kernel)
theorem dX12_grey_14 : decode cX12_grey 14 = .ok (.isub, 1) := dk_100 (by decide +kernel)
theorem dX12_grey_15 : decode cX12_grey 15 = .ok (.invokestatic 93, 3) := dk_184 0 93 (by decide +kernel)
theorem dX12_grey_18 : decode cX12_grey 18 = .ok (.ifCond .eq 27, 3) := dk_153 0 27 (by decide +kernel)
theorem dX12_grey_21 : decode cX12_grey 21 = .ok (.aload_n 0, 1) := dk_42 (by decide +kernel)
theorem dX12_grey_22 : decode cX12_grey 22 = .ok (.iload_n 3, 1) := dk_29 (by decide +kernel)
theorem dX12_grey_23 : decode cX12_grey 23 = .ok (.invokevirtual 101, 3) := dk_182 0 101 (by decide +kernel)
theorem dX12_grey_26 : decode cX12_grey 26 = .ok (.ifCond .eq 19, 3) := dk_153 0 19 (by decide +kernel)
theorem dX12_grey_29 : decode cX12_grey 29 = .ok (.iload 4, 2) := dk_21 (by decide +kernel)
theorem dX12_grey_31 : decode cX12_grey 31 = .ok (.invokestatic 104, 3) := dk_184 0 104 (by decide +kernel)
theorem dX12_grey_34 : decode cX12_grey 34 = .ok (.ifCond .eq 11, 3) := dk_153 0 11 (by decide +kernel)
theorem dX12_grey_37 : decode cX12_grey 37 = .ok (.iload 5, 2) := dk_21 (by decide +kernel)
theorem dX12_grey_39 : decode cX12_grey 39 = .ok (.invokestatic 104, 3) := dk_184 0 104 (by decide +kernel)
theorem dX12_grey_42 : decode cX12_grey 42 = .ok (.ifCond .ne 5, 3) := dk_154 0 5 (by decide +kernel)
theorem dX12_grey_45 : decode cX12_grey 45 = .ok (.iconst 0, 1) := dk_3 (by decide +kernel)
theorem dX12_grey_46 : decode cX12_grey 46 = .ok (.ireturn, 1) := dk_172 (by decide +kernel)
theorem dX12_grey_47 : decode cX12_grey 47 = .ok (.aload_n 0, 1) := dk_42 (by decide +kernel)
theorem dX12_grey_48 : decode cX12_grey 48 = .ok (.getfield 7, 3) := dk_180 0 7 (by decide +kernel)
theorem dX12_grey_51 : decode cX12_grey 51 = .ok (.bipush 20, 2) := dk_16 20 (by decide +kernel)
theorem dX12_grey_53 : decode cX12_grey 53 = .ok (.iload_n 1, 1) := dk_27 (by decide +kernel)
theorem dX12_grey_54 : decode cX12_grey 54 = .ok (.iload_n 2, 1) := dk_28 (by decide +kernel)
theorem dX12_grey_55 : decode cX12_grey 55 = .ok (.iload_n 3, 1) := dk_29 (by decide +kernel)
theorem dX12_grey_56 : decode cX12_grey 56 = .ok (.invokestatic 107, 3) := dk_184 0 107 (by decide +kernel)
theorem dX12_grey_59 : decode cX12_grey 59 = .ok (.iadd, 1) := dk_96 (by decide +kernel)
theorem dX12_grey_60 : decode cX12_grey 60 = .ok (.iload 4, 2) := dk_21 (by decide +kernel)
theorem dX12_grey_62 : decode cX12_grey 62 = .ok (.iastore, 1) := dk_79 (by decide +kernel)
theorem dX12_grey_63 : decode cX12_grey 63 = .ok (.aload_n 0, 1) := dk_42 (by decide +kernel)
theorem dX12_grey_64 : decode cX12_grey 64 = .ok (.getfield 7, 3) := dk_180 0 7 (by decide +kernel)
theorem dX12_grey_67 : decode cX12_grey 67 = .ok (.sipush 460, 3) := dk_17 1 204 (by decide +kernel)
theorem dX12_grey_70 : decode cX12_grey 70 = .ok (.iload_n 1, 1) := dk_27 (by decide +kernel)
theorem dX12_grey_71 : decode cX12_grey 71 = .ok (.iload_n 2, 1) := dk_28 (by decide +kernel)
theorem dX12_grey_72 : decode cX12_grey 72 = .ok (.iload_n 3, 1) := dk_29 (by decide +kernel)
theorem dX12_grey_73 : decode cX12_grey 73 = .ok (.invokestatic 107, 3) := dk_184 0 107 (by decide +kernel)
theorem dX12_grey_76 : decode cX12_grey 76 = .ok (.iadd, 1) := dk_96 (by decide +kernel)
theorem dX12_grey_77 : decode cX12_grey 77 = .ok (.iload 5, 2) := dk_21 (by decide +kernel)
theorem dX12_grey_79 : decode cX12_grey 79 = .ok (.iastore, 1) := dk_79 (by decide +kernel)
theorem dX12_grey_80 : decode cX12_grey 80 = .ok (.iconst 1, 1) := dk_4 (by decide +kernel)
theorem dX12_grey_81 : decode cX12_grey 81 = .ok (.ireturn, 1) := dk_172 (by decide +kernel)
set_option maxRecDepth 8000 in
theorem e_X12_grey {g : ch_G} {A R : Nat} (hC : ck_Cx g A R) {d : Nat} {K : Option ck_V → ck_W → Prop} {w : ck_W} {a1 a2 a3 a4 a5 : Int} (h : (0 ≤ a1 ∧ a1 ≤ 5 → ck_i ((w 76 0) - 1) ∧ ((0 ≤ a2 ∧ a2 ≤ ((w 76 0) - 1) → (1 ≤ (w 76 1) ∧ (w 76 1) ≤ 1000) ∧ ((0 ≤ a3 ∧ a3 ≤ (w 76 1) - 1 → (0 ≤ a4 ∧ a4 ≤ 9 → (0 ≤ a5 ∧ a5 ≤ 9 → (ck_i (72 * a1 + 12 * a2 + a3)) ∧ ((0 ≤ (20 + (72 * a1 + 12 * a2 + a3)) ∧ (20 + (72 * a1 + 12 * a2 + a3)) < 1430) ∧ ((0 ≤ (460 + (72 * a1 + 12 * a2 + a3)) ∧ (460 + (72 * a1 + 12 * a2 + a3)) < 1430) ∧ (K (some (.inl 1)) (ck_up (ck_up w 77 (20 + (72 * a1 + 12 * a2 + a3)) a4) 77 (460 + (72 * a1 + 12 * a2 + a3)) a5))))) ∧ (¬ (0 ≤ a5 ∧ a5 ≤ 9) → K (some (.inl 0)) w)) ∧ (¬ (0 ≤ a4 ∧ a4 ≤ 9) → K (some (.inl 0)) w)) ∧ (¬ (0 ≤ a3 ∧ a3 ≤ (w 76 1) - 1) → K (some (.inl 0)) w))) ∧ (¬ (0 ≤ a2 ∧ a2 ≤ ((w 76 0) - 1)) → K (some (.inl 0)) w))) ∧ (¬ (0 ≤ a1 ∧ a1 ≤ 5) → K (some (.inl 0)) w)) : ck_Ex (ch_C g A R) (d + 2) mX12_grey [.inr (.inr 76), .inl a1, .inl a2, .inl a3, .inl a4, .inl a5] w K :=
  ck_entry hC.1 [some (.inr (.inr 76)), some (.inl a1), some (.inl a2), some (.inl a3), some (.inl a4), some (.inl a5)] (by decide) (Nat.le_of_ble_eq_true rfl) rfl (fun q => q) (ck_in (fun hl => (ck_iload_n 1 rfl 1 dX12_grey_0 rfl rfl (have h23 := h; ck_callS 4 rfl [.inl a1] [] dX12_grey_1 cs_X12_97 rfl rfl (Nat.le_of_ble_eq_true rfl) (And.intro hl.2.1 True.intro) (p_X12_isSlice hC (fun c21 _ => (ck_if_eq 7 rfl 45 dX12_grey_4 rfl (by decide) (fun q => absurd q (by decide)) (fun _ => (ck_iload_n 8 rfl 2 dX12_grey_7 rfl rfl (ck_iconst 9 rfl dX12_grey_8 rfl (ck_aload_n 10 rfl 0 dX12_grey_9 rfl rfl (ck_geti 13 rfl 0 dX12_grey_10 fl_X12_80 sh_76 rfl rfl _ rfl (fun (q1 : ck_i (w 76 0)) => (ck_iconst 14 rfl dX12_grey_13 rfl (ck_isub 15 rfl dX12_grey_14 (have h25 := (h23.1 c21); have o2 := h25.1; have h24 := h25.2; (have h20 := h24; ck_callS 18 rfl [.inl a2, .inl 0, .inl ((w 76 0) - 1)] [] dX12_grey_15 cs_X12_93 rfl rfl (Nat.le_of_ble_eq_true rfl) (And.intro hl.2.2.1 (And.intro (show ck_i 0 by decide) (And.intro o2 True.intro))) (p_X12_isIn hC (fun c18 _ => (ck_if_eq 21 rfl 45 dX12_grey_18 rfl (by decide) (fun q => absurd q (by decide)) (fun _ => (ck_aload_n 22 rfl 0 dX12_grey_21 rfl rfl (ck_iload_n 23 rfl 3 dX12_grey_22 rfl rfl (have h27 := (h20.1 c18); have o3 := h27.1; have h26 := h27.2; (have h17 := h26; ck_callV 26 rfl [.inl a3] [] dX12_grey_23 cv_X12_101 sh_76 rfl rfl (Nat.le_of_ble_eq_true rfl) (And.intro hl.2.2.2.1 True.intro) (p_X12_isRadius hC o3 (fun c15 _ => (ck_if_eq 29 rfl 45 dX12_grey_26 rfl (by decide) (fun q => absurd q (by decide)) (fun _ => (ck_iload 31 rfl dX12_grey_29 rfl (have h14 := (h17.1 c15); ck_callS 34 rfl [.inl a4] [] dX12_grey_31 cs_X12_104 rfl rfl (Nat.le_of_ble_eq_true rfl) (And.intro hl.2.2.2.2.1 True.intro) (p_X12_isDigit10 hC (fun c12 _ => (ck_if_eq 37 rfl 45 dX12_grey_34 rfl (by decide) (fun q => absurd q (by decide)) (fun _ => (ck_iload 39 rfl dX12_grey_37 rfl (have h11 := (h14.1 c12); ck_callS 42 rfl [.inl a5] [] dX12_grey_39 cs_X12_104 rfl rfl (Nat.le_of_ble_eq_true rfl) (And.intro hl.2.2.2.2.2.1 True.intro) (p_X12_isDigit10 hC (fun c9 _ => (ck_if_ne 45 rfl 47 dX12_grey_42 rfl (by decide) (fun _ => (ck_aload_n 48 rfl 0 dX12_grey_47 rfl rfl (ck_getr 51 rfl dX12_grey_48 fl_X12_7 sh_76 rfl (ck_bipush 53 rfl dX12_grey_51 rfl (ck_iload_n 54 rfl 1 dX12_grey_53 rfl rfl (ck_iload_n 55 rfl 2 dX12_grey_54 rfl rfl (ck_iload_n 56 rfl 3 dX12_grey_55 rfl rfl (have h29 := (h11.1 c9); have o4 := h29.1; have h28 := h29.2; (ck_callS 59 rfl [.inl a1, .inl a2, .inl a3] [.inl 20, .inr (.inr 77)] dX12_grey_56 cs_X12_107 rfl rfl (Nat.le_of_ble_eq_true rfl) (And.intro hl.2.1 (And.intro hl.2.2.1 (And.intro hl.2.2.2.1 True.intro))) (p_X12_spot hC o4 (fun q5 => (ck_iadd 60 rfl dX12_grey_59 (ck_iload 62 rfl dX12_grey_60 rfl (have h31 := h28; have o6 := h31.1; have h30 := h31.2; (ck_iast 63 rfl dX12_grey_62 sh_77 (shn_77 hC) o6 hl.2.2.2.2.1 (ck_aload_n 64 rfl 0 dX12_grey_63 rfl rfl (ck_getr 67 rfl dX12_grey_64 fl_X12_7 sh_76 rfl (ck_sipush 70 rfl dX12_grey_67 rfl (ck_iload_n 71 rfl 1 dX12_grey_70 rfl rfl (ck_iload_n 72 rfl 2 dX12_grey_71 rfl rfl (ck_iload_n 73 rfl 3 dX12_grey_72 rfl rfl (ck_callS 76 rfl [.inl a1, .inl a2, .inl a3] [.inl 460, .inr (.inr 77)] dX12_grey_73 cs_X12_107 rfl rfl (Nat.le_of_ble_eq_true rfl) (And.intro hl.2.1 (And.intro hl.2.2.1 (And.intro hl.2.2.2.1 True.intro))) (p_X12_spot hC o4 (fun q7 => (ck_iadd 77 rfl dX12_grey_76 (ck_iload 79 rfl dX12_grey_77 rfl (have h33 := h30; have o8 := h33.1; have h32 := h33.2; (ck_iast 80 rfl dX12_grey_79 sh_77 (shn_77 hC) o8 hl.2.2.2.2.2.1 (ck_iconst 81 rfl dX12_grey_80 rfl (ck_zret dX12_grey_81 rfl (by decide) h32)))))))))))))))))))))))))))))) (fun q => absurd q (by decide)))) (fun c10 _ => (ck_if_ne 45 rfl 47 dX12_grey_42 rfl (by decide) (fun q => absurd q (by decide)) (fun _ => (ck_iconst 46 rfl dX12_grey_45 rfl (ck_zret dX12_grey_46 rfl (by decide) (h11.2 c10)))))))))))) (fun c13 _ => (ck_if_eq 37 rfl 45 dX12_grey_34 rfl (by decide) (fun _ => (ck_iconst 46 rfl dX12_grey_45 rfl (ck_zret dX12_grey_46 rfl (by decide) (h14.2 c13)))) (fun q => absurd q (by decide)))))))))) (fun c16 _ => (ck_if_eq 29 rfl 45 dX12_grey_26 rfl (by decide) (fun _ => (ck_iconst 46 rfl dX12_grey_45 rfl (ck_zret dX12_grey_46 rfl (by decide) (h17.2 c16)))) (fun q => absurd q (by decide)))))))))))) (fun c19 _ => (ck_if_eq 21 rfl 45 dX12_grey_18 rfl (by decide) (fun _ => (ck_iconst 46 rfl dX12_grey_45 rfl (ck_zret dX12_grey_46 rfl (by decide) (h20.2 c19)))) (fun q => absurd q (by decide))))))))))))))))) (fun c22 _ => (ck_if_eq 7 rfl 45 dX12_grey_4 rfl (by decide) (fun _ => (ck_iconst 46 rfl dX12_grey_45 rfl (ck_zret dX12_grey_46 rfl (by decide) (h23.2 c22)))) (fun q => absurd q (by decide)))))))))
theorem dX12_wound_0 : decode cX12_wound 0 = .ok (.iload_n 1, 1) := dk_27 (by decide +kernel)
theorem dX12_wound_1 : decode cX12_wound 1 = .ok (.invokestatic 97, 3) := dk_184 0 97 (by decide +kernel)
theorem dX12_wound_4 : decode cX12_wound 4 = .ok (.ifCond .eq 12, 3) := dk_153 0 12 (by decide +kernel)
theorem dX12_wound_7 : decode cX12_wound 7 = .ok (.iload_n 2, 1) := dk_28 (by decide +kernel)
theorem dX12_wound_8 : decode cX12_wound 8 = .ok (.iconst 1, 1) := dk_4 (by decide +kernel)
theorem dX12_wound_9 : decode cX12_wound 9 = .ok (.iconst 4, 1) := dk_7 (by decide +kernel)
theorem dX12_wound_10 : decode cX12_wound 10 = .ok (.invokestatic 93, 3) := dk_184 0 93 (by decide +kernel)
theorem dX12_wound_13 : decode cX12_wound 13 = .ok (.ifCond .ne 5, 3) := dk_154 0 5 (by decide +kernel)
theorem dX12_wound_16 : decode cX12_wound 16 = .ok (.iconst 0, 1) := dk_3 (by decide +kernel)
theorem dX12_wound_17 : decode cX12_wound 17 = .ok (.ireturn, 1) := dk_172 (by decide +kernel)
theorem dX12_wound_18 : decode cX12_wound 18 = .ok (.aload_n 0, 1) := dk_42 (by decide +kernel)
theorem dX12_wound_19 : decode cX12_wound 19 = .ok (.getfield 7, 3) := dk_180 0 7 (by decide +kernel)
theorem dX12_wound_22 : decode cX12_wound 22 = .ok (.bipush 10, 2) := dk_16 10 (by decide +kernel)
theorem dX12_wound_24 : decode cX12_wound 24 = .ok (.iload_n 1, 1) := dk_27 (by decide +kernel)
theorem dX12_wound_25 : decode cX12_wound 25 = .ok (.iadd, 1) := dk_96 (by decide +kernel)
theorem dX12_wound_26 : decode cX12_wound 26 = .ok (.iload_n 2, 1) := dk_28 (by decide +kernel)
theorem dX12_wound_27 : decode cX12_wound 27 = .ok (.iastore, 1) := dk_79 (by decide +kernel)
theorem dX12_wound_28 : decode cX12_wound 28 = .ok (.iconst 1, 1) := dk_4 (by decide +kernel)
theorem dX12_wound_29 : decode cX12_wound 29 = .ok (.ireturn, 1) := dk_172 (by decide +kernel)
set_option maxRecDepth 8000 in
theorem e_X12_wound {g : ch_G} {A R : Nat} (hC : ck_Cx g A R) {d : Nat} {K : Option ck_V → ck_W → Prop} {w : ck_W} {a1 a2 : Int} (h : (0 ≤ a1 ∧ a1 ≤ 5 → (1 ≤ a2 ∧ a2 ≤ 4 → (0 ≤ (10 + a1) ∧ (10 + a1) < 1430) ∧ (K (some (.inl 1)) (ck_up w 77 (10 + a1) a2))) ∧ (¬ (1 ≤ a2 ∧ a2 ≤ 4) → K (some (.inl 0)) w)) ∧ (¬ (0 ≤ a1 ∧ a1 ≤ 5) → K (some (.inl 0)) w)) : ck_Ex (ch_C g A R) (d + 2) mX12_wound [.inr (.inr 76), .inl a1, .inl a2] w K :=
  ck_entry hC.1 [some (.inr (.inr 76)), some (.inl a1), some (.inl a2)] (by decide) (Nat.le_of_ble_eq_true rfl) rfl (fun q => q) (ck_in (fun hl => (ck_iload_n 1 rfl 1 dX12_wound_0 rfl rfl (have h7 := h; ck_callS 4 rfl [.inl a1] [] dX12_wound_1 cs_X12_97 rfl rfl (Nat.le_of_ble_eq_true rfl) (And.intro hl.2.1 True.intro) (p_X12_isSlice hC (fun c5 _ => (ck_if_eq 7 rfl 16 dX12_wound_4 rfl (by decide) (fun q => absurd q (by decide)) (fun _ => (ck_iload_n 8 rfl 2 dX12_wound_7 rfl rfl (ck_iconst 9 rfl dX12_wound_8 rfl (ck_iconst 10 rfl dX12_wound_9 rfl (have h4 := (h7.1 c5); ck_callS 13 rfl [.inl a2, .inl 1, .inl 4] [] dX12_wound_10 cs_X12_93 rfl rfl (Nat.le_of_ble_eq_true rfl) (And.intro hl.2.2.1 (And.intro (show ck_i 1 by decide) (And.intro (show ck_i 4 by decide) True.intro))) (p_X12_isIn hC (fun c2 _ => (ck_if_ne 16 rfl 18 dX12_wound_13 rfl (by decide) (fun _ => (ck_aload_n 19 rfl 0 dX12_wound_18 rfl rfl (ck_getr 22 rfl dX12_wound_19 fl_X12_7 sh_76 rfl (ck_bipush 24 rfl dX12_wound_22 rfl (ck_iload_n 25 rfl 1 dX12_wound_24 rfl rfl (ck_iadd 26 rfl dX12_wound_25 (ck_iload_n 27 rfl 2 dX12_wound_26 rfl rfl (have h9 := (h4.1 c2); have o1 := h9.1; have h8 := h9.2; (ck_iast 28 rfl dX12_wound_27 sh_77 (shn_77 hC) o1 hl.2.2.1 (ck_iconst 29 rfl dX12_wound_28 rfl (ck_zret dX12_wound_29 rfl (by decide) h8))))))))))) (fun q => absurd q (by decide)))) (fun c3 _ => (ck_if_ne 16 rfl 18 dX12_wound_13 rfl (by decide) (fun q => absurd q (by decide)) (fun _ => (ck_iconst 17 rfl dX12_wound_16 rfl (ck_zret dX12_wound_17 rfl (by decide) (h4.2 c3)))))))))))))) (fun c6 _ => (ck_if_eq 7 rfl 16 dX12_wound_4 rfl (by decide) (fun _ => (ck_iconst 17 rfl dX12_wound_16 rfl (ck_zret dX12_wound_17 rfl (by decide) (h7.2 c6)))) (fun q => absurd q (by decide)))))))))
theorem dX12_jump_0 : decode cX12_jump 0 = .ok (.iload_n 1, 1) := dk_27 (by decide +kernel)
theorem dX12_jump_1 : decode cX12_jump 1 = .ok (.iconst 0, 1) := dk_3 (by decide +kernel)
theorem dX12_jump_2 : decode cX12_jump 2 = .ok (.bipush 99, 2) := dk_16 99 (by decide +kernel)
theorem dX12_jump_4 : decode cX12_jump 4 = .ok (.invokestatic 93, 3) := dk_184 0 93 (by decide +kernel)
theorem dX12_jump_7 : decode cX12_jump 7 = .ok (.ifCond .ne 5, 3) := dk_154 0 5 (by decide +kernel)
theorem dX12_jump_10 : decode cX12_jump 10 = .ok (.iconst 0, 1) := dk_3 (by decide +kernel)
theorem dX12_jump_11 : decode cX12_jump 11 = .ok (.ireturn, 1) := dk_172 (by decide +kernel)
theorem dX12_jump_12 : decode cX12_jump 12 = .ok (.aload_n 0, 1) := dk_42 (by decide +kernel)
theorem dX12_jump_13 : decode cX12_jump 13 = .ok (.getfield 7, 3) := dk_180 0 7 (by decide +kernel)
theorem dX12_jump_16 : decode cX12_jump 16 = .ok (.bipush 7, 2) := dk_16 7 (by decide +kernel)
theorem dX12_jump_18 : decode cX12_jump 18 = .ok (.iload_n 1, 1) := dk_27 (by decide +kernel)
theorem dX12_jump_19 : decode cX12_jump 19 = .ok (.iastore, 1) := dk_79 (by decide +kernel)
theorem dX12_jump_20 : decode cX12_jump 20 = .ok (.iconst 1, 1) := dk_4 (by decide +kernel)
theorem dX12_jump_21 : decode cX12_jump 21 = .ok (.ireturn, 1) := dk_172 (by decide +kernel)
set_option maxRecDepth 8000 in
theorem e_X12_jump {g : ch_G} {A R : Nat} (hC : ck_Cx g A R) {d : Nat} {K : Option ck_V → ck_W → Prop} {w : ck_W} {a1 : Int} (h : (0 ≤ a1 ∧ a1 ≤ 99 → K (some (.inl 1)) (ck_up w 77 7 a1)) ∧ (¬ (0 ≤ a1 ∧ a1 ≤ 99) → K (some (.inl 0)) w)) : ck_Ex (ch_C g A R) (d + 1) mX12_jump [.inr (.inr 76), .inl a1] w K :=
  ck_entry hC.1 [some (.inr (.inr 76)), some (.inl a1)] (by decide) (Nat.le_of_ble_eq_true rfl) rfl (fun q => q) (ck_in (fun hl => (ck_iload_n 1 rfl 1 dX12_jump_0 rfl rfl (ck_iconst 2 rfl dX12_jump_1 rfl (ck_bipush 4 rfl dX12_jump_2 rfl (have h3 := h; ck_callS 7 rfl [.inl a1, .inl 0, .inl 99] [] dX12_jump_4 cs_X12_93 rfl rfl (Nat.le_of_ble_eq_true rfl) (And.intro hl.2.1 (And.intro (show ck_i 0 by decide) (And.intro (show ck_i 99 by decide) True.intro))) (p_X12_isIn hC (fun c1 _ => (ck_if_ne 10 rfl 12 dX12_jump_7 rfl (by decide) (fun _ => (ck_aload_n 13 rfl 0 dX12_jump_12 rfl rfl (ck_getr 16 rfl dX12_jump_13 fl_X12_7 sh_76 rfl (ck_bipush 18 rfl dX12_jump_16 rfl (ck_iload_n 19 rfl 1 dX12_jump_18 rfl rfl (ck_iast 20 rfl dX12_jump_19 sh_77 (shn_77 hC) (by decide) hl.2.1 (ck_iconst 21 rfl dX12_jump_20 rfl (ck_zret dX12_jump_21 rfl (by decide) (h3.1 c1))))))))) (fun q => absurd q (by decide)))) (fun c2 _ => (ck_if_ne 10 rfl 12 dX12_jump_7 rfl (by decide) (fun q => absurd q (by decide)) (fun _ => (ck_iconst 11 rfl dX12_jump_10 rfl (ck_zret dX12_jump_11 rfl (by decide) (h3.2 c2)))))))))))))
theorem dX12_step_0 : decode cX12_step 0 = .ok (.aload_n 0, 1) := dk_42 (by decide +kernel)
theorem dX12_step_1 : decode cX12_step 1 = .ok (.iload_n 1, 1) := dk_27 (by decide +kernel)
theorem dX12_step_2 : decode cX12_step 2 = .ok (.invokevirtual 101, 3) := dk_182 0 101 (by decide +kernel)
theorem dX12_step_5 : decode cX12_step 5 = .ok (.ifCond .eq 14, 3) := dk_153 0 14 (by decide +kernel)
theorem dX12_step_8 : decode cX12_step 8 = .ok (.aload_n 0, 1) := dk_42 (by decide +kernel)
theorem dX12_step_9 : decode cX12_step 9 = .ok (.getfield 7, 3) := dk_180 0 7 (by decide +kernel)
theorem dX12_step_12 : decode cX12_step 12 = .ok (.iconst 2, 1) := dk_5 (by decide +kernel)
theorem dX12_step_13 : decode cX12_step 13 = .ok (.iaload, 1) := dk_46 (by decide +kernel)
theorem dX12_step_14 : decode cX12_step 14 = .ok (.bipush 30, 2) := dk_16 30 (by decide +kernel)
theorem dX12_step_16 : decode cX12_step 16 = .ok (.if_icmp .ne 5, 3) := dk_160 0 5 (by decide +kernel)
theorem dX12_step_19 : decode cX12_step 19 = .ok (.iconst (-1), 1) := dk_2 (by decide +kernel)
theorem dX12_step_20 : decode cX12_step 20 = .ok (.ireturn, 1) := dk_172 (by decide +kernel)
theorem dX12_step_21 : decode cX12_step 21 = .ok (.aload_n 0, 1) := dk_42 (by decide +kernel)
theorem dX12_step_22 : decode cX12_step 22 = .ok (.getfield 7, 3) := dk_180 0 7 (by decide +kernel)
theorem dX12_step_25 : decode cX12_step 25 = .ok (.sipush 970, 3) := dk_17 3 202 (by decide +kernel)
theorem dX12_step_28 : decode cX12_step 28 = .ok (.aload_n 0, 1) := dk_42 (by decide +kernel)
theorem dX12_step_29 : decode cX12_step 29 = .ok (.getfield 7, 3) := dk_180 0 7 (by decide +kernel)
theorem dX12_step_32 : decode cX12_step 32 = .ok (.iconst 2, 1) := dk_5 (by decide +kernel)
theorem dX12_step_33 : decode cX12_step 33 = .ok (.iaload, 1) := dk_46 (by decide +kernel)
theorem dX12_step_34 : decode cX12_step 34 = .ok (.iadd, 1) := dk_96 (by decide +kernel)
theorem dX12_step_35 : decode cX12_step 35 = .ok (.iload_n 1, 1) := dk_27 (by decide +kernel)
theorem dX12_step_36 : decode cX12_step 36 = .ok (.iastore, 1) := dk_79 (by decide +kernel)
theorem dX12_step_37 : decode cX12_step 37 = .ok (.aload_n 0, 1) := dk_42 (by decide +kernel)
theorem dX12_step_38 : decode cX12_step 38 = .ok (.getfield 7, 3) := dk_180 0 7 (by decide +kernel)
theorem dX12_step_41 : decode cX12_step 41 = .ok (.iconst 2, 1) := dk_5 (by decide +kernel)
theorem dX12_step_42 : decode cX12_step 42 = .ok (.dup2, 1) := dk_92 (by decide +kernel)
theorem dX12_step_43 : decode cX12_step 43 = .ok (.iaload, 1) := dk_46 (by decide +kernel)
theorem dX12_step_44 : decode cX12_step 44 = .ok (.iconst 1, 1) := dk_4 (by decide +kernel)
theorem dX12_step_45 : decode cX12_step 45 = .ok (.iadd, 1) := dk_96 (by decide +kernel)
theorem dX12_step_46 : decode cX12_step 46 = .ok (.iastore, 1) := dk_79 (by decide +kernel)
theorem dX12_step_47 : decode cX12_step 47 = .ok (.aload_n 0, 1) := dk_42 (by decide +kernel)
theorem dX12_step_48 : decode cX12_step 48 = .ok (.getfield 7, 3) := dk_180 0 7 (by decide +kernel)
theorem dX12_step_51 : decode cX12_step 51 = .ok (.iconst 2, 1) := dk_5 (by decide +kernel)
theorem dX12_step_52 : decode cX12_step 52 = .ok (.iaload, 1) := dk_46 (by decide +kernel)
theorem dX12_step_53 : decode cX12_step 53 = .ok (.ireturn, 1) := dk_172 (by decide +kernel)
set_option maxRecDepth 8000 in
theorem e_X12_step {g : ch_G} {A R : Nat} (hC : ck_Cx g A R) {d : Nat} {K : Option ck_V → ck_W → Prop} {w : ck_W} {a1 : Int} (h : (1 ≤ (w 76 1) ∧ (w 76 1) ≤ 1000) ∧ ((0 ≤ a1 ∧ a1 ≤ (w 76 1) - 1 → (¬ (w 77 2) = 30 → (0 ≤ (970 + (w 77 2)) ∧ (970 + (w 77 2)) < 1430) ∧ (∀ x6, x6 = (ck_up w 77 (970 + (w 77 2)) a1) 77 2 → ck_i (x6 + 1) ∧ (K (some (.inl (x6 + 1))) (ck_up (ck_up w 77 (970 + (w 77 2)) a1) 77 2 (x6 + 1))))) ∧ ((w 77 2) = 30 → K (some (.inl (-1))) w)) ∧ (¬ (0 ≤ a1 ∧ a1 ≤ (w 76 1) - 1) → K (some (.inl (-1))) w))) : ck_Ex (ch_C g A R) (d + 2) mX12_step [.inr (.inr 76), .inl a1] w K :=
  ck_entry hC.1 [some (.inr (.inr 76)), some (.inl a1)] (by decide) (Nat.le_of_ble_eq_true rfl) rfl (fun q => q) (ck_in (fun hl => (ck_aload_n 1 rfl 0 dX12_step_0 rfl rfl (ck_iload_n 2 rfl 1 dX12_step_1 rfl rfl (have h17 := h; have o1 := h17.1; have h16 := h17.2; (have h15 := h16; ck_callV 5 rfl [.inl a1] [] dX12_step_2 cv_X12_101 sh_76 rfl rfl (Nat.le_of_ble_eq_true rfl) (And.intro hl.2.1 True.intro) (p_X12_isRadius hC o1 (fun c13 _ => (ck_if_eq 8 rfl 19 dX12_step_5 rfl (by decide) (fun q => absurd q (by decide)) (fun _ => (ck_aload_n 9 rfl 0 dX12_step_8 rfl rfl (ck_getr 12 rfl dX12_step_9 fl_X12_7 sh_76 rfl (ck_iconst 13 rfl dX12_step_12 rfl (ck_iald 14 rfl dX12_step_13 sh_77 (shn_77 hC) (by decide) _ rfl (fun (q2 : ck_i (w 77 2)) => (ck_bipush 16 rfl dX12_step_14 rfl (have h18 := (h15.1 c13); (ck_icmp_ne 19 rfl 21 dX12_step_16 rfl q2 (show ck_i 30 by decide) (fun c11 => (ck_aload_n 22 rfl 0 dX12_step_21 rfl rfl (ck_getr 25 rfl dX12_step_22 fl_X12_7 sh_76 rfl (ck_sipush 28 rfl dX12_step_25 rfl (ck_aload_n 29 rfl 0 dX12_step_28 rfl rfl (ck_getr 32 rfl dX12_step_29 fl_X12_7 sh_76 rfl (ck_iconst 33 rfl dX12_step_32 rfl (ck_iald 34 rfl dX12_step_33 sh_77 (shn_77 hC) (by decide) _ rfl (fun (q3 : ck_i (w 77 2)) => (ck_iadd 35 rfl dX12_step_34 (ck_iload_n 36 rfl 1 dX12_step_35 rfl rfl (have h20 := (h18.1 c11); have o4 := h20.1; have h19 := h20.2; (ck_iast 37 rfl dX12_step_36 sh_77 (shn_77 hC) o4 hl.2.1 (ck_aload_n 38 rfl 0 dX12_step_37 rfl rfl (ck_getr 41 rfl dX12_step_38 fl_X12_7 sh_76 rfl (ck_iconst 42 rfl dX12_step_41 rfl (ck_dup2 43 rfl dX12_step_42 rfl rfl (ck_iald 44 rfl dX12_step_43 sh_77 (shn_77 hC) (by decide) _ rfl (fun (q5 : ck_i ((ck_up w 77 (970 + (w 77 2)) a1) 77 2)) => ck_nmi (fun x6 e7 => (have q8 : ck_i x6 := (by rw [e7]; exact q5); (ck_iconst 45 rfl dX12_step_44 rfl (ck_iadd 46 rfl dX12_step_45 (have h22 := (h19 x6 e7); have o9 := h22.1; have h21 := h22.2; (ck_iast 47 rfl dX12_step_46 sh_77 (shn_77 hC) (by decide) o9 (ck_aload_n 48 rfl 0 dX12_step_47 rfl rfl (ck_getr 51 rfl dX12_step_48 fl_X12_7 sh_76 rfl (ck_iconst 52 rfl dX12_step_51 rfl (ck_iald 53 rfl dX12_step_52 sh_77 (shn_77 hC) (by decide) _ rfl (fun (q10 : ck_i (x6 + 1)) => (ck_iret dX12_step_53 rfl q10 h21))))))))))))))))))))))))))))))) (fun c12 => (ck_iconst 20 rfl dX12_step_19 rfl (ck_iret dX12_step_20 rfl (show ck_i (-1) by decide) (h18.2 c12))))))))))))))) (fun c14 _ => (ck_if_eq 8 rfl 19 dX12_step_5 rfl (by decide) (fun _ => (ck_iconst 20 rfl dX12_step_19 rfl (ck_iret dX12_step_20 rfl (show ck_i (-1) by decide) (h15.2 c14)))) (fun q => absurd q (by decide)))))))))))
theorem dX12_unwalk_0 : decode cX12_unwalk 0 = .ok (.aload_n 0, 1) := dk_42 (by decide +kernel)
theorem dX12_unwalk_1 : decode cX12_unwalk 1 = .ok (.getfield 7, 3) := dk_180 0 7 (by decide +kernel)
theorem dX12_unwalk_4 : decode cX12_unwalk 4 = .ok (.iconst 2, 1) := dk_5 (by decide +kernel)
theorem dX12_unwalk_5 : decode cX12_unwalk 5 = .ok (.iaload, 1) := dk_46 (by decide +kernel)
theorem dX12_unwalk_6 : decode cX12_unwalk 6 = .ok (.istore_n 1, 1) := dk_60 (by decide +kernel)
theorem dX12_unwalk_7 : decode cX12_unwalk 7 = .ok (.aload_n 0, 1) := dk_42 (by decide +kernel)
theorem dX12_unwalk_8 : decode cX12_unwalk 8 = .ok (.getfield 7, 3) := dk_180 0 7 (by decide +kernel)
theorem dX12_unwalk_11 : decode cX12_unwalk 11 = .ok (.iconst 2, 1) := dk_5 (by decide +kernel)
theorem dX12_unwalk_12 : decode cX12_unwalk 12 = .ok (.iconst 0, 1) := dk_3 (by decide +kernel)
theorem dX12_unwalk_13 : decode cX12_unwalk 13 = .ok (.iastore, 1) := dk_79 (by decide +kernel)
theorem dX12_unwalk_14 : decode cX12_unwalk 14 = .ok (.iload_n 1, 1) := dk_27 (by decide +kernel)
theorem dX12_unwalk_15 : decode cX12_unwalk 15 = .ok (.ireturn, 1) := dk_172 (by decide +kernel)
set_option maxRecDepth 8000 in
theorem e_X12_unwalk {g : ch_G} {A R : Nat} (hC : ck_Cx g A R) {d : Nat} {K : Option ck_V → ck_W → Prop} {w : ck_W} (h : K (some (.inl (w 77 2))) (ck_up w 77 2 0)) : ck_Ex (ch_C g A R) d mX12_unwalk [.inr (.inr 76)] w K :=
  ck_entry hC.1 [some (.inr (.inr 76)), none] (by decide) (Nat.le_of_ble_eq_true rfl) rfl (fun q => q) (ck_in (fun hl => (ck_aload_n 1 rfl 0 dX12_unwalk_0 rfl rfl (ck_getr 4 rfl dX12_unwalk_1 fl_X12_7 sh_76 rfl (ck_iconst 5 rfl dX12_unwalk_4 rfl (ck_iald 6 rfl dX12_unwalk_5 sh_77 (shn_77 hC) (by decide) _ rfl (fun (q1 : ck_i (w 77 2)) => (ck_istore_n 7 rfl 1 [some (.inr (.inr 76)), some (.inl (w 77 2))] dX12_unwalk_6 rfl (Nat.le_of_ble_eq_true rfl) rfl rfl q1 (ck_aload_n 8 rfl 0 dX12_unwalk_7 rfl rfl (ck_getr 11 rfl dX12_unwalk_8 fl_X12_7 sh_76 rfl (ck_iconst 12 rfl dX12_unwalk_11 rfl (ck_iconst 13 rfl dX12_unwalk_12 rfl (ck_iast 14 rfl dX12_unwalk_13 sh_77 (shn_77 hC) (by decide) (show ck_i 0 by decide) (ck_iload_n 15 rfl 1 dX12_unwalk_14 rfl rfl (ck_iret dX12_unwalk_15 rfl q1 h)))))))))))))))
theorem dX12_chances_0 : decode cX12_chances 0 = .ok (.iload_n 1, 1) := dk_27 (by decide +kernel)
theorem dX12_chances_1 : decode cX12_chances 1 = .ok (.iconst 1, 1) := dk_4 (by decide +kernel)
theorem dX12_chances_2 : decode cX12_chances 2 = .ok (.iconst 3, 1) := dk_6 (by decide +kernel)
theorem dX12_chances_3 : decode cX12_chances 3 = .ok (.invokestatic 93, 3) := dk_184 0 93 (by decide +kernel)
theorem dX12_chances_6 : decode cX12_chances 6 = .ok (.ifCond .eq 12, 3) := dk_153 0 12 (by decide +kernel)
theorem dX12_chances_9 : decode cX12_chances 9 = .ok (.iload_n 2, 1) := dk_28 (by decide +kernel)
theorem dX12_chances_10 : decode cX12_chances 10 = .ok (.iconst 1, 1) := dk_4 (by decide +kernel)
theorem dX12_chances_11 : decode cX12_chances 11 = .ok (.iconst 3, 1) := dk_6 (by decide +kernel)
theorem dX12_chances_12 : decode cX12_chances 12 = .ok (.invokestatic 93, 3) := dk_184 0 93 (by decide +kernel)
theorem dX12_chances_15 : decode cX12_chances 15 = .ok (.ifCond .ne 5, 3) := dk_154 0 5 (by decide +kernel)
theorem dX12_chances_18 : decode cX12_chances 18 = .ok (.iconst 0, 1) := dk_3 (by decide +kernel)
theorem dX12_chances_19 : decode cX12_chances 19 = .ok (.ireturn, 1) := dk_172 (by decide +kernel)
theorem dX12_chances_20 : decode cX12_chances 20 = .ok (.aload_n 0, 1) := dk_42 (by decide +kernel)
theorem dX12_chances_21 : decode cX12_chances 21 = .ok (.getfield 7, 3) := dk_180 0 7 (by decide +kernel)
theorem dX12_chances_24 : decode cX12_chances 24 = .ok (.bipush 8, 2) := dk_16 8 (by decide +kernel)
theorem dX12_chances_26 : decode cX12_chances 26 = .ok (.iload_n 1, 1) := dk_27 (by decide +kernel)
theorem dX12_chances_27 : decode cX12_chances 27 = .ok (.iastore, 1) := dk_79 (by decide +kernel)
theorem dX12_chances_28 : decode cX12_chances 28 = .ok (.aload_n 0, 1) := dk_42 (by decide +kernel)
theorem dX12_chances_29 : decode cX12_chances 29 = .ok (.getfield 7, 3) := dk_180 0 7 (by decide +kernel)
theorem dX12_chances_32 : decode cX12_chances 32 = .ok (.bipush 9, 2) := dk_16 9 (by decide +kernel)
theorem dX12_chances_34 : decode cX12_chances 34 = .ok (.iload_n 2, 1) := dk_28 (by decide +kernel)
theorem dX12_chances_35 : decode cX12_chances 35 = .ok (.iastore, 1) := dk_79 (by decide +kernel)
theorem dX12_chances_36 : decode cX12_chances 36 = .ok (.iconst 1, 1) := dk_4 (by decide +kernel)
theorem dX12_chances_37 : decode cX12_chances 37 = .ok (.ireturn, 1) := dk_172 (by decide +kernel)
set_option maxRecDepth 8000 in
theorem e_X12_chances {g : ch_G} {A R : Nat} (hC : ck_Cx g A R) {d : Nat} {K : Option ck_V → ck_W → Prop} {w : ck_W} {a1 a2 : Int} (h : (1 ≤ a1 ∧ a1 ≤ 3 → (1 ≤ a2 ∧ a2 ≤ 3 → K (some (.inl 1)) (ck_up (ck_up w 77 8 a1) 77 9 a2)) ∧ (¬ (1 ≤ a2 ∧ a2 ≤ 3) → K (some (.inl 0)) w)) ∧ (¬ (1 ≤ a1 ∧ a1 ≤ 3) → K (some (.inl 0)) w)) : ck_Ex (ch_C g A R) (d + 1) mX12_chances [.inr (.inr 76), .inl a1, .inl a2] w K :=
  ck_entry hC.1 [some (.inr (.inr 76)), some (.inl a1), some (.inl a2)] (by decide) (Nat.le_of_ble_eq_true rfl) rfl (fun q => q) (ck_in (fun hl => (ck_iload_n 1 rfl 1 dX12_chances_0 rfl rfl (ck_iconst 2 rfl dX12_chances_1 rfl (ck_iconst 3 rfl dX12_chances_2 rfl (have h6 := h; ck_callS 6 rfl [.inl a1, .inl 1, .inl 3] [] dX12_chances_3 cs_X12_93 rfl rfl (Nat.le_of_ble_eq_true rfl) (And.intro hl.2.1 (And.intro (show ck_i 1 by decide) (And.intro (show ck_i 3 by decide) True.intro))) (p_X12_isIn hC (fun c4 _ => (ck_if_eq 9 rfl 18 dX12_chances_6 rfl (by decide) (fun q => absurd q (by decide)) (fun _ => (ck_iload_n 10 rfl 2 dX12_chances_9 rfl rfl (ck_iconst 11 rfl dX12_chances_10 rfl (ck_iconst 12 rfl dX12_chances_11 rfl (have h3 := (h6.1 c4); ck_callS 15 rfl [.inl a2, .inl 1, .inl 3] [] dX12_chances_12 cs_X12_93 rfl rfl (Nat.le_of_ble_eq_true rfl) (And.intro hl.2.2.1 (And.intro (show ck_i 1 by decide) (And.intro (show ck_i 3 by decide) True.intro))) (p_X12_isIn hC (fun c1 _ => (ck_if_ne 18 rfl 20 dX12_chances_15 rfl (by decide) (fun _ => (ck_aload_n 21 rfl 0 dX12_chances_20 rfl rfl (ck_getr 24 rfl dX12_chances_21 fl_X12_7 sh_76 rfl (ck_bipush 26 rfl dX12_chances_24 rfl (ck_iload_n 27 rfl 1 dX12_chances_26 rfl rfl (ck_iast 28 rfl dX12_chances_27 sh_77 (shn_77 hC) (by decide) hl.2.1 (ck_aload_n 29 rfl 0 dX12_chances_28 rfl rfl (ck_getr 32 rfl dX12_chances_29 fl_X12_7 sh_76 rfl (ck_bipush 34 rfl dX12_chances_32 rfl (ck_iload_n 35 rfl 2 dX12_chances_34 rfl rfl (ck_iast 36 rfl dX12_chances_35 sh_77 (shn_77 hC) (by decide) hl.2.2.1 (ck_iconst 37 rfl dX12_chances_36 rfl (ck_zret dX12_chances_37 rfl (by decide) (h3.1 c1)))))))))))))) (fun q => absurd q (by decide)))) (fun c2 _ => (ck_if_ne 18 rfl 20 dX12_chances_15 rfl (by decide) (fun q => absurd q (by decide)) (fun _ => (ck_iconst 19 rfl dX12_chances_18 rfl (ck_zret dX12_chances_19 rfl (by decide) (h3.2 c2)))))))))))))) (fun c5 _ => (ck_if_eq 9 rfl 18 dX12_chances_6 rfl (by decide) (fun _ => (ck_iconst 19 rfl dX12_chances_18 rfl (ck_zret dX12_chances_19 rfl (by decide) (h6.2 c5)))) (fun q => absurd q (by decide)))))))))))
theorem dX12_fetch_0 : decode cX12_fetch 0 = .ok (.iload_n 1, 1) := dk_27 (by decide +kernel)
theorem dX12_fetch_1 : decode cX12_fetch 1 = .ok (.iconst 0, 1) := dk_3 (by decide +kernel)
theorem dX12_fetch_2 : decode cX12_fetch 2 = .ok (.iconst 3, 1) := dk_6 (by decide +kernel)
theorem dX12_fetch_3 : decode cX12_fetch 3 = .ok (.invokestatic 93, 3) := dk_184 0 93 (by decide +kernel)
theorem dX12_fetch_6 : decode cX12_fetch 6 = .ok (.ifCond .eq 13, 3) := dk_153 0 13 (by decide +kernel)
theorem dX12_fetch_9 : decode cX12_fetch 9 = .ok (.iload_n 2, 1) := dk_28 (by decide +kernel)
theorem dX12_fetch_10 : decode cX12_fetch 10 = .ok (.iconst 0, 1) := dk_3 (by decide +kernel)
theorem dX12_fetch_11 : decode cX12_fetch 11 = .ok (.bipush 50, 2) := dk_16 50 (by decide +kernel)
theorem dX12_fetch_13 : decode cX12_fetch 13 = .ok (.invokestatic 93, 3) := dk_184 0 93 (by decide +kernel)
theorem dX12_fetch_16 : decode cX12_fetch 16 = .ok (.ifCond .ne 5, 3) := dk_154 0 5 (by decide +kernel)
theorem dX12_fetch_19 : decode cX12_fetch 19 = .ok (.iconst 0, 1) := dk_3 (by decide +kernel)
theorem dX12_fetch_20 : decode cX12_fetch 20 = .ok (.ireturn, 1) := dk_172 (by decide +kernel)
theorem dX12_fetch_21 : decode cX12_fetch 21 = .ok (.aload_n 0, 1) := dk_42 (by decide +kernel)
theorem dX12_fetch_22 : decode cX12_fetch 22 = .ok (.getfield 7, 3) := dk_180 0 7 (by decide +kernel)
theorem dX12_fetch_25 : decode cX12_fetch 25 = .ok (.sipush 1420, 3) := dk_17 5 140 (by decide +kernel)
theorem dX12_fetch_28 : decode cX12_fetch 28 = .ok (.iload_n 1, 1) := dk_27 (by decide +kernel)
theorem dX12_fetch_29 : decode cX12_fetch 29 = .ok (.iadd, 1) := dk_96 (by decide +kernel)
theorem dX12_fetch_30 : decode cX12_fetch 30 = .ok (.iload_n 2, 1) := dk_28 (by decide +kernel)
theorem dX12_fetch_31 : decode cX12_fetch 31 = .ok (.iastore, 1) := dk_79 (by decide +kernel)
theorem dX12_fetch_32 : decode cX12_fetch 32 = .ok (.iconst 1, 1) := dk_4 (by decide +kernel)
theorem dX12_fetch_33 : decode cX12_fetch 33 = .ok (.ireturn, 1) := dk_172 (by decide +kernel)
set_option maxRecDepth 8000 in
theorem e_X12_fetch {g : ch_G} {A R : Nat} (hC : ck_Cx g A R) {d : Nat} {K : Option ck_V → ck_W → Prop} {w : ck_W} {a1 a2 : Int} (h : (0 ≤ a1 ∧ a1 ≤ 3 → (0 ≤ a2 ∧ a2 ≤ 50 → (0 ≤ (1420 + a1) ∧ (1420 + a1) < 1430) ∧ (K (some (.inl 1)) (ck_up w 77 (1420 + a1) a2))) ∧ (¬ (0 ≤ a2 ∧ a2 ≤ 50) → K (some (.inl 0)) w)) ∧ (¬ (0 ≤ a1 ∧ a1 ≤ 3) → K (some (.inl 0)) w)) : ck_Ex (ch_C g A R) (d + 1) mX12_fetch [.inr (.inr 76), .inl a1, .inl a2] w K :=
  ck_entry hC.1 [some (.inr (.inr 76)), some (.inl a1), some (.inl a2)] (by decide) (Nat.le_of_ble_eq_true rfl) rfl (fun q => q) (ck_in (fun hl => (ck_iload_n 1 rfl 1 dX12_fetch_0 rfl rfl (ck_iconst 2 rfl dX12_fetch_1 rfl (ck_iconst 3 rfl dX12_fetch_2 rfl (have h7 := h; ck_callS 6 rfl [.inl a1, .inl 0, .inl 3] [] dX12_fetch_3 cs_X12_93 rfl rfl (Nat.le_of_ble_eq_true rfl) (And.intro hl.2.1 (And.intro (show ck_i 0 by decide) (And.intro (show ck_i 3 by decide) True.intro))) (p_X12_isIn hC (fun c5 _ => (ck_if_eq 9 rfl 19 dX12_fetch_6 rfl (by decide) (fun q => absurd q (by decide)) (fun _ => (ck_iload_n 10 rfl 2 dX12_fetch_9 rfl rfl (ck_iconst 11 rfl dX12_fetch_10 rfl (ck_bipush 13 rfl dX12_fetch_11 rfl (have h4 := (h7.1 c5); ck_callS 16 rfl [.inl a2, .inl 0, .inl 50] [] dX12_fetch_13 cs_X12_93 rfl rfl (Nat.le_of_ble_eq_true rfl) (And.intro hl.2.2.1 (And.intro (show ck_i 0 by decide) (And.intro (show ck_i 50 by decide) True.intro))) (p_X12_isIn hC (fun c2 _ => (ck_if_ne 19 rfl 21 dX12_fetch_16 rfl (by decide) (fun _ => (ck_aload_n 22 rfl 0 dX12_fetch_21 rfl rfl (ck_getr 25 rfl dX12_fetch_22 fl_X12_7 sh_76 rfl (ck_sipush 28 rfl dX12_fetch_25 rfl (ck_iload_n 29 rfl 1 dX12_fetch_28 rfl rfl (ck_iadd 30 rfl dX12_fetch_29 (ck_iload_n 31 rfl 2 dX12_fetch_30 rfl rfl (have h9 := (h4.1 c2); have o1 := h9.1; have h8 := h9.2; (ck_iast 32 rfl dX12_fetch_31 sh_77 (shn_77 hC) o1 hl.2.2.1 (ck_iconst 33 rfl dX12_fetch_32 rfl (ck_zret dX12_fetch_33 rfl (by decide) h8))))))))))) (fun q => absurd q (by decide)))) (fun c3 _ => (ck_if_ne 19 rfl 21 dX12_fetch_16 rfl (by decide) (fun q => absurd q (by decide)) (fun _ => (ck_iconst 20 rfl dX12_fetch_19 rfl (ck_zret dX12_fetch_20 rfl (by decide) (h4.2 c3)))))))))))))) (fun c6 _ => (ck_if_eq 9 rfl 19 dX12_fetch_6 rfl (by decide) (fun _ => (ck_iconst 20 rfl dX12_fetch_19 rfl (ck_zret dX12_fetch_20 rfl (by decide) (h7.2 c6)))) (fun q => absurd q (by decide)))))))))))
theorem dX12_part_0 : decode cX12_part 0 = .ok (.iload_n 1, 1) := dk_27 (by decide +kernel)
theorem dX12_part_1 : decode cX12_part 1 = .ok (.iconst 1, 1) := dk_4 (by decide +kernel)
theorem dX12_part_2 : decode cX12_part 2 = .ok (.bipush 50, 2) := dk_16 50 (by decide +kernel)
theorem dX12_part_4 : decode cX12_part 4 = .ok (.invokestatic 93, 3) := dk_184 0 93 (by decide +kernel)
theorem dX12_part_7 : decode cX12_part 7 = .ok (.ifCond .eq 35, 3) := dk_153 0 35 (by decide +kernel)
theorem dX12_part_10 : decode cX12_part 10 = .ok (.iload_n 2, 1) := dk_28 (by decide +kernel)
theorem dX12_part_11 : decode cX12_part 11 = .ok (.iconst 1, 1) := dk_4 (by decide +kernel)
theorem dX12_part_12 : decode cX12_part 12 = .ok (.sipush 999, 3) := dk_17 3 231 (by decide +kernel)
theorem dX12_part_15 : decode cX12_part 15 = .ok (.invokestatic 93, 3) := dk_184 0 93 (by decide +kernel)
theorem dX12_part_18 : decode cX12_part 18 = .ok (.ifCond .eq 24, 3) := dk_153 0 24 (by decide +kernel)
theorem dX12_part_21 : decode cX12_part 21 = .ok (.iload_n 3, 1) := dk_29 (by decide +kernel)
theorem dX12_part_22 : decode cX12_part 22 = .ok (.iconst 0, 1) := dk_3 (by decide +kernel)
theorem dX12_part_23 : decode cX12_part 23 = .ok (.iconst 3, 1) := dk_6 (by decide +kernel)
theorem dX12_part_24 : decode cX12_part 24 = .ok (.invokestatic 93, 3) := dk_184 0 93 (by decide +kernel)
theorem dX12_part_27 : decode cX12_part 27 = .ok (.ifCond .eq 15, 3) := dk_153 0 15 (by decide +kernel)
theorem dX12_part_30 : decode cX12_part 30 = .ok (.aload_n 0, 1) := dk_42 (by decide +kernel)
theorem dX12_part_31 : decode cX12_part 31 = .ok (.getfield 7, 3) := dk_180 0 7 (by decide +kernel)
theorem dX12_part_34 : decode cX12_part 34 = .ok (.bipush 6, 2) := dk_16 6 (by decide +kernel)
theorem dX12_part_36 : decode cX12_part 36 = .ok (.iaload, 1) := dk_46 (by decide +kernel)
theorem dX12_part_37 : decode cX12_part 37 = .ok (.bipush 16, 2) := dk_16 16 (by decide +kernel)
theorem dX12_part_39 : decode cX12_part 39 = .ok (.if_icmp .ne 5, 3) := dk_160 0 5 (by decide +kernel)
theorem dX12_part_42 : decode cX12_part 42 = .ok (.iconst (-1), 1) := dk_2 (by decide +kernel)
theorem dX12_part_43 : decode cX12_part 43 = .ok (.ireturn, 1) := dk_172 (by decide +kernel)
theorem dX12_part_44 : decode cX12_part 44 = .ok (.sipush 1360, 3) := dk_17 5 80 (by decide +kernel)
theorem dX12_part_47 : decode cX12_part 47 = .ok (.iconst 3, 1) := dk_6 (by decide +kernel)
theorem dX12_part_48 : decode cX12_part 48 = .ok (.aload_n 0, 1) := dk_42 (by decide +kernel)
theorem dX12_part_49 : decode cX12_part 49 = .ok (.getfield 7, 3) := dk_180 0 7 (by decide +kernel)
theorem dX12_part_52 : decode cX12_part 52 = .ok (.bipush 6, 2) := dk_16 6 (by decide +kernel)
theorem dX12_part_54 : decode cX12_part 54 = .ok (.iaload, 1) := dk_46 (by decide +kernel)
theorem dX12_part_55 : decode cX12_part 55 = .ok (.imul, 1) := dk_104 (by decide +kernel)
theorem dX12_part_56 : decode cX12_part 56 = .ok (.iadd, 1) := dk_96 (by decide +kernel)
theorem dX12_part_57 : decode cX12_part 57 = .ok (.istore 4, 2) := dk_54 (by decide +kernel)
theorem dX12_part_59 : decode cX12_part 59 = .ok (.aload_n 0, 1) := dk_42 (by decide +kernel)
theorem dX12_part_60 : decode cX12_part 60 = .ok (.getfield 7, 3) := dk_180 0 7 (by decide +kernel)
theorem dX12_part_63 : decode cX12_part 63 = .ok (.iload 4, 2) := dk_21 (by decide +kernel)
theorem dX12_part_65 : decode cX12_part 65 = .ok (.iload_n 1, 1) := dk_27 (by decide +kernel)
theorem dX12_part_66 : decode cX12_part 66 = .ok (.iastore, 1) := dk_79 (by decide +kernel)
theorem dX12_part_67 : decode cX12_part 67 = .ok (.aload_n 0, 1) := dk_42 (by decide +kernel)
theorem dX12_part_68 : decode cX12_part 68 = .ok (.getfield 7, 3) := dk_180 0 7 (by decide +kernel)
theorem dX12_part_71 : decode cX12_part 71 = .ok (.iload 4, 2) := dk_21 (by decide +kernel)
theorem dX12_part_73 : decode cX12_part 73 = .ok (.iconst 1, 1) := dk_4 (by decide +kernel)
theorem dX12_part_74 : decode cX12_part 74 = .ok (.iadd, 1) := dk_96 (by decide +kernel)
theorem dX12_part_75 : decode cX12_part 75 = .ok (.iload_n 2, 1) := dk_28 (by decide +kernel)
theorem dX12_part_76 : decode cX12_part 76 = .ok (.iastore, 1) := dk_79 (by decide +kernel)
theorem dX12_part_77 : decode cX12_part 77 = .ok (.aload_n 0, 1) := dk_42 (by decide +kernel)
theorem dX12_part_78 : decode cX12_part 78 = .ok (.getfield 7, 3) := dk_180 0 7 (by decide +kernel)
theorem dX12_part_81 : decode cX12_part 81 = .ok (.iload 4, 2) := dk_21 (by decide +kernel)
theorem dX12_part_83 : decode cX12_part 83 = .ok (.iconst 2, 1) := dk_5 (by decide +kernel)
theorem dX12_part_84 : decode cX12_part 84 = .ok (.iadd, 1) := dk_96 (by decide +kernel)
theorem dX12_part_85 : decode cX12_part 85 = .ok (.iload_n 3, 1) := dk_29 (by decide +kernel)
theorem dX12_part_86 : decode cX12_part 86 = .ok (.iastore, 1) := dk_79 (by decide +kernel)
theorem dX12_part_87 : decode cX12_part 87 = .ok (.aload_n 0, 1) := dk_42 (by decide +kernel)
theorem dX12_part_88 : decode cX12_part 88 = .ok (.getfield 7, 3) := dk_180 0 7 (by decide +kernel)
theorem dX12_part_91 : decode cX12_part 91 = .ok (.bipush 6, 2) := dk_16 6 (by decide +kernel)
theorem dX12_part_93 : decode cX12_part 93 = .ok (.dup2, 1) := dk_92 (by decide +kernel)
theorem dX12_part_94 : decode cX12_part 94 = .ok (.iaload, 1) := dk_46 (by decide +kernel)
theorem dX12_part_95 : decode cX12_part 95 = .ok (.iconst 1, 1) := dk_4 (by decide +kernel)
theorem dX12_part_96 : decode cX12_part 96 = .ok (.iadd, 1) := dk_96 (by decide +kernel)
theorem dX12_part_97 : decode cX12_part 97 = .ok (.iastore, 1) := dk_79 (by decide +kernel)
theorem dX12_part_98 : decode cX12_part 98 = .ok (.aload_n 0, 1) := dk_42 (by decide +kernel)
theorem dX12_part_99 : decode cX12_part 99 = .ok (.getfield 7, 3) := dk_180 0 7 (by decide +kernel)
theorem dX12_part_102 : decode cX12_part 102 = .ok (.bipush 6, 2) := dk_16 6 (by decide +kernel)
theorem dX12_part_104 : decode cX12_part 104 = .ok (.iaload, 1) := dk_46 (by decide +kernel)
theorem dX12_part_105 : decode cX12_part 105 = .ok (.ireturn, 1) := dk_172 (by decide +kernel)
set_option maxRecDepth 8000 in
theorem e_X12_part {g : ch_G} {A R : Nat} (hC : ck_Cx g A R) {d : Nat} {K : Option ck_V → ck_W → Prop} {w : ck_W} {a1 a2 a3 : Int} (h : (1 ≤ a1 ∧ a1 ≤ 50 → (1 ≤ a2 ∧ a2 ≤ 999 → (0 ≤ a3 ∧ a3 ≤ 3 → (¬ (w 77 6) = 16 → ck_i (1360 + (3 * (w 77 6))) ∧ ((0 ≤ (1360 + (3 * (w 77 6))) ∧ (1360 + (3 * (w 77 6))) < 1430) ∧ ((0 ≤ ((1360 + (3 * (w 77 6))) + 1) ∧ ((1360 + (3 * (w 77 6))) + 1) < 1430) ∧ ((0 ≤ ((1360 + (3 * (w 77 6))) + 2) ∧ ((1360 + (3 * (w 77 6))) + 2) < 1430) ∧ (∀ x8, x8 = (ck_up (ck_up (ck_up w 77 (1360 + (3 * (w 77 6))) a1) 77 ((1360 + (3 * (w 77 6))) + 1) a2) 77 ((1360 + (3 * (w 77 6))) + 2) a3) 77 6 → ck_i (x8 + 1) ∧ (K (some (.inl (x8 + 1))) (ck_up (ck_up (ck_up (ck_up w 77 (1360 + (3 * (w 77 6))) a1) 77 ((1360 + (3 * (w 77 6))) + 1) a2) 77 ((1360 + (3 * (w 77 6))) + 2) a3) 77 6 (x8 + 1)))))))) ∧ ((w 77 6) = 16 → K (some (.inl (-1))) w)) ∧ (¬ (0 ≤ a3 ∧ a3 ≤ 3) → K (some (.inl (-1))) w)) ∧ (¬ (1 ≤ a2 ∧ a2 ≤ 999) → K (some (.inl (-1))) w)) ∧ (¬ (1 ≤ a1 ∧ a1 ≤ 50) → K (some (.inl (-1))) w)) : ck_Ex (ch_C g A R) (d + 1) mX12_part [.inr (.inr 76), .inl a1, .inl a2, .inl a3] w K :=
  ck_entry hC.1 [some (.inr (.inr 76)), some (.inl a1), some (.inl a2), some (.inl a3), none] (by decide) (Nat.le_of_ble_eq_true rfl) rfl (fun q => q) (ck_in (fun hl => (ck_iload_n 1 rfl 1 dX12_part_0 rfl rfl (ck_iconst 2 rfl dX12_part_1 rfl (ck_bipush 4 rfl dX12_part_2 rfl (have h23 := h; ck_callS 7 rfl [.inl a1, .inl 1, .inl 50] [] dX12_part_4 cs_X12_93 rfl rfl (Nat.le_of_ble_eq_true rfl) (And.intro hl.2.1 (And.intro (show ck_i 1 by decide) (And.intro (show ck_i 50 by decide) True.intro))) (p_X12_isIn hC (fun c21 _ => (ck_if_eq 10 rfl 42 dX12_part_7 rfl (by decide) (fun q => absurd q (by decide)) (fun _ => (ck_iload_n 11 rfl 2 dX12_part_10 rfl rfl (ck_iconst 12 rfl dX12_part_11 rfl (ck_sipush 15 rfl dX12_part_12 rfl (have h20 := (h23.1 c21); ck_callS 18 rfl [.inl a2, .inl 1, .inl 999] [] dX12_part_15 cs_X12_93 rfl rfl (Nat.le_of_ble_eq_true rfl) (And.intro hl.2.2.1 (And.intro (show ck_i 1 by decide) (And.intro (show ck_i 999 by decide) True.intro))) (p_X12_isIn hC (fun c18 _ => (ck_if_eq 21 rfl 42 dX12_part_18 rfl (by decide) (fun q => absurd q (by decide)) (fun _ => (ck_iload_n 22 rfl 3 dX12_part_21 rfl rfl (ck_iconst 23 rfl dX12_part_22 rfl (ck_iconst 24 rfl dX12_part_23 rfl (have h17 := (h20.1 c18); ck_callS 27 rfl [.inl a3, .inl 0, .inl 3] [] dX12_part_24 cs_X12_93 rfl rfl (Nat.le_of_ble_eq_true rfl) (And.intro hl.2.2.2.1 (And.intro (show ck_i 0 by decide) (And.intro (show ck_i 3 by decide) True.intro))) (p_X12_isIn hC (fun c15 _ => (ck_if_eq 30 rfl 42 dX12_part_27 rfl (by decide) (fun q => absurd q (by decide)) (fun _ => (ck_aload_n 31 rfl 0 dX12_part_30 rfl rfl (ck_getr 34 rfl dX12_part_31 fl_X12_7 sh_76 rfl (ck_bipush 36 rfl dX12_part_34 rfl (ck_iald 37 rfl dX12_part_36 sh_77 (shn_77 hC) (by decide) _ rfl (fun (q1 : ck_i (w 77 6)) => (ck_bipush 39 rfl dX12_part_37 rfl (have h24 := (h17.1 c15); (ck_icmp_ne 42 rfl 44 dX12_part_39 rfl q1 (show ck_i 16 by decide) (fun c13 => (ck_sipush 47 rfl dX12_part_44 rfl (ck_iconst 48 rfl dX12_part_47 rfl (ck_aload_n 49 rfl 0 dX12_part_48 rfl rfl (ck_getr 52 rfl dX12_part_49 fl_X12_7 sh_76 rfl (ck_bipush 54 rfl dX12_part_52 rfl (ck_iald 55 rfl dX12_part_54 sh_77 (shn_77 hC) (by decide) _ rfl (fun (q2 : ck_i (w 77 6)) => (ck_imul 56 rfl dX12_part_55 (ck_iadd 57 rfl dX12_part_56 (have h26 := (h24.1 c13); have o3 := h26.1; have h25 := h26.2; (ck_istore 59 rfl [some (.inr (.inr 76)), some (.inl a1), some (.inl a2), some (.inl a3), some (.inl (1360 + (3 * (w 77 6))))] dX12_part_57 (Nat.le_of_ble_eq_true rfl) rfl rfl o3 (ck_aload_n 60 rfl 0 dX12_part_59 rfl rfl (ck_getr 63 rfl dX12_part_60 fl_X12_7 sh_76 rfl (ck_iload 65 rfl dX12_part_63 rfl (ck_iload_n 66 rfl 1 dX12_part_65 rfl rfl (have h28 := h25; have o4 := h28.1; have h27 := h28.2; (ck_iast 67 rfl dX12_part_66 sh_77 (shn_77 hC) o4 hl.2.1 (ck_aload_n 68 rfl 0 dX12_part_67 rfl rfl (ck_getr 71 rfl dX12_part_68 fl_X12_7 sh_76 rfl (ck_iload 73 rfl dX12_part_71 rfl (ck_iconst 74 rfl dX12_part_73 rfl (ck_iadd 75 rfl dX12_part_74 (ck_iload_n 76 rfl 2 dX12_part_75 rfl rfl (have h30 := h27; have o5 := h30.1; have h29 := h30.2; (ck_iast 77 rfl dX12_part_76 sh_77 (shn_77 hC) o5 hl.2.2.1 (ck_aload_n 78 rfl 0 dX12_part_77 rfl rfl (ck_getr 81 rfl dX12_part_78 fl_X12_7 sh_76 rfl (ck_iload 83 rfl dX12_part_81 rfl (ck_iconst 84 rfl dX12_part_83 rfl (ck_iadd 85 rfl dX12_part_84 (ck_iload_n 86 rfl 3 dX12_part_85 rfl rfl (have h32 := h29; have o6 := h32.1; have h31 := h32.2; (ck_iast 87 rfl dX12_part_86 sh_77 (shn_77 hC) o6 hl.2.2.2.1 (ck_aload_n 88 rfl 0 dX12_part_87 rfl rfl (ck_getr 91 rfl dX12_part_88 fl_X12_7 sh_76 rfl (ck_bipush 93 rfl dX12_part_91 rfl (ck_dup2 94 rfl dX12_part_93 rfl rfl (ck_iald 95 rfl dX12_part_94 sh_77 (shn_77 hC) (by decide) _ rfl (fun (q7 : ck_i ((ck_up (ck_up (ck_up w 77 (1360 + (3 * (w 77 6))) a1) 77 ((1360 + (3 * (w 77 6))) + 1) a2) 77 ((1360 + (3 * (w 77 6))) + 2) a3) 77 6)) => ck_nmi (fun x8 e9 => (have q10 : ck_i x8 := (by rw [e9]; exact q7); (ck_iconst 96 rfl dX12_part_95 rfl (ck_iadd 97 rfl dX12_part_96 (have h34 := (h31 x8 e9); have o11 := h34.1; have h33 := h34.2; (ck_iast 98 rfl dX12_part_97 sh_77 (shn_77 hC) (by decide) o11 (ck_aload_n 99 rfl 0 dX12_part_98 rfl rfl (ck_getr 102 rfl dX12_part_99 fl_X12_7 sh_76 rfl (ck_bipush 104 rfl dX12_part_102 rfl (ck_iald 105 rfl dX12_part_104 sh_77 (shn_77 hC) (by decide) _ rfl (fun (q12 : ck_i (x8 + 1)) => (ck_iret dX12_part_105 rfl q12 h33)))))))))))))))))))))))))))))))))))))))))))))))))))) (fun c14 => (ck_iconst 43 rfl dX12_part_42 rfl (ck_iret dX12_part_43 rfl (show ck_i (-1) by decide) (h24.2 c14))))))))))))))) (fun c16 _ => (ck_if_eq 30 rfl 42 dX12_part_27 rfl (by decide) (fun _ => (ck_iconst 43 rfl dX12_part_42 rfl (ck_iret dX12_part_43 rfl (show ck_i (-1) by decide) (h17.2 c16)))) (fun q => absurd q (by decide)))))))))))) (fun c19 _ => (ck_if_eq 21 rfl 42 dX12_part_18 rfl (by decide) (fun _ => (ck_iconst 43 rfl dX12_part_42 rfl (ck_iret dX12_part_43 rfl (show ck_i (-1) by decide) (h20.2 c19)))) (fun q => absurd q (by decide)))))))))))) (fun c22 _ => (ck_if_eq 10 rfl 42 dX12_part_7 rfl (by decide) (fun _ => (ck_iconst 43 rfl dX12_part_42 rfl (ck_iret dX12_part_43 rfl (show ck_i (-1) by decide) (h23.2 c22)))) (fun q => absurd q (by decide)))))))))))
theorem dX12_letter_0 : decode cX12_letter 0 = .ok (.iload_n 1, 1) := dk_27 (by decide +kernel)
theorem dX12_letter_1 : decode cX12_letter 1 = .ok (.iconst 0, 1) := dk_3 (by decide +kernel)
theorem dX12_letter_2 : decode cX12_letter 2 = .ok (.sipush 511, 3) := dk_17 1 255 (by decide +kernel)
theorem dX12_letter_5 : decode cX12_letter 5 = .ok (.invokestatic 93, 3) := dk_184 0 93 (by decide +kernel)
theorem dX12_letter_8 : decode cX12_letter 8 = .ok (.ifCond .eq 21, 3) := dk_153 0 21 (by decide +kernel)
theorem dX12_letter_11 : decode cX12_letter 11 = .ok (.iload_n 2, 1) := dk_28 (by decide +kernel)
theorem dX12_letter_12 : decode cX12_letter 12 = .ok (.invokestatic 339, 3) := dk_184 1 83 (by decide +kernel)
theorem dX12_letter_15 : decode cX12_letter 15 = .ok (.ifCond .eq 14, 3) := dk_153 0 14 (by decide +kernel)
theorem dX12_letter_18 : decode cX12_letter 18 = .ok (.aload_n 0, 1) := dk_42 (by decide +kernel)
theorem dX12_letter_19 : decode cX12_letter 19 = .ok (.getfield 7, 3) := dk_180 0 7 (by decide +kernel)
theorem dX12_letter_22 : decode cX12_letter 22 = .ok (.iconst 4, 1) := dk_7 (by decide +kernel)
theorem dX12_letter_23 : decode cX12_letter 23 = .ok (.iaload, 1) := dk_46 (by decide +kernel)
theorem dX12_letter_24 : decode cX12_letter 24 = .ok (.bipush 12, 2) := dk_16 12 (by decide +kernel)
theorem dX12_letter_26 : decode cX12_letter 26 = .ok (.if_icmp .ne 5, 3) := dk_160 0 5 (by decide +kernel)
theorem dX12_letter_29 : decode cX12_letter 29 = .ok (.iconst (-1), 1) := dk_2 (by decide +kernel)
theorem dX12_letter_30 : decode cX12_letter 30 = .ok (.ireturn, 1) := dk_172 (by decide +kernel)
theorem dX12_letter_31 : decode cX12_letter 31 = .ok (.aload_n 0, 1) := dk_42 (by decide +kernel)
theorem dX12_letter_32 : decode cX12_letter 32 = .ok (.getfield 7, 3) := dk_180 0 7 (by decide +kernel)
theorem dX12_letter_35 : decode cX12_letter 35 = .ok (.sipush 1270, 3) := dk_17 4 246 (by decide +kernel)
theorem dX12_letter_38 : decode cX12_letter 38 = .ok (.iconst 2, 1) := dk_5 (by decide +kernel)
theorem dX12_letter_39 : decode cX12_letter 39 = .ok (.aload_n 0, 1) := dk_42 (by decide +kernel)
theorem dX12_letter_40 : decode cX12_letter 40 = .ok (.getfield 7, 3) := dk_180 0 7 (by decide +kernel)
theorem dX12_letter_43 : decode cX12_letter 43 = .ok (.iconst 4, 1) := dk_7 (by decide +kernel)
theorem dX12_letter_44 : decode cX12_letter 44 = .ok (.iaload, 1) := dk_46 (by decide +kernel)
theorem dX12_letter_45 : decode cX12_letter 45 = .ok (.imul, 1) := dk_104 (by decide +kernel)
theorem dX12_letter_46 : decode cX12_letter 46 = .ok (.iadd, 1) := dk_96 (by decide +kernel)
theorem dX12_letter_47 : decode cX12_letter 47 = .ok (.iload_n 1, 1) := dk_27 (by decide +kernel)
theorem dX12_letter_48 : decode cX12_letter 48 = .ok (.iastore, 1) := dk_79 (by decide +kernel)
theorem dX12_letter_49 : decode cX12_letter 49 = .ok (.aload_n 0, 1) := dk_42 (by decide +kernel)
theorem dX12_letter_50 : decode cX12_letter 50 = .ok (.getfield 7, 3) := dk_180 0 7 (by decide +kernel)
theorem dX12_letter_53 : decode cX12_letter 53 = .ok (.sipush 1270, 3) := dk_17 4 246 (by decide +kernel)
theorem dX12_letter_56 : decode cX12_letter 56 = .ok (.iconst 2, 1) := dk_5 (by decide +kernel)
theorem dX12_letter_57 : decode cX12_letter 57 = .ok (.aload_n 0, 1) := dk_42 (by decide +kernel)
theorem dX12_letter_58 : decode cX12_letter 58 = .ok (.getfield 7, 3) := dk_180 0 7 (by decide +kernel)
theorem dX12_letter_61 : decode cX12_letter 61 = .ok (.iconst 4, 1) := dk_7 (by decide +kernel)
theorem dX12_letter_62 : decode cX12_letter 62 = .ok (.iaload, 1) := dk_46 (by decide +kernel)
theorem dX12_letter_63 : decode cX12_letter 63 = .ok (.imul, 1) := dk_104 (by decide +kernel)
theorem dX12_letter_64 : decode cX12_letter 64 = .ok (.iadd, 1) := dk_96 (by decide +kernel)
theorem dX12_letter_65 : decode cX12_letter 65 = .ok (.iconst 1, 1) := dk_4 (by decide +kernel)
theorem dX12_letter_66 : decode cX12_letter 66 = .ok (.iadd, 1) := dk_96 (by decide +kernel)
theorem dX12_letter_67 : decode cX12_letter 67 = .ok (.iload_n 2, 1) := dk_28 (by decide +kernel)
theorem dX12_letter_68 : decode cX12_letter 68 = .ok (.iastore, 1) := dk_79 (by decide +kernel)
theorem dX12_letter_69 : decode cX12_letter 69 = .ok (.aload_n 0, 1) := dk_42 (by decide +kernel)
theorem dX12_letter_70 : decode cX12_letter 70 = .ok (.getfield 7, 3) := dk_180 0 7 (by decide +kernel)
theorem dX12_letter_73 : decode cX12_letter 73 = .ok (.iconst 4, 1) := dk_7 (by decide +kernel)
theorem dX12_letter_74 : decode cX12_letter 74 = .ok (.dup2, 1) := dk_92 (by decide +kernel)
theorem dX12_letter_75 : decode cX12_letter 75 = .ok (.iaload, 1) := dk_46 (by decide +kernel)
theorem dX12_letter_76 : decode cX12_letter 76 = .ok (.iconst 1, 1) := dk_4 (by decide +kernel)
theorem dX12_letter_77 : decode cX12_letter 77 = .ok (.iadd, 1) := dk_96 (by decide +kernel)
theorem dX12_letter_78 : decode cX12_letter 78 = .ok (.iastore, 1) := dk_79 (by decide +kernel)
theorem dX12_letter_79 : decode cX12_letter 79 = .ok (.aload_n 0, 1) := dk_42 (by decide +kernel)
theorem dX12_letter_80 : decode cX12_letter 80 = .ok (.getfield 7, 3) := dk_180 0 7 (by decide +kernel)
theorem dX12_letter_83 : decode cX12_letter 83 = .ok (.iconst 4, 1) := dk_7 (by decide +kernel)
theorem dX12_letter_84 : decode cX12_letter 84 = .ok (.iaload, 1) := dk_46 (by decide +kernel)
theorem dX12_letter_85 : decode cX12_letter 85 = .ok (.iconst 1, 1) := dk_4 (by decide +kernel)
theorem dX12_letter_86 : decode cX12_letter 86 = .ok (.isub, 1) := dk_100 (by decide +kernel)
theorem dX12_letter_87 : decode cX12_letter 87 = .ok (.ireturn, 1) := dk_172 (by decide +kernel)
set_option maxRecDepth 8000 in
theorem e_X12_letter {g : ch_G} {A R : Nat} (hC : ck_Cx g A R) {d : Nat} {K : Option ck_V → ck_W → Prop} {w : ck_W} {a1 a2 : Int} (h : (0 ≤ a1 ∧ a1 ≤ 511 → (1 ≤ a2 ∧ a2 ≤ 99 → (¬ (w 77 4) = 12 → (0 ≤ (1270 + (2 * (w 77 4))) ∧ (1270 + (2 * (w 77 4))) < 1430) ∧ (∀ x5, x5 = (ck_up w 77 (1270 + (2 * (w 77 4))) a1) 77 4 → (0 ≤ ((1270 + (2 * x5)) + 1) ∧ ((1270 + (2 * x5)) + 1) < 1430) ∧ (∀ x10, x10 = (ck_up (ck_up w 77 (1270 + (2 * (w 77 4))) a1) 77 ((1270 + (2 * x5)) + 1) a2) 77 4 → ck_i (x10 + 1) ∧ (ck_i ((x10 + 1) - 1) ∧ (K (some (.inl ((x10 + 1) - 1))) (ck_up (ck_up (ck_up w 77 (1270 + (2 * (w 77 4))) a1) 77 ((1270 + (2 * x5)) + 1) a2) 77 4 (x10 + 1))))))) ∧ ((w 77 4) = 12 → K (some (.inl (-1))) w)) ∧ (¬ (1 ≤ a2 ∧ a2 ≤ 99) → K (some (.inl (-1))) w)) ∧ (¬ (0 ≤ a1 ∧ a1 ≤ 511) → K (some (.inl (-1))) w)) : ck_Ex (ch_C g A R) (d + 2) mX12_letter [.inr (.inr 76), .inl a1, .inl a2] w K :=
  ck_entry hC.1 [some (.inr (.inr 76)), some (.inl a1), some (.inl a2)] (by decide) (Nat.le_of_ble_eq_true rfl) rfl (fun q => q) (ck_in (fun hl => (ck_iload_n 1 rfl 1 dX12_letter_0 rfl rfl (ck_iconst 2 rfl dX12_letter_1 rfl (ck_sipush 5 rfl dX12_letter_2 rfl (have h23 := h; ck_callS 8 rfl [.inl a1, .inl 0, .inl 511] [] dX12_letter_5 cs_X12_93 rfl rfl (Nat.le_of_ble_eq_true rfl) (And.intro hl.2.1 (And.intro (show ck_i 0 by decide) (And.intro (show ck_i 511 by decide) True.intro))) (p_X12_isIn hC (fun c21 _ => (ck_if_eq 11 rfl 29 dX12_letter_8 rfl (by decide) (fun q => absurd q (by decide)) (fun _ => (ck_iload_n 12 rfl 2 dX12_letter_11 rfl rfl (have h20 := (h23.1 c21); ck_callS 15 rfl [.inl a2] [] dX12_letter_12 cs_X12_339 rfl rfl (Nat.le_of_ble_eq_true rfl) (And.intro hl.2.2.1 True.intro) (p_X12_isWeight hC (fun c18 _ => (ck_if_eq 18 rfl 29 dX12_letter_15 rfl (by decide) (fun q => absurd q (by decide)) (fun _ => (ck_aload_n 19 rfl 0 dX12_letter_18 rfl rfl (ck_getr 22 rfl dX12_letter_19 fl_X12_7 sh_76 rfl (ck_iconst 23 rfl dX12_letter_22 rfl (ck_iald 24 rfl dX12_letter_23 sh_77 (shn_77 hC) (by decide) _ rfl (fun (q1 : ck_i (w 77 4)) => (ck_bipush 26 rfl dX12_letter_24 rfl (have h24 := (h20.1 c18); (ck_icmp_ne 29 rfl 31 dX12_letter_26 rfl q1 (show ck_i 12 by decide) (fun c16 => (ck_aload_n 32 rfl 0 dX12_letter_31 rfl rfl (ck_getr 35 rfl dX12_letter_32 fl_X12_7 sh_76 rfl (ck_sipush 38 rfl dX12_letter_35 rfl (ck_iconst 39 rfl dX12_letter_38 rfl (ck_aload_n 40 rfl 0 dX12_letter_39 rfl rfl (ck_getr 43 rfl dX12_letter_40 fl_X12_7 sh_76 rfl (ck_iconst 44 rfl dX12_letter_43 rfl (ck_iald 45 rfl dX12_letter_44 sh_77 (shn_77 hC) (by decide) _ rfl (fun (q2 : ck_i (w 77 4)) => (ck_imul 46 rfl dX12_letter_45 (ck_iadd 47 rfl dX12_letter_46 (ck_iload_n 48 rfl 1 dX12_letter_47 rfl rfl (have h26 := (h24.1 c16); have o3 := h26.1; have h25 := h26.2; (ck_iast 49 rfl dX12_letter_48 sh_77 (shn_77 hC) o3 hl.2.1 (ck_aload_n 50 rfl 0 dX12_letter_49 rfl rfl (ck_getr 53 rfl dX12_letter_50 fl_X12_7 sh_76 rfl (ck_sipush 56 rfl dX12_letter_53 rfl (ck_iconst 57 rfl dX12_letter_56 rfl (ck_aload_n 58 rfl 0 dX12_letter_57 rfl rfl (ck_getr 61 rfl dX12_letter_58 fl_X12_7 sh_76 rfl (ck_iconst 62 rfl dX12_letter_61 rfl (ck_iald 63 rfl dX12_letter_62 sh_77 (shn_77 hC) (by decide) _ rfl (fun (q4 : ck_i ((ck_up w 77 (1270 + (2 * (w 77 4))) a1) 77 4)) => ck_nmi (fun x5 e6 => (have q7 : ck_i x5 := (by rw [e6]; exact q4); (ck_imul 64 rfl dX12_letter_63 (ck_iadd 65 rfl dX12_letter_64 (ck_iconst 66 rfl dX12_letter_65 rfl (ck_iadd 67 rfl dX12_letter_66 (ck_iload_n 68 rfl 2 dX12_letter_67 rfl rfl (have h28 := (h25 x5 e6); have o8 := h28.1; have h27 := h28.2; (ck_iast 69 rfl dX12_letter_68 sh_77 (shn_77 hC) o8 hl.2.2.1 (ck_aload_n 70 rfl 0 dX12_letter_69 rfl rfl (ck_getr 73 rfl dX12_letter_70 fl_X12_7 sh_76 rfl (ck_iconst 74 rfl dX12_letter_73 rfl (ck_dup2 75 rfl dX12_letter_74 rfl rfl (ck_iald 76 rfl dX12_letter_75 sh_77 (shn_77 hC) (by decide) _ rfl (fun (q9 : ck_i ((ck_up (ck_up w 77 (1270 + (2 * (w 77 4))) a1) 77 ((1270 + (2 * x5)) + 1) a2) 77 4)) => ck_nmi (fun x10 e11 => (have q12 : ck_i x10 := (by rw [e11]; exact q9); (ck_iconst 77 rfl dX12_letter_76 rfl (ck_iadd 78 rfl dX12_letter_77 (have h30 := (h27 x10 e11); have o13 := h30.1; have h29 := h30.2; (ck_iast 79 rfl dX12_letter_78 sh_77 (shn_77 hC) (by decide) o13 (ck_aload_n 80 rfl 0 dX12_letter_79 rfl rfl (ck_getr 83 rfl dX12_letter_80 fl_X12_7 sh_76 rfl (ck_iconst 84 rfl dX12_letter_83 rfl (ck_iald 85 rfl dX12_letter_84 sh_77 (shn_77 hC) (by decide) _ rfl (fun (q14 : ck_i (x10 + 1)) => (ck_iconst 86 rfl dX12_letter_85 rfl (ck_isub 87 rfl dX12_letter_86 (have h32 := h29; have o15 := h32.1; have h31 := h32.2; (ck_iret dX12_letter_87 rfl o15 h31)))))))))))))))))))))))))))))))))))))))))))))))))))))) (fun c17 => (ck_iconst 30 rfl dX12_letter_29 rfl (ck_iret dX12_letter_30 rfl (show ck_i (-1) by decide) (h24.2 c17))))))))))))))) (fun c19 _ => (ck_if_eq 18 rfl 29 dX12_letter_15 rfl (by decide) (fun _ => (ck_iconst 30 rfl dX12_letter_29 rfl (ck_iret dX12_letter_30 rfl (show ck_i (-1) by decide) (h20.2 c19)))) (fun q => absurd q (by decide)))))))))) (fun c22 _ => (ck_if_eq 11 rfl 29 dX12_letter_8 rfl (by decide) (fun _ => (ck_iconst 30 rfl dX12_letter_29 rfl (ck_iret dX12_letter_30 rfl (show ck_i (-1) by decide) (h23.2 c22)))) (fun q => absurd q (by decide)))))))))))
theorem dX12_learnt_0 : decode cX12_learnt 0 = .ok (.aload_n 0, 1) := dk_42 (by decide +kernel)
theorem dX12_learnt_1 : decode cX12_learnt 1 = .ok (.iload_n 1, 1) := dk_27 (by decide +kernel)
theorem dX12_learnt_2 : decode cX12_learnt 2 = .ok (.invokevirtual 330, 3) := dk_182 1 74 (by decide +kernel)
theorem dX12_learnt_5 : decode cX12_learnt 5 = .ok (.ifCond .eq 13, 3) := dk_153 0 13 (by decide +kernel)
theorem dX12_learnt_8 : decode cX12_learnt 8 = .ok (.iload_n 2, 1) := dk_28 (by decide +kernel)
theorem dX12_learnt_9 : decode cX12_learnt 9 = .ok (.iconst 0, 1) := dk_3 (by decide +kernel)
theorem dX12_learnt_10 : decode cX12_learnt 10 = .ok (.bipush 15, 2) := dk_16 15 (by decide +kernel)
theorem dX12_learnt_12 : decode cX12_learnt 12 = .ok (.invokestatic 93, 3) := dk_184 0 93 (by decide +kernel)
theorem dX12_learnt_15 : decode cX12_learnt 15 = .ok (.ifCond .ne 5, 3) := dk_154 0 5 (by decide +kernel)
theorem dX12_learnt_18 : decode cX12_learnt 18 = .ok (.iconst 0, 1) := dk_3 (by decide +kernel)
theorem dX12_learnt_19 : decode cX12_learnt 19 = .ok (.ireturn, 1) := dk_172 (by decide +kernel)
theorem dX12_learnt_20 : decode cX12_learnt 20 = .ok (.aload_n 0, 1) := dk_42 (by decide +kernel)
theorem dX12_learnt_21 : decode cX12_learnt 21 = .ok (.getfield 7, 3) := dk_180 0 7 (by decide +kernel)
theorem dX12_learnt_24 : decode cX12_learnt 24 = .ok (.sipush 1260, 3) := dk_17 4 236 (by decide +kernel)
theorem dX12_learnt_27 : decode cX12_learnt 27 = .ok (.iload_n 1, 1) := dk_27 (by decide +kernel)
theorem dX12_learnt_28 : decode cX12_learnt 28 = .ok (.iadd, 1) := dk_96 (by decide +kernel)
theorem dX12_learnt_29 : decode cX12_learnt 29 = .ok (.iload_n 2, 1) := dk_28 (by decide +kernel)
theorem dX12_learnt_30 : decode cX12_learnt 30 = .ok (.iastore, 1) := dk_79 (by decide +kernel)
theorem dX12_learnt_31 : decode cX12_learnt 31 = .ok (.iconst 1, 1) := dk_4 (by decide +kernel)
theorem dX12_learnt_32 : decode cX12_learnt 32 = .ok (.ireturn, 1) := dk_172 (by decide +kernel)
set_option maxRecDepth 8000 in
theorem e_X12_learnt {g : ch_G} {A R : Nat} (hC : ck_Cx g A R) {d : Nat} {K : Option ck_V → ck_W → Prop} {w : ck_W} {a1 a2 : Int} (h : (0 ≤ (w 77 0) ∧ (w 77 0) ≤ 1000) ∧ ((0 ≤ a1 ∧ a1 ≤ (w 77 0) - 1 → (0 ≤ a2 ∧ a2 ≤ 15 → (0 ≤ (1260 + a1) ∧ (1260 + a1) < 1430) ∧ (K (some (.inl 1)) (ck_up w 77 (1260 + a1) a2))) ∧ (¬ (0 ≤ a2 ∧ a2 ≤ 15) → K (some (.inl 0)) w)) ∧ (¬ (0 ≤ a1 ∧ a1 ≤ (w 77 0) - 1) → K (some (.inl 0)) w))) : ck_Ex (ch_C g A R) (d + 2) mX12_learnt [.inr (.inr 76), .inl a1, .inl a2] w K :=
  ck_entry hC.1 [some (.inr (.inr 76)), some (.inl a1), some (.inl a2)] (by decide) (Nat.le_of_ble_eq_true rfl) rfl (fun q => q) (ck_in (fun hl => (ck_aload_n 1 rfl 0 dX12_learnt_0 rfl rfl (ck_iload_n 2 rfl 1 dX12_learnt_1 rfl rfl (have h10 := h; have o1 := h10.1; have h9 := h10.2; (have h8 := h9; ck_callV 5 rfl [.inl a1] [] dX12_learnt_2 cv_X12_330 sh_76 rfl rfl (Nat.le_of_ble_eq_true rfl) (And.intro hl.2.1 True.intro) (p_X12_isReader hC o1 (fun c6 _ => (ck_if_eq 8 rfl 18 dX12_learnt_5 rfl (by decide) (fun q => absurd q (by decide)) (fun _ => (ck_iload_n 9 rfl 2 dX12_learnt_8 rfl rfl (ck_iconst 10 rfl dX12_learnt_9 rfl (ck_bipush 12 rfl dX12_learnt_10 rfl (have h5 := (h8.1 c6); ck_callS 15 rfl [.inl a2, .inl 0, .inl 15] [] dX12_learnt_12 cs_X12_93 rfl rfl (Nat.le_of_ble_eq_true rfl) (And.intro hl.2.2.1 (And.intro (show ck_i 0 by decide) (And.intro (show ck_i 15 by decide) True.intro))) (p_X12_isIn hC (fun c3 _ => (ck_if_ne 18 rfl 20 dX12_learnt_15 rfl (by decide) (fun _ => (ck_aload_n 21 rfl 0 dX12_learnt_20 rfl rfl (ck_getr 24 rfl dX12_learnt_21 fl_X12_7 sh_76 rfl (ck_sipush 27 rfl dX12_learnt_24 rfl (ck_iload_n 28 rfl 1 dX12_learnt_27 rfl rfl (ck_iadd 29 rfl dX12_learnt_28 (ck_iload_n 30 rfl 2 dX12_learnt_29 rfl rfl (have h12 := (h5.1 c3); have o2 := h12.1; have h11 := h12.2; (ck_iast 31 rfl dX12_learnt_30 sh_77 (shn_77 hC) o2 hl.2.2.1 (ck_iconst 32 rfl dX12_learnt_31 rfl (ck_zret dX12_learnt_32 rfl (by decide) h11))))))))))) (fun q => absurd q (by decide)))) (fun c4 _ => (ck_if_ne 18 rfl 20 dX12_learnt_15 rfl (by decide) (fun q => absurd q (by decide)) (fun _ => (ck_iconst 19 rfl dX12_learnt_18 rfl (ck_zret dX12_learnt_19 rfl (by decide) (h5.2 c4)))))))))))))) (fun c7 _ => (ck_if_eq 8 rfl 18 dX12_learnt_5 rfl (by decide) (fun _ => (ck_iconst 19 rfl dX12_learnt_18 rfl (ck_zret dX12_learnt_19 rfl (by decide) (h8.2 c7)))) (fun q => absurd q (by decide)))))))))))
theorem dX12_end_0 : decode cX12_end 0 = .ok (.iload_n 1, 1) := dk_27 (by decide +kernel)
theorem dX12_end_1 : decode cX12_end 1 = .ok (.iconst 0, 1) := dk_3 (by decide +kernel)
theorem dX12_end_2 : decode cX12_end 2 = .ok (.aload_n 0, 1) := dk_42 (by decide +kernel)
theorem dX12_end_3 : decode cX12_end 3 = .ok (.getfield 177, 3) := dk_180 0 177 (by decide +kernel)
theorem dX12_end_6 : decode cX12_end 6 = .ok (.invokestatic 93, 3) := dk_184 0 93 (by decide +kernel)
theorem dX12_end_9 : decode cX12_end 9 = .ok (.ifCond .ne 5, 3) := dk_154 0 5 (by decide +kernel)
theorem dX12_end_12 : decode cX12_end 12 = .ok (.iconst (-1), 1) := dk_2 (by decide +kernel)
theorem dX12_end_13 : decode cX12_end 13 = .ok (.ireturn, 1) := dk_172 (by decide +kernel)
theorem dX12_end_14 : decode cX12_end 14 = .ok (.aload_n 0, 1) := dk_42 (by decide +kernel)
theorem dX12_end_15 : decode cX12_end 15 = .ok (.iload_n 1, 1) := dk_27 (by decide +kernel)
theorem dX12_end_16 : decode cX12_end 16 = .ok (.putfield 177, 3) := dk_181 0 177 (by decide +kernel)
theorem dX12_end_19 : decode cX12_end 19 = .ok (.iload_n 1, 1) := dk_27 (by decide +kernel)
theorem dX12_end_20 : decode cX12_end 20 = .ok (.ireturn, 1) := dk_172 (by decide +kernel)
set_option maxRecDepth 8000 in
theorem e_X12_end {g : ch_G} {A R : Nat} (hC : ck_Cx g A R) {d : Nat} {K : Option ck_V → ck_W → Prop} {w : ck_W} {a1 : Int} (h : (0 ≤ a1 ∧ a1 ≤ (w 76 16) → K (some (.inl a1)) (ck_up w 76 16 a1)) ∧ (¬ (0 ≤ a1 ∧ a1 ≤ (w 76 16)) → K (some (.inl (-1))) w)) : ck_Ex (ch_C g A R) (d + 1) mX12_end [.inr (.inr 76), .inl a1] w K :=
  ck_entry hC.1 [some (.inr (.inr 76)), some (.inl a1)] (by decide) (Nat.le_of_ble_eq_true rfl) rfl (fun q => q) (ck_in (fun hl => (ck_iload_n 1 rfl 1 dX12_end_0 rfl rfl (ck_iconst 2 rfl dX12_end_1 rfl (ck_aload_n 3 rfl 0 dX12_end_2 rfl rfl (ck_geti 6 rfl 16 dX12_end_3 fl_X12_177 sh_76 rfl rfl _ rfl (fun (q1 : ck_i (w 76 16)) => (have h4 := h; ck_callS 9 rfl [.inl a1, .inl 0, .inl (w 76 16)] [] dX12_end_6 cs_X12_93 rfl rfl (Nat.le_of_ble_eq_true rfl) (And.intro hl.2.1 (And.intro (show ck_i 0 by decide) (And.intro q1 True.intro))) (p_X12_isIn hC (fun c2 _ => (ck_if_ne 12 rfl 14 dX12_end_9 rfl (by decide) (fun _ => (ck_aload_n 15 rfl 0 dX12_end_14 rfl rfl (ck_iload_n 16 rfl 1 dX12_end_15 rfl rfl (ck_puti 19 rfl 16 dX12_end_16 fp_X12_177 sh_76 rfl rfl hl.2.1 (ck_iload_n 20 rfl 1 dX12_end_19 rfl rfl (ck_iret dX12_end_20 rfl hl.2.1 (h4.1 c2))))))) (fun q => absurd q (by decide)))) (fun c3 _ => (ck_if_ne 12 rfl 14 dX12_end_9 rfl (by decide) (fun q => absurd q (by decide)) (fun _ => (ck_iconst 13 rfl dX12_end_12 rfl (ck_iret dX12_end_13 rfl (show ck_i (-1) by decide) (h4.2 c3)))))))))))))))
theorem dX12_fault_0 : decode cX12_fault 0 = .ok (.iload_n 1, 1) := dk_27 (by decide +kernel)
theorem dX12_fault_1 : decode cX12_fault 1 = .ok (.ifCond .ne 10, 3) := dk_154 0 10 (by decide +kernel)
theorem dX12_fault_4 : decode cX12_fault 4 = .ok (.aload_n 0, 1) := dk_42 (by decide +kernel)
theorem dX12_fault_5 : decode cX12_fault 5 = .ok (.getfield 51, 3) := dk_180 0 51 (by decide +kernel)
theorem dX12_fault_8 : decode cX12_fault 8 = .ok (.goto 16, 3) := dk_167 0 16 (by decide +kernel)
theorem dX12_fault_11 : decode cX12_fault 11 = .ok (.iload_n 1, 1) := dk_27 (by decide +kernel)
theorem dX12_fault_12 : decode cX12_fault 12 = .ok (.iconst 1, 1) := dk_4 (by decide +kernel)
theorem dX12_fault_13 : decode cX12_fault 13 = .ok (.if_icmp .ne 10, 3) := dk_160 0 10 (by decide +kernel)
theorem dX12_fault_16 : decode cX12_fault 16 = .ok (.aload_n 0, 1) := dk_42 (by decide +kernel)
theorem dX12_fault_17 : decode cX12_fault 17 = .ok (.getfield 55, 3) := dk_180 0 55 (by decide +kernel)
theorem dX12_fault_20 : decode cX12_fault 20 = .ok (.goto 4, 3) := dk_167 0 4 (by decide +kernel)
theorem dX12_fault_23 : decode cX12_fault 23 = .ok (.iconst (-1), 1) := dk_2 (by decide +kernel)
theorem dX12_fault_24 : decode cX12_fault 24 = .ok (.ireturn, 1) := dk_172 (by decide +kernel)
set_option maxRecDepth 8000 in
theorem e_X12_fault {g : ch_G} {A R : Nat} (hC : ck_Cx g A R) {d : Nat} {K : Option ck_V → ck_W → Prop} {w : ck_W} {a1 : Int} (h : (¬ a1 = 0 → (¬ a1 = 1 → K (some (.inl (-1))) w) ∧ (a1 = 1 → K (some (.inl (w 76 18))) w)) ∧ (a1 = 0 → K (some (.inl (w 76 17))) w)) : ck_Ex (ch_C g A R) d mX12_fault [.inr (.inr 76), .inl a1] w K :=
  ck_entry hC.1 [some (.inr (.inr 76)), some (.inl a1)] (by decide) (Nat.le_of_ble_eq_true rfl) rfl (fun q => q) (ck_in (fun hl => (ck_iload_n 1 rfl 1 dX12_fault_0 rfl rfl (ck_if_ne 4 rfl 11 dX12_fault_1 rfl hl.2.1 (fun c5 => (ck_iload_n 12 rfl 1 dX12_fault_11 rfl rfl (ck_iconst 13 rfl dX12_fault_12 rfl (have h7 := (h.1 c5); (ck_icmp_ne 16 rfl 23 dX12_fault_13 rfl hl.2.1 (show ck_i 1 by decide) (fun c2 => (ck_iconst 24 rfl dX12_fault_23 rfl (ck_iret dX12_fault_24 rfl (show ck_i (-1) by decide) (h7.1 c2)))) (fun c3 => (ck_aload_n 17 rfl 0 dX12_fault_16 rfl rfl (ck_geti 20 rfl 18 dX12_fault_17 fl_X12_55 sh_76 rfl rfl _ rfl (fun (q1 : ck_i (w 76 18)) => (ck_goto 24 dX12_fault_20 rfl (ck_iret dX12_fault_24 rfl q1 (h7.2 c3)))))))))))) (fun c6 => (ck_aload_n 5 rfl 0 dX12_fault_4 rfl rfl (ck_geti 8 rfl 17 dX12_fault_5 fl_X12_51 sh_76 rfl rfl _ rfl (fun (q4 : ck_i (w 76 17)) => (ck_goto 24 dX12_fault_8 rfl (ck_iret dX12_fault_24 rfl q4 (h.2 c6)))))))))))
theorem dX12_about_0 : decode cX12_about 0 = .ok (.iload_n 1, 1) := dk_27 (by decide +kernel)
theorem dX12_about_1 : decode cX12_about 1 = .ok (.bipush 10, 2) := dk_16 10 (by decide +kernel)
theorem dX12_about_3 : decode cX12_about 3 = .ok (.bipush 15, 2) := dk_16 15 (by decide +kernel)
theorem dX12_about_5 : decode cX12_about 5 = .ok (.invokestatic 93, 3) := dk_184 0 93 (by decide +kernel)
theorem dX12_about_8 : decode cX12_about 8 = .ok (.ifCond .eq 16, 3) := dk_153 0 16 (by decide +kernel)
theorem dX12_about_11 : decode cX12_about 11 = .ok (.aload_n 0, 1) := dk_42 (by decide +kernel)
theorem dX12_about_12 : decode cX12_about 12 = .ok (.getfield 7, 3) := dk_180 0 7 (by decide +kernel)
theorem dX12_about_15 : decode cX12_about 15 = .ok (.bipush 10, 2) := dk_16 10 (by decide +kernel)
theorem dX12_about_17 : decode cX12_about 17 = .ok (.iload_n 1, 1) := dk_27 (by decide +kernel)
theorem dX12_about_18 : decode cX12_about 18 = .ok (.iadd, 1) := dk_96 (by decide +kernel)
theorem dX12_about_19 : decode cX12_about 19 = .ok (.bipush 10, 2) := dk_16 10 (by decide +kernel)
theorem dX12_about_21 : decode cX12_about 21 = .ok (.isub, 1) := dk_100 (by decide +kernel)
theorem dX12_about_22 : decode cX12_about 22 = .ok (.iaload, 1) := dk_46 (by decide +kernel)
theorem dX12_about_23 : decode cX12_about 23 = .ok (.ireturn, 1) := dk_172 (by decide +kernel)
theorem dX12_about_24 : decode cX12_about 24 = .ok (.iload_n 1, 1) := dk_27 (by decide +kernel)
theorem dX12_about_25 : decode cX12_about 25 = .ok (.bipush 20, 2) := dk_16 20 (by decide +kernel)
theorem dX12_about_27 : decode cX12_about 27 = .ok (.bipush 19, 2) := dk_16 19 (by decide +kernel)
theorem dX12_about_29 : decode cX12_about 29 = .ok (.aload_n 0, 1) := dk_42 (by decide +kernel)
theorem dX12_about_30 : decode cX12_about 30 = .ok (.getfield 7, 3) := dk_180 0 7 (by decide +kernel)
theorem dX12_about_33 : decode cX12_about 33 = .ok (.iconst 0, 1) := dk_3 (by decide +kernel)
theorem dX12_about_34 : decode cX12_about 34 = .ok (.iaload, 1) := dk_46 (by decide +kernel)
theorem dX12_about_35 : decode cX12_about 35 = .ok (.iadd, 1) := dk_96 (by decide +kernel)
theorem dX12_about_36 : decode cX12_about 36 = .ok (.invokestatic 93, 3) := dk_184 0 93 (by decide +kernel)
theorem dX12_about_39 : decode cX12_about 39 = .ok (.ifCond .eq 17, 3) := dk_153 0 17 (by decide +kernel)
theorem dX12_about_42 : decode cX12_about 42 = .ok (.aload_n 0, 1) := dk_42 (by decide +kernel)
theorem dX12_about_43 : decode cX12_about 43 = .ok (.getfield 7, 3) := dk_180 0 7 (by decide +kernel)
theorem dX12_about_46 : decode cX12_about 46 = .ok (.sipush 1260, 3) := dk_17 4 236 (by decide +kernel)
theorem dX12_about_49 : decode cX12_about 49 = .ok (.iload_n 1, 1) := dk_27 (by decide +kernel)
theorem dX12_about_50 : decode cX12_about 50 = .ok (.iadd, 1) := dk_96 (by decide +kernel)
theorem dX12_about_51 : decode cX12_about 51 = .ok (.bipush 20, 2) := dk_16 20 (by decide +kernel)
theorem dX12_about_53 : decode cX12_about 53 = .ok (.isub, 1) := dk_100 (by decide +kernel)
theorem dX12_about_54 : decode cX12_about 54 = .ok (.iaload, 1) := dk_46 (by decide +kernel)
theorem dX12_about_55 : decode cX12_about 55 = .ok (.ireturn, 1) := dk_172 (by decide +kernel)
theorem dX12_about_56 : decode cX12_about 56 = .ok (.iload_n 1, 1) := dk_27 (by decide +kernel)
theorem dX12_about_57 : decode cX12_about 57 = .ok (.tableswitch 120 0 9 #[55, 60, 65, 72, 79, 86, 93, 100, 107, 115], 55) := by decide +kernel
theorem dX12_about_112 : decode cX12_about 112 = .ok (.aload_n 0, 1) := dk_42 (by decide +kernel)
theorem dX12_about_113 : decode cX12_about 113 = .ok (.getfield 80, 3) := dk_180 0 80 (by decide +kernel)
theorem dX12_about_116 : decode cX12_about 116 = .ok (.ireturn, 1) := dk_172 (by decide +kernel)
theorem dX12_about_117 : decode cX12_about 117 = .ok (.aload_n 0, 1) := dk_42 (by decide +kernel)
theorem dX12_about_118 : decode cX12_about 118 = .ok (.getfield 83, 3) := dk_180 0 83 (by decide +kernel)
theorem dX12_about_121 : decode cX12_about 121 = .ok (.ireturn, 1) := dk_172 (by decide +kernel)
theorem dX12_about_122 : decode cX12_about 122 = .ok (.aload_n 0, 1) := dk_42 (by decide +kernel)
theorem dX12_about_123 : decode cX12_about 123 = .ok (.getfield 7, 3) := dk_180 0 7 (by decide +kernel)
theorem dX12_about_126 : decode cX12_about 126 = .ok (.iconst 0, 1) := dk_3 (by decide +kernel)
theorem dX12_about_127 : decode cX12_about 127 = .ok (.iaload, 1) := dk_46 (by decide +kernel)
theorem dX12_about_128 : decode cX12_about 128 = .ok (.ireturn, 1) := dk_172 (by decide +kernel)
theorem dX12_about_129 : decode cX12_about 129 = .ok (.aload_n 0, 1) := dk_42 (by decide +kernel)
theorem dX12_about_130 : decode cX12_about 130 = .ok (.getfield 7, 3) := dk_180 0 7 (by decide +kernel)
theorem dX12_about_133 : decode cX12_about 133 = .ok (.iconst 1, 1) := dk_4 (by decide +kernel)
theorem dX12_about_134 : decode cX12_about 134 = .ok (.iaload, 1) := dk_46 (by decide +kernel)
theorem dX12_about_135 : decode cX12_about 135 = .ok (.ireturn, 1) := dk_172 (by decide +kernel)
theorem dX12_about_136 : decode cX12_about 136 = .ok (.aload_n 0, 1) := dk_42 (by decide +kernel)
theorem dX12_about_137 : decode cX12_about 137 = .ok (.getfield 7, 3) := dk_180 0 7 (by decide +kernel)
theorem dX12_about_140 : decode cX12_about 140 = .ok (.iconst 2, 1) := dk_5 (by decide +kernel)
theorem dX12_about_141 : decode cX12_about 141 = .ok (.iaload, 1) := dk_46 (by decide +kernel)
theorem dX12_about_142 : decode cX12_about 142 = .ok (.ireturn, 1) := dk_172 (by decide +kernel)
theorem dX12_about_143 : decode cX12_about 143 = .ok (.aload_n 0, 1) := dk_42 (by decide +kernel)
theorem dX12_about_144 : decode cX12_about 144 = .ok (.getfield 7, 3) := dk_180 0 7 (by decide +kernel)
theorem dX12_about_147 : decode cX12_about 147 = .ok (.iconst 3, 1) := dk_6 (by decide +kernel)
theorem dX12_about_148 : decode cX12_about 148 = .ok (.iaload, 1) := dk_46 (by decide +kernel)
theorem dX12_about_149 : decode cX12_about 149 = .ok (.ireturn, 1) := dk_172 (by decide +kernel)
theorem dX12_about_150 : decode cX12_about 150 = .ok (.aload_n 0, 1) := dk_42 (by decide +kernel)
theorem dX12_about_151 : decode cX12_about 151 = .ok (.getfield 7, 3) := dk_180 0 7 (by decide +kernel)
theorem dX12_about_154 : decode cX12_about 154 = .ok (.iconst 4, 1) := dk_7 (by decide +kernel)
theorem dX12_about_155 : decode cX12_about 155 = .ok (.iaload, 1) := dk_46 (by decide +kernel)
theorem dX12_about_156 : decode cX12_about 156 = .ok (.ireturn, 1) := dk_172 (by decide +kernel)
theorem dX12_about_157 : decode cX12_about 157 = .ok (.aload_n 0, 1) := dk_42 (by decide +kernel)
theorem dX12_about_158 : decode cX12_about 158 = .ok (.getfield 7, 3) := dk_180 0 7 (by decide +kernel)
theorem dX12_about_161 : decode cX12_about 161 = .ok (.iconst 5, 1) := dk_8 (by decide +kernel)
theorem dX12_about_162 : decode cX12_about 162 = .ok (.iaload, 1) := dk_46 (by decide +kernel)
theorem dX12_about_163 : decode cX12_about 163 = .ok (.ireturn, 1) := dk_172 (by decide +kernel)
theorem dX12_about_164 : decode cX12_about 164 = .ok (.aload_n 0, 1) := dk_42 (by decide +kernel)
theorem dX12_about_165 : decode cX12_about 165 = .ok (.getfield 7, 3) := dk_180 0 7 (by decide +kernel)
theorem dX12_about_168 : decode cX12_about 168 = .ok (.bipush 6, 2) := dk_16 6 (by decide +kernel)
theorem dX12_about_170 : decode cX12_about 170 = .ok (.iaload, 1) := dk_46 (by decide +kernel)
theorem dX12_about_171 : decode cX12_about 171 = .ok (.ireturn, 1) := dk_172 (by decide +kernel)
theorem dX12_about_172 : decode cX12_about 172 = .ok (.aload_n 0, 1) := dk_42 (by decide +kernel)
theorem dX12_about_173 : decode cX12_about 173 = .ok (.getfield 177, 3) := dk_180 0 177 (by decide +kernel)
theorem dX12_about_176 : decode cX12_about 176 = .ok (.ireturn, 1) := dk_172 (by decide +kernel)
theorem dX12_about_177 : decode cX12_about 177 = .ok (.iconst (-1), 1) := dk_2 (by decide +kernel)
theorem dX12_about_178 : decode cX12_about 178 = .ok (.ireturn, 1) := dk_172 (by decide +kernel)
set_option maxRecDepth 8000 in
theorem sX12_about_57_0 : (#[55, 60, 65, 72, 79, 86, 93, 100, 107, 115] : Array Int)[0]? = some (55) := by decide +kernel
set_option maxRecDepth 8000 in
theorem sX12_about_57_1 : (#[55, 60, 65, 72, 79, 86, 93, 100, 107, 115] : Array Int)[1]? = some (60) := by decide +kernel
set_option maxRecDepth 8000 in
theorem sX12_about_57_2 : (#[55, 60, 65, 72, 79, 86, 93, 100, 107, 115] : Array Int)[2]? = some (65) := by decide +kernel
set_option maxRecDepth 8000 in
theorem sX12_about_57_3 : (#[55, 60, 65, 72, 79, 86, 93, 100, 107, 115] : Array Int)[3]? = some (72) := by decide +kernel
set_option maxRecDepth 8000 in
theorem sX12_about_57_4 : (#[55, 60, 65, 72, 79, 86, 93, 100, 107, 115] : Array Int)[4]? = some (79) := by decide +kernel
set_option maxRecDepth 8000 in
theorem sX12_about_57_5 : (#[55, 60, 65, 72, 79, 86, 93, 100, 107, 115] : Array Int)[5]? = some (86) := by decide +kernel
set_option maxRecDepth 8000 in
theorem sX12_about_57_6 : (#[55, 60, 65, 72, 79, 86, 93, 100, 107, 115] : Array Int)[6]? = some (93) := by decide +kernel
set_option maxRecDepth 8000 in
theorem sX12_about_57_7 : (#[55, 60, 65, 72, 79, 86, 93, 100, 107, 115] : Array Int)[7]? = some (100) := by decide +kernel
set_option maxRecDepth 8000 in
theorem sX12_about_57_8 : (#[55, 60, 65, 72, 79, 86, 93, 100, 107, 115] : Array Int)[8]? = some (107) := by decide +kernel
set_option maxRecDepth 8000 in
theorem sX12_about_57_9 : (#[55, 60, 65, 72, 79, 86, 93, 100, 107, 115] : Array Int)[9]? = some (115) := by decide +kernel
set_option maxRecDepth 8000 in
theorem oX12_about_57 {a : Int} (c0 : ¬ a = 0 + ((0 : Nat) : Int)) (c1 : ¬ a = 0 + ((1 : Nat) : Int)) (c2 : ¬ a = 0 + ((2 : Nat) : Int)) (c3 : ¬ a = 0 + ((3 : Nat) : Int)) (c4 : ¬ a = 0 + ((4 : Nat) : Int)) (c5 : ¬ a = 0 + ((5 : Nat) : Int)) (c6 : ¬ a = 0 + ((6 : Nat) : Int)) (c7 : ¬ a = 0 + ((7 : Nat) : Int)) (c8 : ¬ a = 0 + ((8 : Nat) : Int)) (c9 : ¬ a = 0 + ((9 : Nat) : Int)) : a < 0 ∨ 9 < a := by omega
set_option maxRecDepth 8000 in
theorem e_X12_about {g : ch_G} {A R : Nat} (hC : ck_Cx g A R) {d : Nat} {K : Option ck_V → ck_W → Prop} {w : ck_W} {a1 : Int} (h : (10 ≤ a1 ∧ a1 ≤ 15 → (0 ≤ ((10 + a1) - 10) ∧ ((10 + a1) - 10) < 1430) ∧ (K (some (.inl (w 77 ((10 + a1) - 10)))) w)) ∧ (¬ (10 ≤ a1 ∧ a1 ≤ 15) → ck_i (19 + (w 77 0)) ∧ ((20 ≤ a1 ∧ a1 ≤ (19 + (w 77 0)) → (0 ≤ ((1260 + a1) - 20) ∧ ((1260 + a1) - 20) < 1430) ∧ (K (some (.inl (w 77 ((1260 + a1) - 20)))) w)) ∧ (¬ (20 ≤ a1 ∧ a1 ≤ (19 + (w 77 0))) → (a1 = 0 → K (some (.inl (w 76 0))) w) ∧ (¬ a1 = 0 → (a1 = 1 → K (some (.inl (w 76 1))) w) ∧ (¬ a1 = 1 → (a1 = 2 → K (some (.inl (w 77 0))) w) ∧ (¬ a1 = 2 → (a1 = 3 → K (some (.inl (w 77 1))) w) ∧ (¬ a1 = 3 → (a1 = 4 → K (some (.inl (w 77 2))) w) ∧ (¬ a1 = 4 → (a1 = 5 → K (some (.inl (w 77 3))) w) ∧ (¬ a1 = 5 → (a1 = 6 → K (some (.inl (w 77 4))) w) ∧ (¬ a1 = 6 → (a1 = 7 → K (some (.inl (w 77 5))) w) ∧ (¬ a1 = 7 → (a1 = 8 → K (some (.inl (w 77 6))) w) ∧ (¬ a1 = 8 → (a1 = 9 → K (some (.inl (w 76 16))) w) ∧ (¬ a1 = 9 → K (some (.inl (-1))) w)))))))))))))) : ck_Ex (ch_C g A R) (d + 1) mX12_about [.inr (.inr 76), .inl a1] w K :=
  ck_entry hC.1 [some (.inr (.inr 76)), some (.inl a1)] (by decide) (Nat.le_of_ble_eq_true rfl) rfl (fun q => q) (ck_in (fun hl => (ck_iload_n 1 rfl 1 dX12_about_0 rfl rfl (ck_bipush 3 rfl dX12_about_1 rfl (ck_bipush 5 rfl dX12_about_3 rfl (have h32 := h; ck_callS 8 rfl [.inl a1, .inl 10, .inl 15] [] dX12_about_5 cs_X12_93 rfl rfl (Nat.le_of_ble_eq_true rfl) (And.intro hl.2.1 (And.intro (show ck_i 10 by decide) (And.intro (show ck_i 15 by decide) True.intro))) (p_X12_isIn hC (fun c30 _ => (ck_if_eq 11 rfl 24 dX12_about_8 rfl (by decide) (fun q => absurd q (by decide)) (fun _ => (ck_aload_n 12 rfl 0 dX12_about_11 rfl rfl (ck_getr 15 rfl dX12_about_12 fl_X12_7 sh_76 rfl (ck_bipush 17 rfl dX12_about_15 rfl (ck_iload_n 18 rfl 1 dX12_about_17 rfl rfl (ck_iadd 19 rfl dX12_about_18 (ck_bipush 21 rfl dX12_about_19 rfl (ck_isub 22 rfl dX12_about_21 (have h34 := (h32.1 c30); have o1 := h34.1; have h33 := h34.2; (ck_iald 23 rfl dX12_about_22 sh_77 (shn_77 hC) o1 _ rfl (fun (q2 : ck_i (w 77 ((10 + a1) - 10))) => (ck_iret dX12_about_23 rfl q2 h33)))))))))))))) (fun c31 _ => (ck_if_eq 11 rfl 24 dX12_about_8 rfl (by decide) (fun _ => (ck_iload_n 25 rfl 1 dX12_about_24 rfl rfl (ck_bipush 27 rfl dX12_about_25 rfl (ck_bipush 29 rfl dX12_about_27 rfl (ck_aload_n 30 rfl 0 dX12_about_29 rfl rfl (ck_getr 33 rfl dX12_about_30 fl_X12_7 sh_76 rfl (ck_iconst 34 rfl dX12_about_33 rfl (ck_iald 35 rfl dX12_about_34 sh_77 (shn_77 hC) (by decide) _ rfl (fun (q3 : ck_i (w 77 0)) => (ck_iadd 36 rfl dX12_about_35 (have h36 := (h32.2 c31); have o4 := h36.1; have h35 := h36.2; (have h29 := h35; ck_callS 39 rfl [.inl a1, .inl 20, .inl (19 + (w 77 0))] [] dX12_about_36 cs_X12_93 rfl rfl (Nat.le_of_ble_eq_true rfl) (And.intro hl.2.1 (And.intro (show ck_i 20 by decide) (And.intro o4 True.intro))) (p_X12_isIn hC (fun c27 _ => (ck_if_eq 42 rfl 56 dX12_about_39 rfl (by decide) (fun q => absurd q (by decide)) (fun _ => (ck_aload_n 43 rfl 0 dX12_about_42 rfl rfl (ck_getr 46 rfl dX12_about_43 fl_X12_7 sh_76 rfl (ck_sipush 49 rfl dX12_about_46 rfl (ck_iload_n 50 rfl 1 dX12_about_49 rfl rfl (ck_iadd 51 rfl dX12_about_50 (ck_bipush 53 rfl dX12_about_51 rfl (ck_isub 54 rfl dX12_about_53 (have h38 := (h29.1 c27); have o5 := h38.1; have h37 := h38.2; (ck_iald 55 rfl dX12_about_54 sh_77 (shn_77 hC) o5 _ rfl (fun (q6 : ck_i (w 77 ((1260 + a1) - 20))) => (ck_iret dX12_about_55 rfl q6 h37)))))))))))))) (fun c28 _ => (ck_if_eq 42 rfl 56 dX12_about_39 rfl (by decide) (fun _ => (ck_iload_n 57 rfl 1 dX12_about_56 rfl rfl (have h39 := (h29.2 c28); if c8 : a1 = 0 + ((0 : Nat) : Int) then (ck_tswI 0 (55) 112 dX12_about_57 hl.2.1 c8 (by decide) sX12_about_57_0 rfl (ck_aload_n 113 rfl 0 dX12_about_112 rfl rfl (ck_geti 116 rfl 0 dX12_about_113 fl_X12_80 sh_76 rfl rfl _ rfl (fun (q7 : ck_i (w 76 0)) => (ck_iret dX12_about_116 rfl q7 (h39.1 c8)))))) else (have h40 := (h39.2 c8); if c10 : a1 = 0 + ((1 : Nat) : Int) then (ck_tswI 1 (60) 117 dX12_about_57 hl.2.1 c10 (by decide) sX12_about_57_1 rfl (ck_aload_n 118 rfl 0 dX12_about_117 rfl rfl (ck_geti 121 rfl 1 dX12_about_118 fl_X12_83 sh_76 rfl rfl _ rfl (fun (q9 : ck_i (w 76 1)) => (ck_iret dX12_about_121 rfl q9 (h40.1 c10)))))) else (have h41 := (h40.2 c10); if c12 : a1 = 0 + ((2 : Nat) : Int) then (ck_tswI 2 (65) 122 dX12_about_57 hl.2.1 c12 (by decide) sX12_about_57_2 rfl (ck_aload_n 123 rfl 0 dX12_about_122 rfl rfl (ck_getr 126 rfl dX12_about_123 fl_X12_7 sh_76 rfl (ck_iconst 127 rfl dX12_about_126 rfl (ck_iald 128 rfl dX12_about_127 sh_77 (shn_77 hC) (by decide) _ rfl (fun (q11 : ck_i (w 77 0)) => (ck_iret dX12_about_128 rfl q11 (h41.1 c12)))))))) else (have h42 := (h41.2 c12); if c14 : a1 = 0 + ((3 : Nat) : Int) then (ck_tswI 3 (72) 129 dX12_about_57 hl.2.1 c14 (by decide) sX12_about_57_3 rfl (ck_aload_n 130 rfl 0 dX12_about_129 rfl rfl (ck_getr 133 rfl dX12_about_130 fl_X12_7 sh_76 rfl (ck_iconst 134 rfl dX12_about_133 rfl (ck_iald 135 rfl dX12_about_134 sh_77 (shn_77 hC) (by decide) _ rfl (fun (q13 : ck_i (w 77 1)) => (ck_iret dX12_about_135 rfl q13 (h42.1 c14)))))))) else (have h43 := (h42.2 c14); if c16 : a1 = 0 + ((4 : Nat) : Int) then (ck_tswI 4 (79) 136 dX12_about_57 hl.2.1 c16 (by decide) sX12_about_57_4 rfl (ck_aload_n 137 rfl 0 dX12_about_136 rfl rfl (ck_getr 140 rfl dX12_about_137 fl_X12_7 sh_76 rfl (ck_iconst 141 rfl dX12_about_140 rfl (ck_iald 142 rfl dX12_about_141 sh_77 (shn_77 hC) (by decide) _ rfl (fun (q15 : ck_i (w 77 2)) => (ck_iret dX12_about_142 rfl q15 (h43.1 c16)))))))) else (have h44 := (h43.2 c16); if c18 : a1 = 0 + ((5 : Nat) : Int) then (ck_tswI 5 (86) 143 dX12_about_57 hl.2.1 c18 (by decide) sX12_about_57_5 rfl (ck_aload_n 144 rfl 0 dX12_about_143 rfl rfl (ck_getr 147 rfl dX12_about_144 fl_X12_7 sh_76 rfl (ck_iconst 148 rfl dX12_about_147 rfl (ck_iald 149 rfl dX12_about_148 sh_77 (shn_77 hC) (by decide) _ rfl (fun (q17 : ck_i (w 77 3)) => (ck_iret dX12_about_149 rfl q17 (h44.1 c18)))))))) else (have h45 := (h44.2 c18); if c20 : a1 = 0 + ((6 : Nat) : Int) then (ck_tswI 6 (93) 150 dX12_about_57 hl.2.1 c20 (by decide) sX12_about_57_6 rfl (ck_aload_n 151 rfl 0 dX12_about_150 rfl rfl (ck_getr 154 rfl dX12_about_151 fl_X12_7 sh_76 rfl (ck_iconst 155 rfl dX12_about_154 rfl (ck_iald 156 rfl dX12_about_155 sh_77 (shn_77 hC) (by decide) _ rfl (fun (q19 : ck_i (w 77 4)) => (ck_iret dX12_about_156 rfl q19 (h45.1 c20)))))))) else (have h46 := (h45.2 c20); if c22 : a1 = 0 + ((7 : Nat) : Int) then (ck_tswI 7 (100) 157 dX12_about_57 hl.2.1 c22 (by decide) sX12_about_57_7 rfl (ck_aload_n 158 rfl 0 dX12_about_157 rfl rfl (ck_getr 161 rfl dX12_about_158 fl_X12_7 sh_76 rfl (ck_iconst 162 rfl dX12_about_161 rfl (ck_iald 163 rfl dX12_about_162 sh_77 (shn_77 hC) (by decide) _ rfl (fun (q21 : ck_i (w 77 5)) => (ck_iret dX12_about_163 rfl q21 (h46.1 c22)))))))) else (have h47 := (h46.2 c22); if c24 : a1 = 0 + ((8 : Nat) : Int) then (ck_tswI 8 (107) 164 dX12_about_57 hl.2.1 c24 (by decide) sX12_about_57_8 rfl (ck_aload_n 165 rfl 0 dX12_about_164 rfl rfl (ck_getr 168 rfl dX12_about_165 fl_X12_7 sh_76 rfl (ck_bipush 170 rfl dX12_about_168 rfl (ck_iald 171 rfl dX12_about_170 sh_77 (shn_77 hC) (by decide) _ rfl (fun (q23 : ck_i (w 77 6)) => (ck_iret dX12_about_171 rfl q23 (h47.1 c24)))))))) else (have h48 := (h47.2 c24); if c26 : a1 = 0 + ((9 : Nat) : Int) then (ck_tswI 9 (115) 172 dX12_about_57 hl.2.1 c26 (by decide) sX12_about_57_9 rfl (ck_aload_n 173 rfl 0 dX12_about_172 rfl rfl (ck_geti 176 rfl 16 dX12_about_173 fl_X12_177 sh_76 rfl rfl _ rfl (fun (q25 : ck_i (w 76 16)) => (ck_iret dX12_about_176 rfl q25 (h48.1 c26)))))) else (ck_tswO 177 dX12_about_57 hl.2.1 (oX12_about_57 c8 c10 c12 c14 c16 c18 c20 c22 c24 c26) rfl (ck_iconst 178 rfl dX12_about_177 rfl (ck_iret dX12_about_178 rfl (show ck_i (-1) by decide) (h48.2 c26)))))))))))))))) (fun q => absurd q (by decide))))))))))))))))) (fun q => absurd q (by decide)))))))))))
theorem M_grey {g : ch_G} {A R : Nat} (hC : ck_Cx g A R) {d : Nat} {K : Option ck_V → ck_W → Prop} {w : ck_W} {a1 a2 a3 a4 a5 : Int} (hI : rm_I A R w)
    (h : ∀ v w', rm_I A R w' → rm_fr w w' → (v = if (0 ≤ a1 ∧ a1 ≤ 5) ∧ (0 ≤ a2 ∧ a2 < (A : Int)) ∧ (0 ≤ a3 ∧ a3 < (R : Int)) ∧ (0 ≤ a4 ∧ a4 ≤ 9) ∧ (0 ≤ a5 ∧ a5 ≤ 9) then 1 else 0) → (∀ j, j < 20 ∨ 900 ≤ j → w' 77 j = w 77 j) → w' 78 = w 78 → w' 76 = w 76 → K (some (.inl v)) w') :
    ck_Ex (ch_C g A R) (d + 2) mX12_grey [.inr (.inr 76), .inl a1, .inl a2, .inl a3, .inl a4, .inl a5] w K := by
  have hA := hI.1
  have hR := hI.2.1
  have c := hC.2
  have r0 : ∀ (q : ¬ ((0 ≤ a1 ∧ a1 ≤ 5) ∧ (0 ≤ a2 ∧ a2 < (A : Int)) ∧ (0 ≤ a3 ∧ a3 < (R : Int)) ∧ (0 ≤ a4 ∧ a4 ≤ 9) ∧ (0 ≤ a5 ∧ a5 ≤ 9))), K (some (.inl 0)) w := fun q => h 0 w hI rm_fr_rf (by rw [if_neg q]) (fun _ _ => rfl) rfl rfl
  refine e_X12_grey hC ?_
  with_reducible repeat' (first | apply And.intro | intro _)
  all_goals first | omega | exact r0 (by omega) | skip
  have b1 := rh_grey (A := A) (R := R) (j := 20 + (72 * a1 + 12 * a2 + a3)) (by omega) (by omega)
  have b2 := rh_grey (A := A) (R := R) (j := 460 + (72 * a1 + 12 * a2 + a3)) (by omega) (by omega)
  refine h 1 _ (rm_Ia (rm_Ia hI (rm_up hI.2.2.2.1 (by omega) (by omega) (by omega) (by omega) (by omega)) (by omega)) ?_ (by omega)) (rm_fr_up (rm_fr_up rm_fr_rf (by decide)) (by decide)) (by rw [if_pos (by omega)]) (fun j hj => ?_) rfl rfl
  · rw [ck_up_row]; exact rm_up (rm_up hI.2.2.2.1 (by omega) (by omega) (by omega) (by omega) (by omega)) (by omega) (by omega) (by omega) (by omega) (by omega)
  · rw [ck_up_nj (by omega), ck_up_nj (by omega)]
theorem M_wound {g : ch_G} {A R : Nat} (hC : ck_Cx g A R) {d : Nat} {K : Option ck_V → ck_W → Prop} {w : ck_W} {a1 a2 : Int} (hI : rm_I A R w)
    (h : ∀ v w', rm_I A R w' → rm_fr w w' → (v = if (0 ≤ a1 ∧ a1 ≤ 5) ∧ (1 ≤ a2 ∧ a2 ≤ 4) then 1 else 0) → (∀ j, j < 10 ∨ 16 ≤ j → w' 77 j = w 77 j) → w' 78 = w 78 → w' 76 = w 76 → K (some (.inl v)) w') :
    ck_Ex (ch_C g A R) (d + 2) mX12_wound [.inr (.inr 76), .inl a1, .inl a2] w K := by
  have r0 : ∀ (q : ¬ ((0 ≤ a1 ∧ a1 ≤ 5) ∧ (1 ≤ a2 ∧ a2 ≤ 4))), K (some (.inl 0)) w := fun q => h 0 w hI rm_fr_rf (by rw [if_neg q]) (fun _ _ => rfl) rfl rfl
  refine e_X12_wound hC ?_
  with_reducible repeat' (first | apply And.intro | intro _)
  all_goals first | omega | exact r0 (by omega) | skip
  have b1 := rh_turn (A := A) (R := R) (z := a1) (by omega) (by omega)
  refine h 1 _ (rm_Ia hI (rm_up hI.2.2.2.1 (by omega) (by omega) (by omega) (by omega) (by omega)) (by omega)) (rm_fr_up rm_fr_rf (by decide)) (by rw [if_pos (by omega)]) (fun j hj => ?_) rfl rfl
  rw [ck_up_nj (by omega)]
theorem M_jump {g : ch_G} {A R : Nat} (hC : ck_Cx g A R) {d : Nat} {K : Option ck_V → ck_W → Prop} {w : ck_W} {a1 : Int} (hI : rm_I A R w)
    (h : ∀ v w', rm_I A R w' → rm_fr w w' → (v = if 0 ≤ a1 ∧ a1 ≤ 99 then 1 else 0) → (∀ j, j ≠ 7 → w' 77 j = w 77 j) → w' 78 = w 78 → w' 76 = w 76 → K (some (.inl v)) w') :
    ck_Ex (ch_C g A R) (d + 1) mX12_jump [.inr (.inr 76), .inl a1] w K := by
  refine e_X12_jump hC ?_
  with_reducible repeat' (first | apply And.intro | intro _)
  · refine h 1 _ (rm_Ia hI (rm_up hI.2.2.2.1 (by rename_i q; exact q) (by omega) (by omega) (by omega) (by omega)) (by omega)) (rm_fr_up rm_fr_rf (by decide)) (by rw [if_pos (by assumption)]) (fun j hj => ?_) rfl rfl
    rw [ck_up_nj (by omega)]
  · exact h 0 w hI rm_fr_rf (by rw [if_neg (by assumption)]) (fun _ _ => rfl) rfl rfl
theorem M_step {g : ch_G} {A R : Nat} (hC : ck_Cx g A R) {d : Nat} {K : Option ck_V → ck_W → Prop} {w : ck_W} {a1 : Int} (hI : rm_I A R w)
    (h : ∀ v w', rm_I A R w' → rm_fr w w' → ((0 ≤ a1 ∧ a1 < (R : Int)) ∧ w 77 2 < 30 → v = w 77 2 + 1 ∧ w' 77 = rm_u (rm_u (w 77) (970 + w 77 2) a1) 2 (w 77 2 + 1)) → (¬ ((0 ≤ a1 ∧ a1 < (R : Int)) ∧ w 77 2 < 30) → v = -1 ∧ w' 77 = w 77) → w' 78 = w 78 → w' 76 = w 76 → K (some (.inl v)) w') :
    ck_Ex (ch_C g A R) (d + 2) mX12_step [.inr (.inr 76), .inl a1] w K := by
  have hR := hI.2.1
  have c := hC.2
  have f0 := rm_c0 hI.2.2.2.1
  have r0 : ∀ (q : ¬ ((0 ≤ a1 ∧ a1 < (R : Int)) ∧ w 77 2 < 30)), K (some (.inl (-1))) w := fun q => h (-1) w hI rm_fr_rf (fun q' => absurd q' q) (fun _ => ⟨rfl, rfl⟩) rfl rfl
  refine e_X12_step hC ?_
  with_reducible repeat' (first | apply And.intro | intro _)
  all_goals try (rename_i u hu; rw [ck_up_nj (by omega)] at hu)
  all_goals first | omega | exact r0 (by omega) | skip
  rename_i u hu
  subst hu
  have b1 := rh_step (A := A) (R := R) (t := w 77 2) (by omega) (by omega)
  have b2 : rm_lo 2 = 0 ∧ rm_hi A R 2 = 30 := ⟨rfl, rfl⟩
  refine h _ _ (rm_Ia (rm_Ia hI (rm_up hI.2.2.2.1 (by omega) (by omega) (by omega) (by omega) (by omega)) (by omega)) ?_ (by omega)) (rm_fr_up (rm_fr_up rm_fr_rf (by decide)) (by decide)) (fun _ => ⟨rfl, by rw [ck_up_row, ck_up_row]⟩) (fun q => absurd ⟨by omega, by omega⟩ q) rfl rfl
  rw [ck_up_row]; exact rm_up (rm_up hI.2.2.2.1 (by omega) (by omega) (by omega) (by omega) (by omega)) (by omega) (by omega) (by omega) (by omega) (by omega)
theorem M_unwalk {g : ch_G} {A R : Nat} (hC : ck_Cx g A R) {d : Nat} {K : Option ck_V → ck_W → Prop} {w : ck_W} (hI : rm_I A R w)
    (h : ∀ v w', rm_I A R w' → rm_fr w w' → v = w 77 2 → w' 77 = rm_u (w 77) 2 0 → w' 78 = w 78 → w' 76 = w 76 → K (some (.inl v)) w') :
    ck_Ex (ch_C g A R) d mX12_unwalk [.inr (.inr 76)] w K := by
  refine e_X12_unwalk hC ?_
  exact h _ _ (rm_Ia hI (rm_up hI.2.2.2.1 ⟨by decide, (by decide : (0 : Int) ≤ 30)⟩ (by omega) (by omega) (by omega) (by omega)) (by omega)) (rm_fr_up rm_fr_rf (by decide)) rfl (by rw [ck_up_row]) rfl rfl
theorem M_chances {g : ch_G} {A R : Nat} (hC : ck_Cx g A R) {d : Nat} {K : Option ck_V → ck_W → Prop} {w : ck_W} {a1 a2 : Int} (hI : rm_I A R w)
    (h : ∀ v w', rm_I A R w' → rm_fr w w' → (v = if (1 ≤ a1 ∧ a1 ≤ 3) ∧ (1 ≤ a2 ∧ a2 ≤ 3) then 1 else 0) → (∀ j, j ≠ 8 → j ≠ 9 → w' 77 j = w 77 j) → w' 78 = w 78 → w' 76 = w 76 → K (some (.inl v)) w') :
    ck_Ex (ch_C g A R) (d + 1) mX12_chances [.inr (.inr 76), .inl a1, .inl a2] w K := by
  have r0 : ∀ (q : ¬ ((1 ≤ a1 ∧ a1 ≤ 3) ∧ (1 ≤ a2 ∧ a2 ≤ 3))), K (some (.inl 0)) w := fun q => h 0 w hI rm_fr_rf (by rw [if_neg q]) (fun _ _ _ => rfl) rfl rfl
  refine e_X12_chances hC ?_
  with_reducible repeat' (first | apply And.intro | intro _)
  all_goals first | omega | exact r0 (by omega) | skip
  have b8 : rm_lo 8 = 1 ∧ rm_hi A R 8 = 3 := ⟨rfl, rfl⟩
  have b9 : rm_lo 9 = 1 ∧ rm_hi A R 9 = 3 := ⟨rfl, rfl⟩
  refine h 1 _ (rm_Ib hI (fun k hk => by rw [ck_up_ne hk, ck_up_ne hk]) ?_ rfl) (rm_fr_up (rm_fr_up rm_fr_rf (by decide)) (by decide)) (by rw [if_pos (by omega)]) (fun j h8 h9 => by rw [ck_up_nj h9, ck_up_nj h8]) rfl rfl
  rw [ck_up_row, ck_up_row]
  exact rm_up (rm_up hI.2.2.2.1 (by omega) (by omega) (by omega) (by omega) (by omega)) (by omega) (by omega) (by omega) (by omega) (by omega)
theorem M_fetch {g : ch_G} {A R : Nat} (hC : ck_Cx g A R) {d : Nat} {K : Option ck_V → ck_W → Prop} {w : ck_W} {a1 a2 : Int} (hI : rm_I A R w)
    (h : ∀ v w', rm_I A R w' → rm_fr w w' → ((0 ≤ a1 ∧ a1 ≤ 3) ∧ (0 ≤ a2 ∧ a2 ≤ 50) → v = 1 ∧ w' 77 = rm_u (w 77) (1420 + a1) a2) → (¬ ((0 ≤ a1 ∧ a1 ≤ 3) ∧ (0 ≤ a2 ∧ a2 ≤ 50)) → v = 0 ∧ w' 77 = w 77) → w' 78 = w 78 → w' 76 = w 76 → K (some (.inl v)) w') :
    ck_Ex (ch_C g A R) (d + 1) mX12_fetch [.inr (.inr 76), .inl a1, .inl a2] w K := by
  have r0 : ∀ (q : ¬ ((0 ≤ a1 ∧ a1 ≤ 3) ∧ (0 ≤ a2 ∧ a2 ≤ 50))), K (some (.inl 0)) w := fun q => h 0 w hI rm_fr_rf (fun q' => absurd q' q) (fun _ => ⟨rfl, rfl⟩) rfl rfl
  refine e_X12_fetch hC ?_
  with_reducible repeat' (first | apply And.intro | intro _)
  all_goals first | omega | exact r0 (by omega) | skip
  have b1 := rh_fetch (A := A) (R := R) (r := a1) (by omega) (by omega)
  refine h 1 _ (rm_Ib hI (fun k hk => by rw [ck_up_ne hk]) ?_ (by rw [ck_up_nj (by omega)])) (rm_fr_up rm_fr_rf (by decide)) (fun _ => ⟨rfl, ck_up_row⟩) (fun q => absurd (by omega) q) rfl rfl
  rw [ck_up_row]
  exact rm_up hI.2.2.2.1 (by omega) (by omega) (by omega) (by omega) (by omega)
theorem M_part {g : ch_G} {A R : Nat} (hC : ck_Cx g A R) {d : Nat} {K : Option ck_V → ck_W → Prop} {w : ck_W} {a1 a2 a3 : Int} (hI : rm_I A R w)
    (h : ∀ v w', rm_I A R w' → rm_fr w w' → ((1 ≤ a1 ∧ a1 ≤ 50) ∧ (1 ≤ a2 ∧ a2 ≤ 999) ∧ (0 ≤ a3 ∧ a3 ≤ 3) ∧ w 77 6 < 16 → v = w 77 6 + 1 ∧ w' 77 = rm_u (rm_u (rm_u (rm_u (w 77) (1360 + 3 * w 77 6) a1) (1360 + 3 * w 77 6 + 1) a2) (1360 + 3 * w 77 6 + 2) a3) 6 (w 77 6 + 1)) → (¬ ((1 ≤ a1 ∧ a1 ≤ 50) ∧ (1 ≤ a2 ∧ a2 ≤ 999) ∧ (0 ≤ a3 ∧ a3 ≤ 3) ∧ w 77 6 < 16) → v = -1 ∧ w' 77 = w 77) → w' 78 = w 78 → w' 76 = w 76 → K (some (.inl v)) w') :
    ck_Ex (ch_C g A R) (d + 1) mX12_part [.inr (.inr 76), .inl a1, .inl a2, .inl a3] w K := by
  have f0 := rm_c0 hI.2.2.2.1
  have r0 : ∀ (q : ¬ ((1 ≤ a1 ∧ a1 ≤ 50) ∧ (1 ≤ a2 ∧ a2 ≤ 999) ∧ (0 ≤ a3 ∧ a3 ≤ 3) ∧ w 77 6 < 16)), K (some (.inl (-1))) w := fun q => h (-1) w hI rm_fr_rf (fun q' => absurd q' q) (fun _ => ⟨rfl, rfl⟩) rfl rfl
  refine e_X12_part hC ?_
  with_reducible repeat' (first | apply And.intro | intro _)
  all_goals try (rename_i u hu; rw [ck_up_nj (by omega), ck_up_nj (by omega), ck_up_nj (by omega)] at hu)
  all_goals first | omega | exact r0 (by omega) | skip
  rename_i u hu
  subst hu
  have q0 := rh_part0 (A := A) (R := R) (k := w 77 6) (by omega) (by omega)
  have q1 := rh_part1 (A := A) (R := R) (k := w 77 6) (by omega) (by omega)
  have q2 := rh_part2 (A := A) (R := R) (k := w 77 6) (by omega) (by omega)
  have q6 : rm_lo 6 = 0 ∧ rm_hi A R 6 = 16 := ⟨rfl, rfl⟩
  refine h _ _ (rm_Ib hI (fun k hk => by rw [ck_up_ne hk, ck_up_ne hk, ck_up_ne hk, ck_up_ne hk]) ?_ (by rw [ck_up_nj (by omega), ck_up_nj (by omega), ck_up_nj (by omega), ck_up_nj (by omega)])) (rm_fr_up (rm_fr_up (rm_fr_up (rm_fr_up rm_fr_rf (by decide)) (by decide)) (by decide)) (by decide)) (fun _ => ⟨rfl, by rw [ck_up_row, ck_up_row, ck_up_row, ck_up_row]⟩) (fun q => absurd (by omega) q) rfl rfl
  rw [ck_up_row, ck_up_row, ck_up_row, ck_up_row]
  exact rm_up (rm_up (rm_up (rm_up hI.2.2.2.1 (by omega) (by omega) (by omega) (by omega) (by omega)) (by omega) (by omega) (by omega) (by omega) (by omega)) (by omega) (by omega) (by omega) (by omega) (by omega)) (by omega) (by omega) (by omega) (by omega) (by omega)
theorem M_letter {g : ch_G} {A R : Nat} (hC : ck_Cx g A R) {d : Nat} {K : Option ck_V → ck_W → Prop} {w : ck_W} {a1 a2 : Int} (hI : rm_I A R w)
    (h : ∀ v w', rm_I A R w' → rm_fr w w' → ((0 ≤ a1 ∧ a1 ≤ 511) ∧ (1 ≤ a2 ∧ a2 ≤ 99) ∧ w 77 4 < 12 → v = w 77 4 ∧ w' 77 = rm_u (rm_u (rm_u (w 77) (1270 + 2 * w 77 4) a1) (1270 + 2 * w 77 4 + 1) a2) 4 (w 77 4 + 1)) → (¬ ((0 ≤ a1 ∧ a1 ≤ 511) ∧ (1 ≤ a2 ∧ a2 ≤ 99) ∧ w 77 4 < 12) → v = -1 ∧ w' 77 = w 77) → w' 78 = w 78 → w' 76 = w 76 → K (some (.inl v)) w') :
    ck_Ex (ch_C g A R) (d + 2) mX12_letter [.inr (.inr 76), .inl a1, .inl a2] w K := by
  have f0 := rm_c0 hI.2.2.2.1
  have r0 : ∀ (q : ¬ ((0 ≤ a1 ∧ a1 ≤ 511) ∧ (1 ≤ a2 ∧ a2 ≤ 99) ∧ w 77 4 < 12)), K (some (.inl (-1))) w := fun q => h (-1) w hI rm_fr_rf (fun q' => absurd q' q) (fun _ => ⟨rfl, rfl⟩) rfl rfl
  refine e_X12_letter hC ⟨fun h1 => ⟨fun h2 => ⟨fun h3 => ⟨by omega, fun x5 e5 => ?_⟩, fun h3 => r0 (by omega)⟩, fun h2 => r0 (by omega)⟩, fun h1 => r0 (by omega)⟩
  rw [ck_up_nj (by omega)] at e5
  subst e5
  refine ⟨by omega, fun x6 e6 => ?_⟩
  rw [ck_up_nj (by omega), ck_up_nj (by omega)] at e6
  subst e6
  refine ⟨by simp only [ck_i]; omega, by simp only [ck_i]; omega, ?_⟩
  refine h _ _ (rm_Ib hI (fun k hk => by rw [ck_up_ne hk, ck_up_ne hk, ck_up_ne hk]) ?_ (by rw [ck_up_nj (by omega), ck_up_nj (by omega), ck_up_nj (by omega)])) (rm_fr_up (rm_fr_up (rm_fr_up rm_fr_rf (by decide)) (by decide)) (by decide)) (fun _ => ⟨by omega, by rw [ck_up_row, ck_up_row, ck_up_row]⟩) (fun q => absurd (by omega) q) rfl rfl
  rw [ck_up_row, ck_up_row, ck_up_row]
  exact rm_letter hI.2.2.2.1 (by omega) h1 h2
theorem M_learnt {g : ch_G} {A R : Nat} (hC : ck_Cx g A R) {d : Nat} {K : Option ck_V → ck_W → Prop} {w : ck_W} {a1 a2 : Int} (hI : rm_I A R w)
    (h : ∀ v w', rm_I A R w' → rm_fr w w' → (v = if (0 ≤ a1 ∧ a1 < w 77 0) ∧ (0 ≤ a2 ∧ a2 ≤ 15) then 1 else 0) → (∀ j, j < 1260 ∨ 1264 ≤ j → w' 77 j = w 77 j) → w' 78 = w 78 → w' 76 = w 76 → K (some (.inl v)) w') :
    ck_Ex (ch_C g A R) (d + 2) mX12_learnt [.inr (.inr 76), .inl a1, .inl a2] w K := by
  have f0 := rm_c0 hI.2.2.2.1
  have r0 : ∀ (q : ¬ ((0 ≤ a1 ∧ a1 < w 77 0) ∧ (0 ≤ a2 ∧ a2 ≤ 15))), K (some (.inl 0)) w := fun q => h 0 w hI rm_fr_rf (by rw [if_neg q]) (fun _ _ => rfl) rfl rfl
  refine e_X12_learnt hC ?_
  with_reducible repeat' (first | apply And.intro | intro _)
  all_goals first | omega | exact r0 (by omega) | skip
  have b1 := rh_learnt (A := A) (R := R) (r := a1) (by omega) (by omega)
  refine h 1 _ (rm_Ib hI (fun k hk => by rw [ck_up_ne hk]) ?_ (by rw [ck_up_nj (by omega)])) (rm_fr_up rm_fr_rf (by decide)) (by rw [if_pos (by omega)]) (fun j hj => by rw [ck_up_nj (by omega)]) rfl rfl
  rw [ck_up_row]
  exact rm_up hI.2.2.2.1 (by omega) (by omega) (by omega) (by omega) (by omega)
theorem rm_Itaped {A R : Nat} {w : ck_W} {v : Int} (h : rm_I A R w) (h0 : 0 ≤ v) (h1 : v ≤ 300) : rm_I A R (ck_up w 76 16 v) := by
  obtain ⟨a, b, c, e, f, g, k, l, m⟩ := h
  refine ⟨?_, ?_, ?_, e, f, g, ?_, ?_, m⟩
  · rw [ck_up_nj (by decide)]; exact a
  · rw [ck_up_nj (by decide)]; exact b
  · rw [ck_up_nj (by decide)]; exact c
  · rw [ck_up_eq, ck_up_nj (by decide)]; exact ⟨h0, k.2⟩
  · rw [ck_up_eq]; exact h1
theorem M_end {g : ch_G} {A R : Nat} (hC : ck_Cx g A R) {d : Nat} {K : Option ck_V → ck_W → Prop} {w : ck_W} {a1 : Int} (hI : rm_I A R w)
    (h : ∀ v w', rm_I A R w' → rm_fr w w' → (0 ≤ a1 ∧ a1 ≤ w 76 16 → v = a1 ∧ w' 76 16 = a1) → (¬ (0 ≤ a1 ∧ a1 ≤ w 76 16) → v = -1 ∧ w' 76 16 = w 76 16) → w' 77 = w 77 → w' 78 = w 78 → K (some (.inl v)) w') :
    ck_Ex (ch_C g A R) (d + 1) mX12_end [.inr (.inr 76), .inl a1] w K := by
  have e1 := hI.2.2.2.2.2.2.2.1
  refine e_X12_end hC ⟨fun q => ?_, fun q => ?_⟩
  · exact h a1 _ (rm_Itaped hI q.1 (by omega)) (rm_fr_up rm_fr_rf (by decide)) (fun _ => ⟨rfl, ck_up_eq⟩) (fun q' => absurd q q') rfl rfl
  · exact h (-1) w hI rm_fr_rf (fun q' => absurd q' q) (fun _ => ⟨rfl, rfl⟩) rfl rfl
theorem M_fault {g : ch_G} {A R : Nat} (hC : ck_Cx g A R) {d : Nat} {K : Option ck_V → ck_W → Prop} {w : ck_W} {a1 : Int} (h : ∀ v, K (some (.inl v)) w) : ck_Ex (ch_C g A R) d mX12_fault [.inr (.inr 76), .inl a1] w K := by
  refine e_X12_fault hC ?_
  with_reducible repeat' (first | apply And.intro | intro _)
  all_goals exact h _
theorem M_about {g : ch_G} {A R : Nat} (hC : ck_Cx g A R) {d : Nat} {K : Option ck_V → ck_W → Prop} {w : ck_W} {a1 : Int} (hI : rm_I A R w) (h : ∀ v, K (some (.inl v)) w) : ck_Ex (ch_C g A R) (d + 1) mX12_about [.inr (.inr 76), .inl a1] w K := by
  have f0 := rm_c0 hI.2.2.2.1
  refine e_X12_about hC ?_
  with_reducible repeat' (first | apply And.intro | intro _)
  all_goals first | exact h _ | omega
