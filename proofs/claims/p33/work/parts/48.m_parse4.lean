/-! ===== the reference: clauses, a text, a reader ===== -/
theorem dX12_either_0 : decode cX12_either 0 = .ok (.iconst 0, 1) := dk_3 (by decide +kernel)
theorem dX12_either_1 : decode cX12_either 1 = .ok (.istore_n 1, 1) := dk_60 (by decide +kernel)
theorem dX12_either_2 : decode cX12_either 2 = .ok (.iconst 0, 1) := dk_3 (by decide +kernel)
theorem dX12_either_3 : decode cX12_either 3 = .ok (.istore_n 2, 1) := dk_61 (by decide +kernel)
theorem dX12_either_4 : decode cX12_either 4 = .ok (.iconst 1, 1) := dk_4 (by decide +kernel)
theorem dX12_either_5 : decode cX12_either 5 = .ok (.istore_n 3, 1) := dk_62 (by decide +kernel)
theorem dX12_either_6 : decode cX12_either 6 = .ok (.iload_n 3, 1) := dk_29 (by decide +kernel)
theorem dX12_either_7 : decode cX12_either 7 = .ok (.ifCond .eq 112, 3) := dk_153 0 112 (by decide +kernel)
theorem dX12_either_10 : decode cX12_either 10 = .ok (.aload_n 0, 1) := dk_42 (by decide +kernel)
theorem dX12_either_11 : decode cX12_either 11 = .ok (.invokevirtual 284, 3) := dk_182 1 28 (by decide +kernel)
theorem dX12_either_14 : decode cX12_either 14 = .ok (.istore 4, 2) := dk_54 (by decide +kernel)
theorem dX12_either_16 : decode cX12_either 16 = .ok (.iload 4, 2) := dk_21 (by decide +kernel)
theorem dX12_either_18 : decode cX12_either 18 = .ok (.ifCond .eq 6, 3) := dk_153 0 6 (by decide +kernel)
theorem dX12_either_21 : decode cX12_either 21 = .ok (.iload 4, 2) := dk_21 (by decide +kernel)
theorem dX12_either_23 : decode cX12_either 23 = .ok (.ireturn, 1) := dk_172 (by decide +kernel)
theorem dX12_either_24 : decode cX12_either 24 = .ok (.iload_n 1, 1) := dk_27 (by decide +kernel)
theorem dX12_either_25 : decode cX12_either 25 = .ok (.ifCond .eq 10, 3) := dk_153 0 10 (by decide +kernel)
theorem dX12_either_28 : decode cX12_either 28 = .ok (.aload_n 0, 1) := dk_42 (by decide +kernel)
theorem dX12_either_29 : decode cX12_either 29 = .ok (.bipush 21, 2) := dk_16 21 (by decide +kernel)
theorem dX12_either_31 : decode cX12_either 31 = .ok (.iconst 0, 1) := dk_3 (by decide +kernel)
theorem dX12_either_32 : decode cX12_either 32 = .ok (.invokevirtual 233, 3) := dk_182 0 233 (by decide +kernel)
theorem dX12_either_35 : decode cX12_either 35 = .ok (.aload_n 0, 1) := dk_42 (by decide +kernel)
theorem dX12_either_36 : decode cX12_either 36 = .ok (.bipush 97, 2) := dk_16 97 (by decide +kernel)
theorem dX12_either_38 : decode cX12_either 38 = .ok (.bipush 110, 2) := dk_16 110 (by decide +kernel)
theorem dX12_either_40 : decode cX12_either 40 = .ok (.bipush 100, 2) := dk_16 100 (by decide +kernel)
theorem dX12_either_42 : decode cX12_either 42 = .ok (.invokestatic 209, 3) := dk_184 0 209 (by decide +kernel)
theorem dX12_either_45 : decode cX12_either 45 = .ok (.invokevirtual 274, 3) := dk_182 1 18 (by decide +kernel)
theorem dX12_either_48 : decode cX12_either 48 = .ok (.istore_n 1, 1) := dk_60 (by decide +kernel)
theorem dX12_either_49 : decode cX12_either 49 = .ok (.aload_n 0, 1) := dk_42 (by decide +kernel)
theorem dX12_either_50 : decode cX12_either 50 = .ok (.getfield 192, 3) := dk_180 0 192 (by decide +kernel)
theorem dX12_either_53 : decode cX12_either 53 = .ok (.iconst 2, 1) := dk_5 (by decide +kernel)
theorem dX12_either_54 : decode cX12_either 54 = .ok (.if_icmp .ne 18, 3) := dk_160 0 18 (by decide +kernel)
theorem dX12_either_57 : decode cX12_either 57 = .ok (.aload_n 0, 1) := dk_42 (by decide +kernel)
theorem dX12_either_58 : decode cX12_either 58 = .ok (.getfield 205, 3) := dk_180 0 205 (by decide +kernel)
theorem dX12_either_61 : decode cX12_either 61 = .ok (.ldc2_w 287, 3) := dk_20 1 31 (by decide +kernel)
theorem dX12_either_64 : decode cX12_either 64 = .ok (.lcmp, 1) := dk_148 (by decide +kernel)
theorem dX12_either_65 : decode cX12_either 65 = .ok (.ifCond .ne 7, 3) := dk_154 0 7 (by decide +kernel)
theorem dX12_either_68 : decode cX12_either 68 = .ok (.iconst 1, 1) := dk_4 (by decide +kernel)
theorem dX12_either_69 : decode cX12_either 69 = .ok (.goto 4, 3) := dk_167 0 4 (by decide +kernel)
theorem dX12_either_72 : decode cX12_either 72 = .ok (.iconst 0, 1) := dk_3 (by decide +kernel)
theorem dX12_either_73 : decode cX12_either 73 = .ok (.istore 5, 2) := dk_54 (by decide +kernel)
theorem dX12_either_75 : decode cX12_either 75 = .ok (.iload_n 1, 1) := dk_27 (by decide +kernel)
theorem dX12_either_76 : decode cX12_either 76 = .ok (.ifCond .ne 17, 3) := dk_154 0 17 (by decide +kernel)
theorem dX12_either_79 : decode cX12_either 79 = .ok (.iload_n 2, 1) := dk_28 (by decide +kernel)
theorem dX12_either_80 : decode cX12_either 80 = .ok (.ifCond .eq 10, 3) := dk_153 0 10 (by decide +kernel)
theorem dX12_either_83 : decode cX12_either 83 = .ok (.aload_n 0, 1) := dk_42 (by decide +kernel)
theorem dX12_either_84 : decode cX12_either 84 = .ok (.bipush 22, 2) := dk_16 22 (by decide +kernel)
theorem dX12_either_86 : decode cX12_either 86 = .ok (.iconst 0, 1) := dk_3 (by decide +kernel)
theorem dX12_either_87 : decode cX12_either 87 = .ok (.invokevirtual 233, 3) := dk_182 0 233 (by decide +kernel)
theorem dX12_either_90 : decode cX12_either 90 = .ok (.iload 5, 2) := dk_21 (by decide +kernel)
theorem dX12_either_92 : decode cX12_either 92 = .ok (.istore_n 2, 1) := dk_61 (by decide +kernel)
theorem dX12_either_93 : decode cX12_either 93 = .ok (.iload_n 1, 1) := dk_27 (by decide +kernel)
theorem dX12_either_94 : decode cX12_either 94 = .ok (.ifCond .ne 8, 3) := dk_154 0 8 (by decide +kernel)
theorem dX12_either_97 : decode cX12_either 97 = .ok (.iload 5, 2) := dk_21 (by decide +kernel)
theorem dX12_either_99 : decode cX12_either 99 = .ok (.ifCond .eq 7, 3) := dk_153 0 7 (by decide +kernel)
theorem dX12_either_102 : decode cX12_either 102 = .ok (.iconst 1, 1) := dk_4 (by decide +kernel)
theorem dX12_either_103 : decode cX12_either 103 = .ok (.goto 4, 3) := dk_167 0 4 (by decide +kernel)
theorem dX12_either_106 : decode cX12_either 106 = .ok (.iconst 0, 1) := dk_3 (by decide +kernel)
theorem dX12_either_107 : decode cX12_either 107 = .ok (.istore_n 3, 1) := dk_62 (by decide +kernel)
theorem dX12_either_108 : decode cX12_either 108 = .ok (.iload_n 3, 1) := dk_29 (by decide +kernel)
theorem dX12_either_109 : decode cX12_either 109 = .ok (.ifCond .eq 7, 3) := dk_153 0 7 (by decide +kernel)
theorem dX12_either_112 : decode cX12_either 112 = .ok (.aload_n 0, 1) := dk_42 (by decide +kernel)
theorem dX12_either_113 : decode cX12_either 113 = .ok (.invokevirtual 246, 3) := dk_182 0 246 (by decide +kernel)
theorem dX12_either_116 : decode cX12_either 116 = .ok (.goto (-110), 3) := dk_167 255 146 (by decide +kernel)
theorem dX12_either_119 : decode cX12_either 119 = .ok (.iconst 0, 1) := dk_3 (by decide +kernel)
theorem dX12_either_120 : decode cX12_either 120 = .ok (.ireturn, 1) := dk_172 (by decide +kernel)
set_option maxRecDepth 8000 in
theorem e_X12_either {g : ch_G} {A R : Nat} (hC : ck_Cx g A R) {d : Nat} {K : Option ck_V → ck_W → Prop} {w : ck_W} (h : ck_At (ch_C g A R) (d + 1) mX12_either K 6 [some (.inr (.inr 76)), some (.inl 0), some (.inl 0), some (.inl 1), none, none] [] w) : ck_Ex (ch_C g A R) (d + 1) mX12_either [.inr (.inr 76)] w K :=
  ck_entry hC.1 [some (.inr (.inr 76)), none, none, none, none, none] (by decide) (Nat.le_of_ble_eq_true rfl) rfl (fun q => q) (ck_in (fun hl => (ck_iconst 1 rfl dX12_either_0 rfl (ck_istore_n 2 rfl 1 [some (.inr (.inr 76)), some (.inl 0), none, none, none, none] dX12_either_1 rfl (Nat.le_of_ble_eq_true rfl) rfl rfl (show ck_i 0 by decide) (ck_iconst 3 rfl dX12_either_2 rfl (ck_istore_n 4 rfl 2 [some (.inr (.inr 76)), some (.inl 0), some (.inl 0), none, none, none] dX12_either_3 rfl (Nat.le_of_ble_eq_true rfl) rfl rfl (show ck_i 0 by decide) (ck_iconst 5 rfl dX12_either_4 rfl (ck_istore_n 6 rfl 3 [some (.inr (.inr 76)), some (.inl 0), some (.inl 0), some (.inl 1), none, none] dX12_either_5 rfl (Nat.le_of_ble_eq_true rfl) rfl rfl (show ck_i 1 by decide) h))))))))
set_option maxRecDepth 8000 in
theorem r_X12_either_6 {g : ch_G} {A R : Nat} (hC : ck_Cx g A R) {d : Nat} {K : Option ck_V → ck_W → Prop} {w : ck_W} {a1 a2 a3 : Int} (h : (a3 = 0 → K (some (.inl 0)) w) ∧ (¬ a3 = 0 → ck_CI (ch_C g A R) d mX12_asks [.inr (.inr 76)] w (fun v2 w1 => (v2 = 0 → (a1 = 0 → ck_At (ch_C g A R) (d + 1) mX12_either K 35 [some (.inr (.inr 76)), none, some (.inl a2), none, none, none] [] w1) ∧ (¬ a1 = 0 → ck_CN (ch_C g A R) d mX12_emit [.inr (.inr 76), .inl 21, .inl 0] w1 (fun w5 => ck_At (ch_C g A R) (d + 1) mX12_either K 35 [some (.inr (.inr 76)), none, some (.inl a2), none, none, none] [] w5))) ∧ (¬ v2 = 0 → K (some (.inl v2)) w1)))) : ck_At (ch_C g A R) (d + 1) mX12_either K 6 [some (.inr (.inr 76)), some (.inl a1), some (.inl a2), some (.inl a3), none, none] [] w :=
  ck_in (fun hl => (ck_iload_n 7 rfl 3 dX12_either_6 rfl rfl (ck_if_eq 10 rfl 119 dX12_either_7 rfl hl.2.2.2.1 (fun c11 => (ck_iconst 120 rfl dX12_either_119 rfl (ck_iret dX12_either_120 rfl (show ck_i 0 by decide) (h.1 c11)))) (fun c12 => (ck_aload_n 11 rfl 0 dX12_either_10 rfl rfl (ck_callV 14 rfl [] [] dX12_either_11 cv_X12_284 sh_76 rfl rfl (Nat.le_of_ble_eq_true rfl) True.intro (ck_mI (h.2 c12) (fun v2 w1 q3 h4 => (ck_istore 16 rfl [some (.inr (.inr 76)), some (.inl a1), some (.inl a2), some (.inl a3), some (.inl v2), none] dX12_either_14 (Nat.le_of_ble_eq_true rfl) rfl rfl q3 (ck_iload 18 rfl dX12_either_16 rfl (ck_if_eq 21 rfl 24 dX12_either_18 rfl q3 (fun c9 => (ck_iload_n 25 rfl 1 dX12_either_24 rfl rfl (have h13 := (h4.1 c9); (ck_if_eq 28 rfl 35 dX12_either_25 rfl hl.2.1 (fun c7 => (ck_drop [some (.inr (.inr 76)), none, some (.inl a2), none, none, none] (And.intro rfl (And.intro rfl True.intro)) (h13.1 c7))) (fun c8 => (ck_aload_n 29 rfl 0 dX12_either_28 rfl rfl (ck_bipush 31 rfl dX12_either_29 rfl (ck_iconst 32 rfl dX12_either_31 rfl (ck_callV 35 rfl [.inl 21, .inl 0] [] dX12_either_32 cv_X12_233 sh_76 rfl rfl (Nat.le_of_ble_eq_true rfl) (And.intro (show ck_i 21 by decide) (And.intro (show ck_i 0 by decide) True.intro)) (ck_mN (h13.2 c8) (fun w5 h6 => (ck_drop [some (.inr (.inr 76)), none, some (.inl a2), none, none, none] (And.intro rfl (And.intro rfl True.intro)) h6)))))))))))) (fun c10 => (ck_iload 23 rfl dX12_either_21 rfl (ck_iret dX12_either_23 rfl q3 (h4.2 c10)))))))))))))))
set_option maxRecDepth 8000 in
theorem r_X12_either_35 {g : ch_G} {A R : Nat} (hC : ck_Cx g A R) {d : Nat} {K : Option ck_V → ck_W → Prop} {w : ck_W} {a2 : Int} (h : ((w 76 21) = 2 ∧ (w 76 23) = (ck_Lor (ck_Lshl (ck_Lor (ck_Lshl 97 8) 110) 8) 100) → (¬ (w 76 21) = 2 → ck_At (ch_C g A R) (d + 1) mX12_either K 75 [some (.inr (.inr 76)), some (.inl 1), some (.inl a2), none, none, some (.inl 0)] [] w) ∧ ((w 76 21) = 2 → (¬ (w 76 23) = 28530 → ck_At (ch_C g A R) (d + 1) mX12_either K 75 [some (.inr (.inr 76)), some (.inl 1), some (.inl a2), none, none, some (.inl 0)] [] w) ∧ ((w 76 23) = 28530 → ck_At (ch_C g A R) (d + 1) mX12_either K 75 [some (.inr (.inr 76)), some (.inl 1), some (.inl a2), none, none, some (.inl 1)] [] w))) ∧ (¬ ((w 76 21) = 2 ∧ (w 76 23) = (ck_Lor (ck_Lshl (ck_Lor (ck_Lshl 97 8) 110) 8) 100)) → (¬ (w 76 21) = 2 → ck_At (ch_C g A R) (d + 1) mX12_either K 75 [some (.inr (.inr 76)), some (.inl 0), some (.inl a2), none, none, some (.inl 0)] [] w) ∧ ((w 76 21) = 2 → (¬ (w 76 23) = 28530 → ck_At (ch_C g A R) (d + 1) mX12_either K 75 [some (.inr (.inr 76)), some (.inl 0), some (.inl a2), none, none, some (.inl 0)] [] w) ∧ ((w 76 23) = 28530 → ck_At (ch_C g A R) (d + 1) mX12_either K 75 [some (.inr (.inr 76)), some (.inl 0), some (.inl a2), none, none, some (.inl 1)] [] w)))) : ck_At (ch_C g A R) (d + 1) mX12_either K 35 [some (.inr (.inr 76)), none, some (.inl a2), none, none, none] [] w :=
  ck_in (fun hl => (ck_aload_n 36 rfl 0 dX12_either_35 rfl rfl (ck_bipush 38 rfl dX12_either_36 rfl (ck_bipush 40 rfl dX12_either_38 rfl (ck_bipush 42 rfl dX12_either_40 rfl (ck_callS 45 rfl [.inl 97, .inl 110, .inl 100] [.inr (.inr 76)] dX12_either_42 cs_X12_209 rfl rfl (Nat.le_of_ble_eq_true rfl) (And.intro (show ck_i 97 by decide) (And.intro (show ck_i 110 by decide) (And.intro (show ck_i 100 by decide) True.intro))) (p_X12_w3 hC (fun q1 => (have h16 := h; ck_callV 48 rfl [.inr (.inl (ck_Lor (ck_Lshl (ck_Lor (ck_Lshl 97 8) 110) 8) 100))] [] dX12_either_45 cv_X12_274 sh_76 rfl rfl (Nat.le_of_ble_eq_true rfl) (And.intro q1.1 True.intro) (p_X12_isWord hC (fun c14 _ => (ck_istore_n 49 rfl 1 [some (.inr (.inr 76)), some (.inl 1), some (.inl a2), none, none, none] dX12_either_48 rfl (Nat.le_of_ble_eq_true rfl) rfl rfl (show ck_i 1 by decide) (ck_aload_n 50 rfl 0 dX12_either_49 rfl rfl (ck_geti 53 rfl 21 dX12_either_50 fl_X12_192 sh_76 rfl rfl _ rfl (fun (q2 : ck_i (w 76 21)) => (ck_iconst 54 rfl dX12_either_53 rfl (have h17 := (h16.1 c14); (ck_icmp_ne 57 rfl 72 dX12_either_54 rfl q2 (show ck_i 2 by decide) (fun c6 => (ck_iconst 73 rfl dX12_either_72 rfl (ck_istore 75 rfl [some (.inr (.inr 76)), some (.inl 1), some (.inl a2), none, none, some (.inl 0)] dX12_either_73 (Nat.le_of_ble_eq_true rfl) rfl rfl (show ck_i 0 by decide) (h17.1 c6)))) (fun c7 => (ck_aload_n 58 rfl 0 dX12_either_57 rfl rfl (ck_getl 61 rfl 23 dX12_either_58 fl_X12_205 sh_76 rfl rfl _ rfl (fun (q3 : ck_l (w 76 23)) => (ck_ldc2 64 rfl 28530 kl_X12_287 dX12_either_61 rfl (ck_lcmp 65 rfl dX12_either_64 q3 (show ck_l 28530 by decide) (have h18 := (h17.2 c7); (ck_if_ne 68 rfl 72 dX12_either_65 rfl ck_cmp_i (fun q => have c4 : ¬ (w 76 23) = 28530 := (fun r => q (ck_cmp_eq.mpr r)); (ck_iconst 73 rfl dX12_either_72 rfl (ck_istore 75 rfl [some (.inr (.inr 76)), some (.inl 1), some (.inl a2), none, none, some (.inl 0)] dX12_either_73 (Nat.le_of_ble_eq_true rfl) rfl rfl (show ck_i 0 by decide) (h18.1 c4)))) (fun q => have c5 : (w 76 23) = 28530 := (ck_cmp_eq.mp q); (ck_iconst 69 rfl dX12_either_68 rfl (ck_goto 73 dX12_either_69 rfl (ck_istore 75 rfl [some (.inr (.inr 76)), some (.inl 1), some (.inl a2), none, none, some (.inl 1)] dX12_either_73 (Nat.le_of_ble_eq_true rfl) rfl rfl (show ck_i 1 by decide) (h18.2 c5))))))))))))))))))))) (fun c15 _ => (ck_istore_n 49 rfl 1 [some (.inr (.inr 76)), some (.inl 0), some (.inl a2), none, none, none] dX12_either_48 rfl (Nat.le_of_ble_eq_true rfl) rfl rfl (show ck_i 0 by decide) (ck_aload_n 50 rfl 0 dX12_either_49 rfl rfl (ck_geti 53 rfl 21 dX12_either_50 fl_X12_192 sh_76 rfl rfl _ rfl (fun (q8 : ck_i (w 76 21)) => (ck_iconst 54 rfl dX12_either_53 rfl (have h19 := (h16.2 c15); (ck_icmp_ne 57 rfl 72 dX12_either_54 rfl q8 (show ck_i 2 by decide) (fun c12 => (ck_iconst 73 rfl dX12_either_72 rfl (ck_istore 75 rfl [some (.inr (.inr 76)), some (.inl 0), some (.inl a2), none, none, some (.inl 0)] dX12_either_73 (Nat.le_of_ble_eq_true rfl) rfl rfl (show ck_i 0 by decide) (h19.1 c12)))) (fun c13 => (ck_aload_n 58 rfl 0 dX12_either_57 rfl rfl (ck_getl 61 rfl 23 dX12_either_58 fl_X12_205 sh_76 rfl rfl _ rfl (fun (q9 : ck_l (w 76 23)) => (ck_ldc2 64 rfl 28530 kl_X12_287 dX12_either_61 rfl (ck_lcmp 65 rfl dX12_either_64 q9 (show ck_l 28530 by decide) (have h20 := (h19.2 c13); (ck_if_ne 68 rfl 72 dX12_either_65 rfl ck_cmp_i (fun q => have c10 : ¬ (w 76 23) = 28530 := (fun r => q (ck_cmp_eq.mpr r)); (ck_iconst 73 rfl dX12_either_72 rfl (ck_istore 75 rfl [some (.inr (.inr 76)), some (.inl 0), some (.inl a2), none, none, some (.inl 0)] dX12_either_73 (Nat.le_of_ble_eq_true rfl) rfl rfl (show ck_i 0 by decide) (h20.1 c10)))) (fun q => have c11 : (w 76 23) = 28530 := (ck_cmp_eq.mp q); (ck_iconst 69 rfl dX12_either_68 rfl (ck_goto 73 dX12_either_69 rfl (ck_istore 75 rfl [some (.inr (.inr 76)), some (.inl 0), some (.inl a2), none, none, some (.inl 1)] dX12_either_73 (Nat.le_of_ble_eq_true rfl) rfl rfl (show ck_i 1 by decide) (h20.2 c11)))))))))))))))))))))))))))))))
set_option maxRecDepth 8000 in
theorem r_X12_either_75 {g : ch_G} {A R : Nat} (hC : ck_Cx g A R) {d : Nat} {K : Option ck_V → ck_W → Prop} {w : ck_W} {a1 a2 a5 : Int} (h : (¬ a1 = 0 → ck_At (ch_C g A R) (d + 1) mX12_either K 93 [some (.inr (.inr 76)), some (.inl a1), some (.inl a2), none, none, some (.inl a5)] [] w) ∧ (a1 = 0 → (a2 = 0 → ck_At (ch_C g A R) (d + 1) mX12_either K 93 [some (.inr (.inr 76)), some (.inl a1), some (.inl a5), none, none, some (.inl a5)] [] w) ∧ (¬ a2 = 0 → ck_CN (ch_C g A R) d mX12_emit [.inr (.inr 76), .inl 22, .inl 0] w (fun w1 => ck_At (ch_C g A R) (d + 1) mX12_either K 93 [some (.inr (.inr 76)), some (.inl a1), some (.inl a5), none, none, some (.inl a5)] [] w1)))) : ck_At (ch_C g A R) (d + 1) mX12_either K 75 [some (.inr (.inr 76)), some (.inl a1), some (.inl a2), none, none, some (.inl a5)] [] w :=
  ck_in (fun hl => (ck_iload_n 76 rfl 1 dX12_either_75 rfl rfl (ck_if_ne 79 rfl 93 dX12_either_76 rfl hl.2.1 (fun c5 => (h.1 c5)) (fun c6 => (ck_iload_n 80 rfl 2 dX12_either_79 rfl rfl (have h7 := (h.2 c6); (ck_if_eq 83 rfl 90 dX12_either_80 rfl hl.2.2.1 (fun c3 => (ck_iload 92 rfl dX12_either_90 rfl (ck_istore_n 93 rfl 2 [some (.inr (.inr 76)), some (.inl a1), some (.inl a5), none, none, some (.inl a5)] dX12_either_92 rfl (Nat.le_of_ble_eq_true rfl) rfl rfl hl.2.2.2.1 (h7.1 c3)))) (fun c4 => (ck_aload_n 84 rfl 0 dX12_either_83 rfl rfl (ck_bipush 86 rfl dX12_either_84 rfl (ck_iconst 87 rfl dX12_either_86 rfl (ck_callV 90 rfl [.inl 22, .inl 0] [] dX12_either_87 cv_X12_233 sh_76 rfl rfl (Nat.le_of_ble_eq_true rfl) (And.intro (show ck_i 22 by decide) (And.intro (show ck_i 0 by decide) True.intro)) (ck_mN (h7.2 c4) (fun w1 h2 => (ck_iload 92 rfl dX12_either_90 rfl (ck_istore_n 93 rfl 2 [some (.inr (.inr 76)), some (.inl a1), some (.inl a5), none, none, some (.inl a5)] dX12_either_92 rfl (Nat.le_of_ble_eq_true rfl) rfl rfl hl.2.2.2.1 h2))))))))))))))))
set_option maxRecDepth 8000 in
theorem r_X12_either_93 {g : ch_G} {A R : Nat} (hC : ck_Cx g A R) {d : Nat} {K : Option ck_V → ck_W → Prop} {w : ck_W} {a1 a2 a5 : Int} (h : (¬ a1 = 0 → ck_At (ch_C g A R) (d + 1) mX12_either K 108 [some (.inr (.inr 76)), some (.inl a1), some (.inl a2), some (.inl 1), none, none] [] w) ∧ (a1 = 0 → (a5 = 0 → ck_At (ch_C g A R) (d + 1) mX12_either K 108 [some (.inr (.inr 76)), some (.inl a1), some (.inl a2), some (.inl 0), none, none] [] w) ∧ (¬ a5 = 0 → ck_At (ch_C g A R) (d + 1) mX12_either K 108 [some (.inr (.inr 76)), some (.inl a1), some (.inl a2), some (.inl 1), none, none] [] w))) : ck_At (ch_C g A R) (d + 1) mX12_either K 93 [some (.inr (.inr 76)), some (.inl a1), some (.inl a2), none, none, some (.inl a5)] [] w :=
  ck_in (fun hl => (ck_iload_n 94 rfl 1 dX12_either_93 rfl rfl (ck_if_ne 97 rfl 102 dX12_either_94 rfl hl.2.1 (fun c3 => (ck_iconst 103 rfl dX12_either_102 rfl (ck_goto 107 dX12_either_103 rfl (ck_istore_n 108 rfl 3 [some (.inr (.inr 76)), some (.inl a1), some (.inl a2), some (.inl 1), none, some (.inl a5)] dX12_either_107 rfl (Nat.le_of_ble_eq_true rfl) rfl rfl (show ck_i 1 by decide) (ck_drop [some (.inr (.inr 76)), some (.inl a1), some (.inl a2), some (.inl 1), none, none] (And.intro rfl (And.intro rfl (And.intro rfl (And.intro rfl True.intro)))) (h.1 c3)))))) (fun c4 => (ck_iload 99 rfl dX12_either_97 rfl (have h5 := (h.2 c4); (ck_if_eq 102 rfl 106 dX12_either_99 rfl hl.2.2.2.1 (fun c1 => (ck_iconst 107 rfl dX12_either_106 rfl (ck_istore_n 108 rfl 3 [some (.inr (.inr 76)), some (.inl a1), some (.inl a2), some (.inl 0), none, some (.inl a5)] dX12_either_107 rfl (Nat.le_of_ble_eq_true rfl) rfl rfl (show ck_i 0 by decide) (ck_drop [some (.inr (.inr 76)), some (.inl a1), some (.inl a2), some (.inl 0), none, none] (And.intro rfl (And.intro rfl (And.intro rfl (And.intro rfl True.intro)))) (h5.1 c1))))) (fun c2 => (ck_iconst 103 rfl dX12_either_102 rfl (ck_goto 107 dX12_either_103 rfl (ck_istore_n 108 rfl 3 [some (.inr (.inr 76)), some (.inl a1), some (.inl a2), some (.inl 1), none, some (.inl a5)] dX12_either_107 rfl (Nat.le_of_ble_eq_true rfl) rfl rfl (show ck_i 1 by decide) (ck_drop [some (.inr (.inr 76)), some (.inl a1), some (.inl a2), some (.inl 1), none, none] (And.intro rfl (And.intro rfl (And.intro rfl (And.intro rfl True.intro)))) (h5.2 c2)))))))))))))
set_option maxRecDepth 8000 in
theorem r_X12_either_108 {g : ch_G} {A R : Nat} (hC : ck_Cx g A R) {d : Nat} {K : Option ck_V → ck_W → Prop} {w : ck_W} {a1 a2 a3 : Int} (h : (a3 = 0 → ck_At (ch_C g A R) (d + 1) mX12_either K 6 [some (.inr (.inr 76)), some (.inl a1), some (.inl a2), some (.inl a3), none, none] [] w) ∧ (¬ a3 = 0 → ck_CN (ch_C g A R) d mX12_nextToken [.inr (.inr 76)] w (fun w1 => ck_At (ch_C g A R) (d + 1) mX12_either K 6 [some (.inr (.inr 76)), some (.inl a1), some (.inl a2), some (.inl a3), none, none] [] w1))) : ck_At (ch_C g A R) (d + 1) mX12_either K 108 [some (.inr (.inr 76)), some (.inl a1), some (.inl a2), some (.inl a3), none, none] [] w :=
  ck_in (fun hl => (ck_iload_n 109 rfl 3 dX12_either_108 rfl rfl (ck_if_eq 112 rfl 116 dX12_either_109 rfl hl.2.2.2.1 (fun c3 => (ck_goto 6 dX12_either_116 rfl (h.1 c3))) (fun c4 => (ck_aload_n 113 rfl 0 dX12_either_112 rfl rfl (ck_callV 116 rfl [] [] dX12_either_113 cv_X12_246 sh_76 rfl rfl (Nat.le_of_ble_eq_true rfl) True.intro (ck_mN (h.2 c4) (fun w1 h2 => (ck_goto 6 dX12_either_116 rfl h2)))))))))
theorem S_X12_either {g : ch_G} {A R : Nat} (hC : ck_Cx g A R) {d : Nat} {K : Option ck_V → ck_W → Prop} {w : ck_W} {T X s : Int} (hT : 0 ≤ T ∧ T ≤ 300) (hX : 0 ≤ X ∧ X ≤ 2400) (hy : py T X s 0 0 0 0 w)
    (h : ∀ v w', pr w w' → (v = 0 → py T X s 0 0 0 1 w' ∧ w 76 20 < w' 76 20) → K (some (.inl v)) w') : ck_Ex (ch_C g A R) (d + 7) mX12_either [.inr (.inr 76)] w K := by
  have l : ∀ (q : Nat) (a1 a2 : Int) (u : ck_W), 301 - u 76 20 ≤ q → (a1 = 0 ∨ a1 = 1) → (a2 = 0 ∨ a2 = 1) → pr w u → w 76 20 ≤ u 76 20 → py T X s (a1 + a2) 0 0 (a1 + a2) u → ck_At (ch_C g A R) (d + 7) mX12_either K 6 [some (.inr (.inr 76)), some (.inl a1), some (.inl a2), some (.inl 1), none, none] [] u := by
    intro q
    induction q with
    | zero => intro a1 a2 u q1 q2 q3 q4 q5 q6; have := q6.1; omega
    | succ q ih =>
      intro a1 a2 u q1 q2 q3 q4 q5 q6
      -- on to the next ask, or out; b1: and, b2: or, b3: more
      have l108 : ∀ (b1 b2 b3 : Int) (u' : ck_W), (b1 = 0 ∨ b1 = 1) → (b2 = 0 ∨ b2 = 1) → (b3 = 0 ∨ b3 = 1) → pr w u' → u 76 20 < u' 76 20 → (b3 = 1 → ¬ u' 76 21 = 0 ∧ py T X s (b1 + b2 - 1) 0 0 (b1 + b2) u') → (b3 = 0 → py T X s 0 0 0 1 u') → ck_At (ch_C g A R) (d + 7) mX12_either K 108 [some (.inr (.inr 76)), some (.inl b1), some (.inl b2), some (.inl b3), none, none] [] u' := by
        intro b1 b2 b3 u' c1 c2 c3 c4 c5 c6 c7
        refine r_X12_either_108 hC ⟨fun z => ?_, fun z => ?_⟩
        · subst z
          exact r_X12_either_6 hC ⟨fun _ => h 0 u' c4 (fun _ => ⟨c7 rfl, by omega⟩), fun y => absurd rfl y⟩
        · obtain rfl : b3 = 1 := by omega
          obtain ⟨t1, t2⟩ := c6 rfl
          exact S_nexty hC hT t2 t1 (fun w' d1 d2 d3 d4 d5 => ⟨rfl, ih b1 b2 w' (by omega) c1 c2 (pr_tr c4 d1) (by omega) (by rw [show b1 + b2 - 1 + 1 = b1 + b2 by omega] at d4; exact d4)⟩)
      -- b1: and, b5: or follows
      have l35 : ∀ u' : ck_W, pr w u' → u 76 20 < u' 76 20 → py T X s a2 0 0 (a2 + 1) u' → ck_At (ch_C g A R) (d + 7) mX12_either K 35 [some (.inr (.inr 76)), none, some (.inl a2), none, none, none] [] u' := by
        intro u' c4 c5 c6
        have l75 : ∀ b1 b5, (b1 = 0 ∨ b1 = 1) → (b5 = 0 ∨ b5 = 1) → (b1 = 1 ∨ b5 = 1 → ¬ u' 76 21 = 0) → (b1 = 1 → b5 = 0) → ck_At (ch_C g A R) (d + 7) mX12_either K 75 [some (.inr (.inr 76)), some (.inl b1), some (.inl a2), none, none, some (.inl b5)] [] u' := by
          intro b1 b5 e1 e5 tk ex
          refine r_X12_either_75 hC ⟨fun z => ?_, fun z => ?_⟩
          · obtain rfl : b1 = 1 := by omega
            refine r_X12_either_93 hC ⟨fun _ => l108 1 a2 1 u' (by omega) q3 (by omega) c4 c5 (fun _ => ⟨tk (Or.inl rfl), by rw [show 1 + a2 - 1 = a2 by omega, show 1 + a2 = a2 + 1 by omega]; exact c6⟩) (fun x => by omega), fun y => absurd y (by decide)⟩
          · subst z
            have out : ∀ u2 : ck_W, pr w u2 → u 76 20 < u2 76 20 → u2 76 21 = u' 76 21 → py T X s 0 0 0 1 u2 → ck_At (ch_C g A R) (d + 7) mX12_either K 93 [some (.inr (.inr 76)), some (.inl 0), some (.inl b5), none, none, some (.inl b5)] [] u2 := by
              intro u2 f1 f2 f3 f4
              refine r_X12_either_93 hC ⟨fun y => absurd rfl y, fun _ => ⟨fun y => ?_, fun y => ?_⟩⟩
              · subst y; exact l108 0 0 0 u2 (by omega) (by omega) (by omega) f1 f2 (fun x => by omega) (fun _ => f4)
              · obtain rfl : b5 = 1 := by omega
                exact l108 0 1 1 u2 (by omega) (by omega) (by omega) f1 f2 (fun _ => ⟨by rw [f3]; exact tk (Or.inr rfl), by rw [show (0 : Int) + 1 - 1 = 0 by omega, show (0 : Int) + 1 = 1 by omega]; exact f4⟩) (fun x => by omega)
            refine ⟨fun y => ?_, fun y => ?_⟩
            · subst y
              exact out u' c4 c5 rfl (by rw [show (0 : Int) + 1 = 1 by omega] at c6; exact c6)
            · obtain rfl : a2 = 1 := by omega
              refine S_emity hC hT hX (by omega) c6 (n' := 0) (m' := 1) ?_ (fun w' d1 d2 d3 => ⟨rfl, out w' (pr_tr c4 d1) (by rw [d2 20 (by decide)]; exact c5) (d2 21 (by decide)) (by rw [show (1 : Int) - 1 = 0 by omega] at d3; exact d3)⟩)
              decide
        refine r_X12_either_35 hC ⟨fun z => ⟨fun y => absurd z.1 y, fun _ => ⟨fun _ => l75 1 0 (by omega) (by omega) (fun _ => by omega) (fun _ => rfl), fun y => ?_⟩⟩, fun z => ⟨fun _ => l75 0 0 (by omega) (by omega) (fun x => by omega) (fun _ => rfl), fun t2 => ⟨fun _ => l75 0 0 (by omega) (by omega) (fun x => by omega) (fun _ => rfl), fun _ => l75 0 1 (by omega) (by omega) (fun _ => by omega) (fun x => by omega)⟩⟩⟩
        exact absurd (z.2.symm.trans y) (by decide +kernel)
      refine r_X12_either_6 hC ⟨fun z => absurd z (by decide), fun _ => ?_⟩
      refine S_X12_asks hC hT hX (by omega) (by omega) q6 (fun v w1 b1 b2 => ⟨_, rfl, fun _ => ⟨fun e => ⟨fun z => ?_, fun z => ?_⟩, fun e => h v w1 (pr_tr q4 b1) (fun e' => absurd e' e)⟩⟩)
      · subst z
        obtain ⟨y1, y2⟩ := b2 e
        exact l35 w1 (pr_tr q4 b1) y2 (by rw [show 0 + a2 = a2 by omega] at y1; exact y1)
      · obtain rfl : a1 = 1 := by omega
        obtain ⟨y1, y2⟩ := b2 e
        refine S_emity hC hT hX (by omega) y1 (n' := 0) (m' := a2 + 1) ?_ (fun w' d1 d2 d3 => ⟨rfl, l35 w' (pr_tr (pr_tr q4 b1) d1) (by rw [d2 20 (by decide)]; exact y2) (by rw [show 1 + a2 - 1 = a2 by omega] at d3; exact d3)⟩)
        unfold tx_eff
        rw [if_neg (by decide), if_neg (by decide), if_neg (by decide), if_neg (by decide), if_neg (by decide), if_neg (by decide), if_pos (by decide), if_pos (by dsimp only; omega)]
        dsimp only
        rw [show 1 + a2 + 1 - 1 = a2 + 1 by omega]
  exact e_X12_either hC (l 301 0 0 w (by have := hy.1; omega) (by omega) (by omega) pr_rf (Int.le_refl _) (by rw [show (0 : Int) + 0 = 0 by omega]; exact hy))
/-- clauses that stand -/
theorem tx_cl_c {t t' : Int → Int} {x k e : Int} (h : tx_cl t x k) (h0 : 0 ≤ k ∧ k < 10) (hw : t (x + 3 + 3 * k) ≤ e) (hc : ∀ j, x < j → j < x + 50 + 2 * e → t' j = t j) : tx_cl t' x k := by
  obtain ⟨a, b, c, f⟩ := h
  have e2 := hc (x + 2 + 3 * k) (by omega) (by omega)
  have e3 := hc (x + 3 + 3 * k) (by omega) (by omega)
  refine ⟨by rw [e2]; exact a, by rw [e2, e3]; exact b, by rw [e3]; exact c, ?_⟩
  rw [e2, e3, tx_c (t := t) (fun j y z => hc j (by omega) (by omega))]
  exact f
/-- the state between clauses -/
def px (T X : Int) (u : ck_W) : Prop :=
  (0 ≤ u 76 20 ∧ u 76 20 ≤ u 76 19 ∧ u 76 19 ≤ T) ∧ (u 76 21 = 0 ∨ u 76 20 < u 76 19) ∧ 0 ≤ u 76 22 ∧ (u 76 16 = T ∧ u 76 24 = X) ∧ 0 ≤ u 76 26 ∧ u 76 26 ≤ u 76 20 ∧ (0 ≤ u 76 30 ∧ u 76 30 ≤ 8) ∧
  (0 ≤ u 79 X ∧ u 79 X ≤ 10) ∧ ∀ k, 0 ≤ k → k < u 79 X → tx_cl (u 79) X k ∧ u 79 (X + 3 + 3 * k) ≤ u 76 26
/-- what a text's reading leaves -/
def pt (X : Int) (u u' : ck_W) : Prop := (∀ k, k ≠ 76 → k ≠ 79 → k ≠ 90 → u' k = u k) ∧ (∀ j, j < 19 → u' 76 j = u 76 j) ∧ (∀ j, j < X → u' 79 j = u 79 j) ∧ (0 ≤ u 76 22 → 0 ≤ u' 76 22)
theorem pt_tr {X : Int} {u u1 u2 : ck_W} (a : pt X u u1) (b : pt X u1 u2) : pt X u u2 := ⟨fun k x y z => (b.1 k x y z).trans (a.1 k x y z), fun j hj => (b.2.1 j hj).trans (a.2.1 j hj), fun j hj => (b.2.2.1 j hj).trans (a.2.2.1 j hj), fun q => b.2.2.2 (a.2.2.2 q)⟩
theorem pt_pr {X : Int} {u u' : ck_W} (h : pr u u') (hX : X ≤ u 76 24) (hw : 0 ≤ u 76 26) : pt X u u' := ⟨h.1, fun j hj => h.2.1 j (by omega), fun j hj => h.2.2.1 j (by omega), h.2.2.2.2⟩
theorem pt_79 {X i v : Int} {u : ck_W} (h : X ≤ i) : pt X u (ck_up u 79 i v) := ⟨fun k x y z => by rw [ck_up_ne y], fun j _ => by rw [ck_up_ne (by decide)], fun j hj => by rw [ck_up_nj (by omega)], fun q => q⟩
theorem dX12_sortOf_0 : decode cX12_sortOf 0 = .ok (.aload_n 0, 1) := dk_42 (by decide +kernel)
theorem dX12_sortOf_1 : decode cX12_sortOf 1 = .ok (.bipush 105, 2) := dk_16 105 (by decide +kernel)
theorem dX12_sortOf_3 : decode cX12_sortOf 3 = .ok (.bipush 110, 2) := dk_16 110 (by decide +kernel)
theorem dX12_sortOf_5 : decode cX12_sortOf 5 = .ok (.bipush 107, 2) := dk_16 107 (by decide +kernel)
theorem dX12_sortOf_7 : decode cX12_sortOf 7 = .ok (.invokestatic 209, 3) := dk_184 0 209 (by decide +kernel)
theorem dX12_sortOf_10 : decode cX12_sortOf 10 = .ok (.invokevirtual 274, 3) := dk_182 1 18 (by decide +kernel)
theorem dX12_sortOf_13 : decode cX12_sortOf 13 = .ok (.ifCond .eq 7, 3) := dk_153 0 7 (by decide +kernel)
theorem dX12_sortOf_16 : decode cX12_sortOf 16 = .ok (.iconst 1, 1) := dk_4 (by decide +kernel)
theorem dX12_sortOf_17 : decode cX12_sortOf 17 = .ok (.goto 26, 3) := dk_167 0 26 (by decide +kernel)
theorem dX12_sortOf_20 : decode cX12_sortOf 20 = .ok (.aload_n 0, 1) := dk_42 (by decide +kernel)
theorem dX12_sortOf_21 : decode cX12_sortOf 21 = .ok (.bipush 98, 2) := dk_16 98 (by decide +kernel)
theorem dX12_sortOf_23 : decode cX12_sortOf 23 = .ok (.bipush 97, 2) := dk_16 97 (by decide +kernel)
theorem dX12_sortOf_25 : decode cX12_sortOf 25 = .ok (.bipush 114, 2) := dk_16 114 (by decide +kernel)
theorem dX12_sortOf_27 : decode cX12_sortOf 27 = .ok (.bipush 101, 2) := dk_16 101 (by decide +kernel)
theorem dX12_sortOf_29 : decode cX12_sortOf 29 = .ok (.invokestatic 236, 3) := dk_184 0 236 (by decide +kernel)
theorem dX12_sortOf_32 : decode cX12_sortOf 32 = .ok (.invokevirtual 274, 3) := dk_182 1 18 (by decide +kernel)
theorem dX12_sortOf_35 : decode cX12_sortOf 35 = .ok (.ifCond .eq 7, 3) := dk_153 0 7 (by decide +kernel)
theorem dX12_sortOf_38 : decode cX12_sortOf 38 = .ok (.iconst 2, 1) := dk_5 (by decide +kernel)
theorem dX12_sortOf_39 : decode cX12_sortOf 39 = .ok (.goto 4, 3) := dk_167 0 4 (by decide +kernel)
theorem dX12_sortOf_42 : decode cX12_sortOf 42 = .ok (.iconst 0, 1) := dk_3 (by decide +kernel)
theorem dX12_sortOf_43 : decode cX12_sortOf 43 = .ok (.ireturn, 1) := dk_172 (by decide +kernel)
set_option maxRecDepth 8000 in
theorem e_X12_sortOf {g : ch_G} {A R : Nat} (hC : ck_Cx g A R) {d : Nat} {K : Option ck_V → ck_W → Prop} {w : ck_W} (h : ((w 76 21) = 2 ∧ (w 76 23) = (ck_Lor (ck_Lshl (ck_Lor (ck_Lshl 105 8) 110) 8) 107) → K (some (.inl 1)) w) ∧ (¬ ((w 76 21) = 2 ∧ (w 76 23) = (ck_Lor (ck_Lshl (ck_Lor (ck_Lshl 105 8) 110) 8) 107)) → ((w 76 21) = 2 ∧ (w 76 23) = (ck_Lor (ck_Lshl (ck_Lor (ck_Lshl (ck_Lor (ck_Lshl 98 8) 97) 8) 114) 8) 101) → K (some (.inl 2)) w) ∧ (¬ ((w 76 21) = 2 ∧ (w 76 23) = (ck_Lor (ck_Lshl (ck_Lor (ck_Lshl (ck_Lor (ck_Lshl 98 8) 97) 8) 114) 8) 101)) → K (some (.inl 0)) w))) : ck_Ex (ch_C g A R) (d + 2) mX12_sortOf [.inr (.inr 76)] w K :=
  ck_entry hC.1 [some (.inr (.inr 76))] (by decide) (Nat.le_of_ble_eq_true rfl) rfl (fun q => q) (ck_in (fun hl => (ck_aload_n 1 rfl 0 dX12_sortOf_0 rfl rfl (ck_bipush 3 rfl dX12_sortOf_1 rfl (ck_bipush 5 rfl dX12_sortOf_3 rfl (ck_bipush 7 rfl dX12_sortOf_5 rfl (ck_callS 10 rfl [.inl 105, .inl 110, .inl 107] [.inr (.inr 76)] dX12_sortOf_7 cs_X12_209 rfl rfl (Nat.le_of_ble_eq_true rfl) (And.intro (show ck_i 105 by decide) (And.intro (show ck_i 110 by decide) (And.intro (show ck_i 107 by decide) True.intro))) (p_X12_w3 hC (fun q1 => (have h8 := h; ck_callV 13 rfl [.inr (.inl (ck_Lor (ck_Lshl (ck_Lor (ck_Lshl 105 8) 110) 8) 107))] [] dX12_sortOf_10 cv_X12_274 sh_76 rfl rfl (Nat.le_of_ble_eq_true rfl) (And.intro q1.1 True.intro) (p_X12_isWord hC (fun c6 _ => (ck_if_eq 16 rfl 20 dX12_sortOf_13 rfl (by decide) (fun q => absurd q (by decide)) (fun _ => (ck_iconst 17 rfl dX12_sortOf_16 rfl (ck_goto 43 dX12_sortOf_17 rfl (ck_iret dX12_sortOf_43 rfl (show ck_i 1 by decide) (h8.1 c6))))))) (fun c7 _ => (ck_if_eq 16 rfl 20 dX12_sortOf_13 rfl (by decide) (fun _ => (ck_aload_n 21 rfl 0 dX12_sortOf_20 rfl rfl (ck_bipush 23 rfl dX12_sortOf_21 rfl (ck_bipush 25 rfl dX12_sortOf_23 rfl (ck_bipush 27 rfl dX12_sortOf_25 rfl (ck_bipush 29 rfl dX12_sortOf_27 rfl (ck_callS 32 rfl [.inl 98, .inl 97, .inl 114, .inl 101] [.inr (.inr 76)] dX12_sortOf_29 cs_X12_236 rfl rfl (Nat.le_of_ble_eq_true rfl) (And.intro (show ck_i 98 by decide) (And.intro (show ck_i 97 by decide) (And.intro (show ck_i 114 by decide) (And.intro (show ck_i 101 by decide) True.intro)))) (p_X12_w4 hC (fun q2 => (have h5 := (h8.2 c7); ck_callV 35 rfl [.inr (.inl (ck_Lor (ck_Lshl (ck_Lor (ck_Lshl (ck_Lor (ck_Lshl 98 8) 97) 8) 114) 8) 101))] [] dX12_sortOf_32 cv_X12_274 sh_76 rfl rfl (Nat.le_of_ble_eq_true rfl) (And.intro q2.1 True.intro) (p_X12_isWord hC (fun c3 _ => (ck_if_eq 38 rfl 42 dX12_sortOf_35 rfl (by decide) (fun q => absurd q (by decide)) (fun _ => (ck_iconst 39 rfl dX12_sortOf_38 rfl (ck_goto 43 dX12_sortOf_39 rfl (ck_iret dX12_sortOf_43 rfl (show ck_i 2 by decide) (h5.1 c3))))))) (fun c4 _ => (ck_if_eq 38 rfl 42 dX12_sortOf_35 rfl (by decide) (fun _ => (ck_iconst 43 rfl dX12_sortOf_42 rfl (ck_iret dX12_sortOf_43 rfl (show ck_i 0 by decide) (h5.2 c4)))) (fun q => absurd q (by decide))))))))))))))) (fun q => absurd q (by decide)))))))))))))))
theorem dX12_clause_0 : decode cX12_clause 0 = .ok (.aload_n 0, 1) := dk_42 (by decide +kernel)
theorem dX12_clause_1 : decode cX12_clause 1 = .ok (.invokevirtual 289, 3) := dk_182 1 33 (by decide +kernel)
theorem dX12_clause_4 : decode cX12_clause 4 = .ok (.istore_n 1, 1) := dk_60 (by decide +kernel)
theorem dX12_clause_5 : decode cX12_clause 5 = .ok (.iload_n 1, 1) := dk_27 (by decide +kernel)
theorem dX12_clause_6 : decode cX12_clause 6 = .ok (.ifCond .ne 5, 3) := dk_154 0 5 (by decide +kernel)
theorem dX12_clause_9 : decode cX12_clause 9 = .ok (.iconst 1, 1) := dk_4 (by decide +kernel)
theorem dX12_clause_10 : decode cX12_clause 10 = .ok (.ireturn, 1) := dk_172 (by decide +kernel)
theorem dX12_clause_11 : decode cX12_clause 11 = .ok (.aload_n 0, 1) := dk_42 (by decide +kernel)
theorem dX12_clause_12 : decode cX12_clause 12 = .ok (.getfield 16, 3) := dk_180 0 16 (by decide +kernel)
theorem dX12_clause_15 : decode cX12_clause 15 = .ok (.aload_n 0, 1) := dk_42 (by decide +kernel)
theorem dX12_clause_16 : decode cX12_clause 16 = .ok (.getfield 217, 3) := dk_180 0 217 (by decide +kernel)
theorem dX12_clause_19 : decode cX12_clause 19 = .ok (.iaload, 1) := dk_46 (by decide +kernel)
theorem dX12_clause_20 : decode cX12_clause 20 = .ok (.istore_n 2, 1) := dk_61 (by decide +kernel)
theorem dX12_clause_21 : decode cX12_clause 21 = .ok (.iload_n 2, 1) := dk_28 (by decide +kernel)
theorem dX12_clause_22 : decode cX12_clause 22 = .ok (.bipush 10, 2) := dk_16 10 (by decide +kernel)
theorem dX12_clause_24 : decode cX12_clause 24 = .ok (.if_icmp .ne 5, 3) := dk_160 0 5 (by decide +kernel)
theorem dX12_clause_27 : decode cX12_clause 27 = .ok (.iconst 4, 1) := dk_7 (by decide +kernel)
theorem dX12_clause_28 : decode cX12_clause 28 = .ok (.ireturn, 1) := dk_172 (by decide +kernel)
theorem dX12_clause_29 : decode cX12_clause 29 = .ok (.aload_n 0, 1) := dk_42 (by decide +kernel)
theorem dX12_clause_30 : decode cX12_clause 30 = .ok (.invokevirtual 246, 3) := dk_182 0 246 (by decide +kernel)
theorem dX12_clause_33 : decode cX12_clause 33 = .ok (.aload_n 0, 1) := dk_42 (by decide +kernel)
theorem dX12_clause_34 : decode cX12_clause 34 = .ok (.getfield 16, 3) := dk_180 0 16 (by decide +kernel)
theorem dX12_clause_37 : decode cX12_clause 37 = .ok (.aload_n 0, 1) := dk_42 (by decide +kernel)
theorem dX12_clause_38 : decode cX12_clause 38 = .ok (.getfield 217, 3) := dk_180 0 217 (by decide +kernel)
theorem dX12_clause_41 : decode cX12_clause 41 = .ok (.iconst 1, 1) := dk_4 (by decide +kernel)
theorem dX12_clause_42 : decode cX12_clause 42 = .ok (.iadd, 1) := dk_96 (by decide +kernel)
theorem dX12_clause_43 : decode cX12_clause 43 = .ok (.iconst 3, 1) := dk_6 (by decide +kernel)
theorem dX12_clause_44 : decode cX12_clause 44 = .ok (.iload_n 2, 1) := dk_28 (by decide +kernel)
theorem dX12_clause_45 : decode cX12_clause 45 = .ok (.imul, 1) := dk_104 (by decide +kernel)
theorem dX12_clause_46 : decode cX12_clause 46 = .ok (.iadd, 1) := dk_96 (by decide +kernel)
theorem dX12_clause_47 : decode cX12_clause 47 = .ok (.iload_n 1, 1) := dk_27 (by decide +kernel)
theorem dX12_clause_48 : decode cX12_clause 48 = .ok (.iastore, 1) := dk_79 (by decide +kernel)
theorem dX12_clause_49 : decode cX12_clause 49 = .ok (.aload_n 0, 1) := dk_42 (by decide +kernel)
theorem dX12_clause_50 : decode cX12_clause 50 = .ok (.getfield 16, 3) := dk_180 0 16 (by decide +kernel)
theorem dX12_clause_53 : decode cX12_clause 53 = .ok (.aload_n 0, 1) := dk_42 (by decide +kernel)
theorem dX12_clause_54 : decode cX12_clause 54 = .ok (.getfield 217, 3) := dk_180 0 217 (by decide +kernel)
theorem dX12_clause_57 : decode cX12_clause 57 = .ok (.iconst 2, 1) := dk_5 (by decide +kernel)
theorem dX12_clause_58 : decode cX12_clause 58 = .ok (.iadd, 1) := dk_96 (by decide +kernel)
theorem dX12_clause_59 : decode cX12_clause 59 = .ok (.iconst 3, 1) := dk_6 (by decide +kernel)
theorem dX12_clause_60 : decode cX12_clause 60 = .ok (.iload_n 2, 1) := dk_28 (by decide +kernel)
theorem dX12_clause_61 : decode cX12_clause 61 = .ok (.imul, 1) := dk_104 (by decide +kernel)
theorem dX12_clause_62 : decode cX12_clause 62 = .ok (.iadd, 1) := dk_96 (by decide +kernel)
theorem dX12_clause_63 : decode cX12_clause 63 = .ok (.aload_n 0, 1) := dk_42 (by decide +kernel)
theorem dX12_clause_64 : decode cX12_clause 64 = .ok (.getfield 220, 3) := dk_180 0 220 (by decide +kernel)
theorem dX12_clause_67 : decode cX12_clause 67 = .ok (.iastore, 1) := dk_79 (by decide +kernel)
theorem dX12_clause_68 : decode cX12_clause 68 = .ok (.aload_n 0, 1) := dk_42 (by decide +kernel)
theorem dX12_clause_69 : decode cX12_clause 69 = .ok (.invokevirtual 292, 3) := dk_182 1 36 (by decide +kernel)
theorem dX12_clause_72 : decode cX12_clause 72 = .ok (.istore_n 3, 1) := dk_62 (by decide +kernel)
theorem dX12_clause_73 : decode cX12_clause 73 = .ok (.iload_n 3, 1) := dk_29 (by decide +kernel)
theorem dX12_clause_74 : decode cX12_clause 74 = .ok (.ifCond .eq 5, 3) := dk_153 0 5 (by decide +kernel)
theorem dX12_clause_77 : decode cX12_clause 77 = .ok (.iload_n 3, 1) := dk_29 (by decide +kernel)
theorem dX12_clause_78 : decode cX12_clause 78 = .ok (.ireturn, 1) := dk_172 (by decide +kernel)
theorem dX12_clause_79 : decode cX12_clause 79 = .ok (.aload_n 0, 1) := dk_42 (by decide +kernel)
theorem dX12_clause_80 : decode cX12_clause 80 = .ok (.getfield 16, 3) := dk_180 0 16 (by decide +kernel)
theorem dX12_clause_83 : decode cX12_clause 83 = .ok (.aload_n 0, 1) := dk_42 (by decide +kernel)
theorem dX12_clause_84 : decode cX12_clause 84 = .ok (.getfield 217, 3) := dk_180 0 217 (by decide +kernel)
theorem dX12_clause_87 : decode cX12_clause 87 = .ok (.iconst 3, 1) := dk_6 (by decide +kernel)
theorem dX12_clause_88 : decode cX12_clause 88 = .ok (.iadd, 1) := dk_96 (by decide +kernel)
theorem dX12_clause_89 : decode cX12_clause 89 = .ok (.iconst 3, 1) := dk_6 (by decide +kernel)
theorem dX12_clause_90 : decode cX12_clause 90 = .ok (.iload_n 2, 1) := dk_28 (by decide +kernel)
theorem dX12_clause_91 : decode cX12_clause 91 = .ok (.imul, 1) := dk_104 (by decide +kernel)
theorem dX12_clause_92 : decode cX12_clause 92 = .ok (.iadd, 1) := dk_96 (by decide +kernel)
theorem dX12_clause_93 : decode cX12_clause 93 = .ok (.aload_n 0, 1) := dk_42 (by decide +kernel)
theorem dX12_clause_94 : decode cX12_clause 94 = .ok (.getfield 220, 3) := dk_180 0 220 (by decide +kernel)
theorem dX12_clause_97 : decode cX12_clause 97 = .ok (.iastore, 1) := dk_79 (by decide +kernel)
theorem dX12_clause_98 : decode cX12_clause 98 = .ok (.aload_n 0, 1) := dk_42 (by decide +kernel)
theorem dX12_clause_99 : decode cX12_clause 99 = .ok (.getfield 16, 3) := dk_180 0 16 (by decide +kernel)
theorem dX12_clause_102 : decode cX12_clause 102 = .ok (.aload_n 0, 1) := dk_42 (by decide +kernel)
theorem dX12_clause_103 : decode cX12_clause 103 = .ok (.getfield 217, 3) := dk_180 0 217 (by decide +kernel)
theorem dX12_clause_106 : decode cX12_clause 106 = .ok (.dup2, 1) := dk_92 (by decide +kernel)
theorem dX12_clause_107 : decode cX12_clause 107 = .ok (.iaload, 1) := dk_46 (by decide +kernel)
theorem dX12_clause_108 : decode cX12_clause 108 = .ok (.iconst 1, 1) := dk_4 (by decide +kernel)
theorem dX12_clause_109 : decode cX12_clause 109 = .ok (.iadd, 1) := dk_96 (by decide +kernel)
theorem dX12_clause_110 : decode cX12_clause 110 = .ok (.iastore, 1) := dk_79 (by decide +kernel)
theorem dX12_clause_111 : decode cX12_clause 111 = .ok (.aload_n 0, 1) := dk_42 (by decide +kernel)
theorem dX12_clause_112 : decode cX12_clause 112 = .ok (.getfield 192, 3) := dk_180 0 192 (by decide +kernel)
theorem dX12_clause_115 : decode cX12_clause 115 = .ok (.bipush 59, 2) := dk_16 59 (by decide +kernel)
theorem dX12_clause_117 : decode cX12_clause 117 = .ok (.if_icmp .eq 5, 3) := dk_159 0 5 (by decide +kernel)
theorem dX12_clause_120 : decode cX12_clause 120 = .ok (.iconst 1, 1) := dk_4 (by decide +kernel)
theorem dX12_clause_121 : decode cX12_clause 121 = .ok (.ireturn, 1) := dk_172 (by decide +kernel)
theorem dX12_clause_122 : decode cX12_clause 122 = .ok (.aload_n 0, 1) := dk_42 (by decide +kernel)
theorem dX12_clause_123 : decode cX12_clause 123 = .ok (.invokevirtual 246, 3) := dk_182 0 246 (by decide +kernel)
theorem dX12_clause_126 : decode cX12_clause 126 = .ok (.iconst 0, 1) := dk_3 (by decide +kernel)
theorem dX12_clause_127 : decode cX12_clause 127 = .ok (.ireturn, 1) := dk_172 (by decide +kernel)
set_option maxRecDepth 8000 in
theorem e_X12_clause {g : ch_G} {A R : Nat} (hC : ck_Cx g A R) {d : Nat} {K : Option ck_V → ck_W → Prop} {w : ck_W} (h : ck_CI (ch_C g A R) d mX12_sortOf [.inr (.inr 76)] w (fun v2 w1 => (¬ v2 = 0 → (0 ≤ (w1 76 24) ∧ (w1 76 24) < 3200) ∧ ((¬ (w1 79 (w1 76 24)) = 10 → ck_CN (ch_C g A R) d mX12_nextToken [.inr (.inr 76)] w1 (fun w8 => (0 ≤ (((w8 76 24) + 1) + (3 * (w1 79 (w1 76 24)))) ∧ (((w8 76 24) + 1) + (3 * (w1 79 (w1 76 24)))) < 3200) ∧ ((0 ≤ (((w8 76 24) + 2) + (3 * (w1 79 (w1 76 24)))) ∧ (((w8 76 24) + 2) + (3 * (w1 79 (w1 76 24)))) < 3200) ∧ (ck_CI (ch_C g A R) d mX12_either [.inr (.inr 76)] (ck_up (ck_up w8 79 (((w8 76 24) + 1) + (3 * (w1 79 (w1 76 24)))) v2) 79 (((w8 76 24) + 2) + (3 * (w1 79 (w1 76 24)))) (w8 76 26)) (fun v15 w14 => (v15 = 0 → (0 ≤ (((w14 76 24) + 3) + (3 * (w1 79 (w1 76 24)))) ∧ (((w14 76 24) + 3) + (3 * (w1 79 (w1 76 24)))) < 3200) ∧ ((0 ≤ (w14 76 24) ∧ (w14 76 24) < 3200) ∧ (∀ x24, x24 = (ck_up w14 79 (((w14 76 24) + 3) + (3 * (w1 79 (w1 76 24)))) (w14 76 26)) 79 (w14 76 24) → ck_i (x24 + 1) ∧ (((w14 76 21) = 59 → ck_CN (ch_C g A R) d mX12_nextToken [.inr (.inr 76)] (ck_up (ck_up w14 79 (((w14 76 24) + 3) + (3 * (w1 79 (w1 76 24)))) (w14 76 26)) 79 (w14 76 24) (x24 + 1)) (fun w29 => K (some (.inl 0)) w29)) ∧ (¬ (w14 76 21) = 59 → K (some (.inl 1)) (ck_up (ck_up w14 79 (((w14 76 24) + 3) + (3 * (w1 79 (w1 76 24)))) (w14 76 26)) 79 (w14 76 24) (x24 + 1))))))) ∧ (¬ v15 = 0 → K (some (.inl v15)) w14)))))) ∧ ((w1 79 (w1 76 24)) = 10 → K (some (.inl 4)) w1))) ∧ (v2 = 0 → K (some (.inl 1)) w1))) : ck_Ex (ch_C g A R) (d + 1) mX12_clause [.inr (.inr 76)] w K :=
  ck_entry hC.1 [some (.inr (.inr 76)), none, none, none] (by decide) (Nat.le_of_ble_eq_true rfl) rfl (fun q => q) (ck_in (fun hl => (ck_aload_n 1 rfl 0 dX12_clause_0 rfl rfl (ck_callV 4 rfl [] [] dX12_clause_1 cv_X12_289 sh_76 rfl rfl (Nat.le_of_ble_eq_true rfl) True.intro (ck_mI h (fun v2 w1 q3 h4 => (ck_istore_n 5 rfl 1 [some (.inr (.inr 76)), some (.inl v2), none, none] dX12_clause_4 rfl (Nat.le_of_ble_eq_true rfl) rfl rfl q3 (ck_iload_n 6 rfl 1 dX12_clause_5 rfl rfl (ck_if_ne 9 rfl 11 dX12_clause_6 rfl q3 (fun c38 => (ck_aload_n 12 rfl 0 dX12_clause_11 rfl rfl (ck_getr 15 rfl dX12_clause_12 fl_X12_16 sh_76 rfl (ck_aload_n 16 rfl 0 dX12_clause_15 rfl rfl (ck_geti 19 rfl 24 dX12_clause_16 fl_X12_217 sh_76 rfl rfl _ rfl (fun (q5 : ck_i (w1 76 24)) => (have h41 := (h4.1 c38); have o6 := h41.1; have h40 := h41.2; (ck_iald 20 rfl dX12_clause_19 sh_79 (shn_79 hC) o6 _ rfl (fun (q7 : ck_i (w1 79 (w1 76 24))) => (ck_istore_n 21 rfl 2 [some (.inr (.inr 76)), some (.inl v2), some (.inl (w1 79 (w1 76 24))), none] dX12_clause_20 rfl (Nat.le_of_ble_eq_true rfl) rfl rfl q7 (ck_iload_n 22 rfl 2 dX12_clause_21 rfl rfl (ck_bipush 24 rfl dX12_clause_22 rfl (ck_icmp_ne 27 rfl 29 dX12_clause_24 rfl q7 (show ck_i 10 by decide) (fun c36 => (ck_aload_n 30 rfl 0 dX12_clause_29 rfl rfl (ck_callV 33 rfl [] [] dX12_clause_30 cv_X12_246 sh_76 rfl rfl (Nat.le_of_ble_eq_true rfl) True.intro (ck_mN (h40.1 c36) (fun w8 h35 => (ck_aload_n 34 rfl 0 dX12_clause_33 rfl rfl (ck_getr 37 rfl dX12_clause_34 fl_X12_16 sh_76 rfl (ck_aload_n 38 rfl 0 dX12_clause_37 rfl rfl (ck_geti 41 rfl 24 dX12_clause_38 fl_X12_217 sh_76 rfl rfl _ rfl (fun (q9 : ck_i (w8 76 24)) => (ck_iconst 42 rfl dX12_clause_41 rfl (ck_iadd 43 rfl dX12_clause_42 (ck_iconst 44 rfl dX12_clause_43 rfl (ck_iload_n 45 rfl 2 dX12_clause_44 rfl rfl (ck_imul 46 rfl dX12_clause_45 (ck_iadd 47 rfl dX12_clause_46 (ck_iload_n 48 rfl 1 dX12_clause_47 rfl rfl (have h43 := h35; have o10 := h43.1; have h42 := h43.2; (ck_iast 49 rfl dX12_clause_48 sh_79 (shn_79 hC) o10 q3 (ck_aload_n 50 rfl 0 dX12_clause_49 rfl rfl (ck_getr 53 rfl dX12_clause_50 fl_X12_16 sh_76 rfl (ck_aload_n 54 rfl 0 dX12_clause_53 rfl rfl (ck_geti 57 rfl 24 dX12_clause_54 fl_X12_217 sh_76 rfl rfl _ rfl (fun (q11 : ck_i (w8 76 24)) => (ck_iconst 58 rfl dX12_clause_57 rfl (ck_iadd 59 rfl dX12_clause_58 (ck_iconst 60 rfl dX12_clause_59 rfl (ck_iload_n 61 rfl 2 dX12_clause_60 rfl rfl (ck_imul 62 rfl dX12_clause_61 (ck_iadd 63 rfl dX12_clause_62 (ck_aload_n 64 rfl 0 dX12_clause_63 rfl rfl (ck_geti 67 rfl 26 dX12_clause_64 fl_X12_220 sh_76 rfl rfl _ rfl (fun (q12 : ck_i (w8 76 26)) => (have h45 := h42; have o13 := h45.1; have h44 := h45.2; (ck_iast 68 rfl dX12_clause_67 sh_79 (shn_79 hC) o13 q12 (ck_aload_n 69 rfl 0 dX12_clause_68 rfl rfl (ck_callV 72 rfl [] [] dX12_clause_69 cv_X12_292 sh_76 rfl rfl (Nat.le_of_ble_eq_true rfl) True.intro (ck_mI h44 (fun v15 w14 q16 h17 => (ck_istore_n 73 rfl 3 [some (.inr (.inr 76)), some (.inl v2), some (.inl (w1 79 (w1 76 24))), some (.inl v15)] dX12_clause_72 rfl (Nat.le_of_ble_eq_true rfl) rfl rfl q16 (ck_iload_n 74 rfl 3 dX12_clause_73 rfl rfl (ck_if_eq 77 rfl 79 dX12_clause_74 rfl q16 (fun c33 => (ck_aload_n 80 rfl 0 dX12_clause_79 rfl rfl (ck_getr 83 rfl dX12_clause_80 fl_X12_16 sh_76 rfl (ck_aload_n 84 rfl 0 dX12_clause_83 rfl rfl (ck_geti 87 rfl 24 dX12_clause_84 fl_X12_217 sh_76 rfl rfl _ rfl (fun (q18 : ck_i (w14 76 24)) => (ck_iconst 88 rfl dX12_clause_87 rfl (ck_iadd 89 rfl dX12_clause_88 (ck_iconst 90 rfl dX12_clause_89 rfl (ck_iload_n 91 rfl 2 dX12_clause_90 rfl rfl (ck_imul 92 rfl dX12_clause_91 (ck_iadd 93 rfl dX12_clause_92 (ck_aload_n 94 rfl 0 dX12_clause_93 rfl rfl (ck_geti 97 rfl 26 dX12_clause_94 fl_X12_220 sh_76 rfl rfl _ rfl (fun (q19 : ck_i (w14 76 26)) => (have h47 := (h17.1 c33); have o20 := h47.1; have h46 := h47.2; (ck_iast 98 rfl dX12_clause_97 sh_79 (shn_79 hC) o20 q19 (ck_aload_n 99 rfl 0 dX12_clause_98 rfl rfl (ck_getr 102 rfl dX12_clause_99 fl_X12_16 sh_76 rfl (ck_aload_n 103 rfl 0 dX12_clause_102 rfl rfl (ck_geti 106 rfl 24 dX12_clause_103 fl_X12_217 sh_76 rfl rfl _ rfl (fun (q21 : ck_i (w14 76 24)) => (ck_dup2 107 rfl dX12_clause_106 rfl rfl (have h49 := h46; have o22 := h49.1; have h48 := h49.2; (ck_iald 108 rfl dX12_clause_107 sh_79 (shn_79 hC) o22 _ rfl (fun (q23 : ck_i ((ck_up w14 79 (((w14 76 24) + 3) + (3 * (w1 79 (w1 76 24)))) (w14 76 26)) 79 (w14 76 24))) => ck_nmi (fun x24 e25 => (have q26 : ck_i x24 := (by rw [e25]; exact q23); (ck_iconst 109 rfl dX12_clause_108 rfl (ck_iadd 110 rfl dX12_clause_109 (have h51 := (h48 x24 e25); have o27 := h51.1; have h50 := h51.2; (ck_iast 111 rfl dX12_clause_110 sh_79 (shn_79 hC) o22 o27 (ck_aload_n 112 rfl 0 dX12_clause_111 rfl rfl (ck_geti 115 rfl 21 dX12_clause_112 fl_X12_192 sh_76 rfl rfl _ rfl (fun (q28 : ck_i (w14 76 21)) => (ck_bipush 117 rfl dX12_clause_115 rfl (ck_icmp_eq 120 rfl 122 dX12_clause_117 rfl q28 (show ck_i 59 by decide) (fun c31 => (ck_aload_n 123 rfl 0 dX12_clause_122 rfl rfl (ck_callV 126 rfl [] [] dX12_clause_123 cv_X12_246 sh_76 rfl rfl (Nat.le_of_ble_eq_true rfl) True.intro (ck_mN (h50.1 c31) (fun w29 h30 => (ck_iconst 127 rfl dX12_clause_126 rfl (ck_iret dX12_clause_127 rfl (show ck_i 0 by decide) h30))))))) (fun c32 => (ck_iconst 121 rfl dX12_clause_120 rfl (ck_iret dX12_clause_121 rfl (show ck_i 1 by decide) (h50.2 c32))))))))))))))))))))))))))))))))))))))))) (fun c34 => (ck_iload_n 78 rfl 3 dX12_clause_77 rfl rfl (ck_iret dX12_clause_78 rfl q16 (h17.2 c34)))))))))))))))))))))))))))))))))))))))))))))) (fun c37 => (ck_iconst 28 rfl dX12_clause_27 rfl (ck_iret dX12_clause_28 rfl (show ck_i 4 by decide) (h40.2 c37))))))))))))))))) (fun c39 => (ck_iconst 10 rfl dX12_clause_9 rfl (ck_iret dX12_clause_10 rfl (show ck_i 1 by decide) (h4.2 c39)))))))))))))
theorem S_X12_clause {g : ch_G} {A R : Nat} (hC : ck_Cx g A R) {d : Nat} {K : Option ck_V → ck_W → Prop} {w : ck_W} {T X : Int} (hT : 0 ≤ T ∧ T ≤ 300) (hX : 0 ≤ X ∧ X ≤ 2400) (hx : px T X w) (h : ∀ v w', pt X w w' → (v = 0 → px T X w' ∧ w 76 20 < w' 76 20) → K (some (.inl v)) w') : ck_Ex (ch_C g A R) (d + 8) mX12_clause [.inr (.inr 76)] w K := by
  obtain ⟨h1, h2, h3, h4, h5, h6, h7, h8, h9⟩ := id hx
  have rf : pt X w w := ⟨fun _ _ _ _ => rfl, fun _ _ => rfl, fun _ _ => rfl, id⟩
  have main : ∀ so, (so = 1 ∨ so = 2) → w 76 21 = 2 → ∃ v', some (.inl so : ck_V) = some (.inl v') ∧ (ck_i v' → (¬ v' = 0 → (0 ≤ (w 76 24) ∧ (w 76 24) < 3200) ∧ ((¬ (w 79 (w 76 24)) = 10 → ck_CN (ch_C g A R) (d + 7) mX12_nextToken [.inr (.inr 76)] w (fun w8 => (0 ≤ (((w8 76 24) + 1) + (3 * (w 79 (w 76 24)))) ∧ (((w8 76 24) + 1) + (3 * (w 79 (w 76 24)))) < 3200) ∧ ((0 ≤ (((w8 76 24) + 2) + (3 * (w 79 (w 76 24)))) ∧ (((w8 76 24) + 2) + (3 * (w 79 (w 76 24)))) < 3200) ∧ (ck_CI (ch_C g A R) (d + 7) mX12_either [.inr (.inr 76)] (ck_up (ck_up w8 79 (((w8 76 24) + 1) + (3 * (w 79 (w 76 24)))) v') 79 (((w8 76 24) + 2) + (3 * (w 79 (w 76 24)))) (w8 76 26)) (fun v15 w14 => (v15 = 0 → (0 ≤ (((w14 76 24) + 3) + (3 * (w 79 (w 76 24)))) ∧ (((w14 76 24) + 3) + (3 * (w 79 (w 76 24)))) < 3200) ∧ ((0 ≤ (w14 76 24) ∧ (w14 76 24) < 3200) ∧ (∀ x24, x24 = (ck_up w14 79 (((w14 76 24) + 3) + (3 * (w 79 (w 76 24)))) (w14 76 26)) 79 (w14 76 24) → ck_i (x24 + 1) ∧ (((w14 76 21) = 59 → ck_CN (ch_C g A R) (d + 7) mX12_nextToken [.inr (.inr 76)] (ck_up (ck_up w14 79 (((w14 76 24) + 3) + (3 * (w 79 (w 76 24)))) (w14 76 26)) 79 (w14 76 24) (x24 + 1)) (fun w29 => K (some (.inl 0)) w29)) ∧ (¬ (w14 76 21) = 59 → K (some (.inl 1)) (ck_up (ck_up w14 79 (((w14 76 24) + 3) + (3 * (w 79 (w 76 24)))) (w14 76 26)) 79 (w14 76 24) (x24 + 1))))))) ∧ (¬ v15 = 0 → K (some (.inl v15)) w14)))))) ∧ ((w 79 (w 76 24)) = 10 → K (some (.inl 4)) w))) ∧ (v' = 0 → K (some (.inl 1)) w)) := by
    intro so hso tk
    refine ⟨so, rfl, fun _ => ⟨fun _ => ⟨by omega, fun z => ?_, fun _ => h 4 w rf (fun e => absurd e (by decide))⟩, fun x => by omega⟩⟩
    rw [h4.2] at z ⊢
    have cnt : 0 ≤ w 79 X ∧ w 79 X ≤ 9 := by omega
    -- the first token is used up
    refine S_X12_nextToken hC (by omega) (by omega) h3 (fun w8 i1 i2 i3 i4 => ⟨rfl, ?_⟩)
    have e24 : w8 76 24 = X := by rw [i1.2 24 (by omega)]; exact h4.2
    have e26 : w8 76 26 = w 76 26 := i1.2 26 (by omega)
    have e79 : w8 79 = w 79 := i1.1 79 (by decide)
    dsimp only
    rw [e24]
    refine ⟨by omega, by omega, ?_⟩
    have f76 : (ck_up (ck_up w8 79 (X + 1 + 3 * w 79 X) so) 79 (X + 2 + 3 * w 79 X) (w8 76 26)) 76 = w8 76 := rfl
    have p0 : pt X w (ck_up (ck_up w8 79 (X + 1 + 3 * w 79 X) so) 79 (X + 2 + 3 * w 79 X) (w8 76 26)) := pt_tr (pt_pr (pr_nt i1 i4) (by omega) h5) (pt_tr (pt_79 (by omega)) (pt_79 (by omega)))
    refine S_X12_either hC (T := T) (X := X) (s := w 76 26) hT hX ⟨?_, ?_, ?_, ?_, ?_, ?_, ?_, ?_⟩ (fun v w14 b1 b2 => ⟨_, rfl, fun _ => ⟨fun e => ?_, fun e => h v w14 (pt_tr p0 (pt_pr b1 (by rw [f76, e24]; omega) (by rw [f76, e26]; exact h5))) (fun e' => absurd e' e)⟩⟩)
    · rw [f76, h4.1] at *; omega
    · rw [f76]; exact i3
    · rw [f76]; exact i4
    · rw [f76, i1.2 16 (by omega), e24]; exact ⟨h4.1, rfl⟩
    · rw [f76, e26]; omega
    · rw [f76, e26]; omega
    · rw [f76, i1.2 30 (by omega)]; exact h7
    · rw [f76, e26, show (w 76 26 - w 76 26).toNat = 0 by omega]; rfl
    · obtain ⟨y, yb⟩ := b2 e
      obtain ⟨k1, k2, k3, k4, k5, k6, k7, k8⟩ := id y
      rw [f76] at yb
      rw [k4.2]
      have fr : ∀ j, j < X + 50 + 2 * w 76 26 → w14 79 j = (ck_up (ck_up w8 79 (X + 1 + 3 * w 79 X) so) 79 (X + 2 + 3 * w 79 X) (w8 76 26)) 79 j := fun j hj => b1.2.2.1 j (by rw [f76, e24, e26]; exact hj)
      have x0 : w14 79 X = w 79 X := by rw [fr X (by omega), ck_up_nj (by omega), ck_up_nj (by omega), e79]
      refine ⟨by omega, by omega, fun x24 ex => ?_⟩
      rw [ck_up_nj (by omega), x0] at ex
      subst ex
      have p1 := pt_tr p0 (pt_pr b1 (by rw [f76, e24]; omega) (by rw [f76, e26]; exact h5))
      have p2 : pt X w (ck_up (ck_up w14 79 (X + 3 + 3 * w 79 X) (w14 76 26)) 79 X (w 79 X + 1)) := pt_tr p1 (pt_tr (pt_79 (by omega)) (pt_79 (by omega)))
      refine ⟨by constructor <;> omega, fun t59 => ?_, fun _ => h 1 _ p2 (fun e => absurd e (by decide))⟩
      -- the new row of texts
      have row : ∀ j, (ck_up (ck_up w14 79 (X + 3 + 3 * w 79 X) (w14 76 26)) 79 X (w 79 X + 1)) 79 j = if j = X then w 79 X + 1 else if j = X + 3 + 3 * w 79 X then w14 76 26 else w14 79 j := fun j => by
        rw [ck_up_at]
        by_cases a : j = X
        · rw [if_pos a, if_pos a]
        · rw [if_neg a, if_neg a, ck_up_at]
      refine S_X12_nextToken hC (by show 0 ≤ w14 76 19 ∧ w14 76 19 ≤ w14 76 16; omega) (by show w14 76 16 ≤ 300; omega) k3 (fun w' j1 j2 j3 j4 => ⟨rfl, ?_⟩)
      have g : ∀ j, j < 19 ∨ 24 ≤ j → w' 76 j = w14 76 j := fun j hj => j1.2 j hj
      have j2' : w14 76 19 ≤ w' 76 20 ∧ w' 76 20 ≤ w' 76 19 ∧ w' 76 19 ≤ w14 76 16 := j2
      have g79 : ∀ j, w' 79 j = if j = X then w 79 X + 1 else if j = X + 3 + 3 * w 79 X then w14 76 26 else w14 79 j := fun j => by rw [j1.1 79 (by decide), row j]
      refine h 0 w' (pt_tr p2 (pt_pr (pr_nt j1 j4) (by show X ≤ w14 76 24; omega) (by show 0 ≤ w14 76 26; omega))) (fun _ => ⟨⟨?_, j3, j4, ?_, ?_, ?_, ?_, ?_, fun k k0 k1' => ?_⟩, by omega⟩)
      · rw [k4.1] at j2'; omega
      · rw [g 16 (by omega), g 24 (by omega)]; exact k4
      · rw [g 26 (by omega)]; omega
      · rw [g 26 (by omega)]; omega
      · rw [g 30 (by omega)]; exact k7
      · rw [g79, if_pos rfl]; omega
      · rw [g79, if_pos rfl] at k1'
        rw [g 26 (by omega)]
        by_cases a : k = w 79 X
        · subst a
          have g3 : w' 79 (X + 3 + 3 * w 79 X) = w14 76 26 := by rw [g79, if_neg (by omega), if_pos rfl]
          have g2 : w' 79 (X + 2 + 3 * w 79 X) = w 76 26 := by rw [g79, if_neg (by omega), if_neg (by omega), fr _ (by omega), ck_up_eq, e26]
          refine ⟨⟨by rw [g2]; exact h5, by rw [g2, g3]; exact k5.2, by rw [g3]; omega, ?_⟩, by rw [g3]; omega⟩
          rw [g2, g3, tx_c (t := w14 79) (fun j y z => by rw [g79, if_neg (by omega), if_neg (by omega)])]
          exact k8
        · have o := h9 k k0 (by omega)
          have g3 : w' 79 (X + 3 + 3 * k) = w 79 (X + 3 + 3 * k) := by rw [g79, if_neg (by omega), if_neg (by omega), fr _ (by omega), ck_up_nj (by omega), ck_up_nj (by omega), e79]
          refine ⟨?_, by rw [g3]; omega⟩
          obtain ⟨o1, o2, o3, o4⟩ := o.1
          have g2 : w' 79 (X + 2 + 3 * k) = w 79 (X + 2 + 3 * k) := by rw [g79, if_neg (by omega), if_neg (by omega), fr _ (by omega), ck_up_nj (by omega), ck_up_nj (by omega), e79]
          refine ⟨by rw [g2]; exact o1, by rw [g2, g3]; exact o2, by rw [g3]; exact o3, ?_⟩
          rw [g2, g3, tx_c (t := w 79) (fun j y z => by rw [g79, if_neg (by omega), if_neg (by omega), fr _ (by omega), ck_up_nj (by omega), ck_up_nj (by omega), e79])]
          exact o4
  refine e_X12_clause hC (e_X12_sortOf hC ⟨fun z => main 1 (by omega) z.1, fun _ => ⟨fun z => main 2 (by omega) z.1, fun _ => ⟨0, rfl, fun _ => ⟨fun x => absurd rfl x, fun _ => h 1 w rf (fun e => absurd e (by decide))⟩⟩⟩⟩)
