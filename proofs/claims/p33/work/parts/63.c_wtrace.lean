/-! ===== the class: the best is traced, a slice is settled ===== -/
theorem dX10_bestNext_0 : decode cX10_bestNext 0 = .ok (.aload_n 0, 1) := dk_42 (by decide +kernel)
theorem dX10_bestNext_1 : decode cX10_bestNext 1 = .ok (.getfield 72, 3) := dk_180 0 72 (by decide +kernel)
theorem dX10_bestNext_4 : decode cX10_bestNext 4 = .ok (.iload_n 1, 1) := dk_27 (by decide +kernel)
theorem dX10_bestNext_5 : decode cX10_bestNext 5 = .ok (.aload_n 0, 1) := dk_42 (by decide +kernel)
theorem dX10_bestNext_6 : decode cX10_bestNext 6 = .ok (.getfield 28, 3) := dk_180 0 28 (by decide +kernel)
theorem dX10_bestNext_9 : decode cX10_bestNext 9 = .ok (.getfield 66, 3) := dk_180 0 66 (by decide +kernel)
theorem dX10_bestNext_12 : decode cX10_bestNext 12 = .ok (.imul, 1) := dk_104 (by decide +kernel)
theorem dX10_bestNext_13 : decode cX10_bestNext 13 = .ok (.iload_n 3, 1) := dk_29 (by decide +kernel)
theorem dX10_bestNext_14 : decode cX10_bestNext 14 = .ok (.iadd, 1) := dk_96 (by decide +kernel)
theorem dX10_bestNext_15 : decode cX10_bestNext 15 = .ok (.aload_n 0, 1) := dk_42 (by decide +kernel)
theorem dX10_bestNext_16 : decode cX10_bestNext 16 = .ok (.getfield 48, 3) := dk_180 0 48 (by decide +kernel)
theorem dX10_bestNext_19 : decode cX10_bestNext 19 = .ok (.imul, 1) := dk_104 (by decide +kernel)
theorem dX10_bestNext_20 : decode cX10_bestNext 20 = .ok (.iload 4, 2) := dk_21 (by decide +kernel)
theorem dX10_bestNext_22 : decode cX10_bestNext 22 = .ok (.iadd, 1) := dk_96 (by decide +kernel)
theorem dX10_bestNext_23 : decode cX10_bestNext 23 = .ok (.iaload, 1) := dk_46 (by decide +kernel)
theorem dX10_bestNext_24 : decode cX10_bestNext 24 = .ok (.bipush 20, 2) := dk_16 20 (by decide +kernel)
theorem dX10_bestNext_26 : decode cX10_bestNext 26 = .ok (.ishr, 1) := dk_122 (by decide +kernel)
theorem dX10_bestNext_27 : decode cX10_bestNext 27 = .ok (.istore 6, 2) := dk_54 (by decide +kernel)
theorem dX10_bestNext_29 : decode cX10_bestNext 29 = .ok (.aload_n 0, 1) := dk_42 (by decide +kernel)
theorem dX10_bestNext_30 : decode cX10_bestNext 30 = .ok (.iload_n 1, 1) := dk_27 (by decide +kernel)
theorem dX10_bestNext_31 : decode cX10_bestNext 31 = .ok (.iload_n 3, 1) := dk_29 (by decide +kernel)
theorem dX10_bestNext_32 : decode cX10_bestNext 32 = .ok (.iload 4, 2) := dk_21 (by decide +kernel)
theorem dX10_bestNext_34 : decode cX10_bestNext 34 = .ok (.invokevirtual 147, 3) := dk_182 0 147 (by decide +kernel)
theorem dX10_bestNext_37 : decode cX10_bestNext 37 = .ok (.istore 7, 2) := dk_54 (by decide +kernel)
theorem dX10_bestNext_39 : decode cX10_bestNext 39 = .ok (.iload_n 3, 1) := dk_29 (by decide +kernel)
theorem dX10_bestNext_40 : decode cX10_bestNext 40 = .ok (.aload_n 0, 1) := dk_42 (by decide +kernel)
theorem dX10_bestNext_41 : decode cX10_bestNext 41 = .ok (.getfield 60, 3) := dk_180 0 60 (by decide +kernel)
theorem dX10_bestNext_44 : decode cX10_bestNext 44 = .ok (.iload 4, 2) := dk_21 (by decide +kernel)
theorem dX10_bestNext_46 : decode cX10_bestNext 46 = .ok (.iaload, 1) := dk_46 (by decide +kernel)
theorem dX10_bestNext_47 : decode cX10_bestNext 47 = .ok (.iadd, 1) := dk_96 (by decide +kernel)
theorem dX10_bestNext_48 : decode cX10_bestNext 48 = .ok (.istore 8, 2) := dk_54 (by decide +kernel)
theorem dX10_bestNext_50 : decode cX10_bestNext 50 = .ok (.aload_n 0, 1) := dk_42 (by decide +kernel)
theorem dX10_bestNext_51 : decode cX10_bestNext 51 = .ok (.iload 4, 2) := dk_21 (by decide +kernel)
theorem dX10_bestNext_53 : decode cX10_bestNext 53 = .ok (.invokevirtual 150, 3) := dk_182 0 150 (by decide +kernel)
theorem dX10_bestNext_56 : decode cX10_bestNext 56 = .ok (.istore 9, 2) := dk_54 (by decide +kernel)
theorem dX10_bestNext_58 : decode cX10_bestNext 58 = .ok (.iload 9, 2) := dk_21 (by decide +kernel)
theorem dX10_bestNext_60 : decode cX10_bestNext 60 = .ok (.istore 10, 2) := dk_54 (by decide +kernel)
theorem dX10_bestNext_62 : decode cX10_bestNext 62 = .ok (.iload 10, 2) := dk_21 (by decide +kernel)
theorem dX10_bestNext_64 : decode cX10_bestNext 64 = .ok (.iconst 3, 1) := dk_6 (by decide +kernel)
theorem dX10_bestNext_65 : decode cX10_bestNext 65 = .ok (.if_icmp .ge 76, 3) := dk_162 0 76 (by decide +kernel)
theorem dX10_bestNext_68 : decode cX10_bestNext 68 = .ok (.iload 7, 2) := dk_21 (by decide +kernel)
theorem dX10_bestNext_70 : decode cX10_bestNext 70 = .ok (.iconst (-1), 1) := dk_2 (by decide +kernel)
theorem dX10_bestNext_71 : decode cX10_bestNext 71 = .ok (.if_icmp .eq 70, 3) := dk_159 0 70 (by decide +kernel)
theorem dX10_bestNext_74 : decode cX10_bestNext 74 = .ok (.iload 5, 2) := dk_21 (by decide +kernel)
theorem dX10_bestNext_76 : decode cX10_bestNext 76 = .ok (.ifCond .eq 13, 3) := dk_153 0 13 (by decide +kernel)
theorem dX10_bestNext_79 : decode cX10_bestNext 79 = .ok (.iconst 2, 1) := dk_5 (by decide +kernel)
theorem dX10_bestNext_80 : decode cX10_bestNext 80 = .ok (.iload 9, 2) := dk_21 (by decide +kernel)
theorem dX10_bestNext_82 : decode cX10_bestNext 82 = .ok (.iadd, 1) := dk_96 (by decide +kernel)
theorem dX10_bestNext_83 : decode cX10_bestNext 83 = .ok (.iload 10, 2) := dk_21 (by decide +kernel)
theorem dX10_bestNext_85 : decode cX10_bestNext 85 = .ok (.isub, 1) := dk_100 (by decide +kernel)
theorem dX10_bestNext_86 : decode cX10_bestNext 86 = .ok (.goto 5, 3) := dk_167 0 5 (by decide +kernel)
theorem dX10_bestNext_89 : decode cX10_bestNext 89 = .ok (.iload 10, 2) := dk_21 (by decide +kernel)
theorem dX10_bestNext_91 : decode cX10_bestNext 91 = .ok (.istore 11, 2) := dk_54 (by decide +kernel)
theorem dX10_bestNext_93 : decode cX10_bestNext 93 = .ok (.aload_n 0, 1) := dk_42 (by decide +kernel)
theorem dX10_bestNext_94 : decode cX10_bestNext 94 = .ok (.iload 7, 2) := dk_21 (by decide +kernel)
theorem dX10_bestNext_96 : decode cX10_bestNext 96 = .ok (.iload 11, 2) := dk_21 (by decide +kernel)
theorem dX10_bestNext_98 : decode cX10_bestNext 98 = .ok (.iadd, 1) := dk_96 (by decide +kernel)
theorem dX10_bestNext_99 : decode cX10_bestNext 99 = .ok (.iload_n 2, 1) := dk_28 (by decide +kernel)
theorem dX10_bestNext_100 : decode cX10_bestNext 100 = .ok (.iload 8, 2) := dk_21 (by decide +kernel)
theorem dX10_bestNext_102 : decode cX10_bestNext 102 = .ok (.iload 11, 2) := dk_21 (by decide +kernel)
theorem dX10_bestNext_104 : decode cX10_bestNext 104 = .ok (.iadd, 1) := dk_96 (by decide +kernel)
theorem dX10_bestNext_105 : decode cX10_bestNext 105 = .ok (.iconst 1, 1) := dk_4 (by decide +kernel)
theorem dX10_bestNext_106 : decode cX10_bestNext 106 = .ok (.isub, 1) := dk_100 (by decide +kernel)
theorem dX10_bestNext_107 : decode cX10_bestNext 107 = .ok (.invokevirtual 153, 3) := dk_182 0 153 (by decide +kernel)
theorem dX10_bestNext_110 : decode cX10_bestNext 110 = .ok (.istore 12, 2) := dk_54 (by decide +kernel)
theorem dX10_bestNext_112 : decode cX10_bestNext 112 = .ok (.iload 12, 2) := dk_21 (by decide +kernel)
theorem dX10_bestNext_114 : decode cX10_bestNext 114 = .ok (.ifCond .eq 21, 3) := dk_153 0 21 (by decide +kernel)
theorem dX10_bestNext_117 : decode cX10_bestNext 117 = .ok (.iload 12, 2) := dk_21 (by decide +kernel)
theorem dX10_bestNext_119 : decode cX10_bestNext 119 = .ok (.bipush 20, 2) := dk_16 20 (by decide +kernel)
theorem dX10_bestNext_121 : decode cX10_bestNext 121 = .ok (.ishr, 1) := dk_122 (by decide +kernel)
theorem dX10_bestNext_122 : decode cX10_bestNext 122 = .ok (.iload 6, 2) := dk_21 (by decide +kernel)
theorem dX10_bestNext_124 : decode cX10_bestNext 124 = .ok (.if_icmp .ne 11, 3) := dk_160 0 11 (by decide +kernel)
theorem dX10_bestNext_127 : decode cX10_bestNext 127 = .ok (.iload 8, 2) := dk_21 (by decide +kernel)
theorem dX10_bestNext_129 : decode cX10_bestNext 129 = .ok (.iload 11, 2) := dk_21 (by decide +kernel)
theorem dX10_bestNext_131 : decode cX10_bestNext 131 = .ok (.iadd, 1) := dk_96 (by decide +kernel)
theorem dX10_bestNext_132 : decode cX10_bestNext 132 = .ok (.iconst 1, 1) := dk_4 (by decide +kernel)
theorem dX10_bestNext_133 : decode cX10_bestNext 133 = .ok (.isub, 1) := dk_100 (by decide +kernel)
theorem dX10_bestNext_134 : decode cX10_bestNext 134 = .ok (.ireturn, 1) := dk_172 (by decide +kernel)
theorem dX10_bestNext_135 : decode cX10_bestNext 135 = .ok (.iinc 10 1, 3) := dk_132 1 (by decide +kernel)
theorem dX10_bestNext_138 : decode cX10_bestNext 138 = .ok (.goto (-76), 3) := dk_167 255 180 (by decide +kernel)
theorem dX10_bestNext_141 : decode cX10_bestNext 141 = .ok (.iload 8, 2) := dk_21 (by decide +kernel)
theorem dX10_bestNext_143 : decode cX10_bestNext 143 = .ok (.ireturn, 1) := dk_172 (by decide +kernel)
set_option maxRecDepth 8000 in
theorem e_X10_bestNext {g : ch_G} {A R : Nat} (hC : ck_Cx g A R) {d : Nat} {K : Option ck_V → ck_W → Prop} {w : ck_W} {a1 a2 a3 a4 a5 : Int} (h : (0 ≤ ((((a1 * (w 3 1)) + a3) * (w 51 1)) + a4) ∧ ((((a1 * (w 3 1)) + a3) * (w 51 1)) + a4) < (((3 * A + 1) * R * 3 ^ (A - 1) : Nat) : Int)) ∧ (∀ x5, x5 = ck_shr (w 57 ((((a1 * (w 3 1)) + a3) * (w 51 1)) + a4)) 20 → ck_CI (ch_C g A R) d mX10_windowBehind [.inr (.inr 51), .inl a1, .inl a3, .inl a4] w (fun v8 w7 => (0 ≤ a4 ∧ a4 < ((3 ^ (A - 1) : Nat) : Int)) ∧ (ck_i (a3 + (w7 53 a4)) ∧ (ck_CI (ch_C g A R) d mX10_leastChange [.inr (.inr 51), .inl a4] w7 (fun v15 w14 => ck_At (ch_C g A R) (d + 1) mX10_bestNext K 62 [some (.inr (.inr 51)), none, some (.inl a2), none, none, some (.inl a5), some (.inl x5), some (.inl v8), some (.inl (a3 + (w7 53 a4))), some (.inl v15), some (.inl v15), none, none] [] w14)))))) : ck_Ex (ch_C g A R) (d + 1) mX10_bestNext [.inr (.inr 51), .inl a1, .inl a2, .inl a3, .inl a4, .inl a5] w K :=
  ck_entry hC.1 [some (.inr (.inr 51)), some (.inl a1), some (.inl a2), some (.inl a3), some (.inl a4), some (.inl a5), none, none, none, none, none, none, none] (by decide) (Nat.le_of_ble_eq_true rfl) rfl (fun q => q) (ck_in (fun hl => (ck_aload_n 1 rfl 0 dX10_bestNext_0 rfl rfl (ck_getr 4 rfl dX10_bestNext_1 fl_X10_72 sh_51 rfl (ck_iload_n 5 rfl 1 dX10_bestNext_4 rfl rfl (ck_aload_n 6 rfl 0 dX10_bestNext_5 rfl rfl (ck_getr 9 rfl dX10_bestNext_6 fl_X10_28 sh_51 rfl (ck_geti 12 rfl 1 dX10_bestNext_9 fl_X10_66 sh_3 rfl rfl _ rfl (fun (q1 : ck_i (w 3 1)) => (ck_imul 13 rfl dX10_bestNext_12 (ck_iload_n 14 rfl 3 dX10_bestNext_13 rfl rfl (ck_iadd 15 rfl dX10_bestNext_14 (ck_aload_n 16 rfl 0 dX10_bestNext_15 rfl rfl (ck_geti 19 rfl 1 dX10_bestNext_16 fl_X10_48 sh_51 rfl rfl _ rfl (fun (q2 : ck_i (w 51 1)) => (ck_imul 20 rfl dX10_bestNext_19 (ck_iload 22 rfl dX10_bestNext_20 rfl (ck_iadd 23 rfl dX10_bestNext_22 (have h19 := h; have o3 := h19.1; have h18 := h19.2; (ck_iald 24 rfl dX10_bestNext_23 sh_57 (shn_57 hC) o3 _ rfl (fun (q4 : ck_i (w 57 ((((a1 * (w 3 1)) + a3) * (w 51 1)) + a4))) => (ck_bipush 26 rfl dX10_bestNext_24 rfl (ck_ishr 27 rfl dX10_bestNext_26 (ck_nmi (fun x5 e6 => (ck_istore 29 rfl [some (.inr (.inr 51)), some (.inl a1), some (.inl a2), some (.inl a3), some (.inl a4), some (.inl a5), some (.inl x5), none, none, none, none, none, none] dX10_bestNext_27 (Nat.le_of_ble_eq_true rfl) rfl rfl (by rw [e6]; exact (ck_rng _)) (ck_aload_n 30 rfl 0 dX10_bestNext_29 rfl rfl (ck_iload_n 31 rfl 1 dX10_bestNext_30 rfl rfl (ck_iload_n 32 rfl 3 dX10_bestNext_31 rfl rfl (ck_iload 34 rfl dX10_bestNext_32 rfl (ck_callV 37 rfl [.inl a1, .inl a3, .inl a4] [] dX10_bestNext_34 cv_X10_147 sh_51 rfl rfl (Nat.le_of_ble_eq_true rfl) (And.intro hl.2.1 (And.intro hl.2.2.2.1 (And.intro hl.2.2.2.2.1 True.intro))) (ck_mI (h18 x5 e6) (fun v8 w7 q9 h10 => (ck_istore 39 rfl [some (.inr (.inr 51)), some (.inl a1), some (.inl a2), some (.inl a3), some (.inl a4), some (.inl a5), some (.inl x5), some (.inl v8), none, none, none, none, none] dX10_bestNext_37 (Nat.le_of_ble_eq_true rfl) rfl rfl q9 (ck_iload_n 40 rfl 3 dX10_bestNext_39 rfl rfl (ck_aload_n 41 rfl 0 dX10_bestNext_40 rfl rfl (ck_getr 44 rfl dX10_bestNext_41 fl_X10_60 sh_51 rfl (ck_iload 46 rfl dX10_bestNext_44 rfl (have h21 := h10; have o11 := h21.1; have h20 := h21.2; (ck_iald 47 rfl dX10_bestNext_46 sh_53 (shn_53 hC) o11 _ rfl (fun (q12 : ck_i (w7 53 a4)) => (ck_iadd 48 rfl dX10_bestNext_47 (have h23 := h20; have o13 := h23.1; have h22 := h23.2; (ck_istore 50 rfl [some (.inr (.inr 51)), some (.inl a1), some (.inl a2), some (.inl a3), some (.inl a4), some (.inl a5), some (.inl x5), some (.inl v8), some (.inl (a3 + (w7 53 a4))), none, none, none, none] dX10_bestNext_48 (Nat.le_of_ble_eq_true rfl) rfl rfl o13 (ck_aload_n 51 rfl 0 dX10_bestNext_50 rfl rfl (ck_iload 53 rfl dX10_bestNext_51 rfl (ck_callV 56 rfl [.inl a4] [] dX10_bestNext_53 cv_X10_150 sh_51 rfl rfl (Nat.le_of_ble_eq_true rfl) (And.intro hl.2.2.2.2.1 True.intro) (ck_mI h22 (fun v15 w14 q16 h17 => (ck_istore 58 rfl [some (.inr (.inr 51)), some (.inl a1), some (.inl a2), some (.inl a3), some (.inl a4), some (.inl a5), some (.inl x5), some (.inl v8), some (.inl (a3 + (w7 53 a4))), some (.inl v15), none, none, none] dX10_bestNext_56 (Nat.le_of_ble_eq_true rfl) rfl rfl q16 (ck_iload 60 rfl dX10_bestNext_58 rfl (ck_istore 62 rfl [some (.inr (.inr 51)), some (.inl a1), some (.inl a2), some (.inl a3), some (.inl a4), some (.inl a5), some (.inl x5), some (.inl v8), some (.inl (a3 + (w7 53 a4))), some (.inl v15), some (.inl v15), none, none] dX10_bestNext_60 (Nat.le_of_ble_eq_true rfl) rfl rfl q16 (ck_drop [some (.inr (.inr 51)), none, some (.inl a2), none, none, some (.inl a5), some (.inl x5), some (.inl v8), some (.inl (a3 + (w7 53 a4))), some (.inl v15), some (.inl v15), none, none] (And.intro rfl (And.intro rfl (And.intro rfl (And.intro rfl (And.intro rfl (And.intro rfl (And.intro rfl (And.intro rfl True.intro)))))))) h17)))))))))))))))))))))))))))))))))))))))))))))))))))))
set_option maxRecDepth 8000 in
theorem r_X10_bestNext_62 {g : ch_G} {A R : Nat} (hC : ck_Cx g A R) {d : Nat} {K : Option ck_V → ck_W → Prop} {w : ck_W} {a2 a5 a6 a7 a8 a9 a10 : Int} (h : (3 ≤ a10 → K (some (.inl a8)) w) ∧ (¬ 3 ≤ a10 → (a7 = (-1) → K (some (.inl a8)) w) ∧ (¬ a7 = (-1) → (a5 = 0 → ck_i (a7 + a10) ∧ (ck_i ((a8 + a10) - 1) ∧ (ck_CI (ch_C g A R) d mX10_onward [.inr (.inr 51), .inl (a7 + a10), .inl a2, .inl ((a8 + a10) - 1)] w (fun v4 w3 => (v4 = 0 → ck_i (a10 + 1) ∧ (ck_At (ch_C g A R) (d + 1) mX10_bestNext K 62 [some (.inr (.inr 51)), none, some (.inl a2), none, none, some (.inl a5), some (.inl a6), some (.inl a7), some (.inl a8), some (.inl a9), some (.inl (a10 + 1)), none, none] [] w3)) ∧ (¬ v4 = 0 → (¬ (ck_shr v4 20) = a6 → ck_i (a10 + 1) ∧ (ck_At (ch_C g A R) (d + 1) mX10_bestNext K 62 [some (.inr (.inr 51)), none, some (.inl a2), none, none, some (.inl a5), some (.inl a6), some (.inl a7), some (.inl a8), some (.inl a9), some (.inl (a10 + 1)), none, none] [] w3)) ∧ ((ck_shr v4 20) = a6 → K (some (.inl ((a8 + a10) - 1))) w3)))))) ∧ (¬ a5 = 0 → ck_i ((2 + a9) - a10) ∧ (ck_i (a7 + ((2 + a9) - a10)) ∧ (ck_i ((a8 + ((2 + a9) - a10)) - 1) ∧ (ck_CI (ch_C g A R) d mX10_onward [.inr (.inr 51), .inl (a7 + ((2 + a9) - a10)), .inl a2, .inl ((a8 + ((2 + a9) - a10)) - 1)] w (fun v17 w16 => (v17 = 0 → ck_i (a10 + 1) ∧ (ck_At (ch_C g A R) (d + 1) mX10_bestNext K 62 [some (.inr (.inr 51)), none, some (.inl a2), none, none, some (.inl a5), some (.inl a6), some (.inl a7), some (.inl a8), some (.inl a9), some (.inl (a10 + 1)), none, none] [] w16)) ∧ (¬ v17 = 0 → (¬ (ck_shr v17 20) = a6 → ck_i (a10 + 1) ∧ (ck_At (ch_C g A R) (d + 1) mX10_bestNext K 62 [some (.inr (.inr 51)), none, some (.inl a2), none, none, some (.inl a5), some (.inl a6), some (.inl a7), some (.inl a8), some (.inl a9), some (.inl (a10 + 1)), none, none] [] w16)) ∧ ((ck_shr v17 20) = a6 → K (some (.inl ((a8 + ((2 + a9) - a10)) - 1))) w16)))))))))) : ck_At (ch_C g A R) (d + 1) mX10_bestNext K 62 [some (.inr (.inr 51)), none, some (.inl a2), none, none, some (.inl a5), some (.inl a6), some (.inl a7), some (.inl a8), some (.inl a9), some (.inl a10), none, none] [] w :=
  ck_in (fun hl => (ck_iload 64 rfl dX10_bestNext_62 rfl (ck_iconst 65 rfl dX10_bestNext_64 rfl (ck_icmp_ge 68 rfl 141 dX10_bestNext_65 rfl hl.2.2.2.2.2.2.2.1 (show ck_i 3 by decide) (fun c30 => (ck_iload 143 rfl dX10_bestNext_141 rfl (ck_iret dX10_bestNext_143 rfl hl.2.2.2.2.2.1 (h.1 c30)))) (fun c31 => (ck_iload 70 rfl dX10_bestNext_68 rfl (ck_iconst 71 rfl dX10_bestNext_70 rfl (have h32 := (h.2 c31); (ck_icmp_eq 74 rfl 141 dX10_bestNext_71 rfl hl.2.2.2.2.1 (show ck_i (-1) by decide) (fun c28 => (ck_iload 143 rfl dX10_bestNext_141 rfl (ck_iret dX10_bestNext_143 rfl hl.2.2.2.2.2.1 (h32.1 c28)))) (fun c29 => (ck_iload 76 rfl dX10_bestNext_74 rfl (have h33 := (h32.2 c29); (ck_if_eq 79 rfl 89 dX10_bestNext_76 rfl hl.2.2.1 (fun c26 => (ck_iload 91 rfl dX10_bestNext_89 rfl (ck_istore 93 rfl [some (.inr (.inr 51)), none, some (.inl a2), none, none, some (.inl a5), some (.inl a6), some (.inl a7), some (.inl a8), some (.inl a9), some (.inl a10), some (.inl a10), none] dX10_bestNext_91 (Nat.le_of_ble_eq_true rfl) rfl rfl hl.2.2.2.2.2.2.2.1 (ck_aload_n 94 rfl 0 dX10_bestNext_93 rfl rfl (ck_iload 96 rfl dX10_bestNext_94 rfl (ck_iload 98 rfl dX10_bestNext_96 rfl (ck_iadd 99 rfl dX10_bestNext_98 (ck_iload_n 100 rfl 2 dX10_bestNext_99 rfl rfl (ck_iload 102 rfl dX10_bestNext_100 rfl (ck_iload 104 rfl dX10_bestNext_102 rfl (ck_iadd 105 rfl dX10_bestNext_104 (ck_iconst 106 rfl dX10_bestNext_105 rfl (ck_isub 107 rfl dX10_bestNext_106 (have h35 := (h33.1 c26); have o1 := h35.1; have h34 := h35.2; (have h37 := h34; have o2 := h37.1; have h36 := h37.2; (ck_callV 110 rfl [.inl (a7 + a10), .inl a2, .inl ((a8 + a10) - 1)] [] dX10_bestNext_107 cv_X10_153 sh_51 rfl rfl (Nat.le_of_ble_eq_true rfl) (And.intro o1 (And.intro hl.2.1 (And.intro o2 True.intro))) (ck_mI h36 (fun v4 w3 q5 h6 => (ck_istore 112 rfl [some (.inr (.inr 51)), none, some (.inl a2), none, none, some (.inl a5), some (.inl a6), some (.inl a7), some (.inl a8), some (.inl a9), some (.inl a10), some (.inl a10), some (.inl v4)] dX10_bestNext_110 (Nat.le_of_ble_eq_true rfl) rfl rfl q5 (ck_iload 114 rfl dX10_bestNext_112 rfl (ck_if_eq 117 rfl 135 dX10_bestNext_114 rfl q5 (fun c11 => (have h39 := (h6.1 c11); have o7 := h39.1; have h38 := h39.2; (ck_iinc 138 rfl [some (.inr (.inr 51)), none, some (.inl a2), none, none, some (.inl a5), some (.inl a6), some (.inl a7), some (.inl a8), some (.inl a9), some (.inl (a10 + 1)), some (.inl a10), some (.inl v4)] dX10_bestNext_135 rfl (Nat.le_of_ble_eq_true rfl) rfl rfl o7 (ck_goto 62 dX10_bestNext_138 rfl (ck_drop [some (.inr (.inr 51)), none, some (.inl a2), none, none, some (.inl a5), some (.inl a6), some (.inl a7), some (.inl a8), some (.inl a9), some (.inl (a10 + 1)), none, none] (And.intro rfl (And.intro rfl (And.intro rfl (And.intro rfl (And.intro rfl (And.intro rfl (And.intro rfl (And.intro rfl True.intro)))))))) h38))))) (fun c12 => (ck_iload 119 rfl dX10_bestNext_117 rfl (ck_bipush 121 rfl dX10_bestNext_119 rfl (ck_ishr 122 rfl dX10_bestNext_121 (ck_iload 124 rfl dX10_bestNext_122 rfl (have h40 := (h6.2 c12); (ck_icmp_ne 127 rfl 135 dX10_bestNext_124 rfl (ck_rng _) hl.2.2.2.1 (fun c9 => (have h42 := (h40.1 c9); have o8 := h42.1; have h41 := h42.2; (ck_iinc 138 rfl [some (.inr (.inr 51)), none, some (.inl a2), none, none, some (.inl a5), some (.inl a6), some (.inl a7), some (.inl a8), some (.inl a9), some (.inl (a10 + 1)), some (.inl a10), some (.inl v4)] dX10_bestNext_135 rfl (Nat.le_of_ble_eq_true rfl) rfl rfl o8 (ck_goto 62 dX10_bestNext_138 rfl (ck_drop [some (.inr (.inr 51)), none, some (.inl a2), none, none, some (.inl a5), some (.inl a6), some (.inl a7), some (.inl a8), some (.inl a9), some (.inl (a10 + 1)), none, none] (And.intro rfl (And.intro rfl (And.intro rfl (And.intro rfl (And.intro rfl (And.intro rfl (And.intro rfl (And.intro rfl True.intro)))))))) h41))))) (fun c10 => (ck_iload 129 rfl dX10_bestNext_127 rfl (ck_iload 131 rfl dX10_bestNext_129 rfl (ck_iadd 132 rfl dX10_bestNext_131 (ck_iconst 133 rfl dX10_bestNext_132 rfl (ck_isub 134 rfl dX10_bestNext_133 (ck_iret dX10_bestNext_134 rfl o2 (h40.2 c10)))))))))))))))))))))))))))))))))))) (fun c27 => (ck_iconst 80 rfl dX10_bestNext_79 rfl (ck_iload 82 rfl dX10_bestNext_80 rfl (ck_iadd 83 rfl dX10_bestNext_82 (ck_iload 85 rfl dX10_bestNext_83 rfl (ck_isub 86 rfl dX10_bestNext_85 (ck_goto 91 dX10_bestNext_86 rfl (have h44 := (h33.2 c27); have o13 := h44.1; have h43 := h44.2; (ck_istore 93 rfl [some (.inr (.inr 51)), none, some (.inl a2), none, none, some (.inl a5), some (.inl a6), some (.inl a7), some (.inl a8), some (.inl a9), some (.inl a10), some (.inl ((2 + a9) - a10)), none] dX10_bestNext_91 (Nat.le_of_ble_eq_true rfl) rfl rfl o13 (ck_aload_n 94 rfl 0 dX10_bestNext_93 rfl rfl (ck_iload 96 rfl dX10_bestNext_94 rfl (ck_iload 98 rfl dX10_bestNext_96 rfl (ck_iadd 99 rfl dX10_bestNext_98 (ck_iload_n 100 rfl 2 dX10_bestNext_99 rfl rfl (ck_iload 102 rfl dX10_bestNext_100 rfl (ck_iload 104 rfl dX10_bestNext_102 rfl (ck_iadd 105 rfl dX10_bestNext_104 (ck_iconst 106 rfl dX10_bestNext_105 rfl (ck_isub 107 rfl dX10_bestNext_106 (have h46 := h43; have o14 := h46.1; have h45 := h46.2; (have h48 := h45; have o15 := h48.1; have h47 := h48.2; (ck_callV 110 rfl [.inl (a7 + ((2 + a9) - a10)), .inl a2, .inl ((a8 + ((2 + a9) - a10)) - 1)] [] dX10_bestNext_107 cv_X10_153 sh_51 rfl rfl (Nat.le_of_ble_eq_true rfl) (And.intro o14 (And.intro hl.2.1 (And.intro o15 True.intro))) (ck_mI h47 (fun v17 w16 q18 h19 => (ck_istore 112 rfl [some (.inr (.inr 51)), none, some (.inl a2), none, none, some (.inl a5), some (.inl a6), some (.inl a7), some (.inl a8), some (.inl a9), some (.inl a10), some (.inl ((2 + a9) - a10)), some (.inl v17)] dX10_bestNext_110 (Nat.le_of_ble_eq_true rfl) rfl rfl q18 (ck_iload 114 rfl dX10_bestNext_112 rfl (ck_if_eq 117 rfl 135 dX10_bestNext_114 rfl q18 (fun c24 => (have h50 := (h19.1 c24); have o20 := h50.1; have h49 := h50.2; (ck_iinc 138 rfl [some (.inr (.inr 51)), none, some (.inl a2), none, none, some (.inl a5), some (.inl a6), some (.inl a7), some (.inl a8), some (.inl a9), some (.inl (a10 + 1)), some (.inl ((2 + a9) - a10)), some (.inl v17)] dX10_bestNext_135 rfl (Nat.le_of_ble_eq_true rfl) rfl rfl o20 (ck_goto 62 dX10_bestNext_138 rfl (ck_drop [some (.inr (.inr 51)), none, some (.inl a2), none, none, some (.inl a5), some (.inl a6), some (.inl a7), some (.inl a8), some (.inl a9), some (.inl (a10 + 1)), none, none] (And.intro rfl (And.intro rfl (And.intro rfl (And.intro rfl (And.intro rfl (And.intro rfl (And.intro rfl (And.intro rfl True.intro)))))))) h49))))) (fun c25 => (ck_iload 119 rfl dX10_bestNext_117 rfl (ck_bipush 121 rfl dX10_bestNext_119 rfl (ck_ishr 122 rfl dX10_bestNext_121 (ck_iload 124 rfl dX10_bestNext_122 rfl (have h51 := (h19.2 c25); (ck_icmp_ne 127 rfl 135 dX10_bestNext_124 rfl (ck_rng _) hl.2.2.2.1 (fun c22 => (have h53 := (h51.1 c22); have o21 := h53.1; have h52 := h53.2; (ck_iinc 138 rfl [some (.inr (.inr 51)), none, some (.inl a2), none, none, some (.inl a5), some (.inl a6), some (.inl a7), some (.inl a8), some (.inl a9), some (.inl (a10 + 1)), some (.inl ((2 + a9) - a10)), some (.inl v17)] dX10_bestNext_135 rfl (Nat.le_of_ble_eq_true rfl) rfl rfl o21 (ck_goto 62 dX10_bestNext_138 rfl (ck_drop [some (.inr (.inr 51)), none, some (.inl a2), none, none, some (.inl a5), some (.inl a6), some (.inl a7), some (.inl a8), some (.inl a9), some (.inl (a10 + 1)), none, none] (And.intro rfl (And.intro rfl (And.intro rfl (And.intro rfl (And.intro rfl (And.intro rfl (And.intro rfl (And.intro rfl True.intro)))))))) h52))))) (fun c23 => (ck_iload 129 rfl dX10_bestNext_127 rfl (ck_iload 131 rfl dX10_bestNext_129 rfl (ck_iadd 132 rfl dX10_bestNext_131 (ck_iconst 133 rfl dX10_bestNext_132 rfl (ck_isub 134 rfl dX10_bestNext_133 (ck_iret dX10_bestNext_134 rfl o15 (h51.2 c23)))))))))))))))))))))))))))))))))))))))))))))))))))))))
theorem S_X10_bestNext {g : ch_G} {A R : Nat} (hC : ck_Cx g A R) {d : Nat} {K : Option ck_V → ck_W → Prop} {w : ck_W} {a2 a3 a4 a5 k : Int} {G : Int → Int → Int} (l : Nat) (fa : Bool) (hf : a5 = if fa then 1 else 0) (hD : cs_D A R w) (hW : cw_tab A w) (hG : cw_Gv R G) (hk : 1 ≤ k ∧ k ≤ 4) (hg : cw_gn R (k * (A : Int)) G w) (hl : ((l + 1 : Nat) : Int) ≤ k * (A : Int) - (A : Int)) (h2 : a2 = k * (A : Int) - (l + 1)) (h3 : cw_lo A k ((l + 1 : Nat) : Int) ≤ a3 ∧ a3 ≤ (R : Int) - k + cw_lo A k ((l + 1 : Nat) : Int)) (h4 : 0 ≤ a4 ∧ a4 < cw_N A) (hb : w 51 10 = cw_lo A k l ∧ w 51 11 = (R : Int) - k + cw_lo A k l) (hr : cw_row A R k G w l) (hr1 : cw_row A R k G w (l + 1)) (hne : cw_A A R k G (l + 1) a3 a4 ≠ 0) (h : K (some (.inl (a3 + cw_sh A a4 (A - 1) + cw_ch A R k G fa l a3 a4 - 1))) w) : ck_Ex (ch_C g A R) (d + 2) mX10_bestNext [.inr (.inr 51), .inl ((l + 1 : Nat) : Int), .inl a2, .inl a3, .inl a4, .inl a5] w K := by
  have n := cw_NA hC
  have c := cs_ar hC
  have kk := cw_cks n.1 h4
  have k5 := kk.1 (A - 1) (by omega)
  have kA : k * (A : Int) ≤ 4 * (A : Int) := Int.mul_le_mul_of_nonneg_right hk.2 (by omega)
  have lb := cw_lob (A := A) (K := k) (l := (l : Int)) (by omega) (by omega) (by omega)
  have lb1 := cw_lob (A := A) (K := k) (l := ((l + 1 : Nat) : Int)) (by omega) (by omega) hl
  have t := (hW.2.1 a4 h4.1 h4.2).2.1
  have ci := (cw_ch_in hG (fa := fa) (by omega) (by omega) hne).1
  have lc0 : 0 ≤ cw_lc A a4 := by unfold cw_lc; omega
  have ix := cw_ixb hC (l := ((l + 1 : Nat) : Int)) (r := a3) (c := a4) (by omega) (by omega) h4
  have er1 := hr1 a3 a4 h3.1 h3.2 h4.1 h4.2
  have a1ok := cw_A_ok hG (A := A) (K := k) (by omega) (l + 1) a3 a4 (by omega)
  have el : ((l + 1 : Nat) : Int) - 1 = (l : Int) := by omega
  refine e_X10_bestNext hC ?_
  rw [hD.2, hW.1, er1]
  refine ⟨ix.1, fun x5 e5 => p_X10_windowBehind hC hD hW (by omega) (by omega) h4 (by omega) (fun q => absurd q (by omega)) (fun q1 q2 => ?_)⟩
  rw [kx_shr (by unfold cw_ok at a1ok; omega)] at e5
  rw [el]
  have ib := fun ch (hc : 0 ≤ ch ∧ ch ≤ 2) => cw_ixb hC (l := (l : Int)) (r := a3 + cw_sh A a4 1) (c := cw_ta A a4 + ch) (by omega) (by omega) (by omega)
  have i0 := ib 0 (by omega)
  generalize hbe : ((l : Int) * (R : Int) + (a3 + cw_sh A a4 1)) * cw_N A = be at *
  refine ⟨_, rfl, fun _ => ?_⟩
  dsimp only
  rw [t, n.2.2]
  refine ⟨h4, by constructor <;> omega, p_X10_leastChange hC hW h4 ⟨_, rfl, fun _ => ?_⟩⟩
  unfold cw_ch at h
  rw [← e5] at h
  have one : ∀ ch, 0 ≤ ch ∧ ch ≤ 2 → ∀ (Q : Int → ck_W → Prop), Q (cw_on R G (cw_A A R k G l (a3 + cw_sh A a4 1) (cw_ta A a4 + ch)) (k * (A : Int) - (l + 1)) (a3 + cw_sh A a4 (A - 1) - 1 + ch)) w → ck_CI (ch_C g A R) (d + 1) mX10_onward [.inr (.inr 51), .inl (be + cw_ta A a4 + ch), .inl a2, .inl (a3 + cw_sh A a4 (A - 1) + ch - 1)] w Q := by
    intro ch hc Q hQ
    have i := ib ch hc
    have er := hr (a3 + cw_sh A a4 1) (cw_ta A a4 + ch) (by omega) (by omega) (by omega) (by omega)
    rw [hbe] at er
    have ax := cw_A_ok hG (A := A) (K := k) (by omega) l (a3 + cw_sh A a4 1) (cw_ta A a4 + ch) (by omega)
    have axx : cw_ok 207 (cw_A A R k G l (a3 + cw_sh A a4 1) (cw_ta A a4 + ch)) := by unfold cw_ok at ax ⊢; omega
    rw [show be + cw_ta A a4 + ch = be + (cw_ta A a4 + ch) by omega, show a3 + cw_sh A a4 (A - 1) + ch - 1 = a3 + cw_sh A a4 (A - 1) - 1 + ch by omega]
    refine p_X10_onward hC (P := k * (A : Int)) hD hG hg (by omega) (by omega) i.1 (by rw [er]; exact axx) ⟨_, rfl, fun _ => ?_⟩
    rw [er, h2]
    exact hQ
  have ob : ∀ ch, cw_ok 216 (cw_on R G (cw_A A R k G l (a3 + cw_sh A a4 1) (cw_ta A a4 + ch)) (k * (A : Int) - (l + 1)) (a3 + cw_sh A a4 (A - 1) - 1 + ch)) := fun ch => by
    have ax := cw_A_ok hG (A := A) (K := k) (by omega) l (a3 + cw_sh A a4 1) (cw_ta A a4 + ch) (by omega)
    have oo := cw_on_ok hG (p := k * (A : Int) - (l + 1)) (r := a3 + cw_sh A a4 (A - 1) - 1 + ch) (by omega) ax
    unfold cw_ok at oo ⊢
    omega
  have sr : ∀ ch, ck_shr (cw_on R G (cw_A A R k G l (a3 + cw_sh A a4 1) (cw_ta A a4 + ch)) (k * (A : Int) - (l + 1)) (a3 + cw_sh A a4 (A - 1) - 1 + ch)) 20 = cw_on R G (cw_A A R k G l (a3 + cw_sh A a4 1) (cw_ta A a4 + ch)) (k * (A : Int) - (l + 1)) (a3 + cw_sh A a4 (A - 1) - 1 + ch) / 1048576 := fun ch => by
    have o := ob ch
    unfold cw_ok at o
    exact kx_shr (by omega)
  have lp : ∀ (m : Nat) (i : Int), 3 - i = m → cw_lc A a4 ≤ i → K (some (.inl (a3 + cw_sh A a4 (A - 1) + cw_ff (fun ch => decide (cw_on R G (cw_A A R k G l (a3 + cw_sh A a4 1) (cw_ta A a4 + ch)) (k * (A : Int) - (l + 1)) (a3 + cw_sh A a4 (A - 1) - 1 + ch) ≠ 0 ∧ cw_on R G (cw_A A R k G l (a3 + cw_sh A a4 1) (cw_ta A a4 + ch)) (k * (A : Int) - (l + 1)) (a3 + cw_sh A a4 (A - 1) - 1 + ch) / 1048576 = x5)) (fun i => if fa then 2 + cw_lc A a4 - i else i) 1 m i - 1))) w → ck_At (ch_C g A R) (d + 2) mX10_bestNext K 62 [some (.inr (.inr 51)), none, some (.inl a2), none, none, some (.inl a5), some (.inl x5), some (.inl (be + cw_ta A a4)), some (.inl (a3 + cw_sh A a4 (A - 1))), some (.inl (cw_lc A a4)), some (.inl i), none, none] [] w := by
    intro m
    induction m with
    | zero =>
      intro i g1 g2 h
      rw [cw_ff, show a3 + cw_sh A a4 (A - 1) + 1 - 1 = a3 + cw_sh A a4 (A - 1) by omega] at h
      exact r_X10_bestNext_62 hC ⟨fun _ => h, fun q => absurd (by omega) q⟩
    | succ m ih =>
      intro i g1 g2 h
      rw [cw_ff] at h
      cases fa
      · have ea : a5 = 0 := hf
        rw [show (if false = true then 2 + cw_lc A a4 - i else i) = i from rfl] at h
        refine r_X10_bestNext_62 hC ⟨fun q => absurd q (by omega), fun _ => ⟨fun q => absurd q (by omega), fun _ => ⟨fun _ => ⟨by constructor <;> omega, by constructor <;> omega, one i (by omega) _ ?_⟩, fun q => absurd ea q⟩⟩⟩
        rw [sr]
        refine ⟨fun z => ⟨by constructor <;> omega, ih _ (by omega) (by omega) ?_⟩, fun z => ⟨fun z2 => ⟨by constructor <;> omega, ih _ (by omega) (by omega) ?_⟩, fun z2 => ?_⟩⟩
        · rw [if_neg (by simp only [decide_eq_true_eq]; exact fun y => y.1 z)] at h; exact h
        · rw [if_neg (by simp only [decide_eq_true_eq]; exact fun y => z2 y.2)] at h; exact h
        · rw [if_pos (by simp only [decide_eq_true_eq]; exact ⟨z, z2⟩)] at h; exact h
      · have ea : a5 = 1 := hf
        rw [show (if true = true then 2 + cw_lc A a4 - i else i) = 2 + cw_lc A a4 - i from rfl] at h
        refine r_X10_bestNext_62 hC ⟨fun q => absurd q (by omega), fun _ => ⟨fun q => absurd q (by omega), fun _ => ⟨fun q => absurd q (by omega), fun _ => ⟨by constructor <;> omega, by constructor <;> omega, by constructor <;> omega, one (2 + cw_lc A a4 - i) (by omega) _ ?_⟩⟩⟩⟩
        rw [sr]
        refine ⟨fun z => ⟨by constructor <;> omega, ih _ (by omega) (by omega) ?_⟩, fun z => ⟨fun z2 => ⟨by constructor <;> omega, ih _ (by omega) (by omega) ?_⟩, fun z2 => ?_⟩⟩
        · rw [if_neg (by simp only [decide_eq_true_eq]; exact fun y => y.1 z)] at h; exact h
        · rw [if_neg (by simp only [decide_eq_true_eq]; exact fun y => z2 y.2)] at h; exact h
        · rw [if_pos (by simp only [decide_eq_true_eq]; exact ⟨z, z2⟩)] at h; exact h
  by_cases z : cw_lc A a4 ≤ 3
  · exact lp (3 - cw_lc A a4).toNat (cw_lc A a4) (by omega) (by omega) h
  · rw [show (3 - cw_lc A a4).toNat = 0 by omega, cw_ff, show a3 + cw_sh A a4 (A - 1) + 1 - 1 = a3 + cw_sh A a4 (A - 1) by omega] at h
    exact r_X10_bestNext_62 hC ⟨fun _ => h, fun q => absurd (by omega) q⟩
/-- a best spiral, from below or from above -/
def cw_tr (A R : Nat) (K : Int) (G : Int → Int → Int) (fa : Bool) (p : Int) : Int := if p < (A : Int) then cw_w0 A R K G fa / cw_N A + cw_sh A (cw_w0 A R K G fa % cw_N A) p.toNat else cw_tv A R K G fa (K * (A : Int) - (A : Int)).toNat (cw_w0 A R K G fa / cw_N A) (cw_w0 A R K G fa % cw_N A) (p - (A : Int)).toNat
theorem cw_w0_in {A R : Nat} {g : ch_G} (hC : ck_Cx g A R) {k : Int} {G : Int → Int → Int} (hk : 1 ≤ k ∧ k ≤ 4) (hG : cw_Gv R G) (fa : Bool) (h : cw_be A R k G ≠ 0) : (0 ≤ cw_w0 A R k G fa ∧ cw_w0 A R k G fa < ((R : Int) - k + 1) * cw_N A) ∧ cw_wi A R k G (cw_w0 A R k G fa) ≠ 0 := by
  have wb := cw_Wb hC hk
  unfold cw_be at h
  rcases cw_fo_ne _ _ _ (Or.inl rfl) (fun j _ _ => cw_wi_ok hC hk hG j) h with q | ⟨j, j1, j2⟩
  · exact absurd rfl q.1
  · have f := cw_ff_in (ok := fun i => decide (cw_wi A R k G i ≠ 0 ∧ cw_wi A R k G i / 1048576 = cw_be A R k G / 1048576)) (t := fun i => if fa then ((R : Int) - k + 1) * cw_N A - 1 - i else i) (dflt := 0) (((R : Int) - k + 1) * cw_N A).toNat 0 (if fa then ((R : Int) - k + 1) * cw_N A - 1 - j else j) (by split <;> omega) (by split <;> omega) (by
      have e2 : (if fa = true then ((R : Int) - k + 1) * cw_N A - 1 - (if fa = true then ((R : Int) - k + 1) * cw_N A - 1 - j else j) else (if fa = true then ((R : Int) - k + 1) * cw_N A - 1 - j else j)) = j := by
        cases fa
        · rfl
        · show ((R : Int) - k + 1) * cw_N A - 1 - (((R : Int) - k + 1) * cw_N A - 1 - j) = j
          omega
      rw [e2]
      exact decide_eq_true j2)
    obtain ⟨f1, i, f2, f3⟩ := f
    have d : cw_w0 A R k G fa = cw_ff (fun i => decide (cw_wi A R k G i ≠ 0 ∧ cw_wi A R k G i / 1048576 = cw_be A R k G / 1048576)) (fun i => if fa then ((R : Int) - k + 1) * cw_N A - 1 - i else i) 0 (((R : Int) - k + 1) * cw_N A).toNat 0 := rfl
    rw [← d] at f1 f3
    refine ⟨?_, (of_decide_eq_true f1).1⟩
    rw [f3]
    split <;> omega
theorem cw_tv_b {A R : Nat} {k : Int} {G : Int → Int → Int} (hA : 3 ≤ A ∧ A ≤ 6) (hG : cw_Gv R G) (hK : k * (A : Int) ≤ 24) (fa : Bool) : ∀ (l : Nat) (r c : Int) (i : Nat), (l : Int) ≤ k * (A : Int) → 0 ≤ c ∧ c < cw_N A → cw_A A R k G l r c ≠ 0 → i < l → 0 ≤ cw_tv A R k G fa l r c i ∧ cw_tv A R k G fa l r c i < (R : Int)
  | 0, _, _, i, _, _, _, hi => by omega
  | l + 1, r, c, 0, hl, hc, h, hi => by
    have ci := cw_ch_in hG (fa := fa) hK hl h
    have on := (cw_on_ne ci.2.2).1
    rw [cw_tv]
    omega
  | l + 1, r, c, i + 1, hl, hc, h, hi => by
    have ci := cw_ch_in hG (fa := fa) hK hl h
    have on := (cw_on_ne ci.2.2).2.1
    have kk := (cw_cks hA hc).2.2
    have lc0 : 0 ≤ cw_lc A c := by unfold cw_lc; omega
    rw [cw_tv]
    exact cw_tv_b hA hG hK fa l _ _ i (by omega) (by omega) on (by omega)
/-- the first window of a trace: it may be gone on from -/
theorem cw_tr0 {A R : Nat} {g : ch_G} (hC : ck_Cx g A R) {k : Int} {G : Int → Int → Int} (hk : 1 ≤ k ∧ k ≤ 4) (hG : cw_Gv R G) (fa : Bool) (h : cw_be A R k G ≠ 0) : (0 ≤ cw_w0 A R k G fa / cw_N A ∧ cw_w0 A R k G fa / cw_N A ≤ (R : Int) - k) ∧ (0 ≤ cw_w0 A R k G fa % cw_N A ∧ cw_w0 A R k G fa % cw_N A < cw_N A) ∧ cw_A A R k G (k * (A : Int) - (A : Int)).toNat (cw_w0 A R k G fa / cw_N A) (cw_w0 A R k G fa % cw_N A) ≠ 0 ∧ ∀ q : Int, 0 ≤ q → q < (A : Int) → 0 ≤ cw_w0 A R k G fa / cw_N A + cw_sh A (cw_w0 A R k G fa % cw_N A) q.toNat ∧ cw_w0 A R k G fa / cw_N A + cw_sh A (cw_w0 A R k G fa % cw_N A) q.toNat < (R : Int) := by
  have n := cw_NA hC
  have i := cw_w0_in hC hk hG fa h
  have q1 : cw_w0 A R k G fa / cw_N A < (R : Int) - k + 1 := Int.ediv_lt_of_lt_mul (by omega) i.1.2
  have w := i.2
  unfold cw_wi at w
  have ne := cw_ww_ne A 0 _ (by omega) w
  exact ⟨⟨Int.ediv_nonneg i.1.1 (by omega), by omega⟩, ⟨Int.emod_nonneg _ (by omega), Int.emod_lt_of_pos _ (by omega)⟩, ne.1, fun q q0 q1 => (ne.2 q (by omega) (by omega)).1⟩
theorem cw_tr_b {A R : Nat} {g : ch_G} (hC : ck_Cx g A R) {k : Int} {G : Int → Int → Int} (hk : 1 ≤ k ∧ k ≤ 4) (hG : cw_Gv R G) (fa : Bool) (h : cw_be A R k G ≠ 0) {p : Int} (hp : 0 ≤ p ∧ p < k * (A : Int)) : 0 ≤ cw_tr A R k G fa p ∧ cw_tr A R k G fa p < (R : Int) := by
  have n := cw_NA hC
  have c := cs_ar hC
  have kA : k * (A : Int) ≤ 4 * (A : Int) := Int.mul_le_mul_of_nonneg_right hk.2 (by omega)
  have t := cw_tr0 hC hk hG fa h
  unfold cw_tr
  split
  · exact t.2.2.2 p hp.1 (by omega)
  · exact cw_tv_b n.1 hG (by omega) fa _ _ _ _ (by omega) t.2.1 t.2.2.1 (by omega)
theorem dX10_trace_0 : decode cX10_trace 0 = .ok (.iload_n 3, 1) := dk_29 (by decide +kernel)
theorem dX10_trace_1 : decode cX10_trace 1 = .ok (.ifCond .eq 10, 3) := dk_153 0 10 (by decide +kernel)
theorem dX10_trace_4 : decode cX10_trace 4 = .ok (.aload_n 0, 1) := dk_42 (by decide +kernel)
theorem dX10_trace_5 : decode cX10_trace 5 = .ok (.getfield 25, 3) := dk_180 0 25 (by decide +kernel)
theorem dX10_trace_8 : decode cX10_trace 8 = .ok (.goto 7, 3) := dk_167 0 7 (by decide +kernel)
theorem dX10_trace_11 : decode cX10_trace 11 = .ok (.aload_n 0, 1) := dk_42 (by decide +kernel)
theorem dX10_trace_12 : decode cX10_trace 12 = .ok (.getfield 22, 3) := dk_180 0 22 (by decide +kernel)
theorem dX10_trace_15 : decode cX10_trace 15 = .ok (.astore 4, 2) := dk_58 (by decide +kernel)
theorem dX10_trace_17 : decode cX10_trace 17 = .ok (.iload_n 1, 1) := dk_27 (by decide +kernel)
theorem dX10_trace_18 : decode cX10_trace 18 = .ok (.bipush 24, 2) := dk_16 24 (by decide +kernel)
theorem dX10_trace_20 : decode cX10_trace 20 = .ok (.imul, 1) := dk_104 (by decide +kernel)
theorem dX10_trace_21 : decode cX10_trace 21 = .ok (.istore 5, 2) := dk_54 (by decide +kernel)
theorem dX10_trace_23 : decode cX10_trace 23 = .ok (.aload_n 0, 1) := dk_42 (by decide +kernel)
theorem dX10_trace_24 : decode cX10_trace 24 = .ok (.iload_n 1, 1) := dk_27 (by decide +kernel)
theorem dX10_trace_25 : decode cX10_trace 25 = .ok (.iload_n 2, 1) := dk_28 (by decide +kernel)
theorem dX10_trace_26 : decode cX10_trace 26 = .ok (.iload_n 3, 1) := dk_29 (by decide +kernel)
theorem dX10_trace_27 : decode cX10_trace 27 = .ok (.invokevirtual 170, 3) := dk_182 0 170 (by decide +kernel)
theorem dX10_trace_30 : decode cX10_trace 30 = .ok (.istore 6, 2) := dk_54 (by decide +kernel)
theorem dX10_trace_32 : decode cX10_trace 32 = .ok (.iload 6, 2) := dk_21 (by decide +kernel)
theorem dX10_trace_34 : decode cX10_trace 34 = .ok (.aload_n 0, 1) := dk_42 (by decide +kernel)
theorem dX10_trace_35 : decode cX10_trace 35 = .ok (.getfield 48, 3) := dk_180 0 48 (by decide +kernel)
theorem dX10_trace_38 : decode cX10_trace 38 = .ok (.idiv, 1) := dk_108 (by decide +kernel)
theorem dX10_trace_39 : decode cX10_trace 39 = .ok (.istore 7, 2) := dk_54 (by decide +kernel)
theorem dX10_trace_41 : decode cX10_trace 41 = .ok (.iload 6, 2) := dk_21 (by decide +kernel)
theorem dX10_trace_43 : decode cX10_trace 43 = .ok (.aload_n 0, 1) := dk_42 (by decide +kernel)
theorem dX10_trace_44 : decode cX10_trace 44 = .ok (.getfield 48, 3) := dk_180 0 48 (by decide +kernel)
theorem dX10_trace_47 : decode cX10_trace 47 = .ok (.irem, 1) := dk_112 (by decide +kernel)
theorem dX10_trace_48 : decode cX10_trace 48 = .ok (.istore 8, 2) := dk_54 (by decide +kernel)
theorem dX10_trace_50 : decode cX10_trace 50 = .ok (.iconst 0, 1) := dk_3 (by decide +kernel)
theorem dX10_trace_51 : decode cX10_trace 51 = .ok (.istore 9, 2) := dk_54 (by decide +kernel)
theorem dX10_trace_53 : decode cX10_trace 53 = .ok (.iload 9, 2) := dk_21 (by decide +kernel)
theorem dX10_trace_55 : decode cX10_trace 55 = .ok (.aload_n 0, 1) := dk_42 (by decide +kernel)
theorem dX10_trace_56 : decode cX10_trace 56 = .ok (.getfield 28, 3) := dk_180 0 28 (by decide +kernel)
theorem dX10_trace_59 : decode cX10_trace 59 = .ok (.getfield 32, 3) := dk_180 0 32 (by decide +kernel)
theorem dX10_trace_62 : decode cX10_trace 62 = .ok (.if_icmp .ge 38, 3) := dk_162 0 38 (by decide +kernel)
theorem dX10_trace_65 : decode cX10_trace 65 = .ok (.aload 4, 2) := dk_25 (by decide +kernel)
theorem dX10_trace_67 : decode cX10_trace 67 = .ok (.iload 5, 2) := dk_21 (by decide +kernel)
theorem dX10_trace_69 : decode cX10_trace 69 = .ok (.iload 9, 2) := dk_21 (by decide +kernel)
theorem dX10_trace_71 : decode cX10_trace 71 = .ok (.iadd, 1) := dk_96 (by decide +kernel)
theorem dX10_trace_72 : decode cX10_trace 72 = .ok (.iload 7, 2) := dk_21 (by decide +kernel)
theorem dX10_trace_74 : decode cX10_trace 74 = .ok (.aload_n 0, 1) := dk_42 (by decide +kernel)
theorem dX10_trace_75 : decode cX10_trace 75 = .ok (.getfield 51, 3) := dk_180 0 51 (by decide +kernel)
theorem dX10_trace_78 : decode cX10_trace 78 = .ok (.iload 8, 2) := dk_21 (by decide +kernel)
theorem dX10_trace_80 : decode cX10_trace 80 = .ok (.aload_n 0, 1) := dk_42 (by decide +kernel)
theorem dX10_trace_81 : decode cX10_trace 81 = .ok (.getfield 28, 3) := dk_180 0 28 (by decide +kernel)
theorem dX10_trace_84 : decode cX10_trace 84 = .ok (.getfield 32, 3) := dk_180 0 32 (by decide +kernel)
theorem dX10_trace_87 : decode cX10_trace 87 = .ok (.imul, 1) := dk_104 (by decide +kernel)
theorem dX10_trace_88 : decode cX10_trace 88 = .ok (.iload 9, 2) := dk_21 (by decide +kernel)
theorem dX10_trace_90 : decode cX10_trace 90 = .ok (.iadd, 1) := dk_96 (by decide +kernel)
theorem dX10_trace_91 : decode cX10_trace 91 = .ok (.iaload, 1) := dk_46 (by decide +kernel)
theorem dX10_trace_92 : decode cX10_trace 92 = .ok (.iadd, 1) := dk_96 (by decide +kernel)
theorem dX10_trace_93 : decode cX10_trace 93 = .ok (.iastore, 1) := dk_79 (by decide +kernel)
theorem dX10_trace_94 : decode cX10_trace 94 = .ok (.iinc 9 1, 3) := dk_132 1 (by decide +kernel)
theorem dX10_trace_97 : decode cX10_trace 97 = .ok (.goto (-44), 3) := dk_167 255 212 (by decide +kernel)
theorem dX10_trace_100 : decode cX10_trace 100 = .ok (.iload_n 2, 1) := dk_28 (by decide +kernel)
theorem dX10_trace_101 : decode cX10_trace 101 = .ok (.istore 9, 2) := dk_54 (by decide +kernel)
theorem dX10_trace_103 : decode cX10_trace 103 = .ok (.iload 9, 2) := dk_21 (by decide +kernel)
theorem dX10_trace_105 : decode cX10_trace 105 = .ok (.ifCond .le 106, 3) := dk_158 0 106 (by decide +kernel)
theorem dX10_trace_108 : decode cX10_trace 108 = .ok (.aload_n 0, 1) := dk_42 (by decide +kernel)
theorem dX10_trace_109 : decode cX10_trace 109 = .ok (.getfield 28, 3) := dk_180 0 28 (by decide +kernel)
theorem dX10_trace_112 : decode cX10_trace 112 = .ok (.getfield 32, 3) := dk_180 0 32 (by decide +kernel)
theorem dX10_trace_115 : decode cX10_trace 115 = .ok (.iload_n 2, 1) := dk_28 (by decide +kernel)
theorem dX10_trace_116 : decode cX10_trace 116 = .ok (.iadd, 1) := dk_96 (by decide +kernel)
theorem dX10_trace_117 : decode cX10_trace 117 = .ok (.iload 9, 2) := dk_21 (by decide +kernel)
theorem dX10_trace_119 : decode cX10_trace 119 = .ok (.isub, 1) := dk_100 (by decide +kernel)
theorem dX10_trace_120 : decode cX10_trace 120 = .ok (.istore 10, 2) := dk_54 (by decide +kernel)
theorem dX10_trace_122 : decode cX10_trace 122 = .ok (.aload_n 0, 1) := dk_42 (by decide +kernel)
theorem dX10_trace_123 : decode cX10_trace 123 = .ok (.iload_n 1, 1) := dk_27 (by decide +kernel)
theorem dX10_trace_124 : decode cX10_trace 124 = .ok (.iload 10, 2) := dk_21 (by decide +kernel)
theorem dX10_trace_126 : decode cX10_trace 126 = .ok (.aload_n 0, 1) := dk_42 (by decide +kernel)
theorem dX10_trace_127 : decode cX10_trace 127 = .ok (.getfield 28, 3) := dk_180 0 28 (by decide +kernel)
theorem dX10_trace_130 : decode cX10_trace 130 = .ok (.getfield 32, 3) := dk_180 0 32 (by decide +kernel)
theorem dX10_trace_133 : decode cX10_trace 133 = .ok (.isub, 1) := dk_100 (by decide +kernel)
theorem dX10_trace_134 : decode cX10_trace 134 = .ok (.iconst 1, 1) := dk_4 (by decide +kernel)
theorem dX10_trace_135 : decode cX10_trace 135 = .ok (.iadd, 1) := dk_96 (by decide +kernel)
theorem dX10_trace_136 : decode cX10_trace 136 = .ok (.invokevirtual 128, 3) := dk_182 0 128 (by decide +kernel)
theorem dX10_trace_139 : decode cX10_trace 139 = .ok (.aload_n 0, 1) := dk_42 (by decide +kernel)
theorem dX10_trace_140 : decode cX10_trace 140 = .ok (.iload 9, 2) := dk_21 (by decide +kernel)
theorem dX10_trace_142 : decode cX10_trace 142 = .ok (.iload 10, 2) := dk_21 (by decide +kernel)
theorem dX10_trace_144 : decode cX10_trace 144 = .ok (.iload 7, 2) := dk_21 (by decide +kernel)
theorem dX10_trace_146 : decode cX10_trace 146 = .ok (.iload 8, 2) := dk_21 (by decide +kernel)
theorem dX10_trace_148 : decode cX10_trace 148 = .ok (.iload_n 3, 1) := dk_29 (by decide +kernel)
theorem dX10_trace_149 : decode cX10_trace 149 = .ok (.invokevirtual 174, 3) := dk_182 0 174 (by decide +kernel)
theorem dX10_trace_152 : decode cX10_trace 152 = .ok (.istore 11, 2) := dk_54 (by decide +kernel)
theorem dX10_trace_154 : decode cX10_trace 154 = .ok (.aload 4, 2) := dk_25 (by decide +kernel)
theorem dX10_trace_156 : decode cX10_trace 156 = .ok (.iload 5, 2) := dk_21 (by decide +kernel)
theorem dX10_trace_158 : decode cX10_trace 158 = .ok (.iload 10, 2) := dk_21 (by decide +kernel)
theorem dX10_trace_160 : decode cX10_trace 160 = .ok (.iadd, 1) := dk_96 (by decide +kernel)
theorem dX10_trace_161 : decode cX10_trace 161 = .ok (.iload 11, 2) := dk_21 (by decide +kernel)
theorem dX10_trace_163 : decode cX10_trace 163 = .ok (.iastore, 1) := dk_79 (by decide +kernel)
theorem dX10_trace_164 : decode cX10_trace 164 = .ok (.iload 11, 2) := dk_21 (by decide +kernel)
theorem dX10_trace_166 : decode cX10_trace 166 = .ok (.iload 7, 2) := dk_21 (by decide +kernel)
theorem dX10_trace_168 : decode cX10_trace 168 = .ok (.isub, 1) := dk_100 (by decide +kernel)
theorem dX10_trace_169 : decode cX10_trace 169 = .ok (.aload_n 0, 1) := dk_42 (by decide +kernel)
theorem dX10_trace_170 : decode cX10_trace 170 = .ok (.getfield 60, 3) := dk_180 0 60 (by decide +kernel)
theorem dX10_trace_173 : decode cX10_trace 173 = .ok (.iload 8, 2) := dk_21 (by decide +kernel)
theorem dX10_trace_175 : decode cX10_trace 175 = .ok (.iaload, 1) := dk_46 (by decide +kernel)
theorem dX10_trace_176 : decode cX10_trace 176 = .ok (.isub, 1) := dk_100 (by decide +kernel)
theorem dX10_trace_177 : decode cX10_trace 177 = .ok (.iconst 1, 1) := dk_4 (by decide +kernel)
theorem dX10_trace_178 : decode cX10_trace 178 = .ok (.iadd, 1) := dk_96 (by decide +kernel)
theorem dX10_trace_179 : decode cX10_trace 179 = .ok (.istore 12, 2) := dk_54 (by decide +kernel)
theorem dX10_trace_181 : decode cX10_trace 181 = .ok (.iload 7, 2) := dk_21 (by decide +kernel)
theorem dX10_trace_183 : decode cX10_trace 183 = .ok (.aload_n 0, 1) := dk_42 (by decide +kernel)
theorem dX10_trace_184 : decode cX10_trace 184 = .ok (.getfield 54, 3) := dk_180 0 54 (by decide +kernel)
theorem dX10_trace_187 : decode cX10_trace 187 = .ok (.iload 8, 2) := dk_21 (by decide +kernel)
theorem dX10_trace_189 : decode cX10_trace 189 = .ok (.iaload, 1) := dk_46 (by decide +kernel)
theorem dX10_trace_190 : decode cX10_trace 190 = .ok (.iadd, 1) := dk_96 (by decide +kernel)
theorem dX10_trace_191 : decode cX10_trace 191 = .ok (.istore 7, 2) := dk_54 (by decide +kernel)
theorem dX10_trace_193 : decode cX10_trace 193 = .ok (.aload_n 0, 1) := dk_42 (by decide +kernel)
theorem dX10_trace_194 : decode cX10_trace 194 = .ok (.getfield 57, 3) := dk_180 0 57 (by decide +kernel)
theorem dX10_trace_197 : decode cX10_trace 197 = .ok (.iload 8, 2) := dk_21 (by decide +kernel)
theorem dX10_trace_199 : decode cX10_trace 199 = .ok (.iaload, 1) := dk_46 (by decide +kernel)
theorem dX10_trace_200 : decode cX10_trace 200 = .ok (.iload 12, 2) := dk_21 (by decide +kernel)
theorem dX10_trace_202 : decode cX10_trace 202 = .ok (.iadd, 1) := dk_96 (by decide +kernel)
theorem dX10_trace_203 : decode cX10_trace 203 = .ok (.istore 8, 2) := dk_54 (by decide +kernel)
theorem dX10_trace_205 : decode cX10_trace 205 = .ok (.iinc 9 (-1), 3) := dk_132 255 (by decide +kernel)
theorem dX10_trace_208 : decode cX10_trace 208 = .ok (.goto (-105), 3) := dk_167 255 151 (by decide +kernel)
theorem dX10_trace_211 : decode cX10_trace 211 = .ok (.return_, 1) := dk_177 (by decide +kernel)
set_option maxRecDepth 8000 in
theorem e_trace {g : ch_G} {A R : Nat} (hC : ck_Cx g A R) {d : Nat} {K : Option ck_V → ck_W → Prop} {w : ck_W} {a1 a2 a3 : Int} (h : (a3 = 0 → ck_i (a1 * 24) ∧ (ck_CI (ch_C g A R) d mX10_bestWindow [.inr (.inr 51), .inl a1, .inl a2, .inl a3] w (fun v3 w2 => (¬ (w2 51 1) = 0) ∧ (ck_i (v3.tdiv (w2 51 1)) ∧ (ck_i (v3.tmod (w2 51 1)) ∧ (ck_At (ch_C g A R) (d + 1) mX10_trace K 53 [some (.inr (.inr 51)), some (.inl a1), some (.inl a2), some (.inl a3), some (.inr (.inr 62)), some (.inl (a1 * 24)), none, some (.inl (v3.tdiv (w2 51 1))), some (.inl (v3.tmod (w2 51 1))), some (.inl 0), none, none, none] [] w2)))))) ∧ (¬ a3 = 0 → ck_i (a1 * 24) ∧ (ck_CI (ch_C g A R) d mX10_bestWindow [.inr (.inr 51), .inl a1, .inl a2, .inl a3] w (fun v13 w12 => (¬ (w12 51 1) = 0) ∧ (ck_i (v13.tdiv (w12 51 1)) ∧ (ck_i (v13.tmod (w12 51 1)) ∧ (ck_At (ch_C g A R) (d + 1) mX10_trace K 53 [some (.inr (.inr 51)), some (.inl a1), some (.inl a2), some (.inl a3), some (.inr (.inr 63)), some (.inl (a1 * 24)), none, some (.inl (v13.tdiv (w12 51 1))), some (.inl (v13.tmod (w12 51 1))), some (.inl 0), none, none, none] [] w12))))))) : ck_Ex (ch_C g A R) (d + 1) mX10_trace [.inr (.inr 51), .inl a1, .inl a2, .inl a3] w K :=
  ck_entry hC.1 [some (.inr (.inr 51)), some (.inl a1), some (.inl a2), some (.inl a3), none, none, none, none, none, none, none, none, none] (by decide) (Nat.le_of_ble_eq_true rfl) rfl (fun q => q) (ck_in (fun hl => (ck_iload_n 1 rfl 3 dX10_trace_0 rfl rfl (ck_if_eq 4 rfl 11 dX10_trace_1 rfl hl.2.2.2.1 (fun c21 => (ck_aload_n 12 rfl 0 dX10_trace_11 rfl rfl (ck_getr 15 rfl dX10_trace_12 fl_X10_22 sh_51 rfl (ck_astore 17 rfl [some (.inr (.inr 51)), some (.inl a1), some (.inl a2), some (.inl a3), some (.inr (.inr 62)), none, none, none, none, none, none, none, none] dX10_trace_15 (Nat.le_of_ble_eq_true rfl) rfl rfl (ck_iload_n 18 rfl 1 dX10_trace_17 rfl rfl (ck_bipush 20 rfl dX10_trace_18 rfl (ck_imul 21 rfl dX10_trace_20 (have h24 := (h.1 c21); have o1 := h24.1; have h23 := h24.2; (ck_istore 23 rfl [some (.inr (.inr 51)), some (.inl a1), some (.inl a2), some (.inl a3), some (.inr (.inr 62)), some (.inl (a1 * 24)), none, none, none, none, none, none, none] dX10_trace_21 (Nat.le_of_ble_eq_true rfl) rfl rfl o1 (ck_aload_n 24 rfl 0 dX10_trace_23 rfl rfl (ck_iload_n 25 rfl 1 dX10_trace_24 rfl rfl (ck_iload_n 26 rfl 2 dX10_trace_25 rfl rfl (ck_iload_n 27 rfl 3 dX10_trace_26 rfl rfl (ck_callV 30 rfl [.inl a1, .inl a2, .inl a3] [] dX10_trace_27 cv_X10_170 sh_51 rfl rfl (Nat.le_of_ble_eq_true rfl) (And.intro hl.2.1 (And.intro hl.2.2.1 (And.intro hl.2.2.2.1 True.intro))) (ck_mI h23 (fun v3 w2 q4 h5 => (ck_istore 32 rfl [some (.inr (.inr 51)), some (.inl a1), some (.inl a2), some (.inl a3), some (.inr (.inr 62)), some (.inl (a1 * 24)), some (.inl v3), none, none, none, none, none, none] dX10_trace_30 (Nat.le_of_ble_eq_true rfl) rfl rfl q4 (ck_iload 34 rfl dX10_trace_32 rfl (ck_aload_n 35 rfl 0 dX10_trace_34 rfl rfl (ck_geti 38 rfl 1 dX10_trace_35 fl_X10_48 sh_51 rfl rfl _ rfl (fun (q6 : ck_i (w2 51 1)) => (have h26 := h5; have o7 := h26.1; have h25 := h26.2; (ck_idiv 39 rfl dX10_trace_38 q4 q6 o7 (have h28 := h25; have o8 := h28.1; have h27 := h28.2; (ck_istore 41 rfl [some (.inr (.inr 51)), some (.inl a1), some (.inl a2), some (.inl a3), some (.inr (.inr 62)), some (.inl (a1 * 24)), some (.inl v3), some (.inl (v3.tdiv (w2 51 1))), none, none, none, none, none] dX10_trace_39 (Nat.le_of_ble_eq_true rfl) rfl rfl o8 (ck_iload 43 rfl dX10_trace_41 rfl (ck_aload_n 44 rfl 0 dX10_trace_43 rfl rfl (ck_geti 47 rfl 1 dX10_trace_44 fl_X10_48 sh_51 rfl rfl _ rfl (fun (q9 : ck_i (w2 51 1)) => (ck_irem 48 rfl dX10_trace_47 q4 q9 o7 (have h30 := h27; have o10 := h30.1; have h29 := h30.2; (ck_istore 50 rfl [some (.inr (.inr 51)), some (.inl a1), some (.inl a2), some (.inl a3), some (.inr (.inr 62)), some (.inl (a1 * 24)), some (.inl v3), some (.inl (v3.tdiv (w2 51 1))), some (.inl (v3.tmod (w2 51 1))), none, none, none, none] dX10_trace_48 (Nat.le_of_ble_eq_true rfl) rfl rfl o10 (ck_iconst 51 rfl dX10_trace_50 rfl (ck_istore 53 rfl [some (.inr (.inr 51)), some (.inl a1), some (.inl a2), some (.inl a3), some (.inr (.inr 62)), some (.inl (a1 * 24)), some (.inl v3), some (.inl (v3.tdiv (w2 51 1))), some (.inl (v3.tmod (w2 51 1))), some (.inl 0), none, none, none] dX10_trace_51 (Nat.le_of_ble_eq_true rfl) rfl rfl (show ck_i 0 by decide) (ck_drop [some (.inr (.inr 51)), some (.inl a1), some (.inl a2), some (.inl a3), some (.inr (.inr 62)), some (.inl (a1 * 24)), none, some (.inl (v3.tdiv (w2 51 1))), some (.inl (v3.tmod (w2 51 1))), some (.inl 0), none, none, none] (And.intro rfl (And.intro rfl (And.intro rfl (And.intro rfl (And.intro rfl (And.intro rfl (And.intro rfl (And.intro rfl (And.intro rfl True.intro))))))))) h29))))))))))))))))))))))))))))))))))) (fun c22 => (ck_aload_n 5 rfl 0 dX10_trace_4 rfl rfl (ck_getr 8 rfl dX10_trace_5 fl_X10_25 sh_51 rfl (ck_goto 15 dX10_trace_8 rfl (ck_astore 17 rfl [some (.inr (.inr 51)), some (.inl a1), some (.inl a2), some (.inl a3), some (.inr (.inr 63)), none, none, none, none, none, none, none, none] dX10_trace_15 (Nat.le_of_ble_eq_true rfl) rfl rfl (ck_iload_n 18 rfl 1 dX10_trace_17 rfl rfl (ck_bipush 20 rfl dX10_trace_18 rfl (ck_imul 21 rfl dX10_trace_20 (have h32 := (h.2 c22); have o11 := h32.1; have h31 := h32.2; (ck_istore 23 rfl [some (.inr (.inr 51)), some (.inl a1), some (.inl a2), some (.inl a3), some (.inr (.inr 63)), some (.inl (a1 * 24)), none, none, none, none, none, none, none] dX10_trace_21 (Nat.le_of_ble_eq_true rfl) rfl rfl o11 (ck_aload_n 24 rfl 0 dX10_trace_23 rfl rfl (ck_iload_n 25 rfl 1 dX10_trace_24 rfl rfl (ck_iload_n 26 rfl 2 dX10_trace_25 rfl rfl (ck_iload_n 27 rfl 3 dX10_trace_26 rfl rfl (ck_callV 30 rfl [.inl a1, .inl a2, .inl a3] [] dX10_trace_27 cv_X10_170 sh_51 rfl rfl (Nat.le_of_ble_eq_true rfl) (And.intro hl.2.1 (And.intro hl.2.2.1 (And.intro hl.2.2.2.1 True.intro))) (ck_mI h31 (fun v13 w12 q14 h15 => (ck_istore 32 rfl [some (.inr (.inr 51)), some (.inl a1), some (.inl a2), some (.inl a3), some (.inr (.inr 63)), some (.inl (a1 * 24)), some (.inl v13), none, none, none, none, none, none] dX10_trace_30 (Nat.le_of_ble_eq_true rfl) rfl rfl q14 (ck_iload 34 rfl dX10_trace_32 rfl (ck_aload_n 35 rfl 0 dX10_trace_34 rfl rfl (ck_geti 38 rfl 1 dX10_trace_35 fl_X10_48 sh_51 rfl rfl _ rfl (fun (q16 : ck_i (w12 51 1)) => (have h34 := h15; have o17 := h34.1; have h33 := h34.2; (ck_idiv 39 rfl dX10_trace_38 q14 q16 o17 (have h36 := h33; have o18 := h36.1; have h35 := h36.2; (ck_istore 41 rfl [some (.inr (.inr 51)), some (.inl a1), some (.inl a2), some (.inl a3), some (.inr (.inr 63)), some (.inl (a1 * 24)), some (.inl v13), some (.inl (v13.tdiv (w12 51 1))), none, none, none, none, none] dX10_trace_39 (Nat.le_of_ble_eq_true rfl) rfl rfl o18 (ck_iload 43 rfl dX10_trace_41 rfl (ck_aload_n 44 rfl 0 dX10_trace_43 rfl rfl (ck_geti 47 rfl 1 dX10_trace_44 fl_X10_48 sh_51 rfl rfl _ rfl (fun (q19 : ck_i (w12 51 1)) => (ck_irem 48 rfl dX10_trace_47 q14 q19 o17 (have h38 := h35; have o20 := h38.1; have h37 := h38.2; (ck_istore 50 rfl [some (.inr (.inr 51)), some (.inl a1), some (.inl a2), some (.inl a3), some (.inr (.inr 63)), some (.inl (a1 * 24)), some (.inl v13), some (.inl (v13.tdiv (w12 51 1))), some (.inl (v13.tmod (w12 51 1))), none, none, none, none] dX10_trace_48 (Nat.le_of_ble_eq_true rfl) rfl rfl o20 (ck_iconst 51 rfl dX10_trace_50 rfl (ck_istore 53 rfl [some (.inr (.inr 51)), some (.inl a1), some (.inl a2), some (.inl a3), some (.inr (.inr 63)), some (.inl (a1 * 24)), some (.inl v13), some (.inl (v13.tdiv (w12 51 1))), some (.inl (v13.tmod (w12 51 1))), some (.inl 0), none, none, none] dX10_trace_51 (Nat.le_of_ble_eq_true rfl) rfl rfl (show ck_i 0 by decide) (ck_drop [some (.inr (.inr 51)), some (.inl a1), some (.inl a2), some (.inl a3), some (.inr (.inr 63)), some (.inl (a1 * 24)), none, some (.inl (v13.tdiv (w12 51 1))), some (.inl (v13.tmod (w12 51 1))), some (.inl 0), none, none, none] (And.intro rfl (And.intro rfl (And.intro rfl (And.intro rfl (And.intro rfl (And.intro rfl (And.intro rfl (And.intro rfl (And.intro rfl True.intro))))))))) h37))))))))))))))))))))))))))))))))))))))))
set_option maxRecDepth 8000 in
theorem r_tr62_53 {g : ch_G} {A R : Nat} (hC : ck_Cx g A R) {d : Nat} {K : Option ck_V → ck_W → Prop} {w : ck_W} {a1 a2 a3 a5 a7 a8 a9 : Int} (h : ((w 3 0) ≤ a9 → ck_At (ch_C g A R) (d + 1) mX10_trace K 103 [some (.inr (.inr 51)), some (.inl a1), some (.inl a2), some (.inl a3), some (.inr (.inr 62)), some (.inl a5), none, some (.inl a7), some (.inl a8), some (.inl a2), none, none, none] [] w) ∧ (¬ (w 3 0) ≤ a9 → (0 ≤ ((a8 * (w 3 0)) + a9) ∧ ((a8 * (w 3 0)) + a9) < ((3 ^ (A - 1) * A : Nat) : Int)) ∧ (ck_i (a7 + (w 52 ((a8 * (w 3 0)) + a9))) ∧ ((0 ≤ (a5 + a9) ∧ (a5 + a9) < 144) ∧ (ck_i (a9 + 1) ∧ (ck_At (ch_C g A R) (d + 1) mX10_trace K 53 [some (.inr (.inr 51)), some (.inl a1), some (.inl a2), some (.inl a3), some (.inr (.inr 62)), some (.inl a5), none, some (.inl a7), some (.inl a8), some (.inl (a9 + 1)), none, none, none] [] (ck_up w 62 (a5 + a9) (a7 + (w 52 ((a8 * (w 3 0)) + a9)))))))))) : ck_At (ch_C g A R) (d + 1) mX10_trace K 53 [some (.inr (.inr 51)), some (.inl a1), some (.inl a2), some (.inl a3), some (.inr (.inr 62)), some (.inl a5), none, some (.inl a7), some (.inl a8), some (.inl a9), none, none, none] [] w :=
  ck_in (fun hl => (ck_iload 55 rfl dX10_trace_53 rfl (ck_aload_n 56 rfl 0 dX10_trace_55 rfl rfl (ck_getr 59 rfl dX10_trace_56 fl_X10_28 sh_51 rfl (ck_geti 62 rfl 0 dX10_trace_59 fl_X10_32 sh_3 rfl rfl _ rfl (fun (q1 : ck_i (w 3 0)) => (ck_icmp_ge 65 rfl 100 dX10_trace_62 rfl hl.2.2.2.2.2.2.2.2.1 q1 (fun c8 => (ck_iload_n 101 rfl 2 dX10_trace_100 rfl rfl (ck_istore 103 rfl [some (.inr (.inr 51)), some (.inl a1), some (.inl a2), some (.inl a3), some (.inr (.inr 62)), some (.inl a5), none, some (.inl a7), some (.inl a8), some (.inl a2), none, none, none] dX10_trace_101 (Nat.le_of_ble_eq_true rfl) rfl rfl hl.2.2.1 (h.1 c8)))) (fun c9 => (ck_aload 67 rfl dX10_trace_65 rfl (ck_iload 69 rfl dX10_trace_67 rfl (ck_iload 71 rfl dX10_trace_69 rfl (ck_iadd 72 rfl dX10_trace_71 (ck_iload 74 rfl dX10_trace_72 rfl (ck_aload_n 75 rfl 0 dX10_trace_74 rfl rfl (ck_getr 78 rfl dX10_trace_75 fl_X10_51 sh_51 rfl (ck_iload 80 rfl dX10_trace_78 rfl (ck_aload_n 81 rfl 0 dX10_trace_80 rfl rfl (ck_getr 84 rfl dX10_trace_81 fl_X10_28 sh_51 rfl (ck_geti 87 rfl 0 dX10_trace_84 fl_X10_32 sh_3 rfl rfl _ rfl (fun (q2 : ck_i (w 3 0)) => (ck_imul 88 rfl dX10_trace_87 (ck_iload 90 rfl dX10_trace_88 rfl (ck_iadd 91 rfl dX10_trace_90 (have h11 := (h.2 c9); have o3 := h11.1; have h10 := h11.2; (ck_iald 92 rfl dX10_trace_91 sh_52 (shn_52 hC) o3 _ rfl (fun (q4 : ck_i (w 52 ((a8 * (w 3 0)) + a9))) => (ck_iadd 93 rfl dX10_trace_92 (have h13 := h10; have o5 := h13.1; have h12 := h13.2; (have h15 := h12; have o6 := h15.1; have h14 := h15.2; (ck_iast 94 rfl dX10_trace_93 sh_62 (shn_62 hC) o6 o5 (have h17 := h14; have o7 := h17.1; have h16 := h17.2; (ck_iinc 97 rfl [some (.inr (.inr 51)), some (.inl a1), some (.inl a2), some (.inl a3), some (.inr (.inr 62)), some (.inl a5), none, some (.inl a7), some (.inl a8), some (.inl (a9 + 1)), none, none, none] dX10_trace_94 rfl (Nat.le_of_ble_eq_true rfl) rfl rfl o7 (ck_goto 53 dX10_trace_97 rfl h16)))))))))))))))))))))))))))))))))
set_option maxRecDepth 8000 in
theorem r_tr62_103 {g : ch_G} {A R : Nat} (hC : ck_Cx g A R) {d : Nat} {K : Option ck_V → ck_W → Prop} {w : ck_W} {a1 a2 a3 a5 a7 a8 a9 : Int} (h : (a9 ≤ 0 → K none w) ∧ (¬ a9 ≤ 0 → ck_i (((w 3 0) + a2) - a9) ∧ (ck_i (((((w 3 0) + a2) - a9) - (w 3 0)) + 1) ∧ (ck_CN (ch_C g A R) d mX10_boundFirst [.inr (.inr 51), .inl a1, .inl (((((w 3 0) + a2) - a9) - (w 3 0)) + 1)] w (fun w5 => ck_CI (ch_C g A R) d mX10_bestNext [.inr (.inr 51), .inl a9, .inl (((w 3 0) + a2) - a9), .inl a7, .inl a8, .inl a3] w5 (fun v7 w6 => (0 ≤ (a5 + (((w 3 0) + a2) - a9)) ∧ (a5 + (((w 3 0) + a2) - a9)) < 144) ∧ ((0 ≤ a8 ∧ a8 < ((3 ^ (A - 1) : Nat) : Int)) ∧ (∀ x13, x13 = ((v7 - a7) - (w6 53 a8)) + 1 → ck_i x13 ∧ (ck_i (a7 + (w6 54 a8)) ∧ (ck_i ((w6 55 a8) + x13) ∧ (ck_i (a9 + (-1)) ∧ (ck_At (ch_C g A R) (d + 1) mX10_trace K 103 [some (.inr (.inr 51)), some (.inl a1), some (.inl a2), some (.inl a3), some (.inr (.inr 62)), some (.inl a5), none, some (.inl (a7 + (w6 54 a8))), some (.inl ((w6 55 a8) + x13)), some (.inl (a9 + (-1))), none, none, none] [] (ck_up w6 62 (a5 + (((w 3 0) + a2) - a9)) v7))))))))))))) : ck_At (ch_C g A R) (d + 1) mX10_trace K 103 [some (.inr (.inr 51)), some (.inl a1), some (.inl a2), some (.inl a3), some (.inr (.inr 62)), some (.inl a5), none, some (.inl a7), some (.inl a8), some (.inl a9), none, none, none] [] w :=
  ck_in (fun hl => (ck_iload 105 rfl dX10_trace_103 rfl (ck_if_le 108 rfl 211 dX10_trace_105 rfl hl.2.2.2.2.2.2.2.2.1 (fun c22 => (ck_vret dX10_trace_211 rfl (h.1 c22))) (fun c23 => (ck_aload_n 109 rfl 0 dX10_trace_108 rfl rfl (ck_getr 112 rfl dX10_trace_109 fl_X10_28 sh_51 rfl (ck_geti 115 rfl 0 dX10_trace_112 fl_X10_32 sh_3 rfl rfl _ rfl (fun (q1 : ck_i (w 3 0)) => (ck_iload_n 116 rfl 2 dX10_trace_115 rfl rfl (ck_iadd 117 rfl dX10_trace_116 (ck_iload 119 rfl dX10_trace_117 rfl (ck_isub 120 rfl dX10_trace_119 (have h25 := (h.2 c23); have o2 := h25.1; have h24 := h25.2; (ck_istore 122 rfl [some (.inr (.inr 51)), some (.inl a1), some (.inl a2), some (.inl a3), some (.inr (.inr 62)), some (.inl a5), none, some (.inl a7), some (.inl a8), some (.inl a9), some (.inl (((w 3 0) + a2) - a9)), none, none] dX10_trace_120 (Nat.le_of_ble_eq_true rfl) rfl rfl o2 (ck_aload_n 123 rfl 0 dX10_trace_122 rfl rfl (ck_iload_n 124 rfl 1 dX10_trace_123 rfl rfl (ck_iload 126 rfl dX10_trace_124 rfl (ck_aload_n 127 rfl 0 dX10_trace_126 rfl rfl (ck_getr 130 rfl dX10_trace_127 fl_X10_28 sh_51 rfl (ck_geti 133 rfl 0 dX10_trace_130 fl_X10_32 sh_3 rfl rfl _ rfl (fun (q3 : ck_i (w 3 0)) => (ck_isub 134 rfl dX10_trace_133 (ck_iconst 135 rfl dX10_trace_134 rfl (ck_iadd 136 rfl dX10_trace_135 (have h27 := h24; have o4 := h27.1; have h26 := h27.2; (ck_callV 139 rfl [.inl a1, .inl (((((w 3 0) + a2) - a9) - (w 3 0)) + 1)] [] dX10_trace_136 cv_X10_128 sh_51 rfl rfl (Nat.le_of_ble_eq_true rfl) (And.intro hl.2.1 (And.intro o4 True.intro)) (ck_mN h26 (fun w5 h21 => (ck_aload_n 140 rfl 0 dX10_trace_139 rfl rfl (ck_iload 142 rfl dX10_trace_140 rfl (ck_iload 144 rfl dX10_trace_142 rfl (ck_iload 146 rfl dX10_trace_144 rfl (ck_iload 148 rfl dX10_trace_146 rfl (ck_iload_n 149 rfl 3 dX10_trace_148 rfl rfl (ck_callV 152 rfl [.inl a9, .inl (((w 3 0) + a2) - a9), .inl a7, .inl a8, .inl a3] [] dX10_trace_149 cv_X10_174 sh_51 rfl rfl (Nat.le_of_ble_eq_true rfl) (And.intro hl.2.2.2.2.2.2.2.2.1 (And.intro o2 (And.intro hl.2.2.2.2.2.2.1 (And.intro hl.2.2.2.2.2.2.2.1 (And.intro hl.2.2.2.1 True.intro))))) (ck_mI h21 (fun v7 w6 q8 h9 => (ck_istore 154 rfl [some (.inr (.inr 51)), some (.inl a1), some (.inl a2), some (.inl a3), some (.inr (.inr 62)), some (.inl a5), none, some (.inl a7), some (.inl a8), some (.inl a9), some (.inl (((w 3 0) + a2) - a9)), some (.inl v7), none] dX10_trace_152 (Nat.le_of_ble_eq_true rfl) rfl rfl q8 (ck_aload 156 rfl dX10_trace_154 rfl (ck_iload 158 rfl dX10_trace_156 rfl (ck_iload 160 rfl dX10_trace_158 rfl (ck_iadd 161 rfl dX10_trace_160 (ck_iload 163 rfl dX10_trace_161 rfl (have h29 := h9; have o10 := h29.1; have h28 := h29.2; (ck_iast 164 rfl dX10_trace_163 sh_62 (shn_62 hC) o10 q8 (ck_iload 166 rfl dX10_trace_164 rfl (ck_iload 168 rfl dX10_trace_166 rfl (ck_isub 169 rfl dX10_trace_168 (ck_aload_n 170 rfl 0 dX10_trace_169 rfl rfl (ck_getr 173 rfl dX10_trace_170 fl_X10_60 sh_51 rfl (ck_iload 175 rfl dX10_trace_173 rfl (have h31 := h28; have o11 := h31.1; have h30 := h31.2; (ck_iald 176 rfl dX10_trace_175 sh_53 (shn_53 hC) o11 _ rfl (fun (q12 : ck_i (w6 53 a8)) => (ck_isub 177 rfl dX10_trace_176 (ck_iconst 178 rfl dX10_trace_177 rfl (ck_iadd 179 rfl dX10_trace_178 (ck_nmi (fun x13 e14 => (have h33 := (h30 x13 e14); have o15 := h33.1; have h32 := h33.2; (ck_istore 181 rfl [some (.inr (.inr 51)), some (.inl a1), some (.inl a2), some (.inl a3), some (.inr (.inr 62)), some (.inl a5), none, some (.inl a7), some (.inl a8), some (.inl a9), some (.inl (((w 3 0) + a2) - a9)), some (.inl v7), some (.inl x13)] dX10_trace_179 (Nat.le_of_ble_eq_true rfl) rfl rfl o15 (ck_iload 183 rfl dX10_trace_181 rfl (ck_aload_n 184 rfl 0 dX10_trace_183 rfl rfl (ck_getr 187 rfl dX10_trace_184 fl_X10_54 sh_51 rfl (ck_iload 189 rfl dX10_trace_187 rfl (ck_iald 190 rfl dX10_trace_189 sh_54 (shn_54 hC) o11 _ rfl (fun (q16 : ck_i (w6 54 a8)) => (ck_iadd 191 rfl dX10_trace_190 (have h35 := h32; have o17 := h35.1; have h34 := h35.2; (ck_istore 193 rfl [some (.inr (.inr 51)), some (.inl a1), some (.inl a2), some (.inl a3), some (.inr (.inr 62)), some (.inl a5), none, some (.inl (a7 + (w6 54 a8))), some (.inl a8), some (.inl a9), some (.inl (((w 3 0) + a2) - a9)), some (.inl v7), some (.inl x13)] dX10_trace_191 (Nat.le_of_ble_eq_true rfl) rfl rfl o17 (ck_aload_n 194 rfl 0 dX10_trace_193 rfl rfl (ck_getr 197 rfl dX10_trace_194 fl_X10_57 sh_51 rfl (ck_iload 199 rfl dX10_trace_197 rfl (ck_iald 200 rfl dX10_trace_199 sh_55 (shn_55 hC) o11 _ rfl (fun (q18 : ck_i (w6 55 a8)) => (ck_iload 202 rfl dX10_trace_200 rfl (ck_iadd 203 rfl dX10_trace_202 (have h37 := h34; have o19 := h37.1; have h36 := h37.2; (ck_istore 205 rfl [some (.inr (.inr 51)), some (.inl a1), some (.inl a2), some (.inl a3), some (.inr (.inr 62)), some (.inl a5), none, some (.inl (a7 + (w6 54 a8))), some (.inl ((w6 55 a8) + x13)), some (.inl a9), some (.inl (((w 3 0) + a2) - a9)), some (.inl v7), some (.inl x13)] dX10_trace_203 (Nat.le_of_ble_eq_true rfl) rfl rfl o19 (have h39 := h36; have o20 := h39.1; have h38 := h39.2; (ck_iinc 208 rfl [some (.inr (.inr 51)), some (.inl a1), some (.inl a2), some (.inl a3), some (.inr (.inr 62)), some (.inl a5), none, some (.inl (a7 + (w6 54 a8))), some (.inl ((w6 55 a8) + x13)), some (.inl (a9 + (-1))), some (.inl (((w 3 0) + a2) - a9)), some (.inl v7), some (.inl x13)] dX10_trace_205 rfl (Nat.le_of_ble_eq_true rfl) rfl rfl o20 (ck_goto 103 dX10_trace_208 rfl (ck_drop [some (.inr (.inr 51)), some (.inl a1), some (.inl a2), some (.inl a3), some (.inr (.inr 62)), some (.inl a5), none, some (.inl (a7 + (w6 54 a8))), some (.inl ((w6 55 a8) + x13)), some (.inl (a9 + (-1))), none, none, none] (And.intro rfl (And.intro rfl (And.intro rfl (And.intro rfl (And.intro rfl (And.intro rfl (And.intro rfl (And.intro rfl (And.intro rfl True.intro))))))))) h38)))))))))))))))))))))))))))))))))))))))))))))))))))))))))))))))))))))))))))))))))))
set_option maxRecDepth 8000 in
theorem r_tr63_53 {g : ch_G} {A R : Nat} (hC : ck_Cx g A R) {d : Nat} {K : Option ck_V → ck_W → Prop} {w : ck_W} {a1 a2 a3 a5 a7 a8 a9 : Int} (h : ((w 3 0) ≤ a9 → ck_At (ch_C g A R) (d + 1) mX10_trace K 103 [some (.inr (.inr 51)), some (.inl a1), some (.inl a2), some (.inl a3), some (.inr (.inr 63)), some (.inl a5), none, some (.inl a7), some (.inl a8), some (.inl a2), none, none, none] [] w) ∧ (¬ (w 3 0) ≤ a9 → (0 ≤ ((a8 * (w 3 0)) + a9) ∧ ((a8 * (w 3 0)) + a9) < ((3 ^ (A - 1) * A : Nat) : Int)) ∧ (ck_i (a7 + (w 52 ((a8 * (w 3 0)) + a9))) ∧ ((0 ≤ (a5 + a9) ∧ (a5 + a9) < 144) ∧ (ck_i (a9 + 1) ∧ (ck_At (ch_C g A R) (d + 1) mX10_trace K 53 [some (.inr (.inr 51)), some (.inl a1), some (.inl a2), some (.inl a3), some (.inr (.inr 63)), some (.inl a5), none, some (.inl a7), some (.inl a8), some (.inl (a9 + 1)), none, none, none] [] (ck_up w 63 (a5 + a9) (a7 + (w 52 ((a8 * (w 3 0)) + a9)))))))))) : ck_At (ch_C g A R) (d + 1) mX10_trace K 53 [some (.inr (.inr 51)), some (.inl a1), some (.inl a2), some (.inl a3), some (.inr (.inr 63)), some (.inl a5), none, some (.inl a7), some (.inl a8), some (.inl a9), none, none, none] [] w :=
  ck_in (fun hl => (ck_iload 55 rfl dX10_trace_53 rfl (ck_aload_n 56 rfl 0 dX10_trace_55 rfl rfl (ck_getr 59 rfl dX10_trace_56 fl_X10_28 sh_51 rfl (ck_geti 62 rfl 0 dX10_trace_59 fl_X10_32 sh_3 rfl rfl _ rfl (fun (q1 : ck_i (w 3 0)) => (ck_icmp_ge 65 rfl 100 dX10_trace_62 rfl hl.2.2.2.2.2.2.2.2.1 q1 (fun c8 => (ck_iload_n 101 rfl 2 dX10_trace_100 rfl rfl (ck_istore 103 rfl [some (.inr (.inr 51)), some (.inl a1), some (.inl a2), some (.inl a3), some (.inr (.inr 63)), some (.inl a5), none, some (.inl a7), some (.inl a8), some (.inl a2), none, none, none] dX10_trace_101 (Nat.le_of_ble_eq_true rfl) rfl rfl hl.2.2.1 (h.1 c8)))) (fun c9 => (ck_aload 67 rfl dX10_trace_65 rfl (ck_iload 69 rfl dX10_trace_67 rfl (ck_iload 71 rfl dX10_trace_69 rfl (ck_iadd 72 rfl dX10_trace_71 (ck_iload 74 rfl dX10_trace_72 rfl (ck_aload_n 75 rfl 0 dX10_trace_74 rfl rfl (ck_getr 78 rfl dX10_trace_75 fl_X10_51 sh_51 rfl (ck_iload 80 rfl dX10_trace_78 rfl (ck_aload_n 81 rfl 0 dX10_trace_80 rfl rfl (ck_getr 84 rfl dX10_trace_81 fl_X10_28 sh_51 rfl (ck_geti 87 rfl 0 dX10_trace_84 fl_X10_32 sh_3 rfl rfl _ rfl (fun (q2 : ck_i (w 3 0)) => (ck_imul 88 rfl dX10_trace_87 (ck_iload 90 rfl dX10_trace_88 rfl (ck_iadd 91 rfl dX10_trace_90 (have h11 := (h.2 c9); have o3 := h11.1; have h10 := h11.2; (ck_iald 92 rfl dX10_trace_91 sh_52 (shn_52 hC) o3 _ rfl (fun (q4 : ck_i (w 52 ((a8 * (w 3 0)) + a9))) => (ck_iadd 93 rfl dX10_trace_92 (have h13 := h10; have o5 := h13.1; have h12 := h13.2; (have h15 := h12; have o6 := h15.1; have h14 := h15.2; (ck_iast 94 rfl dX10_trace_93 sh_63 (shn_63 hC) o6 o5 (have h17 := h14; have o7 := h17.1; have h16 := h17.2; (ck_iinc 97 rfl [some (.inr (.inr 51)), some (.inl a1), some (.inl a2), some (.inl a3), some (.inr (.inr 63)), some (.inl a5), none, some (.inl a7), some (.inl a8), some (.inl (a9 + 1)), none, none, none] dX10_trace_94 rfl (Nat.le_of_ble_eq_true rfl) rfl rfl o7 (ck_goto 53 dX10_trace_97 rfl h16)))))))))))))))))))))))))))))))))
set_option maxRecDepth 8000 in
theorem r_tr63_103 {g : ch_G} {A R : Nat} (hC : ck_Cx g A R) {d : Nat} {K : Option ck_V → ck_W → Prop} {w : ck_W} {a1 a2 a3 a5 a7 a8 a9 : Int} (h : (a9 ≤ 0 → K none w) ∧ (¬ a9 ≤ 0 → ck_i (((w 3 0) + a2) - a9) ∧ (ck_i (((((w 3 0) + a2) - a9) - (w 3 0)) + 1) ∧ (ck_CN (ch_C g A R) d mX10_boundFirst [.inr (.inr 51), .inl a1, .inl (((((w 3 0) + a2) - a9) - (w 3 0)) + 1)] w (fun w5 => ck_CI (ch_C g A R) d mX10_bestNext [.inr (.inr 51), .inl a9, .inl (((w 3 0) + a2) - a9), .inl a7, .inl a8, .inl a3] w5 (fun v7 w6 => (0 ≤ (a5 + (((w 3 0) + a2) - a9)) ∧ (a5 + (((w 3 0) + a2) - a9)) < 144) ∧ ((0 ≤ a8 ∧ a8 < ((3 ^ (A - 1) : Nat) : Int)) ∧ (∀ x13, x13 = ((v7 - a7) - (w6 53 a8)) + 1 → ck_i x13 ∧ (ck_i (a7 + (w6 54 a8)) ∧ (ck_i ((w6 55 a8) + x13) ∧ (ck_i (a9 + (-1)) ∧ (ck_At (ch_C g A R) (d + 1) mX10_trace K 103 [some (.inr (.inr 51)), some (.inl a1), some (.inl a2), some (.inl a3), some (.inr (.inr 63)), some (.inl a5), none, some (.inl (a7 + (w6 54 a8))), some (.inl ((w6 55 a8) + x13)), some (.inl (a9 + (-1))), none, none, none] [] (ck_up w6 63 (a5 + (((w 3 0) + a2) - a9)) v7))))))))))))) : ck_At (ch_C g A R) (d + 1) mX10_trace K 103 [some (.inr (.inr 51)), some (.inl a1), some (.inl a2), some (.inl a3), some (.inr (.inr 63)), some (.inl a5), none, some (.inl a7), some (.inl a8), some (.inl a9), none, none, none] [] w :=
  ck_in (fun hl => (ck_iload 105 rfl dX10_trace_103 rfl (ck_if_le 108 rfl 211 dX10_trace_105 rfl hl.2.2.2.2.2.2.2.2.1 (fun c22 => (ck_vret dX10_trace_211 rfl (h.1 c22))) (fun c23 => (ck_aload_n 109 rfl 0 dX10_trace_108 rfl rfl (ck_getr 112 rfl dX10_trace_109 fl_X10_28 sh_51 rfl (ck_geti 115 rfl 0 dX10_trace_112 fl_X10_32 sh_3 rfl rfl _ rfl (fun (q1 : ck_i (w 3 0)) => (ck_iload_n 116 rfl 2 dX10_trace_115 rfl rfl (ck_iadd 117 rfl dX10_trace_116 (ck_iload 119 rfl dX10_trace_117 rfl (ck_isub 120 rfl dX10_trace_119 (have h25 := (h.2 c23); have o2 := h25.1; have h24 := h25.2; (ck_istore 122 rfl [some (.inr (.inr 51)), some (.inl a1), some (.inl a2), some (.inl a3), some (.inr (.inr 63)), some (.inl a5), none, some (.inl a7), some (.inl a8), some (.inl a9), some (.inl (((w 3 0) + a2) - a9)), none, none] dX10_trace_120 (Nat.le_of_ble_eq_true rfl) rfl rfl o2 (ck_aload_n 123 rfl 0 dX10_trace_122 rfl rfl (ck_iload_n 124 rfl 1 dX10_trace_123 rfl rfl (ck_iload 126 rfl dX10_trace_124 rfl (ck_aload_n 127 rfl 0 dX10_trace_126 rfl rfl (ck_getr 130 rfl dX10_trace_127 fl_X10_28 sh_51 rfl (ck_geti 133 rfl 0 dX10_trace_130 fl_X10_32 sh_3 rfl rfl _ rfl (fun (q3 : ck_i (w 3 0)) => (ck_isub 134 rfl dX10_trace_133 (ck_iconst 135 rfl dX10_trace_134 rfl (ck_iadd 136 rfl dX10_trace_135 (have h27 := h24; have o4 := h27.1; have h26 := h27.2; (ck_callV 139 rfl [.inl a1, .inl (((((w 3 0) + a2) - a9) - (w 3 0)) + 1)] [] dX10_trace_136 cv_X10_128 sh_51 rfl rfl (Nat.le_of_ble_eq_true rfl) (And.intro hl.2.1 (And.intro o4 True.intro)) (ck_mN h26 (fun w5 h21 => (ck_aload_n 140 rfl 0 dX10_trace_139 rfl rfl (ck_iload 142 rfl dX10_trace_140 rfl (ck_iload 144 rfl dX10_trace_142 rfl (ck_iload 146 rfl dX10_trace_144 rfl (ck_iload 148 rfl dX10_trace_146 rfl (ck_iload_n 149 rfl 3 dX10_trace_148 rfl rfl (ck_callV 152 rfl [.inl a9, .inl (((w 3 0) + a2) - a9), .inl a7, .inl a8, .inl a3] [] dX10_trace_149 cv_X10_174 sh_51 rfl rfl (Nat.le_of_ble_eq_true rfl) (And.intro hl.2.2.2.2.2.2.2.2.1 (And.intro o2 (And.intro hl.2.2.2.2.2.2.1 (And.intro hl.2.2.2.2.2.2.2.1 (And.intro hl.2.2.2.1 True.intro))))) (ck_mI h21 (fun v7 w6 q8 h9 => (ck_istore 154 rfl [some (.inr (.inr 51)), some (.inl a1), some (.inl a2), some (.inl a3), some (.inr (.inr 63)), some (.inl a5), none, some (.inl a7), some (.inl a8), some (.inl a9), some (.inl (((w 3 0) + a2) - a9)), some (.inl v7), none] dX10_trace_152 (Nat.le_of_ble_eq_true rfl) rfl rfl q8 (ck_aload 156 rfl dX10_trace_154 rfl (ck_iload 158 rfl dX10_trace_156 rfl (ck_iload 160 rfl dX10_trace_158 rfl (ck_iadd 161 rfl dX10_trace_160 (ck_iload 163 rfl dX10_trace_161 rfl (have h29 := h9; have o10 := h29.1; have h28 := h29.2; (ck_iast 164 rfl dX10_trace_163 sh_63 (shn_63 hC) o10 q8 (ck_iload 166 rfl dX10_trace_164 rfl (ck_iload 168 rfl dX10_trace_166 rfl (ck_isub 169 rfl dX10_trace_168 (ck_aload_n 170 rfl 0 dX10_trace_169 rfl rfl (ck_getr 173 rfl dX10_trace_170 fl_X10_60 sh_51 rfl (ck_iload 175 rfl dX10_trace_173 rfl (have h31 := h28; have o11 := h31.1; have h30 := h31.2; (ck_iald 176 rfl dX10_trace_175 sh_53 (shn_53 hC) o11 _ rfl (fun (q12 : ck_i (w6 53 a8)) => (ck_isub 177 rfl dX10_trace_176 (ck_iconst 178 rfl dX10_trace_177 rfl (ck_iadd 179 rfl dX10_trace_178 (ck_nmi (fun x13 e14 => (have h33 := (h30 x13 e14); have o15 := h33.1; have h32 := h33.2; (ck_istore 181 rfl [some (.inr (.inr 51)), some (.inl a1), some (.inl a2), some (.inl a3), some (.inr (.inr 63)), some (.inl a5), none, some (.inl a7), some (.inl a8), some (.inl a9), some (.inl (((w 3 0) + a2) - a9)), some (.inl v7), some (.inl x13)] dX10_trace_179 (Nat.le_of_ble_eq_true rfl) rfl rfl o15 (ck_iload 183 rfl dX10_trace_181 rfl (ck_aload_n 184 rfl 0 dX10_trace_183 rfl rfl (ck_getr 187 rfl dX10_trace_184 fl_X10_54 sh_51 rfl (ck_iload 189 rfl dX10_trace_187 rfl (ck_iald 190 rfl dX10_trace_189 sh_54 (shn_54 hC) o11 _ rfl (fun (q16 : ck_i (w6 54 a8)) => (ck_iadd 191 rfl dX10_trace_190 (have h35 := h32; have o17 := h35.1; have h34 := h35.2; (ck_istore 193 rfl [some (.inr (.inr 51)), some (.inl a1), some (.inl a2), some (.inl a3), some (.inr (.inr 63)), some (.inl a5), none, some (.inl (a7 + (w6 54 a8))), some (.inl a8), some (.inl a9), some (.inl (((w 3 0) + a2) - a9)), some (.inl v7), some (.inl x13)] dX10_trace_191 (Nat.le_of_ble_eq_true rfl) rfl rfl o17 (ck_aload_n 194 rfl 0 dX10_trace_193 rfl rfl (ck_getr 197 rfl dX10_trace_194 fl_X10_57 sh_51 rfl (ck_iload 199 rfl dX10_trace_197 rfl (ck_iald 200 rfl dX10_trace_199 sh_55 (shn_55 hC) o11 _ rfl (fun (q18 : ck_i (w6 55 a8)) => (ck_iload 202 rfl dX10_trace_200 rfl (ck_iadd 203 rfl dX10_trace_202 (have h37 := h34; have o19 := h37.1; have h36 := h37.2; (ck_istore 205 rfl [some (.inr (.inr 51)), some (.inl a1), some (.inl a2), some (.inl a3), some (.inr (.inr 63)), some (.inl a5), none, some (.inl (a7 + (w6 54 a8))), some (.inl ((w6 55 a8) + x13)), some (.inl a9), some (.inl (((w 3 0) + a2) - a9)), some (.inl v7), some (.inl x13)] dX10_trace_203 (Nat.le_of_ble_eq_true rfl) rfl rfl o19 (have h39 := h36; have o20 := h39.1; have h38 := h39.2; (ck_iinc 208 rfl [some (.inr (.inr 51)), some (.inl a1), some (.inl a2), some (.inl a3), some (.inr (.inr 63)), some (.inl a5), none, some (.inl (a7 + (w6 54 a8))), some (.inl ((w6 55 a8) + x13)), some (.inl (a9 + (-1))), some (.inl (((w 3 0) + a2) - a9)), some (.inl v7), some (.inl x13)] dX10_trace_205 rfl (Nat.le_of_ble_eq_true rfl) rfl rfl o20 (ck_goto 103 dX10_trace_208 rfl (ck_drop [some (.inr (.inr 51)), some (.inl a1), some (.inl a2), some (.inl a3), some (.inr (.inr 63)), some (.inl a5), none, some (.inl (a7 + (w6 54 a8))), some (.inl ((w6 55 a8) + x13)), some (.inl (a9 + (-1))), none, none, none] (And.intro rfl (And.intro rfl (And.intro rfl (And.intro rfl (And.intro rfl (And.intro rfl (And.intro rfl (And.intro rfl (And.intro rfl True.intro))))))))) h38)))))))))))))))))))))))))))))))))))))))))))))))))))))))))))))))))))))))))))))))))))
theorem L_tr62 {g : ch_G} {A R : Nat} (hC : ck_Cx g A R) {d : Nat} {K : Option ck_V → ck_W → Prop} {w : ck_W} {a1 a3 k : Int} {G : Int → Int → Int} (fa : Bool) (hf : a3 = if fa then 1 else 0) (hD : cs_D A R w) (hT : cs_T w) (hW : cw_tab A w) (hG : cw_Gv R G) (h1 : 0 ≤ a1 ∧ a1 ≤ 5) (hk : w 6 a1 = k) (hg : cw_gn R (k * (A : Int)) G w) (hr : ∀ l : Nat, (l : Int) ≤ k * (A : Int) - (A : Int) → cw_row A R k G w l) : ∀ (m : Nat) (r c : Int) (u : ck_W), (m : Int) ≤ k * (A : Int) - (A : Int) → cw_lo A k m ≤ r ∧ r ≤ (R : Int) - k + cw_lo A k m → 0 ≤ c ∧ c < cw_N A → cw_A A R k G m r c ≠ 0 → (∀ j, j ≠ 51 → j ≠ 62 → u j = w j) → (∀ j, j ≠ 10 → j ≠ 11 → u 51 j = w 51 j) → (∀ w', (∀ j, j ≠ 51 → j ≠ 62 → w' j = w j) → (∀ j, j ≠ 10 → j ≠ 11 → w' 51 j = w 51 j) → (∀ q, ¬ (a1 * 24 + k * (A : Int) - m ≤ q ∧ q < a1 * 24 + k * (A : Int)) → w' 62 q = u 62 q) → (∀ i : Nat, i < m → w' 62 (a1 * 24 + k * (A : Int) - m + i) = cw_tv A R k G fa m r c i) → K none w') → ck_At (ch_C g A R) (d + 4) mX10_trace K 103 [some (.inr (.inr 51)), some (.inl a1), some (.inl (k * (A : Int) - (A : Int))), some (.inl a3), some (.inr (.inr 62)), some (.inl (a1 * 24)), none, some (.inl r), some (.inl c), some (.inl (m : Int)), none, none, none] [] u := by
  have c0 := cs_ar hC
  have n := cw_NA hC
  have tk := hT a1 h1.1 h1.2
  rw [hk] at tk
  have kA : k * (A : Int) ≤ 4 * (A : Int) := Int.mul_le_mul_of_nonneg_right tk.2 (by omega)
  intro m
  induction m with
  | zero =>
    intro r c u g1 g2 g3 g4 g5 g6 h
    exact r_tr62_103 hC ⟨fun _ => h u g5 g6 (fun q _ => rfl) (fun i hi => by omega), fun q => absurd (by omega) q⟩
  | succ l ih =>
    intro r c u g1 g2 g3 g4 g5 g6 h
    have uD := cs_hD hD (g5 3 (by decide) (by decide))
    have uT := cs_hT hT (g5 6 (by decide) (by decide))
    have u6 : u 6 a1 = k := by rw [g5 6 (by decide) (by decide)]; exact hk
    have lb := cw_lob (A := A) (K := k) (l := (l : Int)) (by omega) (by omega) (by omega)
    have lb1 := cw_lob (A := A) (K := k) (l := ((l + 1 : Nat) : Int)) (by omega) (by omega) g1
    have ci := cw_ch_in hG (fa := fa) (by omega) (by omega) g4
    have on := cw_on_ne ci.2.2
    have kk := cw_cks n.1 g3
    have k5 := kk.1 (A - 1) (by omega)
    have lc0 : 0 ≤ cw_lc A c := by unfold cw_lc; omega
    have e1 : (A : Int) + (k * (A : Int) - (A : Int)) - ((l + 1 : Nat) : Int) = k * (A : Int) - (l + 1) := by omega
    have e2 : k * (A : Int) - (l + 1) - (A : Int) + 1 = k * (A : Int) - (l : Int) - (A : Int) := by omega
    refine r_tr62_103 hC ⟨fun q => absurd q (by omega), fun _ => ?_⟩
    rw [uD.1, e1, e2]
    refine ⟨by constructor <;> omega, by constructor <;> omega, p_X10_boundFirst hC uD uT h1 (by omega) ⟨rfl, ?_⟩⟩
    dsimp only
    rw [u6]
    have vj : ∀ j, j ≠ 51 → j ≠ 62 → (ck_up (ck_up u 51 10 ((k * (A : Int) - (l : Int) - (A : Int)) / (A : Int))) 51 11 ((R : Int) - k + (k * (A : Int) - (l : Int) - (A : Int)) / (A : Int))) j = w j := fun j a b => by rw [ck_up_ne a, ck_up_ne a]; exact g5 j a b
    have v51 : ∀ j, j ≠ 10 → j ≠ 11 → (ck_up (ck_up u 51 10 ((k * (A : Int) - (l : Int) - (A : Int)) / (A : Int))) 51 11 ((R : Int) - k + (k * (A : Int) - (l : Int) - (A : Int)) / (A : Int))) 51 j = w 51 j := fun j a b => by rw [ck_up_nj b, ck_up_nj a]; exact g6 j a b
    have vr : (ck_up (ck_up u 51 10 ((k * (A : Int) - (l : Int) - (A : Int)) / (A : Int))) 51 11 ((R : Int) - k + (k * (A : Int) - (l : Int) - (A : Int)) / (A : Int))) 62 = u 62 := by rw [ck_up_ne (by decide), ck_up_ne (by decide)]
    have vb : (ck_up (ck_up u 51 10 ((k * (A : Int) - (l : Int) - (A : Int)) / (A : Int))) 51 11 ((R : Int) - k + (k * (A : Int) - (l : Int) - (A : Int)) / (A : Int))) 51 10 = cw_lo A k l ∧ (ck_up (ck_up u 51 10 ((k * (A : Int) - (l : Int) - (A : Int)) / (A : Int))) 51 11 ((R : Int) - k + (k * (A : Int) - (l : Int) - (A : Int)) / (A : Int))) 51 11 = (R : Int) - k + cw_lo A k l := ⟨by rw [ck_up_nj (by decide), ck_up_eq]; rfl, by rw [ck_up_eq]; rfl⟩
    generalize (ck_up (ck_up u 51 10 ((k * (A : Int) - (l : Int) - (A : Int)) / (A : Int))) 51 11 ((R : Int) - k + (k * (A : Int) - (l : Int) - (A : Int)) / (A : Int))) = v at *
    have vW : cw_tab A v := cw_tab_fr hW (v51 1 (by decide) (by decide)) (v51 7 (by decide) (by decide)) (fun j a b => vj j (by omega) (by omega))
    have vg : cw_gn R (k * (A : Int)) G v := by unfold cw_gn; rw [vj 58 (by decide) (by decide)]; exact hg
    have vrow : ∀ l' : Nat, (l' : Int) ≤ k * (A : Int) - (A : Int) → cw_row A R k G v l' := fun l' hl' => by unfold cw_row; rw [vj 57 (by decide) (by decide)]; exact hr l' hl'
    have tt := vW.2.1 c g3.1 g3.2
    refine S_X10_bestNext hC l fa hf (cs_hD hD (vj 3 (by decide) (by decide))) vW hG tk vg g1 (by omega) g2 g3 vb (vrow l (by omega)) (vrow (l + 1) g1) g4 ⟨_, rfl, fun _ => ?_⟩
    dsimp only
    rw [tt.2.1, tt.2.2.1, tt.2.2.2, n.2.2]
    refine ⟨by omega, g3, fun x13 e13 => ?_⟩
    have ex : x13 = cw_ch A R k G fa l r c := by omega
    rw [ex]
    refine ⟨by constructor <;> omega, by constructor <;> omega, by constructor <;> omega, by constructor <;> omega, ?_⟩
    rw [show ((l + 1 : Nat) : Int) + -1 = (l : Int) by omega]
    refine ih (r + cw_sh A c 1) (cw_ta A c + cw_ch A R k G fa l r c) _ (by omega) ci.1 (by omega) on.2.1 (fun j a b => by rw [ck_up_ne b]; exact vj j a b) (fun j a b => by rw [ck_up_ne (by decide)]; exact v51 j a b) (fun w' f1 f2 f3 f4 => h w' f1 f2 (fun q hq => ?_) (fun i hi => ?_))
    · rw [f3 q (by omega), ck_up_nj (by omega), vr]
    · cases i with
      | zero =>
        rw [cw_tv, f3 _ (by omega), show a1 * 24 + k * (A : Int) - ((l + 1 : Nat) : Int) + ((0 : Nat) : Int) = a1 * 24 + (k * (A : Int) - (l + 1)) by omega, ck_up_eq]
      | succ i =>
        rw [cw_tv, ← f4 i (by omega)]
        congr 1
        omega
theorem S_tr62 {g : ch_G} {A R : Nat} (hC : ck_Cx g A R) {d : Nat} {K : Option ck_V → ck_W → Prop} {w : ck_W} {a1 a3 k : Int} {G : Int → Int → Int} (fa : Bool) (hf : a3 = if fa then 1 else 0) (hF : fa = false) (hD : cs_D A R w) (hT : cs_T w) (hW : cw_tab A w) (hG : cw_Gv R G) (h1 : 0 ≤ a1 ∧ a1 ≤ 5) (hk : w 6 a1 = k) (hg : cw_gn R (k * (A : Int)) G w) (hr : ∀ l : Nat, (l : Int) ≤ k * (A : Int) - (A : Int) → cw_row A R k G w l) (h6 : w 60 a1 = cw_be A R k G / 1048576) (hb : cw_be A R k G ≠ 0) (h : ∀ w', (∀ j, j ≠ 51 → j ≠ 62 → w' j = w j) → (∀ j, j ≠ 10 → j ≠ 11 → w' 51 j = w 51 j) → (∀ q, ¬ (a1 * 24 ≤ q ∧ q < a1 * 24 + k * (A : Int)) → w' 62 q = w 62 q) → (∀ p, 0 ≤ p → p < k * (A : Int) → w' 62 (a1 * 24 + p) = cw_tr A R k G fa p) → K none w') : ck_Ex (ch_C g A R) (d + 4) mX10_trace [.inr (.inr 51), .inl a1, .inl (k * (A : Int) - (A : Int)), .inl a3] w K := by
  have c0 := cs_ar hC
  have n := cw_NA hC
  have s := cw_sz hC
  have tk := hT a1 h1.1 h1.2
  rw [hk] at tk
  have kA : k * (A : Int) ≤ 4 * (A : Int) := Int.mul_le_mul_of_nonneg_right tk.2 (by omega)
  have kA1 : 1 * (A : Int) ≤ k * (A : Int) := Int.mul_le_mul_of_nonneg_right tk.1 (by omega)
  have wb := cw_Wb hC tk
  have t0 := cw_tr0 hC tk hG fa hb
  have i0 := (cw_w0_in hC tk hG fa hb).1
  have td : (cw_w0 A R k G fa).tdiv (cw_N A) = cw_w0 A R k G fa / cw_N A := Int.tdiv_eq_ediv_of_nonneg i0.1
  have tm : (cw_w0 A R k G fa).tmod (cw_N A) = cw_w0 A R k G fa % cw_N A := Int.tmod_eq_emod_of_nonneg i0.1
  have htr : ∀ p, cw_tr A R k G fa p = if p < (A : Int) then cw_w0 A R k G fa / cw_N A + cw_sh A (cw_w0 A R k G fa % cw_N A) p.toNat else cw_tv A R k G fa (k * (A : Int) - (A : Int)).toNat (cw_w0 A R k G fa / cw_N A) (cw_w0 A R k G fa % cw_N A) (p - (A : Int)).toNat := fun p => rfl
  generalize cw_w0 A R k G fa / cw_N A = r0 at *
  generalize cw_w0 A R k G fa % cw_N A = cc at *
  have lo0 : cw_lo A k (((k * (A : Int) - (A : Int)).toNat : Nat) : Int) = 0 := by
    unfold cw_lo
    rw [show k * (A : Int) - (((k * (A : Int) - (A : Int)).toNat : Nat) : Int) - (A : Int) = 0 by omega, Int.zero_ediv]
  have lp : ∀ (m : Nat) (p : Int) (u : ck_W), (A : Int) - p = m → 0 ≤ p → (∀ j, j ≠ 62 → u j = w j) → (∀ q, ¬ (a1 * 24 ≤ q ∧ q < a1 * 24 + p) → u 62 q = w 62 q) → (∀ q, 0 ≤ q → q < p → u 62 (a1 * 24 + q) = r0 + cw_sh A cc q.toNat) → ck_At (ch_C g A R) (d + 4) mX10_trace K 53 [some (.inr (.inr 51)), some (.inl a1), some (.inl (k * (A : Int) - (A : Int))), some (.inl a3), some (.inr (.inr 62)), some (.inl (a1 * 24)), none, some (.inl r0), some (.inl cc), some (.inl p), none, none, none] [] u := by
    intro m
    induction m with
    | zero =>
      intro p u g1 g2 g3 g4 g5
      have u3 : u 3 0 = (A : Int) := by rw [g3 3 (by decide)]; exact hD.1
      refine r_tr62_53 hC ⟨fun _ => ?_, fun q => absurd (by omega) q⟩
      have l := L_tr62 (K := K) (d := d) hC fa hf hD hT hW hG h1 hk hg hr (k * (A : Int) - (A : Int)).toNat r0 cc u (by omega) (by rw [lo0]; omega) t0.2.1 t0.2.2.1 (fun j a b => g3 j b) (fun j _ _ => by rw [g3 51 (by decide)]) (fun w' f1 f2 f3 f4 => h w' f1 f2 (fun q hq => ?_) (fun q q0 q1 => ?_))
      · rw [show (((k * (A : Int) - (A : Int)).toNat : Nat) : Int) = k * (A : Int) - (A : Int) by omega] at l
        exact l
      · rw [f3 q (by omega), g4 q (by omega)]
      · rw [htr]
        split
        · rw [f3 _ (by omega)]; exact g5 q q0 (by omega)
        · rw [← f4 (q - (A : Int)).toNat (by omega)]
          congr 1
          omega
    | succ m ih =>
      intro p u g1 g2 g3 g4 g5
      have u3 : u 3 0 = (A : Int) := by rw [g3 3 (by decide)]; exact hD.1
      have sh := cw_shw hW (c := cc) (p := p) t0.2.1 (by omega)
      have u52 : u 52 (cc * (A : Int) + p) = w 52 (cc * (A : Int) + p) := by rw [g3 52 (by decide)]
      have xb := ix_b (x := cc) (c := p) (N := (A : Int)) (X := cw_N A) (by omega) (by omega)
      have rb := t0.2.2.2 p g2 (by omega)
      refine r_tr62_53 hC ?_
      rw [u3, u52, sh]
      refine ⟨fun q => absurd q (by omega), fun _ => ⟨by rw [s.2.2.1]; exact xb, by constructor <;> omega, by omega, by constructor <;> omega, ih (p + 1) _ (by omega) (by omega) (fun j a => by rw [ck_up_ne a]; exact g3 j a) (fun q hq => by rw [ck_up_nj (by omega)]; exact g4 q (by omega)) (fun q q0 q1 => ?_)⟩⟩
      by_cases z : q = p
      · rw [z, ck_up_eq]
      · rw [ck_up_nj (by omega)]; exact g5 q q0 (by omega)
  subst hF
  refine e_trace hC ⟨fun q => ?_, fun q => ?_⟩
  · refine ⟨by constructor <;> omega, S_X10_bestWindow hC false hf hD hT hW hG h1 hk hg (hr _ (by omega)) h6 ⟨_, rfl, fun _ => ?_⟩⟩
    dsimp only
    rw [hW.1, td, tm]
    exact ⟨by omega, by constructor <;> omega, by constructor <;> omega, lp A 0 w (by omega) (by omega) (fun _ _ => rfl) (fun _ _ => rfl) (fun q q0 q1 => by omega)⟩
  · exact absurd hf q
theorem L_tr63 {g : ch_G} {A R : Nat} (hC : ck_Cx g A R) {d : Nat} {K : Option ck_V → ck_W → Prop} {w : ck_W} {a1 a3 k : Int} {G : Int → Int → Int} (fa : Bool) (hf : a3 = if fa then 1 else 0) (hD : cs_D A R w) (hT : cs_T w) (hW : cw_tab A w) (hG : cw_Gv R G) (h1 : 0 ≤ a1 ∧ a1 ≤ 5) (hk : w 6 a1 = k) (hg : cw_gn R (k * (A : Int)) G w) (hr : ∀ l : Nat, (l : Int) ≤ k * (A : Int) - (A : Int) → cw_row A R k G w l) : ∀ (m : Nat) (r c : Int) (u : ck_W), (m : Int) ≤ k * (A : Int) - (A : Int) → cw_lo A k m ≤ r ∧ r ≤ (R : Int) - k + cw_lo A k m → 0 ≤ c ∧ c < cw_N A → cw_A A R k G m r c ≠ 0 → (∀ j, j ≠ 51 → j ≠ 63 → u j = w j) → (∀ j, j ≠ 10 → j ≠ 11 → u 51 j = w 51 j) → (∀ w', (∀ j, j ≠ 51 → j ≠ 63 → w' j = w j) → (∀ j, j ≠ 10 → j ≠ 11 → w' 51 j = w 51 j) → (∀ q, ¬ (a1 * 24 + k * (A : Int) - m ≤ q ∧ q < a1 * 24 + k * (A : Int)) → w' 63 q = u 63 q) → (∀ i : Nat, i < m → w' 63 (a1 * 24 + k * (A : Int) - m + i) = cw_tv A R k G fa m r c i) → K none w') → ck_At (ch_C g A R) (d + 4) mX10_trace K 103 [some (.inr (.inr 51)), some (.inl a1), some (.inl (k * (A : Int) - (A : Int))), some (.inl a3), some (.inr (.inr 63)), some (.inl (a1 * 24)), none, some (.inl r), some (.inl c), some (.inl (m : Int)), none, none, none] [] u := by
  have c0 := cs_ar hC
  have n := cw_NA hC
  have tk := hT a1 h1.1 h1.2
  rw [hk] at tk
  have kA : k * (A : Int) ≤ 4 * (A : Int) := Int.mul_le_mul_of_nonneg_right tk.2 (by omega)
  intro m
  induction m with
  | zero =>
    intro r c u g1 g2 g3 g4 g5 g6 h
    exact r_tr63_103 hC ⟨fun _ => h u g5 g6 (fun q _ => rfl) (fun i hi => by omega), fun q => absurd (by omega) q⟩
  | succ l ih =>
    intro r c u g1 g2 g3 g4 g5 g6 h
    have uD := cs_hD hD (g5 3 (by decide) (by decide))
    have uT := cs_hT hT (g5 6 (by decide) (by decide))
    have u6 : u 6 a1 = k := by rw [g5 6 (by decide) (by decide)]; exact hk
    have lb := cw_lob (A := A) (K := k) (l := (l : Int)) (by omega) (by omega) (by omega)
    have lb1 := cw_lob (A := A) (K := k) (l := ((l + 1 : Nat) : Int)) (by omega) (by omega) g1
    have ci := cw_ch_in hG (fa := fa) (by omega) (by omega) g4
    have on := cw_on_ne ci.2.2
    have kk := cw_cks n.1 g3
    have k5 := kk.1 (A - 1) (by omega)
    have lc0 : 0 ≤ cw_lc A c := by unfold cw_lc; omega
    have e1 : (A : Int) + (k * (A : Int) - (A : Int)) - ((l + 1 : Nat) : Int) = k * (A : Int) - (l + 1) := by omega
    have e2 : k * (A : Int) - (l + 1) - (A : Int) + 1 = k * (A : Int) - (l : Int) - (A : Int) := by omega
    refine r_tr63_103 hC ⟨fun q => absurd q (by omega), fun _ => ?_⟩
    rw [uD.1, e1, e2]
    refine ⟨by constructor <;> omega, by constructor <;> omega, p_X10_boundFirst hC uD uT h1 (by omega) ⟨rfl, ?_⟩⟩
    dsimp only
    rw [u6]
    have vj : ∀ j, j ≠ 51 → j ≠ 63 → (ck_up (ck_up u 51 10 ((k * (A : Int) - (l : Int) - (A : Int)) / (A : Int))) 51 11 ((R : Int) - k + (k * (A : Int) - (l : Int) - (A : Int)) / (A : Int))) j = w j := fun j a b => by rw [ck_up_ne a, ck_up_ne a]; exact g5 j a b
    have v51 : ∀ j, j ≠ 10 → j ≠ 11 → (ck_up (ck_up u 51 10 ((k * (A : Int) - (l : Int) - (A : Int)) / (A : Int))) 51 11 ((R : Int) - k + (k * (A : Int) - (l : Int) - (A : Int)) / (A : Int))) 51 j = w 51 j := fun j a b => by rw [ck_up_nj b, ck_up_nj a]; exact g6 j a b
    have vr : (ck_up (ck_up u 51 10 ((k * (A : Int) - (l : Int) - (A : Int)) / (A : Int))) 51 11 ((R : Int) - k + (k * (A : Int) - (l : Int) - (A : Int)) / (A : Int))) 63 = u 63 := by rw [ck_up_ne (by decide), ck_up_ne (by decide)]
    have vb : (ck_up (ck_up u 51 10 ((k * (A : Int) - (l : Int) - (A : Int)) / (A : Int))) 51 11 ((R : Int) - k + (k * (A : Int) - (l : Int) - (A : Int)) / (A : Int))) 51 10 = cw_lo A k l ∧ (ck_up (ck_up u 51 10 ((k * (A : Int) - (l : Int) - (A : Int)) / (A : Int))) 51 11 ((R : Int) - k + (k * (A : Int) - (l : Int) - (A : Int)) / (A : Int))) 51 11 = (R : Int) - k + cw_lo A k l := ⟨by rw [ck_up_nj (by decide), ck_up_eq]; rfl, by rw [ck_up_eq]; rfl⟩
    generalize (ck_up (ck_up u 51 10 ((k * (A : Int) - (l : Int) - (A : Int)) / (A : Int))) 51 11 ((R : Int) - k + (k * (A : Int) - (l : Int) - (A : Int)) / (A : Int))) = v at *
    have vW : cw_tab A v := cw_tab_fr hW (v51 1 (by decide) (by decide)) (v51 7 (by decide) (by decide)) (fun j a b => vj j (by omega) (by omega))
    have vg : cw_gn R (k * (A : Int)) G v := by unfold cw_gn; rw [vj 58 (by decide) (by decide)]; exact hg
    have vrow : ∀ l' : Nat, (l' : Int) ≤ k * (A : Int) - (A : Int) → cw_row A R k G v l' := fun l' hl' => by unfold cw_row; rw [vj 57 (by decide) (by decide)]; exact hr l' hl'
    have tt := vW.2.1 c g3.1 g3.2
    refine S_X10_bestNext hC l fa hf (cs_hD hD (vj 3 (by decide) (by decide))) vW hG tk vg g1 (by omega) g2 g3 vb (vrow l (by omega)) (vrow (l + 1) g1) g4 ⟨_, rfl, fun _ => ?_⟩
    dsimp only
    rw [tt.2.1, tt.2.2.1, tt.2.2.2, n.2.2]
    refine ⟨by omega, g3, fun x13 e13 => ?_⟩
    have ex : x13 = cw_ch A R k G fa l r c := by omega
    rw [ex]
    refine ⟨by constructor <;> omega, by constructor <;> omega, by constructor <;> omega, by constructor <;> omega, ?_⟩
    rw [show ((l + 1 : Nat) : Int) + -1 = (l : Int) by omega]
    refine ih (r + cw_sh A c 1) (cw_ta A c + cw_ch A R k G fa l r c) _ (by omega) ci.1 (by omega) on.2.1 (fun j a b => by rw [ck_up_ne b]; exact vj j a b) (fun j a b => by rw [ck_up_ne (by decide)]; exact v51 j a b) (fun w' f1 f2 f3 f4 => h w' f1 f2 (fun q hq => ?_) (fun i hi => ?_))
    · rw [f3 q (by omega), ck_up_nj (by omega), vr]
    · cases i with
      | zero =>
        rw [cw_tv, f3 _ (by omega), show a1 * 24 + k * (A : Int) - ((l + 1 : Nat) : Int) + ((0 : Nat) : Int) = a1 * 24 + (k * (A : Int) - (l + 1)) by omega, ck_up_eq]
      | succ i =>
        rw [cw_tv, ← f4 i (by omega)]
        congr 1
        omega
theorem S_tr63 {g : ch_G} {A R : Nat} (hC : ck_Cx g A R) {d : Nat} {K : Option ck_V → ck_W → Prop} {w : ck_W} {a1 a3 k : Int} {G : Int → Int → Int} (fa : Bool) (hf : a3 = if fa then 1 else 0) (hF : fa = true) (hD : cs_D A R w) (hT : cs_T w) (hW : cw_tab A w) (hG : cw_Gv R G) (h1 : 0 ≤ a1 ∧ a1 ≤ 5) (hk : w 6 a1 = k) (hg : cw_gn R (k * (A : Int)) G w) (hr : ∀ l : Nat, (l : Int) ≤ k * (A : Int) - (A : Int) → cw_row A R k G w l) (h6 : w 60 a1 = cw_be A R k G / 1048576) (hb : cw_be A R k G ≠ 0) (h : ∀ w', (∀ j, j ≠ 51 → j ≠ 63 → w' j = w j) → (∀ j, j ≠ 10 → j ≠ 11 → w' 51 j = w 51 j) → (∀ q, ¬ (a1 * 24 ≤ q ∧ q < a1 * 24 + k * (A : Int)) → w' 63 q = w 63 q) → (∀ p, 0 ≤ p → p < k * (A : Int) → w' 63 (a1 * 24 + p) = cw_tr A R k G fa p) → K none w') : ck_Ex (ch_C g A R) (d + 4) mX10_trace [.inr (.inr 51), .inl a1, .inl (k * (A : Int) - (A : Int)), .inl a3] w K := by
  have c0 := cs_ar hC
  have n := cw_NA hC
  have s := cw_sz hC
  have tk := hT a1 h1.1 h1.2
  rw [hk] at tk
  have kA : k * (A : Int) ≤ 4 * (A : Int) := Int.mul_le_mul_of_nonneg_right tk.2 (by omega)
  have kA1 : 1 * (A : Int) ≤ k * (A : Int) := Int.mul_le_mul_of_nonneg_right tk.1 (by omega)
  have wb := cw_Wb hC tk
  have t0 := cw_tr0 hC tk hG fa hb
  have i0 := (cw_w0_in hC tk hG fa hb).1
  have td : (cw_w0 A R k G fa).tdiv (cw_N A) = cw_w0 A R k G fa / cw_N A := Int.tdiv_eq_ediv_of_nonneg i0.1
  have tm : (cw_w0 A R k G fa).tmod (cw_N A) = cw_w0 A R k G fa % cw_N A := Int.tmod_eq_emod_of_nonneg i0.1
  have htr : ∀ p, cw_tr A R k G fa p = if p < (A : Int) then cw_w0 A R k G fa / cw_N A + cw_sh A (cw_w0 A R k G fa % cw_N A) p.toNat else cw_tv A R k G fa (k * (A : Int) - (A : Int)).toNat (cw_w0 A R k G fa / cw_N A) (cw_w0 A R k G fa % cw_N A) (p - (A : Int)).toNat := fun p => rfl
  generalize cw_w0 A R k G fa / cw_N A = r0 at *
  generalize cw_w0 A R k G fa % cw_N A = cc at *
  have lo0 : cw_lo A k (((k * (A : Int) - (A : Int)).toNat : Nat) : Int) = 0 := by
    unfold cw_lo
    rw [show k * (A : Int) - (((k * (A : Int) - (A : Int)).toNat : Nat) : Int) - (A : Int) = 0 by omega, Int.zero_ediv]
  have lp : ∀ (m : Nat) (p : Int) (u : ck_W), (A : Int) - p = m → 0 ≤ p → (∀ j, j ≠ 63 → u j = w j) → (∀ q, ¬ (a1 * 24 ≤ q ∧ q < a1 * 24 + p) → u 63 q = w 63 q) → (∀ q, 0 ≤ q → q < p → u 63 (a1 * 24 + q) = r0 + cw_sh A cc q.toNat) → ck_At (ch_C g A R) (d + 4) mX10_trace K 53 [some (.inr (.inr 51)), some (.inl a1), some (.inl (k * (A : Int) - (A : Int))), some (.inl a3), some (.inr (.inr 63)), some (.inl (a1 * 24)), none, some (.inl r0), some (.inl cc), some (.inl p), none, none, none] [] u := by
    intro m
    induction m with
    | zero =>
      intro p u g1 g2 g3 g4 g5
      have u3 : u 3 0 = (A : Int) := by rw [g3 3 (by decide)]; exact hD.1
      refine r_tr63_53 hC ⟨fun _ => ?_, fun q => absurd (by omega) q⟩
      have l := L_tr63 (K := K) (d := d) hC fa hf hD hT hW hG h1 hk hg hr (k * (A : Int) - (A : Int)).toNat r0 cc u (by omega) (by rw [lo0]; omega) t0.2.1 t0.2.2.1 (fun j a b => g3 j b) (fun j _ _ => by rw [g3 51 (by decide)]) (fun w' f1 f2 f3 f4 => h w' f1 f2 (fun q hq => ?_) (fun q q0 q1 => ?_))
      · rw [show (((k * (A : Int) - (A : Int)).toNat : Nat) : Int) = k * (A : Int) - (A : Int) by omega] at l
        exact l
      · rw [f3 q (by omega), g4 q (by omega)]
      · rw [htr]
        split
        · rw [f3 _ (by omega)]; exact g5 q q0 (by omega)
        · rw [← f4 (q - (A : Int)).toNat (by omega)]
          congr 1
          omega
    | succ m ih =>
      intro p u g1 g2 g3 g4 g5
      have u3 : u 3 0 = (A : Int) := by rw [g3 3 (by decide)]; exact hD.1
      have sh := cw_shw hW (c := cc) (p := p) t0.2.1 (by omega)
      have u52 : u 52 (cc * (A : Int) + p) = w 52 (cc * (A : Int) + p) := by rw [g3 52 (by decide)]
      have xb := ix_b (x := cc) (c := p) (N := (A : Int)) (X := cw_N A) (by omega) (by omega)
      have rb := t0.2.2.2 p g2 (by omega)
      refine r_tr63_53 hC ?_
      rw [u3, u52, sh]
      refine ⟨fun q => absurd q (by omega), fun _ => ⟨by rw [s.2.2.1]; exact xb, by constructor <;> omega, by omega, by constructor <;> omega, ih (p + 1) _ (by omega) (by omega) (fun j a => by rw [ck_up_ne a]; exact g3 j a) (fun q hq => by rw [ck_up_nj (by omega)]; exact g4 q (by omega)) (fun q q0 q1 => ?_)⟩⟩
      by_cases z : q = p
      · rw [z, ck_up_eq]
      · rw [ck_up_nj (by omega)]; exact g5 q q0 (by omega)
  subst hF
  refine e_trace hC ⟨fun q => ?_, fun q => ?_⟩
  · exact absurd (hf.symm.trans q) (by decide)
  · refine ⟨by constructor <;> omega, S_X10_bestWindow hC true hf hD hT hW hG h1 hk hg (hr _ (by omega)) h6 ⟨_, rfl, fun _ => ?_⟩⟩
    dsimp only
    rw [hW.1, td, tm]
    exact ⟨by omega, by constructor <;> omega, by constructor <;> omega, lp A 0 w (by omega) (by omega) (fun _ _ => rfl) (fun _ _ => rfl) (fun q q0 q1 => by omega)⟩
