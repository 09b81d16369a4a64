/-! ===== the reference: seen, plan ===== -/
theorem dX12_seen_0 : decode cX12_seen 0 = .ok (.iload_n 1, 1) := dk_27 (by decide +kernel)
theorem dX12_seen_1 : decode cX12_seen 1 = .ok (.iconst 0, 1) := dk_3 (by decide +kernel)
theorem dX12_seen_2 : decode cX12_seen 2 = .ok (.bipush 10, 2) := dk_16 10 (by decide +kernel)
theorem dX12_seen_4 : decode cX12_seen 4 = .ok (.invokestatic 93, 3) := dk_184 0 93 (by decide +kernel)
theorem dX12_seen_7 : decode cX12_seen 7 = .ok (.ifCond .eq 13, 3) := dk_153 0 13 (by decide +kernel)
theorem dX12_seen_10 : decode cX12_seen 10 = .ok (.iload_n 2, 1) := dk_28 (by decide +kernel)
theorem dX12_seen_11 : decode cX12_seen 11 = .ok (.iconst 0, 1) := dk_3 (by decide +kernel)
theorem dX12_seen_12 : decode cX12_seen 12 = .ok (.bipush 9, 2) := dk_16 9 (by decide +kernel)
theorem dX12_seen_14 : decode cX12_seen 14 = .ok (.invokestatic 93, 3) := dk_184 0 93 (by decide +kernel)
theorem dX12_seen_17 : decode cX12_seen 17 = .ok (.ifCond .ne 5, 3) := dk_154 0 5 (by decide +kernel)
theorem dX12_seen_20 : decode cX12_seen 20 = .ok (.iconst (-1), 1) := dk_2 (by decide +kernel)
theorem dX12_seen_21 : decode cX12_seen 21 = .ok (.ireturn, 1) := dk_172 (by decide +kernel)
theorem dX12_seen_22 : decode cX12_seen 22 = .ok (.lconst 0, 1) := dk_9 (by decide +kernel)
theorem dX12_seen_23 : decode cX12_seen 23 = .ok (.lstore_n 3, 1) := dk_66 (by decide +kernel)
theorem dX12_seen_24 : decode cX12_seen 24 = .ok (.iconst 0, 1) := dk_3 (by decide +kernel)
theorem dX12_seen_25 : decode cX12_seen 25 = .ok (.istore 5, 2) := dk_54 (by decide +kernel)
theorem dX12_seen_27 : decode cX12_seen 27 = .ok (.iload 5, 2) := dk_21 (by decide +kernel)
theorem dX12_seen_29 : decode cX12_seen 29 = .ok (.sipush 512, 3) := dk_17 2 0 (by decide +kernel)
theorem dX12_seen_32 : decode cX12_seen 32 = .ok (.if_icmp .ge 105, 3) := dk_162 0 105 (by decide +kernel)
theorem dX12_seen_35 : decode cX12_seen 35 = .ok (.iconst 0, 1) := dk_3 (by decide +kernel)
theorem dX12_seen_36 : decode cX12_seen 36 = .ok (.istore 6, 2) := dk_54 (by decide +kernel)
theorem dX12_seen_38 : decode cX12_seen 38 = .ok (.iconst 0, 1) := dk_3 (by decide +kernel)
theorem dX12_seen_39 : decode cX12_seen 39 = .ok (.istore 7, 2) := dk_54 (by decide +kernel)
theorem dX12_seen_41 : decode cX12_seen 41 = .ok (.iload 7, 2) := dk_21 (by decide +kernel)
theorem dX12_seen_43 : decode cX12_seen 43 = .ok (.aload_n 0, 1) := dk_42 (by decide +kernel)
theorem dX12_seen_44 : decode cX12_seen 44 = .ok (.getfield 7, 3) := dk_180 0 7 (by decide +kernel)
theorem dX12_seen_47 : decode cX12_seen 47 = .ok (.iconst 4, 1) := dk_7 (by decide +kernel)
theorem dX12_seen_48 : decode cX12_seen 48 = .ok (.iaload, 1) := dk_46 (by decide +kernel)
theorem dX12_seen_49 : decode cX12_seen 49 = .ok (.if_icmp .ge 47, 3) := dk_162 0 47 (by decide +kernel)
theorem dX12_seen_52 : decode cX12_seen 52 = .ok (.iload 6, 2) := dk_21 (by decide +kernel)
theorem dX12_seen_54 : decode cX12_seen 54 = .ok (.ifCond .ne 42, 3) := dk_154 0 42 (by decide +kernel)
theorem dX12_seen_57 : decode cX12_seen 57 = .ok (.bipush 9, 2) := dk_16 9 (by decide +kernel)
theorem dX12_seen_59 : decode cX12_seen 59 = .ok (.iload 5, 2) := dk_21 (by decide +kernel)
theorem dX12_seen_61 : decode cX12_seen 61 = .ok (.aload_n 0, 1) := dk_42 (by decide +kernel)
theorem dX12_seen_62 : decode cX12_seen 62 = .ok (.getfield 7, 3) := dk_180 0 7 (by decide +kernel)
theorem dX12_seen_65 : decode cX12_seen 65 = .ok (.sipush 1270, 3) := dk_17 4 246 (by decide +kernel)
theorem dX12_seen_68 : decode cX12_seen 68 = .ok (.iconst 2, 1) := dk_5 (by decide +kernel)
theorem dX12_seen_69 : decode cX12_seen 69 = .ok (.iload 7, 2) := dk_21 (by decide +kernel)
theorem dX12_seen_71 : decode cX12_seen 71 = .ok (.imul, 1) := dk_104 (by decide +kernel)
theorem dX12_seen_72 : decode cX12_seen 72 = .ok (.iadd, 1) := dk_96 (by decide +kernel)
theorem dX12_seen_73 : decode cX12_seen 73 = .ok (.iaload, 1) := dk_46 (by decide +kernel)
theorem dX12_seen_74 : decode cX12_seen 74 = .ok (.ixor, 1) := dk_130 (by decide +kernel)
theorem dX12_seen_75 : decode cX12_seen 75 = .ok (.invokestatic 345, 3) := dk_184 1 89 (by decide +kernel)
theorem dX12_seen_78 : decode cX12_seen 78 = .ok (.isub, 1) := dk_100 (by decide +kernel)
theorem dX12_seen_79 : decode cX12_seen 79 = .ok (.iload_n 2, 1) := dk_28 (by decide +kernel)
theorem dX12_seen_80 : decode cX12_seen 80 = .ok (.if_icmp .lt 7, 3) := dk_161 0 7 (by decide +kernel)
theorem dX12_seen_83 : decode cX12_seen 83 = .ok (.iconst 1, 1) := dk_4 (by decide +kernel)
theorem dX12_seen_84 : decode cX12_seen 84 = .ok (.goto 4, 3) := dk_167 0 4 (by decide +kernel)
theorem dX12_seen_87 : decode cX12_seen 87 = .ok (.iconst 0, 1) := dk_3 (by decide +kernel)
theorem dX12_seen_88 : decode cX12_seen 88 = .ok (.istore 6, 2) := dk_54 (by decide +kernel)
theorem dX12_seen_90 : decode cX12_seen 90 = .ok (.iinc 7 1, 3) := dk_132 1 (by decide +kernel)
theorem dX12_seen_93 : decode cX12_seen 93 = .ok (.goto (-52), 3) := dk_167 255 204 (by decide +kernel)
theorem dX12_seen_96 : decode cX12_seen 96 = .ok (.iload 6, 2) := dk_21 (by decide +kernel)
theorem dX12_seen_98 : decode cX12_seen 98 = .ok (.ifCond .eq 33, 3) := dk_153 0 33 (by decide +kernel)
theorem dX12_seen_101 : decode cX12_seen 101 = .ok (.lload_n 3, 1) := dk_33 (by decide +kernel)
theorem dX12_seen_102 : decode cX12_seen 102 = .ok (.aload_n 0, 1) := dk_42 (by decide +kernel)
theorem dX12_seen_103 : decode cX12_seen 103 = .ok (.iload_n 1, 1) := dk_27 (by decide +kernel)
theorem dX12_seen_104 : decode cX12_seen 104 = .ok (.iload 5, 2) := dk_21 (by decide +kernel)
theorem dX12_seen_106 : decode cX12_seen 106 = .ok (.invokestatic 345, 3) := dk_184 1 89 (by decide +kernel)
theorem dX12_seen_109 : decode cX12_seen 109 = .ok (.invokevirtual 348, 3) := dk_182 1 92 (by decide +kernel)
theorem dX12_seen_112 : decode cX12_seen 112 = .ok (.aload_n 0, 1) := dk_42 (by decide +kernel)
theorem dX12_seen_113 : decode cX12_seen 113 = .ok (.bipush 10, 2) := dk_16 10 (by decide +kernel)
theorem dX12_seen_115 : decode cX12_seen 115 = .ok (.iload_n 1, 1) := dk_27 (by decide +kernel)
theorem dX12_seen_116 : decode cX12_seen 116 = .ok (.isub, 1) := dk_100 (by decide +kernel)
theorem dX12_seen_117 : decode cX12_seen 117 = .ok (.bipush 9, 2) := dk_16 9 (by decide +kernel)
theorem dX12_seen_119 : decode cX12_seen 119 = .ok (.iload 5, 2) := dk_21 (by decide +kernel)
theorem dX12_seen_121 : decode cX12_seen 121 = .ok (.invokestatic 345, 3) := dk_184 1 89 (by decide +kernel)
theorem dX12_seen_124 : decode cX12_seen 124 = .ok (.isub, 1) := dk_100 (by decide +kernel)
theorem dX12_seen_125 : decode cX12_seen 125 = .ok (.invokevirtual 348, 3) := dk_182 1 92 (by decide +kernel)
theorem dX12_seen_128 : decode cX12_seen 128 = .ok (.lmul, 1) := dk_105 (by decide +kernel)
theorem dX12_seen_129 : decode cX12_seen 129 = .ok (.ladd, 1) := dk_97 (by decide +kernel)
theorem dX12_seen_130 : decode cX12_seen 130 = .ok (.lstore_n 3, 1) := dk_66 (by decide +kernel)
theorem dX12_seen_131 : decode cX12_seen 131 = .ok (.iinc 5 1, 3) := dk_132 1 (by decide +kernel)
theorem dX12_seen_134 : decode cX12_seen 134 = .ok (.goto (-107), 3) := dk_167 255 149 (by decide +kernel)
theorem dX12_seen_137 : decode cX12_seen 137 = .ok (.lload_n 3, 1) := dk_33 (by decide +kernel)
theorem dX12_seen_138 : decode cX12_seen 138 = .ok (.l2i, 1) := dk_136 (by decide +kernel)
theorem dX12_seen_139 : decode cX12_seen 139 = .ok (.ireturn, 1) := dk_172 (by decide +kernel)
set_option maxRecDepth 8000 in
theorem e_X12_seen {g : ch_G} {A R : Nat} (hC : ck_Cx g A R) {d : Nat} {K : Option ck_V → ck_W → Prop} {w : ck_W} {a1 a2 : Int} (h : (0 ≤ a1 ∧ a1 ≤ 10 → (0 ≤ a2 ∧ a2 ≤ 9 → ck_At (ch_C g A R) (d + 1) mX12_seen K 27 [some (.inr (.inr 76)), some (.inl a1), some (.inl a2), some (.inr (.inl 0)), none, some (.inl 0), none, none] [] w) ∧ (¬ (0 ≤ a2 ∧ a2 ≤ 9) → K (some (.inl (-1))) w)) ∧ (¬ (0 ≤ a1 ∧ a1 ≤ 10) → K (some (.inl (-1))) w)) : ck_Ex (ch_C g A R) (d + 1) mX12_seen [.inr (.inr 76), .inl a1, .inl a2] w K :=
  ck_entry hC.1 [some (.inr (.inr 76)), some (.inl a1), some (.inl a2), none, none, none, none, none] (by decide) (Nat.le_of_ble_eq_true rfl) rfl (fun q => q) (ck_in (fun hl => (ck_iload_n 1 rfl 1 dX12_seen_0 rfl rfl (ck_iconst 2 rfl dX12_seen_1 rfl (ck_bipush 4 rfl dX12_seen_2 rfl (have h6 := h; ck_callS 7 rfl [.inl a1, .inl 0, .inl 10] [] dX12_seen_4 cs_X12_93 rfl rfl (Nat.le_of_ble_eq_true rfl) (And.intro hl.2.1 (And.intro (show ck_i 0 by decide) (And.intro (show ck_i 10 by decide) True.intro))) (p_X12_isIn hC (fun c4 _ => (ck_if_eq 10 rfl 20 dX12_seen_7 rfl (by decide) (fun q => absurd q (by decide)) (fun _ => (ck_iload_n 11 rfl 2 dX12_seen_10 rfl rfl (ck_iconst 12 rfl dX12_seen_11 rfl (ck_bipush 14 rfl dX12_seen_12 rfl (have h3 := (h6.1 c4); ck_callS 17 rfl [.inl a2, .inl 0, .inl 9] [] dX12_seen_14 cs_X12_93 rfl rfl (Nat.le_of_ble_eq_true rfl) (And.intro hl.2.2.1 (And.intro (show ck_i 0 by decide) (And.intro (show ck_i 9 by decide) True.intro))) (p_X12_isIn hC (fun c1 _ => (ck_if_ne 20 rfl 22 dX12_seen_17 rfl (by decide) (fun _ => (ck_lconst 23 rfl 0 dX12_seen_22 rfl (ck_lstore_n 24 rfl 3 [some (.inr (.inr 76)), some (.inl a1), some (.inl a2), some (.inr (.inl 0)), none, none, none, none] dX12_seen_23 rfl (Nat.le_of_ble_eq_true rfl) rfl rfl (show ck_l 0 by decide) (ck_iconst 25 rfl dX12_seen_24 rfl (ck_istore 27 rfl [some (.inr (.inr 76)), some (.inl a1), some (.inl a2), some (.inr (.inl 0)), none, some (.inl 0), none, none] dX12_seen_25 (Nat.le_of_ble_eq_true rfl) rfl rfl (show ck_i 0 by decide) (h3.1 c1)))))) (fun q => absurd q (by decide)))) (fun c2 _ => (ck_if_ne 20 rfl 22 dX12_seen_17 rfl (by decide) (fun q => absurd q (by decide)) (fun _ => (ck_iconst 21 rfl dX12_seen_20 rfl (ck_iret dX12_seen_21 rfl (show ck_i (-1) by decide) (h3.2 c2)))))))))))))) (fun c5 _ => (ck_if_eq 10 rfl 20 dX12_seen_7 rfl (by decide) (fun _ => (ck_iconst 21 rfl dX12_seen_20 rfl (ck_iret dX12_seen_21 rfl (show ck_i (-1) by decide) (h6.2 c5)))) (fun q => absurd q (by decide)))))))))))
set_option maxRecDepth 8000 in
theorem r_X12_seen_27 {g : ch_G} {A R : Nat} (hC : ck_Cx g A R) {d : Nat} {K : Option ck_V → ck_W → Prop} {w : ck_W} {a1 a2 a3 a5 : Int} (h : (512 ≤ a5 → K (some (.inl (ck_wr a3))) w) ∧ (¬ 512 ≤ a5 → ck_At (ch_C g A R) (d + 1) mX12_seen K 41 [some (.inr (.inr 76)), some (.inl a1), some (.inl a2), some (.inr (.inl a3)), none, some (.inl a5), some (.inl 0), some (.inl 0)] [] w)) : ck_At (ch_C g A R) (d + 1) mX12_seen K 27 [some (.inr (.inr 76)), some (.inl a1), some (.inl a2), some (.inr (.inl a3)), none, some (.inl a5), none, none] [] w :=
  ck_in (fun hl => (ck_iload 29 rfl dX12_seen_27 rfl (ck_sipush 32 rfl dX12_seen_29 rfl (ck_icmp_ge 35 rfl 137 dX12_seen_32 rfl hl.2.2.2.2.1 (show ck_i 512 by decide) (fun c1 => (ck_lload_n 138 rfl 3 dX12_seen_137 rfl rfl (ck_l2i 139 rfl dX12_seen_138 (ck_wrp (ck_iret dX12_seen_139 rfl (ck_rng _) (h.1 c1)))))) (fun c2 => (ck_iconst 36 rfl dX12_seen_35 rfl (ck_istore 38 rfl [some (.inr (.inr 76)), some (.inl a1), some (.inl a2), some (.inr (.inl a3)), none, some (.inl a5), some (.inl 0), none] dX12_seen_36 (Nat.le_of_ble_eq_true rfl) rfl rfl (show ck_i 0 by decide) (ck_iconst 39 rfl dX12_seen_38 rfl (ck_istore 41 rfl [some (.inr (.inr 76)), some (.inl a1), some (.inl a2), some (.inr (.inl a3)), none, some (.inl a5), some (.inl 0), some (.inl 0)] dX12_seen_39 (Nat.le_of_ble_eq_true rfl) rfl rfl (show ck_i 0 by decide) (h.2 c2))))))))))
set_option maxRecDepth 8000 in
theorem r_X12_seen_41 {g : ch_G} {A R : Nat} (hC : ck_Cx g A R) {d : Nat} {K : Option ck_V → ck_W → Prop} {w : ck_W} {a1 a2 a3 a5 a6 a7 : Int} (h : ((w 77 4) ≤ a7 → ck_At (ch_C g A R) (d + 1) mX12_seen K 96 [some (.inr (.inr 76)), some (.inl a1), some (.inl a2), some (.inr (.inl a3)), none, some (.inl a5), some (.inl a6), none] [] w) ∧ (¬ (w 77 4) ≤ a7 → (¬ a6 = 0 → ck_At (ch_C g A R) (d + 1) mX12_seen K 96 [some (.inr (.inr 76)), some (.inl a1), some (.inl a2), some (.inr (.inl a3)), none, some (.inl a5), some (.inl a6), none] [] w) ∧ (a6 = 0 → (0 ≤ (1270 + (2 * a7)) ∧ (1270 + (2 * a7)) < 1430) ∧ ((0 ≤ (ck_xor a5 (w 77 (1270 + (2 * a7)))) ∧ (ck_xor a5 (w 77 (1270 + (2 * a7)))) < 512) ∧ (ck_i (9 - (ck_on 9 (ck_xor a5 (w 77 (1270 + (2 * a7)))))) ∧ (((9 - (ck_on 9 (ck_xor a5 (w 77 (1270 + (2 * a7)))))) < a2 → ck_i (a7 + 1) ∧ (ck_At (ch_C g A R) (d + 1) mX12_seen K 41 [some (.inr (.inr 76)), some (.inl a1), some (.inl a2), some (.inr (.inl a3)), none, some (.inl a5), some (.inl 0), some (.inl (a7 + 1))] [] w)) ∧ (¬ (9 - (ck_on 9 (ck_xor a5 (w 77 (1270 + (2 * a7)))))) < a2 → ck_i (a7 + 1) ∧ (ck_At (ch_C g A R) (d + 1) mX12_seen K 41 [some (.inr (.inr 76)), some (.inl a1), some (.inl a2), some (.inr (.inl a3)), none, some (.inl a5), some (.inl 1), some (.inl (a7 + 1))] [] w)))))))) : ck_At (ch_C g A R) (d + 1) mX12_seen K 41 [some (.inr (.inr 76)), some (.inl a1), some (.inl a2), some (.inr (.inl a3)), none, some (.inl a5), some (.inl a6), some (.inl a7)] [] w :=
  ck_in (fun hl => (ck_iload 43 rfl dX12_seen_41 rfl (ck_aload_n 44 rfl 0 dX12_seen_43 rfl rfl (ck_getr 47 rfl dX12_seen_44 fl_X12_7 sh_76 rfl (ck_iconst 48 rfl dX12_seen_47 rfl (ck_iald 49 rfl dX12_seen_48 sh_77 (shn_77 hC) (by decide) _ rfl (fun (q1 : ck_i (w 77 4)) => (ck_icmp_ge 52 rfl 96 dX12_seen_49 rfl hl.2.2.2.2.2.2.1 q1 (fun c13 => (ck_drop [some (.inr (.inr 76)), some (.inl a1), some (.inl a2), some (.inr (.inl a3)), none, some (.inl a5), some (.inl a6), none] (And.intro rfl (And.intro rfl (And.intro rfl (And.intro rfl (And.intro rfl (And.intro rfl True.intro)))))) (h.1 c13))) (fun c14 => (ck_iload 54 rfl dX12_seen_52 rfl (have h15 := (h.2 c14); (ck_if_ne 57 rfl 96 dX12_seen_54 rfl hl.2.2.2.2.2.1 (fun c11 => (ck_drop [some (.inr (.inr 76)), some (.inl a1), some (.inl a2), some (.inr (.inl a3)), none, some (.inl a5), some (.inl a6), none] (And.intro rfl (And.intro rfl (And.intro rfl (And.intro rfl (And.intro rfl (And.intro rfl True.intro)))))) (h15.1 c11))) (fun c12 => (ck_bipush 59 rfl dX12_seen_57 rfl (ck_iload 61 rfl dX12_seen_59 rfl (ck_aload_n 62 rfl 0 dX12_seen_61 rfl rfl (ck_getr 65 rfl dX12_seen_62 fl_X12_7 sh_76 rfl (ck_sipush 68 rfl dX12_seen_65 rfl (ck_iconst 69 rfl dX12_seen_68 rfl (ck_iload 71 rfl dX12_seen_69 rfl (ck_imul 72 rfl dX12_seen_71 (ck_iadd 73 rfl dX12_seen_72 (have h17 := (h15.2 c12); have o2 := h17.1; have h16 := h17.2; (ck_iald 74 rfl dX12_seen_73 sh_77 (shn_77 hC) o2 _ rfl (fun (q3 : ck_i (w 77 (1270 + (2 * a7)))) => (ck_ixor 75 rfl dX12_seen_74 (have h19 := h16; have o4 := h19.1; have h18 := h19.2; (ck_callS 78 rfl [.inl (ck_xor a5 (w 77 (1270 + (2 * a7))))] [.inl 9] dX12_seen_75 cs_X12_345 rfl rfl (Nat.le_of_ble_eq_true rfl) (And.intro (ck_rng _) True.intro) (p_X12_ones hC o4 (fun q5 => (ck_isub 79 rfl dX12_seen_78 (ck_iload_n 80 rfl 2 dX12_seen_79 rfl rfl (have h21 := h18; have o6 := h21.1; have h20 := h21.2; (ck_icmp_lt 83 rfl 87 dX12_seen_80 rfl o6 hl.2.2.1 (fun c9 => (ck_iconst 88 rfl dX12_seen_87 rfl (ck_istore 90 rfl [some (.inr (.inr 76)), some (.inl a1), some (.inl a2), some (.inr (.inl a3)), none, some (.inl a5), some (.inl 0), some (.inl a7)] dX12_seen_88 (Nat.le_of_ble_eq_true rfl) rfl rfl (show ck_i 0 by decide) (have h23 := (h20.1 c9); have o7 := h23.1; have h22 := h23.2; (ck_iinc 93 rfl [some (.inr (.inr 76)), some (.inl a1), some (.inl a2), some (.inr (.inl a3)), none, some (.inl a5), some (.inl 0), some (.inl (a7 + 1))] dX12_seen_90 rfl (Nat.le_of_ble_eq_true rfl) rfl rfl o7 (ck_goto 41 dX12_seen_93 rfl h22)))))) (fun c10 => (ck_iconst 84 rfl dX12_seen_83 rfl (ck_goto 88 dX12_seen_84 rfl (ck_istore 90 rfl [some (.inr (.inr 76)), some (.inl a1), some (.inl a2), some (.inr (.inl a3)), none, some (.inl a5), some (.inl 1), some (.inl a7)] dX12_seen_88 (Nat.le_of_ble_eq_true rfl) rfl rfl (show ck_i 1 by decide) (have h25 := (h20.2 c10); have o8 := h25.1; have h24 := h25.2; (ck_iinc 93 rfl [some (.inr (.inr 76)), some (.inl a1), some (.inl a2), some (.inr (.inl a3)), none, some (.inl a5), some (.inl 1), some (.inl (a7 + 1))] dX12_seen_90 rfl (Nat.le_of_ble_eq_true rfl) rfl rfl o8 (ck_goto 41 dX12_seen_93 rfl h24)))))))))))))))))))))))))))))))))))))))))
set_option maxRecDepth 8000 in
theorem r_X12_seen_96 {g : ch_G} {A R : Nat} (hC : ck_Cx g A R) {d : Nat} {K : Option ck_V → ck_W → Prop} {w : ck_W} {a1 a2 a3 a5 a6 : Int} (h : (a6 = 0 → ck_i (a5 + 1) ∧ (ck_At (ch_C g A R) (d + 1) mX12_seen K 27 [some (.inr (.inr 76)), some (.inl a1), some (.inl a2), some (.inr (.inl a3)), none, some (.inl (a5 + 1)), none, none] [] w)) ∧ (¬ a6 = 0 → (0 ≤ a5 ∧ a5 < 512) ∧ ((0 ≤ a1) ∧ ((0 ≤ (ck_on 9 a5)) ∧ (((a1 ≤ 3 ∧ (ck_on 9 a5) ≤ 27) ∨ (a1 ≤ 10 ∧ (ck_on 9 a5) ≤ 12)) ∧ (ck_i (10 - a1) ∧ (ck_i (9 - (ck_on 9 a5)) ∧ ((0 ≤ (10 - a1)) ∧ ((0 ≤ (9 - (ck_on 9 a5))) ∧ ((((10 - a1) ≤ 3 ∧ (9 - (ck_on 9 a5)) ≤ 27) ∨ ((10 - a1) ≤ 10 ∧ (9 - (ck_on 9 a5)) ≤ 12)) ∧ (∀ x15, x15 = a3 + ((ck_pw a1 (ck_on 9 a5)) * (ck_pw (10 - a1) (9 - (ck_on 9 a5)))) → ck_l x15 ∧ (ck_i (a5 + 1) ∧ (ck_At (ch_C g A R) (d + 1) mX12_seen K 27 [some (.inr (.inr 76)), some (.inl a1), some (.inl a2), some (.inr (.inl x15)), none, some (.inl (a5 + 1)), none, none] [] w))))))))))))) : ck_At (ch_C g A R) (d + 1) mX12_seen K 96 [some (.inr (.inr 76)), some (.inl a1), some (.inl a2), some (.inr (.inl a3)), none, some (.inl a5), some (.inl a6), none] [] w :=
  ck_in (fun hl => (ck_iload 98 rfl dX12_seen_96 rfl (ck_if_eq 101 rfl 131 dX12_seen_98 rfl hl.2.2.2.2.2.1 (fun c19 => (have h22 := (h.1 c19); have o1 := h22.1; have h21 := h22.2; (ck_iinc 134 rfl [some (.inr (.inr 76)), some (.inl a1), some (.inl a2), some (.inr (.inl a3)), none, some (.inl (a5 + 1)), some (.inl a6), none] dX12_seen_131 rfl (Nat.le_of_ble_eq_true rfl) rfl rfl o1 (ck_goto 27 dX12_seen_134 rfl (ck_drop [some (.inr (.inr 76)), some (.inl a1), some (.inl a2), some (.inr (.inl a3)), none, some (.inl (a5 + 1)), none, none] (And.intro rfl (And.intro rfl (And.intro rfl (And.intro rfl (And.intro rfl True.intro))))) h21))))) (fun c20 => (ck_lload_n 102 rfl 3 dX12_seen_101 rfl rfl (ck_aload_n 103 rfl 0 dX12_seen_102 rfl rfl (ck_iload_n 104 rfl 1 dX12_seen_103 rfl rfl (ck_iload 106 rfl dX12_seen_104 rfl (have h24 := (h.2 c20); have o2 := h24.1; have h23 := h24.2; (ck_callS 109 rfl [.inl a5] [.inl a1, .inr (.inr 76), .inr (.inl a3)] dX12_seen_106 cs_X12_345 rfl rfl (Nat.le_of_ble_eq_true rfl) (And.intro hl.2.2.2.2.1 True.intro) (p_X12_ones hC o2 (fun q3 => (have h26 := h23; have o4 := h26.1; have h25 := h26.2; (have h28 := h25; have o5 := h28.1; have h27 := h28.2; (have h30 := h27; have o6 := h30.1; have h29 := h30.2; (ck_callV 112 rfl [.inl a1, .inl (ck_on 9 a5)] [.inr (.inl a3)] dX12_seen_109 cv_X12_348 sh_76 rfl rfl (Nat.le_of_ble_eq_true rfl) (And.intro hl.2.1 (And.intro q3.1 True.intro)) (p_X12_power hC o4 o5 o6 (fun q7 => (ck_aload_n 113 rfl 0 dX12_seen_112 rfl rfl (ck_bipush 115 rfl dX12_seen_113 rfl (ck_iload_n 116 rfl 1 dX12_seen_115 rfl rfl (ck_isub 117 rfl dX12_seen_116 (ck_bipush 119 rfl dX12_seen_117 rfl (ck_iload 121 rfl dX12_seen_119 rfl (ck_callS 124 rfl [.inl a5] [.inl 9, .inl (10 - a1), .inr (.inr 76), .inr (.inl (ck_pw a1 (ck_on 9 a5))), .inr (.inl a3)] dX12_seen_121 cs_X12_345 rfl rfl (Nat.le_of_ble_eq_true rfl) (And.intro hl.2.2.2.2.1 True.intro) (p_X12_ones hC o2 (fun q8 => (ck_isub 125 rfl dX12_seen_124 (have h32 := h29; have o9 := h32.1; have h31 := h32.2; (have h34 := h31; have o10 := h34.1; have h33 := h34.2; (have h36 := h33; have o11 := h36.1; have h35 := h36.2; (have h38 := h35; have o12 := h38.1; have h37 := h38.2; (have h40 := h37; have o13 := h40.1; have h39 := h40.2; (ck_callV 128 rfl [.inl (10 - a1), .inl (9 - (ck_on 9 a5))] [.inr (.inl (ck_pw a1 (ck_on 9 a5))), .inr (.inl a3)] dX12_seen_125 cv_X12_348 sh_76 rfl rfl (Nat.le_of_ble_eq_true rfl) (And.intro o9 (And.intro o10 True.intro)) (p_X12_power hC o11 o12 o13 (fun q14 => (ck_lmul 129 rfl dX12_seen_128 (ck_ladd 130 rfl dX12_seen_129 (ck_nml (fun x15 e16 => (have h42 := (h39 x15 e16); have o17 := h42.1; have h41 := h42.2; (ck_lstore_n 131 rfl 3 [some (.inr (.inr 76)), some (.inl a1), some (.inl a2), some (.inr (.inl x15)), none, some (.inl a5), some (.inl a6), none] dX12_seen_130 rfl (Nat.le_of_ble_eq_true rfl) rfl rfl o17 (have h44 := h41; have o18 := h44.1; have h43 := h44.2; (ck_iinc 134 rfl [some (.inr (.inr 76)), some (.inl a1), some (.inl a2), some (.inr (.inl x15)), none, some (.inl (a5 + 1)), some (.inl a6), none] dX12_seen_131 rfl (Nat.le_of_ble_eq_true rfl) rfl rfl o18 (ck_goto 27 dX12_seen_134 rfl (ck_drop [some (.inr (.inr 76)), some (.inl a1), some (.inl a2), some (.inr (.inl x15)), none, some (.inl (a5 + 1)), none, none] (And.intro rfl (And.intro rfl (And.intro rfl (And.intro rfl (And.intro rfl True.intro))))) h43))))))))))))))))))))))))))))))))))))))))))))))
theorem M_seen {g : ch_G} {A R : Nat} (hC : ck_Cx g A R) {d : Nat} {K : Option ck_V → ck_W → Prop} {w : ck_W} {a1 a2 : Int} (hI : rm_I A R w) (h : ∀ v, K (some (.inl v)) w) : ck_Ex (ch_C g A R) (d + 1) mX12_seen [.inr (.inr 76), .inl a1, .inl a2] w K := by
  have f0 := rm_c0 hI.2.2.2.1
  refine e_X12_seen hC ⟨fun q1 => ⟨fun q2 => ?_, fun _ => h _⟩, fun _ => h _⟩
  have l : ∀ (m : Nat) (a3 a5 : Int), 512 - a5 = m → 0 ≤ a5 → (0 ≤ a3 ∧ a3 ≤ 1000000000 * a5) → ck_At (ch_C g A R) (d + 1) mX12_seen K 27 [some (.inr (.inr 76)), some (.inl a1), some (.inl a2), some (.inr (.inl a3)), none, some (.inl a5), none, none] [] w := by
    intro m
    induction m with
    | zero =>
      intro a3 a5 q3 q4 q5
      exact r_X12_seen_27 hC ⟨fun _ => h _, fun z => absurd (by omega) z⟩
    | succ m ih =>
      intro a3 a5 q3 q4 q5
      have tail : ∀ a6, ck_At (ch_C g A R) (d + 1) mX12_seen K 96 [some (.inr (.inr 76)), some (.inl a1), some (.inl a2), some (.inr (.inl a3)), none, some (.inl a5), some (.inl a6), none] [] w := fun a6 => by
        have ob := ck_onb (x := a5) (by omega) 9 (by decide)
        have fb := ck_fitb (h := a1) (m := 10 - a1) (a := ck_on 9 a5) (n := 9) (top := 10) (by omega) (by omega) (by omega)
        rw [show ck_pw ((10 : Nat) : Int) 9 = 1000000000 by decide] at fb
        have p1 := (ck_pw_b (b := a1) (e := ck_on 9 a5) (by omega) (by omega)).1
        have p2 := (ck_pw_b (b := 10 - a1) (e := 9 - ck_on 9 a5) (by omega) (by omega)).1
        have pp := Int.mul_nonneg p1 p2
        refine r_X12_seen_96 hC ⟨fun _ => ⟨by constructor <;> omega, ih _ _ (by omega) (by omega) (by omega)⟩, fun _ => ?_⟩
        with_reducible repeat' (first | apply And.intro | intro _)
        all_goals first | omega | skip
        all_goals exact ih _ _ (by omega) (by omega) (by omega)
      have l2 : ∀ (m2 : Nat) (a6 a7 : Int), w 77 4 - a7 = m2 → 0 ≤ a7 → ck_At (ch_C g A R) (d + 1) mX12_seen K 41 [some (.inr (.inr 76)), some (.inl a1), some (.inl a2), some (.inr (.inl a3)), none, some (.inl a5), some (.inl a6), some (.inl a7)] [] w := by
        intro m2
        induction m2 with
        | zero =>
          intro a6 a7 b1 b2
          exact r_X12_seen_41 hC ⟨fun _ => tail a6, fun z => absurd (by omega) z⟩
        | succ m2 ih2 =>
          intro a6 a7 b1 b2
          have l0 := rm_let0 hI.2.2.2.1 (k := a7) b2 (by omega)
          have xb := kb_xor9 (x := a5) (y := w 77 (1270 + 2 * a7)) (by omega) (by omega)
          have ob := ck_onb xb 9 (by decide)
          refine r_X12_seen_41 hC ⟨fun z => absurd z (by omega), fun _ => ⟨fun _ => tail a6, fun _ => ?_⟩⟩
          with_reducible repeat' (first | apply And.intro | intro _)
          all_goals first | omega | skip
          all_goals exact ih2 _ _ (by omega) (by omega)
      exact r_X12_seen_27 hC ⟨fun z => absurd z (by omega), fun _ => l2 (w 77 4).toNat 0 0 (by omega) (by omega)⟩
  exact l 512 0 0 (by omega) (by omega) (by omega)
theorem dX12_hoursOf_0 : decode cX12_hoursOf 0 = .ok (.iconst 0, 1) := dk_3 (by decide +kernel)
theorem dX12_hoursOf_1 : decode cX12_hoursOf 1 = .ok (.istore_n 2, 1) := dk_61 (by decide +kernel)
theorem dX12_hoursOf_2 : decode cX12_hoursOf 2 = .ok (.iconst 0, 1) := dk_3 (by decide +kernel)
theorem dX12_hoursOf_3 : decode cX12_hoursOf 3 = .ok (.istore_n 3, 1) := dk_62 (by decide +kernel)
theorem dX12_hoursOf_4 : decode cX12_hoursOf 4 = .ok (.iconst 0, 1) := dk_3 (by decide +kernel)
theorem dX12_hoursOf_5 : decode cX12_hoursOf 5 = .ok (.istore 4, 2) := dk_54 (by decide +kernel)
theorem dX12_hoursOf_7 : decode cX12_hoursOf 7 = .ok (.iload 4, 2) := dk_21 (by decide +kernel)
theorem dX12_hoursOf_9 : decode cX12_hoursOf 9 = .ok (.aload_n 0, 1) := dk_42 (by decide +kernel)
theorem dX12_hoursOf_10 : decode cX12_hoursOf 10 = .ok (.getfield 7, 3) := dk_180 0 7 (by decide +kernel)
theorem dX12_hoursOf_13 : decode cX12_hoursOf 13 = .ok (.bipush 6, 2) := dk_16 6 (by decide +kernel)
theorem dX12_hoursOf_15 : decode cX12_hoursOf 15 = .ok (.iaload, 1) := dk_46 (by decide +kernel)
theorem dX12_hoursOf_16 : decode cX12_hoursOf 16 = .ok (.if_icmp .ge 57, 3) := dk_162 0 57 (by decide +kernel)
theorem dX12_hoursOf_19 : decode cX12_hoursOf 19 = .ok (.iload_n 1, 1) := dk_27 (by decide +kernel)
theorem dX12_hoursOf_20 : decode cX12_hoursOf 20 = .ok (.iload 4, 2) := dk_21 (by decide +kernel)
theorem dX12_hoursOf_22 : decode cX12_hoursOf 22 = .ok (.ishr, 1) := dk_122 (by decide +kernel)
theorem dX12_hoursOf_23 : decode cX12_hoursOf 23 = .ok (.iconst 1, 1) := dk_4 (by decide +kernel)
theorem dX12_hoursOf_24 : decode cX12_hoursOf 24 = .ok (.iand, 1) := dk_126 (by decide +kernel)
theorem dX12_hoursOf_25 : decode cX12_hoursOf 25 = .ok (.ifCond .ne 6, 3) := dk_154 0 6 (by decide +kernel)
theorem dX12_hoursOf_28 : decode cX12_hoursOf 28 = .ok (.goto 39, 3) := dk_167 0 39 (by decide +kernel)
theorem dX12_hoursOf_31 : decode cX12_hoursOf 31 = .ok (.iload_n 2, 1) := dk_28 (by decide +kernel)
theorem dX12_hoursOf_32 : decode cX12_hoursOf 32 = .ok (.aload_n 0, 1) := dk_42 (by decide +kernel)
theorem dX12_hoursOf_33 : decode cX12_hoursOf 33 = .ok (.getfield 7, 3) := dk_180 0 7 (by decide +kernel)
theorem dX12_hoursOf_36 : decode cX12_hoursOf 36 = .ok (.sipush 1360, 3) := dk_17 5 80 (by decide +kernel)
theorem dX12_hoursOf_39 : decode cX12_hoursOf 39 = .ok (.iconst 3, 1) := dk_6 (by decide +kernel)
theorem dX12_hoursOf_40 : decode cX12_hoursOf 40 = .ok (.iload 4, 2) := dk_21 (by decide +kernel)
theorem dX12_hoursOf_42 : decode cX12_hoursOf 42 = .ok (.imul, 1) := dk_104 (by decide +kernel)
theorem dX12_hoursOf_43 : decode cX12_hoursOf 43 = .ok (.iadd, 1) := dk_96 (by decide +kernel)
theorem dX12_hoursOf_44 : decode cX12_hoursOf 44 = .ok (.iaload, 1) := dk_46 (by decide +kernel)
theorem dX12_hoursOf_45 : decode cX12_hoursOf 45 = .ok (.iadd, 1) := dk_96 (by decide +kernel)
theorem dX12_hoursOf_46 : decode cX12_hoursOf 46 = .ok (.istore_n 2, 1) := dk_61 (by decide +kernel)
theorem dX12_hoursOf_47 : decode cX12_hoursOf 47 = .ok (.iload_n 3, 1) := dk_29 (by decide +kernel)
theorem dX12_hoursOf_48 : decode cX12_hoursOf 48 = .ok (.iconst 1, 1) := dk_4 (by decide +kernel)
theorem dX12_hoursOf_49 : decode cX12_hoursOf 49 = .ok (.aload_n 0, 1) := dk_42 (by decide +kernel)
theorem dX12_hoursOf_50 : decode cX12_hoursOf 50 = .ok (.getfield 7, 3) := dk_180 0 7 (by decide +kernel)
theorem dX12_hoursOf_53 : decode cX12_hoursOf 53 = .ok (.sipush 1360, 3) := dk_17 5 80 (by decide +kernel)
theorem dX12_hoursOf_56 : decode cX12_hoursOf 56 = .ok (.iconst 3, 1) := dk_6 (by decide +kernel)
theorem dX12_hoursOf_57 : decode cX12_hoursOf 57 = .ok (.iload 4, 2) := dk_21 (by decide +kernel)
theorem dX12_hoursOf_59 : decode cX12_hoursOf 59 = .ok (.imul, 1) := dk_104 (by decide +kernel)
theorem dX12_hoursOf_60 : decode cX12_hoursOf 60 = .ok (.iadd, 1) := dk_96 (by decide +kernel)
theorem dX12_hoursOf_61 : decode cX12_hoursOf 61 = .ok (.iconst 2, 1) := dk_5 (by decide +kernel)
theorem dX12_hoursOf_62 : decode cX12_hoursOf 62 = .ok (.iadd, 1) := dk_96 (by decide +kernel)
theorem dX12_hoursOf_63 : decode cX12_hoursOf 63 = .ok (.iaload, 1) := dk_46 (by decide +kernel)
theorem dX12_hoursOf_64 : decode cX12_hoursOf 64 = .ok (.ishl, 1) := dk_120 (by decide +kernel)
theorem dX12_hoursOf_65 : decode cX12_hoursOf 65 = .ok (.ior, 1) := dk_128 (by decide +kernel)
theorem dX12_hoursOf_66 : decode cX12_hoursOf 66 = .ok (.istore_n 3, 1) := dk_62 (by decide +kernel)
theorem dX12_hoursOf_67 : decode cX12_hoursOf 67 = .ok (.iinc 4 1, 3) := dk_132 1 (by decide +kernel)
theorem dX12_hoursOf_70 : decode cX12_hoursOf 70 = .ok (.goto (-63), 3) := dk_167 255 193 (by decide +kernel)
theorem dX12_hoursOf_73 : decode cX12_hoursOf 73 = .ok (.iconst 0, 1) := dk_3 (by decide +kernel)
theorem dX12_hoursOf_74 : decode cX12_hoursOf 74 = .ok (.istore 4, 2) := dk_54 (by decide +kernel)
theorem dX12_hoursOf_76 : decode cX12_hoursOf 76 = .ok (.iload 4, 2) := dk_21 (by decide +kernel)
theorem dX12_hoursOf_78 : decode cX12_hoursOf 78 = .ok (.iconst 4, 1) := dk_7 (by decide +kernel)
theorem dX12_hoursOf_79 : decode cX12_hoursOf 79 = .ok (.if_icmp .ge 37, 3) := dk_162 0 37 (by decide +kernel)
theorem dX12_hoursOf_82 : decode cX12_hoursOf 82 = .ok (.iload_n 2, 1) := dk_28 (by decide +kernel)
theorem dX12_hoursOf_83 : decode cX12_hoursOf 83 = .ok (.iload_n 3, 1) := dk_29 (by decide +kernel)
theorem dX12_hoursOf_84 : decode cX12_hoursOf 84 = .ok (.iload 4, 2) := dk_21 (by decide +kernel)
theorem dX12_hoursOf_86 : decode cX12_hoursOf 86 = .ok (.ishr, 1) := dk_122 (by decide +kernel)
theorem dX12_hoursOf_87 : decode cX12_hoursOf 87 = .ok (.iconst 1, 1) := dk_4 (by decide +kernel)
theorem dX12_hoursOf_88 : decode cX12_hoursOf 88 = .ok (.iand, 1) := dk_126 (by decide +kernel)
theorem dX12_hoursOf_89 : decode cX12_hoursOf 89 = .ok (.iconst 1, 1) := dk_4 (by decide +kernel)
theorem dX12_hoursOf_90 : decode cX12_hoursOf 90 = .ok (.if_icmp .ne 17, 3) := dk_160 0 17 (by decide +kernel)
theorem dX12_hoursOf_93 : decode cX12_hoursOf 93 = .ok (.aload_n 0, 1) := dk_42 (by decide +kernel)
theorem dX12_hoursOf_94 : decode cX12_hoursOf 94 = .ok (.getfield 7, 3) := dk_180 0 7 (by decide +kernel)
theorem dX12_hoursOf_97 : decode cX12_hoursOf 97 = .ok (.sipush 1420, 3) := dk_17 5 140 (by decide +kernel)
theorem dX12_hoursOf_100 : decode cX12_hoursOf 100 = .ok (.iload 4, 2) := dk_21 (by decide +kernel)
theorem dX12_hoursOf_102 : decode cX12_hoursOf 102 = .ok (.iadd, 1) := dk_96 (by decide +kernel)
theorem dX12_hoursOf_103 : decode cX12_hoursOf 103 = .ok (.iaload, 1) := dk_46 (by decide +kernel)
theorem dX12_hoursOf_104 : decode cX12_hoursOf 104 = .ok (.goto 4, 3) := dk_167 0 4 (by decide +kernel)
theorem dX12_hoursOf_107 : decode cX12_hoursOf 107 = .ok (.iconst 0, 1) := dk_3 (by decide +kernel)
theorem dX12_hoursOf_108 : decode cX12_hoursOf 108 = .ok (.iadd, 1) := dk_96 (by decide +kernel)
theorem dX12_hoursOf_109 : decode cX12_hoursOf 109 = .ok (.istore_n 2, 1) := dk_61 (by decide +kernel)
theorem dX12_hoursOf_110 : decode cX12_hoursOf 110 = .ok (.iinc 4 1, 3) := dk_132 1 (by decide +kernel)
theorem dX12_hoursOf_113 : decode cX12_hoursOf 113 = .ok (.goto (-37), 3) := dk_167 255 219 (by decide +kernel)
theorem dX12_hoursOf_116 : decode cX12_hoursOf 116 = .ok (.iload_n 2, 1) := dk_28 (by decide +kernel)
theorem dX12_hoursOf_117 : decode cX12_hoursOf 117 = .ok (.ireturn, 1) := dk_172 (by decide +kernel)
set_option maxRecDepth 8000 in
theorem e_X12_hoursOf {g : ch_G} {A R : Nat} (hC : ck_Cx g A R) {d : Nat} {K : Option ck_V → ck_W → Prop} {w : ck_W} {a1 : Int} (h : ck_At (ch_C g A R) d mX12_hoursOf K 7 [some (.inr (.inr 76)), some (.inl a1), some (.inl 0), some (.inl 0), some (.inl 0)] [] w) : ck_Ex (ch_C g A R) d mX12_hoursOf [.inr (.inr 76), .inl a1] w K :=
  ck_entry hC.1 [some (.inr (.inr 76)), some (.inl a1), none, none, none] (by decide) (Nat.le_of_ble_eq_true rfl) rfl (fun q => q) (ck_in (fun hl => (ck_iconst 1 rfl dX12_hoursOf_0 rfl (ck_istore_n 2 rfl 2 [some (.inr (.inr 76)), some (.inl a1), some (.inl 0), none, none] dX12_hoursOf_1 rfl (Nat.le_of_ble_eq_true rfl) rfl rfl (show ck_i 0 by decide) (ck_iconst 3 rfl dX12_hoursOf_2 rfl (ck_istore_n 4 rfl 3 [some (.inr (.inr 76)), some (.inl a1), some (.inl 0), some (.inl 0), none] dX12_hoursOf_3 rfl (Nat.le_of_ble_eq_true rfl) rfl rfl (show ck_i 0 by decide) (ck_iconst 5 rfl dX12_hoursOf_4 rfl (ck_istore 7 rfl [some (.inr (.inr 76)), some (.inl a1), some (.inl 0), some (.inl 0), some (.inl 0)] dX12_hoursOf_5 (Nat.le_of_ble_eq_true rfl) rfl rfl (show ck_i 0 by decide) h))))))))
set_option maxRecDepth 8000 in
theorem r_X12_hoursOf_7 {g : ch_G} {A R : Nat} (hC : ck_Cx g A R) {d : Nat} {K : Option ck_V → ck_W → Prop} {w : ck_W} {a1 a2 a3 a4 : Int} (h : ((w 77 6) ≤ a4 → ck_At (ch_C g A R) d mX12_hoursOf K 76 [some (.inr (.inr 76)), none, some (.inl a2), some (.inl a3), some (.inl 0)] [] w) ∧ (¬ (w 77 6) ≤ a4 → (¬ (ck_and (ck_shr a1 a4) 1) = 0 → (0 ≤ (1360 + (3 * a4)) ∧ (1360 + (3 * a4)) < 1430) ∧ (∀ x4, x4 = a2 + (w 77 (1360 + (3 * a4))) → ck_i x4 ∧ ((0 ≤ ((1360 + (3 * a4)) + 2) ∧ ((1360 + (3 * a4)) + 2) < 1430) ∧ (∀ x9, x9 = ck_or a3 (ck_shl 1 (w 77 ((1360 + (3 * a4)) + 2))) → ck_i (a4 + 1) ∧ (ck_At (ch_C g A R) d mX12_hoursOf K 7 [some (.inr (.inr 76)), some (.inl a1), some (.inl x4), some (.inl x9), some (.inl (a4 + 1))] [] w))))) ∧ ((ck_and (ck_shr a1 a4) 1) = 0 → ck_i (a4 + 1) ∧ (ck_At (ch_C g A R) d mX12_hoursOf K 7 [some (.inr (.inr 76)), some (.inl a1), some (.inl a2), some (.inl a3), some (.inl (a4 + 1))] [] w)))) : ck_At (ch_C g A R) d mX12_hoursOf K 7 [some (.inr (.inr 76)), some (.inl a1), some (.inl a2), some (.inl a3), some (.inl a4)] [] w :=
  ck_in (fun hl => (ck_iload 9 rfl dX12_hoursOf_7 rfl (ck_aload_n 10 rfl 0 dX12_hoursOf_9 rfl rfl (ck_getr 13 rfl dX12_hoursOf_10 fl_X12_7 sh_76 rfl (ck_bipush 15 rfl dX12_hoursOf_13 rfl (ck_iald 16 rfl dX12_hoursOf_15 sh_77 (shn_77 hC) (by decide) _ rfl (fun (q1 : ck_i (w 77 6)) => (ck_icmp_ge 19 rfl 73 dX12_hoursOf_16 rfl hl.2.2.2.2.1 q1 (fun c15 => (ck_iconst 74 rfl dX12_hoursOf_73 rfl (ck_istore 76 rfl [some (.inr (.inr 76)), some (.inl a1), some (.inl a2), some (.inl a3), some (.inl 0)] dX12_hoursOf_74 (Nat.le_of_ble_eq_true rfl) rfl rfl (show ck_i 0 by decide) (ck_drop [some (.inr (.inr 76)), none, some (.inl a2), some (.inl a3), some (.inl 0)] (And.intro rfl (And.intro rfl (And.intro rfl (And.intro rfl True.intro)))) (h.1 c15))))) (fun c16 => (ck_iload_n 20 rfl 1 dX12_hoursOf_19 rfl rfl (ck_iload 22 rfl dX12_hoursOf_20 rfl (ck_ishr 23 rfl dX12_hoursOf_22 (ck_iconst 24 rfl dX12_hoursOf_23 rfl (ck_iand 25 rfl dX12_hoursOf_24 (have h17 := (h.2 c16); (ck_if_ne 28 rfl 31 dX12_hoursOf_25 rfl (ck_rng _) (fun c13 => (ck_iload_n 32 rfl 2 dX12_hoursOf_31 rfl rfl (ck_aload_n 33 rfl 0 dX12_hoursOf_32 rfl rfl (ck_getr 36 rfl dX12_hoursOf_33 fl_X12_7 sh_76 rfl (ck_sipush 39 rfl dX12_hoursOf_36 rfl (ck_iconst 40 rfl dX12_hoursOf_39 rfl (ck_iload 42 rfl dX12_hoursOf_40 rfl (ck_imul 43 rfl dX12_hoursOf_42 (ck_iadd 44 rfl dX12_hoursOf_43 (have h19 := (h17.1 c13); have o2 := h19.1; have h18 := h19.2; (ck_iald 45 rfl dX12_hoursOf_44 sh_77 (shn_77 hC) o2 _ rfl (fun (q3 : ck_i (w 77 (1360 + (3 * a4)))) => (ck_iadd 46 rfl dX12_hoursOf_45 (ck_nmi (fun x4 e5 => (have h21 := (h18 x4 e5); have o6 := h21.1; have h20 := h21.2; (ck_istore_n 47 rfl 2 [some (.inr (.inr 76)), some (.inl a1), some (.inl x4), some (.inl a3), some (.inl a4)] dX12_hoursOf_46 rfl (Nat.le_of_ble_eq_true rfl) rfl rfl o6 (ck_iload_n 48 rfl 3 dX12_hoursOf_47 rfl rfl (ck_iconst 49 rfl dX12_hoursOf_48 rfl (ck_aload_n 50 rfl 0 dX12_hoursOf_49 rfl rfl (ck_getr 53 rfl dX12_hoursOf_50 fl_X12_7 sh_76 rfl (ck_sipush 56 rfl dX12_hoursOf_53 rfl (ck_iconst 57 rfl dX12_hoursOf_56 rfl (ck_iload 59 rfl dX12_hoursOf_57 rfl (ck_imul 60 rfl dX12_hoursOf_59 (ck_iadd 61 rfl dX12_hoursOf_60 (ck_iconst 62 rfl dX12_hoursOf_61 rfl (ck_iadd 63 rfl dX12_hoursOf_62 (have h23 := h20; have o7 := h23.1; have h22 := h23.2; (ck_iald 64 rfl dX12_hoursOf_63 sh_77 (shn_77 hC) o7 _ rfl (fun (q8 : ck_i (w 77 ((1360 + (3 * a4)) + 2))) => (ck_ishl 65 rfl dX12_hoursOf_64 (ck_ior 66 rfl dX12_hoursOf_65 (ck_nmi (fun x9 e10 => (ck_istore_n 67 rfl 3 [some (.inr (.inr 76)), some (.inl a1), some (.inl x4), some (.inl x9), some (.inl a4)] dX12_hoursOf_66 rfl (Nat.le_of_ble_eq_true rfl) rfl rfl (by rw [e10]; exact (ck_rng _)) (have h25 := (h22 x9 e10); have o11 := h25.1; have h24 := h25.2; (ck_iinc 70 rfl [some (.inr (.inr 76)), some (.inl a1), some (.inl x4), some (.inl x9), some (.inl (a4 + 1))] dX12_hoursOf_67 rfl (Nat.le_of_ble_eq_true rfl) rfl rfl o11 (ck_goto 7 dX12_hoursOf_70 rfl h24))))))))))))))))))))))))))))))))))))))) (fun c14 => (ck_goto 67 dX12_hoursOf_28 rfl (have h27 := (h17.2 c14); have o12 := h27.1; have h26 := h27.2; (ck_iinc 70 rfl [some (.inr (.inr 76)), some (.inl a1), some (.inl a2), some (.inl a3), some (.inl (a4 + 1))] dX12_hoursOf_67 rfl (Nat.le_of_ble_eq_true rfl) rfl rfl o12 (ck_goto 7 dX12_hoursOf_70 rfl h26)))))))))))))))))))))
set_option maxRecDepth 8000 in
theorem r_X12_hoursOf_76 {g : ch_G} {A R : Nat} (hC : ck_Cx g A R) {d : Nat} {K : Option ck_V → ck_W → Prop} {w : ck_W} {a2 a3 a4 : Int} (h : (4 ≤ a4 → K (some (.inl a2)) w) ∧ (¬ 4 ≤ a4 → (¬ (ck_and (ck_shr a3 a4) 1) = 1 → ck_i (a2 + 0) ∧ (ck_i (a4 + 1) ∧ (ck_At (ch_C g A R) d mX12_hoursOf K 76 [some (.inr (.inr 76)), none, some (.inl (a2 + 0)), some (.inl a3), some (.inl (a4 + 1))] [] w))) ∧ ((ck_and (ck_shr a3 a4) 1) = 1 → (0 ≤ (1420 + a4) ∧ (1420 + a4) < 1430) ∧ (ck_i (a2 + (w 77 (1420 + a4))) ∧ (ck_i (a4 + 1) ∧ (ck_At (ch_C g A R) d mX12_hoursOf K 76 [some (.inr (.inr 76)), none, some (.inl (a2 + (w 77 (1420 + a4)))), some (.inl a3), some (.inl (a4 + 1))] [] w)))))) : ck_At (ch_C g A R) d mX12_hoursOf K 76 [some (.inr (.inr 76)), none, some (.inl a2), some (.inl a3), some (.inl a4)] [] w :=
  ck_in (fun hl => (ck_iload 78 rfl dX12_hoursOf_76 rfl (ck_iconst 79 rfl dX12_hoursOf_78 rfl (ck_icmp_ge 82 rfl 116 dX12_hoursOf_79 rfl hl.2.2.2.1 (show ck_i 4 by decide) (fun c9 => (ck_iload_n 117 rfl 2 dX12_hoursOf_116 rfl rfl (ck_iret dX12_hoursOf_117 rfl hl.2.1 (h.1 c9)))) (fun c10 => (ck_iload_n 83 rfl 2 dX12_hoursOf_82 rfl rfl (ck_iload_n 84 rfl 3 dX12_hoursOf_83 rfl rfl (ck_iload 86 rfl dX12_hoursOf_84 rfl (ck_ishr 87 rfl dX12_hoursOf_86 (ck_iconst 88 rfl dX12_hoursOf_87 rfl (ck_iand 89 rfl dX12_hoursOf_88 (ck_iconst 90 rfl dX12_hoursOf_89 rfl (have h11 := (h.2 c10); (ck_icmp_ne 93 rfl 107 dX12_hoursOf_90 rfl (ck_rng _) (show ck_i 1 by decide) (fun c7 => (ck_iconst 108 rfl dX12_hoursOf_107 rfl (ck_iadd 109 rfl dX12_hoursOf_108 (have h13 := (h11.1 c7); have o1 := h13.1; have h12 := h13.2; (ck_istore_n 110 rfl 2 [some (.inr (.inr 76)), none, some (.inl (a2 + 0)), some (.inl a3), some (.inl a4)] dX12_hoursOf_109 rfl (Nat.le_of_ble_eq_true rfl) rfl rfl o1 (have h15 := h12; have o2 := h15.1; have h14 := h15.2; (ck_iinc 113 rfl [some (.inr (.inr 76)), none, some (.inl (a2 + 0)), some (.inl a3), some (.inl (a4 + 1))] dX12_hoursOf_110 rfl (Nat.le_of_ble_eq_true rfl) rfl rfl o2 (ck_goto 76 dX12_hoursOf_113 rfl h14)))))))) (fun c8 => (ck_aload_n 94 rfl 0 dX12_hoursOf_93 rfl rfl (ck_getr 97 rfl dX12_hoursOf_94 fl_X12_7 sh_76 rfl (ck_sipush 100 rfl dX12_hoursOf_97 rfl (ck_iload 102 rfl dX12_hoursOf_100 rfl (ck_iadd 103 rfl dX12_hoursOf_102 (have h17 := (h11.2 c8); have o3 := h17.1; have h16 := h17.2; (ck_iald 104 rfl dX12_hoursOf_103 sh_77 (shn_77 hC) o3 _ rfl (fun (q4 : ck_i (w 77 (1420 + a4))) => (ck_goto 108 dX12_hoursOf_104 rfl (ck_iadd 109 rfl dX12_hoursOf_108 (have h19 := h16; have o5 := h19.1; have h18 := h19.2; (ck_istore_n 110 rfl 2 [some (.inr (.inr 76)), none, some (.inl (a2 + (w 77 (1420 + a4)))), some (.inl a3), some (.inl a4)] dX12_hoursOf_109 rfl (Nat.le_of_ble_eq_true rfl) rfl rfl o5 (have h21 := h18; have o6 := h21.1; have h20 := h21.2; (ck_iinc 113 rfl [some (.inr (.inr 76)), none, some (.inl (a2 + (w 77 (1420 + a4)))), some (.inl a3), some (.inl (a4 + 1))] dX12_hoursOf_110 rfl (Nat.le_of_ble_eq_true rfl) rfl rfl o6 (ck_goto 76 dX12_hoursOf_113 rfl h20))))))))))))))))))))))))))))))
theorem S_X12_hoursOf {g : ch_G} {A R : Nat} (hC : ck_Cx g A R) {d : Nat} {K : Option ck_V → ck_W → Prop} {w : ck_W} {a1 : Int} (hI : rm_I A R w) (h : ∀ v, (0 ≤ v ∧ v ≤ 10000) → K (some (.inl v)) w) : ck_Ex (ch_C g A R) d mX12_hoursOf [.inr (.inr 76), .inl a1] w K := by
  have f0 := rm_c0 hI.2.2.2.1
  have l2 : ∀ (m : Nat) (a2 a3 a4 : Int), 4 - a4 = m → 0 ≤ a4 → (0 ≤ a2 ∧ a2 ≤ 1000 + 50 * a4) → ck_At (ch_C g A R) d mX12_hoursOf K 76 [some (.inr (.inr 76)), none, some (.inl a2), some (.inl a3), some (.inl a4)] [] w := by
    intro m
    induction m with
    | zero =>
      intro a2 a3 a4 q1 q2 q3
      exact r_X12_hoursOf_76 hC ⟨fun _ => h _ (by omega), fun z => absurd (by omega) z⟩
    | succ m ih =>
      intro a2 a3 a4 q1 q2 q3
      have fe := rm_fetch hI.2.2.2.1 (r := a4) q2 (by omega)
      exact r_X12_hoursOf_76 hC ⟨fun z => absurd z (by omega), fun _ => ⟨fun _ => ⟨by constructor <;> omega, by constructor <;> omega, ih _ _ _ (by omega) (by omega) (by omega)⟩, fun _ => ⟨by omega, by constructor <;> omega, by constructor <;> omega, ih _ _ _ (by omega) (by omega) (by omega)⟩⟩⟩
  have l1 : ∀ (m : Nat) (a2 a3 a4 : Int), w 77 6 - a4 = m → 0 ≤ a4 → (0 ≤ a2 ∧ a2 ≤ 50 * a4) → ck_At (ch_C g A R) d mX12_hoursOf K 7 [some (.inr (.inr 76)), some (.inl a1), some (.inl a2), some (.inl a3), some (.inl a4)] [] w := by
    intro m
    induction m with
    | zero =>
      intro a2 a3 a4 q1 q2 q3
      exact r_X12_hoursOf_7 hC ⟨fun _ => l2 4 a2 a3 0 (by omega) (by omega) (by omega), fun z => absurd (by omega) z⟩
    | succ m ih =>
      intro a2 a3 a4 q1 q2 q3
      have p0 := rm_part0 hI.2.2.2.1 (k := a4) q2 (by omega)
      exact r_X12_hoursOf_7 hC ⟨fun z => absurd z (by omega), fun _ => ⟨fun _ => ⟨by omega, fun x ex => ⟨by constructor <;> omega, by omega, fun y _ => ⟨by constructor <;> omega, ih _ _ _ (by omega) (by omega) (by omega)⟩⟩⟩, fun _ => ⟨by constructor <;> omega, ih _ _ _ (by omega) (by omega) (by omega)⟩⟩⟩
  exact e_X12_hoursOf hC (l1 (w 77 6).toNat 0 0 0 (by omega) (by omega) (by omega))
theorem dX12_worthOf_0 : decode cX12_worthOf 0 = .ok (.iconst 0, 1) := dk_3 (by decide +kernel)
theorem dX12_worthOf_1 : decode cX12_worthOf 1 = .ok (.istore_n 2, 1) := dk_61 (by decide +kernel)
theorem dX12_worthOf_2 : decode cX12_worthOf 2 = .ok (.iconst 0, 1) := dk_3 (by decide +kernel)
theorem dX12_worthOf_3 : decode cX12_worthOf 3 = .ok (.istore_n 3, 1) := dk_62 (by decide +kernel)
theorem dX12_worthOf_4 : decode cX12_worthOf 4 = .ok (.iload_n 3, 1) := dk_29 (by decide +kernel)
theorem dX12_worthOf_5 : decode cX12_worthOf 5 = .ok (.aload_n 0, 1) := dk_42 (by decide +kernel)
theorem dX12_worthOf_6 : decode cX12_worthOf 6 = .ok (.getfield 7, 3) := dk_180 0 7 (by decide +kernel)
theorem dX12_worthOf_9 : decode cX12_worthOf 9 = .ok (.bipush 6, 2) := dk_16 6 (by decide +kernel)
theorem dX12_worthOf_11 : decode cX12_worthOf 11 = .ok (.iaload, 1) := dk_46 (by decide +kernel)
theorem dX12_worthOf_12 : decode cX12_worthOf 12 = .ok (.if_icmp .ge 39, 3) := dk_162 0 39 (by decide +kernel)
theorem dX12_worthOf_15 : decode cX12_worthOf 15 = .ok (.iload_n 2, 1) := dk_28 (by decide +kernel)
theorem dX12_worthOf_16 : decode cX12_worthOf 16 = .ok (.iload_n 1, 1) := dk_27 (by decide +kernel)
theorem dX12_worthOf_17 : decode cX12_worthOf 17 = .ok (.iload_n 3, 1) := dk_29 (by decide +kernel)
theorem dX12_worthOf_18 : decode cX12_worthOf 18 = .ok (.ishr, 1) := dk_122 (by decide +kernel)
theorem dX12_worthOf_19 : decode cX12_worthOf 19 = .ok (.iconst 1, 1) := dk_4 (by decide +kernel)
theorem dX12_worthOf_20 : decode cX12_worthOf 20 = .ok (.iand, 1) := dk_126 (by decide +kernel)
theorem dX12_worthOf_21 : decode cX12_worthOf 21 = .ok (.iconst 1, 1) := dk_4 (by decide +kernel)
theorem dX12_worthOf_22 : decode cX12_worthOf 22 = .ok (.if_icmp .ne 20, 3) := dk_160 0 20 (by decide +kernel)
theorem dX12_worthOf_25 : decode cX12_worthOf 25 = .ok (.aload_n 0, 1) := dk_42 (by decide +kernel)
theorem dX12_worthOf_26 : decode cX12_worthOf 26 = .ok (.getfield 7, 3) := dk_180 0 7 (by decide +kernel)
theorem dX12_worthOf_29 : decode cX12_worthOf 29 = .ok (.sipush 1360, 3) := dk_17 5 80 (by decide +kernel)
theorem dX12_worthOf_32 : decode cX12_worthOf 32 = .ok (.iconst 3, 1) := dk_6 (by decide +kernel)
theorem dX12_worthOf_33 : decode cX12_worthOf 33 = .ok (.iload_n 3, 1) := dk_29 (by decide +kernel)
theorem dX12_worthOf_34 : decode cX12_worthOf 34 = .ok (.imul, 1) := dk_104 (by decide +kernel)
theorem dX12_worthOf_35 : decode cX12_worthOf 35 = .ok (.iadd, 1) := dk_96 (by decide +kernel)
theorem dX12_worthOf_36 : decode cX12_worthOf 36 = .ok (.iconst 1, 1) := dk_4 (by decide +kernel)
theorem dX12_worthOf_37 : decode cX12_worthOf 37 = .ok (.iadd, 1) := dk_96 (by decide +kernel)
theorem dX12_worthOf_38 : decode cX12_worthOf 38 = .ok (.iaload, 1) := dk_46 (by decide +kernel)
theorem dX12_worthOf_39 : decode cX12_worthOf 39 = .ok (.goto 4, 3) := dk_167 0 4 (by decide +kernel)
theorem dX12_worthOf_42 : decode cX12_worthOf 42 = .ok (.iconst 0, 1) := dk_3 (by decide +kernel)
theorem dX12_worthOf_43 : decode cX12_worthOf 43 = .ok (.iadd, 1) := dk_96 (by decide +kernel)
theorem dX12_worthOf_44 : decode cX12_worthOf 44 = .ok (.istore_n 2, 1) := dk_61 (by decide +kernel)
theorem dX12_worthOf_45 : decode cX12_worthOf 45 = .ok (.iinc 3 1, 3) := dk_132 1 (by decide +kernel)
theorem dX12_worthOf_48 : decode cX12_worthOf 48 = .ok (.goto (-44), 3) := dk_167 255 212 (by decide +kernel)
theorem dX12_worthOf_51 : decode cX12_worthOf 51 = .ok (.iload_n 2, 1) := dk_28 (by decide +kernel)
theorem dX12_worthOf_52 : decode cX12_worthOf 52 = .ok (.ireturn, 1) := dk_172 (by decide +kernel)
set_option maxRecDepth 8000 in
theorem e_X12_worthOf {g : ch_G} {A R : Nat} (hC : ck_Cx g A R) {d : Nat} {K : Option ck_V → ck_W → Prop} {w : ck_W} {a1 : Int} (h : ck_At (ch_C g A R) d mX12_worthOf K 4 [some (.inr (.inr 76)), some (.inl a1), some (.inl 0), some (.inl 0)] [] w) : ck_Ex (ch_C g A R) d mX12_worthOf [.inr (.inr 76), .inl a1] w K :=
  ck_entry hC.1 [some (.inr (.inr 76)), some (.inl a1), none, none] (by decide) (Nat.le_of_ble_eq_true rfl) rfl (fun q => q) (ck_in (fun hl => (ck_iconst 1 rfl dX12_worthOf_0 rfl (ck_istore_n 2 rfl 2 [some (.inr (.inr 76)), some (.inl a1), some (.inl 0), none] dX12_worthOf_1 rfl (Nat.le_of_ble_eq_true rfl) rfl rfl (show ck_i 0 by decide) (ck_iconst 3 rfl dX12_worthOf_2 rfl (ck_istore_n 4 rfl 3 [some (.inr (.inr 76)), some (.inl a1), some (.inl 0), some (.inl 0)] dX12_worthOf_3 rfl (Nat.le_of_ble_eq_true rfl) rfl rfl (show ck_i 0 by decide) h))))))
set_option maxRecDepth 8000 in
theorem r_X12_worthOf_4 {g : ch_G} {A R : Nat} (hC : ck_Cx g A R) {d : Nat} {K : Option ck_V → ck_W → Prop} {w : ck_W} {a1 a2 a3 : Int} (h : ((w 77 6) ≤ a3 → K (some (.inl a2)) w) ∧ (¬ (w 77 6) ≤ a3 → (¬ (ck_and (ck_shr a1 a3) 1) = 1 → ck_i (a2 + 0) ∧ (ck_i (a3 + 1) ∧ (ck_At (ch_C g A R) d mX12_worthOf K 4 [some (.inr (.inr 76)), some (.inl a1), some (.inl (a2 + 0)), some (.inl (a3 + 1))] [] w))) ∧ ((ck_and (ck_shr a1 a3) 1) = 1 → (0 ≤ ((1360 + (3 * a3)) + 1) ∧ ((1360 + (3 * a3)) + 1) < 1430) ∧ (∀ x6, x6 = a2 + (w 77 ((1360 + (3 * a3)) + 1)) → ck_i x6 ∧ (ck_i (a3 + 1) ∧ (ck_At (ch_C g A R) d mX12_worthOf K 4 [some (.inr (.inr 76)), some (.inl a1), some (.inl x6), some (.inl (a3 + 1))] [] w)))))) : ck_At (ch_C g A R) d mX12_worthOf K 4 [some (.inr (.inr 76)), some (.inl a1), some (.inl a2), some (.inl a3)] [] w :=
  ck_in (fun hl => (ck_iload_n 5 rfl 3 dX12_worthOf_4 rfl rfl (ck_aload_n 6 rfl 0 dX12_worthOf_5 rfl rfl (ck_getr 9 rfl dX12_worthOf_6 fl_X12_7 sh_76 rfl (ck_bipush 11 rfl dX12_worthOf_9 rfl (ck_iald 12 rfl dX12_worthOf_11 sh_77 (shn_77 hC) (by decide) _ rfl (fun (q1 : ck_i (w 77 6)) => (ck_icmp_ge 15 rfl 51 dX12_worthOf_12 rfl hl.2.2.2.1 q1 (fun c12 => (ck_iload_n 52 rfl 2 dX12_worthOf_51 rfl rfl (ck_iret dX12_worthOf_52 rfl hl.2.2.1 (h.1 c12)))) (fun c13 => (ck_iload_n 16 rfl 2 dX12_worthOf_15 rfl rfl (ck_iload_n 17 rfl 1 dX12_worthOf_16 rfl rfl (ck_iload_n 18 rfl 3 dX12_worthOf_17 rfl rfl (ck_ishr 19 rfl dX12_worthOf_18 (ck_iconst 20 rfl dX12_worthOf_19 rfl (ck_iand 21 rfl dX12_worthOf_20 (ck_iconst 22 rfl dX12_worthOf_21 rfl (have h14 := (h.2 c13); (ck_icmp_ne 25 rfl 42 dX12_worthOf_22 rfl (ck_rng _) (show ck_i 1 by decide) (fun c10 => (ck_iconst 43 rfl dX12_worthOf_42 rfl (ck_iadd 44 rfl dX12_worthOf_43 (have h16 := (h14.1 c10); have o2 := h16.1; have h15 := h16.2; (ck_istore_n 45 rfl 2 [some (.inr (.inr 76)), some (.inl a1), some (.inl (a2 + 0)), some (.inl a3)] dX12_worthOf_44 rfl (Nat.le_of_ble_eq_true rfl) rfl rfl o2 (have h18 := h15; have o3 := h18.1; have h17 := h18.2; (ck_iinc 48 rfl [some (.inr (.inr 76)), some (.inl a1), some (.inl (a2 + 0)), some (.inl (a3 + 1))] dX12_worthOf_45 rfl (Nat.le_of_ble_eq_true rfl) rfl rfl o3 (ck_goto 4 dX12_worthOf_48 rfl h17)))))))) (fun c11 => (ck_aload_n 26 rfl 0 dX12_worthOf_25 rfl rfl (ck_getr 29 rfl dX12_worthOf_26 fl_X12_7 sh_76 rfl (ck_sipush 32 rfl dX12_worthOf_29 rfl (ck_iconst 33 rfl dX12_worthOf_32 rfl (ck_iload_n 34 rfl 3 dX12_worthOf_33 rfl rfl (ck_imul 35 rfl dX12_worthOf_34 (ck_iadd 36 rfl dX12_worthOf_35 (ck_iconst 37 rfl dX12_worthOf_36 rfl (ck_iadd 38 rfl dX12_worthOf_37 (have h20 := (h14.2 c11); have o4 := h20.1; have h19 := h20.2; (ck_iald 39 rfl dX12_worthOf_38 sh_77 (shn_77 hC) o4 _ rfl (fun (q5 : ck_i (w 77 ((1360 + (3 * a3)) + 1))) => (ck_goto 43 dX12_worthOf_39 rfl (ck_iadd 44 rfl dX12_worthOf_43 (ck_nmi (fun x6 e7 => (have h22 := (h19 x6 e7); have o8 := h22.1; have h21 := h22.2; (ck_istore_n 45 rfl 2 [some (.inr (.inr 76)), some (.inl a1), some (.inl x6), some (.inl a3)] dX12_worthOf_44 rfl (Nat.le_of_ble_eq_true rfl) rfl rfl o8 (have h24 := h21; have o9 := h24.1; have h23 := h24.2; (ck_iinc 48 rfl [some (.inr (.inr 76)), some (.inl a1), some (.inl x6), some (.inl (a3 + 1))] dX12_worthOf_45 rfl (Nat.le_of_ble_eq_true rfl) rfl rfl o9 (ck_goto 4 dX12_worthOf_48 rfl h23))))))))))))))))))))))))))))))))))))))))
theorem S_X12_worthOf {g : ch_G} {A R : Nat} (hC : ck_Cx g A R) {d : Nat} {K : Option ck_V → ck_W → Prop} {w : ck_W} {a1 : Int} (hI : rm_I A R w) (h : ∀ v, (0 ≤ v ∧ v ≤ 20000) → K (some (.inl v)) w) : ck_Ex (ch_C g A R) d mX12_worthOf [.inr (.inr 76), .inl a1] w K := by
  have f0 := rm_c0 hI.2.2.2.1
  have l1 : ∀ (m : Nat) (a2 a3 : Int), w 77 6 - a3 = m → 0 ≤ a3 → (0 ≤ a2 ∧ a2 ≤ 1000 * a3) → ck_At (ch_C g A R) d mX12_worthOf K 4 [some (.inr (.inr 76)), some (.inl a1), some (.inl a2), some (.inl a3)] [] w := by
    intro m
    induction m with
    | zero =>
      intro a2 a3 q1 q2 q3
      exact r_X12_worthOf_4 hC ⟨fun _ => h _ (by omega), fun z => absurd (by omega) z⟩
    | succ m ih =>
      intro a2 a3 q1 q2 q3
      have p0 := rm_part1 hI.2.2.2.1 (k := a3) q2 (by omega)
      exact r_X12_worthOf_4 hC ⟨fun z => absurd z (by omega), fun _ => ⟨fun _ => ⟨by constructor <;> omega, by constructor <;> omega, ih _ _ (by omega) (by omega) (by omega)⟩, fun _ => ⟨by omega, fun x ex => ⟨by constructor <;> omega, by constructor <;> omega, ih _ _ (by omega) (by omega) (by omega)⟩⟩⟩⟩
  exact e_X12_worthOf hC (l1 (w 77 6).toNat 0 0 (by omega) (by omega) (by omega))
theorem dX12_plan_0 : decode cX12_plan 0 = .ok (.iload_n 1, 1) := dk_27 (by decide +kernel)
theorem dX12_plan_1 : decode cX12_plan 1 = .ok (.iconst 0, 1) := dk_3 (by decide +kernel)
theorem dX12_plan_2 : decode cX12_plan 2 = .ok (.sipush 400, 3) := dk_17 1 144 (by decide +kernel)
theorem dX12_plan_5 : decode cX12_plan 5 = .ok (.invokestatic 93, 3) := dk_184 0 93 (by decide +kernel)
theorem dX12_plan_8 : decode cX12_plan 8 = .ok (.ifCond .eq 12, 3) := dk_153 0 12 (by decide +kernel)
theorem dX12_plan_11 : decode cX12_plan 11 = .ok (.iload_n 2, 1) := dk_28 (by decide +kernel)
theorem dX12_plan_12 : decode cX12_plan 12 = .ok (.iconst 0, 1) := dk_3 (by decide +kernel)
theorem dX12_plan_13 : decode cX12_plan 13 = .ok (.iconst 2, 1) := dk_5 (by decide +kernel)
theorem dX12_plan_14 : decode cX12_plan 14 = .ok (.invokestatic 93, 3) := dk_184 0 93 (by decide +kernel)
theorem dX12_plan_17 : decode cX12_plan 17 = .ok (.ifCond .ne 5, 3) := dk_154 0 5 (by decide +kernel)
theorem dX12_plan_20 : decode cX12_plan 20 = .ok (.iconst (-1), 1) := dk_2 (by decide +kernel)
theorem dX12_plan_21 : decode cX12_plan 21 = .ok (.ireturn, 1) := dk_172 (by decide +kernel)
theorem dX12_plan_22 : decode cX12_plan 22 = .ok (.iconst 0, 1) := dk_3 (by decide +kernel)
theorem dX12_plan_23 : decode cX12_plan 23 = .ok (.istore_n 3, 1) := dk_62 (by decide +kernel)
theorem dX12_plan_24 : decode cX12_plan 24 = .ok (.iconst 1, 1) := dk_4 (by decide +kernel)
theorem dX12_plan_25 : decode cX12_plan 25 = .ok (.istore 4, 2) := dk_54 (by decide +kernel)
theorem dX12_plan_27 : decode cX12_plan 27 = .ok (.iload 4, 2) := dk_21 (by decide +kernel)
theorem dX12_plan_29 : decode cX12_plan 29 = .ok (.iconst 1, 1) := dk_4 (by decide +kernel)
theorem dX12_plan_30 : decode cX12_plan 30 = .ok (.aload_n 0, 1) := dk_42 (by decide +kernel)
theorem dX12_plan_31 : decode cX12_plan 31 = .ok (.getfield 7, 3) := dk_180 0 7 (by decide +kernel)
theorem dX12_plan_34 : decode cX12_plan 34 = .ok (.bipush 6, 2) := dk_16 6 (by decide +kernel)
theorem dX12_plan_36 : decode cX12_plan 36 = .ok (.iaload, 1) := dk_46 (by decide +kernel)
theorem dX12_plan_37 : decode cX12_plan 37 = .ok (.ishl, 1) := dk_120 (by decide +kernel)
theorem dX12_plan_38 : decode cX12_plan 38 = .ok (.if_icmp .ge 63, 3) := dk_162 0 63 (by decide +kernel)
theorem dX12_plan_41 : decode cX12_plan 41 = .ok (.aload_n 0, 1) := dk_42 (by decide +kernel)
theorem dX12_plan_42 : decode cX12_plan 42 = .ok (.iload 4, 2) := dk_21 (by decide +kernel)
theorem dX12_plan_44 : decode cX12_plan 44 = .ok (.invokevirtual 385, 3) := dk_182 1 129 (by decide +kernel)
theorem dX12_plan_47 : decode cX12_plan 47 = .ok (.istore 5, 2) := dk_54 (by decide +kernel)
theorem dX12_plan_49 : decode cX12_plan 49 = .ok (.iload 5, 2) := dk_21 (by decide +kernel)
theorem dX12_plan_51 : decode cX12_plan 51 = .ok (.iload_n 1, 1) := dk_27 (by decide +kernel)
theorem dX12_plan_52 : decode cX12_plan 52 = .ok (.if_icmp .le 6, 3) := dk_164 0 6 (by decide +kernel)
theorem dX12_plan_55 : decode cX12_plan 55 = .ok (.goto 40, 3) := dk_167 0 40 (by decide +kernel)
theorem dX12_plan_58 : decode cX12_plan 58 = .ok (.aload_n 0, 1) := dk_42 (by decide +kernel)
theorem dX12_plan_59 : decode cX12_plan 59 = .ok (.iload 4, 2) := dk_21 (by decide +kernel)
theorem dX12_plan_61 : decode cX12_plan 61 = .ok (.invokevirtual 388, 3) := dk_182 1 132 (by decide +kernel)
theorem dX12_plan_64 : decode cX12_plan 64 = .ok (.aload_n 0, 1) := dk_42 (by decide +kernel)
theorem dX12_plan_65 : decode cX12_plan 65 = .ok (.iload_n 3, 1) := dk_29 (by decide +kernel)
theorem dX12_plan_66 : decode cX12_plan 66 = .ok (.invokevirtual 388, 3) := dk_182 1 132 (by decide +kernel)
theorem dX12_plan_69 : decode cX12_plan 69 = .ok (.isub, 1) := dk_100 (by decide +kernel)
theorem dX12_plan_70 : decode cX12_plan 70 = .ok (.istore 6, 2) := dk_54 (by decide +kernel)
theorem dX12_plan_72 : decode cX12_plan 72 = .ok (.iload 6, 2) := dk_21 (by decide +kernel)
theorem dX12_plan_74 : decode cX12_plan 74 = .ok (.ifCond .gt 18, 3) := dk_157 0 18 (by decide +kernel)
theorem dX12_plan_77 : decode cX12_plan 77 = .ok (.iload 6, 2) := dk_21 (by decide +kernel)
theorem dX12_plan_79 : decode cX12_plan 79 = .ok (.ifCond .ne 16, 3) := dk_154 0 16 (by decide +kernel)
theorem dX12_plan_82 : decode cX12_plan 82 = .ok (.iload 5, 2) := dk_21 (by decide +kernel)
theorem dX12_plan_84 : decode cX12_plan 84 = .ok (.aload_n 0, 1) := dk_42 (by decide +kernel)
theorem dX12_plan_85 : decode cX12_plan 85 = .ok (.iload_n 3, 1) := dk_29 (by decide +kernel)
theorem dX12_plan_86 : decode cX12_plan 86 = .ok (.invokevirtual 385, 3) := dk_182 1 129 (by decide +kernel)
theorem dX12_plan_89 : decode cX12_plan 89 = .ok (.if_icmp .ge 6, 3) := dk_162 0 6 (by decide +kernel)
theorem dX12_plan_92 : decode cX12_plan 92 = .ok (.iload 4, 2) := dk_21 (by decide +kernel)
theorem dX12_plan_94 : decode cX12_plan 94 = .ok (.istore_n 3, 1) := dk_62 (by decide +kernel)
theorem dX12_plan_95 : decode cX12_plan 95 = .ok (.iinc 4 1, 3) := dk_132 1 (by decide +kernel)
theorem dX12_plan_98 : decode cX12_plan 98 = .ok (.goto (-71), 3) := dk_167 255 185 (by decide +kernel)
theorem dX12_plan_101 : decode cX12_plan 101 = .ok (.iload_n 2, 1) := dk_28 (by decide +kernel)
theorem dX12_plan_102 : decode cX12_plan 102 = .ok (.ifCond .ne 7, 3) := dk_154 0 7 (by decide +kernel)
theorem dX12_plan_105 : decode cX12_plan 105 = .ok (.iload_n 3, 1) := dk_29 (by decide +kernel)
theorem dX12_plan_106 : decode cX12_plan 106 = .ok (.goto 21, 3) := dk_167 0 21 (by decide +kernel)
theorem dX12_plan_109 : decode cX12_plan 109 = .ok (.iload_n 2, 1) := dk_28 (by decide +kernel)
theorem dX12_plan_110 : decode cX12_plan 110 = .ok (.iconst 1, 1) := dk_4 (by decide +kernel)
theorem dX12_plan_111 : decode cX12_plan 111 = .ok (.if_icmp .ne 11, 3) := dk_160 0 11 (by decide +kernel)
theorem dX12_plan_114 : decode cX12_plan 114 = .ok (.aload_n 0, 1) := dk_42 (by decide +kernel)
theorem dX12_plan_115 : decode cX12_plan 115 = .ok (.iload_n 3, 1) := dk_29 (by decide +kernel)
theorem dX12_plan_116 : decode cX12_plan 116 = .ok (.invokevirtual 388, 3) := dk_182 1 132 (by decide +kernel)
theorem dX12_plan_119 : decode cX12_plan 119 = .ok (.goto 8, 3) := dk_167 0 8 (by decide +kernel)
theorem dX12_plan_122 : decode cX12_plan 122 = .ok (.aload_n 0, 1) := dk_42 (by decide +kernel)
theorem dX12_plan_123 : decode cX12_plan 123 = .ok (.iload_n 3, 1) := dk_29 (by decide +kernel)
theorem dX12_plan_124 : decode cX12_plan 124 = .ok (.invokevirtual 385, 3) := dk_182 1 129 (by decide +kernel)
theorem dX12_plan_127 : decode cX12_plan 127 = .ok (.ireturn, 1) := dk_172 (by decide +kernel)
set_option maxRecDepth 8000 in
theorem e_X12_plan {g : ch_G} {A R : Nat} (hC : ck_Cx g A R) {d : Nat} {K : Option ck_V → ck_W → Prop} {w : ck_W} {a1 a2 : Int} (h : (0 ≤ a1 ∧ a1 ≤ 400 → (0 ≤ a2 ∧ a2 ≤ 2 → ck_At (ch_C g A R) (d + 1) mX12_plan K 27 [some (.inr (.inr 76)), some (.inl a1), some (.inl a2), some (.inl 0), some (.inl 1), none, none] [] w) ∧ (¬ (0 ≤ a2 ∧ a2 ≤ 2) → K (some (.inl (-1))) w)) ∧ (¬ (0 ≤ a1 ∧ a1 ≤ 400) → K (some (.inl (-1))) w)) : ck_Ex (ch_C g A R) (d + 1) mX12_plan [.inr (.inr 76), .inl a1, .inl a2] w K :=
  ck_entry hC.1 [some (.inr (.inr 76)), some (.inl a1), some (.inl a2), none, none, none, none] (by decide) (Nat.le_of_ble_eq_true rfl) rfl (fun q => q) (ck_in (fun hl => (ck_iload_n 1 rfl 1 dX12_plan_0 rfl rfl (ck_iconst 2 rfl dX12_plan_1 rfl (ck_sipush 5 rfl dX12_plan_2 rfl (have h6 := h; ck_callS 8 rfl [.inl a1, .inl 0, .inl 400] [] dX12_plan_5 cs_X12_93 rfl rfl (Nat.le_of_ble_eq_true rfl) (And.intro hl.2.1 (And.intro (show ck_i 0 by decide) (And.intro (show ck_i 400 by decide) True.intro))) (p_X12_isIn hC (fun c4 _ => (ck_if_eq 11 rfl 20 dX12_plan_8 rfl (by decide) (fun q => absurd q (by decide)) (fun _ => (ck_iload_n 12 rfl 2 dX12_plan_11 rfl rfl (ck_iconst 13 rfl dX12_plan_12 rfl (ck_iconst 14 rfl dX12_plan_13 rfl (have h3 := (h6.1 c4); ck_callS 17 rfl [.inl a2, .inl 0, .inl 2] [] dX12_plan_14 cs_X12_93 rfl rfl (Nat.le_of_ble_eq_true rfl) (And.intro hl.2.2.1 (And.intro (show ck_i 0 by decide) (And.intro (show ck_i 2 by decide) True.intro))) (p_X12_isIn hC (fun c1 _ => (ck_if_ne 20 rfl 22 dX12_plan_17 rfl (by decide) (fun _ => (ck_iconst 23 rfl dX12_plan_22 rfl (ck_istore_n 24 rfl 3 [some (.inr (.inr 76)), some (.inl a1), some (.inl a2), some (.inl 0), none, none, none] dX12_plan_23 rfl (Nat.le_of_ble_eq_true rfl) rfl rfl (show ck_i 0 by decide) (ck_iconst 25 rfl dX12_plan_24 rfl (ck_istore 27 rfl [some (.inr (.inr 76)), some (.inl a1), some (.inl a2), some (.inl 0), some (.inl 1), none, none] dX12_plan_25 (Nat.le_of_ble_eq_true rfl) rfl rfl (show ck_i 1 by decide) (h3.1 c1)))))) (fun q => absurd q (by decide)))) (fun c2 _ => (ck_if_ne 20 rfl 22 dX12_plan_17 rfl (by decide) (fun q => absurd q (by decide)) (fun _ => (ck_iconst 21 rfl dX12_plan_20 rfl (ck_iret dX12_plan_21 rfl (show ck_i (-1) by decide) (h3.2 c2)))))))))))))) (fun c5 _ => (ck_if_eq 11 rfl 20 dX12_plan_8 rfl (by decide) (fun _ => (ck_iconst 21 rfl dX12_plan_20 rfl (ck_iret dX12_plan_21 rfl (show ck_i (-1) by decide) (h6.2 c5)))) (fun q => absurd q (by decide)))))))))))
set_option maxRecDepth 8000 in
theorem r_X12_plan_27 {g : ch_G} {A R : Nat} (hC : ck_Cx g A R) {d : Nat} {K : Option ck_V → ck_W → Prop} {w : ck_W} {a1 a2 a3 a4 : Int} (h : ((ck_shl 1 (w 77 6)) ≤ a4 → (¬ a2 = 0 → (¬ a2 = 1 → ck_CI (ch_C g A R) d mX12_hoursOf [.inr (.inr 76), .inl a3] w (fun v3 w2 => K (some (.inl v3)) w2)) ∧ (a2 = 1 → ck_CI (ch_C g A R) d mX12_worthOf [.inr (.inr 76), .inl a3] w (fun v7 w6 => K (some (.inl v7)) w6))) ∧ (a2 = 0 → K (some (.inl a3)) w)) ∧ (¬ (ck_shl 1 (w 77 6)) ≤ a4 → ck_CI (ch_C g A R) d mX12_hoursOf [.inr (.inr 76), .inl a4] w (fun v15 w14 => (v15 ≤ a1 → ck_CI (ch_C g A R) d mX12_worthOf [.inr (.inr 76), .inl a4] w14 (fun v19 w18 => ck_CI (ch_C g A R) d mX12_worthOf [.inr (.inr 76), .inl a3] w18 (fun v23 w22 => ck_i (v19 - v23) ∧ ((0 < (v19 - v23) → ck_i (a4 + 1) ∧ (ck_At (ch_C g A R) (d + 1) mX12_plan K 27 [some (.inr (.inr 76)), some (.inl a1), some (.inl a2), some (.inl a4), some (.inl (a4 + 1)), none, none] [] w22)) ∧ (¬ 0 < (v19 - v23) → (¬ (v19 - v23) = 0 → ck_i (a4 + 1) ∧ (ck_At (ch_C g A R) (d + 1) mX12_plan K 27 [some (.inr (.inr 76)), some (.inl a1), some (.inl a2), some (.inl a3), some (.inl (a4 + 1)), none, none] [] w22)) ∧ ((v19 - v23) = 0 → ck_CI (ch_C g A R) d mX12_hoursOf [.inr (.inr 76), .inl a3] w22 (fun v30 w29 => (v30 ≤ v15 → ck_i (a4 + 1) ∧ (ck_At (ch_C g A R) (d + 1) mX12_plan K 27 [some (.inr (.inr 76)), some (.inl a1), some (.inl a2), some (.inl a3), some (.inl (a4 + 1)), none, none] [] w29)) ∧ (¬ v30 ≤ v15 → ck_i (a4 + 1) ∧ (ck_At (ch_C g A R) (d + 1) mX12_plan K 27 [some (.inr (.inr 76)), some (.inl a1), some (.inl a2), some (.inl a4), some (.inl (a4 + 1)), none, none] [] w29))))))))) ∧ (¬ v15 ≤ a1 → ck_i (a4 + 1) ∧ (ck_At (ch_C g A R) (d + 1) mX12_plan K 27 [some (.inr (.inr 76)), some (.inl a1), some (.inl a2), some (.inl a3), some (.inl (a4 + 1)), none, none] [] w14))))) : ck_At (ch_C g A R) (d + 1) mX12_plan K 27 [some (.inr (.inr 76)), some (.inl a1), some (.inl a2), some (.inl a3), some (.inl a4), none, none] [] w :=
  ck_in (fun hl => (ck_iload 29 rfl dX12_plan_27 rfl (ck_iconst 30 rfl dX12_plan_29 rfl (ck_aload_n 31 rfl 0 dX12_plan_30 rfl rfl (ck_getr 34 rfl dX12_plan_31 fl_X12_7 sh_76 rfl (ck_bipush 36 rfl dX12_plan_34 rfl (ck_iald 37 rfl dX12_plan_36 sh_77 (shn_77 hC) (by decide) _ rfl (fun (q1 : ck_i (w 77 6)) => (ck_ishl 38 rfl dX12_plan_37 (ck_icmp_ge 41 rfl 101 dX12_plan_38 rfl hl.2.2.2.2.1 (ck_rng _) (fun c44 => (ck_iload_n 102 rfl 2 dX12_plan_101 rfl rfl (have h46 := (h.1 c44); (ck_if_ne 105 rfl 109 dX12_plan_102 rfl hl.2.2.1 (fun c12 => (ck_iload_n 110 rfl 2 dX12_plan_109 rfl rfl (ck_iconst 111 rfl dX12_plan_110 rfl (have h47 := (h46.1 c12); (ck_icmp_ne 114 rfl 122 dX12_plan_111 rfl hl.2.2.1 (show ck_i 1 by decide) (fun c10 => (ck_aload_n 123 rfl 0 dX12_plan_122 rfl rfl (ck_iload_n 124 rfl 3 dX12_plan_123 rfl rfl (ck_callV 127 rfl [.inl a3] [] dX12_plan_124 cv_X12_385 sh_76 rfl rfl (Nat.le_of_ble_eq_true rfl) (And.intro hl.2.2.2.1 True.intro) (ck_mI (h47.1 c10) (fun v3 w2 q4 h5 => (ck_iret dX12_plan_127 rfl q4 h5))))))) (fun c11 => (ck_aload_n 115 rfl 0 dX12_plan_114 rfl rfl (ck_iload_n 116 rfl 3 dX12_plan_115 rfl rfl (ck_callV 119 rfl [.inl a3] [] dX12_plan_116 cv_X12_388 sh_76 rfl rfl (Nat.le_of_ble_eq_true rfl) (And.intro hl.2.2.2.1 True.intro) (ck_mI (h47.2 c11) (fun v7 w6 q8 h9 => (ck_goto 127 dX12_plan_119 rfl (ck_iret dX12_plan_127 rfl q8 h9))))))))))))) (fun c13 => (ck_iload_n 106 rfl 3 dX12_plan_105 rfl rfl (ck_goto 127 dX12_plan_106 rfl (ck_iret dX12_plan_127 rfl hl.2.2.2.1 (h46.2 c13))))))))) (fun c45 => (ck_aload_n 42 rfl 0 dX12_plan_41 rfl rfl (ck_iload 44 rfl dX12_plan_42 rfl (ck_callV 47 rfl [.inl a4] [] dX12_plan_44 cv_X12_385 sh_76 rfl rfl (Nat.le_of_ble_eq_true rfl) (And.intro hl.2.2.2.2.1 True.intro) (ck_mI (h.2 c45) (fun v15 w14 q16 h17 => (ck_istore 49 rfl [some (.inr (.inr 76)), some (.inl a1), some (.inl a2), some (.inl a3), some (.inl a4), some (.inl v15), none] dX12_plan_47 (Nat.le_of_ble_eq_true rfl) rfl rfl q16 (ck_iload 51 rfl dX12_plan_49 rfl (ck_iload_n 52 rfl 1 dX12_plan_51 rfl rfl (ck_icmp_le 55 rfl 58 dX12_plan_52 rfl q16 hl.2.1 (fun c42 => (ck_aload_n 59 rfl 0 dX12_plan_58 rfl rfl (ck_iload 61 rfl dX12_plan_59 rfl (ck_callV 64 rfl [.inl a4] [] dX12_plan_61 cv_X12_388 sh_76 rfl rfl (Nat.le_of_ble_eq_true rfl) (And.intro hl.2.2.2.2.1 True.intro) (ck_mI (h17.1 c42) (fun v19 w18 q20 h21 => (ck_aload_n 65 rfl 0 dX12_plan_64 rfl rfl (ck_iload_n 66 rfl 3 dX12_plan_65 rfl rfl (ck_callV 69 rfl [.inl a3] [.inl v19] dX12_plan_66 cv_X12_388 sh_76 rfl rfl (Nat.le_of_ble_eq_true rfl) (And.intro hl.2.2.2.1 True.intro) (ck_mI h21 (fun v23 w22 q24 h25 => (ck_isub 70 rfl dX12_plan_69 (have h49 := h25; have o26 := h49.1; have h48 := h49.2; (ck_istore 72 rfl [some (.inr (.inr 76)), some (.inl a1), some (.inl a2), some (.inl a3), some (.inl a4), some (.inl v15), some (.inl (v19 - v23))] dX12_plan_70 (Nat.le_of_ble_eq_true rfl) rfl rfl o26 (ck_iload 74 rfl dX12_plan_72 rfl (ck_if_gt 77 rfl 92 dX12_plan_74 rfl o26 (fun c39 => (ck_iload 94 rfl dX12_plan_92 rfl (ck_istore_n 95 rfl 3 [some (.inr (.inr 76)), some (.inl a1), some (.inl a2), some (.inl a4), some (.inl a4), some (.inl v15), some (.inl (v19 - v23))] dX12_plan_94 rfl (Nat.le_of_ble_eq_true rfl) rfl rfl hl.2.2.2.2.1 (have h51 := (h48.1 c39); have o27 := h51.1; have h50 := h51.2; (ck_iinc 98 rfl [some (.inr (.inr 76)), some (.inl a1), some (.inl a2), some (.inl a4), some (.inl (a4 + 1)), some (.inl v15), some (.inl (v19 - v23))] dX12_plan_95 rfl (Nat.le_of_ble_eq_true rfl) rfl rfl o27 (ck_goto 27 dX12_plan_98 rfl (ck_drop [some (.inr (.inr 76)), some (.inl a1), some (.inl a2), some (.inl a4), some (.inl (a4 + 1)), none, none] (And.intro rfl (And.intro rfl (And.intro rfl (And.intro rfl (And.intro rfl True.intro))))) h50))))))) (fun c40 => (ck_iload 79 rfl dX12_plan_77 rfl (have h52 := (h48.2 c40); (ck_if_ne 82 rfl 95 dX12_plan_79 rfl o26 (fun c37 => (have h54 := (h52.1 c37); have o28 := h54.1; have h53 := h54.2; (ck_iinc 98 rfl [some (.inr (.inr 76)), some (.inl a1), some (.inl a2), some (.inl a3), some (.inl (a4 + 1)), some (.inl v15), some (.inl (v19 - v23))] dX12_plan_95 rfl (Nat.le_of_ble_eq_true rfl) rfl rfl o28 (ck_goto 27 dX12_plan_98 rfl (ck_drop [some (.inr (.inr 76)), some (.inl a1), some (.inl a2), some (.inl a3), some (.inl (a4 + 1)), none, none] (And.intro rfl (And.intro rfl (And.intro rfl (And.intro rfl (And.intro rfl True.intro))))) h53))))) (fun c38 => (ck_iload 84 rfl dX12_plan_82 rfl (ck_aload_n 85 rfl 0 dX12_plan_84 rfl rfl (ck_iload_n 86 rfl 3 dX12_plan_85 rfl rfl (ck_callV 89 rfl [.inl a3] [.inl v15] dX12_plan_86 cv_X12_385 sh_76 rfl rfl (Nat.le_of_ble_eq_true rfl) (And.intro hl.2.2.2.1 True.intro) (ck_mI (h52.2 c38) (fun v30 w29 q31 h32 => (ck_icmp_ge 92 rfl 95 dX12_plan_89 rfl q16 q31 (fun c35 => (have h56 := (h32.1 c35); have o33 := h56.1; have h55 := h56.2; (ck_iinc 98 rfl [some (.inr (.inr 76)), some (.inl a1), some (.inl a2), some (.inl a3), some (.inl (a4 + 1)), some (.inl v15), some (.inl (v19 - v23))] dX12_plan_95 rfl (Nat.le_of_ble_eq_true rfl) rfl rfl o33 (ck_goto 27 dX12_plan_98 rfl (ck_drop [some (.inr (.inr 76)), some (.inl a1), some (.inl a2), some (.inl a3), some (.inl (a4 + 1)), none, none] (And.intro rfl (And.intro rfl (And.intro rfl (And.intro rfl (And.intro rfl True.intro))))) h55))))) (fun c36 => (ck_iload 94 rfl dX12_plan_92 rfl (ck_istore_n 95 rfl 3 [some (.inr (.inr 76)), some (.inl a1), some (.inl a2), some (.inl a4), some (.inl a4), some (.inl v15), some (.inl (v19 - v23))] dX12_plan_94 rfl (Nat.le_of_ble_eq_true rfl) rfl rfl hl.2.2.2.2.1 (have h58 := (h32.2 c36); have o34 := h58.1; have h57 := h58.2; (ck_iinc 98 rfl [some (.inr (.inr 76)), some (.inl a1), some (.inl a2), some (.inl a4), some (.inl (a4 + 1)), some (.inl v15), some (.inl (v19 - v23))] dX12_plan_95 rfl (Nat.le_of_ble_eq_true rfl) rfl rfl o34 (ck_goto 27 dX12_plan_98 rfl (ck_drop [some (.inr (.inr 76)), some (.inl a1), some (.inl a2), some (.inl a4), some (.inl (a4 + 1)), none, none] (And.intro rfl (And.intro rfl (And.intro rfl (And.intro rfl (And.intro rfl True.intro))))) h57))))))))))))))))))))))))))))))))))) (fun c43 => (ck_goto 95 dX12_plan_55 rfl (have h60 := (h17.2 c43); have o41 := h60.1; have h59 := h60.2; (ck_iinc 98 rfl [some (.inr (.inr 76)), some (.inl a1), some (.inl a2), some (.inl a3), some (.inl (a4 + 1)), some (.inl v15), none] dX12_plan_95 rfl (Nat.le_of_ble_eq_true rfl) rfl rfl o41 (ck_goto 27 dX12_plan_98 rfl (ck_drop [some (.inr (.inr 76)), some (.inl a1), some (.inl a2), some (.inl a3), some (.inl (a4 + 1)), none, none] (And.intro rfl (And.intro rfl (And.intro rfl (And.intro rfl (And.intro rfl True.intro))))) h59))))))))))))))))))))))))))
theorem M_plan {g : ch_G} {A R : Nat} (hC : ck_Cx g A R) {d : Nat} {K : Option ck_V → ck_W → Prop} {w : ck_W} {a1 a2 : Int} (hI : rm_I A R w) (h : ∀ v, K (some (.inl v)) w) : ck_Ex (ch_C g A R) (d + 1) mX12_plan [.inr (.inr 76), .inl a1, .inl a2] w K := by
  have f0 := rm_c0 hI.2.2.2.1
  have sh : 1 ≤ ck_shl 1 (w 77 6) ∧ ck_shl 1 (w 77 6) ≤ 65536 := by
    have e := kb_shl1 (k := w 77 6) (by omega) (by omega)
    rw [e]
    have p : (2 : Nat) ^ (w 77 6).toNat ≤ 2 ^ 16 := Nat.pow_le_pow_right (by decide) (by omega)
    have p2 : 0 < (2 : Nat) ^ (w 77 6).toNat := Nat.pow_pos (by decide)
    have c1 : ((2 ^ (w 77 6).toNat : Nat) : Int) = (2 : Int) ^ (w 77 6).toNat := by simp
    rw [← c1]; omega
  refine e_X12_plan hC ⟨fun q1 => ⟨fun q2 => ?_, fun _ => h _⟩, fun _ => h _⟩
  have l : ∀ (m : Nat) (a3 a4 : Int), ck_shl 1 (w 77 6) - a4 ≤ m → 1 ≤ a4 → a4 ≤ 65536 → ck_At (ch_C g A R) (d + 1) mX12_plan K 27 [some (.inr (.inr 76)), some (.inl a1), some (.inl a2), some (.inl a3), some (.inl a4), none, none] [] w := by
    intro m
    have ex : ∀ a3, (¬ a2 = 0 → (¬ a2 = 1 → ck_CI (ch_C g A R) d mX12_hoursOf [.inr (.inr 76), .inl a3] w (fun v3 w2 => K (some (.inl v3)) w2)) ∧ (a2 = 1 → ck_CI (ch_C g A R) d mX12_worthOf [.inr (.inr 76), .inl a3] w (fun v7 w6 => K (some (.inl v7)) w6))) ∧ (a2 = 0 → K (some (.inl a3)) w) := fun a3 => ⟨fun _ => ⟨fun _ => S_X12_hoursOf hC hI (fun v _ => ⟨_, rfl, fun _ => h _⟩), fun _ => S_X12_worthOf hC hI (fun v _ => ⟨_, rfl, fun _ => h _⟩)⟩, fun _ => h _⟩
    induction m with
    | zero =>
      intro a3 a4 q3 q4 q5
      exact r_X12_plan_27 hC ⟨fun _ => ex a3, fun z => absurd (by omega) z⟩
    | succ m ih =>
      intro a3 a4 q3 q4 q5
      refine r_X12_plan_27 hC ⟨fun _ => ex a3, fun z => ?_⟩
      have o := ih a3 (a4 + 1) (by omega) (by omega) (by omega)
      have n := ih a4 (a4 + 1) (by omega) (by omega) (by omega)
      refine S_X12_hoursOf hC hI (fun v1 b1 => ⟨_, rfl, fun _ => ⟨fun _ => S_X12_worthOf hC hI (fun v2 b2 => ⟨_, rfl, fun _ => S_X12_worthOf hC hI (fun v3 b3 => ⟨_, rfl, fun _ => ⟨by constructor <;> omega, fun _ => ⟨by constructor <;> omega, n⟩, fun _ => ⟨fun _ => ⟨by constructor <;> omega, o⟩, fun _ => S_X12_hoursOf hC hI (fun v4 b4 => ⟨_, rfl, fun _ => ⟨fun _ => ⟨by constructor <;> omega, o⟩, fun _ => ⟨by constructor <;> omega, n⟩⟩⟩)⟩⟩⟩)⟩), fun _ => ⟨by constructor <;> omega, o⟩⟩⟩)
  exact l 65536 0 1 (by omega) (by omega) (by omega)
