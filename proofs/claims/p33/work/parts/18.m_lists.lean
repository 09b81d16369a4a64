/-! ===== the reference: pins, bits, words, a column ===== -/
def rm_pinU (f : Int → Int) (k s p r : Int) : Int → Int := rm_u (rm_u (rm_u f (900 + 3 * k) s) (900 + 3 * k + 1) p) (900 + 3 * k + 2) r
def rm_bitU (f : Int → Int) (k s p i q : Int) : Int → Int := rm_u (rm_u (rm_u (rm_u f (1010 + 4 * k) s) (1010 + 4 * k + 1) p) (1010 + 4 * k + 2) i) (1010 + 4 * k + 3) q
def rm_wordU (f : Int → Int) (k a b c q : Int) : Int → Int := rm_u (rm_u (rm_u (rm_u f (1300 + 4 * k) a) (1300 + 4 * k + 1) b) (1300 + 4 * k + 2) c) (1300 + 4 * k + 3) q
def rm_noPin (f : Int → Int) (n s p : Int) : Prop := ∀ k, 0 ≤ k → k < n → ¬ (f (900 + 3 * k) = s ∧ f (900 + 3 * k + 1) = p)
def rm_noBit (f : Int → Int) (n s p : Int) : Prop := ∀ k, 0 ≤ k → k < n → ¬ (f (1010 + 4 * k) = s ∧ f (1010 + 4 * k + 1) = p)
def rm_noWord (f : Int → Int) (n a b c : Int) : Prop := ∀ k, 0 ≤ k → k < n → ¬ (f (1300 + 4 * k) = a ∧ f (1300 + 4 * k + 1) = b ∧ f (1300 + 4 * k + 2) = c)
theorem dX12_pin_0 : decode cX12_pin 0 = .ok (.iload_n 1, 1) := dk_27 (by decide +kernel)
theorem dX12_pin_1 : decode cX12_pin 1 = .ok (.invokestatic 97, 3) := dk_184 0 97 (by decide +kernel)
theorem dX12_pin_4 : decode cX12_pin 4 = .ok (.ifCond .eq 30, 3) := dk_153 0 30 (by decide +kernel)
theorem dX12_pin_7 : decode cX12_pin 7 = .ok (.aload_n 0, 1) := dk_42 (by decide +kernel)
theorem dX12_pin_8 : decode cX12_pin 8 = .ok (.iload_n 2, 1) := dk_28 (by decide +kernel)
theorem dX12_pin_9 : decode cX12_pin 9 = .ok (.invokevirtual 113, 3) := dk_182 0 113 (by decide +kernel)
theorem dX12_pin_12 : decode cX12_pin 12 = .ok (.ifCond .eq 22, 3) := dk_153 0 22 (by decide +kernel)
theorem dX12_pin_15 : decode cX12_pin 15 = .ok (.aload_n 0, 1) := dk_42 (by decide +kernel)
theorem dX12_pin_16 : decode cX12_pin 16 = .ok (.iload_n 3, 1) := dk_29 (by decide +kernel)
theorem dX12_pin_17 : decode cX12_pin 17 = .ok (.invokevirtual 101, 3) := dk_182 0 101 (by decide +kernel)
theorem dX12_pin_20 : decode cX12_pin 20 = .ok (.ifCond .eq 14, 3) := dk_153 0 14 (by decide +kernel)
theorem dX12_pin_23 : decode cX12_pin 23 = .ok (.aload_n 0, 1) := dk_42 (by decide +kernel)
theorem dX12_pin_24 : decode cX12_pin 24 = .ok (.getfield 7, 3) := dk_180 0 7 (by decide +kernel)
theorem dX12_pin_27 : decode cX12_pin 27 = .ok (.iconst 1, 1) := dk_4 (by decide +kernel)
theorem dX12_pin_28 : decode cX12_pin 28 = .ok (.iaload, 1) := dk_46 (by decide +kernel)
theorem dX12_pin_29 : decode cX12_pin 29 = .ok (.bipush 20, 2) := dk_16 20 (by decide +kernel)
theorem dX12_pin_31 : decode cX12_pin 31 = .ok (.if_icmp .ne 5, 3) := dk_160 0 5 (by decide +kernel)
theorem dX12_pin_34 : decode cX12_pin 34 = .ok (.iconst (-1), 1) := dk_2 (by decide +kernel)
theorem dX12_pin_35 : decode cX12_pin 35 = .ok (.ireturn, 1) := dk_172 (by decide +kernel)
theorem dX12_pin_36 : decode cX12_pin 36 = .ok (.iconst 0, 1) := dk_3 (by decide +kernel)
theorem dX12_pin_37 : decode cX12_pin 37 = .ok (.istore 4, 2) := dk_54 (by decide +kernel)
theorem dX12_pin_39 : decode cX12_pin 39 = .ok (.iload 4, 2) := dk_21 (by decide +kernel)
theorem dX12_pin_41 : decode cX12_pin 41 = .ok (.aload_n 0, 1) := dk_42 (by decide +kernel)
theorem dX12_pin_42 : decode cX12_pin 42 = .ok (.getfield 7, 3) := dk_180 0 7 (by decide +kernel)
theorem dX12_pin_45 : decode cX12_pin 45 = .ok (.iconst 1, 1) := dk_4 (by decide +kernel)
theorem dX12_pin_46 : decode cX12_pin 46 = .ok (.iaload, 1) := dk_46 (by decide +kernel)
theorem dX12_pin_47 : decode cX12_pin 47 = .ok (.if_icmp .ge 47, 3) := dk_162 0 47 (by decide +kernel)
theorem dX12_pin_50 : decode cX12_pin 50 = .ok (.aload_n 0, 1) := dk_42 (by decide +kernel)
theorem dX12_pin_51 : decode cX12_pin 51 = .ok (.getfield 7, 3) := dk_180 0 7 (by decide +kernel)
theorem dX12_pin_54 : decode cX12_pin 54 = .ok (.sipush 900, 3) := dk_17 3 132 (by decide +kernel)
theorem dX12_pin_57 : decode cX12_pin 57 = .ok (.iconst 3, 1) := dk_6 (by decide +kernel)
theorem dX12_pin_58 : decode cX12_pin 58 = .ok (.iload 4, 2) := dk_21 (by decide +kernel)
theorem dX12_pin_60 : decode cX12_pin 60 = .ok (.imul, 1) := dk_104 (by decide +kernel)
theorem dX12_pin_61 : decode cX12_pin 61 = .ok (.iadd, 1) := dk_96 (by decide +kernel)
theorem dX12_pin_62 : decode cX12_pin 62 = .ok (.iaload, 1) := dk_46 (by decide +kernel)
theorem dX12_pin_63 : decode cX12_pin 63 = .ok (.iload_n 1, 1) := dk_27 (by decide +kernel)
theorem dX12_pin_64 : decode cX12_pin 64 = .ok (.if_icmp .ne 24, 3) := dk_160 0 24 (by decide +kernel)
theorem dX12_pin_67 : decode cX12_pin 67 = .ok (.aload_n 0, 1) := dk_42 (by decide +kernel)
theorem dX12_pin_68 : decode cX12_pin 68 = .ok (.getfield 7, 3) := dk_180 0 7 (by decide +kernel)
theorem dX12_pin_71 : decode cX12_pin 71 = .ok (.sipush 900, 3) := dk_17 3 132 (by decide +kernel)
theorem dX12_pin_74 : decode cX12_pin 74 = .ok (.iconst 3, 1) := dk_6 (by decide +kernel)
theorem dX12_pin_75 : decode cX12_pin 75 = .ok (.iload 4, 2) := dk_21 (by decide +kernel)
theorem dX12_pin_77 : decode cX12_pin 77 = .ok (.imul, 1) := dk_104 (by decide +kernel)
theorem dX12_pin_78 : decode cX12_pin 78 = .ok (.iadd, 1) := dk_96 (by decide +kernel)
theorem dX12_pin_79 : decode cX12_pin 79 = .ok (.iconst 1, 1) := dk_4 (by decide +kernel)
theorem dX12_pin_80 : decode cX12_pin 80 = .ok (.iadd, 1) := dk_96 (by decide +kernel)
theorem dX12_pin_81 : decode cX12_pin 81 = .ok (.iaload, 1) := dk_46 (by decide +kernel)
theorem dX12_pin_82 : decode cX12_pin 82 = .ok (.iload_n 2, 1) := dk_28 (by decide +kernel)
theorem dX12_pin_83 : decode cX12_pin 83 = .ok (.if_icmp .ne 5, 3) := dk_160 0 5 (by decide +kernel)
theorem dX12_pin_86 : decode cX12_pin 86 = .ok (.iconst (-1), 1) := dk_2 (by decide +kernel)
theorem dX12_pin_87 : decode cX12_pin 87 = .ok (.ireturn, 1) := dk_172 (by decide +kernel)
theorem dX12_pin_88 : decode cX12_pin 88 = .ok (.iinc 4 1, 3) := dk_132 1 (by decide +kernel)
theorem dX12_pin_91 : decode cX12_pin 91 = .ok (.goto (-52), 3) := dk_167 255 204 (by decide +kernel)
theorem dX12_pin_94 : decode cX12_pin 94 = .ok (.aload_n 0, 1) := dk_42 (by decide +kernel)
theorem dX12_pin_95 : decode cX12_pin 95 = .ok (.getfield 7, 3) := dk_180 0 7 (by decide +kernel)
theorem dX12_pin_98 : decode cX12_pin 98 = .ok (.sipush 900, 3) := dk_17 3 132 (by decide +kernel)
theorem dX12_pin_101 : decode cX12_pin 101 = .ok (.iconst 3, 1) := dk_6 (by decide +kernel)
theorem dX12_pin_102 : decode cX12_pin 102 = .ok (.aload_n 0, 1) := dk_42 (by decide +kernel)
theorem dX12_pin_103 : decode cX12_pin 103 = .ok (.getfield 7, 3) := dk_180 0 7 (by decide +kernel)
theorem dX12_pin_106 : decode cX12_pin 106 = .ok (.iconst 1, 1) := dk_4 (by decide +kernel)
theorem dX12_pin_107 : decode cX12_pin 107 = .ok (.iaload, 1) := dk_46 (by decide +kernel)
theorem dX12_pin_108 : decode cX12_pin 108 = .ok (.imul, 1) := dk_104 (by decide +kernel)
theorem dX12_pin_109 : decode cX12_pin 109 = .ok (.iadd, 1) := dk_96 (by decide +kernel)
theorem dX12_pin_110 : decode cX12_pin 110 = .ok (.iload_n 1, 1) := dk_27 (by decide +kernel)
theorem dX12_pin_111 : decode cX12_pin 111 = .ok (.iastore, 1) := dk_79 (by decide +kernel)
theorem dX12_pin_112 : decode cX12_pin 112 = .ok (.aload_n 0, 1) := dk_42 (by decide +kernel)
theorem dX12_pin_113 : decode cX12_pin 113 = .ok (.getfield 7, 3) := dk_180 0 7 (by decide +kernel)
theorem dX12_pin_116 : decode cX12_pin 116 = .ok (.sipush 900, 3) := dk_17 3 132 (by decide +kernel)
theorem dX12_pin_119 : decode cX12_pin 119 = .ok (.iconst 3, 1) := dk_6 (by decide +kernel)
theorem dX12_pin_120 : decode cX12_pin 120 = .ok (.aload_n 0, 1) := dk_42 (by decide +kernel)
theorem dX12_pin_121 : decode cX12_pin 121 = .ok (.getfield 7, 3) := dk_180 0 7 (by decide +kernel)
theorem dX12_pin_124 : decode cX12_pin 124 = .ok (.iconst 1, 1) := dk_4 (by decide +kernel)
theorem dX12_pin_125 : decode cX12_pin 125 = .ok (.iaload, 1) := dk_46 (by decide +kernel)
theorem dX12_pin_126 : decode cX12_pin 126 = .ok (.imul, 1) := dk_104 (by decide +kernel)
theorem dX12_pin_127 : decode cX12_pin 127 = .ok (.iadd, 1) := dk_96 (by decide +kernel)
theorem dX12_pin_128 : decode cX12_pin 128 = .ok (.iconst 1, 1) := dk_4 (by decide +kernel)
theorem dX12_pin_129 : decode cX12_pin 129 = .ok (.iadd, 1) := dk_96 (by decide +kernel)
theorem dX12_pin_130 : decode cX12_pin 130 = .ok (.iload_n 2, 1) := dk_28 (by decide +kernel)
theorem dX12_pin_131 : decode cX12_pin 131 = .ok (.iastore, 1) := dk_79 (by decide +kernel)
theorem dX12_pin_132 : decode cX12_pin 132 = .ok (.aload_n 0, 1) := dk_42 (by decide +kernel)
theorem dX12_pin_133 : decode cX12_pin 133 = .ok (.getfield 7, 3) := dk_180 0 7 (by decide +kernel)
theorem dX12_pin_136 : decode cX12_pin 136 = .ok (.sipush 900, 3) := dk_17 3 132 (by decide +kernel)
theorem dX12_pin_139 : decode cX12_pin 139 = .ok (.iconst 3, 1) := dk_6 (by decide +kernel)
theorem dX12_pin_140 : decode cX12_pin 140 = .ok (.aload_n 0, 1) := dk_42 (by decide +kernel)
theorem dX12_pin_141 : decode cX12_pin 141 = .ok (.getfield 7, 3) := dk_180 0 7 (by decide +kernel)
theorem dX12_pin_144 : decode cX12_pin 144 = .ok (.iconst 1, 1) := dk_4 (by decide +kernel)
theorem dX12_pin_145 : decode cX12_pin 145 = .ok (.iaload, 1) := dk_46 (by decide +kernel)
theorem dX12_pin_146 : decode cX12_pin 146 = .ok (.imul, 1) := dk_104 (by decide +kernel)
theorem dX12_pin_147 : decode cX12_pin 147 = .ok (.iadd, 1) := dk_96 (by decide +kernel)
theorem dX12_pin_148 : decode cX12_pin 148 = .ok (.iconst 2, 1) := dk_5 (by decide +kernel)
theorem dX12_pin_149 : decode cX12_pin 149 = .ok (.iadd, 1) := dk_96 (by decide +kernel)
theorem dX12_pin_150 : decode cX12_pin 150 = .ok (.iload_n 3, 1) := dk_29 (by decide +kernel)
theorem dX12_pin_151 : decode cX12_pin 151 = .ok (.iastore, 1) := dk_79 (by decide +kernel)
theorem dX12_pin_152 : decode cX12_pin 152 = .ok (.aload_n 0, 1) := dk_42 (by decide +kernel)
theorem dX12_pin_153 : decode cX12_pin 153 = .ok (.getfield 7, 3) := dk_180 0 7 (by decide +kernel)
theorem dX12_pin_156 : decode cX12_pin 156 = .ok (.iconst 1, 1) := dk_4 (by decide +kernel)
theorem dX12_pin_157 : decode cX12_pin 157 = .ok (.dup2, 1) := dk_92 (by decide +kernel)
theorem dX12_pin_158 : decode cX12_pin 158 = .ok (.iaload, 1) := dk_46 (by decide +kernel)
theorem dX12_pin_159 : decode cX12_pin 159 = .ok (.iconst 1, 1) := dk_4 (by decide +kernel)
theorem dX12_pin_160 : decode cX12_pin 160 = .ok (.iadd, 1) := dk_96 (by decide +kernel)
theorem dX12_pin_161 : decode cX12_pin 161 = .ok (.iastore, 1) := dk_79 (by decide +kernel)
theorem dX12_pin_162 : decode cX12_pin 162 = .ok (.aload_n 0, 1) := dk_42 (by decide +kernel)
theorem dX12_pin_163 : decode cX12_pin 163 = .ok (.getfield 7, 3) := dk_180 0 7 (by decide +kernel)
theorem dX12_pin_166 : decode cX12_pin 166 = .ok (.iconst 1, 1) := dk_4 (by decide +kernel)
theorem dX12_pin_167 : decode cX12_pin 167 = .ok (.iaload, 1) := dk_46 (by decide +kernel)
theorem dX12_pin_168 : decode cX12_pin 168 = .ok (.ireturn, 1) := dk_172 (by decide +kernel)
set_option maxRecDepth 8000 in
theorem e_X12_pin {g : ch_G} {A R : Nat} (hC : ck_Cx g A R) {d : Nat} {K : Option ck_V → ck_W → Prop} {w : ck_W} {a1 a2 a3 : Int} (h : (0 ≤ a1 ∧ a1 ≤ 5 → (1 ≤ (w 76 0) ∧ (w 76 0) ≤ 1000) ∧ ((0 ≤ a2 ∧ a2 ≤ 4 * (w 76 0) - 1 → (1 ≤ (w 76 1) ∧ (w 76 1) ≤ 1000) ∧ ((0 ≤ a3 ∧ a3 ≤ (w 76 1) - 1 → (¬ (w 77 1) = 20 → ck_At (ch_C g A R) (d + 2) mX12_pin K 39 [some (.inr (.inr 76)), some (.inl a1), some (.inl a2), some (.inl a3), some (.inl 0)] [] w) ∧ ((w 77 1) = 20 → K (some (.inl (-1))) w)) ∧ (¬ (0 ≤ a3 ∧ a3 ≤ (w 76 1) - 1) → K (some (.inl (-1))) w))) ∧ (¬ (0 ≤ a2 ∧ a2 ≤ 4 * (w 76 0) - 1) → K (some (.inl (-1))) w))) ∧ (¬ (0 ≤ a1 ∧ a1 ≤ 5) → K (some (.inl (-1))) w)) : ck_Ex (ch_C g A R) (d + 2) mX12_pin [.inr (.inr 76), .inl a1, .inl a2, .inl a3] w K :=
  ck_entry hC.1 [some (.inr (.inr 76)), some (.inl a1), some (.inl a2), some (.inl a3), none] (by decide) (Nat.le_of_ble_eq_true rfl) rfl (fun q => q) (ck_in (fun hl => (ck_iload_n 1 rfl 1 dX12_pin_0 rfl rfl (have h14 := h; ck_callS 4 rfl [.inl a1] [] dX12_pin_1 cs_X12_97 rfl rfl (Nat.le_of_ble_eq_true rfl) (And.intro hl.2.1 True.intro) (p_X12_isSlice hC (fun c12 _ => (ck_if_eq 7 rfl 34 dX12_pin_4 rfl (by decide) (fun q => absurd q (by decide)) (fun _ => (ck_aload_n 8 rfl 0 dX12_pin_7 rfl rfl (ck_iload_n 9 rfl 2 dX12_pin_8 rfl rfl (have h16 := (h14.1 c12); have o1 := h16.1; have h15 := h16.2; (have h11 := h15; ck_callV 12 rfl [.inl a2] [] dX12_pin_9 cv_X12_113 sh_76 rfl rfl (Nat.le_of_ble_eq_true rfl) (And.intro hl.2.2.1 True.intro) (p_X12_isPlace hC o1 (fun c9 _ => (ck_if_eq 15 rfl 34 dX12_pin_12 rfl (by decide) (fun q => absurd q (by decide)) (fun _ => (ck_aload_n 16 rfl 0 dX12_pin_15 rfl rfl (ck_iload_n 17 rfl 3 dX12_pin_16 rfl rfl (have h18 := (h11.1 c9); have o2 := h18.1; have h17 := h18.2; (have h8 := h17; ck_callV 20 rfl [.inl a3] [] dX12_pin_17 cv_X12_101 sh_76 rfl rfl (Nat.le_of_ble_eq_true rfl) (And.intro hl.2.2.2.1 True.intro) (p_X12_isRadius hC o2 (fun c6 _ => (ck_if_eq 23 rfl 34 dX12_pin_20 rfl (by decide) (fun q => absurd q (by decide)) (fun _ => (ck_aload_n 24 rfl 0 dX12_pin_23 rfl rfl (ck_getr 27 rfl dX12_pin_24 fl_X12_7 sh_76 rfl (ck_iconst 28 rfl dX12_pin_27 rfl (ck_iald 29 rfl dX12_pin_28 sh_77 (shn_77 hC) (by decide) _ rfl (fun (q3 : ck_i (w 77 1)) => (ck_bipush 31 rfl dX12_pin_29 rfl (have h19 := (h8.1 c6); (ck_icmp_ne 34 rfl 36 dX12_pin_31 rfl q3 (show ck_i 20 by decide) (fun c4 => (ck_iconst 37 rfl dX12_pin_36 rfl (ck_istore 39 rfl [some (.inr (.inr 76)), some (.inl a1), some (.inl a2), some (.inl a3), some (.inl 0)] dX12_pin_37 (Nat.le_of_ble_eq_true rfl) rfl rfl (show ck_i 0 by decide) (h19.1 c4)))) (fun c5 => (ck_iconst 35 rfl dX12_pin_34 rfl (ck_iret dX12_pin_35 rfl (show ck_i (-1) by decide) (h19.2 c5))))))))))))))) (fun c7 _ => (ck_if_eq 23 rfl 34 dX12_pin_20 rfl (by decide) (fun _ => (ck_iconst 35 rfl dX12_pin_34 rfl (ck_iret dX12_pin_35 rfl (show ck_i (-1) by decide) (h8.2 c7)))) (fun q => absurd q (by decide)))))))))))) (fun c10 _ => (ck_if_eq 15 rfl 34 dX12_pin_12 rfl (by decide) (fun _ => (ck_iconst 35 rfl dX12_pin_34 rfl (ck_iret dX12_pin_35 rfl (show ck_i (-1) by decide) (h11.2 c10)))) (fun q => absurd q (by decide)))))))))))) (fun c13 _ => (ck_if_eq 7 rfl 34 dX12_pin_4 rfl (by decide) (fun _ => (ck_iconst 35 rfl dX12_pin_34 rfl (ck_iret dX12_pin_35 rfl (show ck_i (-1) by decide) (h14.2 c13)))) (fun q => absurd q (by decide)))))))))
set_option maxRecDepth 8000 in
theorem r_X12_pin_39 {g : ch_G} {A R : Nat} (hC : ck_Cx g A R) {d : Nat} {K : Option ck_V → ck_W → Prop} {w : ck_W} {a1 a2 a3 a4 : Int} (h : ((w 77 1) ≤ a4 → (0 ≤ (900 + (3 * (w 77 1))) ∧ (900 + (3 * (w 77 1))) < 1430) ∧ (∀ x5, x5 = (ck_up w 77 (900 + (3 * (w 77 1))) a1) 77 1 → (0 ≤ ((900 + (3 * x5)) + 1) ∧ ((900 + (3 * x5)) + 1) < 1430) ∧ (∀ x10, x10 = (ck_up (ck_up w 77 (900 + (3 * (w 77 1))) a1) 77 ((900 + (3 * x5)) + 1) a2) 77 1 → (0 ≤ ((900 + (3 * x10)) + 2) ∧ ((900 + (3 * x10)) + 2) < 1430) ∧ (∀ x15, x15 = (ck_up (ck_up (ck_up w 77 (900 + (3 * (w 77 1))) a1) 77 ((900 + (3 * x5)) + 1) a2) 77 ((900 + (3 * x10)) + 2) a3) 77 1 → ck_i (x15 + 1) ∧ (K (some (.inl (x15 + 1))) (ck_up (ck_up (ck_up (ck_up w 77 (900 + (3 * (w 77 1))) a1) 77 ((900 + (3 * x5)) + 1) a2) 77 ((900 + (3 * x10)) + 2) a3) 77 1 (x15 + 1))))))) ∧ (¬ (w 77 1) ≤ a4 → (0 ≤ (900 + (3 * a4)) ∧ (900 + (3 * a4)) < 1430) ∧ ((¬ (w 77 (900 + (3 * a4))) = a1 → ck_i (a4 + 1) ∧ (ck_At (ch_C g A R) (d + 2) mX12_pin K 39 [some (.inr (.inr 76)), some (.inl a1), some (.inl a2), some (.inl a3), some (.inl (a4 + 1))] [] w)) ∧ ((w 77 (900 + (3 * a4))) = a1 → (0 ≤ ((900 + (3 * a4)) + 1) ∧ ((900 + (3 * a4)) + 1) < 1430) ∧ ((¬ (w 77 ((900 + (3 * a4)) + 1)) = a2 → ck_i (a4 + 1) ∧ (ck_At (ch_C g A R) (d + 2) mX12_pin K 39 [some (.inr (.inr 76)), some (.inl a1), some (.inl a2), some (.inl a3), some (.inl (a4 + 1))] [] w)) ∧ ((w 77 ((900 + (3 * a4)) + 1)) = a2 → K (some (.inl (-1))) w)))))) : ck_At (ch_C g A R) (d + 2) mX12_pin K 39 [some (.inr (.inr 76)), some (.inl a1), some (.inl a2), some (.inl a3), some (.inl a4)] [] w :=
  ck_in (fun hl => (ck_iload 41 rfl dX12_pin_39 rfl (ck_aload_n 42 rfl 0 dX12_pin_41 rfl rfl (ck_getr 45 rfl dX12_pin_42 fl_X12_7 sh_76 rfl (ck_iconst 46 rfl dX12_pin_45 rfl (ck_iald 47 rfl dX12_pin_46 sh_77 (shn_77 hC) (by decide) _ rfl (fun (q1 : ck_i (w 77 1)) => (ck_icmp_ge 50 rfl 94 dX12_pin_47 rfl hl.2.2.2.2.1 q1 (fun c30 => (ck_aload_n 95 rfl 0 dX12_pin_94 rfl rfl (ck_getr 98 rfl dX12_pin_95 fl_X12_7 sh_76 rfl (ck_sipush 101 rfl dX12_pin_98 rfl (ck_iconst 102 rfl dX12_pin_101 rfl (ck_aload_n 103 rfl 0 dX12_pin_102 rfl rfl (ck_getr 106 rfl dX12_pin_103 fl_X12_7 sh_76 rfl (ck_iconst 107 rfl dX12_pin_106 rfl (ck_iald 108 rfl dX12_pin_107 sh_77 (shn_77 hC) (by decide) _ rfl (fun (q2 : ck_i (w 77 1)) => (ck_imul 109 rfl dX12_pin_108 (ck_iadd 110 rfl dX12_pin_109 (ck_iload_n 111 rfl 1 dX12_pin_110 rfl rfl (have h33 := (h.1 c30); have o3 := h33.1; have h32 := h33.2; (ck_iast 112 rfl dX12_pin_111 sh_77 (shn_77 hC) o3 hl.2.1 (ck_aload_n 113 rfl 0 dX12_pin_112 rfl rfl (ck_getr 116 rfl dX12_pin_113 fl_X12_7 sh_76 rfl (ck_sipush 119 rfl dX12_pin_116 rfl (ck_iconst 120 rfl dX12_pin_119 rfl (ck_aload_n 121 rfl 0 dX12_pin_120 rfl rfl (ck_getr 124 rfl dX12_pin_121 fl_X12_7 sh_76 rfl (ck_iconst 125 rfl dX12_pin_124 rfl (ck_iald 126 rfl dX12_pin_125 sh_77 (shn_77 hC) (by decide) _ rfl (fun (q4 : ck_i ((ck_up w 77 (900 + (3 * (w 77 1))) a1) 77 1)) => ck_nmi (fun x5 e6 => (have q7 : ck_i x5 := (by rw [e6]; exact q4); (ck_imul 127 rfl dX12_pin_126 (ck_iadd 128 rfl dX12_pin_127 (ck_iconst 129 rfl dX12_pin_128 rfl (ck_iadd 130 rfl dX12_pin_129 (ck_iload_n 131 rfl 2 dX12_pin_130 rfl rfl (have h35 := (h32 x5 e6); have o8 := h35.1; have h34 := h35.2; (ck_iast 132 rfl dX12_pin_131 sh_77 (shn_77 hC) o8 hl.2.2.1 (ck_aload_n 133 rfl 0 dX12_pin_132 rfl rfl (ck_getr 136 rfl dX12_pin_133 fl_X12_7 sh_76 rfl (ck_sipush 139 rfl dX12_pin_136 rfl (ck_iconst 140 rfl dX12_pin_139 rfl (ck_aload_n 141 rfl 0 dX12_pin_140 rfl rfl (ck_getr 144 rfl dX12_pin_141 fl_X12_7 sh_76 rfl (ck_iconst 145 rfl dX12_pin_144 rfl (ck_iald 146 rfl dX12_pin_145 sh_77 (shn_77 hC) (by decide) _ rfl (fun (q9 : ck_i ((ck_up (ck_up w 77 (900 + (3 * (w 77 1))) a1) 77 ((900 + (3 * x5)) + 1) a2) 77 1)) => ck_nmi (fun x10 e11 => (have q12 : ck_i x10 := (by rw [e11]; exact q9); (ck_imul 147 rfl dX12_pin_146 (ck_iadd 148 rfl dX12_pin_147 (ck_iconst 149 rfl dX12_pin_148 rfl (ck_iadd 150 rfl dX12_pin_149 (ck_iload_n 151 rfl 3 dX12_pin_150 rfl rfl (have h37 := (h34 x10 e11); have o13 := h37.1; have h36 := h37.2; (ck_iast 152 rfl dX12_pin_151 sh_77 (shn_77 hC) o13 hl.2.2.2.1 (ck_aload_n 153 rfl 0 dX12_pin_152 rfl rfl (ck_getr 156 rfl dX12_pin_153 fl_X12_7 sh_76 rfl (ck_iconst 157 rfl dX12_pin_156 rfl (ck_dup2 158 rfl dX12_pin_157 rfl rfl (ck_iald 159 rfl dX12_pin_158 sh_77 (shn_77 hC) (by decide) _ rfl (fun (q14 : ck_i ((ck_up (ck_up (ck_up w 77 (900 + (3 * (w 77 1))) a1) 77 ((900 + (3 * x5)) + 1) a2) 77 ((900 + (3 * x10)) + 2) a3) 77 1)) => ck_nmi (fun x15 e16 => (have q17 : ck_i x15 := (by rw [e16]; exact q14); (ck_iconst 160 rfl dX12_pin_159 rfl (ck_iadd 161 rfl dX12_pin_160 (have h39 := (h36 x15 e16); have o18 := h39.1; have h38 := h39.2; (ck_iast 162 rfl dX12_pin_161 sh_77 (shn_77 hC) (by decide) o18 (ck_aload_n 163 rfl 0 dX12_pin_162 rfl rfl (ck_getr 166 rfl dX12_pin_163 fl_X12_7 sh_76 rfl (ck_iconst 167 rfl dX12_pin_166 rfl (ck_iald 168 rfl dX12_pin_167 sh_77 (shn_77 hC) (by decide) _ rfl (fun (q19 : ck_i (x15 + 1)) => (ck_iret dX12_pin_168 rfl q19 h38))))))))))))))))))))))))))))))))))))))))))))))))))))))))))))))))))))) (fun c31 => (ck_aload_n 51 rfl 0 dX12_pin_50 rfl rfl (ck_getr 54 rfl dX12_pin_51 fl_X12_7 sh_76 rfl (ck_sipush 57 rfl dX12_pin_54 rfl (ck_iconst 58 rfl dX12_pin_57 rfl (ck_iload 60 rfl dX12_pin_58 rfl (ck_imul 61 rfl dX12_pin_60 (ck_iadd 62 rfl dX12_pin_61 (have h41 := (h.2 c31); have o20 := h41.1; have h40 := h41.2; (ck_iald 63 rfl dX12_pin_62 sh_77 (shn_77 hC) o20 _ rfl (fun (q21 : ck_i (w 77 (900 + (3 * a4)))) => (ck_iload_n 64 rfl 1 dX12_pin_63 rfl rfl (ck_icmp_ne 67 rfl 88 dX12_pin_64 rfl q21 hl.2.1 (fun c28 => (have h43 := (h40.1 c28); have o22 := h43.1; have h42 := h43.2; (ck_iinc 91 rfl [some (.inr (.inr 76)), some (.inl a1), some (.inl a2), some (.inl a3), some (.inl (a4 + 1))] dX12_pin_88 rfl (Nat.le_of_ble_eq_true rfl) rfl rfl o22 (ck_goto 39 dX12_pin_91 rfl h42)))) (fun c29 => (ck_aload_n 68 rfl 0 dX12_pin_67 rfl rfl (ck_getr 71 rfl dX12_pin_68 fl_X12_7 sh_76 rfl (ck_sipush 74 rfl dX12_pin_71 rfl (ck_iconst 75 rfl dX12_pin_74 rfl (ck_iload 77 rfl dX12_pin_75 rfl (ck_imul 78 rfl dX12_pin_77 (ck_iadd 79 rfl dX12_pin_78 (ck_iconst 80 rfl dX12_pin_79 rfl (ck_iadd 81 rfl dX12_pin_80 (have h45 := (h40.2 c29); have o23 := h45.1; have h44 := h45.2; (ck_iald 82 rfl dX12_pin_81 sh_77 (shn_77 hC) o23 _ rfl (fun (q24 : ck_i (w 77 ((900 + (3 * a4)) + 1))) => (ck_iload_n 83 rfl 2 dX12_pin_82 rfl rfl (ck_icmp_ne 86 rfl 88 dX12_pin_83 rfl q24 hl.2.2.1 (fun c26 => (have h47 := (h44.1 c26); have o25 := h47.1; have h46 := h47.2; (ck_iinc 91 rfl [some (.inr (.inr 76)), some (.inl a1), some (.inl a2), some (.inl a3), some (.inl (a4 + 1))] dX12_pin_88 rfl (Nat.le_of_ble_eq_true rfl) rfl rfl o25 (ck_goto 39 dX12_pin_91 rfl h46)))) (fun c27 => (ck_iconst 87 rfl dX12_pin_86 rfl (ck_iret dX12_pin_87 rfl (show ck_i (-1) by decide) (h44.2 c27))))))))))))))))))))))))))))))))))))))))
theorem L_X12_pin {g : ch_G} {A R : Nat} (hC : ck_Cx g A R) {d : Nat} {K : Option ck_V → ck_W → Prop} {w : ck_W} {a1 a2 a3 a4 : Int} (hI : rm_I A R w) (n : Nat) (hn : w 77 1 - a4 ≤ n) (h4 : 0 ≤ a4 ∧ a4 ≤ w 77 1) (h20 : w 77 1 < 20) (ha : (0 ≤ a1 ∧ a1 ≤ 5) ∧ (0 ≤ a2 ∧ a2 ≤ 4 * (A : Int) - 1) ∧ (0 ≤ a3 ∧ a3 ≤ (R : Int) - 1)) (hno : rm_noPin (w 77) a4 a1 a2)
    (h : ∀ v w', rm_I A R w' → rm_fr w w' → w' 78 = w 78 → w' 76 = w 76 → ((v = -1 ∧ w' = w ∧ ¬ rm_noPin (w 77) (w 77 1) a1 a2) ∨ (rm_noPin (w 77) (w 77 1) a1 a2 ∧ v = w 77 1 + 1 ∧ w' 77 = rm_u (rm_pinU (w 77) (w 77 1) a1 a2 a3) 1 (w 77 1 + 1))) → K (some (.inl v)) w') :
    ck_At (ch_C g A R) (d + 2) mX12_pin K 39 [some (.inr (.inr 76)), some (.inl a1), some (.inl a2), some (.inl a3), some (.inl a4)] [] w := by
  induction n generalizing a4 with
  | zero =>
    refine r_X12_pin_39 hC ⟨fun q => ?_, fun q => absurd (by omega) q⟩
    obtain rfl : a4 = w 77 1 := by omega
    refine ⟨by omega, fun x5 e5 => ?_⟩
    rw [ck_up_nj (by omega)] at e5
    subst e5
    refine ⟨by omega, fun x6 e6 => ?_⟩
    rw [ck_up_nj (by omega), ck_up_nj (by omega)] at e6
    subst e6
    refine ⟨by omega, fun x7 e7 => ?_⟩
    rw [ck_up_nj (by omega), ck_up_nj (by omega), ck_up_nj (by omega)] at e7
    subst e7
    refine ⟨by constructor <;> omega, ?_⟩
    have q0 := rh_pin0 (A := A) (R := R) (k := w 77 1) (by omega) (by omega)
    have q1 := rh_pin1 (A := A) (R := R) (k := w 77 1) (by omega) (by omega)
    have q2 := rh_pin2 (A := A) (R := R) (k := w 77 1) (by omega) (by omega)
    have q6 : rm_lo 1 = 0 ∧ rm_hi A R 1 = 20 := ⟨rfl, rfl⟩
    refine h _ _ (rm_Ib hI (fun k hk => by rw [ck_up_ne hk, ck_up_ne hk, ck_up_ne hk, ck_up_ne hk]) ?_ (by rw [ck_up_nj (by omega), ck_up_nj (by omega), ck_up_nj (by omega), ck_up_nj (by omega)])) (rm_fr_up (rm_fr_up (rm_fr_up (rm_fr_up rm_fr_rf (by decide)) (by decide)) (by decide)) (by decide)) rfl rfl (Or.inr ⟨hno, rfl, by rw [ck_up_row, ck_up_row, ck_up_row, ck_up_row]; rfl⟩)
    rw [ck_up_row, ck_up_row, ck_up_row, ck_up_row]
    exact rm_up (rm_up (rm_up (rm_up hI.2.2.2.1 (by omega) (by omega) (by omega) (by omega) (by omega)) (by omega) (by omega) (by omega) (by omega) (by omega)) (by omega) (by omega) (by omega) (by omega) (by omega)) (by omega) (by omega) (by omega) (by omega) (by omega)
  | succ n ih =>
    by_cases q : w 77 1 ≤ a4
    · exact ih (by omega) h4 hno
    · have stp : ¬ (w 77 (900 + 3 * a4) = a1 ∧ w 77 (900 + 3 * a4 + 1) = a2) → ck_At (ch_C g A R) (d + 2) mX12_pin K 39 [some (.inr (.inr 76)), some (.inl a1), some (.inl a2), some (.inl a3), some (.inl (a4 + 1))] [] w := fun z => ih (by omega) (by omega) (fun k k0 k1 => by
        by_cases e : k = a4
        · rw [e]; exact z
        · exact hno k k0 (by omega))
      refine r_X12_pin_39 hC ⟨fun q' => absurd q' q, fun _ => ⟨by omega, fun z => ⟨by constructor <;> omega, stp (fun y => z y.1)⟩, fun z => ⟨by omega, fun z2 => ⟨by constructor <;> omega, stp (fun y => z2 y.2)⟩, fun z2 => ?_⟩⟩⟩
      exact h (-1) w hI rm_fr_rf rfl rfl (Or.inl ⟨rfl, rfl, fun y => y a4 (by omega) (by omega) ⟨z, z2⟩⟩)
theorem M_pin {g : ch_G} {A R : Nat} (hC : ck_Cx g A R) {d : Nat} {K : Option ck_V → ck_W → Prop} {w : ck_W} {a1 a2 a3 : Int} (hI : rm_I A R w)
    (h : ∀ v w', rm_I A R w' → rm_fr w w' → w' 78 = w 78 → w' 76 = w 76 →
      ((0 ≤ a1 ∧ a1 ≤ 5) ∧ (0 ≤ a2 ∧ a2 ≤ 4 * (A : Int) - 1) ∧ (0 ≤ a3 ∧ a3 ≤ (R : Int) - 1) ∧ w 77 1 < 20 ∧ rm_noPin (w 77) (w 77 1) a1 a2 → v = w 77 1 + 1 ∧ w' 77 = rm_u (rm_pinU (w 77) (w 77 1) a1 a2 a3) 1 (w 77 1 + 1)) →
      (¬ ((0 ≤ a1 ∧ a1 ≤ 5) ∧ (0 ≤ a2 ∧ a2 ≤ 4 * (A : Int) - 1) ∧ (0 ≤ a3 ∧ a3 ≤ (R : Int) - 1) ∧ w 77 1 < 20 ∧ rm_noPin (w 77) (w 77 1) a1 a2) → v = -1 ∧ w' 77 = w 77) → K (some (.inl v)) w') :
    ck_Ex (ch_C g A R) (d + 2) mX12_pin [.inr (.inr 76), .inl a1, .inl a2, .inl a3] w K := by
  have hA := hI.1
  have hR := hI.2.1
  have c := hC.2
  have f0 := rm_c0 hI.2.2.2.1
  have r0 : ∀ (q : ¬ ((0 ≤ a1 ∧ a1 ≤ 5) ∧ (0 ≤ a2 ∧ a2 ≤ 4 * (A : Int) - 1) ∧ (0 ≤ a3 ∧ a3 ≤ (R : Int) - 1) ∧ w 77 1 < 20)), K (some (.inl (-1))) w := fun q => h (-1) w hI rm_fr_rf rfl rfl (fun q' => absurd ⟨q'.1, q'.2.1, q'.2.2.1, q'.2.2.2.1⟩ q) (fun _ => ⟨rfl, rfl⟩)
  refine e_X12_pin hC ⟨fun q1 => ⟨by omega, fun q2 => ⟨by omega, fun q3 => ⟨fun q4 => ?_, fun q4 => r0 (by omega)⟩, fun q3 => r0 (by omega)⟩, fun q2 => r0 (by omega)⟩, fun q1 => r0 (by omega)⟩
  refine L_X12_pin hC hI 20 (by omega) (by omega) (by omega) ⟨q1, by omega, by omega⟩ (fun k k0 k1 => absurd k0 (by omega)) (fun v w' i1 i2 i3 i4 i5 => ?_)
  rcases i5 with ⟨e1, e2, e3⟩ | ⟨e1, e2, e3⟩
  · exact h v w' i1 i2 i3 i4 (fun q' => absurd q'.2.2.2.2 e3) (fun _ => ⟨e1, by rw [e2]⟩)
  · exact h v w' i1 i2 i3 i4 (fun _ => ⟨e2, e3⟩) (fun q' => absurd ⟨q1, by omega, by omega, by omega, e1⟩ q')
theorem dX12_bit_0 : decode cX12_bit 0 = .ok (.iload_n 1, 1) := dk_27 (by decide +kernel)
theorem dX12_bit_1 : decode cX12_bit 1 = .ok (.invokestatic 97, 3) := dk_184 0 97 (by decide +kernel)
theorem dX12_bit_4 : decode cX12_bit 4 = .ok (.ifCond .eq 21, 3) := dk_153 0 21 (by decide +kernel)
theorem dX12_bit_7 : decode cX12_bit 7 = .ok (.aload_n 0, 1) := dk_42 (by decide +kernel)
theorem dX12_bit_8 : decode cX12_bit 8 = .ok (.iload_n 2, 1) := dk_28 (by decide +kernel)
theorem dX12_bit_9 : decode cX12_bit 9 = .ok (.invokevirtual 113, 3) := dk_182 0 113 (by decide +kernel)
theorem dX12_bit_12 : decode cX12_bit 12 = .ok (.ifCond .eq 13, 3) := dk_153 0 13 (by decide +kernel)
theorem dX12_bit_15 : decode cX12_bit 15 = .ok (.iload 4, 2) := dk_21 (by decide +kernel)
theorem dX12_bit_17 : decode cX12_bit 17 = .ok (.iconst 0, 1) := dk_3 (by decide +kernel)
theorem dX12_bit_18 : decode cX12_bit 18 = .ok (.iconst 3, 1) := dk_6 (by decide +kernel)
theorem dX12_bit_19 : decode cX12_bit 19 = .ok (.invokestatic 93, 3) := dk_184 0 93 (by decide +kernel)
theorem dX12_bit_22 : decode cX12_bit 22 = .ok (.ifCond .ne 5, 3) := dk_154 0 5 (by decide +kernel)
theorem dX12_bit_25 : decode cX12_bit 25 = .ok (.iconst (-1), 1) := dk_2 (by decide +kernel)
theorem dX12_bit_26 : decode cX12_bit 26 = .ok (.ireturn, 1) := dk_172 (by decide +kernel)
theorem dX12_bit_27 : decode cX12_bit 27 = .ok (.iconst 0, 1) := dk_3 (by decide +kernel)
theorem dX12_bit_28 : decode cX12_bit 28 = .ok (.istore 5, 2) := dk_54 (by decide +kernel)
theorem dX12_bit_30 : decode cX12_bit 30 = .ok (.iload 5, 2) := dk_21 (by decide +kernel)
theorem dX12_bit_32 : decode cX12_bit 32 = .ok (.aload_n 0, 1) := dk_42 (by decide +kernel)
theorem dX12_bit_33 : decode cX12_bit 33 = .ok (.getfield 7, 3) := dk_180 0 7 (by decide +kernel)
theorem dX12_bit_36 : decode cX12_bit 36 = .ok (.iconst 3, 1) := dk_6 (by decide +kernel)
theorem dX12_bit_37 : decode cX12_bit 37 = .ok (.iaload, 1) := dk_46 (by decide +kernel)
theorem dX12_bit_38 : decode cX12_bit 38 = .ok (.if_icmp .ge 45, 3) := dk_162 0 45 (by decide +kernel)
theorem dX12_bit_41 : decode cX12_bit 41 = .ok (.aload_n 0, 1) := dk_42 (by decide +kernel)
theorem dX12_bit_42 : decode cX12_bit 42 = .ok (.getfield 7, 3) := dk_180 0 7 (by decide +kernel)
theorem dX12_bit_45 : decode cX12_bit 45 = .ok (.sipush 1010, 3) := dk_17 3 242 (by decide +kernel)
theorem dX12_bit_48 : decode cX12_bit 48 = .ok (.iconst 4, 1) := dk_7 (by decide +kernel)
theorem dX12_bit_49 : decode cX12_bit 49 = .ok (.iload 5, 2) := dk_21 (by decide +kernel)
theorem dX12_bit_51 : decode cX12_bit 51 = .ok (.imul, 1) := dk_104 (by decide +kernel)
theorem dX12_bit_52 : decode cX12_bit 52 = .ok (.iadd, 1) := dk_96 (by decide +kernel)
theorem dX12_bit_53 : decode cX12_bit 53 = .ok (.iaload, 1) := dk_46 (by decide +kernel)
theorem dX12_bit_54 : decode cX12_bit 54 = .ok (.iload_n 1, 1) := dk_27 (by decide +kernel)
theorem dX12_bit_55 : decode cX12_bit 55 = .ok (.if_icmp .ne 22, 3) := dk_160 0 22 (by decide +kernel)
theorem dX12_bit_58 : decode cX12_bit 58 = .ok (.aload_n 0, 1) := dk_42 (by decide +kernel)
theorem dX12_bit_59 : decode cX12_bit 59 = .ok (.getfield 7, 3) := dk_180 0 7 (by decide +kernel)
theorem dX12_bit_62 : decode cX12_bit 62 = .ok (.sipush 1010, 3) := dk_17 3 242 (by decide +kernel)
theorem dX12_bit_65 : decode cX12_bit 65 = .ok (.iconst 4, 1) := dk_7 (by decide +kernel)
theorem dX12_bit_66 : decode cX12_bit 66 = .ok (.iload 5, 2) := dk_21 (by decide +kernel)
theorem dX12_bit_68 : decode cX12_bit 68 = .ok (.imul, 1) := dk_104 (by decide +kernel)
theorem dX12_bit_69 : decode cX12_bit 69 = .ok (.iadd, 1) := dk_96 (by decide +kernel)
theorem dX12_bit_70 : decode cX12_bit 70 = .ok (.iconst 1, 1) := dk_4 (by decide +kernel)
theorem dX12_bit_71 : decode cX12_bit 71 = .ok (.iadd, 1) := dk_96 (by decide +kernel)
theorem dX12_bit_72 : decode cX12_bit 72 = .ok (.iaload, 1) := dk_46 (by decide +kernel)
theorem dX12_bit_73 : decode cX12_bit 73 = .ok (.iload_n 2, 1) := dk_28 (by decide +kernel)
theorem dX12_bit_74 : decode cX12_bit 74 = .ok (.if_icmp .eq 9, 3) := dk_159 0 9 (by decide +kernel)
theorem dX12_bit_77 : decode cX12_bit 77 = .ok (.iinc 5 1, 3) := dk_132 1 (by decide +kernel)
theorem dX12_bit_80 : decode cX12_bit 80 = .ok (.goto (-50), 3) := dk_167 255 206 (by decide +kernel)
theorem dX12_bit_83 : decode cX12_bit 83 = .ok (.iload 5, 2) := dk_21 (by decide +kernel)
theorem dX12_bit_85 : decode cX12_bit 85 = .ok (.bipush 60, 2) := dk_16 60 (by decide +kernel)
theorem dX12_bit_87 : decode cX12_bit 87 = .ok (.if_icmp .ne 5, 3) := dk_160 0 5 (by decide +kernel)
theorem dX12_bit_90 : decode cX12_bit 90 = .ok (.iconst (-1), 1) := dk_2 (by decide +kernel)
theorem dX12_bit_91 : decode cX12_bit 91 = .ok (.ireturn, 1) := dk_172 (by decide +kernel)
theorem dX12_bit_92 : decode cX12_bit 92 = .ok (.aload_n 0, 1) := dk_42 (by decide +kernel)
theorem dX12_bit_93 : decode cX12_bit 93 = .ok (.getfield 7, 3) := dk_180 0 7 (by decide +kernel)
theorem dX12_bit_96 : decode cX12_bit 96 = .ok (.sipush 1010, 3) := dk_17 3 242 (by decide +kernel)
theorem dX12_bit_99 : decode cX12_bit 99 = .ok (.iconst 4, 1) := dk_7 (by decide +kernel)
theorem dX12_bit_100 : decode cX12_bit 100 = .ok (.iload 5, 2) := dk_21 (by decide +kernel)
theorem dX12_bit_102 : decode cX12_bit 102 = .ok (.imul, 1) := dk_104 (by decide +kernel)
theorem dX12_bit_103 : decode cX12_bit 103 = .ok (.iadd, 1) := dk_96 (by decide +kernel)
theorem dX12_bit_104 : decode cX12_bit 104 = .ok (.iload_n 1, 1) := dk_27 (by decide +kernel)
theorem dX12_bit_105 : decode cX12_bit 105 = .ok (.iastore, 1) := dk_79 (by decide +kernel)
theorem dX12_bit_106 : decode cX12_bit 106 = .ok (.aload_n 0, 1) := dk_42 (by decide +kernel)
theorem dX12_bit_107 : decode cX12_bit 107 = .ok (.getfield 7, 3) := dk_180 0 7 (by decide +kernel)
theorem dX12_bit_110 : decode cX12_bit 110 = .ok (.sipush 1010, 3) := dk_17 3 242 (by decide +kernel)
theorem dX12_bit_113 : decode cX12_bit 113 = .ok (.iconst 4, 1) := dk_7 (by decide +kernel)
theorem dX12_bit_114 : decode cX12_bit 114 = .ok (.iload 5, 2) := dk_21 (by decide +kernel)
theorem dX12_bit_116 : decode cX12_bit 116 = .ok (.imul, 1) := dk_104 (by decide +kernel)
theorem dX12_bit_117 : decode cX12_bit 117 = .ok (.iadd, 1) := dk_96 (by decide +kernel)
theorem dX12_bit_118 : decode cX12_bit 118 = .ok (.iconst 1, 1) := dk_4 (by decide +kernel)
theorem dX12_bit_119 : decode cX12_bit 119 = .ok (.iadd, 1) := dk_96 (by decide +kernel)
theorem dX12_bit_120 : decode cX12_bit 120 = .ok (.iload_n 2, 1) := dk_28 (by decide +kernel)
theorem dX12_bit_121 : decode cX12_bit 121 = .ok (.iastore, 1) := dk_79 (by decide +kernel)
theorem dX12_bit_122 : decode cX12_bit 122 = .ok (.aload_n 0, 1) := dk_42 (by decide +kernel)
theorem dX12_bit_123 : decode cX12_bit 123 = .ok (.getfield 7, 3) := dk_180 0 7 (by decide +kernel)
theorem dX12_bit_126 : decode cX12_bit 126 = .ok (.sipush 1010, 3) := dk_17 3 242 (by decide +kernel)
theorem dX12_bit_129 : decode cX12_bit 129 = .ok (.iconst 4, 1) := dk_7 (by decide +kernel)
theorem dX12_bit_130 : decode cX12_bit 130 = .ok (.iload 5, 2) := dk_21 (by decide +kernel)
theorem dX12_bit_132 : decode cX12_bit 132 = .ok (.imul, 1) := dk_104 (by decide +kernel)
theorem dX12_bit_133 : decode cX12_bit 133 = .ok (.iadd, 1) := dk_96 (by decide +kernel)
theorem dX12_bit_134 : decode cX12_bit 134 = .ok (.iconst 2, 1) := dk_5 (by decide +kernel)
theorem dX12_bit_135 : decode cX12_bit 135 = .ok (.iadd, 1) := dk_96 (by decide +kernel)
theorem dX12_bit_136 : decode cX12_bit 136 = .ok (.iload_n 3, 1) := dk_29 (by decide +kernel)
theorem dX12_bit_137 : decode cX12_bit 137 = .ok (.ifCond .eq 7, 3) := dk_153 0 7 (by decide +kernel)
theorem dX12_bit_140 : decode cX12_bit 140 = .ok (.iconst 1, 1) := dk_4 (by decide +kernel)
theorem dX12_bit_141 : decode cX12_bit 141 = .ok (.goto 4, 3) := dk_167 0 4 (by decide +kernel)
theorem dX12_bit_144 : decode cX12_bit 144 = .ok (.iconst 0, 1) := dk_3 (by decide +kernel)
theorem dX12_bit_145 : decode cX12_bit 145 = .ok (.iastore, 1) := dk_79 (by decide +kernel)
theorem dX12_bit_146 : decode cX12_bit 146 = .ok (.aload_n 0, 1) := dk_42 (by decide +kernel)
theorem dX12_bit_147 : decode cX12_bit 147 = .ok (.getfield 7, 3) := dk_180 0 7 (by decide +kernel)
theorem dX12_bit_150 : decode cX12_bit 150 = .ok (.sipush 1010, 3) := dk_17 3 242 (by decide +kernel)
theorem dX12_bit_153 : decode cX12_bit 153 = .ok (.iconst 4, 1) := dk_7 (by decide +kernel)
theorem dX12_bit_154 : decode cX12_bit 154 = .ok (.iload 5, 2) := dk_21 (by decide +kernel)
theorem dX12_bit_156 : decode cX12_bit 156 = .ok (.imul, 1) := dk_104 (by decide +kernel)
theorem dX12_bit_157 : decode cX12_bit 157 = .ok (.iadd, 1) := dk_96 (by decide +kernel)
theorem dX12_bit_158 : decode cX12_bit 158 = .ok (.iconst 3, 1) := dk_6 (by decide +kernel)
theorem dX12_bit_159 : decode cX12_bit 159 = .ok (.iadd, 1) := dk_96 (by decide +kernel)
theorem dX12_bit_160 : decode cX12_bit 160 = .ok (.iload 4, 2) := dk_21 (by decide +kernel)
theorem dX12_bit_162 : decode cX12_bit 162 = .ok (.iastore, 1) := dk_79 (by decide +kernel)
theorem dX12_bit_163 : decode cX12_bit 163 = .ok (.iload 5, 2) := dk_21 (by decide +kernel)
theorem dX12_bit_165 : decode cX12_bit 165 = .ok (.aload_n 0, 1) := dk_42 (by decide +kernel)
theorem dX12_bit_166 : decode cX12_bit 166 = .ok (.getfield 7, 3) := dk_180 0 7 (by decide +kernel)
theorem dX12_bit_169 : decode cX12_bit 169 = .ok (.iconst 3, 1) := dk_6 (by decide +kernel)
theorem dX12_bit_170 : decode cX12_bit 170 = .ok (.iaload, 1) := dk_46 (by decide +kernel)
theorem dX12_bit_171 : decode cX12_bit 171 = .ok (.if_icmp .ne 13, 3) := dk_160 0 13 (by decide +kernel)
theorem dX12_bit_174 : decode cX12_bit 174 = .ok (.aload_n 0, 1) := dk_42 (by decide +kernel)
theorem dX12_bit_175 : decode cX12_bit 175 = .ok (.getfield 7, 3) := dk_180 0 7 (by decide +kernel)
theorem dX12_bit_178 : decode cX12_bit 178 = .ok (.iconst 3, 1) := dk_6 (by decide +kernel)
theorem dX12_bit_179 : decode cX12_bit 179 = .ok (.dup2, 1) := dk_92 (by decide +kernel)
theorem dX12_bit_180 : decode cX12_bit 180 = .ok (.iaload, 1) := dk_46 (by decide +kernel)
theorem dX12_bit_181 : decode cX12_bit 181 = .ok (.iconst 1, 1) := dk_4 (by decide +kernel)
theorem dX12_bit_182 : decode cX12_bit 182 = .ok (.iadd, 1) := dk_96 (by decide +kernel)
theorem dX12_bit_183 : decode cX12_bit 183 = .ok (.iastore, 1) := dk_79 (by decide +kernel)
theorem dX12_bit_184 : decode cX12_bit 184 = .ok (.aload_n 0, 1) := dk_42 (by decide +kernel)
theorem dX12_bit_185 : decode cX12_bit 185 = .ok (.getfield 7, 3) := dk_180 0 7 (by decide +kernel)
theorem dX12_bit_188 : decode cX12_bit 188 = .ok (.iconst 3, 1) := dk_6 (by decide +kernel)
theorem dX12_bit_189 : decode cX12_bit 189 = .ok (.iaload, 1) := dk_46 (by decide +kernel)
theorem dX12_bit_190 : decode cX12_bit 190 = .ok (.ireturn, 1) := dk_172 (by decide +kernel)
set_option maxRecDepth 8000 in
theorem e_X12_bit {g : ch_G} {A R : Nat} (hC : ck_Cx g A R) {d : Nat} {K : Option ck_V → ck_W → Prop} {w : ck_W} {a1 a2 a3 a4 : Int} (h : (0 ≤ a1 ∧ a1 ≤ 5 → (1 ≤ (w 76 0) ∧ (w 76 0) ≤ 1000) ∧ ((0 ≤ a2 ∧ a2 ≤ 4 * (w 76 0) - 1 → (0 ≤ a4 ∧ a4 ≤ 3 → ck_At (ch_C g A R) (d + 2) mX12_bit K 30 [some (.inr (.inr 76)), some (.inl a1), some (.inl a2), some (.inl a3), some (.inl a4), some (.inl 0)] [] w) ∧ (¬ (0 ≤ a4 ∧ a4 ≤ 3) → K (some (.inl (-1))) w)) ∧ (¬ (0 ≤ a2 ∧ a2 ≤ 4 * (w 76 0) - 1) → K (some (.inl (-1))) w))) ∧ (¬ (0 ≤ a1 ∧ a1 ≤ 5) → K (some (.inl (-1))) w)) : ck_Ex (ch_C g A R) (d + 2) mX12_bit [.inr (.inr 76), .inl a1, .inl a2, .inl a3, .inl a4] w K :=
  ck_entry hC.1 [some (.inr (.inr 76)), some (.inl a1), some (.inl a2), some (.inl a3), some (.inl a4), none] (by decide) (Nat.le_of_ble_eq_true rfl) rfl (fun q => q) (ck_in (fun hl => (ck_iload_n 1 rfl 1 dX12_bit_0 rfl rfl (have h10 := h; ck_callS 4 rfl [.inl a1] [] dX12_bit_1 cs_X12_97 rfl rfl (Nat.le_of_ble_eq_true rfl) (And.intro hl.2.1 True.intro) (p_X12_isSlice hC (fun c8 _ => (ck_if_eq 7 rfl 25 dX12_bit_4 rfl (by decide) (fun q => absurd q (by decide)) (fun _ => (ck_aload_n 8 rfl 0 dX12_bit_7 rfl rfl (ck_iload_n 9 rfl 2 dX12_bit_8 rfl rfl (have h12 := (h10.1 c8); have o1 := h12.1; have h11 := h12.2; (have h7 := h11; ck_callV 12 rfl [.inl a2] [] dX12_bit_9 cv_X12_113 sh_76 rfl rfl (Nat.le_of_ble_eq_true rfl) (And.intro hl.2.2.1 True.intro) (p_X12_isPlace hC o1 (fun c5 _ => (ck_if_eq 15 rfl 25 dX12_bit_12 rfl (by decide) (fun q => absurd q (by decide)) (fun _ => (ck_iload 17 rfl dX12_bit_15 rfl (ck_iconst 18 rfl dX12_bit_17 rfl (ck_iconst 19 rfl dX12_bit_18 rfl (have h4 := (h7.1 c5); ck_callS 22 rfl [.inl a4, .inl 0, .inl 3] [] dX12_bit_19 cs_X12_93 rfl rfl (Nat.le_of_ble_eq_true rfl) (And.intro hl.2.2.2.2.1 (And.intro (show ck_i 0 by decide) (And.intro (show ck_i 3 by decide) True.intro))) (p_X12_isIn hC (fun c2 _ => (ck_if_ne 25 rfl 27 dX12_bit_22 rfl (by decide) (fun _ => (ck_iconst 28 rfl dX12_bit_27 rfl (ck_istore 30 rfl [some (.inr (.inr 76)), some (.inl a1), some (.inl a2), some (.inl a3), some (.inl a4), some (.inl 0)] dX12_bit_28 (Nat.le_of_ble_eq_true rfl) rfl rfl (show ck_i 0 by decide) (h4.1 c2)))) (fun q => absurd q (by decide)))) (fun c3 _ => (ck_if_ne 25 rfl 27 dX12_bit_22 rfl (by decide) (fun q => absurd q (by decide)) (fun _ => (ck_iconst 26 rfl dX12_bit_25 rfl (ck_iret dX12_bit_26 rfl (show ck_i (-1) by decide) (h4.2 c3)))))))))))))) (fun c6 _ => (ck_if_eq 15 rfl 25 dX12_bit_12 rfl (by decide) (fun _ => (ck_iconst 26 rfl dX12_bit_25 rfl (ck_iret dX12_bit_26 rfl (show ck_i (-1) by decide) (h7.2 c6)))) (fun q => absurd q (by decide)))))))))))) (fun c9 _ => (ck_if_eq 7 rfl 25 dX12_bit_4 rfl (by decide) (fun _ => (ck_iconst 26 rfl dX12_bit_25 rfl (ck_iret dX12_bit_26 rfl (show ck_i (-1) by decide) (h10.2 c9)))) (fun q => absurd q (by decide)))))))))
set_option maxRecDepth 8000 in
theorem r_X12_bit_30 {g : ch_G} {A R : Nat} (hC : ck_Cx g A R) {d : Nat} {K : Option ck_V → ck_W → Prop} {w : ck_W} {a1 a2 a3 a4 a5 : Int} (h : ((w 77 3) ≤ a5 → ck_At (ch_C g A R) (d + 2) mX12_bit K 83 [some (.inr (.inr 76)), some (.inl a1), some (.inl a2), some (.inl a3), some (.inl a4), some (.inl a5)] [] w) ∧ (¬ (w 77 3) ≤ a5 → (0 ≤ (1010 + (4 * a5)) ∧ (1010 + (4 * a5)) < 1430) ∧ ((¬ (w 77 (1010 + (4 * a5))) = a1 → ck_i (a5 + 1) ∧ (ck_At (ch_C g A R) (d + 2) mX12_bit K 30 [some (.inr (.inr 76)), some (.inl a1), some (.inl a2), some (.inl a3), some (.inl a4), some (.inl (a5 + 1))] [] w)) ∧ ((w 77 (1010 + (4 * a5))) = a1 → (0 ≤ ((1010 + (4 * a5)) + 1) ∧ ((1010 + (4 * a5)) + 1) < 1430) ∧ (((w 77 ((1010 + (4 * a5)) + 1)) = a2 → ck_At (ch_C g A R) (d + 2) mX12_bit K 83 [some (.inr (.inr 76)), some (.inl a1), some (.inl a2), some (.inl a3), some (.inl a4), some (.inl a5)] [] w) ∧ (¬ (w 77 ((1010 + (4 * a5)) + 1)) = a2 → ck_i (a5 + 1) ∧ (ck_At (ch_C g A R) (d + 2) mX12_bit K 30 [some (.inr (.inr 76)), some (.inl a1), some (.inl a2), some (.inl a3), some (.inl a4), some (.inl (a5 + 1))] [] w))))))) : ck_At (ch_C g A R) (d + 2) mX12_bit K 30 [some (.inr (.inr 76)), some (.inl a1), some (.inl a2), some (.inl a3), some (.inl a4), some (.inl a5)] [] w :=
  ck_in (fun hl => (ck_iload 32 rfl dX12_bit_30 rfl (ck_aload_n 33 rfl 0 dX12_bit_32 rfl rfl (ck_getr 36 rfl dX12_bit_33 fl_X12_7 sh_76 rfl (ck_iconst 37 rfl dX12_bit_36 rfl (ck_iald 38 rfl dX12_bit_37 sh_77 (shn_77 hC) (by decide) _ rfl (fun (q1 : ck_i (w 77 3)) => (ck_icmp_ge 41 rfl 83 dX12_bit_38 rfl hl.2.2.2.2.2.1 q1 (fun c12 => (h.1 c12)) (fun c13 => (ck_aload_n 42 rfl 0 dX12_bit_41 rfl rfl (ck_getr 45 rfl dX12_bit_42 fl_X12_7 sh_76 rfl (ck_sipush 48 rfl dX12_bit_45 rfl (ck_iconst 49 rfl dX12_bit_48 rfl (ck_iload 51 rfl dX12_bit_49 rfl (ck_imul 52 rfl dX12_bit_51 (ck_iadd 53 rfl dX12_bit_52 (have h15 := (h.2 c13); have o2 := h15.1; have h14 := h15.2; (ck_iald 54 rfl dX12_bit_53 sh_77 (shn_77 hC) o2 _ rfl (fun (q3 : ck_i (w 77 (1010 + (4 * a5)))) => (ck_iload_n 55 rfl 1 dX12_bit_54 rfl rfl (ck_icmp_ne 58 rfl 77 dX12_bit_55 rfl q3 hl.2.1 (fun c10 => (have h17 := (h14.1 c10); have o4 := h17.1; have h16 := h17.2; (ck_iinc 80 rfl [some (.inr (.inr 76)), some (.inl a1), some (.inl a2), some (.inl a3), some (.inl a4), some (.inl (a5 + 1))] dX12_bit_77 rfl (Nat.le_of_ble_eq_true rfl) rfl rfl o4 (ck_goto 30 dX12_bit_80 rfl h16)))) (fun c11 => (ck_aload_n 59 rfl 0 dX12_bit_58 rfl rfl (ck_getr 62 rfl dX12_bit_59 fl_X12_7 sh_76 rfl (ck_sipush 65 rfl dX12_bit_62 rfl (ck_iconst 66 rfl dX12_bit_65 rfl (ck_iload 68 rfl dX12_bit_66 rfl (ck_imul 69 rfl dX12_bit_68 (ck_iadd 70 rfl dX12_bit_69 (ck_iconst 71 rfl dX12_bit_70 rfl (ck_iadd 72 rfl dX12_bit_71 (have h19 := (h14.2 c11); have o5 := h19.1; have h18 := h19.2; (ck_iald 73 rfl dX12_bit_72 sh_77 (shn_77 hC) o5 _ rfl (fun (q6 : ck_i (w 77 ((1010 + (4 * a5)) + 1))) => (ck_iload_n 74 rfl 2 dX12_bit_73 rfl rfl (ck_icmp_eq 77 rfl 83 dX12_bit_74 rfl q6 hl.2.2.1 (fun c8 => (h18.1 c8)) (fun c9 => (have h21 := (h18.2 c9); have o7 := h21.1; have h20 := h21.2; (ck_iinc 80 rfl [some (.inr (.inr 76)), some (.inl a1), some (.inl a2), some (.inl a3), some (.inl a4), some (.inl (a5 + 1))] dX12_bit_77 rfl (Nat.le_of_ble_eq_true rfl) rfl rfl o7 (ck_goto 30 dX12_bit_80 rfl h20))))))))))))))))))))))))))))))))))))))))
set_option maxRecDepth 8000 in
theorem r_X12_bit_83 {g : ch_G} {A R : Nat} (hC : ck_Cx g A R) {d : Nat} {K : Option ck_V → ck_W → Prop} {w : ck_W} {a1 a2 a3 a4 a5 : Int} (h : (¬ a5 = 60 → (0 ≤ (1010 + (4 * a5)) ∧ (1010 + (4 * a5)) < 1430) ∧ ((0 ≤ ((1010 + (4 * a5)) + 1) ∧ ((1010 + (4 * a5)) + 1) < 1430) ∧ ((a3 = 0 → (0 ≤ ((1010 + (4 * a5)) + 2) ∧ ((1010 + (4 * a5)) + 2) < 1430) ∧ ((0 ≤ ((1010 + (4 * a5)) + 3) ∧ ((1010 + (4 * a5)) + 3) < 1430) ∧ (∀ x6, x6 = (ck_up (ck_up (ck_up (ck_up w 77 (1010 + (4 * a5)) a1) 77 ((1010 + (4 * a5)) + 1) a2) 77 ((1010 + (4 * a5)) + 2) 0) 77 ((1010 + (4 * a5)) + 3) a4) 77 3 → (¬ a5 = x6 → ∀ x10, x10 = (ck_up (ck_up (ck_up (ck_up w 77 (1010 + (4 * a5)) a1) 77 ((1010 + (4 * a5)) + 1) a2) 77 ((1010 + (4 * a5)) + 2) 0) 77 ((1010 + (4 * a5)) + 3) a4) 77 3 → K (some (.inl x10)) (ck_up (ck_up (ck_up (ck_up w 77 (1010 + (4 * a5)) a1) 77 ((1010 + (4 * a5)) + 1) a2) 77 ((1010 + (4 * a5)) + 2) 0) 77 ((1010 + (4 * a5)) + 3) a4)) ∧ (a5 = x6 → ∀ x14, x14 = (ck_up (ck_up (ck_up (ck_up w 77 (1010 + (4 * a5)) a1) 77 ((1010 + (4 * a5)) + 1) a2) 77 ((1010 + (4 * a5)) + 2) 0) 77 ((1010 + (4 * a5)) + 3) a4) 77 3 → ck_i (x14 + 1) ∧ (K (some (.inl (x14 + 1))) (ck_up (ck_up (ck_up (ck_up (ck_up w 77 (1010 + (4 * a5)) a1) 77 ((1010 + (4 * a5)) + 1) a2) 77 ((1010 + (4 * a5)) + 2) 0) 77 ((1010 + (4 * a5)) + 3) a4) 77 3 (x14 + 1))))))) ∧ (¬ a3 = 0 → (0 ≤ ((1010 + (4 * a5)) + 2) ∧ ((1010 + (4 * a5)) + 2) < 1430) ∧ ((0 ≤ ((1010 + (4 * a5)) + 3) ∧ ((1010 + (4 * a5)) + 3) < 1430) ∧ (∀ x24, x24 = (ck_up (ck_up (ck_up (ck_up w 77 (1010 + (4 * a5)) a1) 77 ((1010 + (4 * a5)) + 1) a2) 77 ((1010 + (4 * a5)) + 2) 1) 77 ((1010 + (4 * a5)) + 3) a4) 77 3 → (¬ a5 = x24 → ∀ x28, x28 = (ck_up (ck_up (ck_up (ck_up w 77 (1010 + (4 * a5)) a1) 77 ((1010 + (4 * a5)) + 1) a2) 77 ((1010 + (4 * a5)) + 2) 1) 77 ((1010 + (4 * a5)) + 3) a4) 77 3 → K (some (.inl x28)) (ck_up (ck_up (ck_up (ck_up w 77 (1010 + (4 * a5)) a1) 77 ((1010 + (4 * a5)) + 1) a2) 77 ((1010 + (4 * a5)) + 2) 1) 77 ((1010 + (4 * a5)) + 3) a4)) ∧ (a5 = x24 → ∀ x32, x32 = (ck_up (ck_up (ck_up (ck_up w 77 (1010 + (4 * a5)) a1) 77 ((1010 + (4 * a5)) + 1) a2) 77 ((1010 + (4 * a5)) + 2) 1) 77 ((1010 + (4 * a5)) + 3) a4) 77 3 → ck_i (x32 + 1) ∧ (K (some (.inl (x32 + 1))) (ck_up (ck_up (ck_up (ck_up (ck_up w 77 (1010 + (4 * a5)) a1) 77 ((1010 + (4 * a5)) + 1) a2) 77 ((1010 + (4 * a5)) + 2) 1) 77 ((1010 + (4 * a5)) + 3) a4) 77 3 (x32 + 1)))))))))) ∧ (a5 = 60 → K (some (.inl (-1))) w)) : ck_At (ch_C g A R) (d + 2) mX12_bit K 83 [some (.inr (.inr 76)), some (.inl a1), some (.inl a2), some (.inl a3), some (.inl a4), some (.inl a5)] [] w :=
  ck_in (fun hl => (ck_iload 85 rfl dX12_bit_83 rfl (ck_bipush 87 rfl dX12_bit_85 rfl (ck_icmp_ne 90 rfl 92 dX12_bit_87 rfl hl.2.2.2.2.2.1 (show ck_i 60 by decide) (fun c41 => (ck_aload_n 93 rfl 0 dX12_bit_92 rfl rfl (ck_getr 96 rfl dX12_bit_93 fl_X12_7 sh_76 rfl (ck_sipush 99 rfl dX12_bit_96 rfl (ck_iconst 100 rfl dX12_bit_99 rfl (ck_iload 102 rfl dX12_bit_100 rfl (ck_imul 103 rfl dX12_bit_102 (ck_iadd 104 rfl dX12_bit_103 (ck_iload_n 105 rfl 1 dX12_bit_104 rfl rfl (have h44 := (h.1 c41); have o1 := h44.1; have h43 := h44.2; (ck_iast 106 rfl dX12_bit_105 sh_77 (shn_77 hC) o1 hl.2.1 (ck_aload_n 107 rfl 0 dX12_bit_106 rfl rfl (ck_getr 110 rfl dX12_bit_107 fl_X12_7 sh_76 rfl (ck_sipush 113 rfl dX12_bit_110 rfl (ck_iconst 114 rfl dX12_bit_113 rfl (ck_iload 116 rfl dX12_bit_114 rfl (ck_imul 117 rfl dX12_bit_116 (ck_iadd 118 rfl dX12_bit_117 (ck_iconst 119 rfl dX12_bit_118 rfl (ck_iadd 120 rfl dX12_bit_119 (ck_iload_n 121 rfl 2 dX12_bit_120 rfl rfl (have h46 := h43; have o2 := h46.1; have h45 := h46.2; (ck_iast 122 rfl dX12_bit_121 sh_77 (shn_77 hC) o2 hl.2.2.1 (ck_aload_n 123 rfl 0 dX12_bit_122 rfl rfl (ck_getr 126 rfl dX12_bit_123 fl_X12_7 sh_76 rfl (ck_sipush 129 rfl dX12_bit_126 rfl (ck_iconst 130 rfl dX12_bit_129 rfl (ck_iload 132 rfl dX12_bit_130 rfl (ck_imul 133 rfl dX12_bit_132 (ck_iadd 134 rfl dX12_bit_133 (ck_iconst 135 rfl dX12_bit_134 rfl (ck_iadd 136 rfl dX12_bit_135 (ck_iload_n 137 rfl 3 dX12_bit_136 rfl rfl (ck_if_eq 140 rfl 144 dX12_bit_137 rfl hl.2.2.2.1 (fun c39 => (ck_iconst 145 rfl dX12_bit_144 rfl (have h48 := (h45.1 c39); have o3 := h48.1; have h47 := h48.2; (ck_iast 146 rfl dX12_bit_145 sh_77 (shn_77 hC) o3 (show ck_i 0 by decide) (ck_aload_n 147 rfl 0 dX12_bit_146 rfl rfl (ck_getr 150 rfl dX12_bit_147 fl_X12_7 sh_76 rfl (ck_sipush 153 rfl dX12_bit_150 rfl (ck_iconst 154 rfl dX12_bit_153 rfl (ck_iload 156 rfl dX12_bit_154 rfl (ck_imul 157 rfl dX12_bit_156 (ck_iadd 158 rfl dX12_bit_157 (ck_iconst 159 rfl dX12_bit_158 rfl (ck_iadd 160 rfl dX12_bit_159 (ck_iload 162 rfl dX12_bit_160 rfl (have h50 := h47; have o4 := h50.1; have h49 := h50.2; (ck_iast 163 rfl dX12_bit_162 sh_77 (shn_77 hC) o4 hl.2.2.2.2.1 (ck_iload 165 rfl dX12_bit_163 rfl (ck_aload_n 166 rfl 0 dX12_bit_165 rfl rfl (ck_getr 169 rfl dX12_bit_166 fl_X12_7 sh_76 rfl (ck_iconst 170 rfl dX12_bit_169 rfl (ck_iald 171 rfl dX12_bit_170 sh_77 (shn_77 hC) (by decide) _ rfl (fun (q5 : ck_i ((ck_up (ck_up (ck_up (ck_up w 77 (1010 + (4 * a5)) a1) 77 ((1010 + (4 * a5)) + 1) a2) 77 ((1010 + (4 * a5)) + 2) 0) 77 ((1010 + (4 * a5)) + 3) a4) 77 3)) => ck_nmi (fun x6 e7 => (have q8 : ck_i x6 := (by rw [e7]; exact q5); (have h51 := (h49 x6 e7); (ck_icmp_ne 174 rfl 184 dX12_bit_171 rfl hl.2.2.2.2.2.1 q8 (fun c19 => (ck_aload_n 185 rfl 0 dX12_bit_184 rfl rfl (ck_getr 188 rfl dX12_bit_185 fl_X12_7 sh_76 rfl (ck_iconst 189 rfl dX12_bit_188 rfl (ck_iald 190 rfl dX12_bit_189 sh_77 (shn_77 hC) (by decide) _ rfl (fun (q9 : ck_i ((ck_up (ck_up (ck_up (ck_up w 77 (1010 + (4 * a5)) a1) 77 ((1010 + (4 * a5)) + 1) a2) 77 ((1010 + (4 * a5)) + 2) 0) 77 ((1010 + (4 * a5)) + 3) a4) 77 3)) => ck_nmi (fun x10 e11 => (have q12 : ck_i x10 := (by rw [e11]; exact q9); (ck_iret dX12_bit_190 rfl q12 ((h51.1 c19) x10 e11)))))))))) (fun c20 => (ck_aload_n 175 rfl 0 dX12_bit_174 rfl rfl (ck_getr 178 rfl dX12_bit_175 fl_X12_7 sh_76 rfl (ck_iconst 179 rfl dX12_bit_178 rfl (ck_dup2 180 rfl dX12_bit_179 rfl rfl (ck_iald 181 rfl dX12_bit_180 sh_77 (shn_77 hC) (by decide) _ rfl (fun (q13 : ck_i ((ck_up (ck_up (ck_up (ck_up w 77 (1010 + (4 * a5)) a1) 77 ((1010 + (4 * a5)) + 1) a2) 77 ((1010 + (4 * a5)) + 2) 0) 77 ((1010 + (4 * a5)) + 3) a4) 77 3)) => ck_nmi (fun x14 e15 => (have q16 : ck_i x14 := (by rw [e15]; exact q13); (ck_iconst 182 rfl dX12_bit_181 rfl (ck_iadd 183 rfl dX12_bit_182 (have h53 := ((h51.2 c20) x14 e15); have o17 := h53.1; have h52 := h53.2; (ck_iast 184 rfl dX12_bit_183 sh_77 (shn_77 hC) (by decide) o17 (ck_aload_n 185 rfl 0 dX12_bit_184 rfl rfl (ck_getr 188 rfl dX12_bit_185 fl_X12_7 sh_76 rfl (ck_iconst 189 rfl dX12_bit_188 rfl (ck_iald 190 rfl dX12_bit_189 sh_77 (shn_77 hC) (by decide) _ rfl (fun (q18 : ck_i (x14 + 1)) => (ck_iret dX12_bit_190 rfl q18 h52))))))))))))))))))))))))))))))))))))))))))))) (fun c40 => (ck_iconst 141 rfl dX12_bit_140 rfl (ck_goto 145 dX12_bit_141 rfl (have h55 := (h45.2 c40); have o21 := h55.1; have h54 := h55.2; (ck_iast 146 rfl dX12_bit_145 sh_77 (shn_77 hC) o21 (show ck_i 1 by decide) (ck_aload_n 147 rfl 0 dX12_bit_146 rfl rfl (ck_getr 150 rfl dX12_bit_147 fl_X12_7 sh_76 rfl (ck_sipush 153 rfl dX12_bit_150 rfl (ck_iconst 154 rfl dX12_bit_153 rfl (ck_iload 156 rfl dX12_bit_154 rfl (ck_imul 157 rfl dX12_bit_156 (ck_iadd 158 rfl dX12_bit_157 (ck_iconst 159 rfl dX12_bit_158 rfl (ck_iadd 160 rfl dX12_bit_159 (ck_iload 162 rfl dX12_bit_160 rfl (have h57 := h54; have o22 := h57.1; have h56 := h57.2; (ck_iast 163 rfl dX12_bit_162 sh_77 (shn_77 hC) o22 hl.2.2.2.2.1 (ck_iload 165 rfl dX12_bit_163 rfl (ck_aload_n 166 rfl 0 dX12_bit_165 rfl rfl (ck_getr 169 rfl dX12_bit_166 fl_X12_7 sh_76 rfl (ck_iconst 170 rfl dX12_bit_169 rfl (ck_iald 171 rfl dX12_bit_170 sh_77 (shn_77 hC) (by decide) _ rfl (fun (q23 : ck_i ((ck_up (ck_up (ck_up (ck_up w 77 (1010 + (4 * a5)) a1) 77 ((1010 + (4 * a5)) + 1) a2) 77 ((1010 + (4 * a5)) + 2) 1) 77 ((1010 + (4 * a5)) + 3) a4) 77 3)) => ck_nmi (fun x24 e25 => (have q26 : ck_i x24 := (by rw [e25]; exact q23); (have h58 := (h56 x24 e25); (ck_icmp_ne 174 rfl 184 dX12_bit_171 rfl hl.2.2.2.2.2.1 q26 (fun c37 => (ck_aload_n 185 rfl 0 dX12_bit_184 rfl rfl (ck_getr 188 rfl dX12_bit_185 fl_X12_7 sh_76 rfl (ck_iconst 189 rfl dX12_bit_188 rfl (ck_iald 190 rfl dX12_bit_189 sh_77 (shn_77 hC) (by decide) _ rfl (fun (q27 : ck_i ((ck_up (ck_up (ck_up (ck_up w 77 (1010 + (4 * a5)) a1) 77 ((1010 + (4 * a5)) + 1) a2) 77 ((1010 + (4 * a5)) + 2) 1) 77 ((1010 + (4 * a5)) + 3) a4) 77 3)) => ck_nmi (fun x28 e29 => (have q30 : ck_i x28 := (by rw [e29]; exact q27); (ck_iret dX12_bit_190 rfl q30 ((h58.1 c37) x28 e29)))))))))) (fun c38 => (ck_aload_n 175 rfl 0 dX12_bit_174 rfl rfl (ck_getr 178 rfl dX12_bit_175 fl_X12_7 sh_76 rfl (ck_iconst 179 rfl dX12_bit_178 rfl (ck_dup2 180 rfl dX12_bit_179 rfl rfl (ck_iald 181 rfl dX12_bit_180 sh_77 (shn_77 hC) (by decide) _ rfl (fun (q31 : ck_i ((ck_up (ck_up (ck_up (ck_up w 77 (1010 + (4 * a5)) a1) 77 ((1010 + (4 * a5)) + 1) a2) 77 ((1010 + (4 * a5)) + 2) 1) 77 ((1010 + (4 * a5)) + 3) a4) 77 3)) => ck_nmi (fun x32 e33 => (have q34 : ck_i x32 := (by rw [e33]; exact q31); (ck_iconst 182 rfl dX12_bit_181 rfl (ck_iadd 183 rfl dX12_bit_182 (have h60 := ((h58.2 c38) x32 e33); have o35 := h60.1; have h59 := h60.2; (ck_iast 184 rfl dX12_bit_183 sh_77 (shn_77 hC) (by decide) o35 (ck_aload_n 185 rfl 0 dX12_bit_184 rfl rfl (ck_getr 188 rfl dX12_bit_185 fl_X12_7 sh_76 rfl (ck_iconst 189 rfl dX12_bit_188 rfl (ck_iald 190 rfl dX12_bit_189 sh_77 (shn_77 hC) (by decide) _ rfl (fun (q36 : ck_i (x32 + 1)) => (ck_iret dX12_bit_190 rfl q36 h59)))))))))))))))))))))))))))))))))))))))))))))))))))))))))))))))))))))))))))))))) (fun c42 => (ck_iconst 91 rfl dX12_bit_90 rfl (ck_iret dX12_bit_91 rfl (show ck_i (-1) by decide) (h.2 c42))))))))
theorem rm_bitA {A R : Nat} {f : Int → Int} (h : rm_A A R f) {k s p i q : Int} (h0 : 0 ≤ k) (h1 : k < 60) (hs : 0 ≤ s ∧ s ≤ 5) (hp : 0 ≤ p ∧ p ≤ 4 * (A : Int) - 1) (hi : 0 ≤ i ∧ i ≤ 1) (hq : 0 ≤ q ∧ q ≤ 3) : rm_A A R (rm_bitU f k s p i q) := by
  have q0 := rh_bit0 (A := A) (R := R) h0 h1
  have q1 := rh_bit1 (A := A) (R := R) h0 h1
  have q2 := rh_bit2 (A := A) (R := R) h0 h1
  have q3 := rh_bit3 (A := A) (R := R) h0 h1
  exact rm_up (rm_up (rm_up (rm_up h (by omega) (by omega) (by omega) (by omega) (by omega)) (by omega) (by omega) (by omega) (by omega) (by omega)) (by omega) (by omega) (by omega) (by omega) (by omega)) (by omega) (by omega) (by omega) (by omega) (by omega)
theorem rm_bitU_lo {f : Int → Int} {k s p i q j : Int} (h0 : 0 ≤ k) (h : j < 1010) : rm_bitU f k s p i q j = f j := by
  unfold rm_bitU
  rw [rm_u_ne (by omega), rm_u_ne (by omega), rm_u_ne (by omega), rm_u_ne (by omega)]
theorem B_X12_bit {g : ch_G} {A R : Nat} (hC : ck_Cx g A R) {d : Nat} {K : Option ck_V → ck_W → Prop} {w : ck_W} {a1 a2 a3 a4 a5 : Int} (hI : rm_I A R w) (h5 : 0 ≤ a5 ∧ a5 ≤ w 77 3) (ha : (0 ≤ a1 ∧ a1 ≤ 5) ∧ (0 ≤ a2 ∧ a2 ≤ 4 * (A : Int) - 1) ∧ (0 ≤ a4 ∧ a4 ≤ 3))
    (h : ∀ v w', rm_I A R w' → rm_fr w w' → w' 78 = w 78 → w' 76 = w 76 → ((v = -1 ∧ w' = w ∧ a5 = 60) ∨ (a5 < w 77 3 ∧ v = w 77 3 ∧ w' 77 = rm_bitU (w 77) a5 a1 a2 (if a3 = 0 then 0 else 1) a4) ∨ (a5 = w 77 3 ∧ a5 < 60 ∧ v = w 77 3 + 1 ∧ w' 77 = rm_u (rm_bitU (w 77) a5 a1 a2 (if a3 = 0 then 0 else 1) a4) 3 (w 77 3 + 1))) → K (some (.inl v)) w') :
    ck_At (ch_C g A R) (d + 2) mX12_bit K 83 [some (.inr (.inr 76)), some (.inl a1), some (.inl a2), some (.inl a3), some (.inl a4), some (.inl a5)] [] w := by
  have f0 := rm_c0 hI.2.2.2.1
  have q6 : rm_lo 3 = 0 ∧ rm_hi A R 3 = 60 := ⟨rfl, rfl⟩
  have fin : ∀ i, (0 ≤ i ∧ i ≤ 1) → (i = if a3 = 0 then 0 else 1) → ¬ a5 = 60 → (0 ≤ ((1010 + (4 * a5)) + 2) ∧ ((1010 + (4 * a5)) + 2) < 1430) ∧ ((0 ≤ ((1010 + (4 * a5)) + 3) ∧ ((1010 + (4 * a5)) + 3) < 1430) ∧ (∀ x6, x6 = (ck_up (ck_up (ck_up (ck_up w 77 (1010 + (4 * a5)) a1) 77 ((1010 + (4 * a5)) + 1) a2) 77 ((1010 + (4 * a5)) + 2) i) 77 ((1010 + (4 * a5)) + 3) a4) 77 3 → (¬ a5 = x6 → ∀ x10, x10 = (ck_up (ck_up (ck_up (ck_up w 77 (1010 + (4 * a5)) a1) 77 ((1010 + (4 * a5)) + 1) a2) 77 ((1010 + (4 * a5)) + 2) i) 77 ((1010 + (4 * a5)) + 3) a4) 77 3 → K (some (.inl x10)) (ck_up (ck_up (ck_up (ck_up w 77 (1010 + (4 * a5)) a1) 77 ((1010 + (4 * a5)) + 1) a2) 77 ((1010 + (4 * a5)) + 2) i) 77 ((1010 + (4 * a5)) + 3) a4)) ∧ (a5 = x6 → ∀ x14, x14 = (ck_up (ck_up (ck_up (ck_up w 77 (1010 + (4 * a5)) a1) 77 ((1010 + (4 * a5)) + 1) a2) 77 ((1010 + (4 * a5)) + 2) i) 77 ((1010 + (4 * a5)) + 3) a4) 77 3 → ck_i (x14 + 1) ∧ (K (some (.inl (x14 + 1))) (ck_up (ck_up (ck_up (ck_up (ck_up w 77 (1010 + (4 * a5)) a1) 77 ((1010 + (4 * a5)) + 1) a2) 77 ((1010 + (4 * a5)) + 2) i) 77 ((1010 + (4 * a5)) + 3) a4) 77 3 (x14 + 1)))))) := by
    intro i hi ei h60
    refine ⟨by omega, by omega, fun x6 e6 => ?_⟩
    rw [ck_up_nj (by omega), ck_up_nj (by omega), ck_up_nj (by omega), ck_up_nj (by omega)] at e6
    subst e6
    have row : (ck_up (ck_up (ck_up (ck_up w 77 (1010 + (4 * a5)) a1) 77 ((1010 + (4 * a5)) + 1) a2) 77 ((1010 + (4 * a5)) + 2) i) 77 ((1010 + (4 * a5)) + 3) a4) 77 = rm_bitU (w 77) a5 a1 a2 i a4 := by rw [ck_up_row, ck_up_row, ck_up_row, ck_up_row]; rfl
    have good := rm_bitA hI.2.2.2.1 (k := a5) (s := a1) (p := a2) (i := i) (q := a4) (by omega) (by omega) ha.1 ha.2.1 hi ha.2.2
    refine ⟨fun z x e => ?_, fun z x e => ?_⟩
    · rw [ck_up_nj (by omega), ck_up_nj (by omega), ck_up_nj (by omega), ck_up_nj (by omega)] at e
      subst e
      exact h _ _ (rm_Ib hI (fun k hk => by rw [ck_up_ne hk, ck_up_ne hk, ck_up_ne hk, ck_up_ne hk]) (by rw [row]; exact good) (by rw [row, rm_bitU_lo (by omega) (by omega)])) (rm_fr_up (rm_fr_up (rm_fr_up (rm_fr_up rm_fr_rf (by decide)) (by decide)) (by decide)) (by decide)) rfl rfl (Or.inr (Or.inl ⟨by omega, rfl, by rw [row, ei]⟩))
    · rw [ck_up_nj (by omega), ck_up_nj (by omega), ck_up_nj (by omega), ck_up_nj (by omega)] at e
      subst e
      refine ⟨by constructor <;> omega, ?_⟩
      refine h _ _ (rm_Ib hI (fun k hk => by rw [ck_up_ne hk, ck_up_ne hk, ck_up_ne hk, ck_up_ne hk, ck_up_ne hk]) ?_ (by rw [ck_up_nj (by omega), row, rm_bitU_lo (by omega) (by omega)])) (rm_fr_up (rm_fr_up (rm_fr_up (rm_fr_up (rm_fr_up rm_fr_rf (by decide)) (by decide)) (by decide)) (by decide)) (by decide)) rfl rfl (Or.inr (Or.inr ⟨z, by omega, rfl, by rw [ck_up_row, row, ei]⟩))
      rw [ck_up_row, row]
      exact rm_up good (by omega) (by omega) (by omega) (by omega) (by omega)
  refine r_X12_bit_83 hC ⟨fun q => ⟨by omega, by omega, fun z => fin 0 (by omega) (by rw [if_pos z]) q, fun z => fin 1 (by omega) (by rw [if_neg z]) q⟩, fun q => h (-1) w hI rm_fr_rf rfl rfl (Or.inl ⟨rfl, rfl, q⟩)⟩
theorem L_X12_bit {g : ch_G} {A R : Nat} (hC : ck_Cx g A R) {d : Nat} {K : Option ck_V → ck_W → Prop} {w : ck_W} {a1 a2 a3 a4 a5 : Int} (hI : rm_I A R w) (n : Nat) (hn : w 77 3 - a5 ≤ n) (h5 : 0 ≤ a5 ∧ a5 ≤ w 77 3) (ha : (0 ≤ a1 ∧ a1 ≤ 5) ∧ (0 ≤ a2 ∧ a2 ≤ 4 * (A : Int) - 1) ∧ (0 ≤ a4 ∧ a4 ≤ 3)) (hno : rm_noBit (w 77) a5 a1 a2)
    (h : ∀ v w', rm_I A R w' → rm_fr w w' → w' 78 = w 78 → w' 76 = w 76 → ((v = -1 ∧ w' = w ∧ w 77 3 = 60 ∧ rm_noBit (w 77) 60 a1 a2) ∨ (∃ k, (0 ≤ k ∧ k < w 77 3) ∧ (w 77 (1010 + 4 * k) = a1 ∧ w 77 (1010 + 4 * k + 1) = a2) ∧ v = w 77 3 ∧ w' 77 = rm_bitU (w 77) k a1 a2 (if a3 = 0 then 0 else 1) a4) ∨ (rm_noBit (w 77) (w 77 3) a1 a2 ∧ w 77 3 < 60 ∧ v = w 77 3 + 1 ∧ w' 77 = rm_u (rm_bitU (w 77) (w 77 3) a1 a2 (if a3 = 0 then 0 else 1) a4) 3 (w 77 3 + 1))) → K (some (.inl v)) w') :
    ck_At (ch_C g A R) (d + 2) mX12_bit K 30 [some (.inr (.inr 76)), some (.inl a1), some (.inl a2), some (.inl a3), some (.inl a4), some (.inl a5)] [] w := by
  have f0 := rm_c0 hI.2.2.2.1
  induction n generalizing a5 with
  | zero =>
    refine r_X12_bit_30 hC ⟨fun q => ?_, fun q => absurd (by omega) q⟩
    obtain rfl : a5 = w 77 3 := by omega
    refine B_X12_bit hC hI (by omega) ha (fun v w' i1 i2 i3 i4 i5 => h v w' i1 i2 i3 i4 ?_)
    rcases i5 with ⟨e1, e2, e3⟩ | ⟨e1, e2⟩ | ⟨e1, e2, e3, e4⟩
    · exact Or.inl ⟨e1, e2, e3, by rw [e3] at hno; exact hno⟩
    · omega
    · exact Or.inr (Or.inr ⟨hno, e2, e3, e4⟩)
  | succ n ih =>
    by_cases q : w 77 3 ≤ a5
    · exact ih (by omega) h5 hno
    · have stp : ¬ (w 77 (1010 + 4 * a5) = a1 ∧ w 77 (1010 + 4 * a5 + 1) = a2) → ck_At (ch_C g A R) (d + 2) mX12_bit K 30 [some (.inr (.inr 76)), some (.inl a1), some (.inl a2), some (.inl a3), some (.inl a4), some (.inl (a5 + 1))] [] w := fun z => ih (by omega) (by omega) (fun k k0 k1 => by
        by_cases e : k = a5
        · rw [e]; exact z
        · exact hno k k0 (by omega))
      refine r_X12_bit_30 hC ⟨fun q' => absurd q' q, fun _ => ⟨by omega, fun z => ⟨by constructor <;> omega, stp (fun y => z y.1)⟩, fun z => ⟨by omega, fun z2 => ?_, fun z2 => ⟨by constructor <;> omega, stp (fun y => z2 y.2)⟩⟩⟩⟩
      refine B_X12_bit hC hI (by omega) ha (fun v w' i1 i2 i3 i4 i5 => h v w' i1 i2 i3 i4 ?_)
      rcases i5 with ⟨e1, e2, e3⟩ | ⟨e1, e2, e3⟩ | ⟨e1, e2, e3, e4⟩
      · omega
      · exact Or.inr (Or.inl ⟨a5, ⟨by omega, e1⟩, ⟨z, z2⟩, e2, e3⟩)
      · omega
theorem M_bit {g : ch_G} {A R : Nat} (hC : ck_Cx g A R) {d : Nat} {K : Option ck_V → ck_W → Prop} {w : ck_W} {a1 a2 a3 a4 : Int} (hI : rm_I A R w)
    (h : ∀ v w', rm_I A R w' → rm_fr w w' → w' 78 = w 78 → w' 76 = w 76 →
      ((v = -1 ∧ w' = w ∧ ¬ ((0 ≤ a1 ∧ a1 ≤ 5) ∧ (0 ≤ a2 ∧ a2 ≤ 4 * (A : Int) - 1) ∧ (0 ≤ a4 ∧ a4 ≤ 3))) ∨
      (((0 ≤ a1 ∧ a1 ≤ 5) ∧ (0 ≤ a2 ∧ a2 ≤ 4 * (A : Int) - 1) ∧ (0 ≤ a4 ∧ a4 ≤ 3)) ∧ ((v = -1 ∧ w' = w ∧ w 77 3 = 60 ∧ rm_noBit (w 77) 60 a1 a2) ∨ (∃ k, (0 ≤ k ∧ k < w 77 3) ∧ (w 77 (1010 + 4 * k) = a1 ∧ w 77 (1010 + 4 * k + 1) = a2) ∧ v = w 77 3 ∧ w' 77 = rm_bitU (w 77) k a1 a2 (if a3 = 0 then 0 else 1) a4) ∨ (rm_noBit (w 77) (w 77 3) a1 a2 ∧ w 77 3 < 60 ∧ v = w 77 3 + 1 ∧ w' 77 = rm_u (rm_bitU (w 77) (w 77 3) a1 a2 (if a3 = 0 then 0 else 1) a4) 3 (w 77 3 + 1))))) → K (some (.inl v)) w') :
    ck_Ex (ch_C g A R) (d + 2) mX12_bit [.inr (.inr 76), .inl a1, .inl a2, .inl a3, .inl a4] w K := by
  have hA := hI.1
  have c := hC.2
  have f0 := rm_c0 hI.2.2.2.1
  have r0 : ∀ (q : ¬ ((0 ≤ a1 ∧ a1 ≤ 5) ∧ (0 ≤ a2 ∧ a2 ≤ 4 * (A : Int) - 1) ∧ (0 ≤ a4 ∧ a4 ≤ 3))), K (some (.inl (-1))) w := fun q => h (-1) w hI rm_fr_rf rfl rfl (Or.inl ⟨rfl, rfl, q⟩)
  refine e_X12_bit hC ⟨fun q1 => ⟨by omega, fun q2 => ⟨fun q3 => ?_, fun q3 => r0 (by omega)⟩, fun q2 => r0 (by omega)⟩, fun q1 => r0 (by omega)⟩
  exact L_X12_bit hC hI 60 (by omega) (by omega) ⟨q1, by omega, q3⟩ (fun k k0 k1 => absurd k0 (by omega)) (fun v w' i1 i2 i3 i4 i5 => h v w' i1 i2 i3 i4 (Or.inr ⟨⟨q1, by omega, q3⟩, i5⟩))
theorem dX12_word_0 : decode cX12_word 0 = .ok (.aload_n 0, 1) := dk_42 (by decide +kernel)
theorem dX12_word_1 : decode cX12_word 1 = .ok (.iload_n 1, 1) := dk_27 (by decide +kernel)
theorem dX12_word_2 : decode cX12_word 2 = .ok (.invokevirtual 342, 3) := dk_182 1 86 (by decide +kernel)
theorem dX12_word_5 : decode cX12_word 5 = .ok (.ifCond .eq 41, 3) := dk_153 0 41 (by decide +kernel)
theorem dX12_word_8 : decode cX12_word 8 = .ok (.iload_n 2, 1) := dk_28 (by decide +kernel)
theorem dX12_word_9 : decode cX12_word 9 = .ok (.iconst (-1), 1) := dk_2 (by decide +kernel)
theorem dX12_word_10 : decode cX12_word 10 = .ok (.if_icmp .ne 11, 3) := dk_160 0 11 (by decide +kernel)
theorem dX12_word_13 : decode cX12_word 13 = .ok (.iload_n 3, 1) := dk_29 (by decide +kernel)
theorem dX12_word_14 : decode cX12_word 14 = .ok (.iconst (-1), 1) := dk_2 (by decide +kernel)
theorem dX12_word_15 : decode cX12_word 15 = .ok (.if_icmp .ne 31, 3) := dk_160 0 31 (by decide +kernel)
theorem dX12_word_18 : decode cX12_word 18 = .ok (.goto 24, 3) := dk_167 0 24 (by decide +kernel)
theorem dX12_word_21 : decode cX12_word 21 = .ok (.aload_n 0, 1) := dk_42 (by decide +kernel)
theorem dX12_word_22 : decode cX12_word 22 = .ok (.iload_n 2, 1) := dk_28 (by decide +kernel)
theorem dX12_word_23 : decode cX12_word 23 = .ok (.invokevirtual 342, 3) := dk_182 1 86 (by decide +kernel)
theorem dX12_word_26 : decode cX12_word 26 = .ok (.ifCond .eq 20, 3) := dk_153 0 20 (by decide +kernel)
theorem dX12_word_29 : decode cX12_word 29 = .ok (.iload_n 3, 1) := dk_29 (by decide +kernel)
theorem dX12_word_30 : decode cX12_word 30 = .ok (.iconst (-1), 1) := dk_2 (by decide +kernel)
theorem dX12_word_31 : decode cX12_word 31 = .ok (.if_icmp .eq 11, 3) := dk_159 0 11 (by decide +kernel)
theorem dX12_word_34 : decode cX12_word 34 = .ok (.aload_n 0, 1) := dk_42 (by decide +kernel)
theorem dX12_word_35 : decode cX12_word 35 = .ok (.iload_n 3, 1) := dk_29 (by decide +kernel)
theorem dX12_word_36 : decode cX12_word 36 = .ok (.invokevirtual 342, 3) := dk_182 1 86 (by decide +kernel)
theorem dX12_word_39 : decode cX12_word 39 = .ok (.ifCond .eq 7, 3) := dk_153 0 7 (by decide +kernel)
theorem dX12_word_42 : decode cX12_word 42 = .ok (.iconst 1, 1) := dk_4 (by decide +kernel)
theorem dX12_word_43 : decode cX12_word 43 = .ok (.goto 4, 3) := dk_167 0 4 (by decide +kernel)
theorem dX12_word_46 : decode cX12_word 46 = .ok (.iconst 0, 1) := dk_3 (by decide +kernel)
theorem dX12_word_47 : decode cX12_word 47 = .ok (.istore 5, 2) := dk_54 (by decide +kernel)
theorem dX12_word_49 : decode cX12_word 49 = .ok (.iload 5, 2) := dk_21 (by decide +kernel)
theorem dX12_word_51 : decode cX12_word 51 = .ok (.ifCond .eq 22, 3) := dk_153 0 22 (by decide +kernel)
theorem dX12_word_54 : decode cX12_word 54 = .ok (.iload 4, 2) := dk_21 (by decide +kernel)
theorem dX12_word_56 : decode cX12_word 56 = .ok (.invokestatic 339, 3) := dk_184 1 83 (by decide +kernel)
theorem dX12_word_59 : decode cX12_word 59 = .ok (.ifCond .eq 14, 3) := dk_153 0 14 (by decide +kernel)
theorem dX12_word_62 : decode cX12_word 62 = .ok (.aload_n 0, 1) := dk_42 (by decide +kernel)
theorem dX12_word_63 : decode cX12_word 63 = .ok (.getfield 7, 3) := dk_180 0 7 (by decide +kernel)
theorem dX12_word_66 : decode cX12_word 66 = .ok (.iconst 5, 1) := dk_8 (by decide +kernel)
theorem dX12_word_67 : decode cX12_word 67 = .ok (.iaload, 1) := dk_46 (by decide +kernel)
theorem dX12_word_68 : decode cX12_word 68 = .ok (.bipush 12, 2) := dk_16 12 (by decide +kernel)
theorem dX12_word_70 : decode cX12_word 70 = .ok (.if_icmp .ne 5, 3) := dk_160 0 5 (by decide +kernel)
theorem dX12_word_73 : decode cX12_word 73 = .ok (.iconst (-1), 1) := dk_2 (by decide +kernel)
theorem dX12_word_74 : decode cX12_word 74 = .ok (.ireturn, 1) := dk_172 (by decide +kernel)
theorem dX12_word_75 : decode cX12_word 75 = .ok (.iconst 0, 1) := dk_3 (by decide +kernel)
theorem dX12_word_76 : decode cX12_word 76 = .ok (.istore 6, 2) := dk_54 (by decide +kernel)
theorem dX12_word_78 : decode cX12_word 78 = .ok (.iload 6, 2) := dk_21 (by decide +kernel)
theorem dX12_word_80 : decode cX12_word 80 = .ok (.aload_n 0, 1) := dk_42 (by decide +kernel)
theorem dX12_word_81 : decode cX12_word 81 = .ok (.getfield 7, 3) := dk_180 0 7 (by decide +kernel)
theorem dX12_word_84 : decode cX12_word 84 = .ok (.iconst 5, 1) := dk_8 (by decide +kernel)
theorem dX12_word_85 : decode cX12_word 85 = .ok (.iaload, 1) := dk_46 (by decide +kernel)
theorem dX12_word_86 : decode cX12_word 86 = .ok (.if_icmp .ge 58, 3) := dk_162 0 58 (by decide +kernel)
theorem dX12_word_89 : decode cX12_word 89 = .ok (.sipush 1300, 3) := dk_17 5 20 (by decide +kernel)
theorem dX12_word_92 : decode cX12_word 92 = .ok (.iconst 4, 1) := dk_7 (by decide +kernel)
theorem dX12_word_93 : decode cX12_word 93 = .ok (.iload 6, 2) := dk_21 (by decide +kernel)
theorem dX12_word_95 : decode cX12_word 95 = .ok (.imul, 1) := dk_104 (by decide +kernel)
theorem dX12_word_96 : decode cX12_word 96 = .ok (.iadd, 1) := dk_96 (by decide +kernel)
theorem dX12_word_97 : decode cX12_word 97 = .ok (.istore 7, 2) := dk_54 (by decide +kernel)
theorem dX12_word_99 : decode cX12_word 99 = .ok (.aload_n 0, 1) := dk_42 (by decide +kernel)
theorem dX12_word_100 : decode cX12_word 100 = .ok (.getfield 7, 3) := dk_180 0 7 (by decide +kernel)
theorem dX12_word_103 : decode cX12_word 103 = .ok (.iload 7, 2) := dk_21 (by decide +kernel)
theorem dX12_word_105 : decode cX12_word 105 = .ok (.iaload, 1) := dk_46 (by decide +kernel)
theorem dX12_word_106 : decode cX12_word 106 = .ok (.iload_n 1, 1) := dk_27 (by decide +kernel)
theorem dX12_word_107 : decode cX12_word 107 = .ok (.if_icmp .ne 31, 3) := dk_160 0 31 (by decide +kernel)
theorem dX12_word_110 : decode cX12_word 110 = .ok (.aload_n 0, 1) := dk_42 (by decide +kernel)
theorem dX12_word_111 : decode cX12_word 111 = .ok (.getfield 7, 3) := dk_180 0 7 (by decide +kernel)
theorem dX12_word_114 : decode cX12_word 114 = .ok (.iload 7, 2) := dk_21 (by decide +kernel)
theorem dX12_word_116 : decode cX12_word 116 = .ok (.iconst 1, 1) := dk_4 (by decide +kernel)
theorem dX12_word_117 : decode cX12_word 117 = .ok (.iadd, 1) := dk_96 (by decide +kernel)
theorem dX12_word_118 : decode cX12_word 118 = .ok (.iaload, 1) := dk_46 (by decide +kernel)
theorem dX12_word_119 : decode cX12_word 119 = .ok (.iload_n 2, 1) := dk_28 (by decide +kernel)
theorem dX12_word_120 : decode cX12_word 120 = .ok (.if_icmp .ne 18, 3) := dk_160 0 18 (by decide +kernel)
theorem dX12_word_123 : decode cX12_word 123 = .ok (.aload_n 0, 1) := dk_42 (by decide +kernel)
theorem dX12_word_124 : decode cX12_word 124 = .ok (.getfield 7, 3) := dk_180 0 7 (by decide +kernel)
theorem dX12_word_127 : decode cX12_word 127 = .ok (.iload 7, 2) := dk_21 (by decide +kernel)
theorem dX12_word_129 : decode cX12_word 129 = .ok (.iconst 2, 1) := dk_5 (by decide +kernel)
theorem dX12_word_130 : decode cX12_word 130 = .ok (.iadd, 1) := dk_96 (by decide +kernel)
theorem dX12_word_131 : decode cX12_word 131 = .ok (.iaload, 1) := dk_46 (by decide +kernel)
theorem dX12_word_132 : decode cX12_word 132 = .ok (.iload_n 3, 1) := dk_29 (by decide +kernel)
theorem dX12_word_133 : decode cX12_word 133 = .ok (.if_icmp .ne 5, 3) := dk_160 0 5 (by decide +kernel)
theorem dX12_word_136 : decode cX12_word 136 = .ok (.iconst (-1), 1) := dk_2 (by decide +kernel)
theorem dX12_word_137 : decode cX12_word 137 = .ok (.ireturn, 1) := dk_172 (by decide +kernel)
theorem dX12_word_138 : decode cX12_word 138 = .ok (.iinc 6 1, 3) := dk_132 1 (by decide +kernel)
theorem dX12_word_141 : decode cX12_word 141 = .ok (.goto (-63), 3) := dk_167 255 193 (by decide +kernel)
theorem dX12_word_144 : decode cX12_word 144 = .ok (.sipush 1300, 3) := dk_17 5 20 (by decide +kernel)
theorem dX12_word_147 : decode cX12_word 147 = .ok (.iconst 4, 1) := dk_7 (by decide +kernel)
theorem dX12_word_148 : decode cX12_word 148 = .ok (.aload_n 0, 1) := dk_42 (by decide +kernel)
theorem dX12_word_149 : decode cX12_word 149 = .ok (.getfield 7, 3) := dk_180 0 7 (by decide +kernel)
theorem dX12_word_152 : decode cX12_word 152 = .ok (.iconst 5, 1) := dk_8 (by decide +kernel)
theorem dX12_word_153 : decode cX12_word 153 = .ok (.iaload, 1) := dk_46 (by decide +kernel)
theorem dX12_word_154 : decode cX12_word 154 = .ok (.imul, 1) := dk_104 (by decide +kernel)
theorem dX12_word_155 : decode cX12_word 155 = .ok (.iadd, 1) := dk_96 (by decide +kernel)
theorem dX12_word_156 : decode cX12_word 156 = .ok (.istore 6, 2) := dk_54 (by decide +kernel)
theorem dX12_word_158 : decode cX12_word 158 = .ok (.aload_n 0, 1) := dk_42 (by decide +kernel)
theorem dX12_word_159 : decode cX12_word 159 = .ok (.getfield 7, 3) := dk_180 0 7 (by decide +kernel)
theorem dX12_word_162 : decode cX12_word 162 = .ok (.iload 6, 2) := dk_21 (by decide +kernel)
theorem dX12_word_164 : decode cX12_word 164 = .ok (.iload_n 1, 1) := dk_27 (by decide +kernel)
theorem dX12_word_165 : decode cX12_word 165 = .ok (.iastore, 1) := dk_79 (by decide +kernel)
theorem dX12_word_166 : decode cX12_word 166 = .ok (.aload_n 0, 1) := dk_42 (by decide +kernel)
theorem dX12_word_167 : decode cX12_word 167 = .ok (.getfield 7, 3) := dk_180 0 7 (by decide +kernel)
theorem dX12_word_170 : decode cX12_word 170 = .ok (.iload 6, 2) := dk_21 (by decide +kernel)
theorem dX12_word_172 : decode cX12_word 172 = .ok (.iconst 1, 1) := dk_4 (by decide +kernel)
theorem dX12_word_173 : decode cX12_word 173 = .ok (.iadd, 1) := dk_96 (by decide +kernel)
theorem dX12_word_174 : decode cX12_word 174 = .ok (.iload_n 2, 1) := dk_28 (by decide +kernel)
theorem dX12_word_175 : decode cX12_word 175 = .ok (.iastore, 1) := dk_79 (by decide +kernel)
theorem dX12_word_176 : decode cX12_word 176 = .ok (.aload_n 0, 1) := dk_42 (by decide +kernel)
theorem dX12_word_177 : decode cX12_word 177 = .ok (.getfield 7, 3) := dk_180 0 7 (by decide +kernel)
theorem dX12_word_180 : decode cX12_word 180 = .ok (.iload 6, 2) := dk_21 (by decide +kernel)
theorem dX12_word_182 : decode cX12_word 182 = .ok (.iconst 2, 1) := dk_5 (by decide +kernel)
theorem dX12_word_183 : decode cX12_word 183 = .ok (.iadd, 1) := dk_96 (by decide +kernel)
theorem dX12_word_184 : decode cX12_word 184 = .ok (.iload_n 3, 1) := dk_29 (by decide +kernel)
theorem dX12_word_185 : decode cX12_word 185 = .ok (.iastore, 1) := dk_79 (by decide +kernel)
theorem dX12_word_186 : decode cX12_word 186 = .ok (.aload_n 0, 1) := dk_42 (by decide +kernel)
theorem dX12_word_187 : decode cX12_word 187 = .ok (.getfield 7, 3) := dk_180 0 7 (by decide +kernel)
theorem dX12_word_190 : decode cX12_word 190 = .ok (.iload 6, 2) := dk_21 (by decide +kernel)
theorem dX12_word_192 : decode cX12_word 192 = .ok (.iconst 3, 1) := dk_6 (by decide +kernel)
theorem dX12_word_193 : decode cX12_word 193 = .ok (.iadd, 1) := dk_96 (by decide +kernel)
theorem dX12_word_194 : decode cX12_word 194 = .ok (.iload 4, 2) := dk_21 (by decide +kernel)
theorem dX12_word_196 : decode cX12_word 196 = .ok (.iastore, 1) := dk_79 (by decide +kernel)
theorem dX12_word_197 : decode cX12_word 197 = .ok (.aload_n 0, 1) := dk_42 (by decide +kernel)
theorem dX12_word_198 : decode cX12_word 198 = .ok (.getfield 7, 3) := dk_180 0 7 (by decide +kernel)
theorem dX12_word_201 : decode cX12_word 201 = .ok (.iconst 5, 1) := dk_8 (by decide +kernel)
theorem dX12_word_202 : decode cX12_word 202 = .ok (.dup2, 1) := dk_92 (by decide +kernel)
theorem dX12_word_203 : decode cX12_word 203 = .ok (.iaload, 1) := dk_46 (by decide +kernel)
theorem dX12_word_204 : decode cX12_word 204 = .ok (.iconst 1, 1) := dk_4 (by decide +kernel)
theorem dX12_word_205 : decode cX12_word 205 = .ok (.iadd, 1) := dk_96 (by decide +kernel)
theorem dX12_word_206 : decode cX12_word 206 = .ok (.iastore, 1) := dk_79 (by decide +kernel)
theorem dX12_word_207 : decode cX12_word 207 = .ok (.aload_n 0, 1) := dk_42 (by decide +kernel)
theorem dX12_word_208 : decode cX12_word 208 = .ok (.getfield 7, 3) := dk_180 0 7 (by decide +kernel)
theorem dX12_word_211 : decode cX12_word 211 = .ok (.iconst 5, 1) := dk_8 (by decide +kernel)
theorem dX12_word_212 : decode cX12_word 212 = .ok (.iaload, 1) := dk_46 (by decide +kernel)
theorem dX12_word_213 : decode cX12_word 213 = .ok (.iconst 1, 1) := dk_4 (by decide +kernel)
theorem dX12_word_214 : decode cX12_word 214 = .ok (.isub, 1) := dk_100 (by decide +kernel)
theorem dX12_word_215 : decode cX12_word 215 = .ok (.ireturn, 1) := dk_172 (by decide +kernel)
set_option maxRecDepth 8000 in
theorem e_X12_word {g : ch_G} {A R : Nat} (hC : ck_Cx g A R) {d : Nat} {K : Option ck_V → ck_W → Prop} {w : ck_W} {a1 a2 a3 a4 : Int} (h : (0 ≤ (w 77 4) ∧ (w 77 4) ≤ 1000) ∧ ((0 ≤ a1 ∧ a1 ≤ (w 77 4) - 1 → (¬ a2 = (-1) → (0 ≤ a2 ∧ a2 ≤ (w 77 4) - 1 → (a3 = (-1) → ck_At (ch_C g A R) (d + 2) mX12_word K 49 [some (.inr (.inr 76)), some (.inl a1), some (.inl a2), some (.inl a3), some (.inl a4), some (.inl 1), none, none] [] w) ∧ (¬ a3 = (-1) → (0 ≤ a3 ∧ a3 ≤ (w 77 4) - 1 → ck_At (ch_C g A R) (d + 2) mX12_word K 49 [some (.inr (.inr 76)), some (.inl a1), some (.inl a2), some (.inl a3), some (.inl a4), some (.inl 1), none, none] [] w) ∧ (¬ (0 ≤ a3 ∧ a3 ≤ (w 77 4) - 1) → ck_At (ch_C g A R) (d + 2) mX12_word K 49 [some (.inr (.inr 76)), some (.inl a1), some (.inl a2), some (.inl a3), some (.inl a4), some (.inl 0), none, none] [] w))) ∧ (¬ (0 ≤ a2 ∧ a2 ≤ (w 77 4) - 1) → ck_At (ch_C g A R) (d + 2) mX12_word K 49 [some (.inr (.inr 76)), some (.inl a1), some (.inl a2), some (.inl a3), some (.inl a4), some (.inl 0), none, none] [] w)) ∧ (a2 = (-1) → (¬ a3 = (-1) → ck_At (ch_C g A R) (d + 2) mX12_word K 49 [some (.inr (.inr 76)), some (.inl a1), some (.inl a2), some (.inl a3), some (.inl a4), some (.inl 0), none, none] [] w) ∧ (a3 = (-1) → ck_At (ch_C g A R) (d + 2) mX12_word K 49 [some (.inr (.inr 76)), some (.inl a1), some (.inl a2), some (.inl a3), some (.inl a4), some (.inl 1), none, none] [] w))) ∧ (¬ (0 ≤ a1 ∧ a1 ≤ (w 77 4) - 1) → ck_At (ch_C g A R) (d + 2) mX12_word K 49 [some (.inr (.inr 76)), some (.inl a1), some (.inl a2), some (.inl a3), some (.inl a4), some (.inl 0), none, none] [] w))) : ck_Ex (ch_C g A R) (d + 2) mX12_word [.inr (.inr 76), .inl a1, .inl a2, .inl a3, .inl a4] w K :=
  ck_entry hC.1 [some (.inr (.inr 76)), some (.inl a1), some (.inl a2), some (.inl a3), some (.inl a4), none, none, none] (by decide) (Nat.le_of_ble_eq_true rfl) rfl (fun q => q) (ck_in (fun hl => (ck_aload_n 1 rfl 0 dX12_word_0 rfl rfl (ck_iload_n 2 rfl 1 dX12_word_1 rfl rfl (have h18 := h; have o1 := h18.1; have h17 := h18.2; (have h16 := h17; ck_callV 5 rfl [.inl a1] [] dX12_word_2 cv_X12_342 sh_76 rfl rfl (Nat.le_of_ble_eq_true rfl) (And.intro hl.2.1 True.intro) (p_X12_isLetter12 hC o1 (fun c14 _ => (ck_if_eq 8 rfl 46 dX12_word_5 rfl (by decide) (fun q => absurd q (by decide)) (fun _ => (ck_iload_n 9 rfl 2 dX12_word_8 rfl rfl (ck_iconst 10 rfl dX12_word_9 rfl (have h19 := (h16.1 c14); (ck_icmp_ne 13 rfl 21 dX12_word_10 rfl hl.2.2.1 (show ck_i (-1) by decide) (fun c12 => (ck_aload_n 22 rfl 0 dX12_word_21 rfl rfl (ck_iload_n 23 rfl 2 dX12_word_22 rfl rfl (have h9 := (h19.1 c12); ck_callV 26 rfl [.inl a2] [] dX12_word_23 cv_X12_342 sh_76 rfl rfl (Nat.le_of_ble_eq_true rfl) (And.intro hl.2.2.1 True.intro) (p_X12_isLetter12 hC o1 (fun c7 _ => (ck_if_eq 29 rfl 46 dX12_word_26 rfl (by decide) (fun q => absurd q (by decide)) (fun _ => (ck_iload_n 30 rfl 3 dX12_word_29 rfl rfl (ck_iconst 31 rfl dX12_word_30 rfl (have h20 := (h9.1 c7); (ck_icmp_eq 34 rfl 42 dX12_word_31 rfl hl.2.2.2.1 (show ck_i (-1) by decide) (fun c5 => (ck_iconst 43 rfl dX12_word_42 rfl (ck_goto 47 dX12_word_43 rfl (ck_istore 49 rfl [some (.inr (.inr 76)), some (.inl a1), some (.inl a2), some (.inl a3), some (.inl a4), some (.inl 1), none, none] dX12_word_47 (Nat.le_of_ble_eq_true rfl) rfl rfl (show ck_i 1 by decide) (h20.1 c5))))) (fun c6 => (ck_aload_n 35 rfl 0 dX12_word_34 rfl rfl (ck_iload_n 36 rfl 3 dX12_word_35 rfl rfl (have h4 := (h20.2 c6); ck_callV 39 rfl [.inl a3] [] dX12_word_36 cv_X12_342 sh_76 rfl rfl (Nat.le_of_ble_eq_true rfl) (And.intro hl.2.2.2.1 True.intro) (p_X12_isLetter12 hC o1 (fun c2 _ => (ck_if_eq 42 rfl 46 dX12_word_39 rfl (by decide) (fun q => absurd q (by decide)) (fun _ => (ck_iconst 43 rfl dX12_word_42 rfl (ck_goto 47 dX12_word_43 rfl (ck_istore 49 rfl [some (.inr (.inr 76)), some (.inl a1), some (.inl a2), some (.inl a3), some (.inl a4), some (.inl 1), none, none] dX12_word_47 (Nat.le_of_ble_eq_true rfl) rfl rfl (show ck_i 1 by decide) (h4.1 c2))))))) (fun c3 _ => (ck_if_eq 42 rfl 46 dX12_word_39 rfl (by decide) (fun _ => (ck_iconst 47 rfl dX12_word_46 rfl (ck_istore 49 rfl [some (.inr (.inr 76)), some (.inl a1), some (.inl a2), some (.inl a3), some (.inl a4), some (.inl 0), none, none] dX12_word_47 (Nat.le_of_ble_eq_true rfl) rfl rfl (show ck_i 0 by decide) (h4.2 c3)))) (fun q => absurd q (by decide)))))))))))))))) (fun c8 _ => (ck_if_eq 29 rfl 46 dX12_word_26 rfl (by decide) (fun _ => (ck_iconst 47 rfl dX12_word_46 rfl (ck_istore 49 rfl [some (.inr (.inr 76)), some (.inl a1), some (.inl a2), some (.inl a3), some (.inl a4), some (.inl 0), none, none] dX12_word_47 (Nat.le_of_ble_eq_true rfl) rfl rfl (show ck_i 0 by decide) (h9.2 c8)))) (fun q => absurd q (by decide))))))))) (fun c13 => (ck_iload_n 14 rfl 3 dX12_word_13 rfl rfl (ck_iconst 15 rfl dX12_word_14 rfl (have h21 := (h19.2 c13); (ck_icmp_ne 18 rfl 46 dX12_word_15 rfl hl.2.2.2.1 (show ck_i (-1) by decide) (fun c10 => (ck_iconst 47 rfl dX12_word_46 rfl (ck_istore 49 rfl [some (.inr (.inr 76)), some (.inl a1), some (.inl a2), some (.inl a3), some (.inl a4), some (.inl 0), none, none] dX12_word_47 (Nat.le_of_ble_eq_true rfl) rfl rfl (show ck_i 0 by decide) (h21.1 c10)))) (fun c11 => (ck_goto 42 dX12_word_18 rfl (ck_iconst 43 rfl dX12_word_42 rfl (ck_goto 47 dX12_word_43 rfl (ck_istore 49 rfl [some (.inr (.inr 76)), some (.inl a1), some (.inl a2), some (.inl a3), some (.inl a4), some (.inl 1), none, none] dX12_word_47 (Nat.le_of_ble_eq_true rfl) rfl rfl (show ck_i 1 by decide) (h21.2 c11)))))))))))))))))) (fun c15 _ => (ck_if_eq 8 rfl 46 dX12_word_5 rfl (by decide) (fun _ => (ck_iconst 47 rfl dX12_word_46 rfl (ck_istore 49 rfl [some (.inr (.inr 76)), some (.inl a1), some (.inl a2), some (.inl a3), some (.inl a4), some (.inl 0), none, none] dX12_word_47 (Nat.le_of_ble_eq_true rfl) rfl rfl (show ck_i 0 by decide) (h16.2 c15)))) (fun q => absurd q (by decide)))))))))))
set_option maxRecDepth 8000 in
theorem r_X12_word_49 {g : ch_G} {A R : Nat} (hC : ck_Cx g A R) {d : Nat} {K : Option ck_V → ck_W → Prop} {w : ck_W} {a1 a2 a3 a4 a5 : Int} (h : (a5 = 0 → K (some (.inl (-1))) w) ∧ (¬ a5 = 0 → (1 ≤ a4 ∧ a4 ≤ 99 → (¬ (w 77 5) = 12 → ck_At (ch_C g A R) (d + 2) mX12_word K 78 [some (.inr (.inr 76)), some (.inl a1), some (.inl a2), some (.inl a3), some (.inl a4), none, some (.inl 0), none] [] w) ∧ ((w 77 5) = 12 → K (some (.inl (-1))) w)) ∧ (¬ (1 ≤ a4 ∧ a4 ≤ 99) → K (some (.inl (-1))) w))) : ck_At (ch_C g A R) (d + 2) mX12_word K 49 [some (.inr (.inr 76)), some (.inl a1), some (.inl a2), some (.inl a3), some (.inl a4), some (.inl a5), none, none] [] w :=
  ck_in (fun hl => (ck_iload 51 rfl dX12_word_49 rfl (ck_if_eq 54 rfl 73 dX12_word_51 rfl hl.2.2.2.2.2.1 (fun c7 => (ck_iconst 74 rfl dX12_word_73 rfl (ck_iret dX12_word_74 rfl (show ck_i (-1) by decide) (h.1 c7)))) (fun c8 => (ck_iload 56 rfl dX12_word_54 rfl (have h6 := (h.2 c8); ck_callS 59 rfl [.inl a4] [] dX12_word_56 cs_X12_339 rfl rfl (Nat.le_of_ble_eq_true rfl) (And.intro hl.2.2.2.2.1 True.intro) (p_X12_isWeight hC (fun c4 _ => (ck_if_eq 62 rfl 73 dX12_word_59 rfl (by decide) (fun q => absurd q (by decide)) (fun _ => (ck_aload_n 63 rfl 0 dX12_word_62 rfl rfl (ck_getr 66 rfl dX12_word_63 fl_X12_7 sh_76 rfl (ck_iconst 67 rfl dX12_word_66 rfl (ck_iald 68 rfl dX12_word_67 sh_77 (shn_77 hC) (by decide) _ rfl (fun (q1 : ck_i (w 77 5)) => (ck_bipush 70 rfl dX12_word_68 rfl (have h9 := (h6.1 c4); (ck_icmp_ne 73 rfl 75 dX12_word_70 rfl q1 (show ck_i 12 by decide) (fun c2 => (ck_iconst 76 rfl dX12_word_75 rfl (ck_istore 78 rfl [some (.inr (.inr 76)), some (.inl a1), some (.inl a2), some (.inl a3), some (.inl a4), some (.inl a5), some (.inl 0), none] dX12_word_76 (Nat.le_of_ble_eq_true rfl) rfl rfl (show ck_i 0 by decide) (ck_drop [some (.inr (.inr 76)), some (.inl a1), some (.inl a2), some (.inl a3), some (.inl a4), none, some (.inl 0), none] (And.intro rfl (And.intro rfl (And.intro rfl (And.intro rfl (And.intro rfl (And.intro rfl True.intro)))))) (h9.1 c2))))) (fun c3 => (ck_iconst 74 rfl dX12_word_73 rfl (ck_iret dX12_word_74 rfl (show ck_i (-1) by decide) (h9.2 c3))))))))))))))) (fun c5 _ => (ck_if_eq 62 rfl 73 dX12_word_59 rfl (by decide) (fun _ => (ck_iconst 74 rfl dX12_word_73 rfl (ck_iret dX12_word_74 rfl (show ck_i (-1) by decide) (h6.2 c5)))) (fun q => absurd q (by decide)))))))))))
set_option maxRecDepth 8000 in
theorem r_X12_word_78 {g : ch_G} {A R : Nat} (hC : ck_Cx g A R) {d : Nat} {K : Option ck_V → ck_W → Prop} {w : ck_W} {a1 a2 a3 a4 a6 : Int} (h : ((w 77 5) ≤ a6 → ck_i (1300 + (4 * (w 77 5))) ∧ ((0 ≤ (1300 + (4 * (w 77 5))) ∧ (1300 + (4 * (w 77 5))) < 1430) ∧ ((0 ≤ ((1300 + (4 * (w 77 5))) + 1) ∧ ((1300 + (4 * (w 77 5))) + 1) < 1430) ∧ ((0 ≤ ((1300 + (4 * (w 77 5))) + 2) ∧ ((1300 + (4 * (w 77 5))) + 2) < 1430) ∧ ((0 ≤ ((1300 + (4 * (w 77 5))) + 3) ∧ ((1300 + (4 * (w 77 5))) + 3) < 1430) ∧ (∀ x9, x9 = (ck_up (ck_up (ck_up (ck_up w 77 (1300 + (4 * (w 77 5))) a1) 77 ((1300 + (4 * (w 77 5))) + 1) a2) 77 ((1300 + (4 * (w 77 5))) + 2) a3) 77 ((1300 + (4 * (w 77 5))) + 3) a4) 77 5 → ck_i (x9 + 1) ∧ (ck_i ((x9 + 1) - 1) ∧ (K (some (.inl ((x9 + 1) - 1))) (ck_up (ck_up (ck_up (ck_up (ck_up w 77 (1300 + (4 * (w 77 5))) a1) 77 ((1300 + (4 * (w 77 5))) + 1) a2) 77 ((1300 + (4 * (w 77 5))) + 2) a3) 77 ((1300 + (4 * (w 77 5))) + 3) a4) 77 5 (x9 + 1)))))))))) ∧ (¬ (w 77 5) ≤ a6 → ck_i (1300 + (4 * a6)) ∧ ((0 ≤ (1300 + (4 * a6)) ∧ (1300 + (4 * a6)) < 1430) ∧ ((¬ (w 77 (1300 + (4 * a6))) = a1 → ck_i (a6 + 1) ∧ (ck_At (ch_C g A R) (d + 2) mX12_word K 78 [some (.inr (.inr 76)), some (.inl a1), some (.inl a2), some (.inl a3), some (.inl a4), none, some (.inl (a6 + 1)), none] [] w)) ∧ ((w 77 (1300 + (4 * a6))) = a1 → (0 ≤ ((1300 + (4 * a6)) + 1) ∧ ((1300 + (4 * a6)) + 1) < 1430) ∧ ((¬ (w 77 ((1300 + (4 * a6)) + 1)) = a2 → ck_i (a6 + 1) ∧ (ck_At (ch_C g A R) (d + 2) mX12_word K 78 [some (.inr (.inr 76)), some (.inl a1), some (.inl a2), some (.inl a3), some (.inl a4), none, some (.inl (a6 + 1)), none] [] w)) ∧ ((w 77 ((1300 + (4 * a6)) + 1)) = a2 → (0 ≤ ((1300 + (4 * a6)) + 2) ∧ ((1300 + (4 * a6)) + 2) < 1430) ∧ ((¬ (w 77 ((1300 + (4 * a6)) + 2)) = a3 → ck_i (a6 + 1) ∧ (ck_At (ch_C g A R) (d + 2) mX12_word K 78 [some (.inr (.inr 76)), some (.inl a1), some (.inl a2), some (.inl a3), some (.inl a4), none, some (.inl (a6 + 1)), none] [] w)) ∧ ((w 77 ((1300 + (4 * a6)) + 2)) = a3 → K (some (.inl (-1))) w))))))))) : ck_At (ch_C g A R) (d + 2) mX12_word K 78 [some (.inr (.inr 76)), some (.inl a1), some (.inl a2), some (.inl a3), some (.inl a4), none, some (.inl a6), none] [] w :=
  ck_in (fun hl => (ck_iload 80 rfl dX12_word_78 rfl (ck_aload_n 81 rfl 0 dX12_word_80 rfl rfl (ck_getr 84 rfl dX12_word_81 fl_X12_7 sh_76 rfl (ck_iconst 85 rfl dX12_word_84 rfl (ck_iald 86 rfl dX12_word_85 sh_77 (shn_77 hC) (by decide) _ rfl (fun (q1 : ck_i (w 77 5)) => (ck_icmp_ge 89 rfl 144 dX12_word_86 rfl hl.2.2.2.2.2.1 q1 (fun c31 => (ck_sipush 147 rfl dX12_word_144 rfl (ck_iconst 148 rfl dX12_word_147 rfl (ck_aload_n 149 rfl 0 dX12_word_148 rfl rfl (ck_getr 152 rfl dX12_word_149 fl_X12_7 sh_76 rfl (ck_iconst 153 rfl dX12_word_152 rfl (ck_iald 154 rfl dX12_word_153 sh_77 (shn_77 hC) (by decide) _ rfl (fun (q2 : ck_i (w 77 5)) => (ck_imul 155 rfl dX12_word_154 (ck_iadd 156 rfl dX12_word_155 (have h34 := (h.1 c31); have o3 := h34.1; have h33 := h34.2; (ck_istore 158 rfl [some (.inr (.inr 76)), some (.inl a1), some (.inl a2), some (.inl a3), some (.inl a4), none, some (.inl (1300 + (4 * (w 77 5)))), none] dX12_word_156 (Nat.le_of_ble_eq_true rfl) rfl rfl o3 (ck_aload_n 159 rfl 0 dX12_word_158 rfl rfl (ck_getr 162 rfl dX12_word_159 fl_X12_7 sh_76 rfl (ck_iload 164 rfl dX12_word_162 rfl (ck_iload_n 165 rfl 1 dX12_word_164 rfl rfl (have h36 := h33; have o4 := h36.1; have h35 := h36.2; (ck_iast 166 rfl dX12_word_165 sh_77 (shn_77 hC) o4 hl.2.1 (ck_aload_n 167 rfl 0 dX12_word_166 rfl rfl (ck_getr 170 rfl dX12_word_167 fl_X12_7 sh_76 rfl (ck_iload 172 rfl dX12_word_170 rfl (ck_iconst 173 rfl dX12_word_172 rfl (ck_iadd 174 rfl dX12_word_173 (ck_iload_n 175 rfl 2 dX12_word_174 rfl rfl (have h38 := h35; have o5 := h38.1; have h37 := h38.2; (ck_iast 176 rfl dX12_word_175 sh_77 (shn_77 hC) o5 hl.2.2.1 (ck_aload_n 177 rfl 0 dX12_word_176 rfl rfl (ck_getr 180 rfl dX12_word_177 fl_X12_7 sh_76 rfl (ck_iload 182 rfl dX12_word_180 rfl (ck_iconst 183 rfl dX12_word_182 rfl (ck_iadd 184 rfl dX12_word_183 (ck_iload_n 185 rfl 3 dX12_word_184 rfl rfl (have h40 := h37; have o6 := h40.1; have h39 := h40.2; (ck_iast 186 rfl dX12_word_185 sh_77 (shn_77 hC) o6 hl.2.2.2.1 (ck_aload_n 187 rfl 0 dX12_word_186 rfl rfl (ck_getr 190 rfl dX12_word_187 fl_X12_7 sh_76 rfl (ck_iload 192 rfl dX12_word_190 rfl (ck_iconst 193 rfl dX12_word_192 rfl (ck_iadd 194 rfl dX12_word_193 (ck_iload 196 rfl dX12_word_194 rfl (have h42 := h39; have o7 := h42.1; have h41 := h42.2; (ck_iast 197 rfl dX12_word_196 sh_77 (shn_77 hC) o7 hl.2.2.2.2.1 (ck_aload_n 198 rfl 0 dX12_word_197 rfl rfl (ck_getr 201 rfl dX12_word_198 fl_X12_7 sh_76 rfl (ck_iconst 202 rfl dX12_word_201 rfl (ck_dup2 203 rfl dX12_word_202 rfl rfl (ck_iald 204 rfl dX12_word_203 sh_77 (shn_77 hC) (by decide) _ rfl (fun (q8 : ck_i ((ck_up (ck_up (ck_up (ck_up w 77 (1300 + (4 * (w 77 5))) a1) 77 ((1300 + (4 * (w 77 5))) + 1) a2) 77 ((1300 + (4 * (w 77 5))) + 2) a3) 77 ((1300 + (4 * (w 77 5))) + 3) a4) 77 5)) => ck_nmi (fun x9 e10 => (have q11 : ck_i x9 := (by rw [e10]; exact q8); (ck_iconst 205 rfl dX12_word_204 rfl (ck_iadd 206 rfl dX12_word_205 (have h44 := (h41 x9 e10); have o12 := h44.1; have h43 := h44.2; (ck_iast 207 rfl dX12_word_206 sh_77 (shn_77 hC) (by decide) o12 (ck_aload_n 208 rfl 0 dX12_word_207 rfl rfl (ck_getr 211 rfl dX12_word_208 fl_X12_7 sh_76 rfl (ck_iconst 212 rfl dX12_word_211 rfl (ck_iald 213 rfl dX12_word_212 sh_77 (shn_77 hC) (by decide) _ rfl (fun (q13 : ck_i (x9 + 1)) => (ck_iconst 214 rfl dX12_word_213 rfl (ck_isub 215 rfl dX12_word_214 (have h46 := h43; have o14 := h46.1; have h45 := h46.2; (ck_iret dX12_word_215 rfl o14 h45))))))))))))))))))))))))))))))))))))))))))))))))))))))))))))))) (fun c32 => (ck_sipush 92 rfl dX12_word_89 rfl (ck_iconst 93 rfl dX12_word_92 rfl (ck_iload 95 rfl dX12_word_93 rfl (ck_imul 96 rfl dX12_word_95 (ck_iadd 97 rfl dX12_word_96 (have h48 := (h.2 c32); have o15 := h48.1; have h47 := h48.2; (ck_istore 99 rfl [some (.inr (.inr 76)), some (.inl a1), some (.inl a2), some (.inl a3), some (.inl a4), none, some (.inl a6), some (.inl (1300 + (4 * a6)))] dX12_word_97 (Nat.le_of_ble_eq_true rfl) rfl rfl o15 (ck_aload_n 100 rfl 0 dX12_word_99 rfl rfl (ck_getr 103 rfl dX12_word_100 fl_X12_7 sh_76 rfl (ck_iload 105 rfl dX12_word_103 rfl (have h50 := h47; have o16 := h50.1; have h49 := h50.2; (ck_iald 106 rfl dX12_word_105 sh_77 (shn_77 hC) o16 _ rfl (fun (q17 : ck_i (w 77 (1300 + (4 * a6)))) => (ck_iload_n 107 rfl 1 dX12_word_106 rfl rfl (ck_icmp_ne 110 rfl 138 dX12_word_107 rfl q17 hl.2.1 (fun c29 => (have h52 := (h49.1 c29); have o18 := h52.1; have h51 := h52.2; (ck_iinc 141 rfl [some (.inr (.inr 76)), some (.inl a1), some (.inl a2), some (.inl a3), some (.inl a4), none, some (.inl (a6 + 1)), some (.inl (1300 + (4 * a6)))] dX12_word_138 rfl (Nat.le_of_ble_eq_true rfl) rfl rfl o18 (ck_goto 78 dX12_word_141 rfl (ck_drop [some (.inr (.inr 76)), some (.inl a1), some (.inl a2), some (.inl a3), some (.inl a4), none, some (.inl (a6 + 1)), none] (And.intro rfl (And.intro rfl (And.intro rfl (And.intro rfl (And.intro rfl (And.intro rfl True.intro)))))) h51))))) (fun c30 => (ck_aload_n 111 rfl 0 dX12_word_110 rfl rfl (ck_getr 114 rfl dX12_word_111 fl_X12_7 sh_76 rfl (ck_iload 116 rfl dX12_word_114 rfl (ck_iconst 117 rfl dX12_word_116 rfl (ck_iadd 118 rfl dX12_word_117 (have h54 := (h49.2 c30); have o19 := h54.1; have h53 := h54.2; (ck_iald 119 rfl dX12_word_118 sh_77 (shn_77 hC) o19 _ rfl (fun (q20 : ck_i (w 77 ((1300 + (4 * a6)) + 1))) => (ck_iload_n 120 rfl 2 dX12_word_119 rfl rfl (ck_icmp_ne 123 rfl 138 dX12_word_120 rfl q20 hl.2.2.1 (fun c27 => (have h56 := (h53.1 c27); have o21 := h56.1; have h55 := h56.2; (ck_iinc 141 rfl [some (.inr (.inr 76)), some (.inl a1), some (.inl a2), some (.inl a3), some (.inl a4), none, some (.inl (a6 + 1)), some (.inl (1300 + (4 * a6)))] dX12_word_138 rfl (Nat.le_of_ble_eq_true rfl) rfl rfl o21 (ck_goto 78 dX12_word_141 rfl (ck_drop [some (.inr (.inr 76)), some (.inl a1), some (.inl a2), some (.inl a3), some (.inl a4), none, some (.inl (a6 + 1)), none] (And.intro rfl (And.intro rfl (And.intro rfl (And.intro rfl (And.intro rfl (And.intro rfl True.intro)))))) h55))))) (fun c28 => (ck_aload_n 124 rfl 0 dX12_word_123 rfl rfl (ck_getr 127 rfl dX12_word_124 fl_X12_7 sh_76 rfl (ck_iload 129 rfl dX12_word_127 rfl (ck_iconst 130 rfl dX12_word_129 rfl (ck_iadd 131 rfl dX12_word_130 (have h58 := (h53.2 c28); have o22 := h58.1; have h57 := h58.2; (ck_iald 132 rfl dX12_word_131 sh_77 (shn_77 hC) o22 _ rfl (fun (q23 : ck_i (w 77 ((1300 + (4 * a6)) + 2))) => (ck_iload_n 133 rfl 3 dX12_word_132 rfl rfl (ck_icmp_ne 136 rfl 138 dX12_word_133 rfl q23 hl.2.2.2.1 (fun c25 => (have h60 := (h57.1 c25); have o24 := h60.1; have h59 := h60.2; (ck_iinc 141 rfl [some (.inr (.inr 76)), some (.inl a1), some (.inl a2), some (.inl a3), some (.inl a4), none, some (.inl (a6 + 1)), some (.inl (1300 + (4 * a6)))] dX12_word_138 rfl (Nat.le_of_ble_eq_true rfl) rfl rfl o24 (ck_goto 78 dX12_word_141 rfl (ck_drop [some (.inr (.inr 76)), some (.inl a1), some (.inl a2), some (.inl a3), some (.inl a4), none, some (.inl (a6 + 1)), none] (And.intro rfl (And.intro rfl (And.intro rfl (And.intro rfl (And.intro rfl (And.intro rfl True.intro)))))) h59))))) (fun c26 => (ck_iconst 137 rfl dX12_word_136 rfl (ck_iret dX12_word_137 rfl (show ck_i (-1) by decide) (h57.2 c26))))))))))))))))))))))))))))))))))))))))))))))))))
theorem L_X12_word {g : ch_G} {A R : Nat} (hC : ck_Cx g A R) {d : Nat} {K : Option ck_V → ck_W → Prop} {w : ck_W} {a1 a2 a3 a4 a6 : Int} (hI : rm_I A R w) (n : Nat) (hn : w 77 5 - a6 ≤ n) (h6 : 0 ≤ a6 ∧ a6 ≤ w 77 5) (h12 : w 77 5 < 12) (ha : (0 ≤ a1 ∧ a1 ≤ 11) ∧ (-1 ≤ a2 ∧ a2 ≤ 11) ∧ (-1 ≤ a3 ∧ a3 ≤ 11) ∧ (1 ≤ a4 ∧ a4 ≤ 99)) (hno : rm_noWord (w 77) a6 a1 a2 a3)
    (h : ∀ v w', rm_I A R w' → rm_fr w w' → w' 78 = w 78 → w' 76 = w 76 → ((v = -1 ∧ w' = w ∧ ¬ rm_noWord (w 77) (w 77 5) a1 a2 a3) ∨ (rm_noWord (w 77) (w 77 5) a1 a2 a3 ∧ v = w 77 5 ∧ w' 77 = rm_u (rm_wordU (w 77) (w 77 5) a1 a2 a3 a4) 5 (w 77 5 + 1))) → K (some (.inl v)) w') :
    ck_At (ch_C g A R) (d + 2) mX12_word K 78 [some (.inr (.inr 76)), some (.inl a1), some (.inl a2), some (.inl a3), some (.inl a4), none, some (.inl a6), none] [] w := by
  have f0 := rm_c0 hI.2.2.2.1
  induction n generalizing a6 with
  | zero =>
    refine r_X12_word_78 hC ⟨fun q => ?_, fun q => absurd (by omega) q⟩
    obtain rfl : a6 = w 77 5 := by omega
    refine ⟨by constructor <;> omega, by omega, by omega, by omega, by omega, fun x9 e9 => ?_⟩
    rw [ck_up_nj (by omega), ck_up_nj (by omega), ck_up_nj (by omega), ck_up_nj (by omega)] at e9
    subst e9
    refine ⟨by constructor <;> omega, by constructor <;> omega, ?_⟩
    refine h _ _ (rm_Ib hI (fun k hk => by rw [ck_up_ne hk, ck_up_ne hk, ck_up_ne hk, ck_up_ne hk, ck_up_ne hk]) ?_ (by rw [ck_up_nj (by omega), ck_up_nj (by omega), ck_up_nj (by omega), ck_up_nj (by omega), ck_up_nj (by omega)])) (rm_fr_up (rm_fr_up (rm_fr_up (rm_fr_up (rm_fr_up rm_fr_rf (by decide)) (by decide)) (by decide)) (by decide)) (by decide)) rfl rfl (Or.inr ⟨hno, by omega, by rw [ck_up_row, ck_up_row, ck_up_row, ck_up_row, ck_up_row]; rfl⟩)
    rw [ck_up_row, ck_up_row, ck_up_row, ck_up_row, ck_up_row]
    exact rm_word hI.2.2.2.1 (by omega) ha.1 ha.2.1 ha.2.2.1 ha.2.2.2
  | succ n ih =>
    by_cases q : w 77 5 ≤ a6
    · exact ih (by omega) h6 hno
    · have stp : ¬ (w 77 (1300 + 4 * a6) = a1 ∧ w 77 (1300 + 4 * a6 + 1) = a2 ∧ w 77 (1300 + 4 * a6 + 2) = a3) → ck_At (ch_C g A R) (d + 2) mX12_word K 78 [some (.inr (.inr 76)), some (.inl a1), some (.inl a2), some (.inl a3), some (.inl a4), none, some (.inl (a6 + 1)), none] [] w := fun z => ih (by omega) (by omega) (fun k k0 k1 => by
        by_cases e : k = a6
        · rw [e]; exact z
        · exact hno k k0 (by omega))
      refine r_X12_word_78 hC ⟨fun q' => absurd q' q, fun _ => ⟨by constructor <;> omega, by omega, fun z => ⟨by constructor <;> omega, stp (fun y => z y.1)⟩, fun z => ⟨by omega, fun z2 => ⟨by constructor <;> omega, stp (fun y => z2 y.2.1)⟩, fun z2 => ⟨by omega, fun z3 => ⟨by constructor <;> omega, stp (fun y => z3 y.2.2)⟩, fun z3 => ?_⟩⟩⟩⟩
      exact h (-1) w hI rm_fr_rf rfl rfl (Or.inl ⟨rfl, rfl, fun y => y a6 (by omega) (by omega) ⟨z, z2, z3⟩⟩)
/-- the LETTERS of a WORD are such as there are -/
def rm_spell (n a b c : Int) : Prop := (0 ≤ a ∧ a < n) ∧ ((b = -1 ∧ c = -1) ∨ ((0 ≤ b ∧ b < n) ∧ (c = -1 ∨ (0 ≤ c ∧ c < n))))
theorem M_word {g : ch_G} {A R : Nat} (hC : ck_Cx g A R) {d : Nat} {K : Option ck_V → ck_W → Prop} {w : ck_W} {a1 a2 a3 a4 : Int} (hI : rm_I A R w)
    (h : ∀ v w', rm_I A R w' → rm_fr w w' → w' 78 = w 78 → w' 76 = w 76 →
      (rm_spell (w 77 4) a1 a2 a3 ∧ (1 ≤ a4 ∧ a4 ≤ 99) ∧ w 77 5 < 12 ∧ rm_noWord (w 77) (w 77 5) a1 a2 a3 → v = w 77 5 ∧ w' 77 = rm_u (rm_wordU (w 77) (w 77 5) a1 a2 a3 a4) 5 (w 77 5 + 1)) →
      (¬ (rm_spell (w 77 4) a1 a2 a3 ∧ (1 ≤ a4 ∧ a4 ≤ 99) ∧ w 77 5 < 12 ∧ rm_noWord (w 77) (w 77 5) a1 a2 a3) → v = -1 ∧ w' 77 = w 77) → K (some (.inl v)) w') :
    ck_Ex (ch_C g A R) (d + 2) mX12_word [.inr (.inr 76), .inl a1, .inl a2, .inl a3, .inl a4] w K := by
  have f0 := rm_c0 hI.2.2.2.1
  have r0 : ∀ (q : ¬ (rm_spell (w 77 4) a1 a2 a3 ∧ (1 ≤ a4 ∧ a4 ≤ 99) ∧ w 77 5 < 12)), K (some (.inl (-1))) w := fun q => h (-1) w hI rm_fr_rf rfl rfl (fun q' => absurd ⟨q'.1, q'.2.1, q'.2.2.1⟩ q) (fun _ => ⟨rfl, rfl⟩)
  have s0 : ¬ rm_spell (w 77 4) a1 a2 a3 → ck_At (ch_C g A R) (d + 2) mX12_word K 49 [some (.inr (.inr 76)), some (.inl a1), some (.inl a2), some (.inl a3), some (.inl a4), some (.inl 0), none, none] [] w := fun q => r_X12_word_49 hC ⟨fun _ => r0 (fun y => q y.1), fun z => absurd rfl z⟩
  have s1 : rm_spell (w 77 4) a1 a2 a3 → ck_At (ch_C g A R) (d + 2) mX12_word K 49 [some (.inr (.inr 76)), some (.inl a1), some (.inl a2), some (.inl a3), some (.inl a4), some (.inl 1), none, none] [] w := fun q => by
    refine r_X12_word_49 hC ⟨fun z => absurd z (by decide), fun _ => ⟨fun z => ⟨fun z2 => ?_, fun z2 => r0 (fun y => by omega)⟩, fun z => r0 (fun y => z y.2.1)⟩⟩
    have qq := q
    unfold rm_spell at qq
    refine L_X12_word hC hI 12 (by omega) (by omega) (by omega) ⟨by omega, by omega, by omega, z⟩ (fun k k0 k1 => absurd k0 (by omega)) (fun v w' i1 i2 i3 i4 i5 => ?_)
    rcases i5 with ⟨e1, e2, e3⟩ | ⟨e1, e2, e3⟩
    · exact h v w' i1 i2 i3 i4 (fun q' => absurd q'.2.2.2 e3) (fun _ => ⟨e1, by rw [e2]⟩)
    · exact h v w' i1 i2 i3 i4 (fun _ => ⟨e2, e3⟩) (fun q' => absurd ⟨q, z, by omega, e1⟩ q')
  refine e_X12_word hC ?_
  with_reducible repeat' (first | apply And.intro | intro _)
  all_goals first | omega | exact s1 (by unfold rm_spell; omega) | exact s0 (by unfold rm_spell; omega)
theorem dX12_column_0 : decode cX12_column 0 = .ok (.lconst 1, 1) := dk_10 (by decide +kernel)
theorem dX12_column_1 : decode cX12_column 1 = .ok (.lstore 5, 2) := dk_55 (by decide +kernel)
theorem dX12_column_3 : decode cX12_column 3 = .ok (.iconst 0, 1) := dk_3 (by decide +kernel)
theorem dX12_column_4 : decode cX12_column 4 = .ok (.istore 7, 2) := dk_54 (by decide +kernel)
theorem dX12_column_6 : decode cX12_column 6 = .ok (.iload 7, 2) := dk_21 (by decide +kernel)
theorem dX12_column_8 : decode cX12_column 8 = .ok (.aload_n 0, 1) := dk_42 (by decide +kernel)
theorem dX12_column_9 : decode cX12_column 9 = .ok (.getfield 83, 3) := dk_180 0 83 (by decide +kernel)
theorem dX12_column_12 : decode cX12_column 12 = .ok (.if_icmp .ge 17, 3) := dk_162 0 17 (by decide +kernel)
theorem dX12_column_15 : decode cX12_column 15 = .ok (.lload 5, 2) := dk_22 (by decide +kernel)
theorem dX12_column_17 : decode cX12_column 17 = .ok (.ldc2_w 111, 3) := dk_20 0 111 (by decide +kernel)
theorem dX12_column_20 : decode cX12_column 20 = .ok (.lmul, 1) := dk_105 (by decide +kernel)
theorem dX12_column_21 : decode cX12_column 21 = .ok (.lstore 5, 2) := dk_55 (by decide +kernel)
theorem dX12_column_23 : decode cX12_column 23 = .ok (.iinc 7 1, 3) := dk_132 1 (by decide +kernel)
theorem dX12_column_26 : decode cX12_column 26 = .ok (.goto (-20), 3) := dk_167 255 236 (by decide +kernel)
theorem dX12_column_29 : decode cX12_column 29 = .ok (.iload_n 1, 1) := dk_27 (by decide +kernel)
theorem dX12_column_30 : decode cX12_column 30 = .ok (.invokestatic 97, 3) := dk_184 0 97 (by decide +kernel)
theorem dX12_column_33 : decode cX12_column 33 = .ok (.ifCond .eq 30, 3) := dk_153 0 30 (by decide +kernel)
theorem dX12_column_36 : decode cX12_column 36 = .ok (.iload_n 2, 1) := dk_28 (by decide +kernel)
theorem dX12_column_37 : decode cX12_column 37 = .ok (.iconst 0, 1) := dk_3 (by decide +kernel)
theorem dX12_column_38 : decode cX12_column 38 = .ok (.aload_n 0, 1) := dk_42 (by decide +kernel)
theorem dX12_column_39 : decode cX12_column 39 = .ok (.getfield 80, 3) := dk_180 0 80 (by decide +kernel)
theorem dX12_column_42 : decode cX12_column 42 = .ok (.iconst 1, 1) := dk_4 (by decide +kernel)
theorem dX12_column_43 : decode cX12_column 43 = .ok (.isub, 1) := dk_100 (by decide +kernel)
theorem dX12_column_44 : decode cX12_column 44 = .ok (.invokestatic 93, 3) := dk_184 0 93 (by decide +kernel)
theorem dX12_column_47 : decode cX12_column 47 = .ok (.ifCond .eq 16, 3) := dk_153 0 16 (by decide +kernel)
theorem dX12_column_50 : decode cX12_column 50 = .ok (.lload_n 3, 1) := dk_33 (by decide +kernel)
theorem dX12_column_51 : decode cX12_column 51 = .ok (.lconst 0, 1) := dk_9 (by decide +kernel)
theorem dX12_column_52 : decode cX12_column 52 = .ok (.lcmp, 1) := dk_148 (by decide +kernel)
theorem dX12_column_53 : decode cX12_column 53 = .ok (.ifCond .lt 10, 3) := dk_155 0 10 (by decide +kernel)
theorem dX12_column_56 : decode cX12_column 56 = .ok (.lload_n 3, 1) := dk_33 (by decide +kernel)
theorem dX12_column_57 : decode cX12_column 57 = .ok (.lload 5, 2) := dk_22 (by decide +kernel)
theorem dX12_column_59 : decode cX12_column 59 = .ok (.lcmp, 1) := dk_148 (by decide +kernel)
theorem dX12_column_60 : decode cX12_column 60 = .ok (.ifCond .lt 5, 3) := dk_155 0 5 (by decide +kernel)
theorem dX12_column_63 : decode cX12_column 63 = .ok (.iconst 0, 1) := dk_3 (by decide +kernel)
theorem dX12_column_64 : decode cX12_column 64 = .ok (.ireturn, 1) := dk_172 (by decide +kernel)
theorem dX12_column_65 : decode cX12_column 65 = .ok (.lload_n 3, 1) := dk_33 (by decide +kernel)
theorem dX12_column_66 : decode cX12_column 66 = .ok (.lstore 7, 2) := dk_55 (by decide +kernel)
theorem dX12_column_68 : decode cX12_column 68 = .ok (.iconst 0, 1) := dk_3 (by decide +kernel)
theorem dX12_column_69 : decode cX12_column 69 = .ok (.istore 9, 2) := dk_54 (by decide +kernel)
theorem dX12_column_71 : decode cX12_column 71 = .ok (.iload 9, 2) := dk_21 (by decide +kernel)
theorem dX12_column_73 : decode cX12_column 73 = .ok (.aload_n 0, 1) := dk_42 (by decide +kernel)
theorem dX12_column_74 : decode cX12_column 74 = .ok (.getfield 83, 3) := dk_180 0 83 (by decide +kernel)
theorem dX12_column_77 : decode cX12_column 77 = .ok (.if_icmp .ge 39, 3) := dk_162 0 39 (by decide +kernel)
theorem dX12_column_80 : decode cX12_column 80 = .ok (.aload_n 0, 1) := dk_42 (by decide +kernel)
theorem dX12_column_81 : decode cX12_column 81 = .ok (.getfield 7, 3) := dk_180 0 7 (by decide +kernel)
theorem dX12_column_84 : decode cX12_column 84 = .ok (.bipush 20, 2) := dk_16 20 (by decide +kernel)
theorem dX12_column_86 : decode cX12_column 86 = .ok (.iload_n 1, 1) := dk_27 (by decide +kernel)
theorem dX12_column_87 : decode cX12_column 87 = .ok (.iload_n 2, 1) := dk_28 (by decide +kernel)
theorem dX12_column_88 : decode cX12_column 88 = .ok (.iload 9, 2) := dk_21 (by decide +kernel)
theorem dX12_column_90 : decode cX12_column 90 = .ok (.invokestatic 107, 3) := dk_184 0 107 (by decide +kernel)
theorem dX12_column_93 : decode cX12_column 93 = .ok (.iadd, 1) := dk_96 (by decide +kernel)
theorem dX12_column_94 : decode cX12_column 94 = .ok (.lload 7, 2) := dk_22 (by decide +kernel)
theorem dX12_column_96 : decode cX12_column 96 = .ok (.ldc2_w 111, 3) := dk_20 0 111 (by decide +kernel)
theorem dX12_column_99 : decode cX12_column 99 = .ok (.lrem, 1) := dk_113 (by decide +kernel)
theorem dX12_column_100 : decode cX12_column 100 = .ok (.l2i, 1) := dk_136 (by decide +kernel)
theorem dX12_column_101 : decode cX12_column 101 = .ok (.iastore, 1) := dk_79 (by decide +kernel)
theorem dX12_column_102 : decode cX12_column 102 = .ok (.lload 7, 2) := dk_22 (by decide +kernel)
theorem dX12_column_104 : decode cX12_column 104 = .ok (.ldc2_w 111, 3) := dk_20 0 111 (by decide +kernel)
theorem dX12_column_107 : decode cX12_column 107 = .ok (.ldiv, 1) := dk_109 (by decide +kernel)
theorem dX12_column_108 : decode cX12_column 108 = .ok (.lstore 7, 2) := dk_55 (by decide +kernel)
theorem dX12_column_110 : decode cX12_column 110 = .ok (.iinc 9 1, 3) := dk_132 1 (by decide +kernel)
theorem dX12_column_113 : decode cX12_column 113 = .ok (.goto (-42), 3) := dk_167 255 214 (by decide +kernel)
theorem dX12_column_116 : decode cX12_column 116 = .ok (.iconst 1, 1) := dk_4 (by decide +kernel)
theorem dX12_column_117 : decode cX12_column 117 = .ok (.ireturn, 1) := dk_172 (by decide +kernel)
set_option maxRecDepth 8000 in
theorem e_X12_column {g : ch_G} {A R : Nat} (hC : ck_Cx g A R) {d : Nat} {K : Option ck_V → ck_W → Prop} {w : ck_W} {a1 a2 a3 : Int} (h : ck_At (ch_C g A R) (d + 2) mX12_column K 6 [some (.inr (.inr 76)), some (.inl a1), some (.inl a2), some (.inr (.inl a3)), none, some (.inr (.inl 1)), none, some (.inl 0), none, none] [] w) : ck_Ex (ch_C g A R) (d + 2) mX12_column [.inr (.inr 76), .inl a1, .inl a2, .inr (.inl a3)] w K :=
  ck_entry hC.1 [some (.inr (.inr 76)), some (.inl a1), some (.inl a2), some (.inr (.inl a3)), none, none, none, none, none, none] (by decide) (Nat.le_of_ble_eq_true rfl) rfl (fun q => q) (ck_in (fun hl => (ck_lconst 1 rfl 1 dX12_column_0 rfl (ck_lstore 3 rfl [some (.inr (.inr 76)), some (.inl a1), some (.inl a2), some (.inr (.inl a3)), none, some (.inr (.inl 1)), none, none, none, none] dX12_column_1 (Nat.le_of_ble_eq_true rfl) rfl rfl (show ck_l 1 by decide) (ck_iconst 4 rfl dX12_column_3 rfl (ck_istore 6 rfl [some (.inr (.inr 76)), some (.inl a1), some (.inl a2), some (.inr (.inl a3)), none, some (.inr (.inl 1)), none, some (.inl 0), none, none] dX12_column_4 (Nat.le_of_ble_eq_true rfl) rfl rfl (show ck_i 0 by decide) h))))))
set_option maxRecDepth 8000 in
theorem r_X12_column_6 {g : ch_G} {A R : Nat} (hC : ck_Cx g A R) {d : Nat} {K : Option ck_V → ck_W → Prop} {w : ck_W} {a1 a2 a3 a5 a7 : Int} (h : ((w 76 1) ≤ a7 → (0 ≤ a1 ∧ a1 ≤ 5 → ck_i ((w 76 0) - 1) ∧ ((0 ≤ a2 ∧ a2 ≤ ((w 76 0) - 1) → (a3 < 0 → K (some (.inl 0)) w) ∧ (¬ a3 < 0 → (a3 < a5 → ck_At (ch_C g A R) (d + 2) mX12_column K 71 [some (.inr (.inr 76)), some (.inl a1), some (.inl a2), none, none, none, none, some (.inr (.inl a3)), none, some (.inl 0)] [] w) ∧ (¬ a3 < a5 → K (some (.inl 0)) w))) ∧ (¬ (0 ≤ a2 ∧ a2 ≤ ((w 76 0) - 1)) → K (some (.inl 0)) w))) ∧ (¬ (0 ≤ a1 ∧ a1 ≤ 5) → K (some (.inl 0)) w)) ∧ (¬ (w 76 1) ≤ a7 → ck_l (a5 * 10) ∧ (ck_i (a7 + 1) ∧ (ck_At (ch_C g A R) (d + 2) mX12_column K 6 [some (.inr (.inr 76)), some (.inl a1), some (.inl a2), some (.inr (.inl a3)), none, some (.inr (.inl (a5 * 10))), none, some (.inl (a7 + 1)), none, none] [] w)))) : ck_At (ch_C g A R) (d + 2) mX12_column K 6 [some (.inr (.inr 76)), some (.inl a1), some (.inl a2), some (.inr (.inl a3)), none, some (.inr (.inl a5)), none, some (.inl a7), none, none] [] w :=
  ck_in (fun hl => (ck_iload 8 rfl dX12_column_6 rfl (ck_aload_n 9 rfl 0 dX12_column_8 rfl rfl (ck_geti 12 rfl 1 dX12_column_9 fl_X12_83 sh_76 rfl rfl _ rfl (fun (q1 : ck_i (w 76 1)) => (ck_icmp_ge 15 rfl 29 dX12_column_12 rfl hl.2.2.2.2.2.1 q1 (fun c16 => (ck_iload_n 30 rfl 1 dX12_column_29 rfl rfl (have h13 := (h.1 c16); ck_callS 33 rfl [.inl a1] [] dX12_column_30 cs_X12_97 rfl rfl (Nat.le_of_ble_eq_true rfl) (And.intro hl.2.1 True.intro) (p_X12_isSlice hC (fun c11 _ => (ck_if_eq 36 rfl 63 dX12_column_33 rfl (by decide) (fun q => absurd q (by decide)) (fun _ => (ck_iload_n 37 rfl 2 dX12_column_36 rfl rfl (ck_iconst 38 rfl dX12_column_37 rfl (ck_aload_n 39 rfl 0 dX12_column_38 rfl rfl (ck_geti 42 rfl 0 dX12_column_39 fl_X12_80 sh_76 rfl rfl _ rfl (fun (q2 : ck_i (w 76 0)) => (ck_iconst 43 rfl dX12_column_42 rfl (ck_isub 44 rfl dX12_column_43 (have h19 := (h13.1 c11); have o3 := h19.1; have h18 := h19.2; (have h10 := h18; ck_callS 47 rfl [.inl a2, .inl 0, .inl ((w 76 0) - 1)] [] dX12_column_44 cs_X12_93 rfl rfl (Nat.le_of_ble_eq_true rfl) (And.intro hl.2.2.1 (And.intro (show ck_i 0 by decide) (And.intro o3 True.intro))) (p_X12_isIn hC (fun c8 _ => (ck_if_eq 50 rfl 63 dX12_column_47 rfl (by decide) (fun q => absurd q (by decide)) (fun _ => (ck_lload_n 51 rfl 3 dX12_column_50 rfl rfl (ck_lconst 52 rfl 0 dX12_column_51 rfl (ck_lcmp 53 rfl dX12_column_52 hl.2.2.2.1 (show ck_l 0 by decide) (have h20 := (h10.1 c8); (ck_if_lt 56 rfl 63 dX12_column_53 rfl ck_cmp_i (fun q => have c6 : a3 < 0 := (ck_cmp_lt.mp q); (ck_iconst 64 rfl dX12_column_63 rfl (ck_zret dX12_column_64 rfl (by decide) (h20.1 c6)))) (fun q => have c7 : ¬ a3 < 0 := (fun r => q (ck_cmp_lt.mpr r)); (ck_lload_n 57 rfl 3 dX12_column_56 rfl rfl (ck_lload 59 rfl dX12_column_57 rfl (ck_lcmp 60 rfl dX12_column_59 hl.2.2.2.1 hl.2.2.2.2.1 (have h21 := (h20.2 c7); (ck_if_lt 63 rfl 65 dX12_column_60 rfl ck_cmp_i (fun q => have c4 : a3 < a5 := (ck_cmp_lt.mp q); (ck_lload_n 66 rfl 3 dX12_column_65 rfl rfl (ck_lstore 68 rfl [some (.inr (.inr 76)), some (.inl a1), some (.inl a2), some (.inr (.inl a3)), none, some (.inr (.inl a5)), none, some (.inr (.inl a3)), none, none] dX12_column_66 (Nat.le_of_ble_eq_true rfl) rfl rfl hl.2.2.2.1 (ck_iconst 69 rfl dX12_column_68 rfl (ck_istore 71 rfl [some (.inr (.inr 76)), some (.inl a1), some (.inl a2), some (.inr (.inl a3)), none, some (.inr (.inl a5)), none, some (.inr (.inl a3)), none, some (.inl 0)] dX12_column_69 (Nat.le_of_ble_eq_true rfl) rfl rfl (show ck_i 0 by decide) (ck_drop [some (.inr (.inr 76)), some (.inl a1), some (.inl a2), none, none, none, none, some (.inr (.inl a3)), none, some (.inl 0)] (And.intro rfl (And.intro rfl (And.intro rfl (And.intro rfl (And.intro rfl True.intro))))) (h21.1 c4))))))) (fun q => have c5 : ¬ a3 < a5 := (fun r => q (ck_cmp_lt.mpr r)); (ck_iconst 64 rfl dX12_column_63 rfl (ck_zret dX12_column_64 rfl (by decide) (h21.2 c5)))))))))))))))))) (fun c9 _ => (ck_if_eq 50 rfl 63 dX12_column_47 rfl (by decide) (fun _ => (ck_iconst 64 rfl dX12_column_63 rfl (ck_zret dX12_column_64 rfl (by decide) (h10.2 c9)))) (fun q => absurd q (by decide))))))))))))))))) (fun c12 _ => (ck_if_eq 36 rfl 63 dX12_column_33 rfl (by decide) (fun _ => (ck_iconst 64 rfl dX12_column_63 rfl (ck_zret dX12_column_64 rfl (by decide) (h13.2 c12)))) (fun q => absurd q (by decide)))))))) (fun c17 => (ck_lload 17 rfl dX12_column_15 rfl (ck_ldc2 20 rfl 10 kl_X12_111 dX12_column_17 rfl (ck_lmul 21 rfl dX12_column_20 (have h23 := (h.2 c17); have o14 := h23.1; have h22 := h23.2; (ck_lstore 23 rfl [some (.inr (.inr 76)), some (.inl a1), some (.inl a2), some (.inr (.inl a3)), none, some (.inr (.inl (a5 * 10))), none, some (.inl a7), none, none] dX12_column_21 (Nat.le_of_ble_eq_true rfl) rfl rfl o14 (have h25 := h22; have o15 := h25.1; have h24 := h25.2; (ck_iinc 26 rfl [some (.inr (.inr 76)), some (.inl a1), some (.inl a2), some (.inr (.inl a3)), none, some (.inr (.inl (a5 * 10))), none, some (.inl (a7 + 1)), none, none] dX12_column_23 rfl (Nat.le_of_ble_eq_true rfl) rfl rfl o15 (ck_goto 6 dX12_column_26 rfl h24)))))))))))))))
set_option maxRecDepth 8000 in
theorem r_X12_column_71 {g : ch_G} {A R : Nat} (hC : ck_Cx g A R) {d : Nat} {K : Option ck_V → ck_W → Prop} {w : ck_W} {a1 a2 a7 a9 : Int} (h : ((w 76 1) ≤ a9 → K (some (.inl 1)) w) ∧ (¬ (w 76 1) ≤ a9 → (ck_i (72 * a1 + 12 * a2 + a9)) ∧ (ck_i (a7.tmod 10) ∧ ((0 ≤ (20 + (72 * a1 + 12 * a2 + a9)) ∧ (20 + (72 * a1 + 12 * a2 + a9)) < 1430) ∧ (ck_l (a7.tdiv 10) ∧ (ck_i (a9 + 1) ∧ (ck_At (ch_C g A R) (d + 2) mX12_column K 71 [some (.inr (.inr 76)), some (.inl a1), some (.inl a2), none, none, none, none, some (.inr (.inl (a7.tdiv 10))), none, some (.inl (a9 + 1))] [] (ck_up w 77 (20 + (72 * a1 + 12 * a2 + a9)) (a7.tmod 10))))))))) : ck_At (ch_C g A R) (d + 2) mX12_column K 71 [some (.inr (.inr 76)), some (.inl a1), some (.inl a2), none, none, none, none, some (.inr (.inl a7)), none, some (.inl a9)] [] w :=
  ck_in (fun hl => (ck_iload 73 rfl dX12_column_71 rfl (ck_aload_n 74 rfl 0 dX12_column_73 rfl rfl (ck_geti 77 rfl 1 dX12_column_74 fl_X12_83 sh_76 rfl rfl _ rfl (fun (q1 : ck_i (w 76 1)) => (ck_icmp_ge 80 rfl 116 dX12_column_77 rfl hl.2.2.2.2.1 q1 (fun c8 => (ck_iconst 117 rfl dX12_column_116 rfl (ck_zret dX12_column_117 rfl (by decide) (h.1 c8)))) (fun c9 => (ck_aload_n 81 rfl 0 dX12_column_80 rfl rfl (ck_getr 84 rfl dX12_column_81 fl_X12_7 sh_76 rfl (ck_bipush 86 rfl dX12_column_84 rfl (ck_iload_n 87 rfl 1 dX12_column_86 rfl rfl (ck_iload_n 88 rfl 2 dX12_column_87 rfl rfl (ck_iload 90 rfl dX12_column_88 rfl (have h11 := (h.2 c9); have o2 := h11.1; have h10 := h11.2; (ck_callS 93 rfl [.inl a1, .inl a2, .inl a9] [.inl 20, .inr (.inr 77)] dX12_column_90 cs_X12_107 rfl rfl (Nat.le_of_ble_eq_true rfl) (And.intro hl.2.1 (And.intro hl.2.2.1 (And.intro hl.2.2.2.2.1 True.intro))) (p_X12_spot hC o2 (fun q3 => (ck_iadd 94 rfl dX12_column_93 (ck_lload 96 rfl dX12_column_94 rfl (ck_ldc2 99 rfl 10 kl_X12_111 dX12_column_96 rfl (ck_lrem 100 rfl dX12_column_99 hl.2.2.2.1 (show ck_l 10 by decide) (by decide) (ck_l2i 101 rfl dX12_column_100 (have h13 := h10; have o4 := h13.1; have h12 := h13.2; (have h15 := h12; have o5 := h15.1; have h14 := h15.2; (ck_iast 102 rfl dX12_column_101 sh_77 (shn_77 hC) o5 o4 (ck_lload 104 rfl dX12_column_102 rfl (ck_ldc2 107 rfl 10 kl_X12_111 dX12_column_104 rfl (ck_ldiv 108 rfl dX12_column_107 hl.2.2.2.1 (show ck_l 10 by decide) (by decide) (have h17 := h14; have o6 := h17.1; have h16 := h17.2; (ck_lstore 110 rfl [some (.inr (.inr 76)), some (.inl a1), some (.inl a2), none, none, none, none, some (.inr (.inl (a7.tdiv 10))), none, some (.inl a9)] dX12_column_108 (Nat.le_of_ble_eq_true rfl) rfl rfl o6 (have h19 := h16; have o7 := h19.1; have h18 := h19.2; (ck_iinc 113 rfl [some (.inr (.inr 76)), some (.inl a1), some (.inl a2), none, none, none, none, some (.inr (.inl (a7.tdiv 10))), none, some (.inl (a9 + 1))] dX12_column_110 rfl (Nat.le_of_ble_eq_true rfl) rfl rfl o7 (ck_goto 71 dX12_column_113 rfl h18)))))))))))))))))))))))))))))))))
theorem M_column {g : ch_G} {A R : Nat} (hC : ck_Cx g A R) {d : Nat} {K : Option ck_V → ck_W → Prop} {w : ck_W} {a1 a2 a3 : Int} (hI : rm_I A R w)
    (h : ∀ v w', rm_I A R w' → rm_fr w w' → (v = if (0 ≤ a1 ∧ a1 ≤ 5) ∧ (0 ≤ a2 ∧ a2 < (A : Int)) ∧ (0 ≤ a3 ∧ a3 < ck_pw 10 (R : Int)) then 1 else 0) → (∀ j, j < 20 ∨ 900 ≤ j → w' 77 j = w 77 j) → w' 78 = w 78 → w' 76 = w 76 → K (some (.inl v)) w') :
    ck_Ex (ch_C g A R) (d + 2) mX12_column [.inr (.inr 76), .inl a1, .inl a2, .inr (.inl a3)] w K := by
  have hA := hI.1
  have hR := hI.2.1
  have c := hC.2
  have r0 : ∀ (q : ¬ ((0 ≤ a1 ∧ a1 ≤ 5) ∧ (0 ≤ a2 ∧ a2 < (A : Int)) ∧ (0 ≤ a3 ∧ a3 < ck_pw 10 (R : Int)))), K (some (.inl 0)) w := fun q => h 0 w hI rm_fr_rf (by rw [if_neg q]) (fun _ _ => rfl) rfl rfl
  have l2 : ∀ (n : Nat) (a7 a9 : Int) (u : ck_W), (R : Int) - a9 ≤ n → (0 ≤ a9) → (0 ≤ a7) → (a7 ≤ 1000000000000) → rm_I A R u → rm_fr w u → (∀ j, j < 20 ∨ 900 ≤ j → u 77 j = w 77 j) → u 78 = w 78 → u 76 = w 76 → (0 ≤ a1 ∧ a1 ≤ 5) ∧ (0 ≤ a2 ∧ a2 < (A : Int)) ∧ (0 ≤ a3 ∧ a3 < ck_pw 10 (R : Int)) → ck_At (ch_C g A R) (d + 2) mX12_column K 71 [some (.inr (.inr 76)), some (.inl a1), some (.inl a2), none, none, none, none, some (.inr (.inl a7)), none, some (.inl a9)] [] u := by
    intro n
    induction n with
    | zero =>
      intro a7 a9 u q1 q2 q3 q3b q4 q5 q6 q7 q8 q9
      have := q4.2.1
      exact r_X12_column_71 hC ⟨fun _ => h 1 u q4 q5 (by rw [if_pos q9]) q6 q7 q8, fun z => absurd (by omega) z⟩
    | succ n ih =>
      intro a7 a9 u q1 q2 q3 q3b q4 q5 q6 q7 q8 q9
      have hr := q4.2.1
      refine r_X12_column_71 hC ⟨fun _ => h 1 u q4 q5 (by rw [if_pos q9]) q6 q7 q8, fun z => ?_⟩
      have t1 : a7.tmod 10 = a7 % 10 := Int.tmod_eq_emod_of_nonneg q3
      have t2 : a7.tdiv 10 = a7 / 10 := Int.tdiv_eq_ediv_of_nonneg q3
      rw [t1, t2]
      have b1 := rh_grey (A := A) (R := R) (j := 20 + (72 * a1 + 12 * a2 + a9)) (by omega) (by omega)
      refine ⟨by constructor <;> omega, by constructor <;> omega, by omega, by constructor <;> omega, by constructor <;> omega, ih _ _ _ (by omega) (by omega) (by omega) (by omega) (rm_Ia q4 (rm_up q4.2.2.2.1 (by omega) (by omega) (by omega) (by omega) (by omega)) (by omega)) (rm_fr_up q5 (by decide)) (fun j hj => by rw [ck_up_nj (by omega)]; exact q6 j hj) q7 q8 q9⟩
  have l1 : ∀ (n : Nat) (a5 a7 : Int), (R : Int) - a7 ≤ n → 0 ≤ a7 → a7 ≤ (R : Int) → a5 = ck_pw 10 a7 → ck_At (ch_C g A R) (d + 2) mX12_column K 6 [some (.inr (.inr 76)), some (.inl a1), some (.inl a2), some (.inr (.inl a3)), none, some (.inr (.inl a5)), none, some (.inl a7), none, none] [] w := by
    have ex : ∀ a5 a7, a7 = (R : Int) → a5 = ck_pw 10 a7 → (0 ≤ a1 ∧ a1 ≤ 5 → ck_i ((w 76 0) - 1) ∧ ((0 ≤ a2 ∧ a2 ≤ ((w 76 0) - 1) → (a3 < 0 → K (some (.inl 0)) w) ∧ (¬ a3 < 0 → (a3 < a5 → ck_At (ch_C g A R) (d + 2) mX12_column K 71 [some (.inr (.inr 76)), some (.inl a1), some (.inl a2), none, none, none, none, some (.inr (.inl a3)), none, some (.inl 0)] [] w) ∧ (¬ a3 < a5 → K (some (.inl 0)) w))) ∧ (¬ (0 ≤ a2 ∧ a2 ≤ ((w 76 0) - 1)) → K (some (.inl 0)) w))) ∧ (¬ (0 ≤ a1 ∧ a1 ≤ 5) → K (some (.inl 0)) w) := by
      intro a5 a7 e7 e5
      rw [e7] at e5
      have pb := ck_pw_b (b := 10) (e := (R : Int)) (by decide) (by omega)
      have pr : (10 : Nat) ^ R ≤ 10 ^ 12 := Nat.pow_le_pow_right (by decide) (by omega)
      have pe : ck_pw 10 (R : Int) = ((10 ^ R : Nat) : Int) := by unfold ck_pw; simp
      have pc : (10 : Nat) ^ 12 = 1000000000000 := by decide
      refine ⟨fun z1 => ⟨by constructor <;> omega, fun z2 => ⟨fun z3 => r0 (by omega), fun z3 => ⟨fun z4 => ?_, fun z4 => r0 (by omega)⟩⟩, fun z2 => r0 (by omega)⟩, fun z1 => r0 (by omega)⟩
      exact l2 R a3 0 w (by omega) (by omega) (by omega) (by omega) hI rm_fr_rf (fun _ _ => rfl) rfl rfl (by omega)
    intro n
    induction n with
    | zero =>
      intro a5 a7 q1 q2 q3 q4
      exact r_X12_column_6 hC ⟨fun z => ex a5 a7 (by omega) q4, fun z => absurd (by omega) z⟩
    | succ n ih =>
      intro a5 a7 q1 q2 q3 q4
      refine r_X12_column_6 hC ⟨fun z => ex a5 a7 (by omega) q4, fun z => ?_⟩
      have e1 : a5 * 10 = ck_pw 10 (a7 + 1) := by rw [ck_pw_s q2, q4]
      have pb := ck_pw_b (b := 10) (e := a7 + 1) (by decide) (by omega)
      refine ⟨?_, by constructor <;> omega, ih _ _ (by omega) (by omega) (by omega) e1⟩
      rw [e1]; exact ⟨by omega, by omega⟩
  exact e_X12_column hC (l1 R 1 0 (by omega) (by omega) (by omega) ck_pw_0.symm)
