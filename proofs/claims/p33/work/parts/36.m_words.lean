/-! ===== the reference: words ===== -/
/-- how many letters a word has -/
def rm_ln (f : Int → Int) (k : Int) : Int := if 0 ≤ f (1300 + 4 * k + 1) then (if 0 ≤ f (1300 + 4 * k + 2) then 3 else 2) else 1
theorem rm_lnb (f : Int → Int) (k : Int) : 1 ≤ rm_ln f k ∧ rm_ln f k ≤ 3 := by
  unfold rm_ln
  split
  · split <;> omega
  · omega
theorem dX12_lengthOf_0 : decode cX12_lengthOf 0 = .ok (.aload_n 0, 1) := dk_42 (by decide +kernel)
theorem dX12_lengthOf_1 : decode cX12_lengthOf 1 = .ok (.getfield 7, 3) := dk_180 0 7 (by decide +kernel)
theorem dX12_lengthOf_4 : decode cX12_lengthOf 4 = .ok (.sipush 1300, 3) := dk_17 5 20 (by decide +kernel)
theorem dX12_lengthOf_7 : decode cX12_lengthOf 7 = .ok (.iconst 4, 1) := dk_7 (by decide +kernel)
theorem dX12_lengthOf_8 : decode cX12_lengthOf 8 = .ok (.iload_n 1, 1) := dk_27 (by decide +kernel)
theorem dX12_lengthOf_9 : decode cX12_lengthOf 9 = .ok (.imul, 1) := dk_104 (by decide +kernel)
theorem dX12_lengthOf_10 : decode cX12_lengthOf 10 = .ok (.iadd, 1) := dk_96 (by decide +kernel)
theorem dX12_lengthOf_11 : decode cX12_lengthOf 11 = .ok (.iconst 1, 1) := dk_4 (by decide +kernel)
theorem dX12_lengthOf_12 : decode cX12_lengthOf 12 = .ok (.iadd, 1) := dk_96 (by decide +kernel)
theorem dX12_lengthOf_13 : decode cX12_lengthOf 13 = .ok (.iaload, 1) := dk_46 (by decide +kernel)
theorem dX12_lengthOf_14 : decode cX12_lengthOf 14 = .ok (.ifCond .ge 7, 3) := dk_156 0 7 (by decide +kernel)
theorem dX12_lengthOf_17 : decode cX12_lengthOf 17 = .ok (.iconst 1, 1) := dk_4 (by decide +kernel)
theorem dX12_lengthOf_18 : decode cX12_lengthOf 18 = .ok (.goto 25, 3) := dk_167 0 25 (by decide +kernel)
theorem dX12_lengthOf_21 : decode cX12_lengthOf 21 = .ok (.aload_n 0, 1) := dk_42 (by decide +kernel)
theorem dX12_lengthOf_22 : decode cX12_lengthOf 22 = .ok (.getfield 7, 3) := dk_180 0 7 (by decide +kernel)
theorem dX12_lengthOf_25 : decode cX12_lengthOf 25 = .ok (.sipush 1300, 3) := dk_17 5 20 (by decide +kernel)
theorem dX12_lengthOf_28 : decode cX12_lengthOf 28 = .ok (.iconst 4, 1) := dk_7 (by decide +kernel)
theorem dX12_lengthOf_29 : decode cX12_lengthOf 29 = .ok (.iload_n 1, 1) := dk_27 (by decide +kernel)
theorem dX12_lengthOf_30 : decode cX12_lengthOf 30 = .ok (.imul, 1) := dk_104 (by decide +kernel)
theorem dX12_lengthOf_31 : decode cX12_lengthOf 31 = .ok (.iadd, 1) := dk_96 (by decide +kernel)
theorem dX12_lengthOf_32 : decode cX12_lengthOf 32 = .ok (.iconst 2, 1) := dk_5 (by decide +kernel)
theorem dX12_lengthOf_33 : decode cX12_lengthOf 33 = .ok (.iadd, 1) := dk_96 (by decide +kernel)
theorem dX12_lengthOf_34 : decode cX12_lengthOf 34 = .ok (.iaload, 1) := dk_46 (by decide +kernel)
theorem dX12_lengthOf_35 : decode cX12_lengthOf 35 = .ok (.ifCond .ge 7, 3) := dk_156 0 7 (by decide +kernel)
theorem dX12_lengthOf_38 : decode cX12_lengthOf 38 = .ok (.iconst 2, 1) := dk_5 (by decide +kernel)
theorem dX12_lengthOf_39 : decode cX12_lengthOf 39 = .ok (.goto 4, 3) := dk_167 0 4 (by decide +kernel)
theorem dX12_lengthOf_42 : decode cX12_lengthOf 42 = .ok (.iconst 3, 1) := dk_6 (by decide +kernel)
theorem dX12_lengthOf_43 : decode cX12_lengthOf 43 = .ok (.ireturn, 1) := dk_172 (by decide +kernel)
set_option maxRecDepth 8000 in
theorem e_X12_lengthOf {g : ch_G} {A R : Nat} (hC : ck_Cx g A R) {d : Nat} {K : Option ck_V → ck_W → Prop} {w : ck_W} {a1 : Int} (h : (0 ≤ ((1300 + (4 * a1)) + 1) ∧ ((1300 + (4 * a1)) + 1) < 1430) ∧ ((0 ≤ (w 77 ((1300 + (4 * a1)) + 1)) → (0 ≤ ((1300 + (4 * a1)) + 2) ∧ ((1300 + (4 * a1)) + 2) < 1430) ∧ ((0 ≤ (w 77 ((1300 + (4 * a1)) + 2)) → K (some (.inl 3)) w) ∧ (¬ 0 ≤ (w 77 ((1300 + (4 * a1)) + 2)) → K (some (.inl 2)) w))) ∧ (¬ 0 ≤ (w 77 ((1300 + (4 * a1)) + 1)) → K (some (.inl 1)) w))) : ck_Ex (ch_C g A R) d mX12_lengthOf [.inr (.inr 76), .inl a1] w K :=
  ck_entry hC.1 [some (.inr (.inr 76)), some (.inl a1)] (by decide) (Nat.le_of_ble_eq_true rfl) rfl (fun q => q) (ck_in (fun hl => (ck_aload_n 1 rfl 0 dX12_lengthOf_0 rfl rfl (ck_getr 4 rfl dX12_lengthOf_1 fl_X12_7 sh_76 rfl (ck_sipush 7 rfl dX12_lengthOf_4 rfl (ck_iconst 8 rfl dX12_lengthOf_7 rfl (ck_iload_n 9 rfl 1 dX12_lengthOf_8 rfl rfl (ck_imul 10 rfl dX12_lengthOf_9 (ck_iadd 11 rfl dX12_lengthOf_10 (ck_iconst 12 rfl dX12_lengthOf_11 rfl (ck_iadd 13 rfl dX12_lengthOf_12 (have h10 := h; have o1 := h10.1; have h9 := h10.2; (ck_iald 14 rfl dX12_lengthOf_13 sh_77 (shn_77 hC) o1 _ rfl (fun (q2 : ck_i (w 77 ((1300 + (4 * a1)) + 1))) => (ck_if_ge 17 rfl 21 dX12_lengthOf_14 rfl q2 (fun c7 => (ck_aload_n 22 rfl 0 dX12_lengthOf_21 rfl rfl (ck_getr 25 rfl dX12_lengthOf_22 fl_X12_7 sh_76 rfl (ck_sipush 28 rfl dX12_lengthOf_25 rfl (ck_iconst 29 rfl dX12_lengthOf_28 rfl (ck_iload_n 30 rfl 1 dX12_lengthOf_29 rfl rfl (ck_imul 31 rfl dX12_lengthOf_30 (ck_iadd 32 rfl dX12_lengthOf_31 (ck_iconst 33 rfl dX12_lengthOf_32 rfl (ck_iadd 34 rfl dX12_lengthOf_33 (have h12 := (h9.1 c7); have o3 := h12.1; have h11 := h12.2; (ck_iald 35 rfl dX12_lengthOf_34 sh_77 (shn_77 hC) o3 _ rfl (fun (q4 : ck_i (w 77 ((1300 + (4 * a1)) + 2))) => (ck_if_ge 38 rfl 42 dX12_lengthOf_35 rfl q4 (fun c5 => (ck_iconst 43 rfl dX12_lengthOf_42 rfl (ck_iret dX12_lengthOf_43 rfl (show ck_i 3 by decide) (h11.1 c5)))) (fun c6 => (ck_iconst 39 rfl dX12_lengthOf_38 rfl (ck_goto 43 dX12_lengthOf_39 rfl (ck_iret dX12_lengthOf_43 rfl (show ck_i 2 by decide) (h11.2 c6))))))))))))))))))) (fun c8 => (ck_iconst 18 rfl dX12_lengthOf_17 rfl (ck_goto 43 dX12_lengthOf_18 rfl (ck_iret dX12_lengthOf_43 rfl (show ck_i 1 by decide) (h9.2 c8))))))))))))))))))))
theorem S_X12_lengthOf {g : ch_G} {A R : Nat} (hC : ck_Cx g A R) {d : Nat} {K : Option ck_V → ck_W → Prop} {w : ck_W} {a1 : Int} (h1 : 0 ≤ a1 ∧ a1 < 12) (h : K (some (.inl (rm_ln (w 77) a1))) w) : ck_Ex (ch_C g A R) d mX12_lengthOf [.inr (.inr 76), .inl a1] w K := by
  unfold rm_ln at h
  refine e_X12_lengthOf hC ⟨by omega, fun q => ⟨by omega, fun q2 => ?_, fun q2 => ?_⟩, fun q => ?_⟩
  · rw [if_pos q, if_pos q2] at h; exact h
  · rw [if_pos q, if_neg q2] at h; exact h
  · rw [if_neg q] at h; exact h
/-- the chances of words: none, or a number above 0 -/
def rm_wc (n : Int) (w : ck_W) : Prop := ∀ k, 0 ≤ k → k < n → w 95 k = -1 ∨ (1 ≤ w 95 k ∧ w 95 k ≤ 754934151013713)
theorem dX12_join_0 : decode cX12_join 0 = .ok (.iconst 0, 1) := dk_3 (by decide +kernel)
theorem dX12_join_1 : decode cX12_join 1 = .ok (.istore 4, 2) := dk_54 (by decide +kernel)
theorem dX12_join_3 : decode cX12_join 3 = .ok (.iload 4, 2) := dk_21 (by decide +kernel)
theorem dX12_join_5 : decode cX12_join 5 = .ok (.iconst 3, 1) := dk_6 (by decide +kernel)
theorem dX12_join_6 : decode cX12_join 6 = .ok (.if_icmp .ge 46, 3) := dk_162 0 46 (by decide +kernel)
theorem dX12_join_9 : decode cX12_join 9 = .ok (.aload_n 0, 1) := dk_42 (by decide +kernel)
theorem dX12_join_10 : decode cX12_join 10 = .ok (.getfield 71, 3) := dk_180 0 71 (by decide +kernel)
theorem dX12_join_13 : decode cX12_join 13 = .ok (.iload 4, 2) := dk_21 (by decide +kernel)
theorem dX12_join_15 : decode cX12_join 15 = .ok (.aload_n 0, 1) := dk_42 (by decide +kernel)
theorem dX12_join_16 : decode cX12_join 16 = .ok (.iload_n 2, 1) := dk_28 (by decide +kernel)
theorem dX12_join_17 : decode cX12_join 17 = .ok (.iload_n 3, 1) := dk_29 (by decide +kernel)
theorem dX12_join_18 : decode cX12_join 18 = .ok (.iconst 3, 1) := dk_6 (by decide +kernel)
theorem dX12_join_19 : decode cX12_join 19 = .ok (.iload 4, 2) := dk_21 (by decide +kernel)
theorem dX12_join_21 : decode cX12_join 21 = .ok (.imul, 1) := dk_104 (by decide +kernel)
theorem dX12_join_22 : decode cX12_join 22 = .ok (.iadd, 1) := dk_96 (by decide +kernel)
theorem dX12_join_23 : decode cX12_join 23 = .ok (.invokevirtual 360, 3) := dk_182 1 104 (by decide +kernel)
theorem dX12_join_26 : decode cX12_join 26 = .ok (.ifCond .eq 18, 3) := dk_153 0 18 (by decide +kernel)
theorem dX12_join_29 : decode cX12_join 29 = .ok (.aload_n 0, 1) := dk_42 (by decide +kernel)
theorem dX12_join_30 : decode cX12_join 30 = .ok (.iload_n 1, 1) := dk_27 (by decide +kernel)
theorem dX12_join_31 : decode cX12_join 31 = .ok (.iload_n 2, 1) := dk_28 (by decide +kernel)
theorem dX12_join_32 : decode cX12_join 32 = .ok (.iload_n 3, 1) := dk_29 (by decide +kernel)
theorem dX12_join_33 : decode cX12_join 33 = .ok (.iconst 3, 1) := dk_6 (by decide +kernel)
theorem dX12_join_34 : decode cX12_join 34 = .ok (.iload 4, 2) := dk_21 (by decide +kernel)
theorem dX12_join_36 : decode cX12_join 36 = .ok (.imul, 1) := dk_104 (by decide +kernel)
theorem dX12_join_37 : decode cX12_join 37 = .ok (.iadd, 1) := dk_96 (by decide +kernel)
theorem dX12_join_38 : decode cX12_join 38 = .ok (.invokevirtual 363, 3) := dk_182 1 107 (by decide +kernel)
theorem dX12_join_41 : decode cX12_join 41 = .ok (.goto 4, 3) := dk_167 0 4 (by decide +kernel)
theorem dX12_join_44 : decode cX12_join 44 = .ok (.iconst (-1), 1) := dk_2 (by decide +kernel)
theorem dX12_join_45 : decode cX12_join 45 = .ok (.iastore, 1) := dk_79 (by decide +kernel)
theorem dX12_join_46 : decode cX12_join 46 = .ok (.iinc 4 1, 3) := dk_132 1 (by decide +kernel)
theorem dX12_join_49 : decode cX12_join 49 = .ok (.goto (-46), 3) := dk_167 255 210 (by decide +kernel)
theorem dX12_join_52 : decode cX12_join 52 = .ok (.iconst (-1), 1) := dk_2 (by decide +kernel)
theorem dX12_join_53 : decode cX12_join 53 = .ok (.istore 4, 2) := dk_54 (by decide +kernel)
theorem dX12_join_55 : decode cX12_join 55 = .ok (.iconst 0, 1) := dk_3 (by decide +kernel)
theorem dX12_join_56 : decode cX12_join 56 = .ok (.istore 5, 2) := dk_54 (by decide +kernel)
theorem dX12_join_58 : decode cX12_join 58 = .ok (.iload 5, 2) := dk_21 (by decide +kernel)
theorem dX12_join_60 : decode cX12_join 60 = .ok (.aload_n 0, 1) := dk_42 (by decide +kernel)
theorem dX12_join_61 : decode cX12_join 61 = .ok (.getfield 7, 3) := dk_180 0 7 (by decide +kernel)
theorem dX12_join_64 : decode cX12_join 64 = .ok (.iconst 5, 1) := dk_8 (by decide +kernel)
theorem dX12_join_65 : decode cX12_join 65 = .ok (.iaload, 1) := dk_46 (by decide +kernel)
theorem dX12_join_66 : decode cX12_join 66 = .ok (.if_icmp .ge 211, 3) := dk_162 0 211 (by decide +kernel)
theorem dX12_join_69 : decode cX12_join 69 = .ok (.aload_n 0, 1) := dk_42 (by decide +kernel)
theorem dX12_join_70 : decode cX12_join 70 = .ok (.iload 5, 2) := dk_21 (by decide +kernel)
theorem dX12_join_72 : decode cX12_join 72 = .ok (.invokevirtual 369, 3) := dk_182 1 113 (by decide +kernel)
theorem dX12_join_75 : decode cX12_join 75 = .ok (.istore 6, 2) := dk_54 (by decide +kernel)
theorem dX12_join_77 : decode cX12_join 77 = .ok (.aload_n 0, 1) := dk_42 (by decide +kernel)
theorem dX12_join_78 : decode cX12_join 78 = .ok (.getfield 74, 3) := dk_180 0 74 (by decide +kernel)
theorem dX12_join_81 : decode cX12_join 81 = .ok (.iload 5, 2) := dk_21 (by decide +kernel)
theorem dX12_join_83 : decode cX12_join 83 = .ok (.aload_n 0, 1) := dk_42 (by decide +kernel)
theorem dX12_join_84 : decode cX12_join 84 = .ok (.getfield 7, 3) := dk_180 0 7 (by decide +kernel)
theorem dX12_join_87 : decode cX12_join 87 = .ok (.sipush 1300, 3) := dk_17 5 20 (by decide +kernel)
theorem dX12_join_90 : decode cX12_join 90 = .ok (.iconst 4, 1) := dk_7 (by decide +kernel)
theorem dX12_join_91 : decode cX12_join 91 = .ok (.iload 5, 2) := dk_21 (by decide +kernel)
theorem dX12_join_93 : decode cX12_join 93 = .ok (.imul, 1) := dk_104 (by decide +kernel)
theorem dX12_join_94 : decode cX12_join 94 = .ok (.iadd, 1) := dk_96 (by decide +kernel)
theorem dX12_join_95 : decode cX12_join 95 = .ok (.iconst 3, 1) := dk_6 (by decide +kernel)
theorem dX12_join_96 : decode cX12_join 96 = .ok (.iadd, 1) := dk_96 (by decide +kernel)
theorem dX12_join_97 : decode cX12_join 97 = .ok (.iaload, 1) := dk_46 (by decide +kernel)
theorem dX12_join_98 : decode cX12_join 98 = .ok (.i2l, 1) := dk_133 (by decide +kernel)
theorem dX12_join_99 : decode cX12_join 99 = .ok (.aload_n 0, 1) := dk_42 (by decide +kernel)
theorem dX12_join_100 : decode cX12_join 100 = .ok (.aload_n 0, 1) := dk_42 (by decide +kernel)
theorem dX12_join_101 : decode cX12_join 101 = .ok (.getfield 7, 3) := dk_180 0 7 (by decide +kernel)
theorem dX12_join_104 : decode cX12_join 104 = .ok (.bipush 8, 2) := dk_16 8 (by decide +kernel)
theorem dX12_join_106 : decode cX12_join 106 = .ok (.iaload, 1) := dk_46 (by decide +kernel)
theorem dX12_join_107 : decode cX12_join 107 = .ok (.aload_n 0, 1) := dk_42 (by decide +kernel)
theorem dX12_join_108 : decode cX12_join 108 = .ok (.getfield 7, 3) := dk_180 0 7 (by decide +kernel)
theorem dX12_join_111 : decode cX12_join 111 = .ok (.bipush 9, 2) := dk_16 9 (by decide +kernel)
theorem dX12_join_113 : decode cX12_join 113 = .ok (.iaload, 1) := dk_46 (by decide +kernel)
theorem dX12_join_114 : decode cX12_join 114 = .ok (.if_icmp .le 13, 3) := dk_164 0 13 (by decide +kernel)
theorem dX12_join_117 : decode cX12_join 117 = .ok (.aload_n 0, 1) := dk_42 (by decide +kernel)
theorem dX12_join_118 : decode cX12_join 118 = .ok (.getfield 7, 3) := dk_180 0 7 (by decide +kernel)
theorem dX12_join_121 : decode cX12_join 121 = .ok (.bipush 8, 2) := dk_16 8 (by decide +kernel)
theorem dX12_join_123 : decode cX12_join 123 = .ok (.iaload, 1) := dk_46 (by decide +kernel)
theorem dX12_join_124 : decode cX12_join 124 = .ok (.goto 10, 3) := dk_167 0 10 (by decide +kernel)
theorem dX12_join_127 : decode cX12_join 127 = .ok (.aload_n 0, 1) := dk_42 (by decide +kernel)
theorem dX12_join_128 : decode cX12_join 128 = .ok (.getfield 7, 3) := dk_180 0 7 (by decide +kernel)
theorem dX12_join_131 : decode cX12_join 131 = .ok (.bipush 9, 2) := dk_16 9 (by decide +kernel)
theorem dX12_join_133 : decode cX12_join 133 = .ok (.iaload, 1) := dk_46 (by decide +kernel)
theorem dX12_join_134 : decode cX12_join 134 = .ok (.bipush 9, 2) := dk_16 9 (by decide +kernel)
theorem dX12_join_136 : decode cX12_join 136 = .ok (.iconst 3, 1) := dk_6 (by decide +kernel)
theorem dX12_join_137 : decode cX12_join 137 = .ok (.iload 6, 2) := dk_21 (by decide +kernel)
theorem dX12_join_139 : decode cX12_join 139 = .ok (.isub, 1) := dk_100 (by decide +kernel)
theorem dX12_join_140 : decode cX12_join 140 = .ok (.imul, 1) := dk_104 (by decide +kernel)
theorem dX12_join_141 : decode cX12_join 141 = .ok (.invokevirtual 348, 3) := dk_182 1 92 (by decide +kernel)
theorem dX12_join_144 : decode cX12_join 144 = .ok (.lmul, 1) := dk_105 (by decide +kernel)
theorem dX12_join_145 : decode cX12_join 145 = .ok (.lastore, 1) := dk_80 (by decide +kernel)
theorem dX12_join_146 : decode cX12_join 146 = .ok (.iconst 0, 1) := dk_3 (by decide +kernel)
theorem dX12_join_147 : decode cX12_join 147 = .ok (.istore 7, 2) := dk_54 (by decide +kernel)
theorem dX12_join_149 : decode cX12_join 149 = .ok (.iload 7, 2) := dk_21 (by decide +kernel)
theorem dX12_join_151 : decode cX12_join 151 = .ok (.iload 6, 2) := dk_21 (by decide +kernel)
theorem dX12_join_153 : decode cX12_join 153 = .ok (.if_icmp .ge 79, 3) := dk_162 0 79 (by decide +kernel)
theorem dX12_join_156 : decode cX12_join 156 = .ok (.aload_n 0, 1) := dk_42 (by decide +kernel)
theorem dX12_join_157 : decode cX12_join 157 = .ok (.getfield 74, 3) := dk_180 0 74 (by decide +kernel)
theorem dX12_join_160 : decode cX12_join 160 = .ok (.iload 5, 2) := dk_21 (by decide +kernel)
theorem dX12_join_162 : decode cX12_join 162 = .ok (.laload, 1) := dk_47 (by decide +kernel)
theorem dX12_join_163 : decode cX12_join 163 = .ok (.lconst 0, 1) := dk_9 (by decide +kernel)
theorem dX12_join_164 : decode cX12_join 164 = .ok (.lcmp, 1) := dk_148 (by decide +kernel)
theorem dX12_join_165 : decode cX12_join 165 = .ok (.ifCond .le 67, 3) := dk_158 0 67 (by decide +kernel)
theorem dX12_join_168 : decode cX12_join 168 = .ok (.aload_n 0, 1) := dk_42 (by decide +kernel)
theorem dX12_join_169 : decode cX12_join 169 = .ok (.getfield 74, 3) := dk_180 0 74 (by decide +kernel)
theorem dX12_join_172 : decode cX12_join 172 = .ok (.iload 5, 2) := dk_21 (by decide +kernel)
theorem dX12_join_174 : decode cX12_join 174 = .ok (.aload_n 0, 1) := dk_42 (by decide +kernel)
theorem dX12_join_175 : decode cX12_join 175 = .ok (.getfield 71, 3) := dk_180 0 71 (by decide +kernel)
theorem dX12_join_178 : decode cX12_join 178 = .ok (.iload 7, 2) := dk_21 (by decide +kernel)
theorem dX12_join_180 : decode cX12_join 180 = .ok (.iaload, 1) := dk_46 (by decide +kernel)
theorem dX12_join_181 : decode cX12_join 181 = .ok (.ifCond .ge 9, 3) := dk_156 0 9 (by decide +kernel)
theorem dX12_join_184 : decode cX12_join 184 = .ok (.ldc2_w 372, 3) := dk_20 1 116 (by decide +kernel)
theorem dX12_join_187 : decode cX12_join 187 = .ok (.goto 38, 3) := dk_167 0 38 (by decide +kernel)
theorem dX12_join_190 : decode cX12_join 190 = .ok (.aload_n 0, 1) := dk_42 (by decide +kernel)
theorem dX12_join_191 : decode cX12_join 191 = .ok (.getfield 74, 3) := dk_180 0 74 (by decide +kernel)
theorem dX12_join_194 : decode cX12_join 194 = .ok (.iload 5, 2) := dk_21 (by decide +kernel)
theorem dX12_join_196 : decode cX12_join 196 = .ok (.laload, 1) := dk_47 (by decide +kernel)
theorem dX12_join_197 : decode cX12_join 197 = .ok (.aload_n 0, 1) := dk_42 (by decide +kernel)
theorem dX12_join_198 : decode cX12_join 198 = .ok (.aload_n 0, 1) := dk_42 (by decide +kernel)
theorem dX12_join_199 : decode cX12_join 199 = .ok (.getfield 71, 3) := dk_180 0 71 (by decide +kernel)
theorem dX12_join_202 : decode cX12_join 202 = .ok (.iload 7, 2) := dk_21 (by decide +kernel)
theorem dX12_join_204 : decode cX12_join 204 = .ok (.iaload, 1) := dk_46 (by decide +kernel)
theorem dX12_join_205 : decode cX12_join 205 = .ok (.aload_n 0, 1) := dk_42 (by decide +kernel)
theorem dX12_join_206 : decode cX12_join 206 = .ok (.getfield 7, 3) := dk_180 0 7 (by decide +kernel)
theorem dX12_join_209 : decode cX12_join 209 = .ok (.sipush 1300, 3) := dk_17 5 20 (by decide +kernel)
theorem dX12_join_212 : decode cX12_join 212 = .ok (.iconst 4, 1) := dk_7 (by decide +kernel)
theorem dX12_join_213 : decode cX12_join 213 = .ok (.iload 5, 2) := dk_21 (by decide +kernel)
theorem dX12_join_215 : decode cX12_join 215 = .ok (.imul, 1) := dk_104 (by decide +kernel)
theorem dX12_join_216 : decode cX12_join 216 = .ok (.iadd, 1) := dk_96 (by decide +kernel)
theorem dX12_join_217 : decode cX12_join 217 = .ok (.iload 7, 2) := dk_21 (by decide +kernel)
theorem dX12_join_219 : decode cX12_join 219 = .ok (.iadd, 1) := dk_96 (by decide +kernel)
theorem dX12_join_220 : decode cX12_join 220 = .ok (.iaload, 1) := dk_46 (by decide +kernel)
theorem dX12_join_221 : decode cX12_join 221 = .ok (.invokevirtual 352, 3) := dk_182 1 96 (by decide +kernel)
theorem dX12_join_224 : decode cX12_join 224 = .ok (.lmul, 1) := dk_105 (by decide +kernel)
theorem dX12_join_225 : decode cX12_join 225 = .ok (.lastore, 1) := dk_80 (by decide +kernel)
theorem dX12_join_226 : decode cX12_join 226 = .ok (.iinc 7 1, 3) := dk_132 1 (by decide +kernel)
theorem dX12_join_229 : decode cX12_join 229 = .ok (.goto (-80), 3) := dk_167 255 176 (by decide +kernel)
theorem dX12_join_232 : decode cX12_join 232 = .ok (.aload_n 0, 1) := dk_42 (by decide +kernel)
theorem dX12_join_233 : decode cX12_join 233 = .ok (.getfield 74, 3) := dk_180 0 74 (by decide +kernel)
theorem dX12_join_236 : decode cX12_join 236 = .ok (.iload 5, 2) := dk_21 (by decide +kernel)
theorem dX12_join_238 : decode cX12_join 238 = .ok (.laload, 1) := dk_47 (by decide +kernel)
theorem dX12_join_239 : decode cX12_join 239 = .ok (.lconst 0, 1) := dk_9 (by decide +kernel)
theorem dX12_join_240 : decode cX12_join 240 = .ok (.lcmp, 1) := dk_148 (by decide +kernel)
theorem dX12_join_241 : decode cX12_join 241 = .ok (.ifCond .le 30, 3) := dk_158 0 30 (by decide +kernel)
theorem dX12_join_244 : decode cX12_join 244 = .ok (.iload 4, 2) := dk_21 (by decide +kernel)
theorem dX12_join_246 : decode cX12_join 246 = .ok (.ifCond .lt 21, 3) := dk_155 0 21 (by decide +kernel)
theorem dX12_join_249 : decode cX12_join 249 = .ok (.aload_n 0, 1) := dk_42 (by decide +kernel)
theorem dX12_join_250 : decode cX12_join 250 = .ok (.getfield 74, 3) := dk_180 0 74 (by decide +kernel)
theorem dX12_join_253 : decode cX12_join 253 = .ok (.iload 5, 2) := dk_21 (by decide +kernel)
theorem dX12_join_255 : decode cX12_join 255 = .ok (.laload, 1) := dk_47 (by decide +kernel)
theorem dX12_join_256 : decode cX12_join 256 = .ok (.aload_n 0, 1) := dk_42 (by decide +kernel)
theorem dX12_join_257 : decode cX12_join 257 = .ok (.getfield 74, 3) := dk_180 0 74 (by decide +kernel)
theorem dX12_join_260 : decode cX12_join 260 = .ok (.iload 4, 2) := dk_21 (by decide +kernel)
theorem dX12_join_262 : decode cX12_join 262 = .ok (.laload, 1) := dk_47 (by decide +kernel)
theorem dX12_join_263 : decode cX12_join 263 = .ok (.lcmp, 1) := dk_148 (by decide +kernel)
theorem dX12_join_264 : decode cX12_join 264 = .ok (.ifCond .le 7, 3) := dk_158 0 7 (by decide +kernel)
theorem dX12_join_267 : decode cX12_join 267 = .ok (.iload 5, 2) := dk_21 (by decide +kernel)
theorem dX12_join_269 : decode cX12_join 269 = .ok (.istore 4, 2) := dk_54 (by decide +kernel)
theorem dX12_join_271 : decode cX12_join 271 = .ok (.iinc 5 1, 3) := dk_132 1 (by decide +kernel)
theorem dX12_join_274 : decode cX12_join 274 = .ok (.goto (-216), 3) := dk_167 255 40 (by decide +kernel)
theorem dX12_join_277 : decode cX12_join 277 = .ok (.iload 4, 2) := dk_21 (by decide +kernel)
theorem dX12_join_279 : decode cX12_join 279 = .ok (.ireturn, 1) := dk_172 (by decide +kernel)
set_option maxRecDepth 8000 in
theorem e_X12_join {g : ch_G} {A R : Nat} (hC : ck_Cx g A R) {d : Nat} {K : Option ck_V → ck_W → Prop} {w : ck_W} {a1 a2 a3 : Int} (h : ck_At (ch_C g A R) (d + 1) mX12_join K 3 [some (.inr (.inr 76)), some (.inl a1), some (.inl a2), some (.inl a3), some (.inl 0), none, none, none] [] w) : ck_Ex (ch_C g A R) (d + 1) mX12_join [.inr (.inr 76), .inl a1, .inl a2, .inl a3] w K :=
  ck_entry hC.1 [some (.inr (.inr 76)), some (.inl a1), some (.inl a2), some (.inl a3), none, none, none, none] (by decide) (Nat.le_of_ble_eq_true rfl) rfl (fun q => q) (ck_in (fun hl => (ck_iconst 1 rfl dX12_join_0 rfl (ck_istore 3 rfl [some (.inr (.inr 76)), some (.inl a1), some (.inl a2), some (.inl a3), some (.inl 0), none, none, none] dX12_join_1 (Nat.le_of_ble_eq_true rfl) rfl rfl (show ck_i 0 by decide) h))))
set_option maxRecDepth 8000 in
theorem r_X12_join_3 {g : ch_G} {A R : Nat} (hC : ck_Cx g A R) {d : Nat} {K : Option ck_V → ck_W → Prop} {w : ck_W} {a1 a2 a3 a4 : Int} (h : (3 ≤ a4 → ck_At (ch_C g A R) (d + 1) mX12_join K 58 [some (.inr (.inr 76)), none, none, none, some (.inl (-1)), some (.inl 0), none, none] [] w) ∧ (¬ 3 ≤ a4 → ck_CI (ch_C g A R) d mX12_isBox [.inr (.inr 76), .inl a2, .inl (ck_wr (a3 + (3 * a4)))] w (fun v2 w1 => (v2 = 0 → (0 ≤ a4 ∧ a4 < 3) ∧ (ck_i (a4 + 1) ∧ (ck_At (ch_C g A R) (d + 1) mX12_join K 3 [some (.inr (.inr 76)), some (.inl a1), some (.inl a2), some (.inl a3), some (.inl (a4 + 1)), none, none, none] [] (ck_up w1 94 a4 (-1))))) ∧ (¬ v2 = 0 → ck_CI (ch_C g A R) d mX12_bitsAt [.inr (.inr 76), .inl a1, .inl a2, .inl (ck_wr (a3 + (3 * a4)))] w1 (fun v8 w7 => (0 ≤ a4 ∧ a4 < 3) ∧ (ck_i (a4 + 1) ∧ (ck_At (ch_C g A R) (d + 1) mX12_join K 3 [some (.inr (.inr 76)), some (.inl a1), some (.inl a2), some (.inl a3), some (.inl (a4 + 1)), none, none, none] [] (ck_up w7 94 a4 v8)))))))) : ck_At (ch_C g A R) (d + 1) mX12_join K 3 [some (.inr (.inr 76)), some (.inl a1), some (.inl a2), some (.inl a3), some (.inl a4), none, none, none] [] w :=
  ck_in (fun hl => (ck_iload 5 rfl dX12_join_3 rfl (ck_iconst 6 rfl dX12_join_5 rfl (ck_icmp_ge 9 rfl 52 dX12_join_6 rfl hl.2.2.2.2.1 (show ck_i 3 by decide) (fun c15 => (ck_iconst 53 rfl dX12_join_52 rfl (ck_istore 55 rfl [some (.inr (.inr 76)), some (.inl a1), some (.inl a2), some (.inl a3), some (.inl (-1)), none, none, none] dX12_join_53 (Nat.le_of_ble_eq_true rfl) rfl rfl (show ck_i (-1) by decide) (ck_iconst 56 rfl dX12_join_55 rfl (ck_istore 58 rfl [some (.inr (.inr 76)), some (.inl a1), some (.inl a2), some (.inl a3), some (.inl (-1)), some (.inl 0), none, none] dX12_join_56 (Nat.le_of_ble_eq_true rfl) rfl rfl (show ck_i 0 by decide) (ck_drop [some (.inr (.inr 76)), none, none, none, some (.inl (-1)), some (.inl 0), none, none] (And.intro rfl (And.intro rfl (And.intro rfl True.intro))) (h.1 c15))))))) (fun c16 => (ck_aload_n 10 rfl 0 dX12_join_9 rfl rfl (ck_getr 13 rfl dX12_join_10 fl_X12_71 sh_76 rfl (ck_iload 15 rfl dX12_join_13 rfl (ck_aload_n 16 rfl 0 dX12_join_15 rfl rfl (ck_iload_n 17 rfl 2 dX12_join_16 rfl rfl (ck_iload_n 18 rfl 3 dX12_join_17 rfl rfl (ck_iconst 19 rfl dX12_join_18 rfl (ck_iload 21 rfl dX12_join_19 rfl (ck_imul 22 rfl dX12_join_21 (ck_iadd 23 rfl dX12_join_22 (ck_wrp (ck_callV 26 rfl [.inl a2, .inl (ck_wr (a3 + (3 * a4)))] [.inl a4, .inr (.inr 94)] dX12_join_23 cv_X12_360 sh_76 rfl rfl (Nat.le_of_ble_eq_true rfl) (And.intro hl.2.2.1 (And.intro (ck_rng _) True.intro)) (ck_mI (h.2 c16) (fun v2 w1 q3 h4 => (ck_if_eq 29 rfl 44 dX12_join_26 rfl q3 (fun c13 => (ck_iconst 45 rfl dX12_join_44 rfl (have h18 := (h4.1 c13); have o5 := h18.1; have h17 := h18.2; (ck_iast 46 rfl dX12_join_45 sh_94 (shn_94 hC) o5 (show ck_i (-1) by decide) (have h20 := h17; have o6 := h20.1; have h19 := h20.2; (ck_iinc 49 rfl [some (.inr (.inr 76)), some (.inl a1), some (.inl a2), some (.inl a3), some (.inl (a4 + 1)), none, none, none] dX12_join_46 rfl (Nat.le_of_ble_eq_true rfl) rfl rfl o6 (ck_goto 3 dX12_join_49 rfl h19))))))) (fun c14 => (ck_aload_n 30 rfl 0 dX12_join_29 rfl rfl (ck_iload_n 31 rfl 1 dX12_join_30 rfl rfl (ck_iload_n 32 rfl 2 dX12_join_31 rfl rfl (ck_iload_n 33 rfl 3 dX12_join_32 rfl rfl (ck_iconst 34 rfl dX12_join_33 rfl (ck_iload 36 rfl dX12_join_34 rfl (ck_imul 37 rfl dX12_join_36 (ck_iadd 38 rfl dX12_join_37 (ck_wrp (ck_callV 41 rfl [.inl a1, .inl a2, .inl (ck_wr (a3 + (3 * a4)))] [.inl a4, .inr (.inr 94)] dX12_join_38 cv_X12_363 sh_76 rfl rfl (Nat.le_of_ble_eq_true rfl) (And.intro hl.2.1 (And.intro hl.2.2.1 (And.intro (ck_rng _) True.intro))) (ck_mI (h4.2 c14) (fun v8 w7 q9 h10 => (ck_goto 45 dX12_join_41 rfl (have h22 := h10; have o11 := h22.1; have h21 := h22.2; (ck_iast 46 rfl dX12_join_45 sh_94 (shn_94 hC) o11 q9 (have h24 := h21; have o12 := h24.1; have h23 := h24.2; (ck_iinc 49 rfl [some (.inr (.inr 76)), some (.inl a1), some (.inl a2), some (.inl a3), some (.inl (a4 + 1)), none, none, none] dX12_join_46 rfl (Nat.le_of_ble_eq_true rfl) rfl rfl o12 (ck_goto 3 dX12_join_49 rfl h23)))))))))))))))))))))))))))))))))))))))
set_option maxRecDepth 8000 in
theorem r_X12_join_58 {g : ch_G} {A R : Nat} (hC : ck_Cx g A R) {d : Nat} {K : Option ck_V → ck_W → Prop} {w : ck_W} {a4 a5 : Int} (h : ((w 77 5) ≤ a5 → K (some (.inl a4)) w) ∧ (¬ (w 77 5) ≤ a5 → ck_CI (ch_C g A R) d mX12_lengthOf [.inr (.inr 76), .inl a5] w (fun v3 w2 => (0 ≤ ((1300 + (4 * a5)) + 3) ∧ ((1300 + (4 * a5)) + 3) < 1430) ∧ (((w2 77 8) ≤ (w2 77 9) → ck_i (9 * (3 - v3)) ∧ ((0 ≤ (w2 77 9)) ∧ ((0 ≤ (9 * (3 - v3))) ∧ ((((w2 77 9) ≤ 3 ∧ (9 * (3 - v3)) ≤ 27) ∨ ((w2 77 9) ≤ 10 ∧ (9 * (3 - v3)) ≤ 12)) ∧ (ck_l ((w2 77 ((1300 + (4 * a5)) + 3)) * (ck_pw (w2 77 9) (9 * (3 - v3)))) ∧ ((0 ≤ a5 ∧ a5 < 12) ∧ (ck_At (ch_C g A R) (d + 1) mX12_join K 149 [some (.inr (.inr 76)), none, none, none, some (.inl a4), some (.inl a5), some (.inl v3), some (.inl 0)] [] (ck_up w2 95 a5 ((w2 77 ((1300 + (4 * a5)) + 3)) * (ck_pw (w2 77 9) (9 * (3 - v3)))))))))))) ∧ (¬ (w2 77 8) ≤ (w2 77 9) → ck_i (9 * (3 - v3)) ∧ ((0 ≤ (w2 77 8)) ∧ ((0 ≤ (9 * (3 - v3))) ∧ ((((w2 77 8) ≤ 3 ∧ (9 * (3 - v3)) ≤ 27) ∨ ((w2 77 8) ≤ 10 ∧ (9 * (3 - v3)) ≤ 12)) ∧ (ck_l ((w2 77 ((1300 + (4 * a5)) + 3)) * (ck_pw (w2 77 8) (9 * (3 - v3)))) ∧ ((0 ≤ a5 ∧ a5 < 12) ∧ (ck_At (ch_C g A R) (d + 1) mX12_join K 149 [some (.inr (.inr 76)), none, none, none, some (.inl a4), some (.inl a5), some (.inl v3), some (.inl 0)] [] (ck_up w2 95 a5 ((w2 77 ((1300 + (4 * a5)) + 3)) * (ck_pw (w2 77 8) (9 * (3 - v3)))))))))))))))) : ck_At (ch_C g A R) (d + 1) mX12_join K 58 [some (.inr (.inr 76)), none, none, none, some (.inl a4), some (.inl a5), none, none] [] w :=
  ck_in (fun hl => (ck_iload 60 rfl dX12_join_58 rfl (ck_aload_n 61 rfl 0 dX12_join_60 rfl rfl (ck_getr 64 rfl dX12_join_61 fl_X12_7 sh_76 rfl (ck_iconst 65 rfl dX12_join_64 rfl (ck_iald 66 rfl dX12_join_65 sh_77 (shn_77 hC) (by decide) _ rfl (fun (q1 : ck_i (w 77 5)) => (ck_icmp_ge 69 rfl 277 dX12_join_66 rfl hl.2.2.1 q1 (fun c28 => (ck_iload 279 rfl dX12_join_277 rfl (ck_iret dX12_join_279 rfl hl.2.1 (h.1 c28)))) (fun c29 => (ck_aload_n 70 rfl 0 dX12_join_69 rfl rfl (ck_iload 72 rfl dX12_join_70 rfl (ck_callV 75 rfl [.inl a5] [] dX12_join_72 cv_X12_369 sh_76 rfl rfl (Nat.le_of_ble_eq_true rfl) (And.intro hl.2.2.1 True.intro) (ck_mI (h.2 c29) (fun v3 w2 q4 h5 => (ck_istore 77 rfl [some (.inr (.inr 76)), none, none, none, some (.inl a4), some (.inl a5), some (.inl v3), none] dX12_join_75 (Nat.le_of_ble_eq_true rfl) rfl rfl q4 (ck_aload_n 78 rfl 0 dX12_join_77 rfl rfl (ck_getr 81 rfl dX12_join_78 fl_X12_74 sh_76 rfl (ck_iload 83 rfl dX12_join_81 rfl (ck_aload_n 84 rfl 0 dX12_join_83 rfl rfl (ck_getr 87 rfl dX12_join_84 fl_X12_7 sh_76 rfl (ck_sipush 90 rfl dX12_join_87 rfl (ck_iconst 91 rfl dX12_join_90 rfl (ck_iload 93 rfl dX12_join_91 rfl (ck_imul 94 rfl dX12_join_93 (ck_iadd 95 rfl dX12_join_94 (ck_iconst 96 rfl dX12_join_95 rfl (ck_iadd 97 rfl dX12_join_96 (have h31 := h5; have o6 := h31.1; have h30 := h31.2; (ck_iald 98 rfl dX12_join_97 sh_77 (shn_77 hC) o6 _ rfl (fun (q7 : ck_i (w2 77 ((1300 + (4 * a5)) + 3))) => (ck_i2l 99 rfl dX12_join_98 q7 (ck_aload_n 100 rfl 0 dX12_join_99 rfl rfl (ck_aload_n 101 rfl 0 dX12_join_100 rfl rfl (ck_getr 104 rfl dX12_join_101 fl_X12_7 sh_76 rfl (ck_bipush 106 rfl dX12_join_104 rfl (ck_iald 107 rfl dX12_join_106 sh_77 (shn_77 hC) (by decide) _ rfl (fun (q8 : ck_i (w2 77 8)) => (ck_aload_n 108 rfl 0 dX12_join_107 rfl rfl (ck_getr 111 rfl dX12_join_108 fl_X12_7 sh_76 rfl (ck_bipush 113 rfl dX12_join_111 rfl (ck_iald 114 rfl dX12_join_113 sh_77 (shn_77 hC) (by decide) _ rfl (fun (q9 : ck_i (w2 77 9)) => (ck_icmp_le 117 rfl 127 dX12_join_114 rfl q8 q9 (fun c26 => (ck_aload_n 128 rfl 0 dX12_join_127 rfl rfl (ck_getr 131 rfl dX12_join_128 fl_X12_7 sh_76 rfl (ck_bipush 133 rfl dX12_join_131 rfl (ck_iald 134 rfl dX12_join_133 sh_77 (shn_77 hC) (by decide) _ rfl (fun (q10 : ck_i (w2 77 9)) => (ck_bipush 136 rfl dX12_join_134 rfl (ck_iconst 137 rfl dX12_join_136 rfl (ck_iload 139 rfl dX12_join_137 rfl (ck_isub 140 rfl dX12_join_139 (ck_imul 141 rfl dX12_join_140 (have h33 := (h30.1 c26); have o11 := h33.1; have h32 := h33.2; (have h35 := h32; have o12 := h35.1; have h34 := h35.2; (have h37 := h34; have o13 := h37.1; have h36 := h37.2; (have h39 := h36; have o14 := h39.1; have h38 := h39.2; (ck_callV 144 rfl [.inl (w2 77 9), .inl (9 * (3 - v3))] [.inr (.inl (w2 77 ((1300 + (4 * a5)) + 3))), .inl a5, .inr (.inr 95)] dX12_join_141 cv_X12_348 sh_76 rfl rfl (Nat.le_of_ble_eq_true rfl) (And.intro q10 (And.intro o11 True.intro)) (p_X12_power hC o12 o13 o14 (fun q15 => (ck_lmul 145 rfl dX12_join_144 (have h41 := h38; have o16 := h41.1; have h40 := h41.2; (have h43 := h40; have o17 := h43.1; have h42 := h43.2; (ck_last 146 rfl dX12_join_145 sh_95 (shn_95 hC) o17 o16 (ck_iconst 147 rfl dX12_join_146 rfl (ck_istore 149 rfl [some (.inr (.inr 76)), none, none, none, some (.inl a4), some (.inl a5), some (.inl v3), some (.inl 0)] dX12_join_147 (Nat.le_of_ble_eq_true rfl) rfl rfl (show ck_i 0 by decide) h42)))))))))))))))))))))))) (fun c27 => (ck_aload_n 118 rfl 0 dX12_join_117 rfl rfl (ck_getr 121 rfl dX12_join_118 fl_X12_7 sh_76 rfl (ck_bipush 123 rfl dX12_join_121 rfl (ck_iald 124 rfl dX12_join_123 sh_77 (shn_77 hC) (by decide) _ rfl (fun (q18 : ck_i (w2 77 8)) => (ck_goto 134 dX12_join_124 rfl (ck_bipush 136 rfl dX12_join_134 rfl (ck_iconst 137 rfl dX12_join_136 rfl (ck_iload 139 rfl dX12_join_137 rfl (ck_isub 140 rfl dX12_join_139 (ck_imul 141 rfl dX12_join_140 (have h45 := (h30.2 c27); have o19 := h45.1; have h44 := h45.2; (have h47 := h44; have o20 := h47.1; have h46 := h47.2; (have h49 := h46; have o21 := h49.1; have h48 := h49.2; (have h51 := h48; have o22 := h51.1; have h50 := h51.2; (ck_callV 144 rfl [.inl (w2 77 8), .inl (9 * (3 - v3))] [.inr (.inl (w2 77 ((1300 + (4 * a5)) + 3))), .inl a5, .inr (.inr 95)] dX12_join_141 cv_X12_348 sh_76 rfl rfl (Nat.le_of_ble_eq_true rfl) (And.intro q18 (And.intro o19 True.intro)) (p_X12_power hC o20 o21 o22 (fun q23 => (ck_lmul 145 rfl dX12_join_144 (have h53 := h50; have o24 := h53.1; have h52 := h53.2; (have h55 := h52; have o25 := h55.1; have h54 := h55.2; (ck_last 146 rfl dX12_join_145 sh_95 (shn_95 hC) o25 o24 (ck_iconst 147 rfl dX12_join_146 rfl (ck_istore 149 rfl [some (.inr (.inr 76)), none, none, none, some (.inl a4), some (.inl a5), some (.inl v3), some (.inl 0)] dX12_join_147 (Nat.le_of_ble_eq_true rfl) rfl rfl (show ck_i 0 by decide) h54))))))))))))))))))))))))))))))))))))))))))))))))))))))))))))))))))))
set_option maxRecDepth 8000 in
theorem r_X12_join_149 {g : ch_G} {A R : Nat} (hC : ck_Cx g A R) {d : Nat} {K : Option ck_V → ck_W → Prop} {w : ck_W} {a4 a5 a6 a7 : Int} (h : (a6 ≤ a7 → ck_At (ch_C g A R) (d + 1) mX12_join K 232 [some (.inr (.inr 76)), none, none, none, some (.inl a4), some (.inl a5), none, none] [] w) ∧ (¬ a6 ≤ a7 → (0 ≤ a5 ∧ a5 < 12) ∧ (((w 95 a5) ≤ 0 → ck_At (ch_C g A R) (d + 1) mX12_join K 232 [some (.inr (.inr 76)), none, none, none, some (.inl a4), some (.inl a5), none, none] [] w) ∧ (¬ (w 95 a5) ≤ 0 → (0 ≤ a7 ∧ a7 < 3) ∧ ((0 ≤ (w 94 a7) → (0 ≤ ((1300 + (4 * a5)) + a7) ∧ ((1300 + (4 * a5)) + a7) < 1430) ∧ (ck_CJ (ch_C g A R) d mX12_fitting [.inr (.inr 76), .inl (w 94 a7), .inl (w 77 ((1300 + (4 * a5)) + a7))] w (fun v10 w9 => ck_l ((w 95 a5) * v10) ∧ (ck_i (a7 + 1) ∧ (ck_At (ch_C g A R) (d + 1) mX12_join K 149 [some (.inr (.inr 76)), none, none, none, some (.inl a4), some (.inl a5), some (.inl a6), some (.inl (a7 + 1))] [] (ck_up w9 95 a5 ((w 95 a5) * v10))))))) ∧ (¬ 0 ≤ (w 94 a7) → ck_i (a7 + 1) ∧ (ck_At (ch_C g A R) (d + 1) mX12_join K 149 [some (.inr (.inr 76)), none, none, none, some (.inl a4), some (.inl a5), some (.inl a6), some (.inl (a7 + 1))] [] (ck_up w 95 a5 (-1))))))))) : ck_At (ch_C g A R) (d + 1) mX12_join K 149 [some (.inr (.inr 76)), none, none, none, some (.inl a4), some (.inl a5), some (.inl a6), some (.inl a7)] [] w :=
  ck_in (fun hl => (ck_iload 151 rfl dX12_join_149 rfl (ck_iload 153 rfl dX12_join_151 rfl (ck_icmp_ge 156 rfl 232 dX12_join_153 rfl hl.2.2.2.2.1 hl.2.2.2.1 (fun c20 => (ck_drop [some (.inr (.inr 76)), none, none, none, some (.inl a4), some (.inl a5), none, none] (And.intro rfl (And.intro rfl (And.intro rfl True.intro))) (h.1 c20))) (fun c21 => (ck_aload_n 157 rfl 0 dX12_join_156 rfl rfl (ck_getr 160 rfl dX12_join_157 fl_X12_74 sh_76 rfl (ck_iload 162 rfl dX12_join_160 rfl (have h23 := (h.2 c21); have o1 := h23.1; have h22 := h23.2; (ck_lald 163 rfl dX12_join_162 sh_95 (shn_95 hC) o1 _ rfl (fun (q2 : ck_l (w 95 a5)) => (ck_lconst 164 rfl 0 dX12_join_163 rfl (ck_lcmp 165 rfl dX12_join_164 q2 (show ck_l 0 by decide) (ck_if_le 168 rfl 232 dX12_join_165 rfl ck_cmp_i (fun q => have c18 : (w 95 a5) ≤ 0 := (ck_cmp_le.mp q); (ck_drop [some (.inr (.inr 76)), none, none, none, some (.inl a4), some (.inl a5), none, none] (And.intro rfl (And.intro rfl (And.intro rfl True.intro))) (h22.1 c18))) (fun q => have c19 : ¬ (w 95 a5) ≤ 0 := (fun r => q (ck_cmp_le.mpr r)); (ck_aload_n 169 rfl 0 dX12_join_168 rfl rfl (ck_getr 172 rfl dX12_join_169 fl_X12_74 sh_76 rfl (ck_iload 174 rfl dX12_join_172 rfl (ck_aload_n 175 rfl 0 dX12_join_174 rfl rfl (ck_getr 178 rfl dX12_join_175 fl_X12_71 sh_76 rfl (ck_iload 180 rfl dX12_join_178 rfl (have h25 := (h22.2 c19); have o3 := h25.1; have h24 := h25.2; (ck_iald 181 rfl dX12_join_180 sh_94 (shn_94 hC) o3 _ rfl (fun (q4 : ck_i (w 94 a7)) => (ck_if_ge 184 rfl 190 dX12_join_181 rfl q4 (fun c16 => (ck_aload_n 191 rfl 0 dX12_join_190 rfl rfl (ck_getr 194 rfl dX12_join_191 fl_X12_74 sh_76 rfl (ck_iload 196 rfl dX12_join_194 rfl (ck_lald 197 rfl dX12_join_196 sh_95 (shn_95 hC) o1 _ rfl (fun (q5 : ck_l (w 95 a5)) => (ck_aload_n 198 rfl 0 dX12_join_197 rfl rfl (ck_aload_n 199 rfl 0 dX12_join_198 rfl rfl (ck_getr 202 rfl dX12_join_199 fl_X12_71 sh_76 rfl (ck_iload 204 rfl dX12_join_202 rfl (ck_iald 205 rfl dX12_join_204 sh_94 (shn_94 hC) o3 _ rfl (fun (q6 : ck_i (w 94 a7)) => (ck_aload_n 206 rfl 0 dX12_join_205 rfl rfl (ck_getr 209 rfl dX12_join_206 fl_X12_7 sh_76 rfl (ck_sipush 212 rfl dX12_join_209 rfl (ck_iconst 213 rfl dX12_join_212 rfl (ck_iload 215 rfl dX12_join_213 rfl (ck_imul 216 rfl dX12_join_215 (ck_iadd 217 rfl dX12_join_216 (ck_iload 219 rfl dX12_join_217 rfl (ck_iadd 220 rfl dX12_join_219 (have h27 := (h24.1 c16); have o7 := h27.1; have h26 := h27.2; (ck_iald 221 rfl dX12_join_220 sh_77 (shn_77 hC) o7 _ rfl (fun (q8 : ck_i (w 77 ((1300 + (4 * a5)) + a7))) => (ck_callV 224 rfl [.inl (w 94 a7), .inl (w 77 ((1300 + (4 * a5)) + a7))] [.inr (.inl (w 95 a5)), .inl a5, .inr (.inr 95)] dX12_join_221 cv_X12_352 sh_76 rfl rfl (Nat.le_of_ble_eq_true rfl) (And.intro q6 (And.intro q8 True.intro)) (ck_mJ h26 (fun v10 w9 q11 h12 => (ck_lmul 225 rfl dX12_join_224 (have h29 := h12; have o13 := h29.1; have h28 := h29.2; (ck_last 226 rfl dX12_join_225 sh_95 (shn_95 hC) o1 o13 (have h31 := h28; have o14 := h31.1; have h30 := h31.2; (ck_iinc 229 rfl [some (.inr (.inr 76)), none, none, none, some (.inl a4), some (.inl a5), some (.inl a6), some (.inl (a7 + 1))] dX12_join_226 rfl (Nat.le_of_ble_eq_true rfl) rfl rfl o14 (ck_goto 149 dX12_join_229 rfl h30))))))))))))))))))))))))))))))))) (fun c17 => (ck_ldc2 187 rfl (-1) kl_X12_372 dX12_join_184 rfl (ck_goto 225 dX12_join_187 rfl (ck_last 226 rfl dX12_join_225 sh_95 (shn_95 hC) o1 (show ck_l (-1) by decide) (have h33 := (h24.2 c17); have o15 := h33.1; have h32 := h33.2; (ck_iinc 229 rfl [some (.inr (.inr 76)), none, none, none, some (.inl a4), some (.inl a5), some (.inl a6), some (.inl (a7 + 1))] dX12_join_226 rfl (Nat.le_of_ble_eq_true rfl) rfl rfl o15 (ck_goto 149 dX12_join_229 rfl h32))))))))))))))))))))))))))))))))
set_option maxRecDepth 8000 in
theorem r_X12_join_232 {g : ch_G} {A R : Nat} (hC : ck_Cx g A R) {d : Nat} {K : Option ck_V → ck_W → Prop} {w : ck_W} {a4 a5 : Int} (h : (0 ≤ a5 ∧ a5 < 12) ∧ (((w 95 a5) ≤ 0 → ck_i (a5 + 1) ∧ (ck_At (ch_C g A R) (d + 1) mX12_join K 58 [some (.inr (.inr 76)), none, none, none, some (.inl a4), some (.inl (a5 + 1)), none, none] [] w)) ∧ (¬ (w 95 a5) ≤ 0 → (a4 < 0 → ck_i (a5 + 1) ∧ (ck_At (ch_C g A R) (d + 1) mX12_join K 58 [some (.inr (.inr 76)), none, none, none, some (.inl a5), some (.inl (a5 + 1)), none, none] [] w)) ∧ (¬ a4 < 0 → (0 ≤ a4 ∧ a4 < 12) ∧ (((w 95 a5) ≤ (w 95 a4) → ck_i (a5 + 1) ∧ (ck_At (ch_C g A R) (d + 1) mX12_join K 58 [some (.inr (.inr 76)), none, none, none, some (.inl a4), some (.inl (a5 + 1)), none, none] [] w)) ∧ (¬ (w 95 a5) ≤ (w 95 a4) → ck_i (a5 + 1) ∧ (ck_At (ch_C g A R) (d + 1) mX12_join K 58 [some (.inr (.inr 76)), none, none, none, some (.inl a5), some (.inl (a5 + 1)), none, none] [] w))))))) : ck_At (ch_C g A R) (d + 1) mX12_join K 232 [some (.inr (.inr 76)), none, none, none, some (.inl a4), some (.inl a5), none, none] [] w :=
  ck_in (fun hl => (ck_aload_n 233 rfl 0 dX12_join_232 rfl rfl (ck_getr 236 rfl dX12_join_233 fl_X12_74 sh_76 rfl (ck_iload 238 rfl dX12_join_236 rfl (have h17 := h; have o1 := h17.1; have h16 := h17.2; (ck_lald 239 rfl dX12_join_238 sh_95 (shn_95 hC) o1 _ rfl (fun (q2 : ck_l (w 95 a5)) => (ck_lconst 240 rfl 0 dX12_join_239 rfl (ck_lcmp 241 rfl dX12_join_240 q2 (show ck_l 0 by decide) (ck_if_le 244 rfl 271 dX12_join_241 rfl ck_cmp_i (fun q => have c14 : (w 95 a5) ≤ 0 := (ck_cmp_le.mp q); (have h19 := (h16.1 c14); have o3 := h19.1; have h18 := h19.2; (ck_iinc 274 rfl [some (.inr (.inr 76)), none, none, none, some (.inl a4), some (.inl (a5 + 1)), none, none] dX12_join_271 rfl (Nat.le_of_ble_eq_true rfl) rfl rfl o3 (ck_goto 58 dX12_join_274 rfl h18)))) (fun q => have c15 : ¬ (w 95 a5) ≤ 0 := (fun r => q (ck_cmp_le.mpr r)); (ck_iload 246 rfl dX12_join_244 rfl (have h20 := (h16.2 c15); (ck_if_lt 249 rfl 267 dX12_join_246 rfl hl.2.1 (fun c12 => (ck_iload 269 rfl dX12_join_267 rfl (ck_istore 271 rfl [some (.inr (.inr 76)), none, none, none, some (.inl a5), some (.inl a5), none, none] dX12_join_269 (Nat.le_of_ble_eq_true rfl) rfl rfl hl.2.2.1 (have h22 := (h20.1 c12); have o4 := h22.1; have h21 := h22.2; (ck_iinc 274 rfl [some (.inr (.inr 76)), none, none, none, some (.inl a5), some (.inl (a5 + 1)), none, none] dX12_join_271 rfl (Nat.le_of_ble_eq_true rfl) rfl rfl o4 (ck_goto 58 dX12_join_274 rfl h21)))))) (fun c13 => (ck_aload_n 250 rfl 0 dX12_join_249 rfl rfl (ck_getr 253 rfl dX12_join_250 fl_X12_74 sh_76 rfl (ck_iload 255 rfl dX12_join_253 rfl (ck_lald 256 rfl dX12_join_255 sh_95 (shn_95 hC) o1 _ rfl (fun (q5 : ck_l (w 95 a5)) => (ck_aload_n 257 rfl 0 dX12_join_256 rfl rfl (ck_getr 260 rfl dX12_join_257 fl_X12_74 sh_76 rfl (ck_iload 262 rfl dX12_join_260 rfl (have h24 := (h20.2 c13); have o6 := h24.1; have h23 := h24.2; (ck_lald 263 rfl dX12_join_262 sh_95 (shn_95 hC) o6 _ rfl (fun (q7 : ck_l (w 95 a4)) => (ck_lcmp 264 rfl dX12_join_263 q5 q7 (ck_if_le 267 rfl 271 dX12_join_264 rfl ck_cmp_i (fun q => have c10 : (w 95 a5) ≤ (w 95 a4) := (ck_cmp_le.mp q); (have h26 := (h23.1 c10); have o8 := h26.1; have h25 := h26.2; (ck_iinc 274 rfl [some (.inr (.inr 76)), none, none, none, some (.inl a4), some (.inl (a5 + 1)), none, none] dX12_join_271 rfl (Nat.le_of_ble_eq_true rfl) rfl rfl o8 (ck_goto 58 dX12_join_274 rfl h25)))) (fun q => have c11 : ¬ (w 95 a5) ≤ (w 95 a4) := (fun r => q (ck_cmp_le.mpr r)); (ck_iload 269 rfl dX12_join_267 rfl (ck_istore 271 rfl [some (.inr (.inr 76)), none, none, none, some (.inl a5), some (.inl a5), none, none] dX12_join_269 (Nat.le_of_ble_eq_true rfl) rfl rfl hl.2.2.1 (have h28 := (h23.2 c11); have o9 := h28.1; have h27 := h28.2; (ck_iinc 274 rfl [some (.inr (.inr 76)), none, none, none, some (.inl a5), some (.inl (a5 + 1)), none, none] dX12_join_271 rfl (Nat.le_of_ble_eq_true rfl) rfl rfl o9 (ck_goto 58 dX12_join_274 rfl h27))))))))))))))))))))))))))))))))))
theorem ck_tri {n k : Int} (hn : 1 ≤ n ∧ n ≤ 3) (hk : 0 ≤ k ∧ k ≤ n) : 1 ≤ ck_pw 19683 (3 - n + k) ∧ ck_pw 19683 (3 - n + k) ≤ 7625597484987 := by
  rcases (by omega : 3 - n + k = 0 ∨ 3 - n + k = 1 ∨ 3 - n + k = 2 ∨ 3 - n + k = 3) with e | e | e | e <;> rw [e] <;> decide
theorem ck_p27 {b n : Int} (hb : 1 ≤ b ∧ b ≤ 3) (hn : 1 ≤ n ∧ n ≤ 3) : 1 ≤ ck_pw b (9 * (3 - n)) ∧ ck_pw b (9 * (3 - n)) ≤ ck_pw 19683 (3 - n) := by
  rcases (by omega : n = 1 ∨ n = 2 ∨ n = 3) with e | e | e <;> subst e <;> rcases (by omega : b = 1 ∨ b = 2 ∨ b = 3) with e | e | e <;> subst e <;> decide
theorem S_X12_join {g : ch_G} {A R : Nat} (hC : ck_Cx g A R) {d : Nat} {K : Option ck_V → ck_W → Prop} {w : ck_W} {a1 a2 a3 : Int} (hs : rm_st A R w w) (h0 : 0 ≤ a1 ∧ a1 < w 77 0) (hi3 : ck_i a3)
    (h : ∀ v w', rm_st A R w w' → (∀ k, k ≠ 91 → k ≠ 92 → k ≠ 93 → k ≠ 94 → k ≠ 95 → w' k = w k) → (-1 ≤ v ∧ v < w 77 5) → rm_wc (w 77 5) w' → (0 ≤ v → 1 ≤ w' 95 v ∧ (0 ≤ a2 ∧ a2 ≤ 3) ∧ (0 ≤ a3 ∧ a3 ≤ 23) ∧ ∀ k, 0 ≤ k → k < rm_ln (w 77) v → 0 ≤ w' 94 k ∧ w' 94 k < 512) → K (some (.inl v)) w') : ck_Ex (ch_C g A R) (d + 6) mX12_join [.inr (.inr 76), .inl a1, .inl a2, .inl a3] w K := by
  have hI := hs.2.1
  have f0 := rm_c0 hI.2.2.2.1
  -- what stays
  have st : ∀ u : ck_W, (∀ k, k ≠ 91 → k ≠ 92 → k ≠ 93 → k ≠ 94 → k ≠ 95 → u k = w k) → rm_st A R w u ∧ u 77 = w 77 := fun u b => by
    have q : rm_q w u := ⟨b 76 (by decide) (by decide) (by decide) (by decide) (by decide), b 77 (by decide) (by decide) (by decide) (by decide) (by decide), b 78 (by decide) (by decide) (by decide) (by decide) (by decide), b 79 (by decide) (by decide) (by decide) (by decide) (by decide), fun k hk => b k (by omega) (by omega) (by omega) (by omega) (by omega)⟩
    exact ⟨⟨q, rm_I_q hI q, rm_wa_c hs.2.2 q.1 q.2.1 (b 83 (by decide) (by decide) (by decide) (by decide) (by decide)) (b 85 (by decide) (by decide) (by decide) (by decide) (by decide))⟩, q.2.1⟩
  -- the boxes' bits
  have P : ck_W → Prop := fun _ => True
  have l2 : ∀ (m : Nat) (a4 a5 : Int) (u : ck_W), w 77 5 - a5 = m → 0 ≤ a5 → (-1 ≤ a4 ∧ a4 < a5) → (∀ k, k ≠ 91 → k ≠ 92 → k ≠ 93 → k ≠ 94 → k ≠ 95 → u k = w k) → rm_wc a5 u → (∀ k, 0 ≤ k → k < 3 → -1 ≤ u 94 k ∧ u 94 k < 512) → (0 ≤ u 94 0 → (0 ≤ a2 ∧ a2 ≤ 3) ∧ (0 ≤ a3 ∧ a3 ≤ 23)) → (0 ≤ a4 → 1 ≤ u 95 a4 ∧ ∀ k, 0 ≤ k → k < rm_ln (w 77) a4 → 0 ≤ u 94 k) → ck_At (ch_C g A R) (d + 6) mX12_join K 58 [some (.inr (.inr 76)), none, none, none, some (.inl a4), some (.inl a5), none, none] [] u := by
    intro m
    induction m with
    | zero =>
      intro a4 a5 u q1 q2 q3 q4 q5 q6 q7 q8
      obtain ⟨su, e77⟩ := st u q4
      refine r_X12_join_58 hC ⟨fun _ => h a4 u su q4 (by omega) (by rw [show w 77 5 = a5 by omega]; exact q5) (fun z => ?_), fun z => absurd (by rw [e77]; omega) z⟩
      have lb := rm_lnb (w 77) a4
      have o := q8 z
      have z0 := q7 (o.2 0 (by omega) (by omega))
      exact ⟨o.1, z0.1, z0.2, fun k k0 k1 => ⟨o.2 k k0 k1, (q6 k k0 (by omega)).2⟩⟩
    | succ m ih =>
      intro a4 a5 u q1 q2 q3 q4 q5 q6 q7 q8
      obtain ⟨su, e77⟩ := st u q4
      have lb := rm_lnb (w 77) a5
      have wb := rm_word3 hI.2.2.2.1 (k := a5) q2 (by omega)
      have wb1 := hI.2.2.2.1.2.2 a5 q2 (by omega)
      rw [show (1303 + 4 * a5 : Int) = 1300 + 4 * a5 + 3 by omega] at wb1
      -- the end of a word
      have l4 : ∀ (u' : ck_W), (∀ k, k ≠ 91 → k ≠ 92 → k ≠ 93 → k ≠ 94 → k ≠ 95 → u' k = w k) → (∀ j, j ≠ a5 → u' 95 j = u 95 j) → u' 94 = u 94 → (u' 95 a5 = -1 ∨ (1 ≤ u' 95 a5 ∧ u' 95 a5 ≤ 754934151013713)) → (1 ≤ u' 95 a5 → ∀ k, 0 ≤ k → k < rm_ln (w 77) a5 → 0 ≤ u 94 k) → ck_At (ch_C g A R) (d + 6) mX12_join K 232 [some (.inr (.inr 76)), none, none, none, some (.inl a4), some (.inl a5), none, none] [] u' := by
        intro u' b1 b2 b3 b4 b5
        have wc' : rm_wc (a5 + 1) u' := fun k k0 k1 => by
          by_cases e : k = a5
          · subst e; exact b4
          · rw [b2 k e]; exact q5 k k0 (by omega)
        have q6' : ∀ k, 0 ≤ k → k < 3 → -1 ≤ u' 94 k ∧ u' 94 k < 512 := by rw [b3]; exact q6
        have q7' : 0 ≤ u' 94 0 → (0 ≤ a2 ∧ a2 ≤ 3) ∧ (0 ≤ a3 ∧ a3 ≤ 23) := by rw [b3]; exact q7
        have old : ck_At (ch_C g A R) (d + 6) mX12_join K 58 [some (.inr (.inr 76)), none, none, none, some (.inl a4), some (.inl (a5 + 1)), none, none] [] u' := ih a4 (a5 + 1) u' (by omega) (by omega) (by omega) b1 wc' q6' q7' (fun z => by rw [b2 a4 (by omega), b3]; exact q8 z)
        have new : 1 ≤ u' 95 a5 → ck_At (ch_C g A R) (d + 6) mX12_join K 58 [some (.inr (.inr 76)), none, none, none, some (.inl a5), some (.inl (a5 + 1)), none, none] [] u' := fun z => ih a5 (a5 + 1) u' (by omega) (by omega) (by omega) b1 wc' q6' q7' (fun _ => ⟨z, by rw [b3]; exact b5 z⟩)
        exact r_X12_join_232 hC ⟨by omega, fun _ => ⟨by constructor <;> omega, old⟩, fun z => ⟨fun _ => ⟨by constructor <;> omega, new (by omega)⟩, fun _ => ⟨by omega, fun _ => ⟨by constructor <;> omega, old⟩, fun _ => ⟨by constructor <;> omega, new (by omega)⟩⟩⟩⟩
      -- the letters of a word
      have l3 : ∀ (m2 : Nat) (a7 : Int) (u' : ck_W), rm_ln (w 77) a5 - a7 = m2 → 0 ≤ a7 → (∀ k, k ≠ 91 → k ≠ 92 → k ≠ 93 → k ≠ 94 → k ≠ 95 → u' k = w k) → (∀ j, j ≠ a5 → u' 95 j = u 95 j) → u' 94 = u 94 → (u' 95 a5 = -1 ∨ (1 ≤ u' 95 a5 ∧ u' 95 a5 ≤ 99 * ck_pw 19683 (3 - rm_ln (w 77) a5 + a7))) → (1 ≤ u' 95 a5 → ∀ k, 0 ≤ k → k < a7 → 0 ≤ u 94 k) → ck_At (ch_C g A R) (d + 6) mX12_join K 149 [some (.inr (.inr 76)), none, none, none, some (.inl a4), some (.inl a5), some (.inl (rm_ln (w 77) a5)), some (.inl a7)] [] u' := by
        intro m2
        have top : ∀ a7 (u' : ck_W), (0 ≤ a7 ∧ a7 ≤ rm_ln (w 77) a5) → (u' 95 a5 = -1 ∨ (1 ≤ u' 95 a5 ∧ u' 95 a5 ≤ 99 * ck_pw 19683 (3 - rm_ln (w 77) a5 + a7))) → (u' 95 a5 = -1 ∨ (1 ≤ u' 95 a5 ∧ u' 95 a5 ≤ 754934151013713)) := fun a7 u' x y => by
          have := ck_tri lb x
          omega
        induction m2 with
        | zero =>
          intro a7 u' b1 b2 b3 b4 b5 b6 b7
          exact r_X12_join_149 hC ⟨fun _ => l4 u' b3 b4 b5 (top a7 u' (by omega) b6) (fun z k k0 k1 => b7 z k k0 (by omega)), fun z => absurd (by omega) z⟩
        | succ m2 ih2 =>
          intro a7 u' b1 b2 b3 b4 b5 b6 b7
          obtain ⟨su', e77'⟩ := st u' b3
          have tb := top a7 u' (by omega) b6
          refine r_X12_join_149 hC ⟨fun z => absurd z (by omega), fun _ => ⟨by omega, fun z => l4 u' b3 b4 b5 tb (fun y => by omega), fun z => ⟨by omega, fun y => ⟨by omega, ?_⟩, fun y => ⟨by constructor <;> omega, ih2 _ _ (by omega) (by omega) (fun k x1 x2 x3 x4 x5 => by rw [ck_up_ne x5]; exact b3 k x1 x2 x3 x4 x5) (fun j hj => by rw [ck_up_nj hj]; exact b4 j hj) (by rw [ck_up_ne (by decide)]; exact b5) (Or.inl ck_up_eq) (fun x => by rw [ck_up_eq] at x; omega)⟩⟩⟩⟩
          rw [b5] at y
          have ub := q6 a7 b2 (by omega)
          have lt : 0 ≤ w 77 (1300 + 4 * a5 + a7) ∧ w 77 (1300 + 4 * a5 + a7) < 12 := by
            have w0 := rm_word0 hI.2.2.2.1 (k := a5) q2 (by omega)
            have w1 := rm_word1 hI.2.2.2.1 (k := a5) q2 (by omega)
            have w2 := rm_word2 hI.2.2.2.1 (k := a5) q2 (by omega)
            unfold rm_ln at b1
            rcases (by omega : a7 = 0 ∨ a7 = 1 ∨ a7 = 2) with e | e | e
            · subst e; rw [Int.add_zero]; omega
            · subst e
              by_cases x : 0 ≤ w 77 (1300 + 4 * a5 + 1)
              · omega
              · rw [if_neg x] at b1; omega
            · subst e
              by_cases x : 0 ≤ w 77 (1300 + 4 * a5 + 1)
              · rw [if_pos x] at b1
                by_cases x2 : 0 ≤ w 77 (1300 + 4 * a5 + 2)
                · omega
                · rw [if_neg x2] at b1; omega
              · rw [if_neg x] at b1; omega
          rw [e77', b5]
          refine S_X12_fitting hC su'.2.1 (by omega) lt (fun v b => ⟨_, rfl, fun _ => ?_⟩)
          have cur : 1 ≤ u' 95 a5 ∧ u' 95 a5 ≤ 99 * ck_pw 19683 (3 - rm_ln (w 77) a5 + a7) := by omega
          have mb := ck_mlb (x := u' 95 a5) (y := v) (a := 99 * ck_pw 19683 (3 - rm_ln (w 77) a5 + a7)) (b := 19683) (by omega) (by omega)
          have mp := ck_mlp (x := u' 95 a5) (y := v) cur.1 b.1
          have pe : ck_pw 19683 (3 - rm_ln (w 77) a5 + (a7 + 1)) = ck_pw 19683 (3 - rm_ln (w 77) a5 + a7) * 19683 := by rw [← ck_pw_s (by omega), show 3 - rm_ln (w 77) a5 + (a7 + 1) = 3 - rm_ln (w 77) a5 + a7 + 1 by omega]
          have t2 := ck_tri (n := rm_ln (w 77) a5) (k := a7 + 1) lb (by omega)
          rw [pe] at t2
          have le2 : u' 95 a5 * v ≤ 99 * ck_pw 19683 (3 - rm_ln (w 77) a5 + (a7 + 1)) := by rw [pe, ← Int.mul_assoc]; exact mb.2
          refine ⟨?_, by constructor <;> omega, ih2 _ _ (by omega) (by omega) (fun k x1 x2 x3 x4 x5 => by rw [ck_up_ne x5]; exact b3 k x1 x2 x3 x4 x5) (fun j hj => by rw [ck_up_nj hj]; exact b4 j hj) (by rw [ck_up_ne (by decide)]; exact b5) (Or.inr (by rw [ck_up_eq]; exact ⟨mp, le2⟩)) (fun x k k0 k1 => ?_)⟩
          · rw [pe] at le2; constructor <;> omega
          · by_cases e : k = a7
            · subst e; exact y
            · exact b7 (by omega) k k0 (by omega)
      refine r_X12_join_58 hC ⟨fun z => absurd z (by rw [e77]; omega), fun _ => S_X12_lengthOf hC (by omega) ⟨_, rfl, fun _ => ?_⟩⟩
      dsimp only
      rw [e77]
      have fin : ∀ b, (1 ≤ b ∧ b ≤ 3) → ck_i (9 * (3 - rm_ln (w 77) a5)) ∧ ((0 ≤ b) ∧ ((0 ≤ (9 * (3 - rm_ln (w 77) a5))) ∧ (((b ≤ 3 ∧ (9 * (3 - rm_ln (w 77) a5)) ≤ 27) ∨ (b ≤ 10 ∧ (9 * (3 - rm_ln (w 77) a5)) ≤ 12)) ∧ (ck_l ((w 77 ((1300 + (4 * a5)) + 3)) * (ck_pw b (9 * (3 - rm_ln (w 77) a5)))) ∧ ((0 ≤ a5 ∧ a5 < 12) ∧ (ck_At (ch_C g A R) (d + 6) mX12_join K 149 [some (.inr (.inr 76)), none, none, none, some (.inl a4), some (.inl a5), some (.inl (rm_ln (w 77) a5)), some (.inl 0)] [] (ck_up u 95 a5 ((w 77 ((1300 + (4 * a5)) + 3)) * (ck_pw b (9 * (3 - rm_ln (w 77) a5)))))))))))  := fun b hb => by
        have pb := ck_p27 hb lb
        have pt := ck_tri (n := rm_ln (w 77) a5) (k := 0) lb (by omega)
        rw [Int.add_zero] at pt
        have mb := ck_mlb (x := w 77 (1300 + 4 * a5 + 3)) (y := ck_pw b (9 * (3 - rm_ln (w 77) a5))) (a := 99) (b := ck_pw 19683 (3 - rm_ln (w 77) a5)) wb (by omega)
        have mp := ck_mlp (x := w 77 (1300 + 4 * a5 + 3)) (y := ck_pw b (9 * (3 - rm_ln (w 77) a5))) wb1 pb.1
        refine ⟨by constructor <;> omega, by omega, by omega, by omega, by constructor <;> omega, by omega, l3 (rm_ln (w 77) a5).toNat 0 _ (by omega) (by omega) (fun k x1 x2 x3 x4 x5 => by rw [ck_up_ne x5]; exact q4 k x1 x2 x3 x4 x5) (fun j hj => by rw [ck_up_nj hj]) (by rw [ck_up_ne (by decide)]) (Or.inr (by rw [ck_up_eq, Int.add_zero]; exact ⟨mp, mb.2⟩)) (fun _ k k0 k1 => by omega)⟩
      exact ⟨by omega, fun _ => fin _ (by omega), fun _ => fin _ (by omega)⟩
  have l1 : ∀ (m : Nat) (a4 : Int) (u : ck_W), 3 - a4 = m → 0 ≤ a4 → (∀ k, k ≠ 91 → k ≠ 92 → k ≠ 93 → k ≠ 94 → k ≠ 95 → u k = w k) → (∀ k, 0 ≤ k → k < a4 → -1 ≤ u 94 k ∧ u 94 k < 512) → (1 ≤ a4 → 0 ≤ u 94 0 → (0 ≤ a2 ∧ a2 ≤ 3) ∧ (0 ≤ a3 ∧ a3 ≤ 23)) → ck_At (ch_C g A R) (d + 6) mX12_join K 3 [some (.inr (.inr 76)), some (.inl a1), some (.inl a2), some (.inl a3), some (.inl a4), none, none, none] [] u := by
    intro m
    induction m with
    | zero =>
      intro a4 u q1 q2 q3 q4 q5
      exact r_X12_join_3 hC ⟨fun _ => l2 (w 77 5).toNat (-1) 0 u (by omega) (by omega) (by omega) q3 (fun k k0 k1 => by omega) (fun k k0 k1 => q4 k k0 (by omega)) (q5 (by omega)) (fun z => by omega), fun z => absurd (by omega) z⟩
    | succ m ih =>
      intro a4 u q1 q2 q3 q4 q5
      obtain ⟨su, e77⟩ := st u q3
      have nx : ∀ v (u' : ck_W), (∀ k, k ≠ 91 → k ≠ 92 → k ≠ 93 → u' k = u k) → (-1 ≤ v ∧ v < 512) → (a4 = 0 → 0 ≤ v → (0 ≤ a2 ∧ a2 ≤ 3) ∧ (0 ≤ a3 ∧ a3 ≤ 23)) → (0 ≤ a4 ∧ a4 < 3) ∧ ck_i (a4 + 1) ∧ ck_At (ch_C g A R) (d + 6) mX12_join K 3 [some (.inr (.inr 76)), some (.inl a1), some (.inl a2), some (.inl a3), some (.inl (a4 + 1)), none, none, none] [] (ck_up u' 94 a4 v) := by
        intro v u' b1 b2 b3
        refine ⟨by omega, by constructor <;> omega, ih _ _ (by omega) (by omega) (fun k x1 x2 x3 x4 x5 => by rw [ck_up_ne x4, b1 k x1 x2 x3]; exact q3 k x1 x2 x3 x4 x5) (fun k k0 k1 => ?_) (fun _ y => ?_)⟩
        · by_cases e : k = a4
          · subst e; rw [ck_up_eq]; exact b2
          · rw [ck_up_nj e, b1 94 (by decide) (by decide) (by decide)]; exact q4 k k0 (by omega)
        · by_cases e : a4 = 0
          · subst e; rw [ck_up_eq] at y; exact b3 rfl y
          · rw [ck_up_nj (by omega), b1 94 (by decide) (by decide) (by decide)] at y; exact q5 (by omega) y
      refine r_X12_join_3 hC ⟨fun z => absurd z (by omega), fun _ => S_X12_isBox hC su.2.1 (ck_rng _) (fun bx => ⟨_, rfl, fun _ => ⟨fun z => absurd z (by decide), fun _ => ?_⟩⟩) ⟨_, rfl, fun _ => ⟨fun _ => nx (-1) u (fun _ _ _ _ => rfl) (by omega) (fun _ z => by omega), fun z => absurd rfl z⟩⟩⟩
      refine S_X12_bitsAt hC ⟨rm_q_rf, su.2⟩ (by rw [e77]; exact h0) bx (fun v w' b1 b2 => ⟨_, rfl, fun _ => nx v w' b2 (by omega) (fun e _ => ?_)⟩)
      subst e
      rw [show a3 + 3 * 0 = a3 by omega, ck_wr_of hi3] at bx
      have th := (bx.2.2 a2 (by omega) (by omega)).1
      have pb := rm_pb hC su.2.1 (z := a2) bx.1.1 (by have := bx.1; omega)
      exact ⟨bx.1, bx.2.1, by omega⟩
  exact e_X12_join hC (l1 3 0 w (by omega) (by omega) (fun _ _ _ _ _ _ => rfl) (fun k k0 k1 => by omega) (fun z => by omega))
theorem dX12_wordOdds_0 : decode cX12_wordOdds 0 = .ok (.lconst 0, 1) := dk_9 (by decide +kernel)
theorem dX12_wordOdds_1 : decode cX12_wordOdds 1 = .ok (.lstore_n 2, 1) := dk_65 (by decide +kernel)
theorem dX12_wordOdds_2 : decode cX12_wordOdds 2 = .ok (.iconst 0, 1) := dk_3 (by decide +kernel)
theorem dX12_wordOdds_3 : decode cX12_wordOdds 3 = .ok (.istore 4, 2) := dk_54 (by decide +kernel)
theorem dX12_wordOdds_5 : decode cX12_wordOdds 5 = .ok (.iload 4, 2) := dk_21 (by decide +kernel)
theorem dX12_wordOdds_7 : decode cX12_wordOdds 7 = .ok (.aload_n 0, 1) := dk_42 (by decide +kernel)
theorem dX12_wordOdds_8 : decode cX12_wordOdds 8 = .ok (.getfield 7, 3) := dk_180 0 7 (by decide +kernel)
theorem dX12_wordOdds_11 : decode cX12_wordOdds 11 = .ok (.iconst 5, 1) := dk_8 (by decide +kernel)
theorem dX12_wordOdds_12 : decode cX12_wordOdds 12 = .ok (.iaload, 1) := dk_46 (by decide +kernel)
theorem dX12_wordOdds_13 : decode cX12_wordOdds 13 = .ok (.if_icmp .ge 31, 3) := dk_162 0 31 (by decide +kernel)
theorem dX12_wordOdds_16 : decode cX12_wordOdds 16 = .ok (.aload_n 0, 1) := dk_42 (by decide +kernel)
theorem dX12_wordOdds_17 : decode cX12_wordOdds 17 = .ok (.getfield 74, 3) := dk_180 0 74 (by decide +kernel)
theorem dX12_wordOdds_20 : decode cX12_wordOdds 20 = .ok (.iload 4, 2) := dk_21 (by decide +kernel)
theorem dX12_wordOdds_22 : decode cX12_wordOdds 22 = .ok (.laload, 1) := dk_47 (by decide +kernel)
theorem dX12_wordOdds_23 : decode cX12_wordOdds 23 = .ok (.lconst 0, 1) := dk_9 (by decide +kernel)
theorem dX12_wordOdds_24 : decode cX12_wordOdds 24 = .ok (.lcmp, 1) := dk_148 (by decide +kernel)
theorem dX12_wordOdds_25 : decode cX12_wordOdds 25 = .ok (.ifCond .le 13, 3) := dk_158 0 13 (by decide +kernel)
theorem dX12_wordOdds_28 : decode cX12_wordOdds 28 = .ok (.lload_n 2, 1) := dk_32 (by decide +kernel)
theorem dX12_wordOdds_29 : decode cX12_wordOdds 29 = .ok (.aload_n 0, 1) := dk_42 (by decide +kernel)
theorem dX12_wordOdds_30 : decode cX12_wordOdds 30 = .ok (.getfield 74, 3) := dk_180 0 74 (by decide +kernel)
theorem dX12_wordOdds_33 : decode cX12_wordOdds 33 = .ok (.iload 4, 2) := dk_21 (by decide +kernel)
theorem dX12_wordOdds_35 : decode cX12_wordOdds 35 = .ok (.laload, 1) := dk_47 (by decide +kernel)
theorem dX12_wordOdds_36 : decode cX12_wordOdds 36 = .ok (.ladd, 1) := dk_97 (by decide +kernel)
theorem dX12_wordOdds_37 : decode cX12_wordOdds 37 = .ok (.lstore_n 2, 1) := dk_65 (by decide +kernel)
theorem dX12_wordOdds_38 : decode cX12_wordOdds 38 = .ok (.iinc 4 1, 3) := dk_132 1 (by decide +kernel)
theorem dX12_wordOdds_41 : decode cX12_wordOdds 41 = .ok (.goto (-36), 3) := dk_167 255 220 (by decide +kernel)
theorem dX12_wordOdds_44 : decode cX12_wordOdds 44 = .ok (.aload_n 0, 1) := dk_42 (by decide +kernel)
theorem dX12_wordOdds_45 : decode cX12_wordOdds 45 = .ok (.getfield 74, 3) := dk_180 0 74 (by decide +kernel)
theorem dX12_wordOdds_48 : decode cX12_wordOdds 48 = .ok (.iload_n 1, 1) := dk_27 (by decide +kernel)
theorem dX12_wordOdds_49 : decode cX12_wordOdds 49 = .ok (.laload, 1) := dk_47 (by decide +kernel)
theorem dX12_wordOdds_50 : decode cX12_wordOdds 50 = .ok (.lconst 0, 1) := dk_9 (by decide +kernel)
theorem dX12_wordOdds_51 : decode cX12_wordOdds 51 = .ok (.lcmp, 1) := dk_148 (by decide +kernel)
theorem dX12_wordOdds_52 : decode cX12_wordOdds 52 = .ok (.ifCond .ge 7, 3) := dk_156 0 7 (by decide +kernel)
theorem dX12_wordOdds_55 : decode cX12_wordOdds 55 = .ok (.iconst (-1), 1) := dk_2 (by decide +kernel)
theorem dX12_wordOdds_56 : decode cX12_wordOdds 56 = .ok (.goto 16, 3) := dk_167 0 16 (by decide +kernel)
theorem dX12_wordOdds_59 : decode cX12_wordOdds 59 = .ok (.ldc2_w 358, 3) := dk_20 1 102 (by decide +kernel)
theorem dX12_wordOdds_62 : decode cX12_wordOdds 62 = .ok (.aload_n 0, 1) := dk_42 (by decide +kernel)
theorem dX12_wordOdds_63 : decode cX12_wordOdds 63 = .ok (.getfield 74, 3) := dk_180 0 74 (by decide +kernel)
theorem dX12_wordOdds_66 : decode cX12_wordOdds 66 = .ok (.iload_n 1, 1) := dk_27 (by decide +kernel)
theorem dX12_wordOdds_67 : decode cX12_wordOdds 67 = .ok (.laload, 1) := dk_47 (by decide +kernel)
theorem dX12_wordOdds_68 : decode cX12_wordOdds 68 = .ok (.lmul, 1) := dk_105 (by decide +kernel)
theorem dX12_wordOdds_69 : decode cX12_wordOdds 69 = .ok (.lload_n 2, 1) := dk_32 (by decide +kernel)
theorem dX12_wordOdds_70 : decode cX12_wordOdds 70 = .ok (.ldiv, 1) := dk_109 (by decide +kernel)
theorem dX12_wordOdds_71 : decode cX12_wordOdds 71 = .ok (.l2i, 1) := dk_136 (by decide +kernel)
theorem dX12_wordOdds_72 : decode cX12_wordOdds 72 = .ok (.ireturn, 1) := dk_172 (by decide +kernel)
set_option maxRecDepth 8000 in
theorem e_X12_wordOdds {g : ch_G} {A R : Nat} (hC : ck_Cx g A R) {d : Nat} {K : Option ck_V → ck_W → Prop} {w : ck_W} {a1 : Int} (h : ck_At (ch_C g A R) d mX12_wordOdds K 5 [some (.inr (.inr 76)), some (.inl a1), some (.inr (.inl 0)), none, some (.inl 0)] [] w) : ck_Ex (ch_C g A R) d mX12_wordOdds [.inr (.inr 76), .inl a1] w K :=
  ck_entry hC.1 [some (.inr (.inr 76)), some (.inl a1), none, none, none] (by decide) (Nat.le_of_ble_eq_true rfl) rfl (fun q => q) (ck_in (fun hl => (ck_lconst 1 rfl 0 dX12_wordOdds_0 rfl (ck_lstore_n 2 rfl 2 [some (.inr (.inr 76)), some (.inl a1), some (.inr (.inl 0)), none, none] dX12_wordOdds_1 rfl (Nat.le_of_ble_eq_true rfl) rfl rfl (show ck_l 0 by decide) (ck_iconst 3 rfl dX12_wordOdds_2 rfl (ck_istore 5 rfl [some (.inr (.inr 76)), some (.inl a1), some (.inr (.inl 0)), none, some (.inl 0)] dX12_wordOdds_3 (Nat.le_of_ble_eq_true rfl) rfl rfl (show ck_i 0 by decide) h))))))
set_option maxRecDepth 8000 in
theorem r_X12_wordOdds_5 {g : ch_G} {A R : Nat} (hC : ck_Cx g A R) {d : Nat} {K : Option ck_V → ck_W → Prop} {w : ck_W} {a1 a2 a4 : Int} (h : ((w 77 5) ≤ a4 → (0 ≤ a1 ∧ a1 < 12) ∧ ((0 ≤ (w 95 a1) → ck_l (1000 * (w 95 a1)) ∧ ((¬ a2 = 0) ∧ (ck_i ((1000 * (w 95 a1)).tdiv a2) ∧ (K (some (.inl ((1000 * (w 95 a1)).tdiv a2))) w)))) ∧ (¬ 0 ≤ (w 95 a1) → K (some (.inl (-1))) w))) ∧ (¬ (w 77 5) ≤ a4 → (0 ≤ a4 ∧ a4 < 12) ∧ (((w 95 a4) ≤ 0 → ck_i (a4 + 1) ∧ (ck_At (ch_C g A R) d mX12_wordOdds K 5 [some (.inr (.inr 76)), some (.inl a1), some (.inr (.inl a2)), none, some (.inl (a4 + 1))] [] w)) ∧ (¬ (w 95 a4) ≤ 0 → ck_l (a2 + (w 95 a4)) ∧ (ck_i (a4 + 1) ∧ (ck_At (ch_C g A R) d mX12_wordOdds K 5 [some (.inr (.inr 76)), some (.inl a1), some (.inr (.inl (a2 + (w 95 a4)))), none, some (.inl (a4 + 1))] [] w)))))) : ck_At (ch_C g A R) d mX12_wordOdds K 5 [some (.inr (.inr 76)), some (.inl a1), some (.inr (.inl a2)), none, some (.inl a4)] [] w :=
  ck_in (fun hl => (ck_iload 7 rfl dX12_wordOdds_5 rfl (ck_aload_n 8 rfl 0 dX12_wordOdds_7 rfl rfl (ck_getr 11 rfl dX12_wordOdds_8 fl_X12_7 sh_76 rfl (ck_iconst 12 rfl dX12_wordOdds_11 rfl (ck_iald 13 rfl dX12_wordOdds_12 sh_77 (shn_77 hC) (by decide) _ rfl (fun (q1 : ck_i (w 77 5)) => (ck_icmp_ge 16 rfl 44 dX12_wordOdds_13 rfl hl.2.2.2.1 q1 (fun c18 => (ck_aload_n 45 rfl 0 dX12_wordOdds_44 rfl rfl (ck_getr 48 rfl dX12_wordOdds_45 fl_X12_74 sh_76 rfl (ck_iload_n 49 rfl 1 dX12_wordOdds_48 rfl rfl (have h21 := (h.1 c18); have o2 := h21.1; have h20 := h21.2; (ck_lald 50 rfl dX12_wordOdds_49 sh_95 (shn_95 hC) o2 _ rfl (fun (q3 : ck_l (w 95 a1)) => (ck_lconst 51 rfl 0 dX12_wordOdds_50 rfl (ck_lcmp 52 rfl dX12_wordOdds_51 q3 (show ck_l 0 by decide) (ck_if_ge 55 rfl 59 dX12_wordOdds_52 rfl ck_cmp_i (fun q => have c8 : 0 ≤ (w 95 a1) := (ck_cmp_ge.mp q); (ck_ldc2 62 rfl 1000 kl_X12_358 dX12_wordOdds_59 rfl (ck_aload_n 63 rfl 0 dX12_wordOdds_62 rfl rfl (ck_getr 66 rfl dX12_wordOdds_63 fl_X12_74 sh_76 rfl (ck_iload_n 67 rfl 1 dX12_wordOdds_66 rfl rfl (ck_lald 68 rfl dX12_wordOdds_67 sh_95 (shn_95 hC) o2 _ rfl (fun (q4 : ck_l (w 95 a1)) => (ck_lmul 69 rfl dX12_wordOdds_68 (ck_lload_n 70 rfl 2 dX12_wordOdds_69 rfl rfl (have h23 := (h20.1 c8); have o5 := h23.1; have h22 := h23.2; (have h25 := h22; have o6 := h25.1; have h24 := h25.2; (ck_ldiv 71 rfl dX12_wordOdds_70 o5 hl.2.2.1 o6 (ck_l2i 72 rfl dX12_wordOdds_71 (have h27 := h24; have o7 := h27.1; have h26 := h27.2; (ck_iret dX12_wordOdds_72 rfl o7 h26))))))))))))))) (fun q => have c9 : ¬ 0 ≤ (w 95 a1) := (fun r => q (ck_cmp_ge.mpr r)); (ck_iconst 56 rfl dX12_wordOdds_55 rfl (ck_goto 72 dX12_wordOdds_56 rfl (ck_iret dX12_wordOdds_72 rfl (show ck_i (-1) by decide) (h20.2 c9))))))))))))))) (fun c19 => (ck_aload_n 17 rfl 0 dX12_wordOdds_16 rfl rfl (ck_getr 20 rfl dX12_wordOdds_17 fl_X12_74 sh_76 rfl (ck_iload 22 rfl dX12_wordOdds_20 rfl (have h29 := (h.2 c19); have o10 := h29.1; have h28 := h29.2; (ck_lald 23 rfl dX12_wordOdds_22 sh_95 (shn_95 hC) o10 _ rfl (fun (q11 : ck_l (w 95 a4)) => (ck_lconst 24 rfl 0 dX12_wordOdds_23 rfl (ck_lcmp 25 rfl dX12_wordOdds_24 q11 (show ck_l 0 by decide) (ck_if_le 28 rfl 38 dX12_wordOdds_25 rfl ck_cmp_i (fun q => have c16 : (w 95 a4) ≤ 0 := (ck_cmp_le.mp q); (have h31 := (h28.1 c16); have o12 := h31.1; have h30 := h31.2; (ck_iinc 41 rfl [some (.inr (.inr 76)), some (.inl a1), some (.inr (.inl a2)), none, some (.inl (a4 + 1))] dX12_wordOdds_38 rfl (Nat.le_of_ble_eq_true rfl) rfl rfl o12 (ck_goto 5 dX12_wordOdds_41 rfl h30)))) (fun q => have c17 : ¬ (w 95 a4) ≤ 0 := (fun r => q (ck_cmp_le.mpr r)); (ck_lload_n 29 rfl 2 dX12_wordOdds_28 rfl rfl (ck_aload_n 30 rfl 0 dX12_wordOdds_29 rfl rfl (ck_getr 33 rfl dX12_wordOdds_30 fl_X12_74 sh_76 rfl (ck_iload 35 rfl dX12_wordOdds_33 rfl (ck_lald 36 rfl dX12_wordOdds_35 sh_95 (shn_95 hC) o10 _ rfl (fun (q13 : ck_l (w 95 a4)) => (ck_ladd 37 rfl dX12_wordOdds_36 (have h33 := (h28.2 c17); have o14 := h33.1; have h32 := h33.2; (ck_lstore_n 38 rfl 2 [some (.inr (.inr 76)), some (.inl a1), some (.inr (.inl (a2 + (w 95 a4)))), none, some (.inl a4)] dX12_wordOdds_37 rfl (Nat.le_of_ble_eq_true rfl) rfl rfl o14 (have h35 := h32; have o15 := h35.1; have h34 := h35.2; (ck_iinc 41 rfl [some (.inr (.inr 76)), some (.inl a1), some (.inr (.inl (a2 + (w 95 a4)))), none, some (.inl (a4 + 1))] dX12_wordOdds_38 rfl (Nat.le_of_ble_eq_true rfl) rfl rfl o15 (ck_goto 5 dX12_wordOdds_41 rfl h34)))))))))))))))))))))))))))))))
theorem S_X12_wordOdds {g : ch_G} {A R : Nat} (hC : ck_Cx g A R) {d : Nat} {K : Option ck_V → ck_W → Prop} {w : ck_W} {a1 : Int} (hI : rm_I A R w) (h1 : 0 ≤ a1 ∧ a1 < w 77 5) (hc : rm_wc (w 77 5) w) (h : ∀ v, (-1 ≤ v ∧ v ≤ 1000) → K (some (.inl v)) w) : ck_Ex (ch_C g A R) d mX12_wordOdds [.inr (.inr 76), .inl a1] w K := by
  have f0 := rm_c0 hI.2.2.2.1
  have l : ∀ (m : Nat) (a2 a4 : Int), w 77 5 - a4 = m → 0 ≤ a4 → (0 ≤ a2 ∧ a2 ≤ 754934151013713 * a4) → (a1 < a4 → 0 ≤ w 95 a1 → w 95 a1 ≤ a2) → ck_At (ch_C g A R) d mX12_wordOdds K 5 [some (.inr (.inr 76)), some (.inl a1), some (.inr (.inl a2)), none, some (.inl a4)] [] w := by
    intro m
    induction m with
    | zero =>
      intro a2 a4 q1 q2 q3 q4
      have c1 := hc a1 h1.1 h1.2
      refine r_X12_wordOdds_5 hC ⟨fun _ => ⟨by omega, fun z => ?_, fun z => h (-1) (by omega)⟩, fun z => absurd (by omega) z⟩
      have le := q4 (by omega) z
      have tb : 0 ≤ (1000 * w 95 a1).tdiv a2 ∧ (1000 * w 95 a1).tdiv a2 ≤ 1000 := by
        rw [Int.tdiv_eq_ediv_of_nonneg (by omega)]
        refine ⟨Int.ediv_nonneg (by omega) (by omega), ?_⟩
        have : (1000 * w 95 a1) / a2 ≤ (1000 * a2) / a2 := Int.ediv_le_ediv (by omega) (by omega)
        rw [Int.mul_ediv_cancel _ (by omega)] at this
        exact this
      exact ⟨by constructor <;> omega, by omega, by constructor <;> omega, h _ (by omega)⟩
    | succ m ih =>
      intro a2 a4 q1 q2 q3 q4
      have c4 := hc a4 q2 (by omega)
      refine r_X12_wordOdds_5 hC ⟨fun z => absurd z (by omega), fun _ => ⟨by omega, fun z => ⟨by constructor <;> omega, ih _ _ (by omega) (by omega) (by omega) (fun y y2 => ?_)⟩, fun z => ⟨by constructor <;> omega, by constructor <;> omega, ih _ _ (by omega) (by omega) (by omega) (fun y y2 => ?_)⟩⟩⟩
      · by_cases e : a1 = a4
        · subst e; omega
        · exact q4 (by omega) y2
      · by_cases e : a1 = a4
        · subst e; omega
        · have := q4 (by omega) y2; omega
  exact e_X12_wordOdds hC (l (w 77 5).toNat 0 0 (by omega) (by omega) (by omega) (fun y => by omega))
theorem dX12_joined_0 : decode cX12_joined 0 = .ok (.aload_n 0, 1) := dk_42 (by decide +kernel)
theorem dX12_joined_1 : decode cX12_joined 1 = .ok (.iload_n 1, 1) := dk_27 (by decide +kernel)
theorem dX12_joined_2 : decode cX12_joined 2 = .ok (.invokevirtual 330, 3) := dk_182 1 74 (by decide +kernel)
theorem dX12_joined_5 : decode cX12_joined 5 = .ok (.ifCond .eq 32, 3) := dk_153 0 32 (by decide +kernel)
theorem dX12_joined_8 : decode cX12_joined 8 = .ok (.iload 4, 2) := dk_21 (by decide +kernel)
theorem dX12_joined_10 : decode cX12_joined 10 = .ok (.iconst 0, 1) := dk_3 (by decide +kernel)
theorem dX12_joined_11 : decode cX12_joined 11 = .ok (.iconst 1, 1) := dk_4 (by decide +kernel)
theorem dX12_joined_12 : decode cX12_joined 12 = .ok (.invokestatic 93, 3) := dk_184 0 93 (by decide +kernel)
theorem dX12_joined_15 : decode cX12_joined 15 = .ok (.ifCond .ne 24, 3) := dk_154 0 24 (by decide +kernel)
theorem dX12_joined_18 : decode cX12_joined 18 = .ok (.iload 4, 2) := dk_21 (by decide +kernel)
theorem dX12_joined_20 : decode cX12_joined 20 = .ok (.bipush 100, 2) := dk_16 100 (by decide +kernel)
theorem dX12_joined_22 : decode cX12_joined 22 = .ok (.bipush 99, 2) := dk_16 99 (by decide +kernel)
theorem dX12_joined_24 : decode cX12_joined 24 = .ok (.aload_n 0, 1) := dk_42 (by decide +kernel)
theorem dX12_joined_25 : decode cX12_joined 25 = .ok (.getfield 7, 3) := dk_180 0 7 (by decide +kernel)
theorem dX12_joined_28 : decode cX12_joined 28 = .ok (.iconst 5, 1) := dk_8 (by decide +kernel)
theorem dX12_joined_29 : decode cX12_joined 29 = .ok (.iaload, 1) := dk_46 (by decide +kernel)
theorem dX12_joined_30 : decode cX12_joined 30 = .ok (.iadd, 1) := dk_96 (by decide +kernel)
theorem dX12_joined_31 : decode cX12_joined 31 = .ok (.invokestatic 93, 3) := dk_184 0 93 (by decide +kernel)
theorem dX12_joined_34 : decode cX12_joined 34 = .ok (.ifCond .ne 5, 3) := dk_154 0 5 (by decide +kernel)
theorem dX12_joined_37 : decode cX12_joined 37 = .ok (.iconst (-1), 1) := dk_2 (by decide +kernel)
theorem dX12_joined_38 : decode cX12_joined 38 = .ok (.ireturn, 1) := dk_172 (by decide +kernel)
theorem dX12_joined_39 : decode cX12_joined 39 = .ok (.aload_n 0, 1) := dk_42 (by decide +kernel)
theorem dX12_joined_40 : decode cX12_joined 40 = .ok (.invokevirtual 171, 3) := dk_182 0 171 (by decide +kernel)
theorem dX12_joined_43 : decode cX12_joined 43 = .ok (.aload_n 0, 1) := dk_42 (by decide +kernel)
theorem dX12_joined_44 : decode cX12_joined 44 = .ok (.iload_n 1, 1) := dk_27 (by decide +kernel)
theorem dX12_joined_45 : decode cX12_joined 45 = .ok (.iload_n 2, 1) := dk_28 (by decide +kernel)
theorem dX12_joined_46 : decode cX12_joined 46 = .ok (.iload_n 3, 1) := dk_29 (by decide +kernel)
theorem dX12_joined_47 : decode cX12_joined 47 = .ok (.invokevirtual 374, 3) := dk_182 1 118 (by decide +kernel)
theorem dX12_joined_50 : decode cX12_joined 50 = .ok (.istore 5, 2) := dk_54 (by decide +kernel)
theorem dX12_joined_52 : decode cX12_joined 52 = .ok (.iload 5, 2) := dk_21 (by decide +kernel)
theorem dX12_joined_54 : decode cX12_joined 54 = .ok (.ifCond .ge 5, 3) := dk_156 0 5 (by decide +kernel)
theorem dX12_joined_57 : decode cX12_joined 57 = .ok (.iconst (-1), 1) := dk_2 (by decide +kernel)
theorem dX12_joined_58 : decode cX12_joined 58 = .ok (.ireturn, 1) := dk_172 (by decide +kernel)
theorem dX12_joined_59 : decode cX12_joined 59 = .ok (.iload 4, 2) := dk_21 (by decide +kernel)
theorem dX12_joined_61 : decode cX12_joined 61 = .ok (.ifCond .ne 8, 3) := dk_154 0 8 (by decide +kernel)
theorem dX12_joined_64 : decode cX12_joined 64 = .ok (.iload 5, 2) := dk_21 (by decide +kernel)
theorem dX12_joined_66 : decode cX12_joined 66 = .ok (.goto 23, 3) := dk_167 0 23 (by decide +kernel)
theorem dX12_joined_69 : decode cX12_joined 69 = .ok (.aload_n 0, 1) := dk_42 (by decide +kernel)
theorem dX12_joined_70 : decode cX12_joined 70 = .ok (.iload 4, 2) := dk_21 (by decide +kernel)
theorem dX12_joined_72 : decode cX12_joined 72 = .ok (.iconst 1, 1) := dk_4 (by decide +kernel)
theorem dX12_joined_73 : decode cX12_joined 73 = .ok (.if_icmp .ne 8, 3) := dk_160 0 8 (by decide +kernel)
theorem dX12_joined_76 : decode cX12_joined 76 = .ok (.iload 5, 2) := dk_21 (by decide +kernel)
theorem dX12_joined_78 : decode cX12_joined 78 = .ok (.goto 8, 3) := dk_167 0 8 (by decide +kernel)
theorem dX12_joined_81 : decode cX12_joined 81 = .ok (.iload 4, 2) := dk_21 (by decide +kernel)
theorem dX12_joined_83 : decode cX12_joined 83 = .ok (.bipush 100, 2) := dk_16 100 (by decide +kernel)
theorem dX12_joined_85 : decode cX12_joined 85 = .ok (.isub, 1) := dk_100 (by decide +kernel)
theorem dX12_joined_86 : decode cX12_joined 86 = .ok (.invokevirtual 377, 3) := dk_182 1 121 (by decide +kernel)
theorem dX12_joined_89 : decode cX12_joined 89 = .ok (.ireturn, 1) := dk_172 (by decide +kernel)
set_option maxRecDepth 8000 in
theorem e_X12_joined {g : ch_G} {A R : Nat} (hC : ck_Cx g A R) {d : Nat} {K : Option ck_V → ck_W → Prop} {w : ck_W} {a1 a2 a3 a4 : Int} (h : (0 ≤ (w 77 0) ∧ (w 77 0) ≤ 1000) ∧ ((0 ≤ a1 ∧ a1 ≤ (w 77 0) - 1 → (0 ≤ a4 ∧ a4 ≤ 1 → ck_At (ch_C g A R) (d + 2) mX12_joined K 39 [some (.inr (.inr 76)), some (.inl a1), some (.inl a2), some (.inl a3), some (.inl a4), none] [] w) ∧ (¬ (0 ≤ a4 ∧ a4 ≤ 1) → ck_i (99 + (w 77 5)) ∧ ((100 ≤ a4 ∧ a4 ≤ (99 + (w 77 5)) → ck_At (ch_C g A R) (d + 2) mX12_joined K 39 [some (.inr (.inr 76)), some (.inl a1), some (.inl a2), some (.inl a3), some (.inl a4), none] [] w) ∧ (¬ (100 ≤ a4 ∧ a4 ≤ (99 + (w 77 5))) → K (some (.inl (-1))) w)))) ∧ (¬ (0 ≤ a1 ∧ a1 ≤ (w 77 0) - 1) → K (some (.inl (-1))) w))) : ck_Ex (ch_C g A R) (d + 2) mX12_joined [.inr (.inr 76), .inl a1, .inl a2, .inl a3, .inl a4] w K :=
  ck_entry hC.1 [some (.inr (.inr 76)), some (.inl a1), some (.inl a2), some (.inl a3), some (.inl a4), none] (by decide) (Nat.le_of_ble_eq_true rfl) rfl (fun q => q) (ck_in (fun hl => (ck_aload_n 1 rfl 0 dX12_joined_0 rfl rfl (ck_iload_n 2 rfl 1 dX12_joined_1 rfl rfl (have h14 := h; have o1 := h14.1; have h13 := h14.2; (have h12 := h13; ck_callV 5 rfl [.inl a1] [] dX12_joined_2 cv_X12_330 sh_76 rfl rfl (Nat.le_of_ble_eq_true rfl) (And.intro hl.2.1 True.intro) (p_X12_isReader hC o1 (fun c10 _ => (ck_if_eq 8 rfl 37 dX12_joined_5 rfl (by decide) (fun q => absurd q (by decide)) (fun _ => (ck_iload 10 rfl dX12_joined_8 rfl (ck_iconst 11 rfl dX12_joined_10 rfl (ck_iconst 12 rfl dX12_joined_11 rfl (have h9 := (h12.1 c10); ck_callS 15 rfl [.inl a4, .inl 0, .inl 1] [] dX12_joined_12 cs_X12_93 rfl rfl (Nat.le_of_ble_eq_true rfl) (And.intro hl.2.2.2.2.1 (And.intro (show ck_i 0 by decide) (And.intro (show ck_i 1 by decide) True.intro))) (p_X12_isIn hC (fun c7 _ => (ck_if_ne 18 rfl 39 dX12_joined_15 rfl (by decide) (fun _ => (h9.1 c7)) (fun q => absurd q (by decide)))) (fun c8 _ => (ck_if_ne 18 rfl 39 dX12_joined_15 rfl (by decide) (fun q => absurd q (by decide)) (fun _ => (ck_iload 20 rfl dX12_joined_18 rfl (ck_bipush 22 rfl dX12_joined_20 rfl (ck_bipush 24 rfl dX12_joined_22 rfl (ck_aload_n 25 rfl 0 dX12_joined_24 rfl rfl (ck_getr 28 rfl dX12_joined_25 fl_X12_7 sh_76 rfl (ck_iconst 29 rfl dX12_joined_28 rfl (ck_iald 30 rfl dX12_joined_29 sh_77 (shn_77 hC) (by decide) _ rfl (fun (q2 : ck_i (w 77 5)) => (ck_iadd 31 rfl dX12_joined_30 (have h16 := (h9.2 c8); have o3 := h16.1; have h15 := h16.2; (have h6 := h15; ck_callS 34 rfl [.inl a4, .inl 100, .inl (99 + (w 77 5))] [] dX12_joined_31 cs_X12_93 rfl rfl (Nat.le_of_ble_eq_true rfl) (And.intro hl.2.2.2.2.1 (And.intro (show ck_i 100 by decide) (And.intro o3 True.intro))) (p_X12_isIn hC (fun c4 _ => (ck_if_ne 37 rfl 39 dX12_joined_34 rfl (by decide) (fun _ => (h6.1 c4)) (fun q => absurd q (by decide)))) (fun c5 _ => (ck_if_ne 37 rfl 39 dX12_joined_34 rfl (by decide) (fun q => absurd q (by decide)) (fun _ => (ck_iconst 38 rfl dX12_joined_37 rfl (ck_iret dX12_joined_38 rfl (show ck_i (-1) by decide) (h6.2 c5))))))))))))))))))))))))))))) (fun c11 _ => (ck_if_eq 8 rfl 37 dX12_joined_5 rfl (by decide) (fun _ => (ck_iconst 38 rfl dX12_joined_37 rfl (ck_iret dX12_joined_38 rfl (show ck_i (-1) by decide) (h12.2 c11)))) (fun q => absurd q (by decide)))))))))))
set_option maxRecDepth 8000 in
theorem r_X12_joined_39 {g : ch_G} {A R : Nat} (hC : ck_Cx g A R) {d : Nat} {K : Option ck_V → ck_W → Prop} {w : ck_W} {a1 a2 a3 a4 : Int} (h : ck_CN (ch_C g A R) (d + 1) mX12_windAll [.inr (.inr 76)] w (fun w1 => ck_CI (ch_C g A R) (d + 1) mX12_join [.inr (.inr 76), .inl a1, .inl a2, .inl a3] w1 (fun v3 w2 => (0 ≤ v3 → (¬ a4 = 0 → (¬ a4 = 1 → ck_i (a4 - 100) ∧ (ck_CI (ch_C g A R) (d + 1) mX12_wordOdds [.inr (.inr 76), .inl (a4 - 100)] w2 (fun v8 w7 => K (some (.inl v8)) w7))) ∧ (a4 = 1 → ck_CI (ch_C g A R) (d + 1) mX12_wordOdds [.inr (.inr 76), .inl v3] w2 (fun v12 w11 => K (some (.inl v12)) w11))) ∧ (a4 = 0 → K (some (.inl v3)) w2)) ∧ (¬ 0 ≤ v3 → K (some (.inl (-1))) w2)))) : ck_At (ch_C g A R) (d + 2) mX12_joined K 39 [some (.inr (.inr 76)), some (.inl a1), some (.inl a2), some (.inl a3), some (.inl a4), none] [] w :=
  ck_in (fun hl => (ck_aload_n 40 rfl 0 dX12_joined_39 rfl rfl (ck_callV 43 rfl [] [] dX12_joined_40 cv_X12_171 sh_76 rfl rfl (Nat.le_of_ble_eq_true rfl) True.intro (ck_mN h (fun w1 h21 => (ck_aload_n 44 rfl 0 dX12_joined_43 rfl rfl (ck_iload_n 45 rfl 1 dX12_joined_44 rfl rfl (ck_iload_n 46 rfl 2 dX12_joined_45 rfl rfl (ck_iload_n 47 rfl 3 dX12_joined_46 rfl rfl (ck_callV 50 rfl [.inl a1, .inl a2, .inl a3] [] dX12_joined_47 cv_X12_374 sh_76 rfl rfl (Nat.le_of_ble_eq_true rfl) (And.intro hl.2.1 (And.intro hl.2.2.1 (And.intro hl.2.2.2.1 True.intro))) (ck_mI h21 (fun v3 w2 q4 h5 => (ck_istore 52 rfl [some (.inr (.inr 76)), some (.inl a1), some (.inl a2), some (.inl a3), some (.inl a4), some (.inl v3)] dX12_joined_50 (Nat.le_of_ble_eq_true rfl) rfl rfl q4 (ck_iload 54 rfl dX12_joined_52 rfl (ck_if_ge 57 rfl 59 dX12_joined_54 rfl q4 (fun c19 => (ck_iload 61 rfl dX12_joined_59 rfl (have h22 := (h5.1 c19); (ck_if_ne 64 rfl 69 dX12_joined_61 rfl hl.2.2.2.2.1 (fun c17 => (ck_aload_n 70 rfl 0 dX12_joined_69 rfl rfl (ck_iload 72 rfl dX12_joined_70 rfl (ck_iconst 73 rfl dX12_joined_72 rfl (have h23 := (h22.1 c17); (ck_icmp_ne 76 rfl 81 dX12_joined_73 rfl hl.2.2.2.2.1 (show ck_i 1 by decide) (fun c15 => (ck_iload 83 rfl dX12_joined_81 rfl (ck_bipush 85 rfl dX12_joined_83 rfl (ck_isub 86 rfl dX12_joined_85 (have h25 := (h23.1 c15); have o6 := h25.1; have h24 := h25.2; (ck_callV 89 rfl [.inl (a4 - 100)] [] dX12_joined_86 cv_X12_377 sh_76 rfl rfl (Nat.le_of_ble_eq_true rfl) (And.intro o6 True.intro) (ck_mI h24 (fun v8 w7 q9 h10 => (ck_iret dX12_joined_89 rfl q9 h10))))))))) (fun c16 => (ck_iload 78 rfl dX12_joined_76 rfl (ck_goto 86 dX12_joined_78 rfl (ck_callV 89 rfl [.inl v3] [] dX12_joined_86 cv_X12_377 sh_76 rfl rfl (Nat.le_of_ble_eq_true rfl) (And.intro q4 True.intro) (ck_mI (h23.2 c16) (fun v12 w11 q13 h14 => (ck_iret dX12_joined_89 rfl q13 h14))))))))))))) (fun c18 => (ck_iload 66 rfl dX12_joined_64 rfl (ck_goto 89 dX12_joined_66 rfl (ck_iret dX12_joined_89 rfl q4 (h22.2 c18))))))))) (fun c20 => (ck_iconst 58 rfl dX12_joined_57 rfl (ck_iret dX12_joined_58 rfl (show ck_i (-1) by decide) (h5.2 c20)))))))))))))))))))
theorem M_joined {g : ch_G} {A R : Nat} (hC : ck_Cx g A R) {d : Nat} {K : Option ck_V → ck_W → Prop} {w : ck_W} {a1 a2 a3 a4 : Int} (hI : rm_I A R w) (h : ∀ v w', rm_q w w' → K (some (.inl v)) w') : ck_Ex (ch_C g A R) (d + 7) mX12_joined [.inr (.inr 76), .inl a1, .inl a2, .inl a3, .inl a4] w K := by
  refine ck_exi (fun ha => ?_)
  have f0 := rm_c0 hI.2.2.2.1
  have i3 : ck_i a3 := ha.2.2.2.1
  have main : (0 ≤ a1 ∧ a1 ≤ w 77 0 - 1) → (0 ≤ a4 ∧ a4 ≤ 1) ∨ (100 ≤ a4 ∧ a4 ≤ 99 + w 77 5) → ck_At (ch_C g A R) (d + 7) mX12_joined K 39 [some (.inr (.inr 76)), some (.inl a1), some (.inl a2), some (.inl a3), some (.inl a4), none] [] w := fun q1 q3 => by
    refine r_X12_joined_39 hC (S_X12_windAll hC hI (fun w1 i1 i2 => ⟨rfl, ?_⟩))
    have s1 : rm_st A R w w1 := ⟨rm_q_wf i1, rm_I_q hI (rm_q_wf i1), rm_wa_of hC hI i1 i2⟩
    have e77 := s1.1.2.1
    refine S_X12_join hC ⟨rm_q_rf, s1.2⟩ (by rw [e77]; omega) i3 (fun v w2 b1 b2 b3 b4 b5 => ⟨_, rfl, fun _ => ?_⟩)
    have q2 := rm_q_tr s1.1 b1.1
    have e772 := q2.2.1
    rw [e77] at b3 b4
    have od : ∀ k, (0 ≤ k ∧ k < w 77 5) → ck_CI (ch_C g A R) (d + 6) mX12_wordOdds [.inr (.inr 76), .inl k] w2 (fun v9 w8 => K (some (.inl v9)) w8) := fun k hk => S_X12_wordOdds hC b1.2.1 (by rw [e772]; exact hk) (by rw [e772]; exact b4) (fun v _ => ⟨_, rfl, fun _ => h _ _ q2⟩)
    exact ⟨fun z => ⟨fun _ => ⟨fun _ => ⟨by constructor <;> omega, od _ (by omega)⟩, fun _ => od _ (by omega)⟩, fun _ => h _ _ q2⟩, fun _ => h _ _ q2⟩
  exact e_X12_joined hC ⟨by omega, fun q1 => ⟨fun q2 => main q1 (Or.inl q2), fun q2 => ⟨by constructor <;> omega, fun q3 => main q1 (Or.inr q3), fun _ => h _ _ rm_q_rf⟩⟩, fun _ => h _ _ rm_q_rf⟩
theorem dX12_isTaught_0 : decode cX12_isTaught 0 = .ok (.iconst 0, 1) := dk_3 (by decide +kernel)
theorem dX12_isTaught_1 : decode cX12_isTaught 1 = .ok (.istore 5, 2) := dk_54 (by decide +kernel)
theorem dX12_isTaught_3 : decode cX12_isTaught 3 = .ok (.iload 5, 2) := dk_21 (by decide +kernel)
theorem dX12_isTaught_5 : decode cX12_isTaught 5 = .ok (.aload_n 0, 1) := dk_42 (by decide +kernel)
theorem dX12_isTaught_6 : decode cX12_isTaught 6 = .ok (.getfield 7, 3) := dk_180 0 7 (by decide +kernel)
theorem dX12_isTaught_9 : decode cX12_isTaught 9 = .ok (.iconst 3, 1) := dk_6 (by decide +kernel)
theorem dX12_isTaught_10 : decode cX12_isTaught 10 = .ok (.iaload, 1) := dk_46 (by decide +kernel)
theorem dX12_isTaught_11 : decode cX12_isTaught 11 = .ok (.if_icmp .ge 88, 3) := dk_162 0 88 (by decide +kernel)
theorem dX12_isTaught_14 : decode cX12_isTaught 14 = .ok (.sipush 1010, 3) := dk_17 3 242 (by decide +kernel)
theorem dX12_isTaught_17 : decode cX12_isTaught 17 = .ok (.iconst 4, 1) := dk_7 (by decide +kernel)
theorem dX12_isTaught_18 : decode cX12_isTaught 18 = .ok (.iload 5, 2) := dk_21 (by decide +kernel)
theorem dX12_isTaught_20 : decode cX12_isTaught 20 = .ok (.imul, 1) := dk_104 (by decide +kernel)
theorem dX12_isTaught_21 : decode cX12_isTaught 21 = .ok (.iadd, 1) := dk_96 (by decide +kernel)
theorem dX12_isTaught_22 : decode cX12_isTaught 22 = .ok (.istore 6, 2) := dk_54 (by decide +kernel)
theorem dX12_isTaught_24 : decode cX12_isTaught 24 = .ok (.aload_n 0, 1) := dk_42 (by decide +kernel)
theorem dX12_isTaught_25 : decode cX12_isTaught 25 = .ok (.getfield 7, 3) := dk_180 0 7 (by decide +kernel)
theorem dX12_isTaught_28 : decode cX12_isTaught 28 = .ok (.iload 6, 2) := dk_21 (by decide +kernel)
theorem dX12_isTaught_30 : decode cX12_isTaught 30 = .ok (.iaload, 1) := dk_46 (by decide +kernel)
theorem dX12_isTaught_31 : decode cX12_isTaught 31 = .ok (.iload_n 2, 1) := dk_28 (by decide +kernel)
theorem dX12_isTaught_32 : decode cX12_isTaught 32 = .ok (.iload_n 2, 1) := dk_28 (by decide +kernel)
theorem dX12_isTaught_33 : decode cX12_isTaught 33 = .ok (.iconst 2, 1) := dk_5 (by decide +kernel)
theorem dX12_isTaught_34 : decode cX12_isTaught 34 = .ok (.iadd, 1) := dk_96 (by decide +kernel)
theorem dX12_isTaught_35 : decode cX12_isTaught 35 = .ok (.invokestatic 93, 3) := dk_184 0 93 (by decide +kernel)
theorem dX12_isTaught_38 : decode cX12_isTaught 38 = .ok (.ifCond .eq 55, 3) := dk_153 0 55 (by decide +kernel)
theorem dX12_isTaught_41 : decode cX12_isTaught 41 = .ok (.aload_n 0, 1) := dk_42 (by decide +kernel)
theorem dX12_isTaught_42 : decode cX12_isTaught 42 = .ok (.getfield 7, 3) := dk_180 0 7 (by decide +kernel)
theorem dX12_isTaught_45 : decode cX12_isTaught 45 = .ok (.iload 6, 2) := dk_21 (by decide +kernel)
theorem dX12_isTaught_47 : decode cX12_isTaught 47 = .ok (.iconst 1, 1) := dk_4 (by decide +kernel)
theorem dX12_isTaught_48 : decode cX12_isTaught 48 = .ok (.iadd, 1) := dk_96 (by decide +kernel)
theorem dX12_isTaught_49 : decode cX12_isTaught 49 = .ok (.iaload, 1) := dk_46 (by decide +kernel)
theorem dX12_isTaught_50 : decode cX12_isTaught 50 = .ok (.iload_n 3, 1) := dk_29 (by decide +kernel)
theorem dX12_isTaught_51 : decode cX12_isTaught 51 = .ok (.iload_n 3, 1) := dk_29 (by decide +kernel)
theorem dX12_isTaught_52 : decode cX12_isTaught 52 = .ok (.iconst 3, 1) := dk_6 (by decide +kernel)
theorem dX12_isTaught_53 : decode cX12_isTaught 53 = .ok (.iload 4, 2) := dk_21 (by decide +kernel)
theorem dX12_isTaught_55 : decode cX12_isTaught 55 = .ok (.imul, 1) := dk_104 (by decide +kernel)
theorem dX12_isTaught_56 : decode cX12_isTaught 56 = .ok (.iadd, 1) := dk_96 (by decide +kernel)
theorem dX12_isTaught_57 : decode cX12_isTaught 57 = .ok (.iconst 1, 1) := dk_4 (by decide +kernel)
theorem dX12_isTaught_58 : decode cX12_isTaught 58 = .ok (.isub, 1) := dk_100 (by decide +kernel)
theorem dX12_isTaught_59 : decode cX12_isTaught 59 = .ok (.invokestatic 93, 3) := dk_184 0 93 (by decide +kernel)
theorem dX12_isTaught_62 : decode cX12_isTaught 62 = .ok (.ifCond .eq 31, 3) := dk_153 0 31 (by decide +kernel)
theorem dX12_isTaught_65 : decode cX12_isTaught 65 = .ok (.aload_n 0, 1) := dk_42 (by decide +kernel)
theorem dX12_isTaught_66 : decode cX12_isTaught 66 = .ok (.getfield 7, 3) := dk_180 0 7 (by decide +kernel)
theorem dX12_isTaught_69 : decode cX12_isTaught 69 = .ok (.sipush 1260, 3) := dk_17 4 236 (by decide +kernel)
theorem dX12_isTaught_72 : decode cX12_isTaught 72 = .ok (.iload_n 1, 1) := dk_27 (by decide +kernel)
theorem dX12_isTaught_73 : decode cX12_isTaught 73 = .ok (.iadd, 1) := dk_96 (by decide +kernel)
theorem dX12_isTaught_74 : decode cX12_isTaught 74 = .ok (.iaload, 1) := dk_46 (by decide +kernel)
theorem dX12_isTaught_75 : decode cX12_isTaught 75 = .ok (.aload_n 0, 1) := dk_42 (by decide +kernel)
theorem dX12_isTaught_76 : decode cX12_isTaught 76 = .ok (.getfield 7, 3) := dk_180 0 7 (by decide +kernel)
theorem dX12_isTaught_79 : decode cX12_isTaught 79 = .ok (.iload 6, 2) := dk_21 (by decide +kernel)
theorem dX12_isTaught_81 : decode cX12_isTaught 81 = .ok (.iconst 3, 1) := dk_6 (by decide +kernel)
theorem dX12_isTaught_82 : decode cX12_isTaught 82 = .ok (.iadd, 1) := dk_96 (by decide +kernel)
theorem dX12_isTaught_83 : decode cX12_isTaught 83 = .ok (.iaload, 1) := dk_46 (by decide +kernel)
theorem dX12_isTaught_84 : decode cX12_isTaught 84 = .ok (.ishr, 1) := dk_122 (by decide +kernel)
theorem dX12_isTaught_85 : decode cX12_isTaught 85 = .ok (.iconst 1, 1) := dk_4 (by decide +kernel)
theorem dX12_isTaught_86 : decode cX12_isTaught 86 = .ok (.iand, 1) := dk_126 (by decide +kernel)
theorem dX12_isTaught_87 : decode cX12_isTaught 87 = .ok (.iconst 1, 1) := dk_4 (by decide +kernel)
theorem dX12_isTaught_88 : decode cX12_isTaught 88 = .ok (.if_icmp .ne 5, 3) := dk_160 0 5 (by decide +kernel)
theorem dX12_isTaught_91 : decode cX12_isTaught 91 = .ok (.iconst 1, 1) := dk_4 (by decide +kernel)
theorem dX12_isTaught_92 : decode cX12_isTaught 92 = .ok (.ireturn, 1) := dk_172 (by decide +kernel)
theorem dX12_isTaught_93 : decode cX12_isTaught 93 = .ok (.iinc 5 1, 3) := dk_132 1 (by decide +kernel)
theorem dX12_isTaught_96 : decode cX12_isTaught 96 = .ok (.goto (-93), 3) := dk_167 255 163 (by decide +kernel)
theorem dX12_isTaught_99 : decode cX12_isTaught 99 = .ok (.iconst 0, 1) := dk_3 (by decide +kernel)
theorem dX12_isTaught_100 : decode cX12_isTaught 100 = .ok (.ireturn, 1) := dk_172 (by decide +kernel)
set_option maxRecDepth 8000 in
theorem e_X12_isTaught {g : ch_G} {A R : Nat} (hC : ck_Cx g A R) {d : Nat} {K : Option ck_V → ck_W → Prop} {w : ck_W} {a1 a2 a3 a4 : Int} (h : ck_At (ch_C g A R) (d + 1) mX12_isTaught K 3 [some (.inr (.inr 76)), some (.inl a1), some (.inl a2), some (.inl a3), some (.inl a4), some (.inl 0), none] [] w) : ck_Ex (ch_C g A R) (d + 1) mX12_isTaught [.inr (.inr 76), .inl a1, .inl a2, .inl a3, .inl a4] w K :=
  ck_entry hC.1 [some (.inr (.inr 76)), some (.inl a1), some (.inl a2), some (.inl a3), some (.inl a4), none, none] (by decide) (Nat.le_of_ble_eq_true rfl) rfl (fun q => q) (ck_in (fun hl => (ck_iconst 1 rfl dX12_isTaught_0 rfl (ck_istore 3 rfl [some (.inr (.inr 76)), some (.inl a1), some (.inl a2), some (.inl a3), some (.inl a4), some (.inl 0), none] dX12_isTaught_1 (Nat.le_of_ble_eq_true rfl) rfl rfl (show ck_i 0 by decide) h))))
set_option maxRecDepth 8000 in
theorem r_X12_isTaught_3 {g : ch_G} {A R : Nat} (hC : ck_Cx g A R) {d : Nat} {K : Option ck_V → ck_W → Prop} {w : ck_W} {a1 a2 a3 a4 a5 : Int} (h : ((w 77 3) ≤ a5 → K (some (.inl 0)) w) ∧ (¬ (w 77 3) ≤ a5 → ck_i (1010 + (4 * a5)) ∧ ((0 ≤ (1010 + (4 * a5)) ∧ (1010 + (4 * a5)) < 1430) ∧ (ck_i (a2 + 2) ∧ ((a2 ≤ (w 77 (1010 + (4 * a5))) ∧ (w 77 (1010 + (4 * a5))) ≤ (a2 + 2) → (0 ≤ ((1010 + (4 * a5)) + 1) ∧ ((1010 + (4 * a5)) + 1) < 1430) ∧ (ck_i ((a3 + (3 * a4)) - 1) ∧ ((a3 ≤ (w 77 ((1010 + (4 * a5)) + 1)) ∧ (w 77 ((1010 + (4 * a5)) + 1)) ≤ ((a3 + (3 * a4)) - 1) → (0 ≤ (1260 + a1) ∧ (1260 + a1) < 1430) ∧ ((0 ≤ ((1010 + (4 * a5)) + 3) ∧ ((1010 + (4 * a5)) + 3) < 1430) ∧ ((¬ (ck_and (ck_shr (w 77 (1260 + a1)) (w 77 ((1010 + (4 * a5)) + 3))) 1) = 1 → ck_i (a5 + 1) ∧ (ck_At (ch_C g A R) (d + 1) mX12_isTaught K 3 [some (.inr (.inr 76)), some (.inl a1), some (.inl a2), some (.inl a3), some (.inl a4), some (.inl (a5 + 1)), none] [] w)) ∧ ((ck_and (ck_shr (w 77 (1260 + a1)) (w 77 ((1010 + (4 * a5)) + 3))) 1) = 1 → K (some (.inl 1)) w)))) ∧ (¬ (a3 ≤ (w 77 ((1010 + (4 * a5)) + 1)) ∧ (w 77 ((1010 + (4 * a5)) + 1)) ≤ ((a3 + (3 * a4)) - 1)) → ck_i (a5 + 1) ∧ (ck_At (ch_C g A R) (d + 1) mX12_isTaught K 3 [some (.inr (.inr 76)), some (.inl a1), some (.inl a2), some (.inl a3), some (.inl a4), some (.inl (a5 + 1)), none] [] w))))) ∧ (¬ (a2 ≤ (w 77 (1010 + (4 * a5))) ∧ (w 77 (1010 + (4 * a5))) ≤ (a2 + 2)) → ck_i (a5 + 1) ∧ (ck_At (ch_C g A R) (d + 1) mX12_isTaught K 3 [some (.inr (.inr 76)), some (.inl a1), some (.inl a2), some (.inl a3), some (.inl a4), some (.inl (a5 + 1)), none] [] w))))))) : ck_At (ch_C g A R) (d + 1) mX12_isTaught K 3 [some (.inr (.inr 76)), some (.inl a1), some (.inl a2), some (.inl a3), some (.inl a4), some (.inl a5), none] [] w :=
  ck_in (fun hl => (ck_iload 5 rfl dX12_isTaught_3 rfl (ck_aload_n 6 rfl 0 dX12_isTaught_5 rfl rfl (ck_getr 9 rfl dX12_isTaught_6 fl_X12_7 sh_76 rfl (ck_iconst 10 rfl dX12_isTaught_9 rfl (ck_iald 11 rfl dX12_isTaught_10 sh_77 (shn_77 hC) (by decide) _ rfl (fun (q1 : ck_i (w 77 3)) => (ck_icmp_ge 14 rfl 99 dX12_isTaught_11 rfl hl.2.2.2.2.2.1 q1 (fun c24 => (ck_iconst 100 rfl dX12_isTaught_99 rfl (ck_zret dX12_isTaught_100 rfl (by decide) (h.1 c24)))) (fun c25 => (ck_sipush 17 rfl dX12_isTaught_14 rfl (ck_iconst 18 rfl dX12_isTaught_17 rfl (ck_iload 20 rfl dX12_isTaught_18 rfl (ck_imul 21 rfl dX12_isTaught_20 (ck_iadd 22 rfl dX12_isTaught_21 (have h27 := (h.2 c25); have o2 := h27.1; have h26 := h27.2; (ck_istore 24 rfl [some (.inr (.inr 76)), some (.inl a1), some (.inl a2), some (.inl a3), some (.inl a4), some (.inl a5), some (.inl (1010 + (4 * a5)))] dX12_isTaught_22 (Nat.le_of_ble_eq_true rfl) rfl rfl o2 (ck_aload_n 25 rfl 0 dX12_isTaught_24 rfl rfl (ck_getr 28 rfl dX12_isTaught_25 fl_X12_7 sh_76 rfl (ck_iload 30 rfl dX12_isTaught_28 rfl (have h29 := h26; have o3 := h29.1; have h28 := h29.2; (ck_iald 31 rfl dX12_isTaught_30 sh_77 (shn_77 hC) o3 _ rfl (fun (q4 : ck_i (w 77 (1010 + (4 * a5)))) => (ck_iload_n 32 rfl 2 dX12_isTaught_31 rfl rfl (ck_iload_n 33 rfl 2 dX12_isTaught_32 rfl rfl (ck_iconst 34 rfl dX12_isTaught_33 rfl (ck_iadd 35 rfl dX12_isTaught_34 (have h31 := h28; have o5 := h31.1; have h30 := h31.2; (have h23 := h30; ck_callS 38 rfl [.inl (w 77 (1010 + (4 * a5))), .inl a2, .inl (a2 + 2)] [] dX12_isTaught_35 cs_X12_93 rfl rfl (Nat.le_of_ble_eq_true rfl) (And.intro q4 (And.intro hl.2.2.1 (And.intro o5 True.intro))) (p_X12_isIn hC (fun c21 _ => (ck_if_eq 41 rfl 93 dX12_isTaught_38 rfl (by decide) (fun q => absurd q (by decide)) (fun _ => (ck_aload_n 42 rfl 0 dX12_isTaught_41 rfl rfl (ck_getr 45 rfl dX12_isTaught_42 fl_X12_7 sh_76 rfl (ck_iload 47 rfl dX12_isTaught_45 rfl (ck_iconst 48 rfl dX12_isTaught_47 rfl (ck_iadd 49 rfl dX12_isTaught_48 (have h33 := (h23.1 c21); have o6 := h33.1; have h32 := h33.2; (ck_iald 50 rfl dX12_isTaught_49 sh_77 (shn_77 hC) o6 _ rfl (fun (q7 : ck_i (w 77 ((1010 + (4 * a5)) + 1))) => (ck_iload_n 51 rfl 3 dX12_isTaught_50 rfl rfl (ck_iload_n 52 rfl 3 dX12_isTaught_51 rfl rfl (ck_iconst 53 rfl dX12_isTaught_52 rfl (ck_iload 55 rfl dX12_isTaught_53 rfl (ck_imul 56 rfl dX12_isTaught_55 (ck_iadd 57 rfl dX12_isTaught_56 (ck_iconst 58 rfl dX12_isTaught_57 rfl (ck_isub 59 rfl dX12_isTaught_58 (have h35 := h32; have o8 := h35.1; have h34 := h35.2; (have h19 := h34; ck_callS 62 rfl [.inl (w 77 ((1010 + (4 * a5)) + 1)), .inl a3, .inl ((a3 + (3 * a4)) - 1)] [] dX12_isTaught_59 cs_X12_93 rfl rfl (Nat.le_of_ble_eq_true rfl) (And.intro q7 (And.intro hl.2.2.2.1 (And.intro o8 True.intro))) (p_X12_isIn hC (fun c17 _ => (ck_if_eq 65 rfl 93 dX12_isTaught_62 rfl (by decide) (fun q => absurd q (by decide)) (fun _ => (ck_aload_n 66 rfl 0 dX12_isTaught_65 rfl rfl (ck_getr 69 rfl dX12_isTaught_66 fl_X12_7 sh_76 rfl (ck_sipush 72 rfl dX12_isTaught_69 rfl (ck_iload_n 73 rfl 1 dX12_isTaught_72 rfl rfl (ck_iadd 74 rfl dX12_isTaught_73 (have h37 := (h19.1 c17); have o9 := h37.1; have h36 := h37.2; (ck_iald 75 rfl dX12_isTaught_74 sh_77 (shn_77 hC) o9 _ rfl (fun (q10 : ck_i (w 77 (1260 + a1))) => (ck_aload_n 76 rfl 0 dX12_isTaught_75 rfl rfl (ck_getr 79 rfl dX12_isTaught_76 fl_X12_7 sh_76 rfl (ck_iload 81 rfl dX12_isTaught_79 rfl (ck_iconst 82 rfl dX12_isTaught_81 rfl (ck_iadd 83 rfl dX12_isTaught_82 (have h39 := h36; have o11 := h39.1; have h38 := h39.2; (ck_iald 84 rfl dX12_isTaught_83 sh_77 (shn_77 hC) o11 _ rfl (fun (q12 : ck_i (w 77 ((1010 + (4 * a5)) + 3))) => (ck_ishr 85 rfl dX12_isTaught_84 (ck_iconst 86 rfl dX12_isTaught_85 rfl (ck_iand 87 rfl dX12_isTaught_86 (ck_iconst 88 rfl dX12_isTaught_87 rfl (ck_icmp_ne 91 rfl 93 dX12_isTaught_88 rfl (ck_rng _) (show ck_i 1 by decide) (fun c14 => (have h41 := (h38.1 c14); have o13 := h41.1; have h40 := h41.2; (ck_iinc 96 rfl [some (.inr (.inr 76)), some (.inl a1), some (.inl a2), some (.inl a3), some (.inl a4), some (.inl (a5 + 1)), some (.inl (1010 + (4 * a5)))] dX12_isTaught_93 rfl (Nat.le_of_ble_eq_true rfl) rfl rfl o13 (ck_goto 3 dX12_isTaught_96 rfl (ck_drop [some (.inr (.inr 76)), some (.inl a1), some (.inl a2), some (.inl a3), some (.inl a4), some (.inl (a5 + 1)), none] (And.intro rfl (And.intro rfl (And.intro rfl (And.intro rfl (And.intro rfl (And.intro rfl True.intro)))))) h40))))) (fun c15 => (ck_iconst 92 rfl dX12_isTaught_91 rfl (ck_zret dX12_isTaught_92 rfl (by decide) (h38.2 c15)))))))))))))))))))))))))))) (fun c18 _ => (ck_if_eq 65 rfl 93 dX12_isTaught_62 rfl (by decide) (fun _ => (have h43 := (h19.2 c18); have o16 := h43.1; have h42 := h43.2; (ck_iinc 96 rfl [some (.inr (.inr 76)), some (.inl a1), some (.inl a2), some (.inl a3), some (.inl a4), some (.inl (a5 + 1)), some (.inl (1010 + (4 * a5)))] dX12_isTaught_93 rfl (Nat.le_of_ble_eq_true rfl) rfl rfl o16 (ck_goto 3 dX12_isTaught_96 rfl (ck_drop [some (.inr (.inr 76)), some (.inl a1), some (.inl a2), some (.inl a3), some (.inl a4), some (.inl (a5 + 1)), none] (And.intro rfl (And.intro rfl (And.intro rfl (And.intro rfl (And.intro rfl (And.intro rfl True.intro)))))) h42))))) (fun q => absurd q (by decide)))))))))))))))))))))))))) (fun c22 _ => (ck_if_eq 41 rfl 93 dX12_isTaught_38 rfl (by decide) (fun _ => (have h45 := (h23.2 c22); have o20 := h45.1; have h44 := h45.2; (ck_iinc 96 rfl [some (.inr (.inr 76)), some (.inl a1), some (.inl a2), some (.inl a3), some (.inl a4), some (.inl (a5 + 1)), some (.inl (1010 + (4 * a5)))] dX12_isTaught_93 rfl (Nat.le_of_ble_eq_true rfl) rfl rfl o20 (ck_goto 3 dX12_isTaught_96 rfl (ck_drop [some (.inr (.inr 76)), some (.inl a1), some (.inl a2), some (.inl a3), some (.inl a4), some (.inl (a5 + 1)), none] (And.intro rfl (And.intro rfl (And.intro rfl (And.intro rfl (And.intro rfl (And.intro rfl True.intro)))))) h44))))) (fun q => absurd q (by decide)))))))))))))))))))))))))))))))))
theorem S_X12_isTaught {g : ch_G} {A R : Nat} (hC : ck_Cx g A R) {d : Nat} {K : Option ck_V → ck_W → Prop} {w : ck_W} {a1 a2 a3 a4 : Int} (hI : rm_I A R w) (h1 : 0 ≤ a1 ∧ a1 < 4) (h2 : 0 ≤ a2 ∧ a2 ≤ 3) (h3 : 0 ≤ a3 ∧ a3 ≤ 23) (h4 : 1 ≤ a4 ∧ a4 ≤ 3) (h : ∀ v, K (some (.inl v)) w) : ck_Ex (ch_C g A R) (d + 1) mX12_isTaught [.inr (.inr 76), .inl a1, .inl a2, .inl a3, .inl a4] w K := by
  have f0 := rm_c0 hI.2.2.2.1
  have l : ∀ (m : Nat) (a5 : Int), w 77 3 - a5 = m → 0 ≤ a5 → ck_At (ch_C g A R) (d + 1) mX12_isTaught K 3 [some (.inr (.inr 76)), some (.inl a1), some (.inl a2), some (.inl a3), some (.inl a4), some (.inl a5), none] [] w := by
    intro m
    induction m with
    | zero =>
      intro a5 q1 q2
      exact r_X12_isTaught_3 hC ⟨fun _ => h _, fun z => absurd (by omega) z⟩
    | succ m ih =>
      intro a5 q1 q2
      have nx := ih (a5 + 1) (by omega) (by omega)
      exact r_X12_isTaught_3 hC ⟨fun z => absurd z (by omega), fun _ => ⟨by constructor <;> omega, by omega, by constructor <;> omega, fun _ => ⟨by omega, by constructor <;> omega, fun _ => ⟨by omega, by omega, fun _ => ⟨by constructor <;> omega, nx⟩, fun _ => h _⟩, fun _ => ⟨by constructor <;> omega, nx⟩⟩, fun _ => ⟨by constructor <;> omega, nx⟩⟩⟩
  exact e_X12_isTaught hC (l (w 77 3).toNat 0 (by omega) (by omega))
theorem dX12_counts_0 : decode cX12_counts 0 = .ok (.iload 4, 2) := dk_21 (by decide +kernel)
theorem dX12_counts_2 : decode cX12_counts 2 = .ok (.ifCond .lt 30, 3) := dk_155 0 30 (by decide +kernel)
theorem dX12_counts_5 : decode cX12_counts 5 = .ok (.aload_n 0, 1) := dk_42 (by decide +kernel)
theorem dX12_counts_6 : decode cX12_counts 6 = .ok (.iload 4, 2) := dk_21 (by decide +kernel)
theorem dX12_counts_8 : decode cX12_counts 8 = .ok (.invokevirtual 377, 3) := dk_182 1 121 (by decide +kernel)
theorem dX12_counts_11 : decode cX12_counts 11 = .ok (.iload 5, 2) := dk_21 (by decide +kernel)
theorem dX12_counts_13 : decode cX12_counts 13 = .ok (.if_icmp .lt 19, 3) := dk_161 0 19 (by decide +kernel)
theorem dX12_counts_16 : decode cX12_counts 16 = .ok (.aload_n 0, 1) := dk_42 (by decide +kernel)
theorem dX12_counts_17 : decode cX12_counts 17 = .ok (.iload_n 1, 1) := dk_27 (by decide +kernel)
theorem dX12_counts_18 : decode cX12_counts 18 = .ok (.iload_n 2, 1) := dk_28 (by decide +kernel)
theorem dX12_counts_19 : decode cX12_counts 19 = .ok (.iload_n 3, 1) := dk_29 (by decide +kernel)
theorem dX12_counts_20 : decode cX12_counts 20 = .ok (.aload_n 0, 1) := dk_42 (by decide +kernel)
theorem dX12_counts_21 : decode cX12_counts 21 = .ok (.iload 4, 2) := dk_21 (by decide +kernel)
theorem dX12_counts_23 : decode cX12_counts 23 = .ok (.invokevirtual 369, 3) := dk_182 1 113 (by decide +kernel)
theorem dX12_counts_26 : decode cX12_counts 26 = .ok (.invokevirtual 380, 3) := dk_182 1 124 (by decide +kernel)
theorem dX12_counts_29 : decode cX12_counts 29 = .ok (.ifCond .eq 5, 3) := dk_153 0 5 (by decide +kernel)
theorem dX12_counts_32 : decode cX12_counts 32 = .ok (.iconst 0, 1) := dk_3 (by decide +kernel)
theorem dX12_counts_33 : decode cX12_counts 33 = .ok (.ireturn, 1) := dk_172 (by decide +kernel)
theorem dX12_counts_34 : decode cX12_counts 34 = .ok (.iconst 0, 1) := dk_3 (by decide +kernel)
theorem dX12_counts_35 : decode cX12_counts 35 = .ok (.istore 6, 2) := dk_54 (by decide +kernel)
theorem dX12_counts_37 : decode cX12_counts 37 = .ok (.iload 6, 2) := dk_21 (by decide +kernel)
theorem dX12_counts_39 : decode cX12_counts 39 = .ok (.aload_n 0, 1) := dk_42 (by decide +kernel)
theorem dX12_counts_40 : decode cX12_counts 40 = .ok (.iload 4, 2) := dk_21 (by decide +kernel)
theorem dX12_counts_42 : decode cX12_counts 42 = .ok (.invokevirtual 369, 3) := dk_182 1 113 (by decide +kernel)
theorem dX12_counts_45 : decode cX12_counts 45 = .ok (.if_icmp .ge 41, 3) := dk_162 0 41 (by decide +kernel)
theorem dX12_counts_48 : decode cX12_counts 48 = .ok (.aload_n 0, 1) := dk_42 (by decide +kernel)
theorem dX12_counts_49 : decode cX12_counts 49 = .ok (.aload_n 0, 1) := dk_42 (by decide +kernel)
theorem dX12_counts_50 : decode cX12_counts 50 = .ok (.getfield 71, 3) := dk_180 0 71 (by decide +kernel)
theorem dX12_counts_53 : decode cX12_counts 53 = .ok (.iload 6, 2) := dk_21 (by decide +kernel)
theorem dX12_counts_55 : decode cX12_counts 55 = .ok (.iaload, 1) := dk_46 (by decide +kernel)
theorem dX12_counts_56 : decode cX12_counts 56 = .ok (.invokevirtual 355, 3) := dk_182 1 99 (by decide +kernel)
theorem dX12_counts_59 : decode cX12_counts 59 = .ok (.aload_n 0, 1) := dk_42 (by decide +kernel)
theorem dX12_counts_60 : decode cX12_counts 60 = .ok (.getfield 7, 3) := dk_180 0 7 (by decide +kernel)
theorem dX12_counts_63 : decode cX12_counts 63 = .ok (.sipush 1300, 3) := dk_17 5 20 (by decide +kernel)
theorem dX12_counts_66 : decode cX12_counts 66 = .ok (.iconst 4, 1) := dk_7 (by decide +kernel)
theorem dX12_counts_67 : decode cX12_counts 67 = .ok (.iload 4, 2) := dk_21 (by decide +kernel)
theorem dX12_counts_69 : decode cX12_counts 69 = .ok (.imul, 1) := dk_104 (by decide +kernel)
theorem dX12_counts_70 : decode cX12_counts 70 = .ok (.iadd, 1) := dk_96 (by decide +kernel)
theorem dX12_counts_71 : decode cX12_counts 71 = .ok (.iload 6, 2) := dk_21 (by decide +kernel)
theorem dX12_counts_73 : decode cX12_counts 73 = .ok (.iadd, 1) := dk_96 (by decide +kernel)
theorem dX12_counts_74 : decode cX12_counts 74 = .ok (.iaload, 1) := dk_46 (by decide +kernel)
theorem dX12_counts_75 : decode cX12_counts 75 = .ok (.if_icmp .eq 5, 3) := dk_159 0 5 (by decide +kernel)
theorem dX12_counts_78 : decode cX12_counts 78 = .ok (.iconst 0, 1) := dk_3 (by decide +kernel)
theorem dX12_counts_79 : decode cX12_counts 79 = .ok (.ireturn, 1) := dk_172 (by decide +kernel)
theorem dX12_counts_80 : decode cX12_counts 80 = .ok (.iinc 6 1, 3) := dk_132 1 (by decide +kernel)
theorem dX12_counts_83 : decode cX12_counts 83 = .ok (.goto (-46), 3) := dk_167 255 210 (by decide +kernel)
theorem dX12_counts_86 : decode cX12_counts 86 = .ok (.iconst 1, 1) := dk_4 (by decide +kernel)
theorem dX12_counts_87 : decode cX12_counts 87 = .ok (.ireturn, 1) := dk_172 (by decide +kernel)
set_option maxRecDepth 8000 in
theorem e_X12_counts {g : ch_G} {A R : Nat} (hC : ck_Cx g A R) {d : Nat} {K : Option ck_V → ck_W → Prop} {w : ck_W} {a1 a2 a3 a4 a5 : Int} (h : (a4 < 0 → K (some (.inl 0)) w) ∧ (¬ a4 < 0 → ck_CI (ch_C g A R) d mX12_wordOdds [.inr (.inr 76), .inl a4] w (fun v2 w1 => (v2 < a5 → K (some (.inl 0)) w1) ∧ (¬ v2 < a5 → ck_CI (ch_C g A R) d mX12_lengthOf [.inr (.inr 76), .inl a4] w1 (fun v6 w5 => ck_CI (ch_C g A R) d mX12_isTaught [.inr (.inr 76), .inl a1, .inl a2, .inl a3, .inl v6] w5 (fun v10 w9 => (v10 = 0 → ck_At (ch_C g A R) (d + 1) mX12_counts K 37 [some (.inr (.inr 76)), none, none, none, some (.inl a4), none, some (.inl 0)] [] w9) ∧ (¬ v10 = 0 → K (some (.inl 0)) w9))))))) : ck_Ex (ch_C g A R) (d + 1) mX12_counts [.inr (.inr 76), .inl a1, .inl a2, .inl a3, .inl a4, .inl a5] w K :=
  ck_entry hC.1 [some (.inr (.inr 76)), some (.inl a1), some (.inl a2), some (.inl a3), some (.inl a4), some (.inl a5), none] (by decide) (Nat.le_of_ble_eq_true rfl) rfl (fun q => q) (ck_in (fun hl => (ck_iload 2 rfl dX12_counts_0 rfl (ck_if_lt 5 rfl 32 dX12_counts_2 rfl hl.2.2.2.2.1 (fun c17 => (ck_iconst 33 rfl dX12_counts_32 rfl (ck_zret dX12_counts_33 rfl (by decide) (h.1 c17)))) (fun c18 => (ck_aload_n 6 rfl 0 dX12_counts_5 rfl rfl (ck_iload 8 rfl dX12_counts_6 rfl (ck_callV 11 rfl [.inl a4] [] dX12_counts_8 cv_X12_377 sh_76 rfl rfl (Nat.le_of_ble_eq_true rfl) (And.intro hl.2.2.2.2.1 True.intro) (ck_mI (h.2 c18) (fun v2 w1 q3 h4 => (ck_iload 13 rfl dX12_counts_11 rfl (ck_icmp_lt 16 rfl 32 dX12_counts_13 rfl q3 hl.2.2.2.2.2.1 (fun c15 => (ck_iconst 33 rfl dX12_counts_32 rfl (ck_zret dX12_counts_33 rfl (by decide) (h4.1 c15)))) (fun c16 => (ck_aload_n 17 rfl 0 dX12_counts_16 rfl rfl (ck_iload_n 18 rfl 1 dX12_counts_17 rfl rfl (ck_iload_n 19 rfl 2 dX12_counts_18 rfl rfl (ck_iload_n 20 rfl 3 dX12_counts_19 rfl rfl (ck_aload_n 21 rfl 0 dX12_counts_20 rfl rfl (ck_iload 23 rfl dX12_counts_21 rfl (ck_callV 26 rfl [.inl a4] [.inl a3, .inl a2, .inl a1, .inr (.inr 76)] dX12_counts_23 cv_X12_369 sh_76 rfl rfl (Nat.le_of_ble_eq_true rfl) (And.intro hl.2.2.2.2.1 True.intro) (ck_mI (h4.2 c16) (fun v6 w5 q7 h8 => (ck_callV 29 rfl [.inl a1, .inl a2, .inl a3, .inl v6] [] dX12_counts_26 cv_X12_380 sh_76 rfl rfl (Nat.le_of_ble_eq_true rfl) (And.intro hl.2.1 (And.intro hl.2.2.1 (And.intro hl.2.2.2.1 (And.intro q7 True.intro)))) (ck_mI h8 (fun v10 w9 q11 h12 => (ck_if_eq 32 rfl 34 dX12_counts_29 rfl q11 (fun c13 => (ck_iconst 35 rfl dX12_counts_34 rfl (ck_istore 37 rfl [some (.inr (.inr 76)), some (.inl a1), some (.inl a2), some (.inl a3), some (.inl a4), some (.inl a5), some (.inl 0)] dX12_counts_35 (Nat.le_of_ble_eq_true rfl) rfl rfl (show ck_i 0 by decide) (ck_drop [some (.inr (.inr 76)), none, none, none, some (.inl a4), none, some (.inl 0)] (And.intro rfl (And.intro rfl (And.intro rfl True.intro))) (h12.1 c13))))) (fun c14 => (ck_iconst 33 rfl dX12_counts_32 rfl (ck_zret dX12_counts_33 rfl (by decide) (h12.2 c14))))))))))))))))))))))))))))))
set_option maxRecDepth 8000 in
theorem r_X12_counts_37 {g : ch_G} {A R : Nat} (hC : ck_Cx g A R) {d : Nat} {K : Option ck_V → ck_W → Prop} {w : ck_W} {a4 a6 : Int} (h : ck_CI (ch_C g A R) d mX12_lengthOf [.inr (.inr 76), .inl a4] w (fun v2 w1 => (v2 ≤ a6 → K (some (.inl 1)) w1) ∧ (¬ v2 ≤ a6 → (0 ≤ a6 ∧ a6 < 3) ∧ (ck_CI (ch_C g A R) d mX12_letterOf [.inr (.inr 76), .inl (w1 94 a6)] w1 (fun v8 w7 => (0 ≤ ((1300 + (4 * a4)) + a6) ∧ ((1300 + (4 * a4)) + a6) < 1430) ∧ ((v8 = (w7 77 ((1300 + (4 * a4)) + a6)) → ck_i (a6 + 1) ∧ (ck_At (ch_C g A R) (d + 1) mX12_counts K 37 [some (.inr (.inr 76)), none, none, none, some (.inl a4), none, some (.inl (a6 + 1))] [] w7)) ∧ (¬ v8 = (w7 77 ((1300 + (4 * a4)) + a6)) → K (some (.inl 0)) w7))))))) : ck_At (ch_C g A R) (d + 1) mX12_counts K 37 [some (.inr (.inr 76)), none, none, none, some (.inl a4), none, some (.inl a6)] [] w :=
  ck_in (fun hl => (ck_iload 39 rfl dX12_counts_37 rfl (ck_aload_n 40 rfl 0 dX12_counts_39 rfl rfl (ck_iload 42 rfl dX12_counts_40 rfl (ck_callV 45 rfl [.inl a4] [.inl a6] dX12_counts_42 cv_X12_369 sh_76 rfl rfl (Nat.le_of_ble_eq_true rfl) (And.intro hl.2.1 True.intro) (ck_mI h (fun v2 w1 q3 h4 => (ck_icmp_ge 48 rfl 86 dX12_counts_45 rfl hl.2.2.1 q3 (fun c16 => (ck_iconst 87 rfl dX12_counts_86 rfl (ck_zret dX12_counts_87 rfl (by decide) (h4.1 c16)))) (fun c17 => (ck_aload_n 49 rfl 0 dX12_counts_48 rfl rfl (ck_aload_n 50 rfl 0 dX12_counts_49 rfl rfl (ck_getr 53 rfl dX12_counts_50 fl_X12_71 sh_76 rfl (ck_iload 55 rfl dX12_counts_53 rfl (have h19 := (h4.2 c17); have o5 := h19.1; have h18 := h19.2; (ck_iald 56 rfl dX12_counts_55 sh_94 (shn_94 hC) o5 _ rfl (fun (q6 : ck_i (w1 94 a6)) => (ck_callV 59 rfl [.inl (w1 94 a6)] [] dX12_counts_56 cv_X12_355 sh_76 rfl rfl (Nat.le_of_ble_eq_true rfl) (And.intro q6 True.intro) (ck_mI h18 (fun v8 w7 q9 h10 => (ck_aload_n 60 rfl 0 dX12_counts_59 rfl rfl (ck_getr 63 rfl dX12_counts_60 fl_X12_7 sh_76 rfl (ck_sipush 66 rfl dX12_counts_63 rfl (ck_iconst 67 rfl dX12_counts_66 rfl (ck_iload 69 rfl dX12_counts_67 rfl (ck_imul 70 rfl dX12_counts_69 (ck_iadd 71 rfl dX12_counts_70 (ck_iload 73 rfl dX12_counts_71 rfl (ck_iadd 74 rfl dX12_counts_73 (have h21 := h10; have o11 := h21.1; have h20 := h21.2; (ck_iald 75 rfl dX12_counts_74 sh_77 (shn_77 hC) o11 _ rfl (fun (q12 : ck_i (w7 77 ((1300 + (4 * a4)) + a6))) => (ck_icmp_eq 78 rfl 80 dX12_counts_75 rfl q9 q12 (fun c14 => (have h23 := (h20.1 c14); have o13 := h23.1; have h22 := h23.2; (ck_iinc 83 rfl [some (.inr (.inr 76)), none, none, none, some (.inl a4), none, some (.inl (a6 + 1))] dX12_counts_80 rfl (Nat.le_of_ble_eq_true rfl) rfl rfl o13 (ck_goto 37 dX12_counts_83 rfl h22)))) (fun c15 => (ck_iconst 79 rfl dX12_counts_78 rfl (ck_zret dX12_counts_79 rfl (by decide) (h20.2 c15))))))))))))))))))))))))))))))))))))
theorem S_X12_counts {g : ch_G} {A R : Nat} (hC : ck_Cx g A R) {d : Nat} {K : Option ck_V → ck_W → Prop} {w : ck_W} {a1 a2 a3 a4 a5 : Int} (hI : rm_I A R w) (h1 : 0 ≤ a1 ∧ a1 < 4) (h4 : -1 ≤ a4 ∧ a4 < w 77 5) (hc : rm_wc (w 77 5) w) (hw : 0 ≤ a4 → (0 ≤ a2 ∧ a2 ≤ 3) ∧ (0 ≤ a3 ∧ a3 ≤ 23) ∧ ∀ k, 0 ≤ k → k < rm_ln (w 77) a4 → 0 ≤ w 94 k ∧ w 94 k < 512) (k0 : K (some (.inl 0)) w) (k1 : 0 ≤ a4 → K (some (.inl 1)) w) : ck_Ex (ch_C g A R) (d + 3) mX12_counts [.inr (.inr 76), .inl a1, .inl a2, .inl a3, .inl a4, .inl a5] w K := by
  have f0 := rm_c0 hI.2.2.2.1
  refine e_X12_counts hC ⟨fun _ => k0, fun z => ?_⟩
  obtain ⟨b2, b3, b4⟩ := hw (by omega)
  have lb := rm_lnb (w 77) a4
  have l : ∀ (m : Nat) (a6 : Int), rm_ln (w 77) a4 - a6 = m → 0 ≤ a6 → ck_At (ch_C g A R) (d + 3) mX12_counts K 37 [some (.inr (.inr 76)), none, none, none, some (.inl a4), none, some (.inl a6)] [] w := by
    intro m
    induction m with
    | zero =>
      intro a6 q1 q2
      exact r_X12_counts_37 hC (S_X12_lengthOf hC (by omega) ⟨_, rfl, fun _ => ⟨fun _ => k1 (by omega), fun y => absurd (by omega) y⟩⟩)
    | succ m ih =>
      intro a6 q1 q2
      refine r_X12_counts_37 hC (S_X12_lengthOf hC (by omega) ⟨_, rfl, fun _ => ⟨fun y => absurd y (by omega), fun _ => ⟨by omega, S_X12_letterOf hC hI (b4 a6 q2 (by omega)) (fun v _ _ => ⟨_, rfl, fun _ => ⟨by omega, fun _ => ⟨by constructor <;> omega, ih _ (by omega) (by omega)⟩, fun _ => k0⟩⟩)⟩⟩⟩)
  refine S_X12_wordOdds hC hI (by omega) hc (fun v _ => ⟨_, rfl, fun _ => ⟨fun _ => k0, fun _ => S_X12_lengthOf hC (by omega) ⟨_, rfl, fun _ => S_X12_isTaught hC hI h1 b2 b3 lb (fun v => ⟨_, rfl, fun _ => ⟨fun _ => l (rm_ln (w 77) a4).toNat 0 (by omega) (by omega), fun _ => k0⟩⟩)⟩⟩⟩)
theorem dX12_printed_0 : decode cX12_printed 0 = .ok (.iload_n 1, 1) := dk_27 (by decide +kernel)
theorem dX12_printed_1 : decode cX12_printed 1 = .ok (.iconst 0, 1) := dk_3 (by decide +kernel)
theorem dX12_printed_2 : decode cX12_printed 2 = .ok (.iconst 1, 1) := dk_4 (by decide +kernel)
theorem dX12_printed_3 : decode cX12_printed 3 = .ok (.aload_n 0, 1) := dk_42 (by decide +kernel)
theorem dX12_printed_4 : decode cX12_printed 4 = .ok (.getfield 7, 3) := dk_180 0 7 (by decide +kernel)
theorem dX12_printed_7 : decode cX12_printed 7 = .ok (.iconst 0, 1) := dk_3 (by decide +kernel)
theorem dX12_printed_8 : decode cX12_printed 8 = .ok (.iaload, 1) := dk_46 (by decide +kernel)
theorem dX12_printed_9 : decode cX12_printed 9 = .ok (.ishl, 1) := dk_120 (by decide +kernel)
theorem dX12_printed_10 : decode cX12_printed 10 = .ok (.iconst 1, 1) := dk_4 (by decide +kernel)
theorem dX12_printed_11 : decode cX12_printed 11 = .ok (.isub, 1) := dk_100 (by decide +kernel)
theorem dX12_printed_12 : decode cX12_printed 12 = .ok (.invokestatic 93, 3) := dk_184 0 93 (by decide +kernel)
theorem dX12_printed_15 : decode cX12_printed 15 = .ok (.ifCond .eq 25, 3) := dk_153 0 25 (by decide +kernel)
theorem dX12_printed_18 : decode cX12_printed 18 = .ok (.iload 4, 2) := dk_21 (by decide +kernel)
theorem dX12_printed_20 : decode cX12_printed 20 = .ok (.iconst 0, 1) := dk_3 (by decide +kernel)
theorem dX12_printed_21 : decode cX12_printed 21 = .ok (.sipush 1000, 3) := dk_17 3 232 (by decide +kernel)
theorem dX12_printed_24 : decode cX12_printed 24 = .ok (.invokestatic 93, 3) := dk_184 0 93 (by decide +kernel)
theorem dX12_printed_27 : decode cX12_printed 27 = .ok (.ifCond .eq 13, 3) := dk_153 0 13 (by decide +kernel)
theorem dX12_printed_30 : decode cX12_printed 30 = .ok (.iload 5, 2) := dk_21 (by decide +kernel)
theorem dX12_printed_32 : decode cX12_printed 32 = .ok (.iconst 1, 1) := dk_4 (by decide +kernel)
theorem dX12_printed_33 : decode cX12_printed 33 = .ok (.iconst 4, 1) := dk_7 (by decide +kernel)
theorem dX12_printed_34 : decode cX12_printed 34 = .ok (.invokestatic 93, 3) := dk_184 0 93 (by decide +kernel)
theorem dX12_printed_37 : decode cX12_printed 37 = .ok (.ifCond .ne 5, 3) := dk_154 0 5 (by decide +kernel)
theorem dX12_printed_40 : decode cX12_printed 40 = .ok (.iconst (-1), 1) := dk_2 (by decide +kernel)
theorem dX12_printed_41 : decode cX12_printed 41 = .ok (.ireturn, 1) := dk_172 (by decide +kernel)
theorem dX12_printed_42 : decode cX12_printed 42 = .ok (.aload_n 0, 1) := dk_42 (by decide +kernel)
theorem dX12_printed_43 : decode cX12_printed 43 = .ok (.invokevirtual 171, 3) := dk_182 0 171 (by decide +kernel)
theorem dX12_printed_46 : decode cX12_printed 46 = .ok (.iconst 0, 1) := dk_3 (by decide +kernel)
theorem dX12_printed_47 : decode cX12_printed 47 = .ok (.istore 6, 2) := dk_54 (by decide +kernel)
theorem dX12_printed_49 : decode cX12_printed 49 = .ok (.iload 6, 2) := dk_21 (by decide +kernel)
theorem dX12_printed_51 : decode cX12_printed 51 = .ok (.bipush 12, 2) := dk_16 12 (by decide +kernel)
theorem dX12_printed_53 : decode cX12_printed 53 = .ok (.if_icmp .ge 17, 3) := dk_162 0 17 (by decide +kernel)
theorem dX12_printed_56 : decode cX12_printed 56 = .ok (.aload_n 0, 1) := dk_42 (by decide +kernel)
theorem dX12_printed_57 : decode cX12_printed 57 = .ok (.getfield 77, 3) := dk_180 0 77 (by decide +kernel)
theorem dX12_printed_60 : decode cX12_printed 60 = .ok (.iload 6, 2) := dk_21 (by decide +kernel)
theorem dX12_printed_62 : decode cX12_printed 62 = .ok (.iconst 0, 1) := dk_3 (by decide +kernel)
theorem dX12_printed_63 : decode cX12_printed 63 = .ok (.iastore, 1) := dk_79 (by decide +kernel)
theorem dX12_printed_64 : decode cX12_printed 64 = .ok (.iinc 6 1, 3) := dk_132 1 (by decide +kernel)
theorem dX12_printed_67 : decode cX12_printed 67 = .ok (.goto (-18), 3) := dk_167 255 238 (by decide +kernel)
theorem dX12_printed_70 : decode cX12_printed 70 = .ok (.iconst 0, 1) := dk_3 (by decide +kernel)
theorem dX12_printed_71 : decode cX12_printed 71 = .ok (.istore 6, 2) := dk_54 (by decide +kernel)
theorem dX12_printed_73 : decode cX12_printed 73 = .ok (.iload 6, 2) := dk_21 (by decide +kernel)
theorem dX12_printed_75 : decode cX12_printed 75 = .ok (.iconst 4, 1) := dk_7 (by decide +kernel)
theorem dX12_printed_76 : decode cX12_printed 76 = .ok (.if_icmp .ge 57, 3) := dk_162 0 57 (by decide +kernel)
theorem dX12_printed_79 : decode cX12_printed 79 = .ok (.iload_n 1, 1) := dk_27 (by decide +kernel)
theorem dX12_printed_80 : decode cX12_printed 80 = .ok (.iload 6, 2) := dk_21 (by decide +kernel)
theorem dX12_printed_82 : decode cX12_printed 82 = .ok (.ishr, 1) := dk_122 (by decide +kernel)
theorem dX12_printed_83 : decode cX12_printed 83 = .ok (.iconst 1, 1) := dk_4 (by decide +kernel)
theorem dX12_printed_84 : decode cX12_printed 84 = .ok (.iand, 1) := dk_126 (by decide +kernel)
theorem dX12_printed_85 : decode cX12_printed 85 = .ok (.ifCond .ne 6, 3) := dk_154 0 6 (by decide +kernel)
theorem dX12_printed_88 : decode cX12_printed 88 = .ok (.goto 39, 3) := dk_167 0 39 (by decide +kernel)
theorem dX12_printed_91 : decode cX12_printed 91 = .ok (.aload_n 0, 1) := dk_42 (by decide +kernel)
theorem dX12_printed_92 : decode cX12_printed 92 = .ok (.iload 6, 2) := dk_21 (by decide +kernel)
theorem dX12_printed_94 : decode cX12_printed 94 = .ok (.iload_n 2, 1) := dk_28 (by decide +kernel)
theorem dX12_printed_95 : decode cX12_printed 95 = .ok (.iload_n 3, 1) := dk_29 (by decide +kernel)
theorem dX12_printed_96 : decode cX12_printed 96 = .ok (.invokevirtual 374, 3) := dk_182 1 118 (by decide +kernel)
theorem dX12_printed_99 : decode cX12_printed 99 = .ok (.istore 7, 2) := dk_54 (by decide +kernel)
theorem dX12_printed_101 : decode cX12_printed 101 = .ok (.aload_n 0, 1) := dk_42 (by decide +kernel)
theorem dX12_printed_102 : decode cX12_printed 102 = .ok (.iload 6, 2) := dk_21 (by decide +kernel)
theorem dX12_printed_104 : decode cX12_printed 104 = .ok (.iload_n 2, 1) := dk_28 (by decide +kernel)
theorem dX12_printed_105 : decode cX12_printed 105 = .ok (.iload_n 3, 1) := dk_29 (by decide +kernel)
theorem dX12_printed_106 : decode cX12_printed 106 = .ok (.iload 7, 2) := dk_21 (by decide +kernel)
theorem dX12_printed_108 : decode cX12_printed 108 = .ok (.iload 4, 2) := dk_21 (by decide +kernel)
theorem dX12_printed_110 : decode cX12_printed 110 = .ok (.invokevirtual 383, 3) := dk_182 1 127 (by decide +kernel)
theorem dX12_printed_113 : decode cX12_printed 113 = .ok (.ifCond .eq 14, 3) := dk_153 0 14 (by decide +kernel)
theorem dX12_printed_116 : decode cX12_printed 116 = .ok (.aload_n 0, 1) := dk_42 (by decide +kernel)
theorem dX12_printed_117 : decode cX12_printed 117 = .ok (.getfield 77, 3) := dk_180 0 77 (by decide +kernel)
theorem dX12_printed_120 : decode cX12_printed 120 = .ok (.iload 7, 2) := dk_21 (by decide +kernel)
theorem dX12_printed_122 : decode cX12_printed 122 = .ok (.dup2, 1) := dk_92 (by decide +kernel)
theorem dX12_printed_123 : decode cX12_printed 123 = .ok (.iaload, 1) := dk_46 (by decide +kernel)
theorem dX12_printed_124 : decode cX12_printed 124 = .ok (.iconst 1, 1) := dk_4 (by decide +kernel)
theorem dX12_printed_125 : decode cX12_printed 125 = .ok (.iadd, 1) := dk_96 (by decide +kernel)
theorem dX12_printed_126 : decode cX12_printed 126 = .ok (.iastore, 1) := dk_79 (by decide +kernel)
theorem dX12_printed_127 : decode cX12_printed 127 = .ok (.iinc 6 1, 3) := dk_132 1 (by decide +kernel)
theorem dX12_printed_130 : decode cX12_printed 130 = .ok (.goto (-57), 3) := dk_167 255 199 (by decide +kernel)
theorem dX12_printed_133 : decode cX12_printed 133 = .ok (.iconst (-1), 1) := dk_2 (by decide +kernel)
theorem dX12_printed_134 : decode cX12_printed 134 = .ok (.istore 6, 2) := dk_54 (by decide +kernel)
theorem dX12_printed_136 : decode cX12_printed 136 = .ok (.iconst 0, 1) := dk_3 (by decide +kernel)
theorem dX12_printed_137 : decode cX12_printed 137 = .ok (.istore 7, 2) := dk_54 (by decide +kernel)
theorem dX12_printed_139 : decode cX12_printed 139 = .ok (.iload 7, 2) := dk_21 (by decide +kernel)
theorem dX12_printed_141 : decode cX12_printed 141 = .ok (.bipush 12, 2) := dk_16 12 (by decide +kernel)
theorem dX12_printed_143 : decode cX12_printed 143 = .ok (.if_icmp .ge 47, 3) := dk_162 0 47 (by decide +kernel)
theorem dX12_printed_146 : decode cX12_printed 146 = .ok (.aload_n 0, 1) := dk_42 (by decide +kernel)
theorem dX12_printed_147 : decode cX12_printed 147 = .ok (.getfield 77, 3) := dk_180 0 77 (by decide +kernel)
theorem dX12_printed_150 : decode cX12_printed 150 = .ok (.iload 7, 2) := dk_21 (by decide +kernel)
theorem dX12_printed_152 : decode cX12_printed 152 = .ok (.iaload, 1) := dk_46 (by decide +kernel)
theorem dX12_printed_153 : decode cX12_printed 153 = .ok (.iload 5, 2) := dk_21 (by decide +kernel)
theorem dX12_printed_155 : decode cX12_printed 155 = .ok (.if_icmp .lt 29, 3) := dk_161 0 29 (by decide +kernel)
theorem dX12_printed_158 : decode cX12_printed 158 = .ok (.iload 6, 2) := dk_21 (by decide +kernel)
theorem dX12_printed_160 : decode cX12_printed 160 = .ok (.ifCond .lt 20, 3) := dk_155 0 20 (by decide +kernel)
theorem dX12_printed_163 : decode cX12_printed 163 = .ok (.aload_n 0, 1) := dk_42 (by decide +kernel)
theorem dX12_printed_164 : decode cX12_printed 164 = .ok (.getfield 77, 3) := dk_180 0 77 (by decide +kernel)
theorem dX12_printed_167 : decode cX12_printed 167 = .ok (.iload 7, 2) := dk_21 (by decide +kernel)
theorem dX12_printed_169 : decode cX12_printed 169 = .ok (.iaload, 1) := dk_46 (by decide +kernel)
theorem dX12_printed_170 : decode cX12_printed 170 = .ok (.aload_n 0, 1) := dk_42 (by decide +kernel)
theorem dX12_printed_171 : decode cX12_printed 171 = .ok (.getfield 77, 3) := dk_180 0 77 (by decide +kernel)
theorem dX12_printed_174 : decode cX12_printed 174 = .ok (.iload 6, 2) := dk_21 (by decide +kernel)
theorem dX12_printed_176 : decode cX12_printed 176 = .ok (.iaload, 1) := dk_46 (by decide +kernel)
theorem dX12_printed_177 : decode cX12_printed 177 = .ok (.if_icmp .le 7, 3) := dk_164 0 7 (by decide +kernel)
theorem dX12_printed_180 : decode cX12_printed 180 = .ok (.iload 7, 2) := dk_21 (by decide +kernel)
theorem dX12_printed_182 : decode cX12_printed 182 = .ok (.istore 6, 2) := dk_54 (by decide +kernel)
theorem dX12_printed_184 : decode cX12_printed 184 = .ok (.iinc 7 1, 3) := dk_132 1 (by decide +kernel)
theorem dX12_printed_187 : decode cX12_printed 187 = .ok (.goto (-48), 3) := dk_167 255 208 (by decide +kernel)
theorem dX12_printed_190 : decode cX12_printed 190 = .ok (.iload 6, 2) := dk_21 (by decide +kernel)
theorem dX12_printed_192 : decode cX12_printed 192 = .ok (.ireturn, 1) := dk_172 (by decide +kernel)
set_option maxRecDepth 8000 in
theorem e_X12_printed {g : ch_G} {A R : Nat} (hC : ck_Cx g A R) {d : Nat} {K : Option ck_V → ck_W → Prop} {w : ck_W} {a1 a2 a3 a4 a5 : Int} (h : ck_i ((ck_shl 1 (w 77 0)) - 1) ∧ ((0 ≤ a1 ∧ a1 ≤ ((ck_shl 1 (w 77 0)) - 1) → (0 ≤ a4 ∧ a4 ≤ 1000 → (1 ≤ a5 ∧ a5 ≤ 4 → ck_CN (ch_C g A R) d mX12_windAll [.inr (.inr 76)] w (fun w3 => ck_At (ch_C g A R) (d + 1) mX12_printed K 49 [some (.inr (.inr 76)), some (.inl a1), some (.inl a2), some (.inl a3), some (.inl a4), some (.inl a5), some (.inl 0), none] [] w3)) ∧ (¬ (1 ≤ a5 ∧ a5 ≤ 4) → K (some (.inl (-1))) w)) ∧ (¬ (0 ≤ a4 ∧ a4 ≤ 1000) → K (some (.inl (-1))) w)) ∧ (¬ (0 ≤ a1 ∧ a1 ≤ ((ck_shl 1 (w 77 0)) - 1)) → K (some (.inl (-1))) w))) : ck_Ex (ch_C g A R) (d + 1) mX12_printed [.inr (.inr 76), .inl a1, .inl a2, .inl a3, .inl a4, .inl a5] w K :=
  ck_entry hC.1 [some (.inr (.inr 76)), some (.inl a1), some (.inl a2), some (.inl a3), some (.inl a4), some (.inl a5), none, none] (by decide) (Nat.le_of_ble_eq_true rfl) rfl (fun q => q) (ck_in (fun hl => (ck_iload_n 1 rfl 1 dX12_printed_0 rfl rfl (ck_iconst 2 rfl dX12_printed_1 rfl (ck_iconst 3 rfl dX12_printed_2 rfl (ck_aload_n 4 rfl 0 dX12_printed_3 rfl rfl (ck_getr 7 rfl dX12_printed_4 fl_X12_7 sh_76 rfl (ck_iconst 8 rfl dX12_printed_7 rfl (ck_iald 9 rfl dX12_printed_8 sh_77 (shn_77 hC) (by decide) _ rfl (fun (q1 : ck_i (w 77 0)) => (ck_ishl 10 rfl dX12_printed_9 (ck_iconst 11 rfl dX12_printed_10 rfl (ck_isub 12 rfl dX12_printed_11 (have h15 := h; have o2 := h15.1; have h14 := h15.2; (have h13 := h14; ck_callS 15 rfl [.inl a1, .inl 0, .inl ((ck_shl 1 (w 77 0)) - 1)] [] dX12_printed_12 cs_X12_93 rfl rfl (Nat.le_of_ble_eq_true rfl) (And.intro hl.2.1 (And.intro (show ck_i 0 by decide) (And.intro o2 True.intro))) (p_X12_isIn hC (fun c11 _ => (ck_if_eq 18 rfl 40 dX12_printed_15 rfl (by decide) (fun q => absurd q (by decide)) (fun _ => (ck_iload 20 rfl dX12_printed_18 rfl (ck_iconst 21 rfl dX12_printed_20 rfl (ck_sipush 24 rfl dX12_printed_21 rfl (have h10 := (h13.1 c11); ck_callS 27 rfl [.inl a4, .inl 0, .inl 1000] [] dX12_printed_24 cs_X12_93 rfl rfl (Nat.le_of_ble_eq_true rfl) (And.intro hl.2.2.2.2.1 (And.intro (show ck_i 0 by decide) (And.intro (show ck_i 1000 by decide) True.intro))) (p_X12_isIn hC (fun c8 _ => (ck_if_eq 30 rfl 40 dX12_printed_27 rfl (by decide) (fun q => absurd q (by decide)) (fun _ => (ck_iload 32 rfl dX12_printed_30 rfl (ck_iconst 33 rfl dX12_printed_32 rfl (ck_iconst 34 rfl dX12_printed_33 rfl (have h7 := (h10.1 c8); ck_callS 37 rfl [.inl a5, .inl 1, .inl 4] [] dX12_printed_34 cs_X12_93 rfl rfl (Nat.le_of_ble_eq_true rfl) (And.intro hl.2.2.2.2.2.1 (And.intro (show ck_i 1 by decide) (And.intro (show ck_i 4 by decide) True.intro))) (p_X12_isIn hC (fun c5 _ => (ck_if_ne 40 rfl 42 dX12_printed_37 rfl (by decide) (fun _ => (ck_aload_n 43 rfl 0 dX12_printed_42 rfl rfl (ck_callV 46 rfl [] [] dX12_printed_43 cv_X12_171 sh_76 rfl rfl (Nat.le_of_ble_eq_true rfl) True.intro (ck_mN (h7.1 c5) (fun w3 h4 => (ck_iconst 47 rfl dX12_printed_46 rfl (ck_istore 49 rfl [some (.inr (.inr 76)), some (.inl a1), some (.inl a2), some (.inl a3), some (.inl a4), some (.inl a5), some (.inl 0), none] dX12_printed_47 (Nat.le_of_ble_eq_true rfl) rfl rfl (show ck_i 0 by decide) h4))))))) (fun q => absurd q (by decide)))) (fun c6 _ => (ck_if_ne 40 rfl 42 dX12_printed_37 rfl (by decide) (fun q => absurd q (by decide)) (fun _ => (ck_iconst 41 rfl dX12_printed_40 rfl (ck_iret dX12_printed_41 rfl (show ck_i (-1) by decide) (h7.2 c6)))))))))))))) (fun c9 _ => (ck_if_eq 30 rfl 40 dX12_printed_27 rfl (by decide) (fun _ => (ck_iconst 41 rfl dX12_printed_40 rfl (ck_iret dX12_printed_41 rfl (show ck_i (-1) by decide) (h10.2 c9)))) (fun q => absurd q (by decide)))))))))))) (fun c12 _ => (ck_if_eq 18 rfl 40 dX12_printed_15 rfl (by decide) (fun _ => (ck_iconst 41 rfl dX12_printed_40 rfl (ck_iret dX12_printed_41 rfl (show ck_i (-1) by decide) (h13.2 c12)))) (fun q => absurd q (by decide))))))))))))))))))))
set_option maxRecDepth 8000 in
theorem r_X12_printed_49 {g : ch_G} {A R : Nat} (hC : ck_Cx g A R) {d : Nat} {K : Option ck_V → ck_W → Prop} {w : ck_W} {a1 a2 a3 a4 a5 a6 : Int} (h : (12 ≤ a6 → ck_At (ch_C g A R) (d + 1) mX12_printed K 73 [some (.inr (.inr 76)), some (.inl a1), some (.inl a2), some (.inl a3), some (.inl a4), some (.inl a5), some (.inl 0), none] [] w) ∧ (¬ 12 ≤ a6 → (0 ≤ a6 ∧ a6 < 12) ∧ (ck_i (a6 + 1) ∧ (ck_At (ch_C g A R) (d + 1) mX12_printed K 49 [some (.inr (.inr 76)), some (.inl a1), some (.inl a2), some (.inl a3), some (.inl a4), some (.inl a5), some (.inl (a6 + 1)), none] [] (ck_up w 96 a6 0))))) : ck_At (ch_C g A R) (d + 1) mX12_printed K 49 [some (.inr (.inr 76)), some (.inl a1), some (.inl a2), some (.inl a3), some (.inl a4), some (.inl a5), some (.inl a6), none] [] w :=
  ck_in (fun hl => (ck_iload 51 rfl dX12_printed_49 rfl (ck_bipush 53 rfl dX12_printed_51 rfl (ck_icmp_ge 56 rfl 70 dX12_printed_53 rfl hl.2.2.2.2.2.2.1 (show ck_i 12 by decide) (fun c3 => (ck_iconst 71 rfl dX12_printed_70 rfl (ck_istore 73 rfl [some (.inr (.inr 76)), some (.inl a1), some (.inl a2), some (.inl a3), some (.inl a4), some (.inl a5), some (.inl 0), none] dX12_printed_71 (Nat.le_of_ble_eq_true rfl) rfl rfl (show ck_i 0 by decide) (h.1 c3)))) (fun c4 => (ck_aload_n 57 rfl 0 dX12_printed_56 rfl rfl (ck_getr 60 rfl dX12_printed_57 fl_X12_77 sh_76 rfl (ck_iload 62 rfl dX12_printed_60 rfl (ck_iconst 63 rfl dX12_printed_62 rfl (have h6 := (h.2 c4); have o1 := h6.1; have h5 := h6.2; (ck_iast 64 rfl dX12_printed_63 sh_96 (shn_96 hC) o1 (show ck_i 0 by decide) (have h8 := h5; have o2 := h8.1; have h7 := h8.2; (ck_iinc 67 rfl [some (.inr (.inr 76)), some (.inl a1), some (.inl a2), some (.inl a3), some (.inl a4), some (.inl a5), some (.inl (a6 + 1)), none] dX12_printed_64 rfl (Nat.le_of_ble_eq_true rfl) rfl rfl o2 (ck_goto 49 dX12_printed_67 rfl h7))))))))))))))
set_option maxRecDepth 8000 in
theorem r_X12_printed_73 {g : ch_G} {A R : Nat} (hC : ck_Cx g A R) {d : Nat} {K : Option ck_V → ck_W → Prop} {w : ck_W} {a1 a2 a3 a4 a5 a6 : Int} (h : (4 ≤ a6 → ck_At (ch_C g A R) (d + 1) mX12_printed K 139 [some (.inr (.inr 76)), none, none, none, none, some (.inl a5), some (.inl (-1)), some (.inl 0)] [] w) ∧ (¬ 4 ≤ a6 → (¬ (ck_and (ck_shr a1 a6) 1) = 0 → ck_CI (ch_C g A R) d mX12_join [.inr (.inr 76), .inl a6, .inl a2, .inl a3] w (fun v2 w1 => ck_CI (ch_C g A R) d mX12_counts [.inr (.inr 76), .inl a6, .inl a2, .inl a3, .inl v2, .inl a4] w1 (fun v6 w5 => (v6 = 0 → ck_i (a6 + 1) ∧ (ck_At (ch_C g A R) (d + 1) mX12_printed K 73 [some (.inr (.inr 76)), some (.inl a1), some (.inl a2), some (.inl a3), some (.inl a4), some (.inl a5), some (.inl (a6 + 1)), none] [] w5)) ∧ (¬ v6 = 0 → (0 ≤ v2 ∧ v2 < 12) ∧ (ck_i ((w5 96 v2) + 1) ∧ (ck_i (a6 + 1) ∧ (ck_At (ch_C g A R) (d + 1) mX12_printed K 73 [some (.inr (.inr 76)), some (.inl a1), some (.inl a2), some (.inl a3), some (.inl a4), some (.inl a5), some (.inl (a6 + 1)), none] [] (ck_up w5 96 v2 ((w5 96 v2) + 1))))))))) ∧ ((ck_and (ck_shr a1 a6) 1) = 0 → ck_i (a6 + 1) ∧ (ck_At (ch_C g A R) (d + 1) mX12_printed K 73 [some (.inr (.inr 76)), some (.inl a1), some (.inl a2), some (.inl a3), some (.inl a4), some (.inl a5), some (.inl (a6 + 1)), none] [] w)))) : ck_At (ch_C g A R) (d + 1) mX12_printed K 73 [some (.inr (.inr 76)), some (.inl a1), some (.inl a2), some (.inl a3), some (.inl a4), some (.inl a5), some (.inl a6), none] [] w :=
  ck_in (fun hl => (ck_iload 75 rfl dX12_printed_73 rfl (ck_iconst 76 rfl dX12_printed_75 rfl (ck_icmp_ge 79 rfl 133 dX12_printed_76 rfl hl.2.2.2.2.2.2.1 (show ck_i 4 by decide) (fun c19 => (ck_iconst 134 rfl dX12_printed_133 rfl (ck_istore 136 rfl [some (.inr (.inr 76)), some (.inl a1), some (.inl a2), some (.inl a3), some (.inl a4), some (.inl a5), some (.inl (-1)), none] dX12_printed_134 (Nat.le_of_ble_eq_true rfl) rfl rfl (show ck_i (-1) by decide) (ck_iconst 137 rfl dX12_printed_136 rfl (ck_istore 139 rfl [some (.inr (.inr 76)), some (.inl a1), some (.inl a2), some (.inl a3), some (.inl a4), some (.inl a5), some (.inl (-1)), some (.inl 0)] dX12_printed_137 (Nat.le_of_ble_eq_true rfl) rfl rfl (show ck_i 0 by decide) (ck_drop [some (.inr (.inr 76)), none, none, none, none, some (.inl a5), some (.inl (-1)), some (.inl 0)] (And.intro rfl (And.intro rfl (And.intro rfl (And.intro rfl True.intro)))) (h.1 c19))))))) (fun c20 => (ck_iload_n 80 rfl 1 dX12_printed_79 rfl rfl (ck_iload 82 rfl dX12_printed_80 rfl (ck_ishr 83 rfl dX12_printed_82 (ck_iconst 84 rfl dX12_printed_83 rfl (ck_iand 85 rfl dX12_printed_84 (have h21 := (h.2 c20); (ck_if_ne 88 rfl 91 dX12_printed_85 rfl (ck_rng _) (fun c17 => (ck_aload_n 92 rfl 0 dX12_printed_91 rfl rfl (ck_iload 94 rfl dX12_printed_92 rfl (ck_iload_n 95 rfl 2 dX12_printed_94 rfl rfl (ck_iload_n 96 rfl 3 dX12_printed_95 rfl rfl (ck_callV 99 rfl [.inl a6, .inl a2, .inl a3] [] dX12_printed_96 cv_X12_374 sh_76 rfl rfl (Nat.le_of_ble_eq_true rfl) (And.intro hl.2.2.2.2.2.2.1 (And.intro hl.2.2.1 (And.intro hl.2.2.2.1 True.intro))) (ck_mI (h21.1 c17) (fun v2 w1 q3 h4 => (ck_istore 101 rfl [some (.inr (.inr 76)), some (.inl a1), some (.inl a2), some (.inl a3), some (.inl a4), some (.inl a5), some (.inl a6), some (.inl v2)] dX12_printed_99 (Nat.le_of_ble_eq_true rfl) rfl rfl q3 (ck_aload_n 102 rfl 0 dX12_printed_101 rfl rfl (ck_iload 104 rfl dX12_printed_102 rfl (ck_iload_n 105 rfl 2 dX12_printed_104 rfl rfl (ck_iload_n 106 rfl 3 dX12_printed_105 rfl rfl (ck_iload 108 rfl dX12_printed_106 rfl (ck_iload 110 rfl dX12_printed_108 rfl (ck_callV 113 rfl [.inl a6, .inl a2, .inl a3, .inl v2, .inl a4] [] dX12_printed_110 cv_X12_383 sh_76 rfl rfl (Nat.le_of_ble_eq_true rfl) (And.intro hl.2.2.2.2.2.2.1 (And.intro hl.2.2.1 (And.intro hl.2.2.2.1 (And.intro q3 (And.intro hl.2.2.2.2.1 True.intro))))) (ck_mI h4 (fun v6 w5 q7 h8 => (ck_if_eq 116 rfl 127 dX12_printed_113 rfl q7 (fun c14 => (have h23 := (h8.1 c14); have o9 := h23.1; have h22 := h23.2; (ck_iinc 130 rfl [some (.inr (.inr 76)), some (.inl a1), some (.inl a2), some (.inl a3), some (.inl a4), some (.inl a5), some (.inl (a6 + 1)), some (.inl v2)] dX12_printed_127 rfl (Nat.le_of_ble_eq_true rfl) rfl rfl o9 (ck_goto 73 dX12_printed_130 rfl (ck_drop [some (.inr (.inr 76)), some (.inl a1), some (.inl a2), some (.inl a3), some (.inl a4), some (.inl a5), some (.inl (a6 + 1)), none] (And.intro rfl (And.intro rfl (And.intro rfl (And.intro rfl (And.intro rfl (And.intro rfl (And.intro rfl True.intro))))))) h22))))) (fun c15 => (ck_aload_n 117 rfl 0 dX12_printed_116 rfl rfl (ck_getr 120 rfl dX12_printed_117 fl_X12_77 sh_76 rfl (ck_iload 122 rfl dX12_printed_120 rfl (ck_dup2 123 rfl dX12_printed_122 rfl rfl (have h25 := (h8.2 c15); have o10 := h25.1; have h24 := h25.2; (ck_iald 124 rfl dX12_printed_123 sh_96 (shn_96 hC) o10 _ rfl (fun (q11 : ck_i (w5 96 v2)) => (ck_iconst 125 rfl dX12_printed_124 rfl (ck_iadd 126 rfl dX12_printed_125 (have h27 := h24; have o12 := h27.1; have h26 := h27.2; (ck_iast 127 rfl dX12_printed_126 sh_96 (shn_96 hC) o10 o12 (have h29 := h26; have o13 := h29.1; have h28 := h29.2; (ck_iinc 130 rfl [some (.inr (.inr 76)), some (.inl a1), some (.inl a2), some (.inl a3), some (.inl a4), some (.inl a5), some (.inl (a6 + 1)), some (.inl v2)] dX12_printed_127 rfl (Nat.le_of_ble_eq_true rfl) rfl rfl o13 (ck_goto 73 dX12_printed_130 rfl (ck_drop [some (.inr (.inr 76)), some (.inl a1), some (.inl a2), some (.inl a3), some (.inl a4), some (.inl a5), some (.inl (a6 + 1)), none] (And.intro rfl (And.intro rfl (And.intro rfl (And.intro rfl (And.intro rfl (And.intro rfl (And.intro rfl True.intro))))))) h28))))))))))))))))))))))))))))))))))) (fun c18 => (ck_goto 127 dX12_printed_88 rfl (have h31 := (h21.2 c18); have o16 := h31.1; have h30 := h31.2; (ck_iinc 130 rfl [some (.inr (.inr 76)), some (.inl a1), some (.inl a2), some (.inl a3), some (.inl a4), some (.inl a5), some (.inl (a6 + 1)), none] dX12_printed_127 rfl (Nat.le_of_ble_eq_true rfl) rfl rfl o16 (ck_goto 73 dX12_printed_130 rfl h30)))))))))))))))))
set_option maxRecDepth 8000 in
theorem r_X12_printed_139 {g : ch_G} {A R : Nat} (hC : ck_Cx g A R) {d : Nat} {K : Option ck_V → ck_W → Prop} {w : ck_W} {a5 a6 a7 : Int} (h : (12 ≤ a7 → K (some (.inl a6)) w) ∧ (¬ 12 ≤ a7 → (0 ≤ a7 ∧ a7 < 12) ∧ (((w 96 a7) < a5 → ck_i (a7 + 1) ∧ (ck_At (ch_C g A R) (d + 1) mX12_printed K 139 [some (.inr (.inr 76)), none, none, none, none, some (.inl a5), some (.inl a6), some (.inl (a7 + 1))] [] w)) ∧ (¬ (w 96 a7) < a5 → (a6 < 0 → ck_i (a7 + 1) ∧ (ck_At (ch_C g A R) (d + 1) mX12_printed K 139 [some (.inr (.inr 76)), none, none, none, none, some (.inl a5), some (.inl a7), some (.inl (a7 + 1))] [] w)) ∧ (¬ a6 < 0 → (0 ≤ a6 ∧ a6 < 12) ∧ (((w 96 a7) ≤ (w 96 a6) → ck_i (a7 + 1) ∧ (ck_At (ch_C g A R) (d + 1) mX12_printed K 139 [some (.inr (.inr 76)), none, none, none, none, some (.inl a5), some (.inl a6), some (.inl (a7 + 1))] [] w)) ∧ (¬ (w 96 a7) ≤ (w 96 a6) → ck_i (a7 + 1) ∧ (ck_At (ch_C g A R) (d + 1) mX12_printed K 139 [some (.inr (.inr 76)), none, none, none, none, some (.inl a5), some (.inl a7), some (.inl (a7 + 1))] [] w)))))))) : ck_At (ch_C g A R) (d + 1) mX12_printed K 139 [some (.inr (.inr 76)), none, none, none, none, some (.inl a5), some (.inl a6), some (.inl a7)] [] w :=
  ck_in (fun hl => (ck_iload 141 rfl dX12_printed_139 rfl (ck_bipush 143 rfl dX12_printed_141 rfl (ck_icmp_ge 146 rfl 190 dX12_printed_143 rfl hl.2.2.2.1 (show ck_i 12 by decide) (fun c16 => (ck_iload 192 rfl dX12_printed_190 rfl (ck_iret dX12_printed_192 rfl hl.2.2.1 (h.1 c16)))) (fun c17 => (ck_aload_n 147 rfl 0 dX12_printed_146 rfl rfl (ck_getr 150 rfl dX12_printed_147 fl_X12_77 sh_76 rfl (ck_iload 152 rfl dX12_printed_150 rfl (have h19 := (h.2 c17); have o1 := h19.1; have h18 := h19.2; (ck_iald 153 rfl dX12_printed_152 sh_96 (shn_96 hC) o1 _ rfl (fun (q2 : ck_i (w 96 a7)) => (ck_iload 155 rfl dX12_printed_153 rfl (ck_icmp_lt 158 rfl 184 dX12_printed_155 rfl q2 hl.2.1 (fun c14 => (have h21 := (h18.1 c14); have o3 := h21.1; have h20 := h21.2; (ck_iinc 187 rfl [some (.inr (.inr 76)), none, none, none, none, some (.inl a5), some (.inl a6), some (.inl (a7 + 1))] dX12_printed_184 rfl (Nat.le_of_ble_eq_true rfl) rfl rfl o3 (ck_goto 139 dX12_printed_187 rfl h20)))) (fun c15 => (ck_iload 160 rfl dX12_printed_158 rfl (have h22 := (h18.2 c15); (ck_if_lt 163 rfl 180 dX12_printed_160 rfl hl.2.2.1 (fun c12 => (ck_iload 182 rfl dX12_printed_180 rfl (ck_istore 184 rfl [some (.inr (.inr 76)), none, none, none, none, some (.inl a5), some (.inl a7), some (.inl a7)] dX12_printed_182 (Nat.le_of_ble_eq_true rfl) rfl rfl hl.2.2.2.1 (have h24 := (h22.1 c12); have o4 := h24.1; have h23 := h24.2; (ck_iinc 187 rfl [some (.inr (.inr 76)), none, none, none, none, some (.inl a5), some (.inl a7), some (.inl (a7 + 1))] dX12_printed_184 rfl (Nat.le_of_ble_eq_true rfl) rfl rfl o4 (ck_goto 139 dX12_printed_187 rfl h23)))))) (fun c13 => (ck_aload_n 164 rfl 0 dX12_printed_163 rfl rfl (ck_getr 167 rfl dX12_printed_164 fl_X12_77 sh_76 rfl (ck_iload 169 rfl dX12_printed_167 rfl (ck_iald 170 rfl dX12_printed_169 sh_96 (shn_96 hC) o1 _ rfl (fun (q5 : ck_i (w 96 a7)) => (ck_aload_n 171 rfl 0 dX12_printed_170 rfl rfl (ck_getr 174 rfl dX12_printed_171 fl_X12_77 sh_76 rfl (ck_iload 176 rfl dX12_printed_174 rfl (have h26 := (h22.2 c13); have o6 := h26.1; have h25 := h26.2; (ck_iald 177 rfl dX12_printed_176 sh_96 (shn_96 hC) o6 _ rfl (fun (q7 : ck_i (w 96 a6)) => (ck_icmp_le 180 rfl 184 dX12_printed_177 rfl q5 q7 (fun c10 => (have h28 := (h25.1 c10); have o8 := h28.1; have h27 := h28.2; (ck_iinc 187 rfl [some (.inr (.inr 76)), none, none, none, none, some (.inl a5), some (.inl a6), some (.inl (a7 + 1))] dX12_printed_184 rfl (Nat.le_of_ble_eq_true rfl) rfl rfl o8 (ck_goto 139 dX12_printed_187 rfl h27)))) (fun c11 => (ck_iload 182 rfl dX12_printed_180 rfl (ck_istore 184 rfl [some (.inr (.inr 76)), none, none, none, none, some (.inl a5), some (.inl a7), some (.inl a7)] dX12_printed_182 (Nat.le_of_ble_eq_true rfl) rfl rfl hl.2.2.2.1 (have h30 := (h25.2 c11); have o9 := h30.1; have h29 := h30.2; (ck_iinc 187 rfl [some (.inr (.inr 76)), none, none, none, none, some (.inl a5), some (.inl a7), some (.inl (a7 + 1))] dX12_printed_184 rfl (Nat.le_of_ble_eq_true rfl) rfl rfl o9 (ck_goto 139 dX12_printed_187 rfl h29))))))))))))))))))))))))))))))))))))
theorem M_printed {g : ch_G} {A R : Nat} (hC : ck_Cx g A R) {d : Nat} {K : Option ck_V → ck_W → Prop} {w : ck_W} {a1 a2 a3 a4 a5 : Int} (hI : rm_I A R w) (h : ∀ v w', rm_q w w' → K (some (.inl v)) w') : ck_Ex (ch_C g A R) (d + 7) mX12_printed [.inr (.inr 76), .inl a1, .inl a2, .inl a3, .inl a4, .inl a5] w K := by
  refine ck_exi (fun ha => ?_)
  have f0 := rm_c0 hI.2.2.2.1
  have i3 : ck_i a3 := ha.2.2.2.1
  have sh : ck_shl 1 (w 77 0) = 2 ^ (w 77 0).toNat ∧ 1 ≤ ck_shl 1 (w 77 0) ∧ ck_shl 1 (w 77 0) ≤ 16 := by
    have e := kb_shl1 (k := w 77 0) (by omega) (by omega)
    rw [e]
    refine ⟨rfl, ?_⟩
    rcases (by omega : w 77 0 = 0 ∨ w 77 0 = 1 ∨ w 77 0 = 2 ∨ w 77 0 = 3 ∨ w 77 0 = 4) with e | e | e | e | e <;> rw [e] <;> decide
  refine e_X12_printed hC ⟨by constructor <;> omega, fun q1 => ⟨fun q2 => ⟨fun q3 => ?_, fun _ => h _ _ rm_q_rf⟩, fun _ => h _ _ rm_q_rf⟩, fun _ => h _ _ rm_q_rf⟩
  refine S_X12_windAll hC hI (fun w1 i1 i2 => ⟨rfl, ?_⟩)
  have s1 : rm_st A R w w1 := ⟨rm_q_wf i1, rm_I_q hI (rm_q_wf i1), rm_wa_of hC hI i1 i2⟩
  have l3 : ∀ (m : Nat) (a6 a7 : Int) (u : ck_W), 12 - a7 = m → 0 ≤ a7 → (-1 ≤ a6 ∧ a6 < 12) → rm_q w u → ck_At (ch_C g A R) (d + 7) mX12_printed K 139 [some (.inr (.inr 76)), none, none, none, none, some (.inl a5), some (.inl a6), some (.inl a7)] [] u := by
    intro m
    induction m with
    | zero =>
      intro a6 a7 u b1 b2 b3 b4
      exact r_X12_printed_139 hC ⟨fun _ => h _ _ b4, fun z => absurd (by omega) z⟩
    | succ m ih =>
      intro a6 a7 u b1 b2 b3 b4
      have o := ih a6 (a7 + 1) u (by omega) (by omega) b3 b4
      have n := ih a7 (a7 + 1) u (by omega) (by omega) (by omega) b4
      exact r_X12_printed_139 hC ⟨fun z => absurd z (by omega), fun _ => ⟨by omega, fun _ => ⟨by constructor <;> omega, o⟩, fun _ => ⟨fun _ => ⟨by constructor <;> omega, n⟩, fun _ => ⟨by omega, fun _ => ⟨by constructor <;> omega, o⟩, fun _ => ⟨by constructor <;> omega, n⟩⟩⟩⟩⟩
  have up96 : ∀ (u : ck_W) (i v : Int), rm_st A R w u → rm_st A R w (ck_up u 96 i v) := fun u i v s => ⟨rm_q_up s.1 (by decide), rm_I_c s.2.1 rfl rfl rfl rfl, rm_wa_c s.2.2 rfl rfl rfl rfl⟩
  have l2 : ∀ (m : Nat) (a6 : Int) (u : ck_W), 4 - a6 = m → 0 ≤ a6 → rm_st A R w u → (∀ j, 0 ≤ j → j < 12 → 0 ≤ u 96 j ∧ u 96 j ≤ a6) → ck_At (ch_C g A R) (d + 7) mX12_printed K 73 [some (.inr (.inr 76)), some (.inl a1), some (.inl a2), some (.inl a3), some (.inl a4), some (.inl a5), some (.inl a6), none] [] u := by
    intro m
    induction m with
    | zero =>
      intro a6 u b1 b2 b3 b4
      exact r_X12_printed_73 hC ⟨fun _ => l3 12 (-1) 0 u (by omega) (by omega) (by omega) b3.1, fun z => absurd (by omega) z⟩
    | succ m ih =>
      intro a6 u b1 b2 b3 b4
      have e77 := b3.1.2.1
      refine r_X12_printed_73 hC ⟨fun z => absurd z (by omega), fun _ => ⟨fun z => ?_, fun _ => ⟨by constructor <;> omega, ih _ _ (by omega) (by omega) b3 (fun j j0 j1 => by have := b4 j j0 j1; omega)⟩⟩⟩
      -- the reader is one that there is
      have rd : a6 < w 77 0 := by
        refine Classical.byContradiction (fun y => z ?_)
        rw [kb_bit q1.1 (by omega) b2 (by omega)]
        have p : a1 / 2 ^ a6.toNat = 0 := by
          refine Int.ediv_eq_zero_of_lt q1.1 ?_
          have : (2 : Nat) ^ (w 77 0).toNat ≤ 2 ^ a6.toNat := Nat.pow_le_pow_right (by decide) (by omega)
          have c1 : ((2 ^ (w 77 0).toNat : Nat) : Int) = (2 : Int) ^ (w 77 0).toNat := by simp
          have c2 : ((2 ^ a6.toNat : Nat) : Int) = (2 : Int) ^ a6.toNat := by simp
          rw [← c2]
          have s := sh.1
          rw [← c1] at s
          omega
        rw [p]; rfl
      refine S_X12_join hC ⟨rm_q_rf, b3.2⟩ (by rw [e77]; omega) i3 (fun v u' c1 c2 c3 c4 c5 => ⟨_, rfl, fun _ => ?_⟩)
      have q' := rm_q_tr b3.1 c1.1
      have e77' := q'.2.1
      have e2 := c1.1.2.1
      have u96 : u' 96 = u 96 := c2 96 (by decide) (by decide) (by decide) (by decide) (by decide)
      have s' : rm_st A R w u' := ⟨q', c1.2⟩
      refine S_X12_counts hC c1.2.1 (by omega) (by rw [e2]; exact c3) (by rw [e2]; exact c4) (fun y => by rw [e2]; exact (c5 y).2) ⟨_, rfl, fun _ => ⟨fun _ => ⟨by constructor <;> omega, ih _ _ (by omega) (by omega) s' (fun j j0 j1 => by rw [u96]; have := b4 j j0 j1; omega)⟩, fun y => absurd rfl y⟩⟩ (fun y => ⟨_, rfl, fun _ => ⟨fun y2 => absurd y2 (by decide), fun _ => ?_⟩⟩)
      have vb := b4 v (by omega) (by rw [e77] at c3; omega)
      rw [u96]
      refine ⟨by rw [e77] at c3; omega, by constructor <;> omega, by constructor <;> omega, ih _ _ (by omega) (by omega) (up96 _ _ _ s') (fun j j0 j1 => ?_)⟩
      by_cases e : j = v
      · subst e; rw [ck_up_eq]; omega
      · rw [ck_up_nj e, u96]; have := b4 j j0 j1; omega
  have l1 : ∀ (m : Nat) (a6 : Int) (u : ck_W), 12 - a6 = m → 0 ≤ a6 → rm_st A R w u → (∀ j, 0 ≤ j → j < a6 → u 96 j = 0) → ck_At (ch_C g A R) (d + 7) mX12_printed K 49 [some (.inr (.inr 76)), some (.inl a1), some (.inl a2), some (.inl a3), some (.inl a4), some (.inl a5), some (.inl a6), none] [] u := by
    intro m
    induction m with
    | zero =>
      intro a6 u b1 b2 b3 b4
      exact r_X12_printed_49 hC ⟨fun _ => l2 4 0 u (by omega) (by omega) b3 (fun j j0 j1 => by rw [b4 j j0 (by omega)]; omega), fun z => absurd (by omega) z⟩
    | succ m ih =>
      intro a6 u b1 b2 b3 b4
      refine r_X12_printed_49 hC ⟨fun z => absurd z (by omega), fun _ => ⟨by omega, by constructor <;> omega, ih _ _ (by omega) (by omega) (up96 _ _ _ b3) (fun j j0 j1 => ?_)⟩⟩
      by_cases e : j = a6
      · subst e; rw [ck_up_eq]
      · rw [ck_up_nj e]; exact b4 j j0 (by omega)
  exact l1 12 0 w1 (by omega) (by omega) s1 (fun j j0 j1 => by omega)
