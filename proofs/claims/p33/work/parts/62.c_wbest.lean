/-! ===== the class: a slice's best ===== -/
theorem cw_shw {A : Nat} {w : ck_W} (hW : cw_tab A w) {c p : Int} (hc : 0 ≤ c ∧ c < cw_N A) (hp : 0 ≤ p ∧ p < (A : Int)) : w 52 (c * (A : Int) + p) = cw_sh A c p.toNat := by
  have e := (hW.2.1 c hc.1 hc.2).1 p.toNat (by omega)
  rw [show ((p.toNat : Nat) : Int) = p by omega] at e
  exact e
theorem dX10_withWindow_0 : decode cX10_withWindow 0 = .ok (.aload_n 0, 1) := dk_42 (by decide +kernel)
theorem dX10_withWindow_1 : decode cX10_withWindow 1 = .ok (.getfield 72, 3) := dk_180 0 72 (by decide +kernel)
theorem dX10_withWindow_4 : decode cX10_withWindow 4 = .ok (.iload_n 1, 1) := dk_27 (by decide +kernel)
theorem dX10_withWindow_5 : decode cX10_withWindow 5 = .ok (.aload_n 0, 1) := dk_42 (by decide +kernel)
theorem dX10_withWindow_6 : decode cX10_withWindow 6 = .ok (.getfield 28, 3) := dk_180 0 28 (by decide +kernel)
theorem dX10_withWindow_9 : decode cX10_withWindow 9 = .ok (.getfield 66, 3) := dk_180 0 66 (by decide +kernel)
theorem dX10_withWindow_12 : decode cX10_withWindow 12 = .ok (.imul, 1) := dk_104 (by decide +kernel)
theorem dX10_withWindow_13 : decode cX10_withWindow 13 = .ok (.aload_n 0, 1) := dk_42 (by decide +kernel)
theorem dX10_withWindow_14 : decode cX10_withWindow 14 = .ok (.getfield 48, 3) := dk_180 0 48 (by decide +kernel)
theorem dX10_withWindow_17 : decode cX10_withWindow 17 = .ok (.imul, 1) := dk_104 (by decide +kernel)
theorem dX10_withWindow_18 : decode cX10_withWindow 18 = .ok (.iload_n 2, 1) := dk_28 (by decide +kernel)
theorem dX10_withWindow_19 : decode cX10_withWindow 19 = .ok (.iadd, 1) := dk_96 (by decide +kernel)
theorem dX10_withWindow_20 : decode cX10_withWindow 20 = .ok (.iaload, 1) := dk_46 (by decide +kernel)
theorem dX10_withWindow_21 : decode cX10_withWindow 21 = .ok (.istore_n 3, 1) := dk_62 (by decide +kernel)
theorem dX10_withWindow_22 : decode cX10_withWindow 22 = .ok (.iload_n 2, 1) := dk_28 (by decide +kernel)
theorem dX10_withWindow_23 : decode cX10_withWindow 23 = .ok (.aload_n 0, 1) := dk_42 (by decide +kernel)
theorem dX10_withWindow_24 : decode cX10_withWindow 24 = .ok (.getfield 48, 3) := dk_180 0 48 (by decide +kernel)
theorem dX10_withWindow_27 : decode cX10_withWindow 27 = .ok (.idiv, 1) := dk_108 (by decide +kernel)
theorem dX10_withWindow_28 : decode cX10_withWindow 28 = .ok (.istore 4, 2) := dk_54 (by decide +kernel)
theorem dX10_withWindow_30 : decode cX10_withWindow 30 = .ok (.iload_n 2, 1) := dk_28 (by decide +kernel)
theorem dX10_withWindow_31 : decode cX10_withWindow 31 = .ok (.aload_n 0, 1) := dk_42 (by decide +kernel)
theorem dX10_withWindow_32 : decode cX10_withWindow 32 = .ok (.getfield 48, 3) := dk_180 0 48 (by decide +kernel)
theorem dX10_withWindow_35 : decode cX10_withWindow 35 = .ok (.irem, 1) := dk_112 (by decide +kernel)
theorem dX10_withWindow_36 : decode cX10_withWindow 36 = .ok (.aload_n 0, 1) := dk_42 (by decide +kernel)
theorem dX10_withWindow_37 : decode cX10_withWindow 37 = .ok (.getfield 28, 3) := dk_180 0 28 (by decide +kernel)
theorem dX10_withWindow_40 : decode cX10_withWindow 40 = .ok (.getfield 32, 3) := dk_180 0 32 (by decide +kernel)
theorem dX10_withWindow_43 : decode cX10_withWindow 43 = .ok (.imul, 1) := dk_104 (by decide +kernel)
theorem dX10_withWindow_44 : decode cX10_withWindow 44 = .ok (.istore 5, 2) := dk_54 (by decide +kernel)
theorem dX10_withWindow_46 : decode cX10_withWindow 46 = .ok (.iconst 0, 1) := dk_3 (by decide +kernel)
theorem dX10_withWindow_47 : decode cX10_withWindow 47 = .ok (.istore 6, 2) := dk_54 (by decide +kernel)
theorem dX10_withWindow_49 : decode cX10_withWindow 49 = .ok (.iload 6, 2) := dk_21 (by decide +kernel)
theorem dX10_withWindow_51 : decode cX10_withWindow 51 = .ok (.aload_n 0, 1) := dk_42 (by decide +kernel)
theorem dX10_withWindow_52 : decode cX10_withWindow 52 = .ok (.getfield 28, 3) := dk_180 0 28 (by decide +kernel)
theorem dX10_withWindow_55 : decode cX10_withWindow 55 = .ok (.getfield 32, 3) := dk_180 0 32 (by decide +kernel)
theorem dX10_withWindow_58 : decode cX10_withWindow 58 = .ok (.if_icmp .ge 90, 3) := dk_162 0 90 (by decide +kernel)
theorem dX10_withWindow_61 : decode cX10_withWindow 61 = .ok (.iload_n 3, 1) := dk_29 (by decide +kernel)
theorem dX10_withWindow_62 : decode cX10_withWindow 62 = .ok (.ifCond .eq 86, 3) := dk_153 0 86 (by decide +kernel)
theorem dX10_withWindow_65 : decode cX10_withWindow 65 = .ok (.iload 4, 2) := dk_21 (by decide +kernel)
theorem dX10_withWindow_67 : decode cX10_withWindow 67 = .ok (.aload_n 0, 1) := dk_42 (by decide +kernel)
theorem dX10_withWindow_68 : decode cX10_withWindow 68 = .ok (.getfield 51, 3) := dk_180 0 51 (by decide +kernel)
theorem dX10_withWindow_71 : decode cX10_withWindow 71 = .ok (.iload 5, 2) := dk_21 (by decide +kernel)
theorem dX10_withWindow_73 : decode cX10_withWindow 73 = .ok (.iload 6, 2) := dk_21 (by decide +kernel)
theorem dX10_withWindow_75 : decode cX10_withWindow 75 = .ok (.iadd, 1) := dk_96 (by decide +kernel)
theorem dX10_withWindow_76 : decode cX10_withWindow 76 = .ok (.iaload, 1) := dk_46 (by decide +kernel)
theorem dX10_withWindow_77 : decode cX10_withWindow 77 = .ok (.iadd, 1) := dk_96 (by decide +kernel)
theorem dX10_withWindow_78 : decode cX10_withWindow 78 = .ok (.istore 7, 2) := dk_54 (by decide +kernel)
theorem dX10_withWindow_80 : decode cX10_withWindow 80 = .ok (.iload 7, 2) := dk_21 (by decide +kernel)
theorem dX10_withWindow_82 : decode cX10_withWindow 82 = .ok (.ifCond .lt 37, 3) := dk_155 0 37 (by decide +kernel)
theorem dX10_withWindow_85 : decode cX10_withWindow 85 = .ok (.iload 7, 2) := dk_21 (by decide +kernel)
theorem dX10_withWindow_87 : decode cX10_withWindow 87 = .ok (.aload_n 0, 1) := dk_42 (by decide +kernel)
theorem dX10_withWindow_88 : decode cX10_withWindow 88 = .ok (.getfield 28, 3) := dk_180 0 28 (by decide +kernel)
theorem dX10_withWindow_91 : decode cX10_withWindow 91 = .ok (.getfield 66, 3) := dk_180 0 66 (by decide +kernel)
theorem dX10_withWindow_94 : decode cX10_withWindow 94 = .ok (.if_icmp .ge 25, 3) := dk_162 0 25 (by decide +kernel)
theorem dX10_withWindow_97 : decode cX10_withWindow 97 = .ok (.aload_n 0, 1) := dk_42 (by decide +kernel)
theorem dX10_withWindow_98 : decode cX10_withWindow 98 = .ok (.getfield 69, 3) := dk_180 0 69 (by decide +kernel)
theorem dX10_withWindow_101 : decode cX10_withWindow 101 = .ok (.iload 6, 2) := dk_21 (by decide +kernel)
theorem dX10_withWindow_103 : decode cX10_withWindow 103 = .ok (.aload_n 0, 1) := dk_42 (by decide +kernel)
theorem dX10_withWindow_104 : decode cX10_withWindow 104 = .ok (.getfield 28, 3) := dk_180 0 28 (by decide +kernel)
theorem dX10_withWindow_107 : decode cX10_withWindow 107 = .ok (.getfield 66, 3) := dk_180 0 66 (by decide +kernel)
theorem dX10_withWindow_110 : decode cX10_withWindow 110 = .ok (.imul, 1) := dk_104 (by decide +kernel)
theorem dX10_withWindow_111 : decode cX10_withWindow 111 = .ok (.iload 7, 2) := dk_21 (by decide +kernel)
theorem dX10_withWindow_113 : decode cX10_withWindow 113 = .ok (.iadd, 1) := dk_96 (by decide +kernel)
theorem dX10_withWindow_114 : decode cX10_withWindow 114 = .ok (.iaload, 1) := dk_46 (by decide +kernel)
theorem dX10_withWindow_115 : decode cX10_withWindow 115 = .ok (.iconst (-1), 1) := dk_2 (by decide +kernel)
theorem dX10_withWindow_116 : decode cX10_withWindow 116 = .ok (.if_icmp .ne 5, 3) := dk_160 0 5 (by decide +kernel)
theorem dX10_withWindow_119 : decode cX10_withWindow 119 = .ok (.iconst 0, 1) := dk_3 (by decide +kernel)
theorem dX10_withWindow_120 : decode cX10_withWindow 120 = .ok (.ireturn, 1) := dk_172 (by decide +kernel)
theorem dX10_withWindow_121 : decode cX10_withWindow 121 = .ok (.iload_n 3, 1) := dk_29 (by decide +kernel)
theorem dX10_withWindow_122 : decode cX10_withWindow 122 = .ok (.aload_n 0, 1) := dk_42 (by decide +kernel)
theorem dX10_withWindow_123 : decode cX10_withWindow 123 = .ok (.getfield 69, 3) := dk_180 0 69 (by decide +kernel)
theorem dX10_withWindow_126 : decode cX10_withWindow 126 = .ok (.iload 6, 2) := dk_21 (by decide +kernel)
theorem dX10_withWindow_128 : decode cX10_withWindow 128 = .ok (.aload_n 0, 1) := dk_42 (by decide +kernel)
theorem dX10_withWindow_129 : decode cX10_withWindow 129 = .ok (.getfield 28, 3) := dk_180 0 28 (by decide +kernel)
theorem dX10_withWindow_132 : decode cX10_withWindow 132 = .ok (.getfield 66, 3) := dk_180 0 66 (by decide +kernel)
theorem dX10_withWindow_135 : decode cX10_withWindow 135 = .ok (.imul, 1) := dk_104 (by decide +kernel)
theorem dX10_withWindow_136 : decode cX10_withWindow 136 = .ok (.iload 7, 2) := dk_21 (by decide +kernel)
theorem dX10_withWindow_138 : decode cX10_withWindow 138 = .ok (.iadd, 1) := dk_96 (by decide +kernel)
theorem dX10_withWindow_139 : decode cX10_withWindow 139 = .ok (.iaload, 1) := dk_46 (by decide +kernel)
theorem dX10_withWindow_140 : decode cX10_withWindow 140 = .ok (.iadd, 1) := dk_96 (by decide +kernel)
theorem dX10_withWindow_141 : decode cX10_withWindow 141 = .ok (.istore_n 3, 1) := dk_62 (by decide +kernel)
theorem dX10_withWindow_142 : decode cX10_withWindow 142 = .ok (.iinc 6 1, 3) := dk_132 1 (by decide +kernel)
theorem dX10_withWindow_145 : decode cX10_withWindow 145 = .ok (.goto (-96), 3) := dk_167 255 160 (by decide +kernel)
theorem dX10_withWindow_148 : decode cX10_withWindow 148 = .ok (.iload_n 3, 1) := dk_29 (by decide +kernel)
theorem dX10_withWindow_149 : decode cX10_withWindow 149 = .ok (.ireturn, 1) := dk_172 (by decide +kernel)
set_option maxRecDepth 8000 in
theorem e_X10_withWindow {g : ch_G} {A R : Nat} (hC : ck_Cx g A R) {d : Nat} {K : Option ck_V → ck_W → Prop} {w : ck_W} {a1 a2 : Int} (h : (0 ≤ (((a1 * (w 3 1)) * (w 51 1)) + a2) ∧ (((a1 * (w 3 1)) * (w 51 1)) + a2) < (((3 * A + 1) * R * 3 ^ (A - 1) : Nat) : Int)) ∧ (∀ x5, x5 = w 57 (((a1 * (w 3 1)) * (w 51 1)) + a2) → (¬ (w 51 1) = 0) ∧ (ck_i (a2.tdiv (w 51 1)) ∧ (∀ x12, x12 = (a2.tmod (w 51 1)) * (w 3 0) → ck_i x12 ∧ (ck_At (ch_C g A R) d mX10_withWindow K 49 [some (.inr (.inr 51)), none, none, some (.inl x5), some (.inl (a2.tdiv (w 51 1))), some (.inl x12), some (.inl 0), none] [] w))))) : ck_Ex (ch_C g A R) d mX10_withWindow [.inr (.inr 51), .inl a1, .inl a2] w K :=
  ck_entry hC.1 [some (.inr (.inr 51)), some (.inl a1), some (.inl a2), none, none, none, none, none] (by decide) (Nat.le_of_ble_eq_true rfl) rfl (fun q => q) (ck_in (fun hl => (ck_aload_n 1 rfl 0 dX10_withWindow_0 rfl rfl (ck_getr 4 rfl dX10_withWindow_1 fl_X10_72 sh_51 rfl (ck_iload_n 5 rfl 1 dX10_withWindow_4 rfl rfl (ck_aload_n 6 rfl 0 dX10_withWindow_5 rfl rfl (ck_getr 9 rfl dX10_withWindow_6 fl_X10_28 sh_51 rfl (ck_geti 12 rfl 1 dX10_withWindow_9 fl_X10_66 sh_3 rfl rfl _ rfl (fun (q1 : ck_i (w 3 1)) => (ck_imul 13 rfl dX10_withWindow_12 (ck_aload_n 14 rfl 0 dX10_withWindow_13 rfl rfl (ck_geti 17 rfl 1 dX10_withWindow_14 fl_X10_48 sh_51 rfl rfl _ rfl (fun (q2 : ck_i (w 51 1)) => (ck_imul 18 rfl dX10_withWindow_17 (ck_iload_n 19 rfl 2 dX10_withWindow_18 rfl rfl (ck_iadd 20 rfl dX10_withWindow_19 (have h16 := h; have o3 := h16.1; have h15 := h16.2; (ck_iald 21 rfl dX10_withWindow_20 sh_57 (shn_57 hC) o3 _ rfl (fun (q4 : ck_i (w 57 (((a1 * (w 3 1)) * (w 51 1)) + a2))) => (ck_nmi (fun x5 e6 => (ck_istore_n 22 rfl 3 [some (.inr (.inr 51)), some (.inl a1), some (.inl a2), some (.inl x5), none, none, none, none] dX10_withWindow_21 rfl (Nat.le_of_ble_eq_true rfl) rfl rfl (by rw [e6]; exact q4) (ck_iload_n 23 rfl 2 dX10_withWindow_22 rfl rfl (ck_aload_n 24 rfl 0 dX10_withWindow_23 rfl rfl (ck_geti 27 rfl 1 dX10_withWindow_24 fl_X10_48 sh_51 rfl rfl _ rfl (fun (q7 : ck_i (w 51 1)) => (have h18 := (h15 x5 e6); have o8 := h18.1; have h17 := h18.2; (ck_idiv 28 rfl dX10_withWindow_27 hl.2.2.1 q7 o8 (have h20 := h17; have o9 := h20.1; have h19 := h20.2; (ck_istore 30 rfl [some (.inr (.inr 51)), some (.inl a1), some (.inl a2), some (.inl x5), some (.inl (a2.tdiv (w 51 1))), none, none, none] dX10_withWindow_28 (Nat.le_of_ble_eq_true rfl) rfl rfl o9 (ck_iload_n 31 rfl 2 dX10_withWindow_30 rfl rfl (ck_aload_n 32 rfl 0 dX10_withWindow_31 rfl rfl (ck_geti 35 rfl 1 dX10_withWindow_32 fl_X10_48 sh_51 rfl rfl _ rfl (fun (q10 : ck_i (w 51 1)) => (ck_irem 36 rfl dX10_withWindow_35 hl.2.2.1 q10 o8 (ck_aload_n 37 rfl 0 dX10_withWindow_36 rfl rfl (ck_getr 40 rfl dX10_withWindow_37 fl_X10_28 sh_51 rfl (ck_geti 43 rfl 0 dX10_withWindow_40 fl_X10_32 sh_3 rfl rfl _ rfl (fun (q11 : ck_i (w 3 0)) => (ck_imul 44 rfl dX10_withWindow_43 (ck_nmi (fun x12 e13 => (have h22 := (h19 x12 e13); have o14 := h22.1; have h21 := h22.2; (ck_istore 46 rfl [some (.inr (.inr 51)), some (.inl a1), some (.inl a2), some (.inl x5), some (.inl (a2.tdiv (w 51 1))), some (.inl x12), none, none] dX10_withWindow_44 (Nat.le_of_ble_eq_true rfl) rfl rfl o14 (ck_iconst 47 rfl dX10_withWindow_46 rfl (ck_istore 49 rfl [some (.inr (.inr 51)), some (.inl a1), some (.inl a2), some (.inl x5), some (.inl (a2.tdiv (w 51 1))), some (.inl x12), some (.inl 0), none] dX10_withWindow_47 (Nat.le_of_ble_eq_true rfl) rfl rfl (show ck_i 0 by decide) (ck_drop [some (.inr (.inr 51)), none, none, some (.inl x5), some (.inl (a2.tdiv (w 51 1))), some (.inl x12), some (.inl 0), none] (And.intro rfl (And.intro rfl (And.intro rfl (And.intro rfl (And.intro rfl True.intro))))) h21)))))))))))))))))))))))))))))))))))))))))))))))
set_option maxRecDepth 8000 in
theorem r_X10_withWindow_49 {g : ch_G} {A R : Nat} (hC : ck_Cx g A R) {d : Nat} {K : Option ck_V → ck_W → Prop} {w : ck_W} {a3 a4 a5 a6 : Int} (h : ((w 3 0) ≤ a6 → K (some (.inl a3)) w) ∧ (¬ (w 3 0) ≤ a6 → (a3 = 0 → K (some (.inl a3)) w) ∧ (¬ a3 = 0 → (0 ≤ (a5 + a6) ∧ (a5 + a6) < ((3 ^ (A - 1) * A : Nat) : Int)) ∧ (ck_i (a4 + (w 52 (a5 + a6))) ∧ (((a4 + (w 52 (a5 + a6))) < 0 → K (some (.inl 0)) w) ∧ (¬ (a4 + (w 52 (a5 + a6))) < 0 → ((w 3 1) ≤ (a4 + (w 52 (a5 + a6))) → K (some (.inl 0)) w) ∧ (¬ (w 3 1) ≤ (a4 + (w 52 (a5 + a6))) → (0 ≤ ((a6 * (w 3 1)) + (a4 + (w 52 (a5 + a6)))) ∧ ((a6 * (w 3 1)) + (a4 + (w 52 (a5 + a6)))) < ((24 * R : Nat) : Int)) ∧ ((¬ (w 58 ((a6 * (w 3 1)) + (a4 + (w 52 (a5 + a6))))) = (-1) → ∀ x11, x11 = a3 + (w 58 ((a6 * (w 3 1)) + (a4 + (w 52 (a5 + a6))))) → ck_i x11 ∧ (ck_i (a6 + 1) ∧ (ck_At (ch_C g A R) d mX10_withWindow K 49 [some (.inr (.inr 51)), none, none, some (.inl x11), some (.inl a4), some (.inl a5), some (.inl (a6 + 1)), none] [] w))) ∧ ((w 58 ((a6 * (w 3 1)) + (a4 + (w 52 (a5 + a6))))) = (-1) → K (some (.inl 0)) w))))))))) : ck_At (ch_C g A R) d mX10_withWindow K 49 [some (.inr (.inr 51)), none, none, some (.inl a3), some (.inl a4), some (.inl a5), some (.inl a6), none] [] w :=
  ck_in (fun hl => (ck_iload 51 rfl dX10_withWindow_49 rfl (ck_aload_n 52 rfl 0 dX10_withWindow_51 rfl rfl (ck_getr 55 rfl dX10_withWindow_52 fl_X10_28 sh_51 rfl (ck_geti 58 rfl 0 dX10_withWindow_55 fl_X10_32 sh_3 rfl rfl _ rfl (fun (q1 : ck_i (w 3 0)) => (ck_icmp_ge 61 rfl 148 dX10_withWindow_58 rfl hl.2.2.2.2.1 q1 (fun c23 => (ck_iload_n 149 rfl 3 dX10_withWindow_148 rfl rfl (ck_iret dX10_withWindow_149 rfl hl.2.1 (h.1 c23)))) (fun c24 => (ck_iload_n 62 rfl 3 dX10_withWindow_61 rfl rfl (have h25 := (h.2 c24); (ck_if_eq 65 rfl 148 dX10_withWindow_62 rfl hl.2.1 (fun c21 => (ck_iload_n 149 rfl 3 dX10_withWindow_148 rfl rfl (ck_iret dX10_withWindow_149 rfl hl.2.1 (h25.1 c21)))) (fun c22 => (ck_iload 67 rfl dX10_withWindow_65 rfl (ck_aload_n 68 rfl 0 dX10_withWindow_67 rfl rfl (ck_getr 71 rfl dX10_withWindow_68 fl_X10_51 sh_51 rfl (ck_iload 73 rfl dX10_withWindow_71 rfl (ck_iload 75 rfl dX10_withWindow_73 rfl (ck_iadd 76 rfl dX10_withWindow_75 (have h27 := (h25.2 c22); have o2 := h27.1; have h26 := h27.2; (ck_iald 77 rfl dX10_withWindow_76 sh_52 (shn_52 hC) o2 _ rfl (fun (q3 : ck_i (w 52 (a5 + a6))) => (ck_iadd 78 rfl dX10_withWindow_77 (have h29 := h26; have o4 := h29.1; have h28 := h29.2; (ck_istore 80 rfl [some (.inr (.inr 51)), none, none, some (.inl a3), some (.inl a4), some (.inl a5), some (.inl a6), some (.inl (a4 + (w 52 (a5 + a6))))] dX10_withWindow_78 (Nat.le_of_ble_eq_true rfl) rfl rfl o4 (ck_iload 82 rfl dX10_withWindow_80 rfl (ck_if_lt 85 rfl 119 dX10_withWindow_82 rfl o4 (fun c19 => (ck_iconst 120 rfl dX10_withWindow_119 rfl (ck_iret dX10_withWindow_120 rfl (show ck_i 0 by decide) (h28.1 c19)))) (fun c20 => (ck_iload 87 rfl dX10_withWindow_85 rfl (ck_aload_n 88 rfl 0 dX10_withWindow_87 rfl rfl (ck_getr 91 rfl dX10_withWindow_88 fl_X10_28 sh_51 rfl (ck_geti 94 rfl 1 dX10_withWindow_91 fl_X10_66 sh_3 rfl rfl _ rfl (fun (q5 : ck_i (w 3 1)) => (have h30 := (h28.2 c20); (ck_icmp_ge 97 rfl 119 dX10_withWindow_94 rfl o4 q5 (fun c17 => (ck_iconst 120 rfl dX10_withWindow_119 rfl (ck_iret dX10_withWindow_120 rfl (show ck_i 0 by decide) (h30.1 c17)))) (fun c18 => (ck_aload_n 98 rfl 0 dX10_withWindow_97 rfl rfl (ck_getr 101 rfl dX10_withWindow_98 fl_X10_69 sh_51 rfl (ck_iload 103 rfl dX10_withWindow_101 rfl (ck_aload_n 104 rfl 0 dX10_withWindow_103 rfl rfl (ck_getr 107 rfl dX10_withWindow_104 fl_X10_28 sh_51 rfl (ck_geti 110 rfl 1 dX10_withWindow_107 fl_X10_66 sh_3 rfl rfl _ rfl (fun (q6 : ck_i (w 3 1)) => (ck_imul 111 rfl dX10_withWindow_110 (ck_iload 113 rfl dX10_withWindow_111 rfl (ck_iadd 114 rfl dX10_withWindow_113 (have h32 := (h30.2 c18); have o7 := h32.1; have h31 := h32.2; (ck_iald 115 rfl dX10_withWindow_114 sh_58 (shn_58 hC) o7 _ rfl (fun (q8 : ck_i (w 58 ((a6 * (w 3 1)) + (a4 + (w 52 (a5 + a6)))))) => (ck_iconst 116 rfl dX10_withWindow_115 rfl (ck_icmp_ne 119 rfl 121 dX10_withWindow_116 rfl q8 (show ck_i (-1) by decide) (fun c15 => (ck_iload_n 122 rfl 3 dX10_withWindow_121 rfl rfl (ck_aload_n 123 rfl 0 dX10_withWindow_122 rfl rfl (ck_getr 126 rfl dX10_withWindow_123 fl_X10_69 sh_51 rfl (ck_iload 128 rfl dX10_withWindow_126 rfl (ck_aload_n 129 rfl 0 dX10_withWindow_128 rfl rfl (ck_getr 132 rfl dX10_withWindow_129 fl_X10_28 sh_51 rfl (ck_geti 135 rfl 1 dX10_withWindow_132 fl_X10_66 sh_3 rfl rfl _ rfl (fun (q9 : ck_i (w 3 1)) => (ck_imul 136 rfl dX10_withWindow_135 (ck_iload 138 rfl dX10_withWindow_136 rfl (ck_iadd 139 rfl dX10_withWindow_138 (ck_iald 140 rfl dX10_withWindow_139 sh_58 (shn_58 hC) o7 _ rfl (fun (q10 : ck_i (w 58 ((a6 * (w 3 1)) + (a4 + (w 52 (a5 + a6)))))) => (ck_iadd 141 rfl dX10_withWindow_140 (ck_nmi (fun x11 e12 => (have h34 := ((h31.1 c15) x11 e12); have o13 := h34.1; have h33 := h34.2; (ck_istore_n 142 rfl 3 [some (.inr (.inr 51)), none, none, some (.inl x11), some (.inl a4), some (.inl a5), some (.inl a6), some (.inl (a4 + (w 52 (a5 + a6))))] dX10_withWindow_141 rfl (Nat.le_of_ble_eq_true rfl) rfl rfl o13 (have h36 := h33; have o14 := h36.1; have h35 := h36.2; (ck_iinc 145 rfl [some (.inr (.inr 51)), none, none, some (.inl x11), some (.inl a4), some (.inl a5), some (.inl (a6 + 1)), some (.inl (a4 + (w 52 (a5 + a6))))] dX10_withWindow_142 rfl (Nat.le_of_ble_eq_true rfl) rfl rfl o14 (ck_goto 49 dX10_withWindow_145 rfl (ck_drop [some (.inr (.inr 51)), none, none, some (.inl x11), some (.inl a4), some (.inl a5), some (.inl (a6 + 1)), none] (And.intro rfl (And.intro rfl (And.intro rfl (And.intro rfl (And.intro rfl True.intro))))) h35))))))))))))))))))))))) (fun c16 => (ck_iconst 120 rfl dX10_withWindow_119 rfl (ck_iret dX10_withWindow_120 rfl (show ck_i 0 by decide) (h31.2 c16))))))))))))))))))))))))))))))))))))))))))))))))))))))
theorem p_X10_withWindow {g : ch_G} {A R : Nat} (hC : ck_Cx g A R) {d : Nat} {K : Option ck_V → ck_W → Prop} {w : ck_W} {a2 k : Int} {G : Int → Int → Int} (hD : cs_D A R w) (hW : cw_tab A w) (hG : cw_Gv R G) (hk : 1 ≤ k ∧ k ≤ 4) (hg : cw_gn R (k * (A : Int)) G w) (hr : cw_row A R k G w (k * (A : Int) - (A : Int)).toNat) (h2 : 0 ≤ a2 ∧ a2 < ((R : Int) - k + 1) * cw_N A) (h : K (some (.inl (cw_wi A R k G a2))) w) : ck_Ex (ch_C g A R) d mX10_withWindow [.inr (.inr 51), .inl (k * (A : Int) - (A : Int)), .inl a2] w K := by
  have c := cs_ar hC
  have n := cw_NA hC
  have s := cw_sz hC
  have kA : k * (A : Int) ≤ 4 * (A : Int) := Int.mul_le_mul_of_nonneg_right hk.2 (by omega)
  have kA1 : 1 * (A : Int) ≤ k * (A : Int) := Int.mul_le_mul_of_nonneg_right hk.1 (by omega)
  have q0 : 0 ≤ a2 / cw_N A := Int.ediv_nonneg h2.1 (by omega)
  have q1 : a2 / cw_N A < (R : Int) - k + 1 := Int.ediv_lt_of_lt_mul (by omega) h2.2
  have m0 := Int.emod_nonneg a2 (b := cw_N A) (by omega)
  have m1 := Int.emod_lt_of_pos a2 (b := cw_N A) (by omega)
  have dm := Int.mul_ediv_add_emod a2 (cw_N A)
  have ib := cw_ixb hC (l := k * (A : Int) - (A : Int)) (r := a2 / cw_N A) (c := a2 % cw_N A) (by omega) (by omega) (by omega)
  have ei : (k * (A : Int) - (A : Int)) * (R : Int) * cw_N A + a2 = ((k * (A : Int) - (A : Int)) * (R : Int) + a2 / cw_N A) * cw_N A + a2 % cw_N A := by
    rw [Int.add_mul, Int.add_assoc, Int.mul_comm (a2 / cw_N A), dm]
  have el : (((k * (A : Int) - (A : Int)).toNat : Nat) : Int) = k * (A : Int) - (A : Int) := by omega
  have lo0 : cw_lo A k (k * (A : Int) - (A : Int)) = 0 := by
    unfold cw_lo
    rw [show k * (A : Int) - (k * (A : Int) - (A : Int)) - (A : Int) = 0 by omega, Int.zero_ediv]
  have er := hr (a2 / cw_N A) (a2 % cw_N A) (by rw [el, lo0]; omega) (by rw [el, lo0]; omega) m0 m1
  rw [el] at er
  have t1 : a2.tdiv (cw_N A) = a2 / cw_N A := Int.tdiv_eq_ediv_of_nonneg h2.1
  have t2 : a2.tmod (cw_N A) = a2 % cw_N A := Int.tmod_eq_emod_of_nonneg h2.1
  have ax := cw_A_ok hG (A := A) (K := k) (by omega) (k * (A : Int) - (A : Int)).toNat (a2 / cw_N A) (a2 % cw_N A) (by omega)
  unfold cw_wi at h
  refine e_X10_withWindow hC ?_
  rw [hD.2, hW.1, hD.1, ei, er, t1, t2]
  refine ⟨ib.1, fun x5 e5 => ⟨by omega, by constructor <;> omega, fun x12 e12 => ?_⟩⟩
  have sb := ix_b (x := a2 % cw_N A) (c := 0) (N := (A : Int)) (X := cw_N A) (by omega) (by omega)
  have sN : cw_N A * (A : Int) ≤ 243 * 6 := Int.mul_le_mul (by omega) (by omega) (by omega) (by omega)
  refine ⟨by constructor <;> omega, ?_⟩
  have lp : ∀ (m : Nat) (x p : Int), (A : Int) - p = m → 0 ≤ p → cw_ok (9 * (k * (A : Int) - (A : Int)) + 9 * p) x → K (some (.inl (cw_ww A R G (a2 / cw_N A) (a2 % cw_N A) m p x))) w → ck_At (ch_C g A R) d mX10_withWindow K 49 [some (.inr (.inr 51)), none, none, some (.inl x), some (.inl (a2 / cw_N A)), some (.inl x12), some (.inl p), none] [] w := by
    intro m
    induction m with
    | zero =>
      intro x p g1 g2 g3 h
      rw [cw_ww] at h
      exact r_X10_withWindow_49 hC ⟨fun _ => h, fun q => absurd (by rw [hD.1]; omega) q⟩
    | succ m ih =>
      intro x p g1 g2 g3 h
      rw [cw_ww] at h
      have sh := cw_shw hW (c := a2 % cw_N A) (p := p) ⟨m0, m1⟩ (by omega)
      have sk := (cw_cks n.1 ⟨m0, m1⟩).1 p.toNat (by omega)
      have xb := ix_b (x := a2 % cw_N A) (c := p) (N := (A : Int)) (X := cw_N A) (by omega) (by omega)
      refine r_X10_withWindow_49 hC ?_
      rw [hD.1, hD.2, e12, sh]
      refine ⟨fun q => absurd q (by omega), fun _ => ⟨fun q => by rw [if_pos q] at h; rw [q]; rw [q] at h; exact h, fun q => ⟨by rw [s.2.2.1]; exact xb, by constructor <;> omega, fun q1 => by rw [if_neg q, if_pos q1] at h; exact h, fun q1 => ⟨fun q2 => by rw [if_neg q, if_neg q1, if_pos q2] at h; exact h, fun q2 => ?_⟩⟩⟩⟩
      have gb := ix_b (x := p) (c := a2 / cw_N A + cw_sh A (a2 % cw_N A) p.toNat) (N := (R : Int)) (X := 24) (by omega) (by omega)
      have eg := hg p (a2 / cw_N A + cw_sh A (a2 % cw_N A) p.toNat) g2 (by omega) (by omega) (by omega)
      rw [eg]
      rw [if_neg q, if_neg q1, if_neg q2] at h
      refine ⟨by rw [s.2.1]; exact gb, fun q3 x11 e11 => ?_, fun q3 => by rw [if_pos q3] at h; exact h⟩
      rw [if_neg q3, ← e11] at h
      have okn : cw_ok (9 * (k * (A : Int) - (A : Int)) + 9 * (p + 1)) x11 := by
        rcases hG p (a2 / cw_N A + cw_sh A (a2 % cw_N A) p.toNat) (by omega) (by omega) g2 (by omega) with y | ⟨g0, y1, y2, y3⟩
        · exact absurd y q3
        · rw [e11, y3]; unfold cw_ok at g3 ⊢; omega
      refine ⟨by unfold cw_ok at okn; constructor <;> omega, by constructor <;> omega, ?_⟩
      have ihh := ih x11 (p + 1) (by omega) (by omega) okn h
      rw [e12] at ihh
      exact ihh
  exact lp A x5 0 (by omega) (by omega) (by rw [e5]; unfold cw_ok at ax ⊢; omega) (by rw [e5]; exact h)
theorem dX10_firstWindows_0 : decode cX10_firstWindows 0 = .ok (.aload_n 0, 1) := dk_42 (by decide +kernel)
theorem dX10_firstWindows_1 : decode cX10_firstWindows 1 = .ok (.getfield 28, 3) := dk_180 0 28 (by decide +kernel)
theorem dX10_firstWindows_4 : decode cX10_firstWindows 4 = .ok (.getfield 66, 3) := dk_180 0 66 (by decide +kernel)
theorem dX10_firstWindows_7 : decode cX10_firstWindows 7 = .ok (.aload_n 0, 1) := dk_42 (by decide +kernel)
theorem dX10_firstWindows_8 : decode cX10_firstWindows 8 = .ok (.getfield 28, 3) := dk_180 0 28 (by decide +kernel)
theorem dX10_firstWindows_11 : decode cX10_firstWindows 11 = .ok (.getfield 108, 3) := dk_180 0 108 (by decide +kernel)
theorem dX10_firstWindows_14 : decode cX10_firstWindows 14 = .ok (.iload_n 1, 1) := dk_27 (by decide +kernel)
theorem dX10_firstWindows_15 : decode cX10_firstWindows 15 = .ok (.iaload, 1) := dk_46 (by decide +kernel)
theorem dX10_firstWindows_16 : decode cX10_firstWindows 16 = .ok (.isub, 1) := dk_100 (by decide +kernel)
theorem dX10_firstWindows_17 : decode cX10_firstWindows 17 = .ok (.iconst 1, 1) := dk_4 (by decide +kernel)
theorem dX10_firstWindows_18 : decode cX10_firstWindows 18 = .ok (.iadd, 1) := dk_96 (by decide +kernel)
theorem dX10_firstWindows_19 : decode cX10_firstWindows 19 = .ok (.aload_n 0, 1) := dk_42 (by decide +kernel)
theorem dX10_firstWindows_20 : decode cX10_firstWindows 20 = .ok (.getfield 48, 3) := dk_180 0 48 (by decide +kernel)
theorem dX10_firstWindows_23 : decode cX10_firstWindows 23 = .ok (.imul, 1) := dk_104 (by decide +kernel)
theorem dX10_firstWindows_24 : decode cX10_firstWindows 24 = .ok (.ireturn, 1) := dk_172 (by decide +kernel)
set_option maxRecDepth 8000 in
theorem e_X10_firstWindows {g : ch_G} {A R : Nat} (hC : ck_Cx g A R) {d : Nat} {K : Option ck_V → ck_W → Prop} {w : ck_W} {a1 : Int} (h : (0 ≤ a1 ∧ a1 < 6) ∧ (ck_i ((((w 3 1) - (w 6 a1)) + 1) * (w 51 1)) ∧ (K (some (.inl ((((w 3 1) - (w 6 a1)) + 1) * (w 51 1)))) w))) : ck_Ex (ch_C g A R) d mX10_firstWindows [.inr (.inr 51), .inl a1] w K :=
  ck_entry hC.1 [some (.inr (.inr 51)), some (.inl a1)] (by decide) (Nat.le_of_ble_eq_true rfl) rfl (fun q => q) (ck_in (fun hl => (ck_aload_n 1 rfl 0 dX10_firstWindows_0 rfl rfl (ck_getr 4 rfl dX10_firstWindows_1 fl_X10_28 sh_51 rfl (ck_geti 7 rfl 1 dX10_firstWindows_4 fl_X10_66 sh_3 rfl rfl _ rfl (fun (q1 : ck_i (w 3 1)) => (ck_aload_n 8 rfl 0 dX10_firstWindows_7 rfl rfl (ck_getr 11 rfl dX10_firstWindows_8 fl_X10_28 sh_51 rfl (ck_getr 14 rfl dX10_firstWindows_11 fl_X10_108 sh_3 rfl (ck_iload_n 15 rfl 1 dX10_firstWindows_14 rfl rfl (have h7 := h; have o2 := h7.1; have h6 := h7.2; (ck_iald 16 rfl dX10_firstWindows_15 sh_6 (shn_6 hC) o2 _ rfl (fun (q3 : ck_i (w 6 a1)) => (ck_isub 17 rfl dX10_firstWindows_16 (ck_iconst 18 rfl dX10_firstWindows_17 rfl (ck_iadd 19 rfl dX10_firstWindows_18 (ck_aload_n 20 rfl 0 dX10_firstWindows_19 rfl rfl (ck_geti 23 rfl 1 dX10_firstWindows_20 fl_X10_48 sh_51 rfl rfl _ rfl (fun (q4 : ck_i (w 51 1)) => (ck_imul 24 rfl dX10_firstWindows_23 (have h9 := h6; have o5 := h9.1; have h8 := h9.2; (ck_iret dX10_firstWindows_24 rfl o5 h8))))))))))))))))))))))
theorem cw_Wb {A R : Nat} {g : ch_G} (hC : ck_Cx g A R) {k : Int} (hk : 1 ≤ k ∧ k ≤ 4) : 9 ≤ ((R : Int) - k + 1) * cw_N A ∧ ((R : Int) - k + 1) * cw_N A ≤ 2916 := by
  have c := cs_ar hC
  have n := cw_NA hC
  have a : 1 * 9 ≤ ((R : Int) - k + 1) * cw_N A := Int.mul_le_mul (by omega) (by omega) (by omega) (by omega)
  have b : ((R : Int) - k + 1) * cw_N A ≤ 12 * 243 := Int.mul_le_mul (by omega) (by omega) (by omega) (by omega)
  omega
theorem p_X10_firstWindows {g : ch_G} {A R : Nat} (hC : ck_Cx g A R) {d : Nat} {K : Option ck_V → ck_W → Prop} {w : ck_W} {a1 : Int} (hD : cs_D A R w) (hT : cs_T w) (hW : cw_tab A w) (h1 : 0 ≤ a1 ∧ a1 ≤ 5) (h : K (some (.inl (((R : Int) - w 6 a1 + 1) * cw_N A))) w) : ck_Ex (ch_C g A R) d mX10_firstWindows [.inr (.inr 51), .inl a1] w K := by
  have b := cw_Wb hC (hT a1 h1.1 h1.2)
  refine e_X10_firstWindows hC ?_
  rw [hD.2, hW.1]
  exact ⟨by omega, by constructor <;> omega, h⟩
theorem cw_wi_ok {A R : Nat} {g : ch_G} (hC : ck_Cx g A R) {k : Int} {G : Int → Int → Int} (hk : 1 ≤ k ∧ k ≤ 4) (hG : cw_Gv R G) (i : Int) : cw_ok 216 (cw_wi A R k G i) := by
  have c := cs_ar hC
  have kA : k * (A : Int) ≤ 4 * (A : Int) := Int.mul_le_mul_of_nonneg_right hk.2 (by omega)
  have kA1 : 1 * (A : Int) ≤ k * (A : Int) := Int.mul_le_mul_of_nonneg_right hk.1 (by omega)
  have ax := cw_A_ok hG (A := A) (K := k) (by omega) (k * (A : Int) - (A : Int)).toNat (i / cw_N A) (i % cw_N A) (by omega)
  have b := cw_ww_ok hG (A := A) (r := i / cw_N A) (c := i % cw_N A) A 0 _ _ (by omega) (by omega) ax
  unfold cw_wi cw_ok
  unfold cw_ok at b
  omega
theorem cw_be_ok {A R : Nat} {g : ch_G} (hC : ck_Cx g A R) {k : Int} {G : Int → Int → Int} (hk : 1 ≤ k ∧ k ≤ 4) (hG : cw_Gv R G) : cw_ok 216 (cw_be A R k G) :=
  cw_fo_ok _ _ _ (Or.inl rfl) (fun j _ _ => cw_wi_ok hC hk hG j)
theorem dX10_weighAll_0 : decode cX10_weighAll 0 = .ok (.aload_n 0, 1) := dk_42 (by decide +kernel)
theorem dX10_weighAll_1 : decode cX10_weighAll 1 = .ok (.iload_n 1, 1) := dk_27 (by decide +kernel)
theorem dX10_weighAll_2 : decode cX10_weighAll 2 = .ok (.invokevirtual 164, 3) := dk_182 0 164 (by decide +kernel)
theorem dX10_weighAll_5 : decode cX10_weighAll 5 = .ok (.istore_n 3, 1) := dk_62 (by decide +kernel)
theorem dX10_weighAll_6 : decode cX10_weighAll 6 = .ok (.iconst 0, 1) := dk_3 (by decide +kernel)
theorem dX10_weighAll_7 : decode cX10_weighAll 7 = .ok (.istore 4, 2) := dk_54 (by decide +kernel)
theorem dX10_weighAll_9 : decode cX10_weighAll 9 = .ok (.iconst 0, 1) := dk_3 (by decide +kernel)
theorem dX10_weighAll_10 : decode cX10_weighAll 10 = .ok (.istore 5, 2) := dk_54 (by decide +kernel)
theorem dX10_weighAll_12 : decode cX10_weighAll 12 = .ok (.iload 5, 2) := dk_21 (by decide +kernel)
theorem dX10_weighAll_14 : decode cX10_weighAll 14 = .ok (.iload_n 3, 1) := dk_29 (by decide +kernel)
theorem dX10_weighAll_15 : decode cX10_weighAll 15 = .ok (.if_icmp .ge 23, 3) := dk_162 0 23 (by decide +kernel)
theorem dX10_weighAll_18 : decode cX10_weighAll 18 = .ok (.iload 4, 2) := dk_21 (by decide +kernel)
theorem dX10_weighAll_20 : decode cX10_weighAll 20 = .ok (.aload_n 0, 1) := dk_42 (by decide +kernel)
theorem dX10_weighAll_21 : decode cX10_weighAll 21 = .ok (.iload_n 2, 1) := dk_28 (by decide +kernel)
theorem dX10_weighAll_22 : decode cX10_weighAll 22 = .ok (.iload 5, 2) := dk_21 (by decide +kernel)
theorem dX10_weighAll_24 : decode cX10_weighAll 24 = .ok (.invokevirtual 167, 3) := dk_182 0 167 (by decide +kernel)
theorem dX10_weighAll_27 : decode cX10_weighAll 27 = .ok (.invokestatic 156, 3) := dk_184 0 156 (by decide +kernel)
theorem dX10_weighAll_30 : decode cX10_weighAll 30 = .ok (.istore 4, 2) := dk_54 (by decide +kernel)
theorem dX10_weighAll_32 : decode cX10_weighAll 32 = .ok (.iinc 5 1, 3) := dk_132 1 (by decide +kernel)
theorem dX10_weighAll_35 : decode cX10_weighAll 35 = .ok (.goto (-23), 3) := dk_167 255 233 (by decide +kernel)
theorem dX10_weighAll_38 : decode cX10_weighAll 38 = .ok (.aload_n 0, 1) := dk_42 (by decide +kernel)
theorem dX10_weighAll_39 : decode cX10_weighAll 39 = .ok (.getfield 19, 3) := dk_180 0 19 (by decide +kernel)
theorem dX10_weighAll_42 : decode cX10_weighAll 42 = .ok (.iload_n 1, 1) := dk_27 (by decide +kernel)
theorem dX10_weighAll_43 : decode cX10_weighAll 43 = .ok (.iload 4, 2) := dk_21 (by decide +kernel)
theorem dX10_weighAll_45 : decode cX10_weighAll 45 = .ok (.ldc 160, 2) := dk_18 (by decide +kernel)
theorem dX10_weighAll_47 : decode cX10_weighAll 47 = .ok (.iand, 1) := dk_126 (by decide +kernel)
theorem dX10_weighAll_48 : decode cX10_weighAll 48 = .ok (.iastore, 1) := dk_79 (by decide +kernel)
theorem dX10_weighAll_49 : decode cX10_weighAll 49 = .ok (.aload_n 0, 1) := dk_42 (by decide +kernel)
theorem dX10_weighAll_50 : decode cX10_weighAll 50 = .ok (.getfield 15, 3) := dk_180 0 15 (by decide +kernel)
theorem dX10_weighAll_53 : decode cX10_weighAll 53 = .ok (.iload_n 1, 1) := dk_27 (by decide +kernel)
theorem dX10_weighAll_54 : decode cX10_weighAll 54 = .ok (.iload 4, 2) := dk_21 (by decide +kernel)
theorem dX10_weighAll_56 : decode cX10_weighAll 56 = .ok (.bipush 20, 2) := dk_16 20 (by decide +kernel)
theorem dX10_weighAll_58 : decode cX10_weighAll 58 = .ok (.ishr, 1) := dk_122 (by decide +kernel)
theorem dX10_weighAll_59 : decode cX10_weighAll 59 = .ok (.iastore, 1) := dk_79 (by decide +kernel)
theorem dX10_weighAll_60 : decode cX10_weighAll 60 = .ok (.return_, 1) := dk_177 (by decide +kernel)
set_option maxRecDepth 8000 in
theorem e_X10_weighAll {g : ch_G} {A R : Nat} (hC : ck_Cx g A R) {d : Nat} {K : Option ck_V → ck_W → Prop} {w : ck_W} {a1 a2 : Int} (h : ck_CI (ch_C g A R) d mX10_firstWindows [.inr (.inr 51), .inl a1] w (fun v2 w1 => ck_At (ch_C g A R) (d + 1) mX10_weighAll K 12 [some (.inr (.inr 51)), some (.inl a1), some (.inl a2), some (.inl v2), some (.inl 0), some (.inl 0)] [] w1)) : ck_Ex (ch_C g A R) (d + 1) mX10_weighAll [.inr (.inr 51), .inl a1, .inl a2] w K :=
  ck_entry hC.1 [some (.inr (.inr 51)), some (.inl a1), some (.inl a2), none, none, none] (by decide) (Nat.le_of_ble_eq_true rfl) rfl (fun q => q) (ck_in (fun hl => (ck_aload_n 1 rfl 0 dX10_weighAll_0 rfl rfl (ck_iload_n 2 rfl 1 dX10_weighAll_1 rfl rfl (ck_callV 5 rfl [.inl a1] [] dX10_weighAll_2 cv_X10_164 sh_51 rfl rfl (Nat.le_of_ble_eq_true rfl) (And.intro hl.2.1 True.intro) (ck_mI h (fun v2 w1 q3 h4 => (ck_istore_n 6 rfl 3 [some (.inr (.inr 51)), some (.inl a1), some (.inl a2), some (.inl v2), none, none] dX10_weighAll_5 rfl (Nat.le_of_ble_eq_true rfl) rfl rfl q3 (ck_iconst 7 rfl dX10_weighAll_6 rfl (ck_istore 9 rfl [some (.inr (.inr 51)), some (.inl a1), some (.inl a2), some (.inl v2), some (.inl 0), none] dX10_weighAll_7 (Nat.le_of_ble_eq_true rfl) rfl rfl (show ck_i 0 by decide) (ck_iconst 10 rfl dX10_weighAll_9 rfl (ck_istore 12 rfl [some (.inr (.inr 51)), some (.inl a1), some (.inl a2), some (.inl v2), some (.inl 0), some (.inl 0)] dX10_weighAll_10 (Nat.le_of_ble_eq_true rfl) rfl rfl (show ck_i 0 by decide) h4))))))))))))
set_option maxRecDepth 8000 in
theorem r_X10_weighAll_12 {g : ch_G} {A R : Nat} (hC : ck_Cx g A R) {d : Nat} {K : Option ck_V → ck_W → Prop} {w : ck_W} {a1 a2 a3 a4 a5 : Int} (h : (a3 ≤ a5 → (0 ≤ a1 ∧ a1 < 6) ∧ (K none (ck_up (ck_up w 61 a1 (ck_and a4 1048575)) 60 a1 (ck_shr a4 20)))) ∧ (¬ a3 ≤ a5 → ck_CI (ch_C g A R) d mX10_withWindow [.inr (.inr 51), .inl a2, .inl a5] w (fun v3 w2 => ck_CI (ch_C g A R) d mX10_better [.inl a4, .inl v3] w2 (fun v7 w6 => ck_i (a5 + 1) ∧ (ck_At (ch_C g A R) (d + 1) mX10_weighAll K 12 [some (.inr (.inr 51)), some (.inl a1), some (.inl a2), some (.inl a3), some (.inl v7), some (.inl (a5 + 1))] [] w6))))) : ck_At (ch_C g A R) (d + 1) mX10_weighAll K 12 [some (.inr (.inr 51)), some (.inl a1), some (.inl a2), some (.inl a3), some (.inl a4), some (.inl a5)] [] w :=
  ck_in (fun hl => (ck_iload 14 rfl dX10_weighAll_12 rfl (ck_iload_n 15 rfl 3 dX10_weighAll_14 rfl rfl (ck_icmp_ge 18 rfl 38 dX10_weighAll_15 rfl hl.2.2.2.2.2.1 hl.2.2.2.1 (fun c11 => (ck_aload_n 39 rfl 0 dX10_weighAll_38 rfl rfl (ck_getr 42 rfl dX10_weighAll_39 fl_X10_19 sh_51 rfl (ck_iload_n 43 rfl 1 dX10_weighAll_42 rfl rfl (ck_iload 45 rfl dX10_weighAll_43 rfl (ck_ldc 47 rfl 1048575 kc_X10_160 dX10_weighAll_45 rfl (ck_iand 48 rfl dX10_weighAll_47 (have h14 := (h.1 c11); have o1 := h14.1; have h13 := h14.2; (ck_iast 49 rfl dX10_weighAll_48 sh_61 (shn_61 hC) o1 (ck_rng _) (ck_aload_n 50 rfl 0 dX10_weighAll_49 rfl rfl (ck_getr 53 rfl dX10_weighAll_50 fl_X10_15 sh_51 rfl (ck_iload_n 54 rfl 1 dX10_weighAll_53 rfl rfl (ck_iload 56 rfl dX10_weighAll_54 rfl (ck_bipush 58 rfl dX10_weighAll_56 rfl (ck_ishr 59 rfl dX10_weighAll_58 (ck_iast 60 rfl dX10_weighAll_59 sh_60 (shn_60 hC) o1 (ck_rng _) (ck_vret dX10_weighAll_60 rfl h13))))))))))))))))) (fun c12 => (ck_iload 20 rfl dX10_weighAll_18 rfl (ck_aload_n 21 rfl 0 dX10_weighAll_20 rfl rfl (ck_iload_n 22 rfl 2 dX10_weighAll_21 rfl rfl (ck_iload 24 rfl dX10_weighAll_22 rfl (ck_callV 27 rfl [.inl a2, .inl a5] [.inl a4] dX10_weighAll_24 cv_X10_167 sh_51 rfl rfl (Nat.le_of_ble_eq_true rfl) (And.intro hl.2.2.1 (And.intro hl.2.2.2.2.2.1 True.intro)) (ck_mI (h.2 c12) (fun v3 w2 q4 h5 => (ck_callS 30 rfl [.inl a4, .inl v3] [] dX10_weighAll_27 cs_X10_156 rfl rfl (Nat.le_of_ble_eq_true rfl) (And.intro hl.2.2.2.2.1 (And.intro q4 True.intro)) (ck_mI h5 (fun v7 w6 q8 h9 => (ck_istore 32 rfl [some (.inr (.inr 51)), some (.inl a1), some (.inl a2), some (.inl a3), some (.inl v7), some (.inl a5)] dX10_weighAll_30 (Nat.le_of_ble_eq_true rfl) rfl rfl q8 (have h16 := h9; have o10 := h16.1; have h15 := h16.2; (ck_iinc 35 rfl [some (.inr (.inr 51)), some (.inl a1), some (.inl a2), some (.inl a3), some (.inl v7), some (.inl (a5 + 1))] dX10_weighAll_32 rfl (Nat.le_of_ble_eq_true rfl) rfl rfl o10 (ck_goto 12 dX10_weighAll_35 rfl h15)))))))))))))))))))
theorem S_X10_weighAll {g : ch_G} {A R : Nat} (hC : ck_Cx g A R) {d : Nat} {K : Option ck_V → ck_W → Prop} {w : ck_W} {a1 k : Int} {G : Int → Int → Int} (hD : cs_D A R w) (hT : cs_T w) (hW : cw_tab A w) (hG : cw_Gv R G) (h1 : 0 ≤ a1 ∧ a1 ≤ 5) (hk : w 6 a1 = k) (hg : cw_gn R (k * (A : Int)) G w) (hr : cw_row A R k G w (k * (A : Int) - (A : Int)).toNat) (h : K none (ck_up (ck_up w 61 a1 (cw_be A R k G % 1048576)) 60 a1 (cw_be A R k G / 1048576))) : ck_Ex (ch_C g A R) (d + 2) mX10_weighAll [.inr (.inr 51), .inl a1, .inl (k * (A : Int) - (A : Int))] w K := by
  have tk := hT a1 h1.1 h1.2
  rw [hk] at tk
  have wb := cw_Wb hC tk
  refine e_X10_weighAll hC (p_X10_firstWindows hC hD hT hW h1 ⟨_, rfl, fun _ => ?_⟩)
  rw [hk]
  have ob := cw_be_ok hC tk hG
  unfold cw_be at h ob
  have lp : ∀ (m : Nat) (b i : Int), ((R : Int) - k + 1) * cw_N A - i = m → 0 ≤ i → cw_ok 216 b → cw_fo (cw_wi A R k G) m i b = cw_fo (cw_wi A R k G) (((R : Int) - k + 1) * cw_N A).toNat 0 0 → ck_At (ch_C g A R) (d + 2) mX10_weighAll K 12 [some (.inr (.inr 51)), some (.inl a1), some (.inl (k * (A : Int) - (A : Int))), some (.inl (((R : Int) - k + 1) * cw_N A)), some (.inl b), some (.inl i)] [] w := by
    intro m
    induction m with
    | zero =>
      intro b i g1 g2 g3 e
      rw [cw_fo] at e
      rw [← e] at h ob
      unfold cw_ok at ob
      refine r_X10_weighAll_12 hC ⟨fun _ => ⟨by omega, ?_⟩, fun q => absurd (by omega) q⟩
      rw [kx_and (by omega), kx_shr (by omega)]
      exact h
    | succ m ih =>
      intro b i g1 g2 g3 e
      rw [cw_fo] at e
      have o := cw_wi_ok hC tk hG i
      refine r_X10_weighAll_12 hC ⟨fun q => absurd q (by omega), fun _ => p_X10_withWindow hC hD hW hG tk hg hr ⟨g2, by omega⟩ ⟨_, rfl, fun _ => p_X10_better hC (by unfold cw_ok at g3 ⊢; omega) (by unfold cw_ok at o ⊢; omega) ⟨_, rfl, fun _ => ⟨by constructor <;> omega, ih _ _ (by omega) (by omega) (cw_bt_ok g3 o) e⟩⟩⟩⟩
  exact lp (((R : Int) - k + 1) * cw_N A).toNat 0 0 (by omega) (by omega) (Or.inl rfl) rfl
theorem dX10_bestWindow_0 : decode cX10_bestWindow 0 = .ok (.aload_n 0, 1) := dk_42 (by decide +kernel)
theorem dX10_bestWindow_1 : decode cX10_bestWindow 1 = .ok (.iload_n 1, 1) := dk_27 (by decide +kernel)
theorem dX10_bestWindow_2 : decode cX10_bestWindow 2 = .ok (.invokevirtual 164, 3) := dk_182 0 164 (by decide +kernel)
theorem dX10_bestWindow_5 : decode cX10_bestWindow 5 = .ok (.istore 4, 2) := dk_54 (by decide +kernel)
theorem dX10_bestWindow_7 : decode cX10_bestWindow 7 = .ok (.iconst 0, 1) := dk_3 (by decide +kernel)
theorem dX10_bestWindow_8 : decode cX10_bestWindow 8 = .ok (.istore 5, 2) := dk_54 (by decide +kernel)
theorem dX10_bestWindow_10 : decode cX10_bestWindow 10 = .ok (.iload 5, 2) := dk_21 (by decide +kernel)
theorem dX10_bestWindow_12 : decode cX10_bestWindow 12 = .ok (.iload 4, 2) := dk_21 (by decide +kernel)
theorem dX10_bestWindow_14 : decode cX10_bestWindow 14 = .ok (.if_icmp .ge 58, 3) := dk_162 0 58 (by decide +kernel)
theorem dX10_bestWindow_17 : decode cX10_bestWindow 17 = .ok (.iload_n 3, 1) := dk_29 (by decide +kernel)
theorem dX10_bestWindow_18 : decode cX10_bestWindow 18 = .ok (.ifCond .eq 13, 3) := dk_153 0 13 (by decide +kernel)
theorem dX10_bestWindow_21 : decode cX10_bestWindow 21 = .ok (.iload 4, 2) := dk_21 (by decide +kernel)
theorem dX10_bestWindow_23 : decode cX10_bestWindow 23 = .ok (.iconst 1, 1) := dk_4 (by decide +kernel)
theorem dX10_bestWindow_24 : decode cX10_bestWindow 24 = .ok (.isub, 1) := dk_100 (by decide +kernel)
theorem dX10_bestWindow_25 : decode cX10_bestWindow 25 = .ok (.iload 5, 2) := dk_21 (by decide +kernel)
theorem dX10_bestWindow_27 : decode cX10_bestWindow 27 = .ok (.isub, 1) := dk_100 (by decide +kernel)
theorem dX10_bestWindow_28 : decode cX10_bestWindow 28 = .ok (.goto 5, 3) := dk_167 0 5 (by decide +kernel)
theorem dX10_bestWindow_31 : decode cX10_bestWindow 31 = .ok (.iload 5, 2) := dk_21 (by decide +kernel)
theorem dX10_bestWindow_33 : decode cX10_bestWindow 33 = .ok (.istore 6, 2) := dk_54 (by decide +kernel)
theorem dX10_bestWindow_35 : decode cX10_bestWindow 35 = .ok (.aload_n 0, 1) := dk_42 (by decide +kernel)
theorem dX10_bestWindow_36 : decode cX10_bestWindow 36 = .ok (.iload_n 2, 1) := dk_28 (by decide +kernel)
theorem dX10_bestWindow_37 : decode cX10_bestWindow 37 = .ok (.iload 6, 2) := dk_21 (by decide +kernel)
theorem dX10_bestWindow_39 : decode cX10_bestWindow 39 = .ok (.invokevirtual 167, 3) := dk_182 0 167 (by decide +kernel)
theorem dX10_bestWindow_42 : decode cX10_bestWindow 42 = .ok (.istore 7, 2) := dk_54 (by decide +kernel)
theorem dX10_bestWindow_44 : decode cX10_bestWindow 44 = .ok (.iload 7, 2) := dk_21 (by decide +kernel)
theorem dX10_bestWindow_46 : decode cX10_bestWindow 46 = .ok (.ifCond .eq 20, 3) := dk_153 0 20 (by decide +kernel)
theorem dX10_bestWindow_49 : decode cX10_bestWindow 49 = .ok (.iload 7, 2) := dk_21 (by decide +kernel)
theorem dX10_bestWindow_51 : decode cX10_bestWindow 51 = .ok (.bipush 20, 2) := dk_16 20 (by decide +kernel)
theorem dX10_bestWindow_53 : decode cX10_bestWindow 53 = .ok (.ishr, 1) := dk_122 (by decide +kernel)
theorem dX10_bestWindow_54 : decode cX10_bestWindow 54 = .ok (.aload_n 0, 1) := dk_42 (by decide +kernel)
theorem dX10_bestWindow_55 : decode cX10_bestWindow 55 = .ok (.getfield 15, 3) := dk_180 0 15 (by decide +kernel)
theorem dX10_bestWindow_58 : decode cX10_bestWindow 58 = .ok (.iload_n 1, 1) := dk_27 (by decide +kernel)
theorem dX10_bestWindow_59 : decode cX10_bestWindow 59 = .ok (.iaload, 1) := dk_46 (by decide +kernel)
theorem dX10_bestWindow_60 : decode cX10_bestWindow 60 = .ok (.if_icmp .ne 6, 3) := dk_160 0 6 (by decide +kernel)
theorem dX10_bestWindow_63 : decode cX10_bestWindow 63 = .ok (.iload 6, 2) := dk_21 (by decide +kernel)
theorem dX10_bestWindow_65 : decode cX10_bestWindow 65 = .ok (.ireturn, 1) := dk_172 (by decide +kernel)
theorem dX10_bestWindow_66 : decode cX10_bestWindow 66 = .ok (.iinc 5 1, 3) := dk_132 1 (by decide +kernel)
theorem dX10_bestWindow_69 : decode cX10_bestWindow 69 = .ok (.goto (-59), 3) := dk_167 255 197 (by decide +kernel)
theorem dX10_bestWindow_72 : decode cX10_bestWindow 72 = .ok (.iconst 0, 1) := dk_3 (by decide +kernel)
theorem dX10_bestWindow_73 : decode cX10_bestWindow 73 = .ok (.ireturn, 1) := dk_172 (by decide +kernel)
set_option maxRecDepth 8000 in
theorem e_X10_bestWindow {g : ch_G} {A R : Nat} (hC : ck_Cx g A R) {d : Nat} {K : Option ck_V → ck_W → Prop} {w : ck_W} {a1 a2 a3 : Int} (h : ck_CI (ch_C g A R) d mX10_firstWindows [.inr (.inr 51), .inl a1] w (fun v2 w1 => ck_At (ch_C g A R) (d + 1) mX10_bestWindow K 10 [some (.inr (.inr 51)), some (.inl a1), some (.inl a2), some (.inl a3), some (.inl v2), some (.inl 0), none, none] [] w1)) : ck_Ex (ch_C g A R) (d + 1) mX10_bestWindow [.inr (.inr 51), .inl a1, .inl a2, .inl a3] w K :=
  ck_entry hC.1 [some (.inr (.inr 51)), some (.inl a1), some (.inl a2), some (.inl a3), none, none, none, none] (by decide) (Nat.le_of_ble_eq_true rfl) rfl (fun q => q) (ck_in (fun hl => (ck_aload_n 1 rfl 0 dX10_bestWindow_0 rfl rfl (ck_iload_n 2 rfl 1 dX10_bestWindow_1 rfl rfl (ck_callV 5 rfl [.inl a1] [] dX10_bestWindow_2 cv_X10_164 sh_51 rfl rfl (Nat.le_of_ble_eq_true rfl) (And.intro hl.2.1 True.intro) (ck_mI h (fun v2 w1 q3 h4 => (ck_istore 7 rfl [some (.inr (.inr 51)), some (.inl a1), some (.inl a2), some (.inl a3), some (.inl v2), none, none, none] dX10_bestWindow_5 (Nat.le_of_ble_eq_true rfl) rfl rfl q3 (ck_iconst 8 rfl dX10_bestWindow_7 rfl (ck_istore 10 rfl [some (.inr (.inr 51)), some (.inl a1), some (.inl a2), some (.inl a3), some (.inl v2), some (.inl 0), none, none] dX10_bestWindow_8 (Nat.le_of_ble_eq_true rfl) rfl rfl (show ck_i 0 by decide) h4))))))))))
set_option maxRecDepth 8000 in
theorem r_X10_bestWindow_10 {g : ch_G} {A R : Nat} (hC : ck_Cx g A R) {d : Nat} {K : Option ck_V → ck_W → Prop} {w : ck_W} {a1 a2 a3 a4 a5 : Int} (h : (a4 ≤ a5 → K (some (.inl 0)) w) ∧ (¬ a4 ≤ a5 → (a3 = 0 → ck_CI (ch_C g A R) d mX10_withWindow [.inr (.inr 51), .inl a2, .inl a5] w (fun v2 w1 => (v2 = 0 → ck_i (a5 + 1) ∧ (ck_At (ch_C g A R) (d + 1) mX10_bestWindow K 10 [some (.inr (.inr 51)), some (.inl a1), some (.inl a2), some (.inl a3), some (.inl a4), some (.inl (a5 + 1)), none, none] [] w1)) ∧ (¬ v2 = 0 → (0 ≤ a1 ∧ a1 < 6) ∧ ((¬ (ck_shr v2 20) = (w1 60 a1) → ck_i (a5 + 1) ∧ (ck_At (ch_C g A R) (d + 1) mX10_bestWindow K 10 [some (.inr (.inr 51)), some (.inl a1), some (.inl a2), some (.inl a3), some (.inl a4), some (.inl (a5 + 1)), none, none] [] w1)) ∧ ((ck_shr v2 20) = (w1 60 a1) → K (some (.inl a5)) w1))))) ∧ (¬ a3 = 0 → ck_i ((a4 - 1) - a5) ∧ (ck_CI (ch_C g A R) d mX10_withWindow [.inr (.inr 51), .inl a2, .inl ((a4 - 1) - a5)] w (fun v15 w14 => (v15 = 0 → ck_i (a5 + 1) ∧ (ck_At (ch_C g A R) (d + 1) mX10_bestWindow K 10 [some (.inr (.inr 51)), some (.inl a1), some (.inl a2), some (.inl a3), some (.inl a4), some (.inl (a5 + 1)), none, none] [] w14)) ∧ (¬ v15 = 0 → (0 ≤ a1 ∧ a1 < 6) ∧ ((¬ (ck_shr v15 20) = (w14 60 a1) → ck_i (a5 + 1) ∧ (ck_At (ch_C g A R) (d + 1) mX10_bestWindow K 10 [some (.inr (.inr 51)), some (.inl a1), some (.inl a2), some (.inl a3), some (.inl a4), some (.inl (a5 + 1)), none, none] [] w14)) ∧ ((ck_shr v15 20) = (w14 60 a1) → K (some (.inl ((a4 - 1) - a5))) w14)))))))) : ck_At (ch_C g A R) (d + 1) mX10_bestWindow K 10 [some (.inr (.inr 51)), some (.inl a1), some (.inl a2), some (.inl a3), some (.inl a4), some (.inl a5), none, none] [] w :=
  ck_in (fun hl => (ck_iload 12 rfl dX10_bestWindow_10 rfl (ck_iload 14 rfl dX10_bestWindow_12 rfl (ck_icmp_ge 17 rfl 72 dX10_bestWindow_14 rfl hl.2.2.2.2.2.1 hl.2.2.2.2.1 (fun c28 => (ck_iconst 73 rfl dX10_bestWindow_72 rfl (ck_iret dX10_bestWindow_73 rfl (show ck_i 0 by decide) (h.1 c28)))) (fun c29 => (ck_iload_n 18 rfl 3 dX10_bestWindow_17 rfl rfl (have h30 := (h.2 c29); (ck_if_eq 21 rfl 31 dX10_bestWindow_18 rfl hl.2.2.2.1 (fun c26 => (ck_iload 33 rfl dX10_bestWindow_31 rfl (ck_istore 35 rfl [some (.inr (.inr 51)), some (.inl a1), some (.inl a2), some (.inl a3), some (.inl a4), some (.inl a5), some (.inl a5), none] dX10_bestWindow_33 (Nat.le_of_ble_eq_true rfl) rfl rfl hl.2.2.2.2.2.1 (ck_aload_n 36 rfl 0 dX10_bestWindow_35 rfl rfl (ck_iload_n 37 rfl 2 dX10_bestWindow_36 rfl rfl (ck_iload 39 rfl dX10_bestWindow_37 rfl (ck_callV 42 rfl [.inl a2, .inl a5] [] dX10_bestWindow_39 cv_X10_167 sh_51 rfl rfl (Nat.le_of_ble_eq_true rfl) (And.intro hl.2.2.1 (And.intro hl.2.2.2.2.2.1 True.intro)) (ck_mI (h30.1 c26) (fun v2 w1 q3 h4 => (ck_istore 44 rfl [some (.inr (.inr 51)), some (.inl a1), some (.inl a2), some (.inl a3), some (.inl a4), some (.inl a5), some (.inl a5), some (.inl v2)] dX10_bestWindow_42 (Nat.le_of_ble_eq_true rfl) rfl rfl q3 (ck_iload 46 rfl dX10_bestWindow_44 rfl (ck_if_eq 49 rfl 66 dX10_bestWindow_46 rfl q3 (fun c11 => (have h32 := (h4.1 c11); have o5 := h32.1; have h31 := h32.2; (ck_iinc 69 rfl [some (.inr (.inr 51)), some (.inl a1), some (.inl a2), some (.inl a3), some (.inl a4), some (.inl (a5 + 1)), some (.inl a5), some (.inl v2)] dX10_bestWindow_66 rfl (Nat.le_of_ble_eq_true rfl) rfl rfl o5 (ck_goto 10 dX10_bestWindow_69 rfl (ck_drop [some (.inr (.inr 51)), some (.inl a1), some (.inl a2), some (.inl a3), some (.inl a4), some (.inl (a5 + 1)), none, none] (And.intro rfl (And.intro rfl (And.intro rfl (And.intro rfl (And.intro rfl (And.intro rfl True.intro)))))) h31))))) (fun c12 => (ck_iload 51 rfl dX10_bestWindow_49 rfl (ck_bipush 53 rfl dX10_bestWindow_51 rfl (ck_ishr 54 rfl dX10_bestWindow_53 (ck_aload_n 55 rfl 0 dX10_bestWindow_54 rfl rfl (ck_getr 58 rfl dX10_bestWindow_55 fl_X10_15 sh_51 rfl (ck_iload_n 59 rfl 1 dX10_bestWindow_58 rfl rfl (have h34 := (h4.2 c12); have o6 := h34.1; have h33 := h34.2; (ck_iald 60 rfl dX10_bestWindow_59 sh_60 (shn_60 hC) o6 _ rfl (fun (q7 : ck_i (w1 60 a1)) => (ck_icmp_ne 63 rfl 66 dX10_bestWindow_60 rfl (ck_rng _) q7 (fun c9 => (have h36 := (h33.1 c9); have o8 := h36.1; have h35 := h36.2; (ck_iinc 69 rfl [some (.inr (.inr 51)), some (.inl a1), some (.inl a2), some (.inl a3), some (.inl a4), some (.inl (a5 + 1)), some (.inl a5), some (.inl v2)] dX10_bestWindow_66 rfl (Nat.le_of_ble_eq_true rfl) rfl rfl o8 (ck_goto 10 dX10_bestWindow_69 rfl (ck_drop [some (.inr (.inr 51)), some (.inl a1), some (.inl a2), some (.inl a3), some (.inl a4), some (.inl (a5 + 1)), none, none] (And.intro rfl (And.intro rfl (And.intro rfl (And.intro rfl (And.intro rfl (And.intro rfl True.intro)))))) h35))))) (fun c10 => (ck_iload 65 rfl dX10_bestWindow_63 rfl (ck_iret dX10_bestWindow_65 rfl hl.2.2.2.2.2.1 (h33.2 c10))))))))))))))))))))))))))) (fun c27 => (ck_iload 23 rfl dX10_bestWindow_21 rfl (ck_iconst 24 rfl dX10_bestWindow_23 rfl (ck_isub 25 rfl dX10_bestWindow_24 (ck_iload 27 rfl dX10_bestWindow_25 rfl (ck_isub 28 rfl dX10_bestWindow_27 (ck_goto 33 dX10_bestWindow_28 rfl (have h38 := (h30.2 c27); have o13 := h38.1; have h37 := h38.2; (ck_istore 35 rfl [some (.inr (.inr 51)), some (.inl a1), some (.inl a2), some (.inl a3), some (.inl a4), some (.inl a5), some (.inl ((a4 - 1) - a5)), none] dX10_bestWindow_33 (Nat.le_of_ble_eq_true rfl) rfl rfl o13 (ck_aload_n 36 rfl 0 dX10_bestWindow_35 rfl rfl (ck_iload_n 37 rfl 2 dX10_bestWindow_36 rfl rfl (ck_iload 39 rfl dX10_bestWindow_37 rfl (ck_callV 42 rfl [.inl a2, .inl ((a4 - 1) - a5)] [] dX10_bestWindow_39 cv_X10_167 sh_51 rfl rfl (Nat.le_of_ble_eq_true rfl) (And.intro hl.2.2.1 (And.intro o13 True.intro)) (ck_mI h37 (fun v15 w14 q16 h17 => (ck_istore 44 rfl [some (.inr (.inr 51)), some (.inl a1), some (.inl a2), some (.inl a3), some (.inl a4), some (.inl a5), some (.inl ((a4 - 1) - a5)), some (.inl v15)] dX10_bestWindow_42 (Nat.le_of_ble_eq_true rfl) rfl rfl q16 (ck_iload 46 rfl dX10_bestWindow_44 rfl (ck_if_eq 49 rfl 66 dX10_bestWindow_46 rfl q16 (fun c24 => (have h40 := (h17.1 c24); have o18 := h40.1; have h39 := h40.2; (ck_iinc 69 rfl [some (.inr (.inr 51)), some (.inl a1), some (.inl a2), some (.inl a3), some (.inl a4), some (.inl (a5 + 1)), some (.inl ((a4 - 1) - a5)), some (.inl v15)] dX10_bestWindow_66 rfl (Nat.le_of_ble_eq_true rfl) rfl rfl o18 (ck_goto 10 dX10_bestWindow_69 rfl (ck_drop [some (.inr (.inr 51)), some (.inl a1), some (.inl a2), some (.inl a3), some (.inl a4), some (.inl (a5 + 1)), none, none] (And.intro rfl (And.intro rfl (And.intro rfl (And.intro rfl (And.intro rfl (And.intro rfl True.intro)))))) h39))))) (fun c25 => (ck_iload 51 rfl dX10_bestWindow_49 rfl (ck_bipush 53 rfl dX10_bestWindow_51 rfl (ck_ishr 54 rfl dX10_bestWindow_53 (ck_aload_n 55 rfl 0 dX10_bestWindow_54 rfl rfl (ck_getr 58 rfl dX10_bestWindow_55 fl_X10_15 sh_51 rfl (ck_iload_n 59 rfl 1 dX10_bestWindow_58 rfl rfl (have h42 := (h17.2 c25); have o19 := h42.1; have h41 := h42.2; (ck_iald 60 rfl dX10_bestWindow_59 sh_60 (shn_60 hC) o19 _ rfl (fun (q20 : ck_i (w14 60 a1)) => (ck_icmp_ne 63 rfl 66 dX10_bestWindow_60 rfl (ck_rng _) q20 (fun c22 => (have h44 := (h41.1 c22); have o21 := h44.1; have h43 := h44.2; (ck_iinc 69 rfl [some (.inr (.inr 51)), some (.inl a1), some (.inl a2), some (.inl a3), some (.inl a4), some (.inl (a5 + 1)), some (.inl ((a4 - 1) - a5)), some (.inl v15)] dX10_bestWindow_66 rfl (Nat.le_of_ble_eq_true rfl) rfl rfl o21 (ck_goto 10 dX10_bestWindow_69 rfl (ck_drop [some (.inr (.inr 51)), some (.inl a1), some (.inl a2), some (.inl a3), some (.inl a4), some (.inl (a5 + 1)), none, none] (And.intro rfl (And.intro rfl (And.intro rfl (And.intro rfl (And.intro rfl (And.intro rfl True.intro)))))) h43))))) (fun c23 => (ck_iload 65 rfl dX10_bestWindow_63 rfl (ck_iret dX10_bestWindow_65 rfl o13 (h41.2 c23)))))))))))))))))))))))))))))))))))))))))
theorem S_X10_bestWindow {g : ch_G} {A R : Nat} (hC : ck_Cx g A R) {d : Nat} {K : Option ck_V → ck_W → Prop} {w : ck_W} {a1 a3 k : Int} {G : Int → Int → Int} (fa : Bool) (hf : a3 = if fa then 1 else 0) (hD : cs_D A R w) (hT : cs_T w) (hW : cw_tab A w) (hG : cw_Gv R G) (h1 : 0 ≤ a1 ∧ a1 ≤ 5) (hk : w 6 a1 = k) (hg : cw_gn R (k * (A : Int)) G w) (hr : cw_row A R k G w (k * (A : Int) - (A : Int)).toNat) (hF : w 60 a1 = cw_be A R k G / 1048576) (h : K (some (.inl (cw_w0 A R k G fa))) w) : ck_Ex (ch_C g A R) (d + 2) mX10_bestWindow [.inr (.inr 51), .inl a1, .inl (k * (A : Int) - (A : Int)), .inl a3] w K := by
  have tk := hT a1 h1.1 h1.2
  rw [hk] at tk
  have wb := cw_Wb hC tk
  refine e_X10_bestWindow hC (p_X10_firstWindows hC hD hT hW h1 ⟨_, rfl, fun _ => ?_⟩)
  rw [hk]
  unfold cw_w0 at h
  have lp : ∀ (m : Nat) (i : Int), ((R : Int) - k + 1) * cw_N A - i = m → 0 ≤ i → K (some (.inl (cw_ff (fun i => decide (cw_wi A R k G i ≠ 0 ∧ cw_wi A R k G i / 1048576 = cw_be A R k G / 1048576)) (fun i => if fa then ((R : Int) - k + 1) * cw_N A - 1 - i else i) 0 m i))) w → ck_At (ch_C g A R) (d + 2) mX10_bestWindow K 10 [some (.inr (.inr 51)), some (.inl a1), some (.inl (k * (A : Int) - (A : Int))), some (.inl a3), some (.inl (((R : Int) - k + 1) * cw_N A)), some (.inl i), none, none] [] w := by
    intro m
    induction m with
    | zero =>
      intro i g1 g2 h
      rw [cw_ff] at h
      exact r_X10_bestWindow_10 hC ⟨fun _ => h, fun q => absurd (by omega) q⟩
    | succ m ih =>
      intro i g1 g2 h
      rw [cw_ff] at h
      have sr : ∀ j, ck_shr (cw_wi A R k G j) 20 = cw_wi A R k G j / 1048576 := fun j => by
        have o := cw_wi_ok hC tk hG j
        unfold cw_ok at o
        exact kx_shr (by omega)
      cases fa
      · have ea : a3 = 0 := hf
        rw [show (if false = true then ((R : Int) - k + 1) * cw_N A - 1 - i else i) = i from rfl] at h
        refine r_X10_bestWindow_10 hC ⟨fun q => absurd q (by omega), fun _ => ⟨fun _ => p_X10_withWindow hC hD hW hG tk hg hr ⟨g2, by omega⟩ ⟨_, rfl, fun _ => ?_⟩, fun q => absurd ea q⟩⟩
        dsimp only
        rw [sr, hF]
        refine ⟨fun z => ⟨by constructor <;> omega, ih _ (by omega) (by omega) ?_⟩, fun z => ⟨by omega, fun z2 => ⟨by constructor <;> omega, ih _ (by omega) (by omega) ?_⟩, fun z2 => ?_⟩⟩
        · rw [if_neg (by simp only [decide_eq_true_eq]; exact fun y => y.1 z)] at h; exact h
        · rw [if_neg (by simp only [decide_eq_true_eq]; exact fun y => z2 y.2)] at h; exact h
        · rw [if_pos (by simp only [decide_eq_true_eq]; exact ⟨z, z2⟩)] at h; exact h
      · have ea : a3 = 1 := hf
        rw [show (if true = true then ((R : Int) - k + 1) * cw_N A - 1 - i else i) = ((R : Int) - k + 1) * cw_N A - 1 - i from rfl] at h
        refine r_X10_bestWindow_10 hC ⟨fun q => absurd q (by omega), fun _ => ⟨fun q => absurd q (by omega), fun _ => ⟨by constructor <;> omega, p_X10_withWindow hC hD hW hG tk hg hr ⟨by omega, by omega⟩ ⟨_, rfl, fun _ => ?_⟩⟩⟩⟩
        dsimp only
        rw [sr, hF]
        refine ⟨fun z => ⟨by constructor <;> omega, ih _ (by omega) (by omega) ?_⟩, fun z => ⟨by omega, fun z2 => ⟨by constructor <;> omega, ih _ (by omega) (by omega) ?_⟩, fun z2 => ?_⟩⟩
        · rw [if_neg (by simp only [decide_eq_true_eq]; exact fun y => y.1 z)] at h; exact h
        · rw [if_neg (by simp only [decide_eq_true_eq]; exact fun y => z2 y.2)] at h; exact h
        · rw [if_pos (by simp only [decide_eq_true_eq]; exact ⟨z, z2⟩)] at h; exact h
  exact lp (((R : Int) - k + 1) * cw_N A).toNat 0 (by omega) (by omega) h
