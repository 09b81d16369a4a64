/-! ===== the class: about ===== -/
theorem dX11_about_0 : decode cX11_about 0 = .ok (.iload_n 1, 1) := dk_27 (by decide +kernel)
theorem dX11_about_1 : decode cX11_about 1 = .ok (.bipush 10, 2) := dk_16 10 (by decide +kernel)
theorem dX11_about_3 : decode cX11_about 3 = .ok (.bipush 15, 2) := dk_16 15 (by decide +kernel)
theorem dX11_about_5 : decode cX11_about 5 = .ok (.invokestatic 82, 3) := dk_184 0 82 (by decide +kernel)
theorem dX11_about_8 : decode cX11_about 8 = .ok (.ifCond .eq 19, 3) := dk_153 0 19 (by decide +kernel)
theorem dX11_about_11 : decode cX11_about 11 = .ok (.aload_n 0, 1) := dk_42 (by decide +kernel)
theorem dX11_about_12 : decode cX11_about 12 = .ok (.getfield 14, 3) := dk_180 0 14 (by decide +kernel)
theorem dX11_about_15 : decode cX11_about 15 = .ok (.getfield 23, 3) := dk_180 0 23 (by decide +kernel)
theorem dX11_about_18 : decode cX11_about 18 = .ok (.getfield 107, 3) := dk_180 0 107 (by decide +kernel)
theorem dX11_about_21 : decode cX11_about 21 = .ok (.iload_n 1, 1) := dk_27 (by decide +kernel)
theorem dX11_about_22 : decode cX11_about 22 = .ok (.bipush 10, 2) := dk_16 10 (by decide +kernel)
theorem dX11_about_24 : decode cX11_about 24 = .ok (.isub, 1) := dk_100 (by decide +kernel)
theorem dX11_about_25 : decode cX11_about 25 = .ok (.iaload, 1) := dk_46 (by decide +kernel)
theorem dX11_about_26 : decode cX11_about 26 = .ok (.ireturn, 1) := dk_172 (by decide +kernel)
theorem dX11_about_27 : decode cX11_about 27 = .ok (.aload_n 0, 1) := dk_42 (by decide +kernel)
theorem dX11_about_28 : decode cX11_about 28 = .ok (.getfield 14, 3) := dk_180 0 14 (by decide +kernel)
theorem dX11_about_31 : decode cX11_about 31 = .ok (.getfield 56, 3) := dk_180 0 56 (by decide +kernel)
theorem dX11_about_34 : decode cX11_about 34 = .ok (.iload_n 1, 1) := dk_27 (by decide +kernel)
theorem dX11_about_35 : decode cX11_about 35 = .ok (.bipush 20, 2) := dk_16 20 (by decide +kernel)
theorem dX11_about_37 : decode cX11_about 37 = .ok (.isub, 1) := dk_100 (by decide +kernel)
theorem dX11_about_38 : decode cX11_about 38 = .ok (.invokevirtual 215, 3) := dk_182 0 215 (by decide +kernel)
theorem dX11_about_41 : decode cX11_about 41 = .ok (.ifCond .eq 19, 3) := dk_153 0 19 (by decide +kernel)
theorem dX11_about_44 : decode cX11_about 44 = .ok (.aload_n 0, 1) := dk_42 (by decide +kernel)
theorem dX11_about_45 : decode cX11_about 45 = .ok (.getfield 14, 3) := dk_180 0 14 (by decide +kernel)
theorem dX11_about_48 : decode cX11_about 48 = .ok (.getfield 56, 3) := dk_180 0 56 (by decide +kernel)
theorem dX11_about_51 : decode cX11_about 51 = .ok (.getfield 197, 3) := dk_180 0 197 (by decide +kernel)
theorem dX11_about_54 : decode cX11_about 54 = .ok (.iload_n 1, 1) := dk_27 (by decide +kernel)
theorem dX11_about_55 : decode cX11_about 55 = .ok (.bipush 20, 2) := dk_16 20 (by decide +kernel)
theorem dX11_about_57 : decode cX11_about 57 = .ok (.isub, 1) := dk_100 (by decide +kernel)
theorem dX11_about_58 : decode cX11_about 58 = .ok (.iaload, 1) := dk_46 (by decide +kernel)
theorem dX11_about_59 : decode cX11_about 59 = .ok (.ireturn, 1) := dk_172 (by decide +kernel)
theorem dX11_about_60 : decode cX11_about 60 = .ok (.iload_n 1, 1) := dk_27 (by decide +kernel)
theorem dX11_about_61 : decode cX11_about 61 = .ok (.tableswitch 162 0 9 #[55, 66, 77, 88, 99, 110, 121, 132, 143, 154], 55) := by decide +kernel
theorem dX11_about_116 : decode cX11_about 116 = .ok (.aload_n 0, 1) := dk_42 (by decide +kernel)
theorem dX11_about_117 : decode cX11_about 117 = .ok (.getfield 14, 3) := dk_180 0 14 (by decide +kernel)
theorem dX11_about_120 : decode cX11_about 120 = .ok (.getfield 23, 3) := dk_180 0 23 (by decide +kernel)
theorem dX11_about_123 : decode cX11_about 123 = .ok (.getfield 164, 3) := dk_180 0 164 (by decide +kernel)
theorem dX11_about_126 : decode cX11_about 126 = .ok (.ireturn, 1) := dk_172 (by decide +kernel)
theorem dX11_about_127 : decode cX11_about 127 = .ok (.aload_n 0, 1) := dk_42 (by decide +kernel)
theorem dX11_about_128 : decode cX11_about 128 = .ok (.getfield 14, 3) := dk_180 0 14 (by decide +kernel)
theorem dX11_about_131 : decode cX11_about 131 = .ok (.getfield 23, 3) := dk_180 0 23 (by decide +kernel)
theorem dX11_about_134 : decode cX11_about 134 = .ok (.getfield 97, 3) := dk_180 0 97 (by decide +kernel)
theorem dX11_about_137 : decode cX11_about 137 = .ok (.ireturn, 1) := dk_172 (by decide +kernel)
theorem dX11_about_138 : decode cX11_about 138 = .ok (.aload_n 0, 1) := dk_42 (by decide +kernel)
theorem dX11_about_139 : decode cX11_about 139 = .ok (.getfield 14, 3) := dk_180 0 14 (by decide +kernel)
theorem dX11_about_142 : decode cX11_about 142 = .ok (.getfield 56, 3) := dk_180 0 56 (by decide +kernel)
theorem dX11_about_145 : decode cX11_about 145 = .ok (.getfield 182, 3) := dk_180 0 182 (by decide +kernel)
theorem dX11_about_148 : decode cX11_about 148 = .ok (.ireturn, 1) := dk_172 (by decide +kernel)
theorem dX11_about_149 : decode cX11_about 149 = .ok (.aload_n 0, 1) := dk_42 (by decide +kernel)
theorem dX11_about_150 : decode cX11_about 150 = .ok (.getfield 14, 3) := dk_180 0 14 (by decide +kernel)
theorem dX11_about_153 : decode cX11_about 153 = .ok (.getfield 23, 3) := dk_180 0 23 (by decide +kernel)
theorem dX11_about_156 : decode cX11_about 156 = .ok (.getfield 117, 3) := dk_180 0 117 (by decide +kernel)
theorem dX11_about_159 : decode cX11_about 159 = .ok (.ireturn, 1) := dk_172 (by decide +kernel)
theorem dX11_about_160 : decode cX11_about 160 = .ok (.aload_n 0, 1) := dk_42 (by decide +kernel)
theorem dX11_about_161 : decode cX11_about 161 = .ok (.getfield 14, 3) := dk_180 0 14 (by decide +kernel)
theorem dX11_about_164 : decode cX11_about 164 = .ok (.getfield 36, 3) := dk_180 0 36 (by decide +kernel)
theorem dX11_about_167 : decode cX11_about 167 = .ok (.getfield 140, 3) := dk_180 0 140 (by decide +kernel)
theorem dX11_about_170 : decode cX11_about 170 = .ok (.ireturn, 1) := dk_172 (by decide +kernel)
theorem dX11_about_171 : decode cX11_about 171 = .ok (.aload_n 0, 1) := dk_42 (by decide +kernel)
theorem dX11_about_172 : decode cX11_about 172 = .ok (.getfield 14, 3) := dk_180 0 14 (by decide +kernel)
theorem dX11_about_175 : decode cX11_about 175 = .ok (.getfield 56, 3) := dk_180 0 56 (by decide +kernel)
theorem dX11_about_178 : decode cX11_about 178 = .ok (.getfield 212, 3) := dk_180 0 212 (by decide +kernel)
theorem dX11_about_181 : decode cX11_about 181 = .ok (.ireturn, 1) := dk_172 (by decide +kernel)
theorem dX11_about_182 : decode cX11_about 182 = .ok (.aload_n 0, 1) := dk_42 (by decide +kernel)
theorem dX11_about_183 : decode cX11_about 183 = .ok (.getfield 14, 3) := dk_180 0 14 (by decide +kernel)
theorem dX11_about_186 : decode cX11_about 186 = .ok (.getfield 229, 3) := dk_180 0 229 (by decide +kernel)
theorem dX11_about_189 : decode cX11_about 189 = .ok (.getfield 233, 3) := dk_180 0 233 (by decide +kernel)
theorem dX11_about_192 : decode cX11_about 192 = .ok (.ireturn, 1) := dk_172 (by decide +kernel)
theorem dX11_about_193 : decode cX11_about 193 = .ok (.aload_n 0, 1) := dk_42 (by decide +kernel)
theorem dX11_about_194 : decode cX11_about 194 = .ok (.getfield 14, 3) := dk_180 0 14 (by decide +kernel)
theorem dX11_about_197 : decode cX11_about 197 = .ok (.getfield 229, 3) := dk_180 0 229 (by decide +kernel)
theorem dX11_about_200 : decode cX11_about 200 = .ok (.getfield 244, 3) := dk_180 0 244 (by decide +kernel)
theorem dX11_about_203 : decode cX11_about 203 = .ok (.ireturn, 1) := dk_172 (by decide +kernel)
theorem dX11_about_204 : decode cX11_about 204 = .ok (.aload_n 0, 1) := dk_42 (by decide +kernel)
theorem dX11_about_205 : decode cX11_about 205 = .ok (.getfield 14, 3) := dk_180 0 14 (by decide +kernel)
theorem dX11_about_208 : decode cX11_about 208 = .ok (.getfield 310, 3) := dk_180 1 54 (by decide +kernel)
theorem dX11_about_211 : decode cX11_about 211 = .ok (.getfield 314, 3) := dk_180 1 58 (by decide +kernel)
theorem dX11_about_214 : decode cX11_about 214 = .ok (.ireturn, 1) := dk_172 (by decide +kernel)
theorem dX11_about_215 : decode cX11_about 215 = .ok (.aload_n 0, 1) := dk_42 (by decide +kernel)
theorem dX11_about_216 : decode cX11_about 216 = .ok (.getfield 50, 3) := dk_180 0 50 (by decide +kernel)
theorem dX11_about_219 : decode cX11_about 219 = .ok (.getfield 176, 3) := dk_180 0 176 (by decide +kernel)
theorem dX11_about_222 : decode cX11_about 222 = .ok (.ireturn, 1) := dk_172 (by decide +kernel)
theorem dX11_about_223 : decode cX11_about 223 = .ok (.iconst (-1), 1) := dk_2 (by decide +kernel)
theorem dX11_about_224 : decode cX11_about 224 = .ok (.ireturn, 1) := dk_172 (by decide +kernel)
set_option maxRecDepth 8000 in
theorem sX11_about_61_0 : (#[55, 66, 77, 88, 99, 110, 121, 132, 143, 154] : Array Int)[0]? = some (55) := by decide +kernel
set_option maxRecDepth 8000 in
theorem sX11_about_61_1 : (#[55, 66, 77, 88, 99, 110, 121, 132, 143, 154] : Array Int)[1]? = some (66) := by decide +kernel
set_option maxRecDepth 8000 in
theorem sX11_about_61_2 : (#[55, 66, 77, 88, 99, 110, 121, 132, 143, 154] : Array Int)[2]? = some (77) := by decide +kernel
set_option maxRecDepth 8000 in
theorem sX11_about_61_3 : (#[55, 66, 77, 88, 99, 110, 121, 132, 143, 154] : Array Int)[3]? = some (88) := by decide +kernel
set_option maxRecDepth 8000 in
theorem sX11_about_61_4 : (#[55, 66, 77, 88, 99, 110, 121, 132, 143, 154] : Array Int)[4]? = some (99) := by decide +kernel
set_option maxRecDepth 8000 in
theorem sX11_about_61_5 : (#[55, 66, 77, 88, 99, 110, 121, 132, 143, 154] : Array Int)[5]? = some (110) := by decide +kernel
set_option maxRecDepth 8000 in
theorem sX11_about_61_6 : (#[55, 66, 77, 88, 99, 110, 121, 132, 143, 154] : Array Int)[6]? = some (121) := by decide +kernel
set_option maxRecDepth 8000 in
theorem sX11_about_61_7 : (#[55, 66, 77, 88, 99, 110, 121, 132, 143, 154] : Array Int)[7]? = some (132) := by decide +kernel
set_option maxRecDepth 8000 in
theorem sX11_about_61_8 : (#[55, 66, 77, 88, 99, 110, 121, 132, 143, 154] : Array Int)[8]? = some (143) := by decide +kernel
set_option maxRecDepth 8000 in
theorem sX11_about_61_9 : (#[55, 66, 77, 88, 99, 110, 121, 132, 143, 154] : Array Int)[9]? = some (154) := by decide +kernel
set_option maxRecDepth 8000 in
theorem oX11_about_61 {a : Int} (c0 : ¬ a = 0 + ((0 : Nat) : Int)) (c1 : ¬ a = 0 + ((1 : Nat) : Int)) (c2 : ¬ a = 0 + ((2 : Nat) : Int)) (c3 : ¬ a = 0 + ((3 : Nat) : Int)) (c4 : ¬ a = 0 + ((4 : Nat) : Int)) (c5 : ¬ a = 0 + ((5 : Nat) : Int)) (c6 : ¬ a = 0 + ((6 : Nat) : Int)) (c7 : ¬ a = 0 + ((7 : Nat) : Int)) (c8 : ¬ a = 0 + ((8 : Nat) : Int)) (c9 : ¬ a = 0 + ((9 : Nat) : Int)) : a < 0 ∨ 9 < a := by omega
set_option maxRecDepth 8000 in
theorem e_X11_about {g : ch_G} {A R : Nat} (hC : ck_Cx g A R) {d : Nat} {K : Option ck_V → ck_W → Prop} {w : ck_W} {a1 : Int} (h : (10 ≤ a1 ∧ a1 ≤ 15 → (0 ≤ (a1 - 10) ∧ (a1 - 10) < 6) ∧ (K (some (.inl (w 6 (a1 - 10)))) w)) ∧ (¬ (10 ≤ a1 ∧ a1 ≤ 15) → ck_CI (ch_C g A R) d mX4_has [.inr (.inr 10), .inl (ck_wr (a1 - 20))] w (fun v4 w3 => (v4 = 0 → (a1 = 0 → K (some (.inl (w3 3 0))) w3) ∧ (¬ a1 = 0 → (a1 = 1 → K (some (.inl (w3 3 1))) w3) ∧ (¬ a1 = 1 → (a1 = 2 → K (some (.inl (w3 10 3))) w3) ∧ (¬ a1 = 2 → (a1 = 3 → K (some (.inl (w3 3 6))) w3) ∧ (¬ a1 = 3 → (a1 = 4 → K (some (.inl (w3 8 1))) w3) ∧ (¬ a1 = 4 → (a1 = 5 → K (some (.inl (w3 10 5))) w3) ∧ (¬ a1 = 5 → (a1 = 6 → K (some (.inl (w3 15 2))) w3) ∧ (¬ a1 = 6 → (a1 = 7 → K (some (.inl (w3 15 5))) w3) ∧ (¬ a1 = 7 → (a1 = 8 → K (some (.inl (w3 20 3))) w3) ∧ (¬ a1 = 8 → (a1 = 9 → K (some (.inl (w3 67 1))) w3) ∧ (¬ a1 = 9 → K (some (.inl (-1))) w3))))))))))) ∧ (¬ v4 = 0 → (0 ≤ (ck_wr (a1 - 20)) ∧ (ck_wr (a1 - 20)) < 4) ∧ (K (some (.inl (w3 13 (ck_wr (a1 - 20))))) w3))))) : ck_Ex (ch_C g A R) (d + 1) mX11_about [.inr (.inr 0), .inl a1] w K :=
  ck_entry hC.1 [some (.inr (.inr 0)), some (.inl a1)] (by decide) (Nat.le_of_ble_eq_true rfl) rfl (fun q => q) (ck_in (fun hl => (ck_iload_n 1 rfl 1 dX11_about_0 rfl rfl (ck_bipush 3 rfl dX11_about_1 rfl (ck_bipush 5 rfl dX11_about_3 rfl (have h33 := h; ck_callS 8 rfl [.inl a1, .inl 10, .inl 15] [] dX11_about_5 cs_X11_82 rfl rfl (Nat.le_of_ble_eq_true rfl) (And.intro hl.2.1 (And.intro (show ck_i 10 by decide) (And.intro (show ck_i 15 by decide) True.intro))) (p_X11_within hC (fun c31 _ => (ck_if_eq 11 rfl 27 dX11_about_8 rfl (by decide) (fun q => absurd q (by decide)) (fun _ => (ck_aload_n 12 rfl 0 dX11_about_11 rfl rfl (ck_getr 15 rfl dX11_about_12 fl_X11_14 sh_0 rfl (ck_getr 18 rfl dX11_about_15 fl_X11_23 sh_1 rfl (ck_getr 21 rfl dX11_about_18 fl_X11_107 sh_3 rfl (ck_iload_n 22 rfl 1 dX11_about_21 rfl rfl (ck_bipush 24 rfl dX11_about_22 rfl (ck_isub 25 rfl dX11_about_24 (have h35 := (h33.1 c31); have o1 := h35.1; have h34 := h35.2; (ck_iald 26 rfl dX11_about_25 sh_6 (shn_6 hC) o1 _ rfl (fun (q2 : ck_i (w 6 (a1 - 10))) => (ck_iret dX11_about_26 rfl q2 h34)))))))))))))) (fun c32 _ => (ck_if_eq 11 rfl 27 dX11_about_8 rfl (by decide) (fun _ => (ck_aload_n 28 rfl 0 dX11_about_27 rfl rfl (ck_getr 31 rfl dX11_about_28 fl_X11_14 sh_0 rfl (ck_getr 34 rfl dX11_about_31 fl_X11_56 sh_1 rfl (ck_iload_n 35 rfl 1 dX11_about_34 rfl rfl (ck_bipush 37 rfl dX11_about_35 rfl (ck_isub 38 rfl dX11_about_37 (ck_wrp (ck_callV 41 rfl [.inl (ck_wr (a1 - 20))] [] dX11_about_38 cv_X11_215 sh_10 rfl rfl (Nat.le_of_ble_eq_true rfl) (And.intro (ck_rng _) True.intro) (ck_mI (h33.2 c32) (fun v4 w3 q5 h6 => (ck_if_eq 44 rfl 60 dX11_about_41 rfl q5 (fun c29 => (ck_iload_n 61 rfl 1 dX11_about_60 rfl rfl (have h36 := (h6.1 c29); if c8 : a1 = 0 + ((0 : Nat) : Int) then (ck_tswI 0 (55) 116 dX11_about_61 hl.2.1 c8 (by decide) sX11_about_61_0 rfl (ck_aload_n 117 rfl 0 dX11_about_116 rfl rfl (ck_getr 120 rfl dX11_about_117 fl_X11_14 sh_0 rfl (ck_getr 123 rfl dX11_about_120 fl_X11_23 sh_1 rfl (ck_geti 126 rfl 0 dX11_about_123 fl_X11_164 sh_3 rfl rfl _ rfl (fun (q7 : ck_i (w3 3 0)) => (ck_iret dX11_about_126 rfl q7 (h36.1 c8)))))))) else (have h37 := (h36.2 c8); if c10 : a1 = 0 + ((1 : Nat) : Int) then (ck_tswI 1 (66) 127 dX11_about_61 hl.2.1 c10 (by decide) sX11_about_61_1 rfl (ck_aload_n 128 rfl 0 dX11_about_127 rfl rfl (ck_getr 131 rfl dX11_about_128 fl_X11_14 sh_0 rfl (ck_getr 134 rfl dX11_about_131 fl_X11_23 sh_1 rfl (ck_geti 137 rfl 1 dX11_about_134 fl_X11_97 sh_3 rfl rfl _ rfl (fun (q9 : ck_i (w3 3 1)) => (ck_iret dX11_about_137 rfl q9 (h37.1 c10)))))))) else (have h38 := (h37.2 c10); if c12 : a1 = 0 + ((2 : Nat) : Int) then (ck_tswI 2 (77) 138 dX11_about_61 hl.2.1 c12 (by decide) sX11_about_61_2 rfl (ck_aload_n 139 rfl 0 dX11_about_138 rfl rfl (ck_getr 142 rfl dX11_about_139 fl_X11_14 sh_0 rfl (ck_getr 145 rfl dX11_about_142 fl_X11_56 sh_1 rfl (ck_geti 148 rfl 3 dX11_about_145 fl_X11_182 sh_10 rfl rfl _ rfl (fun (q11 : ck_i (w3 10 3)) => (ck_iret dX11_about_148 rfl q11 (h38.1 c12)))))))) else (have h39 := (h38.2 c12); if c14 : a1 = 0 + ((3 : Nat) : Int) then (ck_tswI 3 (88) 149 dX11_about_61 hl.2.1 c14 (by decide) sX11_about_61_3 rfl (ck_aload_n 150 rfl 0 dX11_about_149 rfl rfl (ck_getr 153 rfl dX11_about_150 fl_X11_14 sh_0 rfl (ck_getr 156 rfl dX11_about_153 fl_X11_23 sh_1 rfl (ck_geti 159 rfl 6 dX11_about_156 fl_X11_117 sh_3 rfl rfl _ rfl (fun (q13 : ck_i (w3 3 6)) => (ck_iret dX11_about_159 rfl q13 (h39.1 c14)))))))) else (have h40 := (h39.2 c14); if c16 : a1 = 0 + ((4 : Nat) : Int) then (ck_tswI 4 (99) 160 dX11_about_61 hl.2.1 c16 (by decide) sX11_about_61_4 rfl (ck_aload_n 161 rfl 0 dX11_about_160 rfl rfl (ck_getr 164 rfl dX11_about_161 fl_X11_14 sh_0 rfl (ck_getr 167 rfl dX11_about_164 fl_X11_36 sh_1 rfl (ck_geti 170 rfl 1 dX11_about_167 fl_X11_140 sh_8 rfl rfl _ rfl (fun (q15 : ck_i (w3 8 1)) => (ck_iret dX11_about_170 rfl q15 (h40.1 c16)))))))) else (have h41 := (h40.2 c16); if c18 : a1 = 0 + ((5 : Nat) : Int) then (ck_tswI 5 (110) 171 dX11_about_61 hl.2.1 c18 (by decide) sX11_about_61_5 rfl (ck_aload_n 172 rfl 0 dX11_about_171 rfl rfl (ck_getr 175 rfl dX11_about_172 fl_X11_14 sh_0 rfl (ck_getr 178 rfl dX11_about_175 fl_X11_56 sh_1 rfl (ck_geti 181 rfl 5 dX11_about_178 fl_X11_212 sh_10 rfl rfl _ rfl (fun (q17 : ck_i (w3 10 5)) => (ck_iret dX11_about_181 rfl q17 (h41.1 c18)))))))) else (have h42 := (h41.2 c18); if c20 : a1 = 0 + ((6 : Nat) : Int) then (ck_tswI 6 (121) 182 dX11_about_61 hl.2.1 c20 (by decide) sX11_about_61_6 rfl (ck_aload_n 183 rfl 0 dX11_about_182 rfl rfl (ck_getr 186 rfl dX11_about_183 fl_X11_14 sh_0 rfl (ck_getr 189 rfl dX11_about_186 fl_X11_229 sh_1 rfl (ck_geti 192 rfl 2 dX11_about_189 fl_X11_233 sh_15 rfl rfl _ rfl (fun (q19 : ck_i (w3 15 2)) => (ck_iret dX11_about_192 rfl q19 (h42.1 c20)))))))) else (have h43 := (h42.2 c20); if c22 : a1 = 0 + ((7 : Nat) : Int) then (ck_tswI 7 (132) 193 dX11_about_61 hl.2.1 c22 (by decide) sX11_about_61_7 rfl (ck_aload_n 194 rfl 0 dX11_about_193 rfl rfl (ck_getr 197 rfl dX11_about_194 fl_X11_14 sh_0 rfl (ck_getr 200 rfl dX11_about_197 fl_X11_229 sh_1 rfl (ck_geti 203 rfl 5 dX11_about_200 fl_X11_244 sh_15 rfl rfl _ rfl (fun (q21 : ck_i (w3 15 5)) => (ck_iret dX11_about_203 rfl q21 (h43.1 c22)))))))) else (have h44 := (h43.2 c22); if c24 : a1 = 0 + ((8 : Nat) : Int) then (ck_tswI 8 (143) 204 dX11_about_61 hl.2.1 c24 (by decide) sX11_about_61_8 rfl (ck_aload_n 205 rfl 0 dX11_about_204 rfl rfl (ck_getr 208 rfl dX11_about_205 fl_X11_14 sh_0 rfl (ck_getr 211 rfl dX11_about_208 fl_X11_310 sh_1 rfl (ck_geti 214 rfl 3 dX11_about_211 fl_X11_314 sh_20 rfl rfl _ rfl (fun (q23 : ck_i (w3 20 3)) => (ck_iret dX11_about_214 rfl q23 (h44.1 c24)))))))) else (have h45 := (h44.2 c24); if c26 : a1 = 0 + ((9 : Nat) : Int) then (ck_tswI 9 (154) 215 dX11_about_61 hl.2.1 c26 (by decide) sX11_about_61_9 rfl (ck_aload_n 216 rfl 0 dX11_about_215 rfl rfl (ck_getr 219 rfl dX11_about_216 fl_X11_50 sh_0 rfl (ck_geti 222 rfl 1 dX11_about_219 fl_X11_176 sh_67 rfl rfl _ rfl (fun (q25 : ck_i (w3 67 1)) => (ck_iret dX11_about_222 rfl q25 (h45.1 c26))))))) else (ck_tswO 223 dX11_about_61 hl.2.1 (oX11_about_61 c8 c10 c12 c14 c16 c18 c20 c22 c24 c26) rfl (ck_iconst 224 rfl dX11_about_223 rfl (ck_iret dX11_about_224 rfl (show ck_i (-1) by decide) (h45.2 c26)))))))))))))))) (fun c30 => (ck_aload_n 45 rfl 0 dX11_about_44 rfl rfl (ck_getr 48 rfl dX11_about_45 fl_X11_14 sh_0 rfl (ck_getr 51 rfl dX11_about_48 fl_X11_56 sh_1 rfl (ck_getr 54 rfl dX11_about_51 fl_X11_197 sh_10 rfl (ck_iload_n 55 rfl 1 dX11_about_54 rfl rfl (ck_bipush 57 rfl dX11_about_55 rfl (ck_isub 58 rfl dX11_about_57 (ck_wrp (have h47 := (h6.2 c30); have o27 := h47.1; have h46 := h47.2; (ck_iald 59 rfl dX11_about_58 sh_13 (shn_13 hC) o27 _ rfl (fun (q28 : ck_i (w3 13 (ck_wr (a1 - 20)))) => (ck_iret dX11_about_59 rfl q28 h46))))))))))))))))))))))))) (fun q => absurd q (by decide)))))))))))
theorem C_about {g : ch_G} {A R : Nat} (hC : ck_Cx g A R) {d : Nat} {K : Option ck_V → ck_W → Prop} {w : ck_W} {a1 : Int} (ha : ck_i a1) (hc : 0 ≤ w 10 3 ∧ w 10 3 ≤ 4) (h : K (some (.inl (if 10 ≤ a1 ∧ a1 ≤ 15 then w 6 (a1 - 10) else if 0 ≤ a1 - 20 ∧ a1 - 20 < w 10 3 then w 13 (a1 - 20) else if a1 = 0 then w 3 0 else if a1 = 1 then w 3 1 else if a1 = 2 then w 10 3 else if a1 = 3 then w 3 6 else if a1 = 4 then w 8 1 else if a1 = 5 then w 10 5 else if a1 = 6 then w 15 2 else if a1 = 7 then w 15 5 else if a1 = 8 then w 20 3 else if a1 = 9 then w 67 1 else -1))) w) : ck_Ex (ch_C g A R) (d + 2) mX11_about [.inr (.inr 0), .inl a1] w K := by
  have wr : ck_wr (a1 - 20) = a1 - 20 ∨ (ck_wr (a1 - 20) = a1 - 20 + 4294967296 ∧ a1 - 20 < -2147483648) := by
    have h0 := ha.1
    have h1 := ha.2
    by_cases q : a1 - 20 < -2147483648
    · exact Or.inr ⟨ck_wr_lo (by omega) q, q⟩
    · exact Or.inl (ck_wr_of (by constructor <;> omega))
  have h1 := ha.2
  have h2 := ha.1
  refine e_X11_about hC ⟨fun q => ⟨by omega, by rw [if_pos q] at h; exact h⟩, fun q => ?_⟩
  rw [if_neg q] at h
  refine p_X4_has hC hc (fun ok => ⟨_, rfl, fun _ => ⟨fun x => absurd x (by decide), fun _ => ?_⟩⟩) (fun no => ⟨_, rfl, fun _ => ⟨fun _ => ?_, fun x => absurd rfl x⟩⟩)
  · have e : ck_wr (a1 - 20) = a1 - 20 := by omega
    rw [e] at ok ⊢
    rw [if_pos ok] at h
    exact ⟨by omega, h⟩
  · rw [if_neg (fun x => no (by omega))] at h
    refine ⟨fun z => by rw [if_pos z] at h; exact h, fun z0 => ?_⟩
    rw [if_neg z0] at h
    refine ⟨fun z => by rw [if_pos z] at h; exact h, fun z0 => ?_⟩
    rw [if_neg z0] at h
    refine ⟨fun z => by rw [if_pos z] at h; exact h, fun z0 => ?_⟩
    rw [if_neg z0] at h
    refine ⟨fun z => by rw [if_pos z] at h; exact h, fun z0 => ?_⟩
    rw [if_neg z0] at h
    refine ⟨fun z => by rw [if_pos z] at h; exact h, fun z0 => ?_⟩
    rw [if_neg z0] at h
    refine ⟨fun z => by rw [if_pos z] at h; exact h, fun z0 => ?_⟩
    rw [if_neg z0] at h
    refine ⟨fun z => by rw [if_pos z] at h; exact h, fun z0 => ?_⟩
    rw [if_neg z0] at h
    refine ⟨fun z => by rw [if_pos z] at h; exact h, fun z0 => ?_⟩
    rw [if_neg z0] at h
    refine ⟨fun z => by rw [if_pos z] at h; exact h, fun z0 => ?_⟩
    rw [if_neg z0] at h
    refine ⟨fun z => by rw [if_pos z] at h; exact h, fun z0 => ?_⟩
    rw [if_neg z0] at h
    exact h
