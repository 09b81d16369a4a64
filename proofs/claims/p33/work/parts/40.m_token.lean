/-! ===== the reference: tokens ===== -/
def rm_by (t v k : Int) : Int := if t ≤ k then -1 else v
theorem rm_by_lt {t v k : Int} (h : rm_by t v k ≠ -1) : k < t := by
  unfold rm_by at h
  by_cases q : t ≤ k
  · rw [if_pos q] at h; exact absurd rfl h
  · omega
theorem dX12_byteAt_0 : decode cX12_byteAt 0 = .ok (.iload_n 1, 1) := dk_27 (by decide +kernel)
theorem dX12_byteAt_1 : decode cX12_byteAt 1 = .ok (.aload_n 0, 1) := dk_42 (by decide +kernel)
theorem dX12_byteAt_2 : decode cX12_byteAt 2 = .ok (.getfield 177, 3) := dk_180 0 177 (by decide +kernel)
theorem dX12_byteAt_5 : decode cX12_byteAt 5 = .ok (.if_icmp .ge 12, 3) := dk_162 0 12 (by decide +kernel)
theorem dX12_byteAt_8 : decode cX12_byteAt 8 = .ok (.aload_n 0, 1) := dk_42 (by decide +kernel)
theorem dX12_byteAt_9 : decode cX12_byteAt 9 = .ok (.getfield 48, 3) := dk_180 0 48 (by decide +kernel)
theorem dX12_byteAt_12 : decode cX12_byteAt 12 = .ok (.iload_n 1, 1) := dk_27 (by decide +kernel)
theorem dX12_byteAt_13 : decode cX12_byteAt 13 = .ok (.iaload, 1) := dk_46 (by decide +kernel)
theorem dX12_byteAt_14 : decode cX12_byteAt 14 = .ok (.goto 4, 3) := dk_167 0 4 (by decide +kernel)
theorem dX12_byteAt_17 : decode cX12_byteAt 17 = .ok (.iconst (-1), 1) := dk_2 (by decide +kernel)
theorem dX12_byteAt_18 : decode cX12_byteAt 18 = .ok (.ireturn, 1) := dk_172 (by decide +kernel)
set_option maxRecDepth 8000 in
theorem e_X12_byteAt {g : ch_G} {A R : Nat} (hC : ck_Cx g A R) {d : Nat} {K : Option ck_V → ck_W → Prop} {w : ck_W} {a1 : Int} (h : ((w 76 16) ≤ a1 → K (some (.inl (-1))) w) ∧ (¬ (w 76 16) ≤ a1 → (0 ≤ a1 ∧ a1 < 300) ∧ (K (some (.inl (w 89 a1))) w))) : ck_Ex (ch_C g A R) d mX12_byteAt [.inr (.inr 76), .inl a1] w K :=
  ck_entry hC.1 [some (.inr (.inr 76)), some (.inl a1)] (by decide) (Nat.le_of_ble_eq_true rfl) rfl (fun q => q) (ck_in (fun hl => (ck_iload_n 1 rfl 1 dX12_byteAt_0 rfl rfl (ck_aload_n 2 rfl 0 dX12_byteAt_1 rfl rfl (ck_geti 5 rfl 16 dX12_byteAt_2 fl_X12_177 sh_76 rfl rfl _ rfl (fun (q1 : ck_i (w 76 16)) => (ck_icmp_ge 8 rfl 17 dX12_byteAt_5 rfl hl.2.1 q1 (fun c4 => (ck_iconst 18 rfl dX12_byteAt_17 rfl (ck_iret dX12_byteAt_18 rfl (show ck_i (-1) by decide) (h.1 c4)))) (fun c5 => (ck_aload_n 9 rfl 0 dX12_byteAt_8 rfl rfl (ck_getr 12 rfl dX12_byteAt_9 fl_X12_48 sh_76 rfl (ck_iload_n 13 rfl 1 dX12_byteAt_12 rfl rfl (have h7 := (h.2 c5); have o2 := h7.1; have h6 := h7.2; (ck_iald 14 rfl dX12_byteAt_13 sh_89 (shn_89 hC) o2 _ rfl (fun (q3 : ck_i (w 89 a1)) => (ck_goto 18 dX12_byteAt_14 rfl (ck_iret dX12_byteAt_18 rfl q3 h6))))))))))))))))
theorem p_X12_byteAt {g : ch_G} {A R : Nat} (hC : ck_Cx g A R) {d : Nat} {K : Option ck_V → ck_W → Prop} {w : ck_W} {a1 : Int} (o0 : 0 ≤ a1 ∧ w 76 16 ≤ 300) (h : K (some (.inl (rm_by (w 76 16) (w 89 a1) a1))) w) : ck_Ex (ch_C g A R) d mX12_byteAt [.inr (.inr 76), .inl a1] w K := by
  unfold rm_by at h
  refine e_X12_byteAt hC ⟨fun q => by rw [if_pos q] at h; exact h, fun q => ⟨by omega, by rw [if_neg q] at h; exact h⟩⟩
/-- only the token and where it stands changed -/
def rm_nt (w u : ck_W) : Prop := (∀ k, k ≠ 76 → u k = w k) ∧ ∀ j, j < 19 ∨ 24 ≤ j → u 76 j = w 76 j
theorem rm_nt_rf {w : ck_W} : rm_nt w w := ⟨fun _ _ => rfl, fun _ _ => rfl⟩
theorem rm_nt_up {w u : ck_W} {i v : Int} (h : rm_nt w u) (h0 : 19 ≤ i) (h1 : i < 24) : rm_nt w (ck_up u 76 i v) := ⟨fun k hk => by rw [ck_up_ne hk]; exact h.1 k hk, fun j hj => by rw [ck_up_nj (by omega)]; exact h.2 j hj⟩
theorem dX12_nextToken_0 : decode cX12_nextToken 0 = .ok (.aload_n 0, 1) := dk_42 (by decide +kernel)
theorem dX12_nextToken_1 : decode cX12_nextToken 1 = .ok (.aload_n 0, 1) := dk_42 (by decide +kernel)
theorem dX12_nextToken_2 : decode cX12_nextToken 2 = .ok (.getfield 183, 3) := dk_180 0 183 (by decide +kernel)
theorem dX12_nextToken_5 : decode cX12_nextToken 5 = .ok (.invokevirtual 186, 3) := dk_182 0 186 (by decide +kernel)
theorem dX12_nextToken_8 : decode cX12_nextToken 8 = .ok (.bipush 32, 2) := dk_16 32 (by decide +kernel)
theorem dX12_nextToken_10 : decode cX12_nextToken 10 = .ok (.if_icmp .eq 16, 3) := dk_159 0 16 (by decide +kernel)
theorem dX12_nextToken_13 : decode cX12_nextToken 13 = .ok (.aload_n 0, 1) := dk_42 (by decide +kernel)
theorem dX12_nextToken_14 : decode cX12_nextToken 14 = .ok (.aload_n 0, 1) := dk_42 (by decide +kernel)
theorem dX12_nextToken_15 : decode cX12_nextToken 15 = .ok (.getfield 183, 3) := dk_180 0 183 (by decide +kernel)
theorem dX12_nextToken_18 : decode cX12_nextToken 18 = .ok (.invokevirtual 186, 3) := dk_182 0 186 (by decide +kernel)
theorem dX12_nextToken_21 : decode cX12_nextToken 21 = .ok (.bipush 10, 2) := dk_16 10 (by decide +kernel)
theorem dX12_nextToken_23 : decode cX12_nextToken 23 = .ok (.if_icmp .ne 16, 3) := dk_160 0 16 (by decide +kernel)
theorem dX12_nextToken_26 : decode cX12_nextToken 26 = .ok (.aload_n 0, 1) := dk_42 (by decide +kernel)
theorem dX12_nextToken_27 : decode cX12_nextToken 27 = .ok (.dup, 1) := dk_89 (by decide +kernel)
theorem dX12_nextToken_28 : decode cX12_nextToken 28 = .ok (.getfield 183, 3) := dk_180 0 183 (by decide +kernel)
theorem dX12_nextToken_31 : decode cX12_nextToken 31 = .ok (.iconst 1, 1) := dk_4 (by decide +kernel)
theorem dX12_nextToken_32 : decode cX12_nextToken 32 = .ok (.iadd, 1) := dk_96 (by decide +kernel)
theorem dX12_nextToken_33 : decode cX12_nextToken 33 = .ok (.putfield 183, 3) := dk_181 0 183 (by decide +kernel)
theorem dX12_nextToken_36 : decode cX12_nextToken 36 = .ok (.goto (-36), 3) := dk_167 255 220 (by decide +kernel)
theorem dX12_nextToken_39 : decode cX12_nextToken 39 = .ok (.aload_n 0, 1) := dk_42 (by decide +kernel)
theorem dX12_nextToken_40 : decode cX12_nextToken 40 = .ok (.aload_n 0, 1) := dk_42 (by decide +kernel)
theorem dX12_nextToken_41 : decode cX12_nextToken 41 = .ok (.getfield 183, 3) := dk_180 0 183 (by decide +kernel)
theorem dX12_nextToken_44 : decode cX12_nextToken 44 = .ok (.putfield 189, 3) := dk_181 0 189 (by decide +kernel)
theorem dX12_nextToken_47 : decode cX12_nextToken 47 = .ok (.aload_n 0, 1) := dk_42 (by decide +kernel)
theorem dX12_nextToken_48 : decode cX12_nextToken 48 = .ok (.aload_n 0, 1) := dk_42 (by decide +kernel)
theorem dX12_nextToken_49 : decode cX12_nextToken 49 = .ok (.getfield 183, 3) := dk_180 0 183 (by decide +kernel)
theorem dX12_nextToken_52 : decode cX12_nextToken 52 = .ok (.invokevirtual 186, 3) := dk_182 0 186 (by decide +kernel)
theorem dX12_nextToken_55 : decode cX12_nextToken 55 = .ok (.istore_n 1, 1) := dk_60 (by decide +kernel)
theorem dX12_nextToken_56 : decode cX12_nextToken 56 = .ok (.iload_n 1, 1) := dk_27 (by decide +kernel)
theorem dX12_nextToken_57 : decode cX12_nextToken 57 = .ok (.ifCond .ge 11, 3) := dk_156 0 11 (by decide +kernel)
theorem dX12_nextToken_60 : decode cX12_nextToken 60 = .ok (.aload_n 0, 1) := dk_42 (by decide +kernel)
theorem dX12_nextToken_61 : decode cX12_nextToken 61 = .ok (.iconst 0, 1) := dk_3 (by decide +kernel)
theorem dX12_nextToken_62 : decode cX12_nextToken 62 = .ok (.putfield 192, 3) := dk_181 0 192 (by decide +kernel)
theorem dX12_nextToken_65 : decode cX12_nextToken 65 = .ok (.goto 325, 3) := dk_167 1 69 (by decide +kernel)
theorem dX12_nextToken_68 : decode cX12_nextToken 68 = .ok (.iload_n 1, 1) := dk_27 (by decide +kernel)
theorem dX12_nextToken_69 : decode cX12_nextToken 69 = .ok (.invokestatic 195, 3) := dk_184 0 195 (by decide +kernel)
theorem dX12_nextToken_72 : decode cX12_nextToken 72 = .ok (.ifCond .eq 72, 3) := dk_153 0 72 (by decide +kernel)
theorem dX12_nextToken_75 : decode cX12_nextToken 75 = .ok (.aload_n 0, 1) := dk_42 (by decide +kernel)
theorem dX12_nextToken_76 : decode cX12_nextToken 76 = .ok (.iconst 1, 1) := dk_4 (by decide +kernel)
theorem dX12_nextToken_77 : decode cX12_nextToken 77 = .ok (.putfield 192, 3) := dk_181 0 192 (by decide +kernel)
theorem dX12_nextToken_80 : decode cX12_nextToken 80 = .ok (.aload_n 0, 1) := dk_42 (by decide +kernel)
theorem dX12_nextToken_81 : decode cX12_nextToken 81 = .ok (.iconst 0, 1) := dk_3 (by decide +kernel)
theorem dX12_nextToken_82 : decode cX12_nextToken 82 = .ok (.putfield 198, 3) := dk_181 0 198 (by decide +kernel)
theorem dX12_nextToken_85 : decode cX12_nextToken 85 = .ok (.aload_n 0, 1) := dk_42 (by decide +kernel)
theorem dX12_nextToken_86 : decode cX12_nextToken 86 = .ok (.aload_n 0, 1) := dk_42 (by decide +kernel)
theorem dX12_nextToken_87 : decode cX12_nextToken 87 = .ok (.getfield 183, 3) := dk_180 0 183 (by decide +kernel)
theorem dX12_nextToken_90 : decode cX12_nextToken 90 = .ok (.invokevirtual 186, 3) := dk_182 0 186 (by decide +kernel)
theorem dX12_nextToken_93 : decode cX12_nextToken 93 = .ok (.invokestatic 195, 3) := dk_184 0 195 (by decide +kernel)
theorem dX12_nextToken_96 : decode cX12_nextToken 96 = .ok (.ifCond .eq 294, 3) := dk_153 1 38 (by decide +kernel)
theorem dX12_nextToken_99 : decode cX12_nextToken 99 = .ok (.aload_n 0, 1) := dk_42 (by decide +kernel)
theorem dX12_nextToken_100 : decode cX12_nextToken 100 = .ok (.getfield 198, 3) := dk_180 0 198 (by decide +kernel)
theorem dX12_nextToken_103 : decode cX12_nextToken 103 = .ok (.ldc 201, 2) := dk_18 (by decide +kernel)
theorem dX12_nextToken_105 : decode cX12_nextToken 105 = .ok (.if_icmp .ge 26, 3) := dk_162 0 26 (by decide +kernel)
theorem dX12_nextToken_108 : decode cX12_nextToken 108 = .ok (.aload_n 0, 1) := dk_42 (by decide +kernel)
theorem dX12_nextToken_109 : decode cX12_nextToken 109 = .ok (.bipush 10, 2) := dk_16 10 (by decide +kernel)
theorem dX12_nextToken_111 : decode cX12_nextToken 111 = .ok (.aload_n 0, 1) := dk_42 (by decide +kernel)
theorem dX12_nextToken_112 : decode cX12_nextToken 112 = .ok (.getfield 198, 3) := dk_180 0 198 (by decide +kernel)
theorem dX12_nextToken_115 : decode cX12_nextToken 115 = .ok (.imul, 1) := dk_104 (by decide +kernel)
theorem dX12_nextToken_116 : decode cX12_nextToken 116 = .ok (.aload_n 0, 1) := dk_42 (by decide +kernel)
theorem dX12_nextToken_117 : decode cX12_nextToken 117 = .ok (.aload_n 0, 1) := dk_42 (by decide +kernel)
theorem dX12_nextToken_118 : decode cX12_nextToken 118 = .ok (.getfield 183, 3) := dk_180 0 183 (by decide +kernel)
theorem dX12_nextToken_121 : decode cX12_nextToken 121 = .ok (.invokevirtual 186, 3) := dk_182 0 186 (by decide +kernel)
theorem dX12_nextToken_124 : decode cX12_nextToken 124 = .ok (.iadd, 1) := dk_96 (by decide +kernel)
theorem dX12_nextToken_125 : decode cX12_nextToken 125 = .ok (.bipush 48, 2) := dk_16 48 (by decide +kernel)
theorem dX12_nextToken_127 : decode cX12_nextToken 127 = .ok (.isub, 1) := dk_100 (by decide +kernel)
theorem dX12_nextToken_128 : decode cX12_nextToken 128 = .ok (.putfield 198, 3) := dk_181 0 198 (by decide +kernel)
theorem dX12_nextToken_131 : decode cX12_nextToken 131 = .ok (.aload_n 0, 1) := dk_42 (by decide +kernel)
theorem dX12_nextToken_132 : decode cX12_nextToken 132 = .ok (.dup, 1) := dk_89 (by decide +kernel)
theorem dX12_nextToken_133 : decode cX12_nextToken 133 = .ok (.getfield 183, 3) := dk_180 0 183 (by decide +kernel)
theorem dX12_nextToken_136 : decode cX12_nextToken 136 = .ok (.iconst 1, 1) := dk_4 (by decide +kernel)
theorem dX12_nextToken_137 : decode cX12_nextToken 137 = .ok (.iadd, 1) := dk_96 (by decide +kernel)
theorem dX12_nextToken_138 : decode cX12_nextToken 138 = .ok (.putfield 183, 3) := dk_181 0 183 (by decide +kernel)
theorem dX12_nextToken_141 : decode cX12_nextToken 141 = .ok (.goto (-56), 3) := dk_167 255 200 (by decide +kernel)
theorem dX12_nextToken_144 : decode cX12_nextToken 144 = .ok (.iload_n 1, 1) := dk_27 (by decide +kernel)
theorem dX12_nextToken_145 : decode cX12_nextToken 145 = .ok (.invokestatic 202, 3) := dk_184 0 202 (by decide +kernel)
theorem dX12_nextToken_148 : decode cX12_nextToken 148 = .ok (.ifCond .eq 97, 3) := dk_153 0 97 (by decide +kernel)
theorem dX12_nextToken_151 : decode cX12_nextToken 151 = .ok (.aload_n 0, 1) := dk_42 (by decide +kernel)
theorem dX12_nextToken_152 : decode cX12_nextToken 152 = .ok (.iconst 2, 1) := dk_5 (by decide +kernel)
theorem dX12_nextToken_153 : decode cX12_nextToken 153 = .ok (.putfield 192, 3) := dk_181 0 192 (by decide +kernel)
theorem dX12_nextToken_156 : decode cX12_nextToken 156 = .ok (.aload_n 0, 1) := dk_42 (by decide +kernel)
theorem dX12_nextToken_157 : decode cX12_nextToken 157 = .ok (.lconst 0, 1) := dk_9 (by decide +kernel)
theorem dX12_nextToken_158 : decode cX12_nextToken 158 = .ok (.putfield 205, 3) := dk_181 0 205 (by decide +kernel)
theorem dX12_nextToken_161 : decode cX12_nextToken 161 = .ok (.aload_n 0, 1) := dk_42 (by decide +kernel)
theorem dX12_nextToken_162 : decode cX12_nextToken 162 = .ok (.aload_n 0, 1) := dk_42 (by decide +kernel)
theorem dX12_nextToken_163 : decode cX12_nextToken 163 = .ok (.getfield 183, 3) := dk_180 0 183 (by decide +kernel)
theorem dX12_nextToken_166 : decode cX12_nextToken 166 = .ok (.invokevirtual 186, 3) := dk_182 0 186 (by decide +kernel)
theorem dX12_nextToken_169 : decode cX12_nextToken 169 = .ok (.invokestatic 202, 3) := dk_184 0 202 (by decide +kernel)
theorem dX12_nextToken_172 : decode cX12_nextToken 172 = .ok (.ifCond .eq 51, 3) := dk_153 0 51 (by decide +kernel)
theorem dX12_nextToken_175 : decode cX12_nextToken 175 = .ok (.aload_n 0, 1) := dk_42 (by decide +kernel)
theorem dX12_nextToken_176 : decode cX12_nextToken 176 = .ok (.getfield 183, 3) := dk_180 0 183 (by decide +kernel)
theorem dX12_nextToken_179 : decode cX12_nextToken 179 = .ok (.aload_n 0, 1) := dk_42 (by decide +kernel)
theorem dX12_nextToken_180 : decode cX12_nextToken 180 = .ok (.getfield 189, 3) := dk_180 0 189 (by decide +kernel)
theorem dX12_nextToken_183 : decode cX12_nextToken 183 = .ok (.isub, 1) := dk_100 (by decide +kernel)
theorem dX12_nextToken_184 : decode cX12_nextToken 184 = .ok (.bipush 7, 2) := dk_16 7 (by decide +kernel)
theorem dX12_nextToken_186 : decode cX12_nextToken 186 = .ok (.if_icmp .ge 24, 3) := dk_162 0 24 (by decide +kernel)
theorem dX12_nextToken_189 : decode cX12_nextToken 189 = .ok (.aload_n 0, 1) := dk_42 (by decide +kernel)
theorem dX12_nextToken_190 : decode cX12_nextToken 190 = .ok (.aload_n 0, 1) := dk_42 (by decide +kernel)
theorem dX12_nextToken_191 : decode cX12_nextToken 191 = .ok (.getfield 205, 3) := dk_180 0 205 (by decide +kernel)
theorem dX12_nextToken_194 : decode cX12_nextToken 194 = .ok (.bipush 8, 2) := dk_16 8 (by decide +kernel)
theorem dX12_nextToken_196 : decode cX12_nextToken 196 = .ok (.lshl, 1) := dk_121 (by decide +kernel)
theorem dX12_nextToken_197 : decode cX12_nextToken 197 = .ok (.aload_n 0, 1) := dk_42 (by decide +kernel)
theorem dX12_nextToken_198 : decode cX12_nextToken 198 = .ok (.aload_n 0, 1) := dk_42 (by decide +kernel)
theorem dX12_nextToken_199 : decode cX12_nextToken 199 = .ok (.getfield 183, 3) := dk_180 0 183 (by decide +kernel)
theorem dX12_nextToken_202 : decode cX12_nextToken 202 = .ok (.invokevirtual 186, 3) := dk_182 0 186 (by decide +kernel)
theorem dX12_nextToken_205 : decode cX12_nextToken 205 = .ok (.i2l, 1) := dk_133 (by decide +kernel)
theorem dX12_nextToken_206 : decode cX12_nextToken 206 = .ok (.lor, 1) := dk_129 (by decide +kernel)
theorem dX12_nextToken_207 : decode cX12_nextToken 207 = .ok (.putfield 205, 3) := dk_181 0 205 (by decide +kernel)
theorem dX12_nextToken_210 : decode cX12_nextToken 210 = .ok (.aload_n 0, 1) := dk_42 (by decide +kernel)
theorem dX12_nextToken_211 : decode cX12_nextToken 211 = .ok (.dup, 1) := dk_89 (by decide +kernel)
theorem dX12_nextToken_212 : decode cX12_nextToken 212 = .ok (.getfield 183, 3) := dk_180 0 183 (by decide +kernel)
theorem dX12_nextToken_215 : decode cX12_nextToken 215 = .ok (.iconst 1, 1) := dk_4 (by decide +kernel)
theorem dX12_nextToken_216 : decode cX12_nextToken 216 = .ok (.iadd, 1) := dk_96 (by decide +kernel)
theorem dX12_nextToken_217 : decode cX12_nextToken 217 = .ok (.putfield 183, 3) := dk_181 0 183 (by decide +kernel)
theorem dX12_nextToken_220 : decode cX12_nextToken 220 = .ok (.goto (-59), 3) := dk_167 255 197 (by decide +kernel)
theorem dX12_nextToken_223 : decode cX12_nextToken 223 = .ok (.aload_n 0, 1) := dk_42 (by decide +kernel)
theorem dX12_nextToken_224 : decode cX12_nextToken 224 = .ok (.getfield 183, 3) := dk_180 0 183 (by decide +kernel)
theorem dX12_nextToken_227 : decode cX12_nextToken 227 = .ok (.aload_n 0, 1) := dk_42 (by decide +kernel)
theorem dX12_nextToken_228 : decode cX12_nextToken 228 = .ok (.getfield 189, 3) := dk_180 0 189 (by decide +kernel)
theorem dX12_nextToken_231 : decode cX12_nextToken 231 = .ok (.isub, 1) := dk_100 (by decide +kernel)
theorem dX12_nextToken_232 : decode cX12_nextToken 232 = .ok (.bipush 7, 2) := dk_16 7 (by decide +kernel)
theorem dX12_nextToken_234 : decode cX12_nextToken 234 = .ok (.if_icmp .le 156, 3) := dk_164 0 156 (by decide +kernel)
theorem dX12_nextToken_237 : decode cX12_nextToken 237 = .ok (.aload_n 0, 1) := dk_42 (by decide +kernel)
theorem dX12_nextToken_238 : decode cX12_nextToken 238 = .ok (.lconst 0, 1) := dk_9 (by decide +kernel)
theorem dX12_nextToken_239 : decode cX12_nextToken 239 = .ok (.putfield 205, 3) := dk_181 0 205 (by decide +kernel)
theorem dX12_nextToken_242 : decode cX12_nextToken 242 = .ok (.goto 148, 3) := dk_167 0 148 (by decide +kernel)
theorem dX12_nextToken_245 : decode cX12_nextToken 245 = .ok (.aload_n 0, 1) := dk_42 (by decide +kernel)
theorem dX12_nextToken_246 : decode cX12_nextToken 246 = .ok (.dup, 1) := dk_89 (by decide +kernel)
theorem dX12_nextToken_247 : decode cX12_nextToken 247 = .ok (.getfield 183, 3) := dk_180 0 183 (by decide +kernel)
theorem dX12_nextToken_250 : decode cX12_nextToken 250 = .ok (.iconst 1, 1) := dk_4 (by decide +kernel)
theorem dX12_nextToken_251 : decode cX12_nextToken 251 = .ok (.iadd, 1) := dk_96 (by decide +kernel)
theorem dX12_nextToken_252 : decode cX12_nextToken 252 = .ok (.putfield 183, 3) := dk_181 0 183 (by decide +kernel)
theorem dX12_nextToken_255 : decode cX12_nextToken 255 = .ok (.iload_n 1, 1) := dk_27 (by decide +kernel)
theorem dX12_nextToken_256 : decode cX12_nextToken 256 = .ok (.bipush 60, 2) := dk_16 60 (by decide +kernel)
theorem dX12_nextToken_258 : decode cX12_nextToken 258 = .ok (.if_icmp .eq 63, 3) := dk_159 0 63 (by decide +kernel)
theorem dX12_nextToken_261 : decode cX12_nextToken 261 = .ok (.iload_n 1, 1) := dk_27 (by decide +kernel)
theorem dX12_nextToken_262 : decode cX12_nextToken 262 = .ok (.bipush 62, 2) := dk_16 62 (by decide +kernel)
theorem dX12_nextToken_264 : decode cX12_nextToken 264 = .ok (.if_icmp .eq 57, 3) := dk_159 0 57 (by decide +kernel)
theorem dX12_nextToken_267 : decode cX12_nextToken 267 = .ok (.iload_n 1, 1) := dk_27 (by decide +kernel)
theorem dX12_nextToken_268 : decode cX12_nextToken 268 = .ok (.bipush 61, 2) := dk_16 61 (by decide +kernel)
theorem dX12_nextToken_270 : decode cX12_nextToken 270 = .ok (.if_icmp .eq 51, 3) := dk_159 0 51 (by decide +kernel)
theorem dX12_nextToken_273 : decode cX12_nextToken 273 = .ok (.iload_n 1, 1) := dk_27 (by decide +kernel)
theorem dX12_nextToken_274 : decode cX12_nextToken 274 = .ok (.bipush 35, 2) := dk_16 35 (by decide +kernel)
theorem dX12_nextToken_276 : decode cX12_nextToken 276 = .ok (.if_icmp .eq 45, 3) := dk_159 0 45 (by decide +kernel)
theorem dX12_nextToken_279 : decode cX12_nextToken 279 = .ok (.iload_n 1, 1) := dk_27 (by decide +kernel)
theorem dX12_nextToken_280 : decode cX12_nextToken 280 = .ok (.bipush 43, 2) := dk_16 43 (by decide +kernel)
theorem dX12_nextToken_282 : decode cX12_nextToken 282 = .ok (.if_icmp .eq 39, 3) := dk_159 0 39 (by decide +kernel)
theorem dX12_nextToken_285 : decode cX12_nextToken 285 = .ok (.iload_n 1, 1) := dk_27 (by decide +kernel)
theorem dX12_nextToken_286 : decode cX12_nextToken 286 = .ok (.bipush 45, 2) := dk_16 45 (by decide +kernel)
theorem dX12_nextToken_288 : decode cX12_nextToken 288 = .ok (.if_icmp .eq 33, 3) := dk_159 0 33 (by decide +kernel)
theorem dX12_nextToken_291 : decode cX12_nextToken 291 = .ok (.iload_n 1, 1) := dk_27 (by decide +kernel)
theorem dX12_nextToken_292 : decode cX12_nextToken 292 = .ok (.bipush 42, 2) := dk_16 42 (by decide +kernel)
theorem dX12_nextToken_294 : decode cX12_nextToken 294 = .ok (.if_icmp .eq 27, 3) := dk_159 0 27 (by decide +kernel)
theorem dX12_nextToken_297 : decode cX12_nextToken 297 = .ok (.iload_n 1, 1) := dk_27 (by decide +kernel)
theorem dX12_nextToken_298 : decode cX12_nextToken 298 = .ok (.bipush 47, 2) := dk_16 47 (by decide +kernel)
theorem dX12_nextToken_300 : decode cX12_nextToken 300 = .ok (.if_icmp .eq 21, 3) := dk_159 0 21 (by decide +kernel)
theorem dX12_nextToken_303 : decode cX12_nextToken 303 = .ok (.iload_n 1, 1) := dk_27 (by decide +kernel)
theorem dX12_nextToken_304 : decode cX12_nextToken 304 = .ok (.bipush 40, 2) := dk_16 40 (by decide +kernel)
theorem dX12_nextToken_306 : decode cX12_nextToken 306 = .ok (.if_icmp .eq 15, 3) := dk_159 0 15 (by decide +kernel)
theorem dX12_nextToken_309 : decode cX12_nextToken 309 = .ok (.iload_n 1, 1) := dk_27 (by decide +kernel)
theorem dX12_nextToken_310 : decode cX12_nextToken 310 = .ok (.bipush 41, 2) := dk_16 41 (by decide +kernel)
theorem dX12_nextToken_312 : decode cX12_nextToken 312 = .ok (.if_icmp .eq 9, 3) := dk_159 0 9 (by decide +kernel)
theorem dX12_nextToken_315 : decode cX12_nextToken 315 = .ok (.iload_n 1, 1) := dk_27 (by decide +kernel)
theorem dX12_nextToken_316 : decode cX12_nextToken 316 = .ok (.bipush 59, 2) := dk_16 59 (by decide +kernel)
theorem dX12_nextToken_318 : decode cX12_nextToken 318 = .ok (.if_icmp .ne 7, 3) := dk_160 0 7 (by decide +kernel)
theorem dX12_nextToken_321 : decode cX12_nextToken 321 = .ok (.iconst 1, 1) := dk_4 (by decide +kernel)
theorem dX12_nextToken_322 : decode cX12_nextToken 322 = .ok (.goto 4, 3) := dk_167 0 4 (by decide +kernel)
theorem dX12_nextToken_325 : decode cX12_nextToken 325 = .ok (.iconst 0, 1) := dk_3 (by decide +kernel)
theorem dX12_nextToken_326 : decode cX12_nextToken 326 = .ok (.istore_n 2, 1) := dk_61 (by decide +kernel)
theorem dX12_nextToken_327 : decode cX12_nextToken 327 = .ok (.aload_n 0, 1) := dk_42 (by decide +kernel)
theorem dX12_nextToken_328 : decode cX12_nextToken 328 = .ok (.iload_n 2, 1) := dk_28 (by decide +kernel)
theorem dX12_nextToken_329 : decode cX12_nextToken 329 = .ok (.ifCond .eq 7, 3) := dk_153 0 7 (by decide +kernel)
theorem dX12_nextToken_332 : decode cX12_nextToken 332 = .ok (.iload_n 1, 1) := dk_27 (by decide +kernel)
theorem dX12_nextToken_333 : decode cX12_nextToken 333 = .ok (.goto 4, 3) := dk_167 0 4 (by decide +kernel)
theorem dX12_nextToken_336 : decode cX12_nextToken 336 = .ok (.iconst 3, 1) := dk_6 (by decide +kernel)
theorem dX12_nextToken_337 : decode cX12_nextToken 337 = .ok (.putfield 192, 3) := dk_181 0 192 (by decide +kernel)
theorem dX12_nextToken_340 : decode cX12_nextToken 340 = .ok (.iload_n 1, 1) := dk_27 (by decide +kernel)
theorem dX12_nextToken_341 : decode cX12_nextToken 341 = .ok (.bipush 60, 2) := dk_16 60 (by decide +kernel)
theorem dX12_nextToken_343 : decode cX12_nextToken 343 = .ok (.if_icmp .eq 9, 3) := dk_159 0 9 (by decide +kernel)
theorem dX12_nextToken_346 : decode cX12_nextToken 346 = .ok (.iload_n 1, 1) := dk_27 (by decide +kernel)
theorem dX12_nextToken_347 : decode cX12_nextToken 347 = .ok (.bipush 62, 2) := dk_16 62 (by decide +kernel)
theorem dX12_nextToken_349 : decode cX12_nextToken 349 = .ok (.if_icmp .ne 41, 3) := dk_160 0 41 (by decide +kernel)
theorem dX12_nextToken_352 : decode cX12_nextToken 352 = .ok (.aload_n 0, 1) := dk_42 (by decide +kernel)
theorem dX12_nextToken_353 : decode cX12_nextToken 353 = .ok (.aload_n 0, 1) := dk_42 (by decide +kernel)
theorem dX12_nextToken_354 : decode cX12_nextToken 354 = .ok (.getfield 183, 3) := dk_180 0 183 (by decide +kernel)
theorem dX12_nextToken_357 : decode cX12_nextToken 357 = .ok (.invokevirtual 186, 3) := dk_182 0 186 (by decide +kernel)
theorem dX12_nextToken_360 : decode cX12_nextToken 360 = .ok (.bipush 61, 2) := dk_16 61 (by decide +kernel)
theorem dX12_nextToken_362 : decode cX12_nextToken 362 = .ok (.if_icmp .ne 28, 3) := dk_160 0 28 (by decide +kernel)
theorem dX12_nextToken_365 : decode cX12_nextToken 365 = .ok (.aload_n 0, 1) := dk_42 (by decide +kernel)
theorem dX12_nextToken_366 : decode cX12_nextToken 366 = .ok (.dup, 1) := dk_89 (by decide +kernel)
theorem dX12_nextToken_367 : decode cX12_nextToken 367 = .ok (.getfield 183, 3) := dk_180 0 183 (by decide +kernel)
theorem dX12_nextToken_370 : decode cX12_nextToken 370 = .ok (.iconst 1, 1) := dk_4 (by decide +kernel)
theorem dX12_nextToken_371 : decode cX12_nextToken 371 = .ok (.iadd, 1) := dk_96 (by decide +kernel)
theorem dX12_nextToken_372 : decode cX12_nextToken 372 = .ok (.putfield 183, 3) := dk_181 0 183 (by decide +kernel)
theorem dX12_nextToken_375 : decode cX12_nextToken 375 = .ok (.aload_n 0, 1) := dk_42 (by decide +kernel)
theorem dX12_nextToken_376 : decode cX12_nextToken 376 = .ok (.iload_n 1, 1) := dk_27 (by decide +kernel)
theorem dX12_nextToken_377 : decode cX12_nextToken 377 = .ok (.bipush 60, 2) := dk_16 60 (by decide +kernel)
theorem dX12_nextToken_379 : decode cX12_nextToken 379 = .ok (.if_icmp .ne 7, 3) := dk_160 0 7 (by decide +kernel)
theorem dX12_nextToken_382 : decode cX12_nextToken 382 = .ok (.iconst 4, 1) := dk_7 (by decide +kernel)
theorem dX12_nextToken_383 : decode cX12_nextToken 383 = .ok (.goto 4, 3) := dk_167 0 4 (by decide +kernel)
theorem dX12_nextToken_386 : decode cX12_nextToken 386 = .ok (.iconst 5, 1) := dk_8 (by decide +kernel)
theorem dX12_nextToken_387 : decode cX12_nextToken 387 = .ok (.putfield 192, 3) := dk_181 0 192 (by decide +kernel)
theorem dX12_nextToken_390 : decode cX12_nextToken 390 = .ok (.return_, 1) := dk_177 (by decide +kernel)
set_option maxRecDepth 8000 in
theorem e_X12_nextToken {g : ch_G} {A R : Nat} (hC : ck_Cx g A R) {d : Nat} {K : Option ck_V → ck_W → Prop} {w : ck_W} (h : ck_At (ch_C g A R) (d + 2) mX12_nextToken K 0 [some (.inr (.inr 76)), none, none] [] w) : ck_Ex (ch_C g A R) (d + 2) mX12_nextToken [.inr (.inr 76)] w K :=
  ck_entry hC.1 [some (.inr (.inr 76)), none, none] (by decide) (Nat.le_of_ble_eq_true rfl) rfl (fun q => q) (ck_in (fun hl => h))
set_option maxRecDepth 8000 in
theorem r_X12_nextToken_0 {g : ch_G} {A R : Nat} (hC : ck_Cx g A R) {d : Nat} {K : Option ck_V → ck_W → Prop} {w : ck_W} (h : (0 ≤ (w 76 19) ∧ (w 76 16) ≤ 300) ∧ (((rm_by (w 76 16) (w 89 (w 76 19)) (w 76 19)) = 32 → ck_i ((w 76 19) + 1) ∧ (ck_At (ch_C g A R) (d + 2) mX12_nextToken K 0 [some (.inr (.inr 76)), none, none] [] (ck_up w 76 19 ((w 76 19) + 1)))) ∧ (¬ (rm_by (w 76 16) (w 89 (w 76 19)) (w 76 19)) = 32 → (¬ (rm_by (w 76 16) (w 89 (w 76 19)) (w 76 19)) = 10 → ck_At (ch_C g A R) (d + 2) mX12_nextToken K 39 [some (.inr (.inr 76)), none, none] [] w) ∧ ((rm_by (w 76 16) (w 89 (w 76 19)) (w 76 19)) = 10 → ck_i ((w 76 19) + 1) ∧ (ck_At (ch_C g A R) (d + 2) mX12_nextToken K 0 [some (.inr (.inr 76)), none, none] [] (ck_up w 76 19 ((w 76 19) + 1))))))) : ck_At (ch_C g A R) (d + 2) mX12_nextToken K 0 [some (.inr (.inr 76)), none, none] [] w :=
  ck_in (fun hl => (ck_aload_n 1 rfl 0 dX12_nextToken_0 rfl rfl (ck_aload_n 2 rfl 0 dX12_nextToken_1 rfl rfl (ck_geti 5 rfl 19 dX12_nextToken_2 fl_X12_183 sh_76 rfl rfl _ rfl (fun (q1 : ck_i (w 76 19)) => (have h15 := h; have o2 := h15.1; have h14 := h15.2; (ck_callV 8 rfl [.inl (w 76 19)] [] dX12_nextToken_5 cv_X12_186 sh_76 rfl rfl (Nat.le_of_ble_eq_true rfl) (And.intro q1 True.intro) (p_X12_byteAt hC o2 (fun q3 => (ck_bipush 10 rfl dX12_nextToken_8 rfl (ck_icmp_eq 13 rfl 26 dX12_nextToken_10 rfl q3.1 (show ck_i 32 by decide) (fun c12 => (ck_aload_n 27 rfl 0 dX12_nextToken_26 rfl rfl (ck_dup 28 rfl dX12_nextToken_27 rfl (ck_geti 31 rfl 19 dX12_nextToken_28 fl_X12_183 sh_76 rfl rfl _ rfl (fun (q4 : ck_i (w 76 19)) => (ck_iconst 32 rfl dX12_nextToken_31 rfl (ck_iadd 33 rfl dX12_nextToken_32 (have h17 := (h14.1 c12); have o5 := h17.1; have h16 := h17.2; (ck_puti 36 rfl 19 dX12_nextToken_33 fp_X12_183 sh_76 rfl rfl o5 (ck_goto 0 dX12_nextToken_36 rfl h16)))))))))) (fun c13 => (ck_aload_n 14 rfl 0 dX12_nextToken_13 rfl rfl (ck_aload_n 15 rfl 0 dX12_nextToken_14 rfl rfl (ck_geti 18 rfl 19 dX12_nextToken_15 fl_X12_183 sh_76 rfl rfl _ rfl (fun (q6 : ck_i (w 76 19)) => (ck_callV 21 rfl [.inl (w 76 19)] [] dX12_nextToken_18 cv_X12_186 sh_76 rfl rfl (Nat.le_of_ble_eq_true rfl) (And.intro q6 True.intro) (p_X12_byteAt hC o2 (fun q7 => (ck_bipush 23 rfl dX12_nextToken_21 rfl (have h18 := (h14.2 c13); (ck_icmp_ne 26 rfl 39 dX12_nextToken_23 rfl q7.1 (show ck_i 10 by decide) (fun c10 => (h18.1 c10)) (fun c11 => (ck_aload_n 27 rfl 0 dX12_nextToken_26 rfl rfl (ck_dup 28 rfl dX12_nextToken_27 rfl (ck_geti 31 rfl 19 dX12_nextToken_28 fl_X12_183 sh_76 rfl rfl _ rfl (fun (q8 : ck_i (w 76 19)) => (ck_iconst 32 rfl dX12_nextToken_31 rfl (ck_iadd 33 rfl dX12_nextToken_32 (have h20 := (h18.2 c11); have o9 := h20.1; have h19 := h20.2; (ck_puti 36 rfl 19 dX12_nextToken_33 fp_X12_183 sh_76 rfl rfl o9 (ck_goto 0 dX12_nextToken_36 rfl h19))))))))))))))))))))))))))))))))
set_option maxRecDepth 8000 in
theorem r_X12_nextToken_39 {g : ch_G} {A R : Nat} (hC : ck_Cx g A R) {d : Nat} {K : Option ck_V → ck_W → Prop} {w : ck_W} (h : (0 ≤ (w 76 19) ∧ (w 76 16) ≤ 300) ∧ (∀ x5, x5 = rm_by (w 76 16) (w 89 (w 76 19)) (w 76 19) → ck_At (ch_C g A R) (d + 2) mX12_nextToken K 56 [some (.inr (.inr 76)), some (.inl x5), none] [] (ck_up w 76 20 (w 76 19)))) : ck_At (ch_C g A R) (d + 2) mX12_nextToken K 39 [some (.inr (.inr 76)), none, none] [] w :=
  ck_in (fun hl => (ck_aload_n 40 rfl 0 dX12_nextToken_39 rfl rfl (ck_aload_n 41 rfl 0 dX12_nextToken_40 rfl rfl (ck_geti 44 rfl 19 dX12_nextToken_41 fl_X12_183 sh_76 rfl rfl _ rfl (fun (q1 : ck_i (w 76 19)) => (ck_puti 47 rfl 20 dX12_nextToken_44 fp_X12_189 sh_76 rfl rfl q1 (ck_aload_n 48 rfl 0 dX12_nextToken_47 rfl rfl (ck_aload_n 49 rfl 0 dX12_nextToken_48 rfl rfl (ck_geti 52 rfl 19 dX12_nextToken_49 fl_X12_183 sh_76 rfl rfl _ rfl (fun (q2 : ck_i (w 76 19)) => (have h8 := h; have o3 := h8.1; have h7 := h8.2; (ck_callV 55 rfl [.inl (w 76 19)] [] dX12_nextToken_52 cv_X12_186 sh_76 rfl rfl (Nat.le_of_ble_eq_true rfl) (And.intro q2 True.intro) (p_X12_byteAt hC o3 (fun q4 => (ck_nmi (fun x5 e6 => (ck_istore_n 56 rfl 1 [some (.inr (.inr 76)), some (.inl x5), none] dX12_nextToken_55 rfl (Nat.le_of_ble_eq_true rfl) rfl rfl (by rw [e6]; exact q4.1) (h7 x5 e6))))))))))))))))))
set_option maxRecDepth 8000 in
theorem r_X12_nextToken_56 {g : ch_G} {A R : Nat} (hC : ck_Cx g A R) {d : Nat} {K : Option ck_V → ck_W → Prop} {w : ck_W} {a1 : Int} (h : (0 ≤ a1 → (48 ≤ a1 ∧ a1 ≤ 57 → ck_At (ch_C g A R) (d + 2) mX12_nextToken K 85 [some (.inr (.inr 76)), none, none] [] (ck_up (ck_up w 76 21 1) 76 22 0)) ∧ (¬ (48 ≤ a1 ∧ a1 ≤ 57) → ((97 ≤ a1 ∧ a1 ≤ 122) ∨ (65 ≤ a1 ∧ a1 ≤ 90) → ck_At (ch_C g A R) (d + 2) mX12_nextToken K 161 [some (.inr (.inr 76)), none, none] [] (ck_up (ck_up w 76 21 2) 76 23 0)) ∧ (¬ ((97 ≤ a1 ∧ a1 ≤ 122) ∨ (65 ≤ a1 ∧ a1 ≤ 90)) → ck_At (ch_C g A R) (d + 2) mX12_nextToken K 245 [some (.inr (.inr 76)), some (.inl a1), none] [] w))) ∧ (¬ 0 ≤ a1 → K none (ck_up w 76 21 0))) : ck_At (ch_C g A R) (d + 2) mX12_nextToken K 56 [some (.inr (.inr 76)), some (.inl a1), none] [] w :=
  ck_in (fun hl => (ck_iload_n 57 rfl 1 dX12_nextToken_56 rfl rfl (ck_if_ge 60 rfl 68 dX12_nextToken_57 rfl hl.2.1 (fun c7 => (ck_iload_n 69 rfl 1 dX12_nextToken_68 rfl rfl (have h6 := (h.1 c7); ck_callS 72 rfl [.inl a1] [] dX12_nextToken_69 cs_X12_195 rfl rfl (Nat.le_of_ble_eq_true rfl) (And.intro hl.2.1 True.intro) (p_X12_isDigit hC (fun c4 _ => (ck_if_eq 75 rfl 144 dX12_nextToken_72 rfl (by decide) (fun q => absurd q (by decide)) (fun _ => (ck_aload_n 76 rfl 0 dX12_nextToken_75 rfl rfl (ck_iconst 77 rfl dX12_nextToken_76 rfl (ck_puti 80 rfl 21 dX12_nextToken_77 fp_X12_192 sh_76 rfl rfl (show ck_i 1 by decide) (ck_aload_n 81 rfl 0 dX12_nextToken_80 rfl rfl (ck_iconst 82 rfl dX12_nextToken_81 rfl (ck_puti 85 rfl 22 dX12_nextToken_82 fp_X12_198 sh_76 rfl rfl (show ck_i 0 by decide) (ck_drop [some (.inr (.inr 76)), none, none] (And.intro rfl True.intro) (h6.1 c4))))))))))) (fun c5 _ => (ck_if_eq 75 rfl 144 dX12_nextToken_72 rfl (by decide) (fun _ => (ck_iload_n 145 rfl 1 dX12_nextToken_144 rfl rfl (have h3 := (h6.2 c5); ck_callS 148 rfl [.inl a1] [] dX12_nextToken_145 cs_X12_202 rfl rfl (Nat.le_of_ble_eq_true rfl) (And.intro hl.2.1 True.intro) (p_X12_isLetter hC (fun c1 _ => (ck_if_eq 151 rfl 245 dX12_nextToken_148 rfl (by decide) (fun q => absurd q (by decide)) (fun _ => (ck_aload_n 152 rfl 0 dX12_nextToken_151 rfl rfl (ck_iconst 153 rfl dX12_nextToken_152 rfl (ck_puti 156 rfl 21 dX12_nextToken_153 fp_X12_192 sh_76 rfl rfl (show ck_i 2 by decide) (ck_aload_n 157 rfl 0 dX12_nextToken_156 rfl rfl (ck_lconst 158 rfl 0 dX12_nextToken_157 rfl (ck_putl 161 rfl 23 dX12_nextToken_158 fp_X12_205 sh_76 rfl rfl (show ck_l 0 by decide) (ck_drop [some (.inr (.inr 76)), none, none] (And.intro rfl True.intro) (h3.1 c1))))))))))) (fun c2 _ => (ck_if_eq 151 rfl 245 dX12_nextToken_148 rfl (by decide) (fun _ => (h3.2 c2)) (fun q => absurd q (by decide)))))))) (fun q => absurd q (by decide)))))))) (fun c8 => (ck_aload_n 61 rfl 0 dX12_nextToken_60 rfl rfl (ck_iconst 62 rfl dX12_nextToken_61 rfl (ck_puti 65 rfl 21 dX12_nextToken_62 fp_X12_192 sh_76 rfl rfl (show ck_i 0 by decide) (ck_goto 390 dX12_nextToken_65 rfl (ck_vret dX12_nextToken_390 rfl (h.2 c8))))))))))
set_option maxRecDepth 8000 in
theorem r_X12_nextToken_85 {g : ch_G} {A R : Nat} (hC : ck_Cx g A R) {d : Nat} {K : Option ck_V → ck_W → Prop} {w : ck_W} (h : (0 ≤ (w 76 19) ∧ (w 76 16) ≤ 300) ∧ ((48 ≤ (rm_by (w 76 16) (w 89 (w 76 19)) (w 76 19)) ∧ (rm_by (w 76 16) (w 89 (w 76 19)) (w 76 19)) ≤ 57 → (100000 ≤ (w 76 22) → ck_i ((w 76 19) + 1) ∧ (ck_At (ch_C g A R) (d + 2) mX12_nextToken K 85 [some (.inr (.inr 76)), none, none] [] (ck_up w 76 19 ((w 76 19) + 1)))) ∧ (¬ 100000 ≤ (w 76 22) → ck_i (((10 * (w 76 22)) + (rm_by (w 76 16) (w 89 (w 76 19)) (w 76 19))) - 48) ∧ (ck_i ((w 76 19) + 1) ∧ (ck_At (ch_C g A R) (d + 2) mX12_nextToken K 85 [some (.inr (.inr 76)), none, none] [] (ck_up (ck_up w 76 22 (((10 * (w 76 22)) + (rm_by (w 76 16) (w 89 (w 76 19)) (w 76 19))) - 48)) 76 19 ((w 76 19) + 1)))))) ∧ (¬ (48 ≤ (rm_by (w 76 16) (w 89 (w 76 19)) (w 76 19)) ∧ (rm_by (w 76 16) (w 89 (w 76 19)) (w 76 19)) ≤ 57) → K none w))) : ck_At (ch_C g A R) (d + 2) mX12_nextToken K 85 [some (.inr (.inr 76)), none, none] [] w :=
  ck_in (fun hl => (ck_aload_n 86 rfl 0 dX12_nextToken_85 rfl rfl (ck_aload_n 87 rfl 0 dX12_nextToken_86 rfl rfl (ck_geti 90 rfl 19 dX12_nextToken_87 fl_X12_183 sh_76 rfl rfl _ rfl (fun (q1 : ck_i (w 76 19)) => (have h19 := h; have o2 := h19.1; have h18 := h19.2; (ck_callV 93 rfl [.inl (w 76 19)] [] dX12_nextToken_90 cv_X12_186 sh_76 rfl rfl (Nat.le_of_ble_eq_true rfl) (And.intro q1 True.intro) (p_X12_byteAt hC o2 (fun q3 => (have h17 := h18; ck_callS 96 rfl [.inl (rm_by (w 76 16) (w 89 (w 76 19)) (w 76 19))] [] dX12_nextToken_93 cs_X12_195 rfl rfl (Nat.le_of_ble_eq_true rfl) (And.intro q3.1 True.intro) (p_X12_isDigit hC (fun c15 _ => (ck_if_eq 99 rfl 390 dX12_nextToken_96 rfl (by decide) (fun q => absurd q (by decide)) (fun _ => (ck_aload_n 100 rfl 0 dX12_nextToken_99 rfl rfl (ck_geti 103 rfl 22 dX12_nextToken_100 fl_X12_198 sh_76 rfl rfl _ rfl (fun (q4 : ck_i (w 76 22)) => (ck_ldc 105 rfl 100000 kc_X12_201 dX12_nextToken_103 rfl (have h20 := (h17.1 c15); (ck_icmp_ge 108 rfl 131 dX12_nextToken_105 rfl q4 (show ck_i 100000 by decide) (fun c13 => (ck_aload_n 132 rfl 0 dX12_nextToken_131 rfl rfl (ck_dup 133 rfl dX12_nextToken_132 rfl (ck_geti 136 rfl 19 dX12_nextToken_133 fl_X12_183 sh_76 rfl rfl _ rfl (fun (q5 : ck_i (w 76 19)) => (ck_iconst 137 rfl dX12_nextToken_136 rfl (ck_iadd 138 rfl dX12_nextToken_137 (have h22 := (h20.1 c13); have o6 := h22.1; have h21 := h22.2; (ck_puti 141 rfl 19 dX12_nextToken_138 fp_X12_183 sh_76 rfl rfl o6 (ck_goto 85 dX12_nextToken_141 rfl h21)))))))))) (fun c14 => (ck_aload_n 109 rfl 0 dX12_nextToken_108 rfl rfl (ck_bipush 111 rfl dX12_nextToken_109 rfl (ck_aload_n 112 rfl 0 dX12_nextToken_111 rfl rfl (ck_geti 115 rfl 22 dX12_nextToken_112 fl_X12_198 sh_76 rfl rfl _ rfl (fun (q7 : ck_i (w 76 22)) => (ck_imul 116 rfl dX12_nextToken_115 (ck_aload_n 117 rfl 0 dX12_nextToken_116 rfl rfl (ck_aload_n 118 rfl 0 dX12_nextToken_117 rfl rfl (ck_geti 121 rfl 19 dX12_nextToken_118 fl_X12_183 sh_76 rfl rfl _ rfl (fun (q8 : ck_i (w 76 19)) => (ck_callV 124 rfl [.inl (w 76 19)] [.inl (10 * (w 76 22)), .inr (.inr 76)] dX12_nextToken_121 cv_X12_186 sh_76 rfl rfl (Nat.le_of_ble_eq_true rfl) (And.intro q8 True.intro) (p_X12_byteAt hC o2 (fun q9 => (ck_iadd 125 rfl dX12_nextToken_124 (ck_bipush 127 rfl dX12_nextToken_125 rfl (ck_isub 128 rfl dX12_nextToken_127 (have h24 := (h20.2 c14); have o10 := h24.1; have h23 := h24.2; (ck_puti 131 rfl 22 dX12_nextToken_128 fp_X12_198 sh_76 rfl rfl o10 (ck_aload_n 132 rfl 0 dX12_nextToken_131 rfl rfl (ck_dup 133 rfl dX12_nextToken_132 rfl (ck_geti 136 rfl 19 dX12_nextToken_133 fl_X12_183 sh_76 rfl rfl _ rfl (fun (q11 : ck_i (w 76 19)) => (ck_iconst 137 rfl dX12_nextToken_136 rfl (ck_iadd 138 rfl dX12_nextToken_137 (have h26 := h23; have o12 := h26.1; have h25 := h26.2; (ck_puti 141 rfl 19 dX12_nextToken_138 fp_X12_183 sh_76 rfl rfl o12 (ck_goto 85 dX12_nextToken_141 rfl h25))))))))))))))))))))))))))))))))))))) (fun c16 _ => (ck_if_eq 99 rfl 390 dX12_nextToken_96 rfl (by decide) (fun _ => (ck_vret dX12_nextToken_390 rfl (h17.2 c16))) (fun q => absurd q (by decide)))))))))))))))
set_option maxRecDepth 8000 in
theorem r_X12_nextToken_161 {g : ch_G} {A R : Nat} (hC : ck_Cx g A R) {d : Nat} {K : Option ck_V → ck_W → Prop} {w : ck_W} (h : (0 ≤ (w 76 19) ∧ (w 76 16) ≤ 300) ∧ (((97 ≤ (rm_by (w 76 16) (w 89 (w 76 19)) (w 76 19)) ∧ (rm_by (w 76 16) (w 89 (w 76 19)) (w 76 19)) ≤ 122) ∨ (65 ≤ (rm_by (w 76 16) (w 89 (w 76 19)) (w 76 19)) ∧ (rm_by (w 76 16) (w 89 (w 76 19)) (w 76 19)) ≤ 90) → ck_i ((w 76 19) - (w 76 20)) ∧ ((7 ≤ ((w 76 19) - (w 76 20)) → ck_i ((w 76 19) + 1) ∧ (ck_At (ch_C g A R) (d + 2) mX12_nextToken K 161 [some (.inr (.inr 76)), none, none] [] (ck_up w 76 19 ((w 76 19) + 1)))) ∧ (¬ 7 ≤ ((w 76 19) - (w 76 20)) → ck_i ((w 76 19) + 1) ∧ (ck_At (ch_C g A R) (d + 2) mX12_nextToken K 161 [some (.inr (.inr 76)), none, none] [] (ck_up (ck_up w 76 23 (ck_Lor (ck_Lshl (w 76 23) 8) (rm_by (w 76 16) (w 89 (w 76 19)) (w 76 19)))) 76 19 ((w 76 19) + 1)))))) ∧ (¬ ((97 ≤ (rm_by (w 76 16) (w 89 (w 76 19)) (w 76 19)) ∧ (rm_by (w 76 16) (w 89 (w 76 19)) (w 76 19)) ≤ 122) ∨ (65 ≤ (rm_by (w 76 16) (w 89 (w 76 19)) (w 76 19)) ∧ (rm_by (w 76 16) (w 89 (w 76 19)) (w 76 19)) ≤ 90)) → ck_At (ch_C g A R) (d + 2) mX12_nextToken K 223 [some (.inr (.inr 76)), none, none] [] w))) : ck_At (ch_C g A R) (d + 2) mX12_nextToken K 161 [some (.inr (.inr 76)), none, none] [] w :=
  ck_in (fun hl => (ck_aload_n 162 rfl 0 dX12_nextToken_161 rfl rfl (ck_aload_n 163 rfl 0 dX12_nextToken_162 rfl rfl (ck_geti 166 rfl 19 dX12_nextToken_163 fl_X12_183 sh_76 rfl rfl _ rfl (fun (q1 : ck_i (w 76 19)) => (have h20 := h; have o2 := h20.1; have h19 := h20.2; (ck_callV 169 rfl [.inl (w 76 19)] [] dX12_nextToken_166 cv_X12_186 sh_76 rfl rfl (Nat.le_of_ble_eq_true rfl) (And.intro q1 True.intro) (p_X12_byteAt hC o2 (fun q3 => (have h18 := h19; ck_callS 172 rfl [.inl (rm_by (w 76 16) (w 89 (w 76 19)) (w 76 19))] [] dX12_nextToken_169 cs_X12_202 rfl rfl (Nat.le_of_ble_eq_true rfl) (And.intro q3.1 True.intro) (p_X12_isLetter hC (fun c16 _ => (ck_if_eq 175 rfl 223 dX12_nextToken_172 rfl (by decide) (fun q => absurd q (by decide)) (fun _ => (ck_aload_n 176 rfl 0 dX12_nextToken_175 rfl rfl (ck_geti 179 rfl 19 dX12_nextToken_176 fl_X12_183 sh_76 rfl rfl _ rfl (fun (q4 : ck_i (w 76 19)) => (ck_aload_n 180 rfl 0 dX12_nextToken_179 rfl rfl (ck_geti 183 rfl 20 dX12_nextToken_180 fl_X12_189 sh_76 rfl rfl _ rfl (fun (q5 : ck_i (w 76 20)) => (ck_isub 184 rfl dX12_nextToken_183 (ck_bipush 186 rfl dX12_nextToken_184 rfl (have h22 := (h18.1 c16); have o6 := h22.1; have h21 := h22.2; (ck_icmp_ge 189 rfl 210 dX12_nextToken_186 rfl o6 (show ck_i 7 by decide) (fun c14 => (ck_aload_n 211 rfl 0 dX12_nextToken_210 rfl rfl (ck_dup 212 rfl dX12_nextToken_211 rfl (ck_geti 215 rfl 19 dX12_nextToken_212 fl_X12_183 sh_76 rfl rfl _ rfl (fun (q7 : ck_i (w 76 19)) => (ck_iconst 216 rfl dX12_nextToken_215 rfl (ck_iadd 217 rfl dX12_nextToken_216 (have h24 := (h21.1 c14); have o8 := h24.1; have h23 := h24.2; (ck_puti 220 rfl 19 dX12_nextToken_217 fp_X12_183 sh_76 rfl rfl o8 (ck_goto 161 dX12_nextToken_220 rfl h23)))))))))) (fun c15 => (ck_aload_n 190 rfl 0 dX12_nextToken_189 rfl rfl (ck_aload_n 191 rfl 0 dX12_nextToken_190 rfl rfl (ck_getl 194 rfl 23 dX12_nextToken_191 fl_X12_205 sh_76 rfl rfl _ rfl (fun (q9 : ck_l (w 76 23)) => (ck_bipush 196 rfl dX12_nextToken_194 rfl (ck_lshl 197 rfl dX12_nextToken_196 (ck_aload_n 198 rfl 0 dX12_nextToken_197 rfl rfl (ck_aload_n 199 rfl 0 dX12_nextToken_198 rfl rfl (ck_geti 202 rfl 19 dX12_nextToken_199 fl_X12_183 sh_76 rfl rfl _ rfl (fun (q10 : ck_i (w 76 19)) => (ck_callV 205 rfl [.inl (w 76 19)] [.inr (.inl (ck_Lshl (w 76 23) 8)), .inr (.inr 76)] dX12_nextToken_202 cv_X12_186 sh_76 rfl rfl (Nat.le_of_ble_eq_true rfl) (And.intro q10 True.intro) (p_X12_byteAt hC o2 (fun q11 => (ck_i2l 206 rfl dX12_nextToken_205 q11.1 (ck_lor 207 rfl dX12_nextToken_206 (ck_putl 210 rfl 23 dX12_nextToken_207 fp_X12_205 sh_76 rfl rfl (ck_rngl _) (ck_aload_n 211 rfl 0 dX12_nextToken_210 rfl rfl (ck_dup 212 rfl dX12_nextToken_211 rfl (ck_geti 215 rfl 19 dX12_nextToken_212 fl_X12_183 sh_76 rfl rfl _ rfl (fun (q12 : ck_i (w 76 19)) => (ck_iconst 216 rfl dX12_nextToken_215 rfl (ck_iadd 217 rfl dX12_nextToken_216 (have h26 := (h21.2 c15); have o13 := h26.1; have h25 := h26.2; (ck_puti 220 rfl 19 dX12_nextToken_217 fp_X12_183 sh_76 rfl rfl o13 (ck_goto 161 dX12_nextToken_220 rfl h25))))))))))))))))))))))))))))))))))))))) (fun c17 _ => (ck_if_eq 175 rfl 223 dX12_nextToken_172 rfl (by decide) (fun _ => (h18.2 c17)) (fun q => absurd q (by decide)))))))))))))))
set_option maxRecDepth 8000 in
theorem r_X12_nextToken_223 {g : ch_G} {A R : Nat} (hC : ck_Cx g A R) {d : Nat} {K : Option ck_V → ck_W → Prop} {w : ck_W} (h : ck_i ((w 76 19) - (w 76 20)) ∧ ((((w 76 19) - (w 76 20)) ≤ 7 → K none w) ∧ (¬ ((w 76 19) - (w 76 20)) ≤ 7 → K none (ck_up w 76 23 0)))) : ck_At (ch_C g A R) (d + 2) mX12_nextToken K 223 [some (.inr (.inr 76)), none, none] [] w :=
  ck_in (fun hl => (ck_aload_n 224 rfl 0 dX12_nextToken_223 rfl rfl (ck_geti 227 rfl 19 dX12_nextToken_224 fl_X12_183 sh_76 rfl rfl _ rfl (fun (q1 : ck_i (w 76 19)) => (ck_aload_n 228 rfl 0 dX12_nextToken_227 rfl rfl (ck_geti 231 rfl 20 dX12_nextToken_228 fl_X12_189 sh_76 rfl rfl _ rfl (fun (q2 : ck_i (w 76 20)) => (ck_isub 232 rfl dX12_nextToken_231 (ck_bipush 234 rfl dX12_nextToken_232 rfl (have h7 := h; have o3 := h7.1; have h6 := h7.2; (ck_icmp_le 237 rfl 390 dX12_nextToken_234 rfl o3 (show ck_i 7 by decide) (fun c4 => (ck_vret dX12_nextToken_390 rfl (h6.1 c4))) (fun c5 => (ck_aload_n 238 rfl 0 dX12_nextToken_237 rfl rfl (ck_lconst 239 rfl 0 dX12_nextToken_238 rfl (ck_putl 242 rfl 23 dX12_nextToken_239 fp_X12_205 sh_76 rfl rfl (show ck_l 0 by decide) (ck_goto 390 dX12_nextToken_242 rfl (ck_vret dX12_nextToken_390 rfl (h6.2 c5))))))))))))))))))
set_option maxRecDepth 8000 in
theorem r_X12_nextToken_245 {g : ch_G} {A R : Nat} (hC : ck_Cx g A R) {d : Nat} {K : Option ck_V → ck_W → Prop} {w : ck_W} {a1 : Int} (h : ck_i ((w 76 19) + 1) ∧ ((a1 = 60 → ck_At (ch_C g A R) (d + 2) mX12_nextToken K 327 [some (.inr (.inr 76)), some (.inl a1), some (.inl 1)] [] (ck_up w 76 19 ((w 76 19) + 1))) ∧ (¬ a1 = 60 → (a1 = 62 → ck_At (ch_C g A R) (d + 2) mX12_nextToken K 327 [some (.inr (.inr 76)), some (.inl a1), some (.inl 1)] [] (ck_up w 76 19 ((w 76 19) + 1))) ∧ (¬ a1 = 62 → (a1 = 61 → ck_At (ch_C g A R) (d + 2) mX12_nextToken K 327 [some (.inr (.inr 76)), some (.inl a1), some (.inl 1)] [] (ck_up w 76 19 ((w 76 19) + 1))) ∧ (¬ a1 = 61 → (a1 = 35 → ck_At (ch_C g A R) (d + 2) mX12_nextToken K 327 [some (.inr (.inr 76)), some (.inl a1), some (.inl 1)] [] (ck_up w 76 19 ((w 76 19) + 1))) ∧ (¬ a1 = 35 → (a1 = 43 → ck_At (ch_C g A R) (d + 2) mX12_nextToken K 327 [some (.inr (.inr 76)), some (.inl a1), some (.inl 1)] [] (ck_up w 76 19 ((w 76 19) + 1))) ∧ (¬ a1 = 43 → (a1 = 45 → ck_At (ch_C g A R) (d + 2) mX12_nextToken K 327 [some (.inr (.inr 76)), some (.inl a1), some (.inl 1)] [] (ck_up w 76 19 ((w 76 19) + 1))) ∧ (¬ a1 = 45 → (a1 = 42 → ck_At (ch_C g A R) (d + 2) mX12_nextToken K 327 [some (.inr (.inr 76)), some (.inl a1), some (.inl 1)] [] (ck_up w 76 19 ((w 76 19) + 1))) ∧ (¬ a1 = 42 → (a1 = 47 → ck_At (ch_C g A R) (d + 2) mX12_nextToken K 327 [some (.inr (.inr 76)), some (.inl a1), some (.inl 1)] [] (ck_up w 76 19 ((w 76 19) + 1))) ∧ (¬ a1 = 47 → (a1 = 40 → ck_At (ch_C g A R) (d + 2) mX12_nextToken K 327 [some (.inr (.inr 76)), some (.inl a1), some (.inl 1)] [] (ck_up w 76 19 ((w 76 19) + 1))) ∧ (¬ a1 = 40 → (a1 = 41 → ck_At (ch_C g A R) (d + 2) mX12_nextToken K 327 [some (.inr (.inr 76)), some (.inl a1), some (.inl 1)] [] (ck_up w 76 19 ((w 76 19) + 1))) ∧ (¬ a1 = 41 → (¬ a1 = 59 → ck_At (ch_C g A R) (d + 2) mX12_nextToken K 327 [some (.inr (.inr 76)), some (.inl a1), some (.inl 0)] [] (ck_up w 76 19 ((w 76 19) + 1))) ∧ (a1 = 59 → ck_At (ch_C g A R) (d + 2) mX12_nextToken K 327 [some (.inr (.inr 76)), some (.inl a1), some (.inl 1)] [] (ck_up w 76 19 ((w 76 19) + 1))))))))))))))) : ck_At (ch_C g A R) (d + 2) mX12_nextToken K 245 [some (.inr (.inr 76)), some (.inl a1), none] [] w :=
  ck_in (fun hl => (ck_aload_n 246 rfl 0 dX12_nextToken_245 rfl rfl (ck_dup 247 rfl dX12_nextToken_246 rfl (ck_geti 250 rfl 19 dX12_nextToken_247 fl_X12_183 sh_76 rfl rfl _ rfl (fun (q1 : ck_i (w 76 19)) => (ck_iconst 251 rfl dX12_nextToken_250 rfl (ck_iadd 252 rfl dX12_nextToken_251 (have h26 := h; have o2 := h26.1; have h25 := h26.2; (ck_puti 255 rfl 19 dX12_nextToken_252 fp_X12_183 sh_76 rfl rfl o2 (ck_iload_n 256 rfl 1 dX12_nextToken_255 rfl rfl (ck_bipush 258 rfl dX12_nextToken_256 rfl (ck_icmp_eq 261 rfl 321 dX12_nextToken_258 rfl hl.2.1 (show ck_i 60 by decide) (fun c23 => (ck_iconst 322 rfl dX12_nextToken_321 rfl (ck_goto 326 dX12_nextToken_322 rfl (ck_istore_n 327 rfl 2 [some (.inr (.inr 76)), some (.inl a1), some (.inl 1)] dX12_nextToken_326 rfl (Nat.le_of_ble_eq_true rfl) rfl rfl (show ck_i 1 by decide) (h25.1 c23))))) (fun c24 => (ck_iload_n 262 rfl 1 dX12_nextToken_261 rfl rfl (ck_bipush 264 rfl dX12_nextToken_262 rfl (have h27 := (h25.2 c24); (ck_icmp_eq 267 rfl 321 dX12_nextToken_264 rfl hl.2.1 (show ck_i 62 by decide) (fun c21 => (ck_iconst 322 rfl dX12_nextToken_321 rfl (ck_goto 326 dX12_nextToken_322 rfl (ck_istore_n 327 rfl 2 [some (.inr (.inr 76)), some (.inl a1), some (.inl 1)] dX12_nextToken_326 rfl (Nat.le_of_ble_eq_true rfl) rfl rfl (show ck_i 1 by decide) (h27.1 c21))))) (fun c22 => (ck_iload_n 268 rfl 1 dX12_nextToken_267 rfl rfl (ck_bipush 270 rfl dX12_nextToken_268 rfl (have h28 := (h27.2 c22); (ck_icmp_eq 273 rfl 321 dX12_nextToken_270 rfl hl.2.1 (show ck_i 61 by decide) (fun c19 => (ck_iconst 322 rfl dX12_nextToken_321 rfl (ck_goto 326 dX12_nextToken_322 rfl (ck_istore_n 327 rfl 2 [some (.inr (.inr 76)), some (.inl a1), some (.inl 1)] dX12_nextToken_326 rfl (Nat.le_of_ble_eq_true rfl) rfl rfl (show ck_i 1 by decide) (h28.1 c19))))) (fun c20 => (ck_iload_n 274 rfl 1 dX12_nextToken_273 rfl rfl (ck_bipush 276 rfl dX12_nextToken_274 rfl (have h29 := (h28.2 c20); (ck_icmp_eq 279 rfl 321 dX12_nextToken_276 rfl hl.2.1 (show ck_i 35 by decide) (fun c17 => (ck_iconst 322 rfl dX12_nextToken_321 rfl (ck_goto 326 dX12_nextToken_322 rfl (ck_istore_n 327 rfl 2 [some (.inr (.inr 76)), some (.inl a1), some (.inl 1)] dX12_nextToken_326 rfl (Nat.le_of_ble_eq_true rfl) rfl rfl (show ck_i 1 by decide) (h29.1 c17))))) (fun c18 => (ck_iload_n 280 rfl 1 dX12_nextToken_279 rfl rfl (ck_bipush 282 rfl dX12_nextToken_280 rfl (have h30 := (h29.2 c18); (ck_icmp_eq 285 rfl 321 dX12_nextToken_282 rfl hl.2.1 (show ck_i 43 by decide) (fun c15 => (ck_iconst 322 rfl dX12_nextToken_321 rfl (ck_goto 326 dX12_nextToken_322 rfl (ck_istore_n 327 rfl 2 [some (.inr (.inr 76)), some (.inl a1), some (.inl 1)] dX12_nextToken_326 rfl (Nat.le_of_ble_eq_true rfl) rfl rfl (show ck_i 1 by decide) (h30.1 c15))))) (fun c16 => (ck_iload_n 286 rfl 1 dX12_nextToken_285 rfl rfl (ck_bipush 288 rfl dX12_nextToken_286 rfl (have h31 := (h30.2 c16); (ck_icmp_eq 291 rfl 321 dX12_nextToken_288 rfl hl.2.1 (show ck_i 45 by decide) (fun c13 => (ck_iconst 322 rfl dX12_nextToken_321 rfl (ck_goto 326 dX12_nextToken_322 rfl (ck_istore_n 327 rfl 2 [some (.inr (.inr 76)), some (.inl a1), some (.inl 1)] dX12_nextToken_326 rfl (Nat.le_of_ble_eq_true rfl) rfl rfl (show ck_i 1 by decide) (h31.1 c13))))) (fun c14 => (ck_iload_n 292 rfl 1 dX12_nextToken_291 rfl rfl (ck_bipush 294 rfl dX12_nextToken_292 rfl (have h32 := (h31.2 c14); (ck_icmp_eq 297 rfl 321 dX12_nextToken_294 rfl hl.2.1 (show ck_i 42 by decide) (fun c11 => (ck_iconst 322 rfl dX12_nextToken_321 rfl (ck_goto 326 dX12_nextToken_322 rfl (ck_istore_n 327 rfl 2 [some (.inr (.inr 76)), some (.inl a1), some (.inl 1)] dX12_nextToken_326 rfl (Nat.le_of_ble_eq_true rfl) rfl rfl (show ck_i 1 by decide) (h32.1 c11))))) (fun c12 => (ck_iload_n 298 rfl 1 dX12_nextToken_297 rfl rfl (ck_bipush 300 rfl dX12_nextToken_298 rfl (have h33 := (h32.2 c12); (ck_icmp_eq 303 rfl 321 dX12_nextToken_300 rfl hl.2.1 (show ck_i 47 by decide) (fun c9 => (ck_iconst 322 rfl dX12_nextToken_321 rfl (ck_goto 326 dX12_nextToken_322 rfl (ck_istore_n 327 rfl 2 [some (.inr (.inr 76)), some (.inl a1), some (.inl 1)] dX12_nextToken_326 rfl (Nat.le_of_ble_eq_true rfl) rfl rfl (show ck_i 1 by decide) (h33.1 c9))))) (fun c10 => (ck_iload_n 304 rfl 1 dX12_nextToken_303 rfl rfl (ck_bipush 306 rfl dX12_nextToken_304 rfl (have h34 := (h33.2 c10); (ck_icmp_eq 309 rfl 321 dX12_nextToken_306 rfl hl.2.1 (show ck_i 40 by decide) (fun c7 => (ck_iconst 322 rfl dX12_nextToken_321 rfl (ck_goto 326 dX12_nextToken_322 rfl (ck_istore_n 327 rfl 2 [some (.inr (.inr 76)), some (.inl a1), some (.inl 1)] dX12_nextToken_326 rfl (Nat.le_of_ble_eq_true rfl) rfl rfl (show ck_i 1 by decide) (h34.1 c7))))) (fun c8 => (ck_iload_n 310 rfl 1 dX12_nextToken_309 rfl rfl (ck_bipush 312 rfl dX12_nextToken_310 rfl (have h35 := (h34.2 c8); (ck_icmp_eq 315 rfl 321 dX12_nextToken_312 rfl hl.2.1 (show ck_i 41 by decide) (fun c5 => (ck_iconst 322 rfl dX12_nextToken_321 rfl (ck_goto 326 dX12_nextToken_322 rfl (ck_istore_n 327 rfl 2 [some (.inr (.inr 76)), some (.inl a1), some (.inl 1)] dX12_nextToken_326 rfl (Nat.le_of_ble_eq_true rfl) rfl rfl (show ck_i 1 by decide) (h35.1 c5))))) (fun c6 => (ck_iload_n 316 rfl 1 dX12_nextToken_315 rfl rfl (ck_bipush 318 rfl dX12_nextToken_316 rfl (have h36 := (h35.2 c6); (ck_icmp_ne 321 rfl 325 dX12_nextToken_318 rfl hl.2.1 (show ck_i 59 by decide) (fun c3 => (ck_iconst 326 rfl dX12_nextToken_325 rfl (ck_istore_n 327 rfl 2 [some (.inr (.inr 76)), some (.inl a1), some (.inl 0)] dX12_nextToken_326 rfl (Nat.le_of_ble_eq_true rfl) rfl rfl (show ck_i 0 by decide) (h36.1 c3)))) (fun c4 => (ck_iconst 322 rfl dX12_nextToken_321 rfl (ck_goto 326 dX12_nextToken_322 rfl (ck_istore_n 327 rfl 2 [some (.inr (.inr 76)), some (.inl a1), some (.inl 1)] dX12_nextToken_326 rfl (Nat.le_of_ble_eq_true rfl) rfl rfl (show ck_i 1 by decide) (h36.2 c4)))))))))))))))))))))))))))))))))))))))))))))))))))))))))))))))))))
set_option maxRecDepth 8000 in
theorem r_X12_nextToken_327 {g : ch_G} {A R : Nat} (hC : ck_Cx g A R) {d : Nat} {K : Option ck_V → ck_W → Prop} {w : ck_W} {a1 a2 : Int} (h : (a2 = 0 → ck_At (ch_C g A R) (d + 2) mX12_nextToken K 340 [some (.inr (.inr 76)), some (.inl a1), none] [] (ck_up w 76 21 3)) ∧ (¬ a2 = 0 → ck_At (ch_C g A R) (d + 2) mX12_nextToken K 340 [some (.inr (.inr 76)), some (.inl a1), none] [] (ck_up w 76 21 a1))) : ck_At (ch_C g A R) (d + 2) mX12_nextToken K 327 [some (.inr (.inr 76)), some (.inl a1), some (.inl a2)] [] w :=
  ck_in (fun hl => (ck_aload_n 328 rfl 0 dX12_nextToken_327 rfl rfl (ck_iload_n 329 rfl 2 dX12_nextToken_328 rfl rfl (ck_if_eq 332 rfl 336 dX12_nextToken_329 rfl hl.2.2.1 (fun c1 => (ck_iconst 337 rfl dX12_nextToken_336 rfl (ck_puti 340 rfl 21 dX12_nextToken_337 fp_X12_192 sh_76 rfl rfl (show ck_i 3 by decide) (ck_drop [some (.inr (.inr 76)), some (.inl a1), none] (And.intro rfl (And.intro rfl True.intro)) (h.1 c1))))) (fun c2 => (ck_iload_n 333 rfl 1 dX12_nextToken_332 rfl rfl (ck_goto 337 dX12_nextToken_333 rfl (ck_puti 340 rfl 21 dX12_nextToken_337 fp_X12_192 sh_76 rfl rfl hl.2.1 (ck_drop [some (.inr (.inr 76)), some (.inl a1), none] (And.intro rfl (And.intro rfl True.intro)) (h.2 c2))))))))))
set_option maxRecDepth 8000 in
theorem r_X12_nextToken_340 {g : ch_G} {A R : Nat} (hC : ck_Cx g A R) {d : Nat} {K : Option ck_V → ck_W → Prop} {w : ck_W} {a1 : Int} (h : (a1 = 60 → (0 ≤ (w 76 19) ∧ (w 76 16) ≤ 300) ∧ ((¬ (rm_by (w 76 16) (w 89 (w 76 19)) (w 76 19)) = 61 → K none w) ∧ ((rm_by (w 76 16) (w 89 (w 76 19)) (w 76 19)) = 61 → ck_i ((w 76 19) + 1) ∧ ((¬ a1 = 60 → K none (ck_up (ck_up w 76 19 ((w 76 19) + 1)) 76 21 5)) ∧ (a1 = 60 → K none (ck_up (ck_up w 76 19 ((w 76 19) + 1)) 76 21 4)))))) ∧ (¬ a1 = 60 → (¬ a1 = 62 → K none w) ∧ (a1 = 62 → (0 ≤ (w 76 19) ∧ (w 76 16) ≤ 300) ∧ ((¬ (rm_by (w 76 16) (w 89 (w 76 19)) (w 76 19)) = 61 → K none w) ∧ ((rm_by (w 76 16) (w 89 (w 76 19)) (w 76 19)) = 61 → ck_i ((w 76 19) + 1) ∧ ((¬ a1 = 60 → K none (ck_up (ck_up w 76 19 ((w 76 19) + 1)) 76 21 5)) ∧ (a1 = 60 → K none (ck_up (ck_up w 76 19 ((w 76 19) + 1)) 76 21 4)))))))) : ck_At (ch_C g A R) (d + 2) mX12_nextToken K 340 [some (.inr (.inr 76)), some (.inl a1), none] [] w :=
  ck_in (fun hl => (ck_iload_n 341 rfl 1 dX12_nextToken_340 rfl rfl (ck_bipush 343 rfl dX12_nextToken_341 rfl (ck_icmp_eq 346 rfl 352 dX12_nextToken_343 rfl hl.2.1 (show ck_i 60 by decide) (fun c21 => (ck_aload_n 353 rfl 0 dX12_nextToken_352 rfl rfl (ck_aload_n 354 rfl 0 dX12_nextToken_353 rfl rfl (ck_geti 357 rfl 19 dX12_nextToken_354 fl_X12_183 sh_76 rfl rfl _ rfl (fun (q1 : ck_i (w 76 19)) => (have h24 := (h.1 c21); have o2 := h24.1; have h23 := h24.2; (ck_callV 360 rfl [.inl (w 76 19)] [] dX12_nextToken_357 cv_X12_186 sh_76 rfl rfl (Nat.le_of_ble_eq_true rfl) (And.intro q1 True.intro) (p_X12_byteAt hC o2 (fun q3 => (ck_bipush 362 rfl dX12_nextToken_360 rfl (ck_icmp_ne 365 rfl 390 dX12_nextToken_362 rfl q3.1 (show ck_i 61 by decide) (fun c8 => (ck_vret dX12_nextToken_390 rfl (h23.1 c8))) (fun c9 => (ck_aload_n 366 rfl 0 dX12_nextToken_365 rfl rfl (ck_dup 367 rfl dX12_nextToken_366 rfl (ck_geti 370 rfl 19 dX12_nextToken_367 fl_X12_183 sh_76 rfl rfl _ rfl (fun (q4 : ck_i (w 76 19)) => (ck_iconst 371 rfl dX12_nextToken_370 rfl (ck_iadd 372 rfl dX12_nextToken_371 (have h26 := (h23.2 c9); have o5 := h26.1; have h25 := h26.2; (ck_puti 375 rfl 19 dX12_nextToken_372 fp_X12_183 sh_76 rfl rfl o5 (ck_aload_n 376 rfl 0 dX12_nextToken_375 rfl rfl (ck_iload_n 377 rfl 1 dX12_nextToken_376 rfl rfl (ck_bipush 379 rfl dX12_nextToken_377 rfl (ck_icmp_ne 382 rfl 386 dX12_nextToken_379 rfl hl.2.1 (show ck_i 60 by decide) (fun c6 => (ck_iconst 387 rfl dX12_nextToken_386 rfl (ck_puti 390 rfl 21 dX12_nextToken_387 fp_X12_192 sh_76 rfl rfl (show ck_i 5 by decide) (ck_vret dX12_nextToken_390 rfl (h25.1 c6))))) (fun c7 => (ck_iconst 383 rfl dX12_nextToken_382 rfl (ck_goto 387 dX12_nextToken_383 rfl (ck_puti 390 rfl 21 dX12_nextToken_387 fp_X12_192 sh_76 rfl rfl (show ck_i 4 by decide) (ck_vret dX12_nextToken_390 rfl (h25.2 c7)))))))))))))))))))))))))))))) (fun c22 => (ck_iload_n 347 rfl 1 dX12_nextToken_346 rfl rfl (ck_bipush 349 rfl dX12_nextToken_347 rfl (have h27 := (h.2 c22); (ck_icmp_ne 352 rfl 390 dX12_nextToken_349 rfl hl.2.1 (show ck_i 62 by decide) (fun c19 => (ck_vret dX12_nextToken_390 rfl (h27.1 c19))) (fun c20 => (ck_aload_n 353 rfl 0 dX12_nextToken_352 rfl rfl (ck_aload_n 354 rfl 0 dX12_nextToken_353 rfl rfl (ck_geti 357 rfl 19 dX12_nextToken_354 fl_X12_183 sh_76 rfl rfl _ rfl (fun (q10 : ck_i (w 76 19)) => (have h29 := (h27.2 c20); have o11 := h29.1; have h28 := h29.2; (ck_callV 360 rfl [.inl (w 76 19)] [] dX12_nextToken_357 cv_X12_186 sh_76 rfl rfl (Nat.le_of_ble_eq_true rfl) (And.intro q10 True.intro) (p_X12_byteAt hC o11 (fun q12 => (ck_bipush 362 rfl dX12_nextToken_360 rfl (ck_icmp_ne 365 rfl 390 dX12_nextToken_362 rfl q12.1 (show ck_i 61 by decide) (fun c17 => (ck_vret dX12_nextToken_390 rfl (h28.1 c17))) (fun c18 => (ck_aload_n 366 rfl 0 dX12_nextToken_365 rfl rfl (ck_dup 367 rfl dX12_nextToken_366 rfl (ck_geti 370 rfl 19 dX12_nextToken_367 fl_X12_183 sh_76 rfl rfl _ rfl (fun (q13 : ck_i (w 76 19)) => (ck_iconst 371 rfl dX12_nextToken_370 rfl (ck_iadd 372 rfl dX12_nextToken_371 (have h31 := (h28.2 c18); have o14 := h31.1; have h30 := h31.2; (ck_puti 375 rfl 19 dX12_nextToken_372 fp_X12_183 sh_76 rfl rfl o14 (ck_aload_n 376 rfl 0 dX12_nextToken_375 rfl rfl (ck_iload_n 377 rfl 1 dX12_nextToken_376 rfl rfl (ck_bipush 379 rfl dX12_nextToken_377 rfl (ck_icmp_ne 382 rfl 386 dX12_nextToken_379 rfl hl.2.1 (show ck_i 60 by decide) (fun c15 => (ck_iconst 387 rfl dX12_nextToken_386 rfl (ck_puti 390 rfl 21 dX12_nextToken_387 fp_X12_192 sh_76 rfl rfl (show ck_i 5 by decide) (ck_vret dX12_nextToken_390 rfl (h30.1 c15))))) (fun c16 => (ck_iconst 383 rfl dX12_nextToken_382 rfl (ck_goto 387 dX12_nextToken_383 rfl (ck_puti 390 rfl 21 dX12_nextToken_387 fp_X12_192 sh_76 rfl rfl (show ck_i 4 by decide) (ck_vret dX12_nextToken_390 rfl (h30.2 c16)))))))))))))))))))))))))))))))))))))))
theorem S_X12_nextToken {g : ch_G} {A R : Nat} (hC : ck_Cx g A R) {d : Nat} {K : Option ck_V → ck_W → Prop} {w : ck_W} (h0 : 0 ≤ w 76 19 ∧ w 76 19 ≤ w 76 16) (hT : w 76 16 ≤ 300) (hn : 0 ≤ w 76 22)
    (h : ∀ w', rm_nt w w' → (w 76 19 ≤ w' 76 20 ∧ w' 76 20 ≤ w' 76 19 ∧ w' 76 19 ≤ w 76 16) → (w' 76 21 = 0 ∨ w' 76 20 < w' 76 19) → 0 ≤ w' 76 22 → K none w') : ck_Ex (ch_C g A R) (d + 2) mX12_nextToken [.inr (.inr 76)] w K := by
  -- digits
  have l85 : ∀ (m : Nat) (u : ck_W), w 76 16 - u 76 19 ≤ m → rm_nt w u → (w 76 19 ≤ u 76 20 ∧ u 76 20 < u 76 19 ∨ w 76 19 ≤ u 76 20 ∧ u 76 20 = u 76 19 ∧ (48 ≤ rm_by (u 76 16) (u 89 (u 76 19)) (u 76 19) ∧ rm_by (u 76 16) (u 89 (u 76 19)) (u 76 19) ≤ 57)) → u 76 19 ≤ w 76 16 → (0 ≤ u 76 22 ∧ u 76 22 ≤ 2000000) → ck_At (ch_C g A R) (d + 2) mX12_nextToken K 85 [some (.inr (.inr 76)), none, none] [] u := by
    intro m
    induction m with
    | zero =>
      intro u q1 q2 q3 q4 q5
      have e16 := q2.2 16 (by omega)
      have nb : rm_by (u 76 16) (u 89 (u 76 19)) (u 76 19) = -1 := by unfold rm_by; rw [if_pos (by omega)]
      refine r_X12_nextToken_85 hC ?_
      rw [nb] at q3 ⊢
      exact ⟨by omega, fun z => by omega, fun _ => h u q2 (by omega) (by omega) q5.1⟩
    | succ m ih =>
      intro u q1 q2 q3 q4 q5
      have e16 := q2.2 16 (by omega)
      refine r_X12_nextToken_85 hC ⟨by omega, fun z => ?_, fun z => h u q2 (by omega) (by omega) q5.1⟩
      have lt := rm_by_lt (t := u 76 16) (v := u 89 (u 76 19)) (k := u 76 19) (by omega)
      refine ⟨fun _ => ⟨by constructor <;> omega, ih _ (by rw [ck_up_eq]; omega) (rm_nt_up q2 (by omega) (by omega)) (Or.inl (by rw [ck_up_eq, ck_up_nj (by decide)]; omega)) (by rw [ck_up_eq]; omega) (by rw [ck_up_nj (by decide)]; exact q5)⟩, fun y => ⟨by constructor <;> omega, by constructor <;> omega, ih _ (by rw [ck_up_eq]; omega) (rm_nt_up (rm_nt_up q2 (by omega) (by omega)) (by omega) (by omega)) (Or.inl (by rw [ck_up_eq, ck_up_nj (by decide), ck_up_nj (by decide)]; omega)) (by rw [ck_up_eq]; omega) (by rw [ck_up_nj (by decide), ck_up_eq]; omega)⟩⟩
  -- letters
  have l161 : ∀ (m : Nat) (u : ck_W), w 76 16 - u 76 19 ≤ m → rm_nt w u → (w 76 19 ≤ u 76 20 ∧ u 76 20 < u 76 19 ∨ w 76 19 ≤ u 76 20 ∧ u 76 20 = u 76 19 ∧ ((97 ≤ rm_by (u 76 16) (u 89 (u 76 19)) (u 76 19) ∧ rm_by (u 76 16) (u 89 (u 76 19)) (u 76 19) ≤ 122) ∨ (65 ≤ rm_by (u 76 16) (u 89 (u 76 19)) (u 76 19) ∧ rm_by (u 76 16) (u 89 (u 76 19)) (u 76 19) ≤ 90))) → u 76 19 ≤ w 76 16 → 0 ≤ u 76 22 → ck_At (ch_C g A R) (d + 2) mX12_nextToken K 161 [some (.inr (.inr 76)), none, none] [] u := by
    intro m
    induction m with
    | zero =>
      intro u q1 q2 q3 q4 q5
      have e16 := q2.2 16 (by omega)
      have nb : rm_by (u 76 16) (u 89 (u 76 19)) (u 76 19) = -1 := by unfold rm_by; rw [if_pos (by omega)]
      refine r_X12_nextToken_161 hC ?_
      rw [nb] at q3 ⊢
      exact ⟨by omega, fun z => by omega, fun _ => r_X12_nextToken_223 hC ⟨by constructor <;> omega, fun _ => h u q2 (by omega) (by omega) q5, fun _ => h _ (rm_nt_up q2 (by omega) (by omega)) (by rw [ck_up_nj (by decide), ck_up_nj (by decide)]; omega) (by rw [ck_up_nj (by decide), ck_up_nj (by decide), ck_up_nj (by decide)]; omega) (by rw [ck_up_nj (by decide)]; exact q5)⟩⟩
    | succ m ih =>
      intro u q1 q2 q3 q4 q5
      have e16 := q2.2 16 (by omega)
      refine r_X12_nextToken_161 hC ⟨by omega, fun z => ?_, fun z => r_X12_nextToken_223 hC ⟨by constructor <;> omega, fun _ => h u q2 (by omega) (by omega) q5, fun _ => h _ (rm_nt_up q2 (by omega) (by omega)) (by rw [ck_up_nj (by decide), ck_up_nj (by decide)]; omega) (by rw [ck_up_nj (by decide), ck_up_nj (by decide), ck_up_nj (by decide)]; omega) (by rw [ck_up_nj (by decide)]; exact q5)⟩⟩
      have lt := rm_by_lt (t := u 76 16) (v := u 89 (u 76 19)) (k := u 76 19) (by omega)
      refine ⟨by constructor <;> omega, fun _ => ⟨by constructor <;> omega, ih _ (by rw [ck_up_eq]; omega) (rm_nt_up q2 (by omega) (by omega)) (Or.inl (by rw [ck_up_eq, ck_up_nj (by decide)]; omega)) (by rw [ck_up_eq]; omega) (by rw [ck_up_nj (by decide)]; exact q5)⟩, fun y => ⟨by constructor <;> omega, ih _ (by rw [ck_up_eq]; omega) (rm_nt_up (rm_nt_up q2 (by omega) (by omega)) (by omega) (by omega)) (Or.inl (by rw [ck_up_eq, ck_up_nj (by decide), ck_up_nj (by decide)]; omega)) (by rw [ck_up_eq]; omega) (by rw [ck_up_nj (by decide), ck_up_nj (by decide)]; exact q5)⟩⟩
  -- signs, from the kind on
  have l340 : ∀ (a1 : Int) (u : ck_W), rm_nt w u → (w 76 19 ≤ u 76 20 ∧ u 76 20 < u 76 19) → u 76 19 ≤ w 76 16 → 0 ≤ u 76 22 → ck_At (ch_C g A R) (d + 2) mX12_nextToken K 340 [some (.inr (.inr 76)), some (.inl a1), none] [] u := by
    intro a1 u q2 q3 q4 q5
    have e16 := q2.2 16 (by omega)
    have one : rm_by (u 76 16) (u 89 (u 76 19)) (u 76 19) = 61 → ∀ v, K none (ck_up (ck_up u 76 19 (u 76 19 + 1)) 76 21 v) := fun z v => by
      have lt := rm_by_lt (t := u 76 16) (v := u 89 (u 76 19)) (k := u 76 19) (by omega)
      refine h _ (rm_nt_up (rm_nt_up q2 (by omega) (by omega)) (by omega) (by omega)) ?_ ?_ ?_
      · rw [ck_up_nj (by decide), ck_up_nj (by decide), ck_up_nj (by decide), ck_up_eq]; omega
      · rw [ck_up_eq, ck_up_nj (by decide), ck_up_nj (by decide), ck_up_nj (by decide), ck_up_eq]; omega
      · rw [ck_up_nj (by decide), ck_up_nj (by decide)]; exact q5
    have now : K none u := h u q2 (by omega) (by omega) q5
    exact r_X12_nextToken_340 hC ⟨fun _ => ⟨by omega, fun _ => now, fun z => ⟨by constructor <;> omega, fun _ => one z 5, fun _ => one z 4⟩⟩, fun _ => ⟨fun _ => now, fun _ => ⟨by omega, fun _ => now, fun z => ⟨by constructor <;> omega, fun _ => one z 5, fun _ => one z 4⟩⟩⟩⟩
  have l327 : ∀ (a1 a2 : Int) (u : ck_W), rm_nt w u → (w 76 19 ≤ u 76 20 ∧ u 76 20 < u 76 19) → u 76 19 ≤ w 76 16 → 0 ≤ u 76 22 → ck_At (ch_C g A R) (d + 2) mX12_nextToken K 327 [some (.inr (.inr 76)), some (.inl a1), some (.inl a2)] [] u := by
    intro a1 a2 u q2 q3 q4 q5
    have up : ∀ v, ck_At (ch_C g A R) (d + 2) mX12_nextToken K 340 [some (.inr (.inr 76)), some (.inl a1), none] [] (ck_up u 76 21 v) := fun v => l340 a1 _ (rm_nt_up q2 (by omega) (by omega)) (by rw [ck_up_nj (by decide), ck_up_nj (by decide)]; exact q3) (by rw [ck_up_nj (by decide)]; exact q4) (by rw [ck_up_nj (by decide)]; exact q5)
    exact r_X12_nextToken_327 hC ⟨fun _ => up 3, fun _ => up a1⟩
  have l39 : ∀ u : ck_W, rm_nt w u → (w 76 19 ≤ u 76 19 ∧ u 76 19 ≤ w 76 16) → 0 ≤ u 76 22 → ck_At (ch_C g A R) (d + 2) mX12_nextToken K 39 [some (.inr (.inr 76)), none, none] [] u := by
    intro u q2 q3 q5
    have e16 := q2.2 16 (by omega)
    refine r_X12_nextToken_39 hC ⟨by omega, fun x ex => ?_⟩
    have n1 := rm_nt_up (i := 20) (v := u 76 19) q2 (by omega) (by omega)
    refine r_X12_nextToken_56 hC ⟨fun z => ⟨fun z2 => ?_, fun z2 => ⟨fun z3 => ?_, fun z3 => ?_⟩⟩, fun z => ?_⟩
    · refine l85 (w 76 16).toNat _ ?_ (rm_nt_up (rm_nt_up n1 (by omega) (by omega)) (by omega) (by omega)) (Or.inr ?_) ?_ ?_
      · rw [ck_up_nj (by decide), ck_up_nj (by decide), ck_up_nj (by decide)]; omega
      · rw [ck_up_nj (i := 22) (j := 20) (by decide), ck_up_nj (i := 21) (j := 20) (by decide), ck_up_eq, ck_up_nj (i := 22) (j := 19) (by decide), ck_up_nj (i := 21) (j := 19) (by decide), ck_up_nj (i := 20) (j := 19) (by decide), ck_up_nj (i := 22) (j := 16) (by decide), ck_up_nj (i := 21) (j := 16) (by decide), ck_up_nj (i := 20) (j := 16) (by decide), ck_up_ne (by decide), ck_up_ne (by decide), ck_up_ne (by decide), ← ex]
        exact ⟨q3.1, rfl, z2⟩
      · rw [ck_up_nj (by decide), ck_up_nj (by decide), ck_up_nj (by decide)]; exact q3.2
      · rw [ck_up_eq]; decide
    · refine l161 (w 76 16).toNat _ ?_ (rm_nt_up (rm_nt_up n1 (by omega) (by omega)) (by omega) (by omega)) (Or.inr ?_) ?_ ?_
      · rw [ck_up_nj (by decide), ck_up_nj (by decide), ck_up_nj (by decide)]; omega
      · rw [ck_up_nj (i := 23) (j := 20) (by decide), ck_up_nj (i := 21) (j := 20) (by decide), ck_up_eq, ck_up_nj (i := 23) (j := 19) (by decide), ck_up_nj (i := 21) (j := 19) (by decide), ck_up_nj (i := 20) (j := 19) (by decide), ck_up_nj (i := 23) (j := 16) (by decide), ck_up_nj (i := 21) (j := 16) (by decide), ck_up_nj (i := 20) (j := 16) (by decide), ck_up_ne (by decide), ck_up_ne (by decide), ck_up_ne (by decide), ← ex]
        exact ⟨q3.1, rfl, z3⟩
      · rw [ck_up_nj (by decide), ck_up_nj (by decide), ck_up_nj (by decide)]; exact q3.2
      · rw [ck_up_nj (by decide), ck_up_nj (by decide), ck_up_nj (by decide)]; exact q5
    · have lt : u 76 19 < w 76 16 := by
        have := rm_by_lt (t := u 76 16) (v := u 89 (u 76 19)) (k := u 76 19) (by omega)
        omega
      have nx : ∀ v, ck_At (ch_C g A R) (d + 2) mX12_nextToken K 327 [some (.inr (.inr 76)), some (.inl x), some (.inl v)] [] (ck_up (ck_up u 76 20 (u 76 19)) 76 19 (u 76 19 + 1)) := fun v => l327 x v _ (rm_nt_up n1 (by omega) (by omega)) (by rw [ck_up_eq, ck_up_nj (by decide), ck_up_eq]; omega) (by rw [ck_up_eq]; omega) (by rw [ck_up_nj (by decide), ck_up_nj (by decide)]; exact q5)
      refine r_X12_nextToken_245 hC ?_
      rw [ck_up_nj (i := 20) (j := 19) (by decide)]
      refine ⟨by constructor <;> omega, ?_⟩
      with_reducible repeat' (first | apply And.intro | intro _)
      all_goals exact nx _
    · exact h _ (rm_nt_up n1 (by omega) (by omega)) (by rw [ck_up_nj (by decide), ck_up_eq, ck_up_nj (by decide), ck_up_nj (by decide)]; omega) (Or.inl ck_up_eq) (by rw [ck_up_nj (by decide), ck_up_nj (by decide)]; exact q5)
  have l0 : ∀ (m : Nat) (u : ck_W), w 76 16 - u 76 19 ≤ m → rm_nt w u → (w 76 19 ≤ u 76 19 ∧ u 76 19 ≤ w 76 16) → 0 ≤ u 76 22 → ck_At (ch_C g A R) (d + 2) mX12_nextToken K 0 [some (.inr (.inr 76)), none, none] [] u := by
    intro m
    induction m with
    | zero =>
      intro u q1 q2 q3 q5
      have e16 := q2.2 16 (by omega)
      have nb : rm_by (u 76 16) (u 89 (u 76 19)) (u 76 19) = -1 := by unfold rm_by; rw [if_pos (by omega)]
      refine r_X12_nextToken_0 hC ?_
      rw [nb]
      exact ⟨by omega, fun z => by omega, fun _ => ⟨fun _ => l39 u q2 q3 q5, fun z => by omega⟩⟩
    | succ m ih =>
      intro u q1 q2 q3 q5
      have e16 := q2.2 16 (by omega)
      have nx : rm_by (u 76 16) (u 89 (u 76 19)) (u 76 19) ≠ -1 → ck_i (u 76 19 + 1) ∧ ck_At (ch_C g A R) (d + 2) mX12_nextToken K 0 [some (.inr (.inr 76)), none, none] [] (ck_up u 76 19 (u 76 19 + 1)) := fun z => by
        have lt := rm_by_lt z
        exact ⟨by constructor <;> omega, ih _ (by rw [ck_up_eq]; omega) (rm_nt_up q2 (by omega) (by omega)) (by rw [ck_up_eq]; omega) (by rw [ck_up_nj (by decide)]; exact q5)⟩
      exact r_X12_nextToken_0 hC ⟨by omega, fun z => nx (by omega), fun _ => ⟨fun _ => l39 u q2 q3 q5, fun z => nx (by omega)⟩⟩
  exact e_X12_nextToken hC (l0 (w 76 16).toNat w (by omega) rm_nt_rf (by omega) hn)
