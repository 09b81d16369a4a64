/-! ===== printed by gen/gen98.py: small shapes, describe, the tails of two constructors ===== -/
theorem dX12_init_324 : decode cX12_init 324 = .ok (.return_, 1) := dk_177 (by decide +kernel)
theorem dX12_init_321 : decode cX12_init 321 = .ok (.invokestatic 89, 3) := dk_184 0 89 (by decide +kernel)
theorem dX12_init_318 : decode cX12_init 318 = .ok (.getfield 13, 3) := dk_180 0 13 (by decide +kernel)
theorem dX12_init_317 : decode cX12_init 317 = .ok (.aload_n 0, 1) := dk_42 (by decide +kernel)
theorem dX12_init_314 : decode cX12_init 314 = .ok (.getfield 7, 3) := dk_180 0 7 (by decide +kernel)
theorem dX12_init_313 : decode cX12_init 313 = .ok (.aload_n 0, 1) := dk_42 (by decide +kernel)
theorem dX12_init_310 : decode cX12_init 310 = .ok (.goto (-21), 3) := dk_167 255 235 (by decide +kernel)
theorem dX12_init_307 : decode cX12_init 307 = .ok (.iinc 4 1, 3) := dk_132 1 (by decide +kernel)
theorem dX12_init_306 : decode cX12_init 306 = .ok (.iastore, 1) := dk_79 (by decide +kernel)
theorem dX12_init_305 : decode cX12_init 305 = .ok (.iconst 2, 1) := dk_5 (by decide +kernel)
theorem dX12_init_304 : decode cX12_init 304 = .ok (.iadd, 1) := dk_96 (by decide +kernel)
theorem dX12_init_302 : decode cX12_init 302 = .ok (.iload 4, 2) := dk_21 (by decide +kernel)
theorem dX12_init_300 : decode cX12_init 300 = .ok (.bipush 10, 2) := dk_16 10 (by decide +kernel)
theorem dX12_init_297 : decode cX12_init 297 = .ok (.getfield 7, 3) := dk_180 0 7 (by decide +kernel)
theorem dX12_init_296 : decode cX12_init 296 = .ok (.aload_n 0, 1) := dk_42 (by decide +kernel)
theorem dX12_init_293 : decode cX12_init 293 = .ok (.if_icmp .ge 20, 3) := dk_162 0 20 (by decide +kernel)
theorem dX12_init_291 : decode cX12_init 291 = .ok (.bipush 6, 2) := dk_16 6 (by decide +kernel)
theorem dX12_init_289 : decode cX12_init 289 = .ok (.iload 4, 2) := dk_21 (by decide +kernel)
theorem dX12_init_287 : decode cX12_init 287 = .ok (.istore 4, 2) := dk_54 (by decide +kernel)
theorem dX12_init_286 : decode cX12_init 286 = .ok (.iconst 0, 1) := dk_3 (by decide +kernel)
theorem dX12_init_285 : decode cX12_init 285 = .ok (.iastore, 1) := dk_79 (by decide +kernel)
theorem dX12_init_284 : decode cX12_init 284 = .ok (.iconst 1, 1) := dk_4 (by decide +kernel)
theorem dX12_init_282 : decode cX12_init 282 = .ok (.bipush 9, 2) := dk_16 9 (by decide +kernel)
theorem dX12_init_279 : decode cX12_init 279 = .ok (.getfield 7, 3) := dk_180 0 7 (by decide +kernel)
theorem dX12_init_278 : decode cX12_init 278 = .ok (.aload_n 0, 1) := dk_42 (by decide +kernel)
theorem dX12_init_277 : decode cX12_init 277 = .ok (.iastore, 1) := dk_79 (by decide +kernel)
theorem dX12_init_276 : decode cX12_init 276 = .ok (.iconst 3, 1) := dk_6 (by decide +kernel)
theorem dX12_init_274 : decode cX12_init 274 = .ok (.bipush 8, 2) := dk_16 8 (by decide +kernel)
theorem dX12_init_271 : decode cX12_init 271 = .ok (.getfield 7, 3) := dk_180 0 7 (by decide +kernel)
theorem dX12_init_270 : decode cX12_init 270 = .ok (.aload_n 0, 1) := dk_42 (by decide +kernel)
theorem dX12_init_269 : decode cX12_init 269 = .ok (.iastore, 1) := dk_79 (by decide +kernel)
theorem dX12_init_268 : decode cX12_init 268 = .ok (.iconst 5, 1) := dk_8 (by decide +kernel)
theorem dX12_init_266 : decode cX12_init 266 = .ok (.bipush 7, 2) := dk_16 7 (by decide +kernel)
theorem dX12_init_263 : decode cX12_init 263 = .ok (.getfield 7, 3) := dk_180 0 7 (by decide +kernel)
theorem dX12_init_262 : decode cX12_init 262 = .ok (.aload_n 0, 1) := dk_42 (by decide +kernel)
theorem dX12_init_259 : decode cX12_init 259 = .ok (.putfield 86, 3) := dk_181 0 86 (by decide +kernel)
theorem dX12_init_258 : decode cX12_init 258 = .ok (.iload_n 3, 1) := dk_29 (by decide +kernel)
theorem dX12_init_257 : decode cX12_init 257 = .ok (.aload_n 0, 1) := dk_42 (by decide +kernel)
theorem dX12_init_254 : decode cX12_init 254 = .ok (.goto (-16), 3) := dk_167 255 240 (by decide +kernel)
theorem dX12_init_251 : decode cX12_init 251 = .ok (.iinc 4 1, 3) := dk_132 1 (by decide +kernel)
theorem dX12_init_250 : decode cX12_init 250 = .ok (.istore_n 3, 1) := dk_62 (by decide +kernel)
theorem dX12_init_249 : decode cX12_init 249 = .ok (.imul, 1) := dk_104 (by decide +kernel)
theorem dX12_init_248 : decode cX12_init 248 = .ok (.iconst 3, 1) := dk_6 (by decide +kernel)
theorem dX12_init_247 : decode cX12_init 247 = .ok (.iload_n 3, 1) := dk_29 (by decide +kernel)
theorem dX12_init_244 : decode cX12_init 244 = .ok (.if_icmp .ge 13, 3) := dk_162 0 13 (by decide +kernel)
theorem dX12_init_241 : decode cX12_init 241 = .ok (.getfield 80, 3) := dk_180 0 80 (by decide +kernel)
theorem dX12_init_240 : decode cX12_init 240 = .ok (.aload_n 0, 1) := dk_42 (by decide +kernel)
theorem dX12_init_238 : decode cX12_init 238 = .ok (.iload 4, 2) := dk_21 (by decide +kernel)
theorem dX12_init_236 : decode cX12_init 236 = .ok (.istore 4, 2) := dk_54 (by decide +kernel)
theorem dX12_init_235 : decode cX12_init 235 = .ok (.iconst 1, 1) := dk_4 (by decide +kernel)
theorem dX12_init_234 : decode cX12_init 234 = .ok (.istore_n 3, 1) := dk_62 (by decide +kernel)
theorem dX12_init_233 : decode cX12_init 233 = .ok (.iconst 1, 1) := dk_4 (by decide +kernel)
theorem dX12_init_230 : decode cX12_init 230 = .ok (.putfield 83, 3) := dk_181 0 83 (by decide +kernel)
theorem dX12_init_229 : decode cX12_init 229 = .ok (.iload_n 2, 1) := dk_28 (by decide +kernel)
theorem dX12_init_226 : decode cX12_init 226 = .ok (.goto 4, 3) := dk_167 0 4 (by decide +kernel)
theorem dX12_init_224 : decode cX12_init 224 = .ok (.bipush 12, 2) := dk_16 12 (by decide +kernel)
theorem dX12_init_221 : decode cX12_init 221 = .ok (.if_icmp .le 8, 3) := dk_164 0 8 (by decide +kernel)
theorem dX12_init_219 : decode cX12_init 219 = .ok (.bipush 12, 2) := dk_16 12 (by decide +kernel)
theorem dX12_init_218 : decode cX12_init 218 = .ok (.iload_n 2, 1) := dk_28 (by decide +kernel)
theorem dX12_init_215 : decode cX12_init 215 = .ok (.goto 15, 3) := dk_167 0 15 (by decide +kernel)
theorem dX12_init_214 : decode cX12_init 214 = .ok (.iconst 4, 1) := dk_7 (by decide +kernel)
theorem dX12_init_211 : decode cX12_init 211 = .ok (.if_icmp .ge 7, 3) := dk_162 0 7 (by decide +kernel)
theorem dX12_init_210 : decode cX12_init 210 = .ok (.iconst 4, 1) := dk_7 (by decide +kernel)
theorem dX12_init_209 : decode cX12_init 209 = .ok (.iload_n 2, 1) := dk_28 (by decide +kernel)
theorem dX12_init_208 : decode cX12_init 208 = .ok (.aload_n 0, 1) := dk_42 (by decide +kernel)
theorem dX12_init_205 : decode cX12_init 205 = .ok (.putfield 80, 3) := dk_181 0 80 (by decide +kernel)
theorem dX12_init_204 : decode cX12_init 204 = .ok (.iload_n 1, 1) := dk_27 (by decide +kernel)
theorem dX12_init_201 : decode cX12_init 201 = .ok (.goto 4, 3) := dk_167 0 4 (by decide +kernel)
theorem dX12_init_199 : decode cX12_init 199 = .ok (.bipush 6, 2) := dk_16 6 (by decide +kernel)
theorem dX12_init_196 : decode cX12_init 196 = .ok (.if_icmp .le 8, 3) := dk_164 0 8 (by decide +kernel)
theorem dX12_init_194 : decode cX12_init 194 = .ok (.bipush 6, 2) := dk_16 6 (by decide +kernel)
theorem dX12_init_193 : decode cX12_init 193 = .ok (.iload_n 1, 1) := dk_27 (by decide +kernel)
theorem dX12_init_190 : decode cX12_init 190 = .ok (.goto 15, 3) := dk_167 0 15 (by decide +kernel)
theorem dX12_init_189 : decode cX12_init 189 = .ok (.iconst 3, 1) := dk_6 (by decide +kernel)
theorem dX12_init_186 : decode cX12_init 186 = .ok (.if_icmp .ge 7, 3) := dk_162 0 7 (by decide +kernel)
theorem dX12_init_185 : decode cX12_init 185 = .ok (.iconst 3, 1) := dk_6 (by decide +kernel)
theorem dX12_init_184 : decode cX12_init 184 = .ok (.iload_n 1, 1) := dk_27 (by decide +kernel)
theorem dX12_init_183 : decode cX12_init 183 = .ok (.aload_n 0, 1) := dk_42 (by decide +kernel)
theorem dX10_init_211 : decode cX10_init 211 = .ok (.return_, 1) := dk_177 (by decide +kernel)
theorem dX10_init_208 : decode cX10_init 208 = .ok (.goto (-16), 3) := dk_167 255 240 (by decide +kernel)
theorem dX10_init_205 : decode cX10_init 205 = .ok (.iinc 2 1, 3) := dk_132 1 (by decide +kernel)
theorem dX10_init_202 : decode cX10_init 202 = .ok (.invokevirtual 75, 3) := dk_182 0 75 (by decide +kernel)
theorem dX10_init_201 : decode cX10_init 201 = .ok (.iload_n 2, 1) := dk_28 (by decide +kernel)
theorem dX10_init_200 : decode cX10_init 200 = .ok (.aload_n 0, 1) := dk_42 (by decide +kernel)
theorem dX10_init_197 : decode cX10_init 197 = .ok (.if_icmp .ge 14, 3) := dk_162 0 14 (by decide +kernel)
theorem dX10_init_194 : decode cX10_init 194 = .ok (.getfield 48, 3) := dk_180 0 48 (by decide +kernel)
theorem dX10_init_193 : decode cX10_init 193 = .ok (.aload_n 0, 1) := dk_42 (by decide +kernel)
theorem dX10_init_192 : decode cX10_init 192 = .ok (.iload_n 2, 1) := dk_28 (by decide +kernel)
theorem dX10_init_191 : decode cX10_init 191 = .ok (.istore_n 2, 1) := dk_61 (by decide +kernel)
theorem dX10_init_190 : decode cX10_init 190 = .ok (.iconst 0, 1) := dk_3 (by decide +kernel)
theorem dX10_init_187 : decode cX10_init 187 = .ok (.goto (-23), 3) := dk_167 255 233 (by decide +kernel)
theorem dX10_init_184 : decode cX10_init 184 = .ok (.iinc 2 1, 3) := dk_132 1 (by decide +kernel)
theorem dX10_init_183 : decode cX10_init 183 = .ok (.iastore, 1) := dk_79 (by decide +kernel)
theorem dX10_init_182 : decode cX10_init 182 = .ok (.iconst 1, 1) := dk_4 (by decide +kernel)
theorem dX10_init_181 : decode cX10_init 181 = .ok (.iload_n 2, 1) := dk_28 (by decide +kernel)
theorem dX10_init_178 : decode cX10_init 178 = .ok (.getfield 72, 3) := dk_180 0 72 (by decide +kernel)
theorem dX10_init_177 : decode cX10_init 177 = .ok (.aload_n 0, 1) := dk_42 (by decide +kernel)
theorem dX10_init_174 : decode cX10_init 174 = .ok (.if_icmp .ge 16, 3) := dk_162 0 16 (by decide +kernel)
theorem dX10_init_173 : decode cX10_init 173 = .ok (.imul, 1) := dk_104 (by decide +kernel)
theorem dX10_init_170 : decode cX10_init 170 = .ok (.getfield 48, 3) := dk_180 0 48 (by decide +kernel)
theorem dX10_init_169 : decode cX10_init 169 = .ok (.aload_n 0, 1) := dk_42 (by decide +kernel)
theorem dX10_init_166 : decode cX10_init 166 = .ok (.getfield 66, 3) := dk_180 0 66 (by decide +kernel)
theorem dX10_init_165 : decode cX10_init 165 = .ok (.aload_n 1, 1) := dk_43 (by decide +kernel)
theorem dX10_init_164 : decode cX10_init 164 = .ok (.iload_n 2, 1) := dk_28 (by decide +kernel)
theorem dX10_init_163 : decode cX10_init 163 = .ok (.istore_n 2, 1) := dk_61 (by decide +kernel)
theorem dX10_init_162 : decode cX10_init 162 = .ok (.iconst 0, 1) := dk_3 (by decide +kernel)
set_option maxRecDepth 8000 in
theorem ge_X11_power {X : ch_X} (hO : ch_Ok X) {d : Nat} {K : Option ck_V → ck_W → Prop} {w : ck_W} {a0 a1 : Int} (h : ck_At X d mX11_power K 5 [some (.inl a0), some (.inl a1), some (.inr (.inl 1)), none, some (.inl 0)] [] w) : ck_Ex X d mX11_power [.inl a0, .inl a1] w K :=
  ck_entry hO [some (.inl a0), some (.inl a1), none, none, none] (by decide) (Nat.le_of_ble_eq_true rfl) rfl (fun q => q) (ck_in (fun hl => (ck_lconst 1 rfl 1 dX11_power_0 rfl (ck_lstore_n 2 rfl 2 [some (.inl a0), some (.inl a1), some (.inr (.inl 1)), none, none] dX11_power_1 rfl (Nat.le_of_ble_eq_true rfl) rfl rfl (show ck_l 1 by decide) (ck_iconst 3 rfl dX11_power_2 rfl (ck_istore 5 rfl [some (.inl a0), some (.inl a1), some (.inr (.inl 1)), none, some (.inl 0)] dX11_power_3 (Nat.le_of_ble_eq_true rfl) rfl rfl (show ck_i 0 by decide) h))))))
set_option maxRecDepth 8000 in
theorem gr_X11_power_5 {X : ch_X} (hO : ch_Ok X) {d : Nat} {K : Option ck_V → ck_W → Prop} {w : ck_W} {a0 a1 a2 a4 : Int} (h : (a1 ≤ a4 → K (some (.inr (.inl a2))) w) ∧ (¬ a1 ≤ a4 → ck_l (a2 * a0) ∧ (ck_i (a4 + 1) ∧ (ck_At X d mX11_power K 5 [some (.inl a0), some (.inl a1), some (.inr (.inl (a2 * a0))), none, some (.inl (a4 + 1))] [] w)))) : ck_At X d mX11_power K 5 [some (.inl a0), some (.inl a1), some (.inr (.inl a2)), none, some (.inl a4)] [] w :=
  ck_in (fun hl => (ck_iload 7 rfl dX11_power_5 rfl (ck_iload_n 8 rfl 1 dX11_power_7 rfl rfl (ck_icmp_ge 11 rfl 22 dX11_power_8 rfl hl.2.2.2.1 hl.2.1 (fun c3 => (ck_lload_n 23 rfl 2 dX11_power_22 rfl rfl (ck_lret dX11_power_23 rfl hl.2.2.1 (h.1 c3)))) (fun c4 => (ck_lload_n 12 rfl 2 dX11_power_11 rfl rfl (ck_iload_n 13 rfl 0 dX11_power_12 rfl rfl (ck_i2l 14 rfl dX11_power_13 hl.1 (ck_lmul 15 rfl dX11_power_14 (have h6 := (h.2 c4); have o1 := h6.1; have h5 := h6.2; (ck_lstore_n 16 rfl 2 [some (.inl a0), some (.inl a1), some (.inr (.inl (a2 * a0))), none, some (.inl a4)] dX11_power_15 rfl (Nat.le_of_ble_eq_true rfl) rfl rfl o1 (have h8 := h5; have o2 := h8.1; have h7 := h8.2; (ck_iinc 19 rfl [some (.inl a0), some (.inl a1), some (.inr (.inl (a2 * a0))), none, some (.inl (a4 + 1))] dX11_power_16 rfl (Nat.le_of_ble_eq_true rfl) rfl rfl o2 (ck_goto 5 dX11_power_19 rfl h7))))))))))))))
theorem gL_X11_power {X : ch_X} (hO : ch_Ok X) {d : Nat} {K : Option ck_V → ck_W → Prop} {w : ck_W} {a0 a1 a2 a4 : Int} (n : Nat) (hn : a1 - a4 ≤ n) (h0 : 0 ≤ a4) (h1 : a4 ≤ a1) (hb : 0 ≤ a0) (he : (a0 ≤ 3 ∧ a1 ≤ 27) ∨ (a0 ≤ 10 ∧ a1 ≤ 12)) (h3 : a2 = ck_pw a0 a4) (h : K (some (.inr (.inl (ck_pw a0 a1)))) w) : ck_At X d mX11_power K 5 [some (.inl a0), some (.inl a1), some (.inr (.inl a2)), none, some (.inl a4)] [] w := by
  induction n generalizing a2 a4 with
  | zero => exact gr_X11_power_5 hO ⟨fun q => by rw [h3, show a4 = a1 by omega]; exact h, fun q => absurd (by omega) q⟩
  | succ n ih =>
    refine gr_X11_power_5 hO ⟨fun q => by rw [h3, show a4 = a1 by omega]; exact h, fun q => ?_⟩
    have e1 : a2 * a0 = ck_pw a0 (a4 + 1) := by rw [ck_pw_s h0, h3]
    have e2 := ck_pw_b (b := a0) (e := a4 + 1) hb (by omega)
    refine ⟨?_, ?_, ih (by omega) (by omega) (by omega) e1⟩
    · rw [e1]; exact ⟨by omega, by omega⟩
    · constructor <;> omega
theorem gp_X11_power {X : ch_X} (hO : ch_Ok X) {d : Nat} {K : Option ck_V → ck_W → Prop} {w : ck_W} {a0 a1 : Int} (o0 : 0 ≤ a0) (o1 : 0 ≤ a1) (o2 : (a0 ≤ 3 ∧ a1 ≤ 27) ∨ (a0 ≤ 10 ∧ a1 ≤ 12)) (h : K (some (.inr (.inl (ck_pw a0 a1)))) w) : ck_Ex X d mX11_power [.inl a0, .inl a1] w K :=
  ge_X11_power hO (gL_X11_power hO a1.toNat (by omega) (by omega) o1 o0 o2 ck_pw_0.symm h)
def cz10 (A R : Nat) : List ch_D := [.inr (10, [.inr (.inr 1), .inl (), .inr (.inr 7), .inr (.inr 10), .inr (.inr 8), .inr (.inr 9), .inr (.inr 11), .inl (), .inr (.inr 13), .inr (.inr 12), .inl (), .inl (), .inr (.inr 2), .inr (.inr 3), .inr (.inr 4), .inr (.inr 5), .inr (.inr 6)]), .inr (5, [.inl (), .inl (), .inr (.inr 14), .inr (.inr 15), .inr (.inr 16), .inr (.inr 17), .inl ()]), .inl (.boolean, 6), .inl (.int, 6), .inl (.int, 6), .inl (.int, 144), .inl (.int, 144), .inl (.int, 3 ^ (A - 1) * A), .inl (.int, 3 ^ (A - 1)), .inl (.int, 3 ^ (A - 1)), .inl (.int, 3 ^ (A - 1)), .inl (.int, 3 ^ (A - 1)), .inl (.int, 24 * R), .inl (.int, (3 * A + 1) * R * 3 ^ (A - 1))]
def cz10_C (X : ch_X) (ad : Nat → Nat) (A R : Nat) : Prop := ch_Ok (cn_X X ad (cz10 A R)) ∧ 3 ≤ A ∧ A ≤ 6 ∧ 4 ≤ R ∧ R ≤ 12
theorem sa_0 {X : ch_X} {ad : Nat → Nat} {A R : Nat} : (cn_X X ad (cz10 A R)).2.2.2.2.2[0]? = some (.inr (10, [.inr (.inr 1), .inl (), .inr (.inr 7), .inr (.inr 10), .inr (.inr 8), .inr (.inr 9), .inr (.inr 11), .inl (), .inr (.inr 13), .inr (.inr 12), .inl (), .inl (), .inr (.inr 2), .inr (.inr 3), .inr (.inr 4), .inr (.inr 5), .inr (.inr 6)])) := rfl
theorem sa_1 {X : ch_X} {ad : Nat → Nat} {A R : Nat} : (cn_X X ad (cz10 A R)).2.2.2.2.2[1]? = some (.inr (5, [.inl (), .inl (), .inr (.inr 14), .inr (.inr 15), .inr (.inr 16), .inr (.inr 17), .inl ()])) := rfl
theorem sa_2 {X : ch_X} {ad : Nat → Nat} {A R : Nat} : (cn_X X ad (cz10 A R)).2.2.2.2.2[2]? = some (.inl (.boolean, 6)) := rfl
theorem san_2 {X : ch_X} {ad : Nat → Nat} {A R : Nat} (_ : cz10_C X ad A R) : 6 < 2147483648 := by decide
theorem sa_3 {X : ch_X} {ad : Nat → Nat} {A R : Nat} : (cn_X X ad (cz10 A R)).2.2.2.2.2[3]? = some (.inl (.int, 6)) := rfl
theorem san_3 {X : ch_X} {ad : Nat → Nat} {A R : Nat} (_ : cz10_C X ad A R) : 6 < 2147483648 := by decide
theorem sa_4 {X : ch_X} {ad : Nat → Nat} {A R : Nat} : (cn_X X ad (cz10 A R)).2.2.2.2.2[4]? = some (.inl (.int, 6)) := rfl
theorem san_4 {X : ch_X} {ad : Nat → Nat} {A R : Nat} (_ : cz10_C X ad A R) : 6 < 2147483648 := by decide
theorem sa_5 {X : ch_X} {ad : Nat → Nat} {A R : Nat} : (cn_X X ad (cz10 A R)).2.2.2.2.2[5]? = some (.inl (.int, 144)) := rfl
theorem san_5 {X : ch_X} {ad : Nat → Nat} {A R : Nat} (_ : cz10_C X ad A R) : 144 < 2147483648 := by decide
theorem sa_6 {X : ch_X} {ad : Nat → Nat} {A R : Nat} : (cn_X X ad (cz10 A R)).2.2.2.2.2[6]? = some (.inl (.int, 144)) := rfl
theorem san_6 {X : ch_X} {ad : Nat → Nat} {A R : Nat} (_ : cz10_C X ad A R) : 144 < 2147483648 := by decide
theorem sa_7 {X : ch_X} {ad : Nat → Nat} {A R : Nat} : (cn_X X ad (cz10 A R)).2.2.2.2.2[7]? = some (.inl (.int, 3 ^ (A - 1) * A)) := rfl
theorem san_7 {X : ch_X} {ad : Nat → Nat} {A R : Nat} (hC : cz10_C X ad A R) : 3 ^ (A - 1) * A < 2147483648 := by
  obtain ⟨-, h1, h2, h3, h4⟩ := hC
  rcases (by omega : A = 3 ∨ A = 4 ∨ A = 5 ∨ A = 6) with rfl | rfl | rfl | rfl <;> (try simp) <;> omega
theorem sa_8 {X : ch_X} {ad : Nat → Nat} {A R : Nat} : (cn_X X ad (cz10 A R)).2.2.2.2.2[8]? = some (.inl (.int, 3 ^ (A - 1))) := rfl
theorem san_8 {X : ch_X} {ad : Nat → Nat} {A R : Nat} (hC : cz10_C X ad A R) : 3 ^ (A - 1) < 2147483648 := by
  obtain ⟨-, h1, h2, h3, h4⟩ := hC
  rcases (by omega : A = 3 ∨ A = 4 ∨ A = 5 ∨ A = 6) with rfl | rfl | rfl | rfl <;> (try simp) <;> omega
theorem sa_9 {X : ch_X} {ad : Nat → Nat} {A R : Nat} : (cn_X X ad (cz10 A R)).2.2.2.2.2[9]? = some (.inl (.int, 3 ^ (A - 1))) := rfl
theorem san_9 {X : ch_X} {ad : Nat → Nat} {A R : Nat} (hC : cz10_C X ad A R) : 3 ^ (A - 1) < 2147483648 := by
  obtain ⟨-, h1, h2, h3, h4⟩ := hC
  rcases (by omega : A = 3 ∨ A = 4 ∨ A = 5 ∨ A = 6) with rfl | rfl | rfl | rfl <;> (try simp) <;> omega
theorem sa_10 {X : ch_X} {ad : Nat → Nat} {A R : Nat} : (cn_X X ad (cz10 A R)).2.2.2.2.2[10]? = some (.inl (.int, 3 ^ (A - 1))) := rfl
theorem san_10 {X : ch_X} {ad : Nat → Nat} {A R : Nat} (hC : cz10_C X ad A R) : 3 ^ (A - 1) < 2147483648 := by
  obtain ⟨-, h1, h2, h3, h4⟩ := hC
  rcases (by omega : A = 3 ∨ A = 4 ∨ A = 5 ∨ A = 6) with rfl | rfl | rfl | rfl <;> (try simp) <;> omega
theorem sa_11 {X : ch_X} {ad : Nat → Nat} {A R : Nat} : (cn_X X ad (cz10 A R)).2.2.2.2.2[11]? = some (.inl (.int, 3 ^ (A - 1))) := rfl
theorem san_11 {X : ch_X} {ad : Nat → Nat} {A R : Nat} (hC : cz10_C X ad A R) : 3 ^ (A - 1) < 2147483648 := by
  obtain ⟨-, h1, h2, h3, h4⟩ := hC
  rcases (by omega : A = 3 ∨ A = 4 ∨ A = 5 ∨ A = 6) with rfl | rfl | rfl | rfl <;> (try simp) <;> omega
theorem sa_12 {X : ch_X} {ad : Nat → Nat} {A R : Nat} : (cn_X X ad (cz10 A R)).2.2.2.2.2[12]? = some (.inl (.int, 24 * R)) := rfl
theorem san_12 {X : ch_X} {ad : Nat → Nat} {A R : Nat} (hC : cz10_C X ad A R) : 24 * R < 2147483648 := by
  obtain ⟨-, h1, h2, h3, h4⟩ := hC
  rcases (by omega : A = 3 ∨ A = 4 ∨ A = 5 ∨ A = 6) with rfl | rfl | rfl | rfl <;> (try simp) <;> omega
theorem sa_13 {X : ch_X} {ad : Nat → Nat} {A R : Nat} : (cn_X X ad (cz10 A R)).2.2.2.2.2[13]? = some (.inl (.int, (3 * A + 1) * R * 3 ^ (A - 1))) := rfl
theorem san_13 {X : ch_X} {ad : Nat → Nat} {A R : Nat} (hC : cz10_C X ad A R) : (3 * A + 1) * R * 3 ^ (A - 1) < 2147483648 := by
  obtain ⟨-, h1, h2, h3, h4⟩ := hC
  rcases (by omega : A = 3 ∨ A = 4 ∨ A = 5 ∨ A = 6) with rfl | rfl | rfl | rfl <;> (try simp) <;> omega
def cz12 (A R : Nat) : List ch_D := [.inr (12, [.inl (), .inl (), .inl (), .inr (.inr 1), .inr (.inr 2), .inr (.inr 3), .inr (.inr 4), .inr (.inr 5), .inr (.inr 6), .inr (.inr 7), .inr (.inr 8), .inr (.inr 9), .inr (.inr 10), .inr (.inr 11), .inr (.inr 12), .inr (.inr 13), .inl (), .inl (), .inl (), .inl (), .inl (), .inl (), .inl (), .inr (.inl ()), .inl (), .inl (), .inl (), .inl (), .inr (.inr 14), .inl (), .inl (), .inl (), .inr (.inr 15), .inr (.inr 16), .inr (.inr 17), .inr (.inr 18), .inr (.inr 19), .inr (.inr 20)]), .inl (.int, 1430), .inl (.int, 1430), .inl (.int, 3200), .inl (.int, 70000), .inl (.int, 70000), .inl (.boolean, 70000), .inl (.int, 6), .inl (.int, 6), .inl (.int, 144), .inl (.int, 144), .inl (.int, 24), .inl (.int, 2000), .inl (.int, 300), .inl (.int, 160), .inl (.int, 9), .inl (.long, 330), .inl (.boolean, 330), .inl (.int, 3), .inl (.long, 12), .inl (.int, 12)]
def cz12_C (X : ch_X) (ad : Nat → Nat) (A R : Nat) : Prop := ch_Ok (cn_X X ad (cz12 A R)) ∧ 3 ≤ A ∧ A ≤ 6 ∧ 4 ≤ R ∧ R ≤ 12
theorem sb_0 {X : ch_X} {ad : Nat → Nat} {A R : Nat} : (cn_X X ad (cz12 A R)).2.2.2.2.2[0]? = some (.inr (12, [.inl (), .inl (), .inl (), .inr (.inr 1), .inr (.inr 2), .inr (.inr 3), .inr (.inr 4), .inr (.inr 5), .inr (.inr 6), .inr (.inr 7), .inr (.inr 8), .inr (.inr 9), .inr (.inr 10), .inr (.inr 11), .inr (.inr 12), .inr (.inr 13), .inl (), .inl (), .inl (), .inl (), .inl (), .inl (), .inl (), .inr (.inl ()), .inl (), .inl (), .inl (), .inl (), .inr (.inr 14), .inl (), .inl (), .inl (), .inr (.inr 15), .inr (.inr 16), .inr (.inr 17), .inr (.inr 18), .inr (.inr 19), .inr (.inr 20)])) := rfl
theorem sb_1 {X : ch_X} {ad : Nat → Nat} {A R : Nat} : (cn_X X ad (cz12 A R)).2.2.2.2.2[1]? = some (.inl (.int, 1430)) := rfl
theorem sbn_1 {X : ch_X} {ad : Nat → Nat} {A R : Nat} (_ : cz12_C X ad A R) : 1430 < 2147483648 := by decide
theorem sb_2 {X : ch_X} {ad : Nat → Nat} {A R : Nat} : (cn_X X ad (cz12 A R)).2.2.2.2.2[2]? = some (.inl (.int, 1430)) := rfl
theorem sbn_2 {X : ch_X} {ad : Nat → Nat} {A R : Nat} (_ : cz12_C X ad A R) : 1430 < 2147483648 := by decide
theorem sb_3 {X : ch_X} {ad : Nat → Nat} {A R : Nat} : (cn_X X ad (cz12 A R)).2.2.2.2.2[3]? = some (.inl (.int, 3200)) := rfl
theorem sbn_3 {X : ch_X} {ad : Nat → Nat} {A R : Nat} (_ : cz12_C X ad A R) : 3200 < 2147483648 := by decide
theorem sb_4 {X : ch_X} {ad : Nat → Nat} {A R : Nat} : (cn_X X ad (cz12 A R)).2.2.2.2.2[4]? = some (.inl (.int, 70000)) := rfl
theorem sbn_4 {X : ch_X} {ad : Nat → Nat} {A R : Nat} (_ : cz12_C X ad A R) : 70000 < 2147483648 := by decide
theorem sb_5 {X : ch_X} {ad : Nat → Nat} {A R : Nat} : (cn_X X ad (cz12 A R)).2.2.2.2.2[5]? = some (.inl (.int, 70000)) := rfl
theorem sbn_5 {X : ch_X} {ad : Nat → Nat} {A R : Nat} (_ : cz12_C X ad A R) : 70000 < 2147483648 := by decide
theorem sb_6 {X : ch_X} {ad : Nat → Nat} {A R : Nat} : (cn_X X ad (cz12 A R)).2.2.2.2.2[6]? = some (.inl (.boolean, 70000)) := rfl
theorem sbn_6 {X : ch_X} {ad : Nat → Nat} {A R : Nat} (_ : cz12_C X ad A R) : 70000 < 2147483648 := by decide
theorem sb_7 {X : ch_X} {ad : Nat → Nat} {A R : Nat} : (cn_X X ad (cz12 A R)).2.2.2.2.2[7]? = some (.inl (.int, 6)) := rfl
theorem sbn_7 {X : ch_X} {ad : Nat → Nat} {A R : Nat} (_ : cz12_C X ad A R) : 6 < 2147483648 := by decide
theorem sb_8 {X : ch_X} {ad : Nat → Nat} {A R : Nat} : (cn_X X ad (cz12 A R)).2.2.2.2.2[8]? = some (.inl (.int, 6)) := rfl
theorem sbn_8 {X : ch_X} {ad : Nat → Nat} {A R : Nat} (_ : cz12_C X ad A R) : 6 < 2147483648 := by decide
theorem sb_9 {X : ch_X} {ad : Nat → Nat} {A R : Nat} : (cn_X X ad (cz12 A R)).2.2.2.2.2[9]? = some (.inl (.int, 144)) := rfl
theorem sbn_9 {X : ch_X} {ad : Nat → Nat} {A R : Nat} (_ : cz12_C X ad A R) : 144 < 2147483648 := by decide
theorem sb_10 {X : ch_X} {ad : Nat → Nat} {A R : Nat} : (cn_X X ad (cz12 A R)).2.2.2.2.2[10]? = some (.inl (.int, 144)) := rfl
theorem sbn_10 {X : ch_X} {ad : Nat → Nat} {A R : Nat} (_ : cz12_C X ad A R) : 144 < 2147483648 := by decide
theorem sb_11 {X : ch_X} {ad : Nat → Nat} {A R : Nat} : (cn_X X ad (cz12 A R)).2.2.2.2.2[11]? = some (.inl (.int, 24)) := rfl
theorem sbn_11 {X : ch_X} {ad : Nat → Nat} {A R : Nat} (_ : cz12_C X ad A R) : 24 < 2147483648 := by decide
theorem sb_12 {X : ch_X} {ad : Nat → Nat} {A R : Nat} : (cn_X X ad (cz12 A R)).2.2.2.2.2[12]? = some (.inl (.int, 2000)) := rfl
theorem sbn_12 {X : ch_X} {ad : Nat → Nat} {A R : Nat} (_ : cz12_C X ad A R) : 2000 < 2147483648 := by decide
theorem sb_13 {X : ch_X} {ad : Nat → Nat} {A R : Nat} : (cn_X X ad (cz12 A R)).2.2.2.2.2[13]? = some (.inl (.int, 300)) := rfl
theorem sbn_13 {X : ch_X} {ad : Nat → Nat} {A R : Nat} (_ : cz12_C X ad A R) : 300 < 2147483648 := by decide
theorem sb_14 {X : ch_X} {ad : Nat → Nat} {A R : Nat} : (cn_X X ad (cz12 A R)).2.2.2.2.2[14]? = some (.inl (.int, 160)) := rfl
theorem sbn_14 {X : ch_X} {ad : Nat → Nat} {A R : Nat} (_ : cz12_C X ad A R) : 160 < 2147483648 := by decide
theorem sb_15 {X : ch_X} {ad : Nat → Nat} {A R : Nat} : (cn_X X ad (cz12 A R)).2.2.2.2.2[15]? = some (.inl (.int, 9)) := rfl
theorem sbn_15 {X : ch_X} {ad : Nat → Nat} {A R : Nat} (_ : cz12_C X ad A R) : 9 < 2147483648 := by decide
theorem sb_16 {X : ch_X} {ad : Nat → Nat} {A R : Nat} : (cn_X X ad (cz12 A R)).2.2.2.2.2[16]? = some (.inl (.long, 330)) := rfl
theorem sbn_16 {X : ch_X} {ad : Nat → Nat} {A R : Nat} (_ : cz12_C X ad A R) : 330 < 2147483648 := by decide
theorem sb_17 {X : ch_X} {ad : Nat → Nat} {A R : Nat} : (cn_X X ad (cz12 A R)).2.2.2.2.2[17]? = some (.inl (.boolean, 330)) := rfl
theorem sbn_17 {X : ch_X} {ad : Nat → Nat} {A R : Nat} (_ : cz12_C X ad A R) : 330 < 2147483648 := by decide
theorem sb_18 {X : ch_X} {ad : Nat → Nat} {A R : Nat} : (cn_X X ad (cz12 A R)).2.2.2.2.2[18]? = some (.inl (.int, 3)) := rfl
theorem sbn_18 {X : ch_X} {ad : Nat → Nat} {A R : Nat} (_ : cz12_C X ad A R) : 3 < 2147483648 := by decide
theorem sb_19 {X : ch_X} {ad : Nat → Nat} {A R : Nat} : (cn_X X ad (cz12 A R)).2.2.2.2.2[19]? = some (.inl (.long, 12)) := rfl
theorem sbn_19 {X : ch_X} {ad : Nat → Nat} {A R : Nat} (_ : cz12_C X ad A R) : 12 < 2147483648 := by decide
theorem sb_20 {X : ch_X} {ad : Nat → Nat} {A R : Nat} : (cn_X X ad (cz12 A R)).2.2.2.2.2[20]? = some (.inl (.int, 12)) := rfl
theorem sbn_20 {X : ch_X} {ad : Nat → Nat} {A R : Nat} (_ : cz12_C X ad A R) : 12 < 2147483648 := by decide
theorem dX10_describe_0 : decode cX10_describe 0 = .ok (.iload_n 1, 1) := dk_27 (by decide +kernel)
theorem dX10_describe_1 : decode cX10_describe 1 = .ok (.aload_n 0, 1) := dk_42 (by decide +kernel)
theorem dX10_describe_2 : decode cX10_describe 2 = .ok (.getfield 28, 3) := dk_180 0 28 (by decide +kernel)
theorem dX10_describe_5 : decode cX10_describe 5 = .ok (.getfield 32, 3) := dk_180 0 32 (by decide +kernel)
theorem dX10_describe_8 : decode cX10_describe 8 = .ok (.imul, 1) := dk_104 (by decide +kernel)
theorem dX10_describe_9 : decode cX10_describe 9 = .ok (.istore_n 2, 1) := dk_61 (by decide +kernel)
theorem dX10_describe_10 : decode cX10_describe 10 = .ok (.iload_n 1, 1) := dk_27 (by decide +kernel)
theorem dX10_describe_11 : decode cX10_describe 11 = .ok (.istore_n 3, 1) := dk_62 (by decide +kernel)
theorem dX10_describe_12 : decode cX10_describe 12 = .ok (.aload_n 0, 1) := dk_42 (by decide +kernel)
theorem dX10_describe_13 : decode cX10_describe 13 = .ok (.getfield 48, 3) := dk_180 0 48 (by decide +kernel)
theorem dX10_describe_16 : decode cX10_describe 16 = .ok (.istore 4, 2) := dk_54 (by decide +kernel)
theorem dX10_describe_18 : decode cX10_describe 18 = .ok (.iconst 1, 1) := dk_4 (by decide +kernel)
theorem dX10_describe_19 : decode cX10_describe 19 = .ok (.istore 5, 2) := dk_54 (by decide +kernel)
theorem dX10_describe_21 : decode cX10_describe 21 = .ok (.iload 5, 2) := dk_21 (by decide +kernel)
theorem dX10_describe_23 : decode cX10_describe 23 = .ok (.aload_n 0, 1) := dk_42 (by decide +kernel)
theorem dX10_describe_24 : decode cX10_describe 24 = .ok (.getfield 28, 3) := dk_180 0 28 (by decide +kernel)
theorem dX10_describe_27 : decode cX10_describe 27 = .ok (.getfield 32, 3) := dk_180 0 32 (by decide +kernel)
theorem dX10_describe_30 : decode cX10_describe 30 = .ok (.if_icmp .ge 51, 3) := dk_162 0 51 (by decide +kernel)
theorem dX10_describe_33 : decode cX10_describe 33 = .ok (.iconst 1, 1) := dk_4 (by decide +kernel)
theorem dX10_describe_34 : decode cX10_describe 34 = .ok (.iload 4, 2) := dk_21 (by decide +kernel)
theorem dX10_describe_36 : decode cX10_describe 36 = .ok (.iconst 3, 1) := dk_6 (by decide +kernel)
theorem dX10_describe_37 : decode cX10_describe 37 = .ok (.idiv, 1) := dk_108 (by decide +kernel)
theorem dX10_describe_38 : decode cX10_describe 38 = .ok (.invokestatic 42, 3) := dk_184 0 42 (by decide +kernel)
theorem dX10_describe_41 : decode cX10_describe 41 = .ok (.istore 4, 2) := dk_54 (by decide +kernel)
theorem dX10_describe_43 : decode cX10_describe 43 = .ok (.aload_n 0, 1) := dk_42 (by decide +kernel)
theorem dX10_describe_44 : decode cX10_describe 44 = .ok (.getfield 51, 3) := dk_180 0 51 (by decide +kernel)
theorem dX10_describe_47 : decode cX10_describe 47 = .ok (.iload_n 2, 1) := dk_28 (by decide +kernel)
theorem dX10_describe_48 : decode cX10_describe 48 = .ok (.iload 5, 2) := dk_21 (by decide +kernel)
theorem dX10_describe_50 : decode cX10_describe 50 = .ok (.iadd, 1) := dk_96 (by decide +kernel)
theorem dX10_describe_51 : decode cX10_describe 51 = .ok (.aload_n 0, 1) := dk_42 (by decide +kernel)
theorem dX10_describe_52 : decode cX10_describe 52 = .ok (.getfield 51, 3) := dk_180 0 51 (by decide +kernel)
theorem dX10_describe_55 : decode cX10_describe 55 = .ok (.iload_n 2, 1) := dk_28 (by decide +kernel)
theorem dX10_describe_56 : decode cX10_describe 56 = .ok (.iload 5, 2) := dk_21 (by decide +kernel)
theorem dX10_describe_58 : decode cX10_describe 58 = .ok (.iadd, 1) := dk_96 (by decide +kernel)
theorem dX10_describe_59 : decode cX10_describe 59 = .ok (.iconst 1, 1) := dk_4 (by decide +kernel)
theorem dX10_describe_60 : decode cX10_describe 60 = .ok (.isub, 1) := dk_100 (by decide +kernel)
theorem dX10_describe_61 : decode cX10_describe 61 = .ok (.iaload, 1) := dk_46 (by decide +kernel)
theorem dX10_describe_62 : decode cX10_describe 62 = .ok (.iload_n 3, 1) := dk_29 (by decide +kernel)
theorem dX10_describe_63 : decode cX10_describe 63 = .ok (.iload 4, 2) := dk_21 (by decide +kernel)
theorem dX10_describe_65 : decode cX10_describe 65 = .ok (.idiv, 1) := dk_108 (by decide +kernel)
theorem dX10_describe_66 : decode cX10_describe 66 = .ok (.iadd, 1) := dk_96 (by decide +kernel)
theorem dX10_describe_67 : decode cX10_describe 67 = .ok (.iconst 1, 1) := dk_4 (by decide +kernel)
theorem dX10_describe_68 : decode cX10_describe 68 = .ok (.isub, 1) := dk_100 (by decide +kernel)
theorem dX10_describe_69 : decode cX10_describe 69 = .ok (.iastore, 1) := dk_79 (by decide +kernel)
theorem dX10_describe_70 : decode cX10_describe 70 = .ok (.iload_n 3, 1) := dk_29 (by decide +kernel)
theorem dX10_describe_71 : decode cX10_describe 71 = .ok (.iload 4, 2) := dk_21 (by decide +kernel)
theorem dX10_describe_73 : decode cX10_describe 73 = .ok (.irem, 1) := dk_112 (by decide +kernel)
theorem dX10_describe_74 : decode cX10_describe 74 = .ok (.istore_n 3, 1) := dk_62 (by decide +kernel)
theorem dX10_describe_75 : decode cX10_describe 75 = .ok (.iinc 5 1, 3) := dk_132 1 (by decide +kernel)
theorem dX10_describe_78 : decode cX10_describe 78 = .ok (.goto (-57), 3) := dk_167 255 199 (by decide +kernel)
theorem dX10_describe_81 : decode cX10_describe 81 = .ok (.aload_n 0, 1) := dk_42 (by decide +kernel)
theorem dX10_describe_82 : decode cX10_describe 82 = .ok (.getfield 54, 3) := dk_180 0 54 (by decide +kernel)
theorem dX10_describe_85 : decode cX10_describe 85 = .ok (.iload_n 1, 1) := dk_27 (by decide +kernel)
theorem dX10_describe_86 : decode cX10_describe 86 = .ok (.aload_n 0, 1) := dk_42 (by decide +kernel)
theorem dX10_describe_87 : decode cX10_describe 87 = .ok (.getfield 51, 3) := dk_180 0 51 (by decide +kernel)
theorem dX10_describe_90 : decode cX10_describe 90 = .ok (.iload_n 2, 1) := dk_28 (by decide +kernel)
theorem dX10_describe_91 : decode cX10_describe 91 = .ok (.iconst 1, 1) := dk_4 (by decide +kernel)
theorem dX10_describe_92 : decode cX10_describe 92 = .ok (.iadd, 1) := dk_96 (by decide +kernel)
theorem dX10_describe_93 : decode cX10_describe 93 = .ok (.iaload, 1) := dk_46 (by decide +kernel)
theorem dX10_describe_94 : decode cX10_describe 94 = .ok (.iastore, 1) := dk_79 (by decide +kernel)
theorem dX10_describe_95 : decode cX10_describe 95 = .ok (.aload_n 0, 1) := dk_42 (by decide +kernel)
theorem dX10_describe_96 : decode cX10_describe 96 = .ok (.getfield 57, 3) := dk_180 0 57 (by decide +kernel)
theorem dX10_describe_99 : decode cX10_describe 99 = .ok (.iload_n 1, 1) := dk_27 (by decide +kernel)
theorem dX10_describe_100 : decode cX10_describe 100 = .ok (.iload_n 1, 1) := dk_27 (by decide +kernel)
theorem dX10_describe_101 : decode cX10_describe 101 = .ok (.iconst 3, 1) := dk_6 (by decide +kernel)
theorem dX10_describe_102 : decode cX10_describe 102 = .ok (.imul, 1) := dk_104 (by decide +kernel)
theorem dX10_describe_103 : decode cX10_describe 103 = .ok (.aload_n 0, 1) := dk_42 (by decide +kernel)
theorem dX10_describe_104 : decode cX10_describe 104 = .ok (.getfield 48, 3) := dk_180 0 48 (by decide +kernel)
theorem dX10_describe_107 : decode cX10_describe 107 = .ok (.irem, 1) := dk_112 (by decide +kernel)
theorem dX10_describe_108 : decode cX10_describe 108 = .ok (.iastore, 1) := dk_79 (by decide +kernel)
theorem dX10_describe_109 : decode cX10_describe 109 = .ok (.aload_n 0, 1) := dk_42 (by decide +kernel)
theorem dX10_describe_110 : decode cX10_describe 110 = .ok (.getfield 60, 3) := dk_180 0 60 (by decide +kernel)
theorem dX10_describe_113 : decode cX10_describe 113 = .ok (.iload_n 1, 1) := dk_27 (by decide +kernel)
theorem dX10_describe_114 : decode cX10_describe 114 = .ok (.aload_n 0, 1) := dk_42 (by decide +kernel)
theorem dX10_describe_115 : decode cX10_describe 115 = .ok (.getfield 51, 3) := dk_180 0 51 (by decide +kernel)
theorem dX10_describe_118 : decode cX10_describe 118 = .ok (.iload_n 2, 1) := dk_28 (by decide +kernel)
theorem dX10_describe_119 : decode cX10_describe 119 = .ok (.aload_n 0, 1) := dk_42 (by decide +kernel)
theorem dX10_describe_120 : decode cX10_describe 120 = .ok (.getfield 28, 3) := dk_180 0 28 (by decide +kernel)
theorem dX10_describe_123 : decode cX10_describe 123 = .ok (.getfield 32, 3) := dk_180 0 32 (by decide +kernel)
theorem dX10_describe_126 : decode cX10_describe 126 = .ok (.iadd, 1) := dk_96 (by decide +kernel)
theorem dX10_describe_127 : decode cX10_describe 127 = .ok (.iconst 1, 1) := dk_4 (by decide +kernel)
theorem dX10_describe_128 : decode cX10_describe 128 = .ok (.isub, 1) := dk_100 (by decide +kernel)
theorem dX10_describe_129 : decode cX10_describe 129 = .ok (.iaload, 1) := dk_46 (by decide +kernel)
theorem dX10_describe_130 : decode cX10_describe 130 = .ok (.iastore, 1) := dk_79 (by decide +kernel)
theorem dX10_describe_131 : decode cX10_describe 131 = .ok (.aload_n 0, 1) := dk_42 (by decide +kernel)
theorem dX10_describe_132 : decode cX10_describe 132 = .ok (.getfield 60, 3) := dk_180 0 60 (by decide +kernel)
theorem dX10_describe_135 : decode cX10_describe 135 = .ok (.iload_n 1, 1) := dk_27 (by decide +kernel)
theorem dX10_describe_136 : decode cX10_describe 136 = .ok (.iaload, 1) := dk_46 (by decide +kernel)
theorem dX10_describe_137 : decode cX10_describe 137 = .ok (.ifCond .lt 23, 3) := dk_155 0 23 (by decide +kernel)
theorem dX10_describe_140 : decode cX10_describe 140 = .ok (.aload_n 0, 1) := dk_42 (by decide +kernel)
theorem dX10_describe_141 : decode cX10_describe 141 = .ok (.getfield 63, 3) := dk_180 0 63 (by decide +kernel)
theorem dX10_describe_144 : decode cX10_describe 144 = .ok (.aload_n 0, 1) := dk_42 (by decide +kernel)
theorem dX10_describe_145 : decode cX10_describe 145 = .ok (.getfield 79, 3) := dk_180 0 79 (by decide +kernel)
theorem dX10_describe_148 : decode cX10_describe 148 = .ok (.iload_n 1, 1) := dk_27 (by decide +kernel)
theorem dX10_describe_149 : decode cX10_describe 149 = .ok (.iastore, 1) := dk_79 (by decide +kernel)
theorem dX10_describe_150 : decode cX10_describe 150 = .ok (.aload_n 0, 1) := dk_42 (by decide +kernel)
theorem dX10_describe_151 : decode cX10_describe 151 = .ok (.dup, 1) := dk_89 (by decide +kernel)
theorem dX10_describe_152 : decode cX10_describe 152 = .ok (.getfield 79, 3) := dk_180 0 79 (by decide +kernel)
theorem dX10_describe_155 : decode cX10_describe 155 = .ok (.iconst 1, 1) := dk_4 (by decide +kernel)
theorem dX10_describe_156 : decode cX10_describe 156 = .ok (.iadd, 1) := dk_96 (by decide +kernel)
theorem dX10_describe_157 : decode cX10_describe 157 = .ok (.putfield 79, 3) := dk_181 0 79 (by decide +kernel)
theorem dX10_describe_160 : decode cX10_describe 160 = .ok (.return_, 1) := dk_177 (by decide +kernel)
set_option maxRecDepth 8000 in
theorem ze_X10_describe {X : ch_X} {ad : Nat → Nat} {A R : Nat} (hC : cz10_C X ad A R) {d : Nat} {K : Option ck_V → ck_W → Prop} {w : ck_W} {a1 : Int} (h : ck_i (a1 * (w 1 0)) ∧ (ck_At (cn_X X ad (cz10 A R)) (d + 1) mX10_describe K 21 [some (.inr (.inr 0)), some (.inl a1), some (.inl (a1 * (w 1 0))), some (.inl a1), some (.inl (w 0 1)), some (.inl 1)] [] w)) : ck_Ex (cn_X X ad (cz10 A R)) (d + 1) mX10_describe [.inr (.inr 0), .inl a1] w K :=
  ck_entry hC.1 [some (.inr (.inr 0)), some (.inl a1), none, none, none, none] (by decide) (Nat.le_of_ble_eq_true rfl) rfl (fun q => q) (ck_in (fun hl => (ck_iload_n 1 rfl 1 dX10_describe_0 rfl rfl (ck_aload_n 2 rfl 0 dX10_describe_1 rfl rfl (ck_getr 5 rfl dX10_describe_2 fl_X10_28 sa_0 rfl (ck_geti 8 rfl 0 dX10_describe_5 fl_X10_32 sa_1 rfl rfl _ rfl (fun (q1 : ck_i (w 1 0)) => (ck_imul 9 rfl dX10_describe_8 (have h5 := h; have o2 := h5.1; have h4 := h5.2; (ck_istore_n 10 rfl 2 [some (.inr (.inr 0)), some (.inl a1), some (.inl (a1 * (w 1 0))), none, none, none] dX10_describe_9 rfl (Nat.le_of_ble_eq_true rfl) rfl rfl o2 (ck_iload_n 11 rfl 1 dX10_describe_10 rfl rfl (ck_istore_n 12 rfl 3 [some (.inr (.inr 0)), some (.inl a1), some (.inl (a1 * (w 1 0))), some (.inl a1), none, none] dX10_describe_11 rfl (Nat.le_of_ble_eq_true rfl) rfl rfl hl.2.1 (ck_aload_n 13 rfl 0 dX10_describe_12 rfl rfl (ck_geti 16 rfl 1 dX10_describe_13 fl_X10_48 sa_0 rfl rfl _ rfl (fun (q3 : ck_i (w 0 1)) => (ck_istore 18 rfl [some (.inr (.inr 0)), some (.inl a1), some (.inl (a1 * (w 1 0))), some (.inl a1), some (.inl (w 0 1)), none] dX10_describe_16 (Nat.le_of_ble_eq_true rfl) rfl rfl q3 (ck_iconst 19 rfl dX10_describe_18 rfl (ck_istore 21 rfl [some (.inr (.inr 0)), some (.inl a1), some (.inl (a1 * (w 1 0))), some (.inl a1), some (.inl (w 0 1)), some (.inl 1)] dX10_describe_19 (Nat.le_of_ble_eq_true rfl) rfl rfl (show ck_i 1 by decide) h4))))))))))))))))))
set_option maxRecDepth 8000 in
theorem zr_X10_describe_21 {X : ch_X} {ad : Nat → Nat} {A R : Nat} (hC : cz10_C X ad A R) {d : Nat} {K : Option ck_V → ck_W → Prop} {w : ck_W} {a1 a2 a3 a4 a5 : Int} (h : ((w 1 0) ≤ a5 → (0 ≤ (a2 + 1) ∧ (a2 + 1) < ((3 ^ (A - 1) * A : Nat) : Int)) ∧ ((0 ≤ a1 ∧ a1 < ((3 ^ (A - 1) : Nat) : Int)) ∧ (ck_i (a1 * 3) ∧ ((¬ (w 0 1) = 0) ∧ (ck_i ((a1 * 3).tmod (w 0 1)) ∧ ((0 ≤ ((a2 + (w 1 0)) - 1) ∧ ((a2 + (w 1 0)) - 1) < ((3 ^ (A - 1) * A : Nat) : Int)) ∧ (∀ x13, x13 = (ck_up (ck_up (ck_up w 8 a1 (w 7 (a2 + 1))) 9 a1 ((a1 * 3).tmod (w 0 1))) 10 a1 (w 7 ((a2 + (w 1 0)) - 1))) 10 a1 → (x13 < 0 → K none (ck_up (ck_up (ck_up w 8 a1 (w 7 (a2 + 1))) 9 a1 ((a1 * 3).tmod (w 0 1))) 10 a1 (w 7 ((a2 + (w 1 0)) - 1)))) ∧ (¬ x13 < 0 → (0 ≤ (w 0 7) ∧ (w 0 7) < ((3 ^ (A - 1) : Nat) : Int)) ∧ (ck_i ((w 0 7) + 1) ∧ (K none (ck_up (ck_up (ck_up (ck_up (ck_up w 8 a1 (w 7 (a2 + 1))) 9 a1 ((a1 * 3).tmod (w 0 1))) 10 a1 (w 7 ((a2 + (w 1 0)) - 1))) 11 (w 0 7) a1) 0 7 ((w 0 7) + 1)))))))))))) ∧ (¬ (w 1 0) ≤ a5 → ck_i (a4.tdiv 3) ∧ (ck_CI (cn_X X ad (cz10 A R)) d mJ9_max_7cf53 [.inl 1, .inl (a4.tdiv 3)] w (fun v24 w23 => (0 ≤ ((a2 + a5) - 1) ∧ ((a2 + a5) - 1) < ((3 ^ (A - 1) * A : Nat) : Int)) ∧ ((¬ v24 = 0) ∧ (ck_i (((w23 7 ((a2 + a5) - 1)) + (a3.tdiv v24)) - 1) ∧ ((0 ≤ (a2 + a5) ∧ (a2 + a5) < ((3 ^ (A - 1) * A : Nat) : Int)) ∧ (ck_i (a3.tmod v24) ∧ (ck_i (a5 + 1) ∧ (ck_At (cn_X X ad (cz10 A R)) (d + 1) mX10_describe K 21 [some (.inr (.inr 0)), some (.inl a1), some (.inl a2), some (.inl (a3.tmod v24)), some (.inl v24), some (.inl (a5 + 1))] [] (ck_up w23 7 (a2 + a5) (((w23 7 ((a2 + a5) - 1)) + (a3.tdiv v24)) - 1)))))))))))) : ck_At (cn_X X ad (cz10 A R)) (d + 1) mX10_describe K 21 [some (.inr (.inr 0)), some (.inl a1), some (.inl a2), some (.inl a3), some (.inl a4), some (.inl a5)] [] w :=
  ck_in (fun hl => (ck_iload 23 rfl dX10_describe_21 rfl (ck_aload_n 24 rfl 0 dX10_describe_23 rfl rfl (ck_getr 27 rfl dX10_describe_24 fl_X10_28 sa_0 rfl (ck_geti 30 rfl 0 dX10_describe_27 fl_X10_32 sa_1 rfl rfl _ rfl (fun (q1 : ck_i (w 1 0)) => (ck_icmp_ge 33 rfl 81 dX10_describe_30 rfl hl.2.2.2.2.2.1 q1 (fun c34 => (ck_aload_n 82 rfl 0 dX10_describe_81 rfl rfl (ck_getr 85 rfl dX10_describe_82 fl_X10_54 sa_0 rfl (ck_iload_n 86 rfl 1 dX10_describe_85 rfl rfl (ck_aload_n 87 rfl 0 dX10_describe_86 rfl rfl (ck_getr 90 rfl dX10_describe_87 fl_X10_51 sa_0 rfl (ck_iload_n 91 rfl 2 dX10_describe_90 rfl rfl (ck_iconst 92 rfl dX10_describe_91 rfl (ck_iadd 93 rfl dX10_describe_92 (have h37 := (h.1 c34); have o2 := h37.1; have h36 := h37.2; (ck_iald 94 rfl dX10_describe_93 sa_7 (san_7 hC) o2 _ rfl (fun (q3 : ck_i (w 7 (a2 + 1))) => (have h39 := h36; have o4 := h39.1; have h38 := h39.2; (ck_iast 95 rfl dX10_describe_94 sa_8 (san_8 hC) o4 q3 (ck_aload_n 96 rfl 0 dX10_describe_95 rfl rfl (ck_getr 99 rfl dX10_describe_96 fl_X10_57 sa_0 rfl (ck_iload_n 100 rfl 1 dX10_describe_99 rfl rfl (ck_iload_n 101 rfl 1 dX10_describe_100 rfl rfl (ck_iconst 102 rfl dX10_describe_101 rfl (ck_imul 103 rfl dX10_describe_102 (ck_aload_n 104 rfl 0 dX10_describe_103 rfl rfl (ck_geti 107 rfl 1 dX10_describe_104 fl_X10_48 sa_0 rfl rfl _ rfl (fun (q5 : ck_i (w 0 1)) => (have h41 := h38; have o6 := h41.1; have h40 := h41.2; (have h43 := h40; have o7 := h43.1; have h42 := h43.2; (ck_irem 108 rfl dX10_describe_107 o6 q5 o7 (have h45 := h42; have o8 := h45.1; have h44 := h45.2; (ck_iast 109 rfl dX10_describe_108 sa_9 (san_9 hC) o4 o8 (ck_aload_n 110 rfl 0 dX10_describe_109 rfl rfl (ck_getr 113 rfl dX10_describe_110 fl_X10_60 sa_0 rfl (ck_iload_n 114 rfl 1 dX10_describe_113 rfl rfl (ck_aload_n 115 rfl 0 dX10_describe_114 rfl rfl (ck_getr 118 rfl dX10_describe_115 fl_X10_51 sa_0 rfl (ck_iload_n 119 rfl 2 dX10_describe_118 rfl rfl (ck_aload_n 120 rfl 0 dX10_describe_119 rfl rfl (ck_getr 123 rfl dX10_describe_120 fl_X10_28 sa_0 rfl (ck_geti 126 rfl 0 dX10_describe_123 fl_X10_32 sa_1 rfl rfl _ rfl (fun (q9 : ck_i (w 1 0)) => (ck_iadd 127 rfl dX10_describe_126 (ck_iconst 128 rfl dX10_describe_127 rfl (ck_isub 129 rfl dX10_describe_128 (have h47 := h44; have o10 := h47.1; have h46 := h47.2; (ck_iald 130 rfl dX10_describe_129 sa_7 (san_7 hC) o10 _ rfl (fun (q11 : ck_i (w 7 ((a2 + (w 1 0)) - 1))) => (ck_iast 131 rfl dX10_describe_130 sa_10 (san_10 hC) o4 q11 (ck_aload_n 132 rfl 0 dX10_describe_131 rfl rfl (ck_getr 135 rfl dX10_describe_132 fl_X10_60 sa_0 rfl (ck_iload_n 136 rfl 1 dX10_describe_135 rfl rfl (ck_iald 137 rfl dX10_describe_136 sa_10 (san_10 hC) o4 _ rfl (fun (q12 : ck_i ((ck_up (ck_up (ck_up w 8 a1 (w 7 (a2 + 1))) 9 a1 ((a1 * 3).tmod (w 0 1))) 10 a1 (w 7 ((a2 + (w 1 0)) - 1))) 10 a1)) => ck_nmi (fun x13 e14 => (have q15 : ck_i x13 := (by rw [e14]; exact q12); (have h48 := (h46 x13 e14); (ck_if_lt 140 rfl 160 dX10_describe_137 rfl q15 (fun c20 => (ck_vret dX10_describe_160 rfl (h48.1 c20))) (fun c21 => (ck_aload_n 141 rfl 0 dX10_describe_140 rfl rfl (ck_getr 144 rfl dX10_describe_141 fl_X10_63 sa_0 rfl (ck_aload_n 145 rfl 0 dX10_describe_144 rfl rfl (ck_geti 148 rfl 7 dX10_describe_145 fl_X10_79 sa_0 rfl rfl _ rfl (fun (q16 : ck_i (w 0 7)) => (ck_iload_n 149 rfl 1 dX10_describe_148 rfl rfl (have h50 := (h48.2 c21); have o17 := h50.1; have h49 := h50.2; (ck_iast 150 rfl dX10_describe_149 sa_11 (san_11 hC) o17 hl.2.1 (ck_aload_n 151 rfl 0 dX10_describe_150 rfl rfl (ck_dup 152 rfl dX10_describe_151 rfl (ck_geti 155 rfl 7 dX10_describe_152 fl_X10_79 sa_0 rfl rfl _ rfl (fun (q18 : ck_i (w 0 7)) => (ck_iconst 156 rfl dX10_describe_155 rfl (ck_iadd 157 rfl dX10_describe_156 (have h52 := h49; have o19 := h52.1; have h51 := h52.2; (ck_puti 160 rfl 7 dX10_describe_157 fp_X10_79 sa_0 rfl rfl o19 (ck_vret dX10_describe_160 rfl h51)))))))))))))))))))))))))))))))))))))))))))))))))))))))))))))))))))))))) (fun c35 => (ck_iconst 34 rfl dX10_describe_33 rfl (ck_iload 36 rfl dX10_describe_34 rfl (ck_iconst 37 rfl dX10_describe_36 rfl (ck_idiv 38 rfl dX10_describe_37 hl.2.2.2.2.1 (show ck_i 3 by decide) (by decide) (have h54 := (h.2 c35); have o22 := h54.1; have h53 := h54.2; (ck_callS 41 rfl [.inl 1, .inl (a4.tdiv 3)] [] dX10_describe_38 cs_X10_42 rfl rfl (Nat.le_of_ble_eq_true rfl) (And.intro (show ck_i 1 by decide) (And.intro o22 True.intro)) (ck_mI h53 (fun v24 w23 q25 h26 => (ck_istore 43 rfl [some (.inr (.inr 0)), some (.inl a1), some (.inl a2), some (.inl a3), some (.inl v24), some (.inl a5)] dX10_describe_41 (Nat.le_of_ble_eq_true rfl) rfl rfl q25 (ck_aload_n 44 rfl 0 dX10_describe_43 rfl rfl (ck_getr 47 rfl dX10_describe_44 fl_X10_51 sa_0 rfl (ck_iload_n 48 rfl 2 dX10_describe_47 rfl rfl (ck_iload 50 rfl dX10_describe_48 rfl (ck_iadd 51 rfl dX10_describe_50 (ck_aload_n 52 rfl 0 dX10_describe_51 rfl rfl (ck_getr 55 rfl dX10_describe_52 fl_X10_51 sa_0 rfl (ck_iload_n 56 rfl 2 dX10_describe_55 rfl rfl (ck_iload 58 rfl dX10_describe_56 rfl (ck_iadd 59 rfl dX10_describe_58 (ck_iconst 60 rfl dX10_describe_59 rfl (ck_isub 61 rfl dX10_describe_60 (have h56 := h26; have o27 := h56.1; have h55 := h56.2; (ck_iald 62 rfl dX10_describe_61 sa_7 (san_7 hC) o27 _ rfl (fun (q28 : ck_i (w23 7 ((a2 + a5) - 1))) => (ck_iload_n 63 rfl 3 dX10_describe_62 rfl rfl (ck_iload 65 rfl dX10_describe_63 rfl (have h58 := h55; have o29 := h58.1; have h57 := h58.2; (ck_idiv 66 rfl dX10_describe_65 hl.2.2.2.1 q25 o29 (ck_iadd 67 rfl dX10_describe_66 (ck_iconst 68 rfl dX10_describe_67 rfl (ck_isub 69 rfl dX10_describe_68 (have h60 := h57; have o30 := h60.1; have h59 := h60.2; (have h62 := h59; have o31 := h62.1; have h61 := h62.2; (ck_iast 70 rfl dX10_describe_69 sa_7 (san_7 hC) o31 o30 (ck_iload_n 71 rfl 3 dX10_describe_70 rfl rfl (ck_iload 73 rfl dX10_describe_71 rfl (ck_irem 74 rfl dX10_describe_73 hl.2.2.2.1 q25 o29 (have h64 := h61; have o32 := h64.1; have h63 := h64.2; (ck_istore_n 75 rfl 3 [some (.inr (.inr 0)), some (.inl a1), some (.inl a2), some (.inl (a3.tmod v24)), some (.inl v24), some (.inl a5)] dX10_describe_74 rfl (Nat.le_of_ble_eq_true rfl) rfl rfl o32 (have h66 := h63; have o33 := h66.1; have h65 := h66.2; (ck_iinc 78 rfl [some (.inr (.inr 0)), some (.inl a1), some (.inl a2), some (.inl (a3.tmod v24)), some (.inl v24), some (.inl (a5 + 1))] dX10_describe_75 rfl (Nat.le_of_ble_eq_true rfl) rfl rfl o33 (ck_goto 21 dX10_describe_78 rfl h65))))))))))))))))))))))))))))))))))))))))))))))))))
set_option maxRecDepth 8000 in
theorem ze_X12_copy {X : ch_X} {ad : Nat → Nat} {A R : Nat} (hC : cz12_C X ad A R) {d : Nat} {K : Option ck_V → ck_W → Prop} {w : ck_W} (h : ck_At (cn_X X ad (cz12 A R)) d mX12_copy K 2 [some (.inr (.inr 1)), some (.inr (.inr 2)), some (.inl 0)] [] w) : ck_Ex (cn_X X ad (cz12 A R)) d mX12_copy [.inr (.inr 1), .inr (.inr 2)] w K :=
  ck_entry hC.1 [some (.inr (.inr 1)), some (.inr (.inr 2)), none] (by decide) (Nat.le_of_ble_eq_true rfl) rfl (fun q => q) (ck_in (fun hl => (ck_iconst 1 rfl dX12_copy_0 rfl (ck_istore_n 2 rfl 2 [some (.inr (.inr 1)), some (.inr (.inr 2)), some (.inl 0)] dX12_copy_1 rfl (Nat.le_of_ble_eq_true rfl) rfl rfl (show ck_i 0 by decide) h))))
set_option maxRecDepth 8000 in
theorem zr_X12_copy_2 {X : ch_X} {ad : Nat → Nat} {A R : Nat} (hC : cz12_C X ad A R) {d : Nat} {K : Option ck_V → ck_W → Prop} {w : ck_W} {a2 : Int} (h : (1430 ≤ a2 → K none w) ∧ (¬ 1430 ≤ a2 → (0 ≤ a2 ∧ a2 < 1430) ∧ (ck_i (a2 + 1) ∧ (ck_At (cn_X X ad (cz12 A R)) d mX12_copy K 2 [some (.inr (.inr 1)), some (.inr (.inr 2)), some (.inl (a2 + 1))] [] (ck_up w 2 a2 (w 1 a2)))))) : ck_At (cn_X X ad (cz12 A R)) d mX12_copy K 2 [some (.inr (.inr 1)), some (.inr (.inr 2)), some (.inl a2)] [] w :=
  ck_in (fun hl => (ck_iload_n 3 rfl 2 dX12_copy_2 rfl rfl (ck_sipush 6 rfl dX12_copy_3 rfl (ck_icmp_ge 9 rfl 21 dX12_copy_6 rfl hl.2.2.1 (show ck_i 1430 by decide) (fun c4 => (ck_vret dX12_copy_21 rfl (h.1 c4))) (fun c5 => (ck_aload_n 10 rfl 1 dX12_copy_9 rfl rfl (ck_iload_n 11 rfl 2 dX12_copy_10 rfl rfl (ck_aload_n 12 rfl 0 dX12_copy_11 rfl rfl (ck_iload_n 13 rfl 2 dX12_copy_12 rfl rfl (have h7 := (h.2 c5); have o1 := h7.1; have h6 := h7.2; (ck_iald 14 rfl dX12_copy_13 sb_1 (sbn_1 hC) o1 _ rfl (fun (q2 : ck_i (w 1 a2)) => (ck_iast 15 rfl dX12_copy_14 sb_2 (sbn_2 hC) o1 q2 (have h9 := h6; have o3 := h9.1; have h8 := h9.2; (ck_iinc 18 rfl [some (.inr (.inr 1)), some (.inr (.inr 2)), some (.inl (a2 + 1))] dX12_copy_15 rfl (Nat.le_of_ble_eq_true rfl) rfl rfl o3 (ck_goto 2 dX12_copy_18 rfl h8))))))))))))))))
set_option maxRecDepth 8000 in
theorem t_X10_init_162 {X : ch_X} {ad : Nat → Nat} {A R : Nat} (hC : cz10_C X ad A R) {d C S : Nat} {ws0 : va_W} {K : va_W → Prop} {cells slots : Nat} (hcs : cells ≤ C ∧ slots ≤ S) {w : ck_W} (h : cq_At (cn_X X ad (cz10 A R)) (cu_M X (d + 3) C S ws0 K (cn_X X ad (cz10 A R)) cells slots) mX10_init 164 [some (.inr (.inr 0)), some (.inr (.inr 1)), some (.inl 0)] [] w) : cq_At (cn_X X ad (cz10 A R)) (cu_M X (d + 3) C S ws0 K (cn_X X ad (cz10 A R)) cells slots) mX10_init 162 [some (.inr (.inr 0)), some (.inr (.inr 1)), none] [] w :=
  cq_in (fun hl => (cq_iconst 163 rfl dX10_init_162 rfl (cq_istore_n 164 rfl 2 [some (.inr (.inr 0)), some (.inr (.inr 1)), some (.inl 0)] dX10_init_163 rfl (Nat.le_of_ble_eq_true rfl) rfl rfl (show ck_i 0 by decide) h)))
set_option maxRecDepth 8000 in
theorem t_X10_init_164 {X : ch_X} {ad : Nat → Nat} {A R : Nat} (hC : cz10_C X ad A R) {d C S : Nat} {ws0 : va_W} {K : va_W → Prop} {cells slots : Nat} (hcs : cells ≤ C ∧ slots ≤ S) {w : ck_W} {a2 : Int} (h : ck_i ((w 1 1) * (w 0 1)) ∧ ((((w 1 1) * (w 0 1)) ≤ a2 → cq_At (cn_X X ad (cz10 A R)) (cu_M X (d + 3) C S ws0 K (cn_X X ad (cz10 A R)) cells slots) mX10_init 192 [some (.inr (.inr 0)), none, some (.inl 0)] [] w) ∧ (¬ ((w 1 1) * (w 0 1)) ≤ a2 → (0 ≤ a2 ∧ a2 < (((3 * A + 1) * R * 3 ^ (A - 1) : Nat) : Int)) ∧ (ck_i (a2 + 1) ∧ (cq_At (cn_X X ad (cz10 A R)) (cu_M X (d + 3) C S ws0 K (cn_X X ad (cz10 A R)) cells slots) mX10_init 164 [some (.inr (.inr 0)), some (.inr (.inr 1)), some (.inl (a2 + 1))] [] (ck_up w 13 a2 1)))))) : cq_At (cn_X X ad (cz10 A R)) (cu_M X (d + 3) C S ws0 K (cn_X X ad (cz10 A R)) cells slots) mX10_init 164 [some (.inr (.inr 0)), some (.inr (.inr 1)), some (.inl a2)] [] w :=
  cq_in (fun hl => (cq_iload_n 165 rfl 2 dX10_init_164 rfl rfl (cq_aload_n 166 rfl 1 dX10_init_165 rfl rfl (cq_geti 169 rfl 1 dX10_init_166 fl_X10_66 sa_1 rfl rfl _ rfl (fun (q1 : ck_i (w 1 1)) => (cq_aload_n 170 rfl 0 dX10_init_169 rfl rfl (cq_geti 173 rfl 1 dX10_init_170 fl_X10_48 sa_0 rfl rfl _ rfl (fun (q2 : ck_i (w 0 1)) => (cq_imul 174 rfl dX10_init_173 (have h9 := h; have o3 := h9.1; have h8 := h9.2; (cq_icmp_ge 177 rfl 190 dX10_init_174 rfl hl.2.2.1 o3 (fun c6 => (cq_iconst 191 rfl dX10_init_190 rfl (cq_istore_n 192 rfl 2 [some (.inr (.inr 0)), some (.inr (.inr 1)), some (.inl 0)] dX10_init_191 rfl (Nat.le_of_ble_eq_true rfl) rfl rfl (show ck_i 0 by decide) (cq_drop [some (.inr (.inr 0)), none, some (.inl 0)] (And.intro rfl (And.intro rfl True.intro)) (h8.1 c6))))) (fun c7 => (cq_aload_n 178 rfl 0 dX10_init_177 rfl rfl (cq_getr 181 rfl dX10_init_178 fl_X10_72 sa_0 rfl (cq_iload_n 182 rfl 2 dX10_init_181 rfl rfl (cq_iconst 183 rfl dX10_init_182 rfl (have h11 := (h8.2 c7); have o4 := h11.1; have h10 := h11.2; (cq_iast 184 rfl dX10_init_183 sa_13 (san_13 hC) o4 (show ck_i 1 by decide) (have h13 := h10; have o5 := h13.1; have h12 := h13.2; (cq_iinc 187 rfl [some (.inr (.inr 0)), some (.inr (.inr 1)), some (.inl (a2 + 1))] dX10_init_184 rfl (Nat.le_of_ble_eq_true rfl) rfl rfl o5 (cq_goto 164 dX10_init_187 rfl h12)))))))))))))))))))))
set_option maxRecDepth 8000 in
theorem t_X10_init_192 {X : ch_X} {ad : Nat → Nat} {A R : Nat} (hC : cz10_C X ad A R) {d C S : Nat} {ws0 : va_W} {K : va_W → Prop} {cells slots : Nat} (hcs : cells ≤ C ∧ slots ≤ S) {w : ck_W} {a2 : Int} (h : ((w 0 1) ≤ a2 → (ck_ok (cz10 A R) w → K (ch_ws (cn_X X ad (cz10 A R)) (ck_w w)))) ∧ (¬ (w 0 1) ≤ a2 → ck_CN (cn_X X ad (cz10 A R)) (d + 2) mX10_describe [.inr (.inr 0), .inl a2] w (fun w2 => ck_i (a2 + 1) ∧ (cq_At (cn_X X ad (cz10 A R)) (cu_M X (d + 3) C S ws0 K (cn_X X ad (cz10 A R)) cells slots) mX10_init 192 [some (.inr (.inr 0)), none, some (.inl (a2 + 1))] [] w2)))) : cq_At (cn_X X ad (cz10 A R)) (cu_M X (d + 3) C S ws0 K (cn_X X ad (cz10 A R)) cells slots) mX10_init 192 [some (.inr (.inr 0)), none, some (.inl a2)] [] w :=
  cq_in (fun hl => (cq_iload_n 193 rfl 2 dX10_init_192 rfl rfl (cq_aload_n 194 rfl 0 dX10_init_193 rfl rfl (cq_geti 197 rfl 1 dX10_init_194 fl_X10_48 sa_0 rfl rfl _ rfl (fun (q1 : ck_i (w 0 1)) => (cq_icmp_ge 200 rfl 211 dX10_init_197 rfl hl.2.1 q1 (fun c5 => (cu_ret hcs dX10_init_211 rfl (h.1 c5))) (fun c6 => (cq_aload_n 201 rfl 0 dX10_init_200 rfl rfl (cq_iload_n 202 rfl 2 dX10_init_201 rfl rfl (cu_callV hcs 205 rfl [.inl a2] [] dX10_init_202 cv_X10_75 sa_0 rfl rfl (Nat.le_of_ble_eq_true rfl) (And.intro hl.2.1 True.intro) (ck_mN (h.2 c6) (fun w2 h4 => (have h8 := h4; have o3 := h8.1; have h7 := h8.2; (cq_iinc 208 rfl [some (.inr (.inr 0)), none, some (.inl (a2 + 1))] dX10_init_205 rfl (Nat.le_of_ble_eq_true rfl) rfl rfl o3 (cq_goto 192 dX10_init_208 rfl h7)))))))))))))))
set_option maxRecDepth 8000 in
theorem t_X12_init_183 {X : ch_X} {ad : Nat → Nat} {A R : Nat} (hC : cz12_C X ad A R) {d C S : Nat} {ws0 : va_W} {K : va_W → Prop} {cells slots : Nat} (hcs : cells ≤ C ∧ slots ≤ S) {w : ck_W} {a1 a2 : Int} (h : (3 ≤ a1 → (a1 ≤ 6 → cq_At (cn_X X ad (cz12 A R)) (cu_M X (d + 3) C S ws0 K (cn_X X ad (cz12 A R)) cells slots) mX12_init 208 [some (.inr (.inr 0)), none, some (.inl a2), none, none] [] (ck_up w 0 0 a1)) ∧ (¬ a1 ≤ 6 → cq_At (cn_X X ad (cz12 A R)) (cu_M X (d + 3) C S ws0 K (cn_X X ad (cz12 A R)) cells slots) mX12_init 208 [some (.inr (.inr 0)), none, some (.inl a2), none, none] [] (ck_up w 0 0 6))) ∧ (¬ 3 ≤ a1 → cq_At (cn_X X ad (cz12 A R)) (cu_M X (d + 3) C S ws0 K (cn_X X ad (cz12 A R)) cells slots) mX12_init 208 [some (.inr (.inr 0)), none, some (.inl a2), none, none] [] (ck_up w 0 0 3))) : cq_At (cn_X X ad (cz12 A R)) (cu_M X (d + 3) C S ws0 K (cn_X X ad (cz12 A R)) cells slots) mX12_init 183 [some (.inr (.inr 0)), some (.inl a1), some (.inl a2), none, none] [] w :=
  cq_in (fun hl => (cq_aload_n 184 rfl 0 dX12_init_183 rfl rfl (cq_iload_n 185 rfl 1 dX12_init_184 rfl rfl (cq_iconst 186 rfl dX12_init_185 rfl (cq_icmp_ge 189 rfl 193 dX12_init_186 rfl hl.2.1 (show ck_i 3 by decide) (fun c3 => (cq_iload_n 194 rfl 1 dX12_init_193 rfl rfl (cq_bipush 196 rfl dX12_init_194 rfl (have h5 := (h.1 c3); (cq_icmp_le 199 rfl 204 dX12_init_196 rfl hl.2.1 (show ck_i 6 by decide) (fun c1 => (cq_iload_n 205 rfl 1 dX12_init_204 rfl rfl (cu_putiF 208 rfl 0 dX12_init_205 fq_X12_80 sb_0 rfl rfl hl.2.1 (cq_drop [some (.inr (.inr 0)), none, some (.inl a2), none, none] (And.intro rfl (And.intro rfl True.intro)) (h5.1 c1))))) (fun c2 => (cq_bipush 201 rfl dX12_init_199 rfl (cq_goto 205 dX12_init_201 rfl (cu_putiF 208 rfl 0 dX12_init_205 fq_X12_80 sb_0 rfl rfl (show ck_i 6 by decide) (cq_drop [some (.inr (.inr 0)), none, some (.inl a2), none, none] (And.intro rfl (And.intro rfl True.intro)) (h5.2 c2))))))))))) (fun c4 => (cq_iconst 190 rfl dX12_init_189 rfl (cq_goto 205 dX12_init_190 rfl (cu_putiF 208 rfl 0 dX12_init_205 fq_X12_80 sb_0 rfl rfl (show ck_i 3 by decide) (cq_drop [some (.inr (.inr 0)), none, some (.inl a2), none, none] (And.intro rfl (And.intro rfl True.intro)) (h.2 c4)))))))))))
set_option maxRecDepth 8000 in
theorem t_X12_init_208 {X : ch_X} {ad : Nat → Nat} {A R : Nat} (hC : cz12_C X ad A R) {d C S : Nat} {ws0 : va_W} {K : va_W → Prop} {cells slots : Nat} (hcs : cells ≤ C ∧ slots ≤ S) {w : ck_W} {a2 : Int} (h : (4 ≤ a2 → (a2 ≤ 12 → cq_At (cn_X X ad (cz12 A R)) (cu_M X (d + 3) C S ws0 K (cn_X X ad (cz12 A R)) cells slots) mX12_init 233 [some (.inr (.inr 0)), none, none, none, none] [] (ck_up w 0 1 a2)) ∧ (¬ a2 ≤ 12 → cq_At (cn_X X ad (cz12 A R)) (cu_M X (d + 3) C S ws0 K (cn_X X ad (cz12 A R)) cells slots) mX12_init 233 [some (.inr (.inr 0)), none, none, none, none] [] (ck_up w 0 1 12))) ∧ (¬ 4 ≤ a2 → cq_At (cn_X X ad (cz12 A R)) (cu_M X (d + 3) C S ws0 K (cn_X X ad (cz12 A R)) cells slots) mX12_init 233 [some (.inr (.inr 0)), none, none, none, none] [] (ck_up w 0 1 4))) : cq_At (cn_X X ad (cz12 A R)) (cu_M X (d + 3) C S ws0 K (cn_X X ad (cz12 A R)) cells slots) mX12_init 208 [some (.inr (.inr 0)), none, some (.inl a2), none, none] [] w :=
  cq_in (fun hl => (cq_aload_n 209 rfl 0 dX12_init_208 rfl rfl (cq_iload_n 210 rfl 2 dX12_init_209 rfl rfl (cq_iconst 211 rfl dX12_init_210 rfl (cq_icmp_ge 214 rfl 218 dX12_init_211 rfl hl.2.1 (show ck_i 4 by decide) (fun c3 => (cq_iload_n 219 rfl 2 dX12_init_218 rfl rfl (cq_bipush 221 rfl dX12_init_219 rfl (have h5 := (h.1 c3); (cq_icmp_le 224 rfl 229 dX12_init_221 rfl hl.2.1 (show ck_i 12 by decide) (fun c1 => (cq_iload_n 230 rfl 2 dX12_init_229 rfl rfl (cu_putiF 233 rfl 1 dX12_init_230 fq_X12_83 sb_0 rfl rfl hl.2.1 (cq_drop [some (.inr (.inr 0)), none, none, none, none] (And.intro rfl True.intro) (h5.1 c1))))) (fun c2 => (cq_bipush 226 rfl dX12_init_224 rfl (cq_goto 230 dX12_init_226 rfl (cu_putiF 233 rfl 1 dX12_init_230 fq_X12_83 sb_0 rfl rfl (show ck_i 12 by decide) (cq_drop [some (.inr (.inr 0)), none, none, none, none] (And.intro rfl True.intro) (h5.2 c2))))))))))) (fun c4 => (cq_iconst 215 rfl dX12_init_214 rfl (cq_goto 230 dX12_init_215 rfl (cu_putiF 233 rfl 1 dX12_init_230 fq_X12_83 sb_0 rfl rfl (show ck_i 4 by decide) (cq_drop [some (.inr (.inr 0)), none, none, none, none] (And.intro rfl True.intro) (h.2 c4)))))))))))
set_option maxRecDepth 8000 in
theorem t_X12_init_233 {X : ch_X} {ad : Nat → Nat} {A R : Nat} (hC : cz12_C X ad A R) {d C S : Nat} {ws0 : va_W} {K : va_W → Prop} {cells slots : Nat} (hcs : cells ≤ C ∧ slots ≤ S) {w : ck_W} (h : cq_At (cn_X X ad (cz12 A R)) (cu_M X (d + 3) C S ws0 K (cn_X X ad (cz12 A R)) cells slots) mX12_init 238 [some (.inr (.inr 0)), none, none, some (.inl 1), some (.inl 1)] [] w) : cq_At (cn_X X ad (cz12 A R)) (cu_M X (d + 3) C S ws0 K (cn_X X ad (cz12 A R)) cells slots) mX12_init 233 [some (.inr (.inr 0)), none, none, none, none] [] w :=
  cq_in (fun hl => (cq_iconst 234 rfl dX12_init_233 rfl (cq_istore_n 235 rfl 3 [some (.inr (.inr 0)), none, none, some (.inl 1), none] dX12_init_234 rfl (Nat.le_of_ble_eq_true rfl) rfl rfl (show ck_i 1 by decide) (cq_iconst 236 rfl dX12_init_235 rfl (cq_istore 238 rfl [some (.inr (.inr 0)), none, none, some (.inl 1), some (.inl 1)] dX12_init_236 (Nat.le_of_ble_eq_true rfl) rfl rfl (show ck_i 1 by decide) h)))))
set_option maxRecDepth 8000 in
theorem t_X12_init_238 {X : ch_X} {ad : Nat → Nat} {A R : Nat} (hC : cz12_C X ad A R) {d C S : Nat} {ws0 : va_W} {K : va_W → Prop} {cells slots : Nat} (hcs : cells ≤ C ∧ slots ≤ S) {w : ck_W} {a3 a4 : Int} (h : ((w 0 0) ≤ a4 → cq_At (cn_X X ad (cz12 A R)) (cu_M X (d + 3) C S ws0 K (cn_X X ad (cz12 A R)) cells slots) mX12_init 289 [some (.inr (.inr 0)), none, none, none, some (.inl 0)] [] (ck_up (ck_up (ck_up (ck_up w 0 2 a3) 1 7 5) 1 8 3) 1 9 1)) ∧ (¬ (w 0 0) ≤ a4 → ck_i (a3 * 3) ∧ (ck_i (a4 + 1) ∧ (cq_At (cn_X X ad (cz12 A R)) (cu_M X (d + 3) C S ws0 K (cn_X X ad (cz12 A R)) cells slots) mX12_init 238 [some (.inr (.inr 0)), none, none, some (.inl (a3 * 3)), some (.inl (a4 + 1))] [] w)))) : cq_At (cn_X X ad (cz12 A R)) (cu_M X (d + 3) C S ws0 K (cn_X X ad (cz12 A R)) cells slots) mX12_init 238 [some (.inr (.inr 0)), none, none, some (.inl a3), some (.inl a4)] [] w :=
  cq_in (fun hl => (cq_iload 240 rfl dX12_init_238 rfl (cq_aload_n 241 rfl 0 dX12_init_240 rfl rfl (cq_geti 244 rfl 0 dX12_init_241 fl_X12_80 sb_0 rfl rfl _ rfl (fun (q1 : ck_i (w 0 0)) => (cq_icmp_ge 247 rfl 257 dX12_init_244 rfl hl.2.2.1 q1 (fun c4 => (cq_aload_n 258 rfl 0 dX12_init_257 rfl rfl (cq_iload_n 259 rfl 3 dX12_init_258 rfl rfl (cu_putiF 262 rfl 2 dX12_init_259 fq_X12_86 sb_0 rfl rfl hl.2.1 (cq_aload_n 263 rfl 0 dX12_init_262 rfl rfl (cq_getr 266 rfl dX12_init_263 fl_X12_7 sb_0 rfl (cq_bipush 268 rfl dX12_init_266 rfl (cq_iconst 269 rfl dX12_init_268 rfl (cq_iast 270 rfl dX12_init_269 sb_1 (sbn_1 hC) (by decide) (show ck_i 5 by decide) (cq_aload_n 271 rfl 0 dX12_init_270 rfl rfl (cq_getr 274 rfl dX12_init_271 fl_X12_7 sb_0 rfl (cq_bipush 276 rfl dX12_init_274 rfl (cq_iconst 277 rfl dX12_init_276 rfl (cq_iast 278 rfl dX12_init_277 sb_1 (sbn_1 hC) (by decide) (show ck_i 3 by decide) (cq_aload_n 279 rfl 0 dX12_init_278 rfl rfl (cq_getr 282 rfl dX12_init_279 fl_X12_7 sb_0 rfl (cq_bipush 284 rfl dX12_init_282 rfl (cq_iconst 285 rfl dX12_init_284 rfl (cq_iast 286 rfl dX12_init_285 sb_1 (sbn_1 hC) (by decide) (show ck_i 1 by decide) (cq_iconst 287 rfl dX12_init_286 rfl (cq_istore 289 rfl [some (.inr (.inr 0)), none, none, some (.inl a3), some (.inl 0)] dX12_init_287 (Nat.le_of_ble_eq_true rfl) rfl rfl (show ck_i 0 by decide) (cq_drop [some (.inr (.inr 0)), none, none, none, some (.inl 0)] (And.intro rfl (And.intro rfl True.intro)) (h.1 c4))))))))))))))))))))))) (fun c5 => (cq_iload_n 248 rfl 3 dX12_init_247 rfl rfl (cq_iconst 249 rfl dX12_init_248 rfl (cq_imul 250 rfl dX12_init_249 (have h7 := (h.2 c5); have o2 := h7.1; have h6 := h7.2; (cq_istore_n 251 rfl 3 [some (.inr (.inr 0)), none, none, some (.inl (a3 * 3)), some (.inl a4)] dX12_init_250 rfl (Nat.le_of_ble_eq_true rfl) rfl rfl o2 (have h9 := h6; have o3 := h9.1; have h8 := h9.2; (cq_iinc 254 rfl [some (.inr (.inr 0)), none, none, some (.inl (a3 * 3)), some (.inl (a4 + 1))] dX12_init_251 rfl (Nat.le_of_ble_eq_true rfl) rfl rfl o3 (cq_goto 238 dX12_init_254 rfl h8)))))))))))))))
set_option maxRecDepth 8000 in
theorem t_X12_init_289 {X : ch_X} {ad : Nat → Nat} {A R : Nat} (hC : cz12_C X ad A R) {d C S : Nat} {ws0 : va_W} {K : va_W → Prop} {cells slots : Nat} (hcs : cells ≤ C ∧ slots ≤ S) {w : ck_W} {a4 : Int} (h : (6 ≤ a4 → ck_CN (cn_X X ad (cz12 A R)) (d + 2) mX12_copy [.inr (.inr 1), .inr (.inr 2)] w (fun w1 => (ck_ok (cz12 A R) w1 → K (ch_ws (cn_X X ad (cz12 A R)) (ck_w w1))))) ∧ (¬ 6 ≤ a4 → (0 ≤ (10 + a4) ∧ (10 + a4) < 1430) ∧ (ck_i (a4 + 1) ∧ (cq_At (cn_X X ad (cz12 A R)) (cu_M X (d + 3) C S ws0 K (cn_X X ad (cz12 A R)) cells slots) mX12_init 289 [some (.inr (.inr 0)), none, none, none, some (.inl (a4 + 1))] [] (ck_up w 1 (10 + a4) 2))))) : cq_At (cn_X X ad (cz12 A R)) (cu_M X (d + 3) C S ws0 K (cn_X X ad (cz12 A R)) cells slots) mX12_init 289 [some (.inr (.inr 0)), none, none, none, some (.inl a4)] [] w :=
  cq_in (fun hl => (cq_iload 291 rfl dX12_init_289 rfl (cq_bipush 293 rfl dX12_init_291 rfl (cq_icmp_ge 296 rfl 313 dX12_init_293 rfl hl.2.1 (show ck_i 6 by decide) (fun c5 => (cq_aload_n 314 rfl 0 dX12_init_313 rfl rfl (cq_getr 317 rfl dX12_init_314 fl_X12_7 sb_0 rfl (cq_aload_n 318 rfl 0 dX12_init_317 rfl rfl (cq_getr 321 rfl dX12_init_318 fl_X12_13 sb_0 rfl (cu_callS hcs 324 rfl [.inr (.inr 1), .inr (.inr 2)] [] dX12_init_321 cs_X12_89 rfl rfl (Nat.le_of_ble_eq_true rfl) (And.intro True.intro (And.intro True.intro True.intro)) (ck_mN (h.1 c5) (fun w1 h2 => (cu_ret hcs dX12_init_324 rfl h2))))))))) (fun c6 => (cq_aload_n 297 rfl 0 dX12_init_296 rfl rfl (cq_getr 300 rfl dX12_init_297 fl_X12_7 sb_0 rfl (cq_bipush 302 rfl dX12_init_300 rfl (cq_iload 304 rfl dX12_init_302 rfl (cq_iadd 305 rfl dX12_init_304 (cq_iconst 306 rfl dX12_init_305 rfl (have h8 := (h.2 c6); have o3 := h8.1; have h7 := h8.2; (cq_iast 307 rfl dX12_init_306 sb_1 (sbn_1 hC) o3 (show ck_i 2 by decide) (have h10 := h7; have o4 := h10.1; have h9 := h10.2; (cq_iinc 310 rfl [some (.inr (.inr 0)), none, none, none, some (.inl (a4 + 1))] dX12_init_307 rfl (Nat.le_of_ble_eq_true rfl) rfl rfl o4 (cq_goto 289 dX12_init_310 rfl h9))))))))))))))))
