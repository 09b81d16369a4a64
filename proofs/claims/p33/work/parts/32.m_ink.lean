/-! ===== the reference: readers at a place ===== -/
theorem dX12_clip_0 : decode cX12_clip 0 = .ok (.lload_n 0, 1) := dk_30 (by decide +kernel)
theorem dX12_clip_1 : decode cX12_clip 1 = .ok (.ldc2_w 301, 3) := dk_20 1 45 (by decide +kernel)
theorem dX12_clip_4 : decode cX12_clip 4 = .ok (.lcmp, 1) := dk_148 (by decide +kernel)
theorem dX12_clip_5 : decode cX12_clip 5 = .ok (.ifCond .le 9, 3) := dk_158 0 9 (by decide +kernel)
theorem dX12_clip_8 : decode cX12_clip 8 = .ok (.ldc2_w 301, 3) := dk_20 1 45 (by decide +kernel)
theorem dX12_clip_11 : decode cX12_clip 11 = .ok (.goto 18, 3) := dk_167 0 18 (by decide +kernel)
theorem dX12_clip_14 : decode cX12_clip 14 = .ok (.lload_n 0, 1) := dk_30 (by decide +kernel)
theorem dX12_clip_15 : decode cX12_clip 15 = .ok (.ldc2_w 303, 3) := dk_20 1 47 (by decide +kernel)
theorem dX12_clip_18 : decode cX12_clip 18 = .ok (.lcmp, 1) := dk_148 (by decide +kernel)
theorem dX12_clip_19 : decode cX12_clip 19 = .ok (.ifCond .ge 9, 3) := dk_156 0 9 (by decide +kernel)
theorem dX12_clip_22 : decode cX12_clip 22 = .ok (.ldc2_w 303, 3) := dk_20 1 47 (by decide +kernel)
theorem dX12_clip_25 : decode cX12_clip 25 = .ok (.goto 4, 3) := dk_167 0 4 (by decide +kernel)
theorem dX12_clip_28 : decode cX12_clip 28 = .ok (.lload_n 0, 1) := dk_30 (by decide +kernel)
theorem dX12_clip_29 : decode cX12_clip 29 = .ok (.lreturn, 1) := dk_173 (by decide +kernel)
set_option maxRecDepth 8000 in
theorem e_X12_clip {g : ch_G} {A R : Nat} (hC : ck_Cx g A R) {d : Nat} {K : Option ck_V → ck_W → Prop} {w : ck_W} {a0 : Int} (h : (a0 ≤ 1000000 → ((-1000000) ≤ a0 → K (some (.inr (.inl a0))) w) ∧ (¬ (-1000000) ≤ a0 → K (some (.inr (.inl (-1000000)))) w)) ∧ (¬ a0 ≤ 1000000 → K (some (.inr (.inl 1000000))) w)) : ck_Ex (ch_C g A R) d mX12_clip [.inr (.inl a0)] w K :=
  ck_entry hC.1 [some (.inr (.inl a0)), none] (by decide) (Nat.le_of_ble_eq_true rfl) rfl (fun q => q) (ck_in (fun hl => (ck_lload_n 1 rfl 0 dX12_clip_0 rfl rfl (ck_ldc2 4 rfl 1000000 kl_X12_301 dX12_clip_1 rfl (ck_lcmp 5 rfl dX12_clip_4 hl.1 (show ck_l 1000000 by decide) (ck_if_le 8 rfl 14 dX12_clip_5 rfl ck_cmp_i (fun q => have c3 : a0 ≤ 1000000 := (ck_cmp_le.mp q); (ck_lload_n 15 rfl 0 dX12_clip_14 rfl rfl (ck_ldc2 18 rfl (-1000000) kl_X12_303 dX12_clip_15 rfl (ck_lcmp 19 rfl dX12_clip_18 hl.1 (show ck_l (-1000000) by decide) (have h5 := (h.1 c3); (ck_if_ge 22 rfl 28 dX12_clip_19 rfl ck_cmp_i (fun q => have c1 : (-1000000) ≤ a0 := (ck_cmp_ge.mp q); (ck_lload_n 29 rfl 0 dX12_clip_28 rfl rfl (ck_lret dX12_clip_29 rfl hl.1 (h5.1 c1)))) (fun q => have c2 : ¬ (-1000000) ≤ a0 := (fun r => q (ck_cmp_ge.mpr r)); (ck_ldc2 25 rfl (-1000000) kl_X12_303 dX12_clip_22 rfl (ck_goto 29 dX12_clip_25 rfl (ck_lret dX12_clip_29 rfl (show ck_l (-1000000) by decide) (h5.2 c2))))))))))) (fun q => have c4 : ¬ a0 ≤ 1000000 := (fun r => q (ck_cmp_le.mpr r)); (ck_ldc2 11 rfl 1000000 kl_X12_301 dX12_clip_8 rfl (ck_goto 29 dX12_clip_11 rfl (ck_lret dX12_clip_29 rfl (show ck_l 1000000 by decide) (h.2 c4)))))))))))
theorem p_X12_clip {g : ch_G} {A R : Nat} (hC : ck_Cx g A R) {d : Nat} {K : Option ck_V → ck_W → Prop} {w : ck_W} {a0 : Int} (h : K (some (.inr (.inl (max (-1000000) (min 1000000 a0))))) w) : ck_Ex (ch_C g A R) d mX12_clip [.inr (.inl a0)] w K := by
  refine e_X12_clip hC ?_
  repeat' (first | apply And.intro | intro _)
  all_goals first | omega | (exact cast (congrArg (fun t => K (some (.inr (.inl t))) w) (by omega)) h) | (simp only [] at *; omega) | assumption
def rm_two (o x y : Int) : Int := if o = 3 then max (-1000000) (min 1000000 (x + y)) else if o = 4 then max (-1000000) (min 1000000 (x - y)) else if o = 5 then max (-1000000) (min 1000000 (x * y)) else if y = 0 then 0 else max (-1000000) (min 1000000 (x.tdiv y))
theorem rm_two_b (o x y : Int) : -1000000 ≤ rm_two o x y ∧ rm_two o x y ≤ 1000000 := by
  unfold rm_two
  split
  · omega
  · split
    · omega
    · split
      · omega
      · split <;> omega
theorem ck_prod {x y b : Int} (hx : -b ≤ x ∧ x ≤ b) (hy : -b ≤ y ∧ y ≤ b) : -(b * b) ≤ x * y ∧ x * y ≤ b * b := by
  have h1 : 0 ≤ (b - x) * (b + y) := Int.mul_nonneg (by omega) (by omega)
  have h2 : 0 ≤ (b + x) * (b - y) := Int.mul_nonneg (by omega) (by omega)
  have h3 : 0 ≤ (b - x) * (b - y) := Int.mul_nonneg (by omega) (by omega)
  have h4 : 0 ≤ (b + x) * (b + y) := Int.mul_nonneg (by omega) (by omega)
  simp only [Int.sub_mul, Int.add_mul, Int.mul_sub, Int.mul_add, Int.mul_comm y x, Int.mul_comm b x, Int.mul_comm b y] at h1 h2 h3 h4
  have e1 : b * x = x * b := Int.mul_comm _ _
  have e2 : b * y = y * b := Int.mul_comm _ _
  constructor <;> omega
theorem ck_tdb {x y b : Int} (hx : -b ≤ x ∧ x ≤ b) : -b ≤ x.tdiv y ∧ x.tdiv y ≤ b := by
  have h := Int.natAbs_tdiv x y
  have h2 : (x.tdiv y).natAbs ≤ x.natAbs := by rw [h]; exact Nat.div_le_self _ _
  omega
theorem dX12_two_0 : decode cX12_two 0 = .ok (.iload_n 0, 1) := dk_26 (by decide +kernel)
theorem dX12_two_1 : decode cX12_two 1 = .ok (.tableswitch 48 3 5 #[27, 34, 41], 27) := by decide +kernel
theorem dX12_two_28 : decode cX12_two 28 = .ok (.lload_n 1, 1) := dk_31 (by decide +kernel)
theorem dX12_two_29 : decode cX12_two 29 = .ok (.lload_n 3, 1) := dk_33 (by decide +kernel)
theorem dX12_two_30 : decode cX12_two 30 = .ok (.ladd, 1) := dk_97 (by decide +kernel)
theorem dX12_two_31 : decode cX12_two 31 = .ok (.invokestatic 305, 3) := dk_184 1 49 (by decide +kernel)
theorem dX12_two_34 : decode cX12_two 34 = .ok (.lreturn, 1) := dk_173 (by decide +kernel)
theorem dX12_two_35 : decode cX12_two 35 = .ok (.lload_n 1, 1) := dk_31 (by decide +kernel)
theorem dX12_two_36 : decode cX12_two 36 = .ok (.lload_n 3, 1) := dk_33 (by decide +kernel)
theorem dX12_two_37 : decode cX12_two 37 = .ok (.lsub, 1) := dk_101 (by decide +kernel)
theorem dX12_two_38 : decode cX12_two 38 = .ok (.invokestatic 305, 3) := dk_184 1 49 (by decide +kernel)
theorem dX12_two_41 : decode cX12_two 41 = .ok (.lreturn, 1) := dk_173 (by decide +kernel)
theorem dX12_two_42 : decode cX12_two 42 = .ok (.lload_n 1, 1) := dk_31 (by decide +kernel)
theorem dX12_two_43 : decode cX12_two 43 = .ok (.lload_n 3, 1) := dk_33 (by decide +kernel)
theorem dX12_two_44 : decode cX12_two 44 = .ok (.lmul, 1) := dk_105 (by decide +kernel)
theorem dX12_two_45 : decode cX12_two 45 = .ok (.invokestatic 305, 3) := dk_184 1 49 (by decide +kernel)
theorem dX12_two_48 : decode cX12_two 48 = .ok (.lreturn, 1) := dk_173 (by decide +kernel)
theorem dX12_two_49 : decode cX12_two 49 = .ok (.lload_n 3, 1) := dk_33 (by decide +kernel)
theorem dX12_two_50 : decode cX12_two 50 = .ok (.lconst 0, 1) := dk_9 (by decide +kernel)
theorem dX12_two_51 : decode cX12_two 51 = .ok (.lcmp, 1) := dk_148 (by decide +kernel)
theorem dX12_two_52 : decode cX12_two 52 = .ok (.ifCond .ne 7, 3) := dk_154 0 7 (by decide +kernel)
theorem dX12_two_55 : decode cX12_two 55 = .ok (.lconst 0, 1) := dk_9 (by decide +kernel)
theorem dX12_two_56 : decode cX12_two 56 = .ok (.goto 9, 3) := dk_167 0 9 (by decide +kernel)
theorem dX12_two_59 : decode cX12_two 59 = .ok (.lload_n 1, 1) := dk_31 (by decide +kernel)
theorem dX12_two_60 : decode cX12_two 60 = .ok (.lload_n 3, 1) := dk_33 (by decide +kernel)
theorem dX12_two_61 : decode cX12_two 61 = .ok (.ldiv, 1) := dk_109 (by decide +kernel)
theorem dX12_two_62 : decode cX12_two 62 = .ok (.invokestatic 305, 3) := dk_184 1 49 (by decide +kernel)
theorem dX12_two_65 : decode cX12_two 65 = .ok (.lreturn, 1) := dk_173 (by decide +kernel)
set_option maxRecDepth 8000 in
theorem sX12_two_1_0 : (#[27, 34, 41] : Array Int)[0]? = some (27) := by decide +kernel
set_option maxRecDepth 8000 in
theorem sX12_two_1_1 : (#[27, 34, 41] : Array Int)[1]? = some (34) := by decide +kernel
set_option maxRecDepth 8000 in
theorem sX12_two_1_2 : (#[27, 34, 41] : Array Int)[2]? = some (41) := by decide +kernel
set_option maxRecDepth 8000 in
theorem oX12_two_1 {a : Int} (c0 : ¬ a = 3 + ((0 : Nat) : Int)) (c1 : ¬ a = 3 + ((1 : Nat) : Int)) (c2 : ¬ a = 3 + ((2 : Nat) : Int)) : a < 3 ∨ 5 < a := by omega
set_option maxRecDepth 8000 in
theorem e_X12_two {g : ch_G} {A R : Nat} (hC : ck_Cx g A R) {d : Nat} {K : Option ck_V → ck_W → Prop} {w : ck_W} {a0 a1 a3 : Int} (h : (a0 = 3 → ck_l (a1 + a3) ∧ (K (some (.inr (.inl (max (-1000000) (min 1000000 (a1 + a3)))))) w)) ∧ (¬ a0 = 3 → (a0 = 4 → ck_l (a1 - a3) ∧ (K (some (.inr (.inl (max (-1000000) (min 1000000 (a1 - a3)))))) w)) ∧ (¬ a0 = 4 → (a0 = 5 → ck_l (a1 * a3) ∧ (K (some (.inr (.inl (max (-1000000) (min 1000000 (a1 * a3)))))) w)) ∧ (¬ a0 = 5 → (¬ a3 = 0 → (¬ a3 = 0) ∧ (ck_l (a1.tdiv a3) ∧ (K (some (.inr (.inl (max (-1000000) (min 1000000 (a1.tdiv a3)))))) w))) ∧ (a3 = 0 → K (some (.inr (.inl 0))) w))))) : ck_Ex (ch_C g A R) (d + 1) mX12_two [.inl a0, .inr (.inl a1), .inr (.inl a3)] w K :=
  ck_entry hC.1 [some (.inl a0), some (.inr (.inl a1)), none, some (.inr (.inl a3)), none] (by decide) (Nat.le_of_ble_eq_true rfl) rfl (fun q => q) (ck_in (fun hl => (ck_iload_n 1 rfl 0 dX12_two_0 rfl rfl (have h15 := h; if c3 : a0 = 3 + ((0 : Nat) : Int) then (ck_tswI 0 (27) 28 dX12_two_1 hl.1 c3 (by decide) sX12_two_1_0 rfl (ck_lload_n 29 rfl 1 dX12_two_28 rfl rfl (ck_lload_n 30 rfl 3 dX12_two_29 rfl rfl (ck_ladd 31 rfl dX12_two_30 (have h17 := (h15.1 c3); have o1 := h17.1; have h16 := h17.2; (ck_callS 34 rfl [.inr (.inl (a1 + a3))] [] dX12_two_31 cs_X12_305 rfl rfl (Nat.le_of_ble_eq_true rfl) (And.intro o1 True.intro) (p_X12_clip hC (fun q2 => (ck_lret dX12_two_34 rfl q2.1 h16))))))))) else (have h18 := (h15.2 c3); if c6 : a0 = 3 + ((1 : Nat) : Int) then (ck_tswI 1 (34) 35 dX12_two_1 hl.1 c6 (by decide) sX12_two_1_1 rfl (ck_lload_n 36 rfl 1 dX12_two_35 rfl rfl (ck_lload_n 37 rfl 3 dX12_two_36 rfl rfl (ck_lsub 38 rfl dX12_two_37 (have h20 := (h18.1 c6); have o4 := h20.1; have h19 := h20.2; (ck_callS 41 rfl [.inr (.inl (a1 - a3))] [] dX12_two_38 cs_X12_305 rfl rfl (Nat.le_of_ble_eq_true rfl) (And.intro o4 True.intro) (p_X12_clip hC (fun q5 => (ck_lret dX12_two_41 rfl q5.1 h19))))))))) else (have h21 := (h18.2 c6); if c9 : a0 = 3 + ((2 : Nat) : Int) then (ck_tswI 2 (41) 42 dX12_two_1 hl.1 c9 (by decide) sX12_two_1_2 rfl (ck_lload_n 43 rfl 1 dX12_two_42 rfl rfl (ck_lload_n 44 rfl 3 dX12_two_43 rfl rfl (ck_lmul 45 rfl dX12_two_44 (have h23 := (h21.1 c9); have o7 := h23.1; have h22 := h23.2; (ck_callS 48 rfl [.inr (.inl (a1 * a3))] [] dX12_two_45 cs_X12_305 rfl rfl (Nat.le_of_ble_eq_true rfl) (And.intro o7 True.intro) (p_X12_clip hC (fun q8 => (ck_lret dX12_two_48 rfl q8.1 h22))))))))) else (ck_tswO 49 dX12_two_1 hl.1 (oX12_two_1 c3 c6 c9) rfl (ck_lload_n 50 rfl 3 dX12_two_49 rfl rfl (ck_lconst 51 rfl 0 dX12_two_50 rfl (ck_lcmp 52 rfl dX12_two_51 hl.2.2.1 (show ck_l 0 by decide) (have h24 := (h21.2 c9); (ck_if_ne 55 rfl 59 dX12_two_52 rfl ck_cmp_i (fun q => have c13 : ¬ a3 = 0 := (fun r => q (ck_cmp_eq.mpr r)); (ck_lload_n 60 rfl 1 dX12_two_59 rfl rfl (ck_lload_n 61 rfl 3 dX12_two_60 rfl rfl (have h26 := (h24.1 c13); have o10 := h26.1; have h25 := h26.2; (ck_ldiv 62 rfl dX12_two_61 hl.2.1 hl.2.2.1 o10 (have h28 := h25; have o11 := h28.1; have h27 := h28.2; (ck_callS 65 rfl [.inr (.inl (a1.tdiv a3))] [] dX12_two_62 cs_X12_305 rfl rfl (Nat.le_of_ble_eq_true rfl) (And.intro o11 True.intro) (p_X12_clip hC (fun q12 => (ck_lret dX12_two_65 rfl q12.1 h27)))))))))) (fun q => have c14 : a3 = 0 := (ck_cmp_eq.mp q); (ck_lconst 56 rfl 0 dX12_two_55 rfl (ck_goto 65 dX12_two_56 rfl (ck_lret dX12_two_65 rfl (show ck_l 0 by decide) (h24.2 c14)))))))))))))))))
theorem p_X12_two {g : ch_G} {A R : Nat} (hC : ck_Cx g A R) {d : Nat} {K : Option ck_V → ck_W → Prop} {w : ck_W} {a0 a1 a3 : Int} (o0 : -1000000 ≤ a1 ∧ a1 ≤ 1000000) (o1 : -1000000 ≤ a3 ∧ a3 ≤ 1000000) (h : K (some (.inr (.inl (rm_two a0 a1 a3)))) w) : ck_Ex (ch_C g A R) (d + 1) mX12_two [.inl a0, .inr (.inl a1), .inr (.inl a3)] w K := by
  have m := ck_prod o0 o1
  have t := ck_tdb (y := a3) o0
  unfold rm_two at h
  refine e_X12_two hC ⟨fun q => ⟨by constructor <;> omega, ?_⟩, fun q => ⟨fun q2 => ⟨by constructor <;> omega, ?_⟩, fun q2 => ⟨fun q3 => ⟨by constructor <;> omega, ?_⟩, fun q3 => ⟨fun q4 => ⟨q4, by constructor <;> omega, ?_⟩, fun q4 => ?_⟩⟩⟩⟩
  · rw [if_pos q] at h; exact h
  · rw [if_neg q, if_pos q2] at h; exact h
  · rw [if_neg q, if_neg q2, if_pos q3] at h; exact h
  · rw [if_neg q, if_neg q2, if_neg q3, if_neg q4] at h; exact h
  · rw [if_neg q, if_neg q2, if_neg q3, if_pos q4] at h; exact h
def rm_ask (o x y : Int) : Prop := (o = 10 ∧ x < y) ∨ (o = 11 ∧ x ≤ y) ∨ (o = 12 ∧ y < x) ∨ (o = 13 ∧ y ≤ x) ∨ (o = 14 ∧ x = y) ∨ (¬ o = 10 ∧ ¬ o = 11 ∧ ¬ o = 12 ∧ ¬ o = 13 ∧ ¬ o = 14 ∧ ¬ x = y)
theorem dX12_isAsked_0 : decode cX12_isAsked 0 = .ok (.iload_n 0, 1) := dk_26 (by decide +kernel)
theorem dX12_isAsked_1 : decode cX12_isAsked 1 = .ok (.bipush 10, 2) := dk_16 10 (by decide +kernel)
theorem dX12_isAsked_3 : decode cX12_isAsked 3 = .ok (.if_icmp .ne 17, 3) := dk_160 0 17 (by decide +kernel)
theorem dX12_isAsked_6 : decode cX12_isAsked 6 = .ok (.lload_n 1, 1) := dk_31 (by decide +kernel)
theorem dX12_isAsked_7 : decode cX12_isAsked 7 = .ok (.lload_n 3, 1) := dk_33 (by decide +kernel)
theorem dX12_isAsked_8 : decode cX12_isAsked 8 = .ok (.lcmp, 1) := dk_148 (by decide +kernel)
theorem dX12_isAsked_9 : decode cX12_isAsked 9 = .ok (.ifCond .ge 7, 3) := dk_156 0 7 (by decide +kernel)
theorem dX12_isAsked_12 : decode cX12_isAsked 12 = .ok (.iconst 1, 1) := dk_4 (by decide +kernel)
theorem dX12_isAsked_13 : decode cX12_isAsked 13 = .ok (.goto 98, 3) := dk_167 0 98 (by decide +kernel)
theorem dX12_isAsked_16 : decode cX12_isAsked 16 = .ok (.iconst 0, 1) := dk_3 (by decide +kernel)
theorem dX12_isAsked_17 : decode cX12_isAsked 17 = .ok (.goto 94, 3) := dk_167 0 94 (by decide +kernel)
theorem dX12_isAsked_20 : decode cX12_isAsked 20 = .ok (.iload_n 0, 1) := dk_26 (by decide +kernel)
theorem dX12_isAsked_21 : decode cX12_isAsked 21 = .ok (.bipush 11, 2) := dk_16 11 (by decide +kernel)
theorem dX12_isAsked_23 : decode cX12_isAsked 23 = .ok (.if_icmp .ne 17, 3) := dk_160 0 17 (by decide +kernel)
theorem dX12_isAsked_26 : decode cX12_isAsked 26 = .ok (.lload_n 1, 1) := dk_31 (by decide +kernel)
theorem dX12_isAsked_27 : decode cX12_isAsked 27 = .ok (.lload_n 3, 1) := dk_33 (by decide +kernel)
theorem dX12_isAsked_28 : decode cX12_isAsked 28 = .ok (.lcmp, 1) := dk_148 (by decide +kernel)
theorem dX12_isAsked_29 : decode cX12_isAsked 29 = .ok (.ifCond .gt 7, 3) := dk_157 0 7 (by decide +kernel)
theorem dX12_isAsked_32 : decode cX12_isAsked 32 = .ok (.iconst 1, 1) := dk_4 (by decide +kernel)
theorem dX12_isAsked_33 : decode cX12_isAsked 33 = .ok (.goto 78, 3) := dk_167 0 78 (by decide +kernel)
theorem dX12_isAsked_36 : decode cX12_isAsked 36 = .ok (.iconst 0, 1) := dk_3 (by decide +kernel)
theorem dX12_isAsked_37 : decode cX12_isAsked 37 = .ok (.goto 74, 3) := dk_167 0 74 (by decide +kernel)
theorem dX12_isAsked_40 : decode cX12_isAsked 40 = .ok (.iload_n 0, 1) := dk_26 (by decide +kernel)
theorem dX12_isAsked_41 : decode cX12_isAsked 41 = .ok (.bipush 12, 2) := dk_16 12 (by decide +kernel)
theorem dX12_isAsked_43 : decode cX12_isAsked 43 = .ok (.if_icmp .ne 17, 3) := dk_160 0 17 (by decide +kernel)
theorem dX12_isAsked_46 : decode cX12_isAsked 46 = .ok (.lload_n 1, 1) := dk_31 (by decide +kernel)
theorem dX12_isAsked_47 : decode cX12_isAsked 47 = .ok (.lload_n 3, 1) := dk_33 (by decide +kernel)
theorem dX12_isAsked_48 : decode cX12_isAsked 48 = .ok (.lcmp, 1) := dk_148 (by decide +kernel)
theorem dX12_isAsked_49 : decode cX12_isAsked 49 = .ok (.ifCond .le 7, 3) := dk_158 0 7 (by decide +kernel)
theorem dX12_isAsked_52 : decode cX12_isAsked 52 = .ok (.iconst 1, 1) := dk_4 (by decide +kernel)
theorem dX12_isAsked_53 : decode cX12_isAsked 53 = .ok (.goto 58, 3) := dk_167 0 58 (by decide +kernel)
theorem dX12_isAsked_56 : decode cX12_isAsked 56 = .ok (.iconst 0, 1) := dk_3 (by decide +kernel)
theorem dX12_isAsked_57 : decode cX12_isAsked 57 = .ok (.goto 54, 3) := dk_167 0 54 (by decide +kernel)
theorem dX12_isAsked_60 : decode cX12_isAsked 60 = .ok (.iload_n 0, 1) := dk_26 (by decide +kernel)
theorem dX12_isAsked_61 : decode cX12_isAsked 61 = .ok (.bipush 13, 2) := dk_16 13 (by decide +kernel)
theorem dX12_isAsked_63 : decode cX12_isAsked 63 = .ok (.if_icmp .ne 17, 3) := dk_160 0 17 (by decide +kernel)
theorem dX12_isAsked_66 : decode cX12_isAsked 66 = .ok (.lload_n 1, 1) := dk_31 (by decide +kernel)
theorem dX12_isAsked_67 : decode cX12_isAsked 67 = .ok (.lload_n 3, 1) := dk_33 (by decide +kernel)
theorem dX12_isAsked_68 : decode cX12_isAsked 68 = .ok (.lcmp, 1) := dk_148 (by decide +kernel)
theorem dX12_isAsked_69 : decode cX12_isAsked 69 = .ok (.ifCond .lt 7, 3) := dk_155 0 7 (by decide +kernel)
theorem dX12_isAsked_72 : decode cX12_isAsked 72 = .ok (.iconst 1, 1) := dk_4 (by decide +kernel)
theorem dX12_isAsked_73 : decode cX12_isAsked 73 = .ok (.goto 38, 3) := dk_167 0 38 (by decide +kernel)
theorem dX12_isAsked_76 : decode cX12_isAsked 76 = .ok (.iconst 0, 1) := dk_3 (by decide +kernel)
theorem dX12_isAsked_77 : decode cX12_isAsked 77 = .ok (.goto 34, 3) := dk_167 0 34 (by decide +kernel)
theorem dX12_isAsked_80 : decode cX12_isAsked 80 = .ok (.iload_n 0, 1) := dk_26 (by decide +kernel)
theorem dX12_isAsked_81 : decode cX12_isAsked 81 = .ok (.bipush 14, 2) := dk_16 14 (by decide +kernel)
theorem dX12_isAsked_83 : decode cX12_isAsked 83 = .ok (.if_icmp .ne 17, 3) := dk_160 0 17 (by decide +kernel)
theorem dX12_isAsked_86 : decode cX12_isAsked 86 = .ok (.lload_n 1, 1) := dk_31 (by decide +kernel)
theorem dX12_isAsked_87 : decode cX12_isAsked 87 = .ok (.lload_n 3, 1) := dk_33 (by decide +kernel)
theorem dX12_isAsked_88 : decode cX12_isAsked 88 = .ok (.lcmp, 1) := dk_148 (by decide +kernel)
theorem dX12_isAsked_89 : decode cX12_isAsked 89 = .ok (.ifCond .ne 7, 3) := dk_154 0 7 (by decide +kernel)
theorem dX12_isAsked_92 : decode cX12_isAsked 92 = .ok (.iconst 1, 1) := dk_4 (by decide +kernel)
theorem dX12_isAsked_93 : decode cX12_isAsked 93 = .ok (.goto 18, 3) := dk_167 0 18 (by decide +kernel)
theorem dX12_isAsked_96 : decode cX12_isAsked 96 = .ok (.iconst 0, 1) := dk_3 (by decide +kernel)
theorem dX12_isAsked_97 : decode cX12_isAsked 97 = .ok (.goto 14, 3) := dk_167 0 14 (by decide +kernel)
theorem dX12_isAsked_100 : decode cX12_isAsked 100 = .ok (.lload_n 1, 1) := dk_31 (by decide +kernel)
theorem dX12_isAsked_101 : decode cX12_isAsked 101 = .ok (.lload_n 3, 1) := dk_33 (by decide +kernel)
theorem dX12_isAsked_102 : decode cX12_isAsked 102 = .ok (.lcmp, 1) := dk_148 (by decide +kernel)
theorem dX12_isAsked_103 : decode cX12_isAsked 103 = .ok (.ifCond .eq 7, 3) := dk_153 0 7 (by decide +kernel)
theorem dX12_isAsked_106 : decode cX12_isAsked 106 = .ok (.iconst 1, 1) := dk_4 (by decide +kernel)
theorem dX12_isAsked_107 : decode cX12_isAsked 107 = .ok (.goto 4, 3) := dk_167 0 4 (by decide +kernel)
theorem dX12_isAsked_110 : decode cX12_isAsked 110 = .ok (.iconst 0, 1) := dk_3 (by decide +kernel)
theorem dX12_isAsked_111 : decode cX12_isAsked 111 = .ok (.ireturn, 1) := dk_172 (by decide +kernel)
set_option maxRecDepth 8000 in
theorem e_X12_isAsked {g : ch_G} {A R : Nat} (hC : ck_Cx g A R) {d : Nat} {K : Option ck_V → ck_W → Prop} {w : ck_W} {a0 a1 a3 : Int} (h : (¬ a0 = 10 → (¬ a0 = 11 → (¬ a0 = 12 → (¬ a0 = 13 → (¬ a0 = 14 → (a1 = a3 → K (some (.inl 0)) w) ∧ (¬ a1 = a3 → K (some (.inl 1)) w)) ∧ (a0 = 14 → (¬ a1 = a3 → K (some (.inl 0)) w) ∧ (a1 = a3 → K (some (.inl 1)) w))) ∧ (a0 = 13 → (a1 < a3 → K (some (.inl 0)) w) ∧ (¬ a1 < a3 → K (some (.inl 1)) w))) ∧ (a0 = 12 → (a1 ≤ a3 → K (some (.inl 0)) w) ∧ (¬ a1 ≤ a3 → K (some (.inl 1)) w))) ∧ (a0 = 11 → (a3 < a1 → K (some (.inl 0)) w) ∧ (¬ a3 < a1 → K (some (.inl 1)) w))) ∧ (a0 = 10 → (a3 ≤ a1 → K (some (.inl 0)) w) ∧ (¬ a3 ≤ a1 → K (some (.inl 1)) w))) : ck_Ex (ch_C g A R) d mX12_isAsked [.inl a0, .inr (.inl a1), .inr (.inl a3)] w K :=
  ck_entry hC.1 [some (.inl a0), some (.inr (.inl a1)), none, some (.inr (.inl a3)), none] (by decide) (Nat.le_of_ble_eq_true rfl) rfl (fun q => q) (ck_in (fun hl => (ck_iload_n 1 rfl 0 dX12_isAsked_0 rfl rfl (ck_bipush 3 rfl dX12_isAsked_1 rfl (ck_icmp_ne 6 rfl 20 dX12_isAsked_3 rfl hl.1 (show ck_i 10 by decide) (fun c21 => (ck_iload_n 21 rfl 0 dX12_isAsked_20 rfl rfl (ck_bipush 23 rfl dX12_isAsked_21 rfl (have h23 := (h.1 c21); (ck_icmp_ne 26 rfl 40 dX12_isAsked_23 rfl hl.1 (show ck_i 11 by decide) (fun c17 => (ck_iload_n 41 rfl 0 dX12_isAsked_40 rfl rfl (ck_bipush 43 rfl dX12_isAsked_41 rfl (have h24 := (h23.1 c17); (ck_icmp_ne 46 rfl 60 dX12_isAsked_43 rfl hl.1 (show ck_i 12 by decide) (fun c13 => (ck_iload_n 61 rfl 0 dX12_isAsked_60 rfl rfl (ck_bipush 63 rfl dX12_isAsked_61 rfl (have h25 := (h24.1 c13); (ck_icmp_ne 66 rfl 80 dX12_isAsked_63 rfl hl.1 (show ck_i 13 by decide) (fun c9 => (ck_iload_n 81 rfl 0 dX12_isAsked_80 rfl rfl (ck_bipush 83 rfl dX12_isAsked_81 rfl (have h26 := (h25.1 c9); (ck_icmp_ne 86 rfl 100 dX12_isAsked_83 rfl hl.1 (show ck_i 14 by decide) (fun c5 => (ck_lload_n 101 rfl 1 dX12_isAsked_100 rfl rfl (ck_lload_n 102 rfl 3 dX12_isAsked_101 rfl rfl (ck_lcmp 103 rfl dX12_isAsked_102 hl.2.1 hl.2.2.1 (have h27 := (h26.1 c5); (ck_if_eq 106 rfl 110 dX12_isAsked_103 rfl ck_cmp_i (fun q => have c1 : a1 = a3 := (ck_cmp_eq.mp q); (ck_iconst 111 rfl dX12_isAsked_110 rfl (ck_zret dX12_isAsked_111 rfl (by decide) (h27.1 c1)))) (fun q => have c2 : ¬ a1 = a3 := (fun r => q (ck_cmp_eq.mpr r)); (ck_iconst 107 rfl dX12_isAsked_106 rfl (ck_goto 111 dX12_isAsked_107 rfl (ck_zret dX12_isAsked_111 rfl (by decide) (h27.2 c2))))))))))) (fun c6 => (ck_lload_n 87 rfl 1 dX12_isAsked_86 rfl rfl (ck_lload_n 88 rfl 3 dX12_isAsked_87 rfl rfl (ck_lcmp 89 rfl dX12_isAsked_88 hl.2.1 hl.2.2.1 (have h28 := (h26.2 c6); (ck_if_ne 92 rfl 96 dX12_isAsked_89 rfl ck_cmp_i (fun q => have c3 : ¬ a1 = a3 := (fun r => q (ck_cmp_eq.mpr r)); (ck_iconst 97 rfl dX12_isAsked_96 rfl (ck_goto 111 dX12_isAsked_97 rfl (ck_zret dX12_isAsked_111 rfl (by decide) (h28.1 c3))))) (fun q => have c4 : a1 = a3 := (ck_cmp_eq.mp q); (ck_iconst 93 rfl dX12_isAsked_92 rfl (ck_goto 111 dX12_isAsked_93 rfl (ck_zret dX12_isAsked_111 rfl (by decide) (h28.2 c4)))))))))))))))) (fun c10 => (ck_lload_n 67 rfl 1 dX12_isAsked_66 rfl rfl (ck_lload_n 68 rfl 3 dX12_isAsked_67 rfl rfl (ck_lcmp 69 rfl dX12_isAsked_68 hl.2.1 hl.2.2.1 (have h29 := (h25.2 c10); (ck_if_lt 72 rfl 76 dX12_isAsked_69 rfl ck_cmp_i (fun q => have c7 : a1 < a3 := (ck_cmp_lt.mp q); (ck_iconst 77 rfl dX12_isAsked_76 rfl (ck_goto 111 dX12_isAsked_77 rfl (ck_zret dX12_isAsked_111 rfl (by decide) (h29.1 c7))))) (fun q => have c8 : ¬ a1 < a3 := (fun r => q (ck_cmp_lt.mpr r)); (ck_iconst 73 rfl dX12_isAsked_72 rfl (ck_goto 111 dX12_isAsked_73 rfl (ck_zret dX12_isAsked_111 rfl (by decide) (h29.2 c8)))))))))))))))) (fun c14 => (ck_lload_n 47 rfl 1 dX12_isAsked_46 rfl rfl (ck_lload_n 48 rfl 3 dX12_isAsked_47 rfl rfl (ck_lcmp 49 rfl dX12_isAsked_48 hl.2.1 hl.2.2.1 (have h30 := (h24.2 c14); (ck_if_le 52 rfl 56 dX12_isAsked_49 rfl ck_cmp_i (fun q => have c11 : a1 ≤ a3 := (ck_cmp_le.mp q); (ck_iconst 57 rfl dX12_isAsked_56 rfl (ck_goto 111 dX12_isAsked_57 rfl (ck_zret dX12_isAsked_111 rfl (by decide) (h30.1 c11))))) (fun q => have c12 : ¬ a1 ≤ a3 := (fun r => q (ck_cmp_le.mpr r)); (ck_iconst 53 rfl dX12_isAsked_52 rfl (ck_goto 111 dX12_isAsked_53 rfl (ck_zret dX12_isAsked_111 rfl (by decide) (h30.2 c12)))))))))))))))) (fun c18 => (ck_lload_n 27 rfl 1 dX12_isAsked_26 rfl rfl (ck_lload_n 28 rfl 3 dX12_isAsked_27 rfl rfl (ck_lcmp 29 rfl dX12_isAsked_28 hl.2.1 hl.2.2.1 (have h31 := (h23.2 c18); (ck_if_gt 32 rfl 36 dX12_isAsked_29 rfl ck_cmp_i (fun q => have c15 : a3 < a1 := (ck_cmp_gt.mp q); (ck_iconst 37 rfl dX12_isAsked_36 rfl (ck_goto 111 dX12_isAsked_37 rfl (ck_zret dX12_isAsked_111 rfl (by decide) (h31.1 c15))))) (fun q => have c16 : ¬ a3 < a1 := (fun r => q (ck_cmp_gt.mpr r)); (ck_iconst 33 rfl dX12_isAsked_32 rfl (ck_goto 111 dX12_isAsked_33 rfl (ck_zret dX12_isAsked_111 rfl (by decide) (h31.2 c16)))))))))))))))) (fun c22 => (ck_lload_n 7 rfl 1 dX12_isAsked_6 rfl rfl (ck_lload_n 8 rfl 3 dX12_isAsked_7 rfl rfl (ck_lcmp 9 rfl dX12_isAsked_8 hl.2.1 hl.2.2.1 (have h32 := (h.2 c22); (ck_if_ge 12 rfl 16 dX12_isAsked_9 rfl ck_cmp_i (fun q => have c19 : a3 ≤ a1 := (ck_cmp_ge.mp q); (ck_iconst 17 rfl dX12_isAsked_16 rfl (ck_goto 111 dX12_isAsked_17 rfl (ck_zret dX12_isAsked_111 rfl (by decide) (h32.1 c19))))) (fun q => have c20 : ¬ a3 ≤ a1 := (fun r => q (ck_cmp_ge.mpr r)); (ck_iconst 13 rfl dX12_isAsked_12 rfl (ck_goto 111 dX12_isAsked_13 rfl (ck_zret dX12_isAsked_111 rfl (by decide) (h32.2 c20))))))))))))))))
theorem p_X12_isAsked {g : ch_G} {A R : Nat} (hC : ck_Cx g A R) {d : Nat} {K : Option ck_V → ck_W → Prop} {w : ck_W} {a0 a1 a3 : Int} (h1 : rm_ask a0 a1 a3 → K (some (.inl 1)) w) (h0 : ¬ rm_ask a0 a1 a3 → K (some (.inl 0)) w) : ck_Ex (ch_C g A R) d mX12_isAsked [.inl a0, .inr (.inl a1), .inr (.inl a3)] w K := by
  unfold rm_ask at h1 h0
  refine e_X12_isAsked hC ?_
  with_reducible repeat' (first | apply And.intro | intro _)
  all_goals first | exact h1 (by omega) | exact h0 (by omega)
/-! what a step does, by its kind -/
theorem tx_pre {t : Int → Int} {c s : Int} : ∀ {q k : Nat} {x : Int × Int}, tx_st t c s q = some x → k ≤ q → ∃ y, tx_st t c s k = some y
  | 0, k, x, h, hk => ⟨x, by rw [show k = 0 by omega]; exact h⟩
  | q + 1, k, x, h, hk => by
    by_cases e : k = q + 1
    · exact ⟨x, by rw [e]; exact h⟩
    · cases hq : tx_st t c s q with
      | none => rw [tx_st, hq] at h; cases h
      | some y => exact tx_pre hq (by omega)
theorem tx_ef {o v : Int} {s s' : Int × Int} (h : tx_eff o v s = some s') : (o = 0 ∧ (0 ≤ v ∧ v ≤ 9999) ∧ s' = (s.1 + 1, s.2)) ∨ (o = 1 ∧ (0 ≤ v ∧ v ≤ 8) ∧ s' = (s.1 + 1, s.2)) ∨ (o = 2 ∧ 1 ≤ s.1 ∧ s' = s) ∨ ((3 ≤ o ∧ o ≤ 6) ∧ 2 ≤ s.1 ∧ s' = (s.1 - 1, s.2)) ∨ ((10 ≤ o ∧ o ≤ 15) ∧ 2 ≤ s.1 ∧ s' = (s.1 - 2, s.2 + 1)) ∨ (o = 20 ∧ 1 ≤ s.2 ∧ s' = s) ∨ ((o = 21 ∨ o = 22) ∧ 2 ≤ s.2 ∧ s' = (s.1, s.2 - 1)) := by
  unfold tx_eff at h
  by_cases h0 : o = 0
  · rw [if_pos h0] at h
    by_cases g : 0 ≤ v ∧ v ≤ 9999
    · rw [if_pos g] at h; cases h; exact Or.inl ⟨h0, g, rfl⟩
    · rw [if_neg g] at h; cases h
  rw [if_neg h0] at h
  by_cases h1 : o = 1
  · rw [if_pos h1] at h
    by_cases g : 0 ≤ v ∧ v ≤ 8
    · rw [if_pos g] at h; cases h; exact Or.inr (Or.inl ⟨h1, g, rfl⟩)
    · rw [if_neg g] at h; cases h
  rw [if_neg h1] at h
  by_cases h2 : o = 2
  · rw [if_pos h2] at h
    by_cases g : 1 ≤ s.1
    · rw [if_pos g] at h; cases h; exact Or.inr (Or.inr (Or.inl ⟨h2, g, rfl⟩))
    · rw [if_neg g] at h; cases h
  rw [if_neg h2] at h
  by_cases h3 : 3 ≤ o ∧ o ≤ 6
  · rw [if_pos h3] at h
    by_cases g : 2 ≤ s.1
    · rw [if_pos g] at h; cases h; exact Or.inr (Or.inr (Or.inr (Or.inl ⟨h3, g, rfl⟩)))
    · rw [if_neg g] at h; cases h
  rw [if_neg h3] at h
  by_cases h4 : 10 ≤ o ∧ o ≤ 15
  · rw [if_pos h4] at h
    by_cases g : 2 ≤ s.1
    · rw [if_pos g] at h; cases h; exact Or.inr (Or.inr (Or.inr (Or.inr (Or.inl ⟨h4, g, rfl⟩))))
    · rw [if_neg g] at h; cases h
  rw [if_neg h4] at h
  by_cases h5 : o = 20
  · rw [if_pos h5] at h
    by_cases g : 1 ≤ s.2
    · rw [if_pos g] at h; cases h; exact Or.inr (Or.inr (Or.inr (Or.inr (Or.inr (Or.inl ⟨h5, g, rfl⟩)))))
    · rw [if_neg g] at h; cases h
  rw [if_neg h5] at h
  by_cases h6 : o = 21 ∨ o = 22
  · rw [if_pos h6] at h
    by_cases g : 2 ≤ s.2
    · rw [if_pos g] at h; cases h; exact Or.inr (Or.inr (Or.inr (Or.inr (Or.inr (Or.inr ⟨h6, g, rfl⟩)))))
    · rw [if_neg g] at h; cases h
  rw [if_neg h6] at h; cases h
/-- the piles never hold more than the steps so far -/
theorem tx_len {t : Int → Int} {c s : Int} : ∀ {q : Nat} {x : Int × Int}, tx_st t c s q = some x → (0 ≤ x.1 ∧ 0 ≤ x.2) ∧ x.1 ≤ q ∧ x.2 ≤ q
  | 0, x, h => by cases h; exact ⟨⟨by decide, by decide⟩, by decide, by decide⟩
  | q + 1, x, h => by
    cases hq : tx_st t c s q with
    | none => rw [tx_st, hq] at h; cases h
    | some y =>
      have i := tx_len hq
      rw [tx_st, hq] at h
      rcases tx_ef h with ⟨-, -, e⟩ | ⟨-, -, e⟩ | ⟨-, -, e⟩ | ⟨-, g, e⟩ | ⟨-, g, e⟩ | ⟨-, -, e⟩ | ⟨-, g, e⟩ <;> subst e <;> (try dsimp only) <;> omega
theorem dX12_isSo_0 : decode cX12_isSo 0 = .ok (.sipush 800, 3) := dk_17 3 32 (by decide +kernel)
theorem dX12_isSo_3 : decode cX12_isSo 3 = .ok (.iload_n 1, 1) := dk_27 (by decide +kernel)
theorem dX12_isSo_4 : decode cX12_isSo 4 = .ok (.imul, 1) := dk_104 (by decide +kernel)
theorem dX12_isSo_5 : decode cX12_isSo 5 = .ok (.iconst 1, 1) := dk_4 (by decide +kernel)
theorem dX12_isSo_6 : decode cX12_isSo 6 = .ok (.iadd, 1) := dk_96 (by decide +kernel)
theorem dX12_isSo_7 : decode cX12_isSo 7 = .ok (.iconst 3, 1) := dk_6 (by decide +kernel)
theorem dX12_isSo_8 : decode cX12_isSo 8 = .ok (.iload_n 2, 1) := dk_28 (by decide +kernel)
theorem dX12_isSo_9 : decode cX12_isSo 9 = .ok (.imul, 1) := dk_104 (by decide +kernel)
theorem dX12_isSo_10 : decode cX12_isSo 10 = .ok (.iadd, 1) := dk_96 (by decide +kernel)
theorem dX12_isSo_11 : decode cX12_isSo 11 = .ok (.istore_n 3, 1) := dk_62 (by decide +kernel)
theorem dX12_isSo_12 : decode cX12_isSo 12 = .ok (.sipush 800, 3) := dk_17 3 32 (by decide +kernel)
theorem dX12_isSo_15 : decode cX12_isSo 15 = .ok (.iload_n 1, 1) := dk_27 (by decide +kernel)
theorem dX12_isSo_16 : decode cX12_isSo 16 = .ok (.imul, 1) := dk_104 (by decide +kernel)
theorem dX12_isSo_17 : decode cX12_isSo 17 = .ok (.bipush 50, 2) := dk_16 50 (by decide +kernel)
theorem dX12_isSo_19 : decode cX12_isSo 19 = .ok (.iadd, 1) := dk_96 (by decide +kernel)
theorem dX12_isSo_20 : decode cX12_isSo 20 = .ok (.istore 4, 2) := dk_54 (by decide +kernel)
theorem dX12_isSo_22 : decode cX12_isSo 22 = .ok (.iconst 0, 1) := dk_3 (by decide +kernel)
theorem dX12_isSo_23 : decode cX12_isSo 23 = .ok (.istore 5, 2) := dk_54 (by decide +kernel)
theorem dX12_isSo_25 : decode cX12_isSo 25 = .ok (.iconst 0, 1) := dk_3 (by decide +kernel)
theorem dX12_isSo_26 : decode cX12_isSo 26 = .ok (.istore 6, 2) := dk_54 (by decide +kernel)
theorem dX12_isSo_28 : decode cX12_isSo 28 = .ok (.aload_n 0, 1) := dk_42 (by decide +kernel)
theorem dX12_isSo_29 : decode cX12_isSo 29 = .ok (.getfield 16, 3) := dk_180 0 16 (by decide +kernel)
theorem dX12_isSo_32 : decode cX12_isSo 32 = .ok (.iload_n 3, 1) := dk_29 (by decide +kernel)
theorem dX12_isSo_33 : decode cX12_isSo 33 = .ok (.iconst 1, 1) := dk_4 (by decide +kernel)
theorem dX12_isSo_34 : decode cX12_isSo 34 = .ok (.iadd, 1) := dk_96 (by decide +kernel)
theorem dX12_isSo_35 : decode cX12_isSo 35 = .ok (.iaload, 1) := dk_46 (by decide +kernel)
theorem dX12_isSo_36 : decode cX12_isSo 36 = .ok (.istore 7, 2) := dk_54 (by decide +kernel)
theorem dX12_isSo_38 : decode cX12_isSo 38 = .ok (.iload 7, 2) := dk_21 (by decide +kernel)
theorem dX12_isSo_40 : decode cX12_isSo 40 = .ok (.aload_n 0, 1) := dk_42 (by decide +kernel)
theorem dX12_isSo_41 : decode cX12_isSo 41 = .ok (.getfield 16, 3) := dk_180 0 16 (by decide +kernel)
theorem dX12_isSo_44 : decode cX12_isSo 44 = .ok (.iload_n 3, 1) := dk_29 (by decide +kernel)
theorem dX12_isSo_45 : decode cX12_isSo 45 = .ok (.iconst 2, 1) := dk_5 (by decide +kernel)
theorem dX12_isSo_46 : decode cX12_isSo 46 = .ok (.iadd, 1) := dk_96 (by decide +kernel)
theorem dX12_isSo_47 : decode cX12_isSo 47 = .ok (.iaload, 1) := dk_46 (by decide +kernel)
theorem dX12_isSo_48 : decode cX12_isSo 48 = .ok (.if_icmp .ge 304, 3) := dk_162 1 48 (by decide +kernel)
theorem dX12_isSo_51 : decode cX12_isSo 51 = .ok (.aload_n 0, 1) := dk_42 (by decide +kernel)
theorem dX12_isSo_52 : decode cX12_isSo 52 = .ok (.getfield 16, 3) := dk_180 0 16 (by decide +kernel)
theorem dX12_isSo_55 : decode cX12_isSo 55 = .ok (.iload 4, 2) := dk_21 (by decide +kernel)
theorem dX12_isSo_57 : decode cX12_isSo 57 = .ok (.iconst 2, 1) := dk_5 (by decide +kernel)
theorem dX12_isSo_58 : decode cX12_isSo 58 = .ok (.iload 7, 2) := dk_21 (by decide +kernel)
theorem dX12_isSo_60 : decode cX12_isSo 60 = .ok (.imul, 1) := dk_104 (by decide +kernel)
theorem dX12_isSo_61 : decode cX12_isSo 61 = .ok (.iadd, 1) := dk_96 (by decide +kernel)
theorem dX12_isSo_62 : decode cX12_isSo 62 = .ok (.iaload, 1) := dk_46 (by decide +kernel)
theorem dX12_isSo_63 : decode cX12_isSo 63 = .ok (.istore 8, 2) := dk_54 (by decide +kernel)
theorem dX12_isSo_65 : decode cX12_isSo 65 = .ok (.aload_n 0, 1) := dk_42 (by decide +kernel)
theorem dX12_isSo_66 : decode cX12_isSo 66 = .ok (.getfield 16, 3) := dk_180 0 16 (by decide +kernel)
theorem dX12_isSo_69 : decode cX12_isSo 69 = .ok (.iload 4, 2) := dk_21 (by decide +kernel)
theorem dX12_isSo_71 : decode cX12_isSo 71 = .ok (.iconst 2, 1) := dk_5 (by decide +kernel)
theorem dX12_isSo_72 : decode cX12_isSo 72 = .ok (.iload 7, 2) := dk_21 (by decide +kernel)
theorem dX12_isSo_74 : decode cX12_isSo 74 = .ok (.imul, 1) := dk_104 (by decide +kernel)
theorem dX12_isSo_75 : decode cX12_isSo 75 = .ok (.iadd, 1) := dk_96 (by decide +kernel)
theorem dX12_isSo_76 : decode cX12_isSo 76 = .ok (.iconst 1, 1) := dk_4 (by decide +kernel)
theorem dX12_isSo_77 : decode cX12_isSo 77 = .ok (.iadd, 1) := dk_96 (by decide +kernel)
theorem dX12_isSo_78 : decode cX12_isSo 78 = .ok (.iaload, 1) := dk_46 (by decide +kernel)
theorem dX12_isSo_79 : decode cX12_isSo 79 = .ok (.istore 9, 2) := dk_54 (by decide +kernel)
theorem dX12_isSo_81 : decode cX12_isSo 81 = .ok (.iload 8, 2) := dk_21 (by decide +kernel)
theorem dX12_isSo_83 : decode cX12_isSo 83 = .ok (.iconst 1, 1) := dk_4 (by decide +kernel)
theorem dX12_isSo_84 : decode cX12_isSo 84 = .ok (.if_icmp .gt 35, 3) := dk_163 0 35 (by decide +kernel)
theorem dX12_isSo_87 : decode cX12_isSo 87 = .ok (.aload_n 0, 1) := dk_42 (by decide +kernel)
theorem dX12_isSo_88 : decode cX12_isSo 88 = .ok (.getfield 64, 3) := dk_180 0 64 (by decide +kernel)
theorem dX12_isSo_91 : decode cX12_isSo 91 = .ok (.iload 5, 2) := dk_21 (by decide +kernel)
theorem dX12_isSo_93 : decode cX12_isSo 93 = .ok (.iload 8, 2) := dk_21 (by decide +kernel)
theorem dX12_isSo_95 : decode cX12_isSo 95 = .ok (.ifCond .ne 9, 3) := dk_154 0 9 (by decide +kernel)
theorem dX12_isSo_98 : decode cX12_isSo 98 = .ok (.iload 9, 2) := dk_21 (by decide +kernel)
theorem dX12_isSo_100 : decode cX12_isSo 100 = .ok (.i2l, 1) := dk_133 (by decide +kernel)
theorem dX12_isSo_101 : decode cX12_isSo 101 = .ok (.goto 11, 3) := dk_167 0 11 (by decide +kernel)
theorem dX12_isSo_104 : decode cX12_isSo 104 = .ok (.aload_n 0, 1) := dk_42 (by decide +kernel)
theorem dX12_isSo_105 : decode cX12_isSo 105 = .ok (.getfield 61, 3) := dk_180 0 61 (by decide +kernel)
theorem dX12_isSo_108 : decode cX12_isSo 108 = .ok (.iload 9, 2) := dk_21 (by decide +kernel)
theorem dX12_isSo_110 : decode cX12_isSo 110 = .ok (.iaload, 1) := dk_46 (by decide +kernel)
theorem dX12_isSo_111 : decode cX12_isSo 111 = .ok (.i2l, 1) := dk_133 (by decide +kernel)
theorem dX12_isSo_112 : decode cX12_isSo 112 = .ok (.lastore, 1) := dk_80 (by decide +kernel)
theorem dX12_isSo_113 : decode cX12_isSo 113 = .ok (.iinc 5 1, 3) := dk_132 1 (by decide +kernel)
theorem dX12_isSo_116 : decode cX12_isSo 116 = .ok (.goto 230, 3) := dk_167 0 230 (by decide +kernel)
theorem dX12_isSo_119 : decode cX12_isSo 119 = .ok (.iload 8, 2) := dk_21 (by decide +kernel)
theorem dX12_isSo_121 : decode cX12_isSo 121 = .ok (.iconst 2, 1) := dk_5 (by decide +kernel)
theorem dX12_isSo_122 : decode cX12_isSo 122 = .ok (.if_icmp .ne 25, 3) := dk_160 0 25 (by decide +kernel)
theorem dX12_isSo_125 : decode cX12_isSo 125 = .ok (.aload_n 0, 1) := dk_42 (by decide +kernel)
theorem dX12_isSo_126 : decode cX12_isSo 126 = .ok (.getfield 64, 3) := dk_180 0 64 (by decide +kernel)
theorem dX12_isSo_129 : decode cX12_isSo 129 = .ok (.iload 5, 2) := dk_21 (by decide +kernel)
theorem dX12_isSo_131 : decode cX12_isSo 131 = .ok (.iconst 1, 1) := dk_4 (by decide +kernel)
theorem dX12_isSo_132 : decode cX12_isSo 132 = .ok (.isub, 1) := dk_100 (by decide +kernel)
theorem dX12_isSo_133 : decode cX12_isSo 133 = .ok (.aload_n 0, 1) := dk_42 (by decide +kernel)
theorem dX12_isSo_134 : decode cX12_isSo 134 = .ok (.getfield 64, 3) := dk_180 0 64 (by decide +kernel)
theorem dX12_isSo_137 : decode cX12_isSo 137 = .ok (.iload 5, 2) := dk_21 (by decide +kernel)
theorem dX12_isSo_139 : decode cX12_isSo 139 = .ok (.iconst 1, 1) := dk_4 (by decide +kernel)
theorem dX12_isSo_140 : decode cX12_isSo 140 = .ok (.isub, 1) := dk_100 (by decide +kernel)
theorem dX12_isSo_141 : decode cX12_isSo 141 = .ok (.laload, 1) := dk_47 (by decide +kernel)
theorem dX12_isSo_142 : decode cX12_isSo 142 = .ok (.lneg, 1) := dk_117 (by decide +kernel)
theorem dX12_isSo_143 : decode cX12_isSo 143 = .ok (.lastore, 1) := dk_80 (by decide +kernel)
theorem dX12_isSo_144 : decode cX12_isSo 144 = .ok (.goto 202, 3) := dk_167 0 202 (by decide +kernel)
theorem dX12_isSo_147 : decode cX12_isSo 147 = .ok (.iload 8, 2) := dk_21 (by decide +kernel)
theorem dX12_isSo_149 : decode cX12_isSo 149 = .ok (.bipush 10, 2) := dk_16 10 (by decide +kernel)
theorem dX12_isSo_151 : decode cX12_isSo 151 = .ok (.if_icmp .ge 39, 3) := dk_162 0 39 (by decide +kernel)
theorem dX12_isSo_154 : decode cX12_isSo 154 = .ok (.iinc 5 (-1), 3) := dk_132 255 (by decide +kernel)
theorem dX12_isSo_157 : decode cX12_isSo 157 = .ok (.aload_n 0, 1) := dk_42 (by decide +kernel)
theorem dX12_isSo_158 : decode cX12_isSo 158 = .ok (.getfield 64, 3) := dk_180 0 64 (by decide +kernel)
theorem dX12_isSo_161 : decode cX12_isSo 161 = .ok (.iload 5, 2) := dk_21 (by decide +kernel)
theorem dX12_isSo_163 : decode cX12_isSo 163 = .ok (.iconst 1, 1) := dk_4 (by decide +kernel)
theorem dX12_isSo_164 : decode cX12_isSo 164 = .ok (.isub, 1) := dk_100 (by decide +kernel)
theorem dX12_isSo_165 : decode cX12_isSo 165 = .ok (.iload 8, 2) := dk_21 (by decide +kernel)
theorem dX12_isSo_167 : decode cX12_isSo 167 = .ok (.aload_n 0, 1) := dk_42 (by decide +kernel)
theorem dX12_isSo_168 : decode cX12_isSo 168 = .ok (.getfield 64, 3) := dk_180 0 64 (by decide +kernel)
theorem dX12_isSo_171 : decode cX12_isSo 171 = .ok (.iload 5, 2) := dk_21 (by decide +kernel)
theorem dX12_isSo_173 : decode cX12_isSo 173 = .ok (.iconst 1, 1) := dk_4 (by decide +kernel)
theorem dX12_isSo_174 : decode cX12_isSo 174 = .ok (.isub, 1) := dk_100 (by decide +kernel)
theorem dX12_isSo_175 : decode cX12_isSo 175 = .ok (.laload, 1) := dk_47 (by decide +kernel)
theorem dX12_isSo_176 : decode cX12_isSo 176 = .ok (.aload_n 0, 1) := dk_42 (by decide +kernel)
theorem dX12_isSo_177 : decode cX12_isSo 177 = .ok (.getfield 64, 3) := dk_180 0 64 (by decide +kernel)
theorem dX12_isSo_180 : decode cX12_isSo 180 = .ok (.iload 5, 2) := dk_21 (by decide +kernel)
theorem dX12_isSo_182 : decode cX12_isSo 182 = .ok (.laload, 1) := dk_47 (by decide +kernel)
theorem dX12_isSo_183 : decode cX12_isSo 183 = .ok (.invokestatic 309, 3) := dk_184 1 53 (by decide +kernel)
theorem dX12_isSo_186 : decode cX12_isSo 186 = .ok (.lastore, 1) := dk_80 (by decide +kernel)
theorem dX12_isSo_187 : decode cX12_isSo 187 = .ok (.goto 159, 3) := dk_167 0 159 (by decide +kernel)
theorem dX12_isSo_190 : decode cX12_isSo 190 = .ok (.iload 8, 2) := dk_21 (by decide +kernel)
theorem dX12_isSo_192 : decode cX12_isSo 192 = .ok (.bipush 20, 2) := dk_16 20 (by decide +kernel)
theorem dX12_isSo_194 : decode cX12_isSo 194 = .ok (.if_icmp .ge 40, 3) := dk_162 0 40 (by decide +kernel)
theorem dX12_isSo_197 : decode cX12_isSo 197 = .ok (.iinc 5 (-2), 3) := dk_132 254 (by decide +kernel)
theorem dX12_isSo_200 : decode cX12_isSo 200 = .ok (.aload_n 0, 1) := dk_42 (by decide +kernel)
theorem dX12_isSo_201 : decode cX12_isSo 201 = .ok (.getfield 68, 3) := dk_180 0 68 (by decide +kernel)
theorem dX12_isSo_204 : decode cX12_isSo 204 = .ok (.iload 6, 2) := dk_21 (by decide +kernel)
theorem dX12_isSo_206 : decode cX12_isSo 206 = .ok (.iload 8, 2) := dk_21 (by decide +kernel)
theorem dX12_isSo_208 : decode cX12_isSo 208 = .ok (.aload_n 0, 1) := dk_42 (by decide +kernel)
theorem dX12_isSo_209 : decode cX12_isSo 209 = .ok (.getfield 64, 3) := dk_180 0 64 (by decide +kernel)
theorem dX12_isSo_212 : decode cX12_isSo 212 = .ok (.iload 5, 2) := dk_21 (by decide +kernel)
theorem dX12_isSo_214 : decode cX12_isSo 214 = .ok (.laload, 1) := dk_47 (by decide +kernel)
theorem dX12_isSo_215 : decode cX12_isSo 215 = .ok (.aload_n 0, 1) := dk_42 (by decide +kernel)
theorem dX12_isSo_216 : decode cX12_isSo 216 = .ok (.getfield 64, 3) := dk_180 0 64 (by decide +kernel)
theorem dX12_isSo_219 : decode cX12_isSo 219 = .ok (.iload 5, 2) := dk_21 (by decide +kernel)
theorem dX12_isSo_221 : decode cX12_isSo 221 = .ok (.iconst 1, 1) := dk_4 (by decide +kernel)
theorem dX12_isSo_222 : decode cX12_isSo 222 = .ok (.iadd, 1) := dk_96 (by decide +kernel)
theorem dX12_isSo_223 : decode cX12_isSo 223 = .ok (.laload, 1) := dk_47 (by decide +kernel)
theorem dX12_isSo_224 : decode cX12_isSo 224 = .ok (.invokestatic 313, 3) := dk_184 1 57 (by decide +kernel)
theorem dX12_isSo_227 : decode cX12_isSo 227 = .ok (.bastore, 1) := dk_84 (by decide +kernel)
theorem dX12_isSo_228 : decode cX12_isSo 228 = .ok (.iinc 6 1, 3) := dk_132 1 (by decide +kernel)
theorem dX12_isSo_231 : decode cX12_isSo 231 = .ok (.goto 115, 3) := dk_167 0 115 (by decide +kernel)
theorem dX12_isSo_234 : decode cX12_isSo 234 = .ok (.iload 8, 2) := dk_21 (by decide +kernel)
theorem dX12_isSo_236 : decode cX12_isSo 236 = .ok (.bipush 20, 2) := dk_16 20 (by decide +kernel)
theorem dX12_isSo_238 : decode cX12_isSo 238 = .ok (.if_icmp .ne 32, 3) := dk_160 0 32 (by decide +kernel)
theorem dX12_isSo_241 : decode cX12_isSo 241 = .ok (.aload_n 0, 1) := dk_42 (by decide +kernel)
theorem dX12_isSo_242 : decode cX12_isSo 242 = .ok (.getfield 68, 3) := dk_180 0 68 (by decide +kernel)
theorem dX12_isSo_245 : decode cX12_isSo 245 = .ok (.iload 6, 2) := dk_21 (by decide +kernel)
theorem dX12_isSo_247 : decode cX12_isSo 247 = .ok (.iconst 1, 1) := dk_4 (by decide +kernel)
theorem dX12_isSo_248 : decode cX12_isSo 248 = .ok (.isub, 1) := dk_100 (by decide +kernel)
theorem dX12_isSo_249 : decode cX12_isSo 249 = .ok (.aload_n 0, 1) := dk_42 (by decide +kernel)
theorem dX12_isSo_250 : decode cX12_isSo 250 = .ok (.getfield 68, 3) := dk_180 0 68 (by decide +kernel)
theorem dX12_isSo_253 : decode cX12_isSo 253 = .ok (.iload 6, 2) := dk_21 (by decide +kernel)
theorem dX12_isSo_255 : decode cX12_isSo 255 = .ok (.iconst 1, 1) := dk_4 (by decide +kernel)
theorem dX12_isSo_256 : decode cX12_isSo 256 = .ok (.isub, 1) := dk_100 (by decide +kernel)
theorem dX12_isSo_257 : decode cX12_isSo 257 = .ok (.baload, 1) := dk_51 (by decide +kernel)
theorem dX12_isSo_258 : decode cX12_isSo 258 = .ok (.ifCond .ne 7, 3) := dk_154 0 7 (by decide +kernel)
theorem dX12_isSo_261 : decode cX12_isSo 261 = .ok (.iconst 1, 1) := dk_4 (by decide +kernel)
theorem dX12_isSo_262 : decode cX12_isSo 262 = .ok (.goto 4, 3) := dk_167 0 4 (by decide +kernel)
theorem dX12_isSo_265 : decode cX12_isSo 265 = .ok (.iconst 0, 1) := dk_3 (by decide +kernel)
theorem dX12_isSo_266 : decode cX12_isSo 266 = .ok (.bastore, 1) := dk_84 (by decide +kernel)
theorem dX12_isSo_267 : decode cX12_isSo 267 = .ok (.goto 79, 3) := dk_167 0 79 (by decide +kernel)
theorem dX12_isSo_270 : decode cX12_isSo 270 = .ok (.iinc 6 (-1), 3) := dk_132 255 (by decide +kernel)
theorem dX12_isSo_273 : decode cX12_isSo 273 = .ok (.aload_n 0, 1) := dk_42 (by decide +kernel)
theorem dX12_isSo_274 : decode cX12_isSo 274 = .ok (.getfield 68, 3) := dk_180 0 68 (by decide +kernel)
theorem dX12_isSo_277 : decode cX12_isSo 277 = .ok (.iload 6, 2) := dk_21 (by decide +kernel)
theorem dX12_isSo_279 : decode cX12_isSo 279 = .ok (.iconst 1, 1) := dk_4 (by decide +kernel)
theorem dX12_isSo_280 : decode cX12_isSo 280 = .ok (.isub, 1) := dk_100 (by decide +kernel)
theorem dX12_isSo_281 : decode cX12_isSo 281 = .ok (.iload 8, 2) := dk_21 (by decide +kernel)
theorem dX12_isSo_283 : decode cX12_isSo 283 = .ok (.bipush 21, 2) := dk_16 21 (by decide +kernel)
theorem dX12_isSo_285 : decode cX12_isSo 285 = .ok (.if_icmp .ne 33, 3) := dk_160 0 33 (by decide +kernel)
theorem dX12_isSo_288 : decode cX12_isSo 288 = .ok (.aload_n 0, 1) := dk_42 (by decide +kernel)
theorem dX12_isSo_289 : decode cX12_isSo 289 = .ok (.getfield 68, 3) := dk_180 0 68 (by decide +kernel)
theorem dX12_isSo_292 : decode cX12_isSo 292 = .ok (.iload 6, 2) := dk_21 (by decide +kernel)
theorem dX12_isSo_294 : decode cX12_isSo 294 = .ok (.iconst 1, 1) := dk_4 (by decide +kernel)
theorem dX12_isSo_295 : decode cX12_isSo 295 = .ok (.isub, 1) := dk_100 (by decide +kernel)
theorem dX12_isSo_296 : decode cX12_isSo 296 = .ok (.baload, 1) := dk_51 (by decide +kernel)
theorem dX12_isSo_297 : decode cX12_isSo 297 = .ok (.ifCond .eq 17, 3) := dk_153 0 17 (by decide +kernel)
theorem dX12_isSo_300 : decode cX12_isSo 300 = .ok (.aload_n 0, 1) := dk_42 (by decide +kernel)
theorem dX12_isSo_301 : decode cX12_isSo 301 = .ok (.getfield 68, 3) := dk_180 0 68 (by decide +kernel)
theorem dX12_isSo_304 : decode cX12_isSo 304 = .ok (.iload 6, 2) := dk_21 (by decide +kernel)
theorem dX12_isSo_306 : decode cX12_isSo 306 = .ok (.baload, 1) := dk_51 (by decide +kernel)
theorem dX12_isSo_307 : decode cX12_isSo 307 = .ok (.ifCond .eq 7, 3) := dk_153 0 7 (by decide +kernel)
theorem dX12_isSo_310 : decode cX12_isSo 310 = .ok (.iconst 1, 1) := dk_4 (by decide +kernel)
theorem dX12_isSo_311 : decode cX12_isSo 311 = .ok (.goto 34, 3) := dk_167 0 34 (by decide +kernel)
theorem dX12_isSo_314 : decode cX12_isSo 314 = .ok (.iconst 0, 1) := dk_3 (by decide +kernel)
theorem dX12_isSo_315 : decode cX12_isSo 315 = .ok (.goto 30, 3) := dk_167 0 30 (by decide +kernel)
theorem dX12_isSo_318 : decode cX12_isSo 318 = .ok (.aload_n 0, 1) := dk_42 (by decide +kernel)
theorem dX12_isSo_319 : decode cX12_isSo 319 = .ok (.getfield 68, 3) := dk_180 0 68 (by decide +kernel)
theorem dX12_isSo_322 : decode cX12_isSo 322 = .ok (.iload 6, 2) := dk_21 (by decide +kernel)
theorem dX12_isSo_324 : decode cX12_isSo 324 = .ok (.iconst 1, 1) := dk_4 (by decide +kernel)
theorem dX12_isSo_325 : decode cX12_isSo 325 = .ok (.isub, 1) := dk_100 (by decide +kernel)
theorem dX12_isSo_326 : decode cX12_isSo 326 = .ok (.baload, 1) := dk_51 (by decide +kernel)
theorem dX12_isSo_327 : decode cX12_isSo 327 = .ok (.ifCond .ne 13, 3) := dk_154 0 13 (by decide +kernel)
theorem dX12_isSo_330 : decode cX12_isSo 330 = .ok (.aload_n 0, 1) := dk_42 (by decide +kernel)
theorem dX12_isSo_331 : decode cX12_isSo 331 = .ok (.getfield 68, 3) := dk_180 0 68 (by decide +kernel)
theorem dX12_isSo_334 : decode cX12_isSo 334 = .ok (.iload 6, 2) := dk_21 (by decide +kernel)
theorem dX12_isSo_336 : decode cX12_isSo 336 = .ok (.baload, 1) := dk_51 (by decide +kernel)
theorem dX12_isSo_337 : decode cX12_isSo 337 = .ok (.ifCond .eq 7, 3) := dk_153 0 7 (by decide +kernel)
theorem dX12_isSo_340 : decode cX12_isSo 340 = .ok (.iconst 1, 1) := dk_4 (by decide +kernel)
theorem dX12_isSo_341 : decode cX12_isSo 341 = .ok (.goto 4, 3) := dk_167 0 4 (by decide +kernel)
theorem dX12_isSo_344 : decode cX12_isSo 344 = .ok (.iconst 0, 1) := dk_3 (by decide +kernel)
theorem dX12_isSo_345 : decode cX12_isSo 345 = .ok (.bastore, 1) := dk_84 (by decide +kernel)
theorem dX12_isSo_346 : decode cX12_isSo 346 = .ok (.iinc 7 1, 3) := dk_132 1 (by decide +kernel)
theorem dX12_isSo_349 : decode cX12_isSo 349 = .ok (.goto (-311), 3) := dk_167 254 201 (by decide +kernel)
theorem dX12_isSo_352 : decode cX12_isSo 352 = .ok (.aload_n 0, 1) := dk_42 (by decide +kernel)
theorem dX12_isSo_353 : decode cX12_isSo 353 = .ok (.getfield 68, 3) := dk_180 0 68 (by decide +kernel)
theorem dX12_isSo_356 : decode cX12_isSo 356 = .ok (.iconst 0, 1) := dk_3 (by decide +kernel)
theorem dX12_isSo_357 : decode cX12_isSo 357 = .ok (.baload, 1) := dk_51 (by decide +kernel)
theorem dX12_isSo_358 : decode cX12_isSo 358 = .ok (.ireturn, 1) := dk_172 (by decide +kernel)
set_option maxRecDepth 8000 in
theorem e_X12_isSo {g : ch_G} {A R : Nat} (hC : ck_Cx g A R) {d : Nat} {K : Option ck_V → ck_W → Prop} {w : ck_W} {a1 a2 : Int} (h : ∀ x1, x1 = ((800 * a1) + 1) + (3 * a2) → ck_i x1 ∧ (ck_i ((800 * a1) + 50) ∧ ((0 ≤ (x1 + 1) ∧ (x1 + 1) < 3200) ∧ (ck_At (ch_C g A R) (d + 2) mX12_isSo K 38 [some (.inr (.inr 76)), none, none, some (.inl x1), some (.inl ((800 * a1) + 50)), some (.inl 0), some (.inl 0), some (.inl (w 79 (x1 + 1))), none, none] [] w)))) : ck_Ex (ch_C g A R) (d + 2) mX12_isSo [.inr (.inr 76), .inl a1, .inl a2] w K :=
  ck_entry hC.1 [some (.inr (.inr 76)), some (.inl a1), some (.inl a2), none, none, none, none, none, none, none] (by decide) (Nat.le_of_ble_eq_true rfl) rfl (fun q => q) (ck_in (fun hl => (ck_sipush 3 rfl dX12_isSo_0 rfl (ck_iload_n 4 rfl 1 dX12_isSo_3 rfl rfl (ck_imul 5 rfl dX12_isSo_4 (ck_iconst 6 rfl dX12_isSo_5 rfl (ck_iadd 7 rfl dX12_isSo_6 (ck_iconst 8 rfl dX12_isSo_7 rfl (ck_iload_n 9 rfl 2 dX12_isSo_8 rfl rfl (ck_imul 10 rfl dX12_isSo_9 (ck_iadd 11 rfl dX12_isSo_10 (ck_nmi (fun x1 e2 => (have h8 := (h x1 e2); have o3 := h8.1; have h7 := h8.2; (ck_istore_n 12 rfl 3 [some (.inr (.inr 76)), some (.inl a1), some (.inl a2), some (.inl x1), none, none, none, none, none, none] dX12_isSo_11 rfl (Nat.le_of_ble_eq_true rfl) rfl rfl o3 (ck_sipush 15 rfl dX12_isSo_12 rfl (ck_iload_n 16 rfl 1 dX12_isSo_15 rfl rfl (ck_imul 17 rfl dX12_isSo_16 (ck_bipush 19 rfl dX12_isSo_17 rfl (ck_iadd 20 rfl dX12_isSo_19 (have h10 := h7; have o4 := h10.1; have h9 := h10.2; (ck_istore 22 rfl [some (.inr (.inr 76)), some (.inl a1), some (.inl a2), some (.inl x1), some (.inl ((800 * a1) + 50)), none, none, none, none, none] dX12_isSo_20 (Nat.le_of_ble_eq_true rfl) rfl rfl o4 (ck_iconst 23 rfl dX12_isSo_22 rfl (ck_istore 25 rfl [some (.inr (.inr 76)), some (.inl a1), some (.inl a2), some (.inl x1), some (.inl ((800 * a1) + 50)), some (.inl 0), none, none, none, none] dX12_isSo_23 (Nat.le_of_ble_eq_true rfl) rfl rfl (show ck_i 0 by decide) (ck_iconst 26 rfl dX12_isSo_25 rfl (ck_istore 28 rfl [some (.inr (.inr 76)), some (.inl a1), some (.inl a2), some (.inl x1), some (.inl ((800 * a1) + 50)), some (.inl 0), some (.inl 0), none, none, none] dX12_isSo_26 (Nat.le_of_ble_eq_true rfl) rfl rfl (show ck_i 0 by decide) (ck_aload_n 29 rfl 0 dX12_isSo_28 rfl rfl (ck_getr 32 rfl dX12_isSo_29 fl_X12_16 sh_76 rfl (ck_iload_n 33 rfl 3 dX12_isSo_32 rfl rfl (ck_iconst 34 rfl dX12_isSo_33 rfl (ck_iadd 35 rfl dX12_isSo_34 (have h12 := h9; have o5 := h12.1; have h11 := h12.2; (ck_iald 36 rfl dX12_isSo_35 sh_79 (shn_79 hC) o5 _ rfl (fun (q6 : ck_i (w 79 (x1 + 1))) => (ck_istore 38 rfl [some (.inr (.inr 76)), some (.inl a1), some (.inl a2), some (.inl x1), some (.inl ((800 * a1) + 50)), some (.inl 0), some (.inl 0), some (.inl (w 79 (x1 + 1))), none, none] dX12_isSo_36 (Nat.le_of_ble_eq_true rfl) rfl rfl q6 (ck_drop [some (.inr (.inr 76)), none, none, some (.inl x1), some (.inl ((800 * a1) + 50)), some (.inl 0), some (.inl 0), some (.inl (w 79 (x1 + 1))), none, none] (And.intro rfl (And.intro rfl (And.intro rfl (And.intro rfl (And.intro rfl (And.intro rfl True.intro)))))) h11))))))))))))))))))))))))))))))))))))
set_option maxRecDepth 8000 in
theorem r_X12_isSo_38 {g : ch_G} {A R : Nat} (hC : ck_Cx g A R) {d : Nat} {K : Option ck_V → ck_W → Prop} {w : ck_W} {a3 a4 a5 a6 a7 : Int} (h : (0 ≤ (a3 + 2) ∧ (a3 + 2) < 3200) ∧ (((w 79 (a3 + 2)) ≤ a7 → ((w 93 0) = 0 ∨ (w 93 0) = 1) ∧ K (some (.inl (w 93 0))) w) ∧ (¬ (w 79 (a3 + 2)) ≤ a7 → (0 ≤ (a4 + (2 * a7)) ∧ (a4 + (2 * a7)) < 3200) ∧ ((0 ≤ ((a4 + (2 * a7)) + 1) ∧ ((a4 + (2 * a7)) + 1) < 3200) ∧ (∀ x10, x10 = w 79 ((a4 + (2 * a7)) + 1) → (1 < (w 79 (a4 + (2 * a7))) → (¬ (w 79 (a4 + (2 * a7))) = 2 → (10 ≤ (w 79 (a4 + (2 * a7))) → (20 ≤ (w 79 (a4 + (2 * a7))) → (¬ (w 79 (a4 + (2 * a7))) = 20 → ck_i (a6 + (-1)) ∧ ((¬ (w 79 (a4 + (2 * a7))) = 21 → (0 ≤ ((a6 + (-1)) - 1) ∧ ((a6 + (-1)) - 1) < 330) ∧ ((¬ (w 93 ((a6 + (-1)) - 1)) = 0 → ck_At (ch_C g A R) (d + 2) mX12_isSo K 346 [some (.inr (.inr 76)), none, none, some (.inl a3), some (.inl a4), some (.inl a5), some (.inl (a6 + (-1))), some (.inl a7), none, none] [] (ck_up w 93 ((a6 + (-1)) - 1) 1)) ∧ ((w 93 ((a6 + (-1)) - 1)) = 0 → (0 ≤ (a6 + (-1)) ∧ (a6 + (-1)) < 330) ∧ (((w 93 (a6 + (-1))) = 0 → ck_At (ch_C g A R) (d + 2) mX12_isSo K 346 [some (.inr (.inr 76)), none, none, some (.inl a3), some (.inl a4), some (.inl a5), some (.inl (a6 + (-1))), some (.inl a7), none, none] [] (ck_up w 93 ((a6 + (-1)) - 1) 0)) ∧ (¬ (w 93 (a6 + (-1))) = 0 → ck_At (ch_C g A R) (d + 2) mX12_isSo K 346 [some (.inr (.inr 76)), none, none, some (.inl a3), some (.inl a4), some (.inl a5), some (.inl (a6 + (-1))), some (.inl a7), none, none] [] (ck_up w 93 ((a6 + (-1)) - 1) 1)))))) ∧ ((w 79 (a4 + (2 * a7))) = 21 → (0 ≤ ((a6 + (-1)) - 1) ∧ ((a6 + (-1)) - 1) < 330) ∧ (((w 93 ((a6 + (-1)) - 1)) = 0 → ck_At (ch_C g A R) (d + 2) mX12_isSo K 346 [some (.inr (.inr 76)), none, none, some (.inl a3), some (.inl a4), some (.inl a5), some (.inl (a6 + (-1))), some (.inl a7), none, none] [] (ck_up w 93 ((a6 + (-1)) - 1) 0)) ∧ (¬ (w 93 ((a6 + (-1)) - 1)) = 0 → (0 ≤ (a6 + (-1)) ∧ (a6 + (-1)) < 330) ∧ (((w 93 (a6 + (-1))) = 0 → ck_At (ch_C g A R) (d + 2) mX12_isSo K 346 [some (.inr (.inr 76)), none, none, some (.inl a3), some (.inl a4), some (.inl a5), some (.inl (a6 + (-1))), some (.inl a7), none, none] [] (ck_up w 93 ((a6 + (-1)) - 1) 0)) ∧ (¬ (w 93 (a6 + (-1))) = 0 → ck_At (ch_C g A R) (d + 2) mX12_isSo K 346 [some (.inr (.inr 76)), none, none, some (.inl a3), some (.inl a4), some (.inl a5), some (.inl (a6 + (-1))), some (.inl a7), none, none] [] (ck_up w 93 ((a6 + (-1)) - 1) 1)))))))) ∧ ((w 79 (a4 + (2 * a7))) = 20 → (0 ≤ (a6 - 1) ∧ (a6 - 1) < 330) ∧ ((¬ (w 93 (a6 - 1)) = 0 → ck_At (ch_C g A R) (d + 2) mX12_isSo K 346 [some (.inr (.inr 76)), none, none, some (.inl a3), some (.inl a4), some (.inl a5), some (.inl a6), some (.inl a7), none, none] [] (ck_up w 93 (a6 - 1) 0)) ∧ ((w 93 (a6 - 1)) = 0 → ck_At (ch_C g A R) (d + 2) mX12_isSo K 346 [some (.inr (.inr 76)), none, none, some (.inl a3), some (.inl a4), some (.inl a5), some (.inl a6), some (.inl a7), none, none] [] (ck_up w 93 (a6 - 1) 1))))) ∧ (¬ 20 ≤ (w 79 (a4 + (2 * a7))) → ck_i (a5 + (-2)) ∧ ((0 ≤ (a5 + (-2)) ∧ (a5 + (-2)) < 330) ∧ ((0 ≤ ((a5 + (-2)) + 1) ∧ ((a5 + (-2)) + 1) < 330) ∧ ((rm_ask (w 79 (a4 + (2 * a7))) (w 92 (a5 + (-2))) (w 92 ((a5 + (-2)) + 1)) → (0 ≤ a6 ∧ a6 < 330) ∧ (ck_i (a6 + 1) ∧ (ck_At (ch_C g A R) (d + 2) mX12_isSo K 346 [some (.inr (.inr 76)), none, none, some (.inl a3), some (.inl a4), some (.inl (a5 + (-2))), some (.inl (a6 + 1)), some (.inl a7), none, none] [] (ck_up w 93 a6 1)))) ∧ (¬ (rm_ask (w 79 (a4 + (2 * a7))) (w 92 (a5 + (-2))) (w 92 ((a5 + (-2)) + 1))) → (0 ≤ a6 ∧ a6 < 330) ∧ (ck_i (a6 + 1) ∧ (ck_At (ch_C g A R) (d + 2) mX12_isSo K 346 [some (.inr (.inr 76)), none, none, some (.inl a3), some (.inl a4), some (.inl (a5 + (-2))), some (.inl (a6 + 1)), some (.inl a7), none, none] [] (ck_up w 93 a6 0))))))))) ∧ (¬ 10 ≤ (w 79 (a4 + (2 * a7))) → ck_i (a5 + (-1)) ∧ ((0 ≤ ((a5 + (-1)) - 1) ∧ ((a5 + (-1)) - 1) < 330) ∧ ((0 ≤ (a5 + (-1)) ∧ (a5 + (-1)) < 330) ∧ ((-1000000 ≤ (w 92 ((a5 + (-1)) - 1)) ∧ (w 92 ((a5 + (-1)) - 1)) ≤ 1000000) ∧ ((-1000000 ≤ (w 92 (a5 + (-1))) ∧ (w 92 (a5 + (-1))) ≤ 1000000) ∧ (ck_At (ch_C g A R) (d + 2) mX12_isSo K 346 [some (.inr (.inr 76)), none, none, some (.inl a3), some (.inl a4), some (.inl (a5 + (-1))), some (.inl a6), some (.inl a7), none, none] [] (ck_up w 92 ((a5 + (-1)) - 1) (rm_two (w 79 (a4 + (2 * a7))) (w 92 ((a5 + (-1)) - 1)) (w 92 (a5 + (-1)))))))))))) ∧ ((w 79 (a4 + (2 * a7))) = 2 → (0 ≤ (a5 - 1) ∧ (a5 - 1) < 330) ∧ (ck_l (-(w 92 (a5 - 1))) ∧ (ck_At (ch_C g A R) (d + 2) mX12_isSo K 346 [some (.inr (.inr 76)), none, none, some (.inl a3), some (.inl a4), some (.inl a5), some (.inl a6), some (.inl a7), none, none] [] (ck_up w 92 (a5 - 1) (-(w 92 (a5 - 1)))))))) ∧ (¬ 1 < (w 79 (a4 + (2 * a7))) → (¬ (w 79 (a4 + (2 * a7))) = 0 → (0 ≤ x10 ∧ x10 < 9) ∧ ((0 ≤ a5 ∧ a5 < 330) ∧ (ck_i (a5 + 1) ∧ (ck_At (ch_C g A R) (d + 2) mX12_isSo K 346 [some (.inr (.inr 76)), none, none, some (.inl a3), some (.inl a4), some (.inl (a5 + 1)), some (.inl a6), some (.inl a7), none, none] [] (ck_up w 92 a5 (w 91 x10)))))) ∧ ((w 79 (a4 + (2 * a7))) = 0 → (0 ≤ a5 ∧ a5 < 330) ∧ (ck_i (a5 + 1) ∧ (ck_At (ch_C g A R) (d + 2) mX12_isSo K 346 [some (.inr (.inr 76)), none, none, some (.inl a3), some (.inl a4), some (.inl (a5 + 1)), some (.inl a6), some (.inl a7), none, none] [] (ck_up w 92 a5 x10)))))))))) : ck_At (ch_C g A R) (d + 2) mX12_isSo K 38 [some (.inr (.inr 76)), none, none, some (.inl a3), some (.inl a4), some (.inl a5), some (.inl a6), some (.inl a7), none, none] [] w :=
  ck_in (fun hl => (ck_iload 40 rfl dX12_isSo_38 rfl (ck_aload_n 41 rfl 0 dX12_isSo_40 rfl rfl (ck_getr 44 rfl dX12_isSo_41 fl_X12_16 sh_76 rfl (ck_iload_n 45 rfl 3 dX12_isSo_44 rfl rfl (ck_iconst 46 rfl dX12_isSo_45 rfl (ck_iadd 47 rfl dX12_isSo_46 (have h79 := h; have o1 := h79.1; have h78 := h79.2; (ck_iald 48 rfl dX12_isSo_47 sh_79 (shn_79 hC) o1 _ rfl (fun (q2 : ck_i (w 79 (a3 + 2))) => (ck_icmp_ge 51 rfl 352 dX12_isSo_48 rfl hl.2.2.2.2.2.1 q2 (fun c76 => (ck_aload_n 353 rfl 0 dX12_isSo_352 rfl rfl (ck_getr 356 rfl dX12_isSo_353 fl_X12_68 sh_76 rfl (ck_iconst 357 rfl dX12_isSo_356 rfl (ck_zald 358 rfl dX12_isSo_357 sh_93 (shn_93 hC) (by decide) _ rfl (fun (q3 : ck_i (w 93 0)) => (have h5 := (h78.1 c76); have o4 := h5.1; ck_zret dX12_isSo_358 rfl o4 h5.2))))))) (fun c77 => (ck_aload_n 52 rfl 0 dX12_isSo_51 rfl rfl (ck_getr 55 rfl dX12_isSo_52 fl_X12_16 sh_76 rfl (ck_iload 57 rfl dX12_isSo_55 rfl (ck_iconst 58 rfl dX12_isSo_57 rfl (ck_iload 60 rfl dX12_isSo_58 rfl (ck_imul 61 rfl dX12_isSo_60 (ck_iadd 62 rfl dX12_isSo_61 (have h81 := (h78.2 c77); have o6 := h81.1; have h80 := h81.2; (ck_iald 63 rfl dX12_isSo_62 sh_79 (shn_79 hC) o6 _ rfl (fun (q7 : ck_i (w 79 (a4 + (2 * a7)))) => (ck_istore 65 rfl [some (.inr (.inr 76)), none, none, some (.inl a3), some (.inl a4), some (.inl a5), some (.inl a6), some (.inl a7), some (.inl (w 79 (a4 + (2 * a7)))), none] dX12_isSo_63 (Nat.le_of_ble_eq_true rfl) rfl rfl q7 (ck_aload_n 66 rfl 0 dX12_isSo_65 rfl rfl (ck_getr 69 rfl dX12_isSo_66 fl_X12_16 sh_76 rfl (ck_iload 71 rfl dX12_isSo_69 rfl (ck_iconst 72 rfl dX12_isSo_71 rfl (ck_iload 74 rfl dX12_isSo_72 rfl (ck_imul 75 rfl dX12_isSo_74 (ck_iadd 76 rfl dX12_isSo_75 (ck_iconst 77 rfl dX12_isSo_76 rfl (ck_iadd 78 rfl dX12_isSo_77 (have h83 := h80; have o8 := h83.1; have h82 := h83.2; (ck_iald 79 rfl dX12_isSo_78 sh_79 (shn_79 hC) o8 _ rfl (fun (q9 : ck_i (w 79 ((a4 + (2 * a7)) + 1))) => (ck_nmi (fun x10 e11 => (ck_istore 81 rfl [some (.inr (.inr 76)), none, none, some (.inl a3), some (.inl a4), some (.inl a5), some (.inl a6), some (.inl a7), some (.inl (w 79 (a4 + (2 * a7)))), some (.inl x10)] dX12_isSo_79 (Nat.le_of_ble_eq_true rfl) rfl rfl (by rw [e11]; exact q9) (ck_iload 83 rfl dX12_isSo_81 rfl (ck_iconst 84 rfl dX12_isSo_83 rfl (have h84 := (h82 x10 e11); (ck_icmp_gt 87 rfl 119 dX12_isSo_84 rfl q7 (show ck_i 1 by decide) (fun c74 => (ck_iload 121 rfl dX12_isSo_119 rfl (ck_iconst 122 rfl dX12_isSo_121 rfl (have h85 := (h84.1 c74); (ck_icmp_ne 125 rfl 147 dX12_isSo_122 rfl q7 (show ck_i 2 by decide) (fun c64 => (ck_iload 149 rfl dX12_isSo_147 rfl (ck_bipush 151 rfl dX12_isSo_149 rfl (have h86 := (h85.1 c64); (ck_icmp_ge 154 rfl 190 dX12_isSo_151 rfl q7 (show ck_i 10 by decide) (fun c59 => (ck_iload 192 rfl dX12_isSo_190 rfl (ck_bipush 194 rfl dX12_isSo_192 rfl (have h87 := (h86.1 c59); (ck_icmp_ge 197 rfl 234 dX12_isSo_194 rfl q7 (show ck_i 20 by decide) (fun c49 => (ck_iload 236 rfl dX12_isSo_234 rfl (ck_bipush 238 rfl dX12_isSo_236 rfl (have h88 := (h87.1 c49); (ck_icmp_ne 241 rfl 270 dX12_isSo_238 rfl q7 (show ck_i 20 by decide) (fun c35 => (have h90 := (h88.1 c35); have o12 := h90.1; have h89 := h90.2; (ck_iinc 273 rfl [some (.inr (.inr 76)), none, none, some (.inl a3), some (.inl a4), some (.inl a5), some (.inl (a6 + (-1))), some (.inl a7), some (.inl (w 79 (a4 + (2 * a7)))), some (.inl x10)] dX12_isSo_270 rfl (Nat.le_of_ble_eq_true rfl) rfl rfl o12 (ck_aload_n 274 rfl 0 dX12_isSo_273 rfl rfl (ck_getr 277 rfl dX12_isSo_274 fl_X12_68 sh_76 rfl (ck_iload 279 rfl dX12_isSo_277 rfl (ck_iconst 280 rfl dX12_isSo_279 rfl (ck_isub 281 rfl dX12_isSo_280 (ck_iload 283 rfl dX12_isSo_281 rfl (ck_bipush 285 rfl dX12_isSo_283 rfl (ck_icmp_ne 288 rfl 318 dX12_isSo_285 rfl q7 (show ck_i 21 by decide) (fun c29 => (ck_aload_n 319 rfl 0 dX12_isSo_318 rfl rfl (ck_getr 322 rfl dX12_isSo_319 fl_X12_68 sh_76 rfl (ck_iload 324 rfl dX12_isSo_322 rfl (ck_iconst 325 rfl dX12_isSo_324 rfl (ck_isub 326 rfl dX12_isSo_325 (have h92 := (h89.1 c29); have o13 := h92.1; have h91 := h92.2; (ck_zald 327 rfl dX12_isSo_326 sh_93 (shn_93 hC) o13 _ rfl (fun (q14 : ck_i (w 93 ((a6 + (-1)) - 1))) => (ck_if_ne 330 rfl 340 dX12_isSo_327 rfl q14 (fun c19 => (ck_iconst 341 rfl dX12_isSo_340 rfl (ck_goto 345 dX12_isSo_341 rfl (ck_zast 346 rfl dX12_isSo_345 sh_93 (shn_93 hC) o13 (by decide) (ck_drop [some (.inr (.inr 76)), none, none, some (.inl a3), some (.inl a4), some (.inl a5), some (.inl (a6 + (-1))), some (.inl a7), none, none] (And.intro rfl (And.intro rfl (And.intro rfl (And.intro rfl (And.intro rfl (And.intro rfl True.intro)))))) (h91.1 c19)))))) (fun c20 => (ck_aload_n 331 rfl 0 dX12_isSo_330 rfl rfl (ck_getr 334 rfl dX12_isSo_331 fl_X12_68 sh_76 rfl (ck_iload 336 rfl dX12_isSo_334 rfl (have h94 := (h91.2 c20); have o15 := h94.1; have h93 := h94.2; (ck_zald 337 rfl dX12_isSo_336 sh_93 (shn_93 hC) o15 _ rfl (fun (q16 : ck_i (w 93 (a6 + (-1)))) => (ck_if_eq 340 rfl 344 dX12_isSo_337 rfl q16 (fun c17 => (ck_iconst 345 rfl dX12_isSo_344 rfl (ck_zast 346 rfl dX12_isSo_345 sh_93 (shn_93 hC) o13 (by decide) (ck_drop [some (.inr (.inr 76)), none, none, some (.inl a3), some (.inl a4), some (.inl a5), some (.inl (a6 + (-1))), some (.inl a7), none, none] (And.intro rfl (And.intro rfl (And.intro rfl (And.intro rfl (And.intro rfl (And.intro rfl True.intro)))))) (h93.1 c17))))) (fun c18 => (ck_iconst 341 rfl dX12_isSo_340 rfl (ck_goto 345 dX12_isSo_341 rfl (ck_zast 346 rfl dX12_isSo_345 sh_93 (shn_93 hC) o13 (by decide) (ck_drop [some (.inr (.inr 76)), none, none, some (.inl a3), some (.inl a4), some (.inl a5), some (.inl (a6 + (-1))), some (.inl a7), none, none] (And.intro rfl (And.intro rfl (And.intro rfl (And.intro rfl (And.intro rfl (And.intro rfl True.intro)))))) (h93.2 c18)))))))))))))))))))))))) (fun c30 => (ck_aload_n 289 rfl 0 dX12_isSo_288 rfl rfl (ck_getr 292 rfl dX12_isSo_289 fl_X12_68 sh_76 rfl (ck_iload 294 rfl dX12_isSo_292 rfl (ck_iconst 295 rfl dX12_isSo_294 rfl (ck_isub 296 rfl dX12_isSo_295 (have h96 := (h89.2 c30); have o21 := h96.1; have h95 := h96.2; (ck_zald 297 rfl dX12_isSo_296 sh_93 (shn_93 hC) o21 _ rfl (fun (q22 : ck_i (w 93 ((a6 + (-1)) - 1))) => (ck_if_eq 300 rfl 314 dX12_isSo_297 rfl q22 (fun c27 => (ck_iconst 315 rfl dX12_isSo_314 rfl (ck_goto 345 dX12_isSo_315 rfl (ck_zast 346 rfl dX12_isSo_345 sh_93 (shn_93 hC) o21 (by decide) (ck_drop [some (.inr (.inr 76)), none, none, some (.inl a3), some (.inl a4), some (.inl a5), some (.inl (a6 + (-1))), some (.inl a7), none, none] (And.intro rfl (And.intro rfl (And.intro rfl (And.intro rfl (And.intro rfl (And.intro rfl True.intro)))))) (h95.1 c27)))))) (fun c28 => (ck_aload_n 301 rfl 0 dX12_isSo_300 rfl rfl (ck_getr 304 rfl dX12_isSo_301 fl_X12_68 sh_76 rfl (ck_iload 306 rfl dX12_isSo_304 rfl (have h98 := (h95.2 c28); have o23 := h98.1; have h97 := h98.2; (ck_zald 307 rfl dX12_isSo_306 sh_93 (shn_93 hC) o23 _ rfl (fun (q24 : ck_i (w 93 (a6 + (-1)))) => (ck_if_eq 310 rfl 314 dX12_isSo_307 rfl q24 (fun c25 => (ck_iconst 315 rfl dX12_isSo_314 rfl (ck_goto 345 dX12_isSo_315 rfl (ck_zast 346 rfl dX12_isSo_345 sh_93 (shn_93 hC) o21 (by decide) (ck_drop [some (.inr (.inr 76)), none, none, some (.inl a3), some (.inl a4), some (.inl a5), some (.inl (a6 + (-1))), some (.inl a7), none, none] (And.intro rfl (And.intro rfl (And.intro rfl (And.intro rfl (And.intro rfl (And.intro rfl True.intro)))))) (h97.1 c25)))))) (fun c26 => (ck_iconst 311 rfl dX12_isSo_310 rfl (ck_goto 345 dX12_isSo_311 rfl (ck_zast 346 rfl dX12_isSo_345 sh_93 (shn_93 hC) o21 (by decide) (ck_drop [some (.inr (.inr 76)), none, none, some (.inl a3), some (.inl a4), some (.inl a5), some (.inl (a6 + (-1))), some (.inl a7), none, none] (And.intro rfl (And.intro rfl (And.intro rfl (And.intro rfl (And.intro rfl (And.intro rfl True.intro)))))) (h97.2 c26))))))))))))))))))))))))))))))))))) (fun c36 => (ck_aload_n 242 rfl 0 dX12_isSo_241 rfl rfl (ck_getr 245 rfl dX12_isSo_242 fl_X12_68 sh_76 rfl (ck_iload 247 rfl dX12_isSo_245 rfl (ck_iconst 248 rfl dX12_isSo_247 rfl (ck_isub 249 rfl dX12_isSo_248 (ck_aload_n 250 rfl 0 dX12_isSo_249 rfl rfl (ck_getr 253 rfl dX12_isSo_250 fl_X12_68 sh_76 rfl (ck_iload 255 rfl dX12_isSo_253 rfl (ck_iconst 256 rfl dX12_isSo_255 rfl (ck_isub 257 rfl dX12_isSo_256 (have h100 := (h88.2 c36); have o31 := h100.1; have h99 := h100.2; (ck_zald 258 rfl dX12_isSo_257 sh_93 (shn_93 hC) o31 _ rfl (fun (q32 : ck_i (w 93 (a6 - 1))) => (ck_if_ne 261 rfl 265 dX12_isSo_258 rfl q32 (fun c33 => (ck_iconst 266 rfl dX12_isSo_265 rfl (ck_zast 267 rfl dX12_isSo_266 sh_93 (shn_93 hC) o31 (by decide) (ck_goto 346 dX12_isSo_267 rfl (ck_drop [some (.inr (.inr 76)), none, none, some (.inl a3), some (.inl a4), some (.inl a5), some (.inl a6), some (.inl a7), none, none] (And.intro rfl (And.intro rfl (And.intro rfl (And.intro rfl (And.intro rfl (And.intro rfl True.intro)))))) (h99.1 c33)))))) (fun c34 => (ck_iconst 262 rfl dX12_isSo_261 rfl (ck_goto 266 dX12_isSo_262 rfl (ck_zast 267 rfl dX12_isSo_266 sh_93 (shn_93 hC) o31 (by decide) (ck_goto 346 dX12_isSo_267 rfl (ck_drop [some (.inr (.inr 76)), none, none, some (.inl a3), some (.inl a4), some (.inl a5), some (.inl a6), some (.inl a7), none, none] (And.intro rfl (And.intro rfl (And.intro rfl (And.intro rfl (And.intro rfl (And.intro rfl True.intro)))))) (h99.2 c34))))))))))))))))))))))))))) (fun c50 => (have h102 := (h87.2 c50); have o37 := h102.1; have h101 := h102.2; (ck_iinc 200 rfl [some (.inr (.inr 76)), none, none, some (.inl a3), some (.inl a4), some (.inl (a5 + (-2))), some (.inl a6), some (.inl a7), some (.inl (w 79 (a4 + (2 * a7)))), some (.inl x10)] dX12_isSo_197 rfl (Nat.le_of_ble_eq_true rfl) rfl rfl o37 (ck_aload_n 201 rfl 0 dX12_isSo_200 rfl rfl (ck_getr 204 rfl dX12_isSo_201 fl_X12_68 sh_76 rfl (ck_iload 206 rfl dX12_isSo_204 rfl (ck_iload 208 rfl dX12_isSo_206 rfl (ck_aload_n 209 rfl 0 dX12_isSo_208 rfl rfl (ck_getr 212 rfl dX12_isSo_209 fl_X12_64 sh_76 rfl (ck_iload 214 rfl dX12_isSo_212 rfl (have h104 := h101; have o38 := h104.1; have h103 := h104.2; (ck_lald 215 rfl dX12_isSo_214 sh_92 (shn_92 hC) o38 _ rfl (fun (q39 : ck_l (w 92 (a5 + (-2)))) => (ck_aload_n 216 rfl 0 dX12_isSo_215 rfl rfl (ck_getr 219 rfl dX12_isSo_216 fl_X12_64 sh_76 rfl (ck_iload 221 rfl dX12_isSo_219 rfl (ck_iconst 222 rfl dX12_isSo_221 rfl (ck_iadd 223 rfl dX12_isSo_222 (have h106 := h103; have o40 := h106.1; have h105 := h106.2; (ck_lald 224 rfl dX12_isSo_223 sh_92 (shn_92 hC) o40 _ rfl (fun (q41 : ck_l (w 92 ((a5 + (-2)) + 1))) => (have h48 := h105; ck_callS 227 rfl [.inl (w 79 (a4 + (2 * a7))), .inr (.inl (w 92 (a5 + (-2)))), .inr (.inl (w 92 ((a5 + (-2)) + 1)))] [.inl a6, .inr (.inr 93)] dX12_isSo_224 cs_X12_313 rfl rfl (Nat.le_of_ble_eq_true rfl) (And.intro q7 (And.intro q39 (And.intro q41 True.intro))) (p_X12_isAsked hC (fun c46 _ => (have h108 := (h48.1 c46); have o42 := h108.1; have h107 := h108.2; (ck_zast 228 rfl dX12_isSo_227 sh_93 (shn_93 hC) o42 (by decide) (have h110 := h107; have o43 := h110.1; have h109 := h110.2; (ck_iinc 231 rfl [some (.inr (.inr 76)), none, none, some (.inl a3), some (.inl a4), some (.inl (a5 + (-2))), some (.inl (a6 + 1)), some (.inl a7), some (.inl (w 79 (a4 + (2 * a7)))), some (.inl x10)] dX12_isSo_228 rfl (Nat.le_of_ble_eq_true rfl) rfl rfl o43 (ck_goto 346 dX12_isSo_231 rfl (ck_drop [some (.inr (.inr 76)), none, none, some (.inl a3), some (.inl a4), some (.inl (a5 + (-2))), some (.inl (a6 + 1)), some (.inl a7), none, none] (And.intro rfl (And.intro rfl (And.intro rfl (And.intro rfl (And.intro rfl (And.intro rfl True.intro)))))) h109))))))) (fun c47 _ => (have h112 := (h48.2 c47); have o44 := h112.1; have h111 := h112.2; (ck_zast 228 rfl dX12_isSo_227 sh_93 (shn_93 hC) o44 (by decide) (have h114 := h111; have o45 := h114.1; have h113 := h114.2; (ck_iinc 231 rfl [some (.inr (.inr 76)), none, none, some (.inl a3), some (.inl a4), some (.inl (a5 + (-2))), some (.inl (a6 + 1)), some (.inl a7), some (.inl (w 79 (a4 + (2 * a7)))), some (.inl x10)] dX12_isSo_228 rfl (Nat.le_of_ble_eq_true rfl) rfl rfl o45 (ck_goto 346 dX12_isSo_231 rfl (ck_drop [some (.inr (.inr 76)), none, none, some (.inl a3), some (.inl a4), some (.inl (a5 + (-2))), some (.inl (a6 + 1)), some (.inl a7), none, none] (And.intro rfl (And.intro rfl (And.intro rfl (And.intro rfl (And.intro rfl (And.intro rfl True.intro)))))) h113))))))))))))))))))))))))))))))))))) (fun c60 => (have h116 := (h86.2 c60); have o51 := h116.1; have h115 := h116.2; (ck_iinc 157 rfl [some (.inr (.inr 76)), none, none, some (.inl a3), some (.inl a4), some (.inl (a5 + (-1))), some (.inl a6), some (.inl a7), some (.inl (w 79 (a4 + (2 * a7)))), some (.inl x10)] dX12_isSo_154 rfl (Nat.le_of_ble_eq_true rfl) rfl rfl o51 (ck_aload_n 158 rfl 0 dX12_isSo_157 rfl rfl (ck_getr 161 rfl dX12_isSo_158 fl_X12_64 sh_76 rfl (ck_iload 163 rfl dX12_isSo_161 rfl (ck_iconst 164 rfl dX12_isSo_163 rfl (ck_isub 165 rfl dX12_isSo_164 (ck_iload 167 rfl dX12_isSo_165 rfl (ck_aload_n 168 rfl 0 dX12_isSo_167 rfl rfl (ck_getr 171 rfl dX12_isSo_168 fl_X12_64 sh_76 rfl (ck_iload 173 rfl dX12_isSo_171 rfl (ck_iconst 174 rfl dX12_isSo_173 rfl (ck_isub 175 rfl dX12_isSo_174 (have h118 := h115; have o52 := h118.1; have h117 := h118.2; (ck_lald 176 rfl dX12_isSo_175 sh_92 (shn_92 hC) o52 _ rfl (fun (q53 : ck_l (w 92 ((a5 + (-1)) - 1))) => (ck_aload_n 177 rfl 0 dX12_isSo_176 rfl rfl (ck_getr 180 rfl dX12_isSo_177 fl_X12_64 sh_76 rfl (ck_iload 182 rfl dX12_isSo_180 rfl (have h120 := h117; have o54 := h120.1; have h119 := h120.2; (ck_lald 183 rfl dX12_isSo_182 sh_92 (shn_92 hC) o54 _ rfl (fun (q55 : ck_l (w 92 (a5 + (-1)))) => (have h122 := h119; have o56 := h122.1; have h121 := h122.2; (have h124 := h121; have o57 := h124.1; have h123 := h124.2; (ck_callS 186 rfl [.inl (w 79 (a4 + (2 * a7))), .inr (.inl (w 92 ((a5 + (-1)) - 1))), .inr (.inl (w 92 (a5 + (-1))))] [.inl ((a5 + (-1)) - 1), .inr (.inr 92)] dX12_isSo_183 cs_X12_309 rfl rfl (Nat.le_of_ble_eq_true rfl) (And.intro q7 (And.intro q53 (And.intro q55 True.intro))) (p_X12_two hC o56 o57 (fun q58 => (ck_last 187 rfl dX12_isSo_186 sh_92 (shn_92 hC) o52 q58.1 (ck_goto 346 dX12_isSo_187 rfl (ck_drop [some (.inr (.inr 76)), none, none, some (.inl a3), some (.inl a4), some (.inl (a5 + (-1))), some (.inl a6), some (.inl a7), none, none] (And.intro rfl (And.intro rfl (And.intro rfl (And.intro rfl (And.intro rfl (And.intro rfl True.intro)))))) h123)))))))))))))))))))))))))))))))))))) (fun c65 => (ck_aload_n 126 rfl 0 dX12_isSo_125 rfl rfl (ck_getr 129 rfl dX12_isSo_126 fl_X12_64 sh_76 rfl (ck_iload 131 rfl dX12_isSo_129 rfl (ck_iconst 132 rfl dX12_isSo_131 rfl (ck_isub 133 rfl dX12_isSo_132 (ck_aload_n 134 rfl 0 dX12_isSo_133 rfl rfl (ck_getr 137 rfl dX12_isSo_134 fl_X12_64 sh_76 rfl (ck_iload 139 rfl dX12_isSo_137 rfl (ck_iconst 140 rfl dX12_isSo_139 rfl (ck_isub 141 rfl dX12_isSo_140 (have h126 := (h85.2 c65); have o61 := h126.1; have h125 := h126.2; (ck_lald 142 rfl dX12_isSo_141 sh_92 (shn_92 hC) o61 _ rfl (fun (q62 : ck_l (w 92 (a5 - 1))) => (ck_lneg 143 rfl dX12_isSo_142 (have h128 := h125; have o63 := h128.1; have h127 := h128.2; (ck_last 144 rfl dX12_isSo_143 sh_92 (shn_92 hC) o61 o63 (ck_goto 346 dX12_isSo_144 rfl (ck_drop [some (.inr (.inr 76)), none, none, some (.inl a3), some (.inl a4), some (.inl a5), some (.inl a6), some (.inl a7), none, none] (And.intro rfl (And.intro rfl (And.intro rfl (And.intro rfl (And.intro rfl (And.intro rfl True.intro)))))) h127)))))))))))))))))))))))) (fun c75 => (ck_aload_n 88 rfl 0 dX12_isSo_87 rfl rfl (ck_getr 91 rfl dX12_isSo_88 fl_X12_64 sh_76 rfl (ck_iload 93 rfl dX12_isSo_91 rfl (ck_iload 95 rfl dX12_isSo_93 rfl (have h129 := (h84.2 c75); (ck_if_ne 98 rfl 104 dX12_isSo_95 rfl q7 (fun c72 => (ck_aload_n 105 rfl 0 dX12_isSo_104 rfl rfl (ck_getr 108 rfl dX12_isSo_105 fl_X12_61 sh_76 rfl (ck_iload 110 rfl dX12_isSo_108 rfl (have h131 := (h129.1 c72); have o66 := h131.1; have h130 := h131.2; (ck_iald 111 rfl dX12_isSo_110 sh_91 (shn_91 hC) o66 _ rfl (fun (q67 : ck_i (w 91 x10)) => (ck_i2l 112 rfl dX12_isSo_111 q67 (have h133 := h130; have o68 := h133.1; have h132 := h133.2; (ck_last 113 rfl dX12_isSo_112 sh_92 (shn_92 hC) o68 (ck_il q67) (have h135 := h132; have o69 := h135.1; have h134 := h135.2; (ck_iinc 116 rfl [some (.inr (.inr 76)), none, none, some (.inl a3), some (.inl a4), some (.inl (a5 + 1)), some (.inl a6), some (.inl a7), some (.inl (w 79 (a4 + (2 * a7)))), some (.inl x10)] dX12_isSo_113 rfl (Nat.le_of_ble_eq_true rfl) rfl rfl o69 (ck_goto 346 dX12_isSo_116 rfl (ck_drop [some (.inr (.inr 76)), none, none, some (.inl a3), some (.inl a4), some (.inl (a5 + 1)), some (.inl a6), some (.inl a7), none, none] (And.intro rfl (And.intro rfl (And.intro rfl (And.intro rfl (And.intro rfl (And.intro rfl True.intro)))))) h134)))))))))))))) (fun c73 => (ck_iload 100 rfl dX12_isSo_98 rfl (ck_i2l 101 rfl dX12_isSo_100 (by rw [e11]; exact q9) (ck_goto 112 dX12_isSo_101 rfl (have h137 := (h129.2 c73); have o70 := h137.1; have h136 := h137.2; (ck_last 113 rfl dX12_isSo_112 sh_92 (shn_92 hC) o70 (ck_il (by rw [e11]; exact q9)) (have h139 := h136; have o71 := h139.1; have h138 := h139.2; (ck_iinc 116 rfl [some (.inr (.inr 76)), none, none, some (.inl a3), some (.inl a4), some (.inl (a5 + 1)), some (.inl a6), some (.inl a7), some (.inl (w 79 (a4 + (2 * a7)))), some (.inl x10)] dX12_isSo_113 rfl (Nat.le_of_ble_eq_true rfl) rfl rfl o71 (ck_goto 346 dX12_isSo_116 rfl (ck_drop [some (.inr (.inr 76)), none, none, some (.inl a3), some (.inl a4), some (.inl (a5 + 1)), some (.inl a6), some (.inl a7), none, none] (And.intro rfl (And.intro rfl (And.intro rfl (And.intro rfl (And.intro rfl (And.intro rfl True.intro)))))) h138)))))))))))))))))))))))))))))))))))))))))))))))))))))))))))
set_option maxRecDepth 8000 in
theorem r_X12_isSo_346 {g : ch_G} {A R : Nat} (hC : ck_Cx g A R) {d : Nat} {K : Option ck_V → ck_W → Prop} {w : ck_W} {a3 a4 a5 a6 a7 : Int} (h : ck_i (a7 + 1) ∧ (ck_At (ch_C g A R) (d + 2) mX12_isSo K 38 [some (.inr (.inr 76)), none, none, some (.inl a3), some (.inl a4), some (.inl a5), some (.inl a6), some (.inl (a7 + 1)), none, none] [] w)) : ck_At (ch_C g A R) (d + 2) mX12_isSo K 346 [some (.inr (.inr 76)), none, none, some (.inl a3), some (.inl a4), some (.inl a5), some (.inl a6), some (.inl a7), none, none] [] w :=
  ck_in (fun hl => (have h3 := h; have o1 := h3.1; have h2 := h3.2; (ck_iinc 349 rfl [some (.inr (.inr 76)), none, none, some (.inl a3), some (.inl a4), some (.inl a5), some (.inl a6), some (.inl (a7 + 1)), none, none] dX12_isSo_346 rfl (Nat.le_of_ble_eq_true rfl) rfl rfl o1 (ck_goto 38 dX12_isSo_349 rfl h2))))
theorem S_X12_isSo {g : ch_G} {A R : Nat} (hC : ck_Cx g A R) {d : Nat} {K : Option ck_V → ck_W → Prop} {w : ck_W} {a1 a2 : Int} (h1 : 0 ≤ a1 ∧ a1 < 4) (h2 : 0 ≤ a2 ∧ a2 < 10) (ht : tx_cl (w 79) (800 * a1) a2) (hn : ∀ j, 0 ≤ j → j < 9 → -1000 ≤ w 91 j ∧ w 91 j ≤ 1000)
    (h : ∀ v w', (v = 0 ∨ v = 1) → (∀ k, k ≠ 92 → k ≠ 93 → w' k = w k) → K (some (.inl v)) w') : ck_Ex (ch_C g A R) (d + 2) mX12_isSo [.inr (.inr 76), .inl a1, .inl a2] w K := by
  obtain ⟨t0, t1, t2, t3⟩ := ht
  have e2 : 800 * a1 + 1 + 3 * a2 + 1 = 800 * a1 + 2 + 3 * a2 := by omega
  have e3 : 800 * a1 + 1 + 3 * a2 + 2 = 800 * a1 + 3 + 3 * a2 := by omega
  have l : ∀ (m : Nat) (a5 a6 a7 : Int) (u : ck_W), w 79 (800 * a1 + 3 + 3 * a2) - a7 = m → w 79 (800 * a1 + 2 + 3 * a2) ≤ a7 → (∀ k, k ≠ 92 → k ≠ 93 → u k = w k) → tx_st (w 79) (800 * a1 + 50) (w 79 (800 * a1 + 2 + 3 * a2)) (a7 - w 79 (800 * a1 + 2 + 3 * a2)).toNat = some (a5, a6) → (∀ j, 0 ≤ j → j < a5 → -1000000 ≤ u 92 j ∧ u 92 j ≤ 1000000) → (∀ j, 0 ≤ j → j < a6 → u 93 j = 0 ∨ u 93 j = 1) → ck_At (ch_C g A R) (d + 2) mX12_isSo K 38 [some (.inr (.inr 76)), none, none, some (.inl (800 * a1 + 1 + 3 * a2)), some (.inl (800 * a1 + 50)), some (.inl a5), some (.inl a6), some (.inl a7), none, none] [] u := by
    intro m
    induction m with
    | zero =>
      intro a5 a6 a7 u q1 q2 q3 q4 q5 q6
      have u79 := q3 79 (by decide) (by decide)
      refine r_X12_isSo_38 hC ?_
      rw [u79, e3]
      refine ⟨by omega, fun _ => ?_, fun z => absurd (by omega) z⟩
      rw [show a7 = w 79 (800 * a1 + 3 + 3 * a2) by omega, t3] at q4
      cases q4
      have b := q6 0 (by decide) (by decide)
      exact ⟨b, h _ u b q3⟩
    | succ m ih =>
      intro a5 a6 a7 u q1 q2 q3 q4 q5 q6
      have u79 := q3 79 (by decide) (by decide)
      have lb := tx_len q4
      have go : ∀ a5' a6' u', tx_eff (w 79 (800 * a1 + 50 + 2 * a7)) (w 79 (800 * a1 + 50 + 2 * a7 + 1)) (a5, a6) = some (a5', a6') → (∀ k, k ≠ 92 → k ≠ 93 → u' k = u k) → (∀ j, 0 ≤ j → j < a5' → -1000000 ≤ u' 92 j ∧ u' 92 j ≤ 1000000) → (∀ j, 0 ≤ j → j < a6' → u' 93 j = 0 ∨ u' 93 j = 1) → ck_At (ch_C g A R) (d + 2) mX12_isSo K 346 [some (.inr (.inr 76)), none, none, some (.inl (800 * a1 + 1 + 3 * a2)), some (.inl (800 * a1 + 50)), some (.inl a5'), some (.inl a6'), some (.inl a7), none, none] [] u' := by
        intro a5' a6' u' i1 i2 i3 i4
        refine r_X12_isSo_346 hC ⟨by constructor <;> omega, ih a5' a6' (a7 + 1) u' (by omega) (by omega) (fun k k1 k2 => by rw [i2 k k1 k2, q3 k k1 k2]) ?_ i3 i4⟩
        rw [show (a7 + 1 - w 79 (800 * a1 + 2 + 3 * a2)).toNat = (a7 - w 79 (800 * a1 + 2 + 3 * a2)).toNat + 1 by omega, tx_st, q4]
        rw [show w 79 (800 * a1 + 2 + 3 * a2) + ((a7 - w 79 (800 * a1 + 2 + 3 * a2)).toNat : Int) = a7 by omega]
        exact i1
      obtain ⟨y, ey⟩ := tx_pre (k := (a7 - w 79 (800 * a1 + 2 + 3 * a2)).toNat + 1) t3 (by omega)
      rw [tx_st, q4] at ey
      rw [show w 79 (800 * a1 + 2 + 3 * a2) + ((a7 - w 79 (800 * a1 + 2 + 3 * a2)).toNat : Int) = a7 by omega] at ey
      have ey' : tx_eff (w 79 (800 * a1 + 50 + 2 * a7)) (w 79 (800 * a1 + 50 + 2 * a7 + 1)) (a5, a6) = some y := ey
      have ef := tx_ef ey'
      refine r_X12_isSo_38 hC ?_
      rw [u79, e3]
      refine ⟨by omega, fun z => absurd z (by omega), fun _ => ⟨by omega, by omega, fun x ex => ?_⟩⟩
      dsimp only at ef lb
      rcases ef with ⟨o, gz, e⟩ | ⟨o, gz, e⟩ | ⟨o, gz, e⟩ | ⟨o, gz, e⟩ | ⟨o, gz, e⟩ | ⟨o, gz, e⟩ | ⟨o, gz, e⟩ <;> subst e
      · rw [← ex] at gz
        refine ⟨fun z => absurd z (by omega), fun _ => ⟨fun z => absurd o z, fun _ => ⟨by omega, by constructor <;> omega, go _ _ _ ey' (fun k k1 k2 => by rw [ck_up_ne k1]) (fun j j0 j1 => ?_) (fun j j0 j1 => by rw [ck_up_ne (by decide)]; exact q6 j j0 j1)⟩⟩⟩
        by_cases e : j = a5
        · subst e; rw [ck_up_eq]; omega
        · rw [ck_up_nj e]; exact q5 j j0 (by omega)
      · rw [← ex] at gz
        refine ⟨fun z => absurd z (by omega), fun _ => ⟨fun _ => ⟨by omega, by omega, by constructor <;> omega, go _ _ _ ey' (fun k k1 k2 => by rw [ck_up_ne k1]) (fun j j0 j1 => ?_) (fun j j0 j1 => by rw [ck_up_ne (by decide)]; exact q6 j j0 j1)⟩, fun z => absurd z (by omega)⟩⟩
        by_cases e : j = a5
        · subst e; rw [ck_up_eq, q3 91 (by decide) (by decide)]; have := hn x (by omega) (by omega); omega
        · rw [ck_up_nj e]; exact q5 j j0 (by omega)
      · have b := q5 (a5 - 1) (by omega) (by omega)
        refine ⟨fun _ => ⟨fun z => absurd o z, fun _ => ⟨by omega, by constructor <;> omega, go _ _ _ ey' (fun k k1 k2 => by rw [ck_up_ne k1]) (fun j j0 j1 => ?_) (fun j j0 j1 => by rw [ck_up_ne (by decide)]; exact q6 j j0 j1)⟩⟩, fun z => absurd (by omega) z⟩
        by_cases e : j = a5 - 1
        · subst e; rw [ck_up_eq]; omega
        · rw [ck_up_nj e]; exact q5 j j0 (by omega)
      · have b1 := q5 (a5 + -1 - 1) (by omega) (by omega)
        have b2 := q5 (a5 + -1) (by omega) (by omega)
        refine ⟨fun _ => ⟨fun _ => ⟨fun z => absurd z (by omega), fun _ => ⟨by constructor <;> omega, by omega, by omega, b1, b2, go _ _ _ ey' (fun k k1 k2 => by rw [ck_up_ne k1]) (fun j j0 j1 => ?_) (fun j j0 j1 => by rw [ck_up_ne (by decide)]; exact q6 j j0 j1)⟩⟩, fun z => absurd z (by omega)⟩, fun z => absurd (by omega) z⟩
        by_cases e : j = a5 + -1 - 1
        · subst e; rw [ck_up_eq]; exact rm_two_b _ _ _
        · rw [ck_up_nj e]; exact q5 j j0 (by omega)
      · have nt : ∀ v, (v = 0 ∨ v = 1) → ∀ j, 0 ≤ j → j < a6 + 1 → (ck_up u 93 a6 v) 93 j = 0 ∨ (ck_up u 93 a6 v) 93 j = 1 := fun v hv j j0 j1 => by
          by_cases e : j = a6
          · subst e; rw [ck_up_eq]; exact hv
          · rw [ck_up_nj e]; exact q6 j j0 (by omega)
        refine ⟨fun _ => ⟨fun _ => ⟨fun _ => ⟨fun z => absurd z (by omega), fun _ => ⟨by constructor <;> omega, by omega, by omega, fun _ => ⟨by omega, by constructor <;> omega, go _ _ _ ey' (fun k k1 k2 => by rw [ck_up_ne k2]) (fun j j0 j1 => by rw [ck_up_ne (by decide)]; exact q5 j j0 (by omega)) (nt 1 (by decide))⟩, fun _ => ⟨by omega, by constructor <;> omega, go _ _ _ ey' (fun k k1 k2 => by rw [ck_up_ne k2]) (fun j j0 j1 => by rw [ck_up_ne (by decide)]; exact q5 j j0 (by omega)) (nt 0 (by decide))⟩⟩⟩, fun z => absurd (by omega) z⟩, fun z => absurd z (by omega)⟩, fun z => absurd (by omega) z⟩
      · have nt : ∀ v, (v = 0 ∨ v = 1) → ∀ j, 0 ≤ j → j < a6 → (ck_up u 93 (a6 - 1) v) 93 j = 0 ∨ (ck_up u 93 (a6 - 1) v) 93 j = 1 := fun v hv j j0 j1 => by
          by_cases e : j = a6 - 1
          · subst e; rw [ck_up_eq]; exact hv
          · rw [ck_up_nj e]; exact q6 j j0 (by omega)
        refine ⟨fun _ => ⟨fun _ => ⟨fun _ => ⟨fun _ => ⟨fun z => absurd o z, fun _ => ⟨by omega, fun _ => go _ _ _ ey' (fun k k1 k2 => by rw [ck_up_ne k2]) (fun j j0 j1 => by rw [ck_up_ne (by decide)]; exact q5 j j0 j1) (nt 0 (by decide)), fun _ => go _ _ _ ey' (fun k k1 k2 => by rw [ck_up_ne k2]) (fun j j0 j1 => by rw [ck_up_ne (by decide)]; exact q5 j j0 j1) (nt 1 (by decide))⟩⟩, fun z => absurd (by omega) z⟩, fun z => absurd (by omega) z⟩, fun z => absurd z (by omega)⟩, fun z => absurd (by omega) z⟩
      · have ey2 : tx_eff (w 79 (800 * a1 + 50 + 2 * a7)) (w 79 (800 * a1 + 50 + 2 * a7 + 1)) (a5, a6) = some (a5, a6 + -1) := ey'
        have nt : ∀ v, (v = 0 ∨ v = 1) → ck_At (ch_C g A R) (d + 2) mX12_isSo K 346 [some (.inr (.inr 76)), none, none, some (.inl (800 * a1 + 1 + 3 * a2)), some (.inl (800 * a1 + 50)), some (.inl a5), some (.inl (a6 + -1)), some (.inl a7), none, none] [] (ck_up u 93 (a6 + -1 - 1) v) := fun v hv => go _ _ _ ey2 (fun k k1 k2 => by rw [ck_up_ne k2]) (fun j j0 j1 => by rw [ck_up_ne (by decide)]; exact q5 j j0 j1) (fun j j0 j1 => by
          by_cases e : j = a6 + -1 - 1
          · subst e; rw [ck_up_eq]; exact hv
          · rw [ck_up_nj e]; exact q6 j j0 (by omega))
        refine ⟨fun _ => ⟨fun _ => ⟨fun _ => ⟨fun _ => ⟨fun _ => ⟨by constructor <;> omega, fun _ => ⟨by omega, fun _ => nt 1 (by decide), fun _ => ⟨by omega, fun _ => nt 0 (by decide), fun _ => nt 1 (by decide)⟩⟩, fun _ => ⟨by omega, fun _ => nt 0 (by decide), fun _ => ⟨by omega, fun _ => nt 0 (by decide), fun _ => nt 1 (by decide)⟩⟩⟩, fun z => absurd z (by omega)⟩, fun z => absurd (by omega) z⟩, fun z => absurd (by omega) z⟩, fun z => absurd z (by omega)⟩, fun z => absurd (by omega) z⟩
  refine e_X12_isSo hC (fun x ex => ?_)
  subst ex
  refine ⟨by constructor <;> omega, by constructor <;> omega, by omega, ?_⟩
  rw [e2]
  exact l (w 79 (800 * a1 + 3 + 3 * a2) - w 79 (800 * a1 + 2 + 3 * a2)).toNat 0 0 _ w (by omega) (by omega) (fun _ _ _ => rfl) (by rw [show (w 79 (800 * a1 + 2 + 3 * a2) - w 79 (800 * a1 + 2 + 3 * a2)).toNat = 0 by omega]; rfl) (fun j j0 j1 => by omega) (fun j j0 j1 => by omega)
