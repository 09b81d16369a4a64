/-! ===== the class: the letter that ink shows ===== -/
/-- the best letter and its chance, from letter k on -/
def cs_bl (w : ck_W) (s : Int) : Nat → Int → Int × Int → Int × Int
  | 0, _, x => x
  | n + 1, k, x => cs_bl w s n (k + 1) (if cs_lc w k s ≤ x.2 then x else (k, cs_lc w k s))
theorem dX2_letterByInk_0 : decode cX2_letterByInk 0 = .ok (.iconst (-1), 1) := dk_2 (by decide +kernel)
theorem dX2_letterByInk_1 : decode cX2_letterByInk 1 = .ok (.istore_n 2, 1) := dk_61 (by decide +kernel)
theorem dX2_letterByInk_2 : decode cX2_letterByInk 2 = .ok (.lconst 0, 1) := dk_9 (by decide +kernel)
theorem dX2_letterByInk_3 : decode cX2_letterByInk 3 = .ok (.lstore_n 3, 1) := dk_66 (by decide +kernel)
theorem dX2_letterByInk_4 : decode cX2_letterByInk 4 = .ok (.iconst 0, 1) := dk_3 (by decide +kernel)
theorem dX2_letterByInk_5 : decode cX2_letterByInk 5 = .ok (.istore 5, 2) := dk_54 (by decide +kernel)
theorem dX2_letterByInk_7 : decode cX2_letterByInk 7 = .ok (.iload 5, 2) := dk_21 (by decide +kernel)
theorem dX2_letterByInk_9 : decode cX2_letterByInk 9 = .ok (.aload_n 0, 1) := dk_42 (by decide +kernel)
theorem dX2_letterByInk_10 : decode cX2_letterByInk 10 = .ok (.getfield 35, 3) := dk_180 0 35 (by decide +kernel)
theorem dX2_letterByInk_13 : decode cX2_letterByInk 13 = .ok (.if_icmp .ge 31, 3) := dk_162 0 31 (by decide +kernel)
theorem dX2_letterByInk_16 : decode cX2_letterByInk 16 = .ok (.aload_n 0, 1) := dk_42 (by decide +kernel)
theorem dX2_letterByInk_17 : decode cX2_letterByInk 17 = .ok (.iload 5, 2) := dk_21 (by decide +kernel)
theorem dX2_letterByInk_19 : decode cX2_letterByInk 19 = .ok (.iload_n 1, 1) := dk_27 (by decide +kernel)
theorem dX2_letterByInk_20 : decode cX2_letterByInk 20 = .ok (.invokevirtual 69, 3) := dk_182 0 69 (by decide +kernel)
theorem dX2_letterByInk_23 : decode cX2_letterByInk 23 = .ok (.lstore 6, 2) := dk_55 (by decide +kernel)
theorem dX2_letterByInk_25 : decode cX2_letterByInk 25 = .ok (.lload 6, 2) := dk_22 (by decide +kernel)
theorem dX2_letterByInk_27 : decode cX2_letterByInk 27 = .ok (.lload_n 3, 1) := dk_33 (by decide +kernel)
theorem dX2_letterByInk_28 : decode cX2_letterByInk 28 = .ok (.lcmp, 1) := dk_148 (by decide +kernel)
theorem dX2_letterByInk_29 : decode cX2_letterByInk 29 = .ok (.ifCond .le 9, 3) := dk_158 0 9 (by decide +kernel)
theorem dX2_letterByInk_32 : decode cX2_letterByInk 32 = .ok (.lload 6, 2) := dk_22 (by decide +kernel)
theorem dX2_letterByInk_34 : decode cX2_letterByInk 34 = .ok (.lstore_n 3, 1) := dk_66 (by decide +kernel)
theorem dX2_letterByInk_35 : decode cX2_letterByInk 35 = .ok (.iload 5, 2) := dk_21 (by decide +kernel)
theorem dX2_letterByInk_37 : decode cX2_letterByInk 37 = .ok (.istore_n 2, 1) := dk_61 (by decide +kernel)
theorem dX2_letterByInk_38 : decode cX2_letterByInk 38 = .ok (.iinc 5 1, 3) := dk_132 1 (by decide +kernel)
theorem dX2_letterByInk_41 : decode cX2_letterByInk 41 = .ok (.goto (-34), 3) := dk_167 255 222 (by decide +kernel)
theorem dX2_letterByInk_44 : decode cX2_letterByInk 44 = .ok (.iload_n 2, 1) := dk_28 (by decide +kernel)
theorem dX2_letterByInk_45 : decode cX2_letterByInk 45 = .ok (.ireturn, 1) := dk_172 (by decide +kernel)
set_option maxRecDepth 8000 in
theorem e_X2_letterByInk {g : ch_G} {A R : Nat} (hC : ck_Cx g A R) {d : Nat} {K : Option ck_V → ck_W → Prop} {w : ck_W} {a1 : Int} (h : ck_At (ch_C g A R) (d + 1) mX2_letterByInk K 7 [some (.inr (.inr 15)), some (.inl a1), some (.inl (-1)), some (.inr (.inl 0)), none, some (.inl 0), none, none] [] w) : ck_Ex (ch_C g A R) (d + 1) mX2_letterByInk [.inr (.inr 15), .inl a1] w K :=
  ck_entry hC.1 [some (.inr (.inr 15)), some (.inl a1), none, none, none, none, none, none] (by decide) (Nat.le_of_ble_eq_true rfl) rfl (fun q => q) (ck_in (fun hl => (ck_iconst 1 rfl dX2_letterByInk_0 rfl (ck_istore_n 2 rfl 2 [some (.inr (.inr 15)), some (.inl a1), some (.inl (-1)), none, none, none, none, none] dX2_letterByInk_1 rfl (Nat.le_of_ble_eq_true rfl) rfl rfl (show ck_i (-1) by decide) (ck_lconst 3 rfl 0 dX2_letterByInk_2 rfl (ck_lstore_n 4 rfl 3 [some (.inr (.inr 15)), some (.inl a1), some (.inl (-1)), some (.inr (.inl 0)), none, none, none, none] dX2_letterByInk_3 rfl (Nat.le_of_ble_eq_true rfl) rfl rfl (show ck_l 0 by decide) (ck_iconst 5 rfl dX2_letterByInk_4 rfl (ck_istore 7 rfl [some (.inr (.inr 15)), some (.inl a1), some (.inl (-1)), some (.inr (.inl 0)), none, some (.inl 0), none, none] dX2_letterByInk_5 (Nat.le_of_ble_eq_true rfl) rfl rfl (show ck_i 0 by decide) h))))))))
set_option maxRecDepth 8000 in
theorem r_X2_letterByInk_7 {g : ch_G} {A R : Nat} (hC : ck_Cx g A R) {d : Nat} {K : Option ck_V → ck_W → Prop} {w : ck_W} {a1 a2 a3 a5 : Int} (h : ((w 15 2) ≤ a5 → K (some (.inl a2)) w) ∧ (¬ (w 15 2) ≤ a5 → ck_CJ (ch_C g A R) d mX2_letterChance [.inr (.inr 15), .inl a5, .inl a1] w (fun v3 w2 => (v3 ≤ a3 → ck_i (a5 + 1) ∧ (ck_At (ch_C g A R) (d + 1) mX2_letterByInk K 7 [some (.inr (.inr 15)), some (.inl a1), some (.inl a2), some (.inr (.inl a3)), none, some (.inl (a5 + 1)), none, none] [] w2)) ∧ (¬ v3 ≤ a3 → ck_i (a5 + 1) ∧ (ck_At (ch_C g A R) (d + 1) mX2_letterByInk K 7 [some (.inr (.inr 15)), some (.inl a1), some (.inl a5), some (.inr (.inl v3)), none, some (.inl (a5 + 1)), none, none] [] w2))))) : ck_At (ch_C g A R) (d + 1) mX2_letterByInk K 7 [some (.inr (.inr 15)), some (.inl a1), some (.inl a2), some (.inr (.inl a3)), none, some (.inl a5), none, none] [] w :=
  ck_in (fun hl => (ck_iload 9 rfl dX2_letterByInk_7 rfl (ck_aload_n 10 rfl 0 dX2_letterByInk_9 rfl rfl (ck_geti 13 rfl 2 dX2_letterByInk_10 fl_X2_35 sh_15 rfl rfl _ rfl (fun (q1 : ck_i (w 15 2)) => (ck_icmp_ge 16 rfl 44 dX2_letterByInk_13 rfl hl.2.2.2.2.1 q1 (fun c10 => (ck_iload_n 45 rfl 2 dX2_letterByInk_44 rfl rfl (ck_iret dX2_letterByInk_45 rfl hl.2.2.1 (h.1 c10)))) (fun c11 => (ck_aload_n 17 rfl 0 dX2_letterByInk_16 rfl rfl (ck_iload 19 rfl dX2_letterByInk_17 rfl (ck_iload_n 20 rfl 1 dX2_letterByInk_19 rfl rfl (ck_callV 23 rfl [.inl a5, .inl a1] [] dX2_letterByInk_20 cv_X2_69 sh_15 rfl rfl (Nat.le_of_ble_eq_true rfl) (And.intro hl.2.2.2.2.1 (And.intro hl.2.1 True.intro)) (ck_mJ (h.2 c11) (fun v3 w2 q4 h5 => (ck_lstore 25 rfl [some (.inr (.inr 15)), some (.inl a1), some (.inl a2), some (.inr (.inl a3)), none, some (.inl a5), some (.inr (.inl v3)), none] dX2_letterByInk_23 (Nat.le_of_ble_eq_true rfl) rfl rfl q4 (ck_lload 27 rfl dX2_letterByInk_25 rfl (ck_lload_n 28 rfl 3 dX2_letterByInk_27 rfl rfl (ck_lcmp 29 rfl dX2_letterByInk_28 q4 hl.2.2.2.1 (ck_if_le 32 rfl 38 dX2_letterByInk_29 rfl ck_cmp_i (fun q => have c8 : v3 ≤ a3 := (ck_cmp_le.mp q); (have h13 := (h5.1 c8); have o6 := h13.1; have h12 := h13.2; (ck_iinc 41 rfl [some (.inr (.inr 15)), some (.inl a1), some (.inl a2), some (.inr (.inl a3)), none, some (.inl (a5 + 1)), some (.inr (.inl v3)), none] dX2_letterByInk_38 rfl (Nat.le_of_ble_eq_true rfl) rfl rfl o6 (ck_goto 7 dX2_letterByInk_41 rfl (ck_drop [some (.inr (.inr 15)), some (.inl a1), some (.inl a2), some (.inr (.inl a3)), none, some (.inl (a5 + 1)), none, none] (And.intro rfl (And.intro rfl (And.intro rfl (And.intro rfl (And.intro rfl True.intro))))) h12))))) (fun q => have c9 : ¬ v3 ≤ a3 := (fun r => q (ck_cmp_le.mpr r)); (ck_lload 34 rfl dX2_letterByInk_32 rfl (ck_lstore_n 35 rfl 3 [some (.inr (.inr 15)), some (.inl a1), some (.inl a2), some (.inr (.inl v3)), none, some (.inl a5), some (.inr (.inl v3)), none] dX2_letterByInk_34 rfl (Nat.le_of_ble_eq_true rfl) rfl rfl q4 (ck_iload 37 rfl dX2_letterByInk_35 rfl (ck_istore_n 38 rfl 2 [some (.inr (.inr 15)), some (.inl a1), some (.inl a5), some (.inr (.inl v3)), none, some (.inl a5), some (.inr (.inl v3)), none] dX2_letterByInk_37 rfl (Nat.le_of_ble_eq_true rfl) rfl rfl hl.2.2.2.2.1 (have h15 := (h5.2 c9); have o7 := h15.1; have h14 := h15.2; (ck_iinc 41 rfl [some (.inr (.inr 15)), some (.inl a1), some (.inl a5), some (.inr (.inl v3)), none, some (.inl (a5 + 1)), some (.inr (.inl v3)), none] dX2_letterByInk_38 rfl (Nat.le_of_ble_eq_true rfl) rfl rfl o7 (ck_goto 7 dX2_letterByInk_41 rfl (ck_drop [some (.inr (.inr 15)), some (.inl a1), some (.inl a5), some (.inr (.inl v3)), none, some (.inl (a5 + 1)), none, none] (And.intro rfl (And.intro rfl (And.intro rfl (And.intro rfl (And.intro rfl True.intro))))) h14)))))))))))))))))))))))))))
theorem L_X2_letterByInk {g : ch_G} {A R : Nat} (hC : ck_Cx g A R) {d : Nat} {K : Option ck_V → ck_W → Prop} {w : ck_W} {a1 : Int} (hL : cs_L w) (hW : cs_Lw w) (hH : cs_H w) (h1 : 0 ≤ a1 ∧ a1 < 512) (n : Nat) : ∀ (a2 a3 a5 : Int), w 15 2 - a5 = n → 0 ≤ a5 → K (some (.inl (cs_bl w a1 n a5 (a2, a3)).1)) w → ck_At (ch_C g A R) (d + 4) mX2_letterByInk K 7 [some (.inr (.inr 15)), some (.inl a1), some (.inl a2), some (.inr (.inl a3)), none, some (.inl a5), none, none] [] w := by
  have l0 := hL.1
  induction n with
  | zero =>
    intro a2 a3 a5 g1 g2 h
    exact r_X2_letterByInk_7 hC ⟨fun _ => h, fun q => absurd (by omega) q⟩
  | succ n ih =>
    intro a2 a3 a5 g1 g2 h
    rw [cs_bl] at h
    refine r_X2_letterByInk_7 hC ⟨fun q => absurd q (by omega), fun q => p_X2_letterChance hC hL hW hH h1 ⟨g2, by omega⟩ ?_⟩
    generalize cs_lc w a5 a1 = v at *
    refine ⟨_, rfl, fun _ => ⟨fun z => ⟨by constructor <;> omega, ih a2 a3 (a5 + 1) (by omega) (by omega) ?_⟩, fun z => ⟨by constructor <;> omega, ih a5 v (a5 + 1) (by omega) (by omega) ?_⟩⟩⟩
    · rw [if_pos z] at h; exact h
    · rw [if_neg z] at h; exact h
theorem S_X2_letterByInk {g : ch_G} {A R : Nat} (hC : ck_Cx g A R) {d : Nat} {K : Option ck_V → ck_W → Prop} {w : ck_W} {a1 : Int} (hL : cs_L w) (hW : cs_Lw w) (hH : cs_H w) (h1 : 0 ≤ a1 ∧ a1 < 512) (h : K (some (.inl (cs_bl w a1 (w 15 2).toNat 0 (-1, 0)).1)) w) : ck_Ex (ch_C g A R) (d + 4) mX2_letterByInk [.inr (.inr 15), .inl a1] w K := by
  have l0 := hL.1
  exact e_X2_letterByInk hC (L_X2_letterByInk hC hL hW hH h1 (w 15 2).toNat (-1) 0 0 (by omega) (by omega) h)
def cs_th (p a : Int) : Int := if a ≤ 0 then 0 else (p * 1000).tdiv a
theorem dX2_thousandths_0 : decode cX2_thousandths 0 = .ok (.lload_n 2, 1) := dk_32 (by decide +kernel)
theorem dX2_thousandths_1 : decode cX2_thousandths 1 = .ok (.lconst 0, 1) := dk_9 (by decide +kernel)
theorem dX2_thousandths_2 : decode cX2_thousandths 2 = .ok (.lcmp, 1) := dk_148 (by decide +kernel)
theorem dX2_thousandths_3 : decode cX2_thousandths 3 = .ok (.ifCond .le 14, 3) := dk_158 0 14 (by decide +kernel)
theorem dX2_thousandths_6 : decode cX2_thousandths 6 = .ok (.lload_n 0, 1) := dk_30 (by decide +kernel)
theorem dX2_thousandths_7 : decode cX2_thousandths 7 = .ok (.ldc2_w 76, 3) := dk_20 0 76 (by decide +kernel)
theorem dX2_thousandths_10 : decode cX2_thousandths 10 = .ok (.lmul, 1) := dk_105 (by decide +kernel)
theorem dX2_thousandths_11 : decode cX2_thousandths 11 = .ok (.lload_n 2, 1) := dk_32 (by decide +kernel)
theorem dX2_thousandths_12 : decode cX2_thousandths 12 = .ok (.ldiv, 1) := dk_109 (by decide +kernel)
theorem dX2_thousandths_13 : decode cX2_thousandths 13 = .ok (.l2i, 1) := dk_136 (by decide +kernel)
theorem dX2_thousandths_14 : decode cX2_thousandths 14 = .ok (.goto 4, 3) := dk_167 0 4 (by decide +kernel)
theorem dX2_thousandths_17 : decode cX2_thousandths 17 = .ok (.iconst 0, 1) := dk_3 (by decide +kernel)
theorem dX2_thousandths_18 : decode cX2_thousandths 18 = .ok (.ireturn, 1) := dk_172 (by decide +kernel)
set_option maxRecDepth 8000 in
theorem e_X2_thousandths {g : ch_G} {A R : Nat} (hC : ck_Cx g A R) {d : Nat} {K : Option ck_V → ck_W → Prop} {w : ck_W} {a0 a2 : Int} (h : (a2 ≤ 0 → K (some (.inl 0)) w) ∧ (¬ a2 ≤ 0 → ck_l (a0 * 1000) ∧ ((¬ a2 = 0) ∧ (ck_i ((a0 * 1000).tdiv a2) ∧ (K (some (.inl ((a0 * 1000).tdiv a2))) w))))) : ck_Ex (ch_C g A R) d mX2_thousandths [.inr (.inl a0), .inr (.inl a2)] w K :=
  ck_entry hC.1 [some (.inr (.inl a0)), none, some (.inr (.inl a2)), none] (by decide) (Nat.le_of_ble_eq_true rfl) rfl (fun q => q) (ck_in (fun hl => (ck_lload_n 1 rfl 2 dX2_thousandths_0 rfl rfl (ck_lconst 2 rfl 0 dX2_thousandths_1 rfl (ck_lcmp 3 rfl dX2_thousandths_2 hl.2.1 (show ck_l 0 by decide) (ck_if_le 6 rfl 17 dX2_thousandths_3 rfl ck_cmp_i (fun q => have c4 : a2 ≤ 0 := (ck_cmp_le.mp q); (ck_iconst 18 rfl dX2_thousandths_17 rfl (ck_iret dX2_thousandths_18 rfl (show ck_i 0 by decide) (h.1 c4)))) (fun q => have c5 : ¬ a2 ≤ 0 := (fun r => q (ck_cmp_le.mpr r)); (ck_lload_n 7 rfl 0 dX2_thousandths_6 rfl rfl (ck_ldc2 10 rfl 1000 kl_X2_76 dX2_thousandths_7 rfl (ck_lmul 11 rfl dX2_thousandths_10 (ck_lload_n 12 rfl 2 dX2_thousandths_11 rfl rfl (have h7 := (h.2 c5); have o1 := h7.1; have h6 := h7.2; (have h9 := h6; have o2 := h9.1; have h8 := h9.2; (ck_ldiv 13 rfl dX2_thousandths_12 o1 hl.2.1 o2 (ck_l2i 14 rfl dX2_thousandths_13 (ck_goto 18 dX2_thousandths_14 rfl (have h11 := h8; have o3 := h11.1; have h10 := h11.2; (ck_iret dX2_thousandths_18 rfl o3 h10))))))))))))))))))
theorem p_X2_thousandths {g : ch_G} {A R : Nat} (hC : ck_Cx g A R) {d : Nat} {K : Option ck_V → ck_W → Prop} {w : ck_W} {a0 a2 : Int} (h0 : 0 ≤ a0 ∧ a0 ≤ 1000000000000000) (h2 : a0 ≤ a2) (h : K (some (.inl (cs_th a0 a2))) w) : ck_Ex (ch_C g A R) d mX2_thousandths [.inr (.inl a0), .inr (.inl a2)] w K := by
  unfold cs_th at h
  refine e_X2_thousandths hC ⟨fun q => by rw [if_pos q] at h; exact h, fun q => ?_⟩
  rw [if_neg q] at h
  have tb : 0 ≤ (a0 * 1000).tdiv a2 ∧ (a0 * 1000).tdiv a2 ≤ 1000 := by
    rw [Int.tdiv_eq_ediv_of_nonneg (by omega)]
    refine ⟨Int.ediv_nonneg (by omega) (by omega), ?_⟩
    have t : (a0 * 1000) / a2 ≤ (1000 * a2) / a2 := Int.ediv_le_ediv (by omega) (by omega)
    rw [Int.mul_ediv_cancel _ (by omega)] at t
    exact t
  exact ⟨by constructor <;> omega, by omega, by constructor <;> omega, h⟩
