/-! ===== the class: columns and words ===== -/
def ck_dg : Nat → Int → Int
  | 0, x => x % 10
  | n + 1, x => ck_dg n (x / 10)
theorem dX11_column_0 : decode cX11_column 0 = .ok (.aload_n 0, 1) := dk_42 (by decide +kernel)
theorem dX11_column_1 : decode cX11_column 1 = .ok (.getfield 14, 3) := dk_180 0 14 (by decide +kernel)
theorem dX11_column_4 : decode cX11_column 4 = .ok (.getfield 23, 3) := dk_180 0 23 (by decide +kernel)
theorem dX11_column_7 : decode cX11_column 7 = .ok (.astore 5, 2) := dk_58 (by decide +kernel)
theorem dX11_column_9 : decode cX11_column 9 = .ok (.aload 5, 2) := dk_25 (by decide +kernel)
theorem dX11_column_11 : decode cX11_column 11 = .ok (.iload_n 1, 1) := dk_27 (by decide +kernel)
theorem dX11_column_12 : decode cX11_column 12 = .ok (.iload_n 2, 1) := dk_28 (by decide +kernel)
theorem dX11_column_13 : decode cX11_column 13 = .ok (.iconst 0, 1) := dk_3 (by decide +kernel)
theorem dX11_column_14 : decode cX11_column 14 = .ok (.invokevirtual 76, 3) := dk_182 0 76 (by decide +kernel)
theorem dX11_column_17 : decode cX11_column 17 = .ok (.istore 6, 2) := dk_54 (by decide +kernel)
theorem dX11_column_19 : decode cX11_column 19 = .ok (.iload 6, 2) := dk_21 (by decide +kernel)
theorem dX11_column_21 : decode cX11_column 21 = .ok (.iconst (-1), 1) := dk_2 (by decide +kernel)
theorem dX11_column_22 : decode cX11_column 22 = .ok (.if_icmp .eq 24, 3) := dk_159 0 24 (by decide +kernel)
theorem dX11_column_25 : decode cX11_column 25 = .ok (.lload_n 3, 1) := dk_33 (by decide +kernel)
theorem dX11_column_26 : decode cX11_column 26 = .ok (.lconst 0, 1) := dk_9 (by decide +kernel)
theorem dX11_column_27 : decode cX11_column 27 = .ok (.lcmp, 1) := dk_148 (by decide +kernel)
theorem dX11_column_28 : decode cX11_column 28 = .ok (.ifCond .lt 18, 3) := dk_155 0 18 (by decide +kernel)
theorem dX11_column_31 : decode cX11_column 31 = .ok (.lload_n 3, 1) := dk_33 (by decide +kernel)
theorem dX11_column_32 : decode cX11_column 32 = .ok (.bipush 10, 2) := dk_16 10 (by decide +kernel)
theorem dX11_column_34 : decode cX11_column 34 = .ok (.aload 5, 2) := dk_25 (by decide +kernel)
theorem dX11_column_36 : decode cX11_column 36 = .ok (.getfield 97, 3) := dk_180 0 97 (by decide +kernel)
theorem dX11_column_39 : decode cX11_column 39 = .ok (.invokestatic 101, 3) := dk_184 0 101 (by decide +kernel)
theorem dX11_column_42 : decode cX11_column 42 = .ok (.lcmp, 1) := dk_148 (by decide +kernel)
theorem dX11_column_43 : decode cX11_column 43 = .ok (.ifCond .lt 5, 3) := dk_155 0 5 (by decide +kernel)
theorem dX11_column_46 : decode cX11_column 46 = .ok (.iconst 0, 1) := dk_3 (by decide +kernel)
theorem dX11_column_47 : decode cX11_column 47 = .ok (.ireturn, 1) := dk_172 (by decide +kernel)
theorem dX11_column_48 : decode cX11_column 48 = .ok (.lload_n 3, 1) := dk_33 (by decide +kernel)
theorem dX11_column_49 : decode cX11_column 49 = .ok (.lstore 7, 2) := dk_55 (by decide +kernel)
theorem dX11_column_51 : decode cX11_column 51 = .ok (.iconst 0, 1) := dk_3 (by decide +kernel)
theorem dX11_column_52 : decode cX11_column 52 = .ok (.istore 9, 2) := dk_54 (by decide +kernel)
theorem dX11_column_54 : decode cX11_column 54 = .ok (.iload 9, 2) := dk_21 (by decide +kernel)
theorem dX11_column_56 : decode cX11_column 56 = .ok (.aload 5, 2) := dk_25 (by decide +kernel)
theorem dX11_column_58 : decode cX11_column 58 = .ok (.getfield 97, 3) := dk_180 0 97 (by decide +kernel)
theorem dX11_column_61 : decode cX11_column 61 = .ok (.if_icmp .ge 35, 3) := dk_162 0 35 (by decide +kernel)
theorem dX11_column_64 : decode cX11_column 64 = .ok (.aload 5, 2) := dk_25 (by decide +kernel)
theorem dX11_column_66 : decode cX11_column 66 = .ok (.getfield 86, 3) := dk_180 0 86 (by decide +kernel)
theorem dX11_column_69 : decode cX11_column 69 = .ok (.iload 6, 2) := dk_21 (by decide +kernel)
theorem dX11_column_71 : decode cX11_column 71 = .ok (.iload 9, 2) := dk_21 (by decide +kernel)
theorem dX11_column_73 : decode cX11_column 73 = .ok (.iadd, 1) := dk_96 (by decide +kernel)
theorem dX11_column_74 : decode cX11_column 74 = .ok (.lload 7, 2) := dk_22 (by decide +kernel)
theorem dX11_column_76 : decode cX11_column 76 = .ok (.ldc2_w 105, 3) := dk_20 0 105 (by decide +kernel)
theorem dX11_column_79 : decode cX11_column 79 = .ok (.lrem, 1) := dk_113 (by decide +kernel)
theorem dX11_column_80 : decode cX11_column 80 = .ok (.l2i, 1) := dk_136 (by decide +kernel)
theorem dX11_column_81 : decode cX11_column 81 = .ok (.iastore, 1) := dk_79 (by decide +kernel)
theorem dX11_column_82 : decode cX11_column 82 = .ok (.lload 7, 2) := dk_22 (by decide +kernel)
theorem dX11_column_84 : decode cX11_column 84 = .ok (.ldc2_w 105, 3) := dk_20 0 105 (by decide +kernel)
theorem dX11_column_87 : decode cX11_column 87 = .ok (.ldiv, 1) := dk_109 (by decide +kernel)
theorem dX11_column_88 : decode cX11_column 88 = .ok (.lstore 7, 2) := dk_55 (by decide +kernel)
theorem dX11_column_90 : decode cX11_column 90 = .ok (.iinc 9 1, 3) := dk_132 1 (by decide +kernel)
theorem dX11_column_93 : decode cX11_column 93 = .ok (.goto (-39), 3) := dk_167 255 217 (by decide +kernel)
theorem dX11_column_96 : decode cX11_column 96 = .ok (.aload_n 0, 1) := dk_42 (by decide +kernel)
theorem dX11_column_97 : decode cX11_column 97 = .ok (.getfield 30, 3) := dk_180 0 30 (by decide +kernel)
theorem dX11_column_100 : decode cX11_column 100 = .ok (.iload_n 1, 1) := dk_27 (by decide +kernel)
theorem dX11_column_101 : decode cX11_column 101 = .ok (.invokevirtual 93, 3) := dk_182 0 93 (by decide +kernel)
theorem dX11_column_104 : decode cX11_column 104 = .ok (.iconst 1, 1) := dk_4 (by decide +kernel)
theorem dX11_column_105 : decode cX11_column 105 = .ok (.ireturn, 1) := dk_172 (by decide +kernel)
set_option maxRecDepth 8000 in
theorem e_X11_column {g : ch_G} {A R : Nat} (hC : ck_Cx g A R) {d : Nat} {K : Option ck_V → ck_W → Prop} {w : ck_W} {a1 a2 a3 : Int} (h : ck_CI (ch_C g A R) d mX5_cell [.inr (.inr 3), .inl a1, .inl a2, .inl 0] w (fun v2 w1 => (v2 = (-1) → K (some (.inl 0)) w1) ∧ (¬ v2 = (-1) → (a3 < 0 → K (some (.inl 0)) w1) ∧ (¬ a3 < 0 → (0 ≤ (10 : Int)) ∧ ((0 ≤ (w1 3 1)) ∧ ((((10 : Int) ≤ 3 ∧ (w1 3 1) ≤ 27) ∨ ((10 : Int) ≤ 10 ∧ (w1 3 1) ≤ 12)) ∧ ((a3 < (ck_pw 10 (w1 3 1)) → ck_At (ch_C g A R) (d + 1) mX11_column K 54 [some (.inr (.inr 0)), some (.inl a1), none, none, none, some (.inr (.inr 3)), some (.inl v2), some (.inr (.inl a3)), none, some (.inl 0)] [] w1) ∧ (¬ a3 < (ck_pw 10 (w1 3 1)) → K (some (.inl 0)) w1)))))))) : ck_Ex (ch_C g A R) (d + 1) mX11_column [.inr (.inr 0), .inl a1, .inl a2, .inr (.inl a3)] w K :=
  ck_entry hC.1 [some (.inr (.inr 0)), some (.inl a1), some (.inl a2), some (.inr (.inl a3)), none, none, none, none, none, none] (by decide) (Nat.le_of_ble_eq_true rfl) rfl (fun q => q) (ck_in (fun hl => (ck_aload_n 1 rfl 0 dX11_column_0 rfl rfl (ck_getr 4 rfl dX11_column_1 fl_X11_14 sh_0 rfl (ck_getr 7 rfl dX11_column_4 fl_X11_23 sh_1 rfl (ck_astore 9 rfl [some (.inr (.inr 0)), some (.inl a1), some (.inl a2), some (.inr (.inl a3)), none, some (.inr (.inr 3)), none, none, none, none] dX11_column_7 (Nat.le_of_ble_eq_true rfl) rfl rfl (ck_aload 11 rfl dX11_column_9 rfl (ck_iload_n 12 rfl 1 dX11_column_11 rfl rfl (ck_iload_n 13 rfl 2 dX11_column_12 rfl rfl (ck_iconst 14 rfl dX11_column_13 rfl (ck_callV 17 rfl [.inl a1, .inl a2, .inl 0] [] dX11_column_14 cv_X11_76 sh_3 rfl rfl (Nat.le_of_ble_eq_true rfl) (And.intro hl.2.1 (And.intro hl.2.2.1 (And.intro (show ck_i 0 by decide) True.intro))) (ck_mI h (fun v2 w1 q3 h4 => (ck_istore 19 rfl [some (.inr (.inr 0)), some (.inl a1), some (.inl a2), some (.inr (.inl a3)), none, some (.inr (.inr 3)), some (.inl v2), none, none, none] dX11_column_17 (Nat.le_of_ble_eq_true rfl) rfl rfl q3 (ck_iload 21 rfl dX11_column_19 rfl (ck_iconst 22 rfl dX11_column_21 rfl (ck_icmp_eq 25 rfl 46 dX11_column_22 rfl q3 (show ck_i (-1) by decide) (fun c14 => (ck_iconst 47 rfl dX11_column_46 rfl (ck_zret dX11_column_47 rfl (by decide) (h4.1 c14)))) (fun c15 => (ck_lload_n 26 rfl 3 dX11_column_25 rfl rfl (ck_lconst 27 rfl 0 dX11_column_26 rfl (ck_lcmp 28 rfl dX11_column_27 hl.2.2.2.1 (show ck_l 0 by decide) (have h16 := (h4.2 c15); (ck_if_lt 31 rfl 46 dX11_column_28 rfl ck_cmp_i (fun q => have c12 : a3 < 0 := (ck_cmp_lt.mp q); (ck_iconst 47 rfl dX11_column_46 rfl (ck_zret dX11_column_47 rfl (by decide) (h16.1 c12)))) (fun q => have c13 : ¬ a3 < 0 := (fun r => q (ck_cmp_lt.mpr r)); (ck_lload_n 32 rfl 3 dX11_column_31 rfl rfl (ck_bipush 34 rfl dX11_column_32 rfl (ck_aload 36 rfl dX11_column_34 rfl (ck_geti 39 rfl 1 dX11_column_36 fl_X11_97 sh_3 rfl rfl _ rfl (fun (q5 : ck_i (w1 3 1)) => (have h18 := (h16.2 c13); have o6 := h18.1; have h17 := h18.2; (have h20 := h17; have o7 := h20.1; have h19 := h20.2; (have h22 := h19; have o8 := h22.1; have h21 := h22.2; (ck_callS 42 rfl [.inl 10, .inl (w1 3 1)] [.inr (.inl a3)] dX11_column_39 cs_X11_101 rfl rfl (Nat.le_of_ble_eq_true rfl) (And.intro (show ck_i 10 by decide) (And.intro q5 True.intro)) (p_X11_power hC o6 o7 o8 (fun q9 => (ck_lcmp 43 rfl dX11_column_42 hl.2.2.2.1 q9.1 (ck_if_lt 46 rfl 48 dX11_column_43 rfl ck_cmp_i (fun q => have c10 : a3 < (ck_pw 10 (w1 3 1)) := (ck_cmp_lt.mp q); (ck_lload_n 49 rfl 3 dX11_column_48 rfl rfl (ck_lstore 51 rfl [some (.inr (.inr 0)), some (.inl a1), some (.inl a2), some (.inr (.inl a3)), none, some (.inr (.inr 3)), some (.inl v2), some (.inr (.inl a3)), none, none] dX11_column_49 (Nat.le_of_ble_eq_true rfl) rfl rfl hl.2.2.2.1 (ck_iconst 52 rfl dX11_column_51 rfl (ck_istore 54 rfl [some (.inr (.inr 0)), some (.inl a1), some (.inl a2), some (.inr (.inl a3)), none, some (.inr (.inr 3)), some (.inl v2), some (.inr (.inl a3)), none, some (.inl 0)] dX11_column_52 (Nat.le_of_ble_eq_true rfl) rfl rfl (show ck_i 0 by decide) (ck_drop [some (.inr (.inr 0)), some (.inl a1), none, none, none, some (.inr (.inr 3)), some (.inl v2), some (.inr (.inl a3)), none, some (.inl 0)] (And.intro rfl (And.intro rfl (And.intro rfl (And.intro rfl (And.intro rfl (And.intro rfl True.intro)))))) (h21.1 c10))))))) (fun q => have c11 : ¬ a3 < (ck_pw 10 (w1 3 1)) := (fun r => q (ck_cmp_lt.mpr r)); (ck_iconst 47 rfl dX11_column_46 rfl (ck_zret dX11_column_47 rfl (by decide) (h21.2 c11)))))))))))))))))))))))))))))))))))))))))
set_option maxRecDepth 8000 in
theorem r_X11_column_54 {g : ch_G} {A R : Nat} (hC : ck_Cx g A R) {d : Nat} {K : Option ck_V → ck_W → Prop} {w : ck_W} {a1 a6 a7 a9 : Int} (h : ((w 3 1) ≤ a9 → ck_CN (ch_C g A R) d mX10_forget [.inr (.inr 51), .inl a1] w (fun w2 => K (some (.inl 1)) w2)) ∧ (¬ (w 3 1) ≤ a9 → ck_i (a7.tmod 10) ∧ ((0 ≤ (a6 + a9) ∧ (a6 + a9) < ((6 * A * R : Nat) : Int)) ∧ (ck_l (a7.tdiv 10) ∧ (ck_i (a9 + 1) ∧ (ck_At (ch_C g A R) (d + 1) mX11_column K 54 [some (.inr (.inr 0)), some (.inl a1), none, none, none, some (.inr (.inr 3)), some (.inl a6), some (.inr (.inl (a7.tdiv 10))), none, some (.inl (a9 + 1))] [] (ck_up w 4 (a6 + a9) (a7.tmod 10)))))))) : ck_At (ch_C g A R) (d + 1) mX11_column K 54 [some (.inr (.inr 0)), some (.inl a1), none, none, none, some (.inr (.inr 3)), some (.inl a6), some (.inr (.inl a7)), none, some (.inl a9)] [] w :=
  ck_in (fun hl => (ck_iload 56 rfl dX11_column_54 rfl (ck_aload 58 rfl dX11_column_56 rfl (ck_geti 61 rfl 1 dX11_column_58 fl_X11_97 sh_3 rfl rfl _ rfl (fun (q1 : ck_i (w 3 1)) => (ck_icmp_ge 64 rfl 96 dX11_column_61 rfl hl.2.2.2.2.2.1 q1 (fun c8 => (ck_aload_n 97 rfl 0 dX11_column_96 rfl rfl (ck_getr 100 rfl dX11_column_97 fl_X11_30 sh_0 rfl (ck_iload_n 101 rfl 1 dX11_column_100 rfl rfl (ck_callV 104 rfl [.inl a1] [] dX11_column_101 cv_X11_93 sh_51 rfl rfl (Nat.le_of_ble_eq_true rfl) (And.intro hl.2.1 True.intro) (ck_mN (h.1 c8) (fun w2 h3 => (ck_iconst 105 rfl dX11_column_104 rfl (ck_zret dX11_column_105 rfl (by decide) h3))))))))) (fun c9 => (ck_aload 66 rfl dX11_column_64 rfl (ck_getr 69 rfl dX11_column_66 fl_X11_86 sh_3 rfl (ck_iload 71 rfl dX11_column_69 rfl (ck_iload 73 rfl dX11_column_71 rfl (ck_iadd 74 rfl dX11_column_73 (ck_lload 76 rfl dX11_column_74 rfl (ck_ldc2 79 rfl 10 kl_X11_105 dX11_column_76 rfl (ck_lrem 80 rfl dX11_column_79 hl.2.2.2.2.1 (show ck_l 10 by decide) (by decide) (ck_l2i 81 rfl dX11_column_80 (have h11 := (h.2 c9); have o4 := h11.1; have h10 := h11.2; (have h13 := h10; have o5 := h13.1; have h12 := h13.2; (ck_iast 82 rfl dX11_column_81 sh_4 (shn_4 hC) o5 o4 (ck_lload 84 rfl dX11_column_82 rfl (ck_ldc2 87 rfl 10 kl_X11_105 dX11_column_84 rfl (ck_ldiv 88 rfl dX11_column_87 hl.2.2.2.2.1 (show ck_l 10 by decide) (by decide) (have h15 := h12; have o6 := h15.1; have h14 := h15.2; (ck_lstore 90 rfl [some (.inr (.inr 0)), some (.inl a1), none, none, none, some (.inr (.inr 3)), some (.inl a6), some (.inr (.inl (a7.tdiv 10))), none, some (.inl a9)] dX11_column_88 (Nat.le_of_ble_eq_true rfl) rfl rfl o6 (have h17 := h14; have o7 := h17.1; have h16 := h17.2; (ck_iinc 93 rfl [some (.inr (.inr 0)), some (.inl a1), none, none, none, some (.inr (.inr 3)), some (.inl a6), some (.inr (.inl (a7.tdiv 10))), none, some (.inl (a9 + 1))] dX11_column_90 rfl (Nat.le_of_ble_eq_true rfl) rfl rfl o7 (ck_goto 54 dX11_column_93 rfl h16)))))))))))))))))))))))))))
theorem C_column {g : ch_G} {A R : Nat} (hC : ck_Cx g A R) {d : Nat} {K : Option ck_V → ck_W → Prop} {w : ck_W} {a1 a2 a3 : Int} (hD : cs_D A R w) (h1 : cs_ok A R a1 a2 0 → (0 ≤ a3 ∧ a3 < ck_pw 10 (R : Int)) → ∀ w', (∀ k, k ≠ 4 → k ≠ 59 → w' k = w k) → w' 59 = rm_u (w 59) a1 0 → (∀ r, 0 ≤ r → r < (R : Int) → w' 4 (cs_at A R a1 a2 0 + r) = ck_dg r.toNat a3) → (∀ j, j < cs_at A R a1 a2 0 ∨ cs_at A R a1 a2 0 + (R : Int) ≤ j → w' 4 j = w 4 j) → K (some (.inl 1)) w') (h0 : ¬ (cs_ok A R a1 a2 0 ∧ (0 ≤ a3 ∧ a3 < ck_pw 10 (R : Int))) → K (some (.inl 0)) w) : ck_Ex (ch_C g A R) (d + 2) mX11_column [.inr (.inr 0), .inl a1, .inl a2, .inr (.inl a3)] w K := by
  have c := cs_ar hC
  have pb := ck_pw_b (b := 10) (e := (R : Int)) (by decide) (by omega)
  refine e_X11_column hC (p_X5_cell hC hD (fun ok => ⟨_, rfl, fun _ => ?_⟩) (fun no => ⟨_, rfl, fun _ => ⟨fun _ => h0 (fun x => no x.1), fun q => absurd rfl q⟩⟩))
  have b := cs_atb hC ok
  refine ⟨fun q => by omega, fun _ => ⟨fun q => h0 (fun x => by have := x.2; omega), fun q3 => ⟨by omega, by rw [hD.2]; omega, by rw [hD.2]; omega, ?_⟩⟩⟩
  rw [hD.2]
  refine ⟨fun q4 => ?_, fun q => h0 (fun x => q x.2.2)⟩
  have l : ∀ (n : Nat) (a7 a9 : Int) (u : ck_W), (R : Int) - a9 ≤ n → 0 ≤ a9 → a9 ≤ (R : Int) → (0 ≤ a7 ∧ a7 ≤ 7625597484987) → (∀ k, k ≠ 4 → u k = w k) → (∀ r, 0 ≤ r → r < a9 → u 4 (cs_at A R a1 a2 0 + r) = ck_dg r.toNat a3) → (∀ j, j < cs_at A R a1 a2 0 ∨ cs_at A R a1 a2 0 + a9 ≤ j → u 4 j = w 4 j) → (∀ m, ck_dg m a7 = ck_dg (a9.toNat + m) a3) → ck_At (ch_C g A R) (d + 2) mX11_column K 54 [some (.inr (.inr 0)), some (.inl a1), none, none, none, some (.inr (.inr 3)), some (.inl (cs_at A R a1 a2 0)), some (.inr (.inl a7)), none, some (.inl a9)] [] u := by
    intro n
    have done : ∀ (a9 : Int) (u : ck_W), (R : Int) ≤ a9 → a9 ≤ (R : Int) → (∀ k, k ≠ 4 → u k = w k) → (∀ r, 0 ≤ r → r < a9 → u 4 (cs_at A R a1 a2 0 + r) = ck_dg r.toNat a3) → (∀ j, j < cs_at A R a1 a2 0 ∨ cs_at A R a1 a2 0 + a9 ≤ j → u 4 j = w 4 j) → K (some (.inl 1)) (ck_up u 59 a1 0) := by
      intro a9 u g1 g2 g3 g4 g5
      refine h1 ok ⟨by omega, q4⟩ _ (fun k x y => by rw [ck_up_ne y]; exact g3 k x) (by rw [ck_up_row, g3 59 (by decide)]) (fun r r0 r1 => by rw [ck_up_ne (by decide)]; exact g4 r r0 (by omega)) (fun j hj => by rw [ck_up_ne (by decide)]; exact g5 j (by omega))
    induction n with
    | zero =>
      intro a7 a9 u g1 g2 g3 g4 g5 g6 g7 g8
      have e : u 3 1 = (R : Int) := by rw [g5 3 (by decide)]; exact hD.2
      refine r_X11_column_54 hC ⟨fun q => e_X10_forget hC ⟨fun _ => ⟨by have := ok.1; omega, rfl, done a9 u (by omega) g3 g5 g6 g7⟩, fun q => absurd ok.1 q⟩, fun q => absurd (by omega) q⟩
    | succ n ih =>
      intro a7 a9 u g1 g2 g3 g4 g5 g6 g7 g8
      have e : u 3 1 = (R : Int) := by rw [g5 3 (by decide)]; exact hD.2
      refine r_X11_column_54 hC ⟨fun q => e_X10_forget hC ⟨fun _ => ⟨by have := ok.1; omega, rfl, done a9 u (by omega) g3 g5 g6 g7⟩, fun q => absurd ok.1 q⟩, fun q => ?_⟩
      have t1 : a7.tmod 10 = a7 % 10 := Int.tmod_eq_emod_of_nonneg g4.1
      have t2 : a7.tdiv 10 = a7 / 10 := Int.tdiv_eq_ediv_of_nonneg g4.1
      rw [t1, t2]
      have b9 := cs_atb hC (z := a1) (a := a2) (r := a9) ⟨ok.1, ok.2.1, by omega⟩
      have e9 : cs_at A R a1 a2 a9 = cs_at A R a1 a2 0 + a9 := by unfold cs_at; omega
      refine ⟨by constructor <;> omega, by omega, by constructor <;> omega, by constructor <;> omega, ih (a7 / 10) (a9 + 1) _ (by omega) (by omega) (by omega) (by omega) (fun k hk => by rw [ck_up_ne hk]; exact g5 k hk) (fun r r0 r1 => ?_) (fun j hj => ?_) (fun m => ?_)⟩
      · by_cases x : r = a9
        · rw [x, ck_up_eq]
          have y := g8 0
          rw [ck_dg] at y
          exact y
        · rw [ck_up_nj (by omega)]; exact g6 r r0 (by omega)
      · rw [ck_up_nj (by omega)]; exact g7 j (by omega)
      · have y := g8 (m + 1)
        rw [ck_dg] at y
        rw [y, show (a9 + 1).toNat + m = a9.toNat + (m + 1) by omega]
  exact l 12 a3 0 w (by omega) (by omega) (by omega) (by omega) (fun _ _ => rfl) (fun r r0 r1 => by omega) (fun _ _ => rfl) (fun m => by rw [show (0 : Int).toNat + m = m by omega])
theorem dX2_hasLetter_0 : decode cX2_hasLetter 0 = .ok (.iload_n 1, 1) := dk_27 (by decide +kernel)
theorem dX2_hasLetter_1 : decode cX2_hasLetter 1 = .ok (.iconst 0, 1) := dk_3 (by decide +kernel)
theorem dX2_hasLetter_2 : decode cX2_hasLetter 2 = .ok (.aload_n 0, 1) := dk_42 (by decide +kernel)
theorem dX2_hasLetter_3 : decode cX2_hasLetter 3 = .ok (.getfield 35, 3) := dk_180 0 35 (by decide +kernel)
theorem dX2_hasLetter_6 : decode cX2_hasLetter 6 = .ok (.iconst 1, 1) := dk_4 (by decide +kernel)
theorem dX2_hasLetter_7 : decode cX2_hasLetter 7 = .ok (.isub, 1) := dk_100 (by decide +kernel)
theorem dX2_hasLetter_8 : decode cX2_hasLetter 8 = .ok (.invokestatic 41, 3) := dk_184 0 41 (by decide +kernel)
theorem dX2_hasLetter_11 : decode cX2_hasLetter 11 = .ok (.ireturn, 1) := dk_172 (by decide +kernel)
set_option maxRecDepth 8000 in
theorem e_X2_hasLetter {g : ch_G} {A R : Nat} (hC : ck_Cx g A R) {d : Nat} {K : Option ck_V → ck_W → Prop} {w : ck_W} {a1 : Int} (h : ck_i ((w 15 2) - 1) ∧ ((0 ≤ a1 ∧ a1 ≤ ((w 15 2) - 1) → K (some (.inl 1)) w) ∧ (¬ (0 ≤ a1 ∧ a1 ≤ ((w 15 2) - 1)) → K (some (.inl 0)) w))) : ck_Ex (ch_C g A R) (d + 1) mX2_hasLetter [.inr (.inr 15), .inl a1] w K :=
  ck_entry hC.1 [some (.inr (.inr 15)), some (.inl a1)] (by decide) (Nat.le_of_ble_eq_true rfl) rfl (fun q => q) (ck_in (fun hl => (ck_iload_n 1 rfl 1 dX2_hasLetter_0 rfl rfl (ck_iconst 2 rfl dX2_hasLetter_1 rfl (ck_aload_n 3 rfl 0 dX2_hasLetter_2 rfl rfl (ck_geti 6 rfl 2 dX2_hasLetter_3 fl_X2_35 sh_15 rfl rfl _ rfl (fun (q1 : ck_i (w 15 2)) => (ck_iconst 7 rfl dX2_hasLetter_6 rfl (ck_isub 8 rfl dX2_hasLetter_7 (have h7 := h; have o2 := h7.1; have h6 := h7.2; (have h5 := h6; ck_callSN 11 rfl [.inl a1, .inl 0, .inl ((w 15 2) - 1)] [] dX2_hasLetter_8 cn_X2_41 rfl rfl (Nat.le_of_ble_eq_true rfl) (And.intro hl.2.1 (And.intro (show ck_i 0 by decide) (And.intro o2 True.intro))) (p_X11_within hC (fun c3 _ => (ck_zret dX2_hasLetter_11 rfl (by decide) (h5.1 c3))) (fun c4 _ => (ck_zret dX2_hasLetter_11 rfl (by decide) (h5.2 c4)))))))))))))))
theorem p_X2_hasLetter {g : ch_G} {A R : Nat} (hC : ck_Cx g A R) {d : Nat} {K : Option ck_V → ck_W → Prop} {w : ck_W} {a1 : Int} (o0 : 0 ≤ (w 15 2) ∧ (w 15 2) ≤ 1000) (h1 : 0 ≤ a1 ∧ a1 ≤ (w 15 2) - 1 → K (some (.inl 1)) w) (h0 : ¬ (0 ≤ a1 ∧ a1 ≤ (w 15 2) - 1) → K (some (.inl 0)) w) : ck_Ex (ch_C g A R) (d + 1) mX2_hasLetter [.inr (.inr 15), .inl a1] w K := by
  refine e_X2_hasLetter hC ?_
  repeat' (first | apply And.intro | intro _)
  all_goals first | omega | exact h1 (by omega) | exact h0 (by omega)
theorem dX2_canSpell_0 : decode cX2_canSpell 0 = .ok (.aload_n 0, 1) := dk_42 (by decide +kernel)
theorem dX2_canSpell_1 : decode cX2_canSpell 1 = .ok (.iload_n 1, 1) := dk_27 (by decide +kernel)
theorem dX2_canSpell_2 : decode cX2_canSpell 2 = .ok (.invokevirtual 45, 3) := dk_182 0 45 (by decide +kernel)
theorem dX2_canSpell_5 : decode cX2_canSpell 5 = .ok (.ifCond .eq 13, 3) := dk_153 0 13 (by decide +kernel)
theorem dX2_canSpell_8 : decode cX2_canSpell 8 = .ok (.iload_n 2, 1) := dk_28 (by decide +kernel)
theorem dX2_canSpell_9 : decode cX2_canSpell 9 = .ok (.iconst (-1), 1) := dk_2 (by decide +kernel)
theorem dX2_canSpell_10 : decode cX2_canSpell 10 = .ok (.if_icmp .ne 10, 3) := dk_160 0 10 (by decide +kernel)
theorem dX2_canSpell_13 : decode cX2_canSpell 13 = .ok (.iload_n 3, 1) := dk_29 (by decide +kernel)
theorem dX2_canSpell_14 : decode cX2_canSpell 14 = .ok (.iconst (-1), 1) := dk_2 (by decide +kernel)
theorem dX2_canSpell_15 : decode cX2_canSpell 15 = .ok (.if_icmp .eq 5, 3) := dk_159 0 5 (by decide +kernel)
theorem dX2_canSpell_18 : decode cX2_canSpell 18 = .ok (.iconst 0, 1) := dk_3 (by decide +kernel)
theorem dX2_canSpell_19 : decode cX2_canSpell 19 = .ok (.ireturn, 1) := dk_172 (by decide +kernel)
theorem dX2_canSpell_20 : decode cX2_canSpell 20 = .ok (.iload_n 2, 1) := dk_28 (by decide +kernel)
theorem dX2_canSpell_21 : decode cX2_canSpell 21 = .ok (.iconst (-1), 1) := dk_2 (by decide +kernel)
theorem dX2_canSpell_22 : decode cX2_canSpell 22 = .ok (.if_icmp .eq 11, 3) := dk_159 0 11 (by decide +kernel)
theorem dX2_canSpell_25 : decode cX2_canSpell 25 = .ok (.aload_n 0, 1) := dk_42 (by decide +kernel)
theorem dX2_canSpell_26 : decode cX2_canSpell 26 = .ok (.iload_n 2, 1) := dk_28 (by decide +kernel)
theorem dX2_canSpell_27 : decode cX2_canSpell 27 = .ok (.invokevirtual 45, 3) := dk_182 0 45 (by decide +kernel)
theorem dX2_canSpell_30 : decode cX2_canSpell 30 = .ok (.ifCond .eq 20, 3) := dk_153 0 20 (by decide +kernel)
theorem dX2_canSpell_33 : decode cX2_canSpell 33 = .ok (.iload_n 3, 1) := dk_29 (by decide +kernel)
theorem dX2_canSpell_34 : decode cX2_canSpell 34 = .ok (.iconst (-1), 1) := dk_2 (by decide +kernel)
theorem dX2_canSpell_35 : decode cX2_canSpell 35 = .ok (.if_icmp .eq 11, 3) := dk_159 0 11 (by decide +kernel)
theorem dX2_canSpell_38 : decode cX2_canSpell 38 = .ok (.aload_n 0, 1) := dk_42 (by decide +kernel)
theorem dX2_canSpell_39 : decode cX2_canSpell 39 = .ok (.iload_n 3, 1) := dk_29 (by decide +kernel)
theorem dX2_canSpell_40 : decode cX2_canSpell 40 = .ok (.invokevirtual 45, 3) := dk_182 0 45 (by decide +kernel)
theorem dX2_canSpell_43 : decode cX2_canSpell 43 = .ok (.ifCond .eq 7, 3) := dk_153 0 7 (by decide +kernel)
theorem dX2_canSpell_46 : decode cX2_canSpell 46 = .ok (.iconst 1, 1) := dk_4 (by decide +kernel)
theorem dX2_canSpell_47 : decode cX2_canSpell 47 = .ok (.goto 4, 3) := dk_167 0 4 (by decide +kernel)
theorem dX2_canSpell_50 : decode cX2_canSpell 50 = .ok (.iconst 0, 1) := dk_3 (by decide +kernel)
theorem dX2_canSpell_51 : decode cX2_canSpell 51 = .ok (.ireturn, 1) := dk_172 (by decide +kernel)
set_option maxRecDepth 8000 in
theorem e_X2_canSpell {g : ch_G} {A R : Nat} (hC : ck_Cx g A R) {d : Nat} {K : Option ck_V → ck_W → Prop} {w : ck_W} {a1 a2 a3 : Int} (h : (0 ≤ (w 15 2) ∧ (w 15 2) ≤ 1000) ∧ ((0 ≤ a1 ∧ a1 ≤ (w 15 2) - 1 → (¬ a2 = (-1) → (a2 = (-1) → (a3 = (-1) → K (some (.inl 1)) w) ∧ (¬ a3 = (-1) → (0 ≤ a3 ∧ a3 ≤ (w 15 2) - 1 → K (some (.inl 1)) w) ∧ (¬ (0 ≤ a3 ∧ a3 ≤ (w 15 2) - 1) → K (some (.inl 0)) w))) ∧ (¬ a2 = (-1) → (0 ≤ a2 ∧ a2 ≤ (w 15 2) - 1 → (a3 = (-1) → K (some (.inl 1)) w) ∧ (¬ a3 = (-1) → (0 ≤ a3 ∧ a3 ≤ (w 15 2) - 1 → K (some (.inl 1)) w) ∧ (¬ (0 ≤ a3 ∧ a3 ≤ (w 15 2) - 1) → K (some (.inl 0)) w))) ∧ (¬ (0 ≤ a2 ∧ a2 ≤ (w 15 2) - 1) → K (some (.inl 0)) w))) ∧ (a2 = (-1) → (a3 = (-1) → (a2 = (-1) → (a3 = (-1) → K (some (.inl 1)) w) ∧ (¬ a3 = (-1) → (0 ≤ a3 ∧ a3 ≤ (w 15 2) - 1 → K (some (.inl 1)) w) ∧ (¬ (0 ≤ a3 ∧ a3 ≤ (w 15 2) - 1) → K (some (.inl 0)) w))) ∧ (¬ a2 = (-1) → (0 ≤ a2 ∧ a2 ≤ (w 15 2) - 1 → (a3 = (-1) → K (some (.inl 1)) w) ∧ (¬ a3 = (-1) → (0 ≤ a3 ∧ a3 ≤ (w 15 2) - 1 → K (some (.inl 1)) w) ∧ (¬ (0 ≤ a3 ∧ a3 ≤ (w 15 2) - 1) → K (some (.inl 0)) w))) ∧ (¬ (0 ≤ a2 ∧ a2 ≤ (w 15 2) - 1) → K (some (.inl 0)) w))) ∧ (¬ a3 = (-1) → K (some (.inl 0)) w))) ∧ (¬ (0 ≤ a1 ∧ a1 ≤ (w 15 2) - 1) → K (some (.inl 0)) w))) : ck_Ex (ch_C g A R) (d + 2) mX2_canSpell [.inr (.inr 15), .inl a1, .inl a2, .inl a3] w K :=
  ck_entry hC.1 [some (.inr (.inr 15)), some (.inl a1), some (.inl a2), some (.inl a3)] (by decide) (Nat.le_of_ble_eq_true rfl) rfl (fun q => q) (ck_in (fun hl => (ck_aload_n 1 rfl 0 dX2_canSpell_0 rfl rfl (ck_iload_n 2 rfl 1 dX2_canSpell_1 rfl rfl (have h40 := h; have o1 := h40.1; have h39 := h40.2; (have h38 := h39; ck_callV 5 rfl [.inl a1] [] dX2_canSpell_2 cv_X2_45 sh_15 rfl rfl (Nat.le_of_ble_eq_true rfl) (And.intro hl.2.1 True.intro) (p_X2_hasLetter hC o1 (fun c36 _ => (ck_if_eq 8 rfl 18 dX2_canSpell_5 rfl (by decide) (fun q => absurd q (by decide)) (fun _ => (ck_iload_n 9 rfl 2 dX2_canSpell_8 rfl rfl (ck_iconst 10 rfl dX2_canSpell_9 rfl (have h41 := (h38.1 c36); (ck_icmp_ne 13 rfl 20 dX2_canSpell_10 rfl hl.2.2.1 (show ck_i (-1) by decide) (fun c34 => (ck_iload_n 21 rfl 2 dX2_canSpell_20 rfl rfl (ck_iconst 22 rfl dX2_canSpell_21 rfl (have h42 := (h41.1 c34); (ck_icmp_eq 25 rfl 33 dX2_canSpell_22 rfl hl.2.2.1 (show ck_i (-1) by decide) (fun c15 => (ck_iload_n 34 rfl 3 dX2_canSpell_33 rfl rfl (ck_iconst 35 rfl dX2_canSpell_34 rfl (have h43 := (h42.1 c15); (ck_icmp_eq 38 rfl 46 dX2_canSpell_35 rfl hl.2.2.2.1 (show ck_i (-1) by decide) (fun c5 => (ck_iconst 47 rfl dX2_canSpell_46 rfl (ck_goto 51 dX2_canSpell_47 rfl (ck_zret dX2_canSpell_51 rfl (by decide) (h43.1 c5))))) (fun c6 => (ck_aload_n 39 rfl 0 dX2_canSpell_38 rfl rfl (ck_iload_n 40 rfl 3 dX2_canSpell_39 rfl rfl (have h4 := (h43.2 c6); ck_callV 43 rfl [.inl a3] [] dX2_canSpell_40 cv_X2_45 sh_15 rfl rfl (Nat.le_of_ble_eq_true rfl) (And.intro hl.2.2.2.1 True.intro) (p_X2_hasLetter hC o1 (fun c2 _ => (ck_if_eq 46 rfl 50 dX2_canSpell_43 rfl (by decide) (fun q => absurd q (by decide)) (fun _ => (ck_iconst 47 rfl dX2_canSpell_46 rfl (ck_goto 51 dX2_canSpell_47 rfl (ck_zret dX2_canSpell_51 rfl (by decide) (h4.1 c2))))))) (fun c3 _ => (ck_if_eq 46 rfl 50 dX2_canSpell_43 rfl (by decide) (fun _ => (ck_iconst 51 rfl dX2_canSpell_50 rfl (ck_zret dX2_canSpell_51 rfl (by decide) (h4.2 c3)))) (fun q => absurd q (by decide)))))))))))))) (fun c16 => (ck_aload_n 26 rfl 0 dX2_canSpell_25 rfl rfl (ck_iload_n 27 rfl 2 dX2_canSpell_26 rfl rfl (have h14 := (h42.2 c16); ck_callV 30 rfl [.inl a2] [] dX2_canSpell_27 cv_X2_45 sh_15 rfl rfl (Nat.le_of_ble_eq_true rfl) (And.intro hl.2.2.1 True.intro) (p_X2_hasLetter hC o1 (fun c12 _ => (ck_if_eq 33 rfl 50 dX2_canSpell_30 rfl (by decide) (fun q => absurd q (by decide)) (fun _ => (ck_iload_n 34 rfl 3 dX2_canSpell_33 rfl rfl (ck_iconst 35 rfl dX2_canSpell_34 rfl (have h44 := (h14.1 c12); (ck_icmp_eq 38 rfl 46 dX2_canSpell_35 rfl hl.2.2.2.1 (show ck_i (-1) by decide) (fun c10 => (ck_iconst 47 rfl dX2_canSpell_46 rfl (ck_goto 51 dX2_canSpell_47 rfl (ck_zret dX2_canSpell_51 rfl (by decide) (h44.1 c10))))) (fun c11 => (ck_aload_n 39 rfl 0 dX2_canSpell_38 rfl rfl (ck_iload_n 40 rfl 3 dX2_canSpell_39 rfl rfl (have h9 := (h44.2 c11); ck_callV 43 rfl [.inl a3] [] dX2_canSpell_40 cv_X2_45 sh_15 rfl rfl (Nat.le_of_ble_eq_true rfl) (And.intro hl.2.2.2.1 True.intro) (p_X2_hasLetter hC o1 (fun c7 _ => (ck_if_eq 46 rfl 50 dX2_canSpell_43 rfl (by decide) (fun q => absurd q (by decide)) (fun _ => (ck_iconst 47 rfl dX2_canSpell_46 rfl (ck_goto 51 dX2_canSpell_47 rfl (ck_zret dX2_canSpell_51 rfl (by decide) (h9.1 c7))))))) (fun c8 _ => (ck_if_eq 46 rfl 50 dX2_canSpell_43 rfl (by decide) (fun _ => (ck_iconst 51 rfl dX2_canSpell_50 rfl (ck_zret dX2_canSpell_51 rfl (by decide) (h9.2 c8)))) (fun q => absurd q (by decide)))))))))))))))) (fun c13 _ => (ck_if_eq 33 rfl 50 dX2_canSpell_30 rfl (by decide) (fun _ => (ck_iconst 51 rfl dX2_canSpell_50 rfl (ck_zret dX2_canSpell_51 rfl (by decide) (h14.2 c13)))) (fun q => absurd q (by decide)))))))))))))) (fun c35 => (ck_iload_n 14 rfl 3 dX2_canSpell_13 rfl rfl (ck_iconst 15 rfl dX2_canSpell_14 rfl (have h45 := (h41.2 c35); (ck_icmp_eq 18 rfl 20 dX2_canSpell_15 rfl hl.2.2.2.1 (show ck_i (-1) by decide) (fun c32 => (ck_iload_n 21 rfl 2 dX2_canSpell_20 rfl rfl (ck_iconst 22 rfl dX2_canSpell_21 rfl (have h46 := (h45.1 c32); (ck_icmp_eq 25 rfl 33 dX2_canSpell_22 rfl hl.2.2.1 (show ck_i (-1) by decide) (fun c30 => (ck_iload_n 34 rfl 3 dX2_canSpell_33 rfl rfl (ck_iconst 35 rfl dX2_canSpell_34 rfl (have h47 := (h46.1 c30); (ck_icmp_eq 38 rfl 46 dX2_canSpell_35 rfl hl.2.2.2.1 (show ck_i (-1) by decide) (fun c20 => (ck_iconst 47 rfl dX2_canSpell_46 rfl (ck_goto 51 dX2_canSpell_47 rfl (ck_zret dX2_canSpell_51 rfl (by decide) (h47.1 c20))))) (fun c21 => (ck_aload_n 39 rfl 0 dX2_canSpell_38 rfl rfl (ck_iload_n 40 rfl 3 dX2_canSpell_39 rfl rfl (have h19 := (h47.2 c21); ck_callV 43 rfl [.inl a3] [] dX2_canSpell_40 cv_X2_45 sh_15 rfl rfl (Nat.le_of_ble_eq_true rfl) (And.intro hl.2.2.2.1 True.intro) (p_X2_hasLetter hC o1 (fun c17 _ => (ck_if_eq 46 rfl 50 dX2_canSpell_43 rfl (by decide) (fun q => absurd q (by decide)) (fun _ => (ck_iconst 47 rfl dX2_canSpell_46 rfl (ck_goto 51 dX2_canSpell_47 rfl (ck_zret dX2_canSpell_51 rfl (by decide) (h19.1 c17))))))) (fun c18 _ => (ck_if_eq 46 rfl 50 dX2_canSpell_43 rfl (by decide) (fun _ => (ck_iconst 51 rfl dX2_canSpell_50 rfl (ck_zret dX2_canSpell_51 rfl (by decide) (h19.2 c18)))) (fun q => absurd q (by decide)))))))))))))) (fun c31 => (ck_aload_n 26 rfl 0 dX2_canSpell_25 rfl rfl (ck_iload_n 27 rfl 2 dX2_canSpell_26 rfl rfl (have h29 := (h46.2 c31); ck_callV 30 rfl [.inl a2] [] dX2_canSpell_27 cv_X2_45 sh_15 rfl rfl (Nat.le_of_ble_eq_true rfl) (And.intro hl.2.2.1 True.intro) (p_X2_hasLetter hC o1 (fun c27 _ => (ck_if_eq 33 rfl 50 dX2_canSpell_30 rfl (by decide) (fun q => absurd q (by decide)) (fun _ => (ck_iload_n 34 rfl 3 dX2_canSpell_33 rfl rfl (ck_iconst 35 rfl dX2_canSpell_34 rfl (have h48 := (h29.1 c27); (ck_icmp_eq 38 rfl 46 dX2_canSpell_35 rfl hl.2.2.2.1 (show ck_i (-1) by decide) (fun c25 => (ck_iconst 47 rfl dX2_canSpell_46 rfl (ck_goto 51 dX2_canSpell_47 rfl (ck_zret dX2_canSpell_51 rfl (by decide) (h48.1 c25))))) (fun c26 => (ck_aload_n 39 rfl 0 dX2_canSpell_38 rfl rfl (ck_iload_n 40 rfl 3 dX2_canSpell_39 rfl rfl (have h24 := (h48.2 c26); ck_callV 43 rfl [.inl a3] [] dX2_canSpell_40 cv_X2_45 sh_15 rfl rfl (Nat.le_of_ble_eq_true rfl) (And.intro hl.2.2.2.1 True.intro) (p_X2_hasLetter hC o1 (fun c22 _ => (ck_if_eq 46 rfl 50 dX2_canSpell_43 rfl (by decide) (fun q => absurd q (by decide)) (fun _ => (ck_iconst 47 rfl dX2_canSpell_46 rfl (ck_goto 51 dX2_canSpell_47 rfl (ck_zret dX2_canSpell_51 rfl (by decide) (h24.1 c22))))))) (fun c23 _ => (ck_if_eq 46 rfl 50 dX2_canSpell_43 rfl (by decide) (fun _ => (ck_iconst 51 rfl dX2_canSpell_50 rfl (ck_zret dX2_canSpell_51 rfl (by decide) (h24.2 c23)))) (fun q => absurd q (by decide)))))))))))))))) (fun c28 _ => (ck_if_eq 33 rfl 50 dX2_canSpell_30 rfl (by decide) (fun _ => (ck_iconst 51 rfl dX2_canSpell_50 rfl (ck_zret dX2_canSpell_51 rfl (by decide) (h29.2 c28)))) (fun q => absurd q (by decide)))))))))))))) (fun c33 => (ck_iconst 19 rfl dX2_canSpell_18 rfl (ck_zret dX2_canSpell_19 rfl (by decide) (h45.2 c33)))))))))))))))) (fun c37 _ => (ck_if_eq 8 rfl 18 dX2_canSpell_5 rfl (by decide) (fun _ => (ck_iconst 19 rfl dX2_canSpell_18 rfl (ck_zret dX2_canSpell_19 rfl (by decide) (h38.2 c37)))) (fun q => absurd q (by decide)))))))))))
theorem p_X2_canSpell {g : ch_G} {A R : Nat} (hC : ck_Cx g A R) {d : Nat} {K : Option ck_V → ck_W → Prop} {w : ck_W} {a1 a2 a3 : Int} (hc : 0 ≤ w 15 2 ∧ w 15 2 ≤ 12) (h1 : rm_spell (w 15 2) a1 a2 a3 → K (some (.inl 1)) w) (h0 : ¬ rm_spell (w 15 2) a1 a2 a3 → K (some (.inl 0)) w) : ck_Ex (ch_C g A R) (d + 2) mX2_canSpell [.inr (.inr 15), .inl a1, .inl a2, .inl a3] w K := by
  unfold rm_spell at h1 h0
  refine e_X2_canSpell hC ?_
  with_reducible repeat' (first | apply And.intro | intro _)
  all_goals first | omega | exact h1 (by omega) | exact h0 (by omega)
theorem dX2_letterOf_0 : decode cX2_letterOf 0 = .ok (.iload_n 1, 1) := dk_27 (by decide +kernel)
theorem dX2_letterOf_1 : decode cX2_letterOf 1 = .ok (.iconst 0, 1) := dk_3 (by decide +kernel)
theorem dX2_letterOf_2 : decode cX2_letterOf 2 = .ok (.aload_n 0, 1) := dk_42 (by decide +kernel)
theorem dX2_letterOf_3 : decode cX2_letterOf 3 = .ok (.getfield 38, 3) := dk_180 0 38 (by decide +kernel)
theorem dX2_letterOf_6 : decode cX2_letterOf 6 = .ok (.iconst 1, 1) := dk_4 (by decide +kernel)
theorem dX2_letterOf_7 : decode cX2_letterOf 7 = .ok (.isub, 1) := dk_100 (by decide +kernel)
theorem dX2_letterOf_8 : decode cX2_letterOf 8 = .ok (.invokestatic 41, 3) := dk_184 0 41 (by decide +kernel)
theorem dX2_letterOf_11 : decode cX2_letterOf 11 = .ok (.ifCond .eq 12, 3) := dk_153 0 12 (by decide +kernel)
theorem dX2_letterOf_14 : decode cX2_letterOf 14 = .ok (.iload_n 2, 1) := dk_28 (by decide +kernel)
theorem dX2_letterOf_15 : decode cX2_letterOf 15 = .ok (.iconst 0, 1) := dk_3 (by decide +kernel)
theorem dX2_letterOf_16 : decode cX2_letterOf 16 = .ok (.iconst 2, 1) := dk_5 (by decide +kernel)
theorem dX2_letterOf_17 : decode cX2_letterOf 17 = .ok (.invokestatic 41, 3) := dk_184 0 41 (by decide +kernel)
theorem dX2_letterOf_20 : decode cX2_letterOf 20 = .ok (.ifCond .ne 5, 3) := dk_154 0 5 (by decide +kernel)
theorem dX2_letterOf_23 : decode cX2_letterOf 23 = .ok (.iconst (-1), 1) := dk_2 (by decide +kernel)
theorem dX2_letterOf_24 : decode cX2_letterOf 24 = .ok (.ireturn, 1) := dk_172 (by decide +kernel)
theorem dX2_letterOf_25 : decode cX2_letterOf 25 = .ok (.aload_n 0, 1) := dk_42 (by decide +kernel)
theorem dX2_letterOf_26 : decode cX2_letterOf 26 = .ok (.getfield 18, 3) := dk_180 0 18 (by decide +kernel)
theorem dX2_letterOf_29 : decode cX2_letterOf 29 = .ok (.iload_n 1, 1) := dk_27 (by decide +kernel)
theorem dX2_letterOf_30 : decode cX2_letterOf 30 = .ok (.iconst 3, 1) := dk_6 (by decide +kernel)
theorem dX2_letterOf_31 : decode cX2_letterOf 31 = .ok (.imul, 1) := dk_104 (by decide +kernel)
theorem dX2_letterOf_32 : decode cX2_letterOf 32 = .ok (.iload_n 2, 1) := dk_28 (by decide +kernel)
theorem dX2_letterOf_33 : decode cX2_letterOf 33 = .ok (.iadd, 1) := dk_96 (by decide +kernel)
theorem dX2_letterOf_34 : decode cX2_letterOf 34 = .ok (.iaload, 1) := dk_46 (by decide +kernel)
theorem dX2_letterOf_35 : decode cX2_letterOf 35 = .ok (.ireturn, 1) := dk_172 (by decide +kernel)
set_option maxRecDepth 8000 in
theorem e_X2_letterOf {g : ch_G} {A R : Nat} (hC : ck_Cx g A R) {d : Nat} {K : Option ck_V → ck_W → Prop} {w : ck_W} {a1 a2 : Int} (h : ck_i ((w 15 5) - 1) ∧ ((0 ≤ a1 ∧ a1 ≤ ((w 15 5) - 1) → (0 ≤ a2 ∧ a2 ≤ 2 → (0 ≤ ((a1 * 3) + a2) ∧ ((a1 * 3) + a2) < 36) ∧ (K (some (.inl (w 18 ((a1 * 3) + a2)))) w)) ∧ (¬ (0 ≤ a2 ∧ a2 ≤ 2) → K (some (.inl (-1))) w)) ∧ (¬ (0 ≤ a1 ∧ a1 ≤ ((w 15 5) - 1)) → K (some (.inl (-1))) w))) : ck_Ex (ch_C g A R) (d + 1) mX2_letterOf [.inr (.inr 15), .inl a1, .inl a2] w K :=
  ck_entry hC.1 [some (.inr (.inr 15)), some (.inl a1), some (.inl a2)] (by decide) (Nat.le_of_ble_eq_true rfl) rfl (fun q => q) (ck_in (fun hl => (ck_iload_n 1 rfl 1 dX2_letterOf_0 rfl rfl (ck_iconst 2 rfl dX2_letterOf_1 rfl (ck_aload_n 3 rfl 0 dX2_letterOf_2 rfl rfl (ck_geti 6 rfl 5 dX2_letterOf_3 fl_X2_38 sh_15 rfl rfl _ rfl (fun (q1 : ck_i (w 15 5)) => (ck_iconst 7 rfl dX2_letterOf_6 rfl (ck_isub 8 rfl dX2_letterOf_7 (have h12 := h; have o2 := h12.1; have h11 := h12.2; (have h10 := h11; ck_callSN 11 rfl [.inl a1, .inl 0, .inl ((w 15 5) - 1)] [] dX2_letterOf_8 cn_X2_41 rfl rfl (Nat.le_of_ble_eq_true rfl) (And.intro hl.2.1 (And.intro (show ck_i 0 by decide) (And.intro o2 True.intro))) (p_X11_within hC (fun c8 _ => (ck_if_eq 14 rfl 23 dX2_letterOf_11 rfl (by decide) (fun q => absurd q (by decide)) (fun _ => (ck_iload_n 15 rfl 2 dX2_letterOf_14 rfl rfl (ck_iconst 16 rfl dX2_letterOf_15 rfl (ck_iconst 17 rfl dX2_letterOf_16 rfl (have h7 := (h10.1 c8); ck_callSN 20 rfl [.inl a2, .inl 0, .inl 2] [] dX2_letterOf_17 cn_X2_41 rfl rfl (Nat.le_of_ble_eq_true rfl) (And.intro hl.2.2.1 (And.intro (show ck_i 0 by decide) (And.intro (show ck_i 2 by decide) True.intro))) (p_X11_within hC (fun c5 _ => (ck_if_ne 23 rfl 25 dX2_letterOf_20 rfl (by decide) (fun _ => (ck_aload_n 26 rfl 0 dX2_letterOf_25 rfl rfl (ck_getr 29 rfl dX2_letterOf_26 fl_X2_18 sh_15 rfl (ck_iload_n 30 rfl 1 dX2_letterOf_29 rfl rfl (ck_iconst 31 rfl dX2_letterOf_30 rfl (ck_imul 32 rfl dX2_letterOf_31 (ck_iload_n 33 rfl 2 dX2_letterOf_32 rfl rfl (ck_iadd 34 rfl dX2_letterOf_33 (have h14 := (h7.1 c5); have o3 := h14.1; have h13 := h14.2; (ck_iald 35 rfl dX2_letterOf_34 sh_18 (shn_18 hC) o3 _ rfl (fun (q4 : ck_i (w 18 ((a1 * 3) + a2))) => (ck_iret dX2_letterOf_35 rfl q4 h13)))))))))))) (fun q => absurd q (by decide)))) (fun c6 _ => (ck_if_ne 23 rfl 25 dX2_letterOf_20 rfl (by decide) (fun q => absurd q (by decide)) (fun _ => (ck_iconst 24 rfl dX2_letterOf_23 rfl (ck_iret dX2_letterOf_24 rfl (show ck_i (-1) by decide) (h7.2 c6)))))))))))))) (fun c9 _ => (ck_if_eq 14 rfl 23 dX2_letterOf_11 rfl (by decide) (fun _ => (ck_iconst 24 rfl dX2_letterOf_23 rfl (ck_iret dX2_letterOf_24 rfl (show ck_i (-1) by decide) (h10.2 c9)))) (fun q => absurd q (by decide))))))))))))))))
theorem p_X2_letterOf {g : ch_G} {A R : Nat} (hC : ck_Cx g A R) {d : Nat} {K : Option ck_V → ck_W → Prop} {w : ck_W} {a1 a2 : Int} (hc : 0 ≤ w 15 5 ∧ w 15 5 ≤ 12) (h1 : 0 ≤ a1 ∧ a1 < w 15 5) (h2 : 0 ≤ a2 ∧ a2 ≤ 2) (h : K (some (.inl (w 18 (a1 * 3 + a2)))) w) : ck_Ex (ch_C g A R) (d + 1) mX2_letterOf [.inr (.inr 15), .inl a1, .inl a2] w K :=
  e_X2_letterOf hC ⟨by constructor <;> omega, fun _ => ⟨fun _ => ⟨by omega, h⟩, fun q => absurd h2 q⟩, fun q => absurd (by omega) q⟩
def cs_noW (s : Int → Int) (n a b c : Int) : Prop := ∀ k, 0 ≤ k → k < n → ¬ (s (k * 3 + 0) = a ∧ s (k * 3 + 1) = b ∧ s (k * 3 + 2) = c)
theorem dX2_hasWord_0 : decode cX2_hasWord 0 = .ok (.iconst 0, 1) := dk_3 (by decide +kernel)
theorem dX2_hasWord_1 : decode cX2_hasWord 1 = .ok (.istore 4, 2) := dk_54 (by decide +kernel)
theorem dX2_hasWord_3 : decode cX2_hasWord 3 = .ok (.iload 4, 2) := dk_21 (by decide +kernel)
theorem dX2_hasWord_5 : decode cX2_hasWord 5 = .ok (.aload_n 0, 1) := dk_42 (by decide +kernel)
theorem dX2_hasWord_6 : decode cX2_hasWord 6 = .ok (.getfield 38, 3) := dk_180 0 38 (by decide +kernel)
theorem dX2_hasWord_9 : decode cX2_hasWord 9 = .ok (.if_icmp .ge 44, 3) := dk_162 0 44 (by decide +kernel)
theorem dX2_hasWord_12 : decode cX2_hasWord 12 = .ok (.aload_n 0, 1) := dk_42 (by decide +kernel)
theorem dX2_hasWord_13 : decode cX2_hasWord 13 = .ok (.iload 4, 2) := dk_21 (by decide +kernel)
theorem dX2_hasWord_15 : decode cX2_hasWord 15 = .ok (.iconst 0, 1) := dk_3 (by decide +kernel)
theorem dX2_hasWord_16 : decode cX2_hasWord 16 = .ok (.invokevirtual 49, 3) := dk_182 0 49 (by decide +kernel)
theorem dX2_hasWord_19 : decode cX2_hasWord 19 = .ok (.iload_n 1, 1) := dk_27 (by decide +kernel)
theorem dX2_hasWord_20 : decode cX2_hasWord 20 = .ok (.if_icmp .ne 27, 3) := dk_160 0 27 (by decide +kernel)
theorem dX2_hasWord_23 : decode cX2_hasWord 23 = .ok (.aload_n 0, 1) := dk_42 (by decide +kernel)
theorem dX2_hasWord_24 : decode cX2_hasWord 24 = .ok (.iload 4, 2) := dk_21 (by decide +kernel)
theorem dX2_hasWord_26 : decode cX2_hasWord 26 = .ok (.iconst 1, 1) := dk_4 (by decide +kernel)
theorem dX2_hasWord_27 : decode cX2_hasWord 27 = .ok (.invokevirtual 49, 3) := dk_182 0 49 (by decide +kernel)
theorem dX2_hasWord_30 : decode cX2_hasWord 30 = .ok (.iload_n 2, 1) := dk_28 (by decide +kernel)
theorem dX2_hasWord_31 : decode cX2_hasWord 31 = .ok (.if_icmp .ne 16, 3) := dk_160 0 16 (by decide +kernel)
theorem dX2_hasWord_34 : decode cX2_hasWord 34 = .ok (.aload_n 0, 1) := dk_42 (by decide +kernel)
theorem dX2_hasWord_35 : decode cX2_hasWord 35 = .ok (.iload 4, 2) := dk_21 (by decide +kernel)
theorem dX2_hasWord_37 : decode cX2_hasWord 37 = .ok (.iconst 2, 1) := dk_5 (by decide +kernel)
theorem dX2_hasWord_38 : decode cX2_hasWord 38 = .ok (.invokevirtual 49, 3) := dk_182 0 49 (by decide +kernel)
theorem dX2_hasWord_41 : decode cX2_hasWord 41 = .ok (.iload_n 3, 1) := dk_29 (by decide +kernel)
theorem dX2_hasWord_42 : decode cX2_hasWord 42 = .ok (.if_icmp .ne 5, 3) := dk_160 0 5 (by decide +kernel)
theorem dX2_hasWord_45 : decode cX2_hasWord 45 = .ok (.iconst 1, 1) := dk_4 (by decide +kernel)
theorem dX2_hasWord_46 : decode cX2_hasWord 46 = .ok (.ireturn, 1) := dk_172 (by decide +kernel)
theorem dX2_hasWord_47 : decode cX2_hasWord 47 = .ok (.iinc 4 1, 3) := dk_132 1 (by decide +kernel)
theorem dX2_hasWord_50 : decode cX2_hasWord 50 = .ok (.goto (-47), 3) := dk_167 255 209 (by decide +kernel)
theorem dX2_hasWord_53 : decode cX2_hasWord 53 = .ok (.iconst 0, 1) := dk_3 (by decide +kernel)
theorem dX2_hasWord_54 : decode cX2_hasWord 54 = .ok (.ireturn, 1) := dk_172 (by decide +kernel)
set_option maxRecDepth 8000 in
theorem e_X2_hasWord {g : ch_G} {A R : Nat} (hC : ck_Cx g A R) {d : Nat} {K : Option ck_V → ck_W → Prop} {w : ck_W} {a1 a2 a3 : Int} (h : ck_At (ch_C g A R) (d + 1) mX2_hasWord K 3 [some (.inr (.inr 15)), some (.inl a1), some (.inl a2), some (.inl a3), some (.inl 0)] [] w) : ck_Ex (ch_C g A R) (d + 1) mX2_hasWord [.inr (.inr 15), .inl a1, .inl a2, .inl a3] w K :=
  ck_entry hC.1 [some (.inr (.inr 15)), some (.inl a1), some (.inl a2), some (.inl a3), none] (by decide) (Nat.le_of_ble_eq_true rfl) rfl (fun q => q) (ck_in (fun hl => (ck_iconst 1 rfl dX2_hasWord_0 rfl (ck_istore 3 rfl [some (.inr (.inr 15)), some (.inl a1), some (.inl a2), some (.inl a3), some (.inl 0)] dX2_hasWord_1 (Nat.le_of_ble_eq_true rfl) rfl rfl (show ck_i 0 by decide) h))))
set_option maxRecDepth 8000 in
theorem r_X2_hasWord_3 {g : ch_G} {A R : Nat} (hC : ck_Cx g A R) {d : Nat} {K : Option ck_V → ck_W → Prop} {w : ck_W} {a1 a2 a3 a4 : Int} (h : ((w 15 5) ≤ a4 → K (some (.inl 0)) w) ∧ (¬ (w 15 5) ≤ a4 → ck_CI (ch_C g A R) d mX2_letterOf [.inr (.inr 15), .inl a4, .inl 0] w (fun v3 w2 => (¬ v3 = a1 → ck_i (a4 + 1) ∧ (ck_At (ch_C g A R) (d + 1) mX2_hasWord K 3 [some (.inr (.inr 15)), some (.inl a1), some (.inl a2), some (.inl a3), some (.inl (a4 + 1))] [] w2)) ∧ (v3 = a1 → ck_CI (ch_C g A R) d mX2_letterOf [.inr (.inr 15), .inl a4, .inl 1] w2 (fun v8 w7 => (¬ v8 = a2 → ck_i (a4 + 1) ∧ (ck_At (ch_C g A R) (d + 1) mX2_hasWord K 3 [some (.inr (.inr 15)), some (.inl a1), some (.inl a2), some (.inl a3), some (.inl (a4 + 1))] [] w7)) ∧ (v8 = a2 → ck_CI (ch_C g A R) d mX2_letterOf [.inr (.inr 15), .inl a4, .inl 2] w7 (fun v13 w12 => (¬ v13 = a3 → ck_i (a4 + 1) ∧ (ck_At (ch_C g A R) (d + 1) mX2_hasWord K 3 [some (.inr (.inr 15)), some (.inl a1), some (.inl a2), some (.inl a3), some (.inl (a4 + 1))] [] w12)) ∧ (v13 = a3 → K (some (.inl 1)) w12)))))))) : ck_At (ch_C g A R) (d + 1) mX2_hasWord K 3 [some (.inr (.inr 15)), some (.inl a1), some (.inl a2), some (.inl a3), some (.inl a4)] [] w :=
  ck_in (fun hl => (ck_iload 5 rfl dX2_hasWord_3 rfl (ck_aload_n 6 rfl 0 dX2_hasWord_5 rfl rfl (ck_geti 9 rfl 5 dX2_hasWord_6 fl_X2_38 sh_15 rfl rfl _ rfl (fun (q1 : ck_i (w 15 5)) => (ck_icmp_ge 12 rfl 53 dX2_hasWord_9 rfl hl.2.2.2.2.1 q1 (fun c23 => (ck_iconst 54 rfl dX2_hasWord_53 rfl (ck_zret dX2_hasWord_54 rfl (by decide) (h.1 c23)))) (fun c24 => (ck_aload_n 13 rfl 0 dX2_hasWord_12 rfl rfl (ck_iload 15 rfl dX2_hasWord_13 rfl (ck_iconst 16 rfl dX2_hasWord_15 rfl (ck_callV 19 rfl [.inl a4, .inl 0] [] dX2_hasWord_16 cv_X2_49 sh_15 rfl rfl (Nat.le_of_ble_eq_true rfl) (And.intro hl.2.2.2.2.1 (And.intro (show ck_i 0 by decide) True.intro)) (ck_mI (h.2 c24) (fun v3 w2 q4 h5 => (ck_iload_n 20 rfl 1 dX2_hasWord_19 rfl rfl (ck_icmp_ne 23 rfl 47 dX2_hasWord_20 rfl q4 hl.2.1 (fun c21 => (have h26 := (h5.1 c21); have o6 := h26.1; have h25 := h26.2; (ck_iinc 50 rfl [some (.inr (.inr 15)), some (.inl a1), some (.inl a2), some (.inl a3), some (.inl (a4 + 1))] dX2_hasWord_47 rfl (Nat.le_of_ble_eq_true rfl) rfl rfl o6 (ck_goto 3 dX2_hasWord_50 rfl h25)))) (fun c22 => (ck_aload_n 24 rfl 0 dX2_hasWord_23 rfl rfl (ck_iload 26 rfl dX2_hasWord_24 rfl (ck_iconst 27 rfl dX2_hasWord_26 rfl (ck_callV 30 rfl [.inl a4, .inl 1] [] dX2_hasWord_27 cv_X2_49 sh_15 rfl rfl (Nat.le_of_ble_eq_true rfl) (And.intro hl.2.2.2.2.1 (And.intro (show ck_i 1 by decide) True.intro)) (ck_mI (h5.2 c22) (fun v8 w7 q9 h10 => (ck_iload_n 31 rfl 2 dX2_hasWord_30 rfl rfl (ck_icmp_ne 34 rfl 47 dX2_hasWord_31 rfl q9 hl.2.2.1 (fun c19 => (have h28 := (h10.1 c19); have o11 := h28.1; have h27 := h28.2; (ck_iinc 50 rfl [some (.inr (.inr 15)), some (.inl a1), some (.inl a2), some (.inl a3), some (.inl (a4 + 1))] dX2_hasWord_47 rfl (Nat.le_of_ble_eq_true rfl) rfl rfl o11 (ck_goto 3 dX2_hasWord_50 rfl h27)))) (fun c20 => (ck_aload_n 35 rfl 0 dX2_hasWord_34 rfl rfl (ck_iload 37 rfl dX2_hasWord_35 rfl (ck_iconst 38 rfl dX2_hasWord_37 rfl (ck_callV 41 rfl [.inl a4, .inl 2] [] dX2_hasWord_38 cv_X2_49 sh_15 rfl rfl (Nat.le_of_ble_eq_true rfl) (And.intro hl.2.2.2.2.1 (And.intro (show ck_i 2 by decide) True.intro)) (ck_mI (h10.2 c20) (fun v13 w12 q14 h15 => (ck_iload_n 42 rfl 3 dX2_hasWord_41 rfl rfl (ck_icmp_ne 45 rfl 47 dX2_hasWord_42 rfl q14 hl.2.2.2.1 (fun c17 => (have h30 := (h15.1 c17); have o16 := h30.1; have h29 := h30.2; (ck_iinc 50 rfl [some (.inr (.inr 15)), some (.inl a1), some (.inl a2), some (.inl a3), some (.inl (a4 + 1))] dX2_hasWord_47 rfl (Nat.le_of_ble_eq_true rfl) rfl rfl o16 (ck_goto 3 dX2_hasWord_50 rfl h29)))) (fun c18 => (ck_iconst 46 rfl dX2_hasWord_45 rfl (ck_zret dX2_hasWord_46 rfl (by decide) (h15.2 c18)))))))))))))))))))))))))))))))))))))
theorem S_X2_hasWord {g : ch_G} {A R : Nat} (hC : ck_Cx g A R) {d : Nat} {K : Option ck_V → ck_W → Prop} {w : ck_W} {a1 a2 a3 : Int} (hc : 0 ≤ w 15 5 ∧ w 15 5 ≤ 12) (h1 : ¬ cs_noW (w 18) (w 15 5) a1 a2 a3 → K (some (.inl 1)) w) (h0 : cs_noW (w 18) (w 15 5) a1 a2 a3 → K (some (.inl 0)) w) : ck_Ex (ch_C g A R) (d + 2) mX2_hasWord [.inr (.inr 15), .inl a1, .inl a2, .inl a3] w K := by
  have l : ∀ (n : Nat) (a4 : Int), w 15 5 - a4 ≤ n → 0 ≤ a4 → cs_noW (w 18) a4 a1 a2 a3 → ck_At (ch_C g A R) (d + 2) mX2_hasWord K 3 [some (.inr (.inr 15)), some (.inl a1), some (.inl a2), some (.inl a3), some (.inl a4)] [] w := by
    intro n
    induction n with
    | zero =>
      intro a4 g1 g2 g3
      exact r_X2_hasWord_3 hC ⟨fun q => h0 (fun k k0 k1 => g3 k k0 (by omega)), fun q => absurd (by omega) q⟩
    | succ n ih =>
      intro a4 g1 g2 g3
      refine r_X2_hasWord_3 hC ⟨fun q => h0 (fun k k0 k1 => g3 k k0 (by omega)), fun q => ?_⟩
      have more : ¬ (w 18 (a4 * 3 + 0) = a1 ∧ w 18 (a4 * 3 + 1) = a2 ∧ w 18 (a4 * 3 + 2) = a3) → ck_At (ch_C g A R) (d + 2) mX2_hasWord K 3 [some (.inr (.inr 15)), some (.inl a1), some (.inl a2), some (.inl a3), some (.inl (a4 + 1))] [] w := fun x => ih (a4 + 1) (by omega) (by omega) (fun k k0 k1 => by
        by_cases y : k = a4
        · rw [y]; exact x
        · exact g3 k k0 (by omega))
      refine p_X2_letterOf hC hc (by omega) (by omega) ⟨_, rfl, fun _ => ⟨fun z => ⟨by constructor <;> omega, more (fun x => z x.1)⟩, fun z1 => ?_⟩⟩
      refine p_X2_letterOf hC hc (by omega) (by omega) ⟨_, rfl, fun _ => ⟨fun z => ⟨by constructor <;> omega, more (fun x => z x.2.1)⟩, fun z2 => ?_⟩⟩
      exact p_X2_letterOf hC hc (by omega) (by omega) ⟨_, rfl, fun _ => ⟨fun z => ⟨by constructor <;> omega, more (fun x => z x.2.2)⟩, fun z3 => h1 (fun x => x a4 g2 (by omega) ⟨z1, z2, z3⟩)⟩⟩
  exact e_X2_hasWord hC (l 12 0 (by omega) (by omega) (fun k k0 k1 => by omega))
theorem dX11_word_0 : decode cX11_word 0 = .ok (.aload_n 0, 1) := dk_42 (by decide +kernel)
theorem dX11_word_1 : decode cX11_word 1 = .ok (.getfield 14, 3) := dk_180 0 14 (by decide +kernel)
theorem dX11_word_4 : decode cX11_word 4 = .ok (.getfield 229, 3) := dk_180 0 229 (by decide +kernel)
theorem dX11_word_7 : decode cX11_word 7 = .ok (.astore 5, 2) := dk_58 (by decide +kernel)
theorem dX11_word_9 : decode cX11_word 9 = .ok (.aload 5, 2) := dk_25 (by decide +kernel)
theorem dX11_word_11 : decode cX11_word 11 = .ok (.getfield 244, 3) := dk_180 0 244 (by decide +kernel)
theorem dX11_word_14 : decode cX11_word 14 = .ok (.istore 6, 2) := dk_54 (by decide +kernel)
theorem dX11_word_16 : decode cX11_word 16 = .ok (.aload 5, 2) := dk_25 (by decide +kernel)
theorem dX11_word_18 : decode cX11_word 18 = .ok (.iload_n 1, 1) := dk_27 (by decide +kernel)
theorem dX11_word_19 : decode cX11_word 19 = .ok (.iload_n 2, 1) := dk_28 (by decide +kernel)
theorem dX11_word_20 : decode cX11_word 20 = .ok (.iload_n 3, 1) := dk_29 (by decide +kernel)
theorem dX11_word_21 : decode cX11_word 21 = .ok (.invokevirtual 247, 3) := dk_182 0 247 (by decide +kernel)
theorem dX11_word_24 : decode cX11_word 24 = .ok (.ifCond .eq 21, 3) := dk_153 0 21 (by decide +kernel)
theorem dX11_word_27 : decode cX11_word 27 = .ok (.iload 4, 2) := dk_21 (by decide +kernel)
theorem dX11_word_29 : decode cX11_word 29 = .ok (.iconst 1, 1) := dk_4 (by decide +kernel)
theorem dX11_word_30 : decode cX11_word 30 = .ok (.bipush 99, 2) := dk_16 99 (by decide +kernel)
theorem dX11_word_32 : decode cX11_word 32 = .ok (.invokestatic 82, 3) := dk_184 0 82 (by decide +kernel)
theorem dX11_word_35 : decode cX11_word 35 = .ok (.ifCond .eq 10, 3) := dk_153 0 10 (by decide +kernel)
theorem dX11_word_38 : decode cX11_word 38 = .ok (.iload 6, 2) := dk_21 (by decide +kernel)
theorem dX11_word_40 : decode cX11_word 40 = .ok (.bipush 12, 2) := dk_16 12 (by decide +kernel)
theorem dX11_word_42 : decode cX11_word 42 = .ok (.if_icmp .lt 5, 3) := dk_161 0 5 (by decide +kernel)
theorem dX11_word_45 : decode cX11_word 45 = .ok (.iconst (-1), 1) := dk_2 (by decide +kernel)
theorem dX11_word_46 : decode cX11_word 46 = .ok (.ireturn, 1) := dk_172 (by decide +kernel)
theorem dX11_word_47 : decode cX11_word 47 = .ok (.aload 5, 2) := dk_25 (by decide +kernel)
theorem dX11_word_49 : decode cX11_word 49 = .ok (.iload_n 1, 1) := dk_27 (by decide +kernel)
theorem dX11_word_50 : decode cX11_word 50 = .ok (.iload_n 2, 1) := dk_28 (by decide +kernel)
theorem dX11_word_51 : decode cX11_word 51 = .ok (.iload_n 3, 1) := dk_29 (by decide +kernel)
theorem dX11_word_52 : decode cX11_word 52 = .ok (.invokevirtual 250, 3) := dk_182 0 250 (by decide +kernel)
theorem dX11_word_55 : decode cX11_word 55 = .ok (.ifCond .eq 5, 3) := dk_153 0 5 (by decide +kernel)
theorem dX11_word_58 : decode cX11_word 58 = .ok (.iconst (-1), 1) := dk_2 (by decide +kernel)
theorem dX11_word_59 : decode cX11_word 59 = .ok (.ireturn, 1) := dk_172 (by decide +kernel)
theorem dX11_word_60 : decode cX11_word 60 = .ok (.aload 5, 2) := dk_25 (by decide +kernel)
theorem dX11_word_62 : decode cX11_word 62 = .ok (.getfield 253, 3) := dk_180 0 253 (by decide +kernel)
theorem dX11_word_65 : decode cX11_word 65 = .ok (.iload 6, 2) := dk_21 (by decide +kernel)
theorem dX11_word_67 : decode cX11_word 67 = .ok (.iconst 3, 1) := dk_6 (by decide +kernel)
theorem dX11_word_68 : decode cX11_word 68 = .ok (.imul, 1) := dk_104 (by decide +kernel)
theorem dX11_word_69 : decode cX11_word 69 = .ok (.iload_n 1, 1) := dk_27 (by decide +kernel)
theorem dX11_word_70 : decode cX11_word 70 = .ok (.iastore, 1) := dk_79 (by decide +kernel)
theorem dX11_word_71 : decode cX11_word 71 = .ok (.aload 5, 2) := dk_25 (by decide +kernel)
theorem dX11_word_73 : decode cX11_word 73 = .ok (.getfield 253, 3) := dk_180 0 253 (by decide +kernel)
theorem dX11_word_76 : decode cX11_word 76 = .ok (.iload 6, 2) := dk_21 (by decide +kernel)
theorem dX11_word_78 : decode cX11_word 78 = .ok (.iconst 3, 1) := dk_6 (by decide +kernel)
theorem dX11_word_79 : decode cX11_word 79 = .ok (.imul, 1) := dk_104 (by decide +kernel)
theorem dX11_word_80 : decode cX11_word 80 = .ok (.iconst 1, 1) := dk_4 (by decide +kernel)
theorem dX11_word_81 : decode cX11_word 81 = .ok (.iadd, 1) := dk_96 (by decide +kernel)
theorem dX11_word_82 : decode cX11_word 82 = .ok (.iload_n 2, 1) := dk_28 (by decide +kernel)
theorem dX11_word_83 : decode cX11_word 83 = .ok (.iastore, 1) := dk_79 (by decide +kernel)
theorem dX11_word_84 : decode cX11_word 84 = .ok (.aload 5, 2) := dk_25 (by decide +kernel)
theorem dX11_word_86 : decode cX11_word 86 = .ok (.getfield 253, 3) := dk_180 0 253 (by decide +kernel)
theorem dX11_word_89 : decode cX11_word 89 = .ok (.iload 6, 2) := dk_21 (by decide +kernel)
theorem dX11_word_91 : decode cX11_word 91 = .ok (.iconst 3, 1) := dk_6 (by decide +kernel)
theorem dX11_word_92 : decode cX11_word 92 = .ok (.imul, 1) := dk_104 (by decide +kernel)
theorem dX11_word_93 : decode cX11_word 93 = .ok (.iconst 2, 1) := dk_5 (by decide +kernel)
theorem dX11_word_94 : decode cX11_word 94 = .ok (.iadd, 1) := dk_96 (by decide +kernel)
theorem dX11_word_95 : decode cX11_word 95 = .ok (.iload_n 3, 1) := dk_29 (by decide +kernel)
theorem dX11_word_96 : decode cX11_word 96 = .ok (.iastore, 1) := dk_79 (by decide +kernel)
theorem dX11_word_97 : decode cX11_word 97 = .ok (.aload 5, 2) := dk_25 (by decide +kernel)
theorem dX11_word_99 : decode cX11_word 99 = .ok (.getfield 256, 3) := dk_180 1 0 (by decide +kernel)
theorem dX11_word_102 : decode cX11_word 102 = .ok (.iload 6, 2) := dk_21 (by decide +kernel)
theorem dX11_word_104 : decode cX11_word 104 = .ok (.iload 4, 2) := dk_21 (by decide +kernel)
theorem dX11_word_106 : decode cX11_word 106 = .ok (.iastore, 1) := dk_79 (by decide +kernel)
theorem dX11_word_107 : decode cX11_word 107 = .ok (.aload 5, 2) := dk_25 (by decide +kernel)
theorem dX11_word_109 : decode cX11_word 109 = .ok (.dup, 1) := dk_89 (by decide +kernel)
theorem dX11_word_110 : decode cX11_word 110 = .ok (.getfield 244, 3) := dk_180 0 244 (by decide +kernel)
theorem dX11_word_113 : decode cX11_word 113 = .ok (.iconst 1, 1) := dk_4 (by decide +kernel)
theorem dX11_word_114 : decode cX11_word 114 = .ok (.iadd, 1) := dk_96 (by decide +kernel)
theorem dX11_word_115 : decode cX11_word 115 = .ok (.putfield 244, 3) := dk_181 0 244 (by decide +kernel)
theorem dX11_word_118 : decode cX11_word 118 = .ok (.iload 6, 2) := dk_21 (by decide +kernel)
theorem dX11_word_120 : decode cX11_word 120 = .ok (.ireturn, 1) := dk_172 (by decide +kernel)
set_option maxRecDepth 8000 in
theorem e_X11_word {g : ch_G} {A R : Nat} (hC : ck_Cx g A R) {d : Nat} {K : Option ck_V → ck_W → Prop} {w : ck_W} {a1 a2 a3 a4 : Int} (h : ck_CI (ch_C g A R) d mX2_canSpell [.inr (.inr 15), .inl a1, .inl a2, .inl a3] w (fun v3 w2 => (v3 = 0 → K (some (.inl (-1))) w2) ∧ (¬ v3 = 0 → (1 ≤ a4 ∧ a4 ≤ 99 → ((w 15 5) < 12 → ck_CI (ch_C g A R) d mX2_hasWord [.inr (.inr 15), .inl a1, .inl a2, .inl a3] w2 (fun v7 w6 => (v7 = 0 → (0 ≤ ((w 15 5) * 3) ∧ ((w 15 5) * 3) < 36) ∧ ((0 ≤ (((w 15 5) * 3) + 1) ∧ (((w 15 5) * 3) + 1) < 36) ∧ ((0 ≤ (((w 15 5) * 3) + 2) ∧ (((w 15 5) * 3) + 2) < 36) ∧ ((0 ≤ (w 15 5) ∧ (w 15 5) < 12) ∧ (ck_i ((w6 15 5) + 1) ∧ (K (some (.inl (w 15 5))) (ck_up (ck_up (ck_up (ck_up (ck_up w6 18 ((w 15 5) * 3) a1) 18 (((w 15 5) * 3) + 1) a2) 18 (((w 15 5) * 3) + 2) a3) 19 (w 15 5) a4) 15 5 ((w6 15 5) + 1)))))))) ∧ (¬ v7 = 0 → K (some (.inl (-1))) w6))) ∧ (¬ (w 15 5) < 12 → K (some (.inl (-1))) w2)) ∧ (¬ (1 ≤ a4 ∧ a4 ≤ 99) → K (some (.inl (-1))) w2)))) : ck_Ex (ch_C g A R) (d + 1) mX11_word [.inr (.inr 0), .inl a1, .inl a2, .inl a3, .inl a4] w K :=
  ck_entry hC.1 [some (.inr (.inr 0)), some (.inl a1), some (.inl a2), some (.inl a3), some (.inl a4), none, none] (by decide) (Nat.le_of_ble_eq_true rfl) rfl (fun q => q) (ck_in (fun hl => (ck_aload_n 1 rfl 0 dX11_word_0 rfl rfl (ck_getr 4 rfl dX11_word_1 fl_X11_14 sh_0 rfl (ck_getr 7 rfl dX11_word_4 fl_X11_229 sh_1 rfl (ck_astore 9 rfl [some (.inr (.inr 0)), some (.inl a1), some (.inl a2), some (.inl a3), some (.inl a4), some (.inr (.inr 15)), none] dX11_word_7 (Nat.le_of_ble_eq_true rfl) rfl rfl (ck_aload 11 rfl dX11_word_9 rfl (ck_geti 14 rfl 5 dX11_word_11 fl_X11_244 sh_15 rfl rfl _ rfl (fun (q1 : ck_i (w 15 5)) => (ck_istore 16 rfl [some (.inr (.inr 0)), some (.inl a1), some (.inl a2), some (.inl a3), some (.inl a4), some (.inr (.inr 15)), some (.inl (w 15 5))] dX11_word_14 (Nat.le_of_ble_eq_true rfl) rfl rfl q1 (ck_aload 18 rfl dX11_word_16 rfl (ck_iload_n 19 rfl 1 dX11_word_18 rfl rfl (ck_iload_n 20 rfl 2 dX11_word_19 rfl rfl (ck_iload_n 21 rfl 3 dX11_word_20 rfl rfl (ck_callV 24 rfl [.inl a1, .inl a2, .inl a3] [] dX11_word_21 cv_X11_247 sh_15 rfl rfl (Nat.le_of_ble_eq_true rfl) (And.intro hl.2.1 (And.intro hl.2.2.1 (And.intro hl.2.2.2.1 True.intro))) (ck_mI h (fun v3 w2 q4 h5 => (ck_if_eq 27 rfl 45 dX11_word_24 rfl q4 (fun c23 => (ck_iconst 46 rfl dX11_word_45 rfl (ck_iret dX11_word_46 rfl (show ck_i (-1) by decide) (h5.1 c23)))) (fun c24 => (ck_iload 29 rfl dX11_word_27 rfl (ck_iconst 30 rfl dX11_word_29 rfl (ck_bipush 32 rfl dX11_word_30 rfl (have h22 := (h5.2 c24); ck_callS 35 rfl [.inl a4, .inl 1, .inl 99] [] dX11_word_32 cs_X11_82 rfl rfl (Nat.le_of_ble_eq_true rfl) (And.intro hl.2.2.2.2.1 (And.intro (show ck_i 1 by decide) (And.intro (show ck_i 99 by decide) True.intro))) (p_X11_within hC (fun c20 _ => (ck_if_eq 38 rfl 45 dX11_word_35 rfl (by decide) (fun q => absurd q (by decide)) (fun _ => (ck_iload 40 rfl dX11_word_38 rfl (ck_bipush 42 rfl dX11_word_40 rfl (have h25 := (h22.1 c20); (ck_icmp_lt 45 rfl 47 dX11_word_42 rfl q1 (show ck_i 12 by decide) (fun c18 => (ck_aload 49 rfl dX11_word_47 rfl (ck_iload_n 50 rfl 1 dX11_word_49 rfl rfl (ck_iload_n 51 rfl 2 dX11_word_50 rfl rfl (ck_iload_n 52 rfl 3 dX11_word_51 rfl rfl (ck_callV 55 rfl [.inl a1, .inl a2, .inl a3] [] dX11_word_52 cv_X11_250 sh_15 rfl rfl (Nat.le_of_ble_eq_true rfl) (And.intro hl.2.1 (And.intro hl.2.2.1 (And.intro hl.2.2.2.1 True.intro))) (ck_mI (h25.1 c18) (fun v7 w6 q8 h9 => (ck_if_eq 58 rfl 60 dX11_word_55 rfl q8 (fun c16 => (ck_aload 62 rfl dX11_word_60 rfl (ck_getr 65 rfl dX11_word_62 fl_X11_253 sh_15 rfl (ck_iload 67 rfl dX11_word_65 rfl (ck_iconst 68 rfl dX11_word_67 rfl (ck_imul 69 rfl dX11_word_68 (ck_iload_n 70 rfl 1 dX11_word_69 rfl rfl (have h27 := (h9.1 c16); have o10 := h27.1; have h26 := h27.2; (ck_iast 71 rfl dX11_word_70 sh_18 (shn_18 hC) o10 hl.2.1 (ck_aload 73 rfl dX11_word_71 rfl (ck_getr 76 rfl dX11_word_73 fl_X11_253 sh_15 rfl (ck_iload 78 rfl dX11_word_76 rfl (ck_iconst 79 rfl dX11_word_78 rfl (ck_imul 80 rfl dX11_word_79 (ck_iconst 81 rfl dX11_word_80 rfl (ck_iadd 82 rfl dX11_word_81 (ck_iload_n 83 rfl 2 dX11_word_82 rfl rfl (have h29 := h26; have o11 := h29.1; have h28 := h29.2; (ck_iast 84 rfl dX11_word_83 sh_18 (shn_18 hC) o11 hl.2.2.1 (ck_aload 86 rfl dX11_word_84 rfl (ck_getr 89 rfl dX11_word_86 fl_X11_253 sh_15 rfl (ck_iload 91 rfl dX11_word_89 rfl (ck_iconst 92 rfl dX11_word_91 rfl (ck_imul 93 rfl dX11_word_92 (ck_iconst 94 rfl dX11_word_93 rfl (ck_iadd 95 rfl dX11_word_94 (ck_iload_n 96 rfl 3 dX11_word_95 rfl rfl (have h31 := h28; have o12 := h31.1; have h30 := h31.2; (ck_iast 97 rfl dX11_word_96 sh_18 (shn_18 hC) o12 hl.2.2.2.1 (ck_aload 99 rfl dX11_word_97 rfl (ck_getr 102 rfl dX11_word_99 fl_X11_256 sh_15 rfl (ck_iload 104 rfl dX11_word_102 rfl (ck_iload 106 rfl dX11_word_104 rfl (have h33 := h30; have o13 := h33.1; have h32 := h33.2; (ck_iast 107 rfl dX11_word_106 sh_19 (shn_19 hC) o13 hl.2.2.2.2.1 (ck_aload 109 rfl dX11_word_107 rfl (ck_dup 110 rfl dX11_word_109 rfl (ck_geti 113 rfl 5 dX11_word_110 fl_X11_244 sh_15 rfl rfl _ rfl (fun (q14 : ck_i (w6 15 5)) => (ck_iconst 114 rfl dX11_word_113 rfl (ck_iadd 115 rfl dX11_word_114 (have h35 := h32; have o15 := h35.1; have h34 := h35.2; (ck_puti 118 rfl 5 dX11_word_115 fp_X11_244 sh_15 rfl rfl o15 (ck_iload 120 rfl dX11_word_118 rfl (ck_iret dX11_word_120 rfl q1 h34))))))))))))))))))))))))))))))))))))))))))))) (fun c17 => (ck_iconst 59 rfl dX11_word_58 rfl (ck_iret dX11_word_59 rfl (show ck_i (-1) by decide) (h9.2 c17))))))))))))) (fun c19 => (ck_iconst 46 rfl dX11_word_45 rfl (ck_iret dX11_word_46 rfl (show ck_i (-1) by decide) (h25.2 c19))))))))))) (fun c21 _ => (ck_if_eq 38 rfl 45 dX11_word_35 rfl (by decide) (fun _ => (ck_iconst 46 rfl dX11_word_45 rfl (ck_iret dX11_word_46 rfl (show ck_i (-1) by decide) (h22.2 c21)))) (fun q => absurd q (by decide))))))))))))))))))))))))))))
theorem C_word {g : ch_G} {A R : Nat} (hC : ck_Cx g A R) {d : Nat} {K : Option ck_V → ck_W → Prop} {w : ck_W} {a1 a2 a3 a4 : Int} (hl : 0 ≤ w 15 2 ∧ w 15 2 ≤ 12) (hc : 0 ≤ w 15 5 ∧ w 15 5 ≤ 12) (h1 : rm_spell (w 15 2) a1 a2 a3 ∧ (1 ≤ a4 ∧ a4 ≤ 99) ∧ w 15 5 < 12 ∧ cs_noW (w 18) (w 15 5) a1 a2 a3 → K (some (.inl (w 15 5))) (ck_up (ck_up (ck_up (ck_up (ck_up w 18 (w 15 5 * 3) a1) 18 (w 15 5 * 3 + 1) a2) 18 (w 15 5 * 3 + 2) a3) 19 (w 15 5) a4) 15 5 (w 15 5 + 1))) (h0 : ¬ (rm_spell (w 15 2) a1 a2 a3 ∧ (1 ≤ a4 ∧ a4 ≤ 99) ∧ w 15 5 < 12 ∧ cs_noW (w 18) (w 15 5) a1 a2 a3) → K (some (.inl (-1))) w) : ck_Ex (ch_C g A R) (d + 3) mX11_word [.inr (.inr 0), .inl a1, .inl a2, .inl a3, .inl a4] w K := by
  refine e_X11_word hC (p_X2_canSpell hC hl (fun ok => ⟨_, rfl, fun _ => ⟨fun q => absurd q (by decide), fun _ => ⟨fun q4 => ⟨fun q5 => ?_, fun q => h0 (fun x => q x.2.2.1)⟩, fun q => h0 (fun x => q x.2.1)⟩⟩⟩) (fun no => ⟨_, rfl, fun _ => ⟨fun _ => h0 (fun x => no x.1), fun q => absurd rfl q⟩⟩))
  exact S_X2_hasWord hC hc (fun y => ⟨_, rfl, fun _ => ⟨fun q => absurd q (by decide), fun _ => h0 (fun x => y x.2.2.2)⟩⟩) (fun y => ⟨_, rfl, fun _ => ⟨fun _ => ⟨by omega, by omega, by omega, by omega, by constructor <;> omega, h1 ⟨ok, q4, q5, y⟩⟩, fun q => absurd rfl q⟩⟩)
