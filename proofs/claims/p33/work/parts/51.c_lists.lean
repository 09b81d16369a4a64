/-! ===== the class: pins, bits, the tape, columns ===== -/
theorem dX5_mayHavePlace_0 : decode cX5_mayHavePlace 0 = .ok (.iload_n 1, 1) := dk_27 (by decide +kernel)
theorem dX5_mayHavePlace_1 : decode cX5_mayHavePlace 1 = .ok (.iconst 0, 1) := dk_3 (by decide +kernel)
theorem dX5_mayHavePlace_2 : decode cX5_mayHavePlace 2 = .ok (.iconst 5, 1) := dk_8 (by decide +kernel)
theorem dX5_mayHavePlace_3 : decode cX5_mayHavePlace 3 = .ok (.invokestatic 61, 3) := dk_184 0 61 (by decide +kernel)
theorem dX5_mayHavePlace_6 : decode cX5_mayHavePlace 6 = .ok (.ifCond .eq 23, 3) := dk_153 0 23 (by decide +kernel)
theorem dX5_mayHavePlace_9 : decode cX5_mayHavePlace 9 = .ok (.iload_n 2, 1) := dk_28 (by decide +kernel)
theorem dX5_mayHavePlace_10 : decode cX5_mayHavePlace 10 = .ok (.iconst 0, 1) := dk_3 (by decide +kernel)
theorem dX5_mayHavePlace_11 : decode cX5_mayHavePlace 11 = .ok (.iconst 4, 1) := dk_7 (by decide +kernel)
theorem dX5_mayHavePlace_12 : decode cX5_mayHavePlace 12 = .ok (.aload_n 0, 1) := dk_42 (by decide +kernel)
theorem dX5_mayHavePlace_13 : decode cX5_mayHavePlace 13 = .ok (.getfield 27, 3) := dk_180 0 27 (by decide +kernel)
theorem dX5_mayHavePlace_16 : decode cX5_mayHavePlace 16 = .ok (.imul, 1) := dk_104 (by decide +kernel)
theorem dX5_mayHavePlace_17 : decode cX5_mayHavePlace 17 = .ok (.iconst 1, 1) := dk_4 (by decide +kernel)
theorem dX5_mayHavePlace_18 : decode cX5_mayHavePlace 18 = .ok (.isub, 1) := dk_100 (by decide +kernel)
theorem dX5_mayHavePlace_19 : decode cX5_mayHavePlace 19 = .ok (.invokestatic 61, 3) := dk_184 0 61 (by decide +kernel)
theorem dX5_mayHavePlace_22 : decode cX5_mayHavePlace 22 = .ok (.ifCond .eq 7, 3) := dk_153 0 7 (by decide +kernel)
theorem dX5_mayHavePlace_25 : decode cX5_mayHavePlace 25 = .ok (.iconst 1, 1) := dk_4 (by decide +kernel)
theorem dX5_mayHavePlace_26 : decode cX5_mayHavePlace 26 = .ok (.goto 4, 3) := dk_167 0 4 (by decide +kernel)
theorem dX5_mayHavePlace_29 : decode cX5_mayHavePlace 29 = .ok (.iconst 0, 1) := dk_3 (by decide +kernel)
theorem dX5_mayHavePlace_30 : decode cX5_mayHavePlace 30 = .ok (.ireturn, 1) := dk_172 (by decide +kernel)
set_option maxRecDepth 8000 in
theorem e_X5_mayHavePlace {g : ch_G} {A R : Nat} (hC : ck_Cx g A R) {d : Nat} {K : Option ck_V → ck_W → Prop} {w : ck_W} {a1 a2 : Int} (h : (0 ≤ a1 ∧ a1 ≤ 5 → ck_i ((4 * (w 3 0)) - 1) ∧ ((0 ≤ a2 ∧ a2 ≤ ((4 * (w 3 0)) - 1) → K (some (.inl 1)) w) ∧ (¬ (0 ≤ a2 ∧ a2 ≤ ((4 * (w 3 0)) - 1)) → K (some (.inl 0)) w))) ∧ (¬ (0 ≤ a1 ∧ a1 ≤ 5) → K (some (.inl 0)) w)) : ck_Ex (ch_C g A R) (d + 1) mX5_mayHavePlace [.inr (.inr 3), .inl a1, .inl a2] w K :=
  ck_entry hC.1 [some (.inr (.inr 3)), some (.inl a1), some (.inl a2)] (by decide) (Nat.le_of_ble_eq_true rfl) rfl (fun q => q) (ck_in (fun hl => (ck_iload_n 1 rfl 1 dX5_mayHavePlace_0 rfl rfl (ck_iconst 2 rfl dX5_mayHavePlace_1 rfl (ck_iconst 3 rfl dX5_mayHavePlace_2 rfl (have h8 := h; ck_callSN 6 rfl [.inl a1, .inl 0, .inl 5] [] dX5_mayHavePlace_3 cn_X5_61 rfl rfl (Nat.le_of_ble_eq_true rfl) (And.intro hl.2.1 (And.intro (show ck_i 0 by decide) (And.intro (show ck_i 5 by decide) True.intro))) (p_X11_within hC (fun c6 _ => (ck_if_eq 9 rfl 29 dX5_mayHavePlace_6 rfl (by decide) (fun q => absurd q (by decide)) (fun _ => (ck_iload_n 10 rfl 2 dX5_mayHavePlace_9 rfl rfl (ck_iconst 11 rfl dX5_mayHavePlace_10 rfl (ck_iconst 12 rfl dX5_mayHavePlace_11 rfl (ck_aload_n 13 rfl 0 dX5_mayHavePlace_12 rfl rfl (ck_geti 16 rfl 0 dX5_mayHavePlace_13 fl_X5_27 sh_3 rfl rfl _ rfl (fun (q1 : ck_i (w 3 0)) => (ck_imul 17 rfl dX5_mayHavePlace_16 (ck_iconst 18 rfl dX5_mayHavePlace_17 rfl (ck_isub 19 rfl dX5_mayHavePlace_18 (have h10 := (h8.1 c6); have o2 := h10.1; have h9 := h10.2; (have h5 := h9; ck_callSN 22 rfl [.inl a2, .inl 0, .inl ((4 * (w 3 0)) - 1)] [] dX5_mayHavePlace_19 cn_X5_61 rfl rfl (Nat.le_of_ble_eq_true rfl) (And.intro hl.2.2.1 (And.intro (show ck_i 0 by decide) (And.intro o2 True.intro))) (p_X11_within hC (fun c3 _ => (ck_if_eq 25 rfl 29 dX5_mayHavePlace_22 rfl (by decide) (fun q => absurd q (by decide)) (fun _ => (ck_iconst 26 rfl dX5_mayHavePlace_25 rfl (ck_goto 30 dX5_mayHavePlace_26 rfl (ck_zret dX5_mayHavePlace_30 rfl (by decide) (h5.1 c3))))))) (fun c4 _ => (ck_if_eq 25 rfl 29 dX5_mayHavePlace_22 rfl (by decide) (fun _ => (ck_iconst 30 rfl dX5_mayHavePlace_29 rfl (ck_zret dX5_mayHavePlace_30 rfl (by decide) (h5.2 c4)))) (fun q => absurd q (by decide))))))))))))))))))) (fun c7 _ => (ck_if_eq 9 rfl 29 dX5_mayHavePlace_6 rfl (by decide) (fun _ => (ck_iconst 30 rfl dX5_mayHavePlace_29 rfl (ck_zret dX5_mayHavePlace_30 rfl (by decide) (h8.2 c7)))) (fun q => absurd q (by decide)))))))))))
theorem p_X5_mayHavePlace {g : ch_G} {A R : Nat} (hC : ck_Cx g A R) {d : Nat} {K : Option ck_V → ck_W → Prop} {w : ck_W} {a1 a2 : Int} (hD : cs_D A R w) (h1 : (0 ≤ a1 ∧ a1 ≤ 5) ∧ (0 ≤ a2 ∧ a2 ≤ 4 * (A : Int) - 1) → K (some (.inl 1)) w) (h0 : ¬ ((0 ≤ a1 ∧ a1 ≤ 5) ∧ (0 ≤ a2 ∧ a2 ≤ 4 * (A : Int) - 1)) → K (some (.inl 0)) w) : ck_Ex (ch_C g A R) (d + 1) mX5_mayHavePlace [.inr (.inr 3), .inl a1, .inl a2] w K := by
  have c := cs_ar hC
  have e := hD.1
  exact e_X5_mayHavePlace hC ⟨fun q1 => ⟨by constructor <;> omega, fun q2 => h1 ⟨q1, by omega⟩, fun q => h0 (fun x => q (by omega))⟩, fun q => h0 (fun x => q x.1)⟩
/-- slice, place and radius may be -/
def cs_pl (A : Nat) (z p : Int) : Prop := (0 ≤ z ∧ z ≤ 5) ∧ (0 ≤ p ∧ p ≤ 4 * (A : Int) - 1)
theorem dX11_pin_0 : decode cX11_pin 0 = .ok (.aload_n 0, 1) := dk_42 (by decide +kernel)
theorem dX11_pin_1 : decode cX11_pin 1 = .ok (.getfield 14, 3) := dk_180 0 14 (by decide +kernel)
theorem dX11_pin_4 : decode cX11_pin 4 = .ok (.getfield 23, 3) := dk_180 0 23 (by decide +kernel)
theorem dX11_pin_7 : decode cX11_pin 7 = .ok (.astore 4, 2) := dk_58 (by decide +kernel)
theorem dX11_pin_9 : decode cX11_pin 9 = .ok (.aload 4, 2) := dk_25 (by decide +kernel)
theorem dX11_pin_11 : decode cX11_pin 11 = .ok (.iload_n 1, 1) := dk_27 (by decide +kernel)
theorem dX11_pin_12 : decode cX11_pin 12 = .ok (.iload_n 2, 1) := dk_28 (by decide +kernel)
theorem dX11_pin_13 : decode cX11_pin 13 = .ok (.invokevirtual 110, 3) := dk_182 0 110 (by decide +kernel)
theorem dX11_pin_16 : decode cX11_pin 16 = .ok (.ifCond .eq 18, 3) := dk_153 0 18 (by decide +kernel)
theorem dX11_pin_19 : decode cX11_pin 19 = .ok (.iload_n 3, 1) := dk_29 (by decide +kernel)
theorem dX11_pin_20 : decode cX11_pin 20 = .ok (.iconst 0, 1) := dk_3 (by decide +kernel)
theorem dX11_pin_21 : decode cX11_pin 21 = .ok (.aload 4, 2) := dk_25 (by decide +kernel)
theorem dX11_pin_23 : decode cX11_pin 23 = .ok (.getfield 97, 3) := dk_180 0 97 (by decide +kernel)
theorem dX11_pin_26 : decode cX11_pin 26 = .ok (.iconst 1, 1) := dk_4 (by decide +kernel)
theorem dX11_pin_27 : decode cX11_pin 27 = .ok (.isub, 1) := dk_100 (by decide +kernel)
theorem dX11_pin_28 : decode cX11_pin 28 = .ok (.invokestatic 82, 3) := dk_184 0 82 (by decide +kernel)
theorem dX11_pin_31 : decode cX11_pin 31 = .ok (.ifCond .ne 5, 3) := dk_154 0 5 (by decide +kernel)
theorem dX11_pin_34 : decode cX11_pin 34 = .ok (.iconst (-1), 1) := dk_2 (by decide +kernel)
theorem dX11_pin_35 : decode cX11_pin 35 = .ok (.ireturn, 1) := dk_172 (by decide +kernel)
theorem dX11_pin_36 : decode cX11_pin 36 = .ok (.iload_n 1, 1) := dk_27 (by decide +kernel)
theorem dX11_pin_37 : decode cX11_pin 37 = .ok (.bipush 24, 2) := dk_16 24 (by decide +kernel)
theorem dX11_pin_39 : decode cX11_pin 39 = .ok (.imul, 1) := dk_104 (by decide +kernel)
theorem dX11_pin_40 : decode cX11_pin 40 = .ok (.iload_n 2, 1) := dk_28 (by decide +kernel)
theorem dX11_pin_41 : decode cX11_pin 41 = .ok (.iadd, 1) := dk_96 (by decide +kernel)
theorem dX11_pin_42 : decode cX11_pin 42 = .ok (.istore 5, 2) := dk_54 (by decide +kernel)
theorem dX11_pin_44 : decode cX11_pin 44 = .ok (.aload 4, 2) := dk_25 (by decide +kernel)
theorem dX11_pin_46 : decode cX11_pin 46 = .ok (.getfield 114, 3) := dk_180 0 114 (by decide +kernel)
theorem dX11_pin_49 : decode cX11_pin 49 = .ok (.iload 5, 2) := dk_21 (by decide +kernel)
theorem dX11_pin_51 : decode cX11_pin 51 = .ok (.iaload, 1) := dk_46 (by decide +kernel)
theorem dX11_pin_52 : decode cX11_pin 52 = .ok (.iconst (-1), 1) := dk_2 (by decide +kernel)
theorem dX11_pin_53 : decode cX11_pin 53 = .ok (.if_icmp .ne 13, 3) := dk_160 0 13 (by decide +kernel)
theorem dX11_pin_56 : decode cX11_pin 56 = .ok (.aload 4, 2) := dk_25 (by decide +kernel)
theorem dX11_pin_58 : decode cX11_pin 58 = .ok (.getfield 117, 3) := dk_180 0 117 (by decide +kernel)
theorem dX11_pin_61 : decode cX11_pin 61 = .ok (.bipush 20, 2) := dk_16 20 (by decide +kernel)
theorem dX11_pin_63 : decode cX11_pin 63 = .ok (.if_icmp .lt 5, 3) := dk_161 0 5 (by decide +kernel)
theorem dX11_pin_66 : decode cX11_pin 66 = .ok (.iconst (-1), 1) := dk_2 (by decide +kernel)
theorem dX11_pin_67 : decode cX11_pin 67 = .ok (.ireturn, 1) := dk_172 (by decide +kernel)
theorem dX11_pin_68 : decode cX11_pin 68 = .ok (.aload 4, 2) := dk_25 (by decide +kernel)
theorem dX11_pin_70 : decode cX11_pin 70 = .ok (.getfield 114, 3) := dk_180 0 114 (by decide +kernel)
theorem dX11_pin_73 : decode cX11_pin 73 = .ok (.iload 5, 2) := dk_21 (by decide +kernel)
theorem dX11_pin_75 : decode cX11_pin 75 = .ok (.iload_n 3, 1) := dk_29 (by decide +kernel)
theorem dX11_pin_76 : decode cX11_pin 76 = .ok (.iastore, 1) := dk_79 (by decide +kernel)
theorem dX11_pin_77 : decode cX11_pin 77 = .ok (.aload 4, 2) := dk_25 (by decide +kernel)
theorem dX11_pin_79 : decode cX11_pin 79 = .ok (.dup, 1) := dk_89 (by decide +kernel)
theorem dX11_pin_80 : decode cX11_pin 80 = .ok (.getfield 117, 3) := dk_180 0 117 (by decide +kernel)
theorem dX11_pin_83 : decode cX11_pin 83 = .ok (.iconst 1, 1) := dk_4 (by decide +kernel)
theorem dX11_pin_84 : decode cX11_pin 84 = .ok (.iadd, 1) := dk_96 (by decide +kernel)
theorem dX11_pin_85 : decode cX11_pin 85 = .ok (.putfield 117, 3) := dk_181 0 117 (by decide +kernel)
theorem dX11_pin_88 : decode cX11_pin 88 = .ok (.aload_n 0, 1) := dk_42 (by decide +kernel)
theorem dX11_pin_89 : decode cX11_pin 89 = .ok (.getfield 30, 3) := dk_180 0 30 (by decide +kernel)
theorem dX11_pin_92 : decode cX11_pin 92 = .ok (.iload_n 1, 1) := dk_27 (by decide +kernel)
theorem dX11_pin_93 : decode cX11_pin 93 = .ok (.invokevirtual 93, 3) := dk_182 0 93 (by decide +kernel)
theorem dX11_pin_96 : decode cX11_pin 96 = .ok (.aload 4, 2) := dk_25 (by decide +kernel)
theorem dX11_pin_98 : decode cX11_pin 98 = .ok (.getfield 117, 3) := dk_180 0 117 (by decide +kernel)
theorem dX11_pin_101 : decode cX11_pin 101 = .ok (.ireturn, 1) := dk_172 (by decide +kernel)
set_option maxRecDepth 8000 in
theorem e_X11_pin {g : ch_G} {A R : Nat} (hC : ck_Cx g A R) {d : Nat} {K : Option ck_V → ck_W → Prop} {w : ck_W} {a1 a2 a3 : Int} (h : ck_CI (ch_C g A R) d mX5_mayHavePlace [.inr (.inr 3), .inl a1, .inl a2] w (fun v2 w1 => (v2 = 0 → K (some (.inl (-1))) w1) ∧ (¬ v2 = 0 → ck_i ((w1 3 1) - 1) ∧ ((0 ≤ a3 ∧ a3 ≤ ((w1 3 1) - 1) → ck_i ((a1 * 24) + a2) ∧ ((0 ≤ ((a1 * 24) + a2) ∧ ((a1 * 24) + a2) < 144) ∧ ((¬ (w1 7 ((a1 * 24) + a2)) = (-1) → K (some (.inl (-1))) w1) ∧ ((w1 7 ((a1 * 24) + a2)) = (-1) → ((w1 3 6) < 20 → ck_i ((w1 3 6) + 1) ∧ (ck_CN (ch_C g A R) d mX10_forget [.inr (.inr 51), .inl a1] (ck_up (ck_up w1 7 ((a1 * 24) + a2) a3) 3 6 ((w1 3 6) + 1)) (fun w13 => K (some (.inl (w13 3 6))) w13))) ∧ (¬ (w1 3 6) < 20 → K (some (.inl (-1))) w1))))) ∧ (¬ (0 ≤ a3 ∧ a3 ≤ ((w1 3 1) - 1)) → K (some (.inl (-1))) w1))))) : ck_Ex (ch_C g A R) (d + 1) mX11_pin [.inr (.inr 0), .inl a1, .inl a2, .inl a3] w K :=
  ck_entry hC.1 [some (.inr (.inr 0)), some (.inl a1), some (.inl a2), some (.inl a3), none, none] (by decide) (Nat.le_of_ble_eq_true rfl) rfl (fun q => q) (ck_in (fun hl => (ck_aload_n 1 rfl 0 dX11_pin_0 rfl rfl (ck_getr 4 rfl dX11_pin_1 fl_X11_14 sh_0 rfl (ck_getr 7 rfl dX11_pin_4 fl_X11_23 sh_1 rfl (ck_astore 9 rfl [some (.inr (.inr 0)), some (.inl a1), some (.inl a2), some (.inl a3), some (.inr (.inr 3)), none] dX11_pin_7 (Nat.le_of_ble_eq_true rfl) rfl rfl (ck_aload 11 rfl dX11_pin_9 rfl (ck_iload_n 12 rfl 1 dX11_pin_11 rfl rfl (ck_iload_n 13 rfl 2 dX11_pin_12 rfl rfl (ck_callV 16 rfl [.inl a1, .inl a2] [] dX11_pin_13 cv_X11_110 sh_3 rfl rfl (Nat.le_of_ble_eq_true rfl) (And.intro hl.2.1 (And.intro hl.2.2.1 True.intro)) (ck_mI h (fun v2 w1 q3 h4 => (ck_if_eq 19 rfl 34 dX11_pin_16 rfl q3 (fun c23 => (ck_iconst 35 rfl dX11_pin_34 rfl (ck_iret dX11_pin_35 rfl (show ck_i (-1) by decide) (h4.1 c23)))) (fun c24 => (ck_iload_n 20 rfl 3 dX11_pin_19 rfl rfl (ck_iconst 21 rfl dX11_pin_20 rfl (ck_aload 23 rfl dX11_pin_21 rfl (ck_geti 26 rfl 1 dX11_pin_23 fl_X11_97 sh_3 rfl rfl _ rfl (fun (q5 : ck_i (w1 3 1)) => (ck_iconst 27 rfl dX11_pin_26 rfl (ck_isub 28 rfl dX11_pin_27 (have h26 := (h4.2 c24); have o6 := h26.1; have h25 := h26.2; (have h22 := h25; ck_callS 31 rfl [.inl a3, .inl 0, .inl ((w1 3 1) - 1)] [] dX11_pin_28 cs_X11_82 rfl rfl (Nat.le_of_ble_eq_true rfl) (And.intro hl.2.2.2.1 (And.intro (show ck_i 0 by decide) (And.intro o6 True.intro))) (p_X11_within hC (fun c20 _ => (ck_if_ne 34 rfl 36 dX11_pin_31 rfl (by decide) (fun _ => (ck_iload_n 37 rfl 1 dX11_pin_36 rfl rfl (ck_bipush 39 rfl dX11_pin_37 rfl (ck_imul 40 rfl dX11_pin_39 (ck_iload_n 41 rfl 2 dX11_pin_40 rfl rfl (ck_iadd 42 rfl dX11_pin_41 (have h28 := (h22.1 c20); have o7 := h28.1; have h27 := h28.2; (ck_istore 44 rfl [some (.inr (.inr 0)), some (.inl a1), some (.inl a2), some (.inl a3), some (.inr (.inr 3)), some (.inl ((a1 * 24) + a2))] dX11_pin_42 (Nat.le_of_ble_eq_true rfl) rfl rfl o7 (ck_aload 46 rfl dX11_pin_44 rfl (ck_getr 49 rfl dX11_pin_46 fl_X11_114 sh_3 rfl (ck_iload 51 rfl dX11_pin_49 rfl (have h30 := h27; have o8 := h30.1; have h29 := h30.2; (ck_iald 52 rfl dX11_pin_51 sh_7 (shn_7 hC) o8 _ rfl (fun (q9 : ck_i (w1 7 ((a1 * 24) + a2))) => (ck_iconst 53 rfl dX11_pin_52 rfl (ck_icmp_ne 56 rfl 66 dX11_pin_53 rfl q9 (show ck_i (-1) by decide) (fun c18 => (ck_iconst 67 rfl dX11_pin_66 rfl (ck_iret dX11_pin_67 rfl (show ck_i (-1) by decide) (h29.1 c18)))) (fun c19 => (ck_aload 58 rfl dX11_pin_56 rfl (ck_geti 61 rfl 6 dX11_pin_58 fl_X11_117 sh_3 rfl rfl _ rfl (fun (q10 : ck_i (w1 3 6)) => (ck_bipush 63 rfl dX11_pin_61 rfl (have h31 := (h29.2 c19); (ck_icmp_lt 66 rfl 68 dX11_pin_63 rfl q10 (show ck_i 20 by decide) (fun c16 => (ck_aload 70 rfl dX11_pin_68 rfl (ck_getr 73 rfl dX11_pin_70 fl_X11_114 sh_3 rfl (ck_iload 75 rfl dX11_pin_73 rfl (ck_iload_n 76 rfl 3 dX11_pin_75 rfl rfl (ck_iast 77 rfl dX11_pin_76 sh_7 (shn_7 hC) o8 hl.2.2.2.1 (ck_aload 79 rfl dX11_pin_77 rfl (ck_dup 80 rfl dX11_pin_79 rfl (ck_geti 83 rfl 6 dX11_pin_80 fl_X11_117 sh_3 rfl rfl _ rfl (fun (q11 : ck_i (w1 3 6)) => (ck_iconst 84 rfl dX11_pin_83 rfl (ck_iadd 85 rfl dX11_pin_84 (have h33 := (h31.1 c16); have o12 := h33.1; have h32 := h33.2; (ck_puti 88 rfl 6 dX11_pin_85 fp_X11_117 sh_3 rfl rfl o12 (ck_aload_n 89 rfl 0 dX11_pin_88 rfl rfl (ck_getr 92 rfl dX11_pin_89 fl_X11_30 sh_0 rfl (ck_iload_n 93 rfl 1 dX11_pin_92 rfl rfl (ck_callV 96 rfl [.inl a1] [] dX11_pin_93 cv_X11_93 sh_51 rfl rfl (Nat.le_of_ble_eq_true rfl) (And.intro hl.2.1 True.intro) (ck_mN h32 (fun w13 h15 => (ck_aload 98 rfl dX11_pin_96 rfl (ck_geti 101 rfl 6 dX11_pin_98 fl_X11_117 sh_3 rfl rfl _ rfl (fun (q14 : ck_i (w13 3 6)) => (ck_iret dX11_pin_101 rfl q14 h15)))))))))))))))))))))))) (fun c17 => (ck_iconst 67 rfl dX11_pin_66 rfl (ck_iret dX11_pin_67 rfl (show ck_i (-1) by decide) (h31.2 c17))))))))))))))))))))))))))) (fun q => absurd q (by decide)))) (fun c21 _ => (ck_if_ne 34 rfl 36 dX11_pin_31 rfl (by decide) (fun q => absurd q (by decide)) (fun _ => (ck_iconst 35 rfl dX11_pin_34 rfl (ck_iret dX11_pin_35 rfl (show ck_i (-1) by decide) (h22.2 c21))))))))))))))))))))))))))))))
theorem C_pin {g : ch_G} {A R : Nat} (hC : ck_Cx g A R) {d : Nat} {K : Option ck_V → ck_W → Prop} {w : ck_W} {a1 a2 a3 : Int} (hD : cs_D A R w) (hp : 0 ≤ w 3 6 ∧ w 3 6 ≤ 20) (h1 : cs_pl A a1 a2 ∧ (0 ≤ a3 ∧ a3 < (R : Int)) ∧ w 7 (a1 * 24 + a2) = -1 ∧ w 3 6 < 20 → K (some (.inl (w 3 6 + 1))) (ck_up (ck_up (ck_up w 7 (a1 * 24 + a2) a3) 3 6 (w 3 6 + 1)) 59 a1 0)) (h0 : ¬ (cs_pl A a1 a2 ∧ (0 ≤ a3 ∧ a3 < (R : Int)) ∧ w 7 (a1 * 24 + a2) = -1 ∧ w 3 6 < 20) → K (some (.inl (-1))) w) : ck_Ex (ch_C g A R) (d + 2) mX11_pin [.inr (.inr 0), .inl a1, .inl a2, .inl a3] w K := by
  have c := cs_ar hC
  have e := hD.2
  refine e_X11_pin hC (p_X5_mayHavePlace hC hD (fun ok => ⟨_, rfl, fun _ => ⟨fun q => absurd q (by decide), fun _ => ⟨by constructor <;> omega, fun q3 => ⟨by constructor <;> omega, by omega, fun q7 => h0 (fun x => q7 x.2.2.1), fun q7 => ⟨fun q6 => ⟨by constructor <;> omega, e_X10_forget hC ⟨fun _ => ⟨by omega, rfl, ?_⟩, fun q => absurd ok.1 q⟩⟩, fun q => h0 (fun x => q x.2.2.2)⟩⟩, fun q => h0 (fun x => q (by have := x.2.1; omega))⟩⟩⟩) (fun no => ⟨_, rfl, fun _ => ⟨fun _ => h0 (fun x => no x.1), fun q => absurd rfl q⟩⟩))
  have k := h1 ⟨ok, by omega, q7, q6⟩
  have s : (ck_up (ck_up (ck_up w 7 (a1 * 24 + a2) a3) 3 6 (w 3 6 + 1)) 59 a1 0) 3 6 = w 3 6 + 1 := by rw [ck_up_ne (by decide), ck_up_eq]
  dsimp only
  rw [s]
  exact k
theorem dX11_bit_0 : decode cX11_bit 0 = .ok (.aload_n 0, 1) := dk_42 (by decide +kernel)
theorem dX11_bit_1 : decode cX11_bit 1 = .ok (.getfield 14, 3) := dk_180 0 14 (by decide +kernel)
theorem dX11_bit_4 : decode cX11_bit 4 = .ok (.getfield 56, 3) := dk_180 0 56 (by decide +kernel)
theorem dX11_bit_7 : decode cX11_bit 7 = .ok (.astore 5, 2) := dk_58 (by decide +kernel)
theorem dX11_bit_9 : decode cX11_bit 9 = .ok (.aload_n 0, 1) := dk_42 (by decide +kernel)
theorem dX11_bit_10 : decode cX11_bit 10 = .ok (.getfield 14, 3) := dk_180 0 14 (by decide +kernel)
theorem dX11_bit_13 : decode cX11_bit 13 = .ok (.getfield 23, 3) := dk_180 0 23 (by decide +kernel)
theorem dX11_bit_16 : decode cX11_bit 16 = .ok (.iload_n 1, 1) := dk_27 (by decide +kernel)
theorem dX11_bit_17 : decode cX11_bit 17 = .ok (.iload_n 2, 1) := dk_28 (by decide +kernel)
theorem dX11_bit_18 : decode cX11_bit 18 = .ok (.invokevirtual 110, 3) := dk_182 0 110 (by decide +kernel)
theorem dX11_bit_21 : decode cX11_bit 21 = .ok (.ifCond .eq 13, 3) := dk_153 0 13 (by decide +kernel)
theorem dX11_bit_24 : decode cX11_bit 24 = .ok (.iload 4, 2) := dk_21 (by decide +kernel)
theorem dX11_bit_26 : decode cX11_bit 26 = .ok (.iconst 0, 1) := dk_3 (by decide +kernel)
theorem dX11_bit_27 : decode cX11_bit 27 = .ok (.iconst 3, 1) := dk_6 (by decide +kernel)
theorem dX11_bit_28 : decode cX11_bit 28 = .ok (.invokestatic 82, 3) := dk_184 0 82 (by decide +kernel)
theorem dX11_bit_31 : decode cX11_bit 31 = .ok (.ifCond .ne 5, 3) := dk_154 0 5 (by decide +kernel)
theorem dX11_bit_34 : decode cX11_bit 34 = .ok (.iconst (-1), 1) := dk_2 (by decide +kernel)
theorem dX11_bit_35 : decode cX11_bit 35 = .ok (.ireturn, 1) := dk_172 (by decide +kernel)
theorem dX11_bit_36 : decode cX11_bit 36 = .ok (.iload_n 1, 1) := dk_27 (by decide +kernel)
theorem dX11_bit_37 : decode cX11_bit 37 = .ok (.bipush 24, 2) := dk_16 24 (by decide +kernel)
theorem dX11_bit_39 : decode cX11_bit 39 = .ok (.imul, 1) := dk_104 (by decide +kernel)
theorem dX11_bit_40 : decode cX11_bit 40 = .ok (.iload_n 2, 1) := dk_28 (by decide +kernel)
theorem dX11_bit_41 : decode cX11_bit 41 = .ok (.iadd, 1) := dk_96 (by decide +kernel)
theorem dX11_bit_42 : decode cX11_bit 42 = .ok (.istore 6, 2) := dk_54 (by decide +kernel)
theorem dX11_bit_44 : decode cX11_bit 44 = .ok (.aload 5, 2) := dk_25 (by decide +kernel)
theorem dX11_bit_46 : decode cX11_bit 46 = .ok (.getfield 209, 3) := dk_180 0 209 (by decide +kernel)
theorem dX11_bit_49 : decode cX11_bit 49 = .ok (.iload 6, 2) := dk_21 (by decide +kernel)
theorem dX11_bit_51 : decode cX11_bit 51 = .ok (.iaload, 1) := dk_46 (by decide +kernel)
theorem dX11_bit_52 : decode cX11_bit 52 = .ok (.iconst (-1), 1) := dk_2 (by decide +kernel)
theorem dX11_bit_53 : decode cX11_bit 53 = .ok (.if_icmp .ne 26, 3) := dk_160 0 26 (by decide +kernel)
theorem dX11_bit_56 : decode cX11_bit 56 = .ok (.aload 5, 2) := dk_25 (by decide +kernel)
theorem dX11_bit_58 : decode cX11_bit 58 = .ok (.getfield 212, 3) := dk_180 0 212 (by decide +kernel)
theorem dX11_bit_61 : decode cX11_bit 61 = .ok (.bipush 60, 2) := dk_16 60 (by decide +kernel)
theorem dX11_bit_63 : decode cX11_bit 63 = .ok (.if_icmp .lt 5, 3) := dk_161 0 5 (by decide +kernel)
theorem dX11_bit_66 : decode cX11_bit 66 = .ok (.iconst (-1), 1) := dk_2 (by decide +kernel)
theorem dX11_bit_67 : decode cX11_bit 67 = .ok (.ireturn, 1) := dk_172 (by decide +kernel)
theorem dX11_bit_68 : decode cX11_bit 68 = .ok (.aload 5, 2) := dk_25 (by decide +kernel)
theorem dX11_bit_70 : decode cX11_bit 70 = .ok (.dup, 1) := dk_89 (by decide +kernel)
theorem dX11_bit_71 : decode cX11_bit 71 = .ok (.getfield 212, 3) := dk_180 0 212 (by decide +kernel)
theorem dX11_bit_74 : decode cX11_bit 74 = .ok (.iconst 1, 1) := dk_4 (by decide +kernel)
theorem dX11_bit_75 : decode cX11_bit 75 = .ok (.iadd, 1) := dk_96 (by decide +kernel)
theorem dX11_bit_76 : decode cX11_bit 76 = .ok (.putfield 212, 3) := dk_181 0 212 (by decide +kernel)
theorem dX11_bit_79 : decode cX11_bit 79 = .ok (.aload 5, 2) := dk_25 (by decide +kernel)
theorem dX11_bit_81 : decode cX11_bit 81 = .ok (.getfield 209, 3) := dk_180 0 209 (by decide +kernel)
theorem dX11_bit_84 : decode cX11_bit 84 = .ok (.iload 6, 2) := dk_21 (by decide +kernel)
theorem dX11_bit_86 : decode cX11_bit 86 = .ok (.iload 4, 2) := dk_21 (by decide +kernel)
theorem dX11_bit_88 : decode cX11_bit 88 = .ok (.iconst 2, 1) := dk_5 (by decide +kernel)
theorem dX11_bit_89 : decode cX11_bit 89 = .ok (.imul, 1) := dk_104 (by decide +kernel)
theorem dX11_bit_90 : decode cX11_bit 90 = .ok (.iload_n 3, 1) := dk_29 (by decide +kernel)
theorem dX11_bit_91 : decode cX11_bit 91 = .ok (.ifCond .eq 7, 3) := dk_153 0 7 (by decide +kernel)
theorem dX11_bit_94 : decode cX11_bit 94 = .ok (.iconst 1, 1) := dk_4 (by decide +kernel)
theorem dX11_bit_95 : decode cX11_bit 95 = .ok (.goto 4, 3) := dk_167 0 4 (by decide +kernel)
theorem dX11_bit_98 : decode cX11_bit 98 = .ok (.iconst 0, 1) := dk_3 (by decide +kernel)
theorem dX11_bit_99 : decode cX11_bit 99 = .ok (.iadd, 1) := dk_96 (by decide +kernel)
theorem dX11_bit_100 : decode cX11_bit 100 = .ok (.iastore, 1) := dk_79 (by decide +kernel)
theorem dX11_bit_101 : decode cX11_bit 101 = .ok (.aload 5, 2) := dk_25 (by decide +kernel)
theorem dX11_bit_103 : decode cX11_bit 103 = .ok (.getfield 212, 3) := dk_180 0 212 (by decide +kernel)
theorem dX11_bit_106 : decode cX11_bit 106 = .ok (.ireturn, 1) := dk_172 (by decide +kernel)
set_option maxRecDepth 8000 in
theorem e_X11_bit {g : ch_G} {A R : Nat} (hC : ck_Cx g A R) {d : Nat} {K : Option ck_V → ck_W → Prop} {w : ck_W} {a1 a2 a3 a4 : Int} (h : ck_CI (ch_C g A R) d mX5_mayHavePlace [.inr (.inr 3), .inl a1, .inl a2] w (fun v2 w1 => (v2 = 0 → K (some (.inl (-1))) w1) ∧ (¬ v2 = 0 → (0 ≤ a4 ∧ a4 ≤ 3 → ck_i ((a1 * 24) + a2) ∧ ((0 ≤ ((a1 * 24) + a2) ∧ ((a1 * 24) + a2) < 144) ∧ ((¬ (w1 14 ((a1 * 24) + a2)) = (-1) → (a3 = 0 → ck_i ((a4 * 2) + 0) ∧ (K (some (.inl (w1 10 5))) (ck_up w1 14 ((a1 * 24) + a2) ((a4 * 2) + 0)))) ∧ (¬ a3 = 0 → ck_i ((a4 * 2) + 1) ∧ (K (some (.inl (w1 10 5))) (ck_up w1 14 ((a1 * 24) + a2) ((a4 * 2) + 1))))) ∧ ((w1 14 ((a1 * 24) + a2)) = (-1) → ((w1 10 5) < 60 → ck_i ((w1 10 5) + 1) ∧ ((a3 = 0 → ck_i ((a4 * 2) + 0) ∧ (K (some (.inl ((w1 10 5) + 1))) (ck_up (ck_up w1 10 5 ((w1 10 5) + 1)) 14 ((a1 * 24) + a2) ((a4 * 2) + 0)))) ∧ (¬ a3 = 0 → ck_i ((a4 * 2) + 1) ∧ (K (some (.inl ((w1 10 5) + 1))) (ck_up (ck_up w1 10 5 ((w1 10 5) + 1)) 14 ((a1 * 24) + a2) ((a4 * 2) + 1)))))) ∧ (¬ (w1 10 5) < 60 → K (some (.inl (-1))) w1))))) ∧ (¬ (0 ≤ a4 ∧ a4 ≤ 3) → K (some (.inl (-1))) w1)))) : ck_Ex (ch_C g A R) (d + 1) mX11_bit [.inr (.inr 0), .inl a1, .inl a2, .inl a3, .inl a4] w K :=
  ck_entry hC.1 [some (.inr (.inr 0)), some (.inl a1), some (.inl a2), some (.inl a3), some (.inl a4), none, none] (by decide) (Nat.le_of_ble_eq_true rfl) rfl (fun q => q) (ck_in (fun hl => (ck_aload_n 1 rfl 0 dX11_bit_0 rfl rfl (ck_getr 4 rfl dX11_bit_1 fl_X11_14 sh_0 rfl (ck_getr 7 rfl dX11_bit_4 fl_X11_56 sh_1 rfl (ck_astore 9 rfl [some (.inr (.inr 0)), some (.inl a1), some (.inl a2), some (.inl a3), some (.inl a4), some (.inr (.inr 10)), none] dX11_bit_7 (Nat.le_of_ble_eq_true rfl) rfl rfl (ck_aload_n 10 rfl 0 dX11_bit_9 rfl rfl (ck_getr 13 rfl dX11_bit_10 fl_X11_14 sh_0 rfl (ck_getr 16 rfl dX11_bit_13 fl_X11_23 sh_1 rfl (ck_iload_n 17 rfl 1 dX11_bit_16 rfl rfl (ck_iload_n 18 rfl 2 dX11_bit_17 rfl rfl (ck_callV 21 rfl [.inl a1, .inl a2] [] dX11_bit_18 cv_X11_110 sh_3 rfl rfl (Nat.le_of_ble_eq_true rfl) (And.intro hl.2.1 (And.intro hl.2.2.1 True.intro)) (ck_mI h (fun v2 w1 q3 h4 => (ck_if_eq 24 rfl 34 dX11_bit_21 rfl q3 (fun c30 => (ck_iconst 35 rfl dX11_bit_34 rfl (ck_iret dX11_bit_35 rfl (show ck_i (-1) by decide) (h4.1 c30)))) (fun c31 => (ck_iload 26 rfl dX11_bit_24 rfl (ck_iconst 27 rfl dX11_bit_26 rfl (ck_iconst 28 rfl dX11_bit_27 rfl (have h29 := (h4.2 c31); ck_callS 31 rfl [.inl a4, .inl 0, .inl 3] [] dX11_bit_28 cs_X11_82 rfl rfl (Nat.le_of_ble_eq_true rfl) (And.intro hl.2.2.2.2.1 (And.intro (show ck_i 0 by decide) (And.intro (show ck_i 3 by decide) True.intro))) (p_X11_within hC (fun c27 _ => (ck_if_ne 34 rfl 36 dX11_bit_31 rfl (by decide) (fun _ => (ck_iload_n 37 rfl 1 dX11_bit_36 rfl rfl (ck_bipush 39 rfl dX11_bit_37 rfl (ck_imul 40 rfl dX11_bit_39 (ck_iload_n 41 rfl 2 dX11_bit_40 rfl rfl (ck_iadd 42 rfl dX11_bit_41 (have h33 := (h29.1 c27); have o5 := h33.1; have h32 := h33.2; (ck_istore 44 rfl [some (.inr (.inr 0)), some (.inl a1), some (.inl a2), some (.inl a3), some (.inl a4), some (.inr (.inr 10)), some (.inl ((a1 * 24) + a2))] dX11_bit_42 (Nat.le_of_ble_eq_true rfl) rfl rfl o5 (ck_aload 46 rfl dX11_bit_44 rfl (ck_getr 49 rfl dX11_bit_46 fl_X11_209 sh_10 rfl (ck_iload 51 rfl dX11_bit_49 rfl (have h35 := h32; have o6 := h35.1; have h34 := h35.2; (ck_iald 52 rfl dX11_bit_51 sh_14 (shn_14 hC) o6 _ rfl (fun (q7 : ck_i (w1 14 ((a1 * 24) + a2))) => (ck_iconst 53 rfl dX11_bit_52 rfl (ck_icmp_ne 56 rfl 79 dX11_bit_53 rfl q7 (show ck_i (-1) by decide) (fun c25 => (ck_aload 81 rfl dX11_bit_79 rfl (ck_getr 84 rfl dX11_bit_81 fl_X11_209 sh_10 rfl (ck_iload 86 rfl dX11_bit_84 rfl (ck_iload 88 rfl dX11_bit_86 rfl (ck_iconst 89 rfl dX11_bit_88 rfl (ck_imul 90 rfl dX11_bit_89 (ck_iload_n 91 rfl 3 dX11_bit_90 rfl rfl (have h36 := (h34.1 c25); (ck_if_eq 94 rfl 98 dX11_bit_91 rfl hl.2.2.2.1 (fun c12 => (ck_iconst 99 rfl dX11_bit_98 rfl (ck_iadd 100 rfl dX11_bit_99 (have h38 := (h36.1 c12); have o8 := h38.1; have h37 := h38.2; (ck_iast 101 rfl dX11_bit_100 sh_14 (shn_14 hC) o6 o8 (ck_aload 103 rfl dX11_bit_101 rfl (ck_geti 106 rfl 5 dX11_bit_103 fl_X11_212 sh_10 rfl rfl _ rfl (fun (q9 : ck_i (w1 10 5)) => (ck_iret dX11_bit_106 rfl q9 h37))))))))) (fun c13 => (ck_iconst 95 rfl dX11_bit_94 rfl (ck_goto 99 dX11_bit_95 rfl (ck_iadd 100 rfl dX11_bit_99 (have h40 := (h36.2 c13); have o10 := h40.1; have h39 := h40.2; (ck_iast 101 rfl dX11_bit_100 sh_14 (shn_14 hC) o6 o10 (ck_aload 103 rfl dX11_bit_101 rfl (ck_geti 106 rfl 5 dX11_bit_103 fl_X11_212 sh_10 rfl rfl _ rfl (fun (q11 : ck_i (w1 10 5)) => (ck_iret dX11_bit_106 rfl q11 h39)))))))))))))))))))) (fun c26 => (ck_aload 58 rfl dX11_bit_56 rfl (ck_geti 61 rfl 5 dX11_bit_58 fl_X11_212 sh_10 rfl rfl _ rfl (fun (q14 : ck_i (w1 10 5)) => (ck_bipush 63 rfl dX11_bit_61 rfl (have h41 := (h34.2 c26); (ck_icmp_lt 66 rfl 68 dX11_bit_63 rfl q14 (show ck_i 60 by decide) (fun c23 => (ck_aload 70 rfl dX11_bit_68 rfl (ck_dup 71 rfl dX11_bit_70 rfl (ck_geti 74 rfl 5 dX11_bit_71 fl_X11_212 sh_10 rfl rfl _ rfl (fun (q15 : ck_i (w1 10 5)) => (ck_iconst 75 rfl dX11_bit_74 rfl (ck_iadd 76 rfl dX11_bit_75 (have h43 := (h41.1 c23); have o16 := h43.1; have h42 := h43.2; (ck_puti 79 rfl 5 dX11_bit_76 fp_X11_212 sh_10 rfl rfl o16 (ck_aload 81 rfl dX11_bit_79 rfl (ck_getr 84 rfl dX11_bit_81 fl_X11_209 sh_10 rfl (ck_iload 86 rfl dX11_bit_84 rfl (ck_iload 88 rfl dX11_bit_86 rfl (ck_iconst 89 rfl dX11_bit_88 rfl (ck_imul 90 rfl dX11_bit_89 (ck_iload_n 91 rfl 3 dX11_bit_90 rfl rfl (ck_if_eq 94 rfl 98 dX11_bit_91 rfl hl.2.2.2.1 (fun c21 => (ck_iconst 99 rfl dX11_bit_98 rfl (ck_iadd 100 rfl dX11_bit_99 (have h45 := (h42.1 c21); have o17 := h45.1; have h44 := h45.2; (ck_iast 101 rfl dX11_bit_100 sh_14 (shn_14 hC) o6 o17 (ck_aload 103 rfl dX11_bit_101 rfl (ck_geti 106 rfl 5 dX11_bit_103 fl_X11_212 sh_10 rfl rfl _ rfl (fun (q18 : ck_i ((w1 10 5) + 1)) => (ck_iret dX11_bit_106 rfl q18 h44))))))))) (fun c22 => (ck_iconst 95 rfl dX11_bit_94 rfl (ck_goto 99 dX11_bit_95 rfl (ck_iadd 100 rfl dX11_bit_99 (have h47 := (h42.2 c22); have o19 := h47.1; have h46 := h47.2; (ck_iast 101 rfl dX11_bit_100 sh_14 (shn_14 hC) o6 o19 (ck_aload 103 rfl dX11_bit_101 rfl (ck_geti 106 rfl 5 dX11_bit_103 fl_X11_212 sh_10 rfl rfl _ rfl (fun (q20 : ck_i ((w1 10 5) + 1)) => (ck_iret dX11_bit_106 rfl q20 h46))))))))))))))))))))))))))) (fun c24 => (ck_iconst 67 rfl dX11_bit_66 rfl (ck_iret dX11_bit_67 rfl (show ck_i (-1) by decide) (h41.2 c24))))))))))))))))))))))))))) (fun q => absurd q (by decide)))) (fun c28 _ => (ck_if_ne 34 rfl 36 dX11_bit_31 rfl (by decide) (fun q => absurd q (by decide)) (fun _ => (ck_iconst 35 rfl dX11_bit_34 rfl (ck_iret dX11_bit_35 rfl (show ck_i (-1) by decide) (h29.2 c28)))))))))))))))))))))))))))
theorem C_bit {g : ch_G} {A R : Nat} (hC : ck_Cx g A R) {d : Nat} {K : Option ck_V → ck_W → Prop} {w : ck_W} {a1 a2 a3 a4 : Int} (hD : cs_D A R w) (hb : 0 ≤ w 10 5 ∧ w 10 5 ≤ 60) (h2 : cs_pl A a1 a2 → (0 ≤ a4 ∧ a4 ≤ 3) → ¬ w 14 (a1 * 24 + a2) = -1 → K (some (.inl (w 10 5))) (ck_up w 14 (a1 * 24 + a2) (a4 * 2 + if a3 = 0 then 0 else 1))) (h1 : cs_pl A a1 a2 → (0 ≤ a4 ∧ a4 ≤ 3) → w 14 (a1 * 24 + a2) = -1 → w 10 5 < 60 → K (some (.inl (w 10 5 + 1))) (ck_up (ck_up w 10 5 (w 10 5 + 1)) 14 (a1 * 24 + a2) (a4 * 2 + if a3 = 0 then 0 else 1))) (h0 : ¬ (cs_pl A a1 a2 ∧ (0 ≤ a4 ∧ a4 ≤ 3) ∧ (w 14 (a1 * 24 + a2) = -1 → w 10 5 < 60)) → K (some (.inl (-1))) w) : ck_Ex (ch_C g A R) (d + 2) mX11_bit [.inr (.inr 0), .inl a1, .inl a2, .inl a3, .inl a4] w K := by
  have c := cs_ar hC
  refine e_X11_bit hC (p_X5_mayHavePlace hC hD (fun ok => ⟨_, rfl, fun _ => ⟨fun q => absurd q (by decide), fun _ => ⟨fun q4 => ⟨by constructor <;> omega, by omega, fun q => ⟨fun z => ⟨by constructor <;> omega, ?_⟩, fun z => ⟨by constructor <;> omega, ?_⟩⟩, fun q => ⟨fun q6 => ⟨by constructor <;> omega, fun z => ⟨by constructor <;> omega, ?_⟩, fun z => ⟨by constructor <;> omega, ?_⟩⟩, fun q6 => h0 (fun x => q6 (x.2.2 q))⟩⟩, fun q => h0 (fun x => q x.2.1)⟩⟩⟩) (fun no => ⟨_, rfl, fun _ => ⟨fun _ => h0 (fun x => no x.1), fun q => absurd rfl q⟩⟩))
  · have k := h2 ok q4 q; rw [if_pos z] at k; exact k
  · have k := h2 ok q4 q; rw [if_neg z] at k; exact k
  · have k := h1 ok q4 q q6; rw [if_pos z] at k; exact k
  · have k := h1 ok q4 q q6; rw [if_neg z] at k; exact k
theorem dX4_has_0 : decode cX4_has 0 = .ok (.iload_n 1, 1) := dk_27 (by decide +kernel)
theorem dX4_has_1 : decode cX4_has 1 = .ok (.iconst 0, 1) := dk_3 (by decide +kernel)
theorem dX4_has_2 : decode cX4_has 2 = .ok (.aload_n 0, 1) := dk_42 (by decide +kernel)
theorem dX4_has_3 : decode cX4_has 3 = .ok (.getfield 34, 3) := dk_180 0 34 (by decide +kernel)
theorem dX4_has_6 : decode cX4_has 6 = .ok (.iconst 1, 1) := dk_4 (by decide +kernel)
theorem dX4_has_7 : decode cX4_has 7 = .ok (.isub, 1) := dk_100 (by decide +kernel)
theorem dX4_has_8 : decode cX4_has 8 = .ok (.invokestatic 41, 3) := dk_184 0 41 (by decide +kernel)
theorem dX4_has_11 : decode cX4_has 11 = .ok (.ireturn, 1) := dk_172 (by decide +kernel)
set_option maxRecDepth 8000 in
theorem e_X4_has {g : ch_G} {A R : Nat} (hC : ck_Cx g A R) {d : Nat} {K : Option ck_V → ck_W → Prop} {w : ck_W} {a1 : Int} (h : ck_i ((w 10 3) - 1) ∧ ((0 ≤ a1 ∧ a1 ≤ ((w 10 3) - 1) → K (some (.inl 1)) w) ∧ (¬ (0 ≤ a1 ∧ a1 ≤ ((w 10 3) - 1)) → K (some (.inl 0)) w))) : ck_Ex (ch_C g A R) (d + 1) mX4_has [.inr (.inr 10), .inl a1] w K :=
  ck_entry hC.1 [some (.inr (.inr 10)), some (.inl a1)] (by decide) (Nat.le_of_ble_eq_true rfl) rfl (fun q => q) (ck_in (fun hl => (ck_iload_n 1 rfl 1 dX4_has_0 rfl rfl (ck_iconst 2 rfl dX4_has_1 rfl (ck_aload_n 3 rfl 0 dX4_has_2 rfl rfl (ck_geti 6 rfl 3 dX4_has_3 fl_X4_34 sh_10 rfl rfl _ rfl (fun (q1 : ck_i (w 10 3)) => (ck_iconst 7 rfl dX4_has_6 rfl (ck_isub 8 rfl dX4_has_7 (have h7 := h; have o2 := h7.1; have h6 := h7.2; (have h5 := h6; ck_callSN 11 rfl [.inl a1, .inl 0, .inl ((w 10 3) - 1)] [] dX4_has_8 cn_X4_41 rfl rfl (Nat.le_of_ble_eq_true rfl) (And.intro hl.2.1 (And.intro (show ck_i 0 by decide) (And.intro o2 True.intro))) (p_X11_within hC (fun c3 _ => (ck_zret dX4_has_11 rfl (by decide) (h5.1 c3))) (fun c4 _ => (ck_zret dX4_has_11 rfl (by decide) (h5.2 c4)))))))))))))))
theorem p_X4_has {g : ch_G} {A R : Nat} (hC : ck_Cx g A R) {d : Nat} {K : Option ck_V → ck_W → Prop} {w : ck_W} {a1 : Int} (hc : 0 ≤ w 10 3 ∧ w 10 3 ≤ 4) (h1 : 0 ≤ a1 ∧ a1 < w 10 3 → K (some (.inl 1)) w) (h0 : ¬ (0 ≤ a1 ∧ a1 < w 10 3) → K (some (.inl 0)) w) : ck_Ex (ch_C g A R) (d + 1) mX4_has [.inr (.inr 10), .inl a1] w K :=
  e_X4_has hC ⟨by constructor <;> omega, fun q => h1 (by omega), fun q => h0 (by omega)⟩
theorem dX11_learnt_0 : decode cX11_learnt 0 = .ok (.aload_n 0, 1) := dk_42 (by decide +kernel)
theorem dX11_learnt_1 : decode cX11_learnt 1 = .ok (.getfield 14, 3) := dk_180 0 14 (by decide +kernel)
theorem dX11_learnt_4 : decode cX11_learnt 4 = .ok (.getfield 56, 3) := dk_180 0 56 (by decide +kernel)
theorem dX11_learnt_7 : decode cX11_learnt 7 = .ok (.iload_n 1, 1) := dk_27 (by decide +kernel)
theorem dX11_learnt_8 : decode cX11_learnt 8 = .ok (.invokevirtual 215, 3) := dk_182 0 215 (by decide +kernel)
theorem dX11_learnt_11 : decode cX11_learnt 11 = .ok (.ifCond .eq 13, 3) := dk_153 0 13 (by decide +kernel)
theorem dX11_learnt_14 : decode cX11_learnt 14 = .ok (.iload_n 2, 1) := dk_28 (by decide +kernel)
theorem dX11_learnt_15 : decode cX11_learnt 15 = .ok (.iconst 0, 1) := dk_3 (by decide +kernel)
theorem dX11_learnt_16 : decode cX11_learnt 16 = .ok (.bipush 15, 2) := dk_16 15 (by decide +kernel)
theorem dX11_learnt_18 : decode cX11_learnt 18 = .ok (.invokestatic 82, 3) := dk_184 0 82 (by decide +kernel)
theorem dX11_learnt_21 : decode cX11_learnt 21 = .ok (.ifCond .ne 5, 3) := dk_154 0 5 (by decide +kernel)
theorem dX11_learnt_24 : decode cX11_learnt 24 = .ok (.iconst 0, 1) := dk_3 (by decide +kernel)
theorem dX11_learnt_25 : decode cX11_learnt 25 = .ok (.ireturn, 1) := dk_172 (by decide +kernel)
theorem dX11_learnt_26 : decode cX11_learnt 26 = .ok (.aload_n 0, 1) := dk_42 (by decide +kernel)
theorem dX11_learnt_27 : decode cX11_learnt 27 = .ok (.getfield 14, 3) := dk_180 0 14 (by decide +kernel)
theorem dX11_learnt_30 : decode cX11_learnt 30 = .ok (.getfield 56, 3) := dk_180 0 56 (by decide +kernel)
theorem dX11_learnt_33 : decode cX11_learnt 33 = .ok (.getfield 197, 3) := dk_180 0 197 (by decide +kernel)
theorem dX11_learnt_36 : decode cX11_learnt 36 = .ok (.iload_n 1, 1) := dk_27 (by decide +kernel)
theorem dX11_learnt_37 : decode cX11_learnt 37 = .ok (.iload_n 2, 1) := dk_28 (by decide +kernel)
theorem dX11_learnt_38 : decode cX11_learnt 38 = .ok (.iastore, 1) := dk_79 (by decide +kernel)
theorem dX11_learnt_39 : decode cX11_learnt 39 = .ok (.iconst 1, 1) := dk_4 (by decide +kernel)
theorem dX11_learnt_40 : decode cX11_learnt 40 = .ok (.ireturn, 1) := dk_172 (by decide +kernel)
set_option maxRecDepth 8000 in
theorem e_X11_learnt {g : ch_G} {A R : Nat} (hC : ck_Cx g A R) {d : Nat} {K : Option ck_V → ck_W → Prop} {w : ck_W} {a1 a2 : Int} (h : ck_CI (ch_C g A R) d mX4_has [.inr (.inr 10), .inl a1] w (fun v2 w1 => (v2 = 0 → K (some (.inl 0)) w1) ∧ (¬ v2 = 0 → (0 ≤ a2 ∧ a2 ≤ 15 → (0 ≤ a1 ∧ a1 < 4) ∧ (K (some (.inl 1)) (ck_up w1 13 a1 a2))) ∧ (¬ (0 ≤ a2 ∧ a2 ≤ 15) → K (some (.inl 0)) w1)))) : ck_Ex (ch_C g A R) (d + 1) mX11_learnt [.inr (.inr 0), .inl a1, .inl a2] w K :=
  ck_entry hC.1 [some (.inr (.inr 0)), some (.inl a1), some (.inl a2)] (by decide) (Nat.le_of_ble_eq_true rfl) rfl (fun q => q) (ck_in (fun hl => (ck_aload_n 1 rfl 0 dX11_learnt_0 rfl rfl (ck_getr 4 rfl dX11_learnt_1 fl_X11_14 sh_0 rfl (ck_getr 7 rfl dX11_learnt_4 fl_X11_56 sh_1 rfl (ck_iload_n 8 rfl 1 dX11_learnt_7 rfl rfl (ck_callV 11 rfl [.inl a1] [] dX11_learnt_8 cv_X11_215 sh_10 rfl rfl (Nat.le_of_ble_eq_true rfl) (And.intro hl.2.1 True.intro) (ck_mI h (fun v2 w1 q3 h4 => (ck_if_eq 14 rfl 24 dX11_learnt_11 rfl q3 (fun c9 => (ck_iconst 25 rfl dX11_learnt_24 rfl (ck_zret dX11_learnt_25 rfl (by decide) (h4.1 c9)))) (fun c10 => (ck_iload_n 15 rfl 2 dX11_learnt_14 rfl rfl (ck_iconst 16 rfl dX11_learnt_15 rfl (ck_bipush 18 rfl dX11_learnt_16 rfl (have h8 := (h4.2 c10); ck_callS 21 rfl [.inl a2, .inl 0, .inl 15] [] dX11_learnt_18 cs_X11_82 rfl rfl (Nat.le_of_ble_eq_true rfl) (And.intro hl.2.2.1 (And.intro (show ck_i 0 by decide) (And.intro (show ck_i 15 by decide) True.intro))) (p_X11_within hC (fun c6 _ => (ck_if_ne 24 rfl 26 dX11_learnt_21 rfl (by decide) (fun _ => (ck_aload_n 27 rfl 0 dX11_learnt_26 rfl rfl (ck_getr 30 rfl dX11_learnt_27 fl_X11_14 sh_0 rfl (ck_getr 33 rfl dX11_learnt_30 fl_X11_56 sh_1 rfl (ck_getr 36 rfl dX11_learnt_33 fl_X11_197 sh_10 rfl (ck_iload_n 37 rfl 1 dX11_learnt_36 rfl rfl (ck_iload_n 38 rfl 2 dX11_learnt_37 rfl rfl (have h12 := (h8.1 c6); have o5 := h12.1; have h11 := h12.2; (ck_iast 39 rfl dX11_learnt_38 sh_13 (shn_13 hC) o5 hl.2.2.1 (ck_iconst 40 rfl dX11_learnt_39 rfl (ck_zret dX11_learnt_40 rfl (by decide) h11))))))))))) (fun q => absurd q (by decide)))) (fun c7 _ => (ck_if_ne 24 rfl 26 dX11_learnt_21 rfl (by decide) (fun q => absurd q (by decide)) (fun _ => (ck_iconst 25 rfl dX11_learnt_24 rfl (ck_zret dX11_learnt_25 rfl (by decide) (h8.2 c7))))))))))))))))))))))
theorem C_learnt {g : ch_G} {A R : Nat} (hC : ck_Cx g A R) {d : Nat} {K : Option ck_V → ck_W → Prop} {w : ck_W} {a1 a2 : Int} (hc : 0 ≤ w 10 3 ∧ w 10 3 ≤ 4) (h1 : (0 ≤ a1 ∧ a1 < w 10 3) ∧ (0 ≤ a2 ∧ a2 ≤ 15) → K (some (.inl 1)) (ck_up w 13 a1 a2)) (h0 : ¬ ((0 ≤ a1 ∧ a1 < w 10 3) ∧ (0 ≤ a2 ∧ a2 ≤ 15)) → K (some (.inl 0)) w) : ck_Ex (ch_C g A R) (d + 2) mX11_learnt [.inr (.inr 0), .inl a1, .inl a2] w K :=
  e_X11_learnt hC (p_X4_has hC hc (fun ok => ⟨_, rfl, fun _ => ⟨fun q => absurd q (by decide), fun _ => ⟨fun q => ⟨by omega, h1 ⟨ok, q⟩⟩, fun q => h0 (fun x => q x.2)⟩⟩⟩) (fun no => ⟨_, rfl, fun _ => ⟨fun _ => h0 (fun x => no x.1), fun q => absurd rfl q⟩⟩))
theorem dX11_length_0 : decode cX11_length 0 = .ok (.iload_n 1, 1) := dk_27 (by decide +kernel)
theorem dX11_length_1 : decode cX11_length 1 = .ok (.iconst 1, 1) := dk_4 (by decide +kernel)
theorem dX11_length_2 : decode cX11_length 2 = .ok (.sipush 9999, 3) := dk_17 39 15 (by decide +kernel)
theorem dX11_length_5 : decode cX11_length 5 = .ok (.invokestatic 82, 3) := dk_184 0 82 (by decide +kernel)
theorem dX11_length_8 : decode cX11_length 8 = .ok (.ifCond .eq 13, 3) := dk_153 0 13 (by decide +kernel)
theorem dX11_length_11 : decode cX11_length 11 = .ok (.iload 4, 2) := dk_21 (by decide +kernel)
theorem dX11_length_13 : decode cX11_length 13 = .ok (.iconst 1, 1) := dk_4 (by decide +kernel)
theorem dX11_length_14 : decode cX11_length 14 = .ok (.iload_n 1, 1) := dk_27 (by decide +kernel)
theorem dX11_length_15 : decode cX11_length 15 = .ok (.invokestatic 82, 3) := dk_184 0 82 (by decide +kernel)
theorem dX11_length_18 : decode cX11_length 18 = .ok (.ifCond .ne 5, 3) := dk_154 0 5 (by decide +kernel)
theorem dX11_length_21 : decode cX11_length 21 = .ok (.iconst (-1), 1) := dk_2 (by decide +kernel)
theorem dX11_length_22 : decode cX11_length 22 = .ok (.ireturn, 1) := dk_172 (by decide +kernel)
theorem dX11_length_23 : decode cX11_length 23 = .ok (.iload_n 3, 1) := dk_29 (by decide +kernel)
theorem dX11_length_24 : decode cX11_length 24 = .ok (.iconst 1, 1) := dk_4 (by decide +kernel)
theorem dX11_length_25 : decode cX11_length 25 = .ok (.sipush 999, 3) := dk_17 3 231 (by decide +kernel)
theorem dX11_length_28 : decode cX11_length 28 = .ok (.invokestatic 82, 3) := dk_184 0 82 (by decide +kernel)
theorem dX11_length_31 : decode cX11_length 31 = .ok (.ifCond .eq 12, 3) := dk_153 0 12 (by decide +kernel)
theorem dX11_length_34 : decode cX11_length 34 = .ok (.iload_n 2, 1) := dk_28 (by decide +kernel)
theorem dX11_length_35 : decode cX11_length 35 = .ok (.iconst 1, 1) := dk_4 (by decide +kernel)
theorem dX11_length_36 : decode cX11_length 36 = .ok (.iload_n 3, 1) := dk_29 (by decide +kernel)
theorem dX11_length_37 : decode cX11_length 37 = .ok (.invokestatic 82, 3) := dk_184 0 82 (by decide +kernel)
theorem dX11_length_40 : decode cX11_length 40 = .ok (.ifCond .ne 5, 3) := dk_154 0 5 (by decide +kernel)
theorem dX11_length_43 : decode cX11_length 43 = .ok (.iconst (-1), 1) := dk_2 (by decide +kernel)
theorem dX11_length_44 : decode cX11_length 44 = .ok (.ireturn, 1) := dk_172 (by decide +kernel)
theorem dX11_length_45 : decode cX11_length 45 = .ok (.iload 5, 2) := dk_21 (by decide +kernel)
theorem dX11_length_47 : decode cX11_length 47 = .ok (.ifCond .eq 7, 3) := dk_153 0 7 (by decide +kernel)
theorem dX11_length_50 : decode cX11_length 50 = .ok (.iload_n 2, 1) := dk_28 (by decide +kernel)
theorem dX11_length_51 : decode cX11_length 51 = .ok (.goto 4, 3) := dk_167 0 4 (by decide +kernel)
theorem dX11_length_54 : decode cX11_length 54 = .ok (.iload_n 3, 1) := dk_29 (by decide +kernel)
theorem dX11_length_55 : decode cX11_length 55 = .ok (.istore 6, 2) := dk_54 (by decide +kernel)
theorem dX11_length_57 : decode cX11_length 57 = .ok (.iconst 0, 1) := dk_3 (by decide +kernel)
theorem dX11_length_58 : decode cX11_length 58 = .ok (.istore 7, 2) := dk_54 (by decide +kernel)
theorem dX11_length_60 : decode cX11_length 60 = .ok (.iload_n 1, 1) := dk_27 (by decide +kernel)
theorem dX11_length_61 : decode cX11_length 61 = .ok (.istore 8, 2) := dk_54 (by decide +kernel)
theorem dX11_length_63 : decode cX11_length 63 = .ok (.iload 8, 2) := dk_21 (by decide +kernel)
theorem dX11_length_65 : decode cX11_length 65 = .ok (.iload 4, 2) := dk_21 (by decide +kernel)
theorem dX11_length_67 : decode cX11_length 67 = .ok (.if_icmp .lt 20, 3) := dk_161 0 20 (by decide +kernel)
theorem dX11_length_70 : decode cX11_length 70 = .ok (.iload 7, 2) := dk_21 (by decide +kernel)
theorem dX11_length_72 : decode cX11_length 72 = .ok (.iload 8, 2) := dk_21 (by decide +kernel)
theorem dX11_length_74 : decode cX11_length 74 = .ok (.iadd, 1) := dk_96 (by decide +kernel)
theorem dX11_length_75 : decode cX11_length 75 = .ok (.istore 7, 2) := dk_54 (by decide +kernel)
theorem dX11_length_77 : decode cX11_length 77 = .ok (.iload 8, 2) := dk_21 (by decide +kernel)
theorem dX11_length_79 : decode cX11_length 79 = .ok (.iload 6, 2) := dk_21 (by decide +kernel)
theorem dX11_length_81 : decode cX11_length 81 = .ok (.isub, 1) := dk_100 (by decide +kernel)
theorem dX11_length_82 : decode cX11_length 82 = .ok (.istore 8, 2) := dk_54 (by decide +kernel)
theorem dX11_length_84 : decode cX11_length 84 = .ok (.goto (-21), 3) := dk_167 255 235 (by decide +kernel)
theorem dX11_length_87 : decode cX11_length 87 = .ok (.iload 7, 2) := dk_21 (by decide +kernel)
theorem dX11_length_89 : decode cX11_length 89 = .ok (.ireturn, 1) := dk_172 (by decide +kernel)
set_option maxRecDepth 8000 in
theorem e_X11_length {g : ch_G} {A R : Nat} (hC : ck_Cx g A R) {d : Nat} {K : Option ck_V → ck_W → Prop} {w : ck_W} {a1 a2 a3 a4 a5 : Int} (h : (1 ≤ a1 ∧ a1 ≤ 9999 → (1 ≤ a4 ∧ a4 ≤ a1 → (1 ≤ a3 ∧ a3 ≤ 999 → (1 ≤ a2 ∧ a2 ≤ a3 → (a5 = 0 → ck_At (ch_C g A R) (d + 1) mX11_length K 63 [none, none, none, none, some (.inl a4), none, some (.inl a3), some (.inl 0), some (.inl a1)] [] w) ∧ (¬ a5 = 0 → ck_At (ch_C g A R) (d + 1) mX11_length K 63 [none, none, none, none, some (.inl a4), none, some (.inl a2), some (.inl 0), some (.inl a1)] [] w)) ∧ (¬ (1 ≤ a2 ∧ a2 ≤ a3) → K (some (.inl (-1))) w)) ∧ (¬ (1 ≤ a3 ∧ a3 ≤ 999) → K (some (.inl (-1))) w)) ∧ (¬ (1 ≤ a4 ∧ a4 ≤ a1) → K (some (.inl (-1))) w)) ∧ (¬ (1 ≤ a1 ∧ a1 ≤ 9999) → K (some (.inl (-1))) w)) : ck_Ex (ch_C g A R) (d + 1) mX11_length [.inr (.inr 0), .inl a1, .inl a2, .inl a3, .inl a4, .inl a5] w K :=
  ck_entry hC.1 [some (.inr (.inr 0)), some (.inl a1), some (.inl a2), some (.inl a3), some (.inl a4), some (.inl a5), none, none, none] (by decide) (Nat.le_of_ble_eq_true rfl) rfl (fun q => q) (ck_in (fun hl => (ck_iload_n 1 rfl 1 dX11_length_0 rfl rfl (ck_iconst 2 rfl dX11_length_1 rfl (ck_sipush 5 rfl dX11_length_2 rfl (have h14 := h; ck_callS 8 rfl [.inl a1, .inl 1, .inl 9999] [] dX11_length_5 cs_X11_82 rfl rfl (Nat.le_of_ble_eq_true rfl) (And.intro hl.2.1 (And.intro (show ck_i 1 by decide) (And.intro (show ck_i 9999 by decide) True.intro))) (p_X11_within hC (fun c12 _ => (ck_if_eq 11 rfl 21 dX11_length_8 rfl (by decide) (fun q => absurd q (by decide)) (fun _ => (ck_iload 13 rfl dX11_length_11 rfl (ck_iconst 14 rfl dX11_length_13 rfl (ck_iload_n 15 rfl 1 dX11_length_14 rfl rfl (have h11 := (h14.1 c12); ck_callS 18 rfl [.inl a4, .inl 1, .inl a1] [] dX11_length_15 cs_X11_82 rfl rfl (Nat.le_of_ble_eq_true rfl) (And.intro hl.2.2.2.2.1 (And.intro (show ck_i 1 by decide) (And.intro hl.2.1 True.intro))) (p_X11_within hC (fun c9 _ => (ck_if_ne 21 rfl 23 dX11_length_18 rfl (by decide) (fun _ => (ck_iload_n 24 rfl 3 dX11_length_23 rfl rfl (ck_iconst 25 rfl dX11_length_24 rfl (ck_sipush 28 rfl dX11_length_25 rfl (have h8 := (h11.1 c9); ck_callS 31 rfl [.inl a3, .inl 1, .inl 999] [] dX11_length_28 cs_X11_82 rfl rfl (Nat.le_of_ble_eq_true rfl) (And.intro hl.2.2.2.1 (And.intro (show ck_i 1 by decide) (And.intro (show ck_i 999 by decide) True.intro))) (p_X11_within hC (fun c6 _ => (ck_if_eq 34 rfl 43 dX11_length_31 rfl (by decide) (fun q => absurd q (by decide)) (fun _ => (ck_iload_n 35 rfl 2 dX11_length_34 rfl rfl (ck_iconst 36 rfl dX11_length_35 rfl (ck_iload_n 37 rfl 3 dX11_length_36 rfl rfl (have h5 := (h8.1 c6); ck_callS 40 rfl [.inl a2, .inl 1, .inl a3] [] dX11_length_37 cs_X11_82 rfl rfl (Nat.le_of_ble_eq_true rfl) (And.intro hl.2.2.1 (And.intro (show ck_i 1 by decide) (And.intro hl.2.2.2.1 True.intro))) (p_X11_within hC (fun c3 _ => (ck_if_ne 43 rfl 45 dX11_length_40 rfl (by decide) (fun _ => (ck_iload 47 rfl dX11_length_45 rfl (have h15 := (h5.1 c3); (ck_if_eq 50 rfl 54 dX11_length_47 rfl hl.2.2.2.2.2.1 (fun c1 => (ck_iload_n 55 rfl 3 dX11_length_54 rfl rfl (ck_istore 57 rfl [some (.inr (.inr 0)), some (.inl a1), some (.inl a2), some (.inl a3), some (.inl a4), some (.inl a5), some (.inl a3), none, none] dX11_length_55 (Nat.le_of_ble_eq_true rfl) rfl rfl hl.2.2.2.1 (ck_iconst 58 rfl dX11_length_57 rfl (ck_istore 60 rfl [some (.inr (.inr 0)), some (.inl a1), some (.inl a2), some (.inl a3), some (.inl a4), some (.inl a5), some (.inl a3), some (.inl 0), none] dX11_length_58 (Nat.le_of_ble_eq_true rfl) rfl rfl (show ck_i 0 by decide) (ck_iload_n 61 rfl 1 dX11_length_60 rfl rfl (ck_istore 63 rfl [some (.inr (.inr 0)), some (.inl a1), some (.inl a2), some (.inl a3), some (.inl a4), some (.inl a5), some (.inl a3), some (.inl 0), some (.inl a1)] dX11_length_61 (Nat.le_of_ble_eq_true rfl) rfl rfl hl.2.1 (ck_drop [none, none, none, none, some (.inl a4), none, some (.inl a3), some (.inl 0), some (.inl a1)] (And.intro rfl (And.intro rfl (And.intro rfl (And.intro rfl True.intro)))) (h15.1 c1))))))))) (fun c2 => (ck_iload_n 51 rfl 2 dX11_length_50 rfl rfl (ck_goto 55 dX11_length_51 rfl (ck_istore 57 rfl [some (.inr (.inr 0)), some (.inl a1), some (.inl a2), some (.inl a3), some (.inl a4), some (.inl a5), some (.inl a2), none, none] dX11_length_55 (Nat.le_of_ble_eq_true rfl) rfl rfl hl.2.2.1 (ck_iconst 58 rfl dX11_length_57 rfl (ck_istore 60 rfl [some (.inr (.inr 0)), some (.inl a1), some (.inl a2), some (.inl a3), some (.inl a4), some (.inl a5), some (.inl a2), some (.inl 0), none] dX11_length_58 (Nat.le_of_ble_eq_true rfl) rfl rfl (show ck_i 0 by decide) (ck_iload_n 61 rfl 1 dX11_length_60 rfl rfl (ck_istore 63 rfl [some (.inr (.inr 0)), some (.inl a1), some (.inl a2), some (.inl a3), some (.inl a4), some (.inl a5), some (.inl a2), some (.inl 0), some (.inl a1)] dX11_length_61 (Nat.le_of_ble_eq_true rfl) rfl rfl hl.2.1 (ck_drop [none, none, none, none, some (.inl a4), none, some (.inl a2), some (.inl 0), some (.inl a1)] (And.intro rfl (And.intro rfl (And.intro rfl (And.intro rfl True.intro)))) (h15.2 c2)))))))))))))) (fun q => absurd q (by decide)))) (fun c4 _ => (ck_if_ne 43 rfl 45 dX11_length_40 rfl (by decide) (fun q => absurd q (by decide)) (fun _ => (ck_iconst 44 rfl dX11_length_43 rfl (ck_iret dX11_length_44 rfl (show ck_i (-1) by decide) (h5.2 c4)))))))))))))) (fun c7 _ => (ck_if_eq 34 rfl 43 dX11_length_31 rfl (by decide) (fun _ => (ck_iconst 44 rfl dX11_length_43 rfl (ck_iret dX11_length_44 rfl (show ck_i (-1) by decide) (h8.2 c7)))) (fun q => absurd q (by decide)))))))))) (fun q => absurd q (by decide)))) (fun c10 _ => (ck_if_ne 21 rfl 23 dX11_length_18 rfl (by decide) (fun q => absurd q (by decide)) (fun _ => (ck_iconst 22 rfl dX11_length_21 rfl (ck_iret dX11_length_22 rfl (show ck_i (-1) by decide) (h11.2 c10)))))))))))))) (fun c13 _ => (ck_if_eq 11 rfl 21 dX11_length_8 rfl (by decide) (fun _ => (ck_iconst 22 rfl dX11_length_21 rfl (ck_iret dX11_length_22 rfl (show ck_i (-1) by decide) (h14.2 c13)))) (fun q => absurd q (by decide)))))))))))
set_option maxRecDepth 8000 in
theorem r_X11_length_63 {g : ch_G} {A R : Nat} (hC : ck_Cx g A R) {d : Nat} {K : Option ck_V → ck_W → Prop} {w : ck_W} {a4 a6 a7 a8 : Int} (h : (a8 < a4 → K (some (.inl a7)) w) ∧ (¬ a8 < a4 → ck_i (a7 + a8) ∧ (ck_i (a8 - a6) ∧ (ck_At (ch_C g A R) (d + 1) mX11_length K 63 [none, none, none, none, some (.inl a4), none, some (.inl a6), some (.inl (a7 + a8)), some (.inl (a8 - a6))] [] w)))) : ck_At (ch_C g A R) (d + 1) mX11_length K 63 [none, none, none, none, some (.inl a4), none, some (.inl a6), some (.inl a7), some (.inl a8)] [] w :=
  ck_in (fun hl => (ck_iload 65 rfl dX11_length_63 rfl (ck_iload 67 rfl dX11_length_65 rfl (ck_icmp_lt 70 rfl 87 dX11_length_67 rfl hl.2.2.2.1 hl.1 (fun c3 => (ck_iload 89 rfl dX11_length_87 rfl (ck_iret dX11_length_89 rfl hl.2.2.1 (h.1 c3)))) (fun c4 => (ck_iload 72 rfl dX11_length_70 rfl (ck_iload 74 rfl dX11_length_72 rfl (ck_iadd 75 rfl dX11_length_74 (have h6 := (h.2 c4); have o1 := h6.1; have h5 := h6.2; (ck_istore 77 rfl [none, none, none, none, some (.inl a4), none, some (.inl a6), some (.inl (a7 + a8)), some (.inl a8)] dX11_length_75 (Nat.le_of_ble_eq_true rfl) rfl rfl o1 (ck_iload 79 rfl dX11_length_77 rfl (ck_iload 81 rfl dX11_length_79 rfl (ck_isub 82 rfl dX11_length_81 (have h8 := h5; have o2 := h8.1; have h7 := h8.2; (ck_istore 84 rfl [none, none, none, none, some (.inl a4), none, some (.inl a6), some (.inl (a7 + a8)), some (.inl (a8 - a6))] dX11_length_82 (Nat.le_of_ble_eq_true rfl) rfl rfl o2 (ck_goto 63 dX11_length_84 rfl h7))))))))))))))))
theorem L_X11_length {g : ch_G} {A R : Nat} (hC : ck_Cx g A R) {d : Nat} {K : Option ck_V → ck_W → Prop} {w : ck_W} {a4 a6 a7 a8 : Int} (n : Nat) (hn : a8 ≤ n) (o : Int) (h0 : 0 ≤ a7 ∧ a7 + 9999 * a8 ≤ 9999 * o) (ho : o ≤ 9999) (h7 : a8 ≤ 9999 ∧ -1000 ≤ a8) (h4 : 1 ≤ a4) (h6 : 1 ≤ a6 ∧ a6 ≤ 999) (h : K (some (.inl (ck_len n a8 a4 a6 a7))) w) : ck_At (ch_C g A R) (d + 1) mX11_length K 63 [none, none, none, none, some (.inl a4), none, some (.inl a6), some (.inl a7), some (.inl a8)] [] w := by
  induction n generalizing a7 a8 with
  | zero => exact r_X11_length_63 hC ⟨fun q => h, fun q => absurd (by omega) q⟩
  | succ n ih =>
    rw [ck_len] at h
    refine r_X11_length_63 hC ⟨fun q => by rw [if_pos q] at h; exact h, fun q => ?_⟩
    rw [if_neg q] at h
    exact ⟨by constructor <;> omega, by constructor <;> omega, ih (by omega) (by omega) (by omega) h⟩
theorem C_length {g : ch_G} {A R : Nat} (hC : ck_Cx g A R) {d : Nat} {K : Option ck_V → ck_W → Prop} {w : ck_W} {a1 a2 a3 a4 a5 : Int} (h1 : (1 ≤ a1 ∧ a1 ≤ 9999) ∧ (1 ≤ a2 ∧ a2 ≤ 999) ∧ (a2 ≤ a3 ∧ a3 ≤ 999) ∧ (1 ≤ a4 ∧ a4 ≤ a1) → K (some (.inl (ck_len 9999 a1 a4 (if a5 = 0 then a3 else a2) 0))) w) (h0 : ¬ ((1 ≤ a1 ∧ a1 ≤ 9999) ∧ (1 ≤ a2 ∧ a2 ≤ 999) ∧ (a2 ≤ a3 ∧ a3 ≤ 999) ∧ (1 ≤ a4 ∧ a4 ≤ a1)) → K (some (.inl (-1))) w) : ck_Ex (ch_C g A R) (d + 1) mX11_length [.inr (.inr 0), .inl a1, .inl a2, .inl a3, .inl a4, .inl a5] w K := by
  refine e_X11_length hC ⟨fun q1 => ⟨fun q2 => ⟨fun q3 => ⟨fun q4 => ⟨fun z => ?_, fun z => ?_⟩, fun q4 => h0 (by omega)⟩, fun q3 => h0 (by omega)⟩, fun q2 => h0 (by omega)⟩, fun q1 => h0 (by omega)⟩
  · have k := h1 ⟨q1, by omega, by omega, q2⟩
    rw [if_pos z] at k
    exact L_X11_length hC 9999 (by omega) a1 (by omega) (by omega) (by omega) (by omega) (by omega) k
  · have k := h1 ⟨q1, by omega, by omega, q2⟩
    rw [if_neg z] at k
    exact L_X11_length hC 9999 (by omega) a1 (by omega) (by omega) (by omega) (by omega) (by omega) k
/-- a byte more on the class's tape -/
def cs_by (w : ck_W) (a s : Int) : ck_W := ck_up (ck_up w 68 (w 67 1) (ck_and (ck_shr a s) 255)) 67 1 (w 67 1 + 1)
theorem cs_by1 {w : ck_W} {a s : Int} : cs_by w a s 67 1 = w 67 1 + 1 := by unfold cs_by; rw [ck_up_eq]
def cs_four (w : ck_W) (a : Int) : ck_W := cs_by (cs_by (cs_by (cs_by w a 24) a 16) a 8) a 0
theorem cs_four1 {w : ck_W} {a : Int} : cs_four w a 67 1 = w 67 1 + 4 := by unfold cs_four; rw [cs_by1, cs_by1, cs_by1, cs_by1]; omega
theorem dX6_addFour_0 : decode cX6_addFour 0 = .ok (.bipush 24, 2) := dk_16 24 (by decide +kernel)
theorem dX6_addFour_2 : decode cX6_addFour 2 = .ok (.istore_n 2, 1) := dk_61 (by decide +kernel)
theorem dX6_addFour_3 : decode cX6_addFour 3 = .ok (.iload_n 2, 1) := dk_28 (by decide +kernel)
theorem dX6_addFour_4 : decode cX6_addFour 4 = .ok (.ifCond .lt 45, 3) := dk_155 0 45 (by decide +kernel)
theorem dX6_addFour_7 : decode cX6_addFour 7 = .ok (.aload_n 0, 1) := dk_42 (by decide +kernel)
theorem dX6_addFour_8 : decode cX6_addFour 8 = .ok (.getfield 25, 3) := dk_180 0 25 (by decide +kernel)
theorem dX6_addFour_11 : decode cX6_addFour 11 = .ok (.sipush 300, 3) := dk_17 1 44 (by decide +kernel)
theorem dX6_addFour_14 : decode cX6_addFour 14 = .ok (.if_icmp .ge 35, 3) := dk_162 0 35 (by decide +kernel)
theorem dX6_addFour_17 : decode cX6_addFour 17 = .ok (.aload_n 0, 1) := dk_42 (by decide +kernel)
theorem dX6_addFour_18 : decode cX6_addFour 18 = .ok (.getfield 9, 3) := dk_180 0 9 (by decide +kernel)
theorem dX6_addFour_21 : decode cX6_addFour 21 = .ok (.aload_n 0, 1) := dk_42 (by decide +kernel)
theorem dX6_addFour_22 : decode cX6_addFour 22 = .ok (.getfield 25, 3) := dk_180 0 25 (by decide +kernel)
theorem dX6_addFour_25 : decode cX6_addFour 25 = .ok (.iload_n 1, 1) := dk_27 (by decide +kernel)
theorem dX6_addFour_26 : decode cX6_addFour 26 = .ok (.iload_n 2, 1) := dk_28 (by decide +kernel)
theorem dX6_addFour_27 : decode cX6_addFour 27 = .ok (.ishr, 1) := dk_122 (by decide +kernel)
theorem dX6_addFour_28 : decode cX6_addFour 28 = .ok (.sipush 255, 3) := dk_17 0 255 (by decide +kernel)
theorem dX6_addFour_31 : decode cX6_addFour 31 = .ok (.iand, 1) := dk_126 (by decide +kernel)
theorem dX6_addFour_32 : decode cX6_addFour 32 = .ok (.iastore, 1) := dk_79 (by decide +kernel)
theorem dX6_addFour_33 : decode cX6_addFour 33 = .ok (.aload_n 0, 1) := dk_42 (by decide +kernel)
theorem dX6_addFour_34 : decode cX6_addFour 34 = .ok (.dup, 1) := dk_89 (by decide +kernel)
theorem dX6_addFour_35 : decode cX6_addFour 35 = .ok (.getfield 25, 3) := dk_180 0 25 (by decide +kernel)
theorem dX6_addFour_38 : decode cX6_addFour 38 = .ok (.iconst 1, 1) := dk_4 (by decide +kernel)
theorem dX6_addFour_39 : decode cX6_addFour 39 = .ok (.iadd, 1) := dk_96 (by decide +kernel)
theorem dX6_addFour_40 : decode cX6_addFour 40 = .ok (.putfield 25, 3) := dk_181 0 25 (by decide +kernel)
theorem dX6_addFour_43 : decode cX6_addFour 43 = .ok (.iinc 2 (-8), 3) := dk_132 248 (by decide +kernel)
theorem dX6_addFour_46 : decode cX6_addFour 46 = .ok (.goto (-43), 3) := dk_167 255 213 (by decide +kernel)
theorem dX6_addFour_49 : decode cX6_addFour 49 = .ok (.return_, 1) := dk_177 (by decide +kernel)
set_option maxRecDepth 8000 in
theorem e_X6_addFour {g : ch_G} {A R : Nat} (hC : ck_Cx g A R) {d : Nat} {K : Option ck_V → ck_W → Prop} {w : ck_W} {a1 : Int} (h : ck_At (ch_C g A R) d mX6_addFour K 3 [some (.inr (.inr 67)), some (.inl a1), some (.inl 24)] [] w) : ck_Ex (ch_C g A R) d mX6_addFour [.inr (.inr 67), .inl a1] w K :=
  ck_entry hC.1 [some (.inr (.inr 67)), some (.inl a1), none] (by decide) (Nat.le_of_ble_eq_true rfl) rfl (fun q => q) (ck_in (fun hl => (ck_bipush 2 rfl dX6_addFour_0 rfl (ck_istore_n 3 rfl 2 [some (.inr (.inr 67)), some (.inl a1), some (.inl 24)] dX6_addFour_2 rfl (Nat.le_of_ble_eq_true rfl) rfl rfl (show ck_i 24 by decide) h))))
set_option maxRecDepth 8000 in
theorem r_X6_addFour_3 {g : ch_G} {A R : Nat} (hC : ck_Cx g A R) {d : Nat} {K : Option ck_V → ck_W → Prop} {w : ck_W} {a1 a2 : Int} (h : (a2 < 0 → K none w) ∧ (¬ a2 < 0 → (300 ≤ (w 67 1) → K none w) ∧ (¬ 300 ≤ (w 67 1) → (0 ≤ (w 67 1) ∧ (w 67 1) < 300) ∧ (ck_i ((w 67 1) + 1) ∧ (ck_i (a2 + (-8)) ∧ (ck_At (ch_C g A R) d mX6_addFour K 3 [some (.inr (.inr 67)), some (.inl a1), some (.inl (a2 + (-8)))] [] (ck_up (ck_up w 68 (w 67 1) (ck_and (ck_shr a1 a2) 255)) 67 1 ((w 67 1) + 1)))))))) : ck_At (ch_C g A R) d mX6_addFour K 3 [some (.inr (.inr 67)), some (.inl a1), some (.inl a2)] [] w :=
  ck_in (fun hl => (ck_iload_n 4 rfl 2 dX6_addFour_3 rfl rfl (ck_if_lt 7 rfl 49 dX6_addFour_4 rfl hl.2.2.1 (fun c9 => (ck_vret dX6_addFour_49 rfl (h.1 c9))) (fun c10 => (ck_aload_n 8 rfl 0 dX6_addFour_7 rfl rfl (ck_geti 11 rfl 1 dX6_addFour_8 fl_X6_25 sh_67 rfl rfl _ rfl (fun (q1 : ck_i (w 67 1)) => (ck_sipush 14 rfl dX6_addFour_11 rfl (have h11 := (h.2 c10); (ck_icmp_ge 17 rfl 49 dX6_addFour_14 rfl q1 (show ck_i 300 by decide) (fun c7 => (ck_vret dX6_addFour_49 rfl (h11.1 c7))) (fun c8 => (ck_aload_n 18 rfl 0 dX6_addFour_17 rfl rfl (ck_getr 21 rfl dX6_addFour_18 fl_X6_9 sh_67 rfl (ck_aload_n 22 rfl 0 dX6_addFour_21 rfl rfl (ck_geti 25 rfl 1 dX6_addFour_22 fl_X6_25 sh_67 rfl rfl _ rfl (fun (q2 : ck_i (w 67 1)) => (ck_iload_n 26 rfl 1 dX6_addFour_25 rfl rfl (ck_iload_n 27 rfl 2 dX6_addFour_26 rfl rfl (ck_ishr 28 rfl dX6_addFour_27 (ck_sipush 31 rfl dX6_addFour_28 rfl (ck_iand 32 rfl dX6_addFour_31 (have h13 := (h11.2 c8); have o3 := h13.1; have h12 := h13.2; (ck_iast 33 rfl dX6_addFour_32 sh_68 (shn_68 hC) o3 (ck_rng _) (ck_aload_n 34 rfl 0 dX6_addFour_33 rfl rfl (ck_dup 35 rfl dX6_addFour_34 rfl (ck_geti 38 rfl 1 dX6_addFour_35 fl_X6_25 sh_67 rfl rfl _ rfl (fun (q4 : ck_i (w 67 1)) => (ck_iconst 39 rfl dX6_addFour_38 rfl (ck_iadd 40 rfl dX6_addFour_39 (have h15 := h12; have o5 := h15.1; have h14 := h15.2; (ck_puti 43 rfl 1 dX6_addFour_40 fp_X6_25 sh_67 rfl rfl o5 (have h17 := h14; have o6 := h17.1; have h16 := h17.2; (ck_iinc 46 rfl [some (.inr (.inr 67)), some (.inl a1), some (.inl (a2 + (-8)))] dX6_addFour_43 rfl (Nat.le_of_ble_eq_true rfl) rfl rfl o6 (ck_goto 3 dX6_addFour_46 rfl h16))))))))))))))))))))))))))))))))))
theorem S_X6_addFour {g : ch_G} {A R : Nat} (hC : ck_Cx g A R) {d : Nat} {K : Option ck_V → ck_W → Prop} {w : ck_W} {a1 : Int} (hs : 0 ≤ w 67 1 ∧ w 67 1 + 4 ≤ 300) (h : K none (cs_four w a1)) : ck_Ex (ch_C g A R) d mX6_addFour [.inr (.inr 67), .inl a1] w K := by
  have b1 : ∀ s, cs_by w a1 s 67 1 = w 67 1 + 1 := fun s => cs_by1
  have b2 : ∀ s t, cs_by (cs_by w a1 s) a1 t 67 1 = w 67 1 + 2 := fun s t => by rw [cs_by1, cs_by1]; omega
  have b3 : ∀ s t u, cs_by (cs_by (cs_by w a1 s) a1 t) a1 u 67 1 = w 67 1 + 3 := fun s t u => by rw [cs_by1, cs_by1, cs_by1]; omega
  refine e_X6_addFour hC (r_X6_addFour_3 hC ⟨fun q => absurd q (by decide), fun _ => ⟨fun q => absurd q (by omega), fun _ => ⟨by omega, by constructor <;> omega, by constructor <;> omega, ?_⟩⟩⟩)
  show ck_At (ch_C g A R) d mX6_addFour K 3 [some (.inr (.inr 67)), some (.inl a1), some (.inl 16)] [] (cs_by w a1 24)
  have c1 := b1 24
  refine r_X6_addFour_3 hC ⟨fun q => absurd q (by decide), fun _ => ⟨fun q => absurd q (by omega), fun _ => ⟨by omega, by constructor <;> omega, by constructor <;> omega, ?_⟩⟩⟩
  show ck_At (ch_C g A R) d mX6_addFour K 3 [some (.inr (.inr 67)), some (.inl a1), some (.inl 8)] [] (cs_by (cs_by w a1 24) a1 16)
  have c2 := b2 24 16
  refine r_X6_addFour_3 hC ⟨fun q => absurd q (by decide), fun _ => ⟨fun q => absurd q (by omega), fun _ => ⟨by omega, by constructor <;> omega, by constructor <;> omega, ?_⟩⟩⟩
  show ck_At (ch_C g A R) d mX6_addFour K 3 [some (.inr (.inr 67)), some (.inl a1), some (.inl 0)] [] (cs_by (cs_by (cs_by w a1 24) a1 16) a1 8)
  have c3 := b3 24 16 8
  refine r_X6_addFour_3 hC ⟨fun q => absurd q (by decide), fun _ => ⟨fun q => absurd q (by omega), fun _ => ⟨by omega, by constructor <;> omega, by constructor <;> omega, ?_⟩⟩⟩
  show ck_At (ch_C g A R) d mX6_addFour K 3 [some (.inr (.inr 67)), some (.inl a1), some (.inl (-8))] [] (cs_four w a1)
  exact r_X6_addFour_3 hC ⟨fun _ => h, fun q => absurd (by decide) q⟩
theorem dX11_feed_0 : decode cX11_feed 0 = .ok (.aload_n 0, 1) := dk_42 (by decide +kernel)
theorem dX11_feed_1 : decode cX11_feed 1 = .ok (.getfield 50, 3) := dk_180 0 50 (by decide +kernel)
theorem dX11_feed_4 : decode cX11_feed 4 = .ok (.getfield 176, 3) := dk_180 0 176 (by decide +kernel)
theorem dX11_feed_7 : decode cX11_feed 7 = .ok (.sipush 280, 3) := dk_17 1 24 (by decide +kernel)
theorem dX11_feed_10 : decode cX11_feed 10 = .ok (.if_icmp .le 5, 3) := dk_164 0 5 (by decide +kernel)
theorem dX11_feed_13 : decode cX11_feed 13 = .ok (.iconst (-1), 1) := dk_2 (by decide +kernel)
theorem dX11_feed_14 : decode cX11_feed 14 = .ok (.ireturn, 1) := dk_172 (by decide +kernel)
theorem dX11_feed_15 : decode cX11_feed 15 = .ok (.aload_n 0, 1) := dk_42 (by decide +kernel)
theorem dX11_feed_16 : decode cX11_feed 16 = .ok (.getfield 50, 3) := dk_180 0 50 (by decide +kernel)
theorem dX11_feed_19 : decode cX11_feed 19 = .ok (.iload_n 1, 1) := dk_27 (by decide +kernel)
theorem dX11_feed_20 : decode cX11_feed 20 = .ok (.invokevirtual 179, 3) := dk_182 0 179 (by decide +kernel)
theorem dX11_feed_23 : decode cX11_feed 23 = .ok (.aload_n 0, 1) := dk_42 (by decide +kernel)
theorem dX11_feed_24 : decode cX11_feed 24 = .ok (.getfield 50, 3) := dk_180 0 50 (by decide +kernel)
theorem dX11_feed_27 : decode cX11_feed 27 = .ok (.iload_n 2, 1) := dk_28 (by decide +kernel)
theorem dX11_feed_28 : decode cX11_feed 28 = .ok (.invokevirtual 179, 3) := dk_182 0 179 (by decide +kernel)
theorem dX11_feed_31 : decode cX11_feed 31 = .ok (.aload_n 0, 1) := dk_42 (by decide +kernel)
theorem dX11_feed_32 : decode cX11_feed 32 = .ok (.getfield 50, 3) := dk_180 0 50 (by decide +kernel)
theorem dX11_feed_35 : decode cX11_feed 35 = .ok (.iload_n 3, 1) := dk_29 (by decide +kernel)
theorem dX11_feed_36 : decode cX11_feed 36 = .ok (.invokevirtual 179, 3) := dk_182 0 179 (by decide +kernel)
theorem dX11_feed_39 : decode cX11_feed 39 = .ok (.aload_n 0, 1) := dk_42 (by decide +kernel)
theorem dX11_feed_40 : decode cX11_feed 40 = .ok (.getfield 50, 3) := dk_180 0 50 (by decide +kernel)
theorem dX11_feed_43 : decode cX11_feed 43 = .ok (.iload 4, 2) := dk_21 (by decide +kernel)
theorem dX11_feed_45 : decode cX11_feed 45 = .ok (.invokevirtual 179, 3) := dk_182 0 179 (by decide +kernel)
theorem dX11_feed_48 : decode cX11_feed 48 = .ok (.aload_n 0, 1) := dk_42 (by decide +kernel)
theorem dX11_feed_49 : decode cX11_feed 49 = .ok (.getfield 50, 3) := dk_180 0 50 (by decide +kernel)
theorem dX11_feed_52 : decode cX11_feed 52 = .ok (.iload 5, 2) := dk_21 (by decide +kernel)
theorem dX11_feed_54 : decode cX11_feed 54 = .ok (.invokevirtual 179, 3) := dk_182 0 179 (by decide +kernel)
theorem dX11_feed_57 : decode cX11_feed 57 = .ok (.aload_n 0, 1) := dk_42 (by decide +kernel)
theorem dX11_feed_58 : decode cX11_feed 58 = .ok (.getfield 50, 3) := dk_180 0 50 (by decide +kernel)
theorem dX11_feed_61 : decode cX11_feed 61 = .ok (.getfield 176, 3) := dk_180 0 176 (by decide +kernel)
theorem dX11_feed_64 : decode cX11_feed 64 = .ok (.ireturn, 1) := dk_172 (by decide +kernel)
set_option maxRecDepth 8000 in
theorem e_X11_feed {g : ch_G} {A R : Nat} (hC : ck_Cx g A R) {d : Nat} {K : Option ck_V → ck_W → Prop} {w : ck_W} {a1 a2 a3 a4 a5 : Int} (h : ((w 67 1) ≤ 280 → ck_CN (ch_C g A R) d mX6_addFour [.inr (.inr 67), .inl a1] w (fun w2 => ck_CN (ch_C g A R) d mX6_addFour [.inr (.inr 67), .inl a2] w2 (fun w3 => ck_CN (ch_C g A R) d mX6_addFour [.inr (.inr 67), .inl a3] w3 (fun w4 => ck_CN (ch_C g A R) d mX6_addFour [.inr (.inr 67), .inl a4] w4 (fun w5 => ck_CN (ch_C g A R) d mX6_addFour [.inr (.inr 67), .inl a5] w5 (fun w6 => K (some (.inl (w6 67 1))) w6)))))) ∧ (¬ (w 67 1) ≤ 280 → K (some (.inl (-1))) w)) : ck_Ex (ch_C g A R) (d + 1) mX11_feed [.inr (.inr 0), .inl a1, .inl a2, .inl a3, .inl a4, .inl a5] w K :=
  ck_entry hC.1 [some (.inr (.inr 0)), some (.inl a1), some (.inl a2), some (.inl a3), some (.inl a4), some (.inl a5)] (by decide) (Nat.le_of_ble_eq_true rfl) rfl (fun q => q) (ck_in (fun hl => (ck_aload_n 1 rfl 0 dX11_feed_0 rfl rfl (ck_getr 4 rfl dX11_feed_1 fl_X11_50 sh_0 rfl (ck_geti 7 rfl 1 dX11_feed_4 fl_X11_176 sh_67 rfl rfl _ rfl (fun (q1 : ck_i (w 67 1)) => (ck_sipush 10 rfl dX11_feed_7 rfl (ck_icmp_le 13 rfl 15 dX11_feed_10 rfl q1 (show ck_i 280 by decide) (fun c13 => (ck_aload_n 16 rfl 0 dX11_feed_15 rfl rfl (ck_getr 19 rfl dX11_feed_16 fl_X11_50 sh_0 rfl (ck_iload_n 20 rfl 1 dX11_feed_19 rfl rfl (ck_callV 23 rfl [.inl a1] [] dX11_feed_20 cv_X11_179 sh_67 rfl rfl (Nat.le_of_ble_eq_true rfl) (And.intro hl.2.1 True.intro) (ck_mN (h.1 c13) (fun w2 h12 => (ck_aload_n 24 rfl 0 dX11_feed_23 rfl rfl (ck_getr 27 rfl dX11_feed_24 fl_X11_50 sh_0 rfl (ck_iload_n 28 rfl 2 dX11_feed_27 rfl rfl (ck_callV 31 rfl [.inl a2] [] dX11_feed_28 cv_X11_179 sh_67 rfl rfl (Nat.le_of_ble_eq_true rfl) (And.intro hl.2.2.1 True.intro) (ck_mN h12 (fun w3 h11 => (ck_aload_n 32 rfl 0 dX11_feed_31 rfl rfl (ck_getr 35 rfl dX11_feed_32 fl_X11_50 sh_0 rfl (ck_iload_n 36 rfl 3 dX11_feed_35 rfl rfl (ck_callV 39 rfl [.inl a3] [] dX11_feed_36 cv_X11_179 sh_67 rfl rfl (Nat.le_of_ble_eq_true rfl) (And.intro hl.2.2.2.1 True.intro) (ck_mN h11 (fun w4 h10 => (ck_aload_n 40 rfl 0 dX11_feed_39 rfl rfl (ck_getr 43 rfl dX11_feed_40 fl_X11_50 sh_0 rfl (ck_iload 45 rfl dX11_feed_43 rfl (ck_callV 48 rfl [.inl a4] [] dX11_feed_45 cv_X11_179 sh_67 rfl rfl (Nat.le_of_ble_eq_true rfl) (And.intro hl.2.2.2.2.1 True.intro) (ck_mN h10 (fun w5 h9 => (ck_aload_n 49 rfl 0 dX11_feed_48 rfl rfl (ck_getr 52 rfl dX11_feed_49 fl_X11_50 sh_0 rfl (ck_iload 54 rfl dX11_feed_52 rfl (ck_callV 57 rfl [.inl a5] [] dX11_feed_54 cv_X11_179 sh_67 rfl rfl (Nat.le_of_ble_eq_true rfl) (And.intro hl.2.2.2.2.2.1 True.intro) (ck_mN h9 (fun w6 h8 => (ck_aload_n 58 rfl 0 dX11_feed_57 rfl rfl (ck_getr 61 rfl dX11_feed_58 fl_X11_50 sh_0 rfl (ck_geti 64 rfl 1 dX11_feed_61 fl_X11_176 sh_67 rfl rfl _ rfl (fun (q7 : ck_i (w6 67 1)) => (ck_iret dX11_feed_64 rfl q7 h8)))))))))))))))))))))))))))))))))))) (fun c14 => (ck_iconst 14 rfl dX11_feed_13 rfl (ck_iret dX11_feed_14 rfl (show ck_i (-1) by decide) (h.2 c14))))))))))))
theorem C_feed {g : ch_G} {A R : Nat} (hC : ck_Cx g A R) {d : Nat} {K : Option ck_V → ck_W → Prop} {w : ck_W} {a1 a2 a3 a4 a5 : Int} (hs : 0 ≤ w 67 1) (h1 : w 67 1 ≤ 280 → K (some (.inl (w 67 1 + 20))) (cs_four (cs_four (cs_four (cs_four (cs_four w a1) a2) a3) a4) a5)) (h0 : ¬ w 67 1 ≤ 280 → K (some (.inl (-1))) w) : ck_Ex (ch_C g A R) (d + 1) mX11_feed [.inr (.inr 0), .inl a1, .inl a2, .inl a3, .inl a4, .inl a5] w K := by
  refine e_X11_feed hC ⟨fun q => ?_, h0⟩
  have k := h1 q
  have c1 : ∀ a, cs_four w a 67 1 = w 67 1 + 4 := fun a => cs_four1
  have c2 : ∀ a b, cs_four (cs_four w a) b 67 1 = w 67 1 + 8 := fun a b => by rw [cs_four1, cs_four1]; omega
  have c3 : ∀ a b c, cs_four (cs_four (cs_four w a) b) c 67 1 = w 67 1 + 12 := fun a b c => by rw [cs_four1, cs_four1, cs_four1]; omega
  have c4 : ∀ a b c e, cs_four (cs_four (cs_four (cs_four w a) b) c) e 67 1 = w 67 1 + 16 := fun a b c e => by rw [cs_four1, cs_four1, cs_four1, cs_four1]; omega
  have e1 := c1 a1
  have e2 := c2 a1 a2
  have e3 := c3 a1 a2 a3
  have e4 := c4 a1 a2 a3 a4
  have e5 : cs_four (cs_four (cs_four (cs_four (cs_four w a1) a2) a3) a4) a5 67 1 = w 67 1 + 20 := by rw [cs_four1, e4]; omega
  refine S_X6_addFour hC (by omega) ⟨rfl, S_X6_addFour hC (by omega) ⟨rfl, S_X6_addFour hC (by omega) ⟨rfl, S_X6_addFour hC (by omega) ⟨rfl, S_X6_addFour hC (by omega) ⟨rfl, ?_⟩⟩⟩⟩⟩
  dsimp only
  rw [e5]
  exact k
