/-! ===== the reference: sums, asks, clauses ===== -/
theorem pl_svo {p : Int → Int} {n : Nat} {a1 : Int} (h : pl_ok p n) (ht : (n : Int) ≤ 0 ∨ 40 ≤ p ((n : Int) - 1) ∨ p ((n : Int) - 1) < a1) : (a1 = 3 → pl_sv p n = 0) ∧ (a1 = 5 → pl_sv p n ≤ 1) := by
  cases n with
  | zero => exact ⟨fun _ => rfl, fun _ => by simp [pl_sv]⟩
  | succ n =>
    have e : ((n + 1 : Nat) : Int) - 1 = (n : Int) := by omega
    rw [e] at ht
    have ty := h.1 n (by omega)
    simp only [pl_sv]
    constructor
    · intro x; rw [if_pos (by omega)]
    · intro x
      split
      · omega
      · split <;> omega
theorem dX12_behindOne_0 : decode cX12_behindOne 0 = .ok (.aload_n 0, 1) := dk_42 (by decide +kernel)
theorem dX12_behindOne_1 : decode cX12_behindOne 1 = .ok (.getfield 192, 3) := dk_180 0 192 (by decide +kernel)
theorem dX12_behindOne_4 : decode cX12_behindOne 4 = .ok (.istore_n 1, 1) := dk_60 (by decide +kernel)
theorem dX12_behindOne_5 : decode cX12_behindOne 5 = .ok (.iload_n 1, 1) := dk_27 (by decide +kernel)
theorem dX12_behindOne_6 : decode cX12_behindOne 6 = .ok (.bipush 43, 2) := dk_16 43 (by decide +kernel)
theorem dX12_behindOne_8 : decode cX12_behindOne 8 = .ok (.if_icmp .eq 9, 3) := dk_159 0 9 (by decide +kernel)
theorem dX12_behindOne_11 : decode cX12_behindOne 11 = .ok (.iload_n 1, 1) := dk_27 (by decide +kernel)
theorem dX12_behindOne_12 : decode cX12_behindOne 12 = .ok (.bipush 45, 2) := dk_16 45 (by decide +kernel)
theorem dX12_behindOne_14 : decode cX12_behindOne 14 = .ok (.if_icmp .ne 31, 3) := dk_160 0 31 (by decide +kernel)
theorem dX12_behindOne_17 : decode cX12_behindOne 17 = .ok (.aload_n 0, 1) := dk_42 (by decide +kernel)
theorem dX12_behindOne_18 : decode cX12_behindOne 18 = .ok (.iconst 3, 1) := dk_6 (by decide +kernel)
theorem dX12_behindOne_19 : decode cX12_behindOne 19 = .ok (.invokevirtual 262, 3) := dk_182 1 6 (by decide +kernel)
theorem dX12_behindOne_22 : decode cX12_behindOne 22 = .ok (.aload_n 0, 1) := dk_42 (by decide +kernel)
theorem dX12_behindOne_23 : decode cX12_behindOne 23 = .ok (.iload_n 1, 1) := dk_27 (by decide +kernel)
theorem dX12_behindOne_24 : decode cX12_behindOne 24 = .ok (.bipush 43, 2) := dk_16 43 (by decide +kernel)
theorem dX12_behindOne_26 : decode cX12_behindOne 26 = .ok (.if_icmp .ne 7, 3) := dk_160 0 7 (by decide +kernel)
theorem dX12_behindOne_29 : decode cX12_behindOne 29 = .ok (.iconst 3, 1) := dk_6 (by decide +kernel)
theorem dX12_behindOne_30 : decode cX12_behindOne 30 = .ok (.goto 4, 3) := dk_167 0 4 (by decide +kernel)
theorem dX12_behindOne_33 : decode cX12_behindOne 33 = .ok (.iconst 4, 1) := dk_7 (by decide +kernel)
theorem dX12_behindOne_34 : decode cX12_behindOne 34 = .ok (.invokevirtual 255, 3) := dk_182 0 255 (by decide +kernel)
theorem dX12_behindOne_37 : decode cX12_behindOne 37 = .ok (.aload_n 0, 1) := dk_42 (by decide +kernel)
theorem dX12_behindOne_38 : decode cX12_behindOne 38 = .ok (.iconst 0, 1) := dk_3 (by decide +kernel)
theorem dX12_behindOne_39 : decode cX12_behindOne 39 = .ok (.putfield 226, 3) := dk_181 0 226 (by decide +kernel)
theorem dX12_behindOne_42 : decode cX12_behindOne 42 = .ok (.goto 73, 3) := dk_167 0 73 (by decide +kernel)
theorem dX12_behindOne_45 : decode cX12_behindOne 45 = .ok (.iload_n 1, 1) := dk_27 (by decide +kernel)
theorem dX12_behindOne_46 : decode cX12_behindOne 46 = .ok (.bipush 42, 2) := dk_16 42 (by decide +kernel)
theorem dX12_behindOne_48 : decode cX12_behindOne 48 = .ok (.if_icmp .eq 9, 3) := dk_159 0 9 (by decide +kernel)
theorem dX12_behindOne_51 : decode cX12_behindOne 51 = .ok (.iload_n 1, 1) := dk_27 (by decide +kernel)
theorem dX12_behindOne_52 : decode cX12_behindOne 52 = .ok (.bipush 47, 2) := dk_16 47 (by decide +kernel)
theorem dX12_behindOne_54 : decode cX12_behindOne 54 = .ok (.if_icmp .ne 32, 3) := dk_160 0 32 (by decide +kernel)
theorem dX12_behindOne_57 : decode cX12_behindOne 57 = .ok (.aload_n 0, 1) := dk_42 (by decide +kernel)
theorem dX12_behindOne_58 : decode cX12_behindOne 58 = .ok (.iconst 5, 1) := dk_8 (by decide +kernel)
theorem dX12_behindOne_59 : decode cX12_behindOne 59 = .ok (.invokevirtual 262, 3) := dk_182 1 6 (by decide +kernel)
theorem dX12_behindOne_62 : decode cX12_behindOne 62 = .ok (.aload_n 0, 1) := dk_42 (by decide +kernel)
theorem dX12_behindOne_63 : decode cX12_behindOne 63 = .ok (.iload_n 1, 1) := dk_27 (by decide +kernel)
theorem dX12_behindOne_64 : decode cX12_behindOne 64 = .ok (.bipush 42, 2) := dk_16 42 (by decide +kernel)
theorem dX12_behindOne_66 : decode cX12_behindOne 66 = .ok (.if_icmp .ne 7, 3) := dk_160 0 7 (by decide +kernel)
theorem dX12_behindOne_69 : decode cX12_behindOne 69 = .ok (.iconst 5, 1) := dk_8 (by decide +kernel)
theorem dX12_behindOne_70 : decode cX12_behindOne 70 = .ok (.goto 5, 3) := dk_167 0 5 (by decide +kernel)
theorem dX12_behindOne_73 : decode cX12_behindOne 73 = .ok (.bipush 6, 2) := dk_16 6 (by decide +kernel)
theorem dX12_behindOne_75 : decode cX12_behindOne 75 = .ok (.invokevirtual 255, 3) := dk_182 0 255 (by decide +kernel)
theorem dX12_behindOne_78 : decode cX12_behindOne 78 = .ok (.aload_n 0, 1) := dk_42 (by decide +kernel)
theorem dX12_behindOne_79 : decode cX12_behindOne 79 = .ok (.iconst 0, 1) := dk_3 (by decide +kernel)
theorem dX12_behindOne_80 : decode cX12_behindOne 80 = .ok (.putfield 226, 3) := dk_181 0 226 (by decide +kernel)
theorem dX12_behindOne_83 : decode cX12_behindOne 83 = .ok (.goto 32, 3) := dk_167 0 32 (by decide +kernel)
theorem dX12_behindOne_86 : decode cX12_behindOne 86 = .ok (.aload_n 0, 1) := dk_42 (by decide +kernel)
theorem dX12_behindOne_87 : decode cX12_behindOne 87 = .ok (.iconst 3, 1) := dk_6 (by decide +kernel)
theorem dX12_behindOne_88 : decode cX12_behindOne 88 = .ok (.invokevirtual 262, 3) := dk_182 1 6 (by decide +kernel)
theorem dX12_behindOne_91 : decode cX12_behindOne 91 = .ok (.aload_n 0, 1) := dk_42 (by decide +kernel)
theorem dX12_behindOne_92 : decode cX12_behindOne 92 = .ok (.dup, 1) := dk_89 (by decide +kernel)
theorem dX12_behindOne_93 : decode cX12_behindOne 93 = .ok (.getfield 223, 3) := dk_180 0 223 (by decide +kernel)
theorem dX12_behindOne_96 : decode cX12_behindOne 96 = .ok (.iconst 1, 1) := dk_4 (by decide +kernel)
theorem dX12_behindOne_97 : decode cX12_behindOne 97 = .ok (.isub, 1) := dk_100 (by decide +kernel)
theorem dX12_behindOne_98 : decode cX12_behindOne 98 = .ok (.putfield 223, 3) := dk_181 0 223 (by decide +kernel)
theorem dX12_behindOne_101 : decode cX12_behindOne 101 = .ok (.aload_n 0, 1) := dk_42 (by decide +kernel)
theorem dX12_behindOne_102 : decode cX12_behindOne 102 = .ok (.dup, 1) := dk_89 (by decide +kernel)
theorem dX12_behindOne_103 : decode cX12_behindOne 103 = .ok (.getfield 230, 3) := dk_180 0 230 (by decide +kernel)
theorem dX12_behindOne_106 : decode cX12_behindOne 106 = .ok (.iconst 1, 1) := dk_4 (by decide +kernel)
theorem dX12_behindOne_107 : decode cX12_behindOne 107 = .ok (.isub, 1) := dk_100 (by decide +kernel)
theorem dX12_behindOne_108 : decode cX12_behindOne 108 = .ok (.putfield 230, 3) := dk_181 0 230 (by decide +kernel)
theorem dX12_behindOne_111 : decode cX12_behindOne 111 = .ok (.aload_n 0, 1) := dk_42 (by decide +kernel)
theorem dX12_behindOne_112 : decode cX12_behindOne 112 = .ok (.invokevirtual 249, 3) := dk_182 0 249 (by decide +kernel)
theorem dX12_behindOne_115 : decode cX12_behindOne 115 = .ok (.aload_n 0, 1) := dk_42 (by decide +kernel)
theorem dX12_behindOne_116 : decode cX12_behindOne 116 = .ok (.invokevirtual 246, 3) := dk_182 0 246 (by decide +kernel)
theorem dX12_behindOne_119 : decode cX12_behindOne 119 = .ok (.iconst 0, 1) := dk_3 (by decide +kernel)
theorem dX12_behindOne_120 : decode cX12_behindOne 120 = .ok (.ireturn, 1) := dk_172 (by decide +kernel)
set_option maxRecDepth 8000 in
theorem e_X12_behindOne {g : ch_G} {A R : Nat} (hC : ck_Cx g A R) {d : Nat} {K : Option ck_V → ck_W → Prop} {w : ck_W} (h : ((w 76 21) = 43 → ck_CN (ch_C g A R) d mX12_settle [.inr (.inr 76), .inl 3] w (fun w2 => (¬ (w 76 21) = 43 → ck_CN (ch_C g A R) d mX12_push [.inr (.inr 76), .inl 4] w2 (fun w3 => ck_CN (ch_C g A R) d mX12_nextToken [.inr (.inr 76)] (ck_up w3 76 31 0) (fun w4 => K (some (.inl 0)) w4))) ∧ ((w 76 21) = 43 → ck_CN (ch_C g A R) d mX12_push [.inr (.inr 76), .inl 3] w2 (fun w7 => ck_CN (ch_C g A R) d mX12_nextToken [.inr (.inr 76)] (ck_up w7 76 31 0) (fun w8 => K (some (.inl 0)) w8))))) ∧ (¬ (w 76 21) = 43 → (¬ (w 76 21) = 45 → ((w 76 21) = 42 → ck_CN (ch_C g A R) d mX12_settle [.inr (.inr 76), .inl 5] w (fun w14 => (¬ (w 76 21) = 42 → ck_CN (ch_C g A R) d mX12_push [.inr (.inr 76), .inl 6] w14 (fun w15 => ck_CN (ch_C g A R) d mX12_nextToken [.inr (.inr 76)] (ck_up w15 76 31 0) (fun w16 => K (some (.inl 0)) w16))) ∧ ((w 76 21) = 42 → ck_CN (ch_C g A R) d mX12_push [.inr (.inr 76), .inl 5] w14 (fun w19 => ck_CN (ch_C g A R) d mX12_nextToken [.inr (.inr 76)] (ck_up w19 76 31 0) (fun w20 => K (some (.inl 0)) w20))))) ∧ (¬ (w 76 21) = 42 → (¬ (w 76 21) = 47 → ck_CN (ch_C g A R) d mX12_settle [.inr (.inr 76), .inl 3] w (fun w26 => ck_i ((w26 76 29) - 1) ∧ (ck_i ((w26 76 30) - 1) ∧ (ck_CN (ch_C g A R) d mX12_whole [.inr (.inr 76)] (ck_up (ck_up w26 76 29 ((w26 76 29) - 1)) 76 30 ((w26 76 30) - 1)) (fun w31 => ck_CN (ch_C g A R) d mX12_nextToken [.inr (.inr 76)] w31 (fun w32 => K (some (.inl 0)) w32)))))) ∧ ((w 76 21) = 47 → ck_CN (ch_C g A R) d mX12_settle [.inr (.inr 76), .inl 5] w (fun w36 => (¬ (w 76 21) = 42 → ck_CN (ch_C g A R) d mX12_push [.inr (.inr 76), .inl 6] w36 (fun w37 => ck_CN (ch_C g A R) d mX12_nextToken [.inr (.inr 76)] (ck_up w37 76 31 0) (fun w38 => K (some (.inl 0)) w38))) ∧ ((w 76 21) = 42 → ck_CN (ch_C g A R) d mX12_push [.inr (.inr 76), .inl 5] w36 (fun w41 => ck_CN (ch_C g A R) d mX12_nextToken [.inr (.inr 76)] (ck_up w41 76 31 0) (fun w42 => K (some (.inl 0)) w42))))))) ∧ ((w 76 21) = 45 → ck_CN (ch_C g A R) d mX12_settle [.inr (.inr 76), .inl 3] w (fun w52 => (¬ (w 76 21) = 43 → ck_CN (ch_C g A R) d mX12_push [.inr (.inr 76), .inl 4] w52 (fun w53 => ck_CN (ch_C g A R) d mX12_nextToken [.inr (.inr 76)] (ck_up w53 76 31 0) (fun w54 => K (some (.inl 0)) w54))) ∧ ((w 76 21) = 43 → ck_CN (ch_C g A R) d mX12_push [.inr (.inr 76), .inl 3] w52 (fun w57 => ck_CN (ch_C g A R) d mX12_nextToken [.inr (.inr 76)] (ck_up w57 76 31 0) (fun w58 => K (some (.inl 0)) w58))))))) : ck_Ex (ch_C g A R) (d + 1) mX12_behindOne [.inr (.inr 76)] w K :=
  ck_entry hC.1 [some (.inr (.inr 76)), none] (by decide) (Nat.le_of_ble_eq_true rfl) rfl (fun q => q) (ck_in (fun hl => (ck_aload_n 1 rfl 0 dX12_behindOne_0 rfl rfl (ck_geti 4 rfl 21 dX12_behindOne_1 fl_X12_192 sh_76 rfl rfl _ rfl (fun (q1 : ck_i (w 76 21)) => (ck_istore_n 5 rfl 1 [some (.inr (.inr 76)), some (.inl (w 76 21))] dX12_behindOne_4 rfl (Nat.le_of_ble_eq_true rfl) rfl rfl q1 (ck_iload_n 6 rfl 1 dX12_behindOne_5 rfl rfl (ck_bipush 8 rfl dX12_behindOne_6 rfl (ck_icmp_eq 11 rfl 17 dX12_behindOne_8 rfl q1 (show ck_i 43 by decide) (fun c66 => (ck_aload_n 18 rfl 0 dX12_behindOne_17 rfl rfl (ck_iconst 19 rfl dX12_behindOne_18 rfl (ck_callV 22 rfl [.inl 3] [] dX12_behindOne_19 cv_X12_262 sh_76 rfl rfl (Nat.le_of_ble_eq_true rfl) (And.intro (show ck_i 3 by decide) True.intro) (ck_mN (h.1 c66) (fun w2 h13 => (ck_aload_n 23 rfl 0 dX12_behindOne_22 rfl rfl (ck_iload_n 24 rfl 1 dX12_behindOne_23 rfl rfl (ck_bipush 26 rfl dX12_behindOne_24 rfl (ck_icmp_ne 29 rfl 33 dX12_behindOne_26 rfl q1 (show ck_i 43 by decide) (fun c11 => (ck_iconst 34 rfl dX12_behindOne_33 rfl (ck_callV 37 rfl [.inl 4] [] dX12_behindOne_34 cv_X12_255 sh_76 rfl rfl (Nat.le_of_ble_eq_true rfl) (And.intro (show ck_i 4 by decide) True.intro) (ck_mN (h13.1 c11) (fun w3 h6 => (ck_aload_n 38 rfl 0 dX12_behindOne_37 rfl rfl (ck_iconst 39 rfl dX12_behindOne_38 rfl (ck_putz 42 rfl 31 dX12_behindOne_39 fp_X12_226 sh_76 rfl rfl (by decide) (ck_goto 115 dX12_behindOne_42 rfl (ck_aload_n 116 rfl 0 dX12_behindOne_115 rfl rfl (ck_callV 119 rfl [] [] dX12_behindOne_116 cv_X12_246 sh_76 rfl rfl (Nat.le_of_ble_eq_true rfl) True.intro (ck_mN h6 (fun w4 h5 => (ck_iconst 120 rfl dX12_behindOne_119 rfl (ck_iret dX12_behindOne_120 rfl (show ck_i 0 by decide) h5))))))))))))))) (fun c12 => (ck_iconst 30 rfl dX12_behindOne_29 rfl (ck_goto 34 dX12_behindOne_30 rfl (ck_callV 37 rfl [.inl 3] [] dX12_behindOne_34 cv_X12_255 sh_76 rfl rfl (Nat.le_of_ble_eq_true rfl) (And.intro (show ck_i 3 by decide) True.intro) (ck_mN (h13.2 c12) (fun w7 h10 => (ck_aload_n 38 rfl 0 dX12_behindOne_37 rfl rfl (ck_iconst 39 rfl dX12_behindOne_38 rfl (ck_putz 42 rfl 31 dX12_behindOne_39 fp_X12_226 sh_76 rfl rfl (by decide) (ck_goto 115 dX12_behindOne_42 rfl (ck_aload_n 116 rfl 0 dX12_behindOne_115 rfl rfl (ck_callV 119 rfl [] [] dX12_behindOne_116 cv_X12_246 sh_76 rfl rfl (Nat.le_of_ble_eq_true rfl) True.intro (ck_mN h10 (fun w8 h9 => (ck_iconst 120 rfl dX12_behindOne_119 rfl (ck_iret dX12_behindOne_120 rfl (show ck_i 0 by decide) h9)))))))))))))))))))))))))) (fun c67 => (ck_iload_n 12 rfl 1 dX12_behindOne_11 rfl rfl (ck_bipush 14 rfl dX12_behindOne_12 rfl (have h68 := (h.2 c67); (ck_icmp_ne 17 rfl 45 dX12_behindOne_14 rfl q1 (show ck_i 45 by decide) (fun c64 => (ck_iload_n 46 rfl 1 dX12_behindOne_45 rfl rfl (ck_bipush 48 rfl dX12_behindOne_46 rfl (have h69 := (h68.1 c64); (ck_icmp_eq 51 rfl 57 dX12_behindOne_48 rfl q1 (show ck_i 42 by decide) (fun c50 => (ck_aload_n 58 rfl 0 dX12_behindOne_57 rfl rfl (ck_iconst 59 rfl dX12_behindOne_58 rfl (ck_callV 62 rfl [.inl 5] [] dX12_behindOne_59 cv_X12_262 sh_76 rfl rfl (Nat.le_of_ble_eq_true rfl) (And.intro (show ck_i 5 by decide) True.intro) (ck_mN (h69.1 c50) (fun w14 h25 => (ck_aload_n 63 rfl 0 dX12_behindOne_62 rfl rfl (ck_iload_n 64 rfl 1 dX12_behindOne_63 rfl rfl (ck_bipush 66 rfl dX12_behindOne_64 rfl (ck_icmp_ne 69 rfl 73 dX12_behindOne_66 rfl q1 (show ck_i 42 by decide) (fun c23 => (ck_bipush 75 rfl dX12_behindOne_73 rfl (ck_callV 78 rfl [.inl 6] [] dX12_behindOne_75 cv_X12_255 sh_76 rfl rfl (Nat.le_of_ble_eq_true rfl) (And.intro (show ck_i 6 by decide) True.intro) (ck_mN (h25.1 c23) (fun w15 h18 => (ck_aload_n 79 rfl 0 dX12_behindOne_78 rfl rfl (ck_iconst 80 rfl dX12_behindOne_79 rfl (ck_putz 83 rfl 31 dX12_behindOne_80 fp_X12_226 sh_76 rfl rfl (by decide) (ck_goto 115 dX12_behindOne_83 rfl (ck_aload_n 116 rfl 0 dX12_behindOne_115 rfl rfl (ck_callV 119 rfl [] [] dX12_behindOne_116 cv_X12_246 sh_76 rfl rfl (Nat.le_of_ble_eq_true rfl) True.intro (ck_mN h18 (fun w16 h17 => (ck_iconst 120 rfl dX12_behindOne_119 rfl (ck_iret dX12_behindOne_120 rfl (show ck_i 0 by decide) h17))))))))))))))) (fun c24 => (ck_iconst 70 rfl dX12_behindOne_69 rfl (ck_goto 75 dX12_behindOne_70 rfl (ck_callV 78 rfl [.inl 5] [] dX12_behindOne_75 cv_X12_255 sh_76 rfl rfl (Nat.le_of_ble_eq_true rfl) (And.intro (show ck_i 5 by decide) True.intro) (ck_mN (h25.2 c24) (fun w19 h22 => (ck_aload_n 79 rfl 0 dX12_behindOne_78 rfl rfl (ck_iconst 80 rfl dX12_behindOne_79 rfl (ck_putz 83 rfl 31 dX12_behindOne_80 fp_X12_226 sh_76 rfl rfl (by decide) (ck_goto 115 dX12_behindOne_83 rfl (ck_aload_n 116 rfl 0 dX12_behindOne_115 rfl rfl (ck_callV 119 rfl [] [] dX12_behindOne_116 cv_X12_246 sh_76 rfl rfl (Nat.le_of_ble_eq_true rfl) True.intro (ck_mN h22 (fun w20 h21 => (ck_iconst 120 rfl dX12_behindOne_119 rfl (ck_iret dX12_behindOne_120 rfl (show ck_i 0 by decide) h21)))))))))))))))))))))))))) (fun c51 => (ck_iload_n 52 rfl 1 dX12_behindOne_51 rfl rfl (ck_bipush 54 rfl dX12_behindOne_52 rfl (have h70 := (h69.2 c51); (ck_icmp_ne 57 rfl 86 dX12_behindOne_54 rfl q1 (show ck_i 47 by decide) (fun c48 => (ck_aload_n 87 rfl 0 dX12_behindOne_86 rfl rfl (ck_iconst 88 rfl dX12_behindOne_87 rfl (ck_callV 91 rfl [.inl 3] [] dX12_behindOne_88 cv_X12_262 sh_76 rfl rfl (Nat.le_of_ble_eq_true rfl) (And.intro (show ck_i 3 by decide) True.intro) (ck_mN (h70.1 c48) (fun w26 h35 => (ck_aload_n 92 rfl 0 dX12_behindOne_91 rfl rfl (ck_dup 93 rfl dX12_behindOne_92 rfl (ck_geti 96 rfl 29 dX12_behindOne_93 fl_X12_223 sh_76 rfl rfl _ rfl (fun (q27 : ck_i (w26 76 29)) => (ck_iconst 97 rfl dX12_behindOne_96 rfl (ck_isub 98 rfl dX12_behindOne_97 (have h72 := h35; have o28 := h72.1; have h71 := h72.2; (ck_puti 101 rfl 29 dX12_behindOne_98 fp_X12_223 sh_76 rfl rfl o28 (ck_aload_n 102 rfl 0 dX12_behindOne_101 rfl rfl (ck_dup 103 rfl dX12_behindOne_102 rfl (ck_geti 106 rfl 30 dX12_behindOne_103 fl_X12_230 sh_76 rfl rfl _ rfl (fun (q29 : ck_i (w26 76 30)) => (ck_iconst 107 rfl dX12_behindOne_106 rfl (ck_isub 108 rfl dX12_behindOne_107 (have h74 := h71; have o30 := h74.1; have h73 := h74.2; (ck_puti 111 rfl 30 dX12_behindOne_108 fp_X12_230 sh_76 rfl rfl o30 (ck_aload_n 112 rfl 0 dX12_behindOne_111 rfl rfl (ck_callV 115 rfl [] [] dX12_behindOne_112 cv_X12_249 sh_76 rfl rfl (Nat.le_of_ble_eq_true rfl) True.intro (ck_mN h73 (fun w31 h34 => (ck_aload_n 116 rfl 0 dX12_behindOne_115 rfl rfl (ck_callV 119 rfl [] [] dX12_behindOne_116 cv_X12_246 sh_76 rfl rfl (Nat.le_of_ble_eq_true rfl) True.intro (ck_mN h34 (fun w32 h33 => (ck_iconst 120 rfl dX12_behindOne_119 rfl (ck_iret dX12_behindOne_120 rfl (show ck_i 0 by decide) h33)))))))))))))))))))))))))))))))) (fun c49 => (ck_aload_n 58 rfl 0 dX12_behindOne_57 rfl rfl (ck_iconst 59 rfl dX12_behindOne_58 rfl (ck_callV 62 rfl [.inl 5] [] dX12_behindOne_59 cv_X12_262 sh_76 rfl rfl (Nat.le_of_ble_eq_true rfl) (And.intro (show ck_i 5 by decide) True.intro) (ck_mN (h70.2 c49) (fun w36 h47 => (ck_aload_n 63 rfl 0 dX12_behindOne_62 rfl rfl (ck_iload_n 64 rfl 1 dX12_behindOne_63 rfl rfl (ck_bipush 66 rfl dX12_behindOne_64 rfl (ck_icmp_ne 69 rfl 73 dX12_behindOne_66 rfl q1 (show ck_i 42 by decide) (fun c45 => (ck_bipush 75 rfl dX12_behindOne_73 rfl (ck_callV 78 rfl [.inl 6] [] dX12_behindOne_75 cv_X12_255 sh_76 rfl rfl (Nat.le_of_ble_eq_true rfl) (And.intro (show ck_i 6 by decide) True.intro) (ck_mN (h47.1 c45) (fun w37 h40 => (ck_aload_n 79 rfl 0 dX12_behindOne_78 rfl rfl (ck_iconst 80 rfl dX12_behindOne_79 rfl (ck_putz 83 rfl 31 dX12_behindOne_80 fp_X12_226 sh_76 rfl rfl (by decide) (ck_goto 115 dX12_behindOne_83 rfl (ck_aload_n 116 rfl 0 dX12_behindOne_115 rfl rfl (ck_callV 119 rfl [] [] dX12_behindOne_116 cv_X12_246 sh_76 rfl rfl (Nat.le_of_ble_eq_true rfl) True.intro (ck_mN h40 (fun w38 h39 => (ck_iconst 120 rfl dX12_behindOne_119 rfl (ck_iret dX12_behindOne_120 rfl (show ck_i 0 by decide) h39))))))))))))))) (fun c46 => (ck_iconst 70 rfl dX12_behindOne_69 rfl (ck_goto 75 dX12_behindOne_70 rfl (ck_callV 78 rfl [.inl 5] [] dX12_behindOne_75 cv_X12_255 sh_76 rfl rfl (Nat.le_of_ble_eq_true rfl) (And.intro (show ck_i 5 by decide) True.intro) (ck_mN (h47.2 c46) (fun w41 h44 => (ck_aload_n 79 rfl 0 dX12_behindOne_78 rfl rfl (ck_iconst 80 rfl dX12_behindOne_79 rfl (ck_putz 83 rfl 31 dX12_behindOne_80 fp_X12_226 sh_76 rfl rfl (by decide) (ck_goto 115 dX12_behindOne_83 rfl (ck_aload_n 116 rfl 0 dX12_behindOne_115 rfl rfl (ck_callV 119 rfl [] [] dX12_behindOne_116 cv_X12_246 sh_76 rfl rfl (Nat.le_of_ble_eq_true rfl) True.intro (ck_mN h44 (fun w42 h43 => (ck_iconst 120 rfl dX12_behindOne_119 rfl (ck_iret dX12_behindOne_120 rfl (show ck_i 0 by decide) h43)))))))))))))))))))))))))))))))))))) (fun c65 => (ck_aload_n 18 rfl 0 dX12_behindOne_17 rfl rfl (ck_iconst 19 rfl dX12_behindOne_18 rfl (ck_callV 22 rfl [.inl 3] [] dX12_behindOne_19 cv_X12_262 sh_76 rfl rfl (Nat.le_of_ble_eq_true rfl) (And.intro (show ck_i 3 by decide) True.intro) (ck_mN (h68.2 c65) (fun w52 h63 => (ck_aload_n 23 rfl 0 dX12_behindOne_22 rfl rfl (ck_iload_n 24 rfl 1 dX12_behindOne_23 rfl rfl (ck_bipush 26 rfl dX12_behindOne_24 rfl (ck_icmp_ne 29 rfl 33 dX12_behindOne_26 rfl q1 (show ck_i 43 by decide) (fun c61 => (ck_iconst 34 rfl dX12_behindOne_33 rfl (ck_callV 37 rfl [.inl 4] [] dX12_behindOne_34 cv_X12_255 sh_76 rfl rfl (Nat.le_of_ble_eq_true rfl) (And.intro (show ck_i 4 by decide) True.intro) (ck_mN (h63.1 c61) (fun w53 h56 => (ck_aload_n 38 rfl 0 dX12_behindOne_37 rfl rfl (ck_iconst 39 rfl dX12_behindOne_38 rfl (ck_putz 42 rfl 31 dX12_behindOne_39 fp_X12_226 sh_76 rfl rfl (by decide) (ck_goto 115 dX12_behindOne_42 rfl (ck_aload_n 116 rfl 0 dX12_behindOne_115 rfl rfl (ck_callV 119 rfl [] [] dX12_behindOne_116 cv_X12_246 sh_76 rfl rfl (Nat.le_of_ble_eq_true rfl) True.intro (ck_mN h56 (fun w54 h55 => (ck_iconst 120 rfl dX12_behindOne_119 rfl (ck_iret dX12_behindOne_120 rfl (show ck_i 0 by decide) h55))))))))))))))) (fun c62 => (ck_iconst 30 rfl dX12_behindOne_29 rfl (ck_goto 34 dX12_behindOne_30 rfl (ck_callV 37 rfl [.inl 3] [] dX12_behindOne_34 cv_X12_255 sh_76 rfl rfl (Nat.le_of_ble_eq_true rfl) (And.intro (show ck_i 3 by decide) True.intro) (ck_mN (h63.2 c62) (fun w57 h60 => (ck_aload_n 38 rfl 0 dX12_behindOne_37 rfl rfl (ck_iconst 39 rfl dX12_behindOne_38 rfl (ck_putz 42 rfl 31 dX12_behindOne_39 fp_X12_226 sh_76 rfl rfl (by decide) (ck_goto 115 dX12_behindOne_42 rfl (ck_aload_n 116 rfl 0 dX12_behindOne_115 rfl rfl (ck_callV 119 rfl [] [] dX12_behindOne_116 cv_X12_246 sh_76 rfl rfl (Nat.le_of_ble_eq_true rfl) True.intro (ck_mN h60 (fun w58 h59 => (ck_iconst 120 rfl dX12_behindOne_119 rfl (ck_iret dX12_behindOne_120 rfl (show ck_i 0 by decide) h59))))))))))))))))))))))))))))))))))))))))
theorem S_X12_behindOne {g : ch_G} {A R : Nat} (hC : ck_Cx g A R) {d : Nat} {K : Option ck_V → ck_W → Prop} {w : ck_W} {T X s E N n m : Int} (hT : 0 ≤ T ∧ T ≤ 300) (hX : 0 ≤ X ∧ X ≤ 2400) (hE : 0 ≤ E) (hN : 0 ≤ N) (hn : 0 ≤ n) (hm : 0 ≤ m) (hz : pz T X s E N n m w) (h31 : w 76 31 = 1) (hg : pz_go w)
    (h : ∀ w', pr w w' → pz T X s E N n m w' → w 76 20 < w' 76 20 → K (some (.inl 0)) w') : ck_Ex (ch_C g A R) (d + 3) mX12_behindOne [.inr (.inr 76)] w K := by
  obtain ⟨h1, h2, h3, h4, h5, h6, h7, h8, h9, h10, h11⟩ := id hz
  have pb := pz_piled hz hN
  have tk : ¬ w 76 21 = 0 := by unfold pz_go at hg; omega
  -- an operator
  have bin : ∀ a1 o, (a1 = 3 ∧ (o = 3 ∨ o = 4)) ∨ (a1 = 5 ∧ (o = 5 ∨ o = 6)) → ∀ w2 : ck_W, pr w w2 → (∀ j, j ≠ 26 → j ≠ 29 → w2 76 j = w 76 j) → w2 90 = w 90 → (w2 76 29 ≤ 0 ∨ 40 ≤ w 90 (w2 76 29 - 1) ∨ w 90 (w2 76 29 - 1) < a1) → pz T X s E N n m w2 → ck_CN (ch_C g A R) (d + 2) mX12_push [.inr (.inr 76), .inl o] w2 (fun w3 => ck_CN (ch_C g A R) (d + 2) mX12_nextToken [.inr (.inr 76)] (ck_up w3 76 31 0) (fun w4 => K (some (.inl 0)) w4)) := by
    intro a1 o ho w2 c1 c2 c3 c6 c7
    obtain ⟨k1, k2, k3, k4, k5, k6, k7, k8, k9, k10, k11⟩ := id c7
    have pb2 := pz_piled c7 hN
    have e2 : w2 76 31 = 1 := by rw [c2 31 (by decide) (by decide)]; exact h31
    have op0 := pl_op0 (w2 90) (w2 76 29).toNat
    have sv := pl_svo (a1 := a1) k8 (by rw [show (((w2 76 29).toNat : Nat) : Int) = w2 76 29 by omega, c3]; exact c6)
    refine e_X12_push hC ⟨by omega, by constructor <;> omega, ⟨rfl, ?_⟩⟩
    have f : ∀ j, j ≠ 29 → j ≠ 31 → (ck_up (ck_up (ck_up w2 90 (w2 76 29) o) 76 29 (w2 76 29 + 1)) 76 31 0) 76 j = w2 76 j := fun j x y => by rw [ck_up_nj y, ck_up_nj x, ck_up_ne (by decide)]
    have f29 : (ck_up (ck_up (ck_up w2 90 (w2 76 29) o) 76 29 (w2 76 29 + 1)) 76 31 0) 76 29 = w2 76 29 + 1 := by rw [ck_up_nj (by decide), ck_up_eq]
    have f31 : (ck_up (ck_up (ck_up w2 90 (w2 76 29) o) 76 29 (w2 76 29 + 1)) 76 31 0) 76 31 = 0 := ck_up_eq
    have f90 : (ck_up (ck_up (ck_up w2 90 (w2 76 29) o) 76 29 (w2 76 29 + 1)) 76 31 0) 90 = rm_u (w2 90) (((w2 76 29).toNat : Nat) : Int) o := by rw [ck_up_ne (by decide), ck_up_ne (by decide), ck_up_row, show (((w2 76 29).toNat : Nat) : Int) = w2 76 29 by omega]
    have f79 : (ck_up (ck_up (ck_up w2 90 (w2 76 29) o) 76 29 (w2 76 29 + 1)) 76 31 0) 79 = w2 79 := rfl
    have p1 : pr w2 (ck_up (ck_up (ck_up w2 90 (w2 76 29) o) 76 29 (w2 76 29 + 1)) 76 31 0) := ⟨fun k x y z => by rw [ck_up_ne x, ck_up_ne x, ck_up_ne z], fun j hj => f j (by omega) (by omega), fun j _ => by rw [f79], by rw [f 26 (by decide) (by decide)]; omega, fun q => by rw [f 22 (by decide) (by decide)]; exact q⟩
    have e1 : (w2 76 29 + 1).toNat = (w2 76 29).toNat + 1 := by omega
    have cc := pl_c (p := w2 90) (p' := rm_u (w2 90) (((w2 76 29).toNat : Nat) : Int) o) (n := (w2 76 29).toNat) (fun k hk => rm_u_ne (by omega))
    have t20 := c2 20 (by decide) (by decide)
    have t21 := c2 21 (by decide) (by decide)
    refine S_next hC (T := T) (X := X) (s := s) (E := E) (N := N) (n := n) (m := m) hT ⟨?_, ?_, ?_, ?_, ?_, ?_, ?_, ?_, ?_, ?_⟩ (fun w' d1 d2 d3 d4 d5 => ⟨rfl, h w' (pr_tr (pr_tr c1 p1) d1) d4 (by rw [f 20 (by decide) (by decide), t20] at d5; exact d5)⟩)
    · rw [f 19 (by decide) (by decide), f 20 (by decide) (by decide)]; omega
    · rw [f 22 (by decide) (by decide)]; exact k3
    · rw [f 16 (by decide) (by decide), f 24 (by decide) (by decide)]; exact k4
    · rw [f 26 (by decide) (by decide)]; exact k5
    · rw [f29]; omega
    · rw [f29, f 26 (by decide) (by decide), f 20 (by decide) (by decide)]; omega
    · rw [f29, f90, e1]; exact pl_ok_push k8 (by omega) (fun x => sv.1 (by omega)) (fun x => sv.2 (by omega))
    · rw [f29, f 30 (by decide) (by decide), f90, e1, pl_op, rm_u_eq, cc.1, if_neg (by omega)]; omega
    · rw [f31]; exact Or.inl rfl
    · rw [f29, f79, f90, f 26 (by decide) (by decide), f31, e1, pl_b, rm_u_eq, cc.2.2, if_pos (by omega), k11, e2]
      rw [show n + (pl_b (w2 90) (w2 76 29).toNat + 1) + 0 = n + pl_b (w2 90) (w2 76 29).toNat + 1 by omega]
  have set : ∀ a1 (Q : ck_W → Prop), (a1 = 3 ∨ a1 = 5) → (∀ w2 : ck_W, pr w w2 → (∀ j, j ≠ 26 → j ≠ 29 → w2 76 j = w 76 j) → w2 90 = w 90 → (∀ k, 0 ≤ k → k < w 76 29 → w 90 k = 40 → k < w2 76 29) → (w2 76 29 ≤ 0 ∨ 40 ≤ w 90 (w2 76 29 - 1) ∨ w 90 (w2 76 29 - 1) < a1) → pz T X s E N n m w2 → Q w2) → ck_CN (ch_C g A R) (d + 2) mX12_settle [.inr (.inr 76), .inl a1] w Q := fun a1 Q ha k => e_X12_settle hC (L_X12_settle hC hT hX hE hN hn (by omega) 30 (by omega) hz h31 (fun w2 c1 c2 c3 c4 c5 c6 c7 => ⟨rfl, k w2 c1 c2 c3 c5 c6 c7⟩))
  refine e_X12_behindOne hC ?_
  have sum : ck_CN (ch_C g A R) (d + 2) mX12_settle [.inr (.inr 76), .inl 3] w (fun w2 => (¬ (w 76 21) = 43 → ck_CN (ch_C g A R) (d + 2) mX12_push [.inr (.inr 76), .inl 4] w2 (fun w3 => ck_CN (ch_C g A R) (d + 2) mX12_nextToken [.inr (.inr 76)] (ck_up w3 76 31 0) (fun w4 => K (some (.inl 0)) w4))) ∧ ((w 76 21) = 43 → ck_CN (ch_C g A R) (d + 2) mX12_push [.inr (.inr 76), .inl 3] w2 (fun w7 => ck_CN (ch_C g A R) (d + 2) mX12_nextToken [.inr (.inr 76)] (ck_up w7 76 31 0) (fun w8 => K (some (.inl 0)) w8)))) := set 3 _ (Or.inl rfl) (fun w2 c1 c2 c3 c5 c6 c7 => ⟨fun _ => bin 3 4 (by omega) w2 c1 c2 c3 c6 c7, fun _ => bin 3 3 (by omega) w2 c1 c2 c3 c6 c7⟩)
  have pro : ck_CN (ch_C g A R) (d + 2) mX12_settle [.inr (.inr 76), .inl 5] w (fun w14 => (¬ (w 76 21) = 42 → ck_CN (ch_C g A R) (d + 2) mX12_push [.inr (.inr 76), .inl 6] w14 (fun w15 => ck_CN (ch_C g A R) (d + 2) mX12_nextToken [.inr (.inr 76)] (ck_up w15 76 31 0) (fun w16 => K (some (.inl 0)) w16))) ∧ ((w 76 21) = 42 → ck_CN (ch_C g A R) (d + 2) mX12_push [.inr (.inr 76), .inl 5] w14 (fun w19 => ck_CN (ch_C g A R) (d + 2) mX12_nextToken [.inr (.inr 76)] (ck_up w19 76 31 0) (fun w20 => K (some (.inl 0)) w20)))) := set 5 _ (Or.inr rfl) (fun w2 c1 c2 c3 c5 c6 c7 => ⟨fun _ => bin 5 6 (by omega) w2 c1 c2 c3 c6 c7, fun _ => bin 5 5 (by omega) w2 c1 c2 c3 c6 c7⟩)
  refine ⟨fun _ => sum, fun z1 => ⟨fun z2 => ⟨fun _ => pro, fun z3 => ⟨fun z4 => ?_, fun _ => pro⟩⟩, fun _ => sum⟩⟩
  -- a bracket is closed
  refine set 3 _ (Or.inl rfl) (fun w2 c1 c2 c3 c5 c6 c7 => ?_)
  obtain ⟨k1, k2, k3, k4, k5, k6, k7, k8, k9, k10, k11⟩ := id c7
  have pb2 := pz_piled c7 hN
  have e2 : w2 76 31 = 1 := by rw [c2 31 (by decide) (by decide)]; exact h31
  obtain ⟨kk, q0, q1, q2⟩ : ∃ k, 0 ≤ k ∧ k < w 76 29 ∧ w 90 k = 40 := by
    rcases hg with x | x | x | x | x
    · exact absurd x z1
    · exact absurd x z2
    · exact absurd x z3
    · exact absurd x z4
    · exact x.2
  have q3 := c5 kk q0 q1 q2
  have ty := k8.1 (w2 76 29 - 1).toNat (by omega)
  have kn : (((w2 76 29 - 1).toNat : Nat) : Int) = w2 76 29 - 1 := by omega
  rw [kn, c3] at ty
  have top : w 90 (w2 76 29 - 1) = 2 ∨ w 90 (w2 76 29 - 1) = 40 := by omega
  have e1 : (w2 76 29).toNat = (w2 76 29 - 1).toNat + 1 := by omega
  have opn : pl_op (w2 90) (w2 76 29).toNat = pl_op (w2 90) (w2 76 29 - 1).toNat + 1 := by rw [e1, pl_op, kn, c3, if_pos top]
  have bn : pl_b (w2 90) (w2 76 29).toNat = pl_b (w2 90) (w2 76 29 - 1).toNat := by rw [e1, pl_b, kn, c3, if_neg (by omega)]; omega
  have op0 := pl_op0 (w2 90) (w2 76 29 - 1).toNat
  refine ⟨by constructor <;> omega, by constructor <;> omega, ?_⟩
  have f : ∀ j, j ≠ 29 → j ≠ 30 → j ≠ 31 → (ck_up (ck_up (ck_up w2 76 29 (w2 76 29 - 1)) 76 30 (w2 76 30 - 1)) 76 31 1) 76 j = w2 76 j := fun j x y z => by rw [ck_up_nj z, ck_up_nj y, ck_up_nj x]
  have f29 : (ck_up (ck_up (ck_up w2 76 29 (w2 76 29 - 1)) 76 30 (w2 76 30 - 1)) 76 31 1) 76 29 = w2 76 29 - 1 := by rw [ck_up_nj (by decide), ck_up_nj (by decide), ck_up_eq]
  have f30 : (ck_up (ck_up (ck_up w2 76 29 (w2 76 29 - 1)) 76 30 (w2 76 30 - 1)) 76 31 1) 76 30 = w2 76 30 - 1 := by rw [ck_up_nj (by decide), ck_up_eq]
  have f31 : (ck_up (ck_up (ck_up w2 76 29 (w2 76 29 - 1)) 76 30 (w2 76 30 - 1)) 76 31 1) 76 31 = 1 := ck_up_eq
  have z3' : pz T X s E N n m (ck_up (ck_up (ck_up w2 76 29 (w2 76 29 - 1)) 76 30 (w2 76 30 - 1)) 76 31 1) := by
    refine ⟨?_, ?_, ?_, ?_, ?_, ?_, ?_, ?_, ?_, ?_, ?_⟩
    · rw [f 19 (by decide) (by decide) (by decide), f 20 (by decide) (by decide) (by decide)]; exact k1
    · rw [f 19 (by decide) (by decide) (by decide), f 20 (by decide) (by decide) (by decide), f 21 (by decide) (by decide) (by decide)]; exact k2
    · rw [f 22 (by decide) (by decide) (by decide)]; exact k3
    · rw [f 16 (by decide) (by decide) (by decide), f 24 (by decide) (by decide) (by decide)]; exact k4
    · rw [f 26 (by decide) (by decide) (by decide)]; exact k5
    · rw [f29]; omega
    · rw [f29, f 26 (by decide) (by decide) (by decide), f 20 (by decide) (by decide) (by decide)]; omega
    · rw [f29]; rw [e1] at k8; exact pl_ok_pop k8
    · rw [f29, f30]; show pl_op (w2 90) _ + N ≤ _ ∧ _; omega
    · exact Or.inr f31
    · rw [f29, f31, f 26 (by decide) (by decide) (by decide)]
      show tx_st (w2 79) _ _ _ = some (n + pl_b (w2 90) _ + 1, m)
      rw [k11, e2, bn]
  have p1 : pr w2 (ck_up (ck_up (ck_up w2 76 29 (w2 76 29 - 1)) 76 30 (w2 76 30 - 1)) 76 31 1) := pr_tr (pr_tr (pr_up (by omega) (by omega) (by omega)) (pr_up (by omega) (by omega) (by omega))) (pr_up (by omega) (by omega) (by omega))
  refine e_X12_whole hC (L_X12_whole hC hT hX hE hN hn 30 (by rw [f29]; omega) z3' f31 (fun w3 d1 d2 d3 d4 => ⟨rfl, ?_⟩))
  obtain ⟨m1, m2, m3, m4, m5, m6, m7, m8, m9, m10, m11⟩ := id d3
  have g20 : w3 76 20 = w 76 20 := by rw [d2 20 (by omega), f 20 (by decide) (by decide) (by decide), c2 20 (by decide) (by decide)]
  have g21 : w3 76 21 = w 76 21 := by rw [d2 21 (by omega), f 21 (by decide) (by decide) (by decide), c2 21 (by decide) (by decide)]
  refine S_next hC hT ⟨by omega, m3, m4, m5, m6, by omega, m8, m9, m10, m11⟩ (fun w' y1 y2 y3 y4 y5 => ⟨rfl, h w' (pr_tr (pr_tr (pr_tr c1 p1) d1) y1) y4 (by omega)⟩)
/-- the state between sums: steps from s on, E owed, N open, n numbers, m truths -/
def py (T X s E N n m : Int) (u : ck_W) : Prop :=
  (0 ≤ u 76 20 ∧ u 76 20 ≤ u 76 19 ∧ u 76 19 ≤ T) ∧ (u 76 21 = 0 ∨ u 76 20 < u 76 19) ∧ 0 ≤ u 76 22 ∧ (u 76 16 = T ∧ u 76 24 = X) ∧
  (0 ≤ s ∧ s ≤ u 76 26) ∧ u 76 26 + E ≤ u 76 20 ∧ (N ≤ u 76 30 ∧ u 76 30 ≤ 8) ∧ tx_st (u 79) (X + 50) s (u 76 26 - s).toNat = some (n, m)
theorem dX12_summed_0 : decode cX12_summed 0 = .ok (.aload_n 0, 1) := dk_42 (by decide +kernel)
theorem dX12_summed_1 : decode cX12_summed 1 = .ok (.iconst 0, 1) := dk_3 (by decide +kernel)
theorem dX12_summed_2 : decode cX12_summed 2 = .ok (.putfield 223, 3) := dk_181 0 223 (by decide +kernel)
theorem dX12_summed_5 : decode cX12_summed 5 = .ok (.aload_n 0, 1) := dk_42 (by decide +kernel)
theorem dX12_summed_6 : decode cX12_summed 6 = .ok (.iconst 0, 1) := dk_3 (by decide +kernel)
theorem dX12_summed_7 : decode cX12_summed 7 = .ok (.putfield 226, 3) := dk_181 0 226 (by decide +kernel)
theorem dX12_summed_10 : decode cX12_summed 10 = .ok (.aload_n 0, 1) := dk_42 (by decide +kernel)
theorem dX12_summed_11 : decode cX12_summed 11 = .ok (.getfield 226, 3) := dk_180 0 226 (by decide +kernel)
theorem dX12_summed_14 : decode cX12_summed 14 = .ok (.ifCond .eq 10, 3) := dk_153 0 10 (by decide +kernel)
theorem dX12_summed_17 : decode cX12_summed 17 = .ok (.aload_n 0, 1) := dk_42 (by decide +kernel)
theorem dX12_summed_18 : decode cX12_summed 18 = .ok (.invokevirtual 265, 3) := dk_182 1 9 (by decide +kernel)
theorem dX12_summed_21 : decode cX12_summed 21 = .ok (.ifCond .eq 31, 3) := dk_153 0 31 (by decide +kernel)
theorem dX12_summed_24 : decode cX12_summed 24 = .ok (.aload_n 0, 1) := dk_42 (by decide +kernel)
theorem dX12_summed_25 : decode cX12_summed 25 = .ok (.getfield 226, 3) := dk_180 0 226 (by decide +kernel)
theorem dX12_summed_28 : decode cX12_summed 28 = .ok (.ifCond .eq 10, 3) := dk_153 0 10 (by decide +kernel)
theorem dX12_summed_31 : decode cX12_summed 31 = .ok (.aload_n 0, 1) := dk_42 (by decide +kernel)
theorem dX12_summed_32 : decode cX12_summed 32 = .ok (.invokevirtual 268, 3) := dk_182 1 12 (by decide +kernel)
theorem dX12_summed_35 : decode cX12_summed 35 = .ok (.goto 7, 3) := dk_167 0 7 (by decide +kernel)
theorem dX12_summed_38 : decode cX12_summed 38 = .ok (.aload_n 0, 1) := dk_42 (by decide +kernel)
theorem dX12_summed_39 : decode cX12_summed 39 = .ok (.invokevirtual 271, 3) := dk_182 1 15 (by decide +kernel)
theorem dX12_summed_42 : decode cX12_summed 42 = .ok (.istore_n 1, 1) := dk_60 (by decide +kernel)
theorem dX12_summed_43 : decode cX12_summed 43 = .ok (.iload_n 1, 1) := dk_27 (by decide +kernel)
theorem dX12_summed_44 : decode cX12_summed 44 = .ok (.ifCond .eq 5, 3) := dk_153 0 5 (by decide +kernel)
theorem dX12_summed_47 : decode cX12_summed 47 = .ok (.iload_n 1, 1) := dk_27 (by decide +kernel)
theorem dX12_summed_48 : decode cX12_summed 48 = .ok (.ireturn, 1) := dk_172 (by decide +kernel)
theorem dX12_summed_49 : decode cX12_summed 49 = .ok (.goto (-39), 3) := dk_167 255 217 (by decide +kernel)
theorem dX12_summed_52 : decode cX12_summed 52 = .ok (.aload_n 0, 1) := dk_42 (by decide +kernel)
theorem dX12_summed_53 : decode cX12_summed 53 = .ok (.iconst 3, 1) := dk_6 (by decide +kernel)
theorem dX12_summed_54 : decode cX12_summed 54 = .ok (.invokevirtual 262, 3) := dk_182 1 6 (by decide +kernel)
theorem dX12_summed_57 : decode cX12_summed 57 = .ok (.aload_n 0, 1) := dk_42 (by decide +kernel)
theorem dX12_summed_58 : decode cX12_summed 58 = .ok (.getfield 223, 3) := dk_180 0 223 (by decide +kernel)
theorem dX12_summed_61 : decode cX12_summed 61 = .ok (.ifCond .le 7, 3) := dk_158 0 7 (by decide +kernel)
theorem dX12_summed_64 : decode cX12_summed 64 = .ok (.iconst 1, 1) := dk_4 (by decide +kernel)
theorem dX12_summed_65 : decode cX12_summed 65 = .ok (.goto 4, 3) := dk_167 0 4 (by decide +kernel)
theorem dX12_summed_68 : decode cX12_summed 68 = .ok (.iconst 0, 1) := dk_3 (by decide +kernel)
theorem dX12_summed_69 : decode cX12_summed 69 = .ok (.ireturn, 1) := dk_172 (by decide +kernel)
set_option maxRecDepth 8000 in
theorem e_X12_summed {g : ch_G} {A R : Nat} (hC : ck_Cx g A R) {d : Nat} {K : Option ck_V → ck_W → Prop} {w : ck_W} (h : ck_At (ch_C g A R) (d + 1) mX12_summed K 10 [some (.inr (.inr 76)), none] [] (ck_up (ck_up w 76 29 0) 76 31 0)) : ck_Ex (ch_C g A R) (d + 1) mX12_summed [.inr (.inr 76)] w K :=
  ck_entry hC.1 [some (.inr (.inr 76)), none] (by decide) (Nat.le_of_ble_eq_true rfl) rfl (fun q => q) (ck_in (fun hl => (ck_aload_n 1 rfl 0 dX12_summed_0 rfl rfl (ck_iconst 2 rfl dX12_summed_1 rfl (ck_puti 5 rfl 29 dX12_summed_2 fp_X12_223 sh_76 rfl rfl (show ck_i 0 by decide) (ck_aload_n 6 rfl 0 dX12_summed_5 rfl rfl (ck_iconst 7 rfl dX12_summed_6 rfl (ck_putz 10 rfl 31 dX12_summed_7 fp_X12_226 sh_76 rfl rfl (by decide) h))))))))
set_option maxRecDepth 8000 in
theorem r_X12_summed_10 {g : ch_G} {A R : Nat} (hC : ck_Cx g A R) {d : Nat} {K : Option ck_V → ck_W → Prop} {w : ck_W} (h : ((w 76 31) = 0 → ((w 76 31) = 0 → ck_CI (ch_C g A R) d mX12_beginOne [.inr (.inr 76)] w (fun v4 w3 => (v4 = 0 → ck_At (ch_C g A R) (d + 1) mX12_summed K 10 [some (.inr (.inr 76)), none] [] w3) ∧ (¬ v4 = 0 → K (some (.inl v4)) w3))) ∧ (¬ (w 76 31) = 0 → ck_CI (ch_C g A R) d mX12_behindOne [.inr (.inr 76)] w (fun v10 w9 => (v10 = 0 → ck_At (ch_C g A R) (d + 1) mX12_summed K 10 [some (.inr (.inr 76)), none] [] w9) ∧ (¬ v10 = 0 → K (some (.inl v10)) w9)))) ∧ (¬ (w 76 31) = 0 → ck_CI (ch_C g A R) d mX12_goesOn [.inr (.inr 76)] w (fun v18 w17 => (v18 = 0 → ck_CN (ch_C g A R) d mX12_settle [.inr (.inr 76), .inl 3] w17 (fun w21 => ((w21 76 29) ≤ 0 → K (some (.inl 0)) w21) ∧ (¬ (w21 76 29) ≤ 0 → K (some (.inl 1)) w21))) ∧ (¬ v18 = 0 → ((w17 76 31) = 0 → ck_CI (ch_C g A R) d mX12_beginOne [.inr (.inr 76)] w17 (fun v28 w27 => (v28 = 0 → ck_At (ch_C g A R) (d + 1) mX12_summed K 10 [some (.inr (.inr 76)), none] [] w27) ∧ (¬ v28 = 0 → K (some (.inl v28)) w27))) ∧ (¬ (w17 76 31) = 0 → ck_CI (ch_C g A R) d mX12_behindOne [.inr (.inr 76)] w17 (fun v34 w33 => (v34 = 0 → ck_At (ch_C g A R) (d + 1) mX12_summed K 10 [some (.inr (.inr 76)), none] [] w33) ∧ (¬ v34 = 0 → K (some (.inl v34)) w33))))))) : ck_At (ch_C g A R) (d + 1) mX12_summed K 10 [some (.inr (.inr 76)), none] [] w :=
  ck_in (fun hl => (ck_aload_n 11 rfl 0 dX12_summed_10 rfl rfl (ck_geti 14 rfl 31 dX12_summed_11 fl_X12_226 sh_76 rfl rfl _ rfl (fun (q1 : ck_i (w 76 31)) => (ck_if_eq 17 rfl 24 dX12_summed_14 rfl q1 (fun c43 => (ck_aload_n 25 rfl 0 dX12_summed_24 rfl rfl (ck_geti 28 rfl 31 dX12_summed_25 fl_X12_226 sh_76 rfl rfl _ rfl (fun (q2 : ck_i (w 76 31)) => (have h45 := (h.1 c43); (ck_if_eq 31 rfl 38 dX12_summed_28 rfl q2 (fun c15 => (ck_aload_n 39 rfl 0 dX12_summed_38 rfl rfl (ck_callV 42 rfl [] [] dX12_summed_39 cv_X12_271 sh_76 rfl rfl (Nat.le_of_ble_eq_true rfl) True.intro (ck_mI (h45.1 c15) (fun v4 w3 q5 h6 => (ck_istore_n 43 rfl 1 [some (.inr (.inr 76)), some (.inl v4)] dX12_summed_42 rfl (Nat.le_of_ble_eq_true rfl) rfl rfl q5 (ck_iload_n 44 rfl 1 dX12_summed_43 rfl rfl (ck_if_eq 47 rfl 49 dX12_summed_44 rfl q5 (fun c7 => (ck_goto 10 dX12_summed_49 rfl (ck_drop [some (.inr (.inr 76)), none] (And.intro rfl True.intro) (h6.1 c7)))) (fun c8 => (ck_iload_n 48 rfl 1 dX12_summed_47 rfl rfl (ck_iret dX12_summed_48 rfl q5 (h6.2 c8)))))))))))) (fun c16 => (ck_aload_n 32 rfl 0 dX12_summed_31 rfl rfl (ck_callV 35 rfl [] [] dX12_summed_32 cv_X12_268 sh_76 rfl rfl (Nat.le_of_ble_eq_true rfl) True.intro (ck_mI (h45.2 c16) (fun v10 w9 q11 h12 => (ck_goto 42 dX12_summed_35 rfl (ck_istore_n 43 rfl 1 [some (.inr (.inr 76)), some (.inl v10)] dX12_summed_42 rfl (Nat.le_of_ble_eq_true rfl) rfl rfl q11 (ck_iload_n 44 rfl 1 dX12_summed_43 rfl rfl (ck_if_eq 47 rfl 49 dX12_summed_44 rfl q11 (fun c13 => (ck_goto 10 dX12_summed_49 rfl (ck_drop [some (.inr (.inr 76)), none] (And.intro rfl True.intro) (h12.1 c13)))) (fun c14 => (ck_iload_n 48 rfl 1 dX12_summed_47 rfl rfl (ck_iret dX12_summed_48 rfl q11 (h12.2 c14))))))))))))))))))) (fun c44 => (ck_aload_n 18 rfl 0 dX12_summed_17 rfl rfl (ck_callV 21 rfl [] [] dX12_summed_18 cv_X12_265 sh_76 rfl rfl (Nat.le_of_ble_eq_true rfl) True.intro (ck_mI (h.2 c44) (fun v18 w17 q19 h20 => (ck_if_eq 24 rfl 52 dX12_summed_21 rfl q19 (fun c41 => (ck_aload_n 53 rfl 0 dX12_summed_52 rfl rfl (ck_iconst 54 rfl dX12_summed_53 rfl (ck_callV 57 rfl [.inl 3] [] dX12_summed_54 cv_X12_262 sh_76 rfl rfl (Nat.le_of_ble_eq_true rfl) (And.intro (show ck_i 3 by decide) True.intro) (ck_mN (h20.1 c41) (fun w21 h25 => (ck_aload_n 58 rfl 0 dX12_summed_57 rfl rfl (ck_geti 61 rfl 29 dX12_summed_58 fl_X12_223 sh_76 rfl rfl _ rfl (fun (q22 : ck_i (w21 76 29)) => (ck_if_le 64 rfl 68 dX12_summed_61 rfl q22 (fun c23 => (ck_iconst 69 rfl dX12_summed_68 rfl (ck_iret dX12_summed_69 rfl (show ck_i 0 by decide) (h25.1 c23)))) (fun c24 => (ck_iconst 65 rfl dX12_summed_64 rfl (ck_goto 69 dX12_summed_65 rfl (ck_iret dX12_summed_69 rfl (show ck_i 1 by decide) (h25.2 c24))))))))))))))) (fun c42 => (ck_aload_n 25 rfl 0 dX12_summed_24 rfl rfl (ck_geti 28 rfl 31 dX12_summed_25 fl_X12_226 sh_76 rfl rfl _ rfl (fun (q26 : ck_i (w17 76 31)) => (have h46 := (h20.2 c42); (ck_if_eq 31 rfl 38 dX12_summed_28 rfl q26 (fun c39 => (ck_aload_n 39 rfl 0 dX12_summed_38 rfl rfl (ck_callV 42 rfl [] [] dX12_summed_39 cv_X12_271 sh_76 rfl rfl (Nat.le_of_ble_eq_true rfl) True.intro (ck_mI (h46.1 c39) (fun v28 w27 q29 h30 => (ck_istore_n 43 rfl 1 [some (.inr (.inr 76)), some (.inl v28)] dX12_summed_42 rfl (Nat.le_of_ble_eq_true rfl) rfl rfl q29 (ck_iload_n 44 rfl 1 dX12_summed_43 rfl rfl (ck_if_eq 47 rfl 49 dX12_summed_44 rfl q29 (fun c31 => (ck_goto 10 dX12_summed_49 rfl (ck_drop [some (.inr (.inr 76)), none] (And.intro rfl True.intro) (h30.1 c31)))) (fun c32 => (ck_iload_n 48 rfl 1 dX12_summed_47 rfl rfl (ck_iret dX12_summed_48 rfl q29 (h30.2 c32)))))))))))) (fun c40 => (ck_aload_n 32 rfl 0 dX12_summed_31 rfl rfl (ck_callV 35 rfl [] [] dX12_summed_32 cv_X12_268 sh_76 rfl rfl (Nat.le_of_ble_eq_true rfl) True.intro (ck_mI (h46.2 c40) (fun v34 w33 q35 h36 => (ck_goto 42 dX12_summed_35 rfl (ck_istore_n 43 rfl 1 [some (.inr (.inr 76)), some (.inl v34)] dX12_summed_42 rfl (Nat.le_of_ble_eq_true rfl) rfl rfl q35 (ck_iload_n 44 rfl 1 dX12_summed_43 rfl rfl (ck_if_eq 47 rfl 49 dX12_summed_44 rfl q35 (fun c37 => (ck_goto 10 dX12_summed_49 rfl (ck_drop [some (.inr (.inr 76)), none] (And.intro rfl True.intro) (h36.1 c37)))) (fun c38 => (ck_iload_n 48 rfl 1 dX12_summed_47 rfl rfl (ck_iret dX12_summed_48 rfl q35 (h36.2 c38))))))))))))))))))))))))))))))
theorem S_X12_summed {g : ch_G} {A R : Nat} (hC : ck_Cx g A R) {d : Nat} {K : Option ck_V → ck_W → Prop} {w : ck_W} {T X s E N n m : Int} (hT : 0 ≤ T ∧ T ≤ 300) (hX : 0 ≤ X ∧ X ≤ 2400) (hE : 0 ≤ E) (hN : 0 ≤ N) (hn : 0 ≤ n) (hm : 0 ≤ m) (hy : py T X s E N n m w)
    (h : ∀ v w', pr w w' → (v = 0 → py T X s E N (n + 1) m w' ∧ w 76 20 < w' 76 20) → K (some (.inl v)) w') : ck_Ex (ch_C g A R) (d + 5) mX12_summed [.inr (.inr 76)] w K := by
  have l : ∀ (q : Nat) (u : ck_W), 301 - u 76 20 ≤ q → pr w u → w 76 20 ≤ u 76 20 → (u 76 31 = 1 → w 76 20 < u 76 20) → pz T X s E N n m u → ck_At (ch_C g A R) (d + 5) mX12_summed K 10 [some (.inr (.inr 76)), none] [] u := by
    intro q
    induction q with
    | zero => intro u q1 q2 q3 q3b q4; have := q4.1; omega
    | succ q ih =>
      intro u q1 q2 q3 q3b q4
      have pb := pz_piled q4 hN
      obtain ⟨h1, h2, h3, h4, h5, h6, h7, h8, h9, h10, h11⟩ := id q4
      have begin_ : u 76 31 = 0 → ck_CI (ch_C g A R) (d + 4) mX12_beginOne [.inr (.inr 76)] u (fun v4 w3 => (v4 = 0 → ck_At (ch_C g A R) (d + 5) mX12_summed K 10 [some (.inr (.inr 76)), none] [] w3) ∧ (¬ v4 = 0 → K (some (.inl v4)) w3)) := fun z => S_X12_beginOne hC hT hX hE hN hn hm q4 z (fun v w' c1 c2 => ⟨_, rfl, fun _ => ⟨fun e => ih w' (by have := (c2 e).2; omega) (pr_tr q2 c1) (by have := (c2 e).2; omega) (fun _ => by have := (c2 e).2; omega) (c2 e).1, fun e => h v w' (pr_tr q2 c1) (fun e' => absurd e' e)⟩⟩)
      refine r_X12_summed_10 hC ⟨fun z => ⟨fun _ => begin_ z, fun y => absurd z y⟩, fun z => ?_⟩
      have z1 : u 76 31 = 1 := by omega
      refine S_X12_goesOn hC (by omega) ⟨_, rfl, fun _ => ⟨fun _ => ?_, fun y => absurd rfl y⟩⟩ (fun go => ⟨_, rfl, fun _ => ⟨fun y => absurd y (by decide), fun _ => ⟨fun y => absurd y z, fun _ => ?_⟩⟩⟩)
      · refine e_X12_settle hC (L_X12_settle hC hT hX hE hN hn (by omega) 30 (by omega) q4 z1 (fun w2 c1 c2 c3 c4 c5 c6 c7 => ⟨rfl, ?_⟩))
        obtain ⟨k1, k2, k3, k4, k5, k6, k7, k8, k9, k10, k11⟩ := id c7
        have e31 : w2 76 31 = 1 := by rw [c2 31 (by decide) (by decide)]; exact z1
        have e20 := c2 20 (by decide) (by decide)
        have op0 := pl_op0 (w2 90) (w2 76 29).toNat
        refine ⟨fun x => h 0 w2 (pr_tr q2 c1) (fun _ => ⟨⟨k1, k2, k3, k4, k5, by omega, by omega, ?_⟩, by have := q3b z1; omega⟩), fun x => h 1 w2 (pr_tr q2 c1) (fun e => absurd e (by decide))⟩
        rw [k11, show (w2 76 29).toNat = 0 by omega, e31]
        show some (n + 0 + 1, m) = _
        rw [show n + 0 + 1 = n + 1 by omega]
      · exact S_X12_behindOne hC hT hX hE hN hn hm q4 z1 go (fun w' c1 c2 c3 => ⟨_, rfl, fun _ => ⟨fun _ => ih w' (by omega) (pr_tr q2 c1) (by omega) (fun _ => by omega) c2, fun e => absurd rfl e⟩⟩)
  obtain ⟨h1, h2, h3, h4, h5, h7, h9, h11⟩ := id hy
  have f : ∀ j, j ≠ 29 → j ≠ 31 → (ck_up (ck_up w 76 29 0) 76 31 0) 76 j = w 76 j := fun j x y => by rw [ck_up_nj y, ck_up_nj x]
  have f29 : (ck_up (ck_up w 76 29 0) 76 31 0) 76 29 = 0 := by rw [ck_up_nj (by decide), ck_up_eq]
  have f31 : (ck_up (ck_up w 76 29 0) 76 31 0) 76 31 = 0 := ck_up_eq
  refine e_X12_summed hC (l 301 _ (by rw [f 20 (by decide) (by decide)]; omega) (pr_tr (pr_up (by omega) (by omega) (by omega)) (pr_up (by omega) (by omega) (by omega))) (by rw [f 20 (by decide) (by decide)]; omega) (fun e => by rw [f31] at e; omega) ⟨?_, ?_, ?_, ?_, ?_, ?_, ?_, ?_, ?_, ?_, ?_⟩)
  · rw [f 19 (by decide) (by decide), f 20 (by decide) (by decide)]; exact h1
  · rw [f 19 (by decide) (by decide), f 20 (by decide) (by decide), f 21 (by decide) (by decide)]; exact h2
  · rw [f 22 (by decide) (by decide)]; exact h3
  · rw [f 16 (by decide) (by decide), f 24 (by decide) (by decide)]; exact h4
  · rw [f 26 (by decide) (by decide)]; exact h5
  · rw [f29]; omega
  · rw [f29, f 26 (by decide) (by decide), f 20 (by decide) (by decide)]; omega
  · rw [f29]; exact ⟨fun k hk => absurd hk (Nat.not_lt_zero k), fun k hk => by rw [show k = 0 from Nat.le_zero.mp hk]; simp [pl_op, pl_sv]⟩
  · rw [f29, f 30 (by decide) (by decide)]; show (0 : Int) + N ≤ _ ∧ _; omega
  · rw [f31]; exact Or.inl rfl
  · rw [f29, f31, f 26 (by decide) (by decide)]
    show tx_st (w 79) _ _ _ = some (n + 0 + 0, m)
    rw [h11, show n + 0 + 0 = n by omega]
/-- the next token, between sums -/
theorem S_nexty {g : ch_G} {A R : Nat} (hC : ck_Cx g A R) {d : Nat} {K : Option ck_V → ck_W → Prop} {w : ck_W} {T X s E N n m : Int} (hT : 0 ≤ T ∧ T ≤ 300) (hy : py T X s E N n m w) (ht : ¬ w 76 21 = 0) (h : ∀ w', pr w w' → w' 79 = w 79 → w' 76 26 = w 76 26 → py T X s (E + 1) N n m w' → w 76 20 < w' 76 20 → K none w') : ck_Ex (ch_C g A R) (d + 2) mX12_nextToken [.inr (.inr 76)] w K := by
  obtain ⟨h1, h2, h3, h4, h5, h7, h9, h11⟩ := hy
  refine S_X12_nextToken hC (by omega) (by omega) h3 (fun u i1 i2 i3 i4 => h u (pr_nt i1 i4) (i1.1 79 (by decide)) (i1.2 26 (by omega)) ⟨?_, i3, i4, ?_, ?_, ?_, ?_, ?_⟩ (by omega))
  · rw [h4.1] at i2; omega
  · rw [i1.2 16 (by omega), i1.2 24 (by omega)]; exact h4
  · rw [i1.2 26 (by omega)]; exact h5
  · rw [i1.2 26 (by omega)]; omega
  · rw [i1.2 30 (by omega)]; exact h9
  · rw [i1.2 26 (by omega), i1.1 79 (by decide)]; exact h11
/-- a step more, between sums -/
theorem S_emity {g : ch_G} {A R : Nat} (hC : ck_Cx g A R) {d : Nat} {K : Option ck_V → ck_W → Prop} {w : ck_W} {T X s E N n m o n' m' : Int} (hT : 0 ≤ T ∧ T ≤ 300) (hX : 0 ≤ X ∧ X ≤ 2400) (hE : 1 ≤ E) (hy : py T X s E N n m w) (ho : tx_eff o 0 (n, m) = some (n', m')) (h : ∀ w', pr w w' → (∀ j, j ≠ 26 → w' 76 j = w 76 j) → py T X s (E - 1) N n' m' w' → K none w') : ck_Ex (ch_C g A R) d mX12_emit [.inr (.inr 76), .inl o, .inl 0] w K := by
  obtain ⟨h1, h2, h3, h4, h5, h7, h9, h11⟩ := hy
  refine S_X12_emit hC (by omega) (by omega) (fun u b1 b2 b3 b4 b5 => h u b1 b3 ⟨?_, ?_, ?_, ?_, ?_, ?_, ?_, ?_⟩)
  · rw [b3 19 (by decide), b3 20 (by decide)]; exact h1
  · rw [b3 19 (by decide), b3 20 (by decide), b3 21 (by decide)]; exact h2
  · rw [b3 22 (by decide)]; exact h3
  · rw [b3 16 (by decide), b3 24 (by decide)]; exact h4
  · rw [b4]; omega
  · rw [b4, b3 20 (by decide)]; omega
  · rw [b3 30 (by decide)]; exact h9
  · have te := tx_emit (t := w 79) (c := X + 50) (s := s) (wr := w 76 26) (o := o) (v := 0) h5.2
    rw [b5, b4, h4.2, te, h11]
    exact ho
theorem dX12_compareOf_0 : decode cX12_compareOf 0 = .ok (.aload_n 0, 1) := dk_42 (by decide +kernel)
theorem dX12_compareOf_1 : decode cX12_compareOf 1 = .ok (.getfield 192, 3) := dk_180 0 192 (by decide +kernel)
theorem dX12_compareOf_4 : decode cX12_compareOf 4 = .ok (.bipush 60, 2) := dk_16 60 (by decide +kernel)
theorem dX12_compareOf_6 : decode cX12_compareOf 6 = .ok (.if_icmp .ne 8, 3) := dk_160 0 8 (by decide +kernel)
theorem dX12_compareOf_9 : decode cX12_compareOf 9 = .ok (.bipush 10, 2) := dk_16 10 (by decide +kernel)
theorem dX12_compareOf_11 : decode cX12_compareOf 11 = .ok (.goto 72, 3) := dk_167 0 72 (by decide +kernel)
theorem dX12_compareOf_14 : decode cX12_compareOf 14 = .ok (.aload_n 0, 1) := dk_42 (by decide +kernel)
theorem dX12_compareOf_15 : decode cX12_compareOf 15 = .ok (.getfield 192, 3) := dk_180 0 192 (by decide +kernel)
theorem dX12_compareOf_18 : decode cX12_compareOf 18 = .ok (.iconst 4, 1) := dk_7 (by decide +kernel)
theorem dX12_compareOf_19 : decode cX12_compareOf 19 = .ok (.if_icmp .ne 8, 3) := dk_160 0 8 (by decide +kernel)
theorem dX12_compareOf_22 : decode cX12_compareOf 22 = .ok (.bipush 11, 2) := dk_16 11 (by decide +kernel)
theorem dX12_compareOf_24 : decode cX12_compareOf 24 = .ok (.goto 59, 3) := dk_167 0 59 (by decide +kernel)
theorem dX12_compareOf_27 : decode cX12_compareOf 27 = .ok (.aload_n 0, 1) := dk_42 (by decide +kernel)
theorem dX12_compareOf_28 : decode cX12_compareOf 28 = .ok (.getfield 192, 3) := dk_180 0 192 (by decide +kernel)
theorem dX12_compareOf_31 : decode cX12_compareOf 31 = .ok (.bipush 62, 2) := dk_16 62 (by decide +kernel)
theorem dX12_compareOf_33 : decode cX12_compareOf 33 = .ok (.if_icmp .ne 8, 3) := dk_160 0 8 (by decide +kernel)
theorem dX12_compareOf_36 : decode cX12_compareOf 36 = .ok (.bipush 12, 2) := dk_16 12 (by decide +kernel)
theorem dX12_compareOf_38 : decode cX12_compareOf 38 = .ok (.goto 45, 3) := dk_167 0 45 (by decide +kernel)
theorem dX12_compareOf_41 : decode cX12_compareOf 41 = .ok (.aload_n 0, 1) := dk_42 (by decide +kernel)
theorem dX12_compareOf_42 : decode cX12_compareOf 42 = .ok (.getfield 192, 3) := dk_180 0 192 (by decide +kernel)
theorem dX12_compareOf_45 : decode cX12_compareOf 45 = .ok (.iconst 5, 1) := dk_8 (by decide +kernel)
theorem dX12_compareOf_46 : decode cX12_compareOf 46 = .ok (.if_icmp .ne 8, 3) := dk_160 0 8 (by decide +kernel)
theorem dX12_compareOf_49 : decode cX12_compareOf 49 = .ok (.bipush 13, 2) := dk_16 13 (by decide +kernel)
theorem dX12_compareOf_51 : decode cX12_compareOf 51 = .ok (.goto 32, 3) := dk_167 0 32 (by decide +kernel)
theorem dX12_compareOf_54 : decode cX12_compareOf 54 = .ok (.aload_n 0, 1) := dk_42 (by decide +kernel)
theorem dX12_compareOf_55 : decode cX12_compareOf 55 = .ok (.getfield 192, 3) := dk_180 0 192 (by decide +kernel)
theorem dX12_compareOf_58 : decode cX12_compareOf 58 = .ok (.bipush 61, 2) := dk_16 61 (by decide +kernel)
theorem dX12_compareOf_60 : decode cX12_compareOf 60 = .ok (.if_icmp .ne 8, 3) := dk_160 0 8 (by decide +kernel)
theorem dX12_compareOf_63 : decode cX12_compareOf 63 = .ok (.bipush 14, 2) := dk_16 14 (by decide +kernel)
theorem dX12_compareOf_65 : decode cX12_compareOf 65 = .ok (.goto 18, 3) := dk_167 0 18 (by decide +kernel)
theorem dX12_compareOf_68 : decode cX12_compareOf 68 = .ok (.aload_n 0, 1) := dk_42 (by decide +kernel)
theorem dX12_compareOf_69 : decode cX12_compareOf 69 = .ok (.getfield 192, 3) := dk_180 0 192 (by decide +kernel)
theorem dX12_compareOf_72 : decode cX12_compareOf 72 = .ok (.bipush 35, 2) := dk_16 35 (by decide +kernel)
theorem dX12_compareOf_74 : decode cX12_compareOf 74 = .ok (.if_icmp .ne 8, 3) := dk_160 0 8 (by decide +kernel)
theorem dX12_compareOf_77 : decode cX12_compareOf 77 = .ok (.bipush 15, 2) := dk_16 15 (by decide +kernel)
theorem dX12_compareOf_79 : decode cX12_compareOf 79 = .ok (.goto 4, 3) := dk_167 0 4 (by decide +kernel)
theorem dX12_compareOf_82 : decode cX12_compareOf 82 = .ok (.iconst (-1), 1) := dk_2 (by decide +kernel)
theorem dX12_compareOf_83 : decode cX12_compareOf 83 = .ok (.ireturn, 1) := dk_172 (by decide +kernel)
set_option maxRecDepth 8000 in
theorem e_X12_compareOf {g : ch_G} {A R : Nat} (hC : ck_Cx g A R) {d : Nat} {K : Option ck_V → ck_W → Prop} {w : ck_W} (h : (¬ (w 76 21) = 60 → (¬ (w 76 21) = 4 → (¬ (w 76 21) = 62 → (¬ (w 76 21) = 5 → (¬ (w 76 21) = 61 → (¬ (w 76 21) = 35 → K (some (.inl (-1))) w) ∧ ((w 76 21) = 35 → K (some (.inl 15)) w)) ∧ ((w 76 21) = 61 → K (some (.inl 14)) w)) ∧ ((w 76 21) = 5 → K (some (.inl 13)) w)) ∧ ((w 76 21) = 62 → K (some (.inl 12)) w)) ∧ ((w 76 21) = 4 → K (some (.inl 11)) w)) ∧ ((w 76 21) = 60 → K (some (.inl 10)) w)) : ck_Ex (ch_C g A R) d mX12_compareOf [.inr (.inr 76)] w K :=
  ck_entry hC.1 [some (.inr (.inr 76))] (by decide) (Nat.le_of_ble_eq_true rfl) rfl (fun q => q) (ck_in (fun hl => (ck_aload_n 1 rfl 0 dX12_compareOf_0 rfl rfl (ck_geti 4 rfl 21 dX12_compareOf_1 fl_X12_192 sh_76 rfl rfl _ rfl (fun (q1 : ck_i (w 76 21)) => (ck_bipush 6 rfl dX12_compareOf_4 rfl (ck_icmp_ne 9 rfl 14 dX12_compareOf_6 rfl q1 (show ck_i 60 by decide) (fun c17 => (ck_aload_n 15 rfl 0 dX12_compareOf_14 rfl rfl (ck_geti 18 rfl 21 dX12_compareOf_15 fl_X12_192 sh_76 rfl rfl _ rfl (fun (q2 : ck_i (w 76 21)) => (ck_iconst 19 rfl dX12_compareOf_18 rfl (have h19 := (h.1 c17); (ck_icmp_ne 22 rfl 27 dX12_compareOf_19 rfl q2 (show ck_i 4 by decide) (fun c15 => (ck_aload_n 28 rfl 0 dX12_compareOf_27 rfl rfl (ck_geti 31 rfl 21 dX12_compareOf_28 fl_X12_192 sh_76 rfl rfl _ rfl (fun (q3 : ck_i (w 76 21)) => (ck_bipush 33 rfl dX12_compareOf_31 rfl (have h20 := (h19.1 c15); (ck_icmp_ne 36 rfl 41 dX12_compareOf_33 rfl q3 (show ck_i 62 by decide) (fun c13 => (ck_aload_n 42 rfl 0 dX12_compareOf_41 rfl rfl (ck_geti 45 rfl 21 dX12_compareOf_42 fl_X12_192 sh_76 rfl rfl _ rfl (fun (q4 : ck_i (w 76 21)) => (ck_iconst 46 rfl dX12_compareOf_45 rfl (have h21 := (h20.1 c13); (ck_icmp_ne 49 rfl 54 dX12_compareOf_46 rfl q4 (show ck_i 5 by decide) (fun c11 => (ck_aload_n 55 rfl 0 dX12_compareOf_54 rfl rfl (ck_geti 58 rfl 21 dX12_compareOf_55 fl_X12_192 sh_76 rfl rfl _ rfl (fun (q5 : ck_i (w 76 21)) => (ck_bipush 60 rfl dX12_compareOf_58 rfl (have h22 := (h21.1 c11); (ck_icmp_ne 63 rfl 68 dX12_compareOf_60 rfl q5 (show ck_i 61 by decide) (fun c9 => (ck_aload_n 69 rfl 0 dX12_compareOf_68 rfl rfl (ck_geti 72 rfl 21 dX12_compareOf_69 fl_X12_192 sh_76 rfl rfl _ rfl (fun (q6 : ck_i (w 76 21)) => (ck_bipush 74 rfl dX12_compareOf_72 rfl (have h23 := (h22.1 c9); (ck_icmp_ne 77 rfl 82 dX12_compareOf_74 rfl q6 (show ck_i 35 by decide) (fun c7 => (ck_iconst 83 rfl dX12_compareOf_82 rfl (ck_iret dX12_compareOf_83 rfl (show ck_i (-1) by decide) (h23.1 c7)))) (fun c8 => (ck_bipush 79 rfl dX12_compareOf_77 rfl (ck_goto 83 dX12_compareOf_79 rfl (ck_iret dX12_compareOf_83 rfl (show ck_i 15 by decide) (h23.2 c8)))))))))))) (fun c10 => (ck_bipush 65 rfl dX12_compareOf_63 rfl (ck_goto 83 dX12_compareOf_65 rfl (ck_iret dX12_compareOf_83 rfl (show ck_i 14 by decide) (h22.2 c10)))))))))))) (fun c12 => (ck_bipush 51 rfl dX12_compareOf_49 rfl (ck_goto 83 dX12_compareOf_51 rfl (ck_iret dX12_compareOf_83 rfl (show ck_i 13 by decide) (h21.2 c12)))))))))))) (fun c14 => (ck_bipush 38 rfl dX12_compareOf_36 rfl (ck_goto 83 dX12_compareOf_38 rfl (ck_iret dX12_compareOf_83 rfl (show ck_i 12 by decide) (h20.2 c14)))))))))))) (fun c16 => (ck_bipush 24 rfl dX12_compareOf_22 rfl (ck_goto 83 dX12_compareOf_24 rfl (ck_iret dX12_compareOf_83 rfl (show ck_i 11 by decide) (h19.2 c16)))))))))))) (fun c18 => (ck_bipush 11 rfl dX12_compareOf_9 rfl (ck_goto 83 dX12_compareOf_11 rfl (ck_iret dX12_compareOf_83 rfl (show ck_i 10 by decide) (h.2 c18))))))))))))
theorem dX12_asks_0 : decode cX12_asks 0 = .ok (.iconst 0, 1) := dk_3 (by decide +kernel)
theorem dX12_asks_1 : decode cX12_asks 1 = .ok (.istore_n 1, 1) := dk_60 (by decide +kernel)
theorem dX12_asks_2 : decode cX12_asks 2 = .ok (.aload_n 0, 1) := dk_42 (by decide +kernel)
theorem dX12_asks_3 : decode cX12_asks 3 = .ok (.bipush 110, 2) := dk_16 110 (by decide +kernel)
theorem dX12_asks_5 : decode cX12_asks 5 = .ok (.bipush 111, 2) := dk_16 111 (by decide +kernel)
theorem dX12_asks_7 : decode cX12_asks 7 = .ok (.bipush 116, 2) := dk_16 116 (by decide +kernel)
theorem dX12_asks_9 : decode cX12_asks 9 = .ok (.invokestatic 209, 3) := dk_184 0 209 (by decide +kernel)
theorem dX12_asks_12 : decode cX12_asks 12 = .ok (.invokevirtual 274, 3) := dk_182 1 18 (by decide +kernel)
theorem dX12_asks_15 : decode cX12_asks 15 = .ok (.ifCond .eq 34, 3) := dk_153 0 34 (by decide +kernel)
theorem dX12_asks_18 : decode cX12_asks 18 = .ok (.aload_n 0, 1) := dk_42 (by decide +kernel)
theorem dX12_asks_19 : decode cX12_asks 19 = .ok (.getfield 230, 3) := dk_180 0 230 (by decide +kernel)
theorem dX12_asks_22 : decode cX12_asks 22 = .ok (.bipush 8, 2) := dk_16 8 (by decide +kernel)
theorem dX12_asks_24 : decode cX12_asks 24 = .ok (.if_icmp .ne 5, 3) := dk_160 0 5 (by decide +kernel)
theorem dX12_asks_27 : decode cX12_asks 27 = .ok (.iconst 3, 1) := dk_6 (by decide +kernel)
theorem dX12_asks_28 : decode cX12_asks 28 = .ok (.ireturn, 1) := dk_172 (by decide +kernel)
theorem dX12_asks_29 : decode cX12_asks 29 = .ok (.aload_n 0, 1) := dk_42 (by decide +kernel)
theorem dX12_asks_30 : decode cX12_asks 30 = .ok (.dup, 1) := dk_89 (by decide +kernel)
theorem dX12_asks_31 : decode cX12_asks 31 = .ok (.getfield 230, 3) := dk_180 0 230 (by decide +kernel)
theorem dX12_asks_34 : decode cX12_asks 34 = .ok (.iconst 1, 1) := dk_4 (by decide +kernel)
theorem dX12_asks_35 : decode cX12_asks 35 = .ok (.iadd, 1) := dk_96 (by decide +kernel)
theorem dX12_asks_36 : decode cX12_asks 36 = .ok (.putfield 230, 3) := dk_181 0 230 (by decide +kernel)
theorem dX12_asks_39 : decode cX12_asks 39 = .ok (.iinc 1 1, 3) := dk_132 1 (by decide +kernel)
theorem dX12_asks_42 : decode cX12_asks 42 = .ok (.aload_n 0, 1) := dk_42 (by decide +kernel)
theorem dX12_asks_43 : decode cX12_asks 43 = .ok (.invokevirtual 246, 3) := dk_182 0 246 (by decide +kernel)
theorem dX12_asks_46 : decode cX12_asks 46 = .ok (.goto (-44), 3) := dk_167 255 212 (by decide +kernel)
theorem dX12_asks_49 : decode cX12_asks 49 = .ok (.aload_n 0, 1) := dk_42 (by decide +kernel)
theorem dX12_asks_50 : decode cX12_asks 50 = .ok (.invokevirtual 278, 3) := dk_182 1 22 (by decide +kernel)
theorem dX12_asks_53 : decode cX12_asks 53 = .ok (.istore_n 2, 1) := dk_61 (by decide +kernel)
theorem dX12_asks_54 : decode cX12_asks 54 = .ok (.iload_n 2, 1) := dk_28 (by decide +kernel)
theorem dX12_asks_55 : decode cX12_asks 55 = .ok (.ifCond .eq 5, 3) := dk_153 0 5 (by decide +kernel)
theorem dX12_asks_58 : decode cX12_asks 58 = .ok (.iload_n 2, 1) := dk_28 (by decide +kernel)
theorem dX12_asks_59 : decode cX12_asks 59 = .ok (.ireturn, 1) := dk_172 (by decide +kernel)
theorem dX12_asks_60 : decode cX12_asks 60 = .ok (.aload_n 0, 1) := dk_42 (by decide +kernel)
theorem dX12_asks_61 : decode cX12_asks 61 = .ok (.invokevirtual 281, 3) := dk_182 1 25 (by decide +kernel)
theorem dX12_asks_64 : decode cX12_asks 64 = .ok (.istore_n 3, 1) := dk_62 (by decide +kernel)
theorem dX12_asks_65 : decode cX12_asks 65 = .ok (.iload_n 3, 1) := dk_29 (by decide +kernel)
theorem dX12_asks_66 : decode cX12_asks 66 = .ok (.ifCond .ge 5, 3) := dk_156 0 5 (by decide +kernel)
theorem dX12_asks_69 : decode cX12_asks 69 = .ok (.iconst 1, 1) := dk_4 (by decide +kernel)
theorem dX12_asks_70 : decode cX12_asks 70 = .ok (.ireturn, 1) := dk_172 (by decide +kernel)
theorem dX12_asks_71 : decode cX12_asks 71 = .ok (.aload_n 0, 1) := dk_42 (by decide +kernel)
theorem dX12_asks_72 : decode cX12_asks 72 = .ok (.invokevirtual 246, 3) := dk_182 0 246 (by decide +kernel)
theorem dX12_asks_75 : decode cX12_asks 75 = .ok (.aload_n 0, 1) := dk_42 (by decide +kernel)
theorem dX12_asks_76 : decode cX12_asks 76 = .ok (.invokevirtual 278, 3) := dk_182 1 22 (by decide +kernel)
theorem dX12_asks_79 : decode cX12_asks 79 = .ok (.istore_n 2, 1) := dk_61 (by decide +kernel)
theorem dX12_asks_80 : decode cX12_asks 80 = .ok (.iload_n 2, 1) := dk_28 (by decide +kernel)
theorem dX12_asks_81 : decode cX12_asks 81 = .ok (.ifCond .eq 5, 3) := dk_153 0 5 (by decide +kernel)
theorem dX12_asks_84 : decode cX12_asks 84 = .ok (.iload_n 2, 1) := dk_28 (by decide +kernel)
theorem dX12_asks_85 : decode cX12_asks 85 = .ok (.ireturn, 1) := dk_172 (by decide +kernel)
theorem dX12_asks_86 : decode cX12_asks 86 = .ok (.aload_n 0, 1) := dk_42 (by decide +kernel)
theorem dX12_asks_87 : decode cX12_asks 87 = .ok (.iload_n 3, 1) := dk_29 (by decide +kernel)
theorem dX12_asks_88 : decode cX12_asks 88 = .ok (.iconst 0, 1) := dk_3 (by decide +kernel)
theorem dX12_asks_89 : decode cX12_asks 89 = .ok (.invokevirtual 233, 3) := dk_182 0 233 (by decide +kernel)
theorem dX12_asks_92 : decode cX12_asks 92 = .ok (.aload_n 0, 1) := dk_42 (by decide +kernel)
theorem dX12_asks_93 : decode cX12_asks 93 = .ok (.dup, 1) := dk_89 (by decide +kernel)
theorem dX12_asks_94 : decode cX12_asks 94 = .ok (.getfield 230, 3) := dk_180 0 230 (by decide +kernel)
theorem dX12_asks_97 : decode cX12_asks 97 = .ok (.iload_n 1, 1) := dk_27 (by decide +kernel)
theorem dX12_asks_98 : decode cX12_asks 98 = .ok (.isub, 1) := dk_100 (by decide +kernel)
theorem dX12_asks_99 : decode cX12_asks 99 = .ok (.putfield 230, 3) := dk_181 0 230 (by decide +kernel)
theorem dX12_asks_102 : decode cX12_asks 102 = .ok (.iconst 0, 1) := dk_3 (by decide +kernel)
theorem dX12_asks_103 : decode cX12_asks 103 = .ok (.istore 4, 2) := dk_54 (by decide +kernel)
theorem dX12_asks_105 : decode cX12_asks 105 = .ok (.iload 4, 2) := dk_21 (by decide +kernel)
theorem dX12_asks_107 : decode cX12_asks 107 = .ok (.iload_n 1, 1) := dk_27 (by decide +kernel)
theorem dX12_asks_108 : decode cX12_asks 108 = .ok (.if_icmp .ge 16, 3) := dk_162 0 16 (by decide +kernel)
theorem dX12_asks_111 : decode cX12_asks 111 = .ok (.aload_n 0, 1) := dk_42 (by decide +kernel)
theorem dX12_asks_112 : decode cX12_asks 112 = .ok (.bipush 20, 2) := dk_16 20 (by decide +kernel)
theorem dX12_asks_114 : decode cX12_asks 114 = .ok (.iconst 0, 1) := dk_3 (by decide +kernel)
theorem dX12_asks_115 : decode cX12_asks 115 = .ok (.invokevirtual 233, 3) := dk_182 0 233 (by decide +kernel)
theorem dX12_asks_118 : decode cX12_asks 118 = .ok (.iinc 4 1, 3) := dk_132 1 (by decide +kernel)
theorem dX12_asks_121 : decode cX12_asks 121 = .ok (.goto (-16), 3) := dk_167 255 240 (by decide +kernel)
theorem dX12_asks_124 : decode cX12_asks 124 = .ok (.iconst 0, 1) := dk_3 (by decide +kernel)
theorem dX12_asks_125 : decode cX12_asks 125 = .ok (.ireturn, 1) := dk_172 (by decide +kernel)
set_option maxRecDepth 8000 in
theorem e_X12_asks {g : ch_G} {A R : Nat} (hC : ck_Cx g A R) {d : Nat} {K : Option ck_V → ck_W → Prop} {w : ck_W} (h : ck_At (ch_C g A R) (d + 1) mX12_asks K 2 [some (.inr (.inr 76)), some (.inl 0), none, none, none] [] w) : ck_Ex (ch_C g A R) (d + 1) mX12_asks [.inr (.inr 76)] w K :=
  ck_entry hC.1 [some (.inr (.inr 76)), none, none, none, none] (by decide) (Nat.le_of_ble_eq_true rfl) rfl (fun q => q) (ck_in (fun hl => (ck_iconst 1 rfl dX12_asks_0 rfl (ck_istore_n 2 rfl 1 [some (.inr (.inr 76)), some (.inl 0), none, none, none] dX12_asks_1 rfl (Nat.le_of_ble_eq_true rfl) rfl rfl (show ck_i 0 by decide) h))))
set_option maxRecDepth 8000 in
theorem r_X12_asks_2 {g : ch_G} {A R : Nat} (hC : ck_Cx g A R) {d : Nat} {K : Option ck_V → ck_W → Prop} {w : ck_W} {a1 : Int} (h : ((w 76 21) = 2 ∧ (w 76 23) = (ck_Lor (ck_Lshl (ck_Lor (ck_Lshl 110 8) 111) 8) 116) → (¬ (w 76 30) = 8 → ck_i ((w 76 30) + 1) ∧ (ck_i (a1 + 1) ∧ (ck_CN (ch_C g A R) d mX12_nextToken [.inr (.inr 76)] (ck_up w 76 30 ((w 76 30) + 1)) (fun w6 => ck_At (ch_C g A R) (d + 1) mX12_asks K 2 [some (.inr (.inr 76)), some (.inl (a1 + 1)), none, none, none] [] w6)))) ∧ ((w 76 30) = 8 → K (some (.inl 3)) w)) ∧ (¬ ((w 76 21) = 2 ∧ (w 76 23) = (ck_Lor (ck_Lshl (ck_Lor (ck_Lshl 110 8) 111) 8) 116)) → ck_CI (ch_C g A R) d mX12_summed [.inr (.inr 76)] w (fun v11 w10 => (v11 = 0 → ck_CI (ch_C g A R) d mX12_compareOf [.inr (.inr 76)] w10 (fun v15 w14 => (0 ≤ v15 → ck_CN (ch_C g A R) d mX12_nextToken [.inr (.inr 76)] w14 (fun w18 => ck_CI (ch_C g A R) d mX12_summed [.inr (.inr 76)] w18 (fun v20 w19 => (v20 = 0 → ck_CN (ch_C g A R) d mX12_emit [.inr (.inr 76), .inl v15, .inl 0] w19 (fun w23 => ck_i ((w23 76 30) - a1) ∧ (ck_At (ch_C g A R) (d + 1) mX12_asks K 105 [some (.inr (.inr 76)), some (.inl a1), none, none, some (.inl 0)] [] (ck_up w23 76 30 ((w23 76 30) - a1))))) ∧ (¬ v20 = 0 → K (some (.inl v20)) w19)))) ∧ (¬ 0 ≤ v15 → K (some (.inl 1)) w14))) ∧ (¬ v11 = 0 → K (some (.inl v11)) w10)))) : ck_At (ch_C g A R) (d + 1) mX12_asks K 2 [some (.inr (.inr 76)), some (.inl a1), none, none, none] [] w :=
  ck_in (fun hl => (ck_aload_n 3 rfl 0 dX12_asks_2 rfl rfl (ck_bipush 5 rfl dX12_asks_3 rfl (ck_bipush 7 rfl dX12_asks_5 rfl (ck_bipush 9 rfl dX12_asks_7 rfl (ck_callS 12 rfl [.inl 110, .inl 111, .inl 116] [.inr (.inr 76)] dX12_asks_9 cs_X12_209 rfl rfl (Nat.le_of_ble_eq_true rfl) (And.intro (show ck_i 110 by decide) (And.intro (show ck_i 111 by decide) (And.intro (show ck_i 116 by decide) True.intro))) (p_X12_w3 hC (fun q1 => (have h36 := h; ck_callV 15 rfl [.inr (.inl (ck_Lor (ck_Lshl (ck_Lor (ck_Lshl 110 8) 111) 8) 116))] [] dX12_asks_12 cv_X12_274 sh_76 rfl rfl (Nat.le_of_ble_eq_true rfl) (And.intro q1.1 True.intro) (p_X12_isWord hC (fun c34 _ => (ck_if_eq 18 rfl 49 dX12_asks_15 rfl (by decide) (fun q => absurd q (by decide)) (fun _ => (ck_aload_n 19 rfl 0 dX12_asks_18 rfl rfl (ck_geti 22 rfl 30 dX12_asks_19 fl_X12_230 sh_76 rfl rfl _ rfl (fun (q2 : ck_i (w 76 30)) => (ck_bipush 24 rfl dX12_asks_22 rfl (have h37 := (h36.1 c34); (ck_icmp_ne 27 rfl 29 dX12_asks_24 rfl q2 (show ck_i 8 by decide) (fun c8 => (ck_aload_n 30 rfl 0 dX12_asks_29 rfl rfl (ck_dup 31 rfl dX12_asks_30 rfl (ck_geti 34 rfl 30 dX12_asks_31 fl_X12_230 sh_76 rfl rfl _ rfl (fun (q3 : ck_i (w 76 30)) => (ck_iconst 35 rfl dX12_asks_34 rfl (ck_iadd 36 rfl dX12_asks_35 (have h39 := (h37.1 c8); have o4 := h39.1; have h38 := h39.2; (ck_puti 39 rfl 30 dX12_asks_36 fp_X12_230 sh_76 rfl rfl o4 (have h41 := h38; have o5 := h41.1; have h40 := h41.2; (ck_iinc 42 rfl [some (.inr (.inr 76)), some (.inl (a1 + 1)), none, none, none] dX12_asks_39 rfl (Nat.le_of_ble_eq_true rfl) rfl rfl o5 (ck_aload_n 43 rfl 0 dX12_asks_42 rfl rfl (ck_callV 46 rfl [] [] dX12_asks_43 cv_X12_246 sh_76 rfl rfl (Nat.le_of_ble_eq_true rfl) True.intro (ck_mN h40 (fun w6 h7 => (ck_goto 2 dX12_asks_46 rfl h7)))))))))))))))) (fun c9 => (ck_iconst 28 rfl dX12_asks_27 rfl (ck_iret dX12_asks_28 rfl (show ck_i 3 by decide) (h37.2 c9))))))))))))) (fun c35 _ => (ck_if_eq 18 rfl 49 dX12_asks_15 rfl (by decide) (fun _ => (ck_aload_n 50 rfl 0 dX12_asks_49 rfl rfl (ck_callV 53 rfl [] [] dX12_asks_50 cv_X12_278 sh_76 rfl rfl (Nat.le_of_ble_eq_true rfl) True.intro (ck_mI (h36.2 c35) (fun v11 w10 q12 h13 => (ck_istore_n 54 rfl 2 [some (.inr (.inr 76)), some (.inl a1), some (.inl v11), none, none] dX12_asks_53 rfl (Nat.le_of_ble_eq_true rfl) rfl rfl q12 (ck_iload_n 55 rfl 2 dX12_asks_54 rfl rfl (ck_if_eq 58 rfl 60 dX12_asks_55 rfl q12 (fun c32 => (ck_aload_n 61 rfl 0 dX12_asks_60 rfl rfl (ck_callV 64 rfl [] [] dX12_asks_61 cv_X12_281 sh_76 rfl rfl (Nat.le_of_ble_eq_true rfl) True.intro (ck_mI (h13.1 c32) (fun v15 w14 q16 h17 => (ck_istore_n 65 rfl 3 [some (.inr (.inr 76)), some (.inl a1), some (.inl v11), some (.inl v15), none] dX12_asks_64 rfl (Nat.le_of_ble_eq_true rfl) rfl rfl q16 (ck_iload_n 66 rfl 3 dX12_asks_65 rfl rfl (ck_if_ge 69 rfl 71 dX12_asks_66 rfl q16 (fun c30 => (ck_aload_n 72 rfl 0 dX12_asks_71 rfl rfl (ck_callV 75 rfl [] [] dX12_asks_72 cv_X12_246 sh_76 rfl rfl (Nat.le_of_ble_eq_true rfl) True.intro (ck_mN (h17.1 c30) (fun w18 h29 => (ck_aload_n 76 rfl 0 dX12_asks_75 rfl rfl (ck_callV 79 rfl [] [] dX12_asks_76 cv_X12_278 sh_76 rfl rfl (Nat.le_of_ble_eq_true rfl) True.intro (ck_mI h29 (fun v20 w19 q21 h22 => (ck_istore_n 80 rfl 2 [some (.inr (.inr 76)), some (.inl a1), some (.inl v20), some (.inl v15), none] dX12_asks_79 rfl (Nat.le_of_ble_eq_true rfl) rfl rfl q21 (ck_iload_n 81 rfl 2 dX12_asks_80 rfl rfl (ck_if_eq 84 rfl 86 dX12_asks_81 rfl q21 (fun c27 => (ck_aload_n 87 rfl 0 dX12_asks_86 rfl rfl (ck_iload_n 88 rfl 3 dX12_asks_87 rfl rfl (ck_iconst 89 rfl dX12_asks_88 rfl (ck_callV 92 rfl [.inl v15, .inl 0] [] dX12_asks_89 cv_X12_233 sh_76 rfl rfl (Nat.le_of_ble_eq_true rfl) (And.intro q16 (And.intro (show ck_i 0 by decide) True.intro)) (ck_mN (h22.1 c27) (fun w23 h26 => (ck_aload_n 93 rfl 0 dX12_asks_92 rfl rfl (ck_dup 94 rfl dX12_asks_93 rfl (ck_geti 97 rfl 30 dX12_asks_94 fl_X12_230 sh_76 rfl rfl _ rfl (fun (q24 : ck_i (w23 76 30)) => (ck_iload_n 98 rfl 1 dX12_asks_97 rfl rfl (ck_isub 99 rfl dX12_asks_98 (have h43 := h26; have o25 := h43.1; have h42 := h43.2; (ck_puti 102 rfl 30 dX12_asks_99 fp_X12_230 sh_76 rfl rfl o25 (ck_iconst 103 rfl dX12_asks_102 rfl (ck_istore 105 rfl [some (.inr (.inr 76)), some (.inl a1), some (.inl v20), some (.inl v15), some (.inl 0)] dX12_asks_103 (Nat.le_of_ble_eq_true rfl) rfl rfl (show ck_i 0 by decide) (ck_drop [some (.inr (.inr 76)), some (.inl a1), none, none, some (.inl 0)] (And.intro rfl (And.intro rfl (And.intro rfl True.intro))) h42)))))))))))))))))) (fun c28 => (ck_iload_n 85 rfl 2 dX12_asks_84 rfl rfl (ck_iret dX12_asks_85 rfl q21 (h22.2 c28)))))))))))))))) (fun c31 => (ck_iconst 70 rfl dX12_asks_69 rfl (ck_iret dX12_asks_70 rfl (show ck_i 1 by decide) (h17.2 c31)))))))))))) (fun c33 => (ck_iload_n 59 rfl 2 dX12_asks_58 rfl rfl (ck_iret dX12_asks_59 rfl q12 (h13.2 c33)))))))))))) (fun q => absurd q (by decide))))))))))))))
set_option maxRecDepth 8000 in
theorem r_X12_asks_105 {g : ch_G} {A R : Nat} (hC : ck_Cx g A R) {d : Nat} {K : Option ck_V → ck_W → Prop} {w : ck_W} {a1 a4 : Int} (h : (a1 ≤ a4 → K (some (.inl 0)) w) ∧ (¬ a1 ≤ a4 → ck_CN (ch_C g A R) d mX12_emit [.inr (.inr 76), .inl 20, .inl 0] w (fun w1 => ck_i (a4 + 1) ∧ (ck_At (ch_C g A R) (d + 1) mX12_asks K 105 [some (.inr (.inr 76)), some (.inl a1), none, none, some (.inl (a4 + 1))] [] w1)))) : ck_At (ch_C g A R) (d + 1) mX12_asks K 105 [some (.inr (.inr 76)), some (.inl a1), none, none, some (.inl a4)] [] w :=
  ck_in (fun hl => (ck_iload 107 rfl dX12_asks_105 rfl (ck_iload_n 108 rfl 1 dX12_asks_107 rfl rfl (ck_icmp_ge 111 rfl 124 dX12_asks_108 rfl hl.2.2.1 hl.2.1 (fun c4 => (ck_iconst 125 rfl dX12_asks_124 rfl (ck_iret dX12_asks_125 rfl (show ck_i 0 by decide) (h.1 c4)))) (fun c5 => (ck_aload_n 112 rfl 0 dX12_asks_111 rfl rfl (ck_bipush 114 rfl dX12_asks_112 rfl (ck_iconst 115 rfl dX12_asks_114 rfl (ck_callV 118 rfl [.inl 20, .inl 0] [] dX12_asks_115 cv_X12_233 sh_76 rfl rfl (Nat.le_of_ble_eq_true rfl) (And.intro (show ck_i 20 by decide) (And.intro (show ck_i 0 by decide) True.intro)) (ck_mN (h.2 c5) (fun w1 h3 => (have h7 := h3; have o2 := h7.1; have h6 := h7.2; (ck_iinc 121 rfl [some (.inr (.inr 76)), some (.inl a1), none, none, some (.inl (a4 + 1))] dX12_asks_118 rfl (Nat.le_of_ble_eq_true rfl) rfl rfl o2 (ck_goto 105 dX12_asks_121 rfl h6))))))))))))))
theorem py_N {T X s E N N' n m : Int} {u : ck_W} (h : py T X s E N n m u) (hN : N' ≤ u 76 30) : py T X s E N' n m u := ⟨h.1, h.2.1, h.2.2.1, h.2.2.2.1, h.2.2.2.2.1, h.2.2.2.2.2.1, ⟨hN, h.2.2.2.2.2.2.1.2⟩, h.2.2.2.2.2.2.2⟩
theorem py_30 {T X s E N N' n m v : Int} {u : ck_W} (h : py T X s E N n m u) (hv : N' ≤ v ∧ v ≤ 8) : py T X s E N' n m (ck_up u 76 30 v) := by
  obtain ⟨h1, h2, h3, h4, h5, h7, h9, h11⟩ := h
  refine ⟨?_, ?_, ?_, ?_, ?_, ?_, by rw [ck_up_eq]; exact hv, ?_⟩
  · rw [ck_up_nj (by decide), ck_up_nj (by decide)]; exact h1
  · rw [ck_up_nj (by decide), ck_up_nj (by decide), ck_up_nj (by decide)]; exact h2
  · rw [ck_up_nj (by decide)]; exact h3
  · rw [ck_up_nj (by decide), ck_up_nj (by decide)]; exact h4
  · rw [ck_up_nj (by decide)]; exact h5
  · rw [ck_up_nj (by decide), ck_up_nj (by decide)]; exact h7
  · rw [ck_up_nj (by decide), ck_up_ne (by decide)]; exact h11
theorem S_X12_asks {g : ch_G} {A R : Nat} (hC : ck_Cx g A R) {d : Nat} {K : Option ck_V → ck_W → Prop} {w : ck_W} {T X s E m : Int} (hT : 0 ≤ T ∧ T ≤ 300) (hX : 0 ≤ X ∧ X ≤ 2400) (hE : 0 ≤ E) (hm : 0 ≤ m) (hy : py T X s E 0 0 m w)
    (h : ∀ v w', pr w w' → (v = 0 → py T X s E 0 0 (m + 1) w' ∧ w 76 20 < w' 76 20) → K (some (.inl v)) w') : ck_Ex (ch_C g A R) (d + 6) mX12_asks [.inr (.inr 76)] w K := by
  have l2 : ∀ (q : Nat) (a1 a4 : Int) (u : ck_W), a1 - a4 = q → 0 ≤ a4 → (0 ≤ a1 ∧ a1 ≤ 300) → pr w u → w 76 20 < u 76 20 → py T X s (E + (a1 - a4)) 0 0 (m + 1) u → ck_At (ch_C g A R) (d + 6) mX12_asks K 105 [some (.inr (.inr 76)), some (.inl a1), none, none, some (.inl a4)] [] u := by
    intro q
    induction q with
    | zero =>
      intro a1 a4 u q1 q2 q3 q4 q5 q6
      exact r_X12_asks_105 hC ⟨fun _ => h 0 u q4 (fun _ => ⟨by rw [show E + (a1 - a4) = E by omega] at q6; exact q6, q5⟩), fun z => absurd (by omega) z⟩
    | succ q ih =>
      intro a1 a4 u q1 q2 q3 q4 q5 q6
      refine r_X12_asks_105 hC ⟨fun z => absurd z (by omega), fun _ => S_emity hC hT hX (by omega) q6 (n' := 0) (m' := m + 1) ?_ (fun w' c1 c2 c3 => ⟨rfl, by constructor <;> omega, ih a1 (a4 + 1) w' (by omega) (by omega) q3 (pr_tr q4 c1) (by rw [c2 20 (by decide)]; exact q5) (by rw [show E + (a1 - a4) - 1 = E + (a1 - (a4 + 1)) by omega] at c3; exact c3)⟩)⟩
      unfold tx_eff
      rw [if_neg (by decide), if_neg (by decide), if_neg (by decide), if_neg (by decide), if_neg (by decide), if_pos rfl, if_pos (by dsimp only; omega)]
  have l1 : ∀ (q : Nat) (a1 : Int) (u : ck_W), 301 - u 76 20 ≤ q → (0 ≤ a1 ∧ a1 ≤ 8) → pr w u → w 76 20 ≤ u 76 20 → py T X s (E + a1) a1 0 m u → ck_At (ch_C g A R) (d + 6) mX12_asks K 2 [some (.inr (.inr 76)), some (.inl a1), none, none, none] [] u := by
    intro q
    induction q with
    | zero => intro a1 u q1 q2 q3 q4 q5; have := q5.1; omega
    | succ q ih =>
      intro a1 u q1 q2 q3 q4 q5
      obtain ⟨h1, h2, h3, h4, h5, h7, h9, h11⟩ := id q5
      refine r_X12_asks_2 hC ⟨fun z => ⟨fun z2 => ⟨by constructor <;> omega, by constructor <;> omega, ?_⟩, fun _ => h 3 u q3 (fun e => absurd e (by decide))⟩, fun z => ?_⟩
      · refine S_nexty hC hT (py_30 (N' := a1 + 1) q5 (v := u 76 30 + 1) (by omega)) (by rw [ck_up_nj (by decide)]; omega) (fun w' c1 c2 c3 c4 c5 => ⟨rfl, ih (a1 + 1) w' ?_ ?_ (pr_tr (pr_tr q3 (pr_up (by omega) (by omega) (by omega))) c1) ?_ (by rw [show E + a1 + 1 = E + (a1 + 1) by omega] at c4; exact c4)⟩)
        · rw [ck_up_nj (by decide)] at c5; omega
        · have := c4.2.2.2.2.2.2.1; omega
        · rw [ck_up_nj (by decide)] at c5; omega
      · refine S_X12_summed hC hT hX (by omega) (by omega) (by omega) hm q5 (fun v w1 b1 b2 => ⟨_, rfl, fun _ => ⟨fun e => ?_, fun e => h v w1 (pr_tr q3 b1) (fun e' => absurd e' e)⟩⟩)
        obtain ⟨y1, y1b⟩ := b2 e
        have cmp : ∀ v, (10 ≤ v ∧ v ≤ 15) → ¬ w1 76 21 = 0 → ∃ v', some (.inl v : ck_V) = some (.inl v') ∧ (ck_i v' → (0 ≤ v' → ck_CN (ch_C g A R) (d + 5) mX12_nextToken [.inr (.inr 76)] w1 (fun w18 => ck_CI (ch_C g A R) (d + 5) mX12_summed [.inr (.inr 76)] w18 (fun v20 w19 => (v20 = 0 → ck_CN (ch_C g A R) (d + 5) mX12_emit [.inr (.inr 76), .inl v', .inl 0] w19 (fun w23 => ck_i ((w23 76 30) - a1) ∧ (ck_At (ch_C g A R) (d + 6) mX12_asks K 105 [some (.inr (.inr 76)), some (.inl a1), none, none, some (.inl 0)] [] (ck_up w23 76 30 ((w23 76 30) - a1))))) ∧ (¬ v20 = 0 → K (some (.inl v20)) w19)))) ∧ (¬ 0 ≤ v' → K (some (.inl 1)) w1)) := by
          intro v vb tk
          refine ⟨v, rfl, fun _ => ⟨fun _ => ?_, fun x => absurd (by omega) x⟩⟩
          refine S_nexty hC hT y1 tk (fun w2 c1 c2 c3 c4 c5 => ⟨rfl, ?_⟩)
          refine S_X12_summed hC hT hX (by omega) (by omega) (by omega) hm c4 (fun v2 w3 d1 d2 => ⟨_, rfl, fun _ => ⟨fun e2 => ?_, fun e2 => h v2 w3 (pr_tr (pr_tr (pr_tr q3 b1) c1) d1) (fun e' => absurd e' e2)⟩⟩)
          obtain ⟨y3, y3b⟩ := d2 e2
          refine S_emity hC hT hX (by omega) y3 (n' := 0) (m' := m + 1) ?_ (fun w4 f1 f2 f3 => ⟨rfl, ?_, ?_⟩)
          · unfold tx_eff
            rw [if_neg (by omega), if_neg (by omega), if_neg (by omega), if_neg (by omega), if_pos vb, if_pos (by dsimp only; omega)]
            dsimp only
            rw [show (0 : Int) + 1 + 1 - 2 = 0 by omega]
          · have := f3.2.2.2.2.2.2.1; constructor <;> omega
          · have f9 := f3.2.2.2.2.2.2.1
            refine l2 a1.toNat a1 0 _ (by omega) (by omega) (by omega) (pr_tr (pr_tr (pr_tr (pr_tr (pr_tr q3 b1) c1) d1) f1) (pr_up (by omega) (by omega) (by omega))) ?_ (py_30 (N := a1) ?_ (by omega))
            · rw [ck_up_nj (by decide), f2 20 (by decide)]; omega
            · rw [show E + a1 + 1 - 1 = E + (a1 - 0) by omega] at f3; exact f3
        refine e_X12_compareOf hC ?_
        have no : ∃ v', some (.inl (-1) : ck_V) = some (.inl v') ∧ (ck_i v' → (0 ≤ v' → ck_CN (ch_C g A R) (d + 5) mX12_nextToken [.inr (.inr 76)] w1 (fun w18 => ck_CI (ch_C g A R) (d + 5) mX12_summed [.inr (.inr 76)] w18 (fun v20 w19 => (v20 = 0 → ck_CN (ch_C g A R) (d + 5) mX12_emit [.inr (.inr 76), .inl v', .inl 0] w19 (fun w23 => ck_i ((w23 76 30) - a1) ∧ (ck_At (ch_C g A R) (d + 6) mX12_asks K 105 [some (.inr (.inr 76)), some (.inl a1), none, none, some (.inl 0)] [] (ck_up w23 76 30 ((w23 76 30) - a1))))) ∧ (¬ v20 = 0 → K (some (.inl v20)) w19)))) ∧ (¬ 0 ≤ v' → K (some (.inl 1)) w1)) := ⟨-1, rfl, fun _ => ⟨fun x => absurd x (by decide), fun _ => h 1 w1 (pr_tr q3 b1) (fun e' => absurd e' (by decide))⟩⟩
        exact ⟨fun _ => ⟨fun _ => ⟨fun _ => ⟨fun _ => ⟨fun _ => ⟨fun _ => no, fun x => cmp 15 (by omega) (by omega)⟩, fun x => cmp 14 (by omega) (by omega)⟩, fun x => cmp 13 (by omega) (by omega)⟩, fun x => cmp 12 (by omega) (by omega)⟩, fun x => cmp 11 (by omega) (by omega)⟩, fun x => cmp 10 (by omega) (by omega)⟩
  exact e_X12_asks hC (l1 301 0 w (by have := hy.1; omega) (by omega) pr_rf (Int.le_refl _) (by rw [show E + 0 = E by omega]; exact hy))
