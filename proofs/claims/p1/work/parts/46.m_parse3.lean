/-! ===== the reference: sums, asks, clauses ===== -/
theorem pl_svo {p : Int → Int} {n : Nat} {a1 : Int} (h : pl_ok p n) (ht : (n : Int) ≤ 0 ∨ 40 ≤ p ((n : Int) - 1) ∨ p ((n : Int) - 1) < a1) : (a1 = 3 → pl_sv p n = 0) ∧ (a1 = 5 → pl_sv p n ≤ 1) := by
  cases n with
  | zero => exact ⟨fun _ => rfl, fun _ => by simp [pl_sv]⟩
  | succ n =>
    have e : ((n + 1 : Nat) : Int) - 1 = (n : Int) := by omega
    rw [e] at ht
    have ty := h.1 n (by omega)
    simp only [pl_sv]
    constructor
    · intro x; rw [if_pos (by omega)]
    · intro x
      split
      · omega
      · split <;> omega
theorem dX12_behindOne_0 : decode cX12_behindOne 0 = .ok (.aload_n 0, 1) := by decide +kernel
theorem dX12_behindOne_1 : decode cX12_behindOne 1 = .ok (.getfield 192, 3) := by decide +kernel
theorem dX12_behindOne_4 : decode cX12_behindOne 4 = .ok (.istore_n 1, 1) := by decide +kernel
theorem dX12_behindOne_5 : decode cX12_behindOne 5 = .ok (.iload_n 1, 1) := by decide +kernel
theorem dX12_behindOne_6 : decode cX12_behindOne 6 = .ok (.bipush 43, 2) := by decide +kernel
theorem dX12_behindOne_8 : decode cX12_behindOne 8 = .ok (.if_icmp .eq 9, 3) := by decide +kernel
theorem dX12_behindOne_11 : decode cX12_behindOne 11 = .ok (.iload_n 1, 1) := by decide +kernel
theorem dX12_behindOne_12 : decode cX12_behindOne 12 = .ok (.bipush 45, 2) := by decide +kernel
theorem dX12_behindOne_14 : decode cX12_behindOne 14 = .ok (.if_icmp .ne 31, 3) := by decide +kernel
theorem dX12_behindOne_17 : decode cX12_behindOne 17 = .ok (.aload_n 0, 1) := by decide +kernel
theorem dX12_behindOne_18 : decode cX12_behindOne 18 = .ok (.iconst 3, 1) := by decide +kernel
theorem dX12_behindOne_19 : decode cX12_behindOne 19 = .ok (.invokevirtual 262, 3) := by decide +kernel
theorem dX12_behindOne_22 : decode cX12_behindOne 22 = .ok (.aload_n 0, 1) := by decide +kernel
theorem dX12_behindOne_23 : decode cX12_behindOne 23 = .ok (.iload_n 1, 1) := by decide +kernel
theorem dX12_behindOne_24 : decode cX12_behindOne 24 = .ok (.bipush 43, 2) := by decide +kernel
theorem dX12_behindOne_26 : decode cX12_behindOne 26 = .ok (.if_icmp .ne 7, 3) := by decide +kernel
theorem dX12_behindOne_29 : decode cX12_behindOne 29 = .ok (.iconst 3, 1) := by decide +kernel
theorem dX12_behindOne_30 : decode cX12_behindOne 30 = .ok (.goto 4, 3) := by decide +kernel
theorem dX12_behindOne_33 : decode cX12_behindOne 33 = .ok (.iconst 4, 1) := by decide +kernel
theorem dX12_behindOne_34 : decode cX12_behindOne 34 = .ok (.invokevirtual 255, 3) := by decide +kernel
theorem dX12_behindOne_37 : decode cX12_behindOne 37 = .ok (.aload_n 0, 1) := by decide +kernel
theorem dX12_behindOne_38 : decode cX12_behindOne 38 = .ok (.iconst 0, 1) := by decide +kernel
theorem dX12_behindOne_39 : decode cX12_behindOne 39 = .ok (.putfield 226, 3) := by decide +kernel
theorem dX12_behindOne_42 : decode cX12_behindOne 42 = .ok (.goto 73, 3) := by decide +kernel
theorem dX12_behindOne_45 : decode cX12_behindOne 45 = .ok (.iload_n 1, 1) := by decide +kernel
theorem dX12_behindOne_46 : decode cX12_behindOne 46 = .ok (.bipush 42, 2) := by decide +kernel
theorem dX12_behindOne_48 : decode cX12_behindOne 48 = .ok (.if_icmp .eq 9, 3) := by decide +kernel
theorem dX12_behindOne_51 : decode cX12_behindOne 51 = .ok (.iload_n 1, 1) := by decide +kernel
theorem dX12_behindOne_52 : decode cX12_behindOne 52 = .ok (.bipush 47, 2) := by decide +kernel
theorem dX12_behindOne_54 : decode cX12_behindOne 54 = .ok (.if_icmp .ne 32, 3) := by decide +kernel
theorem dX12_behindOne_57 : decode cX12_behindOne 57 = .ok (.aload_n 0, 1) := by decide +kernel
theorem dX12_behindOne_58 : decode cX12_behindOne 58 = .ok (.iconst 5, 1) := by decide +kernel
theorem dX12_behindOne_59 : decode cX12_behindOne 59 = .ok (.invokevirtual 262, 3) := by decide +kernel
theorem dX12_behindOne_62 : decode cX12_behindOne 62 = .ok (.aload_n 0, 1) := by decide +kernel
theorem dX12_behindOne_63 : decode cX12_behindOne 63 = .ok (.iload_n 1, 1) := by decide +kernel
theorem dX12_behindOne_64 : decode cX12_behindOne 64 = .ok (.bipush 42, 2) := by decide +kernel
theorem dX12_behindOne_66 : decode cX12_behindOne 66 = .ok (.if_icmp .ne 7, 3) := by decide +kernel
theorem dX12_behindOne_69 : decode cX12_behindOne 69 = .ok (.iconst 5, 1) := by decide +kernel
theorem dX12_behindOne_70 : decode cX12_behindOne 70 = .ok (.goto 5, 3) := by decide +kernel
theorem dX12_behindOne_73 : decode cX12_behindOne 73 = .ok (.bipush 6, 2) := by decide +kernel
theorem dX12_behindOne_75 : decode cX12_behindOne 75 = .ok (.invokevirtual 255, 3) := by decide +kernel
theorem dX12_behindOne_78 : decode cX12_behindOne 78 = .ok (.aload_n 0, 1) := by decide +kernel
theorem dX12_behindOne_79 : decode cX12_behindOne 79 = .ok (.iconst 0, 1) := by decide +kernel
theorem dX12_behindOne_80 : decode cX12_behindOne 80 = .ok (.putfield 226, 3) := by decide +kernel
theorem dX12_behindOne_83 : decode cX12_behindOne 83 = .ok (.goto 32, 3) := by decide +kernel
theorem dX12_behindOne_86 : decode cX12_behindOne 86 = .ok (.aload_n 0, 1) := by decide +kernel
theorem dX12_behindOne_87 : decode cX12_behindOne 87 = .ok (.iconst 3, 1) := by decide +kernel
theorem dX12_behindOne_88 : decode cX12_behindOne 88 = .ok (.invokevirtual 262, 3) := by decide +kernel
theorem dX12_behindOne_91 : decode cX12_behindOne 91 = .ok (.aload_n 0, 1) := by decide +kernel
theorem dX12_behindOne_92 : decode cX12_behindOne 92 = .ok (.dup, 1) := by decide +kernel
theorem dX12_behindOne_93 : decode cX12_behindOne 93 = .ok (.getfield 223, 3) := by decide +kernel
theorem dX12_behindOne_96 : decode cX12_behindOne 96 = .ok (.iconst 1, 1) := by decide +kernel
theorem dX12_behindOne_97 : decode cX12_behindOne 97 = .ok (.isub, 1) := by decide +kernel
theorem dX12_behindOne_98 : decode cX12_behindOne 98 = .ok (.putfield 223, 3) := by decide +kernel
theorem dX12_behindOne_101 : decode cX12_behindOne 101 = .ok (.aload_n 0, 1) := by decide +kernel
theorem dX12_behindOne_102 : decode cX12_behindOne 102 = .ok (.dup, 1) := by decide +kernel
theorem dX12_behindOne_103 : decode cX12_behindOne 103 = .ok (.getfield 230, 3) := by decide +kernel
theorem dX12_behindOne_106 : decode cX12_behindOne 106 = .ok (.iconst 1, 1) := by decide +kernel
theorem dX12_behindOne_107 : decode cX12_behindOne 107 = .ok (.isub, 1) := by decide +kernel
theorem dX12_behindOne_108 : decode cX12_behindOne 108 = .ok (.putfield 230, 3) := by decide +kernel
theorem dX12_behindOne_111 : decode cX12_behindOne 111 = .ok (.aload_n 0, 1) := by decide +kernel
theorem dX12_behindOne_112 : decode cX12_behindOne 112 = .ok (.invokevirtual 249, 3) := by decide +kernel
theorem dX12_behindOne_115 : decode cX12_behindOne 115 = .ok (.aload_n 0, 1) := by decide +kernel
theorem dX12_behindOne_116 : decode cX12_behindOne 116 = .ok (.invokevirtual 246, 3) := by decide +kernel
theorem dX12_behindOne_119 : decode cX12_behindOne 119 = .ok (.iconst 0, 1) := by decide +kernel
theorem dX12_behindOne_120 : decode cX12_behindOne 120 = .ok (.ireturn, 1) := by decide +kernel
set_option maxRecDepth 8000 in
theorem e_X12_behindOne {g : ch_G} {A R : Nat} (hC : ck_Cx g A R) {d : Nat} {K : Option ck_V → ck_W → Prop} {w : ck_W} (h : ((w 76 21) = 43 → ck_CN (ch_C g A R) d mX12_settle [.inr (.inr 76), .inl 3] w (fun w2 => (¬ (w 76 21) = 43 → ck_CN (ch_C g A R) d mX12_push [.inr (.inr 76), .inl 4] w2 (fun w3 => ck_CN (ch_C g A R) d mX12_nextToken [.inr (.inr 76)] (ck_up w3 76 31 0) (fun w4 => K (some (.inl 0)) w4))) ∧ ((w 76 21) = 43 → ck_CN (ch_C g A R) d mX12_push [.inr (.inr 76), .inl 3] w2 (fun w7 => ck_CN (ch_C g A R) d mX12_nextToken [.inr (.inr 76)] (ck_up w7 76 31 0) (fun w8 => K (some (.inl 0)) w8))))) ∧ (¬ (w 76 21) = 43 → (¬ (w 76 21) = 45 → ((w 76 21) = 42 → ck_CN (ch_C g A R) d mX12_settle [.inr (.inr 76), .inl 5] w (fun w14 => (¬ (w 76 21) = 42 → ck_CN (ch_C g A R) d mX12_push [.inr (.inr 76), .inl 6] w14 (fun w15 => ck_CN (ch_C g A R) d mX12_nextToken [.inr (.inr 76)] (ck_up w15 76 31 0) (fun w16 => K (some (.inl 0)) w16))) ∧ ((w 76 21) = 42 → ck_CN (ch_C g A R) d mX12_push [.inr (.inr 76), .inl 5] w14 (fun w19 => ck_CN (ch_C g A R) d mX12_nextToken [.inr (.inr 76)] (ck_up w19 76 31 0) (fun w20 => K (some (.inl 0)) w20))))) ∧ (¬ (w 76 21) = 42 → (¬ (w 76 21) = 47 → ck_CN (ch_C g A R) d mX12_settle [.inr (.inr 76), .inl 3] w (fun w26 => ck_i ((w26 76 29) - 1) ∧ (ck_i ((w26 76 30) - 1) ∧ (ck_CN (ch_C g A R) d mX12_whole [.inr (.inr 76)] (ck_up (ck_up w26 76 29 ((w26 76 29) - 1)) 76 30 ((w26 76 30) - 1)) (fun w31 => ck_CN (ch_C g A R) d mX12_nextToken [.inr (.inr 76)] w31 (fun w32 => K (some (.inl 0)) w32)))))) ∧ ((w 76 21) = 47 → ck_CN (ch_C g A R) d mX12_settle [.inr (.inr 76), .inl 5] w (fun w36 => (¬ (w 76 21) = 42 → ck_CN (ch_C g A R) d mX12_push [.inr (.inr 76), .inl 6] w36 (fun w37 => ck_CN (ch_C g A R) d mX12_nextToken [.inr (.inr 76)] (ck_up w37 76 31 0) (fun w38 => K (some (.inl 0)) w38))) ∧ ((w 76 21) = 42 → ck_CN (ch_C g A R) d mX12_push [.inr (.inr 76), .inl 5] w36 (fun w41 => ck_CN (ch_C g A R) d mX12_nextToken [.inr (.inr 76)] (ck_up w41 76 31 0) (fun w42 => K (some (.inl 0)) w42))))))) ∧ ((w 76 21) = 45 → ck_CN (ch_C g A R) d mX12_settle [.inr (.inr 76), .inl 3] w (fun w52 => (¬ (w 76 21) = 43 → ck_CN (ch_C g A R) d mX12_push [.inr (.inr 76), .inl 4] w52 (fun w53 => ck_CN (ch_C g A R) d mX12_nextToken [.inr (.inr 76)] (ck_up w53 76 31 0) (fun w54 => K (some (.inl 0)) w54))) ∧ ((w 76 21) = 43 → ck_CN (ch_C g A R) d mX12_push [.inr (.inr 76), .inl 3] w52 (fun w57 => ck_CN (ch_C g A R) d mX12_nextToken [.inr (.inr 76)] (ck_up w57 76 31 0) (fun w58 => K (some (.inl 0)) w58))))))) : ck_Ex (ch_C g A R) (d + 1) mX12_behindOne [.inr (.inr 76)] w K :=
  ck_entry hC.1 [some (.inr (.inr 76)), none] (by decide) (Nat.le_of_ble_eq_true rfl) rfl (fun q => q) (ck_in (fun hl => (ck_aload_n 1 rfl 0 dX12_behindOne_0 rfl rfl (ck_geti 4 rfl 21 dX12_behindOne_1 fl_X12_192 sh_76 rfl rfl _ rfl (fun (q1 : ck_i (w 76 21)) => (ck_istore_n 5 rfl 1 [some (.inr (.inr 76)), some (.inl (w 76 21))] dX12_behindOne_4 rfl (Nat.le_of_ble_eq_true rfl) rfl rfl q1 (ck_iload_n 6 rfl 1 dX12_behindOne_5 rfl rfl (ck_bipush 8 rfl dX12_behindOne_6 rfl (ck_icmp_eq 11 rfl 17 dX12_behindOne_8 rfl q1 (show ck_i 43 by decide) (fun c66 => (ck_aload_n 18 rfl 0 dX12_behindOne_17 rfl rfl (ck_iconst 19 rfl dX12_behindOne_18 rfl (ck_callV 22 rfl [.inl 3] [] dX12_behindOne_19 cv_X12_262 sh_76 rfl rfl (Nat.le_of_ble_eq_true rfl) (And.intro (show ck_i 3 by decide) True.intro) (ck_mN (h.1 c66) (fun w2 h13 => (ck_aload_n 23 rfl 0 dX12_behindOne_22 rfl rfl (ck_iload_n 24 rfl 1 dX12_behindOne_23 rfl rfl (ck_bipush 26 rfl dX12_behindOne_24 rfl (ck_icmp_ne 29 rfl 33 dX12_behindOne_26 rfl q1 (show ck_i 43 by decide) (fun c11 => (ck_iconst 34 rfl dX12_behindOne_33 rfl (ck_callV 37 rfl [.inl 4] [] dX12_behindOne_34 cv_X12_255 sh_76 rfl rfl (Nat.le_of_ble_eq_true rfl) (And.intro (show ck_i 4 by decide) True.intro) (ck_mN (h13.1 c11) (fun w3 h6 => (ck_aload_n 38 rfl 0 dX12_behindOne_37 rfl rfl (ck_iconst 39 rfl dX12_behindOne_38 rfl (ck_putz 42 rfl 31 dX12_behindOne_39 fp_X12_226 sh_76 rfl rfl (by decide) (ck_goto 115 dX12_behindOne_42 rfl (ck_aload_n 116 rfl 0 dX12_behindOne_115 rfl rfl (ck_callV 119 rfl [] [] dX12_behindOne_116 cv_X12_246 sh_76 rfl rfl (Nat.le_of_ble_eq_true rfl) True.intro (ck_mN h6 (fun w4 h5 => (ck_iconst 120 rfl dX12_behindOne_119 rfl (ck_iret dX12_behindOne_120 rfl (show ck_i 0 by decide) h5))))))))))))))) (fun c12 => (ck_iconst 30 rfl dX12_behindOne_29 rfl (ck_goto 34 dX12_behindOne_30 rfl (ck_callV 37 rfl [.inl 3] [] dX12_behindOne_34 cv_X12_255 sh_76 rfl rfl (Nat.le_of_ble_eq_true rfl) (And.intro (show ck_i 3 by decide) True.intro) (ck_mN (h13.2 c12) (fun w7 h10 => (ck_aload_n 38 rfl 0 dX12_behindOne_37 rfl rfl (ck_iconst 39 rfl dX12_behindOne_38 rfl (ck_putz 42 rfl 31 dX12_behindOne_39 fp_X12_226 sh_76 rfl rfl (by decide) (ck_goto 115 dX12_behindOne_42 rfl (ck_aload_n 116 rfl 0 dX12_behindOne_115 rfl rfl (ck_callV 119 rfl [] [] dX12_behindOne_116 cv_X12_246 sh_76 rfl rfl (Nat.le_of_ble_eq_true rfl) True.intro (ck_mN h10 (fun w8 h9 => (ck_iconst 120 rfl dX12_behindOne_119 rfl (ck_iret dX12_behindOne_120 rfl (show ck_i 0 by decide) h9)))))))))))))))))))))))))) (fun c67 => (ck_iload_n 12 rfl 1 dX12_behindOne_11 rfl rfl (ck_bipush 14 rfl dX12_behindOne_12 rfl (have h68 := (h.2 c67); (ck_icmp_ne 17 rfl 45 dX12_behindOne_14 rfl q1 (show ck_i 45 by decide) (fun c64 => (ck_iload_n 46 rfl 1 dX12_behindOne_45 rfl rfl (ck_bipush 48 rfl dX12_behindOne_46 rfl (have h69 := (h68.1 c64); (ck_icmp_eq 51 rfl 57 dX12_behindOne_48 rfl q1 (show ck_i 42 by decide) (fun c50 => (ck_aload_n 58 rfl 0 dX12_behindOne_57 rfl rfl (ck_iconst 59 rfl dX12_behindOne_58 rfl (ck_callV 62 rfl [.inl 5] [] dX12_behindOne_59 cv_X12_262 sh_76 rfl rfl (Nat.le_of_ble_eq_true rfl) (And.intro (show ck_i 5 by decide) True.intro) (ck_mN (h69.1 c50) (fun w14 h25 => (ck_aload_n 63 rfl 0 dX12_behindOne_62 rfl rfl (ck_iload_n 64 rfl 1 dX12_behindOne_63 rfl rfl (ck_bipush 66 rfl dX12_behindOne_64 rfl (ck_icmp_ne 69 rfl 73 dX12_behindOne_66 rfl q1 (show ck_i 42 by decide) (fun c23 => (ck_bipush 75 rfl dX12_behindOne_73 rfl (ck_callV 78 rfl [.inl 6] [] dX12_behindOne_75 cv_X12_255 sh_76 rfl rfl (Nat.le_of_ble_eq_true rfl) (And.intro (show ck_i 6 by decide) True.intro) (ck_mN (h25.1 c23) (fun w15 h18 => (ck_aload_n 79 rfl 0 dX12_behindOne_78 rfl rfl (ck_iconst 80 rfl dX12_behindOne_79 rfl (ck_putz 83 rfl 31 dX12_behindOne_80 fp_X12_226 sh_76 rfl rfl (by decide) (ck_goto 115 dX12_behindOne_83 rfl (ck_aload_n 116 rfl 0 dX12_behindOne_115 rfl rfl (ck_callV 119 rfl [] [] dX12_behindOne_116 cv_X12_246 sh_76 rfl rfl (Nat.le_of_ble_eq_true rfl) True.intro (ck_mN h18 (fun w16 h17 => (ck_iconst 120 rfl dX12_behindOne_119 rfl (ck_iret dX12_behindOne_120 rfl (show ck_i 0 by decide) h17))))))))))))))) (fun c24 => (ck_iconst 70 rfl dX12_behindOne_69 rfl (ck_goto 75 dX12_behindOne_70 rfl (ck_callV 78 rfl [.inl 5] [] dX12_behindOne_75 cv_X12_255 sh_76 rfl rfl (Nat.le_of_ble_eq_true rfl) (And.intro (show ck_i 5 by decide) True.intro) (ck_mN (h25.2 c24) (fun w19 h22 => (ck_aload_n 79 rfl 0 dX12_behindOne_78 rfl rfl (ck_iconst 80 rfl dX12_behindOne_79 rfl (ck_putz 83 rfl 31 dX12_behindOne_80 fp_X12_226 sh_76 rfl rfl (by decide) (ck_goto 115 dX12_behindOne_83 rfl (ck_aload_n 116 rfl 0 dX12_behindOne_115 rfl rfl (ck_callV 119 rfl [] [] dX12_behindOne_116 cv_X12_246 sh_76 rfl rfl (Nat.le_of_ble_eq_true rfl) True.intro (ck_mN h22 (fun w20 h21 => (ck_iconst 120 rfl dX12_behindOne_119 rfl (ck_iret dX12_behindOne_120 rfl (show ck_i 0 by decide) h21)))))))))))))))))))))))))) (fun c51 => (ck_iload_n 52 rfl 1 dX12_behindOne_51 rfl rfl (ck_bipush 54 rfl dX12_behindOne_52 rfl (have h70 := (h69.2 c51); (ck_icmp_ne 57 rfl 86 dX12_behindOne_54 rfl q1 (show ck_i 47 by decide) (fun c48 => (ck_aload_n 87 rfl 0 dX12_behindOne_86 rfl rfl (ck_iconst 88 rfl dX12_behindOne_87 rfl (ck_callV 91 rfl [.inl 3] [] dX12_behindOne_88 cv_X12_262 sh_76 rfl rfl (Nat.le_of_ble_eq_true rfl) (And.intro (show ck_i 3 by decide) True.intro) (ck_mN (h70.1 c48) (fun w26 h35 => (ck_aload_n 92 rfl 0 dX12_behindOne_91 rfl rfl (ck_dup 93 rfl dX12_behindOne_92 rfl (ck_geti 96 rfl 29 dX12_behindOne_93 fl_X12_223 sh_76 rfl rfl _ rfl (fun (q27 : ck_i (w26 76 29)) => (ck_iconst 97 rfl dX12_behindOne_96 rfl (ck_isub 98 rfl dX12_behindOne_97 (have h72 := h35; have o28 := h72.1; have h71 := h72.2; (ck_puti 101 rfl 29 dX12_behindOne_98 fp_X12_223 sh_76 rfl rfl o28 (ck_aload_n 102 rfl 0 dX12_behindOne_101 rfl rfl (ck_dup 103 rfl dX12_behindOne_102 rfl (ck_geti 106 rfl 30 dX12_behindOne_103 fl_X12_230 sh_76 rfl rfl _ rfl (fun (q29 : ck_i (w26 76 30)) => (ck_iconst 107 rfl dX12_behindOne_106 rfl (ck_isub 108 rfl dX12_behindOne_107 (have h74 := h71; have o30 := h74.1; have h73 := h74.2; (ck_puti 111 rfl 30 dX12_behindOne_108 fp_X12_230 sh_76 rfl rfl o30 (ck_aload_n 112 rfl 0 dX12_behindOne_111 rfl rfl (ck_callV 115 rfl [] [] dX12_behindOne_112 cv_X12_249 sh_76 rfl rfl (Nat.le_of_ble_eq_true rfl) True.intro (ck_mN h73 (fun w31 h34 => (ck_aload_n 116 rfl 0 dX12_behindOne_115 rfl rfl (ck_callV 119 rfl [] [] dX12_behindOne_116 cv_X12_246 sh_76 rfl rfl (Nat.le_of_ble_eq_true rfl) True.intro (ck_mN h34 (fun w32 h33 => (ck_iconst 120 rfl dX12_behindOne_119 rfl (ck_iret dX12_behindOne_120 rfl (show ck_i 0 by decide) h33)))))))))))))))))))))))))))))))) (fun c49 => (ck_aload_n 58 rfl 0 dX12_behindOne_57 rfl rfl (ck_iconst 59 rfl dX12_behindOne_58 rfl (ck_callV 62 rfl [.inl 5] [] dX12_behindOne_59 cv_X12_262 sh_76 rfl rfl (Nat.le_of_ble_eq_true rfl) (And.intro (show ck_i 5 by decide) True.intro) (ck_mN (h70.2 c49) (fun w36 h47 => (ck_aload_n 63 rfl 0 dX12_behindOne_62 rfl rfl (ck_iload_n 64 rfl 1 dX12_behindOne_63 rfl rfl (ck_bipush 66 rfl dX12_behindOne_64 rfl (ck_icmp_ne 69 rfl 73 dX12_behindOne_66 rfl q1 (show ck_i 42 by decide) (fun c45 => (ck_bipush 75 rfl dX12_behindOne_73 rfl (ck_callV 78 rfl [.inl 6] [] dX12_behindOne_75 cv_X12_255 sh_76 rfl rfl (Nat.le_of_ble_eq_true rfl) (And.intro (show ck_i 6 by decide) True.intro) (ck_mN (h47.1 c45) (fun w37 h40 => (ck_aload_n 79 rfl 0 dX12_behindOne_78 rfl rfl (ck_iconst 80 rfl dX12_behindOne_79 rfl (ck_putz 83 rfl 31 dX12_behindOne_80 fp_X12_226 sh_76 rfl rfl (by decide) (ck_goto 115 dX12_behindOne_83 rfl (ck_aload_n 116 rfl 0 dX12_behindOne_115 rfl rfl (ck_callV 119 rfl [] [] dX12_behindOne_116 cv_X12_246 sh_76 rfl rfl (Nat.le_of_ble_eq_true rfl) True.intro (ck_mN h40 (fun w38 h39 => (ck_iconst 120 rfl dX12_behindOne_119 rfl (ck_iret dX12_behindOne_120 rfl (show ck_i 0 by decide) h39))))))))))))))) (fun c46 => (ck_iconst 70 rfl dX12_behindOne_69 rfl (ck_goto 75 dX12_behindOne_70 rfl (ck_callV 78 rfl [.inl 5] [] dX12_behindOne_75 cv_X12_255 sh_76 rfl rfl (Nat.le_of_ble_eq_true rfl) (And.intro (show ck_i 5 by decide) True.intro) (ck_mN (h47.2 c46) (fun w41 h44 => (ck_aload_n 79 rfl 0 dX12_behindOne_78 rfl rfl (ck_iconst 80 rfl dX12_behindOne_79 rfl (ck_putz 83 rfl 31 dX12_behindOne_80 fp_X12_226 sh_76 rfl rfl (by decide) (ck_goto 115 dX12_behindOne_83 rfl (ck_aload_n 116 rfl 0 dX12_behindOne_115 rfl rfl (ck_callV 119 rfl [] [] dX12_behindOne_116 cv_X12_246 sh_76 rfl rfl (Nat.le_of_ble_eq_true rfl) True.intro (ck_mN h44 (fun w42 h43 => (ck_iconst 120 rfl dX12_behindOne_119 rfl (ck_iret dX12_behindOne_120 rfl (show ck_i 0 by decide) h43)))))))))))))))))))))))))))))))))))) (fun c65 => (ck_aload_n 18 rfl 0 dX12_behindOne_17 rfl rfl (ck_iconst 19 rfl dX12_behindOne_18 rfl (ck_callV 22 rfl [.inl 3] [] dX12_behindOne_19 cv_X12_262 sh_76 rfl rfl (Nat.le_of_ble_eq_true rfl) (And.intro (show ck_i 3 by decide) True.intro) (ck_mN (h68.2 c65) (fun w52 h63 => (ck_aload_n 23 rfl 0 dX12_behindOne_22 rfl rfl (ck_iload_n 24 rfl 1 dX12_behindOne_23 rfl rfl (ck_bipush 26 rfl dX12_behindOne_24 rfl (ck_icmp_ne 29 rfl 33 dX12_behindOne_26 rfl q1 (show ck_i 43 by decide) (fun c61 => (ck_iconst 34 rfl dX12_behindOne_33 rfl (ck_callV 37 rfl [.inl 4] [] dX12_behindOne_34 cv_X12_255 sh_76 rfl rfl (Nat.le_of_ble_eq_true rfl) (And.intro (show ck_i 4 by decide) True.intro) (ck_mN (h63.1 c61) (fun w53 h56 => (ck_aload_n 38 rfl 0 dX12_behindOne_37 rfl rfl (ck_iconst 39 rfl dX12_behindOne_38 rfl (ck_putz 42 rfl 31 dX12_behindOne_39 fp_X12_226 sh_76 rfl rfl (by decide) (ck_goto 115 dX12_behindOne_42 rfl (ck_aload_n 116 rfl 0 dX12_behindOne_115 rfl rfl (ck_callV 119 rfl [] [] dX12_behindOne_116 cv_X12_246 sh_76 rfl rfl (Nat.le_of_ble_eq_true rfl) True.intro (ck_mN h56 (fun w54 h55 => (ck_iconst 120 rfl dX12_behindOne_119 rfl (ck_iret dX12_behindOne_120 rfl (show ck_i 0 by decide) h55))))))))))))))) (fun c62 => (ck_iconst 30 rfl dX12_behindOne_29 rfl (ck_goto 34 dX12_behindOne_30 rfl (ck_callV 37 rfl [.inl 3] [] dX12_behindOne_34 cv_X12_255 sh_76 rfl rfl (Nat.le_of_ble_eq_true rfl) (And.intro (show ck_i 3 by decide) True.intro) (ck_mN (h63.2 c62) (fun w57 h60 => (ck_aload_n 38 rfl 0 dX12_behindOne_37 rfl rfl (ck_iconst 39 rfl dX12_behindOne_38 rfl (ck_putz 42 rfl 31 dX12_behindOne_39 fp_X12_226 sh_76 rfl rfl (by decide) (ck_goto 115 dX12_behindOne_42 rfl (ck_aload_n 116 rfl 0 dX12_behindOne_115 rfl rfl (ck_callV 119 rfl [] [] dX12_behindOne_116 cv_X12_246 sh_76 rfl rfl (Nat.le_of_ble_eq_true rfl) True.intro (ck_mN h60 (fun w58 h59 => (ck_iconst 120 rfl dX12_behindOne_119 rfl (ck_iret dX12_behindOne_120 rfl (show ck_i 0 by decide) h59))))))))))))))))))))))))))))))))))))))))
theorem S_X12_behindOne {g : ch_G} {A R : Nat} (hC : ck_Cx g A R) {d : Nat} {K : Option ck_V → ck_W → Prop} {w : ck_W} {T X s E N n m : Int} (hT : 0 ≤ T ∧ T ≤ 300) (hX : 0 ≤ X ∧ X ≤ 2400) (hE : 0 ≤ E) (hN : 0 ≤ N) (hn : 0 ≤ n) (hm : 0 ≤ m) (hz : pz T X s E N n m w) (h31 : w 76 31 = 1) (hg : pz_go w)
    (h : ∀ w', pr w w' → pz T X s E N n m w' → w 76 20 < w' 76 20 → K (some (.inl 0)) w') : ck_Ex (ch_C g A R) (d + 3) mX12_behindOne [.inr (.inr 76)] w K := by
  obtain ⟨h1, h2, h3, h4, h5, h6, h7, h8, h9, h10, h11⟩ := id hz
  have pb := pz_piled hz hN
  have tk : ¬ w 76 21 = 0 := by unfold pz_go at hg; omega
  -- an operator
  have bin : ∀ a1 o, (a1 = 3 ∧ (o = 3 ∨ o = 4)) ∨ (a1 = 5 ∧ (o = 5 ∨ o = 6)) → ∀ w2 : ck_W, pr w w2 → (∀ j, j ≠ 26 → j ≠ 29 → w2 76 j = w 76 j) → w2 90 = w 90 → (w2 76 29 ≤ 0 ∨ 40 ≤ w 90 (w2 76 29 - 1) ∨ w 90 (w2 76 29 - 1) < a1) → pz T X s E N n m w2 → ck_CN (ch_C g A R) (d + 2) mX12_push [.inr (.inr 76), .inl o] w2 (fun w3 => ck_CN (ch_C g A R) (d + 2) mX12_nextToken [.inr (.inr 76)] (ck_up w3 76 31 0) (fun w4 => K (some (.inl 0)) w4)) := by
    intro a1 o ho w2 c1 c2 c3 c6 c7
    obtain ⟨k1, k2, k3, k4, k5, k6, k7, k8, k9, k10, k11⟩ := id c7
    have pb2 := pz_piled c7 hN
    have e2 : w2 76 31 = 1 := by rw [c2 31 (by decide) (by decide)]; exact h31
    have op0 := pl_op0 (w2 90) (w2 76 29).toNat
    have sv := pl_svo (a1 := a1) k8 (by rw [show (((w2 76 29).toNat : Nat) : Int) = w2 76 29 by omega, c3]; exact c6)
    refine e_X12_push hC ⟨by omega, by constructor <;> omega, ⟨rfl, ?_⟩⟩
    have f : ∀ j, j ≠ 29 → j ≠ 31 → (ck_up (ck_up (ck_up w2 90 (w2 76 29) o) 76 29 (w2 76 29 + 1)) 76 31 0) 76 j = w2 76 j := fun j x y => by rw [ck_up_nj y, ck_up_nj x, ck_up_ne (by decide)]
    have f29 : (ck_up (ck_up (ck_up w2 90 (w2 76 29) o) 76 29 (w2 76 29 + 1)) 76 31 0) 76 29 = w2 76 29 + 1 := by rw [ck_up_nj (by decide), ck_up_eq]
    have f31 : (ck_up (ck_up (ck_up w2 90 (w2 76 29) o) 76 29 (w2 76 29 + 1)) 76 31 0) 76 31 = 0 := ck_up_eq
    have f90 : (ck_up (ck_up (ck_up w2 90 (w2 76 29) o) 76 29 (w2 76 29 + 1)) 76 31 0) 90 = rm_u (w2 90) (((w2 76 29).toNat : Nat) : Int) o := by rw [ck_up_ne (by decide), ck_up_ne (by decide), ck_up_row, show (((w2 76 29).toNat : Nat) : Int) = w2 76 29 by omega]
    have f79 : (ck_up (ck_up (ck_up w2 90 (w2 76 29) o) 76 29 (w2 76 29 + 1)) 76 31 0) 79 = w2 79 := rfl
    have p1 : pr w2 (ck_up (ck_up (ck_up w2 90 (w2 76 29) o) 76 29 (w2 76 29 + 1)) 76 31 0) := ⟨fun k x y z => by rw [ck_up_ne x, ck_up_ne x, ck_up_ne z], fun j hj => f j (by omega) (by omega), fun j _ => by rw [f79], by rw [f 26 (by decide) (by decide)]; omega⟩
    have e1 : (w2 76 29 + 1).toNat = (w2 76 29).toNat + 1 := by omega
    have cc := pl_c (p := w2 90) (p' := rm_u (w2 90) (((w2 76 29).toNat : Nat) : Int) o) (n := (w2 76 29).toNat) (fun k hk => rm_u_ne (by omega))
    have t20 := c2 20 (by decide) (by decide)
    have t21 := c2 21 (by decide) (by decide)
    refine S_next hC (T := T) (X := X) (s := s) (E := E) (N := N) (n := n) (m := m) hT ⟨?_, ?_, ?_, ?_, ?_, ?_, ?_, ?_, ?_, ?_⟩ (fun w' d1 d2 d3 d4 d5 => ⟨rfl, h w' (pr_tr (pr_tr c1 p1) d1) d4 (by rw [f 20 (by decide) (by decide), t20] at d5; exact d5)⟩)
    · rw [f 19 (by decide) (by decide), f 20 (by decide) (by decide)]; omega
    · rw [f 22 (by decide) (by decide)]; exact k3
    · rw [f 16 (by decide) (by decide), f 24 (by decide) (by decide)]; exact k4
    · rw [f 26 (by decide) (by decide)]; exact k5
    · rw [f29]; omega
    · rw [f29, f 26 (by decide) (by decide), f 20 (by decide) (by decide)]; omega
    · rw [f29, f90, e1]; exact pl_ok_push k8 (by omega) (fun x => sv.1 (by omega)) (fun x => sv.2 (by omega))
    · rw [f29, f 30 (by decide) (by decide), f90, e1, pl_op, rm_u_eq, cc.1, if_neg (by omega)]; omega
    · rw [f31]; exact Or.inl rfl
    · rw [f29, f79, f90, f 26 (by decide) (by decide), f31, e1, pl_b, rm_u_eq, cc.2.2, if_pos (by omega), k11, e2]
      rw [show n + (pl_b (w2 90) (w2 76 29).toNat + 1) + 0 = n + pl_b (w2 90) (w2 76 29).toNat + 1 by omega]
  have set : ∀ a1 (Q : ck_W → Prop), (a1 = 3 ∨ a1 = 5) → (∀ w2 : ck_W, pr w w2 → (∀ j, j ≠ 26 → j ≠ 29 → w2 76 j = w 76 j) → w2 90 = w 90 → (∀ k, 0 ≤ k → k < w 76 29 → w 90 k = 40 → k < w2 76 29) → (w2 76 29 ≤ 0 ∨ 40 ≤ w 90 (w2 76 29 - 1) ∨ w 90 (w2 76 29 - 1) < a1) → pz T X s E N n m w2 → Q w2) → ck_CN (ch_C g A R) (d + 2) mX12_settle [.inr (.inr 76), .inl a1] w Q := fun a1 Q ha k => e_X12_settle hC (L_X12_settle hC hT hX hE hN hn (by omega) 30 (by omega) hz h31 (fun w2 c1 c2 c3 c4 c5 c6 c7 => ⟨rfl, k w2 c1 c2 c3 c5 c6 c7⟩))
  refine e_X12_behindOne hC ?_
  have sum : ck_CN (ch_C g A R) (d + 2) mX12_settle [.inr (.inr 76), .inl 3] w (fun w2 => (¬ (w 76 21) = 43 → ck_CN (ch_C g A R) (d + 2) mX12_push [.inr (.inr 76), .inl 4] w2 (fun w3 => ck_CN (ch_C g A R) (d + 2) mX12_nextToken [.inr (.inr 76)] (ck_up w3 76 31 0) (fun w4 => K (some (.inl 0)) w4))) ∧ ((w 76 21) = 43 → ck_CN (ch_C g A R) (d + 2) mX12_push [.inr (.inr 76), .inl 3] w2 (fun w7 => ck_CN (ch_C g A R) (d + 2) mX12_nextToken [.inr (.inr 76)] (ck_up w7 76 31 0) (fun w8 => K (some (.inl 0)) w8)))) := set 3 _ (Or.inl rfl) (fun w2 c1 c2 c3 c5 c6 c7 => ⟨fun _ => bin 3 4 (by omega) w2 c1 c2 c3 c6 c7, fun _ => bin 3 3 (by omega) w2 c1 c2 c3 c6 c7⟩)
  have pro : ck_CN (ch_C g A R) (d + 2) mX12_settle [.inr (.inr 76), .inl 5] w (fun w14 => (¬ (w 76 21) = 42 → ck_CN (ch_C g A R) (d + 2) mX12_push [.inr (.inr 76), .inl 6] w14 (fun w15 => ck_CN (ch_C g A R) (d + 2) mX12_nextToken [.inr (.inr 76)] (ck_up w15 76 31 0) (fun w16 => K (some (.inl 0)) w16))) ∧ ((w 76 21) = 42 → ck_CN (ch_C g A R) (d + 2) mX12_push [.inr (.inr 76), .inl 5] w14 (fun w19 => ck_CN (ch_C g A R) (d + 2) mX12_nextToken [.inr (.inr 76)] (ck_up w19 76 31 0) (fun w20 => K (some (.inl 0)) w20)))) := set 5 _ (Or.inr rfl) (fun w2 c1 c2 c3 c5 c6 c7 => ⟨fun _ => bin 5 6 (by omega) w2 c1 c2 c3 c6 c7, fun _ => bin 5 5 (by omega) w2 c1 c2 c3 c6 c7⟩)
  refine ⟨fun _ => sum, fun z1 => ⟨fun z2 => ⟨fun _ => pro, fun z3 => ⟨fun z4 => ?_, fun _ => pro⟩⟩, fun _ => sum⟩⟩
  -- a bracket is closed
  refine set 3 _ (Or.inl rfl) (fun w2 c1 c2 c3 c5 c6 c7 => ?_)
  obtain ⟨k1, k2, k3, k4, k5, k6, k7, k8, k9, k10, k11⟩ := id c7
  have pb2 := pz_piled c7 hN
  have e2 : w2 76 31 = 1 := by rw [c2 31 (by decide) (by decide)]; exact h31
  obtain ⟨kk, q0, q1, q2⟩ : ∃ k, 0 ≤ k ∧ k < w 76 29 ∧ w 90 k = 40 := by
    rcases hg with x | x | x | x | x
    · exact absurd x z1
    · exact absurd x z2
    · exact absurd x z3
    · exact absurd x z4
    · exact x.2
  have q3 := c5 kk q0 q1 q2
  have ty := k8.1 (w2 76 29 - 1).toNat (by omega)
  have kn : (((w2 76 29 - 1).toNat : Nat) : Int) = w2 76 29 - 1 := by omega
  rw [kn, c3] at ty
  have top : w 90 (w2 76 29 - 1) = 2 ∨ w 90 (w2 76 29 - 1) = 40 := by omega
  have e1 : (w2 76 29).toNat = (w2 76 29 - 1).toNat + 1 := by omega
  have opn : pl_op (w2 90) (w2 76 29).toNat = pl_op (w2 90) (w2 76 29 - 1).toNat + 1 := by rw [e1, pl_op, kn, c3, if_pos top]
  have bn : pl_b (w2 90) (w2 76 29).toNat = pl_b (w2 90) (w2 76 29 - 1).toNat := by rw [e1, pl_b, kn, c3, if_neg (by omega)]; omega
  have op0 := pl_op0 (w2 90) (w2 76 29 - 1).toNat
  refine ⟨by constructor <;> omega, by constructor <;> omega, ?_⟩
  have f : ∀ j, j ≠ 29 → j ≠ 30 → j ≠ 31 → (ck_up (ck_up (ck_up w2 76 29 (w2 76 29 - 1)) 76 30 (w2 76 30 - 1)) 76 31 1) 76 j = w2 76 j := fun j x y z => by rw [ck_up_nj z, ck_up_nj y, ck_up_nj x]
  have f29 : (ck_up (ck_up (ck_up w2 76 29 (w2 76 29 - 1)) 76 30 (w2 76 30 - 1)) 76 31 1) 76 29 = w2 76 29 - 1 := by rw [ck_up_nj (by decide), ck_up_nj (by decide), ck_up_eq]
  have f30 : (ck_up (ck_up (ck_up w2 76 29 (w2 76 29 - 1)) 76 30 (w2 76 30 - 1)) 76 31 1) 76 30 = w2 76 30 - 1 := by rw [ck_up_nj (by decide), ck_up_eq]
  have f31 : (ck_up (ck_up (ck_up w2 76 29 (w2 76 29 - 1)) 76 30 (w2 76 30 - 1)) 76 31 1) 76 31 = 1 := ck_up_eq
  have z3' : pz T X s E N n m (ck_up (ck_up (ck_up w2 76 29 (w2 76 29 - 1)) 76 30 (w2 76 30 - 1)) 76 31 1) := by
    refine ⟨?_, ?_, ?_, ?_, ?_, ?_, ?_, ?_, ?_, ?_, ?_⟩
    · rw [f 19 (by decide) (by decide) (by decide), f 20 (by decide) (by decide) (by decide)]; exact k1
    · rw [f 19 (by decide) (by decide) (by decide), f 20 (by decide) (by decide) (by decide), f 21 (by decide) (by decide) (by decide)]; exact k2
    · rw [f 22 (by decide) (by decide) (by decide)]; exact k3
    · rw [f 16 (by decide) (by decide) (by decide), f 24 (by decide) (by decide) (by decide)]; exact k4
    · rw [f 26 (by decide) (by decide) (by decide)]; exact k5
    · rw [f29]; omega
    · rw [f29, f 26 (by decide) (by decide) (by decide), f 20 (by decide) (by decide) (by decide)]; omega
    · rw [f29]; rw [e1] at k8; exact pl_ok_pop k8
    · rw [f29, f30]; show pl_op (w2 90) _ + N ≤ _ ∧ _; omega
    · exact Or.inr f31
    · rw [f29, f31, f 26 (by decide) (by decide) (by decide)]
      show tx_st (w2 79) _ _ _ = some (n + pl_b (w2 90) _ + 1, m)
      rw [k11, e2, bn]
  have p1 : pr w2 (ck_up (ck_up (ck_up w2 76 29 (w2 76 29 - 1)) 76 30 (w2 76 30 - 1)) 76 31 1) := pr_tr (pr_tr (pr_up (by omega) (by omega) (by omega)) (pr_up (by omega) (by omega) (by omega))) (pr_up (by omega) (by omega) (by omega))
  refine e_X12_whole hC (L_X12_whole hC hT hX hE hN hn 30 (by rw [f29]; omega) z3' f31 (fun w3 d1 d2 d3 d4 => ⟨rfl, ?_⟩))
  obtain ⟨m1, m2, m3, m4, m5, m6, m7, m8, m9, m10, m11⟩ := id d3
  have g20 : w3 76 20 = w 76 20 := by rw [d2 20 (by omega), f 20 (by decide) (by decide) (by decide), c2 20 (by decide) (by decide)]
  have g21 : w3 76 21 = w 76 21 := by rw [d2 21 (by omega), f 21 (by decide) (by decide) (by decide), c2 21 (by decide) (by decide)]
  refine S_next hC hT ⟨by omega, m3, m4, m5, m6, by omega, m8, m9, m10, m11⟩ (fun w' y1 y2 y3 y4 y5 => ⟨rfl, h w' (pr_tr (pr_tr (pr_tr c1 p1) d1) y1) y4 (by omega)⟩)
/-- the state between sums: steps from s on, E owed, N open, n numbers, m truths -/
def py (T X s E N n m : Int) (u : ck_W) : Prop :=
  (0 ≤ u 76 20 ∧ u 76 20 ≤ u 76 19 ∧ u 76 19 ≤ T) ∧ (u 76 21 = 0 ∨ u 76 20 < u 76 19) ∧ 0 ≤ u 76 22 ∧ (u 76 16 = T ∧ u 76 24 = X) ∧
  (0 ≤ s ∧ s ≤ u 76 26) ∧ u 76 26 + E ≤ u 76 20 ∧ (N ≤ u 76 30 ∧ u 76 30 ≤ 8) ∧ tx_st (u 79) (X + 50) s (u 76 26 - s).toNat = some (n, m)
theorem dX12_summed_0 : decode cX12_summed 0 = .ok (.aload_n 0, 1) := by decide +kernel
theorem dX12_summed_1 : decode cX12_summed 1 = .ok (.iconst 0, 1) := by decide +kernel
theorem dX12_summed_2 : decode cX12_summed 2 = .ok (.putfield 223, 3) := by decide +kernel
theorem dX12_summed_5 : decode cX12_summed 5 = .ok (.aload_n 0, 1) := by decide +kernel
theorem dX12_summed_6 : decode cX12_summed 6 = .ok (.iconst 0, 1) := by decide +kernel
theorem dX12_summed_7 : decode cX12_summed 7 = .ok (.putfield 226, 3) := by decide +kernel
theorem dX12_summed_10 : decode cX12_summed 10 = .ok (.aload_n 0, 1) := by decide +kernel
theorem dX12_summed_11 : decode cX12_summed 11 = .ok (.getfield 226, 3) := by decide +kernel
theorem dX12_summed_14 : decode cX12_summed 14 = .ok (.ifCond .eq 10, 3) := by decide +kernel
theorem dX12_summed_17 : decode cX12_summed 17 = .ok (.aload_n 0, 1) := by decide +kernel
theorem dX12_summed_18 : decode cX12_summed 18 = .ok (.invokevirtual 265, 3) := by decide +kernel
theorem dX12_summed_21 : decode cX12_summed 21 = .ok (.ifCond .eq 31, 3) := by decide +kernel
theorem dX12_summed_24 : decode cX12_summed 24 = .ok (.aload_n 0, 1) := by decide +kernel
theorem dX12_summed_25 : decode cX12_summed 25 = .ok (.getfield 226, 3) := by decide +kernel
theorem dX12_summed_28 : decode cX12_summed 28 = .ok (.ifCond .eq 10, 3) := by decide +kernel
theorem dX12_summed_31 : decode cX12_summed 31 = .ok (.aload_n 0, 1) := by decide +kernel
theorem dX12_summed_32 : decode cX12_summed 32 = .ok (.invokevirtual 268, 3) := by decide +kernel
theorem dX12_summed_35 : decode cX12_summed 35 = .ok (.goto 7, 3) := by decide +kernel
theorem dX12_summed_38 : decode cX12_summed 38 = .ok (.aload_n 0, 1) := by decide +kernel
theorem dX12_summed_39 : decode cX12_summed 39 = .ok (.invokevirtual 271, 3) := by decide +kernel
theorem dX12_summed_42 : decode cX12_summed 42 = .ok (.istore_n 1, 1) := by decide +kernel
theorem dX12_summed_43 : decode cX12_summed 43 = .ok (.iload_n 1, 1) := by decide +kernel
theorem dX12_summed_44 : decode cX12_summed 44 = .ok (.ifCond .eq 5, 3) := by decide +kernel
theorem dX12_summed_47 : decode cX12_summed 47 = .ok (.iload_n 1, 1) := by decide +kernel
theorem dX12_summed_48 : decode cX12_summed 48 = .ok (.ireturn, 1) := by decide +kernel
theorem dX12_summed_49 : decode cX12_summed 49 = .ok (.goto (-39), 3) := by decide +kernel
theorem dX12_summed_52 : decode cX12_summed 52 = .ok (.aload_n 0, 1) := by decide +kernel
theorem dX12_summed_53 : decode cX12_summed 53 = .ok (.iconst 3, 1) := by decide +kernel
theorem dX12_summed_54 : decode cX12_summed 54 = .ok (.invokevirtual 262, 3) := by decide +kernel
theorem dX12_summed_57 : decode cX12_summed 57 = .ok (.aload_n 0, 1) := by decide +kernel
theorem dX12_summed_58 : decode cX12_summed 58 = .ok (.getfield 223, 3) := by decide +kernel
theorem dX12_summed_61 : decode cX12_summed 61 = .ok (.ifCond .le 7, 3) := by decide +kernel
theorem dX12_summed_64 : decode cX12_summed 64 = .ok (.iconst 1, 1) := by decide +kernel
theorem dX12_summed_65 : decode cX12_summed 65 = .ok (.goto 4, 3) := by decide +kernel
theorem dX12_summed_68 : decode cX12_summed 68 = .ok (.iconst 0, 1) := by decide +kernel
theorem dX12_summed_69 : decode cX12_summed 69 = .ok (.ireturn, 1) := by decide +kernel
set_option maxRecDepth 8000 in
theorem e_X12_summed {g : ch_G} {A R : Nat} (hC : ck_Cx g A R) {d : Nat} {K : Option ck_V → ck_W → Prop} {w : ck_W} (h : ck_At (ch_C g A R) (d + 1) mX12_summed K 10 [some (.inr (.inr 76)), none] [] (ck_up (ck_up w 76 29 0) 76 31 0)) : ck_Ex (ch_C g A R) (d + 1) mX12_summed [.inr (.inr 76)] w K :=
  ck_entry hC.1 [some (.inr (.inr 76)), none] (by decide) (Nat.le_of_ble_eq_true rfl) rfl (fun q => q) (ck_in (fun hl => (ck_aload_n 1 rfl 0 dX12_summed_0 rfl rfl (ck_iconst 2 rfl dX12_summed_1 rfl (ck_puti 5 rfl 29 dX12_summed_2 fp_X12_223 sh_76 rfl rfl (show ck_i 0 by decide) (ck_aload_n 6 rfl 0 dX12_summed_5 rfl rfl (ck_iconst 7 rfl dX12_summed_6 rfl (ck_putz 10 rfl 31 dX12_summed_7 fp_X12_226 sh_76 rfl rfl (by decide) h))))))))
set_option maxRecDepth 8000 in
theorem r_X12_summed_10 {g : ch_G} {A R : Nat} (hC : ck_Cx g A R) {d : Nat} {K : Option ck_V → ck_W → Prop} {w : ck_W} (h : ((w 76 31) = 0 → ((w 76 31) = 0 → ck_CI (ch_C g A R) d mX12_beginOne [.inr (.inr 76)] w (fun v4 w3 => (v4 = 0 → ck_At (ch_C g A R) (d + 1) mX12_summed K 10 [some (.inr (.inr 76)), none] [] w3) ∧ (¬ v4 = 0 → K (some (.inl v4)) w3))) ∧ (¬ (w 76 31) = 0 → ck_CI (ch_C g A R) d mX12_behindOne [.inr (.inr 76)] w (fun v10 w9 => (v10 = 0 → ck_At (ch_C g A R) (d + 1) mX12_summed K 10 [some (.inr (.inr 76)), none] [] w9) ∧ (¬ v10 = 0 → K (some (.inl v10)) w9)))) ∧ (¬ (w 76 31) = 0 → ck_CI (ch_C g A R) d mX12_goesOn [.inr (.inr 76)] w (fun v18 w17 => (v18 = 0 → ck_CN (ch_C g A R) d mX12_settle [.inr (.inr 76), .inl 3] w17 (fun w21 => ((w21 76 29) ≤ 0 → K (some (.inl 0)) w21) ∧ (¬ (w21 76 29) ≤ 0 → K (some (.inl 1)) w21))) ∧ (¬ v18 = 0 → ((w17 76 31) = 0 → ck_CI (ch_C g A R) d mX12_beginOne [.inr (.inr 76)] w17 (fun v28 w27 => (v28 = 0 → ck_At (ch_C g A R) (d + 1) mX12_summed K 10 [some (.inr (.inr 76)), none] [] w27) ∧ (¬ v28 = 0 → K (some (.inl v28)) w27))) ∧ (¬ (w17 76 31) = 0 → ck_CI (ch_C g A R) d mX12_behindOne [.inr (.inr 76)] w17 (fun v34 w33 => (v34 = 0 → ck_At (ch_C g A R) (d + 1) mX12_summed K 10 [some (.inr (.inr 76)), none] [] w33) ∧ (¬ v34 = 0 → K (some (.inl v34)) w33))))))) : ck_At (ch_C g A R) (d + 1) mX12_summed K 10 [some (.inr (.inr 76)), none] [] w :=
  ck_in (fun hl => (ck_aload_n 11 rfl 0 dX12_summed_10 rfl rfl (ck_geti 14 rfl 31 dX12_summed_11 fl_X12_226 sh_76 rfl rfl _ rfl (fun (q1 : ck_i (w 76 31)) => (ck_if_eq 17 rfl 24 dX12_summed_14 rfl q1 (fun c43 => (ck_aload_n 25 rfl 0 dX12_summed_24 rfl rfl (ck_geti 28 rfl 31 dX12_summed_25 fl_X12_226 sh_76 rfl rfl _ rfl (fun (q2 : ck_i (w 76 31)) => (have h45 := (h.1 c43); (ck_if_eq 31 rfl 38 dX12_summed_28 rfl q2 (fun c15 => (ck_aload_n 39 rfl 0 dX12_summed_38 rfl rfl (ck_callV 42 rfl [] [] dX12_summed_39 cv_X12_271 sh_76 rfl rfl (Nat.le_of_ble_eq_true rfl) True.intro (ck_mI (h45.1 c15) (fun v4 w3 q5 h6 => (ck_istore_n 43 rfl 1 [some (.inr (.inr 76)), some (.inl v4)] dX12_summed_42 rfl (Nat.le_of_ble_eq_true rfl) rfl rfl q5 (ck_iload_n 44 rfl 1 dX12_summed_43 rfl rfl (ck_if_eq 47 rfl 49 dX12_summed_44 rfl q5 (fun c7 => (ck_goto 10 dX12_summed_49 rfl (ck_drop [some (.inr (.inr 76)), none] (And.intro rfl True.intro) (h6.1 c7)))) (fun c8 => (ck_iload_n 48 rfl 1 dX12_summed_47 rfl rfl (ck_iret dX12_summed_48 rfl q5 (h6.2 c8)))))))))))) (fun c16 => (ck_aload_n 32 rfl 0 dX12_summed_31 rfl rfl (ck_callV 35 rfl [] [] dX12_summed_32 cv_X12_268 sh_76 rfl rfl (Nat.le_of_ble_eq_true rfl) True.intro (ck_mI (h45.2 c16) (fun v10 w9 q11 h12 => (ck_goto 42 dX12_summed_35 rfl (ck_istore_n 43 rfl 1 [some (.inr (.inr 76)), some (.inl v10)] dX12_summed_42 rfl (Nat.le_of_ble_eq_true rfl) rfl rfl q11 (ck_iload_n 44 rfl 1 dX12_summed_43 rfl rfl (ck_if_eq 47 rfl 49 dX12_summed_44 rfl q11 (fun c13 => (ck_goto 10 dX12_summed_49 rfl (ck_drop [some (.inr (.inr 76)), none] (And.intro rfl True.intro) (h12.1 c13)))) (fun c14 => (ck_iload_n 48 rfl 1 dX12_summed_47 rfl rfl (ck_iret dX12_summed_48 rfl q11 (h12.2 c14))))))))))))))))))) (fun c44 => (ck_aload_n 18 rfl 0 dX12_summed_17 rfl rfl (ck_callV 21 rfl [] [] dX12_summed_18 cv_X12_265 sh_76 rfl rfl (Nat.le_of_ble_eq_true rfl) True.intro (ck_mI (h.2 c44) (fun v18 w17 q19 h20 => (ck_if_eq 24 rfl 52 dX12_summed_21 rfl q19 (fun c41 => (ck_aload_n 53 rfl 0 dX12_summed_52 rfl rfl (ck_iconst 54 rfl dX12_summed_53 rfl (ck_callV 57 rfl [.inl 3] [] dX12_summed_54 cv_X12_262 sh_76 rfl rfl (Nat.le_of_ble_eq_true rfl) (And.intro (show ck_i 3 by decide) True.intro) (ck_mN (h20.1 c41) (fun w21 h25 => (ck_aload_n 58 rfl 0 dX12_summed_57 rfl rfl (ck_geti 61 rfl 29 dX12_summed_58 fl_X12_223 sh_76 rfl rfl _ rfl (fun (q22 : ck_i (w21 76 29)) => (ck_if_le 64 rfl 68 dX12_summed_61 rfl q22 (fun c23 => (ck_iconst 69 rfl dX12_summed_68 rfl (ck_iret dX12_summed_69 rfl (show ck_i 0 by decide) (h25.1 c23)))) (fun c24 => (ck_iconst 65 rfl dX12_summed_64 rfl (ck_goto 69 dX12_summed_65 rfl (ck_iret dX12_summed_69 rfl (show ck_i 1 by decide) (h25.2 c24))))))))))))))) (fun c42 => (ck_aload_n 25 rfl 0 dX12_summed_24 rfl rfl (ck_geti 28 rfl 31 dX12_summed_25 fl_X12_226 sh_76 rfl rfl _ rfl (fun (q26 : ck_i (w17 76 31)) => (have h46 := (h20.2 c42); (ck_if_eq 31 rfl 38 dX12_summed_28 rfl q26 (fun c39 => (ck_aload_n 39 rfl 0 dX12_summed_38 rfl rfl (ck_callV 42 rfl [] [] dX12_summed_39 cv_X12_271 sh_76 rfl rfl (Nat.le_of_ble_eq_true rfl) True.intro (ck_mI (h46.1 c39) (fun v28 w27 q29 h30 => (ck_istore_n 43 rfl 1 [some (.inr (.inr 76)), some (.inl v28)] dX12_summed_42 rfl (Nat.le_of_ble_eq_true rfl) rfl rfl q29 (ck_iload_n 44 rfl 1 dX12_summed_43 rfl rfl (ck_if_eq 47 rfl 49 dX12_summed_44 rfl q29 (fun c31 => (ck_goto 10 dX12_summed_49 rfl (ck_drop [some (.inr (.inr 76)), none] (And.intro rfl True.intro) (h30.1 c31)))) (fun c32 => (ck_iload_n 48 rfl 1 dX12_summed_47 rfl rfl (ck_iret dX12_summed_48 rfl q29 (h30.2 c32)))))))))))) (fun c40 => (ck_aload_n 32 rfl 0 dX12_summed_31 rfl rfl (ck_callV 35 rfl [] [] dX12_summed_32 cv_X12_268 sh_76 rfl rfl (Nat.le_of_ble_eq_true rfl) True.intro (ck_mI (h46.2 c40) (fun v34 w33 q35 h36 => (ck_goto 42 dX12_summed_35 rfl (ck_istore_n 43 rfl 1 [some (.inr (.inr 76)), some (.inl v34)] dX12_summed_42 rfl (Nat.le_of_ble_eq_true rfl) rfl rfl q35 (ck_iload_n 44 rfl 1 dX12_summed_43 rfl rfl (ck_if_eq 47 rfl 49 dX12_summed_44 rfl q35 (fun c37 => (ck_goto 10 dX12_summed_49 rfl (ck_drop [some (.inr (.inr 76)), none] (And.intro rfl True.intro) (h36.1 c37)))) (fun c38 => (ck_iload_n 48 rfl 1 dX12_summed_47 rfl rfl (ck_iret dX12_summed_48 rfl q35 (h36.2 c38))))))))))))))))))))))))))))))
theorem S_X12_summed {g : ch_G} {A R : Nat} (hC : ck_Cx g A R) {d : Nat} {K : Option ck_V → ck_W → Prop} {w : ck_W} {T X s E N n m : Int} (hT : 0 ≤ T ∧ T ≤ 300) (hX : 0 ≤ X ∧ X ≤ 2400) (hE : 0 ≤ E) (hN : 0 ≤ N) (hn : 0 ≤ n) (hm : 0 ≤ m) (hy : py T X s E N n m w)
    (h : ∀ v w', pr w w' → w 76 20 ≤ w' 76 20 → (v = 0 → py T X s E N (n + 1) m w') → K (some (.inl v)) w') : ck_Ex (ch_C g A R) (d + 5) mX12_summed [.inr (.inr 76)] w K := by
  have l : ∀ (q : Nat) (u : ck_W), 301 - u 76 20 ≤ q → pr w u → w 76 20 ≤ u 76 20 → pz T X s E N n m u → ck_At (ch_C g A R) (d + 5) mX12_summed K 10 [some (.inr (.inr 76)), none] [] u := by
    intro q
    induction q with
    | zero => intro u q1 q2 q3 q4; have := q4.1; omega
    | succ q ih =>
      intro u q1 q2 q3 q4
      have pb := pz_piled q4 hN
      obtain ⟨h1, h2, h3, h4, h5, h6, h7, h8, h9, h10, h11⟩ := id q4
      refine r_X12_summed_10 hC ⟨fun z => ⟨fun _ => ?_, fun y => absurd z y⟩, fun z => ?_⟩
      · exact S_X12_beginOne hC hT hX hE hN hn hm q4 z (fun v w' c1 c2 => ⟨_, rfl, fun _ => ⟨fun e => ih w' (by have := (c2 e).2; omega) (pr_tr q2 c1) (by have := (c2 e).2; omega) (c2 e).1, fun e => h v w' (pr_tr q2 c1) (by sorry) (fun e' => absurd e' e)⟩⟩)
      · sorry
  sorry
