/-! ===== the reference: a sum ===== -/
/-- as pz, where the token at hand is used up -/
def pz1 (T X s E N n m : Int) (u : ck_W) : Prop :=
  (0 ≤ u 76 20 ∧ u 76 20 < u 76 19 ∧ u 76 19 ≤ T) ∧ 0 ≤ u 76 22 ∧ (u 76 16 = T ∧ u 76 24 = X) ∧
  (0 ≤ s ∧ s ≤ u 76 26) ∧ 0 ≤ u 76 29 ∧ u 76 26 + u 76 29 + E ≤ u 76 20 + 1 ∧ pl_ok (u 90) (u 76 29).toNat ∧ (pl_op (u 90) (u 76 29).toNat + N ≤ u 76 30 ∧ u 76 30 ≤ 8) ∧ (u 76 31 = 0 ∨ u 76 31 = 1) ∧
  tx_st (u 79) (X + 50) s (u 76 26 - s).toNat = some (n + pl_b (u 90) (u 76 29).toNat + u 76 31, m)
theorem S_next {g : ch_G} {A R : Nat} (hC : ck_Cx g A R) {d : Nat} {K : Option ck_V → ck_W → Prop} {w : ck_W} {T X s E N n m : Int} (hT : 0 ≤ T ∧ T ≤ 300) (hz : pz1 T X s E N n m w) (h : ∀ w', pr w w' → (∀ j, j < 19 ∨ 24 ≤ j → w' 76 j = w 76 j) → w' 90 = w 90 → pz T X s E N n m w' → w 76 20 < w' 76 20 → K none w') : ck_Ex (ch_C g A R) (d + 2) mX12_nextToken [.inr (.inr 76)] w K := by
  obtain ⟨h1, h3, h4, h5, h6, h7, h8, h9, h10, h11⟩ := hz
  refine S_X12_nextToken hC (by omega) (by omega) h3 (fun u i1 i2 i3 i4 => h u (pr_nt i1 i4) i1.2 (i1.1 90 (by decide)) ⟨?_, i3, i4, ?_, ?_, ?_, ?_, ?_, ?_, ?_, ?_⟩ (by omega))
  · rw [h4.1] at i2; omega
  · rw [i1.2 16 (by omega), i1.2 24 (by omega)]; exact h4
  · rw [i1.2 26 (by omega)]; exact h5
  · rw [i1.2 29 (by omega)]; exact h6
  · rw [i1.2 26 (by omega), i1.2 29 (by omega)]; omega
  · rw [i1.2 29 (by omega), i1.1 90 (by decide)]; exact h8
  · rw [i1.2 29 (by omega), i1.2 30 (by omega), i1.1 90 (by decide)]; exact h9
  · rw [i1.2 31 (by omega)]; exact h10
  · rw [i1.2 26 (by omega), i1.2 29 (by omega), i1.2 31 (by omega), i1.1 90 (by decide), i1.1 79 (by decide)]; exact h11
theorem dX12_push_0 : decode cX12_push 0 = .ok (.aload_n 0, 1) := dk_42 (by decide +kernel)
theorem dX12_push_1 : decode cX12_push 1 = .ok (.getfield 58, 3) := dk_180 0 58 (by decide +kernel)
theorem dX12_push_4 : decode cX12_push 4 = .ok (.aload_n 0, 1) := dk_42 (by decide +kernel)
theorem dX12_push_5 : decode cX12_push 5 = .ok (.getfield 223, 3) := dk_180 0 223 (by decide +kernel)
theorem dX12_push_8 : decode cX12_push 8 = .ok (.iload_n 1, 1) := dk_27 (by decide +kernel)
theorem dX12_push_9 : decode cX12_push 9 = .ok (.iastore, 1) := dk_79 (by decide +kernel)
theorem dX12_push_10 : decode cX12_push 10 = .ok (.aload_n 0, 1) := dk_42 (by decide +kernel)
theorem dX12_push_11 : decode cX12_push 11 = .ok (.dup, 1) := dk_89 (by decide +kernel)
theorem dX12_push_12 : decode cX12_push 12 = .ok (.getfield 223, 3) := dk_180 0 223 (by decide +kernel)
theorem dX12_push_15 : decode cX12_push 15 = .ok (.iconst 1, 1) := dk_4 (by decide +kernel)
theorem dX12_push_16 : decode cX12_push 16 = .ok (.iadd, 1) := dk_96 (by decide +kernel)
theorem dX12_push_17 : decode cX12_push 17 = .ok (.putfield 223, 3) := dk_181 0 223 (by decide +kernel)
theorem dX12_push_20 : decode cX12_push 20 = .ok (.return_, 1) := dk_177 (by decide +kernel)
set_option maxRecDepth 8000 in
theorem e_X12_push {g : ch_G} {A R : Nat} (hC : ck_Cx g A R) {d : Nat} {K : Option ck_V → ck_W → Prop} {w : ck_W} {a1 : Int} (h : (0 ≤ (w 76 29) ∧ (w 76 29) < 160) ∧ (ck_i ((w 76 29) + 1) ∧ (K none (ck_up (ck_up w 90 (w 76 29) a1) 76 29 ((w 76 29) + 1))))) : ck_Ex (ch_C g A R) d mX12_push [.inr (.inr 76), .inl a1] w K :=
  ck_entry hC.1 [some (.inr (.inr 76)), some (.inl a1)] (by decide) (Nat.le_of_ble_eq_true rfl) rfl (fun q => q) (ck_in (fun hl => (ck_aload_n 1 rfl 0 dX12_push_0 rfl rfl (ck_getr 4 rfl dX12_push_1 fl_X12_58 sh_76 rfl (ck_aload_n 5 rfl 0 dX12_push_4 rfl rfl (ck_geti 8 rfl 29 dX12_push_5 fl_X12_223 sh_76 rfl rfl _ rfl (fun (q1 : ck_i (w 76 29)) => (ck_iload_n 9 rfl 1 dX12_push_8 rfl rfl (have h6 := h; have o2 := h6.1; have h5 := h6.2; (ck_iast 10 rfl dX12_push_9 sh_90 (shn_90 hC) o2 hl.2.1 (ck_aload_n 11 rfl 0 dX12_push_10 rfl rfl (ck_dup 12 rfl dX12_push_11 rfl (ck_geti 15 rfl 29 dX12_push_12 fl_X12_223 sh_76 rfl rfl _ rfl (fun (q3 : ck_i (w 76 29)) => (ck_iconst 16 rfl dX12_push_15 rfl (ck_iadd 17 rfl dX12_push_16 (have h8 := h5; have o4 := h8.1; have h7 := h8.2; (ck_puti 20 rfl 29 dX12_push_17 fp_X12_223 sh_76 rfl rfl o4 (ck_vret dX12_push_20 rfl h7)))))))))))))))))))
theorem dX12_w3_0 : decode cX12_w3 0 = .ok (.iload_n 0, 1) := dk_26 (by decide +kernel)
theorem dX12_w3_1 : decode cX12_w3 1 = .ok (.i2l, 1) := dk_133 (by decide +kernel)
theorem dX12_w3_2 : decode cX12_w3 2 = .ok (.bipush 8, 2) := dk_16 8 (by decide +kernel)
theorem dX12_w3_4 : decode cX12_w3 4 = .ok (.lshl, 1) := dk_121 (by decide +kernel)
theorem dX12_w3_5 : decode cX12_w3 5 = .ok (.iload_n 1, 1) := dk_27 (by decide +kernel)
theorem dX12_w3_6 : decode cX12_w3 6 = .ok (.i2l, 1) := dk_133 (by decide +kernel)
theorem dX12_w3_7 : decode cX12_w3 7 = .ok (.lor, 1) := dk_129 (by decide +kernel)
theorem dX12_w3_8 : decode cX12_w3 8 = .ok (.bipush 8, 2) := dk_16 8 (by decide +kernel)
theorem dX12_w3_10 : decode cX12_w3 10 = .ok (.lshl, 1) := dk_121 (by decide +kernel)
theorem dX12_w3_11 : decode cX12_w3 11 = .ok (.iload_n 2, 1) := dk_28 (by decide +kernel)
theorem dX12_w3_12 : decode cX12_w3 12 = .ok (.i2l, 1) := dk_133 (by decide +kernel)
theorem dX12_w3_13 : decode cX12_w3 13 = .ok (.lor, 1) := dk_129 (by decide +kernel)
theorem dX12_w3_14 : decode cX12_w3 14 = .ok (.lreturn, 1) := dk_173 (by decide +kernel)
set_option maxRecDepth 8000 in
theorem e_X12_w3 {g : ch_G} {A R : Nat} (hC : ck_Cx g A R) {d : Nat} {K : Option ck_V → ck_W → Prop} {w : ck_W} {a0 a1 a2 : Int} (h : K (some (.inr (.inl (ck_Lor (ck_Lshl (ck_Lor (ck_Lshl a0 8) a1) 8) a2)))) w) : ck_Ex (ch_C g A R) d mX12_w3 [.inl a0, .inl a1, .inl a2] w K :=
  ck_entry hC.1 [some (.inl a0), some (.inl a1), some (.inl a2)] (by decide) (Nat.le_of_ble_eq_true rfl) rfl (fun q => q) (ck_in (fun hl => (ck_iload_n 1 rfl 0 dX12_w3_0 rfl rfl (ck_i2l 2 rfl dX12_w3_1 hl.1 (ck_bipush 4 rfl dX12_w3_2 rfl (ck_lshl 5 rfl dX12_w3_4 (ck_iload_n 6 rfl 1 dX12_w3_5 rfl rfl (ck_i2l 7 rfl dX12_w3_6 hl.2.1 (ck_lor 8 rfl dX12_w3_7 (ck_bipush 10 rfl dX12_w3_8 rfl (ck_lshl 11 rfl dX12_w3_10 (ck_iload_n 12 rfl 2 dX12_w3_11 rfl rfl (ck_i2l 13 rfl dX12_w3_12 hl.2.2.1 (ck_lor 14 rfl dX12_w3_13 (ck_lret dX12_w3_14 rfl (ck_rngl _) h)))))))))))))))
theorem p_X12_w3 {g : ch_G} {A R : Nat} (hC : ck_Cx g A R) {d : Nat} {K : Option ck_V → ck_W → Prop} {w : ck_W} {a0 a1 a2 : Int} (h : K (some (.inr (.inl (ck_Lor (ck_Lshl (ck_Lor (ck_Lshl a0 8) a1) 8) a2)))) w) : ck_Ex (ch_C g A R) d mX12_w3 [.inl a0, .inl a1, .inl a2] w K := by
  refine e_X12_w3 hC ?_
  repeat' (first | apply And.intro | intro _)
  all_goals first | omega | (exact cast (congrArg (fun t => K (some (.inr (.inl t))) w) (by omega)) h) | (simp only [] at *; omega) | assumption
theorem dX12_w4_0 : decode cX12_w4 0 = .ok (.iload_n 0, 1) := dk_26 (by decide +kernel)
theorem dX12_w4_1 : decode cX12_w4 1 = .ok (.iload_n 1, 1) := dk_27 (by decide +kernel)
theorem dX12_w4_2 : decode cX12_w4 2 = .ok (.iload_n 2, 1) := dk_28 (by decide +kernel)
theorem dX12_w4_3 : decode cX12_w4 3 = .ok (.invokestatic 209, 3) := dk_184 0 209 (by decide +kernel)
theorem dX12_w4_6 : decode cX12_w4 6 = .ok (.bipush 8, 2) := dk_16 8 (by decide +kernel)
theorem dX12_w4_8 : decode cX12_w4 8 = .ok (.lshl, 1) := dk_121 (by decide +kernel)
theorem dX12_w4_9 : decode cX12_w4 9 = .ok (.iload_n 3, 1) := dk_29 (by decide +kernel)
theorem dX12_w4_10 : decode cX12_w4 10 = .ok (.i2l, 1) := dk_133 (by decide +kernel)
theorem dX12_w4_11 : decode cX12_w4 11 = .ok (.lor, 1) := dk_129 (by decide +kernel)
theorem dX12_w4_12 : decode cX12_w4 12 = .ok (.lreturn, 1) := dk_173 (by decide +kernel)
set_option maxRecDepth 8000 in
theorem e_X12_w4 {g : ch_G} {A R : Nat} (hC : ck_Cx g A R) {d : Nat} {K : Option ck_V → ck_W → Prop} {w : ck_W} {a0 a1 a2 a3 : Int} (h : K (some (.inr (.inl (ck_Lor (ck_Lshl (ck_Lor (ck_Lshl (ck_Lor (ck_Lshl a0 8) a1) 8) a2) 8) a3)))) w) : ck_Ex (ch_C g A R) (d + 1) mX12_w4 [.inl a0, .inl a1, .inl a2, .inl a3] w K :=
  ck_entry hC.1 [some (.inl a0), some (.inl a1), some (.inl a2), some (.inl a3)] (by decide) (Nat.le_of_ble_eq_true rfl) rfl (fun q => q) (ck_in (fun hl => (ck_iload_n 1 rfl 0 dX12_w4_0 rfl rfl (ck_iload_n 2 rfl 1 dX12_w4_1 rfl rfl (ck_iload_n 3 rfl 2 dX12_w4_2 rfl rfl (ck_callS 6 rfl [.inl a0, .inl a1, .inl a2] [] dX12_w4_3 cs_X12_209 rfl rfl (Nat.le_of_ble_eq_true rfl) (And.intro hl.1 (And.intro hl.2.1 (And.intro hl.2.2.1 True.intro))) (p_X12_w3 hC (fun q1 => (ck_bipush 8 rfl dX12_w4_6 rfl (ck_lshl 9 rfl dX12_w4_8 (ck_iload_n 10 rfl 3 dX12_w4_9 rfl rfl (ck_i2l 11 rfl dX12_w4_10 hl.2.2.2.1 (ck_lor 12 rfl dX12_w4_11 (ck_lret dX12_w4_12 rfl (ck_rngl _) h))))))))))))))
theorem p_X12_w4 {g : ch_G} {A R : Nat} (hC : ck_Cx g A R) {d : Nat} {K : Option ck_V → ck_W → Prop} {w : ck_W} {a0 a1 a2 a3 : Int} (h : K (some (.inr (.inl (ck_Lor (ck_Lshl (ck_Lor (ck_Lshl (ck_Lor (ck_Lshl a0 8) a1) 8) a2) 8) a3)))) w) : ck_Ex (ch_C g A R) (d + 1) mX12_w4 [.inl a0, .inl a1, .inl a2, .inl a3] w K := by
  refine e_X12_w4 hC ?_
  repeat' (first | apply And.intro | intro _)
  all_goals first | omega | (exact cast (congrArg (fun t => K (some (.inr (.inl t))) w) (by omega)) h) | (simp only [] at *; omega) | assumption
theorem dX12_w5_0 : decode cX12_w5 0 = .ok (.iload_n 0, 1) := dk_26 (by decide +kernel)
theorem dX12_w5_1 : decode cX12_w5 1 = .ok (.iload_n 1, 1) := dk_27 (by decide +kernel)
theorem dX12_w5_2 : decode cX12_w5 2 = .ok (.iload_n 2, 1) := dk_28 (by decide +kernel)
theorem dX12_w5_3 : decode cX12_w5 3 = .ok (.invokestatic 209, 3) := dk_184 0 209 (by decide +kernel)
theorem dX12_w5_6 : decode cX12_w5 6 = .ok (.bipush 8, 2) := dk_16 8 (by decide +kernel)
theorem dX12_w5_8 : decode cX12_w5 8 = .ok (.lshl, 1) := dk_121 (by decide +kernel)
theorem dX12_w5_9 : decode cX12_w5 9 = .ok (.iload_n 3, 1) := dk_29 (by decide +kernel)
theorem dX12_w5_10 : decode cX12_w5 10 = .ok (.i2l, 1) := dk_133 (by decide +kernel)
theorem dX12_w5_11 : decode cX12_w5 11 = .ok (.lor, 1) := dk_129 (by decide +kernel)
theorem dX12_w5_12 : decode cX12_w5 12 = .ok (.bipush 8, 2) := dk_16 8 (by decide +kernel)
theorem dX12_w5_14 : decode cX12_w5 14 = .ok (.lshl, 1) := dk_121 (by decide +kernel)
theorem dX12_w5_15 : decode cX12_w5 15 = .ok (.iload 4, 2) := dk_21 (by decide +kernel)
theorem dX12_w5_17 : decode cX12_w5 17 = .ok (.i2l, 1) := dk_133 (by decide +kernel)
theorem dX12_w5_18 : decode cX12_w5 18 = .ok (.lor, 1) := dk_129 (by decide +kernel)
theorem dX12_w5_19 : decode cX12_w5 19 = .ok (.lreturn, 1) := dk_173 (by decide +kernel)
set_option maxRecDepth 8000 in
theorem e_X12_w5 {g : ch_G} {A R : Nat} (hC : ck_Cx g A R) {d : Nat} {K : Option ck_V → ck_W → Prop} {w : ck_W} {a0 a1 a2 a3 a4 : Int} (h : K (some (.inr (.inl (ck_Lor (ck_Lshl (ck_Lor (ck_Lshl (ck_Lor (ck_Lshl (ck_Lor (ck_Lshl a0 8) a1) 8) a2) 8) a3) 8) a4)))) w) : ck_Ex (ch_C g A R) (d + 1) mX12_w5 [.inl a0, .inl a1, .inl a2, .inl a3, .inl a4] w K :=
  ck_entry hC.1 [some (.inl a0), some (.inl a1), some (.inl a2), some (.inl a3), some (.inl a4)] (by decide) (Nat.le_of_ble_eq_true rfl) rfl (fun q => q) (ck_in (fun hl => (ck_iload_n 1 rfl 0 dX12_w5_0 rfl rfl (ck_iload_n 2 rfl 1 dX12_w5_1 rfl rfl (ck_iload_n 3 rfl 2 dX12_w5_2 rfl rfl (ck_callS 6 rfl [.inl a0, .inl a1, .inl a2] [] dX12_w5_3 cs_X12_209 rfl rfl (Nat.le_of_ble_eq_true rfl) (And.intro hl.1 (And.intro hl.2.1 (And.intro hl.2.2.1 True.intro))) (p_X12_w3 hC (fun q1 => (ck_bipush 8 rfl dX12_w5_6 rfl (ck_lshl 9 rfl dX12_w5_8 (ck_iload_n 10 rfl 3 dX12_w5_9 rfl rfl (ck_i2l 11 rfl dX12_w5_10 hl.2.2.2.1 (ck_lor 12 rfl dX12_w5_11 (ck_bipush 14 rfl dX12_w5_12 rfl (ck_lshl 15 rfl dX12_w5_14 (ck_iload 17 rfl dX12_w5_15 rfl (ck_i2l 18 rfl dX12_w5_17 hl.2.2.2.2.1 (ck_lor 19 rfl dX12_w5_18 (ck_lret dX12_w5_19 rfl (ck_rngl _) h)))))))))))))))))))
theorem p_X12_w5 {g : ch_G} {A R : Nat} (hC : ck_Cx g A R) {d : Nat} {K : Option ck_V → ck_W → Prop} {w : ck_W} {a0 a1 a2 a3 a4 : Int} (h : K (some (.inr (.inl (ck_Lor (ck_Lshl (ck_Lor (ck_Lshl (ck_Lor (ck_Lshl (ck_Lor (ck_Lshl a0 8) a1) 8) a2) 8) a3) 8) a4)))) w) : ck_Ex (ch_C g A R) (d + 1) mX12_w5 [.inl a0, .inl a1, .inl a2, .inl a3, .inl a4] w K := by
  refine e_X12_w5 hC ?_
  repeat' (first | apply And.intro | intro _)
  all_goals first | omega | (exact cast (congrArg (fun t => K (some (.inr (.inl t))) w) (by omega)) h) | (simp only [] at *; omega) | assumption
theorem dX12_w6_0 : decode cX12_w6 0 = .ok (.iload_n 0, 1) := dk_26 (by decide +kernel)
theorem dX12_w6_1 : decode cX12_w6 1 = .ok (.iload_n 1, 1) := dk_27 (by decide +kernel)
theorem dX12_w6_2 : decode cX12_w6 2 = .ok (.iload_n 2, 1) := dk_28 (by decide +kernel)
theorem dX12_w6_3 : decode cX12_w6 3 = .ok (.iload_n 3, 1) := dk_29 (by decide +kernel)
theorem dX12_w6_4 : decode cX12_w6 4 = .ok (.iload 4, 2) := dk_21 (by decide +kernel)
theorem dX12_w6_6 : decode cX12_w6 6 = .ok (.invokestatic 213, 3) := dk_184 0 213 (by decide +kernel)
theorem dX12_w6_9 : decode cX12_w6 9 = .ok (.bipush 8, 2) := dk_16 8 (by decide +kernel)
theorem dX12_w6_11 : decode cX12_w6 11 = .ok (.lshl, 1) := dk_121 (by decide +kernel)
theorem dX12_w6_12 : decode cX12_w6 12 = .ok (.iload 5, 2) := dk_21 (by decide +kernel)
theorem dX12_w6_14 : decode cX12_w6 14 = .ok (.i2l, 1) := dk_133 (by decide +kernel)
theorem dX12_w6_15 : decode cX12_w6 15 = .ok (.lor, 1) := dk_129 (by decide +kernel)
theorem dX12_w6_16 : decode cX12_w6 16 = .ok (.lreturn, 1) := dk_173 (by decide +kernel)
set_option maxRecDepth 8000 in
theorem e_X12_w6 {g : ch_G} {A R : Nat} (hC : ck_Cx g A R) {d : Nat} {K : Option ck_V → ck_W → Prop} {w : ck_W} {a0 a1 a2 a3 a4 a5 : Int} (h : K (some (.inr (.inl (ck_Lor (ck_Lshl (ck_Lor (ck_Lshl (ck_Lor (ck_Lshl (ck_Lor (ck_Lshl (ck_Lor (ck_Lshl a0 8) a1) 8) a2) 8) a3) 8) a4) 8) a5)))) w) : ck_Ex (ch_C g A R) (d + 2) mX12_w6 [.inl a0, .inl a1, .inl a2, .inl a3, .inl a4, .inl a5] w K :=
  ck_entry hC.1 [some (.inl a0), some (.inl a1), some (.inl a2), some (.inl a3), some (.inl a4), some (.inl a5)] (by decide) (Nat.le_of_ble_eq_true rfl) rfl (fun q => q) (ck_in (fun hl => (ck_iload_n 1 rfl 0 dX12_w6_0 rfl rfl (ck_iload_n 2 rfl 1 dX12_w6_1 rfl rfl (ck_iload_n 3 rfl 2 dX12_w6_2 rfl rfl (ck_iload_n 4 rfl 3 dX12_w6_3 rfl rfl (ck_iload 6 rfl dX12_w6_4 rfl (ck_callS 9 rfl [.inl a0, .inl a1, .inl a2, .inl a3, .inl a4] [] dX12_w6_6 cs_X12_213 rfl rfl (Nat.le_of_ble_eq_true rfl) (And.intro hl.1 (And.intro hl.2.1 (And.intro hl.2.2.1 (And.intro hl.2.2.2.1 (And.intro hl.2.2.2.2.1 True.intro))))) (p_X12_w5 hC (fun q1 => (ck_bipush 11 rfl dX12_w6_9 rfl (ck_lshl 12 rfl dX12_w6_11 (ck_iload 14 rfl dX12_w6_12 rfl (ck_i2l 15 rfl dX12_w6_14 hl.2.2.2.2.2.1 (ck_lor 16 rfl dX12_w6_15 (ck_lret dX12_w6_16 rfl (ck_rngl _) h))))))))))))))))
theorem p_X12_w6 {g : ch_G} {A R : Nat} (hC : ck_Cx g A R) {d : Nat} {K : Option ck_V → ck_W → Prop} {w : ck_W} {a0 a1 a2 a3 a4 a5 : Int} (h : K (some (.inr (.inl (ck_Lor (ck_Lshl (ck_Lor (ck_Lshl (ck_Lor (ck_Lshl (ck_Lor (ck_Lshl (ck_Lor (ck_Lshl a0 8) a1) 8) a2) 8) a3) 8) a4) 8) a5)))) w) : ck_Ex (ch_C g A R) (d + 2) mX12_w6 [.inl a0, .inl a1, .inl a2, .inl a3, .inl a4, .inl a5] w K := by
  refine e_X12_w6 hC ?_
  repeat' (first | apply And.intro | intro _)
  all_goals first | omega | (exact cast (congrArg (fun t => K (some (.inr (.inl t))) w) (by omega)) h) | (simp only [] at *; omega) | assumption
theorem dX12_isWord_0 : decode cX12_isWord 0 = .ok (.aload_n 0, 1) := dk_42 (by decide +kernel)
theorem dX12_isWord_1 : decode cX12_isWord 1 = .ok (.getfield 192, 3) := dk_180 0 192 (by decide +kernel)
theorem dX12_isWord_4 : decode cX12_isWord 4 = .ok (.iconst 2, 1) := dk_5 (by decide +kernel)
theorem dX12_isWord_5 : decode cX12_isWord 5 = .ok (.if_icmp .ne 16, 3) := dk_160 0 16 (by decide +kernel)
theorem dX12_isWord_8 : decode cX12_isWord 8 = .ok (.aload_n 0, 1) := dk_42 (by decide +kernel)
theorem dX12_isWord_9 : decode cX12_isWord 9 = .ok (.getfield 205, 3) := dk_180 0 205 (by decide +kernel)
theorem dX12_isWord_12 : decode cX12_isWord 12 = .ok (.lload_n 1, 1) := dk_31 (by decide +kernel)
theorem dX12_isWord_13 : decode cX12_isWord 13 = .ok (.lcmp, 1) := dk_148 (by decide +kernel)
theorem dX12_isWord_14 : decode cX12_isWord 14 = .ok (.ifCond .ne 7, 3) := dk_154 0 7 (by decide +kernel)
theorem dX12_isWord_17 : decode cX12_isWord 17 = .ok (.iconst 1, 1) := dk_4 (by decide +kernel)
theorem dX12_isWord_18 : decode cX12_isWord 18 = .ok (.goto 4, 3) := dk_167 0 4 (by decide +kernel)
theorem dX12_isWord_21 : decode cX12_isWord 21 = .ok (.iconst 0, 1) := dk_3 (by decide +kernel)
theorem dX12_isWord_22 : decode cX12_isWord 22 = .ok (.ireturn, 1) := dk_172 (by decide +kernel)
set_option maxRecDepth 8000 in
theorem e_X12_isWord {g : ch_G} {A R : Nat} (hC : ck_Cx g A R) {d : Nat} {K : Option ck_V → ck_W → Prop} {w : ck_W} {a1 : Int} (h : (¬ (w 76 21) = 2 → K (some (.inl 0)) w) ∧ ((w 76 21) = 2 → (¬ (w 76 23) = a1 → K (some (.inl 0)) w) ∧ ((w 76 23) = a1 → K (some (.inl 1)) w))) : ck_Ex (ch_C g A R) d mX12_isWord [.inr (.inr 76), .inr (.inl a1)] w K :=
  ck_entry hC.1 [some (.inr (.inr 76)), some (.inr (.inl a1)), none] (by decide) (Nat.le_of_ble_eq_true rfl) rfl (fun q => q) (ck_in (fun hl => (ck_aload_n 1 rfl 0 dX12_isWord_0 rfl rfl (ck_geti 4 rfl 21 dX12_isWord_1 fl_X12_192 sh_76 rfl rfl _ rfl (fun (q1 : ck_i (w 76 21)) => (ck_iconst 5 rfl dX12_isWord_4 rfl (ck_icmp_ne 8 rfl 21 dX12_isWord_5 rfl q1 (show ck_i 2 by decide) (fun c5 => (ck_iconst 22 rfl dX12_isWord_21 rfl (ck_zret dX12_isWord_22 rfl (by decide) (h.1 c5)))) (fun c6 => (ck_aload_n 9 rfl 0 dX12_isWord_8 rfl rfl (ck_getl 12 rfl 23 dX12_isWord_9 fl_X12_205 sh_76 rfl rfl _ rfl (fun (q2 : ck_l (w 76 23)) => (ck_lload_n 13 rfl 1 dX12_isWord_12 rfl rfl (ck_lcmp 14 rfl dX12_isWord_13 q2 hl.2.1 (have h7 := (h.2 c6); (ck_if_ne 17 rfl 21 dX12_isWord_14 rfl ck_cmp_i (fun q => have c3 : ¬ (w 76 23) = a1 := (fun r => q (ck_cmp_eq.mpr r)); (ck_iconst 22 rfl dX12_isWord_21 rfl (ck_zret dX12_isWord_22 rfl (by decide) (h7.1 c3)))) (fun q => have c4 : (w 76 23) = a1 := (ck_cmp_eq.mp q); (ck_iconst 18 rfl dX12_isWord_17 rfl (ck_goto 22 dX12_isWord_18 rfl (ck_zret dX12_isWord_22 rfl (by decide) (h7.2 c4))))))))))))))))))))
theorem p_X12_isWord {g : ch_G} {A R : Nat} (hC : ck_Cx g A R) {d : Nat} {K : Option ck_V → ck_W → Prop} {w : ck_W} {a1 : Int} (h1 : (w 76 21) = 2 ∧ (w 76 23) = a1 → K (some (.inl 1)) w) (h0 : ¬ ((w 76 21) = 2 ∧ (w 76 23) = a1) → K (some (.inl 0)) w) : ck_Ex (ch_C g A R) d mX12_isWord [.inr (.inr 76), .inr (.inl a1)] w K := by
  refine e_X12_isWord hC ?_
  repeat' (first | apply And.intro | intro _)
  all_goals first | omega | exact h1 (by omega) | exact h0 (by omega)
def rm_nm (t x : Int) : Int := if ¬ t = 2 then -1 else if x = ck_Lor (ck_Lshl (ck_Lor (ck_Lshl (ck_Lor (ck_Lshl 103 8) 114) 8) 101) 8) 121 then 0
  else if x = ck_Lor (ck_Lshl (ck_Lor (ck_Lshl (ck_Lor (ck_Lshl (ck_Lor (ck_Lshl 99 8) 114) 8) 97) 8) 99) 8) 107 then 1
  else if x = ck_Lor (ck_Lshl (ck_Lor (ck_Lshl (ck_Lor (ck_Lshl (ck_Lor (ck_Lshl (ck_Lor (ck_Lshl 114 8) 97) 8) 100) 8) 105) 8) 117) 8) 115 then 2
  else if x = ck_Lor (ck_Lshl (ck_Lor (ck_Lshl (ck_Lor (ck_Lshl 116 8) 117) 8) 114) 8) 110 then 3
  else if x = ck_Lor (ck_Lshl (ck_Lor (ck_Lshl (ck_Lor (ck_Lshl (ck_Lor (ck_Lshl 97 8) 110) 8) 103) 8) 108) 8) 101 then 4
  else if x = ck_Lor (ck_Lshl (ck_Lor (ck_Lshl (ck_Lor (ck_Lshl (ck_Lor (ck_Lshl 115 8) 108) 8) 105) 8) 99) 8) 101 then 5
  else if x = 26990 then 6
  else if x = ck_Lor (ck_Lshl (ck_Lor (ck_Lshl 111 8) 117) 8) 116 then 7
  else if x = ck_Lor (ck_Lshl (ck_Lor (ck_Lshl (ck_Lor (ck_Lshl (ck_Lor (ck_Lshl 115 8) 104) 8) 97) 8) 114) 8) 112 then 8 else -1
theorem rm_nmb (t x : Int) : (-1 ≤ rm_nm t x ∧ rm_nm t x ≤ 8) ∧ (0 ≤ rm_nm t x → t = 2) := by
  unfold rm_nm
  by_cases h : ¬ t = 2
  · rw [if_pos h]; omega
  · rw [if_neg h]
    refine ⟨?_, fun _ => by omega⟩
    repeat (first | omega | split)
theorem dX12_nameOf_0 : decode cX12_nameOf 0 = .ok (.aload_n 0, 1) := dk_42 (by decide +kernel)
theorem dX12_nameOf_1 : decode cX12_nameOf 1 = .ok (.getfield 192, 3) := dk_180 0 192 (by decide +kernel)
theorem dX12_nameOf_4 : decode cX12_nameOf 4 = .ok (.iconst 2, 1) := dk_5 (by decide +kernel)
theorem dX12_nameOf_5 : decode cX12_nameOf 5 = .ok (.if_icmp .eq 5, 3) := dk_159 0 5 (by decide +kernel)
theorem dX12_nameOf_8 : decode cX12_nameOf 8 = .ok (.iconst (-1), 1) := dk_2 (by decide +kernel)
theorem dX12_nameOf_9 : decode cX12_nameOf 9 = .ok (.ireturn, 1) := dk_172 (by decide +kernel)
theorem dX12_nameOf_10 : decode cX12_nameOf 10 = .ok (.aload_n 0, 1) := dk_42 (by decide +kernel)
theorem dX12_nameOf_11 : decode cX12_nameOf 11 = .ok (.getfield 205, 3) := dk_180 0 205 (by decide +kernel)
theorem dX12_nameOf_14 : decode cX12_nameOf 14 = .ok (.bipush 103, 2) := dk_16 103 (by decide +kernel)
theorem dX12_nameOf_16 : decode cX12_nameOf 16 = .ok (.bipush 114, 2) := dk_16 114 (by decide +kernel)
theorem dX12_nameOf_18 : decode cX12_nameOf 18 = .ok (.bipush 101, 2) := dk_16 101 (by decide +kernel)
theorem dX12_nameOf_20 : decode cX12_nameOf 20 = .ok (.bipush 121, 2) := dk_16 121 (by decide +kernel)
theorem dX12_nameOf_22 : decode cX12_nameOf 22 = .ok (.invokestatic 236, 3) := dk_184 0 236 (by decide +kernel)
theorem dX12_nameOf_25 : decode cX12_nameOf 25 = .ok (.lcmp, 1) := dk_148 (by decide +kernel)
theorem dX12_nameOf_26 : decode cX12_nameOf 26 = .ok (.ifCond .ne 5, 3) := dk_154 0 5 (by decide +kernel)
theorem dX12_nameOf_29 : decode cX12_nameOf 29 = .ok (.iconst 0, 1) := dk_3 (by decide +kernel)
theorem dX12_nameOf_30 : decode cX12_nameOf 30 = .ok (.ireturn, 1) := dk_172 (by decide +kernel)
theorem dX12_nameOf_31 : decode cX12_nameOf 31 = .ok (.aload_n 0, 1) := dk_42 (by decide +kernel)
theorem dX12_nameOf_32 : decode cX12_nameOf 32 = .ok (.getfield 205, 3) := dk_180 0 205 (by decide +kernel)
theorem dX12_nameOf_35 : decode cX12_nameOf 35 = .ok (.bipush 99, 2) := dk_16 99 (by decide +kernel)
theorem dX12_nameOf_37 : decode cX12_nameOf 37 = .ok (.bipush 114, 2) := dk_16 114 (by decide +kernel)
theorem dX12_nameOf_39 : decode cX12_nameOf 39 = .ok (.bipush 97, 2) := dk_16 97 (by decide +kernel)
theorem dX12_nameOf_41 : decode cX12_nameOf 41 = .ok (.bipush 99, 2) := dk_16 99 (by decide +kernel)
theorem dX12_nameOf_43 : decode cX12_nameOf 43 = .ok (.bipush 107, 2) := dk_16 107 (by decide +kernel)
theorem dX12_nameOf_45 : decode cX12_nameOf 45 = .ok (.invokestatic 213, 3) := dk_184 0 213 (by decide +kernel)
theorem dX12_nameOf_48 : decode cX12_nameOf 48 = .ok (.lcmp, 1) := dk_148 (by decide +kernel)
theorem dX12_nameOf_49 : decode cX12_nameOf 49 = .ok (.ifCond .ne 5, 3) := dk_154 0 5 (by decide +kernel)
theorem dX12_nameOf_52 : decode cX12_nameOf 52 = .ok (.iconst 1, 1) := dk_4 (by decide +kernel)
theorem dX12_nameOf_53 : decode cX12_nameOf 53 = .ok (.ireturn, 1) := dk_172 (by decide +kernel)
theorem dX12_nameOf_54 : decode cX12_nameOf 54 = .ok (.aload_n 0, 1) := dk_42 (by decide +kernel)
theorem dX12_nameOf_55 : decode cX12_nameOf 55 = .ok (.getfield 205, 3) := dk_180 0 205 (by decide +kernel)
theorem dX12_nameOf_58 : decode cX12_nameOf 58 = .ok (.bipush 114, 2) := dk_16 114 (by decide +kernel)
theorem dX12_nameOf_60 : decode cX12_nameOf 60 = .ok (.bipush 97, 2) := dk_16 97 (by decide +kernel)
theorem dX12_nameOf_62 : decode cX12_nameOf 62 = .ok (.bipush 100, 2) := dk_16 100 (by decide +kernel)
theorem dX12_nameOf_64 : decode cX12_nameOf 64 = .ok (.bipush 105, 2) := dk_16 105 (by decide +kernel)
theorem dX12_nameOf_66 : decode cX12_nameOf 66 = .ok (.bipush 117, 2) := dk_16 117 (by decide +kernel)
theorem dX12_nameOf_68 : decode cX12_nameOf 68 = .ok (.bipush 115, 2) := dk_16 115 (by decide +kernel)
theorem dX12_nameOf_70 : decode cX12_nameOf 70 = .ok (.invokestatic 240, 3) := dk_184 0 240 (by decide +kernel)
theorem dX12_nameOf_73 : decode cX12_nameOf 73 = .ok (.lcmp, 1) := dk_148 (by decide +kernel)
theorem dX12_nameOf_74 : decode cX12_nameOf 74 = .ok (.ifCond .ne 5, 3) := dk_154 0 5 (by decide +kernel)
theorem dX12_nameOf_77 : decode cX12_nameOf 77 = .ok (.iconst 2, 1) := dk_5 (by decide +kernel)
theorem dX12_nameOf_78 : decode cX12_nameOf 78 = .ok (.ireturn, 1) := dk_172 (by decide +kernel)
theorem dX12_nameOf_79 : decode cX12_nameOf 79 = .ok (.aload_n 0, 1) := dk_42 (by decide +kernel)
theorem dX12_nameOf_80 : decode cX12_nameOf 80 = .ok (.getfield 205, 3) := dk_180 0 205 (by decide +kernel)
theorem dX12_nameOf_83 : decode cX12_nameOf 83 = .ok (.bipush 116, 2) := dk_16 116 (by decide +kernel)
theorem dX12_nameOf_85 : decode cX12_nameOf 85 = .ok (.bipush 117, 2) := dk_16 117 (by decide +kernel)
theorem dX12_nameOf_87 : decode cX12_nameOf 87 = .ok (.bipush 114, 2) := dk_16 114 (by decide +kernel)
theorem dX12_nameOf_89 : decode cX12_nameOf 89 = .ok (.bipush 110, 2) := dk_16 110 (by decide +kernel)
theorem dX12_nameOf_91 : decode cX12_nameOf 91 = .ok (.invokestatic 236, 3) := dk_184 0 236 (by decide +kernel)
theorem dX12_nameOf_94 : decode cX12_nameOf 94 = .ok (.lcmp, 1) := dk_148 (by decide +kernel)
theorem dX12_nameOf_95 : decode cX12_nameOf 95 = .ok (.ifCond .ne 5, 3) := dk_154 0 5 (by decide +kernel)
theorem dX12_nameOf_98 : decode cX12_nameOf 98 = .ok (.iconst 3, 1) := dk_6 (by decide +kernel)
theorem dX12_nameOf_99 : decode cX12_nameOf 99 = .ok (.ireturn, 1) := dk_172 (by decide +kernel)
theorem dX12_nameOf_100 : decode cX12_nameOf 100 = .ok (.aload_n 0, 1) := dk_42 (by decide +kernel)
theorem dX12_nameOf_101 : decode cX12_nameOf 101 = .ok (.getfield 205, 3) := dk_180 0 205 (by decide +kernel)
theorem dX12_nameOf_104 : decode cX12_nameOf 104 = .ok (.bipush 97, 2) := dk_16 97 (by decide +kernel)
theorem dX12_nameOf_106 : decode cX12_nameOf 106 = .ok (.bipush 110, 2) := dk_16 110 (by decide +kernel)
theorem dX12_nameOf_108 : decode cX12_nameOf 108 = .ok (.bipush 103, 2) := dk_16 103 (by decide +kernel)
theorem dX12_nameOf_110 : decode cX12_nameOf 110 = .ok (.bipush 108, 2) := dk_16 108 (by decide +kernel)
theorem dX12_nameOf_112 : decode cX12_nameOf 112 = .ok (.bipush 101, 2) := dk_16 101 (by decide +kernel)
theorem dX12_nameOf_114 : decode cX12_nameOf 114 = .ok (.invokestatic 213, 3) := dk_184 0 213 (by decide +kernel)
theorem dX12_nameOf_117 : decode cX12_nameOf 117 = .ok (.lcmp, 1) := dk_148 (by decide +kernel)
theorem dX12_nameOf_118 : decode cX12_nameOf 118 = .ok (.ifCond .ne 5, 3) := dk_154 0 5 (by decide +kernel)
theorem dX12_nameOf_121 : decode cX12_nameOf 121 = .ok (.iconst 4, 1) := dk_7 (by decide +kernel)
theorem dX12_nameOf_122 : decode cX12_nameOf 122 = .ok (.ireturn, 1) := dk_172 (by decide +kernel)
theorem dX12_nameOf_123 : decode cX12_nameOf 123 = .ok (.aload_n 0, 1) := dk_42 (by decide +kernel)
theorem dX12_nameOf_124 : decode cX12_nameOf 124 = .ok (.getfield 205, 3) := dk_180 0 205 (by decide +kernel)
theorem dX12_nameOf_127 : decode cX12_nameOf 127 = .ok (.bipush 115, 2) := dk_16 115 (by decide +kernel)
theorem dX12_nameOf_129 : decode cX12_nameOf 129 = .ok (.bipush 108, 2) := dk_16 108 (by decide +kernel)
theorem dX12_nameOf_131 : decode cX12_nameOf 131 = .ok (.bipush 105, 2) := dk_16 105 (by decide +kernel)
theorem dX12_nameOf_133 : decode cX12_nameOf 133 = .ok (.bipush 99, 2) := dk_16 99 (by decide +kernel)
theorem dX12_nameOf_135 : decode cX12_nameOf 135 = .ok (.bipush 101, 2) := dk_16 101 (by decide +kernel)
theorem dX12_nameOf_137 : decode cX12_nameOf 137 = .ok (.invokestatic 213, 3) := dk_184 0 213 (by decide +kernel)
theorem dX12_nameOf_140 : decode cX12_nameOf 140 = .ok (.lcmp, 1) := dk_148 (by decide +kernel)
theorem dX12_nameOf_141 : decode cX12_nameOf 141 = .ok (.ifCond .ne 5, 3) := dk_154 0 5 (by decide +kernel)
theorem dX12_nameOf_144 : decode cX12_nameOf 144 = .ok (.iconst 5, 1) := dk_8 (by decide +kernel)
theorem dX12_nameOf_145 : decode cX12_nameOf 145 = .ok (.ireturn, 1) := dk_172 (by decide +kernel)
theorem dX12_nameOf_146 : decode cX12_nameOf 146 = .ok (.aload_n 0, 1) := dk_42 (by decide +kernel)
theorem dX12_nameOf_147 : decode cX12_nameOf 147 = .ok (.getfield 205, 3) := dk_180 0 205 (by decide +kernel)
theorem dX12_nameOf_150 : decode cX12_nameOf 150 = .ok (.ldc2_w 244, 3) := dk_20 0 244 (by decide +kernel)
theorem dX12_nameOf_153 : decode cX12_nameOf 153 = .ok (.lcmp, 1) := dk_148 (by decide +kernel)
theorem dX12_nameOf_154 : decode cX12_nameOf 154 = .ok (.ifCond .ne 6, 3) := dk_154 0 6 (by decide +kernel)
theorem dX12_nameOf_157 : decode cX12_nameOf 157 = .ok (.bipush 6, 2) := dk_16 6 (by decide +kernel)
theorem dX12_nameOf_159 : decode cX12_nameOf 159 = .ok (.ireturn, 1) := dk_172 (by decide +kernel)
theorem dX12_nameOf_160 : decode cX12_nameOf 160 = .ok (.aload_n 0, 1) := dk_42 (by decide +kernel)
theorem dX12_nameOf_161 : decode cX12_nameOf 161 = .ok (.getfield 205, 3) := dk_180 0 205 (by decide +kernel)
theorem dX12_nameOf_164 : decode cX12_nameOf 164 = .ok (.bipush 111, 2) := dk_16 111 (by decide +kernel)
theorem dX12_nameOf_166 : decode cX12_nameOf 166 = .ok (.bipush 117, 2) := dk_16 117 (by decide +kernel)
theorem dX12_nameOf_168 : decode cX12_nameOf 168 = .ok (.bipush 116, 2) := dk_16 116 (by decide +kernel)
theorem dX12_nameOf_170 : decode cX12_nameOf 170 = .ok (.invokestatic 209, 3) := dk_184 0 209 (by decide +kernel)
theorem dX12_nameOf_173 : decode cX12_nameOf 173 = .ok (.lcmp, 1) := dk_148 (by decide +kernel)
theorem dX12_nameOf_174 : decode cX12_nameOf 174 = .ok (.ifCond .ne 8, 3) := dk_154 0 8 (by decide +kernel)
theorem dX12_nameOf_177 : decode cX12_nameOf 177 = .ok (.bipush 7, 2) := dk_16 7 (by decide +kernel)
theorem dX12_nameOf_179 : decode cX12_nameOf 179 = .ok (.goto 30, 3) := dk_167 0 30 (by decide +kernel)
theorem dX12_nameOf_182 : decode cX12_nameOf 182 = .ok (.aload_n 0, 1) := dk_42 (by decide +kernel)
theorem dX12_nameOf_183 : decode cX12_nameOf 183 = .ok (.getfield 205, 3) := dk_180 0 205 (by decide +kernel)
theorem dX12_nameOf_186 : decode cX12_nameOf 186 = .ok (.bipush 115, 2) := dk_16 115 (by decide +kernel)
theorem dX12_nameOf_188 : decode cX12_nameOf 188 = .ok (.bipush 104, 2) := dk_16 104 (by decide +kernel)
theorem dX12_nameOf_190 : decode cX12_nameOf 190 = .ok (.bipush 97, 2) := dk_16 97 (by decide +kernel)
theorem dX12_nameOf_192 : decode cX12_nameOf 192 = .ok (.bipush 114, 2) := dk_16 114 (by decide +kernel)
theorem dX12_nameOf_194 : decode cX12_nameOf 194 = .ok (.bipush 112, 2) := dk_16 112 (by decide +kernel)
theorem dX12_nameOf_196 : decode cX12_nameOf 196 = .ok (.invokestatic 213, 3) := dk_184 0 213 (by decide +kernel)
theorem dX12_nameOf_199 : decode cX12_nameOf 199 = .ok (.lcmp, 1) := dk_148 (by decide +kernel)
theorem dX12_nameOf_200 : decode cX12_nameOf 200 = .ok (.ifCond .ne 8, 3) := dk_154 0 8 (by decide +kernel)
theorem dX12_nameOf_203 : decode cX12_nameOf 203 = .ok (.bipush 8, 2) := dk_16 8 (by decide +kernel)
theorem dX12_nameOf_205 : decode cX12_nameOf 205 = .ok (.goto 4, 3) := dk_167 0 4 (by decide +kernel)
theorem dX12_nameOf_208 : decode cX12_nameOf 208 = .ok (.iconst (-1), 1) := dk_2 (by decide +kernel)
theorem dX12_nameOf_209 : decode cX12_nameOf 209 = .ok (.ireturn, 1) := dk_172 (by decide +kernel)
set_option maxRecDepth 8000 in
theorem e_X12_nameOf {g : ch_G} {A R : Nat} (hC : ck_Cx g A R) {d : Nat} {K : Option ck_V → ck_W → Prop} {w : ck_W} (h : ((w 76 21) = 2 → (¬ (w 76 23) = (ck_Lor (ck_Lshl (ck_Lor (ck_Lshl (ck_Lor (ck_Lshl 103 8) 114) 8) 101) 8) 121) → (¬ (w 76 23) = (ck_Lor (ck_Lshl (ck_Lor (ck_Lshl (ck_Lor (ck_Lshl (ck_Lor (ck_Lshl 99 8) 114) 8) 97) 8) 99) 8) 107) → (¬ (w 76 23) = (ck_Lor (ck_Lshl (ck_Lor (ck_Lshl (ck_Lor (ck_Lshl (ck_Lor (ck_Lshl (ck_Lor (ck_Lshl 114 8) 97) 8) 100) 8) 105) 8) 117) 8) 115) → (¬ (w 76 23) = (ck_Lor (ck_Lshl (ck_Lor (ck_Lshl (ck_Lor (ck_Lshl 116 8) 117) 8) 114) 8) 110) → (¬ (w 76 23) = (ck_Lor (ck_Lshl (ck_Lor (ck_Lshl (ck_Lor (ck_Lshl (ck_Lor (ck_Lshl 97 8) 110) 8) 103) 8) 108) 8) 101) → (¬ (w 76 23) = (ck_Lor (ck_Lshl (ck_Lor (ck_Lshl (ck_Lor (ck_Lshl (ck_Lor (ck_Lshl 115 8) 108) 8) 105) 8) 99) 8) 101) → (¬ (w 76 23) = 26990 → (¬ (w 76 23) = (ck_Lor (ck_Lshl (ck_Lor (ck_Lshl 111 8) 117) 8) 116) → (¬ (w 76 23) = (ck_Lor (ck_Lshl (ck_Lor (ck_Lshl (ck_Lor (ck_Lshl (ck_Lor (ck_Lshl 115 8) 104) 8) 97) 8) 114) 8) 112) → K (some (.inl (-1))) w) ∧ ((w 76 23) = (ck_Lor (ck_Lshl (ck_Lor (ck_Lshl (ck_Lor (ck_Lshl (ck_Lor (ck_Lshl 115 8) 104) 8) 97) 8) 114) 8) 112) → K (some (.inl 8)) w)) ∧ ((w 76 23) = (ck_Lor (ck_Lshl (ck_Lor (ck_Lshl 111 8) 117) 8) 116) → K (some (.inl 7)) w)) ∧ ((w 76 23) = 26990 → K (some (.inl 6)) w)) ∧ ((w 76 23) = (ck_Lor (ck_Lshl (ck_Lor (ck_Lshl (ck_Lor (ck_Lshl (ck_Lor (ck_Lshl 115 8) 108) 8) 105) 8) 99) 8) 101) → K (some (.inl 5)) w)) ∧ ((w 76 23) = (ck_Lor (ck_Lshl (ck_Lor (ck_Lshl (ck_Lor (ck_Lshl (ck_Lor (ck_Lshl 97 8) 110) 8) 103) 8) 108) 8) 101) → K (some (.inl 4)) w)) ∧ ((w 76 23) = (ck_Lor (ck_Lshl (ck_Lor (ck_Lshl (ck_Lor (ck_Lshl 116 8) 117) 8) 114) 8) 110) → K (some (.inl 3)) w)) ∧ ((w 76 23) = (ck_Lor (ck_Lshl (ck_Lor (ck_Lshl (ck_Lor (ck_Lshl (ck_Lor (ck_Lshl (ck_Lor (ck_Lshl 114 8) 97) 8) 100) 8) 105) 8) 117) 8) 115) → K (some (.inl 2)) w)) ∧ ((w 76 23) = (ck_Lor (ck_Lshl (ck_Lor (ck_Lshl (ck_Lor (ck_Lshl (ck_Lor (ck_Lshl 99 8) 114) 8) 97) 8) 99) 8) 107) → K (some (.inl 1)) w)) ∧ ((w 76 23) = (ck_Lor (ck_Lshl (ck_Lor (ck_Lshl (ck_Lor (ck_Lshl 103 8) 114) 8) 101) 8) 121) → K (some (.inl 0)) w)) ∧ (¬ (w 76 21) = 2 → K (some (.inl (-1))) w)) : ck_Ex (ch_C g A R) (d + 3) mX12_nameOf [.inr (.inr 76)] w K :=
  ck_entry hC.1 [some (.inr (.inr 76))] (by decide) (Nat.le_of_ble_eq_true rfl) rfl (fun q => q) (ck_in (fun hl => (ck_aload_n 1 rfl 0 dX12_nameOf_0 rfl rfl (ck_geti 4 rfl 21 dX12_nameOf_1 fl_X12_192 sh_76 rfl rfl _ rfl (fun (q1 : ck_i (w 76 21)) => (ck_iconst 5 rfl dX12_nameOf_4 rfl (ck_icmp_eq 8 rfl 10 dX12_nameOf_5 rfl q1 (show ck_i 2 by decide) (fun c37 => (ck_aload_n 11 rfl 0 dX12_nameOf_10 rfl rfl (ck_getl 14 rfl 23 dX12_nameOf_11 fl_X12_205 sh_76 rfl rfl _ rfl (fun (q2 : ck_l (w 76 23)) => (ck_bipush 16 rfl dX12_nameOf_14 rfl (ck_bipush 18 rfl dX12_nameOf_16 rfl (ck_bipush 20 rfl dX12_nameOf_18 rfl (ck_bipush 22 rfl dX12_nameOf_20 rfl (ck_callS 25 rfl [.inl 103, .inl 114, .inl 101, .inl 121] [.inr (.inl (w 76 23))] dX12_nameOf_22 cs_X12_236 rfl rfl (Nat.le_of_ble_eq_true rfl) (And.intro (show ck_i 103 by decide) (And.intro (show ck_i 114 by decide) (And.intro (show ck_i 101 by decide) (And.intro (show ck_i 121 by decide) True.intro)))) (p_X12_w4 hC (fun q3 => (ck_lcmp 26 rfl dX12_nameOf_25 q2 q3.1 (have h39 := (h.1 c37); (ck_if_ne 29 rfl 31 dX12_nameOf_26 rfl ck_cmp_i (fun q => have c35 : ¬ (w 76 23) = (ck_Lor (ck_Lshl (ck_Lor (ck_Lshl (ck_Lor (ck_Lshl 103 8) 114) 8) 101) 8) 121) := (fun r => q (ck_cmp_eq.mpr r)); (ck_aload_n 32 rfl 0 dX12_nameOf_31 rfl rfl (ck_getl 35 rfl 23 dX12_nameOf_32 fl_X12_205 sh_76 rfl rfl _ rfl (fun (q4 : ck_l (w 76 23)) => (ck_bipush 37 rfl dX12_nameOf_35 rfl (ck_bipush 39 rfl dX12_nameOf_37 rfl (ck_bipush 41 rfl dX12_nameOf_39 rfl (ck_bipush 43 rfl dX12_nameOf_41 rfl (ck_bipush 45 rfl dX12_nameOf_43 rfl (ck_callS 48 rfl [.inl 99, .inl 114, .inl 97, .inl 99, .inl 107] [.inr (.inl (w 76 23))] dX12_nameOf_45 cs_X12_213 rfl rfl (Nat.le_of_ble_eq_true rfl) (And.intro (show ck_i 99 by decide) (And.intro (show ck_i 114 by decide) (And.intro (show ck_i 97 by decide) (And.intro (show ck_i 99 by decide) (And.intro (show ck_i 107 by decide) True.intro))))) (p_X12_w5 hC (fun q5 => (ck_lcmp 49 rfl dX12_nameOf_48 q4 q5.1 (have h40 := (h39.1 c35); (ck_if_ne 52 rfl 54 dX12_nameOf_49 rfl ck_cmp_i (fun q => have c33 : ¬ (w 76 23) = (ck_Lor (ck_Lshl (ck_Lor (ck_Lshl (ck_Lor (ck_Lshl (ck_Lor (ck_Lshl 99 8) 114) 8) 97) 8) 99) 8) 107) := (fun r => q (ck_cmp_eq.mpr r)); (ck_aload_n 55 rfl 0 dX12_nameOf_54 rfl rfl (ck_getl 58 rfl 23 dX12_nameOf_55 fl_X12_205 sh_76 rfl rfl _ rfl (fun (q6 : ck_l (w 76 23)) => (ck_bipush 60 rfl dX12_nameOf_58 rfl (ck_bipush 62 rfl dX12_nameOf_60 rfl (ck_bipush 64 rfl dX12_nameOf_62 rfl (ck_bipush 66 rfl dX12_nameOf_64 rfl (ck_bipush 68 rfl dX12_nameOf_66 rfl (ck_bipush 70 rfl dX12_nameOf_68 rfl (ck_callS 73 rfl [.inl 114, .inl 97, .inl 100, .inl 105, .inl 117, .inl 115] [.inr (.inl (w 76 23))] dX12_nameOf_70 cs_X12_240 rfl rfl (Nat.le_of_ble_eq_true rfl) (And.intro (show ck_i 114 by decide) (And.intro (show ck_i 97 by decide) (And.intro (show ck_i 100 by decide) (And.intro (show ck_i 105 by decide) (And.intro (show ck_i 117 by decide) (And.intro (show ck_i 115 by decide) True.intro)))))) (p_X12_w6 hC (fun q7 => (ck_lcmp 74 rfl dX12_nameOf_73 q6 q7.1 (have h41 := (h40.1 c33); (ck_if_ne 77 rfl 79 dX12_nameOf_74 rfl ck_cmp_i (fun q => have c31 : ¬ (w 76 23) = (ck_Lor (ck_Lshl (ck_Lor (ck_Lshl (ck_Lor (ck_Lshl (ck_Lor (ck_Lshl (ck_Lor (ck_Lshl 114 8) 97) 8) 100) 8) 105) 8) 117) 8) 115) := (fun r => q (ck_cmp_eq.mpr r)); (ck_aload_n 80 rfl 0 dX12_nameOf_79 rfl rfl (ck_getl 83 rfl 23 dX12_nameOf_80 fl_X12_205 sh_76 rfl rfl _ rfl (fun (q8 : ck_l (w 76 23)) => (ck_bipush 85 rfl dX12_nameOf_83 rfl (ck_bipush 87 rfl dX12_nameOf_85 rfl (ck_bipush 89 rfl dX12_nameOf_87 rfl (ck_bipush 91 rfl dX12_nameOf_89 rfl (ck_callS 94 rfl [.inl 116, .inl 117, .inl 114, .inl 110] [.inr (.inl (w 76 23))] dX12_nameOf_91 cs_X12_236 rfl rfl (Nat.le_of_ble_eq_true rfl) (And.intro (show ck_i 116 by decide) (And.intro (show ck_i 117 by decide) (And.intro (show ck_i 114 by decide) (And.intro (show ck_i 110 by decide) True.intro)))) (p_X12_w4 hC (fun q9 => (ck_lcmp 95 rfl dX12_nameOf_94 q8 q9.1 (have h42 := (h41.1 c31); (ck_if_ne 98 rfl 100 dX12_nameOf_95 rfl ck_cmp_i (fun q => have c29 : ¬ (w 76 23) = (ck_Lor (ck_Lshl (ck_Lor (ck_Lshl (ck_Lor (ck_Lshl 116 8) 117) 8) 114) 8) 110) := (fun r => q (ck_cmp_eq.mpr r)); (ck_aload_n 101 rfl 0 dX12_nameOf_100 rfl rfl (ck_getl 104 rfl 23 dX12_nameOf_101 fl_X12_205 sh_76 rfl rfl _ rfl (fun (q10 : ck_l (w 76 23)) => (ck_bipush 106 rfl dX12_nameOf_104 rfl (ck_bipush 108 rfl dX12_nameOf_106 rfl (ck_bipush 110 rfl dX12_nameOf_108 rfl (ck_bipush 112 rfl dX12_nameOf_110 rfl (ck_bipush 114 rfl dX12_nameOf_112 rfl (ck_callS 117 rfl [.inl 97, .inl 110, .inl 103, .inl 108, .inl 101] [.inr (.inl (w 76 23))] dX12_nameOf_114 cs_X12_213 rfl rfl (Nat.le_of_ble_eq_true rfl) (And.intro (show ck_i 97 by decide) (And.intro (show ck_i 110 by decide) (And.intro (show ck_i 103 by decide) (And.intro (show ck_i 108 by decide) (And.intro (show ck_i 101 by decide) True.intro))))) (p_X12_w5 hC (fun q11 => (ck_lcmp 118 rfl dX12_nameOf_117 q10 q11.1 (have h43 := (h42.1 c29); (ck_if_ne 121 rfl 123 dX12_nameOf_118 rfl ck_cmp_i (fun q => have c27 : ¬ (w 76 23) = (ck_Lor (ck_Lshl (ck_Lor (ck_Lshl (ck_Lor (ck_Lshl (ck_Lor (ck_Lshl 97 8) 110) 8) 103) 8) 108) 8) 101) := (fun r => q (ck_cmp_eq.mpr r)); (ck_aload_n 124 rfl 0 dX12_nameOf_123 rfl rfl (ck_getl 127 rfl 23 dX12_nameOf_124 fl_X12_205 sh_76 rfl rfl _ rfl (fun (q12 : ck_l (w 76 23)) => (ck_bipush 129 rfl dX12_nameOf_127 rfl (ck_bipush 131 rfl dX12_nameOf_129 rfl (ck_bipush 133 rfl dX12_nameOf_131 rfl (ck_bipush 135 rfl dX12_nameOf_133 rfl (ck_bipush 137 rfl dX12_nameOf_135 rfl (ck_callS 140 rfl [.inl 115, .inl 108, .inl 105, .inl 99, .inl 101] [.inr (.inl (w 76 23))] dX12_nameOf_137 cs_X12_213 rfl rfl (Nat.le_of_ble_eq_true rfl) (And.intro (show ck_i 115 by decide) (And.intro (show ck_i 108 by decide) (And.intro (show ck_i 105 by decide) (And.intro (show ck_i 99 by decide) (And.intro (show ck_i 101 by decide) True.intro))))) (p_X12_w5 hC (fun q13 => (ck_lcmp 141 rfl dX12_nameOf_140 q12 q13.1 (have h44 := (h43.1 c27); (ck_if_ne 144 rfl 146 dX12_nameOf_141 rfl ck_cmp_i (fun q => have c25 : ¬ (w 76 23) = (ck_Lor (ck_Lshl (ck_Lor (ck_Lshl (ck_Lor (ck_Lshl (ck_Lor (ck_Lshl 115 8) 108) 8) 105) 8) 99) 8) 101) := (fun r => q (ck_cmp_eq.mpr r)); (ck_aload_n 147 rfl 0 dX12_nameOf_146 rfl rfl (ck_getl 150 rfl 23 dX12_nameOf_147 fl_X12_205 sh_76 rfl rfl _ rfl (fun (q14 : ck_l (w 76 23)) => (ck_ldc2 153 rfl 26990 kl_X12_244 dX12_nameOf_150 rfl (ck_lcmp 154 rfl dX12_nameOf_153 q14 (show ck_l 26990 by decide) (have h45 := (h44.1 c25); (ck_if_ne 157 rfl 160 dX12_nameOf_154 rfl ck_cmp_i (fun q => have c23 : ¬ (w 76 23) = 26990 := (fun r => q (ck_cmp_eq.mpr r)); (ck_aload_n 161 rfl 0 dX12_nameOf_160 rfl rfl (ck_getl 164 rfl 23 dX12_nameOf_161 fl_X12_205 sh_76 rfl rfl _ rfl (fun (q15 : ck_l (w 76 23)) => (ck_bipush 166 rfl dX12_nameOf_164 rfl (ck_bipush 168 rfl dX12_nameOf_166 rfl (ck_bipush 170 rfl dX12_nameOf_168 rfl (ck_callS 173 rfl [.inl 111, .inl 117, .inl 116] [.inr (.inl (w 76 23))] dX12_nameOf_170 cs_X12_209 rfl rfl (Nat.le_of_ble_eq_true rfl) (And.intro (show ck_i 111 by decide) (And.intro (show ck_i 117 by decide) (And.intro (show ck_i 116 by decide) True.intro))) (p_X12_w3 hC (fun q16 => (ck_lcmp 174 rfl dX12_nameOf_173 q15 q16.1 (have h46 := (h45.1 c23); (ck_if_ne 177 rfl 182 dX12_nameOf_174 rfl ck_cmp_i (fun q => have c21 : ¬ (w 76 23) = (ck_Lor (ck_Lshl (ck_Lor (ck_Lshl 111 8) 117) 8) 116) := (fun r => q (ck_cmp_eq.mpr r)); (ck_aload_n 183 rfl 0 dX12_nameOf_182 rfl rfl (ck_getl 186 rfl 23 dX12_nameOf_183 fl_X12_205 sh_76 rfl rfl _ rfl (fun (q17 : ck_l (w 76 23)) => (ck_bipush 188 rfl dX12_nameOf_186 rfl (ck_bipush 190 rfl dX12_nameOf_188 rfl (ck_bipush 192 rfl dX12_nameOf_190 rfl (ck_bipush 194 rfl dX12_nameOf_192 rfl (ck_bipush 196 rfl dX12_nameOf_194 rfl (ck_callS 199 rfl [.inl 115, .inl 104, .inl 97, .inl 114, .inl 112] [.inr (.inl (w 76 23))] dX12_nameOf_196 cs_X12_213 rfl rfl (Nat.le_of_ble_eq_true rfl) (And.intro (show ck_i 115 by decide) (And.intro (show ck_i 104 by decide) (And.intro (show ck_i 97 by decide) (And.intro (show ck_i 114 by decide) (And.intro (show ck_i 112 by decide) True.intro))))) (p_X12_w5 hC (fun q18 => (ck_lcmp 200 rfl dX12_nameOf_199 q17 q18.1 (have h47 := (h46.1 c21); (ck_if_ne 203 rfl 208 dX12_nameOf_200 rfl ck_cmp_i (fun q => have c19 : ¬ (w 76 23) = (ck_Lor (ck_Lshl (ck_Lor (ck_Lshl (ck_Lor (ck_Lshl (ck_Lor (ck_Lshl 115 8) 104) 8) 97) 8) 114) 8) 112) := (fun r => q (ck_cmp_eq.mpr r)); (ck_iconst 209 rfl dX12_nameOf_208 rfl (ck_iret dX12_nameOf_209 rfl (show ck_i (-1) by decide) (h47.1 c19)))) (fun q => have c20 : (w 76 23) = (ck_Lor (ck_Lshl (ck_Lor (ck_Lshl (ck_Lor (ck_Lshl (ck_Lor (ck_Lshl 115 8) 104) 8) 97) 8) 114) 8) 112) := (ck_cmp_eq.mp q); (ck_bipush 205 rfl dX12_nameOf_203 rfl (ck_goto 209 dX12_nameOf_205 rfl (ck_iret dX12_nameOf_209 rfl (show ck_i 8 by decide) (h47.2 c20)))))))))))))))))))) (fun q => have c22 : (w 76 23) = (ck_Lor (ck_Lshl (ck_Lor (ck_Lshl 111 8) 117) 8) 116) := (ck_cmp_eq.mp q); (ck_bipush 179 rfl dX12_nameOf_177 rfl (ck_goto 209 dX12_nameOf_179 rfl (ck_iret dX12_nameOf_209 rfl (show ck_i 7 by decide) (h46.2 c22)))))))))))))))))) (fun q => have c24 : (w 76 23) = 26990 := (ck_cmp_eq.mp q); (ck_bipush 159 rfl dX12_nameOf_157 rfl (ck_iret dX12_nameOf_159 rfl (show ck_i 6 by decide) (h45.2 c24)))))))))))) (fun q => have c26 : (w 76 23) = (ck_Lor (ck_Lshl (ck_Lor (ck_Lshl (ck_Lor (ck_Lshl (ck_Lor (ck_Lshl 115 8) 108) 8) 105) 8) 99) 8) 101) := (ck_cmp_eq.mp q); (ck_iconst 145 rfl dX12_nameOf_144 rfl (ck_iret dX12_nameOf_145 rfl (show ck_i 5 by decide) (h44.2 c26))))))))))))))))))) (fun q => have c28 : (w 76 23) = (ck_Lor (ck_Lshl (ck_Lor (ck_Lshl (ck_Lor (ck_Lshl (ck_Lor (ck_Lshl 97 8) 110) 8) 103) 8) 108) 8) 101) := (ck_cmp_eq.mp q); (ck_iconst 122 rfl dX12_nameOf_121 rfl (ck_iret dX12_nameOf_122 rfl (show ck_i 4 by decide) (h43.2 c28))))))))))))))))))) (fun q => have c30 : (w 76 23) = (ck_Lor (ck_Lshl (ck_Lor (ck_Lshl (ck_Lor (ck_Lshl 116 8) 117) 8) 114) 8) 110) := (ck_cmp_eq.mp q); (ck_iconst 99 rfl dX12_nameOf_98 rfl (ck_iret dX12_nameOf_99 rfl (show ck_i 3 by decide) (h42.2 c30)))))))))))))))))) (fun q => have c32 : (w 76 23) = (ck_Lor (ck_Lshl (ck_Lor (ck_Lshl (ck_Lor (ck_Lshl (ck_Lor (ck_Lshl (ck_Lor (ck_Lshl 114 8) 97) 8) 100) 8) 105) 8) 117) 8) 115) := (ck_cmp_eq.mp q); (ck_iconst 78 rfl dX12_nameOf_77 rfl (ck_iret dX12_nameOf_78 rfl (show ck_i 2 by decide) (h41.2 c32)))))))))))))))))))) (fun q => have c34 : (w 76 23) = (ck_Lor (ck_Lshl (ck_Lor (ck_Lshl (ck_Lor (ck_Lshl (ck_Lor (ck_Lshl 99 8) 114) 8) 97) 8) 99) 8) 107) := (ck_cmp_eq.mp q); (ck_iconst 53 rfl dX12_nameOf_52 rfl (ck_iret dX12_nameOf_53 rfl (show ck_i 1 by decide) (h40.2 c34))))))))))))))))))) (fun q => have c36 : (w 76 23) = (ck_Lor (ck_Lshl (ck_Lor (ck_Lshl (ck_Lor (ck_Lshl 103 8) 114) 8) 101) 8) 121) := (ck_cmp_eq.mp q); (ck_iconst 30 rfl dX12_nameOf_29 rfl (ck_iret dX12_nameOf_30 rfl (show ck_i 0 by decide) (h39.2 c36)))))))))))))))))) (fun c38 => (ck_iconst 9 rfl dX12_nameOf_8 rfl (ck_iret dX12_nameOf_9 rfl (show ck_i (-1) by decide) (h.2 c38)))))))))))
theorem p_X12_nameOf {g : ch_G} {A R : Nat} (hC : ck_Cx g A R) {d : Nat} {K : Option ck_V → ck_W → Prop} {w : ck_W} (h : K (some (.inl (rm_nm (w 76 21) (w 76 23)))) w) : ck_Ex (ch_C g A R) (d + 3) mX12_nameOf [.inr (.inr 76)] w K := by
  unfold rm_nm at h
  refine e_X12_nameOf hC ?_
  with_reducible repeat' (first | apply And.intro | intro _)
  all_goals simp_all
theorem dX12_hasParen_0 : decode cX12_hasParen 0 = .ok (.iconst 0, 1) := dk_3 (by decide +kernel)
theorem dX12_hasParen_1 : decode cX12_hasParen 1 = .ok (.istore_n 1, 1) := dk_60 (by decide +kernel)
theorem dX12_hasParen_2 : decode cX12_hasParen 2 = .ok (.iload_n 1, 1) := dk_27 (by decide +kernel)
theorem dX12_hasParen_3 : decode cX12_hasParen 3 = .ok (.aload_n 0, 1) := dk_42 (by decide +kernel)
theorem dX12_hasParen_4 : decode cX12_hasParen 4 = .ok (.getfield 223, 3) := dk_180 0 223 (by decide +kernel)
theorem dX12_hasParen_7 : decode cX12_hasParen 7 = .ok (.if_icmp .ge 22, 3) := dk_162 0 22 (by decide +kernel)
theorem dX12_hasParen_10 : decode cX12_hasParen 10 = .ok (.aload_n 0, 1) := dk_42 (by decide +kernel)
theorem dX12_hasParen_11 : decode cX12_hasParen 11 = .ok (.getfield 58, 3) := dk_180 0 58 (by decide +kernel)
theorem dX12_hasParen_14 : decode cX12_hasParen 14 = .ok (.iload_n 1, 1) := dk_27 (by decide +kernel)
theorem dX12_hasParen_15 : decode cX12_hasParen 15 = .ok (.iaload, 1) := dk_46 (by decide +kernel)
theorem dX12_hasParen_16 : decode cX12_hasParen 16 = .ok (.bipush 40, 2) := dk_16 40 (by decide +kernel)
theorem dX12_hasParen_18 : decode cX12_hasParen 18 = .ok (.if_icmp .ne 5, 3) := dk_160 0 5 (by decide +kernel)
theorem dX12_hasParen_21 : decode cX12_hasParen 21 = .ok (.iconst 1, 1) := dk_4 (by decide +kernel)
theorem dX12_hasParen_22 : decode cX12_hasParen 22 = .ok (.ireturn, 1) := dk_172 (by decide +kernel)
theorem dX12_hasParen_23 : decode cX12_hasParen 23 = .ok (.iinc 1 1, 3) := dk_132 1 (by decide +kernel)
theorem dX12_hasParen_26 : decode cX12_hasParen 26 = .ok (.goto (-24), 3) := dk_167 255 232 (by decide +kernel)
theorem dX12_hasParen_29 : decode cX12_hasParen 29 = .ok (.iconst 0, 1) := dk_3 (by decide +kernel)
theorem dX12_hasParen_30 : decode cX12_hasParen 30 = .ok (.ireturn, 1) := dk_172 (by decide +kernel)
set_option maxRecDepth 8000 in
theorem e_X12_hasParen {g : ch_G} {A R : Nat} (hC : ck_Cx g A R) {d : Nat} {K : Option ck_V → ck_W → Prop} {w : ck_W} (h : ck_At (ch_C g A R) d mX12_hasParen K 2 [some (.inr (.inr 76)), some (.inl 0)] [] w) : ck_Ex (ch_C g A R) d mX12_hasParen [.inr (.inr 76)] w K :=
  ck_entry hC.1 [some (.inr (.inr 76)), none] (by decide) (Nat.le_of_ble_eq_true rfl) rfl (fun q => q) (ck_in (fun hl => (ck_iconst 1 rfl dX12_hasParen_0 rfl (ck_istore_n 2 rfl 1 [some (.inr (.inr 76)), some (.inl 0)] dX12_hasParen_1 rfl (Nat.le_of_ble_eq_true rfl) rfl rfl (show ck_i 0 by decide) h))))
set_option maxRecDepth 8000 in
theorem r_X12_hasParen_2 {g : ch_G} {A R : Nat} (hC : ck_Cx g A R) {d : Nat} {K : Option ck_V → ck_W → Prop} {w : ck_W} {a1 : Int} (h : ((w 76 29) ≤ a1 → K (some (.inl 0)) w) ∧ (¬ (w 76 29) ≤ a1 → (0 ≤ a1 ∧ a1 < 160) ∧ ((¬ (w 90 a1) = 40 → ck_i (a1 + 1) ∧ (ck_At (ch_C g A R) d mX12_hasParen K 2 [some (.inr (.inr 76)), some (.inl (a1 + 1))] [] w)) ∧ ((w 90 a1) = 40 → K (some (.inl 1)) w)))) : ck_At (ch_C g A R) d mX12_hasParen K 2 [some (.inr (.inr 76)), some (.inl a1)] [] w :=
  ck_in (fun hl => (ck_iload_n 3 rfl 1 dX12_hasParen_2 rfl rfl (ck_aload_n 4 rfl 0 dX12_hasParen_3 rfl rfl (ck_geti 7 rfl 29 dX12_hasParen_4 fl_X12_223 sh_76 rfl rfl _ rfl (fun (q1 : ck_i (w 76 29)) => (ck_icmp_ge 10 rfl 29 dX12_hasParen_7 rfl hl.2.1 q1 (fun c7 => (ck_iconst 30 rfl dX12_hasParen_29 rfl (ck_zret dX12_hasParen_30 rfl (by decide) (h.1 c7)))) (fun c8 => (ck_aload_n 11 rfl 0 dX12_hasParen_10 rfl rfl (ck_getr 14 rfl dX12_hasParen_11 fl_X12_58 sh_76 rfl (ck_iload_n 15 rfl 1 dX12_hasParen_14 rfl rfl (have h10 := (h.2 c8); have o2 := h10.1; have h9 := h10.2; (ck_iald 16 rfl dX12_hasParen_15 sh_90 (shn_90 hC) o2 _ rfl (fun (q3 : ck_i (w 90 a1)) => (ck_bipush 18 rfl dX12_hasParen_16 rfl (ck_icmp_ne 21 rfl 23 dX12_hasParen_18 rfl q3 (show ck_i 40 by decide) (fun c5 => (have h12 := (h9.1 c5); have o4 := h12.1; have h11 := h12.2; (ck_iinc 26 rfl [some (.inr (.inr 76)), some (.inl (a1 + 1))] dX12_hasParen_23 rfl (Nat.le_of_ble_eq_true rfl) rfl rfl o4 (ck_goto 2 dX12_hasParen_26 rfl h11)))) (fun c6 => (ck_iconst 22 rfl dX12_hasParen_21 rfl (ck_zret dX12_hasParen_22 rfl (by decide) (h9.2 c6)))))))))))))))))))
theorem S_X12_hasParen {g : ch_G} {A R : Nat} (hC : ck_Cx g A R) {d : Nat} {K : Option ck_V → ck_W → Prop} {w : ck_W} (h0 : 0 ≤ w 76 29 ∧ w 76 29 ≤ 160) (k0 : K (some (.inl 0)) w) (k1 : (∃ k, 0 ≤ k ∧ k < w 76 29 ∧ w 90 k = 40) → K (some (.inl 1)) w) : ck_Ex (ch_C g A R) d mX12_hasParen [.inr (.inr 76)] w K := by
  have l : ∀ (m : Nat) (a1 : Int), w 76 29 - a1 ≤ m → 0 ≤ a1 → ck_At (ch_C g A R) d mX12_hasParen K 2 [some (.inr (.inr 76)), some (.inl a1)] [] w := by
    intro m
    induction m with
    | zero => intro a1 q1 q2; exact r_X12_hasParen_2 hC ⟨fun _ => k0, fun z => absurd (by omega) z⟩
    | succ m ih => intro a1 q1 q2; exact r_X12_hasParen_2 hC ⟨fun _ => k0, fun z => ⟨by omega, fun _ => ⟨by constructor <;> omega, ih _ (by omega) (by omega)⟩, fun y => k1 ⟨a1, q2, by omega, y⟩⟩⟩
  exact e_X12_hasParen hC (l (w 76 29).toNat 0 (by omega) (by omega))
/-- a sum goes on -/
def pz_go (u : ck_W) : Prop := u 76 21 = 43 ∨ u 76 21 = 45 ∨ u 76 21 = 42 ∨ u 76 21 = 47 ∨ (u 76 21 = 41 ∧ ∃ k, 0 ≤ k ∧ k < u 76 29 ∧ u 90 k = 40)
theorem dX12_goesOn_0 : decode cX12_goesOn 0 = .ok (.aload_n 0, 1) := dk_42 (by decide +kernel)
theorem dX12_goesOn_1 : decode cX12_goesOn 1 = .ok (.getfield 192, 3) := dk_180 0 192 (by decide +kernel)
theorem dX12_goesOn_4 : decode cX12_goesOn 4 = .ok (.bipush 43, 2) := dk_16 43 (by decide +kernel)
theorem dX12_goesOn_6 : decode cX12_goesOn 6 = .ok (.if_icmp .eq 46, 3) := dk_159 0 46 (by decide +kernel)
theorem dX12_goesOn_9 : decode cX12_goesOn 9 = .ok (.aload_n 0, 1) := dk_42 (by decide +kernel)
theorem dX12_goesOn_10 : decode cX12_goesOn 10 = .ok (.getfield 192, 3) := dk_180 0 192 (by decide +kernel)
theorem dX12_goesOn_13 : decode cX12_goesOn 13 = .ok (.bipush 45, 2) := dk_16 45 (by decide +kernel)
theorem dX12_goesOn_15 : decode cX12_goesOn 15 = .ok (.if_icmp .eq 37, 3) := dk_159 0 37 (by decide +kernel)
theorem dX12_goesOn_18 : decode cX12_goesOn 18 = .ok (.aload_n 0, 1) := dk_42 (by decide +kernel)
theorem dX12_goesOn_19 : decode cX12_goesOn 19 = .ok (.getfield 192, 3) := dk_180 0 192 (by decide +kernel)
theorem dX12_goesOn_22 : decode cX12_goesOn 22 = .ok (.bipush 42, 2) := dk_16 42 (by decide +kernel)
theorem dX12_goesOn_24 : decode cX12_goesOn 24 = .ok (.if_icmp .eq 28, 3) := dk_159 0 28 (by decide +kernel)
theorem dX12_goesOn_27 : decode cX12_goesOn 27 = .ok (.aload_n 0, 1) := dk_42 (by decide +kernel)
theorem dX12_goesOn_28 : decode cX12_goesOn 28 = .ok (.getfield 192, 3) := dk_180 0 192 (by decide +kernel)
theorem dX12_goesOn_31 : decode cX12_goesOn 31 = .ok (.bipush 47, 2) := dk_16 47 (by decide +kernel)
theorem dX12_goesOn_33 : decode cX12_goesOn 33 = .ok (.if_icmp .eq 19, 3) := dk_159 0 19 (by decide +kernel)
theorem dX12_goesOn_36 : decode cX12_goesOn 36 = .ok (.aload_n 0, 1) := dk_42 (by decide +kernel)
theorem dX12_goesOn_37 : decode cX12_goesOn 37 = .ok (.getfield 192, 3) := dk_180 0 192 (by decide +kernel)
theorem dX12_goesOn_40 : decode cX12_goesOn 40 = .ok (.bipush 41, 2) := dk_16 41 (by decide +kernel)
theorem dX12_goesOn_42 : decode cX12_goesOn 42 = .ok (.if_icmp .ne 14, 3) := dk_160 0 14 (by decide +kernel)
theorem dX12_goesOn_45 : decode cX12_goesOn 45 = .ok (.aload_n 0, 1) := dk_42 (by decide +kernel)
theorem dX12_goesOn_46 : decode cX12_goesOn 46 = .ok (.invokevirtual 258, 3) := dk_182 1 2 (by decide +kernel)
theorem dX12_goesOn_49 : decode cX12_goesOn 49 = .ok (.ifCond .eq 7, 3) := dk_153 0 7 (by decide +kernel)
theorem dX12_goesOn_52 : decode cX12_goesOn 52 = .ok (.iconst 1, 1) := dk_4 (by decide +kernel)
theorem dX12_goesOn_53 : decode cX12_goesOn 53 = .ok (.goto 4, 3) := dk_167 0 4 (by decide +kernel)
theorem dX12_goesOn_56 : decode cX12_goesOn 56 = .ok (.iconst 0, 1) := dk_3 (by decide +kernel)
theorem dX12_goesOn_57 : decode cX12_goesOn 57 = .ok (.ireturn, 1) := dk_172 (by decide +kernel)
set_option maxRecDepth 8000 in
theorem e_X12_goesOn {g : ch_G} {A R : Nat} (hC : ck_Cx g A R) {d : Nat} {K : Option ck_V → ck_W → Prop} {w : ck_W} (h : ((w 76 21) = 43 → K (some (.inl 1)) w) ∧ (¬ (w 76 21) = 43 → ((w 76 21) = 45 → K (some (.inl 1)) w) ∧ (¬ (w 76 21) = 45 → ((w 76 21) = 42 → K (some (.inl 1)) w) ∧ (¬ (w 76 21) = 42 → ((w 76 21) = 47 → K (some (.inl 1)) w) ∧ (¬ (w 76 21) = 47 → (¬ (w 76 21) = 41 → K (some (.inl 0)) w) ∧ ((w 76 21) = 41 → ck_CI (ch_C g A R) d mX12_hasParen [.inr (.inr 76)] w (fun v7 w6 => (v7 = 0 → K (some (.inl 0)) w6) ∧ (¬ v7 = 0 → K (some (.inl 1)) w6)))))))) : ck_Ex (ch_C g A R) (d + 1) mX12_goesOn [.inr (.inr 76)] w K :=
  ck_entry hC.1 [some (.inr (.inr 76))] (by decide) (Nat.le_of_ble_eq_true rfl) rfl (fun q => q) (ck_in (fun hl => (ck_aload_n 1 rfl 0 dX12_goesOn_0 rfl rfl (ck_geti 4 rfl 21 dX12_goesOn_1 fl_X12_192 sh_76 rfl rfl _ rfl (fun (q1 : ck_i (w 76 21)) => (ck_bipush 6 rfl dX12_goesOn_4 rfl (ck_icmp_eq 9 rfl 52 dX12_goesOn_6 rfl q1 (show ck_i 43 by decide) (fun c20 => (ck_iconst 53 rfl dX12_goesOn_52 rfl (ck_goto 57 dX12_goesOn_53 rfl (ck_zret dX12_goesOn_57 rfl (by decide) (h.1 c20))))) (fun c21 => (ck_aload_n 10 rfl 0 dX12_goesOn_9 rfl rfl (ck_geti 13 rfl 21 dX12_goesOn_10 fl_X12_192 sh_76 rfl rfl _ rfl (fun (q2 : ck_i (w 76 21)) => (ck_bipush 15 rfl dX12_goesOn_13 rfl (have h22 := (h.2 c21); (ck_icmp_eq 18 rfl 52 dX12_goesOn_15 rfl q2 (show ck_i 45 by decide) (fun c18 => (ck_iconst 53 rfl dX12_goesOn_52 rfl (ck_goto 57 dX12_goesOn_53 rfl (ck_zret dX12_goesOn_57 rfl (by decide) (h22.1 c18))))) (fun c19 => (ck_aload_n 19 rfl 0 dX12_goesOn_18 rfl rfl (ck_geti 22 rfl 21 dX12_goesOn_19 fl_X12_192 sh_76 rfl rfl _ rfl (fun (q3 : ck_i (w 76 21)) => (ck_bipush 24 rfl dX12_goesOn_22 rfl (have h23 := (h22.2 c19); (ck_icmp_eq 27 rfl 52 dX12_goesOn_24 rfl q3 (show ck_i 42 by decide) (fun c16 => (ck_iconst 53 rfl dX12_goesOn_52 rfl (ck_goto 57 dX12_goesOn_53 rfl (ck_zret dX12_goesOn_57 rfl (by decide) (h23.1 c16))))) (fun c17 => (ck_aload_n 28 rfl 0 dX12_goesOn_27 rfl rfl (ck_geti 31 rfl 21 dX12_goesOn_28 fl_X12_192 sh_76 rfl rfl _ rfl (fun (q4 : ck_i (w 76 21)) => (ck_bipush 33 rfl dX12_goesOn_31 rfl (have h24 := (h23.2 c17); (ck_icmp_eq 36 rfl 52 dX12_goesOn_33 rfl q4 (show ck_i 47 by decide) (fun c14 => (ck_iconst 53 rfl dX12_goesOn_52 rfl (ck_goto 57 dX12_goesOn_53 rfl (ck_zret dX12_goesOn_57 rfl (by decide) (h24.1 c14))))) (fun c15 => (ck_aload_n 37 rfl 0 dX12_goesOn_36 rfl rfl (ck_geti 40 rfl 21 dX12_goesOn_37 fl_X12_192 sh_76 rfl rfl _ rfl (fun (q5 : ck_i (w 76 21)) => (ck_bipush 42 rfl dX12_goesOn_40 rfl (have h25 := (h24.2 c15); (ck_icmp_ne 45 rfl 56 dX12_goesOn_42 rfl q5 (show ck_i 41 by decide) (fun c12 => (ck_iconst 57 rfl dX12_goesOn_56 rfl (ck_zret dX12_goesOn_57 rfl (by decide) (h25.1 c12)))) (fun c13 => (ck_aload_n 46 rfl 0 dX12_goesOn_45 rfl rfl (ck_callV 49 rfl [] [] dX12_goesOn_46 cv_X12_258 sh_76 rfl rfl (Nat.le_of_ble_eq_true rfl) True.intro (ck_mI (h25.2 c13) (fun v7 w6 q8 h9 => (ck_if_eq 52 rfl 56 dX12_goesOn_49 rfl q8 (fun c10 => (ck_iconst 57 rfl dX12_goesOn_56 rfl (ck_zret dX12_goesOn_57 rfl (by decide) (h9.1 c10)))) (fun c11 => (ck_iconst 53 rfl dX12_goesOn_52 rfl (ck_goto 57 dX12_goesOn_53 rfl (ck_zret dX12_goesOn_57 rfl (by decide) (h9.2 c11))))))))))))))))))))))))))))))))))))))))))))))
theorem S_X12_goesOn {g : ch_G} {A R : Nat} (hC : ck_Cx g A R) {d : Nat} {K : Option ck_V → ck_W → Prop} {w : ck_W} (h0 : 0 ≤ w 76 29 ∧ w 76 29 ≤ 160) (k0 : K (some (.inl 0)) w) (k1 : pz_go w → K (some (.inl 1)) w) : ck_Ex (ch_C g A R) (d + 1) mX12_goesOn [.inr (.inr 76)] w K := by
  unfold pz_go at k1
  refine e_X12_goesOn hC ⟨fun z => k1 (Or.inl z), fun _ => ⟨fun z => k1 (Or.inr (Or.inl z)), fun _ => ⟨fun z => k1 (Or.inr (Or.inr (Or.inl z))), fun _ => ⟨fun z => k1 (Or.inr (Or.inr (Or.inr (Or.inl z)))), fun _ => ⟨fun _ => k0, fun z => ?_⟩⟩⟩⟩⟩
  exact S_X12_hasParen hC h0 ⟨_, rfl, fun _ => ⟨fun _ => k0, fun y => absurd rfl y⟩⟩ (fun e => ⟨_, rfl, fun _ => ⟨fun y => absurd y (by decide), fun _ => k1 (Or.inr (Or.inr (Or.inr (Or.inr ⟨z, e⟩))))⟩⟩)
/-- a number or a name behind which a sum is whole -/
theorem S_one {g : ch_G} {A R : Nat} (hC : ck_Cx g A R) {d : Nat} {w : ck_W} {T X s E N n m o v : Int} {Q : ck_W → Prop} (hT : 0 ≤ T ∧ T ≤ 300) (hX : 0 ≤ X ∧ X ≤ 2400) (hE : 0 ≤ E) (hN : 0 ≤ N) (hn : 0 ≤ n) (hm : 0 ≤ m) (hz : pz T X s E N n m w) (h31 : w 76 31 = 0) (ht : ¬ w 76 21 = 0) (ho : (o = 0 ∧ 0 ≤ v ∧ v ≤ 9999) ∨ (o = 1 ∧ 0 ≤ v ∧ v ≤ 8))
    (h : ∀ w', pr w w' → pz T X s E N n m w' → w 76 20 < w' 76 20 → Q w') : ck_CN (ch_C g A R) (d + 3) mX12_emit [.inr (.inr 76), .inl o, .inl v] w (fun w1 => ck_CN (ch_C g A R) (d + 3) mX12_nextToken [.inr (.inr 76)] w1 (fun w2 => ck_CN (ch_C g A R) (d + 3) mX12_whole [.inr (.inr 76)] w2 (fun w3 => Q w3))) := by
  obtain ⟨h1, h2, h3, h4, h5, h6, h7, h8, h9, h10, h11⟩ := id hz
  refine S_X12_emit hC (by omega) (by omega) (fun u b1 b2 b3 b4 b5 => ⟨rfl, ?_⟩)
  have g90 : u 90 = w 90 := b2 90 (by decide) (by decide)
  have b0 := pl_b0 (w 90) (w 76 29).toNat
  have st : tx_st (u 79) (X + 50) s (u 76 26 - s).toNat = some (n + 1 + pl_b (w 90) (w 76 29).toNat + 0, m) := by
    have te := tx_emit (t := w 79) (c := X + 50) (s := s) (wr := w 76 26) (o := o) (v := v) h5.2
    rw [b5, b4, h4.2, te, h11, h31]
    show tx_eff o v (n + pl_b (w 90) (w 76 29).toNat + 0, m) = _
    unfold tx_eff
    rcases ho with ⟨e, e1, e2⟩ | ⟨e, e1, e2⟩
    · subst e
      rw [if_pos rfl, if_pos ⟨e1, e2⟩]
      dsimp only
      rw [show n + pl_b (w 90) (w 76 29).toNat + 0 + 1 = n + 1 + pl_b (w 90) (w 76 29).toNat + 0 by omega]
    · subst e
      rw [if_neg (by decide), if_pos rfl, if_pos ⟨e1, e2⟩]
      dsimp only
      rw [show n + pl_b (w 90) (w 76 29).toNat + 0 + 1 = n + 1 + pl_b (w 90) (w 76 29).toNat + 0 by omega]
  have u1 : pz1 T X s E N (n + 1) m u := by
    refine ⟨?_, ?_, ?_, ?_, ?_, ?_, ?_, ?_, ?_, ?_⟩
    · rw [b3 19 (by decide), b3 20 (by decide)]; omega
    · rw [b3 22 (by decide)]; exact h3
    · rw [b3 16 (by decide), b3 24 (by decide)]; exact h4
    · rw [b4]; omega
    · rw [b3 29 (by decide)]; exact h6
    · rw [b4, b3 29 (by decide), b3 20 (by decide)]; omega
    · rw [b3 29 (by decide), g90]; exact h8
    · rw [b3 29 (by decide), b3 30 (by decide), g90]; exact h9
    · rw [b3 31 (by decide)]; exact h10
    · rw [b3 29 (by decide), b3 31 (by decide), g90, h31]; exact st
  refine S_next hC hT u1 (fun u2 c1 c2 c3 c4 c5 => ⟨rfl, ?_⟩)
  obtain ⟨k1, k2, k3, k4, k5, k6, k7, k8, k9, k10, k11⟩ := id c4
  have e31 : u2 76 31 = 0 := by rw [c2 31 (by omega), b3 31 (by decide)]; exact h31
  have z3 : pz T X s E N n m (ck_up u2 76 31 1) := by
    refine ⟨?_, ?_, ?_, ?_, ?_, ?_, ?_, ?_, ?_, ?_, ?_⟩
    · rw [ck_up_nj (by decide), ck_up_nj (by decide)]; exact k1
    · rw [ck_up_nj (by decide), ck_up_nj (by decide), ck_up_nj (by decide)]; exact k2
    · rw [ck_up_nj (by decide)]; exact k3
    · rw [ck_up_nj (by decide), ck_up_nj (by decide)]; exact k4
    · rw [ck_up_nj (by decide)]; exact k5
    · rw [ck_up_nj (by decide)]; exact k6
    · rw [ck_up_nj (by decide), ck_up_nj (by decide), ck_up_nj (by decide)]; exact k7
    · rw [ck_up_nj (by decide), ck_up_ne (by decide)]; exact k8
    · rw [ck_up_nj (by decide), ck_up_nj (by decide), ck_up_ne (by decide)]; exact k9
    · exact Or.inr ck_up_eq
    · rw [ck_up_nj (i := 31) (j := 26) (by decide), ck_up_nj (i := 31) (j := 29) (by decide), ck_up_eq, ck_up_ne (by decide), ck_up_ne (by decide), k11, e31]
      rw [show n + 1 + pl_b (u2 90) (u2 76 29).toNat + 0 = n + pl_b (u2 90) (u2 76 29).toNat + 1 by omega]
  have pb := pz_piled z3 hN
  refine e_X12_whole hC (L_X12_whole hC hT hX hE hN hn 30 (by omega) z3 ck_up_eq (fun w' d1 d2 d3 d4 => ⟨rfl, ?_⟩))
  refine h w' (pr_tr (pr_tr (pr_tr b1 c1) (pr_up (by omega) (by omega) (by omega))) d1) d3 ?_
  rw [d2 20 (by omega), ck_up_nj (by decide)]
  rw [b3 20 (by decide)] at c5
  exact c5
theorem dX12_beginOne_0 : decode cX12_beginOne 0 = .ok (.aload_n 0, 1) := dk_42 (by decide +kernel)
theorem dX12_beginOne_1 : decode cX12_beginOne 1 = .ok (.getfield 192, 3) := dk_180 0 192 (by decide +kernel)
theorem dX12_beginOne_4 : decode cX12_beginOne 4 = .ok (.iconst 1, 1) := dk_4 (by decide +kernel)
theorem dX12_beginOne_5 : decode cX12_beginOne 5 = .ok (.if_icmp .ne 34, 3) := dk_160 0 34 (by decide +kernel)
theorem dX12_beginOne_8 : decode cX12_beginOne 8 = .ok (.aload_n 0, 1) := dk_42 (by decide +kernel)
theorem dX12_beginOne_9 : decode cX12_beginOne 9 = .ok (.getfield 198, 3) := dk_180 0 198 (by decide +kernel)
theorem dX12_beginOne_12 : decode cX12_beginOne 12 = .ok (.sipush 9999, 3) := dk_17 39 15 (by decide +kernel)
theorem dX12_beginOne_15 : decode cX12_beginOne 15 = .ok (.if_icmp .le 5, 3) := dk_164 0 5 (by decide +kernel)
theorem dX12_beginOne_18 : decode cX12_beginOne 18 = .ok (.iconst 2, 1) := dk_5 (by decide +kernel)
theorem dX12_beginOne_19 : decode cX12_beginOne 19 = .ok (.ireturn, 1) := dk_172 (by decide +kernel)
theorem dX12_beginOne_20 : decode cX12_beginOne 20 = .ok (.aload_n 0, 1) := dk_42 (by decide +kernel)
theorem dX12_beginOne_21 : decode cX12_beginOne 21 = .ok (.iconst 0, 1) := dk_3 (by decide +kernel)
theorem dX12_beginOne_22 : decode cX12_beginOne 22 = .ok (.aload_n 0, 1) := dk_42 (by decide +kernel)
theorem dX12_beginOne_23 : decode cX12_beginOne 23 = .ok (.getfield 198, 3) := dk_180 0 198 (by decide +kernel)
theorem dX12_beginOne_26 : decode cX12_beginOne 26 = .ok (.invokevirtual 233, 3) := dk_182 0 233 (by decide +kernel)
theorem dX12_beginOne_29 : decode cX12_beginOne 29 = .ok (.aload_n 0, 1) := dk_42 (by decide +kernel)
theorem dX12_beginOne_30 : decode cX12_beginOne 30 = .ok (.invokevirtual 246, 3) := dk_182 0 246 (by decide +kernel)
theorem dX12_beginOne_33 : decode cX12_beginOne 33 = .ok (.aload_n 0, 1) := dk_42 (by decide +kernel)
theorem dX12_beginOne_34 : decode cX12_beginOne 34 = .ok (.invokevirtual 249, 3) := dk_182 0 249 (by decide +kernel)
theorem dX12_beginOne_37 : decode cX12_beginOne 37 = .ok (.iconst 0, 1) := dk_3 (by decide +kernel)
theorem dX12_beginOne_38 : decode cX12_beginOne 38 = .ok (.ireturn, 1) := dk_172 (by decide +kernel)
theorem dX12_beginOne_39 : decode cX12_beginOne 39 = .ok (.aload_n 0, 1) := dk_42 (by decide +kernel)
theorem dX12_beginOne_40 : decode cX12_beginOne 40 = .ok (.invokevirtual 252, 3) := dk_182 0 252 (by decide +kernel)
theorem dX12_beginOne_43 : decode cX12_beginOne 43 = .ok (.ifCond .lt 22, 3) := dk_155 0 22 (by decide +kernel)
theorem dX12_beginOne_46 : decode cX12_beginOne 46 = .ok (.aload_n 0, 1) := dk_42 (by decide +kernel)
theorem dX12_beginOne_47 : decode cX12_beginOne 47 = .ok (.iconst 1, 1) := dk_4 (by decide +kernel)
theorem dX12_beginOne_48 : decode cX12_beginOne 48 = .ok (.aload_n 0, 1) := dk_42 (by decide +kernel)
theorem dX12_beginOne_49 : decode cX12_beginOne 49 = .ok (.invokevirtual 252, 3) := dk_182 0 252 (by decide +kernel)
theorem dX12_beginOne_52 : decode cX12_beginOne 52 = .ok (.invokevirtual 233, 3) := dk_182 0 233 (by decide +kernel)
theorem dX12_beginOne_55 : decode cX12_beginOne 55 = .ok (.aload_n 0, 1) := dk_42 (by decide +kernel)
theorem dX12_beginOne_56 : decode cX12_beginOne 56 = .ok (.invokevirtual 246, 3) := dk_182 0 246 (by decide +kernel)
theorem dX12_beginOne_59 : decode cX12_beginOne 59 = .ok (.aload_n 0, 1) := dk_42 (by decide +kernel)
theorem dX12_beginOne_60 : decode cX12_beginOne 60 = .ok (.invokevirtual 249, 3) := dk_182 0 249 (by decide +kernel)
theorem dX12_beginOne_63 : decode cX12_beginOne 63 = .ok (.iconst 0, 1) := dk_3 (by decide +kernel)
theorem dX12_beginOne_64 : decode cX12_beginOne 64 = .ok (.ireturn, 1) := dk_172 (by decide +kernel)
theorem dX12_beginOne_65 : decode cX12_beginOne 65 = .ok (.aload_n 0, 1) := dk_42 (by decide +kernel)
theorem dX12_beginOne_66 : decode cX12_beginOne 66 = .ok (.getfield 192, 3) := dk_180 0 192 (by decide +kernel)
theorem dX12_beginOne_69 : decode cX12_beginOne 69 = .ok (.bipush 40, 2) := dk_16 40 (by decide +kernel)
theorem dX12_beginOne_71 : decode cX12_beginOne 71 = .ok (.if_icmp .ne 8, 3) := dk_160 0 8 (by decide +kernel)
theorem dX12_beginOne_74 : decode cX12_beginOne 74 = .ok (.bipush 40, 2) := dk_16 40 (by decide +kernel)
theorem dX12_beginOne_76 : decode cX12_beginOne 76 = .ok (.goto 17, 3) := dk_167 0 17 (by decide +kernel)
theorem dX12_beginOne_79 : decode cX12_beginOne 79 = .ok (.aload_n 0, 1) := dk_42 (by decide +kernel)
theorem dX12_beginOne_80 : decode cX12_beginOne 80 = .ok (.getfield 192, 3) := dk_180 0 192 (by decide +kernel)
theorem dX12_beginOne_83 : decode cX12_beginOne 83 = .ok (.bipush 45, 2) := dk_16 45 (by decide +kernel)
theorem dX12_beginOne_85 : decode cX12_beginOne 85 = .ok (.if_icmp .ne 7, 3) := dk_160 0 7 (by decide +kernel)
theorem dX12_beginOne_88 : decode cX12_beginOne 88 = .ok (.iconst 2, 1) := dk_5 (by decide +kernel)
theorem dX12_beginOne_89 : decode cX12_beginOne 89 = .ok (.goto 4, 3) := dk_167 0 4 (by decide +kernel)
theorem dX12_beginOne_92 : decode cX12_beginOne 92 = .ok (.iconst 0, 1) := dk_3 (by decide +kernel)
theorem dX12_beginOne_93 : decode cX12_beginOne 93 = .ok (.istore_n 1, 1) := dk_60 (by decide +kernel)
theorem dX12_beginOne_94 : decode cX12_beginOne 94 = .ok (.iload_n 1, 1) := dk_27 (by decide +kernel)
theorem dX12_beginOne_95 : decode cX12_beginOne 95 = .ok (.ifCond .ne 5, 3) := dk_154 0 5 (by decide +kernel)
theorem dX12_beginOne_98 : decode cX12_beginOne 98 = .ok (.iconst 1, 1) := dk_4 (by decide +kernel)
theorem dX12_beginOne_99 : decode cX12_beginOne 99 = .ok (.ireturn, 1) := dk_172 (by decide +kernel)
theorem dX12_beginOne_100 : decode cX12_beginOne 100 = .ok (.aload_n 0, 1) := dk_42 (by decide +kernel)
theorem dX12_beginOne_101 : decode cX12_beginOne 101 = .ok (.getfield 230, 3) := dk_180 0 230 (by decide +kernel)
theorem dX12_beginOne_104 : decode cX12_beginOne 104 = .ok (.bipush 8, 2) := dk_16 8 (by decide +kernel)
theorem dX12_beginOne_106 : decode cX12_beginOne 106 = .ok (.if_icmp .ne 5, 3) := dk_160 0 5 (by decide +kernel)
theorem dX12_beginOne_109 : decode cX12_beginOne 109 = .ok (.iconst 3, 1) := dk_6 (by decide +kernel)
theorem dX12_beginOne_110 : decode cX12_beginOne 110 = .ok (.ireturn, 1) := dk_172 (by decide +kernel)
theorem dX12_beginOne_111 : decode cX12_beginOne 111 = .ok (.aload_n 0, 1) := dk_42 (by decide +kernel)
theorem dX12_beginOne_112 : decode cX12_beginOne 112 = .ok (.dup, 1) := dk_89 (by decide +kernel)
theorem dX12_beginOne_113 : decode cX12_beginOne 113 = .ok (.getfield 230, 3) := dk_180 0 230 (by decide +kernel)
theorem dX12_beginOne_116 : decode cX12_beginOne 116 = .ok (.iconst 1, 1) := dk_4 (by decide +kernel)
theorem dX12_beginOne_117 : decode cX12_beginOne 117 = .ok (.iadd, 1) := dk_96 (by decide +kernel)
theorem dX12_beginOne_118 : decode cX12_beginOne 118 = .ok (.putfield 230, 3) := dk_181 0 230 (by decide +kernel)
theorem dX12_beginOne_121 : decode cX12_beginOne 121 = .ok (.aload_n 0, 1) := dk_42 (by decide +kernel)
theorem dX12_beginOne_122 : decode cX12_beginOne 122 = .ok (.iload_n 1, 1) := dk_27 (by decide +kernel)
theorem dX12_beginOne_123 : decode cX12_beginOne 123 = .ok (.invokevirtual 255, 3) := dk_182 0 255 (by decide +kernel)
theorem dX12_beginOne_126 : decode cX12_beginOne 126 = .ok (.aload_n 0, 1) := dk_42 (by decide +kernel)
theorem dX12_beginOne_127 : decode cX12_beginOne 127 = .ok (.invokevirtual 246, 3) := dk_182 0 246 (by decide +kernel)
theorem dX12_beginOne_130 : decode cX12_beginOne 130 = .ok (.iconst 0, 1) := dk_3 (by decide +kernel)
theorem dX12_beginOne_131 : decode cX12_beginOne 131 = .ok (.ireturn, 1) := dk_172 (by decide +kernel)
set_option maxRecDepth 8000 in
theorem e_X12_beginOne {g : ch_G} {A R : Nat} (hC : ck_Cx g A R) {d : Nat} {K : Option ck_V → ck_W → Prop} {w : ck_W} (h : (¬ (w 76 21) = 1 → ((rm_nm (w 76 21) (w 76 23)) < 0 → (¬ (w 76 21) = 40 → (¬ (w 76 21) = 45 → K (some (.inl 1)) w) ∧ ((w 76 21) = 45 → (¬ (w 76 30) = 8 → ck_i ((w 76 30) + 1) ∧ (ck_CN (ch_C g A R) (d + 3) mX12_push [.inr (.inr 76), .inl 2] (ck_up w 76 30 ((w 76 30) + 1)) (fun w8 => ck_CN (ch_C g A R) (d + 3) mX12_nextToken [.inr (.inr 76)] w8 (fun w9 => K (some (.inl 0)) w9)))) ∧ ((w 76 30) = 8 → K (some (.inl 3)) w))) ∧ ((w 76 21) = 40 → (¬ (w 76 30) = 8 → ck_i ((w 76 30) + 1) ∧ (ck_CN (ch_C g A R) (d + 3) mX12_push [.inr (.inr 76), .inl 40] (ck_up w 76 30 ((w 76 30) + 1)) (fun w19 => ck_CN (ch_C g A R) (d + 3) mX12_nextToken [.inr (.inr 76)] w19 (fun w20 => K (some (.inl 0)) w20)))) ∧ ((w 76 30) = 8 → K (some (.inl 3)) w))) ∧ (¬ (rm_nm (w 76 21) (w 76 23)) < 0 → ck_CN (ch_C g A R) (d + 3) mX12_emit [.inr (.inr 76), .inl 1, .inl (rm_nm (w 76 21) (w 76 23))] w (fun w28 => ck_CN (ch_C g A R) (d + 3) mX12_nextToken [.inr (.inr 76)] w28 (fun w29 => ck_CN (ch_C g A R) (d + 3) mX12_whole [.inr (.inr 76)] w29 (fun w30 => K (some (.inl 0)) w30))))) ∧ ((w 76 21) = 1 → ((w 76 22) ≤ 9999 → ck_CN (ch_C g A R) (d + 3) mX12_emit [.inr (.inr 76), .inl 0, .inl (w 76 22)] w (fun w38 => ck_CN (ch_C g A R) (d + 3) mX12_nextToken [.inr (.inr 76)] w38 (fun w39 => ck_CN (ch_C g A R) (d + 3) mX12_whole [.inr (.inr 76)] w39 (fun w40 => K (some (.inl 0)) w40)))) ∧ (¬ (w 76 22) ≤ 9999 → K (some (.inl 2)) w))) : ck_Ex (ch_C g A R) (d + 4) mX12_beginOne [.inr (.inr 76)] w K :=
  ck_entry hC.1 [some (.inr (.inr 76)), none] (by decide) (Nat.le_of_ble_eq_true rfl) rfl (fun q => q) (ck_in (fun hl => (ck_aload_n 1 rfl 0 dX12_beginOne_0 rfl rfl (ck_geti 4 rfl 21 dX12_beginOne_1 fl_X12_192 sh_76 rfl rfl _ rfl (fun (q1 : ck_i (w 76 21)) => (ck_iconst 5 rfl dX12_beginOne_4 rfl (ck_icmp_ne 8 rfl 39 dX12_beginOne_5 rfl q1 (show ck_i 1 by decide) (fun c46 => (ck_aload_n 40 rfl 0 dX12_beginOne_39 rfl rfl (ck_callV 43 rfl [] [] dX12_beginOne_40 cv_X12_252 sh_76 rfl rfl (Nat.le_of_ble_eq_true rfl) True.intro (p_X12_nameOf hC (fun q2 => (have h48 := (h.1 c46); (ck_if_lt 46 rfl 65 dX12_beginOne_43 rfl q2.1 (fun c34 => (ck_aload_n 66 rfl 0 dX12_beginOne_65 rfl rfl (ck_geti 69 rfl 21 dX12_beginOne_66 fl_X12_192 sh_76 rfl rfl _ rfl (fun (q3 : ck_i (w 76 21)) => (ck_bipush 71 rfl dX12_beginOne_69 rfl (have h49 := (h48.1 c34); (ck_icmp_ne 74 rfl 79 dX12_beginOne_71 rfl q3 (show ck_i 40 by decide) (fun c25 => (ck_aload_n 80 rfl 0 dX12_beginOne_79 rfl rfl (ck_geti 83 rfl 21 dX12_beginOne_80 fl_X12_192 sh_76 rfl rfl _ rfl (fun (q4 : ck_i (w 76 21)) => (ck_bipush 85 rfl dX12_beginOne_83 rfl (have h50 := (h49.1 c25); (ck_icmp_ne 88 rfl 92 dX12_beginOne_85 rfl q4 (show ck_i 45 by decide) (fun c14 => (ck_iconst 93 rfl dX12_beginOne_92 rfl (ck_istore_n 94 rfl 1 [some (.inr (.inr 76)), some (.inl 0)] dX12_beginOne_93 rfl (Nat.le_of_ble_eq_true rfl) rfl rfl (show ck_i 0 by decide) (ck_iload_n 95 rfl 1 dX12_beginOne_94 rfl rfl (ck_if_ne 98 rfl 100 dX12_beginOne_95 rfl (by decide) (fun q => absurd q (by decide)) (fun _ => (ck_iconst 99 rfl dX12_beginOne_98 rfl (ck_iret dX12_beginOne_99 rfl (show ck_i 1 by decide) (h50.1 c14))))))))) (fun c15 => (ck_iconst 89 rfl dX12_beginOne_88 rfl (ck_goto 93 dX12_beginOne_89 rfl (ck_istore_n 94 rfl 1 [some (.inr (.inr 76)), some (.inl 2)] dX12_beginOne_93 rfl (Nat.le_of_ble_eq_true rfl) rfl rfl (show ck_i 2 by decide) (ck_iload_n 95 rfl 1 dX12_beginOne_94 rfl rfl (ck_if_ne 98 rfl 100 dX12_beginOne_95 rfl (by decide) (fun _ => (ck_aload_n 101 rfl 0 dX12_beginOne_100 rfl rfl (ck_geti 104 rfl 30 dX12_beginOne_101 fl_X12_230 sh_76 rfl rfl _ rfl (fun (q5 : ck_i (w 76 30)) => (ck_bipush 106 rfl dX12_beginOne_104 rfl (have h51 := (h50.2 c15); (ck_icmp_ne 109 rfl 111 dX12_beginOne_106 rfl q5 (show ck_i 8 by decide) (fun c12 => (ck_aload_n 112 rfl 0 dX12_beginOne_111 rfl rfl (ck_dup 113 rfl dX12_beginOne_112 rfl (ck_geti 116 rfl 30 dX12_beginOne_113 fl_X12_230 sh_76 rfl rfl _ rfl (fun (q6 : ck_i (w 76 30)) => (ck_iconst 117 rfl dX12_beginOne_116 rfl (ck_iadd 118 rfl dX12_beginOne_117 (have h53 := (h51.1 c12); have o7 := h53.1; have h52 := h53.2; (ck_puti 121 rfl 30 dX12_beginOne_118 fp_X12_230 sh_76 rfl rfl o7 (ck_aload_n 122 rfl 0 dX12_beginOne_121 rfl rfl (ck_iload_n 123 rfl 1 dX12_beginOne_122 rfl rfl (ck_callV 126 rfl [.inl 2] [] dX12_beginOne_123 cv_X12_255 sh_76 rfl rfl (Nat.le_of_ble_eq_true rfl) (And.intro (show ck_i 2 by decide) True.intro) (ck_mN h52 (fun w8 h11 => (ck_aload_n 127 rfl 0 dX12_beginOne_126 rfl rfl (ck_callV 130 rfl [] [] dX12_beginOne_127 cv_X12_246 sh_76 rfl rfl (Nat.le_of_ble_eq_true rfl) True.intro (ck_mN h11 (fun w9 h10 => (ck_iconst 131 rfl dX12_beginOne_130 rfl (ck_iret dX12_beginOne_131 rfl (show ck_i 0 by decide) h10)))))))))))))))))))) (fun c13 => (ck_iconst 110 rfl dX12_beginOne_109 rfl (ck_iret dX12_beginOne_110 rfl (show ck_i 3 by decide) (h51.2 c13))))))))))) (fun q => absurd q (by decide))))))))))))))) (fun c26 => (ck_bipush 76 rfl dX12_beginOne_74 rfl (ck_goto 93 dX12_beginOne_76 rfl (ck_istore_n 94 rfl 1 [some (.inr (.inr 76)), some (.inl 40)] dX12_beginOne_93 rfl (Nat.le_of_ble_eq_true rfl) rfl rfl (show ck_i 40 by decide) (ck_iload_n 95 rfl 1 dX12_beginOne_94 rfl rfl (ck_if_ne 98 rfl 100 dX12_beginOne_95 rfl (by decide) (fun _ => (ck_aload_n 101 rfl 0 dX12_beginOne_100 rfl rfl (ck_geti 104 rfl 30 dX12_beginOne_101 fl_X12_230 sh_76 rfl rfl _ rfl (fun (q16 : ck_i (w 76 30)) => (ck_bipush 106 rfl dX12_beginOne_104 rfl (have h54 := (h49.2 c26); (ck_icmp_ne 109 rfl 111 dX12_beginOne_106 rfl q16 (show ck_i 8 by decide) (fun c23 => (ck_aload_n 112 rfl 0 dX12_beginOne_111 rfl rfl (ck_dup 113 rfl dX12_beginOne_112 rfl (ck_geti 116 rfl 30 dX12_beginOne_113 fl_X12_230 sh_76 rfl rfl _ rfl (fun (q17 : ck_i (w 76 30)) => (ck_iconst 117 rfl dX12_beginOne_116 rfl (ck_iadd 118 rfl dX12_beginOne_117 (have h56 := (h54.1 c23); have o18 := h56.1; have h55 := h56.2; (ck_puti 121 rfl 30 dX12_beginOne_118 fp_X12_230 sh_76 rfl rfl o18 (ck_aload_n 122 rfl 0 dX12_beginOne_121 rfl rfl (ck_iload_n 123 rfl 1 dX12_beginOne_122 rfl rfl (ck_callV 126 rfl [.inl 40] [] dX12_beginOne_123 cv_X12_255 sh_76 rfl rfl (Nat.le_of_ble_eq_true rfl) (And.intro (show ck_i 40 by decide) True.intro) (ck_mN h55 (fun w19 h22 => (ck_aload_n 127 rfl 0 dX12_beginOne_126 rfl rfl (ck_callV 130 rfl [] [] dX12_beginOne_127 cv_X12_246 sh_76 rfl rfl (Nat.le_of_ble_eq_true rfl) True.intro (ck_mN h22 (fun w20 h21 => (ck_iconst 131 rfl dX12_beginOne_130 rfl (ck_iret dX12_beginOne_131 rfl (show ck_i 0 by decide) h21)))))))))))))))))))) (fun c24 => (ck_iconst 110 rfl dX12_beginOne_109 rfl (ck_iret dX12_beginOne_110 rfl (show ck_i 3 by decide) (h54.2 c24))))))))))) (fun q => absurd q (by decide))))))))))))))) (fun c35 => (ck_aload_n 47 rfl 0 dX12_beginOne_46 rfl rfl (ck_iconst 48 rfl dX12_beginOne_47 rfl (ck_aload_n 49 rfl 0 dX12_beginOne_48 rfl rfl (ck_callV 52 rfl [] [.inl 1, .inr (.inr 76)] dX12_beginOne_49 cv_X12_252 sh_76 rfl rfl (Nat.le_of_ble_eq_true rfl) True.intro (p_X12_nameOf hC (fun q27 => (ck_callV 55 rfl [.inl 1, .inl (rm_nm (w 76 21) (w 76 23))] [] dX12_beginOne_52 cv_X12_233 sh_76 rfl rfl (Nat.le_of_ble_eq_true rfl) (And.intro (show ck_i 1 by decide) (And.intro q27.1 True.intro)) (ck_mN (h48.2 c35) (fun w28 h33 => (ck_aload_n 56 rfl 0 dX12_beginOne_55 rfl rfl (ck_callV 59 rfl [] [] dX12_beginOne_56 cv_X12_246 sh_76 rfl rfl (Nat.le_of_ble_eq_true rfl) True.intro (ck_mN h33 (fun w29 h32 => (ck_aload_n 60 rfl 0 dX12_beginOne_59 rfl rfl (ck_callV 63 rfl [] [] dX12_beginOne_60 cv_X12_249 sh_76 rfl rfl (Nat.le_of_ble_eq_true rfl) True.intro (ck_mN h32 (fun w30 h31 => (ck_iconst 64 rfl dX12_beginOne_63 rfl (ck_iret dX12_beginOne_64 rfl (show ck_i 0 by decide) h31))))))))))))))))))))))))))) (fun c47 => (ck_aload_n 9 rfl 0 dX12_beginOne_8 rfl rfl (ck_geti 12 rfl 22 dX12_beginOne_9 fl_X12_198 sh_76 rfl rfl _ rfl (fun (q36 : ck_i (w 76 22)) => (ck_sipush 15 rfl dX12_beginOne_12 rfl (have h57 := (h.2 c47); (ck_icmp_le 18 rfl 20 dX12_beginOne_15 rfl q36 (show ck_i 9999 by decide) (fun c44 => (ck_aload_n 21 rfl 0 dX12_beginOne_20 rfl rfl (ck_iconst 22 rfl dX12_beginOne_21 rfl (ck_aload_n 23 rfl 0 dX12_beginOne_22 rfl rfl (ck_geti 26 rfl 22 dX12_beginOne_23 fl_X12_198 sh_76 rfl rfl _ rfl (fun (q37 : ck_i (w 76 22)) => (ck_callV 29 rfl [.inl 0, .inl (w 76 22)] [] dX12_beginOne_26 cv_X12_233 sh_76 rfl rfl (Nat.le_of_ble_eq_true rfl) (And.intro (show ck_i 0 by decide) (And.intro q37 True.intro)) (ck_mN (h57.1 c44) (fun w38 h43 => (ck_aload_n 30 rfl 0 dX12_beginOne_29 rfl rfl (ck_callV 33 rfl [] [] dX12_beginOne_30 cv_X12_246 sh_76 rfl rfl (Nat.le_of_ble_eq_true rfl) True.intro (ck_mN h43 (fun w39 h42 => (ck_aload_n 34 rfl 0 dX12_beginOne_33 rfl rfl (ck_callV 37 rfl [] [] dX12_beginOne_34 cv_X12_249 sh_76 rfl rfl (Nat.le_of_ble_eq_true rfl) True.intro (ck_mN h42 (fun w40 h41 => (ck_iconst 38 rfl dX12_beginOne_37 rfl (ck_iret dX12_beginOne_38 rfl (show ck_i 0 by decide) h41))))))))))))))))))) (fun c45 => (ck_iconst 19 rfl dX12_beginOne_18 rfl (ck_iret dX12_beginOne_19 rfl (show ck_i 2 by decide) (h57.2 c45))))))))))))))))))
theorem S_X12_beginOne {g : ch_G} {A R : Nat} (hC : ck_Cx g A R) {d : Nat} {K : Option ck_V → ck_W → Prop} {w : ck_W} {T X s E N n m : Int} (hT : 0 ≤ T ∧ T ≤ 300) (hX : 0 ≤ X ∧ X ≤ 2400) (hE : 0 ≤ E) (hN : 0 ≤ N) (hn : 0 ≤ n) (hm : 0 ≤ m) (hz : pz T X s E N n m w) (h31 : w 76 31 = 0)
    (h : ∀ v w', pr w w' → (v = 0 → pz T X s E N n m w' ∧ w 76 20 < w' 76 20) → K (some (.inl v)) w') : ck_Ex (ch_C g A R) (d + 4) mX12_beginOne [.inr (.inr 76)] w K := by
  obtain ⟨h1, h2, h3, h4, h5, h6, h7, h8, h9, h10, h11⟩ := id hz
  have pb := pz_piled hz hN
  have nb := rm_nmb (w 76 21) (w 76 23)
  have fail : ∀ v, ¬ v = 0 → K (some (.inl v)) w := fun v hv => h v w pr_rf (fun e => absurd e hv)
  have opn : ∀ o, (o = 2 ∨ o = 40) → ¬ w 76 21 = 0 → ¬ w 76 30 = 8 → ck_i (w 76 30 + 1) ∧ (ck_CN (ch_C g A R) (d + 3) mX12_push [.inr (.inr 76), .inl o] (ck_up w 76 30 (w 76 30 + 1)) (fun w8 => ck_CN (ch_C g A R) (d + 3) mX12_nextToken [.inr (.inr 76)] w8 (fun w9 => K (some (.inl 0)) w9))) := by
    intro o ho ht h30
    have op0 := pl_op0 (w 90) (w 76 29).toNat
    refine ⟨by constructor <;> omega, e_X12_push hC ?_⟩
    rw [ck_up_nj (i := 30) (j := 29) (by decide)]
    refine ⟨by omega, by constructor <;> omega, ⟨rfl, ?_⟩⟩
    have f : ∀ j, j ≠ 29 → j ≠ 30 → (ck_up (ck_up (ck_up w 76 30 (w 76 30 + 1)) 90 (w 76 29) o) 76 29 (w 76 29 + 1)) 76 j = w 76 j := fun j x y => by rw [ck_up_nj x, ck_up_ne (by decide), ck_up_nj y]
    have f29 : (ck_up (ck_up (ck_up w 76 30 (w 76 30 + 1)) 90 (w 76 29) o) 76 29 (w 76 29 + 1)) 76 29 = w 76 29 + 1 := ck_up_eq
    have f30 : (ck_up (ck_up (ck_up w 76 30 (w 76 30 + 1)) 90 (w 76 29) o) 76 29 (w 76 29 + 1)) 76 30 = w 76 30 + 1 := by rw [ck_up_nj (by decide), ck_up_ne (by decide), ck_up_eq]
    have f90 : (ck_up (ck_up (ck_up w 76 30 (w 76 30 + 1)) 90 (w 76 29) o) 76 29 (w 76 29 + 1)) 90 = rm_u (w 90) (((w 76 29).toNat : Nat) : Int) o := by rw [ck_up_ne (by decide), ck_up_row, ck_up_ne (by decide), show (((w 76 29).toNat : Nat) : Int) = w 76 29 by omega]
    have f79 : (ck_up (ck_up (ck_up w 76 30 (w 76 30 + 1)) 90 (w 76 29) o) 76 29 (w 76 29 + 1)) 79 = w 79 := rfl
    have p1 : pr w (ck_up (ck_up (ck_up w 76 30 (w 76 30 + 1)) 90 (w 76 29) o) 76 29 (w 76 29 + 1)) := ⟨fun k x y z => by rw [ck_up_ne x, ck_up_ne z, ck_up_ne x], fun j hj => f j (by omega) (by omega), fun j _ => by rw [f79], by rw [f 26 (by decide) (by decide)]; omega, fun q => by rw [f 22 (by decide) (by decide)]; exact q⟩
    have e1 : (w 76 29 + 1).toNat = (w 76 29).toNat + 1 := by omega
    have cc := pl_c (p := w 90) (p' := rm_u (w 90) (((w 76 29).toNat : Nat) : Int) o) (n := (w 76 29).toNat) (fun k hk => rm_u_ne (by omega))
    refine S_next hC (T := T) (X := X) (s := s) (E := E) (N := N) (n := n) (m := m) hT ⟨?_, ?_, ?_, ?_, ?_, ?_, ?_, ?_, ?_, ?_⟩ (fun w' c1 c2 c3 c4 c5 => ⟨rfl, h 0 w' (pr_tr p1 c1) (fun _ => ⟨c4, by rw [f 20 (by decide) (by decide)] at c5; exact c5⟩)⟩)
    · rw [f 19 (by decide) (by decide), f 20 (by decide) (by decide)]; omega
    · rw [f 22 (by decide) (by decide)]; exact h3
    · rw [f 16 (by decide) (by decide), f 24 (by decide) (by decide)]; exact h4
    · rw [f 26 (by decide) (by decide)]; exact h5
    · rw [f29]; omega
    · rw [f29, f 26 (by decide) (by decide), f 20 (by decide) (by decide)]; omega
    · rw [f29, f90, e1]; exact pl_ok_push h8 (by omega) (fun x => by omega) (fun x => by omega)
    · rw [f29, f30, f90, e1, pl_op, rm_u_eq, cc.1, if_pos ho]; omega
    · rw [f 31 (by decide) (by decide)]; exact h10
    · rw [f29, f79, f90, f 26 (by decide) (by decide), f 31 (by decide) (by decide), e1, pl_b, rm_u_eq, cc.2.2, if_neg (by omega), h11]
      rw [show n + (pl_b (w 90) (w 76 29).toNat + 0) + w 76 31 = n + pl_b (w 90) (w 76 29).toNat + w 76 31 by omega]
  refine e_X12_beginOne hC ⟨fun z => ⟨fun z2 => ⟨fun z3 => ⟨fun _ => fail 1 (by decide), fun z4 => ⟨fun z5 => opn 2 (Or.inl rfl) (by omega) z5, fun _ => fail 3 (by decide)⟩⟩, fun z3 => ⟨fun z5 => opn 40 (Or.inr rfl) (by omega) z5, fun _ => fail 3 (by decide)⟩⟩, fun z2 => ?_⟩, fun z => ⟨fun z2 => ?_, fun _ => fail 2 (by decide)⟩⟩
  · exact S_one hC hT hX hE hN hn hm hz h31 (by have := nb.2 (by omega); omega) (Or.inr ⟨rfl, by omega, by omega⟩) (fun w' a b c => h 0 w' a (fun _ => ⟨b, c⟩))
  · exact S_one hC hT hX hE hN hn hm hz h31 (by omega) (Or.inl ⟨rfl, h3, z2⟩) (fun w' a b c => h 0 w' a (fun _ => ⟨b, c⟩))
