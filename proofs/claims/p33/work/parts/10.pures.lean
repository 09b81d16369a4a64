/-! ===== small methods that answer at once ===== -/
theorem dX12_isIn_0 : decode cX12_isIn 0 = .ok (.iload_n 0, 1) := dk_26 (by decide +kernel)
theorem dX12_isIn_1 : decode cX12_isIn 1 = .ok (.iload_n 1, 1) := dk_27 (by decide +kernel)
theorem dX12_isIn_2 : decode cX12_isIn 2 = .ok (.if_icmp .lt 12, 3) := dk_161 0 12 (by decide +kernel)
theorem dX12_isIn_5 : decode cX12_isIn 5 = .ok (.iload_n 0, 1) := dk_26 (by decide +kernel)
theorem dX12_isIn_6 : decode cX12_isIn 6 = .ok (.iload_n 2, 1) := dk_28 (by decide +kernel)
theorem dX12_isIn_7 : decode cX12_isIn 7 = .ok (.if_icmp .gt 7, 3) := dk_163 0 7 (by decide +kernel)
theorem dX12_isIn_10 : decode cX12_isIn 10 = .ok (.iconst 1, 1) := dk_4 (by decide +kernel)
theorem dX12_isIn_11 : decode cX12_isIn 11 = .ok (.goto 4, 3) := dk_167 0 4 (by decide +kernel)
theorem dX12_isIn_14 : decode cX12_isIn 14 = .ok (.iconst 0, 1) := dk_3 (by decide +kernel)
theorem dX12_isIn_15 : decode cX12_isIn 15 = .ok (.ireturn, 1) := dk_172 (by decide +kernel)
set_option maxRecDepth 8000 in
theorem e_X12_isIn {g : ch_G} {A R : Nat} (hC : ck_Cx g A R) {d : Nat} {K : Option ck_V → ck_W → Prop} {w : ck_W} {a0 a1 a2 : Int} (h : (a0 < a1 → K (some (.inl 0)) w) ∧ (¬ a0 < a1 → (a2 < a0 → K (some (.inl 0)) w) ∧ (¬ a2 < a0 → K (some (.inl 1)) w))) : ck_Ex (ch_C g A R) d mX12_isIn [.inl a0, .inl a1, .inl a2] w K :=
  ck_entry hC.1 [some (.inl a0), some (.inl a1), some (.inl a2)] (by decide) (Nat.le_of_ble_eq_true rfl) rfl (fun q => q) (ck_in (fun hl => (ck_iload_n 1 rfl 0 dX12_isIn_0 rfl rfl (ck_iload_n 2 rfl 1 dX12_isIn_1 rfl rfl (ck_icmp_lt 5 rfl 14 dX12_isIn_2 rfl hl.1 hl.2.1 (fun c3 => (ck_iconst 15 rfl dX12_isIn_14 rfl (ck_zret dX12_isIn_15 rfl (by decide) (h.1 c3)))) (fun c4 => (ck_iload_n 6 rfl 0 dX12_isIn_5 rfl rfl (ck_iload_n 7 rfl 2 dX12_isIn_6 rfl rfl (have h5 := (h.2 c4); (ck_icmp_gt 10 rfl 14 dX12_isIn_7 rfl hl.1 hl.2.2.1 (fun c1 => (ck_iconst 15 rfl dX12_isIn_14 rfl (ck_zret dX12_isIn_15 rfl (by decide) (h5.1 c1)))) (fun c2 => (ck_iconst 11 rfl dX12_isIn_10 rfl (ck_goto 15 dX12_isIn_11 rfl (ck_zret dX12_isIn_15 rfl (by decide) (h5.2 c2)))))))))))))))
theorem p_X12_isIn {g : ch_G} {A R : Nat} (hC : ck_Cx g A R) {d : Nat} {K : Option ck_V → ck_W → Prop} {w : ck_W} {a0 a1 a2 : Int} (h1 : a1 ≤ a0 ∧ a0 ≤ a2 → K (some (.inl 1)) w) (h0 : ¬ (a1 ≤ a0 ∧ a0 ≤ a2) → K (some (.inl 0)) w) : ck_Ex (ch_C g A R) d mX12_isIn [.inl a0, .inl a1, .inl a2] w K := by
  refine e_X12_isIn hC ?_
  repeat' (first | apply And.intro | intro _)
  all_goals first | omega | exact h1 (by omega) | exact h0 (by omega)
theorem dX11_within_0 : decode cX11_within 0 = .ok (.iload_n 0, 1) := dk_26 (by decide +kernel)
theorem dX11_within_1 : decode cX11_within 1 = .ok (.iload_n 1, 1) := dk_27 (by decide +kernel)
theorem dX11_within_2 : decode cX11_within 2 = .ok (.if_icmp .lt 12, 3) := dk_161 0 12 (by decide +kernel)
theorem dX11_within_5 : decode cX11_within 5 = .ok (.iload_n 0, 1) := dk_26 (by decide +kernel)
theorem dX11_within_6 : decode cX11_within 6 = .ok (.iload_n 2, 1) := dk_28 (by decide +kernel)
theorem dX11_within_7 : decode cX11_within 7 = .ok (.if_icmp .gt 7, 3) := dk_163 0 7 (by decide +kernel)
theorem dX11_within_10 : decode cX11_within 10 = .ok (.iconst 1, 1) := dk_4 (by decide +kernel)
theorem dX11_within_11 : decode cX11_within 11 = .ok (.goto 4, 3) := dk_167 0 4 (by decide +kernel)
theorem dX11_within_14 : decode cX11_within 14 = .ok (.iconst 0, 1) := dk_3 (by decide +kernel)
theorem dX11_within_15 : decode cX11_within 15 = .ok (.ireturn, 1) := dk_172 (by decide +kernel)
set_option maxRecDepth 8000 in
theorem e_X11_within {g : ch_G} {A R : Nat} (hC : ck_Cx g A R) {d : Nat} {K : Option ck_V → ck_W → Prop} {w : ck_W} {a0 a1 a2 : Int} (h : (a0 < a1 → K (some (.inl 0)) w) ∧ (¬ a0 < a1 → (a2 < a0 → K (some (.inl 0)) w) ∧ (¬ a2 < a0 → K (some (.inl 1)) w))) : ck_Ex (ch_C g A R) d mX11_within [.inl a0, .inl a1, .inl a2] w K :=
  ck_entry hC.1 [some (.inl a0), some (.inl a1), some (.inl a2)] (by decide) (Nat.le_of_ble_eq_true rfl) rfl (fun q => q) (ck_in (fun hl => (ck_iload_n 1 rfl 0 dX11_within_0 rfl rfl (ck_iload_n 2 rfl 1 dX11_within_1 rfl rfl (ck_icmp_lt 5 rfl 14 dX11_within_2 rfl hl.1 hl.2.1 (fun c3 => (ck_iconst 15 rfl dX11_within_14 rfl (ck_zret dX11_within_15 rfl (by decide) (h.1 c3)))) (fun c4 => (ck_iload_n 6 rfl 0 dX11_within_5 rfl rfl (ck_iload_n 7 rfl 2 dX11_within_6 rfl rfl (have h5 := (h.2 c4); (ck_icmp_gt 10 rfl 14 dX11_within_7 rfl hl.1 hl.2.2.1 (fun c1 => (ck_iconst 15 rfl dX11_within_14 rfl (ck_zret dX11_within_15 rfl (by decide) (h5.1 c1)))) (fun c2 => (ck_iconst 11 rfl dX11_within_10 rfl (ck_goto 15 dX11_within_11 rfl (ck_zret dX11_within_15 rfl (by decide) (h5.2 c2)))))))))))))))
theorem p_X11_within {g : ch_G} {A R : Nat} (hC : ck_Cx g A R) {d : Nat} {K : Option ck_V → ck_W → Prop} {w : ck_W} {a0 a1 a2 : Int} (h1 : a1 ≤ a0 ∧ a0 ≤ a2 → K (some (.inl 1)) w) (h0 : ¬ (a1 ≤ a0 ∧ a0 ≤ a2) → K (some (.inl 0)) w) : ck_Ex (ch_C g A R) d mX11_within [.inl a0, .inl a1, .inl a2] w K := by
  refine e_X11_within hC ?_
  repeat' (first | apply And.intro | intro _)
  all_goals first | omega | exact h1 (by omega) | exact h0 (by omega)
theorem dX12_abs_0 : decode cX12_abs 0 = .ok (.iload_n 0, 1) := dk_26 (by decide +kernel)
theorem dX12_abs_1 : decode cX12_abs 1 = .ok (.ifCond .ge 8, 3) := dk_156 0 8 (by decide +kernel)
theorem dX12_abs_4 : decode cX12_abs 4 = .ok (.iload_n 0, 1) := dk_26 (by decide +kernel)
theorem dX12_abs_5 : decode cX12_abs 5 = .ok (.ineg, 1) := dk_116 (by decide +kernel)
theorem dX12_abs_6 : decode cX12_abs 6 = .ok (.goto 4, 3) := dk_167 0 4 (by decide +kernel)
theorem dX12_abs_9 : decode cX12_abs 9 = .ok (.iload_n 0, 1) := dk_26 (by decide +kernel)
theorem dX12_abs_10 : decode cX12_abs 10 = .ok (.ireturn, 1) := dk_172 (by decide +kernel)
set_option maxRecDepth 8000 in
theorem e_X12_abs {g : ch_G} {A R : Nat} (hC : ck_Cx g A R) {d : Nat} {K : Option ck_V → ck_W → Prop} {w : ck_W} {a0 : Int} (h : (0 ≤ a0 → K (some (.inl a0)) w) ∧ (¬ 0 ≤ a0 → ck_i (-a0) ∧ (K (some (.inl (-a0))) w))) : ck_Ex (ch_C g A R) d mX12_abs [.inl a0] w K :=
  ck_entry hC.1 [some (.inl a0)] (by decide) (Nat.le_of_ble_eq_true rfl) rfl (fun q => q) (ck_in (fun hl => (ck_iload_n 1 rfl 0 dX12_abs_0 rfl rfl (ck_if_ge 4 rfl 9 dX12_abs_1 rfl hl.1 (fun c2 => (ck_iload_n 10 rfl 0 dX12_abs_9 rfl rfl (ck_iret dX12_abs_10 rfl hl.1 (h.1 c2)))) (fun c3 => (ck_iload_n 5 rfl 0 dX12_abs_4 rfl rfl (ck_ineg 6 rfl dX12_abs_5 (ck_goto 10 dX12_abs_6 rfl (have h5 := (h.2 c3); have o1 := h5.1; have h4 := h5.2; (ck_iret dX12_abs_10 rfl o1 h4))))))))))
theorem p_X12_abs {g : ch_G} {A R : Nat} (hC : ck_Cx g A R) {d : Nat} {K : Option ck_V → ck_W → Prop} {w : ck_W} {a0 : Int} (o0 : -2147483647 ≤ a0) (h : K (some (.inl (max a0 (-a0)))) w) : ck_Ex (ch_C g A R) d mX12_abs [.inl a0] w K := by
  refine e_X12_abs hC ?_
  repeat' (first | apply And.intro | intro _)
  all_goals first | omega | (exact cast (congrArg (fun t => K (some (.inl t)) w) (by omega)) h) | (simp only [] at *; omega) | assumption
theorem dJ9_abs_0f7a4_0 : decode cJ9_abs_0f7a4 0 = .ok (.iload_n 0, 1) := dk_26 (by decide +kernel)
theorem dJ9_abs_0f7a4_1 : decode cJ9_abs_0f7a4 1 = .ok (.ifCond .ge 8, 3) := dk_156 0 8 (by decide +kernel)
theorem dJ9_abs_0f7a4_4 : decode cJ9_abs_0f7a4 4 = .ok (.iload_n 0, 1) := dk_26 (by decide +kernel)
theorem dJ9_abs_0f7a4_5 : decode cJ9_abs_0f7a4 5 = .ok (.ineg, 1) := dk_116 (by decide +kernel)
theorem dJ9_abs_0f7a4_6 : decode cJ9_abs_0f7a4 6 = .ok (.goto 4, 3) := dk_167 0 4 (by decide +kernel)
theorem dJ9_abs_0f7a4_9 : decode cJ9_abs_0f7a4 9 = .ok (.iload_n 0, 1) := dk_26 (by decide +kernel)
theorem dJ9_abs_0f7a4_10 : decode cJ9_abs_0f7a4 10 = .ok (.ireturn, 1) := dk_172 (by decide +kernel)
set_option maxRecDepth 8000 in
theorem e_J9_abs_0f7a4 {g : ch_G} {A R : Nat} (hC : ck_Cx g A R) {d : Nat} {K : Option ck_V → ck_W → Prop} {w : ck_W} {a0 : Int} (h : (0 ≤ a0 → K (some (.inl a0)) w) ∧ (¬ 0 ≤ a0 → ck_i (-a0) ∧ (K (some (.inl (-a0))) w))) : ck_Ex (ch_C g A R) d mJ9_abs_0f7a4 [.inl a0] w K :=
  ck_entryF hC.1 [some (.inl a0)] (pk_of (i := 0) rfl) (Nat.le_of_ble_eq_true rfl) rfl (fun q => q) (ck_in (fun hl => (ck_iload_n 1 rfl 0 dJ9_abs_0f7a4_0 rfl rfl (ck_if_ge 4 rfl 9 dJ9_abs_0f7a4_1 rfl hl.1 (fun c2 => (ck_iload_n 10 rfl 0 dJ9_abs_0f7a4_9 rfl rfl (ck_iret dJ9_abs_0f7a4_10 rfl hl.1 (h.1 c2)))) (fun c3 => (ck_iload_n 5 rfl 0 dJ9_abs_0f7a4_4 rfl rfl (ck_ineg 6 rfl dJ9_abs_0f7a4_5 (ck_goto 10 dJ9_abs_0f7a4_6 rfl (have h5 := (h.2 c3); have o1 := h5.1; have h4 := h5.2; (ck_iret dJ9_abs_0f7a4_10 rfl o1 h4))))))))))
theorem p_J9_abs_0f7a4 {g : ch_G} {A R : Nat} (hC : ck_Cx g A R) {d : Nat} {K : Option ck_V → ck_W → Prop} {w : ck_W} {a0 : Int} (o0 : -2147483647 ≤ a0) (h : K (some (.inl (max a0 (-a0)))) w) : ck_Ex (ch_C g A R) d mJ9_abs_0f7a4 [.inl a0] w K := by
  refine e_J9_abs_0f7a4 hC ?_
  repeat' (first | apply And.intro | intro _)
  all_goals first | omega | (exact cast (congrArg (fun t => K (some (.inl t)) w) (by omega)) h) | (simp only [] at *; omega) | assumption
theorem dJ9_max_7cf53_0 : decode cJ9_max_7cf53 0 = .ok (.iload_n 0, 1) := dk_26 (by decide +kernel)
theorem dJ9_max_7cf53_1 : decode cJ9_max_7cf53 1 = .ok (.iload_n 1, 1) := dk_27 (by decide +kernel)
theorem dJ9_max_7cf53_2 : decode cJ9_max_7cf53 2 = .ok (.if_icmp .lt 7, 3) := dk_161 0 7 (by decide +kernel)
theorem dJ9_max_7cf53_5 : decode cJ9_max_7cf53 5 = .ok (.iload_n 0, 1) := dk_26 (by decide +kernel)
theorem dJ9_max_7cf53_6 : decode cJ9_max_7cf53 6 = .ok (.goto 4, 3) := dk_167 0 4 (by decide +kernel)
theorem dJ9_max_7cf53_9 : decode cJ9_max_7cf53 9 = .ok (.iload_n 1, 1) := dk_27 (by decide +kernel)
theorem dJ9_max_7cf53_10 : decode cJ9_max_7cf53 10 = .ok (.ireturn, 1) := dk_172 (by decide +kernel)
set_option maxRecDepth 8000 in
theorem e_J9_max_7cf53 {g : ch_G} {A R : Nat} (hC : ck_Cx g A R) {d : Nat} {K : Option ck_V → ck_W → Prop} {w : ck_W} {a0 a1 : Int} (h : (a0 < a1 → K (some (.inl a1)) w) ∧ (¬ a0 < a1 → K (some (.inl a0)) w)) : ck_Ex (ch_C g A R) d mJ9_max_7cf53 [.inl a0, .inl a1] w K :=
  ck_entryF hC.1 [some (.inl a0), some (.inl a1)] (pk_of (i := 1) rfl) (Nat.le_of_ble_eq_true rfl) rfl (fun q => q) (ck_in (fun hl => (ck_iload_n 1 rfl 0 dJ9_max_7cf53_0 rfl rfl (ck_iload_n 2 rfl 1 dJ9_max_7cf53_1 rfl rfl (ck_icmp_lt 5 rfl 9 dJ9_max_7cf53_2 rfl hl.1 hl.2.1 (fun c1 => (ck_iload_n 10 rfl 1 dJ9_max_7cf53_9 rfl rfl (ck_iret dJ9_max_7cf53_10 rfl hl.2.1 (h.1 c1)))) (fun c2 => (ck_iload_n 6 rfl 0 dJ9_max_7cf53_5 rfl rfl (ck_goto 10 dJ9_max_7cf53_6 rfl (ck_iret dJ9_max_7cf53_10 rfl hl.1 (h.2 c2))))))))))
theorem p_J9_max_7cf53 {g : ch_G} {A R : Nat} (hC : ck_Cx g A R) {d : Nat} {K : Option ck_V → ck_W → Prop} {w : ck_W} {a0 a1 : Int} (h : K (some (.inl (max a0 a1))) w) : ck_Ex (ch_C g A R) d mJ9_max_7cf53 [.inl a0, .inl a1] w K := by
  refine e_J9_max_7cf53 hC ?_
  repeat' (first | apply And.intro | intro _)
  all_goals first | omega | (exact cast (congrArg (fun t => K (some (.inl t)) w) (by omega)) h) | (simp only [] at *; omega) | assumption
theorem dJ9_min_7cf53_0 : decode cJ9_min_7cf53 0 = .ok (.iload_n 0, 1) := dk_26 (by decide +kernel)
theorem dJ9_min_7cf53_1 : decode cJ9_min_7cf53 1 = .ok (.iload_n 1, 1) := dk_27 (by decide +kernel)
theorem dJ9_min_7cf53_2 : decode cJ9_min_7cf53 2 = .ok (.if_icmp .gt 7, 3) := dk_163 0 7 (by decide +kernel)
theorem dJ9_min_7cf53_5 : decode cJ9_min_7cf53 5 = .ok (.iload_n 0, 1) := dk_26 (by decide +kernel)
theorem dJ9_min_7cf53_6 : decode cJ9_min_7cf53 6 = .ok (.goto 4, 3) := dk_167 0 4 (by decide +kernel)
theorem dJ9_min_7cf53_9 : decode cJ9_min_7cf53 9 = .ok (.iload_n 1, 1) := dk_27 (by decide +kernel)
theorem dJ9_min_7cf53_10 : decode cJ9_min_7cf53 10 = .ok (.ireturn, 1) := dk_172 (by decide +kernel)
set_option maxRecDepth 8000 in
theorem e_J9_min_7cf53 {g : ch_G} {A R : Nat} (hC : ck_Cx g A R) {d : Nat} {K : Option ck_V → ck_W → Prop} {w : ck_W} {a0 a1 : Int} (h : (a1 < a0 → K (some (.inl a1)) w) ∧ (¬ a1 < a0 → K (some (.inl a0)) w)) : ck_Ex (ch_C g A R) d mJ9_min_7cf53 [.inl a0, .inl a1] w K :=
  ck_entryF hC.1 [some (.inl a0), some (.inl a1)] (pk_of (i := 2) rfl) (Nat.le_of_ble_eq_true rfl) rfl (fun q => q) (ck_in (fun hl => (ck_iload_n 1 rfl 0 dJ9_min_7cf53_0 rfl rfl (ck_iload_n 2 rfl 1 dJ9_min_7cf53_1 rfl rfl (ck_icmp_gt 5 rfl 9 dJ9_min_7cf53_2 rfl hl.1 hl.2.1 (fun c1 => (ck_iload_n 10 rfl 1 dJ9_min_7cf53_9 rfl rfl (ck_iret dJ9_min_7cf53_10 rfl hl.2.1 (h.1 c1)))) (fun c2 => (ck_iload_n 6 rfl 0 dJ9_min_7cf53_5 rfl rfl (ck_goto 10 dJ9_min_7cf53_6 rfl (ck_iret dJ9_min_7cf53_10 rfl hl.1 (h.2 c2))))))))))
theorem p_J9_min_7cf53 {g : ch_G} {A R : Nat} (hC : ck_Cx g A R) {d : Nat} {K : Option ck_V → ck_W → Prop} {w : ck_W} {a0 a1 : Int} (h : K (some (.inl (min a0 a1))) w) : ck_Ex (ch_C g A R) d mJ9_min_7cf53 [.inl a0, .inl a1] w K := by
  refine e_J9_min_7cf53 hC ?_
  repeat' (first | apply And.intro | intro _)
  all_goals first | omega | (exact cast (congrArg (fun t => K (some (.inl t)) w) (by omega)) h) | (simp only [] at *; omega) | assumption
theorem dJ9_max_f86c9_0 : decode cJ9_max_f86c9 0 = .ok (.lload_n 0, 1) := dk_30 (by decide +kernel)
theorem dJ9_max_f86c9_1 : decode cJ9_max_f86c9 1 = .ok (.lload_n 2, 1) := dk_32 (by decide +kernel)
theorem dJ9_max_f86c9_2 : decode cJ9_max_f86c9 2 = .ok (.lcmp, 1) := dk_148 (by decide +kernel)
theorem dJ9_max_f86c9_3 : decode cJ9_max_f86c9 3 = .ok (.ifCond .lt 7, 3) := dk_155 0 7 (by decide +kernel)
theorem dJ9_max_f86c9_6 : decode cJ9_max_f86c9 6 = .ok (.lload_n 0, 1) := dk_30 (by decide +kernel)
theorem dJ9_max_f86c9_7 : decode cJ9_max_f86c9 7 = .ok (.goto 4, 3) := dk_167 0 4 (by decide +kernel)
theorem dJ9_max_f86c9_10 : decode cJ9_max_f86c9 10 = .ok (.lload_n 2, 1) := dk_32 (by decide +kernel)
theorem dJ9_max_f86c9_11 : decode cJ9_max_f86c9 11 = .ok (.lreturn, 1) := dk_173 (by decide +kernel)
set_option maxRecDepth 8000 in
theorem e_J9_max_f86c9 {g : ch_G} {A R : Nat} (hC : ck_Cx g A R) {d : Nat} {K : Option ck_V → ck_W → Prop} {w : ck_W} {a0 a2 : Int} (h : (a0 < a2 → K (some (.inr (.inl a2))) w) ∧ (¬ a0 < a2 → K (some (.inr (.inl a0))) w)) : ck_Ex (ch_C g A R) d mJ9_max_f86c9 [.inr (.inl a0), .inr (.inl a2)] w K :=
  ck_entryF hC.1 [some (.inr (.inl a0)), none, some (.inr (.inl a2)), none] (pk_of (i := 3) rfl) (Nat.le_of_ble_eq_true rfl) rfl (fun q => q) (ck_in (fun hl => (ck_lload_n 1 rfl 0 dJ9_max_f86c9_0 rfl rfl (ck_lload_n 2 rfl 2 dJ9_max_f86c9_1 rfl rfl (ck_lcmp 3 rfl dJ9_max_f86c9_2 hl.1 hl.2.1 (ck_if_lt 6 rfl 10 dJ9_max_f86c9_3 rfl ck_cmp_i (fun q => have c1 : a0 < a2 := (ck_cmp_lt.mp q); (ck_lload_n 11 rfl 2 dJ9_max_f86c9_10 rfl rfl (ck_lret dJ9_max_f86c9_11 rfl hl.2.1 (h.1 c1)))) (fun q => have c2 : ¬ a0 < a2 := (fun r => q (ck_cmp_lt.mpr r)); (ck_lload_n 7 rfl 0 dJ9_max_f86c9_6 rfl rfl (ck_goto 11 dJ9_max_f86c9_7 rfl (ck_lret dJ9_max_f86c9_11 rfl hl.1 (h.2 c2)))))))))))
theorem p_J9_max_f86c9 {g : ch_G} {A R : Nat} (hC : ck_Cx g A R) {d : Nat} {K : Option ck_V → ck_W → Prop} {w : ck_W} {a0 a2 : Int} (h : K (some (.inr (.inl (max a0 a2)))) w) : ck_Ex (ch_C g A R) d mJ9_max_f86c9 [.inr (.inl a0), .inr (.inl a2)] w K := by
  refine e_J9_max_f86c9 hC ?_
  repeat' (first | apply And.intro | intro _)
  all_goals first | omega | (exact cast (congrArg (fun t => K (some (.inr (.inl t))) w) (by omega)) h) | (simp only [] at *; omega) | assumption
theorem dJ9_min_f86c9_0 : decode cJ9_min_f86c9 0 = .ok (.lload_n 0, 1) := dk_30 (by decide +kernel)
theorem dJ9_min_f86c9_1 : decode cJ9_min_f86c9 1 = .ok (.lload_n 2, 1) := dk_32 (by decide +kernel)
theorem dJ9_min_f86c9_2 : decode cJ9_min_f86c9 2 = .ok (.lcmp, 1) := dk_148 (by decide +kernel)
theorem dJ9_min_f86c9_3 : decode cJ9_min_f86c9 3 = .ok (.ifCond .gt 7, 3) := dk_157 0 7 (by decide +kernel)
theorem dJ9_min_f86c9_6 : decode cJ9_min_f86c9 6 = .ok (.lload_n 0, 1) := dk_30 (by decide +kernel)
theorem dJ9_min_f86c9_7 : decode cJ9_min_f86c9 7 = .ok (.goto 4, 3) := dk_167 0 4 (by decide +kernel)
theorem dJ9_min_f86c9_10 : decode cJ9_min_f86c9 10 = .ok (.lload_n 2, 1) := dk_32 (by decide +kernel)
theorem dJ9_min_f86c9_11 : decode cJ9_min_f86c9 11 = .ok (.lreturn, 1) := dk_173 (by decide +kernel)
set_option maxRecDepth 8000 in
theorem e_J9_min_f86c9 {g : ch_G} {A R : Nat} (hC : ck_Cx g A R) {d : Nat} {K : Option ck_V → ck_W → Prop} {w : ck_W} {a0 a2 : Int} (h : (a2 < a0 → K (some (.inr (.inl a2))) w) ∧ (¬ a2 < a0 → K (some (.inr (.inl a0))) w)) : ck_Ex (ch_C g A R) d mJ9_min_f86c9 [.inr (.inl a0), .inr (.inl a2)] w K :=
  ck_entryF hC.1 [some (.inr (.inl a0)), none, some (.inr (.inl a2)), none] (pk_of (i := 4) rfl) (Nat.le_of_ble_eq_true rfl) rfl (fun q => q) (ck_in (fun hl => (ck_lload_n 1 rfl 0 dJ9_min_f86c9_0 rfl rfl (ck_lload_n 2 rfl 2 dJ9_min_f86c9_1 rfl rfl (ck_lcmp 3 rfl dJ9_min_f86c9_2 hl.1 hl.2.1 (ck_if_gt 6 rfl 10 dJ9_min_f86c9_3 rfl ck_cmp_i (fun q => have c1 : a2 < a0 := (ck_cmp_gt.mp q); (ck_lload_n 11 rfl 2 dJ9_min_f86c9_10 rfl rfl (ck_lret dJ9_min_f86c9_11 rfl hl.2.1 (h.1 c1)))) (fun q => have c2 : ¬ a2 < a0 := (fun r => q (ck_cmp_gt.mpr r)); (ck_lload_n 7 rfl 0 dJ9_min_f86c9_6 rfl rfl (ck_goto 11 dJ9_min_f86c9_7 rfl (ck_lret dJ9_min_f86c9_11 rfl hl.1 (h.2 c2)))))))))))
theorem p_J9_min_f86c9 {g : ch_G} {A R : Nat} (hC : ck_Cx g A R) {d : Nat} {K : Option ck_V → ck_W → Prop} {w : ck_W} {a0 a2 : Int} (h : K (some (.inr (.inl (min a0 a2)))) w) : ck_Ex (ch_C g A R) d mJ9_min_f86c9 [.inr (.inl a0), .inr (.inl a2)] w K := by
  refine e_J9_min_f86c9 hC ?_
  repeat' (first | apply And.intro | intro _)
  all_goals first | omega | (exact cast (congrArg (fun t => K (some (.inr (.inl t))) w) (by omega)) h) | (simp only [] at *; omega) | assumption
theorem dX12_isSlice_0 : decode cX12_isSlice 0 = .ok (.iload_n 0, 1) := dk_26 (by decide +kernel)
theorem dX12_isSlice_1 : decode cX12_isSlice 1 = .ok (.iconst 0, 1) := dk_3 (by decide +kernel)
theorem dX12_isSlice_2 : decode cX12_isSlice 2 = .ok (.iconst 5, 1) := dk_8 (by decide +kernel)
theorem dX12_isSlice_3 : decode cX12_isSlice 3 = .ok (.invokestatic 93, 3) := dk_184 0 93 (by decide +kernel)
theorem dX12_isSlice_6 : decode cX12_isSlice 6 = .ok (.ireturn, 1) := dk_172 (by decide +kernel)
set_option maxRecDepth 8000 in
theorem e_X12_isSlice {g : ch_G} {A R : Nat} (hC : ck_Cx g A R) {d : Nat} {K : Option ck_V → ck_W → Prop} {w : ck_W} {a0 : Int} (h : (0 ≤ a0 ∧ a0 ≤ 5 → K (some (.inl 1)) w) ∧ (¬ (0 ≤ a0 ∧ a0 ≤ 5) → K (some (.inl 0)) w)) : ck_Ex (ch_C g A R) (d + 1) mX12_isSlice [.inl a0] w K :=
  ck_entry hC.1 [some (.inl a0)] (by decide) (Nat.le_of_ble_eq_true rfl) rfl (fun q => q) (ck_in (fun hl => (ck_iload_n 1 rfl 0 dX12_isSlice_0 rfl rfl (ck_iconst 2 rfl dX12_isSlice_1 rfl (ck_iconst 3 rfl dX12_isSlice_2 rfl (have h3 := h; ck_callS 6 rfl [.inl a0, .inl 0, .inl 5] [] dX12_isSlice_3 cs_X12_93 rfl rfl (Nat.le_of_ble_eq_true rfl) (And.intro hl.1 (And.intro (show ck_i 0 by decide) (And.intro (show ck_i 5 by decide) True.intro))) (p_X12_isIn hC (fun c1 _ => (ck_zret dX12_isSlice_6 rfl (by decide) (h3.1 c1))) (fun c2 _ => (ck_zret dX12_isSlice_6 rfl (by decide) (h3.2 c2))))))))))
theorem p_X12_isSlice {g : ch_G} {A R : Nat} (hC : ck_Cx g A R) {d : Nat} {K : Option ck_V → ck_W → Prop} {w : ck_W} {a0 : Int} (h1 : 0 ≤ a0 ∧ a0 ≤ 5 → K (some (.inl 1)) w) (h0 : ¬ (0 ≤ a0 ∧ a0 ≤ 5) → K (some (.inl 0)) w) : ck_Ex (ch_C g A R) (d + 1) mX12_isSlice [.inl a0] w K := by
  refine e_X12_isSlice hC ?_
  repeat' (first | apply And.intro | intro _)
  all_goals first | omega | exact h1 (by omega) | exact h0 (by omega)
theorem dX12_isDigit10_0 : decode cX12_isDigit10 0 = .ok (.iload_n 0, 1) := dk_26 (by decide +kernel)
theorem dX12_isDigit10_1 : decode cX12_isDigit10 1 = .ok (.iconst 0, 1) := dk_3 (by decide +kernel)
theorem dX12_isDigit10_2 : decode cX12_isDigit10 2 = .ok (.bipush 9, 2) := dk_16 9 (by decide +kernel)
theorem dX12_isDigit10_4 : decode cX12_isDigit10 4 = .ok (.invokestatic 93, 3) := dk_184 0 93 (by decide +kernel)
theorem dX12_isDigit10_7 : decode cX12_isDigit10 7 = .ok (.ireturn, 1) := dk_172 (by decide +kernel)
set_option maxRecDepth 8000 in
theorem e_X12_isDigit10 {g : ch_G} {A R : Nat} (hC : ck_Cx g A R) {d : Nat} {K : Option ck_V → ck_W → Prop} {w : ck_W} {a0 : Int} (h : (0 ≤ a0 ∧ a0 ≤ 9 → K (some (.inl 1)) w) ∧ (¬ (0 ≤ a0 ∧ a0 ≤ 9) → K (some (.inl 0)) w)) : ck_Ex (ch_C g A R) (d + 1) mX12_isDigit10 [.inl a0] w K :=
  ck_entry hC.1 [some (.inl a0)] (by decide) (Nat.le_of_ble_eq_true rfl) rfl (fun q => q) (ck_in (fun hl => (ck_iload_n 1 rfl 0 dX12_isDigit10_0 rfl rfl (ck_iconst 2 rfl dX12_isDigit10_1 rfl (ck_bipush 4 rfl dX12_isDigit10_2 rfl (have h3 := h; ck_callS 7 rfl [.inl a0, .inl 0, .inl 9] [] dX12_isDigit10_4 cs_X12_93 rfl rfl (Nat.le_of_ble_eq_true rfl) (And.intro hl.1 (And.intro (show ck_i 0 by decide) (And.intro (show ck_i 9 by decide) True.intro))) (p_X12_isIn hC (fun c1 _ => (ck_zret dX12_isDigit10_7 rfl (by decide) (h3.1 c1))) (fun c2 _ => (ck_zret dX12_isDigit10_7 rfl (by decide) (h3.2 c2))))))))))
theorem p_X12_isDigit10 {g : ch_G} {A R : Nat} (hC : ck_Cx g A R) {d : Nat} {K : Option ck_V → ck_W → Prop} {w : ck_W} {a0 : Int} (h1 : 0 ≤ a0 ∧ a0 ≤ 9 → K (some (.inl 1)) w) (h0 : ¬ (0 ≤ a0 ∧ a0 ≤ 9) → K (some (.inl 0)) w) : ck_Ex (ch_C g A R) (d + 1) mX12_isDigit10 [.inl a0] w K := by
  refine e_X12_isDigit10 hC ?_
  repeat' (first | apply And.intro | intro _)
  all_goals first | omega | exact h1 (by omega) | exact h0 (by omega)
theorem dX12_isWeight_0 : decode cX12_isWeight 0 = .ok (.iload_n 0, 1) := dk_26 (by decide +kernel)
theorem dX12_isWeight_1 : decode cX12_isWeight 1 = .ok (.iconst 1, 1) := dk_4 (by decide +kernel)
theorem dX12_isWeight_2 : decode cX12_isWeight 2 = .ok (.bipush 99, 2) := dk_16 99 (by decide +kernel)
theorem dX12_isWeight_4 : decode cX12_isWeight 4 = .ok (.invokestatic 93, 3) := dk_184 0 93 (by decide +kernel)
theorem dX12_isWeight_7 : decode cX12_isWeight 7 = .ok (.ireturn, 1) := dk_172 (by decide +kernel)
set_option maxRecDepth 8000 in
theorem e_X12_isWeight {g : ch_G} {A R : Nat} (hC : ck_Cx g A R) {d : Nat} {K : Option ck_V → ck_W → Prop} {w : ck_W} {a0 : Int} (h : (1 ≤ a0 ∧ a0 ≤ 99 → K (some (.inl 1)) w) ∧ (¬ (1 ≤ a0 ∧ a0 ≤ 99) → K (some (.inl 0)) w)) : ck_Ex (ch_C g A R) (d + 1) mX12_isWeight [.inl a0] w K :=
  ck_entry hC.1 [some (.inl a0)] (by decide) (Nat.le_of_ble_eq_true rfl) rfl (fun q => q) (ck_in (fun hl => (ck_iload_n 1 rfl 0 dX12_isWeight_0 rfl rfl (ck_iconst 2 rfl dX12_isWeight_1 rfl (ck_bipush 4 rfl dX12_isWeight_2 rfl (have h3 := h; ck_callS 7 rfl [.inl a0, .inl 1, .inl 99] [] dX12_isWeight_4 cs_X12_93 rfl rfl (Nat.le_of_ble_eq_true rfl) (And.intro hl.1 (And.intro (show ck_i 1 by decide) (And.intro (show ck_i 99 by decide) True.intro))) (p_X12_isIn hC (fun c1 _ => (ck_zret dX12_isWeight_7 rfl (by decide) (h3.1 c1))) (fun c2 _ => (ck_zret dX12_isWeight_7 rfl (by decide) (h3.2 c2))))))))))
theorem p_X12_isWeight {g : ch_G} {A R : Nat} (hC : ck_Cx g A R) {d : Nat} {K : Option ck_V → ck_W → Prop} {w : ck_W} {a0 : Int} (h1 : 1 ≤ a0 ∧ a0 ≤ 99 → K (some (.inl 1)) w) (h0 : ¬ (1 ≤ a0 ∧ a0 ≤ 99) → K (some (.inl 0)) w) : ck_Ex (ch_C g A R) (d + 1) mX12_isWeight [.inl a0] w K := by
  refine e_X12_isWeight hC ?_
  repeat' (first | apply And.intro | intro _)
  all_goals first | omega | exact h1 (by omega) | exact h0 (by omega)
theorem dX12_isDigit_0 : decode cX12_isDigit 0 = .ok (.iload_n 0, 1) := dk_26 (by decide +kernel)
theorem dX12_isDigit_1 : decode cX12_isDigit 1 = .ok (.bipush 48, 2) := dk_16 48 (by decide +kernel)
theorem dX12_isDigit_3 : decode cX12_isDigit 3 = .ok (.bipush 57, 2) := dk_16 57 (by decide +kernel)
theorem dX12_isDigit_5 : decode cX12_isDigit 5 = .ok (.invokestatic 93, 3) := dk_184 0 93 (by decide +kernel)
theorem dX12_isDigit_8 : decode cX12_isDigit 8 = .ok (.ireturn, 1) := dk_172 (by decide +kernel)
set_option maxRecDepth 8000 in
theorem e_X12_isDigit {g : ch_G} {A R : Nat} (hC : ck_Cx g A R) {d : Nat} {K : Option ck_V → ck_W → Prop} {w : ck_W} {a0 : Int} (h : (48 ≤ a0 ∧ a0 ≤ 57 → K (some (.inl 1)) w) ∧ (¬ (48 ≤ a0 ∧ a0 ≤ 57) → K (some (.inl 0)) w)) : ck_Ex (ch_C g A R) (d + 1) mX12_isDigit [.inl a0] w K :=
  ck_entry hC.1 [some (.inl a0)] (by decide) (Nat.le_of_ble_eq_true rfl) rfl (fun q => q) (ck_in (fun hl => (ck_iload_n 1 rfl 0 dX12_isDigit_0 rfl rfl (ck_bipush 3 rfl dX12_isDigit_1 rfl (ck_bipush 5 rfl dX12_isDigit_3 rfl (have h3 := h; ck_callS 8 rfl [.inl a0, .inl 48, .inl 57] [] dX12_isDigit_5 cs_X12_93 rfl rfl (Nat.le_of_ble_eq_true rfl) (And.intro hl.1 (And.intro (show ck_i 48 by decide) (And.intro (show ck_i 57 by decide) True.intro))) (p_X12_isIn hC (fun c1 _ => (ck_zret dX12_isDigit_8 rfl (by decide) (h3.1 c1))) (fun c2 _ => (ck_zret dX12_isDigit_8 rfl (by decide) (h3.2 c2))))))))))
theorem p_X12_isDigit {g : ch_G} {A R : Nat} (hC : ck_Cx g A R) {d : Nat} {K : Option ck_V → ck_W → Prop} {w : ck_W} {a0 : Int} (h1 : 48 ≤ a0 ∧ a0 ≤ 57 → K (some (.inl 1)) w) (h0 : ¬ (48 ≤ a0 ∧ a0 ≤ 57) → K (some (.inl 0)) w) : ck_Ex (ch_C g A R) (d + 1) mX12_isDigit [.inl a0] w K := by
  refine e_X12_isDigit hC ?_
  repeat' (first | apply And.intro | intro _)
  all_goals first | omega | exact h1 (by omega) | exact h0 (by omega)
theorem dX12_isLetter_0 : decode cX12_isLetter 0 = .ok (.iload_n 0, 1) := dk_26 (by decide +kernel)
theorem dX12_isLetter_1 : decode cX12_isLetter 1 = .ok (.bipush 97, 2) := dk_16 97 (by decide +kernel)
theorem dX12_isLetter_3 : decode cX12_isLetter 3 = .ok (.bipush 122, 2) := dk_16 122 (by decide +kernel)
theorem dX12_isLetter_5 : decode cX12_isLetter 5 = .ok (.invokestatic 93, 3) := dk_184 0 93 (by decide +kernel)
theorem dX12_isLetter_8 : decode cX12_isLetter 8 = .ok (.ifCond .ne 14, 3) := dk_154 0 14 (by decide +kernel)
theorem dX12_isLetter_11 : decode cX12_isLetter 11 = .ok (.iload_n 0, 1) := dk_26 (by decide +kernel)
theorem dX12_isLetter_12 : decode cX12_isLetter 12 = .ok (.bipush 65, 2) := dk_16 65 (by decide +kernel)
theorem dX12_isLetter_14 : decode cX12_isLetter 14 = .ok (.bipush 90, 2) := dk_16 90 (by decide +kernel)
theorem dX12_isLetter_16 : decode cX12_isLetter 16 = .ok (.invokestatic 93, 3) := dk_184 0 93 (by decide +kernel)
theorem dX12_isLetter_19 : decode cX12_isLetter 19 = .ok (.ifCond .eq 7, 3) := dk_153 0 7 (by decide +kernel)
theorem dX12_isLetter_22 : decode cX12_isLetter 22 = .ok (.iconst 1, 1) := dk_4 (by decide +kernel)
theorem dX12_isLetter_23 : decode cX12_isLetter 23 = .ok (.goto 4, 3) := dk_167 0 4 (by decide +kernel)
theorem dX12_isLetter_26 : decode cX12_isLetter 26 = .ok (.iconst 0, 1) := dk_3 (by decide +kernel)
theorem dX12_isLetter_27 : decode cX12_isLetter 27 = .ok (.ireturn, 1) := dk_172 (by decide +kernel)
set_option maxRecDepth 8000 in
theorem e_X12_isLetter {g : ch_G} {A R : Nat} (hC : ck_Cx g A R) {d : Nat} {K : Option ck_V → ck_W → Prop} {w : ck_W} {a0 : Int} (h : (97 ≤ a0 ∧ a0 ≤ 122 → K (some (.inl 1)) w) ∧ (¬ (97 ≤ a0 ∧ a0 ≤ 122) → (65 ≤ a0 ∧ a0 ≤ 90 → K (some (.inl 1)) w) ∧ (¬ (65 ≤ a0 ∧ a0 ≤ 90) → K (some (.inl 0)) w))) : ck_Ex (ch_C g A R) (d + 1) mX12_isLetter [.inl a0] w K :=
  ck_entry hC.1 [some (.inl a0)] (by decide) (Nat.le_of_ble_eq_true rfl) rfl (fun q => q) (ck_in (fun hl => (ck_iload_n 1 rfl 0 dX12_isLetter_0 rfl rfl (ck_bipush 3 rfl dX12_isLetter_1 rfl (ck_bipush 5 rfl dX12_isLetter_3 rfl (have h6 := h; ck_callS 8 rfl [.inl a0, .inl 97, .inl 122] [] dX12_isLetter_5 cs_X12_93 rfl rfl (Nat.le_of_ble_eq_true rfl) (And.intro hl.1 (And.intro (show ck_i 97 by decide) (And.intro (show ck_i 122 by decide) True.intro))) (p_X12_isIn hC (fun c4 _ => (ck_if_ne 11 rfl 22 dX12_isLetter_8 rfl (by decide) (fun _ => (ck_iconst 23 rfl dX12_isLetter_22 rfl (ck_goto 27 dX12_isLetter_23 rfl (ck_zret dX12_isLetter_27 rfl (by decide) (h6.1 c4))))) (fun q => absurd q (by decide)))) (fun c5 _ => (ck_if_ne 11 rfl 22 dX12_isLetter_8 rfl (by decide) (fun q => absurd q (by decide)) (fun _ => (ck_iload_n 12 rfl 0 dX12_isLetter_11 rfl rfl (ck_bipush 14 rfl dX12_isLetter_12 rfl (ck_bipush 16 rfl dX12_isLetter_14 rfl (have h3 := (h6.2 c5); ck_callS 19 rfl [.inl a0, .inl 65, .inl 90] [] dX12_isLetter_16 cs_X12_93 rfl rfl (Nat.le_of_ble_eq_true rfl) (And.intro hl.1 (And.intro (show ck_i 65 by decide) (And.intro (show ck_i 90 by decide) True.intro))) (p_X12_isIn hC (fun c1 _ => (ck_if_eq 22 rfl 26 dX12_isLetter_19 rfl (by decide) (fun q => absurd q (by decide)) (fun _ => (ck_iconst 23 rfl dX12_isLetter_22 rfl (ck_goto 27 dX12_isLetter_23 rfl (ck_zret dX12_isLetter_27 rfl (by decide) (h3.1 c1))))))) (fun c2 _ => (ck_if_eq 22 rfl 26 dX12_isLetter_19 rfl (by decide) (fun _ => (ck_iconst 27 rfl dX12_isLetter_26 rfl (ck_zret dX12_isLetter_27 rfl (by decide) (h3.2 c2)))) (fun q => absurd q (by decide)))))))))))))))))))
theorem p_X12_isLetter {g : ch_G} {A R : Nat} (hC : ck_Cx g A R) {d : Nat} {K : Option ck_V → ck_W → Prop} {w : ck_W} {a0 : Int} (h1 : (97 ≤ a0 ∧ a0 ≤ 122) ∨ (65 ≤ a0 ∧ a0 ≤ 90) → K (some (.inl 1)) w) (h0 : ¬ ((97 ≤ a0 ∧ a0 ≤ 122) ∨ (65 ≤ a0 ∧ a0 ≤ 90)) → K (some (.inl 0)) w) : ck_Ex (ch_C g A R) (d + 1) mX12_isLetter [.inl a0] w K := by
  refine e_X12_isLetter hC ?_
  repeat' (first | apply And.intro | intro _)
  all_goals first | omega | exact h1 (by omega) | exact h0 (by omega)
theorem dX6_isDigit_0 : decode cX6_isDigit 0 = .ok (.iload_n 0, 1) := dk_26 (by decide +kernel)
theorem dX6_isDigit_1 : decode cX6_isDigit 1 = .ok (.bipush 48, 2) := dk_16 48 (by decide +kernel)
theorem dX6_isDigit_3 : decode cX6_isDigit 3 = .ok (.bipush 57, 2) := dk_16 57 (by decide +kernel)
theorem dX6_isDigit_5 : decode cX6_isDigit 5 = .ok (.invokestatic 66, 3) := dk_184 0 66 (by decide +kernel)
theorem dX6_isDigit_8 : decode cX6_isDigit 8 = .ok (.ireturn, 1) := dk_172 (by decide +kernel)
set_option maxRecDepth 8000 in
theorem e_X6_isDigit {g : ch_G} {A R : Nat} (hC : ck_Cx g A R) {d : Nat} {K : Option ck_V → ck_W → Prop} {w : ck_W} {a0 : Int} (h : (48 ≤ a0 ∧ a0 ≤ 57 → K (some (.inl 1)) w) ∧ (¬ (48 ≤ a0 ∧ a0 ≤ 57) → K (some (.inl 0)) w)) : ck_Ex (ch_C g A R) (d + 1) mX6_isDigit [.inl a0] w K :=
  ck_entry hC.1 [some (.inl a0)] (by decide) (Nat.le_of_ble_eq_true rfl) rfl (fun q => q) (ck_in (fun hl => (ck_iload_n 1 rfl 0 dX6_isDigit_0 rfl rfl (ck_bipush 3 rfl dX6_isDigit_1 rfl (ck_bipush 5 rfl dX6_isDigit_3 rfl (have h3 := h; ck_callSN 8 rfl [.inl a0, .inl 48, .inl 57] [] dX6_isDigit_5 cn_X6_66 rfl rfl (Nat.le_of_ble_eq_true rfl) (And.intro hl.1 (And.intro (show ck_i 48 by decide) (And.intro (show ck_i 57 by decide) True.intro))) (p_X11_within hC (fun c1 _ => (ck_zret dX6_isDigit_8 rfl (by decide) (h3.1 c1))) (fun c2 _ => (ck_zret dX6_isDigit_8 rfl (by decide) (h3.2 c2))))))))))
theorem p_X6_isDigit {g : ch_G} {A R : Nat} (hC : ck_Cx g A R) {d : Nat} {K : Option ck_V → ck_W → Prop} {w : ck_W} {a0 : Int} (h1 : 48 ≤ a0 ∧ a0 ≤ 57 → K (some (.inl 1)) w) (h0 : ¬ (48 ≤ a0 ∧ a0 ≤ 57) → K (some (.inl 0)) w) : ck_Ex (ch_C g A R) (d + 1) mX6_isDigit [.inl a0] w K := by
  refine e_X6_isDigit hC ?_
  repeat' (first | apply And.intro | intro _)
  all_goals first | omega | exact h1 (by omega) | exact h0 (by omega)
theorem dX6_isLetter_0 : decode cX6_isLetter 0 = .ok (.iload_n 0, 1) := dk_26 (by decide +kernel)
theorem dX6_isLetter_1 : decode cX6_isLetter 1 = .ok (.bipush 97, 2) := dk_16 97 (by decide +kernel)
theorem dX6_isLetter_3 : decode cX6_isLetter 3 = .ok (.bipush 122, 2) := dk_16 122 (by decide +kernel)
theorem dX6_isLetter_5 : decode cX6_isLetter 5 = .ok (.invokestatic 66, 3) := dk_184 0 66 (by decide +kernel)
theorem dX6_isLetter_8 : decode cX6_isLetter 8 = .ok (.ifCond .ne 14, 3) := dk_154 0 14 (by decide +kernel)
theorem dX6_isLetter_11 : decode cX6_isLetter 11 = .ok (.iload_n 0, 1) := dk_26 (by decide +kernel)
theorem dX6_isLetter_12 : decode cX6_isLetter 12 = .ok (.bipush 65, 2) := dk_16 65 (by decide +kernel)
theorem dX6_isLetter_14 : decode cX6_isLetter 14 = .ok (.bipush 90, 2) := dk_16 90 (by decide +kernel)
theorem dX6_isLetter_16 : decode cX6_isLetter 16 = .ok (.invokestatic 66, 3) := dk_184 0 66 (by decide +kernel)
theorem dX6_isLetter_19 : decode cX6_isLetter 19 = .ok (.ifCond .eq 7, 3) := dk_153 0 7 (by decide +kernel)
theorem dX6_isLetter_22 : decode cX6_isLetter 22 = .ok (.iconst 1, 1) := dk_4 (by decide +kernel)
theorem dX6_isLetter_23 : decode cX6_isLetter 23 = .ok (.goto 4, 3) := dk_167 0 4 (by decide +kernel)
theorem dX6_isLetter_26 : decode cX6_isLetter 26 = .ok (.iconst 0, 1) := dk_3 (by decide +kernel)
theorem dX6_isLetter_27 : decode cX6_isLetter 27 = .ok (.ireturn, 1) := dk_172 (by decide +kernel)
set_option maxRecDepth 8000 in
theorem e_X6_isLetter {g : ch_G} {A R : Nat} (hC : ck_Cx g A R) {d : Nat} {K : Option ck_V → ck_W → Prop} {w : ck_W} {a0 : Int} (h : (97 ≤ a0 ∧ a0 ≤ 122 → K (some (.inl 1)) w) ∧ (¬ (97 ≤ a0 ∧ a0 ≤ 122) → (65 ≤ a0 ∧ a0 ≤ 90 → K (some (.inl 1)) w) ∧ (¬ (65 ≤ a0 ∧ a0 ≤ 90) → K (some (.inl 0)) w))) : ck_Ex (ch_C g A R) (d + 1) mX6_isLetter [.inl a0] w K :=
  ck_entry hC.1 [some (.inl a0)] (by decide) (Nat.le_of_ble_eq_true rfl) rfl (fun q => q) (ck_in (fun hl => (ck_iload_n 1 rfl 0 dX6_isLetter_0 rfl rfl (ck_bipush 3 rfl dX6_isLetter_1 rfl (ck_bipush 5 rfl dX6_isLetter_3 rfl (have h6 := h; ck_callSN 8 rfl [.inl a0, .inl 97, .inl 122] [] dX6_isLetter_5 cn_X6_66 rfl rfl (Nat.le_of_ble_eq_true rfl) (And.intro hl.1 (And.intro (show ck_i 97 by decide) (And.intro (show ck_i 122 by decide) True.intro))) (p_X11_within hC (fun c4 _ => (ck_if_ne 11 rfl 22 dX6_isLetter_8 rfl (by decide) (fun _ => (ck_iconst 23 rfl dX6_isLetter_22 rfl (ck_goto 27 dX6_isLetter_23 rfl (ck_zret dX6_isLetter_27 rfl (by decide) (h6.1 c4))))) (fun q => absurd q (by decide)))) (fun c5 _ => (ck_if_ne 11 rfl 22 dX6_isLetter_8 rfl (by decide) (fun q => absurd q (by decide)) (fun _ => (ck_iload_n 12 rfl 0 dX6_isLetter_11 rfl rfl (ck_bipush 14 rfl dX6_isLetter_12 rfl (ck_bipush 16 rfl dX6_isLetter_14 rfl (have h3 := (h6.2 c5); ck_callSN 19 rfl [.inl a0, .inl 65, .inl 90] [] dX6_isLetter_16 cn_X6_66 rfl rfl (Nat.le_of_ble_eq_true rfl) (And.intro hl.1 (And.intro (show ck_i 65 by decide) (And.intro (show ck_i 90 by decide) True.intro))) (p_X11_within hC (fun c1 _ => (ck_if_eq 22 rfl 26 dX6_isLetter_19 rfl (by decide) (fun q => absurd q (by decide)) (fun _ => (ck_iconst 23 rfl dX6_isLetter_22 rfl (ck_goto 27 dX6_isLetter_23 rfl (ck_zret dX6_isLetter_27 rfl (by decide) (h3.1 c1))))))) (fun c2 _ => (ck_if_eq 22 rfl 26 dX6_isLetter_19 rfl (by decide) (fun _ => (ck_iconst 27 rfl dX6_isLetter_26 rfl (ck_zret dX6_isLetter_27 rfl (by decide) (h3.2 c2)))) (fun q => absurd q (by decide)))))))))))))))))))
theorem p_X6_isLetter {g : ch_G} {A R : Nat} (hC : ck_Cx g A R) {d : Nat} {K : Option ck_V → ck_W → Prop} {w : ck_W} {a0 : Int} (h1 : (97 ≤ a0 ∧ a0 ≤ 122) ∨ (65 ≤ a0 ∧ a0 ≤ 90) → K (some (.inl 1)) w) (h0 : ¬ ((97 ≤ a0 ∧ a0 ≤ 122) ∨ (65 ≤ a0 ∧ a0 ≤ 90)) → K (some (.inl 0)) w) : ck_Ex (ch_C g A R) (d + 1) mX6_isLetter [.inl a0] w K := by
  refine e_X6_isLetter hC ?_
  repeat' (first | apply And.intro | intro _)
  all_goals first | omega | exact h1 (by omega) | exact h0 (by omega)
theorem dX6_isBlank_0 : decode cX6_isBlank 0 = .ok (.iload_n 0, 1) := dk_26 (by decide +kernel)
theorem dX6_isBlank_1 : decode cX6_isBlank 1 = .ok (.bipush 32, 2) := dk_16 32 (by decide +kernel)
theorem dX6_isBlank_3 : decode cX6_isBlank 3 = .ok (.if_icmp .eq 9, 3) := dk_159 0 9 (by decide +kernel)
theorem dX6_isBlank_6 : decode cX6_isBlank 6 = .ok (.iload_n 0, 1) := dk_26 (by decide +kernel)
theorem dX6_isBlank_7 : decode cX6_isBlank 7 = .ok (.bipush 10, 2) := dk_16 10 (by decide +kernel)
theorem dX6_isBlank_9 : decode cX6_isBlank 9 = .ok (.if_icmp .ne 7, 3) := dk_160 0 7 (by decide +kernel)
theorem dX6_isBlank_12 : decode cX6_isBlank 12 = .ok (.iconst 1, 1) := dk_4 (by decide +kernel)
theorem dX6_isBlank_13 : decode cX6_isBlank 13 = .ok (.goto 4, 3) := dk_167 0 4 (by decide +kernel)
theorem dX6_isBlank_16 : decode cX6_isBlank 16 = .ok (.iconst 0, 1) := dk_3 (by decide +kernel)
theorem dX6_isBlank_17 : decode cX6_isBlank 17 = .ok (.ireturn, 1) := dk_172 (by decide +kernel)
set_option maxRecDepth 8000 in
theorem e_X6_isBlank {g : ch_G} {A R : Nat} (hC : ck_Cx g A R) {d : Nat} {K : Option ck_V → ck_W → Prop} {w : ck_W} {a0 : Int} (h : (a0 = 32 → K (some (.inl 1)) w) ∧ (¬ a0 = 32 → (¬ a0 = 10 → K (some (.inl 0)) w) ∧ (a0 = 10 → K (some (.inl 1)) w))) : ck_Ex (ch_C g A R) d mX6_isBlank [.inl a0] w K :=
  ck_entry hC.1 [some (.inl a0)] (by decide) (Nat.le_of_ble_eq_true rfl) rfl (fun q => q) (ck_in (fun hl => (ck_iload_n 1 rfl 0 dX6_isBlank_0 rfl rfl (ck_bipush 3 rfl dX6_isBlank_1 rfl (ck_icmp_eq 6 rfl 12 dX6_isBlank_3 rfl hl.1 (show ck_i 32 by decide) (fun c3 => (ck_iconst 13 rfl dX6_isBlank_12 rfl (ck_goto 17 dX6_isBlank_13 rfl (ck_zret dX6_isBlank_17 rfl (by decide) (h.1 c3))))) (fun c4 => (ck_iload_n 7 rfl 0 dX6_isBlank_6 rfl rfl (ck_bipush 9 rfl dX6_isBlank_7 rfl (have h5 := (h.2 c4); (ck_icmp_ne 12 rfl 16 dX6_isBlank_9 rfl hl.1 (show ck_i 10 by decide) (fun c1 => (ck_iconst 17 rfl dX6_isBlank_16 rfl (ck_zret dX6_isBlank_17 rfl (by decide) (h5.1 c1)))) (fun c2 => (ck_iconst 13 rfl dX6_isBlank_12 rfl (ck_goto 17 dX6_isBlank_13 rfl (ck_zret dX6_isBlank_17 rfl (by decide) (h5.2 c2)))))))))))))))
theorem p_X6_isBlank {g : ch_G} {A R : Nat} (hC : ck_Cx g A R) {d : Nat} {K : Option ck_V → ck_W → Prop} {w : ck_W} {a0 : Int} (h1 : a0 = 32 ∨ a0 = 10 → K (some (.inl 1)) w) (h0 : ¬ (a0 = 32 ∨ a0 = 10) → K (some (.inl 0)) w) : ck_Ex (ch_C g A R) d mX6_isBlank [.inl a0] w K := by
  refine e_X6_isBlank hC ?_
  repeat' (first | apply And.intro | intro _)
  all_goals first | omega | exact h1 (by omega) | exact h0 (by omega)
theorem dX12_isRadius_0 : decode cX12_isRadius 0 = .ok (.iload_n 1, 1) := dk_27 (by decide +kernel)
theorem dX12_isRadius_1 : decode cX12_isRadius 1 = .ok (.iconst 0, 1) := dk_3 (by decide +kernel)
theorem dX12_isRadius_2 : decode cX12_isRadius 2 = .ok (.aload_n 0, 1) := dk_42 (by decide +kernel)
theorem dX12_isRadius_3 : decode cX12_isRadius 3 = .ok (.getfield 83, 3) := dk_180 0 83 (by decide +kernel)
theorem dX12_isRadius_6 : decode cX12_isRadius 6 = .ok (.iconst 1, 1) := dk_4 (by decide +kernel)
theorem dX12_isRadius_7 : decode cX12_isRadius 7 = .ok (.isub, 1) := dk_100 (by decide +kernel)
theorem dX12_isRadius_8 : decode cX12_isRadius 8 = .ok (.invokestatic 93, 3) := dk_184 0 93 (by decide +kernel)
theorem dX12_isRadius_11 : decode cX12_isRadius 11 = .ok (.ireturn, 1) := dk_172 (by decide +kernel)
set_option maxRecDepth 8000 in
theorem e_X12_isRadius {g : ch_G} {A R : Nat} (hC : ck_Cx g A R) {d : Nat} {K : Option ck_V → ck_W → Prop} {w : ck_W} {a1 : Int} (h : ck_i ((w 76 1) - 1) ∧ ((0 ≤ a1 ∧ a1 ≤ ((w 76 1) - 1) → K (some (.inl 1)) w) ∧ (¬ (0 ≤ a1 ∧ a1 ≤ ((w 76 1) - 1)) → K (some (.inl 0)) w))) : ck_Ex (ch_C g A R) (d + 1) mX12_isRadius [.inr (.inr 76), .inl a1] w K :=
  ck_entry hC.1 [some (.inr (.inr 76)), some (.inl a1)] (by decide) (Nat.le_of_ble_eq_true rfl) rfl (fun q => q) (ck_in (fun hl => (ck_iload_n 1 rfl 1 dX12_isRadius_0 rfl rfl (ck_iconst 2 rfl dX12_isRadius_1 rfl (ck_aload_n 3 rfl 0 dX12_isRadius_2 rfl rfl (ck_geti 6 rfl 1 dX12_isRadius_3 fl_X12_83 sh_76 rfl rfl _ rfl (fun (q1 : ck_i (w 76 1)) => (ck_iconst 7 rfl dX12_isRadius_6 rfl (ck_isub 8 rfl dX12_isRadius_7 (have h7 := h; have o2 := h7.1; have h6 := h7.2; (have h5 := h6; ck_callS 11 rfl [.inl a1, .inl 0, .inl ((w 76 1) - 1)] [] dX12_isRadius_8 cs_X12_93 rfl rfl (Nat.le_of_ble_eq_true rfl) (And.intro hl.2.1 (And.intro (show ck_i 0 by decide) (And.intro o2 True.intro))) (p_X12_isIn hC (fun c3 _ => (ck_zret dX12_isRadius_11 rfl (by decide) (h5.1 c3))) (fun c4 _ => (ck_zret dX12_isRadius_11 rfl (by decide) (h5.2 c4)))))))))))))))
theorem p_X12_isRadius {g : ch_G} {A R : Nat} (hC : ck_Cx g A R) {d : Nat} {K : Option ck_V → ck_W → Prop} {w : ck_W} {a1 : Int} (o0 : 1 ≤ (w 76 1) ∧ (w 76 1) ≤ 1000) (h1 : 0 ≤ a1 ∧ a1 ≤ (w 76 1) - 1 → K (some (.inl 1)) w) (h0 : ¬ (0 ≤ a1 ∧ a1 ≤ (w 76 1) - 1) → K (some (.inl 0)) w) : ck_Ex (ch_C g A R) (d + 1) mX12_isRadius [.inr (.inr 76), .inl a1] w K := by
  refine e_X12_isRadius hC ?_
  repeat' (first | apply And.intro | intro _)
  all_goals first | omega | exact h1 (by omega) | exact h0 (by omega)
theorem dX12_isPlace_0 : decode cX12_isPlace 0 = .ok (.iload_n 1, 1) := dk_27 (by decide +kernel)
theorem dX12_isPlace_1 : decode cX12_isPlace 1 = .ok (.iconst 0, 1) := dk_3 (by decide +kernel)
theorem dX12_isPlace_2 : decode cX12_isPlace 2 = .ok (.iconst 4, 1) := dk_7 (by decide +kernel)
theorem dX12_isPlace_3 : decode cX12_isPlace 3 = .ok (.aload_n 0, 1) := dk_42 (by decide +kernel)
theorem dX12_isPlace_4 : decode cX12_isPlace 4 = .ok (.getfield 80, 3) := dk_180 0 80 (by decide +kernel)
theorem dX12_isPlace_7 : decode cX12_isPlace 7 = .ok (.imul, 1) := dk_104 (by decide +kernel)
theorem dX12_isPlace_8 : decode cX12_isPlace 8 = .ok (.iconst 1, 1) := dk_4 (by decide +kernel)
theorem dX12_isPlace_9 : decode cX12_isPlace 9 = .ok (.isub, 1) := dk_100 (by decide +kernel)
theorem dX12_isPlace_10 : decode cX12_isPlace 10 = .ok (.invokestatic 93, 3) := dk_184 0 93 (by decide +kernel)
theorem dX12_isPlace_13 : decode cX12_isPlace 13 = .ok (.ireturn, 1) := dk_172 (by decide +kernel)
set_option maxRecDepth 8000 in
theorem e_X12_isPlace {g : ch_G} {A R : Nat} (hC : ck_Cx g A R) {d : Nat} {K : Option ck_V → ck_W → Prop} {w : ck_W} {a1 : Int} (h : ck_i ((4 * (w 76 0)) - 1) ∧ ((0 ≤ a1 ∧ a1 ≤ ((4 * (w 76 0)) - 1) → K (some (.inl 1)) w) ∧ (¬ (0 ≤ a1 ∧ a1 ≤ ((4 * (w 76 0)) - 1)) → K (some (.inl 0)) w))) : ck_Ex (ch_C g A R) (d + 1) mX12_isPlace [.inr (.inr 76), .inl a1] w K :=
  ck_entry hC.1 [some (.inr (.inr 76)), some (.inl a1)] (by decide) (Nat.le_of_ble_eq_true rfl) rfl (fun q => q) (ck_in (fun hl => (ck_iload_n 1 rfl 1 dX12_isPlace_0 rfl rfl (ck_iconst 2 rfl dX12_isPlace_1 rfl (ck_iconst 3 rfl dX12_isPlace_2 rfl (ck_aload_n 4 rfl 0 dX12_isPlace_3 rfl rfl (ck_geti 7 rfl 0 dX12_isPlace_4 fl_X12_80 sh_76 rfl rfl _ rfl (fun (q1 : ck_i (w 76 0)) => (ck_imul 8 rfl dX12_isPlace_7 (ck_iconst 9 rfl dX12_isPlace_8 rfl (ck_isub 10 rfl dX12_isPlace_9 (have h7 := h; have o2 := h7.1; have h6 := h7.2; (have h5 := h6; ck_callS 13 rfl [.inl a1, .inl 0, .inl ((4 * (w 76 0)) - 1)] [] dX12_isPlace_10 cs_X12_93 rfl rfl (Nat.le_of_ble_eq_true rfl) (And.intro hl.2.1 (And.intro (show ck_i 0 by decide) (And.intro o2 True.intro))) (p_X12_isIn hC (fun c3 _ => (ck_zret dX12_isPlace_13 rfl (by decide) (h5.1 c3))) (fun c4 _ => (ck_zret dX12_isPlace_13 rfl (by decide) (h5.2 c4)))))))))))))))))
theorem p_X12_isPlace {g : ch_G} {A R : Nat} (hC : ck_Cx g A R) {d : Nat} {K : Option ck_V → ck_W → Prop} {w : ck_W} {a1 : Int} (o0 : 1 ≤ (w 76 0) ∧ (w 76 0) ≤ 1000) (h1 : 0 ≤ a1 ∧ a1 ≤ 4 * (w 76 0) - 1 → K (some (.inl 1)) w) (h0 : ¬ (0 ≤ a1 ∧ a1 ≤ 4 * (w 76 0) - 1) → K (some (.inl 0)) w) : ck_Ex (ch_C g A R) (d + 1) mX12_isPlace [.inr (.inr 76), .inl a1] w K := by
  refine e_X12_isPlace hC ?_
  repeat' (first | apply And.intro | intro _)
  all_goals first | omega | exact h1 (by omega) | exact h0 (by omega)
theorem dX12_spot_0 : decode cX12_spot 0 = .ok (.bipush 72, 2) := dk_16 72 (by decide +kernel)
theorem dX12_spot_2 : decode cX12_spot 2 = .ok (.iload_n 0, 1) := dk_26 (by decide +kernel)
theorem dX12_spot_3 : decode cX12_spot 3 = .ok (.imul, 1) := dk_104 (by decide +kernel)
theorem dX12_spot_4 : decode cX12_spot 4 = .ok (.bipush 12, 2) := dk_16 12 (by decide +kernel)
theorem dX12_spot_6 : decode cX12_spot 6 = .ok (.iload_n 1, 1) := dk_27 (by decide +kernel)
theorem dX12_spot_7 : decode cX12_spot 7 = .ok (.imul, 1) := dk_104 (by decide +kernel)
theorem dX12_spot_8 : decode cX12_spot 8 = .ok (.iadd, 1) := dk_96 (by decide +kernel)
theorem dX12_spot_9 : decode cX12_spot 9 = .ok (.iload_n 2, 1) := dk_28 (by decide +kernel)
theorem dX12_spot_10 : decode cX12_spot 10 = .ok (.iadd, 1) := dk_96 (by decide +kernel)
theorem dX12_spot_11 : decode cX12_spot 11 = .ok (.ireturn, 1) := dk_172 (by decide +kernel)
set_option maxRecDepth 8000 in
theorem e_X12_spot {g : ch_G} {A R : Nat} (hC : ck_Cx g A R) {d : Nat} {K : Option ck_V → ck_W → Prop} {w : ck_W} {a0 a1 a2 : Int} (h : ck_i (((72 * a0) + (12 * a1)) + a2) ∧ (K (some (.inl (((72 * a0) + (12 * a1)) + a2))) w)) : ck_Ex (ch_C g A R) d mX12_spot [.inl a0, .inl a1, .inl a2] w K :=
  ck_entry hC.1 [some (.inl a0), some (.inl a1), some (.inl a2)] (by decide) (Nat.le_of_ble_eq_true rfl) rfl (fun q => q) (ck_in (fun hl => (ck_bipush 2 rfl dX12_spot_0 rfl (ck_iload_n 3 rfl 0 dX12_spot_2 rfl rfl (ck_imul 4 rfl dX12_spot_3 (ck_bipush 6 rfl dX12_spot_4 rfl (ck_iload_n 7 rfl 1 dX12_spot_6 rfl rfl (ck_imul 8 rfl dX12_spot_7 (ck_iadd 9 rfl dX12_spot_8 (ck_iload_n 10 rfl 2 dX12_spot_9 rfl rfl (ck_iadd 11 rfl dX12_spot_10 (have h3 := h; have o1 := h3.1; have h2 := h3.2; (ck_iret dX12_spot_11 rfl o1 h2)))))))))))))
theorem p_X12_spot {g : ch_G} {A R : Nat} (hC : ck_Cx g A R) {d : Nat} {K : Option ck_V → ck_W → Prop} {w : ck_W} {a0 a1 a2 : Int} (o0 : ck_i (72 * a0 + 12 * a1 + a2)) (h : K (some (.inl (72 * a0 + 12 * a1 + a2))) w) : ck_Ex (ch_C g A R) d mX12_spot [.inl a0, .inl a1, .inl a2] w K := by
  try simp only [ck_i, ck_l] at o0
  refine e_X12_spot hC ?_
  repeat' (first | apply And.intro | intro _)
  all_goals first | omega | (exact cast (congrArg (fun t => K (some (.inl t)) w) (by omega)) h) | (simp only [] at *; omega) | assumption
theorem dX12_state_0 : decode cX12_state 0 = .ok (.bipush 12, 2) := dk_16 12 (by decide +kernel)
theorem dX12_state_2 : decode cX12_state 2 = .ok (.iload_n 0, 1) := dk_26 (by decide +kernel)
theorem dX12_state_3 : decode cX12_state 3 = .ok (.imul, 1) := dk_104 (by decide +kernel)
theorem dX12_state_4 : decode cX12_state 4 = .ok (.iload_n 1, 1) := dk_27 (by decide +kernel)
theorem dX12_state_5 : decode cX12_state 5 = .ok (.iadd, 1) := dk_96 (by decide +kernel)
theorem dX12_state_6 : decode cX12_state 6 = .ok (.sipush 243, 3) := dk_17 0 243 (by decide +kernel)
theorem dX12_state_9 : decode cX12_state 9 = .ok (.imul, 1) := dk_104 (by decide +kernel)
theorem dX12_state_10 : decode cX12_state 10 = .ok (.iload_n 2, 1) := dk_28 (by decide +kernel)
theorem dX12_state_11 : decode cX12_state 11 = .ok (.iadd, 1) := dk_96 (by decide +kernel)
theorem dX12_state_12 : decode cX12_state 12 = .ok (.ireturn, 1) := dk_172 (by decide +kernel)
set_option maxRecDepth 8000 in
theorem e_X12_state {g : ch_G} {A R : Nat} (hC : ck_Cx g A R) {d : Nat} {K : Option ck_V → ck_W → Prop} {w : ck_W} {a0 a1 a2 : Int} (h : ck_i ((((12 * a0) + a1) * 243) + a2) ∧ (K (some (.inl ((((12 * a0) + a1) * 243) + a2))) w)) : ck_Ex (ch_C g A R) d mX12_state [.inl a0, .inl a1, .inl a2] w K :=
  ck_entry hC.1 [some (.inl a0), some (.inl a1), some (.inl a2)] (by decide) (Nat.le_of_ble_eq_true rfl) rfl (fun q => q) (ck_in (fun hl => (ck_bipush 2 rfl dX12_state_0 rfl (ck_iload_n 3 rfl 0 dX12_state_2 rfl rfl (ck_imul 4 rfl dX12_state_3 (ck_iload_n 5 rfl 1 dX12_state_4 rfl rfl (ck_iadd 6 rfl dX12_state_5 (ck_sipush 9 rfl dX12_state_6 rfl (ck_imul 10 rfl dX12_state_9 (ck_iload_n 11 rfl 2 dX12_state_10 rfl rfl (ck_iadd 12 rfl dX12_state_11 (have h3 := h; have o1 := h3.1; have h2 := h3.2; (ck_iret dX12_state_12 rfl o1 h2)))))))))))))
theorem p_X12_state {g : ch_G} {A R : Nat} (hC : ck_Cx g A R) {d : Nat} {K : Option ck_V → ck_W → Prop} {w : ck_W} {a0 a1 a2 : Int} (o0 : ck_i ((12 * a0 + a1) * 243 + a2)) (h : K (some (.inl ((12 * a0 + a1) * 243 + a2))) w) : ck_Ex (ch_C g A R) d mX12_state [.inl a0, .inl a1, .inl a2] w K := by
  try simp only [ck_i, ck_l] at o0
  refine e_X12_state hC ?_
  repeat' (first | apply And.intro | intro _)
  all_goals first | omega | (exact cast (congrArg (fun t => K (some (.inl t)) w) (by omega)) h) | (simp only [] at *; omega) | assumption
theorem dX12_places_0 : decode cX12_places 0 = .ok (.aload_n 0, 1) := dk_42 (by decide +kernel)
theorem dX12_places_1 : decode cX12_places 1 = .ok (.getfield 7, 3) := dk_180 0 7 (by decide +kernel)
theorem dX12_places_4 : decode cX12_places 4 = .ok (.bipush 10, 2) := dk_16 10 (by decide +kernel)
theorem dX12_places_6 : decode cX12_places 6 = .ok (.iload_n 1, 1) := dk_27 (by decide +kernel)
theorem dX12_places_7 : decode cX12_places 7 = .ok (.iadd, 1) := dk_96 (by decide +kernel)
theorem dX12_places_8 : decode cX12_places 8 = .ok (.iaload, 1) := dk_46 (by decide +kernel)
theorem dX12_places_9 : decode cX12_places 9 = .ok (.aload_n 0, 1) := dk_42 (by decide +kernel)
theorem dX12_places_10 : decode cX12_places 10 = .ok (.getfield 80, 3) := dk_180 0 80 (by decide +kernel)
theorem dX12_places_13 : decode cX12_places 13 = .ok (.imul, 1) := dk_104 (by decide +kernel)
theorem dX12_places_14 : decode cX12_places 14 = .ok (.ireturn, 1) := dk_172 (by decide +kernel)
set_option maxRecDepth 8000 in
theorem e_X12_places {g : ch_G} {A R : Nat} (hC : ck_Cx g A R) {d : Nat} {K : Option ck_V → ck_W → Prop} {w : ck_W} {a1 : Int} (h : (0 ≤ (10 + a1) ∧ (10 + a1) < 1430) ∧ (ck_i ((w 77 (10 + a1)) * (w 76 0)) ∧ (K (some (.inl ((w 77 (10 + a1)) * (w 76 0)))) w))) : ck_Ex (ch_C g A R) d mX12_places [.inr (.inr 76), .inl a1] w K :=
  ck_entry hC.1 [some (.inr (.inr 76)), some (.inl a1)] (by decide) (Nat.le_of_ble_eq_true rfl) rfl (fun q => q) (ck_in (fun hl => (ck_aload_n 1 rfl 0 dX12_places_0 rfl rfl (ck_getr 4 rfl dX12_places_1 fl_X12_7 sh_76 rfl (ck_bipush 6 rfl dX12_places_4 rfl (ck_iload_n 7 rfl 1 dX12_places_6 rfl rfl (ck_iadd 8 rfl dX12_places_7 (have h6 := h; have o1 := h6.1; have h5 := h6.2; (ck_iald 9 rfl dX12_places_8 sh_77 (shn_77 hC) o1 _ rfl (fun (q2 : ck_i (w 77 (10 + a1))) => (ck_aload_n 10 rfl 0 dX12_places_9 rfl rfl (ck_geti 13 rfl 0 dX12_places_10 fl_X12_80 sh_76 rfl rfl _ rfl (fun (q3 : ck_i (w 76 0)) => (ck_imul 14 rfl dX12_places_13 (have h8 := h5; have o4 := h8.1; have h7 := h8.2; (ck_iret dX12_places_14 rfl o4 h7))))))))))))))))
theorem p_X12_places {g : ch_G} {A R : Nat} (hC : ck_Cx g A R) {d : Nat} {K : Option ck_V → ck_W → Prop} {w : ck_W} {a1 : Int} (o0 : 0 ≤ 10 + a1 ∧ 10 + a1 < 1430) (o1 : ck_i ((w 77 (10 + a1)) * (w 76 0))) (h : K (some (.inl ((w 77 (10 + a1)) * (w 76 0)))) w) : ck_Ex (ch_C g A R) d mX12_places [.inr (.inr 76), .inl a1] w K := by
  try simp only [ck_i, ck_l] at o1
  refine e_X12_places hC ?_
  repeat' (first | apply And.intro | intro _)
  all_goals first | omega | (exact cast (congrArg (fun t => K (some (.inl t)) w) (by omega)) h) | (simp only [] at *; omega) | assumption
theorem dX12_nextCode_0 : decode cX12_nextCode 0 = .ok (.iconst 3, 1) := dk_6 (by decide +kernel)
theorem dX12_nextCode_1 : decode cX12_nextCode 1 = .ok (.iload_n 1, 1) := dk_27 (by decide +kernel)
theorem dX12_nextCode_2 : decode cX12_nextCode 2 = .ok (.imul, 1) := dk_104 (by decide +kernel)
theorem dX12_nextCode_3 : decode cX12_nextCode 3 = .ok (.iload_n 2, 1) := dk_28 (by decide +kernel)
theorem dX12_nextCode_4 : decode cX12_nextCode 4 = .ok (.iadd, 1) := dk_96 (by decide +kernel)
theorem dX12_nextCode_5 : decode cX12_nextCode 5 = .ok (.iconst 1, 1) := dk_4 (by decide +kernel)
theorem dX12_nextCode_6 : decode cX12_nextCode 6 = .ok (.iadd, 1) := dk_96 (by decide +kernel)
theorem dX12_nextCode_7 : decode cX12_nextCode 7 = .ok (.aload_n 0, 1) := dk_42 (by decide +kernel)
theorem dX12_nextCode_8 : decode cX12_nextCode 8 = .ok (.getfield 86, 3) := dk_180 0 86 (by decide +kernel)
theorem dX12_nextCode_11 : decode cX12_nextCode 11 = .ok (.irem, 1) := dk_112 (by decide +kernel)
theorem dX12_nextCode_12 : decode cX12_nextCode 12 = .ok (.ireturn, 1) := dk_172 (by decide +kernel)
set_option maxRecDepth 8000 in
theorem e_X12_nextCode {g : ch_G} {A R : Nat} (hC : ck_Cx g A R) {d : Nat} {K : Option ck_V → ck_W → Prop} {w : ck_W} {a1 a2 : Int} (h : ck_i (((3 * a1) + a2) + 1) ∧ ((¬ (w 76 2) = 0) ∧ (ck_i ((((3 * a1) + a2) + 1).tmod (w 76 2)) ∧ (K (some (.inl ((((3 * a1) + a2) + 1).tmod (w 76 2)))) w)))) : ck_Ex (ch_C g A R) d mX12_nextCode [.inr (.inr 76), .inl a1, .inl a2] w K :=
  ck_entry hC.1 [some (.inr (.inr 76)), some (.inl a1), some (.inl a2)] (by decide) (Nat.le_of_ble_eq_true rfl) rfl (fun q => q) (ck_in (fun hl => (ck_iconst 1 rfl dX12_nextCode_0 rfl (ck_iload_n 2 rfl 1 dX12_nextCode_1 rfl rfl (ck_imul 3 rfl dX12_nextCode_2 (ck_iload_n 4 rfl 2 dX12_nextCode_3 rfl rfl (ck_iadd 5 rfl dX12_nextCode_4 (ck_iconst 6 rfl dX12_nextCode_5 rfl (ck_iadd 7 rfl dX12_nextCode_6 (ck_aload_n 8 rfl 0 dX12_nextCode_7 rfl rfl (ck_geti 11 rfl 2 dX12_nextCode_8 fl_X12_86 sh_76 rfl rfl _ rfl (fun (q1 : ck_i (w 76 2)) => (have h6 := h; have o2 := h6.1; have h5 := h6.2; (have h8 := h5; have o3 := h8.1; have h7 := h8.2; (ck_irem 12 rfl dX12_nextCode_11 o2 q1 o3 (have h10 := h7; have o4 := h10.1; have h9 := h10.2; (ck_iret dX12_nextCode_12 rfl o4 h9)))))))))))))))))
theorem p_X12_nextCode {g : ch_G} {A R : Nat} (hC : ck_Cx g A R) {d : Nat} {K : Option ck_V → ck_W → Prop} {w : ck_W} {a1 a2 : Int} (o0 : ck_i (3 * a1 + a2 + 1)) (o1 : 1 ≤ (w 76 2)) (o2 : ck_i ((3 * a1 + a2 + 1).tmod (w 76 2))) (h : K (some (.inl ((3 * a1 + a2 + 1).tmod (w 76 2)))) w) : ck_Ex (ch_C g A R) d mX12_nextCode [.inr (.inr 76), .inl a1, .inl a2] w K := by
  try simp only [ck_i, ck_l] at o0
  try simp only [ck_i, ck_l] at o2
  refine e_X12_nextCode hC ?_
  repeat' (first | apply And.intro | intro _)
  all_goals first | omega | (exact cast (congrArg (fun t => K (some (.inl t)) w) (by omega)) h) | (simp only [] at *; omega) | assumption
theorem dX12_still_0 : decode cX12_still 0 = .ok (.aload_n 0, 1) := dk_42 (by decide +kernel)
theorem dX12_still_1 : decode cX12_still 1 = .ok (.getfield 86, 3) := dk_180 0 86 (by decide +kernel)
theorem dX12_still_4 : decode cX12_still 4 = .ok (.iconst 1, 1) := dk_4 (by decide +kernel)
theorem dX12_still_5 : decode cX12_still 5 = .ok (.isub, 1) := dk_100 (by decide +kernel)
theorem dX12_still_6 : decode cX12_still 6 = .ok (.iconst 2, 1) := dk_5 (by decide +kernel)
theorem dX12_still_7 : decode cX12_still 7 = .ok (.idiv, 1) := dk_108 (by decide +kernel)
theorem dX12_still_8 : decode cX12_still 8 = .ok (.ireturn, 1) := dk_172 (by decide +kernel)
set_option maxRecDepth 8000 in
theorem e_X12_still {g : ch_G} {A R : Nat} (hC : ck_Cx g A R) {d : Nat} {K : Option ck_V → ck_W → Prop} {w : ck_W} (h : ck_i ((w 76 2) - 1) ∧ (ck_i (((w 76 2) - 1).tdiv 2) ∧ (K (some (.inl (((w 76 2) - 1).tdiv 2))) w))) : ck_Ex (ch_C g A R) d mX12_still [.inr (.inr 76)] w K :=
  ck_entry hC.1 [some (.inr (.inr 76))] (by decide) (Nat.le_of_ble_eq_true rfl) rfl (fun q => q) (ck_in (fun hl => (ck_aload_n 1 rfl 0 dX12_still_0 rfl rfl (ck_geti 4 rfl 2 dX12_still_1 fl_X12_86 sh_76 rfl rfl _ rfl (fun (q1 : ck_i (w 76 2)) => (ck_iconst 5 rfl dX12_still_4 rfl (ck_isub 6 rfl dX12_still_5 (ck_iconst 7 rfl dX12_still_6 rfl (have h5 := h; have o2 := h5.1; have h4 := h5.2; (ck_idiv 8 rfl dX12_still_7 o2 (show ck_i 2 by decide) (by decide) (have h7 := h4; have o3 := h7.1; have h6 := h7.2; (ck_iret dX12_still_8 rfl o3 h6))))))))))))
theorem p_X12_still {g : ch_G} {A R : Nat} (hC : ck_Cx g A R) {d : Nat} {K : Option ck_V → ck_W → Prop} {w : ck_W} (o0 : 1 ≤ (w 76 2) ∧ (w 76 2) ≤ 1000 ∧ ck_i (((w 76 2) - 1).tdiv 2)) (h : K (some (.inl (((w 76 2) - 1).tdiv 2))) w) : ck_Ex (ch_C g A R) d mX12_still [.inr (.inr 76)] w K := by
  try simp only [ck_i, ck_l] at o0
  refine e_X12_still hC ?_
  repeat' (first | apply And.intro | intro _)
  all_goals first | omega | (exact cast (congrArg (fun t => K (some (.inl t)) w) (by omega)) h) | (simp only [] at *; omega) | assumption
theorem dX12_isReader_0 : decode cX12_isReader 0 = .ok (.iload_n 1, 1) := dk_27 (by decide +kernel)
theorem dX12_isReader_1 : decode cX12_isReader 1 = .ok (.iconst 0, 1) := dk_3 (by decide +kernel)
theorem dX12_isReader_2 : decode cX12_isReader 2 = .ok (.aload_n 0, 1) := dk_42 (by decide +kernel)
theorem dX12_isReader_3 : decode cX12_isReader 3 = .ok (.getfield 7, 3) := dk_180 0 7 (by decide +kernel)
theorem dX12_isReader_6 : decode cX12_isReader 6 = .ok (.iconst 0, 1) := dk_3 (by decide +kernel)
theorem dX12_isReader_7 : decode cX12_isReader 7 = .ok (.iaload, 1) := dk_46 (by decide +kernel)
theorem dX12_isReader_8 : decode cX12_isReader 8 = .ok (.iconst 1, 1) := dk_4 (by decide +kernel)
theorem dX12_isReader_9 : decode cX12_isReader 9 = .ok (.isub, 1) := dk_100 (by decide +kernel)
theorem dX12_isReader_10 : decode cX12_isReader 10 = .ok (.invokestatic 93, 3) := dk_184 0 93 (by decide +kernel)
theorem dX12_isReader_13 : decode cX12_isReader 13 = .ok (.ireturn, 1) := dk_172 (by decide +kernel)
set_option maxRecDepth 8000 in
theorem e_X12_isReader {g : ch_G} {A R : Nat} (hC : ck_Cx g A R) {d : Nat} {K : Option ck_V → ck_W → Prop} {w : ck_W} {a1 : Int} (h : ck_i ((w 77 0) - 1) ∧ ((0 ≤ a1 ∧ a1 ≤ ((w 77 0) - 1) → K (some (.inl 1)) w) ∧ (¬ (0 ≤ a1 ∧ a1 ≤ ((w 77 0) - 1)) → K (some (.inl 0)) w))) : ck_Ex (ch_C g A R) (d + 1) mX12_isReader [.inr (.inr 76), .inl a1] w K :=
  ck_entry hC.1 [some (.inr (.inr 76)), some (.inl a1)] (by decide) (Nat.le_of_ble_eq_true rfl) rfl (fun q => q) (ck_in (fun hl => (ck_iload_n 1 rfl 1 dX12_isReader_0 rfl rfl (ck_iconst 2 rfl dX12_isReader_1 rfl (ck_aload_n 3 rfl 0 dX12_isReader_2 rfl rfl (ck_getr 6 rfl dX12_isReader_3 fl_X12_7 sh_76 rfl (ck_iconst 7 rfl dX12_isReader_6 rfl (ck_iald 8 rfl dX12_isReader_7 sh_77 (shn_77 hC) (by decide) _ rfl (fun (q1 : ck_i (w 77 0)) => (ck_iconst 9 rfl dX12_isReader_8 rfl (ck_isub 10 rfl dX12_isReader_9 (have h7 := h; have o2 := h7.1; have h6 := h7.2; (have h5 := h6; ck_callS 13 rfl [.inl a1, .inl 0, .inl ((w 77 0) - 1)] [] dX12_isReader_10 cs_X12_93 rfl rfl (Nat.le_of_ble_eq_true rfl) (And.intro hl.2.1 (And.intro (show ck_i 0 by decide) (And.intro o2 True.intro))) (p_X12_isIn hC (fun c3 _ => (ck_zret dX12_isReader_13 rfl (by decide) (h5.1 c3))) (fun c4 _ => (ck_zret dX12_isReader_13 rfl (by decide) (h5.2 c4)))))))))))))))))
theorem p_X12_isReader {g : ch_G} {A R : Nat} (hC : ck_Cx g A R) {d : Nat} {K : Option ck_V → ck_W → Prop} {w : ck_W} {a1 : Int} (o0 : 0 ≤ (w 77 0) ∧ (w 77 0) ≤ 1000) (h1 : 0 ≤ a1 ∧ a1 ≤ (w 77 0) - 1 → K (some (.inl 1)) w) (h0 : ¬ (0 ≤ a1 ∧ a1 ≤ (w 77 0) - 1) → K (some (.inl 0)) w) : ck_Ex (ch_C g A R) (d + 1) mX12_isReader [.inr (.inr 76), .inl a1] w K := by
  refine e_X12_isReader hC ?_
  repeat' (first | apply And.intro | intro _)
  all_goals first | omega | exact h1 (by omega) | exact h0 (by omega)
theorem dX12_isLetter12_0 : decode cX12_isLetter12 0 = .ok (.iload_n 1, 1) := dk_27 (by decide +kernel)
theorem dX12_isLetter12_1 : decode cX12_isLetter12 1 = .ok (.iconst 0, 1) := dk_3 (by decide +kernel)
theorem dX12_isLetter12_2 : decode cX12_isLetter12 2 = .ok (.aload_n 0, 1) := dk_42 (by decide +kernel)
theorem dX12_isLetter12_3 : decode cX12_isLetter12 3 = .ok (.getfield 7, 3) := dk_180 0 7 (by decide +kernel)
theorem dX12_isLetter12_6 : decode cX12_isLetter12 6 = .ok (.iconst 4, 1) := dk_7 (by decide +kernel)
theorem dX12_isLetter12_7 : decode cX12_isLetter12 7 = .ok (.iaload, 1) := dk_46 (by decide +kernel)
theorem dX12_isLetter12_8 : decode cX12_isLetter12 8 = .ok (.iconst 1, 1) := dk_4 (by decide +kernel)
theorem dX12_isLetter12_9 : decode cX12_isLetter12 9 = .ok (.isub, 1) := dk_100 (by decide +kernel)
theorem dX12_isLetter12_10 : decode cX12_isLetter12 10 = .ok (.invokestatic 93, 3) := dk_184 0 93 (by decide +kernel)
theorem dX12_isLetter12_13 : decode cX12_isLetter12 13 = .ok (.ireturn, 1) := dk_172 (by decide +kernel)
set_option maxRecDepth 8000 in
theorem e_X12_isLetter12 {g : ch_G} {A R : Nat} (hC : ck_Cx g A R) {d : Nat} {K : Option ck_V → ck_W → Prop} {w : ck_W} {a1 : Int} (h : ck_i ((w 77 4) - 1) ∧ ((0 ≤ a1 ∧ a1 ≤ ((w 77 4) - 1) → K (some (.inl 1)) w) ∧ (¬ (0 ≤ a1 ∧ a1 ≤ ((w 77 4) - 1)) → K (some (.inl 0)) w))) : ck_Ex (ch_C g A R) (d + 1) mX12_isLetter12 [.inr (.inr 76), .inl a1] w K :=
  ck_entry hC.1 [some (.inr (.inr 76)), some (.inl a1)] (by decide) (Nat.le_of_ble_eq_true rfl) rfl (fun q => q) (ck_in (fun hl => (ck_iload_n 1 rfl 1 dX12_isLetter12_0 rfl rfl (ck_iconst 2 rfl dX12_isLetter12_1 rfl (ck_aload_n 3 rfl 0 dX12_isLetter12_2 rfl rfl (ck_getr 6 rfl dX12_isLetter12_3 fl_X12_7 sh_76 rfl (ck_iconst 7 rfl dX12_isLetter12_6 rfl (ck_iald 8 rfl dX12_isLetter12_7 sh_77 (shn_77 hC) (by decide) _ rfl (fun (q1 : ck_i (w 77 4)) => (ck_iconst 9 rfl dX12_isLetter12_8 rfl (ck_isub 10 rfl dX12_isLetter12_9 (have h7 := h; have o2 := h7.1; have h6 := h7.2; (have h5 := h6; ck_callS 13 rfl [.inl a1, .inl 0, .inl ((w 77 4) - 1)] [] dX12_isLetter12_10 cs_X12_93 rfl rfl (Nat.le_of_ble_eq_true rfl) (And.intro hl.2.1 (And.intro (show ck_i 0 by decide) (And.intro o2 True.intro))) (p_X12_isIn hC (fun c3 _ => (ck_zret dX12_isLetter12_13 rfl (by decide) (h5.1 c3))) (fun c4 _ => (ck_zret dX12_isLetter12_13 rfl (by decide) (h5.2 c4)))))))))))))))))
theorem p_X12_isLetter12 {g : ch_G} {A R : Nat} (hC : ck_Cx g A R) {d : Nat} {K : Option ck_V → ck_W → Prop} {w : ck_W} {a1 : Int} (o0 : 0 ≤ (w 77 4) ∧ (w 77 4) ≤ 1000) (h1 : 0 ≤ a1 ∧ a1 ≤ (w 77 4) - 1 → K (some (.inl 1)) w) (h0 : ¬ (0 ≤ a1 ∧ a1 ≤ (w 77 4) - 1) → K (some (.inl 0)) w) : ck_Ex (ch_C g A R) (d + 1) mX12_isLetter12 [.inr (.inr 76), .inl a1] w K := by
  refine e_X12_isLetter12 hC ?_
  repeat' (first | apply And.intro | intro _)
  all_goals first | omega | exact h1 (by omega) | exact h0 (by omega)
