/-! ===== the class: a slice's gains and what is ahead ===== -/
/-- the tables of the codes, as the constructor lays them -/
def cw_tab (A : Nat) (w : ck_W) : Prop := w 51 1 = cw_N A ∧ (∀ c, 0 ≤ c → c < cw_N A → (∀ i : Nat, i < A → w 52 (c * (A : Int) + i) = cw_sh A c i) ∧ w 53 c = cw_sh A c (A - 1) ∧ w 54 c = cw_sh A c 1 ∧ w 55 c = cw_ta A c) ∧ (0 ≤ w 51 7 ∧ w 51 7 ≤ cw_N A) ∧ (∀ k, 0 ≤ k → k < w 51 7 → 0 ≤ w 56 k ∧ w 56 k < cw_N A) ∧ (∀ c, 0 ≤ c → c < cw_N A → 0 ≤ cw_sh A c (A - 1) → ∃ k, (0 ≤ k ∧ k < w 51 7) ∧ w 56 k = c)
theorem cw_tab_fr {A : Nat} {w w' : ck_W} (h : cw_tab A w) (h1 : w' 51 1 = w 51 1) (h7 : w' 51 7 = w 51 7) (hk : ∀ k, 52 ≤ k → k ≤ 56 → w' k = w k) : cw_tab A w' := by
  unfold cw_tab
  rw [h1, h7, hk 52 (by decide) (by decide), hk 53 (by decide) (by decide), hk 54 (by decide) (by decide), hk 55 (by decide) (by decide), hk 56 (by decide) (by decide)]
  exact h
theorem cw_NA {A R : Nat} {g : ch_G} (hC : ck_Cx g A R) : (3 ≤ A ∧ A ≤ 6) ∧ (9 ≤ cw_N A ∧ cw_N A ≤ 243) ∧ ((3 ^ (A - 1) : Nat) : Int) = cw_N A := by
  have c := hC.2
  have a : 3 ≤ A ∧ A ≤ 6 := by omega
  exact ⟨a, cw_Nb a, rfl⟩
theorem cw_sz {A R : Nat} {g : ch_G} (hC : ck_Cx g A R) : (((3 * A + 1) * R * 3 ^ (A - 1) : Nat) : Int) = ((3 * (A : Int) + 1) * (R : Int)) * cw_N A ∧ ((24 * R : Nat) : Int) = 24 * (R : Int) ∧ ((3 ^ (A - 1) * A : Nat) : Int) = cw_N A * (A : Int) ∧ ((3 * (A : Int) + 1) * (R : Int)) * cw_N A ≤ 55404 := by
  have c := cs_ar hC
  have n := cw_NA hC
  refine ⟨by rw [Int.natCast_mul, Int.natCast_mul, Int.natCast_add, Int.natCast_mul]; rfl, by rw [Int.natCast_mul]; rfl, by rw [Int.natCast_mul]; rfl, ?_⟩
  have a1 : (3 * (A : Int) + 1) * (R : Int) ≤ 19 * 12 := Int.mul_le_mul (by omega) (by omega) (by omega) (by omega)
  have a0 : 0 ≤ (3 * (A : Int) + 1) * (R : Int) := Int.mul_nonneg (by omega) (by omega)
  have a2 : (3 * (A : Int) + 1) * (R : Int) * cw_N A ≤ (19 * 12) * 243 := Int.mul_le_mul a1 (by omega) (by omega) (by omega)
  omega
/-- where a window lies in ahead -/
theorem cw_ixb {A R : Nat} {g : ch_G} (hC : ck_Cx g A R) {l r c : Int} (hl : 0 ≤ l ∧ l ≤ 3 * (A : Int)) (hr : 0 ≤ r ∧ r < (R : Int)) (hc : 0 ≤ c ∧ c < cw_N A) : (0 ≤ (l * (R : Int) + r) * cw_N A + c ∧ (l * (R : Int) + r) * cw_N A + c < (((3 * A + 1) * R * 3 ^ (A - 1) : Nat) : Int)) ∧ (l * (R : Int) + r) * cw_N A + c < 55404 ∧ (0 ≤ (l * (R : Int) + r) * cw_N A ∧ (l * (R : Int) + r) * cw_N A < 55404) := by
  have s := cw_sz hC
  have b1 := ix_b (x := l) (c := r) (N := (R : Int)) (X := 3 * (A : Int) + 1) (by omega) hr
  have b2 := ix_b (x := l * (R : Int) + r) (c := c) (N := cw_N A) (X := (3 * (A : Int) + 1) * (R : Int)) b1 hc
  have b3 : 0 ≤ (l * (R : Int) + r) * cw_N A := Int.mul_nonneg b1.1 (by omega)
  rw [s.1]
  omega
theorem dX10_lowAt_0 : decode cX10_lowAt 0 = .ok (.aload_n 0, 1) := dk_42 (by decide +kernel)
theorem dX10_lowAt_1 : decode cX10_lowAt 1 = .ok (.getfield 28, 3) := dk_180 0 28 (by decide +kernel)
theorem dX10_lowAt_4 : decode cX10_lowAt 4 = .ok (.iload_n 1, 1) := dk_27 (by decide +kernel)
theorem dX10_lowAt_5 : decode cX10_lowAt 5 = .ok (.invokevirtual 115, 3) := dk_182 0 115 (by decide +kernel)
theorem dX10_lowAt_8 : decode cX10_lowAt 8 = .ok (.ireturn, 1) := dk_172 (by decide +kernel)
set_option maxRecDepth 8000 in
theorem e_X10_lowAt {g : ch_G} {A R : Nat} (hC : ck_Cx g A R) {d : Nat} {K : Option ck_V → ck_W → Prop} {w : ck_W} {a1 : Int} (h : ck_CI (ch_C g A R) d mX5_turnOf [.inr (.inr 3), .inl a1] w (fun v2 w1 => K (some (.inl v2)) w1)) : ck_Ex (ch_C g A R) (d + 1) mX10_lowAt [.inr (.inr 51), .inl a1] w K :=
  ck_entry hC.1 [some (.inr (.inr 51)), some (.inl a1)] (by decide) (Nat.le_of_ble_eq_true rfl) rfl (fun q => q) (ck_in (fun hl => (ck_aload_n 1 rfl 0 dX10_lowAt_0 rfl rfl (ck_getr 4 rfl dX10_lowAt_1 fl_X10_28 sh_51 rfl (ck_iload_n 5 rfl 1 dX10_lowAt_4 rfl rfl (ck_callV 8 rfl [.inl a1] [] dX10_lowAt_5 cv_X10_115 sh_3 rfl rfl (Nat.le_of_ble_eq_true rfl) (And.intro hl.2.1 True.intro) (ck_mI h (fun v2 w1 q3 h4 => (ck_iret dX10_lowAt_8 rfl q3 h4)))))))))
theorem p_X10_lowAt {g : ch_G} {A R : Nat} (hC : ck_Cx g A R) {d : Nat} {K : Option ck_V → ck_W → Prop} {w : ck_W} {a1 : Int} (hD : cs_D A R w) (h0 : 0 ≤ a1 ∧ a1 < 512) (h : K (some (.inl (a1 / (A : Int)))) w) : ck_Ex (ch_C g A R) (d + 2) mX10_lowAt [.inr (.inr 51), .inl a1] w K :=
  e_X10_lowAt hC (p_X5_turnOf hC hD h0 ⟨_, rfl, fun _ => h⟩)
theorem dX10_highAt_0 : decode cX10_highAt 0 = .ok (.aload_n 0, 1) := dk_42 (by decide +kernel)
theorem dX10_highAt_1 : decode cX10_highAt 1 = .ok (.getfield 28, 3) := dk_180 0 28 (by decide +kernel)
theorem dX10_highAt_4 : decode cX10_highAt 4 = .ok (.getfield 66, 3) := dk_180 0 66 (by decide +kernel)
theorem dX10_highAt_7 : decode cX10_highAt 7 = .ok (.aload_n 0, 1) := dk_42 (by decide +kernel)
theorem dX10_highAt_8 : decode cX10_highAt 8 = .ok (.getfield 28, 3) := dk_180 0 28 (by decide +kernel)
theorem dX10_highAt_11 : decode cX10_highAt 11 = .ok (.getfield 108, 3) := dk_180 0 108 (by decide +kernel)
theorem dX10_highAt_14 : decode cX10_highAt 14 = .ok (.iload_n 1, 1) := dk_27 (by decide +kernel)
theorem dX10_highAt_15 : decode cX10_highAt 15 = .ok (.iaload, 1) := dk_46 (by decide +kernel)
theorem dX10_highAt_16 : decode cX10_highAt 16 = .ok (.isub, 1) := dk_100 (by decide +kernel)
theorem dX10_highAt_17 : decode cX10_highAt 17 = .ok (.aload_n 0, 1) := dk_42 (by decide +kernel)
theorem dX10_highAt_18 : decode cX10_highAt 18 = .ok (.getfield 28, 3) := dk_180 0 28 (by decide +kernel)
theorem dX10_highAt_21 : decode cX10_highAt 21 = .ok (.iload_n 2, 1) := dk_28 (by decide +kernel)
theorem dX10_highAt_22 : decode cX10_highAt 22 = .ok (.invokevirtual 115, 3) := dk_182 0 115 (by decide +kernel)
theorem dX10_highAt_25 : decode cX10_highAt 25 = .ok (.iadd, 1) := dk_96 (by decide +kernel)
theorem dX10_highAt_26 : decode cX10_highAt 26 = .ok (.ireturn, 1) := dk_172 (by decide +kernel)
set_option maxRecDepth 8000 in
theorem e_X10_highAt {g : ch_G} {A R : Nat} (hC : ck_Cx g A R) {d : Nat} {K : Option ck_V → ck_W → Prop} {w : ck_W} {a1 a2 : Int} (h : (0 ≤ a1 ∧ a1 < 6) ∧ (ck_CI (ch_C g A R) d mX5_turnOf [.inr (.inr 3), .inl a2] w (fun v5 w4 => ck_i (((w 3 1) - (w 6 a1)) + v5) ∧ (K (some (.inl (((w 3 1) - (w 6 a1)) + v5))) w4)))) : ck_Ex (ch_C g A R) (d + 1) mX10_highAt [.inr (.inr 51), .inl a1, .inl a2] w K :=
  ck_entry hC.1 [some (.inr (.inr 51)), some (.inl a1), some (.inl a2)] (by decide) (Nat.le_of_ble_eq_true rfl) rfl (fun q => q) (ck_in (fun hl => (ck_aload_n 1 rfl 0 dX10_highAt_0 rfl rfl (ck_getr 4 rfl dX10_highAt_1 fl_X10_28 sh_51 rfl (ck_geti 7 rfl 1 dX10_highAt_4 fl_X10_66 sh_3 rfl rfl _ rfl (fun (q1 : ck_i (w 3 1)) => (ck_aload_n 8 rfl 0 dX10_highAt_7 rfl rfl (ck_getr 11 rfl dX10_highAt_8 fl_X10_28 sh_51 rfl (ck_getr 14 rfl dX10_highAt_11 fl_X10_108 sh_3 rfl (ck_iload_n 15 rfl 1 dX10_highAt_14 rfl rfl (have h10 := h; have o2 := h10.1; have h9 := h10.2; (ck_iald 16 rfl dX10_highAt_15 sh_6 (shn_6 hC) o2 _ rfl (fun (q3 : ck_i (w 6 a1)) => (ck_isub 17 rfl dX10_highAt_16 (ck_aload_n 18 rfl 0 dX10_highAt_17 rfl rfl (ck_getr 21 rfl dX10_highAt_18 fl_X10_28 sh_51 rfl (ck_iload_n 22 rfl 2 dX10_highAt_21 rfl rfl (ck_callV 25 rfl [.inl a2] [.inl ((w 3 1) - (w 6 a1))] dX10_highAt_22 cv_X10_115 sh_3 rfl rfl (Nat.le_of_ble_eq_true rfl) (And.intro hl.2.2.1 True.intro) (ck_mI h9 (fun v5 w4 q6 h7 => (ck_iadd 26 rfl dX10_highAt_25 (have h12 := h7; have o8 := h12.1; have h11 := h12.2; (ck_iret dX10_highAt_26 rfl o8 h11)))))))))))))))))))))))
theorem p_X10_highAt {g : ch_G} {A R : Nat} (hC : ck_Cx g A R) {d : Nat} {K : Option ck_V → ck_W → Prop} {w : ck_W} {a1 a2 : Int} (hD : cs_D A R w) (hT : cs_T w) (h1 : 0 ≤ a1 ∧ a1 ≤ 5) (h0 : 0 ≤ a2 ∧ a2 < 512) (h : K (some (.inl ((R : Int) - w 6 a1 + a2 / (A : Int)))) w) : ck_Ex (ch_C g A R) (d + 2) mX10_highAt [.inr (.inr 51), .inl a1, .inl a2] w K := by
  have c := cs_ar hC
  have t := hT a1 h1.1 h1.2
  have q0 : 0 ≤ a2 / (A : Int) := Int.ediv_nonneg h0.1 (by omega)
  have q1 : a2 / (A : Int) ≤ a2 := Int.ediv_le_self _ h0.1
  refine e_X10_highAt hC ⟨by omega, p_X5_turnOf hC hD h0 ⟨_, rfl, fun _ => ?_⟩⟩
  rw [hD.2]
  exact ⟨by constructor <;> omega, h⟩
theorem dX10_boundFirst_0 : decode cX10_boundFirst 0 = .ok (.aload_n 0, 1) := dk_42 (by decide +kernel)
theorem dX10_boundFirst_1 : decode cX10_boundFirst 1 = .ok (.aload_n 0, 1) := dk_42 (by decide +kernel)
theorem dX10_boundFirst_2 : decode cX10_boundFirst 2 = .ok (.iload_n 2, 1) := dk_28 (by decide +kernel)
theorem dX10_boundFirst_3 : decode cX10_boundFirst 3 = .ok (.invokevirtual 134, 3) := dk_182 0 134 (by decide +kernel)
theorem dX10_boundFirst_6 : decode cX10_boundFirst 6 = .ok (.putfield 141, 3) := dk_181 0 141 (by decide +kernel)
theorem dX10_boundFirst_9 : decode cX10_boundFirst 9 = .ok (.aload_n 0, 1) := dk_42 (by decide +kernel)
theorem dX10_boundFirst_10 : decode cX10_boundFirst 10 = .ok (.aload_n 0, 1) := dk_42 (by decide +kernel)
theorem dX10_boundFirst_11 : decode cX10_boundFirst 11 = .ok (.iload_n 1, 1) := dk_27 (by decide +kernel)
theorem dX10_boundFirst_12 : decode cX10_boundFirst 12 = .ok (.iload_n 2, 1) := dk_28 (by decide +kernel)
theorem dX10_boundFirst_13 : decode cX10_boundFirst 13 = .ok (.invokevirtual 131, 3) := dk_182 0 131 (by decide +kernel)
theorem dX10_boundFirst_16 : decode cX10_boundFirst 16 = .ok (.putfield 144, 3) := dk_181 0 144 (by decide +kernel)
theorem dX10_boundFirst_19 : decode cX10_boundFirst 19 = .ok (.return_, 1) := dk_177 (by decide +kernel)
set_option maxRecDepth 8000 in
theorem e_X10_boundFirst {g : ch_G} {A R : Nat} (hC : ck_Cx g A R) {d : Nat} {K : Option ck_V → ck_W → Prop} {w : ck_W} {a1 a2 : Int} (h : ck_CI (ch_C g A R) d mX10_lowAt [.inr (.inr 51), .inl a2] w (fun v2 w1 => ck_CI (ch_C g A R) d mX10_highAt [.inr (.inr 51), .inl a1, .inl a2] (ck_up w1 51 10 v2) (fun v6 w5 => K none (ck_up w5 51 11 v6)))) : ck_Ex (ch_C g A R) (d + 1) mX10_boundFirst [.inr (.inr 51), .inl a1, .inl a2] w K :=
  ck_entry hC.1 [some (.inr (.inr 51)), some (.inl a1), some (.inl a2)] (by decide) (Nat.le_of_ble_eq_true rfl) rfl (fun q => q) (ck_in (fun hl => (ck_aload_n 1 rfl 0 dX10_boundFirst_0 rfl rfl (ck_aload_n 2 rfl 0 dX10_boundFirst_1 rfl rfl (ck_iload_n 3 rfl 2 dX10_boundFirst_2 rfl rfl (ck_callV 6 rfl [.inl a2] [.inr (.inr 51)] dX10_boundFirst_3 cv_X10_134 sh_51 rfl rfl (Nat.le_of_ble_eq_true rfl) (And.intro hl.2.2.1 True.intro) (ck_mI h (fun v2 w1 q3 h4 => (ck_puti 9 rfl 10 dX10_boundFirst_6 fp_X10_141 sh_51 rfl rfl q3 (ck_aload_n 10 rfl 0 dX10_boundFirst_9 rfl rfl (ck_aload_n 11 rfl 0 dX10_boundFirst_10 rfl rfl (ck_iload_n 12 rfl 1 dX10_boundFirst_11 rfl rfl (ck_iload_n 13 rfl 2 dX10_boundFirst_12 rfl rfl (ck_callV 16 rfl [.inl a1, .inl a2] [.inr (.inr 51)] dX10_boundFirst_13 cv_X10_131 sh_51 rfl rfl (Nat.le_of_ble_eq_true rfl) (And.intro hl.2.1 (And.intro hl.2.2.1 True.intro)) (ck_mI h4 (fun v6 w5 q7 h8 => (ck_puti 19 rfl 11 dX10_boundFirst_16 fp_X10_144 sh_51 rfl rfl q7 (ck_vret dX10_boundFirst_19 rfl h8))))))))))))))))))
theorem p_X10_boundFirst {g : ch_G} {A R : Nat} (hC : ck_Cx g A R) {d : Nat} {K : Option ck_V → ck_W → Prop} {w : ck_W} {a1 a2 : Int} (hD : cs_D A R w) (hT : cs_T w) (h1 : 0 ≤ a1 ∧ a1 ≤ 5) (h0 : 0 ≤ a2 ∧ a2 < 512) (h : K none (ck_up (ck_up w 51 10 (a2 / (A : Int))) 51 11 ((R : Int) - w 6 a1 + a2 / (A : Int)))) : ck_Ex (ch_C g A R) (d + 3) mX10_boundFirst [.inr (.inr 51), .inl a1, .inl a2] w K := by
  refine e_X10_boundFirst hC (p_X10_lowAt hC hD h0 ⟨_, rfl, fun _ => p_X10_highAt hC ?_ ?_ h1 h0 ⟨_, rfl, fun _ => ?_⟩⟩)
  · exact ⟨by rw [ck_up_ne (by decide)]; exact hD.1, by rw [ck_up_ne (by decide)]; exact hD.2⟩
  · unfold cs_T; rw [ck_up_ne (by decide)]; exact hT
  · dsimp only
    rw [ck_up_ne (show 6 ≠ 51 by decide)]
    exact h
theorem dX10_leastChange_0 : decode cX10_leastChange 0 = .ok (.iconst 0, 1) := dk_3 (by decide +kernel)
theorem dX10_leastChange_1 : decode cX10_leastChange 1 = .ok (.iconst 2, 1) := dk_5 (by decide +kernel)
theorem dX10_leastChange_2 : decode cX10_leastChange 2 = .ok (.aload_n 0, 1) := dk_42 (by decide +kernel)
theorem dX10_leastChange_3 : decode cX10_leastChange 3 = .ok (.getfield 60, 3) := dk_180 0 60 (by decide +kernel)
theorem dX10_leastChange_6 : decode cX10_leastChange 6 = .ok (.iload_n 1, 1) := dk_27 (by decide +kernel)
theorem dX10_leastChange_7 : decode cX10_leastChange 7 = .ok (.iaload, 1) := dk_46 (by decide +kernel)
theorem dX10_leastChange_8 : decode cX10_leastChange 8 = .ok (.isub, 1) := dk_100 (by decide +kernel)
theorem dX10_leastChange_9 : decode cX10_leastChange 9 = .ok (.invokestatic 42, 3) := dk_184 0 42 (by decide +kernel)
theorem dX10_leastChange_12 : decode cX10_leastChange 12 = .ok (.ireturn, 1) := dk_172 (by decide +kernel)
set_option maxRecDepth 8000 in
theorem e_X10_leastChange {g : ch_G} {A R : Nat} (hC : ck_Cx g A R) {d : Nat} {K : Option ck_V → ck_W → Prop} {w : ck_W} {a1 : Int} (h : (0 ≤ a1 ∧ a1 < ((3 ^ (A - 1) : Nat) : Int)) ∧ (ck_i (2 - (w 53 a1)) ∧ (K (some (.inl (max 0 (2 - (w 53 a1))))) w))) : ck_Ex (ch_C g A R) (d + 1) mX10_leastChange [.inr (.inr 51), .inl a1] w K :=
  ck_entry hC.1 [some (.inr (.inr 51)), some (.inl a1)] (by decide) (Nat.le_of_ble_eq_true rfl) rfl (fun q => q) (ck_in (fun hl => (ck_iconst 1 rfl dX10_leastChange_0 rfl (ck_iconst 2 rfl dX10_leastChange_1 rfl (ck_aload_n 3 rfl 0 dX10_leastChange_2 rfl rfl (ck_getr 6 rfl dX10_leastChange_3 fl_X10_60 sh_51 rfl (ck_iload_n 7 rfl 1 dX10_leastChange_6 rfl rfl (have h6 := h; have o1 := h6.1; have h5 := h6.2; (ck_iald 8 rfl dX10_leastChange_7 sh_53 (shn_53 hC) o1 _ rfl (fun (q2 : ck_i (w 53 a1)) => (ck_isub 9 rfl dX10_leastChange_8 (have h8 := h5; have o3 := h8.1; have h7 := h8.2; (ck_callS 12 rfl [.inl 0, .inl (2 - (w 53 a1))] [] dX10_leastChange_9 cs_X10_42 rfl rfl (Nat.le_of_ble_eq_true rfl) (And.intro (show ck_i 0 by decide) (And.intro o3 True.intro)) (p_J9_max_7cf53 hC (fun q4 => (ck_iret dX10_leastChange_12 rfl q4.1 h7))))))))))))))))
theorem p_X10_leastChange {g : ch_G} {A R : Nat} (hC : ck_Cx g A R) {d : Nat} {K : Option ck_V → ck_W → Prop} {w : ck_W} {a1 : Int} (hW : cw_tab A w) (h1 : 0 ≤ a1 ∧ a1 < cw_N A) (h : K (some (.inl (cw_lc A a1))) w) : ck_Ex (ch_C g A R) (d + 1) mX10_leastChange [.inr (.inr 51), .inl a1] w K := by
  have n := cw_NA hC
  have k := (cw_cks n.1 h1).1 (A - 1) (by omega)
  have t := (hW.2.1 a1 h1.1 h1.2).2.1
  refine e_X10_leastChange hC ?_
  rw [t]
  exact ⟨by rw [n.2.2]; omega, by constructor <;> omega, h⟩
theorem dX10_windowBehind_0 : decode cX10_windowBehind 0 = .ok (.iload_n 2, 1) := dk_28 (by decide +kernel)
theorem dX10_windowBehind_1 : decode cX10_windowBehind 1 = .ok (.aload_n 0, 1) := dk_42 (by decide +kernel)
theorem dX10_windowBehind_2 : decode cX10_windowBehind 2 = .ok (.getfield 54, 3) := dk_180 0 54 (by decide +kernel)
theorem dX10_windowBehind_5 : decode cX10_windowBehind 5 = .ok (.iload_n 3, 1) := dk_29 (by decide +kernel)
theorem dX10_windowBehind_6 : decode cX10_windowBehind 6 = .ok (.iaload, 1) := dk_46 (by decide +kernel)
theorem dX10_windowBehind_7 : decode cX10_windowBehind 7 = .ok (.iadd, 1) := dk_96 (by decide +kernel)
theorem dX10_windowBehind_8 : decode cX10_windowBehind 8 = .ok (.istore 4, 2) := dk_54 (by decide +kernel)
theorem dX10_windowBehind_10 : decode cX10_windowBehind 10 = .ok (.iload 4, 2) := dk_21 (by decide +kernel)
theorem dX10_windowBehind_12 : decode cX10_windowBehind 12 = .ok (.aload_n 0, 1) := dk_42 (by decide +kernel)
theorem dX10_windowBehind_13 : decode cX10_windowBehind 13 = .ok (.getfield 141, 3) := dk_180 0 141 (by decide +kernel)
theorem dX10_windowBehind_16 : decode cX10_windowBehind 16 = .ok (.if_icmp .lt 16, 3) := dk_161 0 16 (by decide +kernel)
theorem dX10_windowBehind_19 : decode cX10_windowBehind 19 = .ok (.iload 4, 2) := dk_21 (by decide +kernel)
theorem dX10_windowBehind_21 : decode cX10_windowBehind 21 = .ok (.aload_n 0, 1) := dk_42 (by decide +kernel)
theorem dX10_windowBehind_22 : decode cX10_windowBehind 22 = .ok (.getfield 144, 3) := dk_180 0 144 (by decide +kernel)
theorem dX10_windowBehind_25 : decode cX10_windowBehind 25 = .ok (.if_icmp .gt 7, 3) := dk_163 0 7 (by decide +kernel)
theorem dX10_windowBehind_28 : decode cX10_windowBehind 28 = .ok (.iconst 1, 1) := dk_4 (by decide +kernel)
theorem dX10_windowBehind_29 : decode cX10_windowBehind 29 = .ok (.goto 4, 3) := dk_167 0 4 (by decide +kernel)
theorem dX10_windowBehind_32 : decode cX10_windowBehind 32 = .ok (.iconst 0, 1) := dk_3 (by decide +kernel)
theorem dX10_windowBehind_33 : decode cX10_windowBehind 33 = .ok (.istore 5, 2) := dk_54 (by decide +kernel)
theorem dX10_windowBehind_35 : decode cX10_windowBehind 35 = .ok (.iload 5, 2) := dk_21 (by decide +kernel)
theorem dX10_windowBehind_37 : decode cX10_windowBehind 37 = .ok (.ifCond .eq 32, 3) := dk_153 0 32 (by decide +kernel)
theorem dX10_windowBehind_40 : decode cX10_windowBehind 40 = .ok (.iload_n 1, 1) := dk_27 (by decide +kernel)
theorem dX10_windowBehind_41 : decode cX10_windowBehind 41 = .ok (.iconst 1, 1) := dk_4 (by decide +kernel)
theorem dX10_windowBehind_42 : decode cX10_windowBehind 42 = .ok (.isub, 1) := dk_100 (by decide +kernel)
theorem dX10_windowBehind_43 : decode cX10_windowBehind 43 = .ok (.aload_n 0, 1) := dk_42 (by decide +kernel)
theorem dX10_windowBehind_44 : decode cX10_windowBehind 44 = .ok (.getfield 28, 3) := dk_180 0 28 (by decide +kernel)
theorem dX10_windowBehind_47 : decode cX10_windowBehind 47 = .ok (.getfield 66, 3) := dk_180 0 66 (by decide +kernel)
theorem dX10_windowBehind_50 : decode cX10_windowBehind 50 = .ok (.imul, 1) := dk_104 (by decide +kernel)
theorem dX10_windowBehind_51 : decode cX10_windowBehind 51 = .ok (.iload 4, 2) := dk_21 (by decide +kernel)
theorem dX10_windowBehind_53 : decode cX10_windowBehind 53 = .ok (.iadd, 1) := dk_96 (by decide +kernel)
theorem dX10_windowBehind_54 : decode cX10_windowBehind 54 = .ok (.aload_n 0, 1) := dk_42 (by decide +kernel)
theorem dX10_windowBehind_55 : decode cX10_windowBehind 55 = .ok (.getfield 48, 3) := dk_180 0 48 (by decide +kernel)
theorem dX10_windowBehind_58 : decode cX10_windowBehind 58 = .ok (.imul, 1) := dk_104 (by decide +kernel)
theorem dX10_windowBehind_59 : decode cX10_windowBehind 59 = .ok (.aload_n 0, 1) := dk_42 (by decide +kernel)
theorem dX10_windowBehind_60 : decode cX10_windowBehind 60 = .ok (.getfield 57, 3) := dk_180 0 57 (by decide +kernel)
theorem dX10_windowBehind_63 : decode cX10_windowBehind 63 = .ok (.iload_n 3, 1) := dk_29 (by decide +kernel)
theorem dX10_windowBehind_64 : decode cX10_windowBehind 64 = .ok (.iaload, 1) := dk_46 (by decide +kernel)
theorem dX10_windowBehind_65 : decode cX10_windowBehind 65 = .ok (.iadd, 1) := dk_96 (by decide +kernel)
theorem dX10_windowBehind_66 : decode cX10_windowBehind 66 = .ok (.goto 4, 3) := dk_167 0 4 (by decide +kernel)
theorem dX10_windowBehind_69 : decode cX10_windowBehind 69 = .ok (.iconst (-1), 1) := dk_2 (by decide +kernel)
theorem dX10_windowBehind_70 : decode cX10_windowBehind 70 = .ok (.ireturn, 1) := dk_172 (by decide +kernel)
set_option maxRecDepth 8000 in
theorem e_X10_windowBehind {g : ch_G} {A R : Nat} (hC : ck_Cx g A R) {d : Nat} {K : Option ck_V → ck_W → Prop} {w : ck_W} {a1 a2 a3 : Int} (h : (0 ≤ a3 ∧ a3 < ((3 ^ (A - 1) : Nat) : Int)) ∧ (ck_i (a2 + (w 54 a3)) ∧ (((a2 + (w 54 a3)) < (w 51 10) → K (some (.inl (-1))) w) ∧ (¬ (a2 + (w 54 a3)) < (w 51 10) → ((w 51 11) < (a2 + (w 54 a3)) → K (some (.inl (-1))) w) ∧ (¬ (w 51 11) < (a2 + (w 54 a3)) → ck_i (((((a1 - 1) * (w 3 1)) + (a2 + (w 54 a3))) * (w 51 1)) + (w 55 a3)) ∧ (K (some (.inl (((((a1 - 1) * (w 3 1)) + (a2 + (w 54 a3))) * (w 51 1)) + (w 55 a3)))) w)))))) : ck_Ex (ch_C g A R) d mX10_windowBehind [.inr (.inr 51), .inl a1, .inl a2, .inl a3] w K :=
  ck_entry hC.1 [some (.inr (.inr 51)), some (.inl a1), some (.inl a2), some (.inl a3), none, none] (by decide) (Nat.le_of_ble_eq_true rfl) rfl (fun q => q) (ck_in (fun hl => (ck_iload_n 1 rfl 2 dX10_windowBehind_0 rfl rfl (ck_aload_n 2 rfl 0 dX10_windowBehind_1 rfl rfl (ck_getr 5 rfl dX10_windowBehind_2 fl_X10_54 sh_51 rfl (ck_iload_n 6 rfl 3 dX10_windowBehind_5 rfl rfl (have h15 := h; have o1 := h15.1; have h14 := h15.2; (ck_iald 7 rfl dX10_windowBehind_6 sh_54 (shn_54 hC) o1 _ rfl (fun (q2 : ck_i (w 54 a3)) => (ck_iadd 8 rfl dX10_windowBehind_7 (have h17 := h14; have o3 := h17.1; have h16 := h17.2; (ck_istore 10 rfl [some (.inr (.inr 51)), some (.inl a1), some (.inl a2), some (.inl a3), some (.inl (a2 + (w 54 a3))), none] dX10_windowBehind_8 (Nat.le_of_ble_eq_true rfl) rfl rfl o3 (ck_iload 12 rfl dX10_windowBehind_10 rfl (ck_aload_n 13 rfl 0 dX10_windowBehind_12 rfl rfl (ck_geti 16 rfl 10 dX10_windowBehind_13 fl_X10_141 sh_51 rfl rfl _ rfl (fun (q4 : ck_i (w 51 10)) => (ck_icmp_lt 19 rfl 32 dX10_windowBehind_16 rfl o3 q4 (fun c12 => (ck_iconst 33 rfl dX10_windowBehind_32 rfl (ck_istore 35 rfl [some (.inr (.inr 51)), some (.inl a1), some (.inl a2), some (.inl a3), some (.inl (a2 + (w 54 a3))), some (.inl 0)] dX10_windowBehind_33 (Nat.le_of_ble_eq_true rfl) rfl rfl (show ck_i 0 by decide) (ck_iload 37 rfl dX10_windowBehind_35 rfl (ck_if_eq 40 rfl 69 dX10_windowBehind_37 rfl (by decide) (fun _ => (ck_iconst 70 rfl dX10_windowBehind_69 rfl (ck_iret dX10_windowBehind_70 rfl (show ck_i (-1) by decide) (h16.1 c12)))) (fun q => absurd q (by decide))))))) (fun c13 => (ck_iload 21 rfl dX10_windowBehind_19 rfl (ck_aload_n 22 rfl 0 dX10_windowBehind_21 rfl rfl (ck_geti 25 rfl 11 dX10_windowBehind_22 fl_X10_144 sh_51 rfl rfl _ rfl (fun (q5 : ck_i (w 51 11)) => (have h18 := (h16.2 c13); (ck_icmp_gt 28 rfl 32 dX10_windowBehind_25 rfl o3 q5 (fun c10 => (ck_iconst 33 rfl dX10_windowBehind_32 rfl (ck_istore 35 rfl [some (.inr (.inr 51)), some (.inl a1), some (.inl a2), some (.inl a3), some (.inl (a2 + (w 54 a3))), some (.inl 0)] dX10_windowBehind_33 (Nat.le_of_ble_eq_true rfl) rfl rfl (show ck_i 0 by decide) (ck_iload 37 rfl dX10_windowBehind_35 rfl (ck_if_eq 40 rfl 69 dX10_windowBehind_37 rfl (by decide) (fun _ => (ck_iconst 70 rfl dX10_windowBehind_69 rfl (ck_iret dX10_windowBehind_70 rfl (show ck_i (-1) by decide) (h18.1 c10)))) (fun q => absurd q (by decide))))))) (fun c11 => (ck_iconst 29 rfl dX10_windowBehind_28 rfl (ck_goto 33 dX10_windowBehind_29 rfl (ck_istore 35 rfl [some (.inr (.inr 51)), some (.inl a1), some (.inl a2), some (.inl a3), some (.inl (a2 + (w 54 a3))), some (.inl 1)] dX10_windowBehind_33 (Nat.le_of_ble_eq_true rfl) rfl rfl (show ck_i 1 by decide) (ck_iload 37 rfl dX10_windowBehind_35 rfl (ck_if_eq 40 rfl 69 dX10_windowBehind_37 rfl (by decide) (fun q => absurd q (by decide)) (fun _ => (ck_iload_n 41 rfl 1 dX10_windowBehind_40 rfl rfl (ck_iconst 42 rfl dX10_windowBehind_41 rfl (ck_isub 43 rfl dX10_windowBehind_42 (ck_aload_n 44 rfl 0 dX10_windowBehind_43 rfl rfl (ck_getr 47 rfl dX10_windowBehind_44 fl_X10_28 sh_51 rfl (ck_geti 50 rfl 1 dX10_windowBehind_47 fl_X10_66 sh_3 rfl rfl _ rfl (fun (q6 : ck_i (w 3 1)) => (ck_imul 51 rfl dX10_windowBehind_50 (ck_iload 53 rfl dX10_windowBehind_51 rfl (ck_iadd 54 rfl dX10_windowBehind_53 (ck_aload_n 55 rfl 0 dX10_windowBehind_54 rfl rfl (ck_geti 58 rfl 1 dX10_windowBehind_55 fl_X10_48 sh_51 rfl rfl _ rfl (fun (q7 : ck_i (w 51 1)) => (ck_imul 59 rfl dX10_windowBehind_58 (ck_aload_n 60 rfl 0 dX10_windowBehind_59 rfl rfl (ck_getr 63 rfl dX10_windowBehind_60 fl_X10_57 sh_51 rfl (ck_iload_n 64 rfl 3 dX10_windowBehind_63 rfl rfl (ck_iald 65 rfl dX10_windowBehind_64 sh_55 (shn_55 hC) o1 _ rfl (fun (q8 : ck_i (w 55 a3)) => (ck_iadd 66 rfl dX10_windowBehind_65 (ck_goto 70 dX10_windowBehind_66 rfl (have h20 := (h18.2 c11); have o9 := h20.1; have h19 := h20.2; (ck_iret dX10_windowBehind_70 rfl o9 h19))))))))))))))))))))))))))))))))))))))))))))))))))))))
theorem p_X10_windowBehind {g : ch_G} {A R : Nat} (hC : ck_Cx g A R) {d : Nat} {K : Option ck_V → ck_W → Prop} {w : ck_W} {a1 a2 a3 : Int} (hD : cs_D A R w) (hW : cw_tab A w) (h1 : 1 ≤ a1 ∧ a1 ≤ 3 * (A : Int)) (h2 : -10 ≤ a2 ∧ a2 < 20) (h3 : 0 ≤ a3 ∧ a3 < cw_N A) (hb : 0 ≤ w 51 10 ∧ w 51 11 < (R : Int)) (h0 : a2 + cw_sh A a3 1 < w 51 10 ∨ w 51 11 < a2 + cw_sh A a3 1 → K (some (.inl (-1))) w) (hk : w 51 10 ≤ a2 + cw_sh A a3 1 → a2 + cw_sh A a3 1 ≤ w 51 11 → K (some (.inl (((a1 - 1) * (R : Int) + (a2 + cw_sh A a3 1)) * cw_N A + cw_ta A a3))) w) : ck_Ex (ch_C g A R) d mX10_windowBehind [.inr (.inr 51), .inl a1, .inl a2, .inl a3] w K := by
  have n := cw_NA hC
  have k := cw_cks n.1 h3
  have t := (hW.2.1 a3 h3.1 h3.2).2.2
  refine e_X10_windowBehind hC ?_
  rw [t.1, t.2, hW.1, hD.2]
  refine ⟨by rw [n.2.2]; omega, by constructor <;> omega, fun q => h0 (Or.inl q), fun q1 => ⟨fun q => h0 (Or.inr q), fun q2 => ?_⟩⟩
  have b := cw_ixb hC (l := a1 - 1) (r := a2 + cw_sh A a3 1) (c := cw_ta A a3) (by omega) (by omega) (by omega)
  exact ⟨by constructor <;> omega, hk (by omega) (by omega)⟩
/-- the gains of a slice, as they lie -/
def cw_gn (R : Nat) (P : Int) (G : Int → Int → Int) (w : ck_W) : Prop := ∀ p r, 0 ≤ p → p < P → 0 ≤ r → r < (R : Int) → w 58 (p * (R : Int) + r) = G p r
theorem dX10_onward_0 : decode cX10_onward 0 = .ok (.iload_n 3, 1) := dk_29 (by decide +kernel)
theorem dX10_onward_1 : decode cX10_onward 1 = .ok (.ifCond .lt 23, 3) := dk_155 0 23 (by decide +kernel)
theorem dX10_onward_4 : decode cX10_onward 4 = .ok (.iload_n 3, 1) := dk_29 (by decide +kernel)
theorem dX10_onward_5 : decode cX10_onward 5 = .ok (.aload_n 0, 1) := dk_42 (by decide +kernel)
theorem dX10_onward_6 : decode cX10_onward 6 = .ok (.getfield 28, 3) := dk_180 0 28 (by decide +kernel)
theorem dX10_onward_9 : decode cX10_onward 9 = .ok (.getfield 66, 3) := dk_180 0 66 (by decide +kernel)
theorem dX10_onward_12 : decode cX10_onward 12 = .ok (.if_icmp .ge 12, 3) := dk_162 0 12 (by decide +kernel)
theorem dX10_onward_15 : decode cX10_onward 15 = .ok (.aload_n 0, 1) := dk_42 (by decide +kernel)
theorem dX10_onward_16 : decode cX10_onward 16 = .ok (.getfield 72, 3) := dk_180 0 72 (by decide +kernel)
theorem dX10_onward_19 : decode cX10_onward 19 = .ok (.iload_n 1, 1) := dk_27 (by decide +kernel)
theorem dX10_onward_20 : decode cX10_onward 20 = .ok (.iaload, 1) := dk_46 (by decide +kernel)
theorem dX10_onward_21 : decode cX10_onward 21 = .ok (.ifCond .ne 5, 3) := dk_154 0 5 (by decide +kernel)
theorem dX10_onward_24 : decode cX10_onward 24 = .ok (.iconst 0, 1) := dk_3 (by decide +kernel)
theorem dX10_onward_25 : decode cX10_onward 25 = .ok (.ireturn, 1) := dk_172 (by decide +kernel)
theorem dX10_onward_26 : decode cX10_onward 26 = .ok (.aload_n 0, 1) := dk_42 (by decide +kernel)
theorem dX10_onward_27 : decode cX10_onward 27 = .ok (.getfield 69, 3) := dk_180 0 69 (by decide +kernel)
theorem dX10_onward_30 : decode cX10_onward 30 = .ok (.iload_n 2, 1) := dk_28 (by decide +kernel)
theorem dX10_onward_31 : decode cX10_onward 31 = .ok (.aload_n 0, 1) := dk_42 (by decide +kernel)
theorem dX10_onward_32 : decode cX10_onward 32 = .ok (.getfield 28, 3) := dk_180 0 28 (by decide +kernel)
theorem dX10_onward_35 : decode cX10_onward 35 = .ok (.getfield 66, 3) := dk_180 0 66 (by decide +kernel)
theorem dX10_onward_38 : decode cX10_onward 38 = .ok (.imul, 1) := dk_104 (by decide +kernel)
theorem dX10_onward_39 : decode cX10_onward 39 = .ok (.iload_n 3, 1) := dk_29 (by decide +kernel)
theorem dX10_onward_40 : decode cX10_onward 40 = .ok (.iadd, 1) := dk_96 (by decide +kernel)
theorem dX10_onward_41 : decode cX10_onward 41 = .ok (.iaload, 1) := dk_46 (by decide +kernel)
theorem dX10_onward_42 : decode cX10_onward 42 = .ok (.istore 4, 2) := dk_54 (by decide +kernel)
theorem dX10_onward_44 : decode cX10_onward 44 = .ok (.iload 4, 2) := dk_21 (by decide +kernel)
theorem dX10_onward_46 : decode cX10_onward 46 = .ok (.iconst (-1), 1) := dk_2 (by decide +kernel)
theorem dX10_onward_47 : decode cX10_onward 47 = .ok (.if_icmp .ne 7, 3) := dk_160 0 7 (by decide +kernel)
theorem dX10_onward_50 : decode cX10_onward 50 = .ok (.iconst 0, 1) := dk_3 (by decide +kernel)
theorem dX10_onward_51 : decode cX10_onward 51 = .ok (.goto 12, 3) := dk_167 0 12 (by decide +kernel)
theorem dX10_onward_54 : decode cX10_onward 54 = .ok (.aload_n 0, 1) := dk_42 (by decide +kernel)
theorem dX10_onward_55 : decode cX10_onward 55 = .ok (.getfield 72, 3) := dk_180 0 72 (by decide +kernel)
theorem dX10_onward_58 : decode cX10_onward 58 = .ok (.iload_n 1, 1) := dk_27 (by decide +kernel)
theorem dX10_onward_59 : decode cX10_onward 59 = .ok (.iaload, 1) := dk_46 (by decide +kernel)
theorem dX10_onward_60 : decode cX10_onward 60 = .ok (.iload 4, 2) := dk_21 (by decide +kernel)
theorem dX10_onward_62 : decode cX10_onward 62 = .ok (.iadd, 1) := dk_96 (by decide +kernel)
theorem dX10_onward_63 : decode cX10_onward 63 = .ok (.ireturn, 1) := dk_172 (by decide +kernel)
set_option maxRecDepth 8000 in
theorem e_X10_onward {g : ch_G} {A R : Nat} (hC : ck_Cx g A R) {d : Nat} {K : Option ck_V → ck_W → Prop} {w : ck_W} {a1 a2 a3 : Int} (h : (a3 < 0 → K (some (.inl 0)) w) ∧ (¬ a3 < 0 → ((w 3 1) ≤ a3 → K (some (.inl 0)) w) ∧ (¬ (w 3 1) ≤ a3 → (0 ≤ a1 ∧ a1 < (((3 * A + 1) * R * 3 ^ (A - 1) : Nat) : Int)) ∧ ((¬ (w 57 a1) = 0 → (0 ≤ ((a2 * (w 3 1)) + a3) ∧ ((a2 * (w 3 1)) + a3) < ((24 * R : Nat) : Int)) ∧ (∀ x7, x7 = w 58 ((a2 * (w 3 1)) + a3) → (¬ x7 = (-1) → ck_i ((w 57 a1) + x7) ∧ (K (some (.inl ((w 57 a1) + x7))) w)) ∧ (x7 = (-1) → K (some (.inl 0)) w))) ∧ ((w 57 a1) = 0 → K (some (.inl 0)) w))))) : ck_Ex (ch_C g A R) d mX10_onward [.inr (.inr 51), .inl a1, .inl a2, .inl a3] w K :=
  ck_entry hC.1 [some (.inr (.inr 51)), some (.inl a1), some (.inl a2), some (.inl a3), none] (by decide) (Nat.le_of_ble_eq_true rfl) rfl (fun q => q) (ck_in (fun hl => (ck_iload_n 1 rfl 3 dX10_onward_0 rfl rfl (ck_if_lt 4 rfl 24 dX10_onward_1 rfl hl.2.2.2.1 (fun c17 => (ck_iconst 25 rfl dX10_onward_24 rfl (ck_iret dX10_onward_25 rfl (show ck_i 0 by decide) (h.1 c17)))) (fun c18 => (ck_iload_n 5 rfl 3 dX10_onward_4 rfl rfl (ck_aload_n 6 rfl 0 dX10_onward_5 rfl rfl (ck_getr 9 rfl dX10_onward_6 fl_X10_28 sh_51 rfl (ck_geti 12 rfl 1 dX10_onward_9 fl_X10_66 sh_3 rfl rfl _ rfl (fun (q1 : ck_i (w 3 1)) => (have h19 := (h.2 c18); (ck_icmp_ge 15 rfl 24 dX10_onward_12 rfl hl.2.2.2.1 q1 (fun c15 => (ck_iconst 25 rfl dX10_onward_24 rfl (ck_iret dX10_onward_25 rfl (show ck_i 0 by decide) (h19.1 c15)))) (fun c16 => (ck_aload_n 16 rfl 0 dX10_onward_15 rfl rfl (ck_getr 19 rfl dX10_onward_16 fl_X10_72 sh_51 rfl (ck_iload_n 20 rfl 1 dX10_onward_19 rfl rfl (have h21 := (h19.2 c16); have o2 := h21.1; have h20 := h21.2; (ck_iald 21 rfl dX10_onward_20 sh_57 (shn_57 hC) o2 _ rfl (fun (q3 : ck_i (w 57 a1)) => (ck_if_ne 24 rfl 26 dX10_onward_21 rfl q3 (fun c13 => (ck_aload_n 27 rfl 0 dX10_onward_26 rfl rfl (ck_getr 30 rfl dX10_onward_27 fl_X10_69 sh_51 rfl (ck_iload_n 31 rfl 2 dX10_onward_30 rfl rfl (ck_aload_n 32 rfl 0 dX10_onward_31 rfl rfl (ck_getr 35 rfl dX10_onward_32 fl_X10_28 sh_51 rfl (ck_geti 38 rfl 1 dX10_onward_35 fl_X10_66 sh_3 rfl rfl _ rfl (fun (q4 : ck_i (w 3 1)) => (ck_imul 39 rfl dX10_onward_38 (ck_iload_n 40 rfl 3 dX10_onward_39 rfl rfl (ck_iadd 41 rfl dX10_onward_40 (have h23 := (h20.1 c13); have o5 := h23.1; have h22 := h23.2; (ck_iald 42 rfl dX10_onward_41 sh_58 (shn_58 hC) o5 _ rfl (fun (q6 : ck_i (w 58 ((a2 * (w 3 1)) + a3))) => (ck_nmi (fun x7 e8 => (ck_istore 44 rfl [some (.inr (.inr 51)), some (.inl a1), some (.inl a2), some (.inl a3), some (.inl x7)] dX10_onward_42 (Nat.le_of_ble_eq_true rfl) rfl rfl (by rw [e8]; exact q6) (ck_iload 46 rfl dX10_onward_44 rfl (ck_iconst 47 rfl dX10_onward_46 rfl (have h24 := (h22 x7 e8); (ck_icmp_ne 50 rfl 54 dX10_onward_47 rfl (by rw [e8]; exact q6) (show ck_i (-1) by decide) (fun c11 => (ck_aload_n 55 rfl 0 dX10_onward_54 rfl rfl (ck_getr 58 rfl dX10_onward_55 fl_X10_72 sh_51 rfl (ck_iload_n 59 rfl 1 dX10_onward_58 rfl rfl (ck_iald 60 rfl dX10_onward_59 sh_57 (shn_57 hC) o2 _ rfl (fun (q9 : ck_i (w 57 a1)) => (ck_iload 62 rfl dX10_onward_60 rfl (ck_iadd 63 rfl dX10_onward_62 (have h26 := (h24.1 c11); have o10 := h26.1; have h25 := h26.2; (ck_iret dX10_onward_63 rfl o10 h25)))))))))) (fun c12 => (ck_iconst 51 rfl dX10_onward_50 rfl (ck_goto 63 dX10_onward_51 rfl (ck_iret dX10_onward_63 rfl (show ck_i 0 by decide) (h24.2 c12)))))))))))))))))))))))))) (fun c14 => (ck_iconst 25 rfl dX10_onward_24 rfl (ck_iret dX10_onward_25 rfl (show ck_i 0 by decide) (h20.2 c14))))))))))))))))))))))))
theorem p_X10_onward {g : ch_G} {A R : Nat} (hC : ck_Cx g A R) {d : Nat} {K : Option ck_V → ck_W → Prop} {w : ck_W} {a1 a2 a3 P : Int} {G : Int → Int → Int} (hD : cs_D A R w) (hG : cw_Gv R G) (hg : cw_gn R P G w) (hP : P ≤ 24) (h2 : 0 ≤ a2 ∧ a2 < P) (h1 : 0 ≤ a1 ∧ a1 < (((3 * A + 1) * R * 3 ^ (A - 1) : Nat) : Int)) (hx : cw_ok 207 (w 57 a1)) (h : K (some (.inl (cw_on R G (w 57 a1) a2 a3))) w) : ck_Ex (ch_C g A R) d mX10_onward [.inr (.inr 51), .inl a1, .inl a2, .inl a3] w K := by
  have s := cw_sz hC
  have c := cs_ar hC
  refine e_X10_onward hC ?_
  rw [hD.2]
  unfold cw_on at h
  refine ⟨fun q => by rw [if_pos q] at h; exact h, fun q => ⟨fun q1 => by rw [if_neg q, if_pos q1] at h; exact h, fun q1 => ⟨h1, fun q2 => ?_, fun q2 => by rw [if_neg q, if_neg q1, if_pos q2] at h; exact h⟩⟩⟩
  rw [if_neg q, if_neg q1, if_neg q2] at h
  have b := ix_b (x := a2) (c := a3) (N := (R : Int)) (X := 24) (by omega) (by omega)
  refine ⟨by rw [s.2.1]; omega, fun x7 e7 => ?_⟩
  have eg := hg a2 a3 h2.1 h2.2 (by omega) (by omega)
  rw [eg] at e7
  rw [← e7] at h
  refine ⟨fun z => ?_, fun z => by rw [if_pos z] at h; exact h⟩
  rw [if_neg z] at h
  refine ⟨?_, h⟩
  rcases hG a2 a3 (by omega) (by omega) h2.1 (by omega) with y | ⟨g0, y1, y2, y3⟩
  · omega
  · unfold cw_ok at hx
    constructor <;> omega
theorem dX10_better_0 : decode cX10_better 0 = .ok (.iload_n 0, 1) := dk_26 (by decide +kernel)
theorem dX10_better_1 : decode cX10_better 1 = .ok (.ifCond .eq 7, 3) := dk_153 0 7 (by decide +kernel)
theorem dX10_better_4 : decode cX10_better 4 = .ok (.iload_n 1, 1) := dk_27 (by decide +kernel)
theorem dX10_better_5 : decode cX10_better 5 = .ok (.ifCond .ne 7, 3) := dk_154 0 7 (by decide +kernel)
theorem dX10_better_8 : decode cX10_better 8 = .ok (.iload_n 0, 1) := dk_26 (by decide +kernel)
theorem dX10_better_9 : decode cX10_better 9 = .ok (.iload_n 1, 1) := dk_27 (by decide +kernel)
theorem dX10_better_10 : decode cX10_better 10 = .ok (.iadd, 1) := dk_96 (by decide +kernel)
theorem dX10_better_11 : decode cX10_better 11 = .ok (.ireturn, 1) := dk_172 (by decide +kernel)
theorem dX10_better_12 : decode cX10_better 12 = .ok (.iload_n 0, 1) := dk_26 (by decide +kernel)
theorem dX10_better_13 : decode cX10_better 13 = .ok (.bipush 20, 2) := dk_16 20 (by decide +kernel)
theorem dX10_better_15 : decode cX10_better 15 = .ok (.ishr, 1) := dk_122 (by decide +kernel)
theorem dX10_better_16 : decode cX10_better 16 = .ok (.iload_n 1, 1) := dk_27 (by decide +kernel)
theorem dX10_better_17 : decode cX10_better 17 = .ok (.bipush 20, 2) := dk_16 20 (by decide +kernel)
theorem dX10_better_19 : decode cX10_better 19 = .ok (.ishr, 1) := dk_122 (by decide +kernel)
theorem dX10_better_20 : decode cX10_better 20 = .ok (.if_icmp .eq 9, 3) := dk_159 0 9 (by decide +kernel)
theorem dX10_better_23 : decode cX10_better 23 = .ok (.iload_n 0, 1) := dk_26 (by decide +kernel)
theorem dX10_better_24 : decode cX10_better 24 = .ok (.iload_n 1, 1) := dk_27 (by decide +kernel)
theorem dX10_better_25 : decode cX10_better 25 = .ok (.invokestatic 42, 3) := dk_184 0 42 (by decide +kernel)
theorem dX10_better_28 : decode cX10_better 28 = .ok (.ireturn, 1) := dk_172 (by decide +kernel)
theorem dX10_better_29 : decode cX10_better 29 = .ok (.ldc 159, 2) := dk_18 (by decide +kernel)
theorem dX10_better_31 : decode cX10_better 31 = .ok (.iload_n 0, 1) := dk_26 (by decide +kernel)
theorem dX10_better_32 : decode cX10_better 32 = .ok (.ldc 160, 2) := dk_18 (by decide +kernel)
theorem dX10_better_34 : decode cX10_better 34 = .ok (.iand, 1) := dk_126 (by decide +kernel)
theorem dX10_better_35 : decode cX10_better 35 = .ok (.iload_n 1, 1) := dk_27 (by decide +kernel)
theorem dX10_better_36 : decode cX10_better 36 = .ok (.ldc 160, 2) := dk_18 (by decide +kernel)
theorem dX10_better_38 : decode cX10_better 38 = .ok (.iand, 1) := dk_126 (by decide +kernel)
theorem dX10_better_39 : decode cX10_better 39 = .ok (.iadd, 1) := dk_96 (by decide +kernel)
theorem dX10_better_40 : decode cX10_better 40 = .ok (.invokestatic 161, 3) := dk_184 0 161 (by decide +kernel)
theorem dX10_better_43 : decode cX10_better 43 = .ok (.istore_n 2, 1) := dk_61 (by decide +kernel)
theorem dX10_better_44 : decode cX10_better 44 = .ok (.iload_n 0, 1) := dk_26 (by decide +kernel)
theorem dX10_better_45 : decode cX10_better 45 = .ok (.bipush 20, 2) := dk_16 20 (by decide +kernel)
theorem dX10_better_47 : decode cX10_better 47 = .ok (.ishr, 1) := dk_122 (by decide +kernel)
theorem dX10_better_48 : decode cX10_better 48 = .ok (.bipush 20, 2) := dk_16 20 (by decide +kernel)
theorem dX10_better_50 : decode cX10_better 50 = .ok (.ishl, 1) := dk_120 (by decide +kernel)
theorem dX10_better_51 : decode cX10_better 51 = .ok (.iload_n 2, 1) := dk_28 (by decide +kernel)
theorem dX10_better_52 : decode cX10_better 52 = .ok (.iadd, 1) := dk_96 (by decide +kernel)
theorem dX10_better_53 : decode cX10_better 53 = .ok (.ireturn, 1) := dk_172 (by decide +kernel)
set_option maxRecDepth 8000 in
theorem e_X10_better {g : ch_G} {A R : Nat} (hC : ck_Cx g A R) {d : Nat} {K : Option ck_V → ck_W → Prop} {w : ck_W} {a0 a1 : Int} (h : (a0 = 0 → ck_i (a0 + a1) ∧ (K (some (.inl (a0 + a1))) w)) ∧ (¬ a0 = 0 → (¬ a1 = 0 → ((ck_shr a0 20) = (ck_shr a1 20) → ck_i ((ck_and a0 1048575) + (ck_and a1 1048575)) ∧ (∀ x4, x4 = min 1000000 ((ck_and a0 1048575) + (ck_and a1 1048575)) → ck_i ((ck_shl (ck_shr a0 20) 20) + x4) ∧ (K (some (.inl ((ck_shl (ck_shr a0 20) 20) + x4))) w))) ∧ (¬ (ck_shr a0 20) = (ck_shr a1 20) → K (some (.inl (max a0 a1))) w)) ∧ (a1 = 0 → ck_i (a0 + a1) ∧ (K (some (.inl (a0 + a1))) w)))) : ck_Ex (ch_C g A R) (d + 1) mX10_better [.inl a0, .inl a1] w K :=
  ck_entry hC.1 [some (.inl a0), some (.inl a1), none] (by decide) (Nat.le_of_ble_eq_true rfl) rfl (fun q => q) (ck_in (fun hl => (ck_iload_n 1 rfl 0 dX10_better_0 rfl rfl (ck_if_eq 4 rfl 8 dX10_better_1 rfl hl.1 (fun c13 => (ck_iload_n 9 rfl 0 dX10_better_8 rfl rfl (ck_iload_n 10 rfl 1 dX10_better_9 rfl rfl (ck_iadd 11 rfl dX10_better_10 (have h16 := (h.1 c13); have o1 := h16.1; have h15 := h16.2; (ck_iret dX10_better_11 rfl o1 h15)))))) (fun c14 => (ck_iload_n 5 rfl 1 dX10_better_4 rfl rfl (have h17 := (h.2 c14); (ck_if_ne 8 rfl 12 dX10_better_5 rfl hl.2.1 (fun c11 => (ck_iload_n 13 rfl 0 dX10_better_12 rfl rfl (ck_bipush 15 rfl dX10_better_13 rfl (ck_ishr 16 rfl dX10_better_15 (ck_iload_n 17 rfl 1 dX10_better_16 rfl rfl (ck_bipush 19 rfl dX10_better_17 rfl (ck_ishr 20 rfl dX10_better_19 (have h18 := (h17.1 c11); (ck_icmp_eq 23 rfl 29 dX10_better_20 rfl (ck_rng _) (ck_rng _) (fun c8 => (ck_ldc 31 rfl 1000000 kc_X10_159 dX10_better_29 rfl (ck_iload_n 32 rfl 0 dX10_better_31 rfl rfl (ck_ldc 34 rfl 1048575 kc_X10_160 dX10_better_32 rfl (ck_iand 35 rfl dX10_better_34 (ck_iload_n 36 rfl 1 dX10_better_35 rfl rfl (ck_ldc 38 rfl 1048575 kc_X10_160 dX10_better_36 rfl (ck_iand 39 rfl dX10_better_38 (ck_iadd 40 rfl dX10_better_39 (have h20 := (h18.1 c8); have o2 := h20.1; have h19 := h20.2; (ck_callS 43 rfl [.inl 1000000, .inl ((ck_and a0 1048575) + (ck_and a1 1048575))] [] dX10_better_40 cs_X10_161 rfl rfl (Nat.le_of_ble_eq_true rfl) (And.intro (show ck_i 1000000 by decide) (And.intro o2 True.intro)) (p_J9_min_7cf53 hC (fun q3 => (ck_nmi (fun x4 e5 => (ck_istore_n 44 rfl 2 [some (.inl a0), some (.inl a1), some (.inl x4)] dX10_better_43 rfl (Nat.le_of_ble_eq_true rfl) rfl rfl (by rw [e5]; exact q3.1) (ck_iload_n 45 rfl 0 dX10_better_44 rfl rfl (ck_bipush 47 rfl dX10_better_45 rfl (ck_ishr 48 rfl dX10_better_47 (ck_bipush 50 rfl dX10_better_48 rfl (ck_ishl 51 rfl dX10_better_50 (ck_iload_n 52 rfl 2 dX10_better_51 rfl rfl (ck_iadd 53 rfl dX10_better_52 (have h22 := (h19 x4 e5); have o6 := h22.1; have h21 := h22.2; (ck_iret dX10_better_53 rfl o6 h21))))))))))))))))))))))))) (fun c9 => (ck_iload_n 24 rfl 0 dX10_better_23 rfl rfl (ck_iload_n 25 rfl 1 dX10_better_24 rfl rfl (ck_callS 28 rfl [.inl a0, .inl a1] [] dX10_better_25 cs_X10_42 rfl rfl (Nat.le_of_ble_eq_true rfl) (And.intro hl.1 (And.intro hl.2.1 True.intro)) (p_J9_max_7cf53 hC (fun q7 => (ck_iret dX10_better_28 rfl q7.1 (h18.2 c9))))))))))))))))) (fun c12 => (ck_iload_n 9 rfl 0 dX10_better_8 rfl rfl (ck_iload_n 10 rfl 1 dX10_better_9 rfl rfl (ck_iadd 11 rfl dX10_better_10 (have h24 := (h17.2 c12); have o10 := h24.1; have h23 := h24.2; (ck_iret dX10_better_11 rfl o10 h23))))))))))))))
theorem p_X10_better {g : ch_G} {A R : Nat} (hC : ck_Cx g A R) {d : Nat} {K : Option ck_V → ck_W → Prop} {w : ck_W} {a0 a1 : Int} (h0 : cw_ok 250 a0) (h1 : cw_ok 250 a1) (h : K (some (.inl (cw_bt a0 a1))) w) : ck_Ex (ch_C g A R) (d + 1) mX10_better [.inl a0, .inl a1] w K := by
  unfold cw_ok at h0 h1
  unfold cw_bt at h
  have s0 := kx_shr (x := a0) (by omega)
  have s1 := kx_shr (x := a1) (by omega)
  have n0 := kx_and (x := a0) (by omega)
  have n1 := kx_and (x := a1) (by omega)
  have l0 := kx_shl (x := a0 / 1048576) (by omega)
  refine e_X10_better hC ?_
  rw [s0, s1, n0, n1, l0]
  refine ⟨fun q => ⟨by constructor <;> omega, by rw [if_pos q] at h; exact h⟩, fun q => ⟨fun q1 => ⟨fun q2 => ⟨by constructor <;> omega, fun x4 e4 => ⟨by constructor <;> omega, ?_⟩⟩, fun q2 => ?_⟩, fun q1 => ⟨by constructor <;> omega, by rw [if_neg q, if_pos q1] at h; exact h⟩⟩⟩
  · rw [if_neg q, if_neg q1, if_pos q2, ← e4] at h; exact h
  · rw [if_neg q, if_neg q1, if_neg q2] at h; exact h
/-- a level of ahead, as it lies -/
def cw_row (A R : Nat) (K : Int) (G : Int → Int → Int) (w : ck_W) (l : Nat) : Prop := ∀ r c, cw_lo A K l ≤ r → r ≤ (R : Int) - K + cw_lo A K l → 0 ≤ c → c < cw_N A → w 57 (((l : Int) * (R : Int) + r) * cw_N A + c) = cw_A A R K G l r c
theorem dX10_bestOnward_0 : decode cX10_bestOnward 0 = .ok (.aload_n 0, 1) := dk_42 (by decide +kernel)
theorem dX10_bestOnward_1 : decode cX10_bestOnward 1 = .ok (.iload_n 1, 1) := dk_27 (by decide +kernel)
theorem dX10_bestOnward_2 : decode cX10_bestOnward 2 = .ok (.iload_n 3, 1) := dk_29 (by decide +kernel)
theorem dX10_bestOnward_3 : decode cX10_bestOnward 3 = .ok (.iload 4, 2) := dk_21 (by decide +kernel)
theorem dX10_bestOnward_5 : decode cX10_bestOnward 5 = .ok (.invokevirtual 147, 3) := dk_182 0 147 (by decide +kernel)
theorem dX10_bestOnward_8 : decode cX10_bestOnward 8 = .ok (.istore 5, 2) := dk_54 (by decide +kernel)
theorem dX10_bestOnward_10 : decode cX10_bestOnward 10 = .ok (.iload 5, 2) := dk_21 (by decide +kernel)
theorem dX10_bestOnward_12 : decode cX10_bestOnward 12 = .ok (.iconst (-1), 1) := dk_2 (by decide +kernel)
theorem dX10_bestOnward_13 : decode cX10_bestOnward 13 = .ok (.if_icmp .ne 5, 3) := dk_160 0 5 (by decide +kernel)
theorem dX10_bestOnward_16 : decode cX10_bestOnward 16 = .ok (.iconst 0, 1) := dk_3 (by decide +kernel)
theorem dX10_bestOnward_17 : decode cX10_bestOnward 17 = .ok (.ireturn, 1) := dk_172 (by decide +kernel)
theorem dX10_bestOnward_18 : decode cX10_bestOnward 18 = .ok (.iload_n 3, 1) := dk_29 (by decide +kernel)
theorem dX10_bestOnward_19 : decode cX10_bestOnward 19 = .ok (.aload_n 0, 1) := dk_42 (by decide +kernel)
theorem dX10_bestOnward_20 : decode cX10_bestOnward 20 = .ok (.getfield 60, 3) := dk_180 0 60 (by decide +kernel)
theorem dX10_bestOnward_23 : decode cX10_bestOnward 23 = .ok (.iload 4, 2) := dk_21 (by decide +kernel)
theorem dX10_bestOnward_25 : decode cX10_bestOnward 25 = .ok (.iaload, 1) := dk_46 (by decide +kernel)
theorem dX10_bestOnward_26 : decode cX10_bestOnward 26 = .ok (.iadd, 1) := dk_96 (by decide +kernel)
theorem dX10_bestOnward_27 : decode cX10_bestOnward 27 = .ok (.iconst 1, 1) := dk_4 (by decide +kernel)
theorem dX10_bestOnward_28 : decode cX10_bestOnward 28 = .ok (.isub, 1) := dk_100 (by decide +kernel)
theorem dX10_bestOnward_29 : decode cX10_bestOnward 29 = .ok (.istore 6, 2) := dk_54 (by decide +kernel)
theorem dX10_bestOnward_31 : decode cX10_bestOnward 31 = .ok (.iconst 0, 1) := dk_3 (by decide +kernel)
theorem dX10_bestOnward_32 : decode cX10_bestOnward 32 = .ok (.istore 7, 2) := dk_54 (by decide +kernel)
theorem dX10_bestOnward_34 : decode cX10_bestOnward 34 = .ok (.aload_n 0, 1) := dk_42 (by decide +kernel)
theorem dX10_bestOnward_35 : decode cX10_bestOnward 35 = .ok (.iload 4, 2) := dk_21 (by decide +kernel)
theorem dX10_bestOnward_37 : decode cX10_bestOnward 37 = .ok (.invokevirtual 150, 3) := dk_182 0 150 (by decide +kernel)
theorem dX10_bestOnward_40 : decode cX10_bestOnward 40 = .ok (.istore 8, 2) := dk_54 (by decide +kernel)
theorem dX10_bestOnward_42 : decode cX10_bestOnward 42 = .ok (.iload 8, 2) := dk_21 (by decide +kernel)
theorem dX10_bestOnward_44 : decode cX10_bestOnward 44 = .ok (.iconst 3, 1) := dk_6 (by decide +kernel)
theorem dX10_bestOnward_45 : decode cX10_bestOnward 45 = .ok (.if_icmp .ge 31, 3) := dk_162 0 31 (by decide +kernel)
theorem dX10_bestOnward_48 : decode cX10_bestOnward 48 = .ok (.iload 7, 2) := dk_21 (by decide +kernel)
theorem dX10_bestOnward_50 : decode cX10_bestOnward 50 = .ok (.aload_n 0, 1) := dk_42 (by decide +kernel)
theorem dX10_bestOnward_51 : decode cX10_bestOnward 51 = .ok (.iload 5, 2) := dk_21 (by decide +kernel)
theorem dX10_bestOnward_53 : decode cX10_bestOnward 53 = .ok (.iload 8, 2) := dk_21 (by decide +kernel)
theorem dX10_bestOnward_55 : decode cX10_bestOnward 55 = .ok (.iadd, 1) := dk_96 (by decide +kernel)
theorem dX10_bestOnward_56 : decode cX10_bestOnward 56 = .ok (.iload_n 2, 1) := dk_28 (by decide +kernel)
theorem dX10_bestOnward_57 : decode cX10_bestOnward 57 = .ok (.iload 6, 2) := dk_21 (by decide +kernel)
theorem dX10_bestOnward_59 : decode cX10_bestOnward 59 = .ok (.iload 8, 2) := dk_21 (by decide +kernel)
theorem dX10_bestOnward_61 : decode cX10_bestOnward 61 = .ok (.iadd, 1) := dk_96 (by decide +kernel)
theorem dX10_bestOnward_62 : decode cX10_bestOnward 62 = .ok (.invokevirtual 153, 3) := dk_182 0 153 (by decide +kernel)
theorem dX10_bestOnward_65 : decode cX10_bestOnward 65 = .ok (.invokestatic 156, 3) := dk_184 0 156 (by decide +kernel)
theorem dX10_bestOnward_68 : decode cX10_bestOnward 68 = .ok (.istore 7, 2) := dk_54 (by decide +kernel)
theorem dX10_bestOnward_70 : decode cX10_bestOnward 70 = .ok (.iinc 8 1, 3) := dk_132 1 (by decide +kernel)
theorem dX10_bestOnward_73 : decode cX10_bestOnward 73 = .ok (.goto (-31), 3) := dk_167 255 225 (by decide +kernel)
theorem dX10_bestOnward_76 : decode cX10_bestOnward 76 = .ok (.iload 7, 2) := dk_21 (by decide +kernel)
theorem dX10_bestOnward_78 : decode cX10_bestOnward 78 = .ok (.ireturn, 1) := dk_172 (by decide +kernel)
set_option maxRecDepth 8000 in
theorem e_X10_bestOnward {g : ch_G} {A R : Nat} (hC : ck_Cx g A R) {d : Nat} {K : Option ck_V → ck_W → Prop} {w : ck_W} {a1 a2 a3 a4 : Int} (h : ck_CI (ch_C g A R) d mX10_windowBehind [.inr (.inr 51), .inl a1, .inl a3, .inl a4] w (fun v2 w1 => (¬ v2 = (-1) → (0 ≤ a4 ∧ a4 < ((3 ^ (A - 1) : Nat) : Int)) ∧ (ck_i ((a3 + (w1 53 a4)) - 1) ∧ (ck_CI (ch_C g A R) d mX10_leastChange [.inr (.inr 51), .inl a4] w1 (fun v9 w8 => ck_At (ch_C g A R) (d + 1) mX10_bestOnward K 42 [some (.inr (.inr 51)), none, some (.inl a2), none, none, some (.inl v2), some (.inl ((a3 + (w1 53 a4)) - 1)), some (.inl 0), some (.inl v9)] [] w8)))) ∧ (v2 = (-1) → K (some (.inl 0)) w1))) : ck_Ex (ch_C g A R) (d + 1) mX10_bestOnward [.inr (.inr 51), .inl a1, .inl a2, .inl a3, .inl a4] w K :=
  ck_entry hC.1 [some (.inr (.inr 51)), some (.inl a1), some (.inl a2), some (.inl a3), some (.inl a4), none, none, none, none] (by decide) (Nat.le_of_ble_eq_true rfl) rfl (fun q => q) (ck_in (fun hl => (ck_aload_n 1 rfl 0 dX10_bestOnward_0 rfl rfl (ck_iload_n 2 rfl 1 dX10_bestOnward_1 rfl rfl (ck_iload_n 3 rfl 3 dX10_bestOnward_2 rfl rfl (ck_iload 5 rfl dX10_bestOnward_3 rfl (ck_callV 8 rfl [.inl a1, .inl a3, .inl a4] [] dX10_bestOnward_5 cv_X10_147 sh_51 rfl rfl (Nat.le_of_ble_eq_true rfl) (And.intro hl.2.1 (And.intro hl.2.2.2.1 (And.intro hl.2.2.2.2.1 True.intro))) (ck_mI h (fun v2 w1 q3 h4 => (ck_istore 10 rfl [some (.inr (.inr 51)), some (.inl a1), some (.inl a2), some (.inl a3), some (.inl a4), some (.inl v2), none, none, none] dX10_bestOnward_8 (Nat.le_of_ble_eq_true rfl) rfl rfl q3 (ck_iload 12 rfl dX10_bestOnward_10 rfl (ck_iconst 13 rfl dX10_bestOnward_12 rfl (ck_icmp_ne 16 rfl 18 dX10_bestOnward_13 rfl q3 (show ck_i (-1) by decide) (fun c12 => (ck_iload_n 19 rfl 3 dX10_bestOnward_18 rfl rfl (ck_aload_n 20 rfl 0 dX10_bestOnward_19 rfl rfl (ck_getr 23 rfl dX10_bestOnward_20 fl_X10_60 sh_51 rfl (ck_iload 25 rfl dX10_bestOnward_23 rfl (have h15 := (h4.1 c12); have o5 := h15.1; have h14 := h15.2; (ck_iald 26 rfl dX10_bestOnward_25 sh_53 (shn_53 hC) o5 _ rfl (fun (q6 : ck_i (w1 53 a4)) => (ck_iadd 27 rfl dX10_bestOnward_26 (ck_iconst 28 rfl dX10_bestOnward_27 rfl (ck_isub 29 rfl dX10_bestOnward_28 (have h17 := h14; have o7 := h17.1; have h16 := h17.2; (ck_istore 31 rfl [some (.inr (.inr 51)), some (.inl a1), some (.inl a2), some (.inl a3), some (.inl a4), some (.inl v2), some (.inl ((a3 + (w1 53 a4)) - 1)), none, none] dX10_bestOnward_29 (Nat.le_of_ble_eq_true rfl) rfl rfl o7 (ck_iconst 32 rfl dX10_bestOnward_31 rfl (ck_istore 34 rfl [some (.inr (.inr 51)), some (.inl a1), some (.inl a2), some (.inl a3), some (.inl a4), some (.inl v2), some (.inl ((a3 + (w1 53 a4)) - 1)), some (.inl 0), none] dX10_bestOnward_32 (Nat.le_of_ble_eq_true rfl) rfl rfl (show ck_i 0 by decide) (ck_aload_n 35 rfl 0 dX10_bestOnward_34 rfl rfl (ck_iload 37 rfl dX10_bestOnward_35 rfl (ck_callV 40 rfl [.inl a4] [] dX10_bestOnward_37 cv_X10_150 sh_51 rfl rfl (Nat.le_of_ble_eq_true rfl) (And.intro hl.2.2.2.2.1 True.intro) (ck_mI h16 (fun v9 w8 q10 h11 => (ck_istore 42 rfl [some (.inr (.inr 51)), some (.inl a1), some (.inl a2), some (.inl a3), some (.inl a4), some (.inl v2), some (.inl ((a3 + (w1 53 a4)) - 1)), some (.inl 0), some (.inl v9)] dX10_bestOnward_40 (Nat.le_of_ble_eq_true rfl) rfl rfl q10 (ck_drop [some (.inr (.inr 51)), none, some (.inl a2), none, none, some (.inl v2), some (.inl ((a3 + (w1 53 a4)) - 1)), some (.inl 0), some (.inl v9)] (And.intro rfl (And.intro rfl (And.intro rfl (And.intro rfl (And.intro rfl (And.intro rfl True.intro)))))) h11)))))))))))))))))))))) (fun c13 => (ck_iconst 17 rfl dX10_bestOnward_16 rfl (ck_iret dX10_bestOnward_17 rfl (show ck_i 0 by decide) (h4.2 c13)))))))))))))))))
set_option maxRecDepth 8000 in
theorem r_X10_bestOnward_42 {g : ch_G} {A R : Nat} (hC : ck_Cx g A R) {d : Nat} {K : Option ck_V → ck_W → Prop} {w : ck_W} {a2 a5 a6 a7 a8 : Int} (h : (3 ≤ a8 → K (some (.inl a7)) w) ∧ (¬ 3 ≤ a8 → ck_i (a5 + a8) ∧ (ck_i (a6 + a8) ∧ (ck_CI (ch_C g A R) d mX10_onward [.inr (.inr 51), .inl (a5 + a8), .inl a2, .inl (a6 + a8)] w (fun v4 w3 => ck_CI (ch_C g A R) d mX10_better [.inl a7, .inl v4] w3 (fun v8 w7 => ck_i (a8 + 1) ∧ (ck_At (ch_C g A R) (d + 1) mX10_bestOnward K 42 [some (.inr (.inr 51)), none, some (.inl a2), none, none, some (.inl a5), some (.inl a6), some (.inl v8), some (.inl (a8 + 1))] [] w7))))))) : ck_At (ch_C g A R) (d + 1) mX10_bestOnward K 42 [some (.inr (.inr 51)), none, some (.inl a2), none, none, some (.inl a5), some (.inl a6), some (.inl a7), some (.inl a8)] [] w :=
  ck_in (fun hl => (ck_iload 44 rfl dX10_bestOnward_42 rfl (ck_iconst 45 rfl dX10_bestOnward_44 rfl (ck_icmp_ge 48 rfl 76 dX10_bestOnward_45 rfl hl.2.2.2.2.2.1 (show ck_i 3 by decide) (fun c12 => (ck_iload 78 rfl dX10_bestOnward_76 rfl (ck_iret dX10_bestOnward_78 rfl hl.2.2.2.2.1 (h.1 c12)))) (fun c13 => (ck_iload 50 rfl dX10_bestOnward_48 rfl (ck_aload_n 51 rfl 0 dX10_bestOnward_50 rfl rfl (ck_iload 53 rfl dX10_bestOnward_51 rfl (ck_iload 55 rfl dX10_bestOnward_53 rfl (ck_iadd 56 rfl dX10_bestOnward_55 (ck_iload_n 57 rfl 2 dX10_bestOnward_56 rfl rfl (ck_iload 59 rfl dX10_bestOnward_57 rfl (ck_iload 61 rfl dX10_bestOnward_59 rfl (ck_iadd 62 rfl dX10_bestOnward_61 (have h15 := (h.2 c13); have o1 := h15.1; have h14 := h15.2; (have h17 := h14; have o2 := h17.1; have h16 := h17.2; (ck_callV 65 rfl [.inl (a5 + a8), .inl a2, .inl (a6 + a8)] [.inl a7] dX10_bestOnward_62 cv_X10_153 sh_51 rfl rfl (Nat.le_of_ble_eq_true rfl) (And.intro o1 (And.intro hl.2.1 (And.intro o2 True.intro))) (ck_mI h16 (fun v4 w3 q5 h6 => (ck_callS 68 rfl [.inl a7, .inl v4] [] dX10_bestOnward_65 cs_X10_156 rfl rfl (Nat.le_of_ble_eq_true rfl) (And.intro hl.2.2.2.2.1 (And.intro q5 True.intro)) (ck_mI h6 (fun v8 w7 q9 h10 => (ck_istore 70 rfl [some (.inr (.inr 51)), none, some (.inl a2), none, none, some (.inl a5), some (.inl a6), some (.inl v8), some (.inl a8)] dX10_bestOnward_68 (Nat.le_of_ble_eq_true rfl) rfl rfl q9 (have h19 := h10; have o11 := h19.1; have h18 := h19.2; (ck_iinc 73 rfl [some (.inr (.inr 51)), none, some (.inl a2), none, none, some (.inl a5), some (.inl a6), some (.inl v8), some (.inl (a8 + 1))] dX10_bestOnward_70 rfl (Nat.le_of_ble_eq_true rfl) rfl rfl o11 (ck_goto 42 dX10_bestOnward_73 rfl h18))))))))))))))))))))))))))
theorem p_X10_bestOnward {g : ch_G} {A R : Nat} (hC : ck_Cx g A R) {d : Nat} {K : Option ck_V → ck_W → Prop} {w : ck_W} {a2 a3 a4 k : Int} {G : Int → Int → Int} (l : Nat) (hD : cs_D A R w) (hW : cw_tab A w) (hG : cw_Gv R G) (hk : 1 ≤ k ∧ k ≤ 4) (hg : cw_gn R (k * (A : Int)) G w) (hl : ((l + 1 : Nat) : Int) ≤ k * (A : Int) - (A : Int)) (h2 : a2 = k * (A : Int) - (l + 1)) (h3 : 0 ≤ a3 ∧ a3 < (R : Int)) (h4 : 0 ≤ a4 ∧ a4 < cw_N A) (hb : w 51 10 = cw_lo A k l ∧ w 51 11 = (R : Int) - k + cw_lo A k l) (hr : cw_row A R k G w l) (h : K (some (.inl (cw_A A R k G (l + 1) a3 a4))) w) : ck_Ex (ch_C g A R) (d + 2) mX10_bestOnward [.inr (.inr 51), .inl ((l + 1 : Nat) : Int), .inl a2, .inl a3, .inl a4] w K := by
  have n := cw_NA hC
  have c := cs_ar hC
  have kk := cw_cks n.1 h4
  have k5 := kk.1 (A - 1) (by omega)
  have kA : k * (A : Int) ≤ 4 * (A : Int) := Int.mul_le_mul_of_nonneg_right hk.2 (by omega)
  have lb := cw_lob (A := A) (K := k) (l := (l : Int)) (by omega) (by omega) (by omega)
  have t := (hW.2.1 a4 h4.1 h4.2).2.1
  rw [cw_A] at h
  have lc0 : 0 ≤ cw_lc A a4 := by unfold cw_lc; omega
  refine e_X10_bestOnward hC (p_X10_windowBehind hC hD hW (by omega) (by omega) h4 (by omega) (fun q => ⟨_, rfl, fun _ => ⟨fun z => absurd rfl z, fun _ => ?_⟩⟩) (fun q1 q2 => ?_))
  · rcases q with q | q
    · rw [if_pos (by omega)] at h; exact h
    · by_cases z : a3 + cw_sh A a4 1 < cw_lo A k l
      · rw [if_pos z] at h; exact h
      · rw [if_neg z, if_pos (by omega)] at h; exact h
  · rw [if_neg (by omega), if_neg (by omega)] at h
    have ib := fun ch (hc : 0 ≤ ch ∧ ch ≤ 2) => cw_ixb hC (l := (l : Int)) (r := a3 + cw_sh A a4 1) (c := cw_ta A a4 + ch) (by omega) (by omega) (by omega)
    have i0 := ib 0 (by omega)
    have el : ((l + 1 : Nat) : Int) - 1 = (l : Int) := by omega
    rw [el]
    generalize hbe : ((l : Int) * (R : Int) + (a3 + cw_sh A a4 1)) * cw_N A = be at *
    refine ⟨_, rfl, fun _ => ⟨fun _ => ⟨by rw [n.2.2]; exact h4, ?_⟩, fun z => absurd z (by omega)⟩⟩
    rw [t]
    refine ⟨by constructor <;> omega, p_X10_leastChange hC hW h4 ⟨_, rfl, fun _ => ?_⟩⟩
    have lp : ∀ (m : Nat) (b ch : Int), 3 - ch = m → 0 ≤ ch → cw_ok 216 b → K (some (.inl (cw_fo (fun ch => cw_on R G (cw_A A R k G l (a3 + cw_sh A a4 1) (cw_ta A a4 + ch)) (k * (A : Int) - (l + 1)) (a3 + cw_sh A a4 (A - 1) - 1 + ch)) m ch b))) w → ck_At (ch_C g A R) (d + 2) mX10_bestOnward K 42 [some (.inr (.inr 51)), none, some (.inl a2), none, none, some (.inl (be + cw_ta A a4)), some (.inl (a3 + cw_sh A a4 (A - 1) - 1)), some (.inl b), some (.inl ch)] [] w := by
      intro m
      induction m with
      | zero =>
        intro b ch g1 g2 g3 h
        rw [cw_fo] at h
        exact r_X10_bestOnward_42 hC ⟨fun _ => h, fun q => absurd (by omega) q⟩
      | succ m ih =>
        intro b ch g1 g2 g3 h
        rw [cw_fo] at h
        have i := ib ch (by omega)
        have er := hr (a3 + cw_sh A a4 1) (cw_ta A a4 + ch) (by omega) (by omega) (by omega) (by omega)
        rw [hbe] at er
        have ax := cw_A_ok hG (A := A) (K := k) (by omega) l (a3 + cw_sh A a4 1) (cw_ta A a4 + ch) (by omega)
        have axx : cw_ok 207 (cw_A A R k G l (a3 + cw_sh A a4 1) (cw_ta A a4 + ch)) := by unfold cw_ok at ax ⊢; omega
        have oo := cw_on_ok hG (p := k * (A : Int) - (l + 1)) (r := a3 + cw_sh A a4 (A - 1) - 1 + ch) (by omega) axx
        have eb : be + cw_ta A a4 + ch = be + (cw_ta A a4 + ch) := by omega
        refine r_X10_bestOnward_42 hC ⟨fun q => absurd q (by omega), fun q => ⟨by constructor <;> omega, by constructor <;> omega, ?_⟩⟩
        rw [eb]
        refine p_X10_onward hC (P := k * (A : Int)) hD hG hg (by omega) (by omega) i.1 (by rw [er]; exact axx) ⟨_, rfl, fun _ => p_X10_better hC (by unfold cw_ok at g3 ⊢; omega) ?_ ⟨_, rfl, fun _ => ⟨by constructor <;> omega, ih _ _ (by omega) (by omega) ?_ ?_⟩⟩⟩
        · rw [er, h2]; unfold cw_ok at oo ⊢; omega
        · rw [er, h2]; exact cw_bt_ok g3 oo
        · rw [er, h2]; exact h
    by_cases z : cw_lc A a4 ≤ 3
    · exact lp (3 - cw_lc A a4).toNat 0 (cw_lc A a4) (by omega) lc0 (Or.inl rfl) h
    · rw [show (3 - cw_lc A a4).toNat = 0 by omega, cw_fo] at h
      exact r_X10_bestOnward_42 hC ⟨fun _ => h, fun q => absurd (by omega) q⟩
theorem cw_ixi {A R : Nat} {l r c l' r' c' : Int} (hr : 0 ≤ r ∧ r < (R : Int)) (hr' : 0 ≤ r' ∧ r' < (R : Int)) (hc : 0 ≤ c ∧ c < cw_N A) (hc' : 0 ≤ c' ∧ c' < cw_N A) (h : (l * (R : Int) + r) * cw_N A + c = (l' * (R : Int) + r') * cw_N A + c') : l = l' ∧ r = r' ∧ c = c' := by
  have e := ix_inj hc hc' h
  have f := ix_inj hr hr' e.1
  exact ⟨f.1, f.2, e.2⟩
/-- what a place of a slice adds -/
def cw_g (A R : Nat) (w : ck_W) (z p r : Int) : Int := if w 7 (z * 24 + p) = -1 then w 4 (cs_at A R z (p % (A : Int)) r) * 1048576 else if w 7 (z * 24 + p) = r then w 4 (cs_at A R z (p % (A : Int)) r) * 1048576 else -1
/-- grey as it may be -/
def cs_Y (A R : Nat) (w : ck_W) : Prop := ∀ j, 0 ≤ j → j < ((6 * A * R : Nat) : Int) → 0 ≤ w 4 j ∧ w 4 j ≤ 9
theorem cw_gv {A R : Nat} {g : ch_G} (hC : ck_Cx g A R) {w : ck_W} (hY : cs_Y A R w) {z : Int} (hz : 0 ≤ z ∧ z ≤ 5) : cw_Gv R (cw_g A R w z) := by
  intro p r r0 r1 p0 p1
  have c := cs_ar hC
  have m0 := Int.emod_nonneg p (b := (A : Int)) (by omega)
  have m1 := Int.emod_lt_of_pos p (b := (A : Int)) (by omega)
  have b := cs_atb hC (z := z) (a := p % (A : Int)) (r := r) ⟨hz, ⟨m0, m1⟩, ⟨r0, r1⟩⟩
  have y := hY _ b.1 b.2.1
  unfold cw_g
  split
  · exact Or.inr ⟨_, y.1, y.2, rfl⟩
  · split
    · exact Or.inr ⟨_, y.1, y.2, rfl⟩
    · exact Or.inl rfl
theorem cs_hD {A R : Nat} {w u : ck_W} (h : cs_D A R w) (e : u 3 = w 3) : cs_D A R u := by unfold cs_D; rw [e]; exact h
theorem cs_hT {w u : ck_W} (h : cs_T w) (e : u 6 = w 6) : cs_T u := by unfold cs_T; rw [e]; exact h
theorem dX10_fillGain_0 : decode cX10_fillGain 0 = .ok (.aload_n 0, 1) := dk_42 (by decide +kernel)
theorem dX10_fillGain_1 : decode cX10_fillGain 1 = .ok (.getfield 28, 3) := dk_180 0 28 (by decide +kernel)
theorem dX10_fillGain_4 : decode cX10_fillGain 4 = .ok (.iload_n 1, 1) := dk_27 (by decide +kernel)
theorem dX10_fillGain_5 : decode cX10_fillGain 5 = .ok (.invokevirtual 86, 3) := dk_182 0 86 (by decide +kernel)
theorem dX10_fillGain_8 : decode cX10_fillGain 8 = .ok (.istore_n 2, 1) := dk_61 (by decide +kernel)
theorem dX10_fillGain_9 : decode cX10_fillGain 9 = .ok (.iconst 0, 1) := dk_3 (by decide +kernel)
theorem dX10_fillGain_10 : decode cX10_fillGain 10 = .ok (.istore_n 3, 1) := dk_62 (by decide +kernel)
theorem dX10_fillGain_11 : decode cX10_fillGain 11 = .ok (.iload_n 3, 1) := dk_29 (by decide +kernel)
theorem dX10_fillGain_12 : decode cX10_fillGain 12 = .ok (.iload_n 2, 1) := dk_28 (by decide +kernel)
theorem dX10_fillGain_13 : decode cX10_fillGain 13 = .ok (.if_icmp .ge 121, 3) := dk_162 0 121 (by decide +kernel)
theorem dX10_fillGain_16 : decode cX10_fillGain 16 = .ok (.aload_n 0, 1) := dk_42 (by decide +kernel)
theorem dX10_fillGain_17 : decode cX10_fillGain 17 = .ok (.getfield 28, 3) := dk_180 0 28 (by decide +kernel)
theorem dX10_fillGain_20 : decode cX10_fillGain 20 = .ok (.getfield 118, 3) := dk_180 0 118 (by decide +kernel)
theorem dX10_fillGain_23 : decode cX10_fillGain 23 = .ok (.iload_n 1, 1) := dk_27 (by decide +kernel)
theorem dX10_fillGain_24 : decode cX10_fillGain 24 = .ok (.bipush 24, 2) := dk_16 24 (by decide +kernel)
theorem dX10_fillGain_26 : decode cX10_fillGain 26 = .ok (.imul, 1) := dk_104 (by decide +kernel)
theorem dX10_fillGain_27 : decode cX10_fillGain 27 = .ok (.iload_n 3, 1) := dk_29 (by decide +kernel)
theorem dX10_fillGain_28 : decode cX10_fillGain 28 = .ok (.iadd, 1) := dk_96 (by decide +kernel)
theorem dX10_fillGain_29 : decode cX10_fillGain 29 = .ok (.iaload, 1) := dk_46 (by decide +kernel)
theorem dX10_fillGain_30 : decode cX10_fillGain 30 = .ok (.istore 4, 2) := dk_54 (by decide +kernel)
theorem dX10_fillGain_32 : decode cX10_fillGain 32 = .ok (.aload_n 0, 1) := dk_42 (by decide +kernel)
theorem dX10_fillGain_33 : decode cX10_fillGain 33 = .ok (.getfield 28, 3) := dk_180 0 28 (by decide +kernel)
theorem dX10_fillGain_36 : decode cX10_fillGain 36 = .ok (.iload_n 3, 1) := dk_29 (by decide +kernel)
theorem dX10_fillGain_37 : decode cX10_fillGain 37 = .ok (.invokevirtual 121, 3) := dk_182 0 121 (by decide +kernel)
theorem dX10_fillGain_40 : decode cX10_fillGain 40 = .ok (.istore 5, 2) := dk_54 (by decide +kernel)
theorem dX10_fillGain_42 : decode cX10_fillGain 42 = .ok (.iconst 0, 1) := dk_3 (by decide +kernel)
theorem dX10_fillGain_43 : decode cX10_fillGain 43 = .ok (.istore 6, 2) := dk_54 (by decide +kernel)
theorem dX10_fillGain_45 : decode cX10_fillGain 45 = .ok (.iload 6, 2) := dk_21 (by decide +kernel)
theorem dX10_fillGain_47 : decode cX10_fillGain 47 = .ok (.aload_n 0, 1) := dk_42 (by decide +kernel)
theorem dX10_fillGain_48 : decode cX10_fillGain 48 = .ok (.getfield 28, 3) := dk_180 0 28 (by decide +kernel)
theorem dX10_fillGain_51 : decode cX10_fillGain 51 = .ok (.getfield 66, 3) := dk_180 0 66 (by decide +kernel)
theorem dX10_fillGain_54 : decode cX10_fillGain 54 = .ok (.if_icmp .ge 74, 3) := dk_162 0 74 (by decide +kernel)
theorem dX10_fillGain_57 : decode cX10_fillGain 57 = .ok (.iload 4, 2) := dk_21 (by decide +kernel)
theorem dX10_fillGain_59 : decode cX10_fillGain 59 = .ok (.iconst (-1), 1) := dk_2 (by decide +kernel)
theorem dX10_fillGain_60 : decode cX10_fillGain 60 = .ok (.if_icmp .eq 10, 3) := dk_159 0 10 (by decide +kernel)
theorem dX10_fillGain_63 : decode cX10_fillGain 63 = .ok (.iload 4, 2) := dk_21 (by decide +kernel)
theorem dX10_fillGain_65 : decode cX10_fillGain 65 = .ok (.iload 6, 2) := dk_21 (by decide +kernel)
theorem dX10_fillGain_67 : decode cX10_fillGain 67 = .ok (.if_icmp .ne 7, 3) := dk_160 0 7 (by decide +kernel)
theorem dX10_fillGain_70 : decode cX10_fillGain 70 = .ok (.iconst 1, 1) := dk_4 (by decide +kernel)
theorem dX10_fillGain_71 : decode cX10_fillGain 71 = .ok (.goto 4, 3) := dk_167 0 4 (by decide +kernel)
theorem dX10_fillGain_74 : decode cX10_fillGain 74 = .ok (.iconst 0, 1) := dk_3 (by decide +kernel)
theorem dX10_fillGain_75 : decode cX10_fillGain 75 = .ok (.istore 7, 2) := dk_54 (by decide +kernel)
theorem dX10_fillGain_77 : decode cX10_fillGain 77 = .ok (.aload_n 0, 1) := dk_42 (by decide +kernel)
theorem dX10_fillGain_78 : decode cX10_fillGain 78 = .ok (.getfield 28, 3) := dk_180 0 28 (by decide +kernel)
theorem dX10_fillGain_81 : decode cX10_fillGain 81 = .ok (.iload_n 1, 1) := dk_27 (by decide +kernel)
theorem dX10_fillGain_82 : decode cX10_fillGain 82 = .ok (.iload 5, 2) := dk_21 (by decide +kernel)
theorem dX10_fillGain_84 : decode cX10_fillGain 84 = .ok (.iload 6, 2) := dk_21 (by decide +kernel)
theorem dX10_fillGain_86 : decode cX10_fillGain 86 = .ok (.invokevirtual 124, 3) := dk_182 0 124 (by decide +kernel)
theorem dX10_fillGain_89 : decode cX10_fillGain 89 = .ok (.bipush 20, 2) := dk_16 20 (by decide +kernel)
theorem dX10_fillGain_91 : decode cX10_fillGain 91 = .ok (.ishl, 1) := dk_120 (by decide +kernel)
theorem dX10_fillGain_92 : decode cX10_fillGain 92 = .ok (.istore 8, 2) := dk_54 (by decide +kernel)
theorem dX10_fillGain_94 : decode cX10_fillGain 94 = .ok (.aload_n 0, 1) := dk_42 (by decide +kernel)
theorem dX10_fillGain_95 : decode cX10_fillGain 95 = .ok (.getfield 69, 3) := dk_180 0 69 (by decide +kernel)
theorem dX10_fillGain_98 : decode cX10_fillGain 98 = .ok (.iload_n 3, 1) := dk_29 (by decide +kernel)
theorem dX10_fillGain_99 : decode cX10_fillGain 99 = .ok (.aload_n 0, 1) := dk_42 (by decide +kernel)
theorem dX10_fillGain_100 : decode cX10_fillGain 100 = .ok (.getfield 28, 3) := dk_180 0 28 (by decide +kernel)
theorem dX10_fillGain_103 : decode cX10_fillGain 103 = .ok (.getfield 66, 3) := dk_180 0 66 (by decide +kernel)
theorem dX10_fillGain_106 : decode cX10_fillGain 106 = .ok (.imul, 1) := dk_104 (by decide +kernel)
theorem dX10_fillGain_107 : decode cX10_fillGain 107 = .ok (.iload 6, 2) := dk_21 (by decide +kernel)
theorem dX10_fillGain_109 : decode cX10_fillGain 109 = .ok (.iadd, 1) := dk_96 (by decide +kernel)
theorem dX10_fillGain_110 : decode cX10_fillGain 110 = .ok (.iload 7, 2) := dk_21 (by decide +kernel)
theorem dX10_fillGain_112 : decode cX10_fillGain 112 = .ok (.ifCond .eq 8, 3) := dk_153 0 8 (by decide +kernel)
theorem dX10_fillGain_115 : decode cX10_fillGain 115 = .ok (.iload 8, 2) := dk_21 (by decide +kernel)
theorem dX10_fillGain_117 : decode cX10_fillGain 117 = .ok (.goto 4, 3) := dk_167 0 4 (by decide +kernel)
theorem dX10_fillGain_120 : decode cX10_fillGain 120 = .ok (.iconst (-1), 1) := dk_2 (by decide +kernel)
theorem dX10_fillGain_121 : decode cX10_fillGain 121 = .ok (.iastore, 1) := dk_79 (by decide +kernel)
theorem dX10_fillGain_122 : decode cX10_fillGain 122 = .ok (.iinc 6 1, 3) := dk_132 1 (by decide +kernel)
theorem dX10_fillGain_125 : decode cX10_fillGain 125 = .ok (.goto (-80), 3) := dk_167 255 176 (by decide +kernel)
theorem dX10_fillGain_128 : decode cX10_fillGain 128 = .ok (.iinc 3 1, 3) := dk_132 1 (by decide +kernel)
theorem dX10_fillGain_131 : decode cX10_fillGain 131 = .ok (.goto (-120), 3) := dk_167 255 136 (by decide +kernel)
theorem dX10_fillGain_134 : decode cX10_fillGain 134 = .ok (.return_, 1) := dk_177 (by decide +kernel)
set_option maxRecDepth 8000 in
theorem e_X10_fillGain {g : ch_G} {A R : Nat} (hC : ck_Cx g A R) {d : Nat} {K : Option ck_V → ck_W → Prop} {w : ck_W} {a1 : Int} (h : ck_CI (ch_C g A R) d mX5_places [.inr (.inr 3), .inl a1] w (fun v2 w1 => ck_At (ch_C g A R) (d + 1) mX10_fillGain K 11 [some (.inr (.inr 51)), some (.inl a1), some (.inl v2), some (.inl 0), none, none, none, none, none] [] w1)) : ck_Ex (ch_C g A R) (d + 1) mX10_fillGain [.inr (.inr 51), .inl a1] w K :=
  ck_entry hC.1 [some (.inr (.inr 51)), some (.inl a1), none, none, none, none, none, none, none] (by decide) (Nat.le_of_ble_eq_true rfl) rfl (fun q => q) (ck_in (fun hl => (ck_aload_n 1 rfl 0 dX10_fillGain_0 rfl rfl (ck_getr 4 rfl dX10_fillGain_1 fl_X10_28 sh_51 rfl (ck_iload_n 5 rfl 1 dX10_fillGain_4 rfl rfl (ck_callV 8 rfl [.inl a1] [] dX10_fillGain_5 cv_X10_86 sh_3 rfl rfl (Nat.le_of_ble_eq_true rfl) (And.intro hl.2.1 True.intro) (ck_mI h (fun v2 w1 q3 h4 => (ck_istore_n 9 rfl 2 [some (.inr (.inr 51)), some (.inl a1), some (.inl v2), none, none, none, none, none, none] dX10_fillGain_8 rfl (Nat.le_of_ble_eq_true rfl) rfl rfl q3 (ck_iconst 10 rfl dX10_fillGain_9 rfl (ck_istore_n 11 rfl 3 [some (.inr (.inr 51)), some (.inl a1), some (.inl v2), some (.inl 0), none, none, none, none, none] dX10_fillGain_10 rfl (Nat.le_of_ble_eq_true rfl) rfl rfl (show ck_i 0 by decide) h4)))))))))))
set_option maxRecDepth 8000 in
theorem r_X10_fillGain_11 {g : ch_G} {A R : Nat} (hC : ck_Cx g A R) {d : Nat} {K : Option ck_V → ck_W → Prop} {w : ck_W} {a1 a2 a3 : Int} (h : (a2 ≤ a3 → K none w) ∧ (¬ a2 ≤ a3 → (0 ≤ ((a1 * 24) + a3) ∧ ((a1 * 24) + a3) < 144) ∧ (ck_CI (ch_C g A R) d mX5_angleOf [.inr (.inr 3), .inl a3] w (fun v4 w3 => ck_At (ch_C g A R) (d + 1) mX10_fillGain K 45 [some (.inr (.inr 51)), some (.inl a1), some (.inl a2), some (.inl a3), some (.inl (w 7 ((a1 * 24) + a3))), some (.inl v4), some (.inl 0), none, none] [] w3)))) : ck_At (ch_C g A R) (d + 1) mX10_fillGain K 11 [some (.inr (.inr 51)), some (.inl a1), some (.inl a2), some (.inl a3), none, none, none, none, none] [] w :=
  ck_in (fun hl => (ck_iload_n 12 rfl 3 dX10_fillGain_11 rfl rfl (ck_iload_n 13 rfl 2 dX10_fillGain_12 rfl rfl (ck_icmp_ge 16 rfl 134 dX10_fillGain_13 rfl hl.2.2.2.1 hl.2.2.1 (fun c7 => (ck_vret dX10_fillGain_134 rfl (h.1 c7))) (fun c8 => (ck_aload_n 17 rfl 0 dX10_fillGain_16 rfl rfl (ck_getr 20 rfl dX10_fillGain_17 fl_X10_28 sh_51 rfl (ck_getr 23 rfl dX10_fillGain_20 fl_X10_118 sh_3 rfl (ck_iload_n 24 rfl 1 dX10_fillGain_23 rfl rfl (ck_bipush 26 rfl dX10_fillGain_24 rfl (ck_imul 27 rfl dX10_fillGain_26 (ck_iload_n 28 rfl 3 dX10_fillGain_27 rfl rfl (ck_iadd 29 rfl dX10_fillGain_28 (have h10 := (h.2 c8); have o1 := h10.1; have h9 := h10.2; (ck_iald 30 rfl dX10_fillGain_29 sh_7 (shn_7 hC) o1 _ rfl (fun (q2 : ck_i (w 7 ((a1 * 24) + a3))) => (ck_istore 32 rfl [some (.inr (.inr 51)), some (.inl a1), some (.inl a2), some (.inl a3), some (.inl (w 7 ((a1 * 24) + a3))), none, none, none, none] dX10_fillGain_30 (Nat.le_of_ble_eq_true rfl) rfl rfl q2 (ck_aload_n 33 rfl 0 dX10_fillGain_32 rfl rfl (ck_getr 36 rfl dX10_fillGain_33 fl_X10_28 sh_51 rfl (ck_iload_n 37 rfl 3 dX10_fillGain_36 rfl rfl (ck_callV 40 rfl [.inl a3] [] dX10_fillGain_37 cv_X10_121 sh_3 rfl rfl (Nat.le_of_ble_eq_true rfl) (And.intro hl.2.2.2.1 True.intro) (ck_mI h9 (fun v4 w3 q5 h6 => (ck_istore 42 rfl [some (.inr (.inr 51)), some (.inl a1), some (.inl a2), some (.inl a3), some (.inl (w 7 ((a1 * 24) + a3))), some (.inl v4), none, none, none] dX10_fillGain_40 (Nat.le_of_ble_eq_true rfl) rfl rfl q5 (ck_iconst 43 rfl dX10_fillGain_42 rfl (ck_istore 45 rfl [some (.inr (.inr 51)), some (.inl a1), some (.inl a2), some (.inl a3), some (.inl (w 7 ((a1 * 24) + a3))), some (.inl v4), some (.inl 0), none, none] dX10_fillGain_43 (Nat.le_of_ble_eq_true rfl) rfl rfl (show ck_i 0 by decide) h6))))))))))))))))))))))))))
set_option maxRecDepth 8000 in
theorem r_X10_fillGain_45 {g : ch_G} {A R : Nat} (hC : ck_Cx g A R) {d : Nat} {K : Option ck_V → ck_W → Prop} {w : ck_W} {a1 a2 a3 a4 a5 a6 : Int} (h : ((w 3 1) ≤ a6 → ck_i (a3 + 1) ∧ (ck_At (ch_C g A R) (d + 1) mX10_fillGain K 11 [some (.inr (.inr 51)), some (.inl a1), some (.inl a2), some (.inl (a3 + 1)), none, none, none, none, none] [] w)) ∧ (¬ (w 3 1) ≤ a6 → (a4 = (-1) → ck_CI (ch_C g A R) d mX5_greyAt [.inr (.inr 3), .inl a1, .inl a5, .inl a6] w (fun v4 w3 => (0 ≤ ((a3 * (w3 3 1)) + a6) ∧ ((a3 * (w3 3 1)) + a6) < ((24 * R : Nat) : Int)) ∧ (ck_i (a6 + 1) ∧ (ck_At (ch_C g A R) (d + 1) mX10_fillGain K 45 [some (.inr (.inr 51)), some (.inl a1), some (.inl a2), some (.inl a3), some (.inl a4), some (.inl a5), some (.inl (a6 + 1)), none, none] [] (ck_up w3 58 ((a3 * (w3 3 1)) + a6) (ck_shl v4 20)))))) ∧ (¬ a4 = (-1) → (¬ a4 = a6 → ck_CI (ch_C g A R) d mX5_greyAt [.inr (.inr 3), .inl a1, .inl a5, .inl a6] w (fun v11 w10 => (0 ≤ ((a3 * (w10 3 1)) + a6) ∧ ((a3 * (w10 3 1)) + a6) < ((24 * R : Nat) : Int)) ∧ (ck_i (a6 + 1) ∧ (ck_At (ch_C g A R) (d + 1) mX10_fillGain K 45 [some (.inr (.inr 51)), some (.inl a1), some (.inl a2), some (.inl a3), some (.inl a4), some (.inl a5), some (.inl (a6 + 1)), none, none] [] (ck_up w10 58 ((a3 * (w10 3 1)) + a6) (-1)))))) ∧ (a4 = a6 → ck_CI (ch_C g A R) d mX5_greyAt [.inr (.inr 3), .inl a1, .inl a5, .inl a6] w (fun v18 w17 => (0 ≤ ((a3 * (w17 3 1)) + a6) ∧ ((a3 * (w17 3 1)) + a6) < ((24 * R : Nat) : Int)) ∧ (ck_i (a6 + 1) ∧ (ck_At (ch_C g A R) (d + 1) mX10_fillGain K 45 [some (.inr (.inr 51)), some (.inl a1), some (.inl a2), some (.inl a3), some (.inl a4), some (.inl a5), some (.inl (a6 + 1)), none, none] [] (ck_up w17 58 ((a3 * (w17 3 1)) + a6) (ck_shl v18 20))))))))) : ck_At (ch_C g A R) (d + 1) mX10_fillGain K 45 [some (.inr (.inr 51)), some (.inl a1), some (.inl a2), some (.inl a3), some (.inl a4), some (.inl a5), some (.inl a6), none, none] [] w :=
  ck_in (fun hl => (ck_iload 47 rfl dX10_fillGain_45 rfl (ck_aload_n 48 rfl 0 dX10_fillGain_47 rfl rfl (ck_getr 51 rfl dX10_fillGain_48 fl_X10_28 sh_51 rfl (ck_geti 54 rfl 1 dX10_fillGain_51 fl_X10_66 sh_3 rfl rfl _ rfl (fun (q1 : ck_i (w 3 1)) => (ck_icmp_ge 57 rfl 128 dX10_fillGain_54 rfl hl.2.2.2.2.2.2.1 q1 (fun c28 => (have h31 := (h.1 c28); have o2 := h31.1; have h30 := h31.2; (ck_iinc 131 rfl [some (.inr (.inr 51)), some (.inl a1), some (.inl a2), some (.inl (a3 + 1)), some (.inl a4), some (.inl a5), some (.inl a6), none, none] dX10_fillGain_128 rfl (Nat.le_of_ble_eq_true rfl) rfl rfl o2 (ck_goto 11 dX10_fillGain_131 rfl (ck_drop [some (.inr (.inr 51)), some (.inl a1), some (.inl a2), some (.inl (a3 + 1)), none, none, none, none, none] (And.intro rfl (And.intro rfl (And.intro rfl (And.intro rfl True.intro)))) h30))))) (fun c29 => (ck_iload 59 rfl dX10_fillGain_57 rfl (ck_iconst 60 rfl dX10_fillGain_59 rfl (have h32 := (h.2 c29); (ck_icmp_eq 63 rfl 70 dX10_fillGain_60 rfl hl.2.2.2.2.1 (show ck_i (-1) by decide) (fun c26 => (ck_iconst 71 rfl dX10_fillGain_70 rfl (ck_goto 75 dX10_fillGain_71 rfl (ck_istore 77 rfl [some (.inr (.inr 51)), some (.inl a1), some (.inl a2), some (.inl a3), some (.inl a4), some (.inl a5), some (.inl a6), some (.inl 1), none] dX10_fillGain_75 (Nat.le_of_ble_eq_true rfl) rfl rfl (show ck_i 1 by decide) (ck_aload_n 78 rfl 0 dX10_fillGain_77 rfl rfl (ck_getr 81 rfl dX10_fillGain_78 fl_X10_28 sh_51 rfl (ck_iload_n 82 rfl 1 dX10_fillGain_81 rfl rfl (ck_iload 84 rfl dX10_fillGain_82 rfl (ck_iload 86 rfl dX10_fillGain_84 rfl (ck_callV 89 rfl [.inl a1, .inl a5, .inl a6] [] dX10_fillGain_86 cv_X10_124 sh_3 rfl rfl (Nat.le_of_ble_eq_true rfl) (And.intro hl.2.1 (And.intro hl.2.2.2.2.2.1 (And.intro hl.2.2.2.2.2.2.1 True.intro))) (ck_mI (h32.1 c26) (fun v4 w3 q5 h6 => (ck_bipush 91 rfl dX10_fillGain_89 rfl (ck_ishl 92 rfl dX10_fillGain_91 (ck_istore 94 rfl [some (.inr (.inr 51)), some (.inl a1), some (.inl a2), some (.inl a3), some (.inl a4), some (.inl a5), some (.inl a6), some (.inl 1), some (.inl (ck_shl v4 20))] dX10_fillGain_92 (Nat.le_of_ble_eq_true rfl) rfl rfl (ck_rng _) (ck_aload_n 95 rfl 0 dX10_fillGain_94 rfl rfl (ck_getr 98 rfl dX10_fillGain_95 fl_X10_69 sh_51 rfl (ck_iload_n 99 rfl 3 dX10_fillGain_98 rfl rfl (ck_aload_n 100 rfl 0 dX10_fillGain_99 rfl rfl (ck_getr 103 rfl dX10_fillGain_100 fl_X10_28 sh_51 rfl (ck_geti 106 rfl 1 dX10_fillGain_103 fl_X10_66 sh_3 rfl rfl _ rfl (fun (q7 : ck_i (w3 3 1)) => (ck_imul 107 rfl dX10_fillGain_106 (ck_iload 109 rfl dX10_fillGain_107 rfl (ck_iadd 110 rfl dX10_fillGain_109 (ck_iload 112 rfl dX10_fillGain_110 rfl (ck_if_eq 115 rfl 120 dX10_fillGain_112 rfl (by decide) (fun q => absurd q (by decide)) (fun _ => (ck_iload 117 rfl dX10_fillGain_115 rfl (ck_goto 121 dX10_fillGain_117 rfl (have h34 := h6; have o8 := h34.1; have h33 := h34.2; (ck_iast 122 rfl dX10_fillGain_121 sh_58 (shn_58 hC) o8 (ck_rng _) (have h36 := h33; have o9 := h36.1; have h35 := h36.2; (ck_iinc 125 rfl [some (.inr (.inr 51)), some (.inl a1), some (.inl a2), some (.inl a3), some (.inl a4), some (.inl a5), some (.inl (a6 + 1)), some (.inl 1), some (.inl (ck_shl v4 20))] dX10_fillGain_122 rfl (Nat.le_of_ble_eq_true rfl) rfl rfl o9 (ck_goto 45 dX10_fillGain_125 rfl (ck_drop [some (.inr (.inr 51)), some (.inl a1), some (.inl a2), some (.inl a3), some (.inl a4), some (.inl a5), some (.inl (a6 + 1)), none, none] (And.intro rfl (And.intro rfl (And.intro rfl (And.intro rfl (And.intro rfl (And.intro rfl (And.intro rfl True.intro))))))) h35)))))))))))))))))))))))))))))))))))) (fun c27 => (ck_iload 65 rfl dX10_fillGain_63 rfl (ck_iload 67 rfl dX10_fillGain_65 rfl (have h37 := (h32.2 c27); (ck_icmp_ne 70 rfl 74 dX10_fillGain_67 rfl hl.2.2.2.2.1 hl.2.2.2.2.2.2.1 (fun c24 => (ck_iconst 75 rfl dX10_fillGain_74 rfl (ck_istore 77 rfl [some (.inr (.inr 51)), some (.inl a1), some (.inl a2), some (.inl a3), some (.inl a4), some (.inl a5), some (.inl a6), some (.inl 0), none] dX10_fillGain_75 (Nat.le_of_ble_eq_true rfl) rfl rfl (show ck_i 0 by decide) (ck_aload_n 78 rfl 0 dX10_fillGain_77 rfl rfl (ck_getr 81 rfl dX10_fillGain_78 fl_X10_28 sh_51 rfl (ck_iload_n 82 rfl 1 dX10_fillGain_81 rfl rfl (ck_iload 84 rfl dX10_fillGain_82 rfl (ck_iload 86 rfl dX10_fillGain_84 rfl (ck_callV 89 rfl [.inl a1, .inl a5, .inl a6] [] dX10_fillGain_86 cv_X10_124 sh_3 rfl rfl (Nat.le_of_ble_eq_true rfl) (And.intro hl.2.1 (And.intro hl.2.2.2.2.2.1 (And.intro hl.2.2.2.2.2.2.1 True.intro))) (ck_mI (h37.1 c24) (fun v11 w10 q12 h13 => (ck_bipush 91 rfl dX10_fillGain_89 rfl (ck_ishl 92 rfl dX10_fillGain_91 (ck_istore 94 rfl [some (.inr (.inr 51)), some (.inl a1), some (.inl a2), some (.inl a3), some (.inl a4), some (.inl a5), some (.inl a6), some (.inl 0), some (.inl (ck_shl v11 20))] dX10_fillGain_92 (Nat.le_of_ble_eq_true rfl) rfl rfl (ck_rng _) (ck_aload_n 95 rfl 0 dX10_fillGain_94 rfl rfl (ck_getr 98 rfl dX10_fillGain_95 fl_X10_69 sh_51 rfl (ck_iload_n 99 rfl 3 dX10_fillGain_98 rfl rfl (ck_aload_n 100 rfl 0 dX10_fillGain_99 rfl rfl (ck_getr 103 rfl dX10_fillGain_100 fl_X10_28 sh_51 rfl (ck_geti 106 rfl 1 dX10_fillGain_103 fl_X10_66 sh_3 rfl rfl _ rfl (fun (q14 : ck_i (w10 3 1)) => (ck_imul 107 rfl dX10_fillGain_106 (ck_iload 109 rfl dX10_fillGain_107 rfl (ck_iadd 110 rfl dX10_fillGain_109 (ck_iload 112 rfl dX10_fillGain_110 rfl (ck_if_eq 115 rfl 120 dX10_fillGain_112 rfl (by decide) (fun _ => (ck_iconst 121 rfl dX10_fillGain_120 rfl (have h39 := h13; have o15 := h39.1; have h38 := h39.2; (ck_iast 122 rfl dX10_fillGain_121 sh_58 (shn_58 hC) o15 (show ck_i (-1) by decide) (have h41 := h38; have o16 := h41.1; have h40 := h41.2; (ck_iinc 125 rfl [some (.inr (.inr 51)), some (.inl a1), some (.inl a2), some (.inl a3), some (.inl a4), some (.inl a5), some (.inl (a6 + 1)), some (.inl 0), some (.inl (ck_shl v11 20))] dX10_fillGain_122 rfl (Nat.le_of_ble_eq_true rfl) rfl rfl o16 (ck_goto 45 dX10_fillGain_125 rfl (ck_drop [some (.inr (.inr 51)), some (.inl a1), some (.inl a2), some (.inl a3), some (.inl a4), some (.inl a5), some (.inl (a6 + 1)), none, none] (And.intro rfl (And.intro rfl (And.intro rfl (And.intro rfl (And.intro rfl (And.intro rfl (And.intro rfl True.intro))))))) h40)))))))) (fun q => absurd q (by decide)))))))))))))))))))))))))))) (fun c25 => (ck_iconst 71 rfl dX10_fillGain_70 rfl (ck_goto 75 dX10_fillGain_71 rfl (ck_istore 77 rfl [some (.inr (.inr 51)), some (.inl a1), some (.inl a2), some (.inl a3), some (.inl a4), some (.inl a5), some (.inl a6), some (.inl 1), none] dX10_fillGain_75 (Nat.le_of_ble_eq_true rfl) rfl rfl (show ck_i 1 by decide) (ck_aload_n 78 rfl 0 dX10_fillGain_77 rfl rfl (ck_getr 81 rfl dX10_fillGain_78 fl_X10_28 sh_51 rfl (ck_iload_n 82 rfl 1 dX10_fillGain_81 rfl rfl (ck_iload 84 rfl dX10_fillGain_82 rfl (ck_iload 86 rfl dX10_fillGain_84 rfl (ck_callV 89 rfl [.inl a1, .inl a5, .inl a6] [] dX10_fillGain_86 cv_X10_124 sh_3 rfl rfl (Nat.le_of_ble_eq_true rfl) (And.intro hl.2.1 (And.intro hl.2.2.2.2.2.1 (And.intro hl.2.2.2.2.2.2.1 True.intro))) (ck_mI (h37.2 c25) (fun v18 w17 q19 h20 => (ck_bipush 91 rfl dX10_fillGain_89 rfl (ck_ishl 92 rfl dX10_fillGain_91 (ck_istore 94 rfl [some (.inr (.inr 51)), some (.inl a1), some (.inl a2), some (.inl a3), some (.inl a4), some (.inl a5), some (.inl a6), some (.inl 1), some (.inl (ck_shl v18 20))] dX10_fillGain_92 (Nat.le_of_ble_eq_true rfl) rfl rfl (ck_rng _) (ck_aload_n 95 rfl 0 dX10_fillGain_94 rfl rfl (ck_getr 98 rfl dX10_fillGain_95 fl_X10_69 sh_51 rfl (ck_iload_n 99 rfl 3 dX10_fillGain_98 rfl rfl (ck_aload_n 100 rfl 0 dX10_fillGain_99 rfl rfl (ck_getr 103 rfl dX10_fillGain_100 fl_X10_28 sh_51 rfl (ck_geti 106 rfl 1 dX10_fillGain_103 fl_X10_66 sh_3 rfl rfl _ rfl (fun (q21 : ck_i (w17 3 1)) => (ck_imul 107 rfl dX10_fillGain_106 (ck_iload 109 rfl dX10_fillGain_107 rfl (ck_iadd 110 rfl dX10_fillGain_109 (ck_iload 112 rfl dX10_fillGain_110 rfl (ck_if_eq 115 rfl 120 dX10_fillGain_112 rfl (by decide) (fun q => absurd q (by decide)) (fun _ => (ck_iload 117 rfl dX10_fillGain_115 rfl (ck_goto 121 dX10_fillGain_117 rfl (have h43 := h20; have o22 := h43.1; have h42 := h43.2; (ck_iast 122 rfl dX10_fillGain_121 sh_58 (shn_58 hC) o22 (ck_rng _) (have h45 := h42; have o23 := h45.1; have h44 := h45.2; (ck_iinc 125 rfl [some (.inr (.inr 51)), some (.inl a1), some (.inl a2), some (.inl a3), some (.inl a4), some (.inl a5), some (.inl (a6 + 1)), some (.inl 1), some (.inl (ck_shl v18 20))] dX10_fillGain_122 rfl (Nat.le_of_ble_eq_true rfl) rfl rfl o23 (ck_goto 45 dX10_fillGain_125 rfl (ck_drop [some (.inr (.inr 51)), some (.inl a1), some (.inl a2), some (.inl a3), some (.inl a4), some (.inl a5), some (.inl (a6 + 1)), none, none] (And.intro rfl (And.intro rfl (And.intro rfl (And.intro rfl (And.intro rfl (And.intro rfl (And.intro rfl True.intro))))))) h44)))))))))))))))))))))))))))))))))))))))))))))))))))))
theorem S_X10_fillGain {g : ch_G} {A R : Nat} (hC : ck_Cx g A R) {d : Nat} {K : Option ck_V → ck_W → Prop} {w : ck_W} {a1 : Int} (hD : cs_D A R w) (hT : cs_T w) (hY : cs_Y A R w) (h1 : 0 ≤ a1 ∧ a1 ≤ 5) (h : ∀ w', (∀ k, k ≠ 58 → w' k = w k) → cw_gn R (w 6 a1 * (A : Int)) (cw_g A R w a1) w' → K none w') : ck_Ex (ch_C g A R) (d + 2) mX10_fillGain [.inr (.inr 51), .inl a1] w K := by
  have c := cs_ar hC
  have tb := cs_tb hC hT h1
  have s := cw_sz hC
  generalize hP : w 6 a1 * (A : Int) = P at *
  have lo : ∀ (m : Nat) (a3 : Int) (u : ck_W), P - a3 = m → 0 ≤ a3 → (∀ k, k ≠ 58 → u k = w k) → (∀ p r, 0 ≤ p → p < a3 → 0 ≤ r → r < (R : Int) → u 58 (p * (R : Int) + r) = cw_g A R w a1 p r) → ck_At (ch_C g A R) (d + 2) mX10_fillGain K 11 [some (.inr (.inr 51)), some (.inl a1), some (.inl P), some (.inl a3), none, none, none, none, none] [] u := by
    intro m
    induction m with
    | zero =>
      intro a3 u g1 g2 g3 g4
      exact r_X10_fillGain_11 hC ⟨fun _ => h u g3 (fun p r p0 p1 r0 r1 => g4 p r p0 (by omega) r0 r1), fun q => absurd (by omega) q⟩
    | succ m ih =>
      intro a3 u g1 g2 g3 g4
      have li : ∀ (n : Nat) (a6 : Int) (v : ck_W), (R : Int) - a6 = n → 0 ≤ a6 → (∀ k, k ≠ 58 → v k = w k) → (∀ p r, 0 ≤ p → p < a3 → 0 ≤ r → r < (R : Int) → v 58 (p * (R : Int) + r) = cw_g A R w a1 p r) → (∀ r, 0 ≤ r → r < a6 → v 58 (a3 * (R : Int) + r) = cw_g A R w a1 a3 r) → ck_At (ch_C g A R) (d + 2) mX10_fillGain K 45 [some (.inr (.inr 51)), some (.inl a1), some (.inl P), some (.inl a3), some (.inl (w 7 (a1 * 24 + a3))), some (.inl (a3 % (A : Int))), some (.inl a6), none, none] [] v := by
        intro n
        induction n with
        | zero =>
          intro a6 v e1 e2 e3 e4 e5
          have x3 : v 3 1 = (R : Int) := by rw [e3 3 (by decide)]; exact hD.2
          refine r_X10_fillGain_45 hC ⟨fun _ => ⟨by constructor <;> omega, ih (a3 + 1) v (by omega) (by omega) e3 (fun p r p0 p1 r0 r1 => ?_)⟩, fun q => absurd (by omega) q⟩
          by_cases y : p = a3
          · rw [y]; exact e5 r r0 (by omega)
          · exact e4 p r p0 (by omega) r0 r1
        | succ n ih2 =>
          intro a6 v e1 e2 e3 e4 e5
          have x3 : v 3 1 = (R : Int) := by rw [e3 3 (by decide)]; exact hD.2
          have vD := cs_hD hD (e3 3 (by decide))
          have m0 := Int.emod_nonneg a3 (b := (A : Int)) (by omega)
          have m1 := Int.emod_lt_of_pos a3 (b := (A : Int)) (by omega)
          have okc : cs_ok A R a1 (a3 % (A : Int)) a6 := ⟨h1, ⟨m0, m1⟩, ⟨by omega, by omega⟩⟩
          have b := ix_b (x := a3) (c := a6) (N := (R : Int)) (X := 24) (by omega) (by omega)
          have ab := cs_atb hC okc
          have y := hY _ ab.1 ab.2.1
          have nx : ∀ val, val = cw_g A R w a1 a3 a6 → ck_At (ch_C g A R) (d + 2) mX10_fillGain K 45 [some (.inr (.inr 51)), some (.inl a1), some (.inl P), some (.inl a3), some (.inl (w 7 (a1 * 24 + a3))), some (.inl (a3 % (A : Int))), some (.inl (a6 + 1)), none, none] [] (ck_up v 58 (a3 * (R : Int) + a6) val) := by
            intro val ev
            refine ih2 (a6 + 1) _ (by omega) (by omega) (fun k hk => by rw [ck_up_ne hk]; exact e3 k hk) (fun p r p0 p1 r0 r1 => ?_) (fun r r0 r1 => ?_)
            · rw [ck_up_nj (fun z => by have := ix_inj (N := (R : Int)) ⟨r0, r1⟩ ⟨e2, by omega⟩ z; omega)]
              exact e4 p r p0 p1 r0 r1
            · by_cases z : r = a6
              · rw [z, ck_up_eq]; exact ev
              · rw [ck_up_nj (by omega)]; exact e5 r r0 (by omega)
          have eg : v 4 (cs_at A R a1 (a3 % (A : Int)) a6) = w 4 (cs_at A R a1 (a3 % (A : Int)) a6) := by rw [e3 4 (by decide)]
          have sl := kx_shl (x := w 4 (cs_at A R a1 (a3 % (A : Int)) a6)) (by omega)
          refine r_X10_fillGain_45 hC ⟨fun q => absurd q (by omega), fun q => ⟨fun z => ?_, fun z => ⟨fun z2 => ?_, fun z2 => ?_⟩⟩⟩
          · refine p_X5_greyAt hC vD (fun _ => ⟨_, rfl, fun _ => ?_⟩) (fun no => absurd okc no)
            dsimp only
            rw [x3, eg, sl]
            exact ⟨by rw [s.2.1]; omega, by constructor <;> omega, nx _ (by unfold cw_g; rw [if_pos z])⟩
          · refine p_X5_greyAt hC vD (fun _ => ⟨_, rfl, fun _ => ?_⟩) (fun no => absurd okc no)
            dsimp only
            rw [x3]
            exact ⟨by rw [s.2.1]; omega, by constructor <;> omega, nx _ (by unfold cw_g; rw [if_neg z, if_neg z2])⟩
          · refine p_X5_greyAt hC vD (fun _ => ⟨_, rfl, fun _ => ?_⟩) (fun no => absurd okc no)
            dsimp only
            rw [x3, eg, sl]
            exact ⟨by rw [s.2.1]; omega, by constructor <;> omega, nx _ (by unfold cw_g; rw [if_neg z, if_pos z2])⟩
      have e7 : u 7 (a1 * 24 + a3) = w 7 (a1 * 24 + a3) := by rw [g3 7 (by decide)]
      refine r_X10_fillGain_11 hC ⟨fun q => absurd q (by omega), fun q => ⟨by omega, p_X5_angleOf hC (cs_hD hD (g3 3 (by decide))) (by omega) ⟨_, rfl, fun _ => ?_⟩⟩⟩
      rw [e7]
      exact li R 0 u (by omega) (by omega) g3 g4 (fun r r0 r1 => by omega)
  refine e_X10_fillGain hC (p_X5_places hC hD hT (fun _ => ⟨_, rfl, fun _ => ?_⟩) (fun no => absurd h1 no))
  rw [hP]
  exact lo P.toNat 0 w (by omega) (by omega) (fun _ _ => rfl) (fun p r p0 p1 r0 r1 => by omega)
/-- ahead holds nothing at codes that no place can follow -/
def cw_dead (A R : Nat) (w : ck_W) : Prop := ∀ l r c, 1 ≤ l → 0 ≤ r → r < (R : Int) → 0 ≤ c → c < cw_N A → cw_sh A c (A - 1) < 0 → w 57 ((l * (R : Int) + r) * cw_N A + c) = 0
theorem dX10_fillAhead_0 : decode cX10_fillAhead 0 = .ok (.aload_n 0, 1) := dk_42 (by decide +kernel)
theorem dX10_fillAhead_1 : decode cX10_fillAhead 1 = .ok (.getfield 28, 3) := dk_180 0 28 (by decide +kernel)
theorem dX10_fillAhead_4 : decode cX10_fillAhead 4 = .ok (.iload_n 1, 1) := dk_27 (by decide +kernel)
theorem dX10_fillAhead_5 : decode cX10_fillAhead 5 = .ok (.invokevirtual 86, 3) := dk_182 0 86 (by decide +kernel)
theorem dX10_fillAhead_8 : decode cX10_fillAhead 8 = .ok (.iload_n 2, 1) := dk_28 (by decide +kernel)
theorem dX10_fillAhead_9 : decode cX10_fillAhead 9 = .ok (.isub, 1) := dk_100 (by decide +kernel)
theorem dX10_fillAhead_10 : decode cX10_fillAhead 10 = .ok (.istore_n 3, 1) := dk_62 (by decide +kernel)
theorem dX10_fillAhead_11 : decode cX10_fillAhead 11 = .ok (.iload_n 3, 1) := dk_29 (by decide +kernel)
theorem dX10_fillAhead_12 : decode cX10_fillAhead 12 = .ok (.aload_n 0, 1) := dk_42 (by decide +kernel)
theorem dX10_fillAhead_13 : decode cX10_fillAhead 13 = .ok (.getfield 28, 3) := dk_180 0 28 (by decide +kernel)
theorem dX10_fillAhead_16 : decode cX10_fillAhead 16 = .ok (.getfield 32, 3) := dk_180 0 32 (by decide +kernel)
theorem dX10_fillAhead_19 : decode cX10_fillAhead 19 = .ok (.isub, 1) := dk_100 (by decide +kernel)
theorem dX10_fillAhead_20 : decode cX10_fillAhead 20 = .ok (.istore 4, 2) := dk_54 (by decide +kernel)
theorem dX10_fillAhead_22 : decode cX10_fillAhead 22 = .ok (.aload_n 0, 1) := dk_42 (by decide +kernel)
theorem dX10_fillAhead_23 : decode cX10_fillAhead 23 = .ok (.iload_n 1, 1) := dk_27 (by decide +kernel)
theorem dX10_fillAhead_24 : decode cX10_fillAhead 24 = .ok (.iload 4, 2) := dk_21 (by decide +kernel)
theorem dX10_fillAhead_26 : decode cX10_fillAhead 26 = .ok (.iconst 1, 1) := dk_4 (by decide +kernel)
theorem dX10_fillAhead_27 : decode cX10_fillAhead 27 = .ok (.iadd, 1) := dk_96 (by decide +kernel)
theorem dX10_fillAhead_28 : decode cX10_fillAhead 28 = .ok (.invokevirtual 128, 3) := dk_182 0 128 (by decide +kernel)
theorem dX10_fillAhead_31 : decode cX10_fillAhead 31 = .ok (.aload_n 0, 1) := dk_42 (by decide +kernel)
theorem dX10_fillAhead_32 : decode cX10_fillAhead 32 = .ok (.iload_n 1, 1) := dk_27 (by decide +kernel)
theorem dX10_fillAhead_33 : decode cX10_fillAhead 33 = .ok (.iload 4, 2) := dk_21 (by decide +kernel)
theorem dX10_fillAhead_35 : decode cX10_fillAhead 35 = .ok (.invokevirtual 131, 3) := dk_182 0 131 (by decide +kernel)
theorem dX10_fillAhead_38 : decode cX10_fillAhead 38 = .ok (.istore 5, 2) := dk_54 (by decide +kernel)
theorem dX10_fillAhead_40 : decode cX10_fillAhead 40 = .ok (.aload_n 0, 1) := dk_42 (by decide +kernel)
theorem dX10_fillAhead_41 : decode cX10_fillAhead 41 = .ok (.iload 4, 2) := dk_21 (by decide +kernel)
theorem dX10_fillAhead_43 : decode cX10_fillAhead 43 = .ok (.invokevirtual 134, 3) := dk_182 0 134 (by decide +kernel)
theorem dX10_fillAhead_46 : decode cX10_fillAhead 46 = .ok (.istore 6, 2) := dk_54 (by decide +kernel)
theorem dX10_fillAhead_48 : decode cX10_fillAhead 48 = .ok (.iload 6, 2) := dk_21 (by decide +kernel)
theorem dX10_fillAhead_50 : decode cX10_fillAhead 50 = .ok (.iload 5, 2) := dk_21 (by decide +kernel)
theorem dX10_fillAhead_52 : decode cX10_fillAhead 52 = .ok (.if_icmp .gt 76, 3) := dk_163 0 76 (by decide +kernel)
theorem dX10_fillAhead_55 : decode cX10_fillAhead 55 = .ok (.iload_n 2, 1) := dk_28 (by decide +kernel)
theorem dX10_fillAhead_56 : decode cX10_fillAhead 56 = .ok (.aload_n 0, 1) := dk_42 (by decide +kernel)
theorem dX10_fillAhead_57 : decode cX10_fillAhead 57 = .ok (.getfield 28, 3) := dk_180 0 28 (by decide +kernel)
theorem dX10_fillAhead_60 : decode cX10_fillAhead 60 = .ok (.getfield 66, 3) := dk_180 0 66 (by decide +kernel)
theorem dX10_fillAhead_63 : decode cX10_fillAhead 63 = .ok (.imul, 1) := dk_104 (by decide +kernel)
theorem dX10_fillAhead_64 : decode cX10_fillAhead 64 = .ok (.iload 6, 2) := dk_21 (by decide +kernel)
theorem dX10_fillAhead_66 : decode cX10_fillAhead 66 = .ok (.iadd, 1) := dk_96 (by decide +kernel)
theorem dX10_fillAhead_67 : decode cX10_fillAhead 67 = .ok (.aload_n 0, 1) := dk_42 (by decide +kernel)
theorem dX10_fillAhead_68 : decode cX10_fillAhead 68 = .ok (.getfield 48, 3) := dk_180 0 48 (by decide +kernel)
theorem dX10_fillAhead_71 : decode cX10_fillAhead 71 = .ok (.imul, 1) := dk_104 (by decide +kernel)
theorem dX10_fillAhead_72 : decode cX10_fillAhead 72 = .ok (.istore 7, 2) := dk_54 (by decide +kernel)
theorem dX10_fillAhead_74 : decode cX10_fillAhead 74 = .ok (.iconst 0, 1) := dk_3 (by decide +kernel)
theorem dX10_fillAhead_75 : decode cX10_fillAhead 75 = .ok (.istore 8, 2) := dk_54 (by decide +kernel)
theorem dX10_fillAhead_77 : decode cX10_fillAhead 77 = .ok (.iload 8, 2) := dk_21 (by decide +kernel)
theorem dX10_fillAhead_79 : decode cX10_fillAhead 79 = .ok (.aload_n 0, 1) := dk_42 (by decide +kernel)
theorem dX10_fillAhead_80 : decode cX10_fillAhead 80 = .ok (.getfield 79, 3) := dk_180 0 79 (by decide +kernel)
theorem dX10_fillAhead_83 : decode cX10_fillAhead 83 = .ok (.if_icmp .ge 39, 3) := dk_162 0 39 (by decide +kernel)
theorem dX10_fillAhead_86 : decode cX10_fillAhead 86 = .ok (.aload_n 0, 1) := dk_42 (by decide +kernel)
theorem dX10_fillAhead_87 : decode cX10_fillAhead 87 = .ok (.getfield 72, 3) := dk_180 0 72 (by decide +kernel)
theorem dX10_fillAhead_90 : decode cX10_fillAhead 90 = .ok (.iload 7, 2) := dk_21 (by decide +kernel)
theorem dX10_fillAhead_92 : decode cX10_fillAhead 92 = .ok (.aload_n 0, 1) := dk_42 (by decide +kernel)
theorem dX10_fillAhead_93 : decode cX10_fillAhead 93 = .ok (.getfield 63, 3) := dk_180 0 63 (by decide +kernel)
theorem dX10_fillAhead_96 : decode cX10_fillAhead 96 = .ok (.iload 8, 2) := dk_21 (by decide +kernel)
theorem dX10_fillAhead_98 : decode cX10_fillAhead 98 = .ok (.iaload, 1) := dk_46 (by decide +kernel)
theorem dX10_fillAhead_99 : decode cX10_fillAhead 99 = .ok (.iadd, 1) := dk_96 (by decide +kernel)
theorem dX10_fillAhead_100 : decode cX10_fillAhead 100 = .ok (.aload_n 0, 1) := dk_42 (by decide +kernel)
theorem dX10_fillAhead_101 : decode cX10_fillAhead 101 = .ok (.iload_n 2, 1) := dk_28 (by decide +kernel)
theorem dX10_fillAhead_102 : decode cX10_fillAhead 102 = .ok (.iload_n 3, 1) := dk_29 (by decide +kernel)
theorem dX10_fillAhead_103 : decode cX10_fillAhead 103 = .ok (.iload 6, 2) := dk_21 (by decide +kernel)
theorem dX10_fillAhead_105 : decode cX10_fillAhead 105 = .ok (.aload_n 0, 1) := dk_42 (by decide +kernel)
theorem dX10_fillAhead_106 : decode cX10_fillAhead 106 = .ok (.getfield 63, 3) := dk_180 0 63 (by decide +kernel)
theorem dX10_fillAhead_109 : decode cX10_fillAhead 109 = .ok (.iload 8, 2) := dk_21 (by decide +kernel)
theorem dX10_fillAhead_111 : decode cX10_fillAhead 111 = .ok (.iaload, 1) := dk_46 (by decide +kernel)
theorem dX10_fillAhead_112 : decode cX10_fillAhead 112 = .ok (.invokevirtual 137, 3) := dk_182 0 137 (by decide +kernel)
theorem dX10_fillAhead_115 : decode cX10_fillAhead 115 = .ok (.iastore, 1) := dk_79 (by decide +kernel)
theorem dX10_fillAhead_116 : decode cX10_fillAhead 116 = .ok (.iinc 8 1, 3) := dk_132 1 (by decide +kernel)
theorem dX10_fillAhead_119 : decode cX10_fillAhead 119 = .ok (.goto (-42), 3) := dk_167 255 214 (by decide +kernel)
theorem dX10_fillAhead_122 : decode cX10_fillAhead 122 = .ok (.iinc 6 1, 3) := dk_132 1 (by decide +kernel)
theorem dX10_fillAhead_125 : decode cX10_fillAhead 125 = .ok (.goto (-77), 3) := dk_167 255 179 (by decide +kernel)
theorem dX10_fillAhead_128 : decode cX10_fillAhead 128 = .ok (.return_, 1) := dk_177 (by decide +kernel)
set_option maxRecDepth 8000 in
theorem e_X10_fillAhead {g : ch_G} {A R : Nat} (hC : ck_Cx g A R) {d : Nat} {K : Option ck_V → ck_W → Prop} {w : ck_W} {a1 a2 : Int} (h : ck_CI (ch_C g A R) d mX5_places [.inr (.inr 3), .inl a1] w (fun v2 w1 => ck_i (v2 - a2) ∧ (ck_i ((v2 - a2) - (w1 3 0)) ∧ (ck_i (((v2 - a2) - (w1 3 0)) + 1) ∧ (ck_CN (ch_C g A R) d mX10_boundFirst [.inr (.inr 51), .inl a1, .inl (((v2 - a2) - (w1 3 0)) + 1)] w1 (fun w9 => ck_CI (ch_C g A R) d mX10_highAt [.inr (.inr 51), .inl a1, .inl ((v2 - a2) - (w1 3 0))] w9 (fun v11 w10 => ck_CI (ch_C g A R) d mX10_lowAt [.inr (.inr 51), .inl ((v2 - a2) - (w1 3 0))] w10 (fun v15 w14 => ck_At (ch_C g A R) (d + 1) mX10_fillAhead K 48 [some (.inr (.inr 51)), none, some (.inl a2), some (.inl (v2 - a2)), none, some (.inl v11), some (.inl v15), none, none] [] w14)))))))) : ck_Ex (ch_C g A R) (d + 1) mX10_fillAhead [.inr (.inr 51), .inl a1, .inl a2] w K :=
  ck_entry hC.1 [some (.inr (.inr 51)), some (.inl a1), some (.inl a2), none, none, none, none, none, none] (by decide) (Nat.le_of_ble_eq_true rfl) rfl (fun q => q) (ck_in (fun hl => (ck_aload_n 1 rfl 0 dX10_fillAhead_0 rfl rfl (ck_getr 4 rfl dX10_fillAhead_1 fl_X10_28 sh_51 rfl (ck_iload_n 5 rfl 1 dX10_fillAhead_4 rfl rfl (ck_callV 8 rfl [.inl a1] [] dX10_fillAhead_5 cv_X10_86 sh_3 rfl rfl (Nat.le_of_ble_eq_true rfl) (And.intro hl.2.1 True.intro) (ck_mI h (fun v2 w1 q3 h4 => (ck_iload_n 9 rfl 2 dX10_fillAhead_8 rfl rfl (ck_isub 10 rfl dX10_fillAhead_9 (have h20 := h4; have o5 := h20.1; have h19 := h20.2; (ck_istore_n 11 rfl 3 [some (.inr (.inr 51)), some (.inl a1), some (.inl a2), some (.inl (v2 - a2)), none, none, none, none, none] dX10_fillAhead_10 rfl (Nat.le_of_ble_eq_true rfl) rfl rfl o5 (ck_iload_n 12 rfl 3 dX10_fillAhead_11 rfl rfl (ck_aload_n 13 rfl 0 dX10_fillAhead_12 rfl rfl (ck_getr 16 rfl dX10_fillAhead_13 fl_X10_28 sh_51 rfl (ck_geti 19 rfl 0 dX10_fillAhead_16 fl_X10_32 sh_3 rfl rfl _ rfl (fun (q6 : ck_i (w1 3 0)) => (ck_isub 20 rfl dX10_fillAhead_19 (have h22 := h19; have o7 := h22.1; have h21 := h22.2; (ck_istore 22 rfl [some (.inr (.inr 51)), some (.inl a1), some (.inl a2), some (.inl (v2 - a2)), some (.inl ((v2 - a2) - (w1 3 0))), none, none, none, none] dX10_fillAhead_20 (Nat.le_of_ble_eq_true rfl) rfl rfl o7 (ck_aload_n 23 rfl 0 dX10_fillAhead_22 rfl rfl (ck_iload_n 24 rfl 1 dX10_fillAhead_23 rfl rfl (ck_iload 26 rfl dX10_fillAhead_24 rfl (ck_iconst 27 rfl dX10_fillAhead_26 rfl (ck_iadd 28 rfl dX10_fillAhead_27 (have h24 := h21; have o8 := h24.1; have h23 := h24.2; (ck_callV 31 rfl [.inl a1, .inl (((v2 - a2) - (w1 3 0)) + 1)] [] dX10_fillAhead_28 cv_X10_128 sh_51 rfl rfl (Nat.le_of_ble_eq_true rfl) (And.intro hl.2.1 (And.intro o8 True.intro)) (ck_mN h23 (fun w9 h18 => (ck_aload_n 32 rfl 0 dX10_fillAhead_31 rfl rfl (ck_iload_n 33 rfl 1 dX10_fillAhead_32 rfl rfl (ck_iload 35 rfl dX10_fillAhead_33 rfl (ck_callV 38 rfl [.inl a1, .inl ((v2 - a2) - (w1 3 0))] [] dX10_fillAhead_35 cv_X10_131 sh_51 rfl rfl (Nat.le_of_ble_eq_true rfl) (And.intro hl.2.1 (And.intro o7 True.intro)) (ck_mI h18 (fun v11 w10 q12 h13 => (ck_istore 40 rfl [some (.inr (.inr 51)), some (.inl a1), some (.inl a2), some (.inl (v2 - a2)), some (.inl ((v2 - a2) - (w1 3 0))), some (.inl v11), none, none, none] dX10_fillAhead_38 (Nat.le_of_ble_eq_true rfl) rfl rfl q12 (ck_aload_n 41 rfl 0 dX10_fillAhead_40 rfl rfl (ck_iload 43 rfl dX10_fillAhead_41 rfl (ck_callV 46 rfl [.inl ((v2 - a2) - (w1 3 0))] [] dX10_fillAhead_43 cv_X10_134 sh_51 rfl rfl (Nat.le_of_ble_eq_true rfl) (And.intro o7 True.intro) (ck_mI h13 (fun v15 w14 q16 h17 => (ck_istore 48 rfl [some (.inr (.inr 51)), some (.inl a1), some (.inl a2), some (.inl (v2 - a2)), some (.inl ((v2 - a2) - (w1 3 0))), some (.inl v11), some (.inl v15), none, none] dX10_fillAhead_46 (Nat.le_of_ble_eq_true rfl) rfl rfl q16 (ck_drop [some (.inr (.inr 51)), none, some (.inl a2), some (.inl (v2 - a2)), none, some (.inl v11), some (.inl v15), none, none] (And.intro rfl (And.intro rfl (And.intro rfl (And.intro rfl (And.intro rfl True.intro))))) h17)))))))))))))))))))))))))))))))))))))))))))
set_option maxRecDepth 8000 in
theorem r_X10_fillAhead_48 {g : ch_G} {A R : Nat} (hC : ck_Cx g A R) {d : Nat} {K : Option ck_V → ck_W → Prop} {w : ck_W} {a2 a3 a5 a6 : Int} (h : (a5 < a6 → K none w) ∧ (¬ a5 < a6 → ∀ x3, x3 = ((a2 * (w 3 1)) + a6) * (w 51 1) → ck_i x3 ∧ (ck_At (ch_C g A R) (d + 1) mX10_fillAhead K 77 [some (.inr (.inr 51)), none, some (.inl a2), some (.inl a3), none, some (.inl a5), some (.inl a6), some (.inl x3), some (.inl 0)] [] w))) : ck_At (ch_C g A R) (d + 1) mX10_fillAhead K 48 [some (.inr (.inr 51)), none, some (.inl a2), some (.inl a3), none, some (.inl a5), some (.inl a6), none, none] [] w :=
  ck_in (fun hl => (ck_iload 50 rfl dX10_fillAhead_48 rfl (ck_iload 52 rfl dX10_fillAhead_50 rfl (ck_icmp_gt 55 rfl 128 dX10_fillAhead_52 rfl hl.2.2.2.2.1 hl.2.2.2.1 (fun c6 => (ck_vret dX10_fillAhead_128 rfl (h.1 c6))) (fun c7 => (ck_iload_n 56 rfl 2 dX10_fillAhead_55 rfl rfl (ck_aload_n 57 rfl 0 dX10_fillAhead_56 rfl rfl (ck_getr 60 rfl dX10_fillAhead_57 fl_X10_28 sh_51 rfl (ck_geti 63 rfl 1 dX10_fillAhead_60 fl_X10_66 sh_3 rfl rfl _ rfl (fun (q1 : ck_i (w 3 1)) => (ck_imul 64 rfl dX10_fillAhead_63 (ck_iload 66 rfl dX10_fillAhead_64 rfl (ck_iadd 67 rfl dX10_fillAhead_66 (ck_aload_n 68 rfl 0 dX10_fillAhead_67 rfl rfl (ck_geti 71 rfl 1 dX10_fillAhead_68 fl_X10_48 sh_51 rfl rfl _ rfl (fun (q2 : ck_i (w 51 1)) => (ck_imul 72 rfl dX10_fillAhead_71 (ck_nmi (fun x3 e4 => (have h9 := ((h.2 c7) x3 e4); have o5 := h9.1; have h8 := h9.2; (ck_istore 74 rfl [some (.inr (.inr 51)), none, some (.inl a2), some (.inl a3), none, some (.inl a5), some (.inl a6), some (.inl x3), none] dX10_fillAhead_72 (Nat.le_of_ble_eq_true rfl) rfl rfl o5 (ck_iconst 75 rfl dX10_fillAhead_74 rfl (ck_istore 77 rfl [some (.inr (.inr 51)), none, some (.inl a2), some (.inl a3), none, some (.inl a5), some (.inl a6), some (.inl x3), some (.inl 0)] dX10_fillAhead_75 (Nat.le_of_ble_eq_true rfl) rfl rfl (show ck_i 0 by decide) h8)))))))))))))))))))))))
set_option maxRecDepth 8000 in
theorem r_X10_fillAhead_77 {g : ch_G} {A R : Nat} (hC : ck_Cx g A R) {d : Nat} {K : Option ck_V → ck_W → Prop} {w : ck_W} {a2 a3 a5 a6 a7 a8 : Int} (h : ((w 51 7) ≤ a8 → ck_i (a6 + 1) ∧ (ck_At (ch_C g A R) (d + 1) mX10_fillAhead K 48 [some (.inr (.inr 51)), none, some (.inl a2), some (.inl a3), none, some (.inl a5), some (.inl (a6 + 1)), none, none] [] w)) ∧ (¬ (w 51 7) ≤ a8 → (0 ≤ a8 ∧ a8 < ((3 ^ (A - 1) : Nat) : Int)) ∧ (ck_CI (ch_C g A R) d mX10_bestOnward [.inr (.inr 51), .inl a2, .inl a3, .inl a6, .inl (w 56 a8)] w (fun v7 w6 => (0 ≤ (a7 + (w 56 a8)) ∧ (a7 + (w 56 a8)) < (((3 * A + 1) * R * 3 ^ (A - 1) : Nat) : Int)) ∧ (ck_i (a8 + 1) ∧ (ck_At (ch_C g A R) (d + 1) mX10_fillAhead K 77 [some (.inr (.inr 51)), none, some (.inl a2), some (.inl a3), none, some (.inl a5), some (.inl a6), some (.inl a7), some (.inl (a8 + 1))] [] (ck_up w6 57 (a7 + (w 56 a8)) v7))))))) : ck_At (ch_C g A R) (d + 1) mX10_fillAhead K 77 [some (.inr (.inr 51)), none, some (.inl a2), some (.inl a3), none, some (.inl a5), some (.inl a6), some (.inl a7), some (.inl a8)] [] w :=
  ck_in (fun hl => (ck_iload 79 rfl dX10_fillAhead_77 rfl (ck_aload_n 80 rfl 0 dX10_fillAhead_79 rfl rfl (ck_geti 83 rfl 7 dX10_fillAhead_80 fl_X10_79 sh_51 rfl rfl _ rfl (fun (q1 : ck_i (w 51 7)) => (ck_icmp_ge 86 rfl 122 dX10_fillAhead_83 rfl hl.2.2.2.2.2.2.1 q1 (fun c12 => (have h15 := (h.1 c12); have o2 := h15.1; have h14 := h15.2; (ck_iinc 125 rfl [some (.inr (.inr 51)), none, some (.inl a2), some (.inl a3), none, some (.inl a5), some (.inl (a6 + 1)), some (.inl a7), some (.inl a8)] dX10_fillAhead_122 rfl (Nat.le_of_ble_eq_true rfl) rfl rfl o2 (ck_goto 48 dX10_fillAhead_125 rfl (ck_drop [some (.inr (.inr 51)), none, some (.inl a2), some (.inl a3), none, some (.inl a5), some (.inl (a6 + 1)), none, none] (And.intro rfl (And.intro rfl (And.intro rfl (And.intro rfl (And.intro rfl True.intro))))) h14))))) (fun c13 => (ck_aload_n 87 rfl 0 dX10_fillAhead_86 rfl rfl (ck_getr 90 rfl dX10_fillAhead_87 fl_X10_72 sh_51 rfl (ck_iload 92 rfl dX10_fillAhead_90 rfl (ck_aload_n 93 rfl 0 dX10_fillAhead_92 rfl rfl (ck_getr 96 rfl dX10_fillAhead_93 fl_X10_63 sh_51 rfl (ck_iload 98 rfl dX10_fillAhead_96 rfl (have h17 := (h.2 c13); have o3 := h17.1; have h16 := h17.2; (ck_iald 99 rfl dX10_fillAhead_98 sh_56 (shn_56 hC) o3 _ rfl (fun (q4 : ck_i (w 56 a8)) => (ck_iadd 100 rfl dX10_fillAhead_99 (ck_aload_n 101 rfl 0 dX10_fillAhead_100 rfl rfl (ck_iload_n 102 rfl 2 dX10_fillAhead_101 rfl rfl (ck_iload_n 103 rfl 3 dX10_fillAhead_102 rfl rfl (ck_iload 105 rfl dX10_fillAhead_103 rfl (ck_aload_n 106 rfl 0 dX10_fillAhead_105 rfl rfl (ck_getr 109 rfl dX10_fillAhead_106 fl_X10_63 sh_51 rfl (ck_iload 111 rfl dX10_fillAhead_109 rfl (ck_iald 112 rfl dX10_fillAhead_111 sh_56 (shn_56 hC) o3 _ rfl (fun (q5 : ck_i (w 56 a8)) => (ck_callV 115 rfl [.inl a2, .inl a3, .inl a6, .inl (w 56 a8)] [.inl (a7 + (w 56 a8)), .inr (.inr 57)] dX10_fillAhead_112 cv_X10_137 sh_51 rfl rfl (Nat.le_of_ble_eq_true rfl) (And.intro hl.2.1 (And.intro hl.2.2.1 (And.intro hl.2.2.2.2.1 (And.intro q5 True.intro)))) (ck_mI h16 (fun v7 w6 q8 h9 => (have h19 := h9; have o10 := h19.1; have h18 := h19.2; (ck_iast 116 rfl dX10_fillAhead_115 sh_57 (shn_57 hC) o10 q8 (have h21 := h18; have o11 := h21.1; have h20 := h21.2; (ck_iinc 119 rfl [some (.inr (.inr 51)), none, some (.inl a2), some (.inl a3), none, some (.inl a5), some (.inl a6), some (.inl a7), some (.inl (a8 + 1))] dX10_fillAhead_116 rfl (Nat.le_of_ble_eq_true rfl) rfl rfl o11 (ck_goto 77 dX10_fillAhead_119 rfl h20))))))))))))))))))))))))))))))))))
theorem S_X10_fillAhead {g : ch_G} {A R : Nat} (hC : ck_Cx g A R) {d : Nat} {K : Option ck_V → ck_W → Prop} {w : ck_W} {a1 k : Int} {G : Int → Int → Int} (l : Nat) (hD : cs_D A R w) (hT : cs_T w) (hW : cw_tab A w) (hG : cw_Gv R G) (hk : w 6 a1 = k) (h1 : 0 ≤ a1 ∧ a1 ≤ 5) (hg : cw_gn R (k * (A : Int)) G w) (hl : ((l + 1 : Nat) : Int) ≤ k * (A : Int) - (A : Int)) (hr : ∀ l', l' ≤ l → cw_row A R k G w l') (hd : cw_dead A R w) (h : ∀ w', (∀ j, j ≠ 51 → j ≠ 57 → w' j = w j) → (∀ j, j ≠ 10 → j ≠ 11 → w' 51 j = w 51 j) → (∀ l', l' ≤ l + 1 → cw_row A R k G w' l') → cw_dead A R w' → (∀ j, j < (R : Int) * cw_N A → w' 57 j = w 57 j) → K none w') : ck_Ex (ch_C g A R) (d + 4) mX10_fillAhead [.inr (.inr 51), .inl a1, .inl ((l + 1 : Nat) : Int)] w K := by
  have c := cs_ar hC
  have n := cw_NA hC
  have tk := hT a1 h1.1 h1.2
  rw [hk] at tk
  have kA : k * (A : Int) ≤ 4 * (A : Int) := Int.mul_le_mul_of_nonneg_right tk.2 (by omega)
  have lb := cw_lob (A := A) (K := k) (l := (l : Int)) (by omega) (by omega) (by omega)
  have lb1 := cw_lob (A := A) (K := k) (l := ((l + 1 : Nat) : Int)) (by omega) (by omega) hl
  have key : ∀ (u : ck_W), (∀ j, j ≠ 51 → j ≠ 57 → u j = w j) → (∀ j, j ≠ 10 → j ≠ 11 → u 51 j = w 51 j) → u 51 10 = cw_lo A k l → u 51 11 = (R : Int) - k + cw_lo A k l → cs_D A R u ∧ cw_tab A u ∧ cw_gn R (k * (A : Int)) G u := by
    intro u g1 g2 _ _
    refine ⟨cs_hD hD (g1 3 (by decide) (by decide)), cw_tab_fr hW (g2 1 (by decide) (by decide)) (g2 7 (by decide) (by decide)) (fun j a b => g1 j (by omega) (by omega)), ?_⟩
    unfold cw_gn
    rw [g1 58 (by decide) (by decide)]
    exact hg
  -- radii
  have lo : ∀ (m : Nat) (a6 : Int) (u : ck_W), (R : Int) - k + cw_lo A k ((l + 1 : Nat) : Int) + 1 - a6 = m → cw_lo A k ((l + 1 : Nat) : Int) ≤ a6 → (∀ j, j ≠ 51 → j ≠ 57 → u j = w j) → (∀ j, j ≠ 10 → j ≠ 11 → u 51 j = w 51 j) → u 51 10 = cw_lo A k l → u 51 11 = (R : Int) - k + cw_lo A k l → (∀ l', l' ≤ l → cw_row A R k G u l') → cw_dead A R u → (∀ r c, cw_lo A k ((l + 1 : Nat) : Int) ≤ r → r < a6 → 0 ≤ c → c < cw_N A → u 57 ((((l + 1 : Nat) : Int) * (R : Int) + r) * cw_N A + c) = cw_A A R k G (l + 1) r c) → (∀ j, j < (R : Int) * cw_N A → u 57 j = w 57 j) → ck_At (ch_C g A R) (d + 4) mX10_fillAhead K 48 [some (.inr (.inr 51)), none, some (.inl ((l + 1 : Nat) : Int)), some (.inl (k * (A : Int) - ((l + 1 : Nat) : Int))), none, some (.inl ((R : Int) - k + cw_lo A k ((l + 1 : Nat) : Int))), some (.inl a6), none, none] [] u := by
    intro m
    have fin : ∀ (a6 : Int) (u : ck_W), (R : Int) - k + cw_lo A k ((l + 1 : Nat) : Int) < a6 → (∀ j, j ≠ 51 → j ≠ 57 → u j = w j) → (∀ j, j ≠ 10 → j ≠ 11 → u 51 j = w 51 j) → (∀ l', l' ≤ l → cw_row A R k G u l') → cw_dead A R u → (∀ r c, cw_lo A k ((l + 1 : Nat) : Int) ≤ r → r < a6 → 0 ≤ c → c < cw_N A → u 57 ((((l + 1 : Nat) : Int) * (R : Int) + r) * cw_N A + c) = cw_A A R k G (l + 1) r c) → (∀ j, j < (R : Int) * cw_N A → u 57 j = w 57 j) → K none u := by
      intro a6 u g1 g3 g4 g7 g8 g9 g10
      refine h u g3 g4 (fun l' hl' => ?_) g8 g10
      by_cases z : l' = l + 1
      · subst z
        exact fun r c r0 r1 c0 c1 => g9 r c r0 (by omega) c0 c1
      · exact g7 l' (by omega)
    induction m with
    | zero =>
      intro a6 u g1 g2 g3 g4 g5 g6 g7 g8 g9 g10
      exact r_X10_fillAhead_48 hC ⟨fun _ => fin a6 u (by omega) g3 g4 g7 g8 g9 g10, fun q => absurd (by omega) q⟩
    | succ m ih =>
      intro a6 u g1 g2 g3 g4 g5 g6 g7 g8 g9 g10
      have kk := key u g3 g4 g5 g6
      have ib := cw_ixb hC (l := ((l + 1 : Nat) : Int)) (r := a6) (c := 0) (by omega) (by omega) (by omega)
      refine r_X10_fillAhead_48 hC ⟨fun q => absurd q (by omega), fun q x3 e3 => ?_⟩
      rw [kk.1.2, kk.2.1.1] at e3
      refine ⟨by constructor <;> omega, ?_⟩
      have l7 : u 51 7 = w 51 7 := g4 7 (by decide) (by decide)
      have li : ∀ (n2 : Nat) (a8 : Int) (v : ck_W), w 51 7 - a8 = n2 → 0 ≤ a8 → (∀ j, j ≠ 51 → j ≠ 57 → v j = w j) → (∀ j, j ≠ 10 → j ≠ 11 → v 51 j = w 51 j) → v 51 10 = cw_lo A k l → v 51 11 = (R : Int) - k + cw_lo A k l → (∀ l', l' ≤ l → cw_row A R k G v l') → cw_dead A R v → (∀ r c, cw_lo A k ((l + 1 : Nat) : Int) ≤ r → r < a6 → 0 ≤ c → c < cw_N A → v 57 ((((l + 1 : Nat) : Int) * (R : Int) + r) * cw_N A + c) = cw_A A R k G (l + 1) r c) → (∀ i, 0 ≤ i → i < a8 → v 57 ((((l + 1 : Nat) : Int) * (R : Int) + a6) * cw_N A + w 56 i) = cw_A A R k G (l + 1) a6 (w 56 i)) → (∀ j, j < (R : Int) * cw_N A → v 57 j = w 57 j) → ck_At (ch_C g A R) (d + 4) mX10_fillAhead K 77 [some (.inr (.inr 51)), none, some (.inl ((l + 1 : Nat) : Int)), some (.inl (k * (A : Int) - ((l + 1 : Nat) : Int))), none, some (.inl ((R : Int) - k + cw_lo A k ((l + 1 : Nat) : Int))), some (.inl a6), some (.inl x3), some (.inl a8)] [] v := by
        intro n2
        induction n2 with
        | zero =>
          intro a8 v e1 e2 f3 f4 f5 f6 f7 f8 f9 f10 f11
          have v7 : v 51 7 = w 51 7 := f4 7 (by decide) (by decide)
          refine r_X10_fillAhead_77 hC ⟨fun _ => ⟨by constructor <;> omega, ih (a6 + 1) v (by omega) (by omega) f3 f4 f5 f6 f7 f8 (fun r c r0 r1 c0 c1 => ?_) f11⟩, fun q => absurd (by omega) q⟩
          by_cases y : r = a6
          · rw [y]
            by_cases li : 0 ≤ cw_sh A c (A - 1)
            · obtain ⟨i, i1, i2⟩ := hW.2.2.2.2 c c0 c1 li
              rw [← i2]
              exact f10 i i1.1 (by omega)
            · rw [f8 _ a6 c (by omega) (by omega) (by omega) c0 c1 (by omega), cw_A_dead (by omega)]
          · exact f9 r c r0 (by omega) c0 c1
        | succ n2 ih2 =>
          intro a8 v e1 e2 f3 f4 f5 f6 f7 f8 f9 f10 f11
          have v7 : v 51 7 = w 51 7 := f4 7 (by decide) (by decide)
          have v56 : v 56 a8 = w 56 a8 := by rw [f3 56 (by decide) (by decide)]
          have wb := hW.2.2.2.1 a8 e2 (by omega)
          have lc := hW.2.2.1
          have kv := key v f3 f4 f5 f6
          have ix := cw_ixb hC (l := ((l + 1 : Nat) : Int)) (r := a6) (c := w 56 a8) (by omega) (by omega) wb
          refine r_X10_fillAhead_77 hC ⟨fun q => absurd q (by omega), fun q => ⟨by rw [n.2.2]; omega, ?_⟩⟩
          rw [v56]
          refine p_X10_bestOnward hC l kv.1 kv.2.1 hG tk kv.2.2 hl (by omega) (by omega) wb ⟨f5, f6⟩ (f7 l (by omega)) ⟨_, rfl, fun _ => ⟨by rw [e3]; exact ix.1, by constructor <;> omega, ih2 (a8 + 1) _ (by omega) (by omega) (fun j a b => by rw [ck_up_ne b]; exact f3 j a b) (fun j a b => by rw [ck_up_ne (by decide)]; exact f4 j a b) (by rw [ck_up_ne (by decide)]; exact f5) (by rw [ck_up_ne (by decide)]; exact f6) (fun l' hl' => ?_) ?_ ?_ ?_ (fun j hj => ?_)⟩⟩
          · intro r c r0 r1 c0 c1
            have lb' := cw_lob (A := A) (K := k) (l := (l' : Int)) (by omega) (by omega) (by omega)
            rw [e3, ck_up_nj (fun z => by have := cw_ixi (A := A) (R := R) (hr := ⟨by omega, by omega⟩) (hr' := ⟨by omega, by omega⟩) ⟨c0, c1⟩ wb z; omega)]
            exact f7 l' hl' r c r0 r1 c0 c1
          · intro l' r c l0 r0 r1 c0 c1 dd
            rw [e3, ck_up_at]
            split
            · rename_i z
              have zz := cw_ixi (A := A) (R := R) ⟨r0, r1⟩ ⟨by omega, by omega⟩ ⟨c0, c1⟩ wb z
              rw [zz.2.2] at dd
              exact cw_A_dead dd
            · exact f8 l' r c l0 r0 r1 c0 c1 dd
          · intro r c r0 r1 c0 c1
            rw [e3, ck_up_nj (fun z => by have := cw_ixi (A := A) (R := R) (hr := ⟨by omega, by omega⟩) (hr' := ⟨by omega, by omega⟩) ⟨c0, c1⟩ wb z; omega)]
            exact f9 r c r0 r1 c0 c1
          · intro i i0 i1
            rw [e3, ck_up_at]
            split
            · rename_i z
              have wi := hW.2.2.2.1 i i0 (by omega)
              have zz := cw_ixi (A := A) (R := R) (hr := ⟨by omega, by omega⟩) (hr' := ⟨by omega, by omega⟩) wi wb z
              rw [zz.2.2]
            · exact f10 i i0 (by
                by_cases y : i = a8
                · rename_i z
                  exact absurd (by rw [y]) z
                · omega)
          · have m0 : 0 ≤ (l : Int) * (R : Int) := Int.mul_nonneg (by omega) (by omega)
            have m1 : (R : Int) * cw_N A ≤ (((l + 1 : Nat) : Int) * (R : Int) + a6) * cw_N A := Int.mul_le_mul_of_nonneg_right (by rw [show ((l + 1 : Nat) : Int) = (l : Int) + 1 by omega, Int.add_mul]; omega) (by omega)
            rw [e3, ck_up_nj (by omega)]
            exact f11 j hj
      exact li (w 51 7).toNat 0 u (by have := hW.2.2.1; omega) (by omega) g3 g4 g5 g6 g7 g8 g9 (fun i a b => by omega) g10
  refine e_X10_fillAhead hC (p_X5_places hC hD hT (fun _ => ⟨_, rfl, fun _ => ?_⟩) (fun no => absurd h1 no))
  dsimp only
  rw [hk, hD.1]
  have e1 : k * (A : Int) - ((l + 1 : Nat) : Int) - (A : Int) + 1 = k * (A : Int) - (l : Int) - (A : Int) := by omega
  refine ⟨by constructor <;> omega, by constructor <;> omega, by constructor <;> omega, ?_⟩
  rw [e1]
  refine p_X10_boundFirst hC hD hT h1 (by omega) ⟨rfl, ?_⟩
  dsimp only
  rw [hk]
  have d1 : cs_D A R (ck_up (ck_up w 51 10 ((k * (A : Int) - (l : Int) - (A : Int)) / (A : Int))) 51 11 ((R : Int) - k + (k * (A : Int) - (l : Int) - (A : Int)) / (A : Int))) := cs_hD hD (by rw [ck_up_ne (by decide), ck_up_ne (by decide)])
  have t1 : cs_T (ck_up (ck_up w 51 10 ((k * (A : Int) - (l : Int) - (A : Int)) / (A : Int))) 51 11 ((R : Int) - k + (k * (A : Int) - (l : Int) - (A : Int)) / (A : Int))) := cs_hT hT (by rw [ck_up_ne (by decide), ck_up_ne (by decide)])
  refine p_X10_highAt hC d1 t1 h1 (by omega) ⟨_, rfl, fun _ => p_X10_lowAt hC d1 (by omega) ⟨_, rfl, fun _ => ?_⟩⟩
  dsimp only
  rw [ck_up_ne (show 6 ≠ 51 by decide), ck_up_ne (show 6 ≠ 51 by decide), hk]
  have u57 : (ck_up (ck_up w 51 10 ((k * (A : Int) - (l : Int) - (A : Int)) / (A : Int))) 51 11 ((R : Int) - k + (k * (A : Int) - (l : Int) - (A : Int)) / (A : Int))) 57 = w 57 := by rw [ck_up_ne (by decide), ck_up_ne (by decide)]
  refine lo ((R : Int) - k + 1).toNat (cw_lo A k ((l + 1 : Nat) : Int)) _ (by omega) (by omega) (fun j a _ => by rw [ck_up_ne a, ck_up_ne a]) (fun j a b => by rw [ck_up_nj b, ck_up_nj a]) (by rw [ck_up_nj (by decide), ck_up_eq]; rfl) (by rw [ck_up_eq]; rfl) (fun l' hl' => ?_) ?_ (fun r c r0 r1 c0 c1 => by omega) (fun j _ => by rw [u57])
  · unfold cw_row
    rw [u57]
    exact hr l' hl'
  · unfold cw_dead
    rw [u57]
    exact hd
