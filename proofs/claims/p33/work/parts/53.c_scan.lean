/-! ===== the class: what the scan tells ===== -/
theorem dJ9_floorMod_7cf53_0 : decode cJ9_floorMod_7cf53 0 = .ok (.iload_n 0, 1) := dk_26 (by decide +kernel)
theorem dJ9_floorMod_7cf53_1 : decode cJ9_floorMod_7cf53 1 = .ok (.iload_n 1, 1) := dk_27 (by decide +kernel)
theorem dJ9_floorMod_7cf53_2 : decode cJ9_floorMod_7cf53 2 = .ok (.irem, 1) := dk_112 (by decide +kernel)
theorem dJ9_floorMod_7cf53_3 : decode cJ9_floorMod_7cf53 3 = .ok (.istore_n 2, 1) := dk_61 (by decide +kernel)
theorem dJ9_floorMod_7cf53_4 : decode cJ9_floorMod_7cf53 4 = .ok (.iload_n 0, 1) := dk_26 (by decide +kernel)
theorem dJ9_floorMod_7cf53_5 : decode cJ9_floorMod_7cf53 5 = .ok (.iload_n 1, 1) := dk_27 (by decide +kernel)
theorem dJ9_floorMod_7cf53_6 : decode cJ9_floorMod_7cf53 6 = .ok (.ixor, 1) := dk_130 (by decide +kernel)
theorem dJ9_floorMod_7cf53_7 : decode cJ9_floorMod_7cf53 7 = .ok (.ifCond .ge 11, 3) := dk_156 0 11 (by decide +kernel)
theorem dJ9_floorMod_7cf53_10 : decode cJ9_floorMod_7cf53 10 = .ok (.iload_n 2, 1) := dk_28 (by decide +kernel)
theorem dJ9_floorMod_7cf53_11 : decode cJ9_floorMod_7cf53 11 = .ok (.ifCond .eq 7, 3) := dk_153 0 7 (by decide +kernel)
theorem dJ9_floorMod_7cf53_14 : decode cJ9_floorMod_7cf53 14 = .ok (.iload_n 2, 1) := dk_28 (by decide +kernel)
theorem dJ9_floorMod_7cf53_15 : decode cJ9_floorMod_7cf53 15 = .ok (.iload_n 1, 1) := dk_27 (by decide +kernel)
theorem dJ9_floorMod_7cf53_16 : decode cJ9_floorMod_7cf53 16 = .ok (.iadd, 1) := dk_96 (by decide +kernel)
theorem dJ9_floorMod_7cf53_17 : decode cJ9_floorMod_7cf53 17 = .ok (.ireturn, 1) := dk_172 (by decide +kernel)
theorem dJ9_floorMod_7cf53_18 : decode cJ9_floorMod_7cf53 18 = .ok (.iload_n 2, 1) := dk_28 (by decide +kernel)
theorem dJ9_floorMod_7cf53_19 : decode cJ9_floorMod_7cf53 19 = .ok (.ireturn, 1) := dk_172 (by decide +kernel)
set_option maxRecDepth 8000 in
theorem e_J9_floorMod_7cf53 {g : ch_G} {A R : Nat} (hC : ck_Cx g A R) {d : Nat} {K : Option ck_V → ck_W → Prop} {w : ck_W} {a0 a1 : Int} (h : (¬ a1 = 0) ∧ (ck_i (a0.tmod a1) ∧ ((0 ≤ (ck_xor a0 a1) → K (some (.inl (a0.tmod a1))) w) ∧ (¬ 0 ≤ (ck_xor a0 a1) → ((a0.tmod a1) = 0 → K (some (.inl (a0.tmod a1))) w) ∧ (¬ (a0.tmod a1) = 0 → ck_i ((a0.tmod a1) + a1) ∧ (K (some (.inl ((a0.tmod a1) + a1))) w)))))) : ck_Ex (ch_C g A R) d mJ9_floorMod_7cf53 [.inl a0, .inl a1] w K :=
  ck_entryF hC.1 [some (.inl a0), some (.inl a1), none] (pk_of (i := 5) rfl) (Nat.le_of_ble_eq_true rfl) rfl (fun q => q) (ck_in (fun hl => (ck_iload_n 1 rfl 0 dJ9_floorMod_7cf53_0 rfl rfl (ck_iload_n 2 rfl 1 dJ9_floorMod_7cf53_1 rfl rfl (have h9 := h; have o1 := h9.1; have h8 := h9.2; (ck_irem 3 rfl dJ9_floorMod_7cf53_2 hl.1 hl.2.1 o1 (have h11 := h8; have o2 := h11.1; have h10 := h11.2; (ck_istore_n 4 rfl 2 [some (.inl a0), some (.inl a1), some (.inl (a0.tmod a1))] dJ9_floorMod_7cf53_3 rfl (Nat.le_of_ble_eq_true rfl) rfl rfl o2 (ck_iload_n 5 rfl 0 dJ9_floorMod_7cf53_4 rfl rfl (ck_iload_n 6 rfl 1 dJ9_floorMod_7cf53_5 rfl rfl (ck_ixor 7 rfl dJ9_floorMod_7cf53_6 (ck_if_ge 10 rfl 18 dJ9_floorMod_7cf53_7 rfl (ck_rng _) (fun c6 => (ck_iload_n 19 rfl 2 dJ9_floorMod_7cf53_18 rfl rfl (ck_iret dJ9_floorMod_7cf53_19 rfl o2 (h10.1 c6)))) (fun c7 => (ck_iload_n 11 rfl 2 dJ9_floorMod_7cf53_10 rfl rfl (have h12 := (h10.2 c7); (ck_if_eq 14 rfl 18 dJ9_floorMod_7cf53_11 rfl o2 (fun c4 => (ck_iload_n 19 rfl 2 dJ9_floorMod_7cf53_18 rfl rfl (ck_iret dJ9_floorMod_7cf53_19 rfl o2 (h12.1 c4)))) (fun c5 => (ck_iload_n 15 rfl 2 dJ9_floorMod_7cf53_14 rfl rfl (ck_iload_n 16 rfl 1 dJ9_floorMod_7cf53_15 rfl rfl (ck_iadd 17 rfl dJ9_floorMod_7cf53_16 (have h14 := (h12.2 c5); have o3 := h14.1; have h13 := h14.2; (ck_iret dJ9_floorMod_7cf53_17 rfl o3 h13))))))))))))))))))))))
theorem dJ9_floorDiv_7cf53_0 : decode cJ9_floorDiv_7cf53 0 = .ok (.iload_n 0, 1) := dk_26 (by decide +kernel)
theorem dJ9_floorDiv_7cf53_1 : decode cJ9_floorDiv_7cf53 1 = .ok (.iload_n 1, 1) := dk_27 (by decide +kernel)
theorem dJ9_floorDiv_7cf53_2 : decode cJ9_floorDiv_7cf53 2 = .ok (.idiv, 1) := dk_108 (by decide +kernel)
theorem dJ9_floorDiv_7cf53_3 : decode cJ9_floorDiv_7cf53 3 = .ok (.istore_n 2, 1) := dk_61 (by decide +kernel)
theorem dJ9_floorDiv_7cf53_4 : decode cJ9_floorDiv_7cf53 4 = .ok (.iload_n 0, 1) := dk_26 (by decide +kernel)
theorem dJ9_floorDiv_7cf53_5 : decode cJ9_floorDiv_7cf53 5 = .ok (.iload_n 1, 1) := dk_27 (by decide +kernel)
theorem dJ9_floorDiv_7cf53_6 : decode cJ9_floorDiv_7cf53 6 = .ok (.ixor, 1) := dk_130 (by decide +kernel)
theorem dJ9_floorDiv_7cf53_7 : decode cJ9_floorDiv_7cf53 7 = .ok (.ifCond .ge 14, 3) := dk_156 0 14 (by decide +kernel)
theorem dJ9_floorDiv_7cf53_10 : decode cJ9_floorDiv_7cf53 10 = .ok (.iload_n 2, 1) := dk_28 (by decide +kernel)
theorem dJ9_floorDiv_7cf53_11 : decode cJ9_floorDiv_7cf53 11 = .ok (.iload_n 1, 1) := dk_27 (by decide +kernel)
theorem dJ9_floorDiv_7cf53_12 : decode cJ9_floorDiv_7cf53 12 = .ok (.imul, 1) := dk_104 (by decide +kernel)
theorem dJ9_floorDiv_7cf53_13 : decode cJ9_floorDiv_7cf53 13 = .ok (.iload_n 0, 1) := dk_26 (by decide +kernel)
theorem dJ9_floorDiv_7cf53_14 : decode cJ9_floorDiv_7cf53 14 = .ok (.if_icmp .eq 7, 3) := dk_159 0 7 (by decide +kernel)
theorem dJ9_floorDiv_7cf53_17 : decode cJ9_floorDiv_7cf53 17 = .ok (.iload_n 2, 1) := dk_28 (by decide +kernel)
theorem dJ9_floorDiv_7cf53_18 : decode cJ9_floorDiv_7cf53 18 = .ok (.iconst 1, 1) := dk_4 (by decide +kernel)
theorem dJ9_floorDiv_7cf53_19 : decode cJ9_floorDiv_7cf53 19 = .ok (.isub, 1) := dk_100 (by decide +kernel)
theorem dJ9_floorDiv_7cf53_20 : decode cJ9_floorDiv_7cf53 20 = .ok (.ireturn, 1) := dk_172 (by decide +kernel)
theorem dJ9_floorDiv_7cf53_21 : decode cJ9_floorDiv_7cf53 21 = .ok (.iload_n 2, 1) := dk_28 (by decide +kernel)
theorem dJ9_floorDiv_7cf53_22 : decode cJ9_floorDiv_7cf53 22 = .ok (.ireturn, 1) := dk_172 (by decide +kernel)
set_option maxRecDepth 8000 in
theorem e_J9_floorDiv_7cf53 {g : ch_G} {A R : Nat} (hC : ck_Cx g A R) {d : Nat} {K : Option ck_V → ck_W → Prop} {w : ck_W} {a0 a1 : Int} (h : (¬ a1 = 0) ∧ (ck_i (a0.tdiv a1) ∧ ((0 ≤ (ck_xor a0 a1) → K (some (.inl (a0.tdiv a1))) w) ∧ (¬ 0 ≤ (ck_xor a0 a1) → ck_i ((a0.tdiv a1) * a1) ∧ ((((a0.tdiv a1) * a1) = a0 → K (some (.inl (a0.tdiv a1))) w) ∧ (¬ ((a0.tdiv a1) * a1) = a0 → ck_i ((a0.tdiv a1) - 1) ∧ (K (some (.inl ((a0.tdiv a1) - 1))) w))))))) : ck_Ex (ch_C g A R) d mJ9_floorDiv_7cf53 [.inl a0, .inl a1] w K :=
  ck_entryF hC.1 [some (.inl a0), some (.inl a1), none] (pk_of (i := 6) rfl) (Nat.le_of_ble_eq_true rfl) rfl (fun q => q) (ck_in (fun hl => (ck_iload_n 1 rfl 0 dJ9_floorDiv_7cf53_0 rfl rfl (ck_iload_n 2 rfl 1 dJ9_floorDiv_7cf53_1 rfl rfl (have h10 := h; have o1 := h10.1; have h9 := h10.2; (ck_idiv 3 rfl dJ9_floorDiv_7cf53_2 hl.1 hl.2.1 o1 (have h12 := h9; have o2 := h12.1; have h11 := h12.2; (ck_istore_n 4 rfl 2 [some (.inl a0), some (.inl a1), some (.inl (a0.tdiv a1))] dJ9_floorDiv_7cf53_3 rfl (Nat.le_of_ble_eq_true rfl) rfl rfl o2 (ck_iload_n 5 rfl 0 dJ9_floorDiv_7cf53_4 rfl rfl (ck_iload_n 6 rfl 1 dJ9_floorDiv_7cf53_5 rfl rfl (ck_ixor 7 rfl dJ9_floorDiv_7cf53_6 (ck_if_ge 10 rfl 21 dJ9_floorDiv_7cf53_7 rfl (ck_rng _) (fun c7 => (ck_iload_n 22 rfl 2 dJ9_floorDiv_7cf53_21 rfl rfl (ck_iret dJ9_floorDiv_7cf53_22 rfl o2 (h11.1 c7)))) (fun c8 => (ck_iload_n 11 rfl 2 dJ9_floorDiv_7cf53_10 rfl rfl (ck_iload_n 12 rfl 1 dJ9_floorDiv_7cf53_11 rfl rfl (ck_imul 13 rfl dJ9_floorDiv_7cf53_12 (ck_iload_n 14 rfl 0 dJ9_floorDiv_7cf53_13 rfl rfl (have h14 := (h11.2 c8); have o3 := h14.1; have h13 := h14.2; (ck_icmp_eq 17 rfl 21 dJ9_floorDiv_7cf53_14 rfl o3 hl.1 (fun c5 => (ck_iload_n 22 rfl 2 dJ9_floorDiv_7cf53_21 rfl rfl (ck_iret dJ9_floorDiv_7cf53_22 rfl o2 (h13.1 c5)))) (fun c6 => (ck_iload_n 18 rfl 2 dJ9_floorDiv_7cf53_17 rfl rfl (ck_iconst 19 rfl dJ9_floorDiv_7cf53_18 rfl (ck_isub 20 rfl dJ9_floorDiv_7cf53_19 (have h16 := (h13.2 c6); have o4 := h16.1; have h15 := h16.2; (ck_iret dJ9_floorDiv_7cf53_20 rfl o4 h15)))))))))))))))))))))))))
theorem p_floorMod {g : ch_G} {A R : Nat} (hC : ck_Cx g A R) {d : Nat} {K : Option ck_V → ck_W → Prop} {w : ck_W} {a0 a1 : Int} (h0 : 0 ≤ a0 ∧ a0 < 512) (h1 : 1 ≤ a1 ∧ a1 < 512) (h : K (some (.inl (a0 % a1))) w) : ck_Ex (ch_C g A R) d mJ9_floorMod_7cf53 [.inl a0, .inl a1] w K := by
  have x := kb_xor9 h0 (y := a1) (by omega)
  have t : a0.tmod a1 = a0 % a1 := Int.tmod_eq_emod_of_nonneg h0.1
  have b0 := Int.emod_nonneg a0 (b := a1) (by omega)
  have b1 := Int.emod_lt_of_pos a0 (b := a1) (by omega)
  refine e_J9_floorMod_7cf53 hC ?_
  rw [t]
  exact ⟨by omega, by constructor <;> omega, fun _ => h, fun q => absurd x.1 q⟩
theorem p_floorDiv {g : ch_G} {A R : Nat} (hC : ck_Cx g A R) {d : Nat} {K : Option ck_V → ck_W → Prop} {w : ck_W} {a0 a1 : Int} (h0 : 0 ≤ a0 ∧ a0 < 512) (h1 : 1 ≤ a1 ∧ a1 < 512) (h : K (some (.inl (a0 / a1))) w) : ck_Ex (ch_C g A R) d mJ9_floorDiv_7cf53 [.inl a0, .inl a1] w K := by
  have x := kb_xor9 h0 (y := a1) (by omega)
  have t : a0.tdiv a1 = a0 / a1 := Int.tdiv_eq_ediv_of_nonneg h0.1
  have b0 : 0 ≤ a0 / a1 := Int.ediv_nonneg h0.1 (by omega)
  have b1 : a0 / a1 ≤ a0 := Int.ediv_le_self a1 h0.1
  refine e_J9_floorDiv_7cf53 hC ?_
  rw [t]
  exact ⟨by omega, by constructor <;> omega, fun _ => h, fun q => absurd x.1 q⟩
theorem dX5_turnOf_0 : decode cX5_turnOf 0 = .ok (.iload_n 1, 1) := dk_27 (by decide +kernel)
theorem dX5_turnOf_1 : decode cX5_turnOf 1 = .ok (.aload_n 0, 1) := dk_42 (by decide +kernel)
theorem dX5_turnOf_2 : decode cX5_turnOf 2 = .ok (.getfield 27, 3) := dk_180 0 27 (by decide +kernel)
theorem dX5_turnOf_5 : decode cX5_turnOf 5 = .ok (.invokestatic 68, 3) := dk_184 0 68 (by decide +kernel)
theorem dX5_turnOf_8 : decode cX5_turnOf 8 = .ok (.ireturn, 1) := dk_172 (by decide +kernel)
set_option maxRecDepth 8000 in
theorem e_X5_turnOf {g : ch_G} {A R : Nat} (hC : ck_Cx g A R) {d : Nat} {K : Option ck_V → ck_W → Prop} {w : ck_W} {a1 : Int} (h : ck_CI (ch_C g A R) d mJ9_floorDiv_7cf53 [.inl a1, .inl (w 3 0)] w (fun v3 w2 => K (some (.inl v3)) w2)) : ck_Ex (ch_C g A R) (d + 1) mX5_turnOf [.inr (.inr 3), .inl a1] w K :=
  ck_entry hC.1 [some (.inr (.inr 3)), some (.inl a1)] (by decide) (Nat.le_of_ble_eq_true rfl) rfl (fun q => q) (ck_in (fun hl => (ck_iload_n 1 rfl 1 dX5_turnOf_0 rfl rfl (ck_aload_n 2 rfl 0 dX5_turnOf_1 rfl rfl (ck_geti 5 rfl 0 dX5_turnOf_2 fl_X5_27 sh_3 rfl rfl _ rfl (fun (q1 : ck_i (w 3 0)) => (ck_callS 8 rfl [.inl a1, .inl (w 3 0)] [] dX5_turnOf_5 cs_X5_68 rfl rfl (Nat.le_of_ble_eq_true rfl) (And.intro hl.2.1 (And.intro q1 True.intro)) (ck_mI h (fun v3 w2 q4 h5 => (ck_iret dX5_turnOf_8 rfl q4 h5))))))))))
theorem dX5_angleOf_0 : decode cX5_angleOf 0 = .ok (.iload_n 1, 1) := dk_27 (by decide +kernel)
theorem dX5_angleOf_1 : decode cX5_angleOf 1 = .ok (.aload_n 0, 1) := dk_42 (by decide +kernel)
theorem dX5_angleOf_2 : decode cX5_angleOf 2 = .ok (.getfield 27, 3) := dk_180 0 27 (by decide +kernel)
theorem dX5_angleOf_5 : decode cX5_angleOf 5 = .ok (.invokestatic 65, 3) := dk_184 0 65 (by decide +kernel)
theorem dX5_angleOf_8 : decode cX5_angleOf 8 = .ok (.ireturn, 1) := dk_172 (by decide +kernel)
set_option maxRecDepth 8000 in
theorem e_X5_angleOf {g : ch_G} {A R : Nat} (hC : ck_Cx g A R) {d : Nat} {K : Option ck_V → ck_W → Prop} {w : ck_W} {a1 : Int} (h : ck_CI (ch_C g A R) d mJ9_floorMod_7cf53 [.inl a1, .inl (w 3 0)] w (fun v3 w2 => K (some (.inl v3)) w2)) : ck_Ex (ch_C g A R) (d + 1) mX5_angleOf [.inr (.inr 3), .inl a1] w K :=
  ck_entry hC.1 [some (.inr (.inr 3)), some (.inl a1)] (by decide) (Nat.le_of_ble_eq_true rfl) rfl (fun q => q) (ck_in (fun hl => (ck_iload_n 1 rfl 1 dX5_angleOf_0 rfl rfl (ck_aload_n 2 rfl 0 dX5_angleOf_1 rfl rfl (ck_geti 5 rfl 0 dX5_angleOf_2 fl_X5_27 sh_3 rfl rfl _ rfl (fun (q1 : ck_i (w 3 0)) => (ck_callS 8 rfl [.inl a1, .inl (w 3 0)] [] dX5_angleOf_5 cs_X5_65 rfl rfl (Nat.le_of_ble_eq_true rfl) (And.intro hl.2.1 (And.intro q1 True.intro)) (ck_mI h (fun v3 w2 q4 h5 => (ck_iret dX5_angleOf_8 rfl q4 h5))))))))))
theorem p_X5_turnOf {g : ch_G} {A R : Nat} (hC : ck_Cx g A R) {d : Nat} {K : Option ck_V → ck_W → Prop} {w : ck_W} {a1 : Int} (hD : cs_D A R w) (h0 : 0 ≤ a1 ∧ a1 < 512) (h : K (some (.inl (a1 / (A : Int)))) w) : ck_Ex (ch_C g A R) (d + 1) mX5_turnOf [.inr (.inr 3), .inl a1] w K := by
  have c := cs_ar hC
  refine e_X5_turnOf hC ?_
  rw [hD.1]
  exact p_floorDiv hC h0 (by omega) ⟨_, rfl, fun _ => h⟩
theorem p_X5_angleOf {g : ch_G} {A R : Nat} (hC : ck_Cx g A R) {d : Nat} {K : Option ck_V → ck_W → Prop} {w : ck_W} {a1 : Int} (hD : cs_D A R w) (h0 : 0 ≤ a1 ∧ a1 < 512) (h : K (some (.inl (a1 % (A : Int)))) w) : ck_Ex (ch_C g A R) (d + 1) mX5_angleOf [.inr (.inr 3), .inl a1] w K := by
  have c := cs_ar hC
  refine e_X5_angleOf hC ?_
  rw [hD.1]
  exact p_floorMod hC h0 (by omega) ⟨_, rfl, fun _ => h⟩
/-- how often a slice may be wound -/
def cs_T (w : ck_W) : Prop := ∀ z, 0 ≤ z → z ≤ 5 → 1 ≤ w 6 z ∧ w 6 z ≤ 4
theorem cs_tb {A R : Nat} {g : ch_G} (hC : ck_Cx g A R) {w : ck_W} (hT : cs_T w) {z : Int} (h : 0 ≤ z ∧ z ≤ 5) : 3 ≤ w 6 z * (A : Int) ∧ (A : Int) ≤ w 6 z * (A : Int) ∧ w 6 z * (A : Int) ≤ 24 := by
  have c := cs_ar hC
  have t := hT z h.1 h.2
  have u1 : 1 * (A : Int) ≤ w 6 z * (A : Int) := Int.mul_le_mul_of_nonneg_right t.1 (by omega)
  have u2 : w 6 z * (A : Int) ≤ 4 * (A : Int) := Int.mul_le_mul_of_nonneg_right t.2 (by omega)
  omega
theorem dX5_places_0 : decode cX5_places 0 = .ok (.iload_n 1, 1) := dk_27 (by decide +kernel)
theorem dX5_places_1 : decode cX5_places 1 = .ok (.ifCond .lt 23, 3) := dk_155 0 23 (by decide +kernel)
theorem dX5_places_4 : decode cX5_places 4 = .ok (.iload_n 1, 1) := dk_27 (by decide +kernel)
theorem dX5_places_5 : decode cX5_places 5 = .ok (.bipush 6, 2) := dk_16 6 (by decide +kernel)
theorem dX5_places_7 : decode cX5_places 7 = .ok (.if_icmp .ge 17, 3) := dk_162 0 17 (by decide +kernel)
theorem dX5_places_10 : decode cX5_places 10 = .ok (.aload_n 0, 1) := dk_42 (by decide +kernel)
theorem dX5_places_11 : decode cX5_places 11 = .ok (.getfield 9, 3) := dk_180 0 9 (by decide +kernel)
theorem dX5_places_14 : decode cX5_places 14 = .ok (.iload_n 1, 1) := dk_27 (by decide +kernel)
theorem dX5_places_15 : decode cX5_places 15 = .ok (.iaload, 1) := dk_46 (by decide +kernel)
theorem dX5_places_16 : decode cX5_places 16 = .ok (.aload_n 0, 1) := dk_42 (by decide +kernel)
theorem dX5_places_17 : decode cX5_places 17 = .ok (.getfield 27, 3) := dk_180 0 27 (by decide +kernel)
theorem dX5_places_20 : decode cX5_places 20 = .ok (.imul, 1) := dk_104 (by decide +kernel)
theorem dX5_places_21 : decode cX5_places 21 = .ok (.goto 4, 3) := dk_167 0 4 (by decide +kernel)
theorem dX5_places_24 : decode cX5_places 24 = .ok (.iconst 0, 1) := dk_3 (by decide +kernel)
theorem dX5_places_25 : decode cX5_places 25 = .ok (.ireturn, 1) := dk_172 (by decide +kernel)
set_option maxRecDepth 8000 in
theorem e_X5_places {g : ch_G} {A R : Nat} (hC : ck_Cx g A R) {d : Nat} {K : Option ck_V → ck_W → Prop} {w : ck_W} {a1 : Int} (h : (a1 < 0 → K (some (.inl 0)) w) ∧ (¬ a1 < 0 → (6 ≤ a1 → K (some (.inl 0)) w) ∧ (¬ 6 ≤ a1 → (0 ≤ a1 ∧ a1 < 6) ∧ (ck_i ((w 6 a1) * (w 3 0)) ∧ (K (some (.inl ((w 6 a1) * (w 3 0)))) w))))) : ck_Ex (ch_C g A R) d mX5_places [.inr (.inr 3), .inl a1] w K :=
  ck_entry hC.1 [some (.inr (.inr 3)), some (.inl a1)] (by decide) (Nat.le_of_ble_eq_true rfl) rfl (fun q => q) (ck_in (fun hl => (ck_iload_n 1 rfl 1 dX5_places_0 rfl rfl (ck_if_lt 4 rfl 24 dX5_places_1 rfl hl.2.1 (fun c7 => (ck_iconst 25 rfl dX5_places_24 rfl (ck_iret dX5_places_25 rfl (show ck_i 0 by decide) (h.1 c7)))) (fun c8 => (ck_iload_n 5 rfl 1 dX5_places_4 rfl rfl (ck_bipush 7 rfl dX5_places_5 rfl (have h9 := (h.2 c8); (ck_icmp_ge 10 rfl 24 dX5_places_7 rfl hl.2.1 (show ck_i 6 by decide) (fun c5 => (ck_iconst 25 rfl dX5_places_24 rfl (ck_iret dX5_places_25 rfl (show ck_i 0 by decide) (h9.1 c5)))) (fun c6 => (ck_aload_n 11 rfl 0 dX5_places_10 rfl rfl (ck_getr 14 rfl dX5_places_11 fl_X5_9 sh_3 rfl (ck_iload_n 15 rfl 1 dX5_places_14 rfl rfl (have h11 := (h9.2 c6); have o1 := h11.1; have h10 := h11.2; (ck_iald 16 rfl dX5_places_15 sh_6 (shn_6 hC) o1 _ rfl (fun (q2 : ck_i (w 6 a1)) => (ck_aload_n 17 rfl 0 dX5_places_16 rfl rfl (ck_geti 20 rfl 0 dX5_places_17 fl_X5_27 sh_3 rfl rfl _ rfl (fun (q3 : ck_i (w 3 0)) => (ck_imul 21 rfl dX5_places_20 (ck_goto 25 dX5_places_21 rfl (have h13 := h10; have o4 := h13.1; have h12 := h13.2; (ck_iret dX5_places_25 rfl o4 h12)))))))))))))))))))))))
theorem p_X5_places {g : ch_G} {A R : Nat} (hC : ck_Cx g A R) {d : Nat} {K : Option ck_V → ck_W → Prop} {w : ck_W} {a1 : Int} (hD : cs_D A R w) (hT : cs_T w) (h1 : 0 ≤ a1 ∧ a1 ≤ 5 → K (some (.inl (w 6 a1 * (A : Int)))) w) (h0 : ¬ (0 ≤ a1 ∧ a1 ≤ 5) → K (some (.inl 0)) w) : ck_Ex (ch_C g A R) d mX5_places [.inr (.inr 3), .inl a1] w K := by
  refine e_X5_places hC ⟨fun q => h0 (by omega), fun q1 => ⟨fun q => h0 (by omega), fun q2 => ?_⟩⟩
  have b := cs_tb hC hT (z := a1) (by omega)
  rw [hD.1]
  exact ⟨by omega, by constructor <;> omega, h1 (by omega)⟩
def cs_has (A : Nat) (w : ck_W) (z p : Int) : Prop := (0 ≤ z ∧ z ≤ 5) ∧ (0 ≤ p ∧ p < w 6 z * (A : Int))
theorem dX5_hasPlace_0 : decode cX5_hasPlace 0 = .ok (.iload_n 2, 1) := dk_28 (by decide +kernel)
theorem dX5_hasPlace_1 : decode cX5_hasPlace 1 = .ok (.ifCond .lt 16, 3) := dk_155 0 16 (by decide +kernel)
theorem dX5_hasPlace_4 : decode cX5_hasPlace 4 = .ok (.iload_n 2, 1) := dk_28 (by decide +kernel)
theorem dX5_hasPlace_5 : decode cX5_hasPlace 5 = .ok (.aload_n 0, 1) := dk_42 (by decide +kernel)
theorem dX5_hasPlace_6 : decode cX5_hasPlace 6 = .ok (.iload_n 1, 1) := dk_27 (by decide +kernel)
theorem dX5_hasPlace_7 : decode cX5_hasPlace 7 = .ok (.invokevirtual 57, 3) := dk_182 0 57 (by decide +kernel)
theorem dX5_hasPlace_10 : decode cX5_hasPlace 10 = .ok (.if_icmp .ge 7, 3) := dk_162 0 7 (by decide +kernel)
theorem dX5_hasPlace_13 : decode cX5_hasPlace 13 = .ok (.iconst 1, 1) := dk_4 (by decide +kernel)
theorem dX5_hasPlace_14 : decode cX5_hasPlace 14 = .ok (.goto 4, 3) := dk_167 0 4 (by decide +kernel)
theorem dX5_hasPlace_17 : decode cX5_hasPlace 17 = .ok (.iconst 0, 1) := dk_3 (by decide +kernel)
theorem dX5_hasPlace_18 : decode cX5_hasPlace 18 = .ok (.ireturn, 1) := dk_172 (by decide +kernel)
set_option maxRecDepth 8000 in
theorem e_X5_hasPlace {g : ch_G} {A R : Nat} (hC : ck_Cx g A R) {d : Nat} {K : Option ck_V → ck_W → Prop} {w : ck_W} {a1 a2 : Int} (h : (a2 < 0 → K (some (.inl 0)) w) ∧ (¬ a2 < 0 → ck_CI (ch_C g A R) d mX5_places [.inr (.inr 3), .inl a1] w (fun v2 w1 => (v2 ≤ a2 → K (some (.inl 0)) w1) ∧ (¬ v2 ≤ a2 → K (some (.inl 1)) w1)))) : ck_Ex (ch_C g A R) (d + 1) mX5_hasPlace [.inr (.inr 3), .inl a1, .inl a2] w K :=
  ck_entry hC.1 [some (.inr (.inr 3)), some (.inl a1), some (.inl a2)] (by decide) (Nat.le_of_ble_eq_true rfl) rfl (fun q => q) (ck_in (fun hl => (ck_iload_n 1 rfl 2 dX5_hasPlace_0 rfl rfl (ck_if_lt 4 rfl 17 dX5_hasPlace_1 rfl hl.2.2.1 (fun c7 => (ck_iconst 18 rfl dX5_hasPlace_17 rfl (ck_zret dX5_hasPlace_18 rfl (by decide) (h.1 c7)))) (fun c8 => (ck_iload_n 5 rfl 2 dX5_hasPlace_4 rfl rfl (ck_aload_n 6 rfl 0 dX5_hasPlace_5 rfl rfl (ck_iload_n 7 rfl 1 dX5_hasPlace_6 rfl rfl (ck_callV 10 rfl [.inl a1] [.inl a2] dX5_hasPlace_7 cv_X5_57 sh_3 rfl rfl (Nat.le_of_ble_eq_true rfl) (And.intro hl.2.1 True.intro) (ck_mI (h.2 c8) (fun v2 w1 q3 h4 => (ck_icmp_ge 13 rfl 17 dX5_hasPlace_10 rfl hl.2.2.1 q3 (fun c5 => (ck_iconst 18 rfl dX5_hasPlace_17 rfl (ck_zret dX5_hasPlace_18 rfl (by decide) (h4.1 c5)))) (fun c6 => (ck_iconst 14 rfl dX5_hasPlace_13 rfl (ck_goto 18 dX5_hasPlace_14 rfl (ck_zret dX5_hasPlace_18 rfl (by decide) (h4.2 c6)))))))))))))))))
theorem p_X5_hasPlace {g : ch_G} {A R : Nat} (hC : ck_Cx g A R) {d : Nat} {K : Option ck_V → ck_W → Prop} {w : ck_W} {a1 a2 : Int} (hD : cs_D A R w) (hT : cs_T w) (h1 : cs_has A w a1 a2 → K (some (.inl 1)) w) (h0 : ¬ cs_has A w a1 a2 → K (some (.inl 0)) w) : ck_Ex (ch_C g A R) (d + 1) mX5_hasPlace [.inr (.inr 3), .inl a1, .inl a2] w K := by
  refine e_X5_hasPlace hC ⟨fun q => h0 (fun x => by have := x.2; omega), fun q => p_X5_places hC hD hT (fun z => ⟨_, rfl, fun _ => ⟨fun y => h0 (fun x => by have := x.2; omega), fun y => h1 ⟨z, by omega⟩⟩⟩) (fun z => ⟨_, rfl, fun _ => ⟨fun _ => h0 (fun x => z x.1), fun y => absurd (by omega) y⟩⟩)⟩
theorem dX5_greyAt_0 : decode cX5_greyAt 0 = .ok (.aload_n 0, 1) := dk_42 (by decide +kernel)
theorem dX5_greyAt_1 : decode cX5_greyAt 1 = .ok (.iload_n 1, 1) := dk_27 (by decide +kernel)
theorem dX5_greyAt_2 : decode cX5_greyAt 2 = .ok (.iload_n 2, 1) := dk_28 (by decide +kernel)
theorem dX5_greyAt_3 : decode cX5_greyAt 3 = .ok (.iload_n 3, 1) := dk_29 (by decide +kernel)
theorem dX5_greyAt_4 : decode cX5_greyAt 4 = .ok (.invokevirtual 53, 3) := dk_182 0 53 (by decide +kernel)
theorem dX5_greyAt_7 : decode cX5_greyAt 7 = .ok (.istore 4, 2) := dk_54 (by decide +kernel)
theorem dX5_greyAt_9 : decode cX5_greyAt 9 = .ok (.iload 4, 2) := dk_21 (by decide +kernel)
theorem dX5_greyAt_11 : decode cX5_greyAt 11 = .ok (.iconst (-1), 1) := dk_2 (by decide +kernel)
theorem dX5_greyAt_12 : decode cX5_greyAt 12 = .ok (.if_icmp .ne 7, 3) := dk_160 0 7 (by decide +kernel)
theorem dX5_greyAt_15 : decode cX5_greyAt 15 = .ok (.iconst 0, 1) := dk_3 (by decide +kernel)
theorem dX5_greyAt_16 : decode cX5_greyAt 16 = .ok (.goto 10, 3) := dk_167 0 10 (by decide +kernel)
theorem dX5_greyAt_19 : decode cX5_greyAt 19 = .ok (.aload_n 0, 1) := dk_42 (by decide +kernel)
theorem dX5_greyAt_20 : decode cX5_greyAt 20 = .ok (.getfield 34, 3) := dk_180 0 34 (by decide +kernel)
theorem dX5_greyAt_23 : decode cX5_greyAt 23 = .ok (.iload 4, 2) := dk_21 (by decide +kernel)
theorem dX5_greyAt_25 : decode cX5_greyAt 25 = .ok (.iaload, 1) := dk_46 (by decide +kernel)
theorem dX5_greyAt_26 : decode cX5_greyAt 26 = .ok (.ireturn, 1) := dk_172 (by decide +kernel)
set_option maxRecDepth 8000 in
theorem e_X5_greyAt {g : ch_G} {A R : Nat} (hC : ck_Cx g A R) {d : Nat} {K : Option ck_V → ck_W → Prop} {w : ck_W} {a1 a2 a3 : Int} (h : ck_CI (ch_C g A R) d mX5_cell [.inr (.inr 3), .inl a1, .inl a2, .inl a3] w (fun v2 w1 => (¬ v2 = (-1) → (0 ≤ v2 ∧ v2 < ((6 * A * R : Nat) : Int)) ∧ (K (some (.inl (w1 4 v2))) w1)) ∧ (v2 = (-1) → K (some (.inl 0)) w1))) : ck_Ex (ch_C g A R) (d + 1) mX5_greyAt [.inr (.inr 3), .inl a1, .inl a2, .inl a3] w K :=
  ck_entry hC.1 [some (.inr (.inr 3)), some (.inl a1), some (.inl a2), some (.inl a3), none] (by decide) (Nat.le_of_ble_eq_true rfl) rfl (fun q => q) (ck_in (fun hl => (ck_aload_n 1 rfl 0 dX5_greyAt_0 rfl rfl (ck_iload_n 2 rfl 1 dX5_greyAt_1 rfl rfl (ck_iload_n 3 rfl 2 dX5_greyAt_2 rfl rfl (ck_iload_n 4 rfl 3 dX5_greyAt_3 rfl rfl (ck_callV 7 rfl [.inl a1, .inl a2, .inl a3] [] dX5_greyAt_4 cv_X5_53 sh_3 rfl rfl (Nat.le_of_ble_eq_true rfl) (And.intro hl.2.1 (And.intro hl.2.2.1 (And.intro hl.2.2.2.1 True.intro))) (ck_mI h (fun v2 w1 q3 h4 => (ck_istore 9 rfl [some (.inr (.inr 3)), some (.inl a1), some (.inl a2), some (.inl a3), some (.inl v2)] dX5_greyAt_7 (Nat.le_of_ble_eq_true rfl) rfl rfl q3 (ck_iload 11 rfl dX5_greyAt_9 rfl (ck_iconst 12 rfl dX5_greyAt_11 rfl (ck_icmp_ne 15 rfl 19 dX5_greyAt_12 rfl q3 (show ck_i (-1) by decide) (fun c7 => (ck_aload_n 20 rfl 0 dX5_greyAt_19 rfl rfl (ck_getr 23 rfl dX5_greyAt_20 fl_X5_34 sh_3 rfl (ck_iload 25 rfl dX5_greyAt_23 rfl (have h10 := (h4.1 c7); have o5 := h10.1; have h9 := h10.2; (ck_iald 26 rfl dX5_greyAt_25 sh_4 (shn_4 hC) o5 _ rfl (fun (q6 : ck_i (w1 4 v2)) => (ck_iret dX5_greyAt_26 rfl q6 h9)))))))) (fun c8 => (ck_iconst 16 rfl dX5_greyAt_15 rfl (ck_goto 26 dX5_greyAt_16 rfl (ck_iret dX5_greyAt_26 rfl (show ck_i 0 by decide) (h4.2 c8))))))))))))))))))
theorem dX5_crackAt_0 : decode cX5_crackAt 0 = .ok (.aload_n 0, 1) := dk_42 (by decide +kernel)
theorem dX5_crackAt_1 : decode cX5_crackAt 1 = .ok (.iload_n 1, 1) := dk_27 (by decide +kernel)
theorem dX5_crackAt_2 : decode cX5_crackAt 2 = .ok (.iload_n 2, 1) := dk_28 (by decide +kernel)
theorem dX5_crackAt_3 : decode cX5_crackAt 3 = .ok (.iload_n 3, 1) := dk_29 (by decide +kernel)
theorem dX5_crackAt_4 : decode cX5_crackAt 4 = .ok (.invokevirtual 53, 3) := dk_182 0 53 (by decide +kernel)
theorem dX5_crackAt_7 : decode cX5_crackAt 7 = .ok (.istore 4, 2) := dk_54 (by decide +kernel)
theorem dX5_crackAt_9 : decode cX5_crackAt 9 = .ok (.iload 4, 2) := dk_21 (by decide +kernel)
theorem dX5_crackAt_11 : decode cX5_crackAt 11 = .ok (.iconst (-1), 1) := dk_2 (by decide +kernel)
theorem dX5_crackAt_12 : decode cX5_crackAt 12 = .ok (.if_icmp .ne 7, 3) := dk_160 0 7 (by decide +kernel)
theorem dX5_crackAt_15 : decode cX5_crackAt 15 = .ok (.iconst 0, 1) := dk_3 (by decide +kernel)
theorem dX5_crackAt_16 : decode cX5_crackAt 16 = .ok (.goto 10, 3) := dk_167 0 10 (by decide +kernel)
theorem dX5_crackAt_19 : decode cX5_crackAt 19 = .ok (.aload_n 0, 1) := dk_42 (by decide +kernel)
theorem dX5_crackAt_20 : decode cX5_crackAt 20 = .ok (.getfield 37, 3) := dk_180 0 37 (by decide +kernel)
theorem dX5_crackAt_23 : decode cX5_crackAt 23 = .ok (.iload 4, 2) := dk_21 (by decide +kernel)
theorem dX5_crackAt_25 : decode cX5_crackAt 25 = .ok (.iaload, 1) := dk_46 (by decide +kernel)
theorem dX5_crackAt_26 : decode cX5_crackAt 26 = .ok (.ireturn, 1) := dk_172 (by decide +kernel)
set_option maxRecDepth 8000 in
theorem e_X5_crackAt {g : ch_G} {A R : Nat} (hC : ck_Cx g A R) {d : Nat} {K : Option ck_V → ck_W → Prop} {w : ck_W} {a1 a2 a3 : Int} (h : ck_CI (ch_C g A R) d mX5_cell [.inr (.inr 3), .inl a1, .inl a2, .inl a3] w (fun v2 w1 => (¬ v2 = (-1) → (0 ≤ v2 ∧ v2 < ((6 * A * R : Nat) : Int)) ∧ (K (some (.inl (w1 5 v2))) w1)) ∧ (v2 = (-1) → K (some (.inl 0)) w1))) : ck_Ex (ch_C g A R) (d + 1) mX5_crackAt [.inr (.inr 3), .inl a1, .inl a2, .inl a3] w K :=
  ck_entry hC.1 [some (.inr (.inr 3)), some (.inl a1), some (.inl a2), some (.inl a3), none] (by decide) (Nat.le_of_ble_eq_true rfl) rfl (fun q => q) (ck_in (fun hl => (ck_aload_n 1 rfl 0 dX5_crackAt_0 rfl rfl (ck_iload_n 2 rfl 1 dX5_crackAt_1 rfl rfl (ck_iload_n 3 rfl 2 dX5_crackAt_2 rfl rfl (ck_iload_n 4 rfl 3 dX5_crackAt_3 rfl rfl (ck_callV 7 rfl [.inl a1, .inl a2, .inl a3] [] dX5_crackAt_4 cv_X5_53 sh_3 rfl rfl (Nat.le_of_ble_eq_true rfl) (And.intro hl.2.1 (And.intro hl.2.2.1 (And.intro hl.2.2.2.1 True.intro))) (ck_mI h (fun v2 w1 q3 h4 => (ck_istore 9 rfl [some (.inr (.inr 3)), some (.inl a1), some (.inl a2), some (.inl a3), some (.inl v2)] dX5_crackAt_7 (Nat.le_of_ble_eq_true rfl) rfl rfl q3 (ck_iload 11 rfl dX5_crackAt_9 rfl (ck_iconst 12 rfl dX5_crackAt_11 rfl (ck_icmp_ne 15 rfl 19 dX5_crackAt_12 rfl q3 (show ck_i (-1) by decide) (fun c7 => (ck_aload_n 20 rfl 0 dX5_crackAt_19 rfl rfl (ck_getr 23 rfl dX5_crackAt_20 fl_X5_37 sh_3 rfl (ck_iload 25 rfl dX5_crackAt_23 rfl (have h10 := (h4.1 c7); have o5 := h10.1; have h9 := h10.2; (ck_iald 26 rfl dX5_crackAt_25 sh_5 (shn_5 hC) o5 _ rfl (fun (q6 : ck_i (w1 5 v2)) => (ck_iret dX5_crackAt_26 rfl q6 h9)))))))) (fun c8 => (ck_iconst 16 rfl dX5_crackAt_15 rfl (ck_goto 26 dX5_crackAt_16 rfl (ck_iret dX5_crackAt_26 rfl (show ck_i 0 by decide) (h4.2 c8))))))))))))))))))
theorem p_X5_greyAt {g : ch_G} {A R : Nat} (hC : ck_Cx g A R) {d : Nat} {K : Option ck_V → ck_W → Prop} {w : ck_W} {a1 a2 a3 : Int} (hD : cs_D A R w) (h1 : cs_ok A R a1 a2 a3 → K (some (.inl (w 4 (cs_at A R a1 a2 a3)))) w) (h0 : ¬ cs_ok A R a1 a2 a3 → K (some (.inl 0)) w) : ck_Ex (ch_C g A R) (d + 1) mX5_greyAt [.inr (.inr 3), .inl a1, .inl a2, .inl a3] w K :=
  e_X5_greyAt hC (p_X5_cell hC hD (fun ok => ⟨_, rfl, fun _ => ⟨fun _ => ⟨⟨(cs_atb hC ok).1, (cs_atb hC ok).2.1⟩, h1 ok⟩, fun q => absurd (cs_atb hC ok).1 (by omega)⟩⟩) (fun no => ⟨_, rfl, fun _ => ⟨fun q => absurd rfl q, fun _ => h0 no⟩⟩))
theorem p_X5_crackAt {g : ch_G} {A R : Nat} (hC : ck_Cx g A R) {d : Nat} {K : Option ck_V → ck_W → Prop} {w : ck_W} {a1 a2 a3 : Int} (hD : cs_D A R w) (h1 : cs_ok A R a1 a2 a3 → K (some (.inl (w 5 (cs_at A R a1 a2 a3)))) w) (h0 : ¬ cs_ok A R a1 a2 a3 → K (some (.inl 0)) w) : ck_Ex (ch_C g A R) (d + 1) mX5_crackAt [.inr (.inr 3), .inl a1, .inl a2, .inl a3] w K :=
  e_X5_crackAt hC (p_X5_cell hC hD (fun ok => ⟨_, rfl, fun _ => ⟨fun _ => ⟨⟨(cs_atb hC ok).1, (cs_atb hC ok).2.1⟩, h1 ok⟩, fun q => absurd (cs_atb hC ok).1 (by omega)⟩⟩) (fun no => ⟨_, rfl, fun _ => ⟨fun q => absurd rfl q, fun _ => h0 no⟩⟩))
theorem dX10_radiusAt_0 : decode cX10_radiusAt 0 = .ok (.iload_n 1, 1) := dk_27 (by decide +kernel)
theorem dX10_radiusAt_1 : decode cX10_radiusAt 1 = .ok (.ifCond .lt 23, 3) := dk_155 0 23 (by decide +kernel)
theorem dX10_radiusAt_4 : decode cX10_radiusAt 4 = .ok (.iload_n 1, 1) := dk_27 (by decide +kernel)
theorem dX10_radiusAt_5 : decode cX10_radiusAt 5 = .ok (.bipush 6, 2) := dk_16 6 (by decide +kernel)
theorem dX10_radiusAt_7 : decode cX10_radiusAt 7 = .ok (.if_icmp .ge 17, 3) := dk_162 0 17 (by decide +kernel)
theorem dX10_radiusAt_10 : decode cX10_radiusAt 10 = .ok (.iload_n 2, 1) := dk_28 (by decide +kernel)
theorem dX10_radiusAt_11 : decode cX10_radiusAt 11 = .ok (.ifCond .lt 13, 3) := dk_155 0 13 (by decide +kernel)
theorem dX10_radiusAt_14 : decode cX10_radiusAt 14 = .ok (.iload_n 2, 1) := dk_28 (by decide +kernel)
theorem dX10_radiusAt_15 : decode cX10_radiusAt 15 = .ok (.bipush 24, 2) := dk_16 24 (by decide +kernel)
theorem dX10_radiusAt_17 : decode cX10_radiusAt 17 = .ok (.if_icmp .ge 7, 3) := dk_162 0 7 (by decide +kernel)
theorem dX10_radiusAt_20 : decode cX10_radiusAt 20 = .ok (.iconst 1, 1) := dk_4 (by decide +kernel)
theorem dX10_radiusAt_21 : decode cX10_radiusAt 21 = .ok (.goto 4, 3) := dk_167 0 4 (by decide +kernel)
theorem dX10_radiusAt_24 : decode cX10_radiusAt 24 = .ok (.iconst 0, 1) := dk_3 (by decide +kernel)
theorem dX10_radiusAt_25 : decode cX10_radiusAt 25 = .ok (.istore_n 3, 1) := dk_62 (by decide +kernel)
theorem dX10_radiusAt_26 : decode cX10_radiusAt 26 = .ok (.iload_n 3, 1) := dk_29 (by decide +kernel)
theorem dX10_radiusAt_27 : decode cX10_radiusAt 27 = .ok (.ifCond .eq 17, 3) := dk_153 0 17 (by decide +kernel)
theorem dX10_radiusAt_30 : decode cX10_radiusAt 30 = .ok (.aload_n 0, 1) := dk_42 (by decide +kernel)
theorem dX10_radiusAt_31 : decode cX10_radiusAt 31 = .ok (.getfield 22, 3) := dk_180 0 22 (by decide +kernel)
theorem dX10_radiusAt_34 : decode cX10_radiusAt 34 = .ok (.iload_n 1, 1) := dk_27 (by decide +kernel)
theorem dX10_radiusAt_35 : decode cX10_radiusAt 35 = .ok (.bipush 24, 2) := dk_16 24 (by decide +kernel)
theorem dX10_radiusAt_37 : decode cX10_radiusAt 37 = .ok (.imul, 1) := dk_104 (by decide +kernel)
theorem dX10_radiusAt_38 : decode cX10_radiusAt 38 = .ok (.iload_n 2, 1) := dk_28 (by decide +kernel)
theorem dX10_radiusAt_39 : decode cX10_radiusAt 39 = .ok (.iadd, 1) := dk_96 (by decide +kernel)
theorem dX10_radiusAt_40 : decode cX10_radiusAt 40 = .ok (.iaload, 1) := dk_46 (by decide +kernel)
theorem dX10_radiusAt_41 : decode cX10_radiusAt 41 = .ok (.goto 4, 3) := dk_167 0 4 (by decide +kernel)
theorem dX10_radiusAt_44 : decode cX10_radiusAt 44 = .ok (.iconst (-1), 1) := dk_2 (by decide +kernel)
theorem dX10_radiusAt_45 : decode cX10_radiusAt 45 = .ok (.ireturn, 1) := dk_172 (by decide +kernel)
set_option maxRecDepth 8000 in
theorem e_X10_radiusAt {g : ch_G} {A R : Nat} (hC : ck_Cx g A R) {d : Nat} {K : Option ck_V → ck_W → Prop} {w : ck_W} {a1 a2 : Int} (h : (a1 < 0 → K (some (.inl (-1))) w) ∧ (¬ a1 < 0 → (6 ≤ a1 → K (some (.inl (-1))) w) ∧ (¬ 6 ≤ a1 → (a2 < 0 → K (some (.inl (-1))) w) ∧ (¬ a2 < 0 → (24 ≤ a2 → K (some (.inl (-1))) w) ∧ (¬ 24 ≤ a2 → (0 ≤ ((a1 * 24) + a2) ∧ ((a1 * 24) + a2) < 144) ∧ (K (some (.inl (w 62 ((a1 * 24) + a2)))) w)))))) : ck_Ex (ch_C g A R) d mX10_radiusAt [.inr (.inr 51), .inl a1, .inl a2] w K :=
  ck_entry hC.1 [some (.inr (.inr 51)), some (.inl a1), some (.inl a2), none] (by decide) (Nat.le_of_ble_eq_true rfl) rfl (fun q => q) (ck_in (fun hl => (ck_iload_n 1 rfl 1 dX10_radiusAt_0 rfl rfl (ck_if_lt 4 rfl 24 dX10_radiusAt_1 rfl hl.2.1 (fun c9 => (ck_iconst 25 rfl dX10_radiusAt_24 rfl (ck_istore_n 26 rfl 3 [some (.inr (.inr 51)), some (.inl a1), some (.inl a2), some (.inl 0)] dX10_radiusAt_25 rfl (Nat.le_of_ble_eq_true rfl) rfl rfl (show ck_i 0 by decide) (ck_iload_n 27 rfl 3 dX10_radiusAt_26 rfl rfl (ck_if_eq 30 rfl 44 dX10_radiusAt_27 rfl (by decide) (fun _ => (ck_iconst 45 rfl dX10_radiusAt_44 rfl (ck_iret dX10_radiusAt_45 rfl (show ck_i (-1) by decide) (h.1 c9)))) (fun q => absurd q (by decide))))))) (fun c10 => (ck_iload_n 5 rfl 1 dX10_radiusAt_4 rfl rfl (ck_bipush 7 rfl dX10_radiusAt_5 rfl (have h11 := (h.2 c10); (ck_icmp_ge 10 rfl 24 dX10_radiusAt_7 rfl hl.2.1 (show ck_i 6 by decide) (fun c7 => (ck_iconst 25 rfl dX10_radiusAt_24 rfl (ck_istore_n 26 rfl 3 [some (.inr (.inr 51)), some (.inl a1), some (.inl a2), some (.inl 0)] dX10_radiusAt_25 rfl (Nat.le_of_ble_eq_true rfl) rfl rfl (show ck_i 0 by decide) (ck_iload_n 27 rfl 3 dX10_radiusAt_26 rfl rfl (ck_if_eq 30 rfl 44 dX10_radiusAt_27 rfl (by decide) (fun _ => (ck_iconst 45 rfl dX10_radiusAt_44 rfl (ck_iret dX10_radiusAt_45 rfl (show ck_i (-1) by decide) (h11.1 c7)))) (fun q => absurd q (by decide))))))) (fun c8 => (ck_iload_n 11 rfl 2 dX10_radiusAt_10 rfl rfl (have h12 := (h11.2 c8); (ck_if_lt 14 rfl 24 dX10_radiusAt_11 rfl hl.2.2.1 (fun c5 => (ck_iconst 25 rfl dX10_radiusAt_24 rfl (ck_istore_n 26 rfl 3 [some (.inr (.inr 51)), some (.inl a1), some (.inl a2), some (.inl 0)] dX10_radiusAt_25 rfl (Nat.le_of_ble_eq_true rfl) rfl rfl (show ck_i 0 by decide) (ck_iload_n 27 rfl 3 dX10_radiusAt_26 rfl rfl (ck_if_eq 30 rfl 44 dX10_radiusAt_27 rfl (by decide) (fun _ => (ck_iconst 45 rfl dX10_radiusAt_44 rfl (ck_iret dX10_radiusAt_45 rfl (show ck_i (-1) by decide) (h12.1 c5)))) (fun q => absurd q (by decide))))))) (fun c6 => (ck_iload_n 15 rfl 2 dX10_radiusAt_14 rfl rfl (ck_bipush 17 rfl dX10_radiusAt_15 rfl (have h13 := (h12.2 c6); (ck_icmp_ge 20 rfl 24 dX10_radiusAt_17 rfl hl.2.2.1 (show ck_i 24 by decide) (fun c3 => (ck_iconst 25 rfl dX10_radiusAt_24 rfl (ck_istore_n 26 rfl 3 [some (.inr (.inr 51)), some (.inl a1), some (.inl a2), some (.inl 0)] dX10_radiusAt_25 rfl (Nat.le_of_ble_eq_true rfl) rfl rfl (show ck_i 0 by decide) (ck_iload_n 27 rfl 3 dX10_radiusAt_26 rfl rfl (ck_if_eq 30 rfl 44 dX10_radiusAt_27 rfl (by decide) (fun _ => (ck_iconst 45 rfl dX10_radiusAt_44 rfl (ck_iret dX10_radiusAt_45 rfl (show ck_i (-1) by decide) (h13.1 c3)))) (fun q => absurd q (by decide))))))) (fun c4 => (ck_iconst 21 rfl dX10_radiusAt_20 rfl (ck_goto 25 dX10_radiusAt_21 rfl (ck_istore_n 26 rfl 3 [some (.inr (.inr 51)), some (.inl a1), some (.inl a2), some (.inl 1)] dX10_radiusAt_25 rfl (Nat.le_of_ble_eq_true rfl) rfl rfl (show ck_i 1 by decide) (ck_iload_n 27 rfl 3 dX10_radiusAt_26 rfl rfl (ck_if_eq 30 rfl 44 dX10_radiusAt_27 rfl (by decide) (fun q => absurd q (by decide)) (fun _ => (ck_aload_n 31 rfl 0 dX10_radiusAt_30 rfl rfl (ck_getr 34 rfl dX10_radiusAt_31 fl_X10_22 sh_51 rfl (ck_iload_n 35 rfl 1 dX10_radiusAt_34 rfl rfl (ck_bipush 37 rfl dX10_radiusAt_35 rfl (ck_imul 38 rfl dX10_radiusAt_37 (ck_iload_n 39 rfl 2 dX10_radiusAt_38 rfl rfl (ck_iadd 40 rfl dX10_radiusAt_39 (have h15 := (h13.2 c4); have o1 := h15.1; have h14 := h15.2; (ck_iald 41 rfl dX10_radiusAt_40 sh_62 (shn_62 hC) o1 _ rfl (fun (q2 : ck_i (w 62 ((a1 * 24) + a2))) => (ck_goto 45 dX10_radiusAt_41 rfl (ck_iret dX10_radiusAt_45 rfl q2 h14)))))))))))))))))))))))))))))))))))))
theorem p_X10_radiusAt {g : ch_G} {A R : Nat} (hC : ck_Cx g A R) {d : Nat} {K : Option ck_V → ck_W → Prop} {w : ck_W} {a1 a2 : Int} (h1 : (0 ≤ a1 ∧ a1 ≤ 5) ∧ (0 ≤ a2 ∧ a2 < 24) → K (some (.inl (w 62 (a1 * 24 + a2)))) w) (h0 : ¬ ((0 ≤ a1 ∧ a1 ≤ 5) ∧ (0 ≤ a2 ∧ a2 < 24)) → K (some (.inl (-1))) w) : ck_Ex (ch_C g A R) d mX10_radiusAt [.inr (.inr 51), .inl a1, .inl a2] w K :=
  e_X10_radiusAt hC ⟨fun q => h0 (by omega), fun q1 => ⟨fun q => h0 (by omega), fun q2 => ⟨fun q => h0 (by omega), fun q3 => ⟨fun q => h0 (by omega), fun q4 => ⟨by omega, h1 (by omega)⟩⟩⟩⟩⟩
theorem dX10_isSure_0 : decode cX10_isSure 0 = .ok (.iload_n 1, 1) := dk_27 (by decide +kernel)
theorem dX10_isSure_1 : decode cX10_isSure 1 = .ok (.bipush 24, 2) := dk_16 24 (by decide +kernel)
theorem dX10_isSure_3 : decode cX10_isSure 3 = .ok (.imul, 1) := dk_104 (by decide +kernel)
theorem dX10_isSure_4 : decode cX10_isSure 4 = .ok (.iload_n 2, 1) := dk_28 (by decide +kernel)
theorem dX10_isSure_5 : decode cX10_isSure 5 = .ok (.iadd, 1) := dk_96 (by decide +kernel)
theorem dX10_isSure_6 : decode cX10_isSure 6 = .ok (.istore_n 3, 1) := dk_62 (by decide +kernel)
theorem dX10_isSure_7 : decode cX10_isSure 7 = .ok (.aload_n 0, 1) := dk_42 (by decide +kernel)
theorem dX10_isSure_8 : decode cX10_isSure 8 = .ok (.getfield 28, 3) := dk_180 0 28 (by decide +kernel)
theorem dX10_isSure_11 : decode cX10_isSure 11 = .ok (.iload_n 1, 1) := dk_27 (by decide +kernel)
theorem dX10_isSure_12 : decode cX10_isSure 12 = .ok (.iload_n 2, 1) := dk_28 (by decide +kernel)
theorem dX10_isSure_13 : decode cX10_isSure 13 = .ok (.invokevirtual 111, 3) := dk_182 0 111 (by decide +kernel)
theorem dX10_isSure_16 : decode cX10_isSure 16 = .ok (.ifCond .eq 22, 3) := dk_153 0 22 (by decide +kernel)
theorem dX10_isSure_19 : decode cX10_isSure 19 = .ok (.aload_n 0, 1) := dk_42 (by decide +kernel)
theorem dX10_isSure_20 : decode cX10_isSure 20 = .ok (.getfield 22, 3) := dk_180 0 22 (by decide +kernel)
theorem dX10_isSure_23 : decode cX10_isSure 23 = .ok (.iload_n 3, 1) := dk_29 (by decide +kernel)
theorem dX10_isSure_24 : decode cX10_isSure 24 = .ok (.iaload, 1) := dk_46 (by decide +kernel)
theorem dX10_isSure_25 : decode cX10_isSure 25 = .ok (.aload_n 0, 1) := dk_42 (by decide +kernel)
theorem dX10_isSure_26 : decode cX10_isSure 26 = .ok (.getfield 25, 3) := dk_180 0 25 (by decide +kernel)
theorem dX10_isSure_29 : decode cX10_isSure 29 = .ok (.iload_n 3, 1) := dk_29 (by decide +kernel)
theorem dX10_isSure_30 : decode cX10_isSure 30 = .ok (.iaload, 1) := dk_46 (by decide +kernel)
theorem dX10_isSure_31 : decode cX10_isSure 31 = .ok (.if_icmp .ne 7, 3) := dk_160 0 7 (by decide +kernel)
theorem dX10_isSure_34 : decode cX10_isSure 34 = .ok (.iconst 1, 1) := dk_4 (by decide +kernel)
theorem dX10_isSure_35 : decode cX10_isSure 35 = .ok (.goto 4, 3) := dk_167 0 4 (by decide +kernel)
theorem dX10_isSure_38 : decode cX10_isSure 38 = .ok (.iconst 0, 1) := dk_3 (by decide +kernel)
theorem dX10_isSure_39 : decode cX10_isSure 39 = .ok (.ireturn, 1) := dk_172 (by decide +kernel)
set_option maxRecDepth 8000 in
theorem e_X10_isSure {g : ch_G} {A R : Nat} (hC : ck_Cx g A R) {d : Nat} {K : Option ck_V → ck_W → Prop} {w : ck_W} {a1 a2 : Int} (h : ck_i ((a1 * 24) + a2) ∧ (ck_CI (ch_C g A R) d mX5_hasPlace [.inr (.inr 3), .inl a1, .inl a2] w (fun v3 w2 => (v3 = 0 → K (some (.inl 0)) w2) ∧ (¬ v3 = 0 → (0 ≤ ((a1 * 24) + a2) ∧ ((a1 * 24) + a2) < 144) ∧ ((¬ (w2 62 ((a1 * 24) + a2)) = (w2 63 ((a1 * 24) + a2)) → K (some (.inl 0)) w2) ∧ ((w2 62 ((a1 * 24) + a2)) = (w2 63 ((a1 * 24) + a2)) → K (some (.inl 1)) w2)))))) : ck_Ex (ch_C g A R) (d + 1) mX10_isSure [.inr (.inr 51), .inl a1, .inl a2] w K :=
  ck_entry hC.1 [some (.inr (.inr 51)), some (.inl a1), some (.inl a2), none] (by decide) (Nat.le_of_ble_eq_true rfl) rfl (fun q => q) (ck_in (fun hl => (ck_iload_n 1 rfl 1 dX10_isSure_0 rfl rfl (ck_bipush 3 rfl dX10_isSure_1 rfl (ck_imul 4 rfl dX10_isSure_3 (ck_iload_n 5 rfl 2 dX10_isSure_4 rfl rfl (ck_iadd 6 rfl dX10_isSure_5 (have h14 := h; have o1 := h14.1; have h13 := h14.2; (ck_istore_n 7 rfl 3 [some (.inr (.inr 51)), some (.inl a1), some (.inl a2), some (.inl ((a1 * 24) + a2))] dX10_isSure_6 rfl (Nat.le_of_ble_eq_true rfl) rfl rfl o1 (ck_aload_n 8 rfl 0 dX10_isSure_7 rfl rfl (ck_getr 11 rfl dX10_isSure_8 fl_X10_28 sh_51 rfl (ck_iload_n 12 rfl 1 dX10_isSure_11 rfl rfl (ck_iload_n 13 rfl 2 dX10_isSure_12 rfl rfl (ck_callV 16 rfl [.inl a1, .inl a2] [] dX10_isSure_13 cv_X10_111 sh_3 rfl rfl (Nat.le_of_ble_eq_true rfl) (And.intro hl.2.1 (And.intro hl.2.2.1 True.intro)) (ck_mI h13 (fun v3 w2 q4 h5 => (ck_if_eq 19 rfl 38 dX10_isSure_16 rfl q4 (fun c11 => (ck_iconst 39 rfl dX10_isSure_38 rfl (ck_zret dX10_isSure_39 rfl (by decide) (h5.1 c11)))) (fun c12 => (ck_aload_n 20 rfl 0 dX10_isSure_19 rfl rfl (ck_getr 23 rfl dX10_isSure_20 fl_X10_22 sh_51 rfl (ck_iload_n 24 rfl 3 dX10_isSure_23 rfl rfl (have h16 := (h5.2 c12); have o6 := h16.1; have h15 := h16.2; (ck_iald 25 rfl dX10_isSure_24 sh_62 (shn_62 hC) o6 _ rfl (fun (q7 : ck_i (w2 62 ((a1 * 24) + a2))) => (ck_aload_n 26 rfl 0 dX10_isSure_25 rfl rfl (ck_getr 29 rfl dX10_isSure_26 fl_X10_25 sh_51 rfl (ck_iload_n 30 rfl 3 dX10_isSure_29 rfl rfl (ck_iald 31 rfl dX10_isSure_30 sh_63 (shn_63 hC) o6 _ rfl (fun (q8 : ck_i (w2 63 ((a1 * 24) + a2))) => (ck_icmp_ne 34 rfl 38 dX10_isSure_31 rfl q7 q8 (fun c9 => (ck_iconst 39 rfl dX10_isSure_38 rfl (ck_zret dX10_isSure_39 rfl (by decide) (h15.1 c9)))) (fun c10 => (ck_iconst 35 rfl dX10_isSure_34 rfl (ck_goto 39 dX10_isSure_35 rfl (ck_zret dX10_isSure_39 rfl (by decide) (h15.2 c10)))))))))))))))))))))))))))))))))))
theorem p_X10_isSure {g : ch_G} {A R : Nat} (hC : ck_Cx g A R) {d : Nat} {K : Option ck_V → ck_W → Prop} {w : ck_W} {a1 a2 : Int} (hD : cs_D A R w) (hT : cs_T w) (hh : cs_has A w a1 a2) (h : K (some (.inl (if w 62 (a1 * 24 + a2) = w 63 (a1 * 24 + a2) then 1 else 0))) w) : ck_Ex (ch_C g A R) (d + 2) mX10_isSure [.inr (.inr 51), .inl a1, .inl a2] w K := by
  have b := cs_tb hC hT hh.1
  have h1 := hh.1
  have h2 := hh.2
  refine e_X10_isSure hC ⟨by constructor <;> omega, p_X5_hasPlace hC hD hT (fun _ => ⟨_, rfl, fun _ => ⟨fun q => absurd q (by decide), fun _ => ⟨by omega, fun z => ?_, fun z => ?_⟩⟩⟩) (fun no => absurd hh no)⟩
  · rw [if_neg z] at h; exact h
  · rw [if_pos z] at h; exact h
