/-! ===== the class: chances ===== -/
def cs_H (w : ck_W) : Prop := (1 ≤ w 15 6 ∧ w 15 6 ≤ 3) ∧ (1 ≤ w 15 7 ∧ w 15 7 ≤ 3)
theorem cs_chb {h m a n : Int} (hh : 1 ≤ h ∧ h ≤ 3) (hm : 1 ≤ m ∧ m ≤ 3) (ha : 0 ≤ a ∧ a ≤ n) (hn : n ≤ 27) : 0 ≤ ck_pw h a * ck_pw m (n - a) ∧ ck_pw h a * ck_pw m (n - a) ≤ 7625597484987 := by
  have f := ck_fitb (h := h) (m := m) (a := a) (n := n) (top := 3) (by omega) (by omega) ha
  have t := (ck_pw_b (b := ((3 : Nat) : Int)) (e := n) (by omega) (by omega)).2
  have p1 := (ck_pw_b (b := h) (e := a) (by omega) (by omega)).1
  have p2 := (ck_pw_b (b := m) (e := n - a) (by omega) (by omega)).1
  have pp := Int.mul_nonneg p1 p2
  omega
theorem dX2_chanceOf_0 : decode cX2_chanceOf 0 = .ok (.aload_n 0, 1) := dk_42 (by decide +kernel)
theorem dX2_chanceOf_1 : decode cX2_chanceOf 1 = .ok (.getfield 24, 3) := dk_180 0 24 (by decide +kernel)
theorem dX2_chanceOf_4 : decode cX2_chanceOf 4 = .ok (.iload_n 1, 1) := dk_27 (by decide +kernel)
theorem dX2_chanceOf_5 : decode cX2_chanceOf 5 = .ok (.invokestatic 59, 3) := dk_184 0 59 (by decide +kernel)
theorem dX2_chanceOf_8 : decode cX2_chanceOf 8 = .ok (.aload_n 0, 1) := dk_42 (by decide +kernel)
theorem dX2_chanceOf_9 : decode cX2_chanceOf 9 = .ok (.getfield 28, 3) := dk_180 0 28 (by decide +kernel)
theorem dX2_chanceOf_12 : decode cX2_chanceOf 12 = .ok (.iload_n 2, 1) := dk_28 (by decide +kernel)
theorem dX2_chanceOf_13 : decode cX2_chanceOf 13 = .ok (.iload_n 1, 1) := dk_27 (by decide +kernel)
theorem dX2_chanceOf_14 : decode cX2_chanceOf 14 = .ok (.isub, 1) := dk_100 (by decide +kernel)
theorem dX2_chanceOf_15 : decode cX2_chanceOf 15 = .ok (.invokestatic 59, 3) := dk_184 0 59 (by decide +kernel)
theorem dX2_chanceOf_18 : decode cX2_chanceOf 18 = .ok (.lmul, 1) := dk_105 (by decide +kernel)
theorem dX2_chanceOf_19 : decode cX2_chanceOf 19 = .ok (.lreturn, 1) := dk_173 (by decide +kernel)
set_option maxRecDepth 8000 in
theorem e_X2_chanceOf {g : ch_G} {A R : Nat} (hC : ck_Cx g A R) {d : Nat} {K : Option ck_V → ck_W → Prop} {w : ck_W} {a1 a2 : Int} (h : (0 ≤ (w 15 6)) ∧ ((0 ≤ a1) ∧ ((((w 15 6) ≤ 3 ∧ a1 ≤ 27) ∨ ((w 15 6) ≤ 10 ∧ a1 ≤ 12)) ∧ (ck_i (a2 - a1) ∧ ((0 ≤ (w 15 7)) ∧ ((0 ≤ (a2 - a1)) ∧ ((((w 15 7) ≤ 3 ∧ (a2 - a1) ≤ 27) ∨ ((w 15 7) ≤ 10 ∧ (a2 - a1) ≤ 12)) ∧ (ck_l ((ck_pw (w 15 6) a1) * (ck_pw (w 15 7) (a2 - a1))) ∧ (K (some (.inr (.inl ((ck_pw (w 15 6) a1) * (ck_pw (w 15 7) (a2 - a1)))))) w))))))))) : ck_Ex (ch_C g A R) (d + 1) mX2_chanceOf [.inr (.inr 15), .inl a1, .inl a2] w K :=
  ck_entry hC.1 [some (.inr (.inr 15)), some (.inl a1), some (.inl a2)] (by decide) (Nat.le_of_ble_eq_true rfl) rfl (fun q => q) (ck_in (fun hl => (ck_aload_n 1 rfl 0 dX2_chanceOf_0 rfl rfl (ck_geti 4 rfl 6 dX2_chanceOf_1 fl_X2_24 sh_15 rfl rfl _ rfl (fun (q1 : ck_i (w 15 6)) => (ck_iload_n 5 rfl 1 dX2_chanceOf_4 rfl rfl (have h14 := h; have o2 := h14.1; have h13 := h14.2; (have h16 := h13; have o3 := h16.1; have h15 := h16.2; (have h18 := h15; have o4 := h18.1; have h17 := h18.2; (ck_callSN 8 rfl [.inl (w 15 6), .inl a1] [] dX2_chanceOf_5 cn_X2_59 rfl rfl (Nat.le_of_ble_eq_true rfl) (And.intro q1 (And.intro hl.2.1 True.intro)) (p_X11_power hC o2 o3 o4 (fun q5 => (ck_aload_n 9 rfl 0 dX2_chanceOf_8 rfl rfl (ck_geti 12 rfl 7 dX2_chanceOf_9 fl_X2_28 sh_15 rfl rfl _ rfl (fun (q6 : ck_i (w 15 7)) => (ck_iload_n 13 rfl 2 dX2_chanceOf_12 rfl rfl (ck_iload_n 14 rfl 1 dX2_chanceOf_13 rfl rfl (ck_isub 15 rfl dX2_chanceOf_14 (have h20 := h17; have o7 := h20.1; have h19 := h20.2; (have h22 := h19; have o8 := h22.1; have h21 := h22.2; (have h24 := h21; have o9 := h24.1; have h23 := h24.2; (have h26 := h23; have o10 := h26.1; have h25 := h26.2; (ck_callSN 18 rfl [.inl (w 15 7), .inl (a2 - a1)] [.inr (.inl (ck_pw (w 15 6) a1))] dX2_chanceOf_15 cn_X2_59 rfl rfl (Nat.le_of_ble_eq_true rfl) (And.intro q6 (And.intro o7 True.intro)) (p_X11_power hC o8 o9 o10 (fun q11 => (ck_lmul 19 rfl dX2_chanceOf_18 (have h28 := h25; have o12 := h28.1; have h27 := h28.2; (ck_lret dX2_chanceOf_19 rfl o12 h27))))))))))))))))))))))))))))
theorem p_X2_chanceOf {g : ch_G} {A R : Nat} (hC : ck_Cx g A R) {d : Nat} {K : Option ck_V → ck_W → Prop} {w : ck_W} {a1 a2 : Int} (hH : cs_H w) (ha : 0 ≤ a1 ∧ a1 ≤ a2) (hn : a2 ≤ 27) (h : K (some (.inr (.inl (ck_pw (w 15 6) a1 * ck_pw (w 15 7) (a2 - a1))))) w) : ck_Ex (ch_C g A R) (d + 1) mX2_chanceOf [.inr (.inr 15), .inl a1, .inl a2] w K := by
  have b := cs_chb hH.1 hH.2 ha hn
  have h1 := hH.1
  have h2 := hH.2
  refine e_X2_chanceOf hC ⟨by omega, by omega, by omega, by constructor <;> omega, by omega, by omega, by omega, ?_, h⟩
  generalize ck_pw (w 15 6) a1 * ck_pw (w 15 7) (a2 - a1) = v at *
  constructor <;> omega
/-- what a letter weighs -/
def cs_Lw (w : ck_W) : Prop := ∀ k, 0 ≤ k → k < w 15 2 → 1 ≤ w 17 k ∧ w 17 k ≤ 99
def cs_lc (w : ck_W) (k s : Int) : Int := w 17 k * (ck_pw (w 15 6) (9 - ck_on 9 (ck_xor (w 16 k) s)) * ck_pw (w 15 7) (9 - (9 - ck_on 9 (ck_xor (w 16 k) s))))
theorem cs_lcb {w : ck_W} (hL : cs_L w) (hW : cs_Lw w) (hH : cs_H w) {k s : Int} (hk : 0 ≤ k ∧ k < w 15 2) (hs : 0 ≤ s ∧ s < 512) : 0 ≤ cs_lc w k s ∧ cs_lc w k s ≤ 754934151013713 := by
  have x := kb_xor9 (hL.2 k hk.1 hk.2) hs
  have o := ck_onb x 9 (by omega)
  unfold cs_lc
  generalize ck_on 9 (ck_xor (w 16 k) s) = v at *
  have b := cs_chb hH.1 hH.2 (a := 9 - v) (n := 9) (by omega) (by omega)
  have t := hW k hk.1 hk.2
  generalize ck_pw (w 15 6) (9 - v) * ck_pw (w 15 7) (9 - (9 - v)) = y at *
  have u0 : 0 ≤ w 17 k * y := Int.mul_nonneg (by omega) b.1
  have u1 : w 17 k * y ≤ 99 * y := Int.mul_le_mul_of_nonneg_right t.2 b.1
  omega
theorem dX2_letterChance_0 : decode cX2_letterChance 0 = .ok (.aload_n 0, 1) := dk_42 (by decide +kernel)
theorem dX2_letterChance_1 : decode cX2_letterChance 1 = .ok (.iload_n 1, 1) := dk_27 (by decide +kernel)
theorem dX2_letterChance_2 : decode cX2_letterChance 2 = .ok (.invokevirtual 45, 3) := dk_182 0 45 (by decide +kernel)
theorem dX2_letterChance_5 : decode cX2_letterChance 5 = .ok (.ifCond .eq 26, 3) := dk_153 0 26 (by decide +kernel)
theorem dX2_letterChance_8 : decode cX2_letterChance 8 = .ok (.aload_n 0, 1) := dk_42 (by decide +kernel)
theorem dX2_letterChance_9 : decode cX2_letterChance 9 = .ok (.getfield 15, 3) := dk_180 0 15 (by decide +kernel)
theorem dX2_letterChance_12 : decode cX2_letterChance 12 = .ok (.iload_n 1, 1) := dk_27 (by decide +kernel)
theorem dX2_letterChance_13 : decode cX2_letterChance 13 = .ok (.iaload, 1) := dk_46 (by decide +kernel)
theorem dX2_letterChance_14 : decode cX2_letterChance 14 = .ok (.i2l, 1) := dk_133 (by decide +kernel)
theorem dX2_letterChance_15 : decode cX2_letterChance 15 = .ok (.aload_n 0, 1) := dk_42 (by decide +kernel)
theorem dX2_letterChance_16 : decode cX2_letterChance 16 = .ok (.aload_n 0, 1) := dk_42 (by decide +kernel)
theorem dX2_letterChance_17 : decode cX2_letterChance 17 = .ok (.iload_n 1, 1) := dk_27 (by decide +kernel)
theorem dX2_letterChance_18 : decode cX2_letterChance 18 = .ok (.iload_n 2, 1) := dk_28 (by decide +kernel)
theorem dX2_letterChance_19 : decode cX2_letterChance 19 = .ok (.invokevirtual 63, 3) := dk_182 0 63 (by decide +kernel)
theorem dX2_letterChance_22 : decode cX2_letterChance 22 = .ok (.bipush 9, 2) := dk_16 9 (by decide +kernel)
theorem dX2_letterChance_24 : decode cX2_letterChance 24 = .ok (.invokevirtual 66, 3) := dk_182 0 66 (by decide +kernel)
theorem dX2_letterChance_27 : decode cX2_letterChance 27 = .ok (.lmul, 1) := dk_105 (by decide +kernel)
theorem dX2_letterChance_28 : decode cX2_letterChance 28 = .ok (.goto 4, 3) := dk_167 0 4 (by decide +kernel)
theorem dX2_letterChance_31 : decode cX2_letterChance 31 = .ok (.lconst 0, 1) := dk_9 (by decide +kernel)
theorem dX2_letterChance_32 : decode cX2_letterChance 32 = .ok (.lreturn, 1) := dk_173 (by decide +kernel)
set_option maxRecDepth 8000 in
theorem e_X2_letterChance {g : ch_G} {A R : Nat} (hC : ck_Cx g A R) {d : Nat} {K : Option ck_V → ck_W → Prop} {w : ck_W} {a1 a2 : Int} (h : (0 ≤ (w 15 2) ∧ (w 15 2) ≤ 1000) ∧ ((0 ≤ a1 ∧ a1 ≤ (w 15 2) - 1 → (0 ≤ a1 ∧ a1 < 12) ∧ (ck_CI (ch_C g A R) (d + 1) mX2_like [.inr (.inr 15), .inl a1, .inl a2] w (fun v5 w4 => ck_CJ (ch_C g A R) (d + 1) mX2_chanceOf [.inr (.inr 15), .inl v5, .inl 9] w4 (fun v9 w8 => ck_l ((w 17 a1) * v9) ∧ (K (some (.inr (.inl ((w 17 a1) * v9)))) w8))))) ∧ (¬ (0 ≤ a1 ∧ a1 ≤ (w 15 2) - 1) → K (some (.inr (.inl 0))) w))) : ck_Ex (ch_C g A R) (d + 2) mX2_letterChance [.inr (.inr 15), .inl a1, .inl a2] w K :=
  ck_entry hC.1 [some (.inr (.inr 15)), some (.inl a1), some (.inl a2)] (by decide) (Nat.le_of_ble_eq_true rfl) rfl (fun q => q) (ck_in (fun hl => (ck_aload_n 1 rfl 0 dX2_letterChance_0 rfl rfl (ck_iload_n 2 rfl 1 dX2_letterChance_1 rfl rfl (have h17 := h; have o1 := h17.1; have h16 := h17.2; (have h15 := h16; ck_callV 5 rfl [.inl a1] [] dX2_letterChance_2 cv_X2_45 sh_15 rfl rfl (Nat.le_of_ble_eq_true rfl) (And.intro hl.2.1 True.intro) (p_X2_hasLetter hC o1 (fun c13 _ => (ck_if_eq 8 rfl 31 dX2_letterChance_5 rfl (by decide) (fun q => absurd q (by decide)) (fun _ => (ck_aload_n 9 rfl 0 dX2_letterChance_8 rfl rfl (ck_getr 12 rfl dX2_letterChance_9 fl_X2_15 sh_15 rfl (ck_iload_n 13 rfl 1 dX2_letterChance_12 rfl rfl (have h19 := (h15.1 c13); have o2 := h19.1; have h18 := h19.2; (ck_iald 14 rfl dX2_letterChance_13 sh_17 (shn_17 hC) o2 _ rfl (fun (q3 : ck_i (w 17 a1)) => (ck_i2l 15 rfl dX2_letterChance_14 q3 (ck_aload_n 16 rfl 0 dX2_letterChance_15 rfl rfl (ck_aload_n 17 rfl 0 dX2_letterChance_16 rfl rfl (ck_iload_n 18 rfl 1 dX2_letterChance_17 rfl rfl (ck_iload_n 19 rfl 2 dX2_letterChance_18 rfl rfl (ck_callV 22 rfl [.inl a1, .inl a2] [.inr (.inr 15), .inr (.inl (w 17 a1))] dX2_letterChance_19 cv_X2_63 sh_15 rfl rfl (Nat.le_of_ble_eq_true rfl) (And.intro hl.2.1 (And.intro hl.2.2.1 True.intro)) (ck_mI h18 (fun v5 w4 q6 h7 => (ck_bipush 24 rfl dX2_letterChance_22 rfl (ck_callV 27 rfl [.inl v5, .inl 9] [.inr (.inl (w 17 a1))] dX2_letterChance_24 cv_X2_66 sh_15 rfl rfl (Nat.le_of_ble_eq_true rfl) (And.intro q6 (And.intro (show ck_i 9 by decide) True.intro)) (ck_mJ h7 (fun v9 w8 q10 h11 => (ck_lmul 28 rfl dX2_letterChance_27 (ck_goto 32 dX2_letterChance_28 rfl (have h21 := h11; have o12 := h21.1; have h20 := h21.2; (ck_lret dX2_letterChance_32 rfl o12 h20))))))))))))))))))))))))) (fun c14 _ => (ck_if_eq 8 rfl 31 dX2_letterChance_5 rfl (by decide) (fun _ => (ck_lconst 32 rfl 0 dX2_letterChance_31 rfl (ck_lret dX2_letterChance_32 rfl (show ck_l 0 by decide) (h15.2 c14)))) (fun q => absurd q (by decide)))))))))))
theorem p_X2_letterChance {g : ch_G} {A R : Nat} (hC : ck_Cx g A R) {d : Nat} {K : Option ck_V → ck_W → Prop} {w : ck_W} {a1 a2 : Int} (hL : cs_L w) (hW : cs_Lw w) (hH : cs_H w) (h2 : 0 ≤ a2 ∧ a2 < 512) (h1 : 0 ≤ a1 ∧ a1 < w 15 2) (h : K (some (.inr (.inl (cs_lc w a1 a2)))) w) : ck_Ex (ch_C g A R) (d + 3) mX2_letterChance [.inr (.inr 15), .inl a1, .inl a2] w K := by
  have l0 := hL.1
  have x := kb_xor9 (hL.2 a1 h1.1 h1.2) h2
  have b := cs_lcb hL hW hH h1 h2
  have o := ck_onb x 9 (by omega)
  unfold cs_lc at b h
  have no : ∀ q : ¬ (0 ≤ a1 ∧ a1 ≤ w 15 2 - 1), K (some (.inr (.inl 0))) w := fun q => absurd ⟨h1.1, by omega⟩ q
  refine e_X2_letterChance hC ⟨⟨l0.1, by omega⟩, fun _ => ⟨⟨h1.1, by omega⟩, p_X2_like hC hL h2 h1 ?_⟩, no⟩
  generalize ck_on 9 (ck_xor (w 16 a1) a2) = v at *
  refine ⟨_, rfl, fun _ => p_X2_chanceOf hC hH (by omega) (by omega) ⟨_, rfl, fun _ => ⟨?_, h⟩⟩⟩
  generalize w 17 a1 * (ck_pw (w 15 6) (9 - v) * ck_pw (w 15 7) (9 - (9 - v))) = y at *
  constructor <;> omega
