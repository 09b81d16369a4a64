/-! ===== the class: chances ===== -/
def cs_H (w : ck_W) : Prop := (1 ≤ w 15 6 ∧ w 15 6 ≤ 3) ∧ (1 ≤ w 15 7 ∧ w 15 7 ≤ 3)
theorem cs_chb {h m a n : Int} (hh : 1 ≤ h ∧ h ≤ 3) (hm : 1 ≤ m ∧ m ≤ 3) (ha : 0 ≤ a ∧ a ≤ n) (hn : n ≤ 27) : 0 ≤ ck_pw h a * ck_pw m (n - a) ∧ ck_pw h a * ck_pw m (n - a) ≤ 7625597484987 := by
  have f := ck_fitb (h := h) (m := m) (a := a) (n := n) (top := 3) (by omega) (by omega) ha
  have t := (ck_pw_b (b := ((3 : Nat) : Int)) (e := n) (by omega) (by omega)).2
  have p1 := (ck_pw_b (b := h) (e := a) (by omega) (by omega)).1
  have p2 := (ck_pw_b (b := m) (e := n - a) (by omega) (by omega)).1
  have pp := Int.mul_nonneg p1 p2
  omega
theorem dX2_chanceOf_0 : decode cX2_chanceOf 0 = .ok (.aload_n 0, 1) := by decide +kernel
theorem dX2_chanceOf_1 : decode cX2_chanceOf 1 = .ok (.getfield 24, 3) := by decide +kernel
theorem dX2_chanceOf_4 : decode cX2_chanceOf 4 = .ok (.iload_n 1, 1) := by decide +kernel
theorem dX2_chanceOf_5 : decode cX2_chanceOf 5 = .ok (.invokestatic 59, 3) := by decide +kernel
theorem dX2_chanceOf_8 : decode cX2_chanceOf 8 = .ok (.aload_n 0, 1) := by decide +kernel
theorem dX2_chanceOf_9 : decode cX2_chanceOf 9 = .ok (.getfield 28, 3) := by decide +kernel
theorem dX2_chanceOf_12 : decode cX2_chanceOf 12 = .ok (.iload_n 2, 1) := by decide +kernel
theorem dX2_chanceOf_13 : decode cX2_chanceOf 13 = .ok (.iload_n 1, 1) := by decide +kernel
theorem dX2_chanceOf_14 : decode cX2_chanceOf 14 = .ok (.isub, 1) := by decide +kernel
theorem dX2_chanceOf_15 : decode cX2_chanceOf 15 = .ok (.invokestatic 59, 3) := by decide +kernel
theorem dX2_chanceOf_18 : decode cX2_chanceOf 18 = .ok (.lmul, 1) := by decide +kernel
theorem dX2_chanceOf_19 : decode cX2_chanceOf 19 = .ok (.lreturn, 1) := by decide +kernel
set_option maxRecDepth 8000 in
theorem e_X2_chanceOf {g : ch_G} {A R : Nat} (hC : ck_Cx g A R) {d : Nat} {K : Option ck_V → ck_W → Prop} {w : ck_W} {a1 a2 : Int} (h : (0 ≤ (w 15 6)) ∧ ((0 ≤ a1) ∧ ((((w 15 6) ≤ 3 ∧ a1 ≤ 27) ∨ ((w 15 6) ≤ 10 ∧ a1 ≤ 12)) ∧ (ck_i (a2 - a1) ∧ ((0 ≤ (w 15 7)) ∧ ((0 ≤ (a2 - a1)) ∧ ((((w 15 7) ≤ 3 ∧ (a2 - a1) ≤ 27) ∨ ((w 15 7) ≤ 10 ∧ (a2 - a1) ≤ 12)) ∧ (ck_l ((ck_pw (w 15 6) a1) * (ck_pw (w 15 7) (a2 - a1))) ∧ (K (some (.inr (.inl ((ck_pw (w 15 6) a1) * (ck_pw (w 15 7) (a2 - a1)))))) w))))))))) : ck_Ex (ch_C g A R) (d + 1) mX2_chanceOf [.inr (.inr 15), .inl a1, .inl a2] w K :=
  ck_entry hC.1 [some (.inr (.inr 15)), some (.inl a1), some (.inl a2)] (by decide) (Nat.le_of_ble_eq_true rfl) rfl (fun q => q) (ck_in (fun hl => (ck_aload_n 1 rfl 0 dX2_chanceOf_0 rfl rfl (ck_geti 4 rfl 6 dX2_chanceOf_1 fl_X2_24 sh_15 rfl rfl _ rfl (fun (q1 : ck_i (w 15 6)) => (ck_iload_n 5 rfl 1 dX2_chanceOf_4 rfl rfl (have h14 := h; have o2 := h14.1; have h13 := h14.2; (have h16 := h13; have o3 := h16.1; have h15 := h16.2; (have h18 := h15; have o4 := h18.1; have h17 := h18.2; (ck_callSN 8 rfl [.inl (w 15 6), .inl a1] [] dX2_chanceOf_5 cn_X2_59 rfl rfl (Nat.le_of_ble_eq_true rfl) (And.intro q1 (And.intro hl.2.1 True.intro)) (p_X11_power hC o2 o3 o4 (fun q5 => (ck_aload_n 9 rfl 0 dX2_chanceOf_8 rfl rfl (ck_geti 12 rfl 7 dX2_chanceOf_9 fl_X2_28 sh_15 rfl rfl _ rfl (fun (q6 : ck_i (w 15 7)) => (ck_iload_n 13 rfl 2 dX2_chanceOf_12 rfl rfl (ck_iload_n 14 rfl 1 dX2_chanceOf_13 rfl rfl (ck_isub 15 rfl dX2_chanceOf_14 (have h20 := h17; have o7 := h20.1; have h19 := h20.2; (have h22 := h19; have o8 := h22.1; have h21 := h22.2; (have h24 := h21; have o9 := h24.1; have h23 := h24.2; (have h26 := h23; have o10 := h26.1; have h25 := h26.2; (ck_callSN 18 rfl [.inl (w 15 7), .inl (a2 - a1)] [.inr (.inl (ck_pw (w 15 6) a1))] dX2_chanceOf_15 cn_X2_59 rfl rfl (Nat.le_of_ble_eq_true rfl) (And.intro q6 (And.intro o7 True.intro)) (p_X11_power hC o8 o9 o10 (fun q11 => (ck_lmul 19 rfl dX2_chanceOf_18 (have h28 := h25; have o12 := h28.1; have h27 := h28.2; (ck_lret dX2_chanceOf_19 rfl o12 h27))))))))))))))))))))))))))))
theorem p_X2_chanceOf {g : ch_G} {A R : Nat} (hC : ck_Cx g A R) {d : Nat} {K : Option ck_V → ck_W → Prop} {w : ck_W} {a1 a2 : Int} (hH : cs_H w) (ha : 0 ≤ a1 ∧ a1 ≤ a2) (hn : a2 ≤ 27) (h : K (some (.inr (.inl (ck_pw (w 15 6) a1 * ck_pw (w 15 7) (a2 - a1))))) w) : ck_Ex (ch_C g A R) (d + 1) mX2_chanceOf [.inr (.inr 15), .inl a1, .inl a2] w K := by
  have b := cs_chb hH.1 hH.2 ha hn
  have h1 := hH.1
  have h2 := hH.2
  refine e_X2_chanceOf hC ⟨by omega, by omega, by omega, by constructor <;> omega, by omega, by omega, by omega, ?_, h⟩
  generalize ck_pw (w 15 6) a1 * ck_pw (w 15 7) (a2 - a1) = v at *
  constructor <;> omega
