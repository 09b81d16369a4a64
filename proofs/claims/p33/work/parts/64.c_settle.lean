/-! ===== the class: slices are settled, best, flat ===== -/
theorem cw_g_fr {A R : Nat} {w w' : ck_W} (h4 : w' 4 = w 4) (h7 : w' 7 = w 7) (z : Int) : cw_g A R w' z = cw_g A R w z := by
  funext p r
  unfold cw_g
  rw [h4, h7]
/-- what is kept of a slice is right -/
def cw_res (A R : Nat) (w : ck_W) (z : Int) : Prop := w 60 z = cw_be A R (w 6 z) (cw_g A R w z) / 1048576 ∧ w 61 z = cw_be A R (w 6 z) (cw_g A R w z) % 1048576 ∧ (cw_be A R (w 6 z) (cw_g A R w z) ≠ 0 → ∀ p, 0 ≤ p → p < w 6 z * (A : Int) → w 62 (z * 24 + p) = cw_tr A R (w 6 z) (cw_g A R w z) false p ∧ w 63 (z * 24 + p) = cw_tr A R (w 6 z) (cw_g A R w z) true p)
theorem cw_res_fr {A R : Nat} {g : ch_G} (hC : ck_Cx g A R) {w w' : ck_W} (hT : cs_T w) {z : Int} (hz : 0 ≤ z ∧ z ≤ 5) (h4 : w' 4 = w 4) (h6 : w' 6 = w 6) (h7 : w' 7 = w 7) (a : w' 60 z = w 60 z) (b : w' 61 z = w 61 z) (e : ∀ p, 0 ≤ p → p < 24 → w' 62 (z * 24 + p) = w 62 (z * 24 + p) ∧ w' 63 (z * 24 + p) = w 63 (z * 24 + p)) (h : cw_res A R w z) : cw_res A R w' z := by
  have t := cs_tb hC hT hz
  unfold cw_res
  rw [h6, cw_g_fr h4 h7, a, b]
  refine ⟨h.1, h.2.1, fun q p p0 p1 => ?_⟩
  rw [(e p p0 (by omega)).1, (e p p0 (by omega)).2]
  exact h.2.2 q p p0 p1
/-- the winding's own rows, between calls -/
def cw_IV (A R : Nat) (w : ck_W) : Prop := (cs_D A R w ∧ cs_T w ∧ cs_Y A R w) ∧ (cw_tab A w ∧ cw_dead A R w ∧ (∀ r c, 0 ≤ r → r < (R : Int) → 0 ≤ c → c < cw_N A → w 57 (r * cw_N A + c) = 1)) ∧ (∀ j, 0 ≤ j → j < 144 → 0 ≤ w 62 j ∧ w 62 j < (R : Int)) ∧ (∀ z, 0 ≤ z → z ≤ 5 → (0 ≤ w 60 z ∧ w 60 z ≤ 216) ∧ (0 ≤ w 61 z ∧ w 61 z ≤ 1000000)) ∧ (∀ z, 0 ≤ z → z ≤ 5 → w 59 z ≠ 0 → cw_res A R w z)
theorem cw_IVm {A R : Nat} {g : ch_G} (hC : ck_Cx g A R) {w w' : ck_W} (hI : cw_IV A R w) {a1 : Int} (h1 : 0 ≤ a1 ∧ a1 ≤ 5) (f : ∀ j, j < 51 ∨ (52 ≤ j ∧ j ≤ 56) ∨ 64 ≤ j → w' j = w j) (f51 : ∀ j, j ≠ 10 → j ≠ 11 → w' 51 j = w 51 j) (hd : cw_dead A R w') (h0 : ∀ r c, 0 ≤ r → r < (R : Int) → 0 ≤ c → c < cw_N A → w' 57 (r * cw_N A + c) = 1) (o : ∀ z, z ≠ a1 → w' 59 z = w 59 z ∧ w' 60 z = w 60 z ∧ w' 61 z = w 61 z) (o2 : ∀ q, ¬ (a1 * 24 ≤ q ∧ q < a1 * 24 + w 6 a1 * (A : Int)) → w' 62 q = w 62 q ∧ w' 63 q = w 63 q) (n60 : w' 60 a1 = cw_be A R (w 6 a1) (cw_g A R w a1) / 1048576) (n61 : w' 61 a1 = cw_be A R (w 6 a1) (cw_g A R w a1) % 1048576) (nr : cw_be A R (w 6 a1) (cw_g A R w a1) ≠ 0 → ∀ p, 0 ≤ p → p < w 6 a1 * (A : Int) → w' 62 (a1 * 24 + p) = cw_tr A R (w 6 a1) (cw_g A R w a1) false p ∧ w' 63 (a1 * 24 + p) = cw_tr A R (w 6 a1) (cw_g A R w a1) true p) (nz : cw_be A R (w 6 a1) (cw_g A R w a1) = 0 → ∀ q, w' 62 q = w 62 q) : cw_IV A R w' := by
  obtain ⟨⟨i1, i2, i3⟩, ⟨i4, i5, i6⟩, i7, i8, i9⟩ := hI
  have f4 := f 4 (by decide)
  have f6 := f 6 (by decide)
  have f7 := f 7 (by decide)
  have gv := cw_gv hC i3 h1
  have tk := i2 a1 h1.1 h1.2
  have tb := cs_tb hC i2 h1
  have bo := cw_be_ok hC tk gv
  refine ⟨⟨cs_hD i1 (f 3 (by decide)), cs_hT i2 f6, ?_⟩, ⟨cw_tab_fr i4 (f51 1 (by decide) (by decide)) (f51 7 (by decide) (by decide)) (fun j a b => f j (by omega)), hd, h0⟩, fun j j0 j1 => ?_, fun z z0 z1 => ?_, fun z z0 z1 zn => ?_⟩
  · unfold cs_Y; rw [f4]; exact i3
  · by_cases q : a1 * 24 ≤ j ∧ j < a1 * 24 + w 6 a1 * (A : Int)
    · by_cases e : cw_be A R (w 6 a1) (cw_g A R w a1) = 0
      · rw [nz e]; exact i7 j j0 j1
      · have r := (nr e (j - a1 * 24) (by omega) (by omega)).1
        rw [show a1 * 24 + (j - a1 * 24) = j by omega] at r
        rw [r]
        exact cw_tr_b hC tk gv false e (by omega)
    · rw [(o2 j q).1]; exact i7 j j0 j1
  · by_cases e : z = a1
    · rw [e, n60, n61]
      unfold cw_ok at bo
      omega
    · rw [(o z e).2.1, (o z e).2.2]; exact i8 z z0 z1
  · by_cases e : z = a1
    · subst e
      unfold cw_res
      rw [f6, cw_g_fr f4 f7]
      exact ⟨n60, n61, nr⟩
    · rw [(o z e).1] at zn
      exact cw_res_fr hC i2 ⟨z0, z1⟩ f4 f6 f7 (o z e).2.1 (o z e).2.2 (fun p p0 p1 => o2 _ (by omega)) (i9 z z0 z1 zn)
/-- all but the winding's own cells is as it was -/
def cs_q (w w' : ck_W) : Prop := ∀ k, k < 51 ∨ 64 ≤ k → w' k = w k
theorem cs_q_rf {w : ck_W} : cs_q w w := fun _ _ => rfl
theorem cs_q_tr {w u v : ck_W} (a : cs_q w u) (b : cs_q u v) : cs_q w v := fun k h => (b k h).trans (a k h)
def cw_mo (w w' : ck_W) : Prop := ∀ z, w 59 z ≠ 0 → w' 59 z ≠ 0
theorem dX10_settle_0 : decode cX10_settle 0 = .ok (.iload_n 1, 1) := dk_27 (by decide +kernel)
theorem dX10_settle_1 : decode cX10_settle 1 = .ok (.iconst 0, 1) := dk_3 (by decide +kernel)
theorem dX10_settle_2 : decode cX10_settle 2 = .ok (.iconst 5, 1) := dk_8 (by decide +kernel)
theorem dX10_settle_3 : decode cX10_settle 3 = .ok (.invokestatic 82, 3) := dk_184 0 82 (by decide +kernel)
theorem dX10_settle_6 : decode cX10_settle 6 = .ok (.ifCond .ne 5, 3) := dk_154 0 5 (by decide +kernel)
theorem dX10_settle_9 : decode cX10_settle 9 = .ok (.iconst 0, 1) := dk_3 (by decide +kernel)
theorem dX10_settle_10 : decode cX10_settle 10 = .ok (.ireturn, 1) := dk_172 (by decide +kernel)
theorem dX10_settle_11 : decode cX10_settle 11 = .ok (.aload_n 0, 1) := dk_42 (by decide +kernel)
theorem dX10_settle_12 : decode cX10_settle 12 = .ok (.getfield 11, 3) := dk_180 0 11 (by decide +kernel)
theorem dX10_settle_15 : decode cX10_settle 15 = .ok (.iload_n 1, 1) := dk_27 (by decide +kernel)
theorem dX10_settle_16 : decode cX10_settle 16 = .ok (.baload, 1) := dk_51 (by decide +kernel)
theorem dX10_settle_17 : decode cX10_settle 17 = .ok (.ifCond .ne 80, 3) := dk_154 0 80 (by decide +kernel)
theorem dX10_settle_20 : decode cX10_settle 20 = .ok (.aload_n 0, 1) := dk_42 (by decide +kernel)
theorem dX10_settle_21 : decode cX10_settle 21 = .ok (.getfield 11, 3) := dk_180 0 11 (by decide +kernel)
theorem dX10_settle_24 : decode cX10_settle 24 = .ok (.iload_n 1, 1) := dk_27 (by decide +kernel)
theorem dX10_settle_25 : decode cX10_settle 25 = .ok (.iconst 1, 1) := dk_4 (by decide +kernel)
theorem dX10_settle_26 : decode cX10_settle 26 = .ok (.bastore, 1) := dk_84 (by decide +kernel)
theorem dX10_settle_27 : decode cX10_settle 27 = .ok (.aload_n 0, 1) := dk_42 (by decide +kernel)
theorem dX10_settle_28 : decode cX10_settle 28 = .ok (.getfield 28, 3) := dk_180 0 28 (by decide +kernel)
theorem dX10_settle_31 : decode cX10_settle 31 = .ok (.iload_n 1, 1) := dk_27 (by decide +kernel)
theorem dX10_settle_32 : decode cX10_settle 32 = .ok (.invokevirtual 86, 3) := dk_182 0 86 (by decide +kernel)
theorem dX10_settle_35 : decode cX10_settle 35 = .ok (.aload_n 0, 1) := dk_42 (by decide +kernel)
theorem dX10_settle_36 : decode cX10_settle 36 = .ok (.getfield 28, 3) := dk_180 0 28 (by decide +kernel)
theorem dX10_settle_39 : decode cX10_settle 39 = .ok (.getfield 32, 3) := dk_180 0 32 (by decide +kernel)
theorem dX10_settle_42 : decode cX10_settle 42 = .ok (.isub, 1) := dk_100 (by decide +kernel)
theorem dX10_settle_43 : decode cX10_settle 43 = .ok (.istore_n 2, 1) := dk_61 (by decide +kernel)
theorem dX10_settle_44 : decode cX10_settle 44 = .ok (.aload_n 0, 1) := dk_42 (by decide +kernel)
theorem dX10_settle_45 : decode cX10_settle 45 = .ok (.iload_n 1, 1) := dk_27 (by decide +kernel)
theorem dX10_settle_46 : decode cX10_settle 46 = .ok (.invokevirtual 90, 3) := dk_182 0 90 (by decide +kernel)
theorem dX10_settle_49 : decode cX10_settle 49 = .ok (.iconst 1, 1) := dk_4 (by decide +kernel)
theorem dX10_settle_50 : decode cX10_settle 50 = .ok (.istore_n 3, 1) := dk_62 (by decide +kernel)
theorem dX10_settle_51 : decode cX10_settle 51 = .ok (.iload_n 3, 1) := dk_29 (by decide +kernel)
theorem dX10_settle_52 : decode cX10_settle 52 = .ok (.iload_n 2, 1) := dk_28 (by decide +kernel)
theorem dX10_settle_53 : decode cX10_settle 53 = .ok (.if_icmp .gt 15, 3) := dk_163 0 15 (by decide +kernel)
theorem dX10_settle_56 : decode cX10_settle 56 = .ok (.aload_n 0, 1) := dk_42 (by decide +kernel)
theorem dX10_settle_57 : decode cX10_settle 57 = .ok (.iload_n 1, 1) := dk_27 (by decide +kernel)
theorem dX10_settle_58 : decode cX10_settle 58 = .ok (.iload_n 3, 1) := dk_29 (by decide +kernel)
theorem dX10_settle_59 : decode cX10_settle 59 = .ok (.invokevirtual 93, 3) := dk_182 0 93 (by decide +kernel)
theorem dX10_settle_62 : decode cX10_settle 62 = .ok (.iinc 3 1, 3) := dk_132 1 (by decide +kernel)
theorem dX10_settle_65 : decode cX10_settle 65 = .ok (.goto (-14), 3) := dk_167 255 242 (by decide +kernel)
theorem dX10_settle_68 : decode cX10_settle 68 = .ok (.aload_n 0, 1) := dk_42 (by decide +kernel)
theorem dX10_settle_69 : decode cX10_settle 69 = .ok (.iload_n 1, 1) := dk_27 (by decide +kernel)
theorem dX10_settle_70 : decode cX10_settle 70 = .ok (.iload_n 2, 1) := dk_28 (by decide +kernel)
theorem dX10_settle_71 : decode cX10_settle 71 = .ok (.invokevirtual 97, 3) := dk_182 0 97 (by decide +kernel)
theorem dX10_settle_74 : decode cX10_settle 74 = .ok (.aload_n 0, 1) := dk_42 (by decide +kernel)
theorem dX10_settle_75 : decode cX10_settle 75 = .ok (.getfield 19, 3) := dk_180 0 19 (by decide +kernel)
theorem dX10_settle_78 : decode cX10_settle 78 = .ok (.iload_n 1, 1) := dk_27 (by decide +kernel)
theorem dX10_settle_79 : decode cX10_settle 79 = .ok (.iaload, 1) := dk_46 (by decide +kernel)
theorem dX10_settle_80 : decode cX10_settle 80 = .ok (.ifCond .le 17, 3) := dk_158 0 17 (by decide +kernel)
theorem dX10_settle_83 : decode cX10_settle 83 = .ok (.aload_n 0, 1) := dk_42 (by decide +kernel)
theorem dX10_settle_84 : decode cX10_settle 84 = .ok (.iload_n 1, 1) := dk_27 (by decide +kernel)
theorem dX10_settle_85 : decode cX10_settle 85 = .ok (.iload_n 2, 1) := dk_28 (by decide +kernel)
theorem dX10_settle_86 : decode cX10_settle 86 = .ok (.iconst 0, 1) := dk_3 (by decide +kernel)
theorem dX10_settle_87 : decode cX10_settle 87 = .ok (.invokevirtual 100, 3) := dk_182 0 100 (by decide +kernel)
theorem dX10_settle_90 : decode cX10_settle 90 = .ok (.aload_n 0, 1) := dk_42 (by decide +kernel)
theorem dX10_settle_91 : decode cX10_settle 91 = .ok (.iload_n 1, 1) := dk_27 (by decide +kernel)
theorem dX10_settle_92 : decode cX10_settle 92 = .ok (.iload_n 2, 1) := dk_28 (by decide +kernel)
theorem dX10_settle_93 : decode cX10_settle 93 = .ok (.iconst 1, 1) := dk_4 (by decide +kernel)
theorem dX10_settle_94 : decode cX10_settle 94 = .ok (.invokevirtual 100, 3) := dk_182 0 100 (by decide +kernel)
theorem dX10_settle_97 : decode cX10_settle 97 = .ok (.aload_n 0, 1) := dk_42 (by decide +kernel)
theorem dX10_settle_98 : decode cX10_settle 98 = .ok (.getfield 19, 3) := dk_180 0 19 (by decide +kernel)
theorem dX10_settle_101 : decode cX10_settle 101 = .ok (.iload_n 1, 1) := dk_27 (by decide +kernel)
theorem dX10_settle_102 : decode cX10_settle 102 = .ok (.iaload, 1) := dk_46 (by decide +kernel)
theorem dX10_settle_103 : decode cX10_settle 103 = .ok (.ifCond .le 7, 3) := dk_158 0 7 (by decide +kernel)
theorem dX10_settle_106 : decode cX10_settle 106 = .ok (.iconst 1, 1) := dk_4 (by decide +kernel)
theorem dX10_settle_107 : decode cX10_settle 107 = .ok (.goto 4, 3) := dk_167 0 4 (by decide +kernel)
theorem dX10_settle_110 : decode cX10_settle 110 = .ok (.iconst 0, 1) := dk_3 (by decide +kernel)
theorem dX10_settle_111 : decode cX10_settle 111 = .ok (.ireturn, 1) := dk_172 (by decide +kernel)
set_option maxRecDepth 8000 in
theorem e_X10_settle {g : ch_G} {A R : Nat} (hC : ck_Cx g A R) {d : Nat} {K : Option ck_V → ck_W → Prop} {w : ck_W} {a1 : Int} (h : (0 ≤ a1 ∧ a1 ≤ 5 → (0 ≤ a1 ∧ a1 < 6) ∧ ((¬ (w 59 a1) = 0 → ((w 61 a1) ≤ 0 → K (some (.inl 0)) w) ∧ (¬ (w 61 a1) ≤ 0 → K (some (.inl 1)) w)) ∧ ((w 59 a1) = 0 → ck_CI (ch_C g A R) d mX5_places [.inr (.inr 3), .inl a1] (ck_up w 59 a1 1) (fun v7 w6 => ck_i (v7 - (w6 3 0)) ∧ (ck_CN (ch_C g A R) d mX10_fillGain [.inr (.inr 51), .inl a1] w6 (fun w12 => ck_At (ch_C g A R) (d + 1) mX10_settle K 51 [some (.inr (.inr 51)), some (.inl a1), some (.inl (v7 - (w6 3 0))), some (.inl 1)] [] w12)))))) ∧ (¬ (0 ≤ a1 ∧ a1 ≤ 5) → K (some (.inl 0)) w)) : ck_Ex (ch_C g A R) (d + 1) mX10_settle [.inr (.inr 51), .inl a1] w K :=
  ck_entry hC.1 [some (.inr (.inr 51)), some (.inl a1), none, none] (by decide) (Nat.le_of_ble_eq_true rfl) rfl (fun q => q) (ck_in (fun hl => (ck_iload_n 1 rfl 1 dX10_settle_0 rfl rfl (ck_iconst 2 rfl dX10_settle_1 rfl (ck_iconst 3 rfl dX10_settle_2 rfl (have h18 := h; ck_callSN 6 rfl [.inl a1, .inl 0, .inl 5] [] dX10_settle_3 cn_X10_82 rfl rfl (Nat.le_of_ble_eq_true rfl) (And.intro hl.2.1 (And.intro (show ck_i 0 by decide) (And.intro (show ck_i 5 by decide) True.intro))) (p_X11_within hC (fun c16 _ => (ck_if_ne 9 rfl 11 dX10_settle_6 rfl (by decide) (fun _ => (ck_aload_n 12 rfl 0 dX10_settle_11 rfl rfl (ck_getr 15 rfl dX10_settle_12 fl_X10_11 sh_51 rfl (ck_iload_n 16 rfl 1 dX10_settle_15 rfl rfl (have h20 := (h18.1 c16); have o1 := h20.1; have h19 := h20.2; (ck_zald 17 rfl dX10_settle_16 sh_59 (shn_59 hC) o1 _ rfl (fun (q2 : ck_i (w 59 a1)) => (ck_if_ne 20 rfl 97 dX10_settle_17 rfl q2 (fun c14 => (ck_aload_n 98 rfl 0 dX10_settle_97 rfl rfl (ck_getr 101 rfl dX10_settle_98 fl_X10_19 sh_51 rfl (ck_iload_n 102 rfl 1 dX10_settle_101 rfl rfl (ck_iald 103 rfl dX10_settle_102 sh_61 (shn_61 hC) o1 _ rfl (fun (q3 : ck_i (w 61 a1)) => (have h21 := (h19.1 c14); (ck_if_le 106 rfl 110 dX10_settle_103 rfl q3 (fun c4 => (ck_iconst 111 rfl dX10_settle_110 rfl (ck_zret dX10_settle_111 rfl (by decide) (h21.1 c4)))) (fun c5 => (ck_iconst 107 rfl dX10_settle_106 rfl (ck_goto 111 dX10_settle_107 rfl (ck_zret dX10_settle_111 rfl (by decide) (h21.2 c5))))))))))))) (fun c15 => (ck_aload_n 21 rfl 0 dX10_settle_20 rfl rfl (ck_getr 24 rfl dX10_settle_21 fl_X10_11 sh_51 rfl (ck_iload_n 25 rfl 1 dX10_settle_24 rfl rfl (ck_iconst 26 rfl dX10_settle_25 rfl (ck_zast 27 rfl dX10_settle_26 sh_59 (shn_59 hC) o1 (by decide) (ck_aload_n 28 rfl 0 dX10_settle_27 rfl rfl (ck_getr 31 rfl dX10_settle_28 fl_X10_28 sh_51 rfl (ck_iload_n 32 rfl 1 dX10_settle_31 rfl rfl (ck_callV 35 rfl [.inl a1] [] dX10_settle_32 cv_X10_86 sh_3 rfl rfl (Nat.le_of_ble_eq_true rfl) (And.intro hl.2.1 True.intro) (ck_mI (h19.2 c15) (fun v7 w6 q8 h9 => (ck_aload_n 36 rfl 0 dX10_settle_35 rfl rfl (ck_getr 39 rfl dX10_settle_36 fl_X10_28 sh_51 rfl (ck_geti 42 rfl 0 dX10_settle_39 fl_X10_32 sh_3 rfl rfl _ rfl (fun (q10 : ck_i (w6 3 0)) => (ck_isub 43 rfl dX10_settle_42 (have h23 := h9; have o11 := h23.1; have h22 := h23.2; (ck_istore_n 44 rfl 2 [some (.inr (.inr 51)), some (.inl a1), some (.inl (v7 - (w6 3 0))), none] dX10_settle_43 rfl (Nat.le_of_ble_eq_true rfl) rfl rfl o11 (ck_aload_n 45 rfl 0 dX10_settle_44 rfl rfl (ck_iload_n 46 rfl 1 dX10_settle_45 rfl rfl (ck_callV 49 rfl [.inl a1] [] dX10_settle_46 cv_X10_90 sh_51 rfl rfl (Nat.le_of_ble_eq_true rfl) (And.intro hl.2.1 True.intro) (ck_mN h22 (fun w12 h13 => (ck_iconst 50 rfl dX10_settle_49 rfl (ck_istore_n 51 rfl 3 [some (.inr (.inr 51)), some (.inl a1), some (.inl (v7 - (w6 3 0))), some (.inl 1)] dX10_settle_50 rfl (Nat.le_of_ble_eq_true rfl) rfl rfl (show ck_i 1 by decide) h13)))))))))))))))))))))))))))))))))) (fun q => absurd q (by decide)))) (fun c17 _ => (ck_if_ne 9 rfl 11 dX10_settle_6 rfl (by decide) (fun q => absurd q (by decide)) (fun _ => (ck_iconst 10 rfl dX10_settle_9 rfl (ck_zret dX10_settle_10 rfl (by decide) (h18.2 c17)))))))))))))
set_option maxRecDepth 8000 in
theorem r_X10_settle_51 {g : ch_G} {A R : Nat} (hC : ck_Cx g A R) {d : Nat} {K : Option ck_V → ck_W → Prop} {w : ck_W} {a1 a2 a3 : Int} (h : (a2 < a3 → ck_CN (ch_C g A R) d mX10_weighAll [.inr (.inr 51), .inl a1, .inl a2] w (fun w1 => (0 ≤ a1 ∧ a1 < 6) ∧ (((w1 61 a1) ≤ 0 → ((w1 61 a1) ≤ 0 → K (some (.inl 0)) w1) ∧ (¬ (w1 61 a1) ≤ 0 → K (some (.inl 1)) w1)) ∧ (¬ (w1 61 a1) ≤ 0 → ck_CN (ch_C g A R) d mX10_trace [.inr (.inr 51), .inl a1, .inl a2, .inl 0] w1 (fun w7 => ck_CN (ch_C g A R) d mX10_trace [.inr (.inr 51), .inl a1, .inl a2, .inl 1] w7 (fun w8 => ((w8 61 a1) ≤ 0 → K (some (.inl 0)) w8) ∧ (¬ (w8 61 a1) ≤ 0 → K (some (.inl 1)) w8))))))) ∧ (¬ a2 < a3 → ck_CN (ch_C g A R) d mX10_fillAhead [.inr (.inr 51), .inl a1, .inl a3] w (fun w17 => ck_i (a3 + 1) ∧ (ck_At (ch_C g A R) (d + 1) mX10_settle K 51 [some (.inr (.inr 51)), some (.inl a1), some (.inl a2), some (.inl (a3 + 1))] [] w17)))) : ck_At (ch_C g A R) (d + 1) mX10_settle K 51 [some (.inr (.inr 51)), some (.inl a1), some (.inl a2), some (.inl a3)] [] w :=
  ck_in (fun hl => (ck_iload_n 52 rfl 3 dX10_settle_51 rfl rfl (ck_iload_n 53 rfl 2 dX10_settle_52 rfl rfl (ck_icmp_gt 56 rfl 68 dX10_settle_53 rfl hl.2.2.2.1 hl.2.2.1 (fun c20 => (ck_aload_n 69 rfl 0 dX10_settle_68 rfl rfl (ck_iload_n 70 rfl 1 dX10_settle_69 rfl rfl (ck_iload_n 71 rfl 2 dX10_settle_70 rfl rfl (ck_callV 74 rfl [.inl a1, .inl a2] [] dX10_settle_71 cv_X10_97 sh_51 rfl rfl (Nat.le_of_ble_eq_true rfl) (And.intro hl.2.1 (And.intro hl.2.2.1 True.intro)) (ck_mN (h.1 c20) (fun w1 h16 => (ck_aload_n 75 rfl 0 dX10_settle_74 rfl rfl (ck_getr 78 rfl dX10_settle_75 fl_X10_19 sh_51 rfl (ck_iload_n 79 rfl 1 dX10_settle_78 rfl rfl (have h23 := h16; have o2 := h23.1; have h22 := h23.2; (ck_iald 80 rfl dX10_settle_79 sh_61 (shn_61 hC) o2 _ rfl (fun (q3 : ck_i (w1 61 a1)) => (ck_if_le 83 rfl 97 dX10_settle_80 rfl q3 (fun c14 => (ck_aload_n 98 rfl 0 dX10_settle_97 rfl rfl (ck_getr 101 rfl dX10_settle_98 fl_X10_19 sh_51 rfl (ck_iload_n 102 rfl 1 dX10_settle_101 rfl rfl (ck_iald 103 rfl dX10_settle_102 sh_61 (shn_61 hC) o2 _ rfl (fun (q4 : ck_i (w1 61 a1)) => (have h24 := (h22.1 c14); (ck_if_le 106 rfl 110 dX10_settle_103 rfl q4 (fun c5 => (ck_iconst 111 rfl dX10_settle_110 rfl (ck_zret dX10_settle_111 rfl (by decide) (h24.1 c5)))) (fun c6 => (ck_iconst 107 rfl dX10_settle_106 rfl (ck_goto 111 dX10_settle_107 rfl (ck_zret dX10_settle_111 rfl (by decide) (h24.2 c6))))))))))))) (fun c15 => (ck_aload_n 84 rfl 0 dX10_settle_83 rfl rfl (ck_iload_n 85 rfl 1 dX10_settle_84 rfl rfl (ck_iload_n 86 rfl 2 dX10_settle_85 rfl rfl (ck_iconst 87 rfl dX10_settle_86 rfl (ck_callV 90 rfl [.inl a1, .inl a2, .inl 0] [] dX10_settle_87 cv_X10_100 sh_51 rfl rfl (Nat.le_of_ble_eq_true rfl) (And.intro hl.2.1 (And.intro hl.2.2.1 (And.intro (show ck_i 0 by decide) True.intro))) (ck_mN (h22.2 c15) (fun w7 h13 => (ck_aload_n 91 rfl 0 dX10_settle_90 rfl rfl (ck_iload_n 92 rfl 1 dX10_settle_91 rfl rfl (ck_iload_n 93 rfl 2 dX10_settle_92 rfl rfl (ck_iconst 94 rfl dX10_settle_93 rfl (ck_callV 97 rfl [.inl a1, .inl a2, .inl 1] [] dX10_settle_94 cv_X10_100 sh_51 rfl rfl (Nat.le_of_ble_eq_true rfl) (And.intro hl.2.1 (And.intro hl.2.2.1 (And.intro (show ck_i 1 by decide) True.intro))) (ck_mN h13 (fun w8 h12 => (ck_aload_n 98 rfl 0 dX10_settle_97 rfl rfl (ck_getr 101 rfl dX10_settle_98 fl_X10_19 sh_51 rfl (ck_iload_n 102 rfl 1 dX10_settle_101 rfl rfl (ck_iald 103 rfl dX10_settle_102 sh_61 (shn_61 hC) o2 _ rfl (fun (q9 : ck_i (w8 61 a1)) => (ck_if_le 106 rfl 110 dX10_settle_103 rfl q9 (fun c10 => (ck_iconst 111 rfl dX10_settle_110 rfl (ck_zret dX10_settle_111 rfl (by decide) (h12.1 c10)))) (fun c11 => (ck_iconst 107 rfl dX10_settle_106 rfl (ck_goto 111 dX10_settle_107 rfl (ck_zret dX10_settle_111 rfl (by decide) (h12.2 c11)))))))))))))))))))))))))))))))))))))))) (fun c21 => (ck_aload_n 57 rfl 0 dX10_settle_56 rfl rfl (ck_iload_n 58 rfl 1 dX10_settle_57 rfl rfl (ck_iload_n 59 rfl 3 dX10_settle_58 rfl rfl (ck_callV 62 rfl [.inl a1, .inl a3] [] dX10_settle_59 cv_X10_93 sh_51 rfl rfl (Nat.le_of_ble_eq_true rfl) (And.intro hl.2.1 (And.intro hl.2.2.2.1 True.intro)) (ck_mN (h.2 c21) (fun w17 h19 => (have h26 := h19; have o18 := h26.1; have h25 := h26.2; (ck_iinc 65 rfl [some (.inr (.inr 51)), some (.inl a1), some (.inl a2), some (.inl (a3 + 1))] dX10_settle_62 rfl (Nat.le_of_ble_eq_true rfl) rfl rfl o18 (ck_goto 51 dX10_settle_65 rfl h25))))))))))))))
theorem S_X10_settle {g : ch_G} {A R : Nat} (hC : ck_Cx g A R) {d : Nat} {K : Option ck_V → ck_W → Prop} {w : ck_W} {a1 : Int} (hI : cw_IV A R w) (h0 : ¬ (0 ≤ a1 ∧ a1 ≤ 5) → K (some (.inl 0)) w) (h1 : 0 ≤ a1 ∧ a1 ≤ 5 → ∀ w', cs_q w w' → cw_IV A R w' → cw_mo w w' → w' 59 a1 ≠ 0 → K (some (.inl (if w' 61 a1 ≤ 0 then 0 else 1))) w') : ck_Ex (ch_C g A R) (d + 5) mX10_settle [.inr (.inr 51), .inl a1] w K := by
  have c := cs_ar hC
  obtain ⟨⟨i1, i2, i3⟩, ⟨i4, i5, i6⟩, i7, i8, i9⟩ := id hI
  refine e_X10_settle hC ⟨fun q => ⟨by omega, fun kn => ?_, fun nk => ?_⟩, h0⟩
  · have k := h1 q w cs_q_rf hI (fun _ x => x) kn
    exact ⟨fun z => by rw [if_pos z] at k; exact k, fun z => by rw [if_neg z] at k; exact k⟩
  have gv := cw_gv hC i3 q
  have tk := i2 a1 q.1 q.2
  have tb := cs_tb hC i2 q
  have bo := cw_be_ok hC tk gv
  have u0j : ∀ j, j ≠ 59 → (ck_up w 59 a1 1) j = w j := fun j a => ck_up_ne a
  refine p_X5_places hC (cs_hD i1 (u0j 3 (by decide))) (cs_hT i2 (u0j 6 (by decide))) (fun _ => ⟨_, rfl, fun _ => ?_⟩) (fun no => absurd q no)
  dsimp only
  rw [u0j 6 (by decide), u0j 3 (by decide), i1.1]
  refine ⟨by constructor <;> omega, S_X10_fillGain hC (cs_hD i1 (u0j 3 (by decide))) (cs_hT i2 (u0j 6 (by decide))) (by unfold cs_Y; rw [u0j 4 (by decide)]; exact i3) q (fun w1 k1 k2 => ⟨rfl, ?_⟩)⟩
  rw [u0j 6 (by decide), cw_g_fr (u0j 4 (by decide)) (u0j 7 (by decide))] at k2
  have lp : ∀ (n l : Nat) (u : ck_W), w 6 a1 * (A : Int) - (A : Int) - (l : Int) = n → (∀ j, j ≠ 51 → j ≠ 57 → j ≠ 58 → j ≠ 59 → u j = w j) → (∀ z, u 59 z = if z = a1 then 1 else w 59 z) → (∀ j, j ≠ 10 → j ≠ 11 → u 51 j = w 51 j) → cw_gn R (w 6 a1 * (A : Int)) (cw_g A R w a1) u → (∀ l', l' ≤ l → cw_row A R (w 6 a1) (cw_g A R w a1) u l') → cw_dead A R u → (∀ r c, 0 ≤ r → r < (R : Int) → 0 ≤ c → c < cw_N A → u 57 (r * cw_N A + c) = 1) → ck_At (ch_C g A R) (d + 5) mX10_settle K 51 [some (.inr (.inr 51)), some (.inl a1), some (.inl (w 6 a1 * (A : Int) - (A : Int))), some (.inl ((l + 1 : Nat) : Int))] [] u := by
    intro n
    induction n with
    | zero =>
      intro l u g1 g2 g3 g4 g5 g6 g7 g8
      have uD := cs_hD i1 (g2 3 (by decide) (by decide) (by decide) (by decide))
      have uT := cs_hT i2 (g2 6 (by decide) (by decide) (by decide) (by decide))
      have uW : cw_tab A u := cw_tab_fr i4 (g4 1 (by decide) (by decide)) (g4 7 (by decide) (by decide)) (fun j a b => g2 j (by omega) (by omega) (by omega) (by omega))
      have u6 : u 6 a1 = w 6 a1 := by rw [g2 6 (by decide) (by decide) (by decide) (by decide)]
      refine r_X10_settle_51 hC ⟨fun _ => S_X10_weighAll hC uD uT uW gv q u6 g5 (g6 _ (by omega)) ⟨rfl, ?_⟩, fun z => absurd (by omega) z⟩
      dsimp only
      have vj : ∀ j, j ≠ 60 → j ≠ 61 → (ck_up (ck_up u 61 a1 (cw_be A R (w 6 a1) (cw_g A R w a1) % 1048576)) 60 a1 (cw_be A R (w 6 a1) (cw_g A R w a1) / 1048576)) j = u j := fun j a b => by rw [ck_up_ne a, ck_up_ne b]
      have v60 : (ck_up (ck_up u 61 a1 (cw_be A R (w 6 a1) (cw_g A R w a1) % 1048576)) 60 a1 (cw_be A R (w 6 a1) (cw_g A R w a1) / 1048576)) 60 a1 = cw_be A R (w 6 a1) (cw_g A R w a1) / 1048576 := by rw [ck_up_eq]
      have v61 : (ck_up (ck_up u 61 a1 (cw_be A R (w 6 a1) (cw_g A R w a1) % 1048576)) 60 a1 (cw_be A R (w 6 a1) (cw_g A R w a1) / 1048576)) 61 a1 = cw_be A R (w 6 a1) (cw_g A R w a1) % 1048576 := by rw [ck_up_ne (by decide), ck_up_eq]
      have vz : ∀ z, z ≠ a1 → (ck_up (ck_up u 61 a1 (cw_be A R (w 6 a1) (cw_g A R w a1) % 1048576)) 60 a1 (cw_be A R (w 6 a1) (cw_g A R w a1) / 1048576)) 60 z = u 60 z ∧ (ck_up (ck_up u 61 a1 (cw_be A R (w 6 a1) (cw_g A R w a1) % 1048576)) 60 a1 (cw_be A R (w 6 a1) (cw_g A R w a1) / 1048576)) 61 z = u 61 z := fun z a => ⟨by rw [ck_up_nj a, ck_up_ne (by decide)], by rw [ck_up_ne (by decide), ck_up_nj a]⟩
      generalize (ck_up (ck_up u 61 a1 (cw_be A R (w 6 a1) (cw_g A R w a1) % 1048576)) 60 a1 (cw_be A R (w 6 a1) (cw_g A R w a1) / 1048576)) = v at *
      -- the world behind it
      have fin : ∀ w' : ck_W, (∀ j, j ≠ 51 → j ≠ 62 → j ≠ 63 → w' j = v j) → (∀ j, j ≠ 10 → j ≠ 11 → w' 51 j = v 51 j) → (∀ q, ¬ (a1 * 24 ≤ q ∧ q < a1 * 24 + w 6 a1 * (A : Int)) → w' 62 q = v 62 q ∧ w' 63 q = v 63 q) → (cw_be A R (w 6 a1) (cw_g A R w a1) ≠ 0 → ∀ p, 0 ≤ p → p < w 6 a1 * (A : Int) → w' 62 (a1 * 24 + p) = cw_tr A R (w 6 a1) (cw_g A R w a1) false p ∧ w' 63 (a1 * 24 + p) = cw_tr A R (w 6 a1) (cw_g A R w a1) true p) → (cw_be A R (w 6 a1) (cw_g A R w a1) = 0 → ∀ q, w' 62 q = v 62 q) → K (some (.inl (if w' 61 a1 ≤ 0 then 0 else 1))) w' := by
        intro w' e1 e2 e3 e4 e5
        have f57 : w' 57 = u 57 := by rw [e1 57 (by decide) (by decide) (by decide), vj 57 (by decide) (by decide)]
        have f62 : v 62 = w 62 := by rw [vj 62 (by decide) (by decide), g2 62 (by decide) (by decide) (by decide) (by decide)]
        have f63 : v 63 = w 63 := by rw [vj 63 (by decide) (by decide), g2 63 (by decide) (by decide) (by decide) (by decide)]
        have f59 : ∀ z, w' 59 z = if z = a1 then 1 else w 59 z := fun z => by rw [e1 59 (by decide) (by decide) (by decide), vj 59 (by decide) (by decide)]; exact g3 z
        have mo : cw_mo w w' := fun z hz => by
          rw [f59]
          by_cases e : z = a1
          · rw [if_pos e]; decide
          · rw [if_neg e]; exact hz
        refine h1 q w' (fun k hk => by rw [e1 k (by omega) (by omega) (by omega), vj k (by omega) (by omega), g2 k (by omega) (by omega) (by omega) (by omega)]) (cw_IVm hC hI q (fun j hj => by rw [e1 j (by omega) (by omega) (by omega), vj j (by omega) (by omega), g2 j (by omega) (by omega) (by omega) (by omega)]) (fun j a b => by rw [e2 j a b, vj 51 (by decide) (by decide)]; exact g4 j a b) (by unfold cw_dead; rw [f57]; exact g7) (by rw [f57]; exact g8) (fun z a => ⟨by rw [f59, if_neg a], ?_, ?_⟩) (fun p hp => by rw [(e3 p hp).1, (e3 p hp).2, f62, f63]; exact ⟨rfl, rfl⟩) ?_ ?_ e4 (fun e p => by rw [e5 e, f62])) mo (by rw [f59, if_pos rfl]; decide)
        · rw [e1 60 (by decide) (by decide) (by decide), (vz z a).1, g2 60 (by decide) (by decide) (by decide) (by decide)]
        · rw [e1 61 (by decide) (by decide) (by decide), (vz z a).2, g2 61 (by decide) (by decide) (by decide) (by decide)]
        · rw [e1 60 (by decide) (by decide) (by decide)]; exact v60
        · rw [e1 61 (by decide) (by decide) (by decide)]; exact v61
      refine ⟨by omega, fun z => ?_, fun z => ?_⟩
      · have e0 : cw_be A R (w 6 a1) (cw_g A R w a1) = 0 := by unfold cw_ok at bo; omega
        have k := fin v (fun _ _ _ _ => rfl) (fun _ _ _ => rfl) (fun _ _ => ⟨rfl, rfl⟩) (fun e => absurd e0 e) (fun _ _ => rfl)
        exact ⟨fun y => by rw [if_pos y] at k; exact k, fun y => absurd z y⟩
      · have e0 : cw_be A R (w 6 a1) (cw_g A R w a1) ≠ 0 := by intro e; rw [v61, e] at z; omega
        have v3 := cs_hD uD (vj 3 (by decide) (by decide))
        have vT := cs_hT uT (vj 6 (by decide) (by decide))
        have vW : cw_tab A v := cw_tab_fr uW (by rw [vj 51 (by decide) (by decide)]) (by rw [vj 51 (by decide) (by decide)]) (fun j a b => vj j (by omega) (by omega))
        have v6 : v 6 a1 = w 6 a1 := by rw [vj 6 (by decide) (by decide)]; exact u6
        have vg : cw_gn R (w 6 a1 * (A : Int)) (cw_g A R w a1) v := by unfold cw_gn; rw [vj 58 (by decide) (by decide)]; exact g5
        have vr : ∀ l' : Nat, (l' : Int) ≤ w 6 a1 * (A : Int) - (A : Int) → cw_row A R (w 6 a1) (cw_g A R w a1) v l' := fun l' hl' => by unfold cw_row; rw [vj 57 (by decide) (by decide)]; exact g6 l' (by omega)
        refine S_tr62 hC false rfl rfl v3 vT vW gv q v6 vg vr v60 e0 (fun w2 m1 m2 m3 m4 => ⟨rfl, ?_⟩)
        refine S_tr63 hC true rfl rfl (cs_hD v3 (m1 3 (by decide) (by decide))) (cs_hT vT (m1 6 (by decide) (by decide))) (cw_tab_fr vW (m2 1 (by decide) (by decide)) (m2 7 (by decide) (by decide)) (fun j a b => m1 j (by omega) (by omega))) gv q (by rw [m1 6 (by decide) (by decide)]; exact v6) (by unfold cw_gn; rw [m1 58 (by decide) (by decide)]; exact vg) (fun l' hl' => by unfold cw_row; rw [m1 57 (by decide) (by decide)]; exact vr l' hl') (by rw [m1 60 (by decide) (by decide)]; exact v60) e0 (fun w3 p1 p2 p3 p4 => ⟨rfl, ?_⟩)
        have k := fin w3 (fun j a b e => by rw [p1 j a e, m1 j a b]) (fun j a b => by rw [p2 j a b, m2 j a b]) (fun y hy => ⟨by rw [p1 62 (by decide) (by decide)]; exact m3 y hy, by rw [p3 y hy, m1 63 (by decide) (by decide)]⟩) (fun _ p p0 p1' => ⟨by rw [p1 62 (by decide) (by decide)]; exact m4 p p0 p1', p4 p p0 p1'⟩) (fun e => absurd e e0)
        exact ⟨fun y => by rw [if_pos y] at k; exact k, fun y => by rw [if_neg y] at k; exact k⟩
    | succ n ih =>
      intro l u g1 g2 g3 g4 g5 g6 g7 g8
      have uD := cs_hD i1 (g2 3 (by decide) (by decide) (by decide) (by decide))
      have uT := cs_hT i2 (g2 6 (by decide) (by decide) (by decide) (by decide))
      have uW : cw_tab A u := cw_tab_fr i4 (g4 1 (by decide) (by decide)) (g4 7 (by decide) (by decide)) (fun j a b => g2 j (by omega) (by omega) (by omega) (by omega))
      have u6 : u 6 a1 = w 6 a1 := by rw [g2 6 (by decide) (by decide) (by decide) (by decide)]
      refine r_X10_settle_51 hC ⟨fun z => absurd z (by omega), fun _ => S_X10_fillAhead hC l uD uT uW gv u6 q g5 (by omega) g6 g7 (fun w2 m1 m2 m3 m4 m5 => ⟨rfl, by constructor <;> omega, ?_⟩)⟩
      rw [show ((l + 1 : Nat) : Int) + 1 = ((l + 1 + 1 : Nat) : Int) by omega]
      refine ih (l + 1) w2 (by omega) (fun j a b e f => by rw [m1 j a b]; exact g2 j a b e f) (fun z => by rw [m1 59 (by decide) (by decide)]; exact g3 z) (fun j a b => by rw [m2 j a b]; exact g4 j a b) (by unfold cw_gn; rw [m1 58 (by decide) (by decide)]; exact g5) m3 m4 (fun r c r0 r1 c0 c1 => ?_)
      have b := ix_b (x := r) (c := c) (N := cw_N A) (X := (R : Int)) ⟨r0, r1⟩ ⟨c0, c1⟩
      rw [m5 _ b.2]
      exact g8 r c r0 r1 c0 c1
  have w1j : ∀ j, j ≠ 58 → j ≠ 59 → w1 j = w j := fun j a b => by rw [k1 j a]; exact u0j j b
  refine lp (w 6 a1 * (A : Int) - (A : Int)).toNat 0 w1 (by omega) (fun j _ _ a b => w1j j a b) (fun z => by rw [k1 59 (by decide), ck_up_at]) (fun j _ _ => by rw [w1j 51 (by decide) (by decide)]) k2 (fun l' hl' => ?_) (by unfold cw_dead; rw [w1j 57 (by decide) (by decide)]; exact i5) (by rw [w1j 57 (by decide) (by decide)]; exact i6)
  have e0 : l' = 0 := by omega
  subst e0
  intro r c r0 r1 c0 c1
  have lb := cw_lob (A := A) (K := w 6 a1) (l := ((0 : Nat) : Int)) (by omega) (by omega) (by omega)
  rw [w1j 57 (by decide) (by decide), cw_A]
  have x := i6 r c (by omega) (by omega) c0 c1
  rw [show (((0 : Nat) : Int) * (R : Int) + r) = r by omega]
  exact x
