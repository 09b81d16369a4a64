/-! ===== the class: ink, right, boxes ===== -/
theorem cw_IV_fr {A R : Nat} {g : ch_G} (hC : ck_Cx g A R) {w w' : ck_W} (h : cw_IV A R w) (f : ∀ k, (3 ≤ k ∧ k ≤ 7) ∨ (51 ≤ k ∧ k ≤ 63) → w' k = w k) : cw_IV A R w' := by
  obtain ⟨⟨i1, i2, i3⟩, ⟨i4, i5, i6⟩, i7, i8, i9⟩ := h
  have f57 := f 57 (by decide)
  refine ⟨⟨cs_hD i1 (f 3 (by decide)), cs_hT i2 (f 6 (by decide)), ?_⟩, ⟨cw_tab_fr i4 (by rw [f 51 (by decide)]) (by rw [f 51 (by decide)]) (fun k a b => f k (by omega)), ?_, ?_⟩, ?_, ?_, fun z z0 z1 zn => ?_⟩
  · unfold cs_Y; rw [f 4 (by decide)]; exact i3
  · unfold cw_dead; rw [f57]; exact i5
  · rw [f57]; exact i6
  · rw [f 62 (by decide)]; exact i7
  · rw [f 60 (by decide), f 61 (by decide)]; exact i8
  · rw [f 59 (by decide)] at zn
    exact cw_res_fr hC i2 ⟨z0, z1⟩ (f 4 (by decide)) (f 6 (by decide)) (f 7 (by decide)) (by rw [f 60 (by decide)]) (by rw [f 61 (by decide)]) (fun p _ _ => ⟨by rw [f 62 (by decide)], by rw [f 63 (by decide)]⟩) (i9 z z0 z1 zn)
/-- all but the rows that calls use again is as it was -/
def cs_Q (w w' : ck_W) : Prop := ∀ k, k < 25 ∨ (27 ≤ k ∧ k < 51) ∨ (67 ≤ k ∧ k ≤ 69) ∨ 76 ≤ k → w' k = w k
theorem cs_Q_rf {w : ck_W} : cs_Q w w := fun _ _ => rfl
theorem cs_Q_tr {w u v : ck_W} (a : cs_Q w u) (b : cs_Q u v) : cs_Q w v := fun k h => (b k h).trans (a k h)
theorem cs_Q_q {w u : ck_W} (a : cs_q w u) : cs_Q w u := fun k h => a k (by omega)
theorem cs_Cd_fr {w w' : ck_W} (h : cs_Cd w) (q : cs_Q w w') : cs_Cd w' := by
  unfold cs_Cd
  rw [q 10 (by decide), q 11 (by decide), q 12 (by decide)]
  exact h
theorem cs_Yc_fr {A R : Nat} {w w' : ck_W} (h : cs_Yc A R w) (q : cs_Q w w') : cs_Yc A R w' := by
  unfold cs_Yc
  rw [q 5 (by decide)]
  exact h
theorem cv_Hof {A R : Nat} {w : ck_W} (hI : cw_IV A R w) (hY : cs_Yc A R w) : cv_H A R w := ⟨hI.1.1, hI.1.2.2, hY, hI.2.2.1⟩
theorem dX11_ink_0 : decode cX11_ink 0 = .ok (.aload_n 0, 1) := dk_42 (by decide +kernel)
theorem dX11_ink_1 : decode cX11_ink 1 = .ok (.getfield 30, 3) := dk_180 0 30 (by decide +kernel)
theorem dX11_ink_4 : decode cX11_ink 4 = .ok (.iload_n 2, 1) := dk_28 (by decide +kernel)
theorem dX11_ink_5 : decode cX11_ink 5 = .ok (.invokevirtual 120, 3) := dk_182 0 120 (by decide +kernel)
theorem dX11_ink_8 : decode cX11_ink 8 = .ok (.pop, 1) := dk_87 (by decide +kernel)
theorem dX11_ink_9 : decode cX11_ink 9 = .ok (.aload_n 0, 1) := dk_42 (by decide +kernel)
theorem dX11_ink_10 : decode cX11_ink 10 = .ok (.getfield 63, 3) := dk_180 0 63 (by decide +kernel)
theorem dX11_ink_13 : decode cX11_ink 13 = .ok (.iload_n 1, 1) := dk_27 (by decide +kernel)
theorem dX11_ink_14 : decode cX11_ink 14 = .ok (.iload_n 2, 1) := dk_28 (by decide +kernel)
theorem dX11_ink_15 : decode cX11_ink 15 = .ok (.iload_n 3, 1) := dk_29 (by decide +kernel)
theorem dX11_ink_16 : decode cX11_ink 16 = .ok (.invokevirtual 206, 3) := dk_182 0 206 (by decide +kernel)
theorem dX11_ink_19 : decode cX11_ink 19 = .ok (.ireturn, 1) := dk_172 (by decide +kernel)
set_option maxRecDepth 8000 in
theorem e_X11_ink {g : ch_G} {A R : Nat} (hC : ck_Cx g A R) {d : Nat} {K : Option ck_V → ck_W → Prop} {w : ck_W} {a1 a2 a3 : Int} (h : ck_CI (ch_C g A R) d mX10_settle [.inr (.inr 51), .inl a2] w (fun v2 w1 => ck_CI (ch_C g A R) d mX7_inkAt [.inr (.inr 70), .inl a1, .inl a2, .inl a3] w1 (fun v6 w5 => K (some (.inl v6)) w5))) : ck_Ex (ch_C g A R) (d + 1) mX11_ink [.inr (.inr 0), .inl a1, .inl a2, .inl a3] w K :=
  ck_entry hC.1 [some (.inr (.inr 0)), some (.inl a1), some (.inl a2), some (.inl a3)] (by decide) (Nat.le_of_ble_eq_true rfl) rfl (fun q => q) (ck_in (fun hl => (ck_aload_n 1 rfl 0 dX11_ink_0 rfl rfl (ck_getr 4 rfl dX11_ink_1 fl_X11_30 sh_0 rfl (ck_iload_n 5 rfl 2 dX11_ink_4 rfl rfl (ck_callV 8 rfl [.inl a2] [] dX11_ink_5 cv_X11_120 sh_51 rfl rfl (Nat.le_of_ble_eq_true rfl) (And.intro hl.2.2.1 True.intro) (ck_mI h (fun v2 w1 q3 h4 => (ck_pop 9 rfl dX11_ink_8 rfl (ck_aload_n 10 rfl 0 dX11_ink_9 rfl rfl (ck_getr 13 rfl dX11_ink_10 fl_X11_63 sh_0 rfl (ck_iload_n 14 rfl 1 dX11_ink_13 rfl rfl (ck_iload_n 15 rfl 2 dX11_ink_14 rfl rfl (ck_iload_n 16 rfl 3 dX11_ink_15 rfl rfl (ck_callV 19 rfl [.inl a1, .inl a2, .inl a3] [] dX11_ink_16 cv_X11_206 sh_70 rfl rfl (Nat.le_of_ble_eq_true rfl) (And.intro hl.2.1 (And.intro hl.2.2.1 (And.intro hl.2.2.2.1 True.intro))) (ck_mI h4 (fun v6 w5 q7 h8 => (ck_iret dX11_ink_19 rfl q7 h8))))))))))))))))))
theorem C_ink {g : ch_G} {A R : Nat} (hC : ck_Cx g A R) {d : Nat} {K : Option ck_V → ck_W → Prop} {w : ck_W} {a1 a2 a3 : Int} (hI : cw_IV A R w) (hY : cs_Yc A R w) (hR : cs_Cd w) (h1 : (0 ≤ a1 ∧ a1 < w 10 3) → cs_has A w a2 a3 → ∀ w1 w', cs_q w w1 → cw_IV A R w1 → w1 59 a2 ≠ 0 → w1 61 a2 ≠ 0 → cs_Q w w' → cw_IV A R w' → K (some (.inl (cv_ik A R w1 a1 a2 a3))) w') (h0 : ∀ w', cs_Q w w' → cw_IV A R w' → (0 ≤ a1 ∧ a1 < w 10 3 → cs_has A w a2 a3 → w' 59 a2 ≠ 0 ∧ w' 61 a2 = 0) → K (some (.inl (-1))) w') : ck_Ex (ch_C g A R) (d + 6) mX11_ink [.inr (.inr 0), .inl a1, .inl a2, .inl a3] w K := by
  have go : ∀ w1, cs_q w w1 → cw_IV A R w1 → (0 ≤ a2 ∧ a2 ≤ 5 → w1 59 a2 ≠ 0) → ck_CI (ch_C g A R) (d + 5) mX7_inkAt [.inr (.inr 70), .inl a1, .inl a2, .inl a3] w1 (fun v6 w5 => K (some (.inl v6)) w5) := by
    intro w1 k1 k2 k3
    have e6 : w1 6 = w 6 := k1 6 (by decide)
    have e10 : w1 10 = w 10 := k1 10 (by decide)
    have hs : ∀ {z p}, cs_has A w1 z p → cs_has A w z p := fun {z p} x => by unfold cs_has at x ⊢; rw [e6] at x; exact x
    have hs' : ∀ {z p}, cs_has A w z p → cs_has A w1 z p := fun {z p} x => by unfold cs_has at x ⊢; rw [e6]; exact x
    refine p_X7_inkAt hC (cv_Hof k2 (cs_Yc_fr hY (cs_Q_q k1))) k2.1.2.1 (cs_Cd_fr hR (cs_Q_q k1)) (fun ok y z w' f => ⟨_, rfl, fun _ => ?_⟩) (fun no => ⟨_, rfl, fun _ => ?_⟩)
    · rw [e10] at ok
      exact h1 ok (hs y) w1 w' k1 k2 (k3 y.1) z (fun k hk => by rw [f k (by omega) (by omega)]; exact k1 k (by omega)) (cw_IV_fr hC k2 (fun k hk => f k (by omega) (by omega)))
    · refine h0 w1 (cs_Q_q k1) k2 (fun ok y => ⟨k3 y.1, ?_⟩)
      by_cases e : w1 61 a2 = 0
      · exact e
      · exact absurd ⟨by rw [e10]; exact ok, hs' y, e⟩ no
  exact e_X11_ink hC (S_X10_settle hC hI (fun no => ⟨_, rfl, fun _ => go w cs_q_rf hI (fun x => absurd x no)⟩) (fun ok w1 k1 k2 k3 k4 => ⟨_, rfl, fun _ => go w1 k1 k2 (fun _ => k4)⟩))
/-- bits as they may be -/
def cs_B (w : ck_W) : Prop := (0 ≤ w 10 5 ∧ w 10 5 ≤ 60) ∧ ∀ j, 0 ≤ j → j < 144 → -1 ≤ w 14 j ∧ w 14 j ≤ 7
def cs_bt (w : ck_W) (z p : Int) : Int := if (0 ≤ z ∧ z ≤ 5) ∧ (0 ≤ p ∧ p ≤ 23) then w 14 (z * 24 + p) else -1
def cs_bo (w : ck_W) (r z p own : Int) : Int := if cs_bt w z p = -1 then 0 else if ¬ (0 ≤ r ∧ r < w 10 3) then 0 else if ck_and (ck_shr (w 13 r) ((cs_bt w z p).tdiv 2)) 1 = 1 then (if own = 1 then 1 else 0) else if own = 0 then 1 else 0
theorem dX4_bitAt_0 : decode cX4_bitAt 0 = .ok (.iload_n 1, 1) := dk_27 (by decide +kernel)
theorem dX4_bitAt_1 : decode cX4_bitAt 1 = .ok (.iconst 0, 1) := dk_3 (by decide +kernel)
theorem dX4_bitAt_2 : decode cX4_bitAt 2 = .ok (.iconst 5, 1) := dk_8 (by decide +kernel)
theorem dX4_bitAt_3 : decode cX4_bitAt 3 = .ok (.invokestatic 41, 3) := dk_184 0 41 (by decide +kernel)
theorem dX4_bitAt_6 : decode cX4_bitAt 6 = .ok (.ifCond .eq 13, 3) := dk_153 0 13 (by decide +kernel)
theorem dX4_bitAt_9 : decode cX4_bitAt 9 = .ok (.iload_n 2, 1) := dk_28 (by decide +kernel)
theorem dX4_bitAt_10 : decode cX4_bitAt 10 = .ok (.iconst 0, 1) := dk_3 (by decide +kernel)
theorem dX4_bitAt_11 : decode cX4_bitAt 11 = .ok (.bipush 23, 2) := dk_16 23 (by decide +kernel)
theorem dX4_bitAt_13 : decode cX4_bitAt 13 = .ok (.invokestatic 41, 3) := dk_184 0 41 (by decide +kernel)
theorem dX4_bitAt_16 : decode cX4_bitAt 16 = .ok (.ifCond .ne 5, 3) := dk_154 0 5 (by decide +kernel)
theorem dX4_bitAt_19 : decode cX4_bitAt 19 = .ok (.iconst (-1), 1) := dk_2 (by decide +kernel)
theorem dX4_bitAt_20 : decode cX4_bitAt 20 = .ok (.ireturn, 1) := dk_172 (by decide +kernel)
theorem dX4_bitAt_21 : decode cX4_bitAt 21 = .ok (.aload_n 0, 1) := dk_42 (by decide +kernel)
theorem dX4_bitAt_22 : decode cX4_bitAt 22 = .ok (.getfield 21, 3) := dk_180 0 21 (by decide +kernel)
theorem dX4_bitAt_25 : decode cX4_bitAt 25 = .ok (.iload_n 1, 1) := dk_27 (by decide +kernel)
theorem dX4_bitAt_26 : decode cX4_bitAt 26 = .ok (.bipush 24, 2) := dk_16 24 (by decide +kernel)
theorem dX4_bitAt_28 : decode cX4_bitAt 28 = .ok (.imul, 1) := dk_104 (by decide +kernel)
theorem dX4_bitAt_29 : decode cX4_bitAt 29 = .ok (.iload_n 2, 1) := dk_28 (by decide +kernel)
theorem dX4_bitAt_30 : decode cX4_bitAt 30 = .ok (.iadd, 1) := dk_96 (by decide +kernel)
theorem dX4_bitAt_31 : decode cX4_bitAt 31 = .ok (.iaload, 1) := dk_46 (by decide +kernel)
theorem dX4_bitAt_32 : decode cX4_bitAt 32 = .ok (.ireturn, 1) := dk_172 (by decide +kernel)
set_option maxRecDepth 8000 in
theorem e_X4_bitAt {g : ch_G} {A R : Nat} (hC : ck_Cx g A R) {d : Nat} {K : Option ck_V → ck_W → Prop} {w : ck_W} {a1 a2 : Int} (h : (0 ≤ a1 ∧ a1 ≤ 5 → (0 ≤ a2 ∧ a2 ≤ 23 → (0 ≤ ((a1 * 24) + a2) ∧ ((a1 * 24) + a2) < 144) ∧ (K (some (.inl (w 14 ((a1 * 24) + a2)))) w)) ∧ (¬ (0 ≤ a2 ∧ a2 ≤ 23) → K (some (.inl (-1))) w)) ∧ (¬ (0 ≤ a1 ∧ a1 ≤ 5) → K (some (.inl (-1))) w)) : ck_Ex (ch_C g A R) (d + 1) mX4_bitAt [.inr (.inr 10), .inl a1, .inl a2] w K :=
  ck_entry hC.1 [some (.inr (.inr 10)), some (.inl a1), some (.inl a2)] (by decide) (Nat.le_of_ble_eq_true rfl) rfl (fun q => q) (ck_in (fun hl => (ck_iload_n 1 rfl 1 dX4_bitAt_0 rfl rfl (ck_iconst 2 rfl dX4_bitAt_1 rfl (ck_iconst 3 rfl dX4_bitAt_2 rfl (have h8 := h; ck_callSN 6 rfl [.inl a1, .inl 0, .inl 5] [] dX4_bitAt_3 cn_X4_41 rfl rfl (Nat.le_of_ble_eq_true rfl) (And.intro hl.2.1 (And.intro (show ck_i 0 by decide) (And.intro (show ck_i 5 by decide) True.intro))) (p_X11_within hC (fun c6 _ => (ck_if_eq 9 rfl 19 dX4_bitAt_6 rfl (by decide) (fun q => absurd q (by decide)) (fun _ => (ck_iload_n 10 rfl 2 dX4_bitAt_9 rfl rfl (ck_iconst 11 rfl dX4_bitAt_10 rfl (ck_bipush 13 rfl dX4_bitAt_11 rfl (have h5 := (h8.1 c6); ck_callSN 16 rfl [.inl a2, .inl 0, .inl 23] [] dX4_bitAt_13 cn_X4_41 rfl rfl (Nat.le_of_ble_eq_true rfl) (And.intro hl.2.2.1 (And.intro (show ck_i 0 by decide) (And.intro (show ck_i 23 by decide) True.intro))) (p_X11_within hC (fun c3 _ => (ck_if_ne 19 rfl 21 dX4_bitAt_16 rfl (by decide) (fun _ => (ck_aload_n 22 rfl 0 dX4_bitAt_21 rfl rfl (ck_getr 25 rfl dX4_bitAt_22 fl_X4_21 sh_10 rfl (ck_iload_n 26 rfl 1 dX4_bitAt_25 rfl rfl (ck_bipush 28 rfl dX4_bitAt_26 rfl (ck_imul 29 rfl dX4_bitAt_28 (ck_iload_n 30 rfl 2 dX4_bitAt_29 rfl rfl (ck_iadd 31 rfl dX4_bitAt_30 (have h10 := (h5.1 c3); have o1 := h10.1; have h9 := h10.2; (ck_iald 32 rfl dX4_bitAt_31 sh_14 (shn_14 hC) o1 _ rfl (fun (q2 : ck_i (w 14 ((a1 * 24) + a2))) => (ck_iret dX4_bitAt_32 rfl q2 h9)))))))))))) (fun q => absurd q (by decide)))) (fun c4 _ => (ck_if_ne 19 rfl 21 dX4_bitAt_16 rfl (by decide) (fun q => absurd q (by decide)) (fun _ => (ck_iconst 20 rfl dX4_bitAt_19 rfl (ck_iret dX4_bitAt_20 rfl (show ck_i (-1) by decide) (h5.2 c4)))))))))))))) (fun c7 _ => (ck_if_eq 9 rfl 19 dX4_bitAt_6 rfl (by decide) (fun _ => (ck_iconst 20 rfl dX4_bitAt_19 rfl (ck_iret dX4_bitAt_20 rfl (show ck_i (-1) by decide) (h8.2 c7)))) (fun q => absurd q (by decide)))))))))))
theorem p_X4_bitAt {g : ch_G} {A R : Nat} (hC : ck_Cx g A R) {d : Nat} {K : Option ck_V → ck_W → Prop} {w : ck_W} {a1 a2 : Int} (h : K (some (.inl (cs_bt w a1 a2))) w) : ck_Ex (ch_C g A R) (d + 1) mX4_bitAt [.inr (.inr 10), .inl a1, .inl a2] w K := by
  unfold cs_bt at h
  refine e_X4_bitAt hC ⟨fun q => ⟨fun q2 => ⟨by omega, by rw [if_pos ⟨q, q2⟩] at h; exact h⟩, fun q2 => by rw [if_neg (fun x => q2 x.2)] at h; exact h⟩, fun q => by rw [if_neg (fun x => q x.1)] at h; exact h⟩
theorem dX4_bitIsOf_0 : decode cX4_bitIsOf 0 = .ok (.aload_n 0, 1) := dk_42 (by decide +kernel)
theorem dX4_bitIsOf_1 : decode cX4_bitIsOf 1 = .ok (.iload_n 2, 1) := dk_28 (by decide +kernel)
theorem dX4_bitIsOf_2 : decode cX4_bitIsOf 2 = .ok (.iload_n 3, 1) := dk_29 (by decide +kernel)
theorem dX4_bitIsOf_3 : decode cX4_bitIsOf 3 = .ok (.invokevirtual 45, 3) := dk_182 0 45 (by decide +kernel)
theorem dX4_bitIsOf_6 : decode cX4_bitIsOf 6 = .ok (.istore 5, 2) := dk_54 (by decide +kernel)
theorem dX4_bitIsOf_8 : decode cX4_bitIsOf 8 = .ok (.iload 5, 2) := dk_21 (by decide +kernel)
theorem dX4_bitIsOf_10 : decode cX4_bitIsOf 10 = .ok (.iconst (-1), 1) := dk_2 (by decide +kernel)
theorem dX4_bitIsOf_11 : decode cX4_bitIsOf 11 = .ok (.if_icmp .eq 11, 3) := dk_159 0 11 (by decide +kernel)
theorem dX4_bitIsOf_14 : decode cX4_bitIsOf 14 = .ok (.aload_n 0, 1) := dk_42 (by decide +kernel)
theorem dX4_bitIsOf_15 : decode cX4_bitIsOf 15 = .ok (.iload_n 1, 1) := dk_27 (by decide +kernel)
theorem dX4_bitIsOf_16 : decode cX4_bitIsOf 16 = .ok (.invokevirtual 49, 3) := dk_182 0 49 (by decide +kernel)
theorem dX4_bitIsOf_19 : decode cX4_bitIsOf 19 = .ok (.ifCond .ne 5, 3) := dk_154 0 5 (by decide +kernel)
theorem dX4_bitIsOf_22 : decode cX4_bitIsOf 22 = .ok (.iconst 0, 1) := dk_3 (by decide +kernel)
theorem dX4_bitIsOf_23 : decode cX4_bitIsOf 23 = .ok (.ireturn, 1) := dk_172 (by decide +kernel)
theorem dX4_bitIsOf_24 : decode cX4_bitIsOf 24 = .ok (.iload 4, 2) := dk_21 (by decide +kernel)
theorem dX4_bitIsOf_26 : decode cX4_bitIsOf 26 = .ok (.aload_n 0, 1) := dk_42 (by decide +kernel)
theorem dX4_bitIsOf_27 : decode cX4_bitIsOf 27 = .ok (.getfield 18, 3) := dk_180 0 18 (by decide +kernel)
theorem dX4_bitIsOf_30 : decode cX4_bitIsOf 30 = .ok (.iload_n 1, 1) := dk_27 (by decide +kernel)
theorem dX4_bitIsOf_31 : decode cX4_bitIsOf 31 = .ok (.iaload, 1) := dk_46 (by decide +kernel)
theorem dX4_bitIsOf_32 : decode cX4_bitIsOf 32 = .ok (.iload 5, 2) := dk_21 (by decide +kernel)
theorem dX4_bitIsOf_34 : decode cX4_bitIsOf 34 = .ok (.iconst 2, 1) := dk_5 (by decide +kernel)
theorem dX4_bitIsOf_35 : decode cX4_bitIsOf 35 = .ok (.idiv, 1) := dk_108 (by decide +kernel)
theorem dX4_bitIsOf_36 : decode cX4_bitIsOf 36 = .ok (.ishr, 1) := dk_122 (by decide +kernel)
theorem dX4_bitIsOf_37 : decode cX4_bitIsOf 37 = .ok (.iconst 1, 1) := dk_4 (by decide +kernel)
theorem dX4_bitIsOf_38 : decode cX4_bitIsOf 38 = .ok (.iand, 1) := dk_126 (by decide +kernel)
theorem dX4_bitIsOf_39 : decode cX4_bitIsOf 39 = .ok (.iconst 1, 1) := dk_4 (by decide +kernel)
theorem dX4_bitIsOf_40 : decode cX4_bitIsOf 40 = .ok (.if_icmp .ne 7, 3) := dk_160 0 7 (by decide +kernel)
theorem dX4_bitIsOf_43 : decode cX4_bitIsOf 43 = .ok (.iconst 1, 1) := dk_4 (by decide +kernel)
theorem dX4_bitIsOf_44 : decode cX4_bitIsOf 44 = .ok (.goto 4, 3) := dk_167 0 4 (by decide +kernel)
theorem dX4_bitIsOf_47 : decode cX4_bitIsOf 47 = .ok (.iconst 0, 1) := dk_3 (by decide +kernel)
theorem dX4_bitIsOf_48 : decode cX4_bitIsOf 48 = .ok (.if_icmp .ne 7, 3) := dk_160 0 7 (by decide +kernel)
theorem dX4_bitIsOf_51 : decode cX4_bitIsOf 51 = .ok (.iconst 1, 1) := dk_4 (by decide +kernel)
theorem dX4_bitIsOf_52 : decode cX4_bitIsOf 52 = .ok (.goto 4, 3) := dk_167 0 4 (by decide +kernel)
theorem dX4_bitIsOf_55 : decode cX4_bitIsOf 55 = .ok (.iconst 0, 1) := dk_3 (by decide +kernel)
theorem dX4_bitIsOf_56 : decode cX4_bitIsOf 56 = .ok (.ireturn, 1) := dk_172 (by decide +kernel)
set_option maxRecDepth 8000 in
theorem e_X4_bitIsOf {g : ch_G} {A R : Nat} (hC : ck_Cx g A R) {d : Nat} {K : Option ck_V → ck_W → Prop} {w : ck_W} {a1 a2 a3 a4 : Int} (h : ck_CI (ch_C g A R) d mX4_bitAt [.inr (.inr 10), .inl a2, .inl a3] w (fun v2 w1 => (v2 = (-1) → K (some (.inl 0)) w1) ∧ (¬ v2 = (-1) → ck_CI (ch_C g A R) d mX4_has [.inr (.inr 10), .inl a1] w1 (fun v6 w5 => (¬ v6 = 0 → (0 ≤ a1 ∧ a1 < 4) ∧ ((¬ (ck_and (ck_shr (w5 13 a1) (v2.tdiv 2)) 1) = 1 → (¬ a4 = 0 → K (some (.inl 0)) w5) ∧ (a4 = 0 → K (some (.inl 1)) w5)) ∧ ((ck_and (ck_shr (w5 13 a1) (v2.tdiv 2)) 1) = 1 → (¬ a4 = 1 → K (some (.inl 0)) w5) ∧ (a4 = 1 → K (some (.inl 1)) w5)))) ∧ (v6 = 0 → K (some (.inl 0)) w5))))) : ck_Ex (ch_C g A R) (d + 1) mX4_bitIsOf [.inr (.inr 10), .inl a1, .inl a2, .inl a3, .inl a4] w K :=
  ck_entry hC.1 [some (.inr (.inr 10)), some (.inl a1), some (.inl a2), some (.inl a3), some (.inl a4), none] (by decide) (Nat.le_of_ble_eq_true rfl) rfl (fun q => q) (ck_in (fun hl => (ck_aload_n 1 rfl 0 dX4_bitIsOf_0 rfl rfl (ck_iload_n 2 rfl 2 dX4_bitIsOf_1 rfl rfl (ck_iload_n 3 rfl 3 dX4_bitIsOf_2 rfl rfl (ck_callV 6 rfl [.inl a2, .inl a3] [] dX4_bitIsOf_3 cv_X4_45 sh_10 rfl rfl (Nat.le_of_ble_eq_true rfl) (And.intro hl.2.2.1 (And.intro hl.2.2.2.1 True.intro)) (ck_mI h (fun v2 w1 q3 h4 => (ck_istore 8 rfl [some (.inr (.inr 10)), some (.inl a1), some (.inl a2), some (.inl a3), some (.inl a4), some (.inl v2)] dX4_bitIsOf_6 (Nat.le_of_ble_eq_true rfl) rfl rfl q3 (ck_iload 10 rfl dX4_bitIsOf_8 rfl (ck_iconst 11 rfl dX4_bitIsOf_10 rfl (ck_icmp_eq 14 rfl 22 dX4_bitIsOf_11 rfl q3 (show ck_i (-1) by decide) (fun c19 => (ck_iconst 23 rfl dX4_bitIsOf_22 rfl (ck_zret dX4_bitIsOf_23 rfl (by decide) (h4.1 c19)))) (fun c20 => (ck_aload_n 15 rfl 0 dX4_bitIsOf_14 rfl rfl (ck_iload_n 16 rfl 1 dX4_bitIsOf_15 rfl rfl (ck_callV 19 rfl [.inl a1] [] dX4_bitIsOf_16 cv_X4_49 sh_10 rfl rfl (Nat.le_of_ble_eq_true rfl) (And.intro hl.2.1 True.intro) (ck_mI (h4.2 c20) (fun v6 w5 q7 h8 => (ck_if_ne 22 rfl 24 dX4_bitIsOf_19 rfl q7 (fun c17 => (ck_iload 26 rfl dX4_bitIsOf_24 rfl (ck_aload_n 27 rfl 0 dX4_bitIsOf_26 rfl rfl (ck_getr 30 rfl dX4_bitIsOf_27 fl_X4_18 sh_10 rfl (ck_iload_n 31 rfl 1 dX4_bitIsOf_30 rfl rfl (have h22 := (h8.1 c17); have o9 := h22.1; have h21 := h22.2; (ck_iald 32 rfl dX4_bitIsOf_31 sh_13 (shn_13 hC) o9 _ rfl (fun (q10 : ck_i (w5 13 a1)) => (ck_iload 34 rfl dX4_bitIsOf_32 rfl (ck_iconst 35 rfl dX4_bitIsOf_34 rfl (ck_idiv 36 rfl dX4_bitIsOf_35 q3 (show ck_i 2 by decide) (by decide) (ck_ishr 37 rfl dX4_bitIsOf_36 (ck_iconst 38 rfl dX4_bitIsOf_37 rfl (ck_iand 39 rfl dX4_bitIsOf_38 (ck_iconst 40 rfl dX4_bitIsOf_39 rfl (ck_icmp_ne 43 rfl 47 dX4_bitIsOf_40 rfl (ck_rng _) (show ck_i 1 by decide) (fun c15 => (ck_iconst 48 rfl dX4_bitIsOf_47 rfl (have h23 := (h21.1 c15); (ck_icmp_ne 51 rfl 55 dX4_bitIsOf_48 rfl hl.2.2.2.2.1 (show ck_i 0 by decide) (fun c11 => (ck_iconst 56 rfl dX4_bitIsOf_55 rfl (ck_zret dX4_bitIsOf_56 rfl (by decide) (h23.1 c11)))) (fun c12 => (ck_iconst 52 rfl dX4_bitIsOf_51 rfl (ck_goto 56 dX4_bitIsOf_52 rfl (ck_zret dX4_bitIsOf_56 rfl (by decide) (h23.2 c12))))))))) (fun c16 => (ck_iconst 44 rfl dX4_bitIsOf_43 rfl (ck_goto 48 dX4_bitIsOf_44 rfl (have h24 := (h21.2 c16); (ck_icmp_ne 51 rfl 55 dX4_bitIsOf_48 rfl hl.2.2.2.2.1 (show ck_i 1 by decide) (fun c13 => (ck_iconst 56 rfl dX4_bitIsOf_55 rfl (ck_zret dX4_bitIsOf_56 rfl (by decide) (h24.1 c13)))) (fun c14 => (ck_iconst 52 rfl dX4_bitIsOf_51 rfl (ck_goto 56 dX4_bitIsOf_52 rfl (ck_zret dX4_bitIsOf_56 rfl (by decide) (h24.2 c14)))))))))))))))))))))))))) (fun c18 => (ck_iconst 23 rfl dX4_bitIsOf_22 rfl (ck_zret dX4_bitIsOf_23 rfl (by decide) (h8.2 c18)))))))))))))))))))))))
theorem p_X4_bitIsOf {g : ch_G} {A R : Nat} (hC : ck_Cx g A R) {d : Nat} {K : Option ck_V → ck_W → Prop} {w : ck_W} {a1 a2 a3 a4 : Int} (hc : 0 ≤ w 10 3 ∧ w 10 3 ≤ 4) (h : K (some (.inl (cs_bo w a1 a2 a3 a4))) w) : ck_Ex (ch_C g A R) (d + 2) mX4_bitIsOf [.inr (.inr 10), .inl a1, .inl a2, .inl a3, .inl a4] w K := by
  unfold cs_bo at h
  refine e_X4_bitIsOf hC (p_X4_bitAt hC ⟨_, rfl, fun _ => ⟨fun q => by rw [if_pos q] at h; exact h, fun q => ?_⟩⟩)
  rw [if_neg q] at h
  refine p_X4_has hC hc (fun ok => ⟨_, rfl, fun _ => ⟨fun _ => ⟨by omega, fun z => ?_, fun z => ?_⟩, fun z => absurd z (by decide)⟩⟩) (fun no => ⟨_, rfl, fun _ => ⟨fun z => absurd rfl z, fun _ => by rw [if_pos no] at h; exact h⟩⟩)
  · rw [if_neg (fun x => x ok), if_neg z] at h
    exact ⟨fun y => by rw [if_neg y] at h; exact h, fun y => by rw [if_pos y] at h; exact h⟩
  · rw [if_neg (fun x => x ok), if_pos z] at h
    exact ⟨fun y => by rw [if_neg y] at h; exact h, fun y => by rw [if_pos y] at h; exact h⟩
theorem dX11_right_0 : decode cX11_right 0 = .ok (.aload_n 0, 1) := dk_42 (by decide +kernel)
theorem dX11_right_1 : decode cX11_right 1 = .ok (.getfield 14, 3) := dk_180 0 14 (by decide +kernel)
theorem dX11_right_4 : decode cX11_right 4 = .ok (.getfield 56, 3) := dk_180 0 56 (by decide +kernel)
theorem dX11_right_7 : decode cX11_right 7 = .ok (.iload_n 1, 1) := dk_27 (by decide +kernel)
theorem dX11_right_8 : decode cX11_right 8 = .ok (.invokevirtual 215, 3) := dk_182 0 215 (by decide +kernel)
theorem dX11_right_11 : decode cX11_right 11 = .ok (.ifCond .eq 12, 3) := dk_153 0 12 (by decide +kernel)
theorem dX11_right_14 : decode cX11_right 14 = .ok (.iload_n 3, 1) := dk_29 (by decide +kernel)
theorem dX11_right_15 : decode cX11_right 15 = .ok (.iconst 0, 1) := dk_3 (by decide +kernel)
theorem dX11_right_16 : decode cX11_right 16 = .ok (.iconst 1, 1) := dk_4 (by decide +kernel)
theorem dX11_right_17 : decode cX11_right 17 = .ok (.invokestatic 82, 3) := dk_184 0 82 (by decide +kernel)
theorem dX11_right_20 : decode cX11_right 20 = .ok (.ifCond .ne 5, 3) := dk_154 0 5 (by decide +kernel)
theorem dX11_right_23 : decode cX11_right 23 = .ok (.iconst (-1), 1) := dk_2 (by decide +kernel)
theorem dX11_right_24 : decode cX11_right 24 = .ok (.ireturn, 1) := dk_172 (by decide +kernel)
theorem dX11_right_25 : decode cX11_right 25 = .ok (.iconst 0, 1) := dk_3 (by decide +kernel)
theorem dX11_right_26 : decode cX11_right 26 = .ok (.istore 4, 2) := dk_54 (by decide +kernel)
theorem dX11_right_28 : decode cX11_right 28 = .ok (.iconst 0, 1) := dk_3 (by decide +kernel)
theorem dX11_right_29 : decode cX11_right 29 = .ok (.istore 5, 2) := dk_54 (by decide +kernel)
theorem dX11_right_31 : decode cX11_right 31 = .ok (.iload 5, 2) := dk_21 (by decide +kernel)
theorem dX11_right_33 : decode cX11_right 33 = .ok (.bipush 6, 2) := dk_16 6 (by decide +kernel)
theorem dX11_right_35 : decode cX11_right 35 = .ok (.if_icmp .ge 126, 3) := dk_162 0 126 (by decide +kernel)
theorem dX11_right_38 : decode cX11_right 38 = .ok (.aload_n 0, 1) := dk_42 (by decide +kernel)
theorem dX11_right_39 : decode cX11_right 39 = .ok (.getfield 14, 3) := dk_180 0 14 (by decide +kernel)
theorem dX11_right_42 : decode cX11_right 42 = .ok (.getfield 23, 3) := dk_180 0 23 (by decide +kernel)
theorem dX11_right_45 : decode cX11_right 45 = .ok (.iload 5, 2) := dk_21 (by decide +kernel)
theorem dX11_right_47 : decode cX11_right 47 = .ok (.invokevirtual 218, 3) := dk_182 0 218 (by decide +kernel)
theorem dX11_right_50 : decode cX11_right 50 = .ok (.istore 6, 2) := dk_54 (by decide +kernel)
theorem dX11_right_52 : decode cX11_right 52 = .ok (.iconst 0, 1) := dk_3 (by decide +kernel)
theorem dX11_right_53 : decode cX11_right 53 = .ok (.istore 7, 2) := dk_54 (by decide +kernel)
theorem dX11_right_55 : decode cX11_right 55 = .ok (.iload 7, 2) := dk_21 (by decide +kernel)
theorem dX11_right_57 : decode cX11_right 57 = .ok (.iload 6, 2) := dk_21 (by decide +kernel)
theorem dX11_right_59 : decode cX11_right 59 = .ok (.if_icmp .ge 96, 3) := dk_162 0 96 (by decide +kernel)
theorem dX11_right_62 : decode cX11_right 62 = .ok (.aload_n 0, 1) := dk_42 (by decide +kernel)
theorem dX11_right_63 : decode cX11_right 63 = .ok (.getfield 14, 3) := dk_180 0 14 (by decide +kernel)
theorem dX11_right_66 : decode cX11_right 66 = .ok (.getfield 56, 3) := dk_180 0 56 (by decide +kernel)
theorem dX11_right_69 : decode cX11_right 69 = .ok (.iload_n 1, 1) := dk_27 (by decide +kernel)
theorem dX11_right_70 : decode cX11_right 70 = .ok (.iload 5, 2) := dk_21 (by decide +kernel)
theorem dX11_right_72 : decode cX11_right 72 = .ok (.iload 7, 2) := dk_21 (by decide +kernel)
theorem dX11_right_74 : decode cX11_right 74 = .ok (.iload_n 2, 1) := dk_28 (by decide +kernel)
theorem dX11_right_75 : decode cX11_right 75 = .ok (.invokevirtual 222, 3) := dk_182 0 222 (by decide +kernel)
theorem dX11_right_78 : decode cX11_right 78 = .ok (.ifCond .eq 71, 3) := dk_153 0 71 (by decide +kernel)
theorem dX11_right_81 : decode cX11_right 81 = .ok (.aload_n 0, 1) := dk_42 (by decide +kernel)
theorem dX11_right_82 : decode cX11_right 82 = .ok (.getfield 30, 3) := dk_180 0 30 (by decide +kernel)
theorem dX11_right_85 : decode cX11_right 85 = .ok (.iload 5, 2) := dk_21 (by decide +kernel)
theorem dX11_right_87 : decode cX11_right 87 = .ok (.invokevirtual 120, 3) := dk_182 0 120 (by decide +kernel)
theorem dX11_right_90 : decode cX11_right 90 = .ok (.pop, 1) := dk_87 (by decide +kernel)
theorem dX11_right_91 : decode cX11_right 91 = .ok (.aload_n 0, 1) := dk_42 (by decide +kernel)
theorem dX11_right_92 : decode cX11_right 92 = .ok (.getfield 63, 3) := dk_180 0 63 (by decide +kernel)
theorem dX11_right_95 : decode cX11_right 95 = .ok (.iload_n 1, 1) := dk_27 (by decide +kernel)
theorem dX11_right_96 : decode cX11_right 96 = .ok (.iload 5, 2) := dk_21 (by decide +kernel)
theorem dX11_right_98 : decode cX11_right 98 = .ok (.iload 7, 2) := dk_21 (by decide +kernel)
theorem dX11_right_100 : decode cX11_right 100 = .ok (.invokevirtual 206, 3) := dk_182 0 206 (by decide +kernel)
theorem dX11_right_103 : decode cX11_right 103 = .ok (.aload_n 0, 1) := dk_42 (by decide +kernel)
theorem dX11_right_104 : decode cX11_right 104 = .ok (.getfield 14, 3) := dk_180 0 14 (by decide +kernel)
theorem dX11_right_107 : decode cX11_right 107 = .ok (.getfield 56, 3) := dk_180 0 56 (by decide +kernel)
theorem dX11_right_110 : decode cX11_right 110 = .ok (.iload 5, 2) := dk_21 (by decide +kernel)
theorem dX11_right_112 : decode cX11_right 112 = .ok (.iload 7, 2) := dk_21 (by decide +kernel)
theorem dX11_right_114 : decode cX11_right 114 = .ok (.invokevirtual 226, 3) := dk_182 0 226 (by decide +kernel)
theorem dX11_right_117 : decode cX11_right 117 = .ok (.iconst 2, 1) := dk_5 (by decide +kernel)
theorem dX11_right_118 : decode cX11_right 118 = .ok (.irem, 1) := dk_112 (by decide +kernel)
theorem dX11_right_119 : decode cX11_right 119 = .ok (.if_icmp .ne 7, 3) := dk_160 0 7 (by decide +kernel)
theorem dX11_right_122 : decode cX11_right 122 = .ok (.iconst 1, 1) := dk_4 (by decide +kernel)
theorem dX11_right_123 : decode cX11_right 123 = .ok (.goto 4, 3) := dk_167 0 4 (by decide +kernel)
theorem dX11_right_126 : decode cX11_right 126 = .ok (.iconst 0, 1) := dk_3 (by decide +kernel)
theorem dX11_right_127 : decode cX11_right 127 = .ok (.istore 8, 2) := dk_54 (by decide +kernel)
theorem dX11_right_129 : decode cX11_right 129 = .ok (.iload 4, 2) := dk_21 (by decide +kernel)
theorem dX11_right_131 : decode cX11_right 131 = .ok (.iload_n 3, 1) := dk_29 (by decide +kernel)
theorem dX11_right_132 : decode cX11_right 132 = .ok (.iconst 1, 1) := dk_4 (by decide +kernel)
theorem dX11_right_133 : decode cX11_right 133 = .ok (.if_icmp .eq 8, 3) := dk_159 0 8 (by decide +kernel)
theorem dX11_right_136 : decode cX11_right 136 = .ok (.iload 8, 2) := dk_21 (by decide +kernel)
theorem dX11_right_138 : decode cX11_right 138 = .ok (.ifCond .eq 7, 3) := dk_153 0 7 (by decide +kernel)
theorem dX11_right_141 : decode cX11_right 141 = .ok (.iconst 1, 1) := dk_4 (by decide +kernel)
theorem dX11_right_142 : decode cX11_right 142 = .ok (.goto 4, 3) := dk_167 0 4 (by decide +kernel)
theorem dX11_right_145 : decode cX11_right 145 = .ok (.iconst 0, 1) := dk_3 (by decide +kernel)
theorem dX11_right_146 : decode cX11_right 146 = .ok (.iadd, 1) := dk_96 (by decide +kernel)
theorem dX11_right_147 : decode cX11_right 147 = .ok (.istore 4, 2) := dk_54 (by decide +kernel)
theorem dX11_right_149 : decode cX11_right 149 = .ok (.iinc 7 1, 3) := dk_132 1 (by decide +kernel)
theorem dX11_right_152 : decode cX11_right 152 = .ok (.goto (-97), 3) := dk_167 255 159 (by decide +kernel)
theorem dX11_right_155 : decode cX11_right 155 = .ok (.iinc 5 1, 3) := dk_132 1 (by decide +kernel)
theorem dX11_right_158 : decode cX11_right 158 = .ok (.goto (-127), 3) := dk_167 255 129 (by decide +kernel)
theorem dX11_right_161 : decode cX11_right 161 = .ok (.iload 4, 2) := dk_21 (by decide +kernel)
theorem dX11_right_163 : decode cX11_right 163 = .ok (.ireturn, 1) := dk_172 (by decide +kernel)
set_option maxRecDepth 8000 in
theorem e_X11_right {g : ch_G} {A R : Nat} (hC : ck_Cx g A R) {d : Nat} {K : Option ck_V → ck_W → Prop} {w : ck_W} {a1 a2 a3 : Int} (h : ck_CI (ch_C g A R) d mX4_has [.inr (.inr 10), .inl a1] w (fun v2 w1 => (v2 = 0 → K (some (.inl (-1))) w1) ∧ (¬ v2 = 0 → (0 ≤ a3 ∧ a3 ≤ 1 → ck_At (ch_C g A R) (d + 1) mX11_right K 31 [some (.inr (.inr 0)), some (.inl a1), some (.inl a2), some (.inl a3), some (.inl 0), some (.inl 0), none, none, none] [] w1) ∧ (¬ (0 ≤ a3 ∧ a3 ≤ 1) → K (some (.inl (-1))) w1)))) : ck_Ex (ch_C g A R) (d + 1) mX11_right [.inr (.inr 0), .inl a1, .inl a2, .inl a3] w K :=
  ck_entry hC.1 [some (.inr (.inr 0)), some (.inl a1), some (.inl a2), some (.inl a3), none, none, none, none, none] (by decide) (Nat.le_of_ble_eq_true rfl) rfl (fun q => q) (ck_in (fun hl => (ck_aload_n 1 rfl 0 dX11_right_0 rfl rfl (ck_getr 4 rfl dX11_right_1 fl_X11_14 sh_0 rfl (ck_getr 7 rfl dX11_right_4 fl_X11_56 sh_1 rfl (ck_iload_n 8 rfl 1 dX11_right_7 rfl rfl (ck_callV 11 rfl [.inl a1] [] dX11_right_8 cv_X11_215 sh_10 rfl rfl (Nat.le_of_ble_eq_true rfl) (And.intro hl.2.1 True.intro) (ck_mI h (fun v2 w1 q3 h4 => (ck_if_eq 14 rfl 23 dX11_right_11 rfl q3 (fun c8 => (ck_iconst 24 rfl dX11_right_23 rfl (ck_iret dX11_right_24 rfl (show ck_i (-1) by decide) (h4.1 c8)))) (fun c9 => (ck_iload_n 15 rfl 3 dX11_right_14 rfl rfl (ck_iconst 16 rfl dX11_right_15 rfl (ck_iconst 17 rfl dX11_right_16 rfl (have h7 := (h4.2 c9); ck_callS 20 rfl [.inl a3, .inl 0, .inl 1] [] dX11_right_17 cs_X11_82 rfl rfl (Nat.le_of_ble_eq_true rfl) (And.intro hl.2.2.2.1 (And.intro (show ck_i 0 by decide) (And.intro (show ck_i 1 by decide) True.intro))) (p_X11_within hC (fun c5 _ => (ck_if_ne 23 rfl 25 dX11_right_20 rfl (by decide) (fun _ => (ck_iconst 26 rfl dX11_right_25 rfl (ck_istore 28 rfl [some (.inr (.inr 0)), some (.inl a1), some (.inl a2), some (.inl a3), some (.inl 0), none, none, none, none] dX11_right_26 (Nat.le_of_ble_eq_true rfl) rfl rfl (show ck_i 0 by decide) (ck_iconst 29 rfl dX11_right_28 rfl (ck_istore 31 rfl [some (.inr (.inr 0)), some (.inl a1), some (.inl a2), some (.inl a3), some (.inl 0), some (.inl 0), none, none, none] dX11_right_29 (Nat.le_of_ble_eq_true rfl) rfl rfl (show ck_i 0 by decide) (h7.1 c5)))))) (fun q => absurd q (by decide)))) (fun c6 _ => (ck_if_ne 23 rfl 25 dX11_right_20 rfl (by decide) (fun q => absurd q (by decide)) (fun _ => (ck_iconst 24 rfl dX11_right_23 rfl (ck_iret dX11_right_24 rfl (show ck_i (-1) by decide) (h7.2 c6))))))))))))))))))))))
set_option maxRecDepth 8000 in
theorem r_X11_right_31 {g : ch_G} {A R : Nat} (hC : ck_Cx g A R) {d : Nat} {K : Option ck_V → ck_W → Prop} {w : ck_W} {a1 a2 a3 a4 a5 : Int} (h : (6 ≤ a5 → K (some (.inl a4)) w) ∧ (¬ 6 ≤ a5 → ck_CI (ch_C g A R) d mX5_places [.inr (.inr 3), .inl a5] w (fun v2 w1 => ck_At (ch_C g A R) (d + 1) mX11_right K 55 [some (.inr (.inr 0)), some (.inl a1), some (.inl a2), some (.inl a3), some (.inl a4), some (.inl a5), some (.inl v2), some (.inl 0), none] [] w1))) : ck_At (ch_C g A R) (d + 1) mX11_right K 31 [some (.inr (.inr 0)), some (.inl a1), some (.inl a2), some (.inl a3), some (.inl a4), some (.inl a5), none, none, none] [] w :=
  ck_in (fun hl => (ck_iload 33 rfl dX11_right_31 rfl (ck_bipush 35 rfl dX11_right_33 rfl (ck_icmp_ge 38 rfl 161 dX11_right_35 rfl hl.2.2.2.2.2.1 (show ck_i 6 by decide) (fun c5 => (ck_iload 163 rfl dX11_right_161 rfl (ck_iret dX11_right_163 rfl hl.2.2.2.2.1 (h.1 c5)))) (fun c6 => (ck_aload_n 39 rfl 0 dX11_right_38 rfl rfl (ck_getr 42 rfl dX11_right_39 fl_X11_14 sh_0 rfl (ck_getr 45 rfl dX11_right_42 fl_X11_23 sh_1 rfl (ck_iload 47 rfl dX11_right_45 rfl (ck_callV 50 rfl [.inl a5] [] dX11_right_47 cv_X11_218 sh_3 rfl rfl (Nat.le_of_ble_eq_true rfl) (And.intro hl.2.2.2.2.2.1 True.intro) (ck_mI (h.2 c6) (fun v2 w1 q3 h4 => (ck_istore 52 rfl [some (.inr (.inr 0)), some (.inl a1), some (.inl a2), some (.inl a3), some (.inl a4), some (.inl a5), some (.inl v2), none, none] dX11_right_50 (Nat.le_of_ble_eq_true rfl) rfl rfl q3 (ck_iconst 53 rfl dX11_right_52 rfl (ck_istore 55 rfl [some (.inr (.inr 0)), some (.inl a1), some (.inl a2), some (.inl a3), some (.inl a4), some (.inl a5), some (.inl v2), some (.inl 0), none] dX11_right_53 (Nat.le_of_ble_eq_true rfl) rfl rfl (show ck_i 0 by decide) h4)))))))))))))))
set_option maxRecDepth 8000 in
theorem r_X11_right_55 {g : ch_G} {A R : Nat} (hC : ck_Cx g A R) {d : Nat} {K : Option ck_V → ck_W → Prop} {w : ck_W} {a1 a2 a3 a4 a5 a6 a7 : Int} (h : (a6 ≤ a7 → ck_i (a5 + 1) ∧ (ck_At (ch_C g A R) (d + 1) mX11_right K 31 [some (.inr (.inr 0)), some (.inl a1), some (.inl a2), some (.inl a3), some (.inl a4), some (.inl (a5 + 1)), none, none, none] [] w)) ∧ (¬ a6 ≤ a7 → ck_CI (ch_C g A R) d mX4_bitIsOf [.inr (.inr 10), .inl a1, .inl a5, .inl a7, .inl a2] w (fun v3 w2 => (v3 = 0 → ck_i (a7 + 1) ∧ (ck_At (ch_C g A R) (d + 1) mX11_right K 55 [some (.inr (.inr 0)), some (.inl a1), some (.inl a2), some (.inl a3), some (.inl a4), some (.inl a5), some (.inl a6), some (.inl (a7 + 1)), none] [] w2)) ∧ (¬ v3 = 0 → ck_CI (ch_C g A R) d mX10_settle [.inr (.inr 51), .inl a5] w2 (fun v8 w7 => ck_CI (ch_C g A R) d mX7_inkAt [.inr (.inr 70), .inl a1, .inl a5, .inl a7] w7 (fun v12 w11 => ck_CI (ch_C g A R) d mX4_bitAt [.inr (.inr 10), .inl a5, .inl a7] w11 (fun v16 w15 => ck_i (v16.tmod 2) ∧ ((¬ v12 = (v16.tmod 2) → (a3 = 1 → ck_i (a4 + 1) ∧ (ck_i (a7 + 1) ∧ (ck_At (ch_C g A R) (d + 1) mX11_right K 55 [some (.inr (.inr 0)), some (.inl a1), some (.inl a2), some (.inl a3), some (.inl (a4 + 1)), some (.inl a5), some (.inl a6), some (.inl (a7 + 1)), none] [] w15))) ∧ (¬ a3 = 1 → ck_i (a4 + 0) ∧ (ck_i (a7 + 1) ∧ (ck_At (ch_C g A R) (d + 1) mX11_right K 55 [some (.inr (.inr 0)), some (.inl a1), some (.inl a2), some (.inl a3), some (.inl (a4 + 0)), some (.inl a5), some (.inl a6), some (.inl (a7 + 1)), none] [] w15)))) ∧ (v12 = (v16.tmod 2) → (a3 = 1 → ck_i (a4 + 1) ∧ (ck_i (a7 + 1) ∧ (ck_At (ch_C g A R) (d + 1) mX11_right K 55 [some (.inr (.inr 0)), some (.inl a1), some (.inl a2), some (.inl a3), some (.inl (a4 + 1)), some (.inl a5), some (.inl a6), some (.inl (a7 + 1)), none] [] w15))) ∧ (¬ a3 = 1 → ck_i (a4 + 1) ∧ (ck_i (a7 + 1) ∧ (ck_At (ch_C g A R) (d + 1) mX11_right K 55 [some (.inr (.inr 0)), some (.inl a1), some (.inl a2), some (.inl a3), some (.inl (a4 + 1)), some (.inl a5), some (.inl a6), some (.inl (a7 + 1)), none] [] w15)))))))))))) : ck_At (ch_C g A R) (d + 1) mX11_right K 55 [some (.inr (.inr 0)), some (.inl a1), some (.inl a2), some (.inl a3), some (.inl a4), some (.inl a5), some (.inl a6), some (.inl a7), none] [] w :=
  ck_in (fun hl => (ck_iload 57 rfl dX11_right_55 rfl (ck_iload 59 rfl dX11_right_57 rfl (ck_icmp_ge 62 rfl 155 dX11_right_59 rfl hl.2.2.2.2.2.2.2.1 hl.2.2.2.2.2.2.1 (fun c36 => (have h39 := (h.1 c36); have o1 := h39.1; have h38 := h39.2; (ck_iinc 158 rfl [some (.inr (.inr 0)), some (.inl a1), some (.inl a2), some (.inl a3), some (.inl a4), some (.inl (a5 + 1)), some (.inl a6), some (.inl a7), none] dX11_right_155 rfl (Nat.le_of_ble_eq_true rfl) rfl rfl o1 (ck_goto 31 dX11_right_158 rfl (ck_drop [some (.inr (.inr 0)), some (.inl a1), some (.inl a2), some (.inl a3), some (.inl a4), some (.inl (a5 + 1)), none, none, none] (And.intro rfl (And.intro rfl (And.intro rfl (And.intro rfl (And.intro rfl (And.intro rfl True.intro)))))) h38))))) (fun c37 => (ck_aload_n 63 rfl 0 dX11_right_62 rfl rfl (ck_getr 66 rfl dX11_right_63 fl_X11_14 sh_0 rfl (ck_getr 69 rfl dX11_right_66 fl_X11_56 sh_1 rfl (ck_iload_n 70 rfl 1 dX11_right_69 rfl rfl (ck_iload 72 rfl dX11_right_70 rfl (ck_iload 74 rfl dX11_right_72 rfl (ck_iload_n 75 rfl 2 dX11_right_74 rfl rfl (ck_callV 78 rfl [.inl a1, .inl a5, .inl a7, .inl a2] [] dX11_right_75 cv_X11_222 sh_10 rfl rfl (Nat.le_of_ble_eq_true rfl) (And.intro hl.2.1 (And.intro hl.2.2.2.2.2.1 (And.intro hl.2.2.2.2.2.2.2.1 (And.intro hl.2.2.1 True.intro)))) (ck_mI (h.2 c37) (fun v3 w2 q4 h5 => (ck_if_eq 81 rfl 149 dX11_right_78 rfl q4 (fun c34 => (have h41 := (h5.1 c34); have o6 := h41.1; have h40 := h41.2; (ck_iinc 152 rfl [some (.inr (.inr 0)), some (.inl a1), some (.inl a2), some (.inl a3), some (.inl a4), some (.inl a5), some (.inl a6), some (.inl (a7 + 1)), none] dX11_right_149 rfl (Nat.le_of_ble_eq_true rfl) rfl rfl o6 (ck_goto 55 dX11_right_152 rfl h40)))) (fun c35 => (ck_aload_n 82 rfl 0 dX11_right_81 rfl rfl (ck_getr 85 rfl dX11_right_82 fl_X11_30 sh_0 rfl (ck_iload 87 rfl dX11_right_85 rfl (ck_callV 90 rfl [.inl a5] [] dX11_right_87 cv_X11_120 sh_51 rfl rfl (Nat.le_of_ble_eq_true rfl) (And.intro hl.2.2.2.2.2.1 True.intro) (ck_mI (h5.2 c35) (fun v8 w7 q9 h10 => (ck_pop 91 rfl dX11_right_90 rfl (ck_aload_n 92 rfl 0 dX11_right_91 rfl rfl (ck_getr 95 rfl dX11_right_92 fl_X11_63 sh_0 rfl (ck_iload_n 96 rfl 1 dX11_right_95 rfl rfl (ck_iload 98 rfl dX11_right_96 rfl (ck_iload 100 rfl dX11_right_98 rfl (ck_callV 103 rfl [.inl a1, .inl a5, .inl a7] [] dX11_right_100 cv_X11_206 sh_70 rfl rfl (Nat.le_of_ble_eq_true rfl) (And.intro hl.2.1 (And.intro hl.2.2.2.2.2.1 (And.intro hl.2.2.2.2.2.2.2.1 True.intro))) (ck_mI h10 (fun v12 w11 q13 h14 => (ck_aload_n 104 rfl 0 dX11_right_103 rfl rfl (ck_getr 107 rfl dX11_right_104 fl_X11_14 sh_0 rfl (ck_getr 110 rfl dX11_right_107 fl_X11_56 sh_1 rfl (ck_iload 112 rfl dX11_right_110 rfl (ck_iload 114 rfl dX11_right_112 rfl (ck_callV 117 rfl [.inl a5, .inl a7] [.inl v12] dX11_right_114 cv_X11_226 sh_10 rfl rfl (Nat.le_of_ble_eq_true rfl) (And.intro hl.2.2.2.2.2.1 (And.intro hl.2.2.2.2.2.2.2.1 True.intro)) (ck_mI h14 (fun v16 w15 q17 h18 => (ck_iconst 118 rfl dX11_right_117 rfl (ck_irem 119 rfl dX11_right_118 q17 (show ck_i 2 by decide) (by decide) (have h43 := h18; have o19 := h43.1; have h42 := h43.2; (ck_icmp_ne 122 rfl 126 dX11_right_119 rfl q13 o19 (fun c32 => (ck_iconst 127 rfl dX11_right_126 rfl (ck_istore 129 rfl [some (.inr (.inr 0)), some (.inl a1), some (.inl a2), some (.inl a3), some (.inl a4), some (.inl a5), some (.inl a6), some (.inl a7), some (.inl 0)] dX11_right_127 (Nat.le_of_ble_eq_true rfl) rfl rfl (show ck_i 0 by decide) (ck_iload 131 rfl dX11_right_129 rfl (ck_iload_n 132 rfl 3 dX11_right_131 rfl rfl (ck_iconst 133 rfl dX11_right_132 rfl (have h44 := (h42.1 c32); (ck_icmp_eq 136 rfl 141 dX11_right_133 rfl hl.2.2.2.1 (show ck_i 1 by decide) (fun c24 => (ck_iconst 142 rfl dX11_right_141 rfl (ck_goto 146 dX11_right_142 rfl (ck_iadd 147 rfl dX11_right_146 (have h46 := (h44.1 c24); have o20 := h46.1; have h45 := h46.2; (ck_istore 149 rfl [some (.inr (.inr 0)), some (.inl a1), some (.inl a2), some (.inl a3), some (.inl (a4 + 1)), some (.inl a5), some (.inl a6), some (.inl a7), some (.inl 0)] dX11_right_147 (Nat.le_of_ble_eq_true rfl) rfl rfl o20 (have h48 := h45; have o21 := h48.1; have h47 := h48.2; (ck_iinc 152 rfl [some (.inr (.inr 0)), some (.inl a1), some (.inl a2), some (.inl a3), some (.inl (a4 + 1)), some (.inl a5), some (.inl a6), some (.inl (a7 + 1)), some (.inl 0)] dX11_right_149 rfl (Nat.le_of_ble_eq_true rfl) rfl rfl o21 (ck_goto 55 dX11_right_152 rfl (ck_drop [some (.inr (.inr 0)), some (.inl a1), some (.inl a2), some (.inl a3), some (.inl (a4 + 1)), some (.inl a5), some (.inl a6), some (.inl (a7 + 1)), none] (And.intro rfl (And.intro rfl (And.intro rfl (And.intro rfl (And.intro rfl (And.intro rfl (And.intro rfl (And.intro rfl True.intro)))))))) h47)))))))))) (fun c25 => (ck_iload 138 rfl dX11_right_136 rfl (ck_if_eq 141 rfl 145 dX11_right_138 rfl (by decide) (fun _ => (ck_iconst 146 rfl dX11_right_145 rfl (ck_iadd 147 rfl dX11_right_146 (have h50 := (h44.2 c25); have o22 := h50.1; have h49 := h50.2; (ck_istore 149 rfl [some (.inr (.inr 0)), some (.inl a1), some (.inl a2), some (.inl a3), some (.inl (a4 + 0)), some (.inl a5), some (.inl a6), some (.inl a7), some (.inl 0)] dX11_right_147 (Nat.le_of_ble_eq_true rfl) rfl rfl o22 (have h52 := h49; have o23 := h52.1; have h51 := h52.2; (ck_iinc 152 rfl [some (.inr (.inr 0)), some (.inl a1), some (.inl a2), some (.inl a3), some (.inl (a4 + 0)), some (.inl a5), some (.inl a6), some (.inl (a7 + 1)), some (.inl 0)] dX11_right_149 rfl (Nat.le_of_ble_eq_true rfl) rfl rfl o23 (ck_goto 55 dX11_right_152 rfl (ck_drop [some (.inr (.inr 0)), some (.inl a1), some (.inl a2), some (.inl a3), some (.inl (a4 + 0)), some (.inl a5), some (.inl a6), some (.inl (a7 + 1)), none] (And.intro rfl (And.intro rfl (And.intro rfl (And.intro rfl (And.intro rfl (And.intro rfl (And.intro rfl (And.intro rfl True.intro)))))))) h51))))))))) (fun q => absurd q (by decide))))))))))))) (fun c33 => (ck_iconst 123 rfl dX11_right_122 rfl (ck_goto 127 dX11_right_123 rfl (ck_istore 129 rfl [some (.inr (.inr 0)), some (.inl a1), some (.inl a2), some (.inl a3), some (.inl a4), some (.inl a5), some (.inl a6), some (.inl a7), some (.inl 1)] dX11_right_127 (Nat.le_of_ble_eq_true rfl) rfl rfl (show ck_i 1 by decide) (ck_iload 131 rfl dX11_right_129 rfl (ck_iload_n 132 rfl 3 dX11_right_131 rfl rfl (ck_iconst 133 rfl dX11_right_132 rfl (have h53 := (h42.2 c33); (ck_icmp_eq 136 rfl 141 dX11_right_133 rfl hl.2.2.2.1 (show ck_i 1 by decide) (fun c30 => (ck_iconst 142 rfl dX11_right_141 rfl (ck_goto 146 dX11_right_142 rfl (ck_iadd 147 rfl dX11_right_146 (have h55 := (h53.1 c30); have o26 := h55.1; have h54 := h55.2; (ck_istore 149 rfl [some (.inr (.inr 0)), some (.inl a1), some (.inl a2), some (.inl a3), some (.inl (a4 + 1)), some (.inl a5), some (.inl a6), some (.inl a7), some (.inl 1)] dX11_right_147 (Nat.le_of_ble_eq_true rfl) rfl rfl o26 (have h57 := h54; have o27 := h57.1; have h56 := h57.2; (ck_iinc 152 rfl [some (.inr (.inr 0)), some (.inl a1), some (.inl a2), some (.inl a3), some (.inl (a4 + 1)), some (.inl a5), some (.inl a6), some (.inl (a7 + 1)), some (.inl 1)] dX11_right_149 rfl (Nat.le_of_ble_eq_true rfl) rfl rfl o27 (ck_goto 55 dX11_right_152 rfl (ck_drop [some (.inr (.inr 0)), some (.inl a1), some (.inl a2), some (.inl a3), some (.inl (a4 + 1)), some (.inl a5), some (.inl a6), some (.inl (a7 + 1)), none] (And.intro rfl (And.intro rfl (And.intro rfl (And.intro rfl (And.intro rfl (And.intro rfl (And.intro rfl (And.intro rfl True.intro)))))))) h56)))))))))) (fun c31 => (ck_iload 138 rfl dX11_right_136 rfl (ck_if_eq 141 rfl 145 dX11_right_138 rfl (by decide) (fun q => absurd q (by decide)) (fun _ => (ck_iconst 142 rfl dX11_right_141 rfl (ck_goto 146 dX11_right_142 rfl (ck_iadd 147 rfl dX11_right_146 (have h59 := (h53.2 c31); have o28 := h59.1; have h58 := h59.2; (ck_istore 149 rfl [some (.inr (.inr 0)), some (.inl a1), some (.inl a2), some (.inl a3), some (.inl (a4 + 1)), some (.inl a5), some (.inl a6), some (.inl a7), some (.inl 1)] dX11_right_147 (Nat.le_of_ble_eq_true rfl) rfl rfl o28 (have h61 := h58; have o29 := h61.1; have h60 := h61.2; (ck_iinc 152 rfl [some (.inr (.inr 0)), some (.inl a1), some (.inl a2), some (.inl a3), some (.inl (a4 + 1)), some (.inl a5), some (.inl a6), some (.inl (a7 + 1)), some (.inl 1)] dX11_right_149 rfl (Nat.le_of_ble_eq_true rfl) rfl rfl o29 (ck_goto 55 dX11_right_152 rfl (ck_drop [some (.inr (.inr 0)), some (.inl a1), some (.inl a2), some (.inl a3), some (.inl (a4 + 1)), some (.inl a5), some (.inl a6), some (.inl (a7 + 1)), none] (And.intro rfl (And.intro rfl (And.intro rfl (And.intro rfl (And.intro rfl (And.intro rfl (And.intro rfl (And.intro rfl True.intro)))))))) h60))))))))))))))))))))))))))))))))))))))))))))))))))))))))))))))))))
theorem C_right {g : ch_G} {A R : Nat} (hC : ck_Cx g A R) {d : Nat} {K : Option ck_V → ck_W → Prop} {w : ck_W} {a1 a2 a3 : Int} (hI : cw_IV A R w) (hY : cs_Yc A R w) (hR : cs_Cd w) (hB : cs_B w) (h : ∀ v w', cs_Q w w' → cw_IV A R w' → K (some (.inl v)) w') : ck_Ex (ch_C g A R) (d + 6) mX11_right [.inr (.inr 0), .inl a1, .inl a2, .inl a3] w K := by
  have no : ∀ v, K (some (.inl v)) w := fun v => h v w cs_Q_rf hI
  refine e_X11_right hC (p_X4_has hC hR.1 (fun ok => ⟨_, rfl, fun _ => ⟨fun _ => no _, fun _ => ⟨fun q => ?_, fun _ => no _⟩⟩⟩) (fun _ => ⟨_, rfl, fun _ => ⟨fun _ => no _, fun z => absurd rfl z⟩⟩))
  have lo : ∀ (n : Nat) (a4 a5 : Int) (u : ck_W), 6 - a5 = n → 0 ≤ a5 → (0 ≤ a4 ∧ a4 ≤ 24 * a5) → cs_Q w u → cw_IV A R u → ck_At (ch_C g A R) (d + 6) mX11_right K 31 [some (.inr (.inr 0)), some (.inl a1), some (.inl a2), some (.inl a3), some (.inl a4), some (.inl a5), none, none, none] [] u := by
    intro n
    induction n with
    | zero =>
      intro a4 a5 u g1 g2 g3 g4 g5
      exact r_X11_right_31 hC ⟨fun _ => h _ u g4 g5, fun x => absurd (by omega) x⟩
    | succ n ih =>
      intro a4 a5 u g1 g2 g3 g4 g5
      have tb := cs_tb hC g5.1.2.1 (z := a5) (by omega)
      have li : ∀ (m : Nat) (a4 a7 : Int) (v : ck_W), u 6 a5 * (A : Int) - a7 = m → 0 ≤ a7 → (0 ≤ a4 ∧ a4 ≤ 24 * a5 + a7) → cs_Q w v → cw_IV A R v → ck_At (ch_C g A R) (d + 6) mX11_right K 55 [some (.inr (.inr 0)), some (.inl a1), some (.inl a2), some (.inl a3), some (.inl a4), some (.inl a5), some (.inl (u 6 a5 * (A : Int))), some (.inl a7), none] [] v := by
        intro m
        induction m with
        | zero =>
          intro a4 a7 v e1 e2 e3 e4 e5
          exact r_X11_right_55 hC ⟨fun _ => ⟨by constructor <;> omega, ih _ _ v (by omega) (by omega) (by omega) e4 e5⟩, fun x => absurd (by omega) x⟩
        | succ m ih2 =>
          intro a4 a7 v e1 e2 e3 e4 e5
          have vR := cs_Cd_fr hR e4
          refine r_X11_right_55 hC ⟨fun x => absurd x (by omega), fun _ => p_X4_bitIsOf hC vR.1 ⟨_, rfl, fun _ => ⟨fun _ => ⟨by constructor <;> omega, ih2 _ _ v (by omega) (by omega) (by omega) e4 e5⟩, fun _ => S_X10_settle hC e5 (fun no => absurd (by omega) no) (fun ok2 w1 k1 k2 k3 k4 => ⟨_, rfl, fun _ => ?_⟩)⟩⟩⟩
          have q1 := cs_Q_tr e4 (cs_Q_q k1)
          have fin : ∀ (v12 : Int) (w2 : ck_W), cs_Q w w2 → cw_IV A R w2 → ck_CI (ch_C g A R) (d + 5) mX4_bitAt [.inr (.inr 10), .inl a5, .inl a7] w2 (fun v16 w15 => ck_i (v16.tmod 2) ∧ ((¬ v12 = (v16.tmod 2) → (a3 = 1 → ck_i (a4 + 1) ∧ (ck_i (a7 + 1) ∧ (ck_At (ch_C g A R) (d + 6) mX11_right K 55 [some (.inr (.inr 0)), some (.inl a1), some (.inl a2), some (.inl a3), some (.inl (a4 + 1)), some (.inl a5), some (.inl (u 6 a5 * (A : Int))), some (.inl (a7 + 1)), none] [] w15))) ∧ (¬ a3 = 1 → ck_i (a4 + 0) ∧ (ck_i (a7 + 1) ∧ (ck_At (ch_C g A R) (d + 6) mX11_right K 55 [some (.inr (.inr 0)), some (.inl a1), some (.inl a2), some (.inl a3), some (.inl (a4 + 0)), some (.inl a5), some (.inl (u 6 a5 * (A : Int))), some (.inl (a7 + 1)), none] [] w15)))) ∧ (v12 = (v16.tmod 2) → (a3 = 1 → ck_i (a4 + 1) ∧ (ck_i (a7 + 1) ∧ (ck_At (ch_C g A R) (d + 6) mX11_right K 55 [some (.inr (.inr 0)), some (.inl a1), some (.inl a2), some (.inl a3), some (.inl (a4 + 1)), some (.inl a5), some (.inl (u 6 a5 * (A : Int))), some (.inl (a7 + 1)), none] [] w15))) ∧ (¬ a3 = 1 → ck_i (a4 + 1) ∧ (ck_i (a7 + 1) ∧ (ck_At (ch_C g A R) (d + 6) mX11_right K 55 [some (.inr (.inr 0)), some (.inl a1), some (.inl a2), some (.inl a3), some (.inl (a4 + 1)), some (.inl a5), some (.inl (u 6 a5 * (A : Int))), some (.inl (a7 + 1)), none] [] w15)))))) := by
            intro v12 w2 m1 m2
            have n1 := ih2 (a4 + 1) (a7 + 1) w2 (by omega) (by omega) (by omega) m1 m2
            have n0 := ih2 (a4 + 0) (a7 + 1) w2 (by omega) (by omega) (by omega) m1 m2
            have tm : -2 ≤ (cs_bt w2 a5 a7).tmod 2 ∧ (cs_bt w2 a5 a7).tmod 2 ≤ 2 := by
              have a := Int.tmod_lt_of_pos (cs_bt w2 a5 a7) (b := 2) (by decide)
              have b := Int.lt_tmod_of_pos (cs_bt w2 a5 a7) (b := 2) (by decide)
              omega
            refine p_X4_bitAt hC ⟨_, rfl, fun _ => ⟨by constructor <;> omega, fun _ => ⟨fun _ => ⟨by constructor <;> omega, by constructor <;> omega, n1⟩, fun _ => ⟨by constructor <;> omega, by constructor <;> omega, n0⟩⟩, fun _ => ⟨fun _ => ⟨by constructor <;> omega, by constructor <;> omega, n1⟩, fun _ => ⟨by constructor <;> omega, by constructor <;> omega, n1⟩⟩⟩⟩
          refine p_X7_inkAt hC (cv_Hof k2 (cs_Yc_fr hY q1)) k2.1.2.1 (cs_Cd_fr hR q1) (fun _ _ _ w2 f => ⟨_, rfl, fun _ => fin _ w2 (cs_Q_tr q1 (fun k hk => f k (by omega) (by omega))) (cw_IV_fr hC k2 (fun k hk => f k (by omega) (by omega)))⟩) (fun _ => ⟨_, rfl, fun _ => fin _ w1 q1 k2⟩)
      exact r_X11_right_31 hC ⟨fun x => absurd x (by omega), fun _ => p_X5_places hC g5.1.1 g5.1.2.1 (fun _ => ⟨_, rfl, fun _ => li (u 6 a5 * (A : Int)).toNat a4 0 u (by omega) (by omega) (by omega) g4 g5⟩) (fun no => absurd (by omega) no)⟩
  exact lo 6 0 0 w (by omega) (by omega) (by omega) cs_Q_rf hI
/-- ink, with what lies on the pile from before -/
def cv_ij (A R : Nat) (w : ck_W) (r z p : Int) (j : Int → Int) : Int := if (cv_rn (cv_v A R w z p) (w 11) (w 12 r).toNat (r * 300) ((0, 0), (0, j))).1.1 = 0 then 0 else if (cv_rn (cv_v A R w z p) (w 11) (w 12 r).toNat (r * 300) ((0, 0), (0, j))).1.2 = 0 then 1 else 0
/-- what lies on the pile from before does not matter -/
def cv_J (A R : Nat) (w : ck_W) : Prop := ∀ r, 0 ≤ r → r < w 10 3 → ∀ z p j, cv_ij A R w r z p j = cv_ij A R w r z p (fun _ => 0)
theorem cv_v_cells {A R : Nat} {w w' : ck_W} (h4 : w' 4 = w 4) (h5 : w' 5 = w 5) (h62 : w' 62 = w 62) (z p : Int) : cv_v A R w' z p = cv_v A R w z p := by
  funext n
  unfold cv_v cv_g cv_k
  rw [h4, h5, h62]
theorem cv_ij_cells {A R : Nat} {w w' : ck_W} (h4 : w' 4 = w 4) (h5 : w' 5 = w 5) (h62 : w' 62 = w 62) (h11 : w' 11 = w 11) (h12 : w' 12 = w 12) (r z p : Int) (j : Int → Int) : cv_ij A R w' r z p j = cv_ij A R w r z p j := by
  unfold cv_ij
  rw [cv_v_cells h4 h5 h62, h11, h12]
def cb_or (f : Int → Int → Int) : Nat → Int
  | 0 => 0
  | k + 1 => ck_or (cb_or f k) (ck_shl (f ((k / 3 : Nat) : Int) ((k % 3 : Nat) : Int)) (k : Int))
theorem cb_shl {x k : Int} (hx : x = 0 ∨ x = 1) (hk : 0 ≤ k ∧ k < 9) : 0 ≤ ck_shl x k ∧ ck_shl x k < 512 := by
  rcases hx with e | e
  · subst e
    obtain ⟨n, rfl⟩ := kb_nat hk.1
    rw [show (0 : Int) = ((0 : Nat) : Int) by rfl, kb_shl (by omega) (by omega)]
    omega
  · subst e
    exact kb_shl9 hk.1 hk.2
/-- where all nine places of a box are there, with spirals -/
def cb_is (A : Nat) (w : ck_W) (z p : Int) : Prop := (0 ≤ z ∧ z ≤ 3) ∧ ∀ i j, 0 ≤ i → i ≤ 2 → 0 ≤ j → j ≤ 2 → cs_has A w (z + i) (p + j) ∧ w 61 (z + i) ≠ 0
theorem dX0_shapeAt_0 : decode cX0_shapeAt 0 = .ok (.iload_n 2, 1) := dk_28 (by decide +kernel)
theorem dX0_shapeAt_1 : decode cX0_shapeAt 1 = .ok (.iconst 0, 1) := dk_3 (by decide +kernel)
theorem dX0_shapeAt_2 : decode cX0_shapeAt 2 = .ok (.iconst 3, 1) := dk_6 (by decide +kernel)
theorem dX0_shapeAt_3 : decode cX0_shapeAt 3 = .ok (.invokestatic 47, 3) := dk_184 0 47 (by decide +kernel)
theorem dX0_shapeAt_6 : decode cX0_shapeAt 6 = .ok (.ifCond .ne 5, 3) := dk_154 0 5 (by decide +kernel)
theorem dX0_shapeAt_9 : decode cX0_shapeAt 9 = .ok (.iconst (-1), 1) := dk_2 (by decide +kernel)
theorem dX0_shapeAt_10 : decode cX0_shapeAt 10 = .ok (.ireturn, 1) := dk_172 (by decide +kernel)
theorem dX0_shapeAt_11 : decode cX0_shapeAt 11 = .ok (.iconst 0, 1) := dk_3 (by decide +kernel)
theorem dX0_shapeAt_12 : decode cX0_shapeAt 12 = .ok (.istore 4, 2) := dk_54 (by decide +kernel)
theorem dX0_shapeAt_14 : decode cX0_shapeAt 14 = .ok (.iconst 0, 1) := dk_3 (by decide +kernel)
theorem dX0_shapeAt_15 : decode cX0_shapeAt 15 = .ok (.istore 5, 2) := dk_54 (by decide +kernel)
theorem dX0_shapeAt_17 : decode cX0_shapeAt 17 = .ok (.iload 5, 2) := dk_21 (by decide +kernel)
theorem dX0_shapeAt_19 : decode cX0_shapeAt 19 = .ok (.iconst 3, 1) := dk_6 (by decide +kernel)
theorem dX0_shapeAt_20 : decode cX0_shapeAt 20 = .ok (.if_icmp .ge 65, 3) := dk_162 0 65 (by decide +kernel)
theorem dX0_shapeAt_23 : decode cX0_shapeAt 23 = .ok (.iconst 0, 1) := dk_3 (by decide +kernel)
theorem dX0_shapeAt_24 : decode cX0_shapeAt 24 = .ok (.istore 6, 2) := dk_54 (by decide +kernel)
theorem dX0_shapeAt_26 : decode cX0_shapeAt 26 = .ok (.iload 6, 2) := dk_21 (by decide +kernel)
theorem dX0_shapeAt_28 : decode cX0_shapeAt 28 = .ok (.iconst 3, 1) := dk_6 (by decide +kernel)
theorem dX0_shapeAt_29 : decode cX0_shapeAt 29 = .ok (.if_icmp .ge 50, 3) := dk_162 0 50 (by decide +kernel)
theorem dX0_shapeAt_32 : decode cX0_shapeAt 32 = .ok (.aload_n 0, 1) := dk_42 (by decide +kernel)
theorem dX0_shapeAt_33 : decode cX0_shapeAt 33 = .ok (.getfield 43, 3) := dk_180 0 43 (by decide +kernel)
theorem dX0_shapeAt_36 : decode cX0_shapeAt 36 = .ok (.iload_n 1, 1) := dk_27 (by decide +kernel)
theorem dX0_shapeAt_37 : decode cX0_shapeAt 37 = .ok (.iload_n 2, 1) := dk_28 (by decide +kernel)
theorem dX0_shapeAt_38 : decode cX0_shapeAt 38 = .ok (.iload 5, 2) := dk_21 (by decide +kernel)
theorem dX0_shapeAt_40 : decode cX0_shapeAt 40 = .ok (.iadd, 1) := dk_96 (by decide +kernel)
theorem dX0_shapeAt_41 : decode cX0_shapeAt 41 = .ok (.iload_n 3, 1) := dk_29 (by decide +kernel)
theorem dX0_shapeAt_42 : decode cX0_shapeAt 42 = .ok (.iload 6, 2) := dk_21 (by decide +kernel)
theorem dX0_shapeAt_44 : decode cX0_shapeAt 44 = .ok (.iadd, 1) := dk_96 (by decide +kernel)
theorem dX0_shapeAt_45 : decode cX0_shapeAt 45 = .ok (.invokevirtual 51, 3) := dk_182 0 51 (by decide +kernel)
theorem dX0_shapeAt_48 : decode cX0_shapeAt 48 = .ok (.istore 7, 2) := dk_54 (by decide +kernel)
theorem dX0_shapeAt_50 : decode cX0_shapeAt 50 = .ok (.iload 7, 2) := dk_21 (by decide +kernel)
theorem dX0_shapeAt_52 : decode cX0_shapeAt 52 = .ok (.iconst (-1), 1) := dk_2 (by decide +kernel)
theorem dX0_shapeAt_53 : decode cX0_shapeAt 53 = .ok (.if_icmp .ne 5, 3) := dk_160 0 5 (by decide +kernel)
theorem dX0_shapeAt_56 : decode cX0_shapeAt 56 = .ok (.iconst (-1), 1) := dk_2 (by decide +kernel)
theorem dX0_shapeAt_57 : decode cX0_shapeAt 57 = .ok (.ireturn, 1) := dk_172 (by decide +kernel)
theorem dX0_shapeAt_58 : decode cX0_shapeAt 58 = .ok (.iload 4, 2) := dk_21 (by decide +kernel)
theorem dX0_shapeAt_60 : decode cX0_shapeAt 60 = .ok (.iload 7, 2) := dk_21 (by decide +kernel)
theorem dX0_shapeAt_62 : decode cX0_shapeAt 62 = .ok (.iconst 3, 1) := dk_6 (by decide +kernel)
theorem dX0_shapeAt_63 : decode cX0_shapeAt 63 = .ok (.iload 5, 2) := dk_21 (by decide +kernel)
theorem dX0_shapeAt_65 : decode cX0_shapeAt 65 = .ok (.imul, 1) := dk_104 (by decide +kernel)
theorem dX0_shapeAt_66 : decode cX0_shapeAt 66 = .ok (.iload 6, 2) := dk_21 (by decide +kernel)
theorem dX0_shapeAt_68 : decode cX0_shapeAt 68 = .ok (.iadd, 1) := dk_96 (by decide +kernel)
theorem dX0_shapeAt_69 : decode cX0_shapeAt 69 = .ok (.ishl, 1) := dk_120 (by decide +kernel)
theorem dX0_shapeAt_70 : decode cX0_shapeAt 70 = .ok (.ior, 1) := dk_128 (by decide +kernel)
theorem dX0_shapeAt_71 : decode cX0_shapeAt 71 = .ok (.istore 4, 2) := dk_54 (by decide +kernel)
theorem dX0_shapeAt_73 : decode cX0_shapeAt 73 = .ok (.iinc 6 1, 3) := dk_132 1 (by decide +kernel)
theorem dX0_shapeAt_76 : decode cX0_shapeAt 76 = .ok (.goto (-50), 3) := dk_167 255 206 (by decide +kernel)
theorem dX0_shapeAt_79 : decode cX0_shapeAt 79 = .ok (.iinc 5 1, 3) := dk_132 1 (by decide +kernel)
theorem dX0_shapeAt_82 : decode cX0_shapeAt 82 = .ok (.goto (-65), 3) := dk_167 255 191 (by decide +kernel)
theorem dX0_shapeAt_85 : decode cX0_shapeAt 85 = .ok (.iload 4, 2) := dk_21 (by decide +kernel)
theorem dX0_shapeAt_87 : decode cX0_shapeAt 87 = .ok (.ireturn, 1) := dk_172 (by decide +kernel)
set_option maxRecDepth 8000 in
theorem e_X0_shapeAt {g : ch_G} {A R : Nat} (hC : ck_Cx g A R) {d : Nat} {K : Option ck_V → ck_W → Prop} {w : ck_W} {a1 a2 a3 : Int} (h : (0 ≤ a2 ∧ a2 ≤ 3 → ck_At (ch_C g A R) (d + 1) mX0_shapeAt K 17 [some (.inr (.inr 72)), some (.inl a1), some (.inl a2), some (.inl a3), some (.inl 0), some (.inl 0), none, none] [] w) ∧ (¬ (0 ≤ a2 ∧ a2 ≤ 3) → K (some (.inl (-1))) w)) : ck_Ex (ch_C g A R) (d + 1) mX0_shapeAt [.inr (.inr 72), .inl a1, .inl a2, .inl a3] w K :=
  ck_entry hC.1 [some (.inr (.inr 72)), some (.inl a1), some (.inl a2), some (.inl a3), none, none, none, none] (by decide) (Nat.le_of_ble_eq_true rfl) rfl (fun q => q) (ck_in (fun hl => (ck_iload_n 1 rfl 2 dX0_shapeAt_0 rfl rfl (ck_iconst 2 rfl dX0_shapeAt_1 rfl (ck_iconst 3 rfl dX0_shapeAt_2 rfl (have h3 := h; ck_callSN 6 rfl [.inl a2, .inl 0, .inl 3] [] dX0_shapeAt_3 cn_X0_47 rfl rfl (Nat.le_of_ble_eq_true rfl) (And.intro hl.2.2.1 (And.intro (show ck_i 0 by decide) (And.intro (show ck_i 3 by decide) True.intro))) (p_X11_within hC (fun c1 _ => (ck_if_ne 9 rfl 11 dX0_shapeAt_6 rfl (by decide) (fun _ => (ck_iconst 12 rfl dX0_shapeAt_11 rfl (ck_istore 14 rfl [some (.inr (.inr 72)), some (.inl a1), some (.inl a2), some (.inl a3), some (.inl 0), none, none, none] dX0_shapeAt_12 (Nat.le_of_ble_eq_true rfl) rfl rfl (show ck_i 0 by decide) (ck_iconst 15 rfl dX0_shapeAt_14 rfl (ck_istore 17 rfl [some (.inr (.inr 72)), some (.inl a1), some (.inl a2), some (.inl a3), some (.inl 0), some (.inl 0), none, none] dX0_shapeAt_15 (Nat.le_of_ble_eq_true rfl) rfl rfl (show ck_i 0 by decide) (h3.1 c1)))))) (fun q => absurd q (by decide)))) (fun c2 _ => (ck_if_ne 9 rfl 11 dX0_shapeAt_6 rfl (by decide) (fun q => absurd q (by decide)) (fun _ => (ck_iconst 10 rfl dX0_shapeAt_9 rfl (ck_iret dX0_shapeAt_10 rfl (show ck_i (-1) by decide) (h3.2 c2)))))))))))))
set_option maxRecDepth 8000 in
theorem r_X0_shapeAt_17 {g : ch_G} {A R : Nat} (hC : ck_Cx g A R) {d : Nat} {K : Option ck_V → ck_W → Prop} {w : ck_W} {a1 a2 a3 a4 a5 : Int} (h : (3 ≤ a5 → K (some (.inl a4)) w) ∧ (¬ 3 ≤ a5 → ck_At (ch_C g A R) (d + 1) mX0_shapeAt K 26 [some (.inr (.inr 72)), some (.inl a1), some (.inl a2), some (.inl a3), some (.inl a4), some (.inl a5), some (.inl 0), none] [] w)) : ck_At (ch_C g A R) (d + 1) mX0_shapeAt K 17 [some (.inr (.inr 72)), some (.inl a1), some (.inl a2), some (.inl a3), some (.inl a4), some (.inl a5), none, none] [] w :=
  ck_in (fun hl => (ck_iload 19 rfl dX0_shapeAt_17 rfl (ck_iconst 20 rfl dX0_shapeAt_19 rfl (ck_icmp_ge 23 rfl 85 dX0_shapeAt_20 rfl hl.2.2.2.2.2.1 (show ck_i 3 by decide) (fun c1 => (ck_iload 87 rfl dX0_shapeAt_85 rfl (ck_iret dX0_shapeAt_87 rfl hl.2.2.2.2.1 (h.1 c1)))) (fun c2 => (ck_iconst 24 rfl dX0_shapeAt_23 rfl (ck_istore 26 rfl [some (.inr (.inr 72)), some (.inl a1), some (.inl a2), some (.inl a3), some (.inl a4), some (.inl a5), some (.inl 0), none] dX0_shapeAt_24 (Nat.le_of_ble_eq_true rfl) rfl rfl (show ck_i 0 by decide) (h.2 c2))))))))
set_option maxRecDepth 8000 in
theorem r_X0_shapeAt_26 {g : ch_G} {A R : Nat} (hC : ck_Cx g A R) {d : Nat} {K : Option ck_V → ck_W → Prop} {w : ck_W} {a1 a2 a3 a4 a5 a6 : Int} (h : (3 ≤ a6 → ck_i (a5 + 1) ∧ (ck_At (ch_C g A R) (d + 1) mX0_shapeAt K 17 [some (.inr (.inr 72)), some (.inl a1), some (.inl a2), some (.inl a3), some (.inl a4), some (.inl (a5 + 1)), none, none] [] w)) ∧ (¬ 3 ≤ a6 → ck_i (a2 + a5) ∧ (ck_i (a3 + a6) ∧ (ck_CI (ch_C g A R) d mX7_inkAt [.inr (.inr 70), .inl a1, .inl (a2 + a5), .inl (a3 + a6)] w (fun v5 w4 => (¬ v5 = (-1) → ∀ x8, x8 = ck_or a4 (ck_shl v5 ((3 * a5) + a6)) → ck_i (a6 + 1) ∧ (ck_At (ch_C g A R) (d + 1) mX0_shapeAt K 26 [some (.inr (.inr 72)), some (.inl a1), some (.inl a2), some (.inl a3), some (.inl x8), some (.inl a5), some (.inl (a6 + 1)), none] [] w4)) ∧ (v5 = (-1) → K (some (.inl (-1))) w4)))))) : ck_At (ch_C g A R) (d + 1) mX0_shapeAt K 26 [some (.inr (.inr 72)), some (.inl a1), some (.inl a2), some (.inl a3), some (.inl a4), some (.inl a5), some (.inl a6), none] [] w :=
  ck_in (fun hl => (ck_iload 28 rfl dX0_shapeAt_26 rfl (ck_iconst 29 rfl dX0_shapeAt_28 rfl (ck_icmp_ge 32 rfl 79 dX0_shapeAt_29 rfl hl.2.2.2.2.2.2.1 (show ck_i 3 by decide) (fun c13 => (have h16 := (h.1 c13); have o1 := h16.1; have h15 := h16.2; (ck_iinc 82 rfl [some (.inr (.inr 72)), some (.inl a1), some (.inl a2), some (.inl a3), some (.inl a4), some (.inl (a5 + 1)), some (.inl a6), none] dX0_shapeAt_79 rfl (Nat.le_of_ble_eq_true rfl) rfl rfl o1 (ck_goto 17 dX0_shapeAt_82 rfl (ck_drop [some (.inr (.inr 72)), some (.inl a1), some (.inl a2), some (.inl a3), some (.inl a4), some (.inl (a5 + 1)), none, none] (And.intro rfl (And.intro rfl (And.intro rfl (And.intro rfl (And.intro rfl (And.intro rfl True.intro)))))) h15))))) (fun c14 => (ck_aload_n 33 rfl 0 dX0_shapeAt_32 rfl rfl (ck_getr 36 rfl dX0_shapeAt_33 fl_X0_43 sh_72 rfl (ck_iload_n 37 rfl 1 dX0_shapeAt_36 rfl rfl (ck_iload_n 38 rfl 2 dX0_shapeAt_37 rfl rfl (ck_iload 40 rfl dX0_shapeAt_38 rfl (ck_iadd 41 rfl dX0_shapeAt_40 (ck_iload_n 42 rfl 3 dX0_shapeAt_41 rfl rfl (ck_iload 44 rfl dX0_shapeAt_42 rfl (ck_iadd 45 rfl dX0_shapeAt_44 (have h18 := (h.2 c14); have o2 := h18.1; have h17 := h18.2; (have h20 := h17; have o3 := h20.1; have h19 := h20.2; (ck_callV 48 rfl [.inl a1, .inl (a2 + a5), .inl (a3 + a6)] [] dX0_shapeAt_45 cv_X0_51 sh_70 rfl rfl (Nat.le_of_ble_eq_true rfl) (And.intro hl.2.1 (And.intro o2 (And.intro o3 True.intro))) (ck_mI h19 (fun v5 w4 q6 h7 => (ck_istore 50 rfl [some (.inr (.inr 72)), some (.inl a1), some (.inl a2), some (.inl a3), some (.inl a4), some (.inl a5), some (.inl a6), some (.inl v5)] dX0_shapeAt_48 (Nat.le_of_ble_eq_true rfl) rfl rfl q6 (ck_iload 52 rfl dX0_shapeAt_50 rfl (ck_iconst 53 rfl dX0_shapeAt_52 rfl (ck_icmp_ne 56 rfl 58 dX0_shapeAt_53 rfl q6 (show ck_i (-1) by decide) (fun c11 => (ck_iload 60 rfl dX0_shapeAt_58 rfl (ck_iload 62 rfl dX0_shapeAt_60 rfl (ck_iconst 63 rfl dX0_shapeAt_62 rfl (ck_iload 65 rfl dX0_shapeAt_63 rfl (ck_imul 66 rfl dX0_shapeAt_65 (ck_iload 68 rfl dX0_shapeAt_66 rfl (ck_iadd 69 rfl dX0_shapeAt_68 (ck_ishl 70 rfl dX0_shapeAt_69 (ck_ior 71 rfl dX0_shapeAt_70 (ck_nmi (fun x8 e9 => (ck_istore 73 rfl [some (.inr (.inr 72)), some (.inl a1), some (.inl a2), some (.inl a3), some (.inl x8), some (.inl a5), some (.inl a6), some (.inl v5)] dX0_shapeAt_71 (Nat.le_of_ble_eq_true rfl) rfl rfl (by rw [e9]; exact (ck_rng _)) (have h22 := ((h7.1 c11) x8 e9); have o10 := h22.1; have h21 := h22.2; (ck_iinc 76 rfl [some (.inr (.inr 72)), some (.inl a1), some (.inl a2), some (.inl a3), some (.inl x8), some (.inl a5), some (.inl (a6 + 1)), some (.inl v5)] dX0_shapeAt_73 rfl (Nat.le_of_ble_eq_true rfl) rfl rfl o10 (ck_goto 26 dX0_shapeAt_76 rfl (ck_drop [some (.inr (.inr 72)), some (.inl a1), some (.inl a2), some (.inl a3), some (.inl x8), some (.inl a5), some (.inl (a6 + 1)), none] (And.intro rfl (And.intro rfl (And.intro rfl (And.intro rfl (And.intro rfl (And.intro rfl (And.intro rfl True.intro))))))) h21))))))))))))))))) (fun c12 => (ck_iconst 57 rfl dX0_shapeAt_56 rfl (ck_iret dX0_shapeAt_57 rfl (show ck_i (-1) by decide) (h7.2 c12)))))))))))))))))))))))))))
theorem p_X0_shapeAt {g : ch_G} {A R : Nat} (hC : ck_Cx g A R) {d : Nat} {K : Option ck_V → ck_W → Prop} {w : ck_W} {a1 a2 a3 : Int} (hH : cv_H A R w) (hT : cs_T w) (hR : cs_Cd w) (hi : ck_i a3) (h1 : (0 ≤ a1 ∧ a1 < w 10 3) → cb_is A w a2 a3 → ∀ v w', (∀ k, k ≠ 70 → k ≠ 71 → w' k = w k) → (0 ≤ v ∧ v < 512) → (cv_J A R w → v = cb_or (fun i j => cv_ij A R w a1 (a2 + i) (a3 + j) (fun _ => 0)) 9) → K (some (.inl v)) w') (h0 : ¬ ((0 ≤ a1 ∧ a1 < w 10 3) ∧ cb_is A w a2 a3) → ∀ w', (∀ k, k ≠ 70 → k ≠ 71 → w' k = w k) → K (some (.inl (-1))) w') : ck_Ex (ch_C g A R) (d + 5) mX0_shapeAt [.inr (.inr 72), .inl a1, .inl a2, .inl a3] w K := by
  refine e_X0_shapeAt hC ⟨fun q => ?_, fun q => h0 (fun x => q x.2.1) w (fun _ _ _ => rfl)⟩
  have step : ∀ (a4 a5 a6 : Int) (u : ck_W) (k : Nat), (k : Int) = 3 * a5 + a6 → 0 ≤ a5 → a5 ≤ 2 → 0 ≤ a6 → a6 ≤ 2 → (∀ k, k ≠ 70 → k ≠ 71 → u k = w k) → (0 ≤ a4 ∧ a4 < 512) → (cv_J A R w → (0 ≤ a1 ∧ a1 < w 10 3) → a4 = cb_or (fun i j => cv_ij A R w a1 (a2 + i) (a3 + j) (fun _ => 0)) k) → ((0 < a5 ∨ 0 < a6) → (0 ≤ a1 ∧ a1 < w 10 3) ∧ 0 ≤ a3 ∧ a3 < 24) → (∀ i j : Int, 0 ≤ i → i ≤ 2 → 0 ≤ j → j ≤ 2 → 3 * i + j < (k : Int) → cs_has A w (a2 + i) (a3 + j) ∧ w 61 (a2 + i) ≠ 0) → (∀ a4' u', (∀ k, k ≠ 70 → k ≠ 71 → u' k = w k) → (0 ≤ a4' ∧ a4' < 512) → (cv_J A R w → (0 ≤ a1 ∧ a1 < w 10 3) → a4' = cb_or (fun i j => cv_ij A R w a1 (a2 + i) (a3 + j) (fun _ => 0)) (k + 1)) → ((0 ≤ a1 ∧ a1 < w 10 3) ∧ 0 ≤ a3 ∧ a3 < 24) → (∀ i j : Int, 0 ≤ i → i ≤ 2 → 0 ≤ j → j ≤ 2 → 3 * i + j < ((k + 1 : Nat) : Int) → cs_has A w (a2 + i) (a3 + j) ∧ w 61 (a2 + i) ≠ 0) → ck_At (ch_C g A R) (d + 5) mX0_shapeAt K 26 [some (.inr (.inr 72)), some (.inl a1), some (.inl a2), some (.inl a3), some (.inl a4'), some (.inl a5), some (.inl (a6 + 1)), none] [] u') → ck_At (ch_C g A R) (d + 5) mX0_shapeAt K 26 [some (.inr (.inr 72)), some (.inl a1), some (.inl a2), some (.inl a3), some (.inl a4), some (.inl a5), some (.inl a6), none] [] u := by
    intro a4 a5 a6 u k ek b1 b2 b3 b4 fr r4 ex sm al nx
    have u6 : u 6 = w 6 := fr 6 (by decide) (by decide)
    have u10 : u 10 = w 10 := fr 10 (by decide) (by decide)
    have u61 : u 61 = w 61 := fr 61 (by decide) (by decide)
    have uH : cv_H A R u := by
      unfold cv_H cs_D cs_Y cs_Yc
      rw [fr 3 (by decide) (by decide), fr 4 (by decide) (by decide), fr 5 (by decide) (by decide), fr 62 (by decide) (by decide)]
      exact hH
    have uR : cs_Cd u := by
      unfold cs_Cd
      rw [u10, fr 11 (by decide) (by decide), fr 12 (by decide) (by decide)]
      exact hR
    have nov : ck_i (a3 + a6) := by
      by_cases e : 0 < a6
      · have s := sm (Or.inr e); constructor <;> omega
      · constructor <;> omega
    refine r_X0_shapeAt_26 hC ⟨fun x => absurd x (by omega), fun _ => ⟨by constructor <;> omega, nov, p_X7_inkAt hC uH (cs_hT hT u6) uR (fun ok y z w' f => ⟨_, rfl, fun _ => ⟨fun _ x8 e8 => ⟨by constructor <;> omega, ?_⟩, fun e => absurd e (by rcases cv_ik01 A R u a1 (a2 + a5) (a3 + a6) with e0 | e0 <;> omega)⟩⟩) (fun no => ⟨_, rfl, fun _ => ⟨fun z => absurd rfl z, fun _ => h0 (fun x => no ?_) u fr⟩⟩)⟩⟩
    · rw [u10] at ok
      have y' : cs_has A w (a2 + a5) (a3 + a6) := by unfold cs_has at y ⊢; rw [u6] at y; exact y
      have tb := cs_tb hC hT y'.1
      have yy := y'.2
      have s3 : 0 ≤ a3 ∧ a3 < 24 := by
        by_cases e : 0 < a5 ∨ 0 < a6
        · exact (sm e).2
        · omega
      have ik := cv_ik01 A R u a1 (a2 + a5) (a3 + a6)
      have sb := cb_shl (k := 3 * a5 + a6) ik (by omega)
      have ob := kb_or9 r4 sb
      rw [e8]
      refine nx _ w' (fun k a b => by rw [f k a b]; exact fr k a b) ob (fun hJ hr => ?_) ⟨ok, s3⟩ (fun i j i0 i1 j0 j1 ij => ?_)
      · have e1 : cv_ik A R u a1 (a2 + a5) (a3 + a6) = cv_ij A R u a1 (a2 + a5) (a3 + a6) (u 71) := rfl
        rw [cb_or, ← ex hJ hr, e1, cv_ij_cells (fr 4 (by decide) (by decide)) (fr 5 (by decide) (by decide)) (fr 62 (by decide) (by decide)) (fr 11 (by decide) (by decide)) (fr 12 (by decide) (by decide)), hJ a1 hr.1 hr.2]
        have k3 : ((k / 3 : Nat) : Int) = a5 := by omega
        have k4 : ((k % 3 : Nat) : Int) = a6 := by omega
        rw [k3, k4, ek]
      · by_cases e : 3 * i + j < (k : Int)
        · exact al i j i0 i1 j0 j1 e
        · have e5 : i = a5 := by omega
          have e6 : j = a6 := by omega
          rw [e5, e6]
          rw [u61] at z
          exact ⟨y', z⟩
    · have x2 := x.2.2 a5 a6 b1 b2 b3 b4
      refine ⟨by rw [u10]; exact x.1, ?_, by rw [u61]; exact x2.2⟩
      have x3 := x2.1
      unfold cs_has at x3 ⊢
      rw [u6]
      exact x3
  have row : ∀ (a4 a5 : Int) (u : ck_W) (k : Nat), (k : Int) = 3 * a5 → 0 ≤ a5 → a5 ≤ 2 → (∀ k, k ≠ 70 → k ≠ 71 → u k = w k) → (0 ≤ a4 ∧ a4 < 512) → (cv_J A R w → (0 ≤ a1 ∧ a1 < w 10 3) → a4 = cb_or (fun i j => cv_ij A R w a1 (a2 + i) (a3 + j) (fun _ => 0)) k) → (0 < a5 → (0 ≤ a1 ∧ a1 < w 10 3) ∧ 0 ≤ a3 ∧ a3 < 24) → (∀ i j : Int, 0 ≤ i → i ≤ 2 → 0 ≤ j → j ≤ 2 → 3 * i + j < (k : Int) → cs_has A w (a2 + i) (a3 + j) ∧ w 61 (a2 + i) ≠ 0) → (∀ a4' u', (∀ k, k ≠ 70 → k ≠ 71 → u' k = w k) → (0 ≤ a4' ∧ a4' < 512) → (cv_J A R w → (0 ≤ a1 ∧ a1 < w 10 3) → a4' = cb_or (fun i j => cv_ij A R w a1 (a2 + i) (a3 + j) (fun _ => 0)) (k + 3)) → ((0 ≤ a1 ∧ a1 < w 10 3) ∧ 0 ≤ a3 ∧ a3 < 24) → (∀ i j : Int, 0 ≤ i → i ≤ 2 → 0 ≤ j → j ≤ 2 → 3 * i + j < ((k + 3 : Nat) : Int) → cs_has A w (a2 + i) (a3 + j) ∧ w 61 (a2 + i) ≠ 0) → ck_At (ch_C g A R) (d + 5) mX0_shapeAt K 17 [some (.inr (.inr 72)), some (.inl a1), some (.inl a2), some (.inl a3), some (.inl a4'), some (.inl (a5 + 1)), none, none] [] u') → ck_At (ch_C g A R) (d + 5) mX0_shapeAt K 17 [some (.inr (.inr 72)), some (.inl a1), some (.inl a2), some (.inl a3), some (.inl a4), some (.inl a5), none, none] [] u := by
    intro a4 a5 u k ek b1 b2 fr r4 ex sm al nx
    refine r_X0_shapeAt_17 hC ⟨fun x => absurd x (by omega), fun _ => ?_⟩
    refine step a4 a5 0 u k (by omega) b1 b2 (by omega) (by omega) fr r4 ex (fun e => sm (by omega)) al (fun a4 u fr r4 ex sm al => ?_)
    refine step a4 a5 (0 + 1) u (k + 1) (by omega) b1 b2 (by omega) (by omega) fr r4 ex (fun _ => sm) al (fun a4 u fr r4 ex sm al => ?_)
    refine step a4 a5 (0 + 1 + 1) u (k + 1 + 1) (by omega) b1 b2 (by omega) (by omega) fr r4 ex (fun _ => sm) al (fun a4 u fr r4 ex sm al => ?_)
    exact r_X0_shapeAt_26 hC ⟨fun _ => ⟨by constructor <;> omega, nx a4 u fr r4 ex sm al⟩, fun x => absurd (by omega) x⟩
  refine row 0 0 w 0 (by omega) (by omega) (by omega) (fun _ _ _ => rfl) (by omega) (fun _ _ => rfl) (fun e => by omega) (fun i j i0 i1 j0 j1 e => by omega) (fun a4 u fr r4 ex sm al => ?_)
  refine row a4 (0 + 1) u 3 (by omega) (by omega) (by omega) fr r4 ex (fun _ => sm) al (fun a4 u fr r4 ex sm al => ?_)
  refine row a4 (0 + 1 + 1) u 6 (by omega) (by omega) (by omega) fr r4 ex (fun _ => sm) al (fun a4 u fr r4 ex sm al => ?_)
  exact r_X0_shapeAt_17 hC ⟨fun _ => h1 sm.1 ⟨q, fun i j i0 i1 j0 j1 => al i j i0 i1 j0 j1 (by omega)⟩ a4 u fr r4 (fun hJ => ex hJ sm.1), fun x => absurd (by omega) x⟩
theorem dX11_box_0 : decode cX11_box 0 = .ok (.aload_n 0, 1) := dk_42 (by decide +kernel)
theorem dX11_box_1 : decode cX11_box 1 = .ok (.getfield 30, 3) := dk_180 0 30 (by decide +kernel)
theorem dX11_box_4 : decode cX11_box 4 = .ok (.iload_n 2, 1) := dk_28 (by decide +kernel)
theorem dX11_box_5 : decode cX11_box 5 = .ok (.invokevirtual 265, 3) := dk_182 1 9 (by decide +kernel)
theorem dX11_box_8 : decode cX11_box 8 = .ok (.aload_n 0, 1) := dk_42 (by decide +kernel)
theorem dX11_box_9 : decode cX11_box 9 = .ok (.getfield 72, 3) := dk_180 0 72 (by decide +kernel)
theorem dX11_box_12 : decode cX11_box 12 = .ok (.iload_n 1, 1) := dk_27 (by decide +kernel)
theorem dX11_box_13 : decode cX11_box 13 = .ok (.iload_n 2, 1) := dk_28 (by decide +kernel)
theorem dX11_box_14 : decode cX11_box 14 = .ok (.iload_n 3, 1) := dk_29 (by decide +kernel)
theorem dX11_box_15 : decode cX11_box 15 = .ok (.invokevirtual 268, 3) := dk_182 1 12 (by decide +kernel)
theorem dX11_box_18 : decode cX11_box 18 = .ok (.istore 5, 2) := dk_54 (by decide +kernel)
theorem dX11_box_20 : decode cX11_box 20 = .ok (.aload_n 0, 1) := dk_42 (by decide +kernel)
theorem dX11_box_21 : decode cX11_box 21 = .ok (.getfield 14, 3) := dk_180 0 14 (by decide +kernel)
theorem dX11_box_24 : decode cX11_box 24 = .ok (.getfield 229, 3) := dk_180 0 229 (by decide +kernel)
theorem dX11_box_27 : decode cX11_box 27 = .ok (.astore 6, 2) := dk_58 (by decide +kernel)
theorem dX11_box_29 : decode cX11_box 29 = .ok (.iload 5, 2) := dk_21 (by decide +kernel)
theorem dX11_box_31 : decode cX11_box 31 = .ok (.iconst (-1), 1) := dk_2 (by decide +kernel)
theorem dX11_box_32 : decode cX11_box 32 = .ok (.if_icmp .eq 11, 3) := dk_159 0 11 (by decide +kernel)
theorem dX11_box_35 : decode cX11_box 35 = .ok (.aload 6, 2) := dk_25 (by decide +kernel)
theorem dX11_box_37 : decode cX11_box 37 = .ok (.getfield 233, 3) := dk_180 0 233 (by decide +kernel)
theorem dX11_box_40 : decode cX11_box 40 = .ok (.ifCond .ne 5, 3) := dk_154 0 5 (by decide +kernel)
theorem dX11_box_43 : decode cX11_box 43 = .ok (.iconst (-1), 1) := dk_2 (by decide +kernel)
theorem dX11_box_44 : decode cX11_box 44 = .ok (.ireturn, 1) := dk_172 (by decide +kernel)
theorem dX11_box_45 : decode cX11_box 45 = .ok (.iload 4, 2) := dk_21 (by decide +kernel)
theorem dX11_box_47 : decode cX11_box 47 = .ok (.ifCond .ne 11, 3) := dk_154 0 11 (by decide +kernel)
theorem dX11_box_50 : decode cX11_box 50 = .ok (.aload 6, 2) := dk_25 (by decide +kernel)
theorem dX11_box_52 : decode cX11_box 52 = .ok (.iload 5, 2) := dk_21 (by decide +kernel)
theorem dX11_box_54 : decode cX11_box 54 = .ok (.invokevirtual 271, 3) := dk_182 1 15 (by decide +kernel)
theorem dX11_box_57 : decode cX11_box 57 = .ok (.ireturn, 1) := dk_172 (by decide +kernel)
theorem dX11_box_58 : decode cX11_box 58 = .ok (.iload 4, 2) := dk_21 (by decide +kernel)
theorem dX11_box_60 : decode cX11_box 60 = .ok (.iconst 1, 1) := dk_4 (by decide +kernel)
theorem dX11_box_61 : decode cX11_box 61 = .ok (.if_icmp .ne 18, 3) := dk_160 0 18 (by decide +kernel)
theorem dX11_box_64 : decode cX11_box 64 = .ok (.aload 6, 2) := dk_25 (by decide +kernel)
theorem dX11_box_66 : decode cX11_box 66 = .ok (.aload 6, 2) := dk_25 (by decide +kernel)
theorem dX11_box_68 : decode cX11_box 68 = .ok (.iload 5, 2) := dk_21 (by decide +kernel)
theorem dX11_box_70 : decode cX11_box 70 = .ok (.invokevirtual 271, 3) := dk_182 1 15 (by decide +kernel)
theorem dX11_box_73 : decode cX11_box 73 = .ok (.iload 5, 2) := dk_21 (by decide +kernel)
theorem dX11_box_75 : decode cX11_box 75 = .ok (.invokevirtual 274, 3) := dk_182 1 18 (by decide +kernel)
theorem dX11_box_78 : decode cX11_box 78 = .ok (.ireturn, 1) := dk_172 (by decide +kernel)
theorem dX11_box_79 : decode cX11_box 79 = .ok (.aload 6, 2) := dk_25 (by decide +kernel)
theorem dX11_box_81 : decode cX11_box 81 = .ok (.iload 4, 2) := dk_21 (by decide +kernel)
theorem dX11_box_83 : decode cX11_box 83 = .ok (.bipush 100, 2) := dk_16 100 (by decide +kernel)
theorem dX11_box_85 : decode cX11_box 85 = .ok (.isub, 1) := dk_100 (by decide +kernel)
theorem dX11_box_86 : decode cX11_box 86 = .ok (.invokevirtual 277, 3) := dk_182 1 21 (by decide +kernel)
theorem dX11_box_89 : decode cX11_box 89 = .ok (.ifCond .eq 18, 3) := dk_153 0 18 (by decide +kernel)
theorem dX11_box_92 : decode cX11_box 92 = .ok (.aload 6, 2) := dk_25 (by decide +kernel)
theorem dX11_box_94 : decode cX11_box 94 = .ok (.iload 4, 2) := dk_21 (by decide +kernel)
theorem dX11_box_96 : decode cX11_box 96 = .ok (.bipush 100, 2) := dk_16 100 (by decide +kernel)
theorem dX11_box_98 : decode cX11_box 98 = .ok (.isub, 1) := dk_100 (by decide +kernel)
theorem dX11_box_99 : decode cX11_box 99 = .ok (.iload 5, 2) := dk_21 (by decide +kernel)
theorem dX11_box_101 : decode cX11_box 101 = .ok (.invokevirtual 280, 3) := dk_182 1 24 (by decide +kernel)
theorem dX11_box_104 : decode cX11_box 104 = .ok (.goto 4, 3) := dk_167 0 4 (by decide +kernel)
theorem dX11_box_107 : decode cX11_box 107 = .ok (.iconst (-1), 1) := dk_2 (by decide +kernel)
theorem dX11_box_108 : decode cX11_box 108 = .ok (.ireturn, 1) := dk_172 (by decide +kernel)
set_option maxRecDepth 8000 in
theorem e_X11_box {g : ch_G} {A R : Nat} (hC : ck_Cx g A R) {d : Nat} {K : Option ck_V → ck_W → Prop} {w : ck_W} {a1 a2 a3 a4 : Int} (h : ck_CN (ch_C g A R) (d + 1) mX10_settleRows [.inr (.inr 51), .inl a2] w (fun w1 => ck_CI (ch_C g A R) (d + 1) mX0_shapeAt [.inr (.inr 72), .inl a1, .inl a2, .inl a3] w1 (fun v3 w2 => (v3 = (-1) → K (some (.inl (-1))) w2) ∧ (¬ v3 = (-1) → (¬ (w2 15 2) = 0 → (¬ a4 = 0 → (¬ a4 = 1 → (0 ≤ (w2 15 2) ∧ (w2 15 2) ≤ 1000) ∧ ((0 ≤ (ck_wr (a4 - 100)) ∧ (ck_wr (a4 - 100)) ≤ (w2 15 2) - 1 → ck_CI (ch_C g A R) (d + 1) mX2_like [.inr (.inr 15), .inl (ck_wr (a4 - 100)), .inl v3] w2 (fun v9 w8 => K (some (.inl v9)) w8)) ∧ (¬ (0 ≤ (ck_wr (a4 - 100)) ∧ (ck_wr (a4 - 100)) ≤ (w2 15 2) - 1) → K (some (.inl (-1))) w2))) ∧ (a4 = 1 → ck_CI (ch_C g A R) (d + 1) mX2_letterByInk [.inr (.inr 15), .inl v3] w2 (fun v16 w15 => ck_CI (ch_C g A R) (d + 1) mX2_letterOdds [.inr (.inr 15), .inl v16, .inl v3] w15 (fun v20 w19 => K (some (.inl v20)) w19)))) ∧ (a4 = 0 → ck_CI (ch_C g A R) (d + 1) mX2_letterByInk [.inr (.inr 15), .inl v3] w2 (fun v26 w25 => K (some (.inl v26)) w25))) ∧ ((w2 15 2) = 0 → K (some (.inl (-1))) w2))))) : ck_Ex (ch_C g A R) (d + 2) mX11_box [.inr (.inr 0), .inl a1, .inl a2, .inl a3, .inl a4] w K :=
  ck_entry hC.1 [some (.inr (.inr 0)), some (.inl a1), some (.inl a2), some (.inl a3), some (.inl a4), none, none] (by decide) (Nat.le_of_ble_eq_true rfl) rfl (fun q => q) (ck_in (fun hl => (ck_aload_n 1 rfl 0 dX11_box_0 rfl rfl (ck_getr 4 rfl dX11_box_1 fl_X11_30 sh_0 rfl (ck_iload_n 5 rfl 2 dX11_box_4 rfl rfl (ck_callV 8 rfl [.inl a2] [] dX11_box_5 cv_X11_265 sh_51 rfl rfl (Nat.le_of_ble_eq_true rfl) (And.intro hl.2.2.1 True.intro) (ck_mN h (fun w1 h35 => (ck_aload_n 9 rfl 0 dX11_box_8 rfl rfl (ck_getr 12 rfl dX11_box_9 fl_X11_72 sh_0 rfl (ck_iload_n 13 rfl 1 dX11_box_12 rfl rfl (ck_iload_n 14 rfl 2 dX11_box_13 rfl rfl (ck_iload_n 15 rfl 3 dX11_box_14 rfl rfl (ck_callV 18 rfl [.inl a1, .inl a2, .inl a3] [] dX11_box_15 cv_X11_268 sh_72 rfl rfl (Nat.le_of_ble_eq_true rfl) (And.intro hl.2.1 (And.intro hl.2.2.1 (And.intro hl.2.2.2.1 True.intro))) (ck_mI h35 (fun v3 w2 q4 h5 => (ck_istore 20 rfl [some (.inr (.inr 0)), some (.inl a1), some (.inl a2), some (.inl a3), some (.inl a4), some (.inl v3), none] dX11_box_18 (Nat.le_of_ble_eq_true rfl) rfl rfl q4 (ck_aload_n 21 rfl 0 dX11_box_20 rfl rfl (ck_getr 24 rfl dX11_box_21 fl_X11_14 sh_0 rfl (ck_getr 27 rfl dX11_box_24 fl_X11_229 sh_1 rfl (ck_astore 29 rfl [some (.inr (.inr 0)), some (.inl a1), some (.inl a2), some (.inl a3), some (.inl a4), some (.inl v3), some (.inr (.inr 15))] dX11_box_27 (Nat.le_of_ble_eq_true rfl) rfl rfl (ck_iload 31 rfl dX11_box_29 rfl (ck_iconst 32 rfl dX11_box_31 rfl (ck_icmp_eq 35 rfl 43 dX11_box_32 rfl q4 (show ck_i (-1) by decide) (fun c33 => (ck_iconst 44 rfl dX11_box_43 rfl (ck_iret dX11_box_44 rfl (show ck_i (-1) by decide) (h5.1 c33)))) (fun c34 => (ck_aload 37 rfl dX11_box_35 rfl (ck_geti 40 rfl 2 dX11_box_37 fl_X11_233 sh_15 rfl rfl _ rfl (fun (q6 : ck_i (w2 15 2)) => (have h36 := (h5.2 c34); (ck_if_ne 43 rfl 45 dX11_box_40 rfl q6 (fun c31 => (ck_iload 47 rfl dX11_box_45 rfl (have h37 := (h36.1 c31); (ck_if_ne 50 rfl 58 dX11_box_47 rfl hl.2.2.2.2.1 (fun c29 => (ck_iload 60 rfl dX11_box_58 rfl (ck_iconst 61 rfl dX11_box_60 rfl (have h38 := (h37.1 c29); (ck_icmp_ne 64 rfl 79 dX11_box_61 rfl hl.2.2.2.2.1 (show ck_i 1 by decide) (fun c23 => (ck_aload 81 rfl dX11_box_79 rfl (ck_iload 83 rfl dX11_box_81 rfl (ck_bipush 85 rfl dX11_box_83 rfl (ck_isub 86 rfl dX11_box_85 (ck_wrp (have h40 := (h38.1 c23); have o7 := h40.1; have h39 := h40.2; (have h14 := h39; ck_callV 89 rfl [.inl (ck_wr (a4 - 100))] [] dX11_box_86 cv_X11_277 sh_15 rfl rfl (Nat.le_of_ble_eq_true rfl) (And.intro (ck_rng _) True.intro) (p_X2_hasLetter hC o7 (fun c12 _ => (ck_if_eq 92 rfl 107 dX11_box_89 rfl (by decide) (fun q => absurd q (by decide)) (fun _ => (ck_aload 94 rfl dX11_box_92 rfl (ck_iload 96 rfl dX11_box_94 rfl (ck_bipush 98 rfl dX11_box_96 rfl (ck_isub 99 rfl dX11_box_98 (ck_wrp (ck_iload 101 rfl dX11_box_99 rfl (ck_callV 104 rfl [.inl (ck_wr (a4 - 100)), .inl v3] [] dX11_box_101 cv_X11_280 sh_15 rfl rfl (Nat.le_of_ble_eq_true rfl) (And.intro (ck_rng _) (And.intro q4 True.intro)) (ck_mI (h14.1 c12) (fun v9 w8 q10 h11 => (ck_goto 108 dX11_box_104 rfl (ck_iret dX11_box_108 rfl q10 h11)))))))))))))) (fun c13 _ => (ck_if_eq 92 rfl 107 dX11_box_89 rfl (by decide) (fun _ => (ck_iconst 108 rfl dX11_box_107 rfl (ck_iret dX11_box_108 rfl (show ck_i (-1) by decide) (h14.2 c13)))) (fun q => absurd q (by decide))))))))))))) (fun c24 => (ck_aload 66 rfl dX11_box_64 rfl (ck_aload 68 rfl dX11_box_66 rfl (ck_iload 70 rfl dX11_box_68 rfl (ck_callV 73 rfl [.inl v3] [.inr (.inr 15)] dX11_box_70 cv_X11_271 sh_15 rfl rfl (Nat.le_of_ble_eq_true rfl) (And.intro q4 True.intro) (ck_mI (h38.2 c24) (fun v16 w15 q17 h18 => (ck_iload 75 rfl dX11_box_73 rfl (ck_callV 78 rfl [.inl v16, .inl v3] [] dX11_box_75 cv_X11_274 sh_15 rfl rfl (Nat.le_of_ble_eq_true rfl) (And.intro q17 (And.intro q4 True.intro)) (ck_mI h18 (fun v20 w19 q21 h22 => (ck_iret dX11_box_78 rfl q21 h22))))))))))))))))) (fun c30 => (ck_aload 52 rfl dX11_box_50 rfl (ck_iload 54 rfl dX11_box_52 rfl (ck_callV 57 rfl [.inl v3] [] dX11_box_54 cv_X11_271 sh_15 rfl rfl (Nat.le_of_ble_eq_true rfl) (And.intro q4 True.intro) (ck_mI (h37.2 c30) (fun v26 w25 q27 h28 => (ck_iret dX11_box_57 rfl q27 h28))))))))))) (fun c32 => (ck_iconst 44 rfl dX11_box_43 rfl (ck_iret dX11_box_44 rfl (show ck_i (-1) by decide) (h36.2 c32))))))))))))))))))))))))))))))))))
/-- letters, words, as they may be -/
def cs_X (w : ck_W) : Prop := cs_L w ∧ cs_Lw w ∧ cs_H w ∧ (0 ≤ w 15 5 ∧ w 15 5 ≤ 12) ∧ (∀ k, 0 ≤ k → k < w 15 5 → (1 ≤ w 19 k ∧ w 19 k ≤ 99) ∧ (0 ≤ w 18 (k * 3) ∧ w 18 (k * 3) < w 15 2) ∧ (-1 ≤ w 18 (k * 3 + 1) ∧ w 18 (k * 3 + 1) < w 15 2) ∧ (-1 ≤ w 18 (k * 3 + 2) ∧ w 18 (k * 3 + 2) < w 15 2) ∧ (w 18 (k * 3 + 1) = -1 → w 18 (k * 3 + 2) = -1))
theorem cs_X_fr {w w' : ck_W} (h : cs_X w) (q : ∀ k, 15 ≤ k → k ≤ 19 → w' k = w k) : cs_X w' := by
  unfold cs_X cs_L cs_Lw cs_H
  rw [q 15 (by decide) (by decide), q 16 (by decide) (by decide), q 17 (by decide) (by decide), q 18 (by decide) (by decide), q 19 (by decide) (by decide)]
  exact h
/-- what is answered of a box that shows so -/
def cb_an (w : ck_W) (v what : Int) : Int := if what = 0 then (cs_bl w v (w 15 2).toNat 0 (-1, 0)).1 else if what = 1 then cs_th (cs_lc w (cs_bl w v (w 15 2).toNat 0 (-1, 0)).1 v) (cs_la w v (w 15 2).toNat 0 0) else if 100 ≤ what ∧ what < 100 + w 15 2 then 9 - ck_on 9 (ck_xor (w 16 (what - 100)) v) else -1
theorem cs_bl_fr {w w' : ck_W} (h : ∀ k, 15 ≤ k → k ≤ 17 → w' k = w k) (s : Int) : ∀ (n : Nat) (k : Int) (x : Int × Int), cs_bl w' s n k x = cs_bl w s n k x
  | 0, _, _ => rfl
  | n + 1, k, x => by
    rw [cs_bl, cs_bl]
    have e : cs_lc w' k s = cs_lc w k s := by unfold cs_lc; rw [h 15 (by decide) (by decide), h 16 (by decide) (by decide), h 17 (by decide) (by decide)]
    rw [e]
    exact cs_bl_fr h s n (k + 1) _
theorem cs_la_fr {w w' : ck_W} (h : ∀ k, 15 ≤ k → k ≤ 17 → w' k = w k) (s : Int) : ∀ (n : Nat) (k x : Int), cs_la w' s n k x = cs_la w s n k x
  | 0, _, _ => rfl
  | n + 1, k, x => by
    rw [cs_la, cs_la]
    have e : cs_lc w' k s = cs_lc w k s := by unfold cs_lc; rw [h 15 (by decide) (by decide), h 16 (by decide) (by decide), h 17 (by decide) (by decide)]
    rw [e]
    exact cs_la_fr h s n (k + 1) _
theorem cb_an_fr {w w' : ck_W} (h : ∀ k, 15 ≤ k → k ≤ 17 → w' k = w k) (v what : Int) : cb_an w' v what = cb_an w v what := by
  unfold cb_an
  rw [cs_bl_fr h, cs_la_fr h]
  unfold cs_lc
  rw [h 15 (by decide) (by decide), h 16 (by decide) (by decide), h 17 (by decide) (by decide)]
theorem C_box {g : ch_G} {A R : Nat} (hC : ck_Cx g A R) {d : Nat} {K : Option ck_V → ck_W → Prop} {w : ck_W} {a1 a2 a3 a4 : Int} (hI : cw_IV A R w) (hY : cs_Yc A R w) (hR : cs_Cd w) (hX : cs_X w) (hi3 : ck_i a3) (hi : ck_i a4) (h1 : (0 ≤ a1 ∧ a1 < w 10 3) → 1 ≤ w 15 2 → ∀ v w1 w', cs_q w w1 → cw_IV A R w1 → (∀ z, a2 ≤ z → z ≤ a2 + 2 → w1 59 z ≠ 0) → cb_is A w1 a2 a3 → cs_Q w w' → cw_IV A R w' → (cv_J A R w1 → v = cb_or (fun i j => cv_ij A R w1 a1 (a2 + i) (a3 + j) (fun _ => 0)) 9) → K (some (.inl (cb_an w v a4))) w') (h0 : ∀ w' w1, cs_Q w w' → cw_IV A R w' → cs_q w w1 → cw_IV A R w1 → (0 ≤ a2 ∧ a2 ≤ 3 → ∀ z, a2 ≤ z → z ≤ a2 + 2 → w1 59 z ≠ 0) → ¬ ((0 ≤ a1 ∧ a1 < w 10 3) ∧ 1 ≤ w 15 2 ∧ cb_is A w1 a2 a3) → K (some (.inl (-1))) w') : ck_Ex (ch_C g A R) (d + 7) mX11_box [.inr (.inr 0), .inl a1, .inl a2, .inl a3, .inl a4] w K := by
  refine e_X11_box hC (S_X10_settleRows hC hI (fun w1 k1 k2 k3 k4 => ⟨rfl, ?_⟩))
  have q1 := cs_Q_q k1
  have e10 : w1 10 = w 10 := k1 10 (by decide)
  have X1 : cs_X w1 := cs_X_fr hX (fun k a b => k1 k (by omega))
  refine p_X0_shapeAt hC (cv_Hof k2 (cs_Yc_fr hY q1)) k2.1.2.1 (cs_Cd_fr hR q1) hi3 (fun ok y v w' f r ex => ⟨_, rfl, fun _ => ⟨fun z => absurd z (by omega), fun _ => ?_⟩⟩) (fun no w' f => ⟨_, rfl, fun _ => ⟨fun _ => ?_, fun z => absurd rfl z⟩⟩)
  · have q2 : cs_Q w w' := cs_Q_tr q1 (fun k hk => f k (by omega) (by omega))
    have I2 := cw_IV_fr hC k2 (fun k hk => f k (by omega) (by omega))
    have X2 : cs_X w' := cs_X_fr X1 (fun k a b => f k (by omega) (by omega))
    have e15 : w' 15 = w 15 := q2 15 (by decide)
    have L2 := X2.1.1
    rw [e10] at ok
    refine ⟨fun z => ?_, fun z => h0 w' w1 q2 I2 k1 k2 k4 (fun x => by rw [e15] at z; omega)⟩
    have k := h1 ok (by rw [e15] at L2 z; omega) v w1 w' k1 k2 (fun y z0 z1 => k4 ‹cb_is A w1 a2 a3›.1 y z0 z1) y q2 I2 ex
    rw [← cb_an_fr (w := w) (w' := w') (fun k a b => q2 k (by omega))] at k
    unfold cb_an at k
    have bl := cs_bl_one X2.1 X2.2.1 X2.2.2.1 r (by omega)
    refine ⟨fun z0 => ⟨fun z1 => ?_, fun z1 => ?_⟩, fun z0 => ?_⟩
    · rw [if_neg z0, if_neg z1] at k
      have ha := ck_wr_add (a := a4) (b := -100) hi (by omega)
      rw [show a4 + -100 = a4 - 100 by omega] at ha
      refine ⟨by omega, fun y2 => ?_, fun y2 => ?_⟩
      · have e : ck_wr (a4 - 100) = a4 - 100 := by rcases ha with e | e | e <;> omega
        rw [e] at y2 ⊢
        rw [if_pos (by omega)] at k
        exact p_X2_like hC X2.1 r (by omega) ⟨_, rfl, fun _ => k⟩
      · rw [if_neg (fun y3 => y2 (by rcases ha with e | e | e <;> omega))] at k
        exact k
    · rw [if_neg z0, if_pos z1] at k
      exact S_X2_letterByInk hC X2.1 X2.2.1 X2.2.2.1 r ⟨_, rfl, fun _ => S_X2_letterOdds hC X2.1 X2.2.1 X2.2.2.1 r bl ⟨_, rfl, fun _ => k⟩⟩
    · rw [if_pos z0] at k
      exact S_X2_letterByInk hC X2.1 X2.2.1 X2.2.2.1 r ⟨_, rfl, fun _ => k⟩
  · exact h0 w' w1 (cs_Q_tr q1 (fun k hk => f k (by omega) (by omega))) (cw_IV_fr hC k2 (fun k hk => f k (by omega) (by omega))) k1 k2 k4 (fun x => no (by rw [e10]; exact ⟨x.1, x.2.2⟩))
