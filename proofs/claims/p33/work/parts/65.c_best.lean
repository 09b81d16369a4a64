/-! ===== the class: best, flat ===== -/
/-- a known slice keeps what is known -/
theorem cw_kn {A R : Nat} {w w' : ck_W} (hI : cw_IV A R w) (hI' : cw_IV A R w') (hq : cs_q w w') {z : Int} (hz : 0 ≤ z ∧ z ≤ 5) (h : w 59 z ≠ 0) (h' : w' 59 z ≠ 0) : w' 60 z = w 60 z ∧ w' 61 z = w 61 z := by
  have a := hI.2.2.2.2 z hz.1 hz.2 h
  have b := hI'.2.2.2.2 z hz.1 hz.2 h'
  unfold cw_res at b
  rw [hq 6 (by decide), cw_g_fr (hq 4 (by decide)) (hq 7 (by decide))] at b
  exact ⟨b.1.trans a.1.symm, b.2.1.trans a.2.1.symm⟩
theorem cw_knr {A R : Nat} {g : ch_G} (hC : ck_Cx g A R) {w w' : ck_W} (hI : cw_IV A R w) (hI' : cw_IV A R w') (hq : cs_q w w') {z : Int} (hz : 0 ≤ z ∧ z ≤ 5) (h : w 59 z ≠ 0) (h' : w' 59 z ≠ 0) (hw : 0 < w 61 z) {p : Int} (hp : 0 ≤ p ∧ p < w 6 z * (A : Int)) : w' 62 (z * 24 + p) = w 62 (z * 24 + p) := by
  have a := hI.2.2.2.2 z hz.1 hz.2 h
  have b := hI'.2.2.2.2 z hz.1 hz.2 h'
  unfold cw_res at b
  rw [hq 6 (by decide), cw_g_fr (hq 4 (by decide)) (hq 7 (by decide))] at b
  have ne : cw_be A R (w 6 z) (cw_g A R w z) ≠ 0 := by intro e; rw [a.2.1, e] at hw; omega
  rw [(a.2.2 ne p hp.1 hp.2).1, (b.2.2 ne p hp.1 hp.2).1]
theorem dX10_settleRows_0 : decode cX10_settleRows 0 = .ok (.iconst 0, 1) := dk_3 (by decide +kernel)
theorem dX10_settleRows_1 : decode cX10_settleRows 1 = .ok (.istore_n 2, 1) := dk_61 (by decide +kernel)
theorem dX10_settleRows_2 : decode cX10_settleRows 2 = .ok (.iload_n 2, 1) := dk_28 (by decide +kernel)
theorem dX10_settleRows_3 : decode cX10_settleRows 3 = .ok (.iconst 3, 1) := dk_6 (by decide +kernel)
theorem dX10_settleRows_4 : decode cX10_settleRows 4 = .ok (.if_icmp .ge 17, 3) := dk_162 0 17 (by decide +kernel)
theorem dX10_settleRows_7 : decode cX10_settleRows 7 = .ok (.aload_n 0, 1) := dk_42 (by decide +kernel)
theorem dX10_settleRows_8 : decode cX10_settleRows 8 = .ok (.iload_n 1, 1) := dk_27 (by decide +kernel)
theorem dX10_settleRows_9 : decode cX10_settleRows 9 = .ok (.iload_n 2, 1) := dk_28 (by decide +kernel)
theorem dX10_settleRows_10 : decode cX10_settleRows 10 = .ok (.iadd, 1) := dk_96 (by decide +kernel)
theorem dX10_settleRows_11 : decode cX10_settleRows 11 = .ok (.invokevirtual 104, 3) := dk_182 0 104 (by decide +kernel)
theorem dX10_settleRows_14 : decode cX10_settleRows 14 = .ok (.pop, 1) := dk_87 (by decide +kernel)
theorem dX10_settleRows_15 : decode cX10_settleRows 15 = .ok (.iinc 2 1, 3) := dk_132 1 (by decide +kernel)
theorem dX10_settleRows_18 : decode cX10_settleRows 18 = .ok (.goto (-16), 3) := dk_167 255 240 (by decide +kernel)
theorem dX10_settleRows_21 : decode cX10_settleRows 21 = .ok (.return_, 1) := dk_177 (by decide +kernel)
set_option maxRecDepth 8000 in
theorem e_X10_settleRows {g : ch_G} {A R : Nat} (hC : ck_Cx g A R) {d : Nat} {K : Option ck_V → ck_W → Prop} {w : ck_W} {a1 : Int} (h : ck_At (ch_C g A R) (d + 1) mX10_settleRows K 2 [some (.inr (.inr 51)), some (.inl a1), some (.inl 0)] [] w) : ck_Ex (ch_C g A R) (d + 1) mX10_settleRows [.inr (.inr 51), .inl a1] w K :=
  ck_entry hC.1 [some (.inr (.inr 51)), some (.inl a1), none] (by decide) (Nat.le_of_ble_eq_true rfl) rfl (fun q => q) (ck_in (fun hl => (ck_iconst 1 rfl dX10_settleRows_0 rfl (ck_istore_n 2 rfl 2 [some (.inr (.inr 51)), some (.inl a1), some (.inl 0)] dX10_settleRows_1 rfl (Nat.le_of_ble_eq_true rfl) rfl rfl (show ck_i 0 by decide) h))))
set_option maxRecDepth 8000 in
theorem r_X10_settleRows_2 {g : ch_G} {A R : Nat} (hC : ck_Cx g A R) {d : Nat} {K : Option ck_V → ck_W → Prop} {w : ck_W} {a1 a2 : Int} (h : (3 ≤ a2 → K none w) ∧ (¬ 3 ≤ a2 → ck_CI (ch_C g A R) d mX10_settle [.inr (.inr 51), .inl (ck_wr (a1 + a2))] w (fun v2 w1 => ck_i (a2 + 1) ∧ (ck_At (ch_C g A R) (d + 1) mX10_settleRows K 2 [some (.inr (.inr 51)), some (.inl a1), some (.inl (a2 + 1))] [] w1)))) : ck_At (ch_C g A R) (d + 1) mX10_settleRows K 2 [some (.inr (.inr 51)), some (.inl a1), some (.inl a2)] [] w :=
  ck_in (fun hl => (ck_iload_n 3 rfl 2 dX10_settleRows_2 rfl rfl (ck_iconst 4 rfl dX10_settleRows_3 rfl (ck_icmp_ge 7 rfl 21 dX10_settleRows_4 rfl hl.2.2.1 (show ck_i 3 by decide) (fun c6 => (ck_vret dX10_settleRows_21 rfl (h.1 c6))) (fun c7 => (ck_aload_n 8 rfl 0 dX10_settleRows_7 rfl rfl (ck_iload_n 9 rfl 1 dX10_settleRows_8 rfl rfl (ck_iload_n 10 rfl 2 dX10_settleRows_9 rfl rfl (ck_iadd 11 rfl dX10_settleRows_10 (ck_wrp (ck_callV 14 rfl [.inl (ck_wr (a1 + a2))] [] dX10_settleRows_11 cv_X10_104 sh_51 rfl rfl (Nat.le_of_ble_eq_true rfl) (And.intro (ck_rng _) True.intro) (ck_mI (h.2 c7) (fun v2 w1 q3 h4 => (ck_pop 15 rfl dX10_settleRows_14 rfl (have h9 := h4; have o5 := h9.1; have h8 := h9.2; (ck_iinc 18 rfl [some (.inr (.inr 51)), some (.inl a1), some (.inl (a2 + 1))] dX10_settleRows_15 rfl (Nat.le_of_ble_eq_true rfl) rfl rfl o5 (ck_goto 2 dX10_settleRows_18 rfl h8)))))))))))))))))
theorem S_X10_settleRows {g : ch_G} {A R : Nat} (hC : ck_Cx g A R) {d : Nat} {K : Option ck_V → ck_W → Prop} {w : ck_W} {a1 : Int} (hI : cw_IV A R w) (h : ∀ w', cs_q w w' → cw_IV A R w' → cw_mo w w' → (0 ≤ a1 ∧ a1 ≤ 3 → ∀ z, a1 ≤ z → z ≤ a1 + 2 → w' 59 z ≠ 0) → K none w') : ck_Ex (ch_C g A R) (d + 6) mX10_settleRows [.inr (.inr 51), .inl a1] w K := by
  have lp : ∀ (n : Nat) (a2 : Int) (u : ck_W), 3 - a2 = n → 0 ≤ a2 → cs_q w u → cw_IV A R u → cw_mo w u → (0 ≤ a1 ∧ a1 ≤ 3 → ∀ z, a1 ≤ z → z < a1 + a2 → u 59 z ≠ 0) → ck_At (ch_C g A R) (d + 6) mX10_settleRows K 2 [some (.inr (.inr 51)), some (.inl a1), some (.inl a2)] [] u := by
    intro n
    induction n with
    | zero =>
      intro a2 u g1 g2 g3 g4 g5 g6
      exact r_X10_settleRows_2 hC ⟨fun _ => h u g3 g4 g5 (fun q z z0 z1 => g6 q z z0 (by omega)), fun q => absurd (by omega) q⟩
    | succ n ih =>
      intro a2 u g1 g2 g3 g4 g5 g6
      refine r_X10_settleRows_2 hC ⟨fun q => absurd q (by omega), fun _ => S_X10_settle hC g4 (fun no => ⟨_, rfl, fun _ => ⟨by constructor <;> omega, ih (a2 + 1) u (by omega) (by omega) g3 g4 g5 (fun q => ?_)⟩⟩) (fun ok u' k1 k2 k3 k4 => ⟨_, rfl, fun _ => ⟨by constructor <;> omega, ih (a2 + 1) u' (by omega) (by omega) (cs_q_tr g3 k1) k2 (fun z hz => k3 z (g5 z hz)) (fun q z z0 z1 => ?_)⟩⟩)⟩
      · rw [ck_wr_of (by constructor <;> omega)] at no
        exact absurd (by omega) no
      · by_cases e : z = a1 + a2
        · rw [ck_wr_of (by constructor <;> omega), ← e] at k4
          exact k4
        · exact k3 z (g6 q z z0 (by omega))
  exact e_X10_settleRows hC (lp 3 0 w (by omega) (by omega) cs_q_rf hI (fun _ x => x) (fun _ z _ _ => by omega))
theorem dX10_settleThoseWith_0 : decode cX10_settleThoseWith 0 = .ok (.iconst 0, 1) := dk_3 (by decide +kernel)
theorem dX10_settleThoseWith_1 : decode cX10_settleThoseWith 1 = .ok (.istore_n 2, 1) := dk_61 (by decide +kernel)
theorem dX10_settleThoseWith_2 : decode cX10_settleThoseWith 2 = .ok (.iconst 0, 1) := dk_3 (by decide +kernel)
theorem dX10_settleThoseWith_3 : decode cX10_settleThoseWith 3 = .ok (.istore_n 3, 1) := dk_62 (by decide +kernel)
theorem dX10_settleThoseWith_4 : decode cX10_settleThoseWith 4 = .ok (.iload_n 3, 1) := dk_29 (by decide +kernel)
theorem dX10_settleThoseWith_5 : decode cX10_settleThoseWith 5 = .ok (.bipush 6, 2) := dk_16 6 (by decide +kernel)
theorem dX10_settleThoseWith_7 : decode cX10_settleThoseWith 7 = .ok (.if_icmp .ge 34, 3) := dk_162 0 34 (by decide +kernel)
theorem dX10_settleThoseWith_10 : decode cX10_settleThoseWith 10 = .ok (.aload_n 0, 1) := dk_42 (by decide +kernel)
theorem dX10_settleThoseWith_11 : decode cX10_settleThoseWith 11 = .ok (.getfield 28, 3) := dk_180 0 28 (by decide +kernel)
theorem dX10_settleThoseWith_14 : decode cX10_settleThoseWith 14 = .ok (.getfield 108, 3) := dk_180 0 108 (by decide +kernel)
theorem dX10_settleThoseWith_17 : decode cX10_settleThoseWith 17 = .ok (.iload_n 3, 1) := dk_29 (by decide +kernel)
theorem dX10_settleThoseWith_18 : decode cX10_settleThoseWith 18 = .ok (.iaload, 1) := dk_46 (by decide +kernel)
theorem dX10_settleThoseWith_19 : decode cX10_settleThoseWith 19 = .ok (.iload_n 1, 1) := dk_27 (by decide +kernel)
theorem dX10_settleThoseWith_20 : decode cX10_settleThoseWith 20 = .ok (.if_icmp .lt 15, 3) := dk_161 0 15 (by decide +kernel)
theorem dX10_settleThoseWith_23 : decode cX10_settleThoseWith 23 = .ok (.aload_n 0, 1) := dk_42 (by decide +kernel)
theorem dX10_settleThoseWith_24 : decode cX10_settleThoseWith 24 = .ok (.iload_n 3, 1) := dk_29 (by decide +kernel)
theorem dX10_settleThoseWith_25 : decode cX10_settleThoseWith 25 = .ok (.invokevirtual 104, 3) := dk_182 0 104 (by decide +kernel)
theorem dX10_settleThoseWith_28 : decode cX10_settleThoseWith 28 = .ok (.ifCond .ne 5, 3) := dk_154 0 5 (by decide +kernel)
theorem dX10_settleThoseWith_31 : decode cX10_settleThoseWith 31 = .ok (.iconst 0, 1) := dk_3 (by decide +kernel)
theorem dX10_settleThoseWith_32 : decode cX10_settleThoseWith 32 = .ok (.ireturn, 1) := dk_172 (by decide +kernel)
theorem dX10_settleThoseWith_33 : decode cX10_settleThoseWith 33 = .ok (.iconst 1, 1) := dk_4 (by decide +kernel)
theorem dX10_settleThoseWith_34 : decode cX10_settleThoseWith 34 = .ok (.istore_n 2, 1) := dk_61 (by decide +kernel)
theorem dX10_settleThoseWith_35 : decode cX10_settleThoseWith 35 = .ok (.iinc 3 1, 3) := dk_132 1 (by decide +kernel)
theorem dX10_settleThoseWith_38 : decode cX10_settleThoseWith 38 = .ok (.goto (-34), 3) := dk_167 255 222 (by decide +kernel)
theorem dX10_settleThoseWith_41 : decode cX10_settleThoseWith 41 = .ok (.iload_n 2, 1) := dk_28 (by decide +kernel)
theorem dX10_settleThoseWith_42 : decode cX10_settleThoseWith 42 = .ok (.ireturn, 1) := dk_172 (by decide +kernel)
set_option maxRecDepth 8000 in
theorem e_X10_settleThoseWith {g : ch_G} {A R : Nat} (hC : ck_Cx g A R) {d : Nat} {K : Option ck_V → ck_W → Prop} {w : ck_W} {a1 : Int} (h : ck_At (ch_C g A R) (d + 1) mX10_settleThoseWith K 4 [some (.inr (.inr 51)), some (.inl a1), some (.inl 0), some (.inl 0)] [] w) : ck_Ex (ch_C g A R) (d + 1) mX10_settleThoseWith [.inr (.inr 51), .inl a1] w K :=
  ck_entry hC.1 [some (.inr (.inr 51)), some (.inl a1), none, none] (by decide) (Nat.le_of_ble_eq_true rfl) rfl (fun q => q) (ck_in (fun hl => (ck_iconst 1 rfl dX10_settleThoseWith_0 rfl (ck_istore_n 2 rfl 2 [some (.inr (.inr 51)), some (.inl a1), some (.inl 0), none] dX10_settleThoseWith_1 rfl (Nat.le_of_ble_eq_true rfl) rfl rfl (show ck_i 0 by decide) (ck_iconst 3 rfl dX10_settleThoseWith_2 rfl (ck_istore_n 4 rfl 3 [some (.inr (.inr 51)), some (.inl a1), some (.inl 0), some (.inl 0)] dX10_settleThoseWith_3 rfl (Nat.le_of_ble_eq_true rfl) rfl rfl (show ck_i 0 by decide) h))))))
set_option maxRecDepth 8000 in
theorem r_X10_settleThoseWith_4 {g : ch_G} {A R : Nat} (hC : ck_Cx g A R) {d : Nat} {K : Option ck_V → ck_W → Prop} {w : ck_W} {a1 a2 a3 : Int} (h : (6 ≤ a3 → (a2 = 0 ∨ a2 = 1) ∧ K (some (.inl a2)) w) ∧ (¬ 6 ≤ a3 → (0 ≤ a3 ∧ a3 < 6) ∧ (((w 6 a3) < a1 → ck_i (a3 + 1) ∧ (ck_At (ch_C g A R) (d + 1) mX10_settleThoseWith K 4 [some (.inr (.inr 51)), some (.inl a1), some (.inl a2), some (.inl (a3 + 1))] [] w)) ∧ (¬ (w 6 a3) < a1 → ck_CI (ch_C g A R) d mX10_settle [.inr (.inr 51), .inl a3] w (fun v7 w6 => (¬ v7 = 0 → ck_i (a3 + 1) ∧ (ck_At (ch_C g A R) (d + 1) mX10_settleThoseWith K 4 [some (.inr (.inr 51)), some (.inl a1), some (.inl 1), some (.inl (a3 + 1))] [] w6)) ∧ (v7 = 0 → K (some (.inl 0)) w6)))))) : ck_At (ch_C g A R) (d + 1) mX10_settleThoseWith K 4 [some (.inr (.inr 51)), some (.inl a1), some (.inl a2), some (.inl a3)] [] w :=
  ck_in (fun hl => (ck_iload_n 5 rfl 3 dX10_settleThoseWith_4 rfl rfl (ck_bipush 7 rfl dX10_settleThoseWith_5 rfl (ck_icmp_ge 10 rfl 41 dX10_settleThoseWith_7 rfl hl.2.2.2.1 (show ck_i 6 by decide) (fun c15 => (ck_iload_n 42 rfl 2 dX10_settleThoseWith_41 rfl rfl (have h2 := (h.1 c15); have o1 := h2.1; ck_zret dX10_settleThoseWith_42 rfl o1 h2.2))) (fun c16 => (ck_aload_n 11 rfl 0 dX10_settleThoseWith_10 rfl rfl (ck_getr 14 rfl dX10_settleThoseWith_11 fl_X10_28 sh_51 rfl (ck_getr 17 rfl dX10_settleThoseWith_14 fl_X10_108 sh_3 rfl (ck_iload_n 18 rfl 3 dX10_settleThoseWith_17 rfl rfl (have h18 := (h.2 c16); have o3 := h18.1; have h17 := h18.2; (ck_iald 19 rfl dX10_settleThoseWith_18 sh_6 (shn_6 hC) o3 _ rfl (fun (q4 : ck_i (w 6 a3)) => (ck_iload_n 20 rfl 1 dX10_settleThoseWith_19 rfl rfl (ck_icmp_lt 23 rfl 35 dX10_settleThoseWith_20 rfl q4 hl.2.1 (fun c13 => (have h20 := (h17.1 c13); have o5 := h20.1; have h19 := h20.2; (ck_iinc 38 rfl [some (.inr (.inr 51)), some (.inl a1), some (.inl a2), some (.inl (a3 + 1))] dX10_settleThoseWith_35 rfl (Nat.le_of_ble_eq_true rfl) rfl rfl o5 (ck_goto 4 dX10_settleThoseWith_38 rfl h19)))) (fun c14 => (ck_aload_n 24 rfl 0 dX10_settleThoseWith_23 rfl rfl (ck_iload_n 25 rfl 3 dX10_settleThoseWith_24 rfl rfl (ck_callV 28 rfl [.inl a3] [] dX10_settleThoseWith_25 cv_X10_104 sh_51 rfl rfl (Nat.le_of_ble_eq_true rfl) (And.intro hl.2.2.2.1 True.intro) (ck_mI (h17.2 c14) (fun v7 w6 q8 h9 => (ck_if_ne 31 rfl 33 dX10_settleThoseWith_28 rfl q8 (fun c11 => (ck_iconst 34 rfl dX10_settleThoseWith_33 rfl (ck_istore_n 35 rfl 2 [some (.inr (.inr 51)), some (.inl a1), some (.inl 1), some (.inl a3)] dX10_settleThoseWith_34 rfl (Nat.le_of_ble_eq_true rfl) rfl rfl (show ck_i 1 by decide) (have h22 := (h9.1 c11); have o10 := h22.1; have h21 := h22.2; (ck_iinc 38 rfl [some (.inr (.inr 51)), some (.inl a1), some (.inl 1), some (.inl (a3 + 1))] dX10_settleThoseWith_35 rfl (Nat.le_of_ble_eq_true rfl) rfl rfl o10 (ck_goto 4 dX10_settleThoseWith_38 rfl h21)))))) (fun c12 => (ck_iconst 32 rfl dX10_settleThoseWith_31 rfl (ck_zret dX10_settleThoseWith_32 rfl (by decide) (h9.2 c12)))))))))))))))))))))))))
/-- slices of k turns or more have spirals -/
def cw_all (w : ck_W) (k : Int) : Prop := (∃ z, (0 ≤ z ∧ z ≤ 5) ∧ k ≤ w 6 z) ∧ ∀ z, 0 ≤ z → z ≤ 5 → k ≤ w 6 z → w 59 z ≠ 0 ∧ 0 < w 61 z
theorem S_X10_settleThoseWith {g : ch_G} {A R : Nat} (hC : ck_Cx g A R) {d : Nat} {K : Option ck_V → ck_W → Prop} {w : ck_W} {a1 : Int} (hI : cw_IV A R w) (h1 : ∀ w', cs_q w w' → cw_IV A R w' → cw_mo w w' → cw_all w' a1 → K (some (.inl 1)) w') (h0 : ∀ w', cs_q w w' → cw_IV A R w' → cw_mo w w' → ((∀ z, 0 ≤ z → z ≤ 5 → w' 6 z < a1) ∨ ∃ z, (0 ≤ z ∧ z ≤ 5) ∧ a1 ≤ w' 6 z ∧ w' 59 z ≠ 0 ∧ w' 61 z ≤ 0) → K (some (.inl 0)) w') : ck_Ex (ch_C g A R) (d + 6) mX10_settleThoseWith [.inr (.inr 51), .inl a1] w K := by
  have lp : ∀ (n : Nat) (a2 a3 : Int) (u : ck_W), 6 - a3 = n → 0 ≤ a3 → cs_q w u → cw_IV A R u → cw_mo w u → ((a2 = 1 ∧ ∃ z, (0 ≤ z ∧ z ≤ 5) ∧ a1 ≤ u 6 z) ∨ (a2 = 0 ∧ ∀ z, 0 ≤ z → z < a3 → u 6 z < a1)) → (∀ z, 0 ≤ z → z < a3 → a1 ≤ u 6 z → u 59 z ≠ 0 ∧ 0 < u 61 z) → ck_At (ch_C g A R) (d + 6) mX10_settleThoseWith K 4 [some (.inr (.inr 51)), some (.inl a1), some (.inl a2), some (.inl a3)] [] u := by
    intro n
    induction n with
    | zero =>
      intro a2 a3 u g1 g2 g3 g4 g5 g6 g7
      refine r_X10_settleThoseWith_4 hC ⟨fun _ => ⟨by omega, ?_⟩, fun q => absurd (by omega) q⟩
      rcases g6 with ⟨e, x⟩ | ⟨e, x⟩
      · rw [e]; exact h1 u g3 g4 g5 ⟨x, fun z z0 z1 => g7 z z0 (by omega)⟩
      · rw [e]; exact h0 u g3 g4 g5 (Or.inl (fun z z0 z1 => x z z0 (by omega)))
    | succ n ih =>
      intro a2 a3 u g1 g2 g3 g4 g5 g6 g7
      refine r_X10_settleThoseWith_4 hC ⟨fun q => absurd q (by omega), fun _ => ⟨by omega, fun q => ⟨by constructor <;> omega, ih a2 (a3 + 1) u (by omega) (by omega) g3 g4 g5 ?_ ?_⟩, fun q => S_X10_settle hC g4 (fun no => absurd (by omega) no) (fun ok u' k1 k2 k3 k4 => ⟨_, rfl, fun _ => ?_⟩)⟩⟩
      · rcases g6 with x | ⟨e, x⟩
        · exact Or.inl x
        · refine Or.inr ⟨e, fun z z0 z1 => ?_⟩
          by_cases y : z = a3
          · rw [y]; exact q
          · exact x z z0 (by omega)
      · intro z z0 z1 z2
        by_cases y : z = a3
        · rw [y] at z2; omega
        · exact g7 z z0 (by omega) z2
      · have e6 : u' 6 = u 6 := k1 6 (by decide)
        refine ⟨fun z => ⟨by constructor <;> omega, ih 1 (a3 + 1) u' (by omega) (by omega) (cs_q_tr g3 k1) k2 (fun z hz => k3 z (g5 z hz)) (Or.inl ⟨rfl, a3, ⟨by omega, by omega⟩, by rw [e6]; omega⟩) (fun y y0 y1 y2 => ?_)⟩, fun z => ?_⟩
        · by_cases e : y = a3
          · rw [e]
            refine ⟨k4, ?_⟩
            by_cases x : u' 61 a3 ≤ 0
            · rw [if_pos x] at z; exact absurd rfl z
            · omega
          · rw [e6] at y2
            have g := g7 y y0 (by omega) y2
            have kn := k3 y g.1
            refine ⟨kn, ?_⟩
            rw [(cw_kn g4 k2 k1 (z := y) ⟨y0, by omega⟩ g.1 kn).2]
            exact g.2
        · refine h0 u' (cs_q_tr g3 k1) k2 (fun z hz => k3 z (g5 z hz)) (Or.inr ⟨a3, ⟨by omega, by omega⟩, by rw [e6]; omega, k4, ?_⟩)
          by_cases x : u' 61 a3 ≤ 0
          · exact x
          · rw [if_neg x] at z; exact absurd z (by decide)
  exact e_X10_settleThoseWith hC (lp 6 0 0 w (by omega) (by omega) cs_q_rf hI (fun _ x => x) (Or.inr ⟨rfl, fun z z0 z1 => by omega⟩) (fun z z0 z1 => by omega))
/-- how far lengths are from a width, from slice z on -/
def cs_sr (t f : Int → Int) (k p x : Int) : Nat → Int → Int → Int
  | 0, _, s => s
  | n + 1, z, s => cs_sr t f k p x n (z + 1) (if t z < k then s else s + max (f (z * 24 + p) + 1 - x) (-(f (z * 24 + p) + 1 - x)))
def cs_wd (t f : Int → Int) (k p : Int) : Nat → Int → Int × Int → Int × Int
  | 0, _, s => s
  | n + 1, z, s => cs_wd t f k p n (z + 1) (if t z < k then s else if s.1 = 0 then (f (z * 24 + p) + 1, cs_sr t f k p (f (z * 24 + p) + 1) 6 0 0) else if cs_sr t f k p (f (z * 24 + p) + 1) 6 0 0 < s.2 then (f (z * 24 + p) + 1, cs_sr t f k p (f (z * 24 + p) + 1) 6 0 0) else if ¬ cs_sr t f k p (f (z * 24 + p) + 1) 6 0 0 = s.2 then s else if s.1 ≤ f (z * 24 + p) + 1 then s else (f (z * 24 + p) + 1, cs_sr t f k p (f (z * 24 + p) + 1) 6 0 0))
theorem cs_srb {R : Nat} {t f : Int → Int} {k p x : Int} (hf : ∀ j, 0 ≤ j → j < 144 → 0 ≤ f j ∧ f j < (R : Int)) (hR : (R : Int) ≤ 12) (hp : 0 ≤ p ∧ p < 24) (hx : 0 ≤ x ∧ x ≤ 12) : ∀ (n : Nat) (z s : Int), 0 ≤ z → z + n ≤ 6 → 0 ≤ s → 0 ≤ cs_sr t f k p x n z s ∧ cs_sr t f k p x n z s ≤ s + 12 * n
  | 0, z, s, h0, h1, h2 => by rw [cs_sr]; omega
  | n + 1, z, s, h0, h1, h2 => by
    rw [cs_sr]
    have b := hf (z * 24 + p) (by omega) (by omega)
    have i := cs_srb (t := t) (k := k) hf hR hp hx n (z + 1) (if t z < k then s else s + max (f (z * 24 + p) + 1 - x) (-(f (z * 24 + p) + 1 - x))) (by omega) (by omega) (by split <;> omega)
    split at i <;> rename_i e
    · rw [if_pos e]; omega
    · rw [if_neg e]; omega
theorem dX10_stretchOf_0 : decode cX10_stretchOf 0 = .ok (.iconst 0, 1) := dk_3 (by decide +kernel)
theorem dX10_stretchOf_1 : decode cX10_stretchOf 1 = .ok (.istore 4, 2) := dk_54 (by decide +kernel)
theorem dX10_stretchOf_3 : decode cX10_stretchOf 3 = .ok (.iconst 0, 1) := dk_3 (by decide +kernel)
theorem dX10_stretchOf_4 : decode cX10_stretchOf 4 = .ok (.istore 5, 2) := dk_54 (by decide +kernel)
theorem dX10_stretchOf_6 : decode cX10_stretchOf 6 = .ok (.iload 5, 2) := dk_21 (by decide +kernel)
theorem dX10_stretchOf_8 : decode cX10_stretchOf 8 = .ok (.bipush 6, 2) := dk_16 6 (by decide +kernel)
theorem dX10_stretchOf_10 : decode cX10_stretchOf 10 = .ok (.if_icmp .ge 42, 3) := dk_162 0 42 (by decide +kernel)
theorem dX10_stretchOf_13 : decode cX10_stretchOf 13 = .ok (.aload_n 0, 1) := dk_42 (by decide +kernel)
theorem dX10_stretchOf_14 : decode cX10_stretchOf 14 = .ok (.getfield 28, 3) := dk_180 0 28 (by decide +kernel)
theorem dX10_stretchOf_17 : decode cX10_stretchOf 17 = .ok (.getfield 108, 3) := dk_180 0 108 (by decide +kernel)
theorem dX10_stretchOf_20 : decode cX10_stretchOf 20 = .ok (.iload 5, 2) := dk_21 (by decide +kernel)
theorem dX10_stretchOf_22 : decode cX10_stretchOf 22 = .ok (.iaload, 1) := dk_46 (by decide +kernel)
theorem dX10_stretchOf_23 : decode cX10_stretchOf 23 = .ok (.iload_n 1, 1) := dk_27 (by decide +kernel)
theorem dX10_stretchOf_24 : decode cX10_stretchOf 24 = .ok (.if_icmp .lt 22, 3) := dk_161 0 22 (by decide +kernel)
theorem dX10_stretchOf_27 : decode cX10_stretchOf 27 = .ok (.iload 4, 2) := dk_21 (by decide +kernel)
theorem dX10_stretchOf_29 : decode cX10_stretchOf 29 = .ok (.aload_n 0, 1) := dk_42 (by decide +kernel)
theorem dX10_stretchOf_30 : decode cX10_stretchOf 30 = .ok (.iload 5, 2) := dk_21 (by decide +kernel)
theorem dX10_stretchOf_32 : decode cX10_stretchOf 32 = .ok (.iload_n 2, 1) := dk_28 (by decide +kernel)
theorem dX10_stretchOf_33 : decode cX10_stretchOf 33 = .ok (.invokevirtual 178, 3) := dk_182 0 178 (by decide +kernel)
theorem dX10_stretchOf_36 : decode cX10_stretchOf 36 = .ok (.iconst 1, 1) := dk_4 (by decide +kernel)
theorem dX10_stretchOf_37 : decode cX10_stretchOf 37 = .ok (.iadd, 1) := dk_96 (by decide +kernel)
theorem dX10_stretchOf_38 : decode cX10_stretchOf 38 = .ok (.iload_n 3, 1) := dk_29 (by decide +kernel)
theorem dX10_stretchOf_39 : decode cX10_stretchOf 39 = .ok (.isub, 1) := dk_100 (by decide +kernel)
theorem dX10_stretchOf_40 : decode cX10_stretchOf 40 = .ok (.invokestatic 184, 3) := dk_184 0 184 (by decide +kernel)
theorem dX10_stretchOf_43 : decode cX10_stretchOf 43 = .ok (.iadd, 1) := dk_96 (by decide +kernel)
theorem dX10_stretchOf_44 : decode cX10_stretchOf 44 = .ok (.istore 4, 2) := dk_54 (by decide +kernel)
theorem dX10_stretchOf_46 : decode cX10_stretchOf 46 = .ok (.iinc 5 1, 3) := dk_132 1 (by decide +kernel)
theorem dX10_stretchOf_49 : decode cX10_stretchOf 49 = .ok (.goto (-43), 3) := dk_167 255 213 (by decide +kernel)
theorem dX10_stretchOf_52 : decode cX10_stretchOf 52 = .ok (.iload 4, 2) := dk_21 (by decide +kernel)
theorem dX10_stretchOf_54 : decode cX10_stretchOf 54 = .ok (.ireturn, 1) := dk_172 (by decide +kernel)
set_option maxRecDepth 8000 in
theorem e_X10_stretchOf {g : ch_G} {A R : Nat} (hC : ck_Cx g A R) {d : Nat} {K : Option ck_V → ck_W → Prop} {w : ck_W} {a1 a2 a3 : Int} (h : ck_At (ch_C g A R) (d + 1) mX10_stretchOf K 6 [some (.inr (.inr 51)), some (.inl a1), some (.inl a2), some (.inl a3), some (.inl 0), some (.inl 0)] [] w) : ck_Ex (ch_C g A R) (d + 1) mX10_stretchOf [.inr (.inr 51), .inl a1, .inl a2, .inl a3] w K :=
  ck_entry hC.1 [some (.inr (.inr 51)), some (.inl a1), some (.inl a2), some (.inl a3), none, none] (by decide) (Nat.le_of_ble_eq_true rfl) rfl (fun q => q) (ck_in (fun hl => (ck_iconst 1 rfl dX10_stretchOf_0 rfl (ck_istore 3 rfl [some (.inr (.inr 51)), some (.inl a1), some (.inl a2), some (.inl a3), some (.inl 0), none] dX10_stretchOf_1 (Nat.le_of_ble_eq_true rfl) rfl rfl (show ck_i 0 by decide) (ck_iconst 4 rfl dX10_stretchOf_3 rfl (ck_istore 6 rfl [some (.inr (.inr 51)), some (.inl a1), some (.inl a2), some (.inl a3), some (.inl 0), some (.inl 0)] dX10_stretchOf_4 (Nat.le_of_ble_eq_true rfl) rfl rfl (show ck_i 0 by decide) h))))))
set_option maxRecDepth 8000 in
theorem r_X10_stretchOf_6 {g : ch_G} {A R : Nat} (hC : ck_Cx g A R) {d : Nat} {K : Option ck_V → ck_W → Prop} {w : ck_W} {a1 a2 a3 a4 a5 : Int} (h : (6 ≤ a5 → K (some (.inl a4)) w) ∧ (¬ 6 ≤ a5 → (0 ≤ a5 ∧ a5 < 6) ∧ (((w 6 a5) < a1 → ck_i (a5 + 1) ∧ (ck_At (ch_C g A R) (d + 1) mX10_stretchOf K 6 [some (.inr (.inr 51)), some (.inl a1), some (.inl a2), some (.inl a3), some (.inl a4), some (.inl (a5 + 1))] [] w)) ∧ (¬ (w 6 a5) < a1 → ck_CI (ch_C g A R) d mX10_radiusAt [.inr (.inr 51), .inl a5, .inl a2] w (fun v5 w4 => ck_i ((v5 + 1) - a3) ∧ ((-2147483647 ≤ ((v5 + 1) - a3)) ∧ (∀ x11, x11 = a4 + (max ((v5 + 1) - a3) (-((v5 + 1) - a3))) → ck_i x11 ∧ (ck_i (a5 + 1) ∧ (ck_At (ch_C g A R) (d + 1) mX10_stretchOf K 6 [some (.inr (.inr 51)), some (.inl a1), some (.inl a2), some (.inl a3), some (.inl x11), some (.inl (a5 + 1))] [] w4))))))))) : ck_At (ch_C g A R) (d + 1) mX10_stretchOf K 6 [some (.inr (.inr 51)), some (.inl a1), some (.inl a2), some (.inl a3), some (.inl a4), some (.inl a5)] [] w :=
  ck_in (fun hl => (ck_iload 8 rfl dX10_stretchOf_6 rfl (ck_bipush 10 rfl dX10_stretchOf_8 rfl (ck_icmp_ge 13 rfl 52 dX10_stretchOf_10 rfl hl.2.2.2.2.2.1 (show ck_i 6 by decide) (fun c17 => (ck_iload 54 rfl dX10_stretchOf_52 rfl (ck_iret dX10_stretchOf_54 rfl hl.2.2.2.2.1 (h.1 c17)))) (fun c18 => (ck_aload_n 14 rfl 0 dX10_stretchOf_13 rfl rfl (ck_getr 17 rfl dX10_stretchOf_14 fl_X10_28 sh_51 rfl (ck_getr 20 rfl dX10_stretchOf_17 fl_X10_108 sh_3 rfl (ck_iload 22 rfl dX10_stretchOf_20 rfl (have h20 := (h.2 c18); have o1 := h20.1; have h19 := h20.2; (ck_iald 23 rfl dX10_stretchOf_22 sh_6 (shn_6 hC) o1 _ rfl (fun (q2 : ck_i (w 6 a5)) => (ck_iload_n 24 rfl 1 dX10_stretchOf_23 rfl rfl (ck_icmp_lt 27 rfl 46 dX10_stretchOf_24 rfl q2 hl.2.1 (fun c15 => (have h22 := (h19.1 c15); have o3 := h22.1; have h21 := h22.2; (ck_iinc 49 rfl [some (.inr (.inr 51)), some (.inl a1), some (.inl a2), some (.inl a3), some (.inl a4), some (.inl (a5 + 1))] dX10_stretchOf_46 rfl (Nat.le_of_ble_eq_true rfl) rfl rfl o3 (ck_goto 6 dX10_stretchOf_49 rfl h21)))) (fun c16 => (ck_iload 29 rfl dX10_stretchOf_27 rfl (ck_aload_n 30 rfl 0 dX10_stretchOf_29 rfl rfl (ck_iload 32 rfl dX10_stretchOf_30 rfl (ck_iload_n 33 rfl 2 dX10_stretchOf_32 rfl rfl (ck_callV 36 rfl [.inl a5, .inl a2] [.inl a4] dX10_stretchOf_33 cv_X10_178 sh_51 rfl rfl (Nat.le_of_ble_eq_true rfl) (And.intro hl.2.2.2.2.2.1 (And.intro hl.2.2.1 True.intro)) (ck_mI (h19.2 c16) (fun v5 w4 q6 h7 => (ck_iconst 37 rfl dX10_stretchOf_36 rfl (ck_iadd 38 rfl dX10_stretchOf_37 (ck_iload_n 39 rfl 3 dX10_stretchOf_38 rfl rfl (ck_isub 40 rfl dX10_stretchOf_39 (have h24 := h7; have o8 := h24.1; have h23 := h24.2; (have h26 := h23; have o9 := h26.1; have h25 := h26.2; (ck_callS 43 rfl [.inl ((v5 + 1) - a3)] [.inl a4] dX10_stretchOf_40 cs_X10_184 rfl rfl (Nat.le_of_ble_eq_true rfl) (And.intro o8 True.intro) (p_J9_abs_0f7a4 hC o9 (fun q10 => (ck_iadd 44 rfl dX10_stretchOf_43 (ck_nmi (fun x11 e12 => (have h28 := (h25 x11 e12); have o13 := h28.1; have h27 := h28.2; (ck_istore 46 rfl [some (.inr (.inr 51)), some (.inl a1), some (.inl a2), some (.inl a3), some (.inl x11), some (.inl a5)] dX10_stretchOf_44 (Nat.le_of_ble_eq_true rfl) rfl rfl o13 (have h30 := h27; have o14 := h30.1; have h29 := h30.2; (ck_iinc 49 rfl [some (.inr (.inr 51)), some (.inl a1), some (.inl a2), some (.inl a3), some (.inl x11), some (.inl (a5 + 1))] dX10_stretchOf_46 rfl (Nat.le_of_ble_eq_true rfl) rfl rfl o14 (ck_goto 6 dX10_stretchOf_49 rfl h29)))))))))))))))))))))))))))))))))))))))
theorem p_X10_stretchOf {g : ch_G} {A R : Nat} (hC : ck_Cx g A R) {d : Nat} {K : Option ck_V → ck_W → Prop} {w : ck_W} {a1 a2 a3 : Int} (hf : ∀ j, 0 ≤ j → j < 144 → 0 ≤ w 62 j ∧ w 62 j < (R : Int)) (h2 : 0 ≤ a2 ∧ a2 < 24) (h3 : 0 ≤ a3 ∧ a3 ≤ 12) (h : K (some (.inl (cs_sr (w 6) (w 62) a1 a2 a3 6 0 0))) w) : ck_Ex (ch_C g A R) (d + 1) mX10_stretchOf [.inr (.inr 51), .inl a1, .inl a2, .inl a3] w K := by
  have c := cs_ar hC
  have lp : ∀ (n : Nat) (a4 a5 : Int), 6 - a5 = n → 0 ≤ a5 → (0 ≤ a4 ∧ a4 ≤ 12 * a5) → K (some (.inl (cs_sr (w 6) (w 62) a1 a2 a3 n a5 a4))) w → ck_At (ch_C g A R) (d + 1) mX10_stretchOf K 6 [some (.inr (.inr 51)), some (.inl a1), some (.inl a2), some (.inl a3), some (.inl a4), some (.inl a5)] [] w := by
    intro n
    induction n with
    | zero =>
      intro a4 a5 g1 g2 g3 h
      rw [cs_sr] at h
      exact r_X10_stretchOf_6 hC ⟨fun _ => h, fun q => absurd (by omega) q⟩
    | succ n ih =>
      intro a4 a5 g1 g2 g3 h
      rw [cs_sr] at h
      have b := hf (a5 * 24 + a2) (by omega) (by omega)
      refine r_X10_stretchOf_6 hC ⟨fun q => absurd q (by omega), fun _ => ⟨by omega, fun q => ⟨by constructor <;> omega, ih a4 (a5 + 1) (by omega) (by omega) (by omega) (by rw [if_pos q] at h; exact h)⟩, fun q => p_X10_radiusAt hC (fun _ => ⟨_, rfl, fun _ => ⟨by constructor <;> omega, by omega, fun x11 e11 => ?_⟩⟩) (fun no => absurd ⟨⟨by omega, by omega⟩, h2⟩ no)⟩⟩
      rw [if_neg q, ← e11] at h
      exact ⟨by constructor <;> omega, by constructor <;> omega, ih x11 (a5 + 1) (by omega) (by omega) (by omega) h⟩
  exact e_X10_stretchOf hC (lp 6 0 0 (by omega) (by omega) (by omega) h)
theorem dX10_widthAt_0 : decode cX10_widthAt 0 = .ok (.iconst 0, 1) := dk_3 (by decide +kernel)
theorem dX10_widthAt_1 : decode cX10_widthAt 1 = .ok (.istore_n 3, 1) := dk_62 (by decide +kernel)
theorem dX10_widthAt_2 : decode cX10_widthAt 2 = .ok (.iconst 0, 1) := dk_3 (by decide +kernel)
theorem dX10_widthAt_3 : decode cX10_widthAt 3 = .ok (.istore 4, 2) := dk_54 (by decide +kernel)
theorem dX10_widthAt_5 : decode cX10_widthAt 5 = .ok (.iconst 0, 1) := dk_3 (by decide +kernel)
theorem dX10_widthAt_6 : decode cX10_widthAt 6 = .ok (.istore 5, 2) := dk_54 (by decide +kernel)
theorem dX10_widthAt_8 : decode cX10_widthAt 8 = .ok (.iload 5, 2) := dk_21 (by decide +kernel)
theorem dX10_widthAt_10 : decode cX10_widthAt 10 = .ok (.bipush 6, 2) := dk_16 6 (by decide +kernel)
theorem dX10_widthAt_12 : decode cX10_widthAt 12 = .ok (.if_icmp .ge 75, 3) := dk_162 0 75 (by decide +kernel)
theorem dX10_widthAt_15 : decode cX10_widthAt 15 = .ok (.aload_n 0, 1) := dk_42 (by decide +kernel)
theorem dX10_widthAt_16 : decode cX10_widthAt 16 = .ok (.getfield 28, 3) := dk_180 0 28 (by decide +kernel)
theorem dX10_widthAt_19 : decode cX10_widthAt 19 = .ok (.getfield 108, 3) := dk_180 0 108 (by decide +kernel)
theorem dX10_widthAt_22 : decode cX10_widthAt 22 = .ok (.iload 5, 2) := dk_21 (by decide +kernel)
theorem dX10_widthAt_24 : decode cX10_widthAt 24 = .ok (.iaload, 1) := dk_46 (by decide +kernel)
theorem dX10_widthAt_25 : decode cX10_widthAt 25 = .ok (.iload_n 1, 1) := dk_27 (by decide +kernel)
theorem dX10_widthAt_26 : decode cX10_widthAt 26 = .ok (.if_icmp .lt 55, 3) := dk_161 0 55 (by decide +kernel)
theorem dX10_widthAt_29 : decode cX10_widthAt 29 = .ok (.aload_n 0, 1) := dk_42 (by decide +kernel)
theorem dX10_widthAt_30 : decode cX10_widthAt 30 = .ok (.iload 5, 2) := dk_21 (by decide +kernel)
theorem dX10_widthAt_32 : decode cX10_widthAt 32 = .ok (.iload_n 2, 1) := dk_28 (by decide +kernel)
theorem dX10_widthAt_33 : decode cX10_widthAt 33 = .ok (.invokevirtual 178, 3) := dk_182 0 178 (by decide +kernel)
theorem dX10_widthAt_36 : decode cX10_widthAt 36 = .ok (.iconst 1, 1) := dk_4 (by decide +kernel)
theorem dX10_widthAt_37 : decode cX10_widthAt 37 = .ok (.iadd, 1) := dk_96 (by decide +kernel)
theorem dX10_widthAt_38 : decode cX10_widthAt 38 = .ok (.istore 6, 2) := dk_54 (by decide +kernel)
theorem dX10_widthAt_40 : decode cX10_widthAt 40 = .ok (.aload_n 0, 1) := dk_42 (by decide +kernel)
theorem dX10_widthAt_41 : decode cX10_widthAt 41 = .ok (.iload_n 1, 1) := dk_27 (by decide +kernel)
theorem dX10_widthAt_42 : decode cX10_widthAt 42 = .ok (.iload_n 2, 1) := dk_28 (by decide +kernel)
theorem dX10_widthAt_43 : decode cX10_widthAt 43 = .ok (.iload 6, 2) := dk_21 (by decide +kernel)
theorem dX10_widthAt_45 : decode cX10_widthAt 45 = .ok (.invokevirtual 181, 3) := dk_182 0 181 (by decide +kernel)
theorem dX10_widthAt_48 : decode cX10_widthAt 48 = .ok (.istore 7, 2) := dk_54 (by decide +kernel)
theorem dX10_widthAt_50 : decode cX10_widthAt 50 = .ok (.iload_n 3, 1) := dk_29 (by decide +kernel)
theorem dX10_widthAt_51 : decode cX10_widthAt 51 = .ok (.ifCond .eq 23, 3) := dk_153 0 23 (by decide +kernel)
theorem dX10_widthAt_54 : decode cX10_widthAt 54 = .ok (.iload 7, 2) := dk_21 (by decide +kernel)
theorem dX10_widthAt_56 : decode cX10_widthAt 56 = .ok (.iload 4, 2) := dk_21 (by decide +kernel)
theorem dX10_widthAt_58 : decode cX10_widthAt 58 = .ok (.if_icmp .lt 16, 3) := dk_161 0 16 (by decide +kernel)
theorem dX10_widthAt_61 : decode cX10_widthAt 61 = .ok (.iload 7, 2) := dk_21 (by decide +kernel)
theorem dX10_widthAt_63 : decode cX10_widthAt 63 = .ok (.iload 4, 2) := dk_21 (by decide +kernel)
theorem dX10_widthAt_65 : decode cX10_widthAt 65 = .ok (.if_icmp .ne 16, 3) := dk_160 0 16 (by decide +kernel)
theorem dX10_widthAt_68 : decode cX10_widthAt 68 = .ok (.iload 6, 2) := dk_21 (by decide +kernel)
theorem dX10_widthAt_70 : decode cX10_widthAt 70 = .ok (.iload_n 3, 1) := dk_29 (by decide +kernel)
theorem dX10_widthAt_71 : decode cX10_widthAt 71 = .ok (.if_icmp .ge 10, 3) := dk_162 0 10 (by decide +kernel)
theorem dX10_widthAt_74 : decode cX10_widthAt 74 = .ok (.iload 6, 2) := dk_21 (by decide +kernel)
theorem dX10_widthAt_76 : decode cX10_widthAt 76 = .ok (.istore_n 3, 1) := dk_62 (by decide +kernel)
theorem dX10_widthAt_77 : decode cX10_widthAt 77 = .ok (.iload 7, 2) := dk_21 (by decide +kernel)
theorem dX10_widthAt_79 : decode cX10_widthAt 79 = .ok (.istore 4, 2) := dk_54 (by decide +kernel)
theorem dX10_widthAt_81 : decode cX10_widthAt 81 = .ok (.iinc 5 1, 3) := dk_132 1 (by decide +kernel)
theorem dX10_widthAt_84 : decode cX10_widthAt 84 = .ok (.goto (-76), 3) := dk_167 255 180 (by decide +kernel)
theorem dX10_widthAt_87 : decode cX10_widthAt 87 = .ok (.iload_n 3, 1) := dk_29 (by decide +kernel)
theorem dX10_widthAt_88 : decode cX10_widthAt 88 = .ok (.ireturn, 1) := dk_172 (by decide +kernel)
set_option maxRecDepth 8000 in
theorem e_X10_widthAt {g : ch_G} {A R : Nat} (hC : ck_Cx g A R) {d : Nat} {K : Option ck_V → ck_W → Prop} {w : ck_W} {a1 a2 : Int} (h : ck_At (ch_C g A R) (d + 1) mX10_widthAt K 8 [some (.inr (.inr 51)), some (.inl a1), some (.inl a2), some (.inl 0), some (.inl 0), some (.inl 0), none, none] [] w) : ck_Ex (ch_C g A R) (d + 1) mX10_widthAt [.inr (.inr 51), .inl a1, .inl a2] w K :=
  ck_entry hC.1 [some (.inr (.inr 51)), some (.inl a1), some (.inl a2), none, none, none, none, none] (by decide) (Nat.le_of_ble_eq_true rfl) rfl (fun q => q) (ck_in (fun hl => (ck_iconst 1 rfl dX10_widthAt_0 rfl (ck_istore_n 2 rfl 3 [some (.inr (.inr 51)), some (.inl a1), some (.inl a2), some (.inl 0), none, none, none, none] dX10_widthAt_1 rfl (Nat.le_of_ble_eq_true rfl) rfl rfl (show ck_i 0 by decide) (ck_iconst 3 rfl dX10_widthAt_2 rfl (ck_istore 5 rfl [some (.inr (.inr 51)), some (.inl a1), some (.inl a2), some (.inl 0), some (.inl 0), none, none, none] dX10_widthAt_3 (Nat.le_of_ble_eq_true rfl) rfl rfl (show ck_i 0 by decide) (ck_iconst 6 rfl dX10_widthAt_5 rfl (ck_istore 8 rfl [some (.inr (.inr 51)), some (.inl a1), some (.inl a2), some (.inl 0), some (.inl 0), some (.inl 0), none, none] dX10_widthAt_6 (Nat.le_of_ble_eq_true rfl) rfl rfl (show ck_i 0 by decide) h))))))))
set_option maxRecDepth 8000 in
theorem r_X10_widthAt_8 {g : ch_G} {A R : Nat} (hC : ck_Cx g A R) {d : Nat} {K : Option ck_V → ck_W → Prop} {w : ck_W} {a1 a2 a3 a4 a5 : Int} (h : (6 ≤ a5 → K (some (.inl a3)) w) ∧ (¬ 6 ≤ a5 → (0 ≤ a5 ∧ a5 < 6) ∧ (((w 6 a5) < a1 → ck_i (a5 + 1) ∧ (ck_At (ch_C g A R) (d + 1) mX10_widthAt K 8 [some (.inr (.inr 51)), some (.inl a1), some (.inl a2), some (.inl a3), some (.inl a4), some (.inl (a5 + 1)), none, none] [] w)) ∧ (¬ (w 6 a5) < a1 → ck_CI (ch_C g A R) d mX10_radiusAt [.inr (.inr 51), .inl a5, .inl a2] w (fun v5 w4 => ck_i (v5 + 1) ∧ (ck_CI (ch_C g A R) d mX10_stretchOf [.inr (.inr 51), .inl a1, .inl a2, .inl (v5 + 1)] w4 (fun v10 w9 => (a3 = 0 → ck_i (a5 + 1) ∧ (ck_At (ch_C g A R) (d + 1) mX10_widthAt K 8 [some (.inr (.inr 51)), some (.inl a1), some (.inl a2), some (.inl (v5 + 1)), some (.inl v10), some (.inl (a5 + 1)), none, none] [] w9)) ∧ (¬ a3 = 0 → (v10 < a4 → ck_i (a5 + 1) ∧ (ck_At (ch_C g A R) (d + 1) mX10_widthAt K 8 [some (.inr (.inr 51)), some (.inl a1), some (.inl a2), some (.inl (v5 + 1)), some (.inl v10), some (.inl (a5 + 1)), none, none] [] w9)) ∧ (¬ v10 < a4 → (¬ v10 = a4 → ck_i (a5 + 1) ∧ (ck_At (ch_C g A R) (d + 1) mX10_widthAt K 8 [some (.inr (.inr 51)), some (.inl a1), some (.inl a2), some (.inl a3), some (.inl a4), some (.inl (a5 + 1)), none, none] [] w9)) ∧ (v10 = a4 → (a3 ≤ (v5 + 1) → ck_i (a5 + 1) ∧ (ck_At (ch_C g A R) (d + 1) mX10_widthAt K 8 [some (.inr (.inr 51)), some (.inl a1), some (.inl a2), some (.inl a3), some (.inl a4), some (.inl (a5 + 1)), none, none] [] w9)) ∧ (¬ a3 ≤ (v5 + 1) → ck_i (a5 + 1) ∧ (ck_At (ch_C g A R) (d + 1) mX10_widthAt K 8 [some (.inr (.inr 51)), some (.inl a1), some (.inl a2), some (.inl (v5 + 1)), some (.inl v10), some (.inl (a5 + 1)), none, none] [] w9)))))))))))) : ck_At (ch_C g A R) (d + 1) mX10_widthAt K 8 [some (.inr (.inr 51)), some (.inl a1), some (.inl a2), some (.inl a3), some (.inl a4), some (.inl a5), none, none] [] w :=
  ck_in (fun hl => (ck_iload 10 rfl dX10_widthAt_8 rfl (ck_bipush 12 rfl dX10_widthAt_10 rfl (ck_icmp_ge 15 rfl 87 dX10_widthAt_12 rfl hl.2.2.2.2.2.1 (show ck_i 6 by decide) (fun c28 => (ck_iload_n 88 rfl 3 dX10_widthAt_87 rfl rfl (ck_iret dX10_widthAt_88 rfl hl.2.2.2.1 (h.1 c28)))) (fun c29 => (ck_aload_n 16 rfl 0 dX10_widthAt_15 rfl rfl (ck_getr 19 rfl dX10_widthAt_16 fl_X10_28 sh_51 rfl (ck_getr 22 rfl dX10_widthAt_19 fl_X10_108 sh_3 rfl (ck_iload 24 rfl dX10_widthAt_22 rfl (have h31 := (h.2 c29); have o1 := h31.1; have h30 := h31.2; (ck_iald 25 rfl dX10_widthAt_24 sh_6 (shn_6 hC) o1 _ rfl (fun (q2 : ck_i (w 6 a5)) => (ck_iload_n 26 rfl 1 dX10_widthAt_25 rfl rfl (ck_icmp_lt 29 rfl 81 dX10_widthAt_26 rfl q2 hl.2.1 (fun c26 => (have h33 := (h30.1 c26); have o3 := h33.1; have h32 := h33.2; (ck_iinc 84 rfl [some (.inr (.inr 51)), some (.inl a1), some (.inl a2), some (.inl a3), some (.inl a4), some (.inl (a5 + 1)), none, none] dX10_widthAt_81 rfl (Nat.le_of_ble_eq_true rfl) rfl rfl o3 (ck_goto 8 dX10_widthAt_84 rfl h32)))) (fun c27 => (ck_aload_n 30 rfl 0 dX10_widthAt_29 rfl rfl (ck_iload 32 rfl dX10_widthAt_30 rfl (ck_iload_n 33 rfl 2 dX10_widthAt_32 rfl rfl (ck_callV 36 rfl [.inl a5, .inl a2] [] dX10_widthAt_33 cv_X10_178 sh_51 rfl rfl (Nat.le_of_ble_eq_true rfl) (And.intro hl.2.2.2.2.2.1 (And.intro hl.2.2.1 True.intro)) (ck_mI (h30.2 c27) (fun v5 w4 q6 h7 => (ck_iconst 37 rfl dX10_widthAt_36 rfl (ck_iadd 38 rfl dX10_widthAt_37 (have h35 := h7; have o8 := h35.1; have h34 := h35.2; (ck_istore 40 rfl [some (.inr (.inr 51)), some (.inl a1), some (.inl a2), some (.inl a3), some (.inl a4), some (.inl a5), some (.inl (v5 + 1)), none] dX10_widthAt_38 (Nat.le_of_ble_eq_true rfl) rfl rfl o8 (ck_aload_n 41 rfl 0 dX10_widthAt_40 rfl rfl (ck_iload_n 42 rfl 1 dX10_widthAt_41 rfl rfl (ck_iload_n 43 rfl 2 dX10_widthAt_42 rfl rfl (ck_iload 45 rfl dX10_widthAt_43 rfl (ck_callV 48 rfl [.inl a1, .inl a2, .inl (v5 + 1)] [] dX10_widthAt_45 cv_X10_181 sh_51 rfl rfl (Nat.le_of_ble_eq_true rfl) (And.intro hl.2.1 (And.intro hl.2.2.1 (And.intro o8 True.intro))) (ck_mI h34 (fun v10 w9 q11 h12 => (ck_istore 50 rfl [some (.inr (.inr 51)), some (.inl a1), some (.inl a2), some (.inl a3), some (.inl a4), some (.inl a5), some (.inl (v5 + 1)), some (.inl v10)] dX10_widthAt_48 (Nat.le_of_ble_eq_true rfl) rfl rfl q11 (ck_iload_n 51 rfl 3 dX10_widthAt_50 rfl rfl (ck_if_eq 54 rfl 74 dX10_widthAt_51 rfl hl.2.2.2.1 (fun c24 => (ck_iload 76 rfl dX10_widthAt_74 rfl (ck_istore_n 77 rfl 3 [some (.inr (.inr 51)), some (.inl a1), some (.inl a2), some (.inl (v5 + 1)), some (.inl a4), some (.inl a5), some (.inl (v5 + 1)), some (.inl v10)] dX10_widthAt_76 rfl (Nat.le_of_ble_eq_true rfl) rfl rfl o8 (ck_iload 79 rfl dX10_widthAt_77 rfl (ck_istore 81 rfl [some (.inr (.inr 51)), some (.inl a1), some (.inl a2), some (.inl (v5 + 1)), some (.inl v10), some (.inl a5), some (.inl (v5 + 1)), some (.inl v10)] dX10_widthAt_79 (Nat.le_of_ble_eq_true rfl) rfl rfl q11 (have h37 := (h12.1 c24); have o13 := h37.1; have h36 := h37.2; (ck_iinc 84 rfl [some (.inr (.inr 51)), some (.inl a1), some (.inl a2), some (.inl (v5 + 1)), some (.inl v10), some (.inl (a5 + 1)), some (.inl (v5 + 1)), some (.inl v10)] dX10_widthAt_81 rfl (Nat.le_of_ble_eq_true rfl) rfl rfl o13 (ck_goto 8 dX10_widthAt_84 rfl (ck_drop [some (.inr (.inr 51)), some (.inl a1), some (.inl a2), some (.inl (v5 + 1)), some (.inl v10), some (.inl (a5 + 1)), none, none] (And.intro rfl (And.intro rfl (And.intro rfl (And.intro rfl (And.intro rfl (And.intro rfl True.intro)))))) h36))))))))) (fun c25 => (ck_iload 56 rfl dX10_widthAt_54 rfl (ck_iload 58 rfl dX10_widthAt_56 rfl (have h38 := (h12.2 c25); (ck_icmp_lt 61 rfl 74 dX10_widthAt_58 rfl q11 hl.2.2.2.2.1 (fun c22 => (ck_iload 76 rfl dX10_widthAt_74 rfl (ck_istore_n 77 rfl 3 [some (.inr (.inr 51)), some (.inl a1), some (.inl a2), some (.inl (v5 + 1)), some (.inl a4), some (.inl a5), some (.inl (v5 + 1)), some (.inl v10)] dX10_widthAt_76 rfl (Nat.le_of_ble_eq_true rfl) rfl rfl o8 (ck_iload 79 rfl dX10_widthAt_77 rfl (ck_istore 81 rfl [some (.inr (.inr 51)), some (.inl a1), some (.inl a2), some (.inl (v5 + 1)), some (.inl v10), some (.inl a5), some (.inl (v5 + 1)), some (.inl v10)] dX10_widthAt_79 (Nat.le_of_ble_eq_true rfl) rfl rfl q11 (have h40 := (h38.1 c22); have o14 := h40.1; have h39 := h40.2; (ck_iinc 84 rfl [some (.inr (.inr 51)), some (.inl a1), some (.inl a2), some (.inl (v5 + 1)), some (.inl v10), some (.inl (a5 + 1)), some (.inl (v5 + 1)), some (.inl v10)] dX10_widthAt_81 rfl (Nat.le_of_ble_eq_true rfl) rfl rfl o14 (ck_goto 8 dX10_widthAt_84 rfl (ck_drop [some (.inr (.inr 51)), some (.inl a1), some (.inl a2), some (.inl (v5 + 1)), some (.inl v10), some (.inl (a5 + 1)), none, none] (And.intro rfl (And.intro rfl (And.intro rfl (And.intro rfl (And.intro rfl (And.intro rfl True.intro)))))) h39))))))))) (fun c23 => (ck_iload 63 rfl dX10_widthAt_61 rfl (ck_iload 65 rfl dX10_widthAt_63 rfl (have h41 := (h38.2 c23); (ck_icmp_ne 68 rfl 81 dX10_widthAt_65 rfl q11 hl.2.2.2.2.1 (fun c20 => (have h43 := (h41.1 c20); have o15 := h43.1; have h42 := h43.2; (ck_iinc 84 rfl [some (.inr (.inr 51)), some (.inl a1), some (.inl a2), some (.inl a3), some (.inl a4), some (.inl (a5 + 1)), some (.inl (v5 + 1)), some (.inl v10)] dX10_widthAt_81 rfl (Nat.le_of_ble_eq_true rfl) rfl rfl o15 (ck_goto 8 dX10_widthAt_84 rfl (ck_drop [some (.inr (.inr 51)), some (.inl a1), some (.inl a2), some (.inl a3), some (.inl a4), some (.inl (a5 + 1)), none, none] (And.intro rfl (And.intro rfl (And.intro rfl (And.intro rfl (And.intro rfl (And.intro rfl True.intro)))))) h42))))) (fun c21 => (ck_iload 70 rfl dX10_widthAt_68 rfl (ck_iload_n 71 rfl 3 dX10_widthAt_70 rfl rfl (have h44 := (h41.2 c21); (ck_icmp_ge 74 rfl 81 dX10_widthAt_71 rfl o8 hl.2.2.2.1 (fun c18 => (have h46 := (h44.1 c18); have o16 := h46.1; have h45 := h46.2; (ck_iinc 84 rfl [some (.inr (.inr 51)), some (.inl a1), some (.inl a2), some (.inl a3), some (.inl a4), some (.inl (a5 + 1)), some (.inl (v5 + 1)), some (.inl v10)] dX10_widthAt_81 rfl (Nat.le_of_ble_eq_true rfl) rfl rfl o16 (ck_goto 8 dX10_widthAt_84 rfl (ck_drop [some (.inr (.inr 51)), some (.inl a1), some (.inl a2), some (.inl a3), some (.inl a4), some (.inl (a5 + 1)), none, none] (And.intro rfl (And.intro rfl (And.intro rfl (And.intro rfl (And.intro rfl (And.intro rfl True.intro)))))) h45))))) (fun c19 => (ck_iload 76 rfl dX10_widthAt_74 rfl (ck_istore_n 77 rfl 3 [some (.inr (.inr 51)), some (.inl a1), some (.inl a2), some (.inl (v5 + 1)), some (.inl a4), some (.inl a5), some (.inl (v5 + 1)), some (.inl v10)] dX10_widthAt_76 rfl (Nat.le_of_ble_eq_true rfl) rfl rfl o8 (ck_iload 79 rfl dX10_widthAt_77 rfl (ck_istore 81 rfl [some (.inr (.inr 51)), some (.inl a1), some (.inl a2), some (.inl (v5 + 1)), some (.inl v10), some (.inl a5), some (.inl (v5 + 1)), some (.inl v10)] dX10_widthAt_79 (Nat.le_of_ble_eq_true rfl) rfl rfl q11 (have h48 := (h44.2 c19); have o17 := h48.1; have h47 := h48.2; (ck_iinc 84 rfl [some (.inr (.inr 51)), some (.inl a1), some (.inl a2), some (.inl (v5 + 1)), some (.inl v10), some (.inl (a5 + 1)), some (.inl (v5 + 1)), some (.inl v10)] dX10_widthAt_81 rfl (Nat.le_of_ble_eq_true rfl) rfl rfl o17 (ck_goto 8 dX10_widthAt_84 rfl (ck_drop [some (.inr (.inr 51)), some (.inl a1), some (.inl a2), some (.inl (v5 + 1)), some (.inl v10), some (.inl (a5 + 1)), none, none] (And.intro rfl (And.intro rfl (And.intro rfl (And.intro rfl (And.intro rfl (And.intro rfl True.intro)))))) h47)))))))))))))))))))))))))))))))))))))))))))))))))))))))))))
theorem p_X10_widthAt {g : ch_G} {A R : Nat} (hC : ck_Cx g A R) {d : Nat} {K : Option ck_V → ck_W → Prop} {w : ck_W} {a1 a2 : Int} (hf : ∀ j, 0 ≤ j → j < 144 → 0 ≤ w 62 j ∧ w 62 j < (R : Int)) (h2 : 0 ≤ a2 ∧ a2 < 24) (h : K (some (.inl (cs_wd (w 6) (w 62) a1 a2 6 0 (0, 0)).1)) w) : ck_Ex (ch_C g A R) (d + 2) mX10_widthAt [.inr (.inr 51), .inl a1, .inl a2] w K := by
  have c := cs_ar hC
  have lp : ∀ (n : Nat) (s : Int × Int) (a5 : Int), 6 - a5 = n → 0 ≤ a5 → K (some (.inl (cs_wd (w 6) (w 62) a1 a2 n a5 s).1)) w → ck_At (ch_C g A R) (d + 2) mX10_widthAt K 8 [some (.inr (.inr 51)), some (.inl a1), some (.inl a2), some (.inl s.1), some (.inl s.2), some (.inl a5), none, none] [] w := by
    intro n
    induction n with
    | zero =>
      intro s a5 g1 g2 h
      rw [cs_wd] at h
      exact r_X10_widthAt_8 hC ⟨fun _ => h, fun q => absurd (by omega) q⟩
    | succ n ih =>
      intro s a5 g1 g2 h
      rw [cs_wd] at h
      have b := hf (a5 * 24 + a2) (by omega) (by omega)
      have go : ∀ s', K (some (.inl (cs_wd (w 6) (w 62) a1 a2 n (a5 + 1) s').1)) w → ck_At (ch_C g A R) (d + 2) mX10_widthAt K 8 [some (.inr (.inr 51)), some (.inl a1), some (.inl a2), some (.inl s'.1), some (.inl s'.2), some (.inl (a5 + 1)), none, none] [] w := fun s' k => ih s' (a5 + 1) (by omega) (by omega) k
      refine r_X10_widthAt_8 hC ⟨fun q => absurd q (by omega), fun _ => ⟨by omega, fun q => ⟨by constructor <;> omega, go s (by rw [if_pos q] at h; exact h)⟩, fun q => p_X10_radiusAt hC (fun _ => ⟨_, rfl, fun _ => ⟨by constructor <;> omega, p_X10_stretchOf hC hf h2 (by omega) ⟨_, rfl, fun _ => ?_⟩⟩⟩) (fun no => absurd ⟨⟨by omega, by omega⟩, h2⟩ no)⟩⟩
      rw [if_neg q] at h
      refine ⟨fun z => ⟨by constructor <;> omega, go (_, _) (by rw [if_pos z] at h; exact h)⟩, fun z => ?_⟩
      rw [if_neg z] at h
      refine ⟨fun z1 => ⟨by constructor <;> omega, go (_, _) (by rw [if_pos z1] at h; exact h)⟩, fun z1 => ?_⟩
      rw [if_neg z1] at h
      refine ⟨fun z2 => ⟨by constructor <;> omega, go s (by rw [if_pos z2] at h; exact h)⟩, fun z2 => ?_⟩
      rw [if_neg (fun y => y z2)] at h
      exact ⟨fun z3 => ⟨by constructor <;> omega, go s (by rw [if_pos z3] at h; exact h)⟩, fun z3 => ⟨by constructor <;> omega, go (_, _) (by rw [if_neg z3] at h; exact h)⟩⟩
  exact e_X10_widthAt hC (lp 6 (0, 0) 0 (by omega) (by omega) h)
theorem cs_wdb {R : Nat} {t f : Int → Int} {k p : Int} (hf : ∀ j, 0 ≤ j → j < 144 → 0 ≤ f j ∧ f j < (R : Int)) (hp : 0 ≤ p ∧ p < 24) : ∀ (n : Nat) (z : Int) (s : Int × Int), 0 ≤ z → z + n ≤ 6 → 0 ≤ s.1 ∧ s.1 ≤ (R : Int) → 0 ≤ (cs_wd t f k p n z s).1 ∧ (cs_wd t f k p n z s).1 ≤ (R : Int)
  | 0, z, s, h0, h1, h2 => by rw [cs_wd]; exact h2
  | n + 1, z, s, h0, h1, h2 => by
    rw [cs_wd]
    have b := hf (z * 24 + p) (by omega) (by omega)
    refine cs_wdb hf hp n (z + 1) _ (by omega) (by omega) ?_
    have y : 0 ≤ f (z * 24 + p) + 1 ∧ f (z * 24 + p) + 1 ≤ (R : Int) := by omega
    repeat' split
    all_goals first | exact h2 | exact y
theorem dX11_best_0 : decode cX11_best 0 = .ok (.aload_n 0, 1) := dk_42 (by decide +kernel)
theorem dX11_best_1 : decode cX11_best 1 = .ok (.getfield 30, 3) := dk_180 0 30 (by decide +kernel)
theorem dX11_best_4 : decode cX11_best 4 = .ok (.iload_n 1, 1) := dk_27 (by decide +kernel)
theorem dX11_best_5 : decode cX11_best 5 = .ok (.invokevirtual 120, 3) := dk_182 0 120 (by decide +kernel)
theorem dX11_best_8 : decode cX11_best 8 = .ok (.ifCond .ne 5, 3) := dk_154 0 5 (by decide +kernel)
theorem dX11_best_11 : decode cX11_best 11 = .ok (.iconst (-1), 1) := dk_2 (by decide +kernel)
theorem dX11_best_12 : decode cX11_best 12 = .ok (.ireturn, 1) := dk_172 (by decide +kernel)
theorem dX11_best_13 : decode cX11_best 13 = .ok (.iload_n 2, 1) := dk_28 (by decide +kernel)
theorem dX11_best_14 : decode cX11_best 14 = .ok (.ifCond .ne 13, 3) := dk_154 0 13 (by decide +kernel)
theorem dX11_best_17 : decode cX11_best 17 = .ok (.aload_n 0, 1) := dk_42 (by decide +kernel)
theorem dX11_best_18 : decode cX11_best 18 = .ok (.getfield 30, 3) := dk_180 0 30 (by decide +kernel)
theorem dX11_best_21 : decode cX11_best 21 = .ok (.getfield 124, 3) := dk_180 0 124 (by decide +kernel)
theorem dX11_best_24 : decode cX11_best 24 = .ok (.iload_n 1, 1) := dk_27 (by decide +kernel)
theorem dX11_best_25 : decode cX11_best 25 = .ok (.iaload, 1) := dk_46 (by decide +kernel)
theorem dX11_best_26 : decode cX11_best 26 = .ok (.ireturn, 1) := dk_172 (by decide +kernel)
theorem dX11_best_27 : decode cX11_best 27 = .ok (.iload_n 2, 1) := dk_28 (by decide +kernel)
theorem dX11_best_28 : decode cX11_best 28 = .ok (.iconst 1, 1) := dk_4 (by decide +kernel)
theorem dX11_best_29 : decode cX11_best 29 = .ok (.if_icmp .ne 13, 3) := dk_160 0 13 (by decide +kernel)
theorem dX11_best_32 : decode cX11_best 32 = .ok (.aload_n 0, 1) := dk_42 (by decide +kernel)
theorem dX11_best_33 : decode cX11_best 33 = .ok (.getfield 30, 3) := dk_180 0 30 (by decide +kernel)
theorem dX11_best_36 : decode cX11_best 36 = .ok (.getfield 127, 3) := dk_180 0 127 (by decide +kernel)
theorem dX11_best_39 : decode cX11_best 39 = .ok (.iload_n 1, 1) := dk_27 (by decide +kernel)
theorem dX11_best_40 : decode cX11_best 40 = .ok (.iaload, 1) := dk_46 (by decide +kernel)
theorem dX11_best_41 : decode cX11_best 41 = .ok (.ireturn, 1) := dk_172 (by decide +kernel)
theorem dX11_best_42 : decode cX11_best 42 = .ok (.aload_n 0, 1) := dk_42 (by decide +kernel)
theorem dX11_best_43 : decode cX11_best 43 = .ok (.getfield 14, 3) := dk_180 0 14 (by decide +kernel)
theorem dX11_best_46 : decode cX11_best 46 = .ok (.getfield 23, 3) := dk_180 0 23 (by decide +kernel)
theorem dX11_best_49 : decode cX11_best 49 = .ok (.iload_n 1, 1) := dk_27 (by decide +kernel)
theorem dX11_best_50 : decode cX11_best 50 = .ok (.iload_n 2, 1) := dk_28 (by decide +kernel)
theorem dX11_best_51 : decode cX11_best 51 = .ok (.bipush 100, 2) := dk_16 100 (by decide +kernel)
theorem dX11_best_53 : decode cX11_best 53 = .ok (.isub, 1) := dk_100 (by decide +kernel)
theorem dX11_best_54 : decode cX11_best 54 = .ok (.invokevirtual 130, 3) := dk_182 0 130 (by decide +kernel)
theorem dX11_best_57 : decode cX11_best 57 = .ok (.ifCond .eq 16, 3) := dk_153 0 16 (by decide +kernel)
theorem dX11_best_60 : decode cX11_best 60 = .ok (.aload_n 0, 1) := dk_42 (by decide +kernel)
theorem dX11_best_61 : decode cX11_best 61 = .ok (.getfield 30, 3) := dk_180 0 30 (by decide +kernel)
theorem dX11_best_64 : decode cX11_best 64 = .ok (.iload_n 1, 1) := dk_27 (by decide +kernel)
theorem dX11_best_65 : decode cX11_best 65 = .ok (.iload_n 2, 1) := dk_28 (by decide +kernel)
theorem dX11_best_66 : decode cX11_best 66 = .ok (.bipush 100, 2) := dk_16 100 (by decide +kernel)
theorem dX11_best_68 : decode cX11_best 68 = .ok (.isub, 1) := dk_100 (by decide +kernel)
theorem dX11_best_69 : decode cX11_best 69 = .ok (.invokevirtual 133, 3) := dk_182 0 133 (by decide +kernel)
theorem dX11_best_72 : decode cX11_best 72 = .ok (.ireturn, 1) := dk_172 (by decide +kernel)
theorem dX11_best_73 : decode cX11_best 73 = .ok (.aload_n 0, 1) := dk_42 (by decide +kernel)
theorem dX11_best_74 : decode cX11_best 74 = .ok (.getfield 14, 3) := dk_180 0 14 (by decide +kernel)
theorem dX11_best_77 : decode cX11_best 77 = .ok (.getfield 23, 3) := dk_180 0 23 (by decide +kernel)
theorem dX11_best_80 : decode cX11_best 80 = .ok (.iload_n 1, 1) := dk_27 (by decide +kernel)
theorem dX11_best_81 : decode cX11_best 81 = .ok (.iload_n 2, 1) := dk_28 (by decide +kernel)
theorem dX11_best_82 : decode cX11_best 82 = .ok (.sipush 200, 3) := dk_17 0 200 (by decide +kernel)
theorem dX11_best_85 : decode cX11_best 85 = .ok (.isub, 1) := dk_100 (by decide +kernel)
theorem dX11_best_86 : decode cX11_best 86 = .ok (.invokevirtual 130, 3) := dk_182 0 130 (by decide +kernel)
theorem dX11_best_89 : decode cX11_best 89 = .ok (.ifCond .eq 25, 3) := dk_153 0 25 (by decide +kernel)
theorem dX11_best_92 : decode cX11_best 92 = .ok (.aload_n 0, 1) := dk_42 (by decide +kernel)
theorem dX11_best_93 : decode cX11_best 93 = .ok (.getfield 30, 3) := dk_180 0 30 (by decide +kernel)
theorem dX11_best_96 : decode cX11_best 96 = .ok (.iload_n 1, 1) := dk_27 (by decide +kernel)
theorem dX11_best_97 : decode cX11_best 97 = .ok (.iload_n 2, 1) := dk_28 (by decide +kernel)
theorem dX11_best_98 : decode cX11_best 98 = .ok (.sipush 200, 3) := dk_17 0 200 (by decide +kernel)
theorem dX11_best_101 : decode cX11_best 101 = .ok (.isub, 1) := dk_100 (by decide +kernel)
theorem dX11_best_102 : decode cX11_best 102 = .ok (.invokevirtual 137, 3) := dk_182 0 137 (by decide +kernel)
theorem dX11_best_105 : decode cX11_best 105 = .ok (.ifCond .eq 7, 3) := dk_153 0 7 (by decide +kernel)
theorem dX11_best_108 : decode cX11_best 108 = .ok (.iconst 1, 1) := dk_4 (by decide +kernel)
theorem dX11_best_109 : decode cX11_best 109 = .ok (.goto 4, 3) := dk_167 0 4 (by decide +kernel)
theorem dX11_best_112 : decode cX11_best 112 = .ok (.iconst 0, 1) := dk_3 (by decide +kernel)
theorem dX11_best_113 : decode cX11_best 113 = .ok (.ireturn, 1) := dk_172 (by decide +kernel)
theorem dX11_best_114 : decode cX11_best 114 = .ok (.iconst (-1), 1) := dk_2 (by decide +kernel)
theorem dX11_best_115 : decode cX11_best 115 = .ok (.ireturn, 1) := dk_172 (by decide +kernel)
set_option maxRecDepth 8000 in
theorem e_X11_best {g : ch_G} {A R : Nat} (hC : ck_Cx g A R) {d : Nat} {K : Option ck_V → ck_W → Prop} {w : ck_W} {a1 a2 : Int} (h : ck_CI (ch_C g A R) d mX10_settle [.inr (.inr 51), .inl a1] w (fun v2 w1 => (¬ v2 = 0 → (¬ a2 = 0 → (¬ a2 = 1 → ck_CI (ch_C g A R) d mX5_hasPlace [.inr (.inr 3), .inl a1, .inl (ck_wr (a2 - 100))] w1 (fun v6 w5 => (v6 = 0 → ck_CI (ch_C g A R) d mX5_hasPlace [.inr (.inr 3), .inl a1, .inl (ck_wr (a2 - 200))] w5 (fun v10 w9 => (v10 = 0 → K (some (.inl (-1))) w9) ∧ (¬ v10 = 0 → ck_CI (ch_C g A R) d mX10_isSure [.inr (.inr 51), .inl a1, .inl (ck_wr (a2 - 200))] w9 (fun v14 w13 => (v14 = 0 → K (some (.inl 0)) w13) ∧ (¬ v14 = 0 → K (some (.inl 1)) w13))))) ∧ (¬ v6 = 0 → ck_CI (ch_C g A R) d mX10_radiusAt [.inr (.inr 51), .inl a1, .inl (ck_wr (a2 - 100))] w5 (fun v22 w21 => K (some (.inl v22)) w21)))) ∧ (a2 = 1 → (0 ≤ a1 ∧ a1 < 6) ∧ (K (some (.inl (w1 61 a1))) w1))) ∧ (a2 = 0 → (0 ≤ a1 ∧ a1 < 6) ∧ (K (some (.inl (w1 60 a1))) w1))) ∧ (v2 = 0 → K (some (.inl (-1))) w1))) : ck_Ex (ch_C g A R) (d + 1) mX11_best [.inr (.inr 0), .inl a1, .inl a2] w K :=
  ck_entry hC.1 [some (.inr (.inr 0)), some (.inl a1), some (.inl a2)] (by decide) (Nat.le_of_ble_eq_true rfl) rfl (fun q => q) (ck_in (fun hl => (ck_aload_n 1 rfl 0 dX11_best_0 rfl rfl (ck_getr 4 rfl dX11_best_1 fl_X11_30 sh_0 rfl (ck_iload_n 5 rfl 1 dX11_best_4 rfl rfl (ck_callV 8 rfl [.inl a1] [] dX11_best_5 cv_X11_120 sh_51 rfl rfl (Nat.le_of_ble_eq_true rfl) (And.intro hl.2.1 True.intro) (ck_mI h (fun v2 w1 q3 h4 => (ck_if_ne 11 rfl 13 dX11_best_8 rfl q3 (fun c35 => (ck_iload_n 14 rfl 2 dX11_best_13 rfl rfl (have h37 := (h4.1 c35); (ck_if_ne 17 rfl 27 dX11_best_14 rfl hl.2.2.1 (fun c33 => (ck_iload_n 28 rfl 2 dX11_best_27 rfl rfl (ck_iconst 29 rfl dX11_best_28 rfl (have h38 := (h37.1 c33); (ck_icmp_ne 32 rfl 42 dX11_best_29 rfl hl.2.2.1 (show ck_i 1 by decide) (fun c29 => (ck_aload_n 43 rfl 0 dX11_best_42 rfl rfl (ck_getr 46 rfl dX11_best_43 fl_X11_14 sh_0 rfl (ck_getr 49 rfl dX11_best_46 fl_X11_23 sh_1 rfl (ck_iload_n 50 rfl 1 dX11_best_49 rfl rfl (ck_iload_n 51 rfl 2 dX11_best_50 rfl rfl (ck_bipush 53 rfl dX11_best_51 rfl (ck_isub 54 rfl dX11_best_53 (ck_wrp (ck_callV 57 rfl [.inl a1, .inl (ck_wr (a2 - 100))] [] dX11_best_54 cv_X11_130 sh_3 rfl rfl (Nat.le_of_ble_eq_true rfl) (And.intro hl.2.1 (And.intro (ck_rng _) True.intro)) (ck_mI (h38.1 c29) (fun v6 w5 q7 h8 => (ck_if_eq 60 rfl 73 dX11_best_57 rfl q7 (fun c25 => (ck_aload_n 74 rfl 0 dX11_best_73 rfl rfl (ck_getr 77 rfl dX11_best_74 fl_X11_14 sh_0 rfl (ck_getr 80 rfl dX11_best_77 fl_X11_23 sh_1 rfl (ck_iload_n 81 rfl 1 dX11_best_80 rfl rfl (ck_iload_n 82 rfl 2 dX11_best_81 rfl rfl (ck_sipush 85 rfl dX11_best_82 rfl (ck_isub 86 rfl dX11_best_85 (ck_wrp (ck_callV 89 rfl [.inl a1, .inl (ck_wr (a2 - 200))] [] dX11_best_86 cv_X11_130 sh_3 rfl rfl (Nat.le_of_ble_eq_true rfl) (And.intro hl.2.1 (And.intro (ck_rng _) True.intro)) (ck_mI (h8.1 c25) (fun v10 w9 q11 h12 => (ck_if_eq 92 rfl 114 dX11_best_89 rfl q11 (fun c19 => (ck_iconst 115 rfl dX11_best_114 rfl (ck_iret dX11_best_115 rfl (show ck_i (-1) by decide) (h12.1 c19)))) (fun c20 => (ck_aload_n 93 rfl 0 dX11_best_92 rfl rfl (ck_getr 96 rfl dX11_best_93 fl_X11_30 sh_0 rfl (ck_iload_n 97 rfl 1 dX11_best_96 rfl rfl (ck_iload_n 98 rfl 2 dX11_best_97 rfl rfl (ck_sipush 101 rfl dX11_best_98 rfl (ck_isub 102 rfl dX11_best_101 (ck_wrp (ck_callV 105 rfl [.inl a1, .inl (ck_wr (a2 - 200))] [] dX11_best_102 cv_X11_137 sh_51 rfl rfl (Nat.le_of_ble_eq_true rfl) (And.intro hl.2.1 (And.intro (ck_rng _) True.intro)) (ck_mI (h12.2 c20) (fun v14 w13 q15 h16 => (ck_if_eq 108 rfl 112 dX11_best_105 rfl q15 (fun c17 => (ck_iconst 113 rfl dX11_best_112 rfl (ck_iret dX11_best_113 rfl (show ck_i 0 by decide) (h16.1 c17)))) (fun c18 => (ck_iconst 109 rfl dX11_best_108 rfl (ck_goto 113 dX11_best_109 rfl (ck_iret dX11_best_113 rfl (show ck_i 1 by decide) (h16.2 c18)))))))))))))))))))))))))))))) (fun c26 => (ck_aload_n 61 rfl 0 dX11_best_60 rfl rfl (ck_getr 64 rfl dX11_best_61 fl_X11_30 sh_0 rfl (ck_iload_n 65 rfl 1 dX11_best_64 rfl rfl (ck_iload_n 66 rfl 2 dX11_best_65 rfl rfl (ck_bipush 68 rfl dX11_best_66 rfl (ck_isub 69 rfl dX11_best_68 (ck_wrp (ck_callV 72 rfl [.inl a1, .inl (ck_wr (a2 - 100))] [] dX11_best_69 cv_X11_133 sh_51 rfl rfl (Nat.le_of_ble_eq_true rfl) (And.intro hl.2.1 (And.intro (ck_rng _) True.intro)) (ck_mI (h8.2 c26) (fun v22 w21 q23 h24 => (ck_iret dX11_best_72 rfl q23 h24))))))))))))))))))))))))) (fun c30 => (ck_aload_n 33 rfl 0 dX11_best_32 rfl rfl (ck_getr 36 rfl dX11_best_33 fl_X11_30 sh_0 rfl (ck_getr 39 rfl dX11_best_36 fl_X11_127 sh_51 rfl (ck_iload_n 40 rfl 1 dX11_best_39 rfl rfl (have h40 := (h38.2 c30); have o27 := h40.1; have h39 := h40.2; (ck_iald 41 rfl dX11_best_40 sh_61 (shn_61 hC) o27 _ rfl (fun (q28 : ck_i (w1 61 a1)) => (ck_iret dX11_best_41 rfl q28 h39)))))))))))))) (fun c34 => (ck_aload_n 18 rfl 0 dX11_best_17 rfl rfl (ck_getr 21 rfl dX11_best_18 fl_X11_30 sh_0 rfl (ck_getr 24 rfl dX11_best_21 fl_X11_124 sh_51 rfl (ck_iload_n 25 rfl 1 dX11_best_24 rfl rfl (have h42 := (h37.2 c34); have o31 := h42.1; have h41 := h42.2; (ck_iald 26 rfl dX11_best_25 sh_60 (shn_60 hC) o31 _ rfl (fun (q32 : ck_i (w1 60 a1)) => (ck_iret dX11_best_26 rfl q32 h41))))))))))))) (fun c36 => (ck_iconst 12 rfl dX11_best_11 rfl (ck_iret dX11_best_12 rfl (show ck_i (-1) by decide) (h4.2 c36)))))))))))))
theorem C_best {g : ch_G} {A R : Nat} (hC : ck_Cx g A R) {d : Nat} {K : Option ck_V → ck_W → Prop} {w : ck_W} {a1 a2 : Int} (hI : cw_IV A R w) (h1 : 0 ≤ a1 ∧ a1 ≤ 5 → ∀ w', cs_q w w' → cw_IV A R w' → cw_mo w w' → w' 59 a1 ≠ 0 → 0 < w' 61 a1 → K (some (.inl (if a2 = 0 then w' 60 a1 else if a2 = 1 then w' 61 a1 else if 100 ≤ a2 ∧ a2 < 100 + w' 6 a1 * (A : Int) then w' 62 (a1 * 24 + (a2 - 100)) else if 200 ≤ a2 ∧ a2 < 200 + w' 6 a1 * (A : Int) then (if w' 62 (a1 * 24 + (a2 - 200)) = w' 63 (a1 * 24 + (a2 - 200)) then 1 else 0) else -1))) w') (h0 : ∀ w', cs_q w w' → cw_IV A R w' → cw_mo w w' → (0 ≤ a1 ∧ a1 ≤ 5 → w' 59 a1 ≠ 0 ∧ w' 61 a1 ≤ 0) → K (some (.inl (-1))) w') (hi : ck_i a2) : ck_Ex (ch_C g A R) (d + 6) mX11_best [.inr (.inr 0), .inl a1, .inl a2] w K := by
  refine e_X11_best hC (S_X10_settle hC hI (fun no => ⟨_, rfl, fun _ => ⟨fun z => absurd rfl z, fun _ => h0 w cs_q_rf hI (fun _ x => x) (fun y => absurd y no)⟩⟩) (fun ok w' k1 k2 k3 k4 => ⟨_, rfl, fun _ => ?_⟩))
  by_cases x : w' 61 a1 ≤ 0
  · rw [if_pos x]
    exact ⟨fun z => absurd rfl z, fun _ => h0 w' k1 k2 k3 (fun _ => ⟨k4, x⟩)⟩
  rw [if_neg x]
  have k := h1 ok w' k1 k2 k3 k4 (by omega)
  have tb := cs_tb hC k2.1.2.1 ok
  have nb : ∀ b : Int, 100 ≤ b → b ≤ 200 → (cs_has A w' a1 (ck_wr (a2 - b)) → (b ≤ a2 ∧ a2 < b + w' 6 a1 * (A : Int)) ∧ ck_wr (a2 - b) = a2 - b) ∧ (¬ cs_has A w' a1 (ck_wr (a2 - b)) → ¬ (b ≤ a2 ∧ a2 < b + w' 6 a1 * (A : Int))) := by
    intro b b0 b1
    have ha := ck_wr_add (a := a2) (b := -b) hi (by omega)
    rw [show a2 + -b = a2 - b by omega] at ha
    refine ⟨fun y => ?_, fun y z => y ⟨ok, ?_⟩⟩
    · have y2 := y.2
      rcases ha with e | e | e
      · exact ⟨by omega, e⟩
      · omega
      · omega
    · rcases ha with e | e | e <;> omega
  have n1 := nb 100 (by omega) (by omega)
  have n2 := nb 200 (by omega) (by omega)
  refine ⟨fun _ => ⟨fun z0 => ⟨fun z1 => p_X5_hasPlace hC k2.1.1 k2.1.2.1 (fun y => ⟨_, rfl, fun _ => ⟨fun z => absurd z (by decide), fun _ => p_X10_radiusAt hC (fun _ => ⟨_, rfl, fun _ => ?_⟩) (fun no => absurd ⟨ok, by have := y.2; omega⟩ no)⟩⟩) (fun no => ⟨_, rfl, fun _ => ⟨fun _ => p_X5_hasPlace hC k2.1.1 k2.1.2.1 (fun y => ⟨_, rfl, fun _ => ⟨fun z => absurd z (by decide), fun _ => p_X10_isSure hC k2.1.1 k2.1.2.1 y ⟨_, rfl, fun _ => ?_⟩⟩⟩) (fun no2 => ⟨_, rfl, fun _ => ⟨fun _ => ?_, fun z => absurd rfl z⟩⟩), fun z => absurd rfl z⟩⟩), fun z1 => ⟨by omega, ?_⟩⟩, fun z0 => ⟨by omega, ?_⟩⟩, fun z => absurd z (by decide)⟩
  · rw [if_neg z0, if_neg z1, if_pos (n1.1 y).1] at k
    rw [(n1.1 y).2]
    exact k
  · rw [if_neg z0, if_neg z1, if_neg (n1.2 no), if_pos (n2.1 y).1] at k
    rw [(n2.1 y).2]
    refine ⟨fun z => ?_, fun z => ?_⟩
    · by_cases e : w' 62 (a1 * 24 + (a2 - 200)) = w' 63 (a1 * 24 + (a2 - 200))
      · rw [if_pos e] at z; exact absurd z (by decide)
      · rw [if_neg e] at k; exact k
    · by_cases e : w' 62 (a1 * 24 + (a2 - 200)) = w' 63 (a1 * 24 + (a2 - 200))
      · rw [if_pos e] at k; exact k
      · rw [if_neg e] at z; exact absurd rfl z
  · rw [if_neg z0, if_neg z1, if_neg (n1.2 no), if_neg (n2.2 no2)] at k
    exact k
  · rw [if_neg z0, if_pos z1] at k; exact k
  · rw [if_pos z0] at k; exact k
/-- stretch of places from i on -/
def cs_fl (t f : Int → Int) (k : Int) : Nat → Int → Int → Int
  | 0, _, s => s
  | n + 1, p, s => cs_fl t f k n (p + 1) (s + cs_sr t f k p (cs_wd t f k p 6 0 (0, 0)).1 6 0 0)
theorem dX11_flat_0 : decode cX11_flat 0 = .ok (.iload_n 1, 1) := dk_27 (by decide +kernel)
theorem dX11_flat_1 : decode cX11_flat 1 = .ok (.iconst 1, 1) := dk_4 (by decide +kernel)
theorem dX11_flat_2 : decode cX11_flat 2 = .ok (.iconst 4, 1) := dk_7 (by decide +kernel)
theorem dX11_flat_3 : decode cX11_flat 3 = .ok (.invokestatic 82, 3) := dk_184 0 82 (by decide +kernel)
theorem dX11_flat_6 : decode cX11_flat 6 = .ok (.ifCond .eq 34, 3) := dk_153 0 34 (by decide +kernel)
theorem dX11_flat_9 : decode cX11_flat 9 = .ok (.iload_n 2, 1) := dk_28 (by decide +kernel)
theorem dX11_flat_10 : decode cX11_flat 10 = .ok (.iconst 0, 1) := dk_3 (by decide +kernel)
theorem dX11_flat_11 : decode cX11_flat 11 = .ok (.iload_n 1, 1) := dk_27 (by decide +kernel)
theorem dX11_flat_12 : decode cX11_flat 12 = .ok (.aload_n 0, 1) := dk_42 (by decide +kernel)
theorem dX11_flat_13 : decode cX11_flat 13 = .ok (.getfield 14, 3) := dk_180 0 14 (by decide +kernel)
theorem dX11_flat_16 : decode cX11_flat 16 = .ok (.getfield 23, 3) := dk_180 0 23 (by decide +kernel)
theorem dX11_flat_19 : decode cX11_flat 19 = .ok (.getfield 164, 3) := dk_180 0 164 (by decide +kernel)
theorem dX11_flat_22 : decode cX11_flat 22 = .ok (.imul, 1) := dk_104 (by decide +kernel)
theorem dX11_flat_23 : decode cX11_flat 23 = .ok (.iconst 2, 1) := dk_5 (by decide +kernel)
theorem dX11_flat_24 : decode cX11_flat 24 = .ok (.isub, 1) := dk_100 (by decide +kernel)
theorem dX11_flat_25 : decode cX11_flat 25 = .ok (.invokestatic 82, 3) := dk_184 0 82 (by decide +kernel)
theorem dX11_flat_28 : decode cX11_flat 28 = .ok (.ifCond .eq 12, 3) := dk_153 0 12 (by decide +kernel)
theorem dX11_flat_31 : decode cX11_flat 31 = .ok (.iload_n 3, 1) := dk_29 (by decide +kernel)
theorem dX11_flat_32 : decode cX11_flat 32 = .ok (.iconst 0, 1) := dk_3 (by decide +kernel)
theorem dX11_flat_33 : decode cX11_flat 33 = .ok (.iconst 2, 1) := dk_5 (by decide +kernel)
theorem dX11_flat_34 : decode cX11_flat 34 = .ok (.invokestatic 82, 3) := dk_184 0 82 (by decide +kernel)
theorem dX11_flat_37 : decode cX11_flat 37 = .ok (.ifCond .ne 5, 3) := dk_154 0 5 (by decide +kernel)
theorem dX11_flat_40 : decode cX11_flat 40 = .ok (.iconst (-1), 1) := dk_2 (by decide +kernel)
theorem dX11_flat_41 : decode cX11_flat 41 = .ok (.ireturn, 1) := dk_172 (by decide +kernel)
theorem dX11_flat_42 : decode cX11_flat 42 = .ok (.aload_n 0, 1) := dk_42 (by decide +kernel)
theorem dX11_flat_43 : decode cX11_flat 43 = .ok (.getfield 30, 3) := dk_180 0 30 (by decide +kernel)
theorem dX11_flat_46 : decode cX11_flat 46 = .ok (.iload_n 1, 1) := dk_27 (by decide +kernel)
theorem dX11_flat_47 : decode cX11_flat 47 = .ok (.invokevirtual 167, 3) := dk_182 0 167 (by decide +kernel)
theorem dX11_flat_50 : decode cX11_flat 50 = .ok (.ifCond .ne 5, 3) := dk_154 0 5 (by decide +kernel)
theorem dX11_flat_53 : decode cX11_flat 53 = .ok (.iconst (-1), 1) := dk_2 (by decide +kernel)
theorem dX11_flat_54 : decode cX11_flat 54 = .ok (.ireturn, 1) := dk_172 (by decide +kernel)
theorem dX11_flat_55 : decode cX11_flat 55 = .ok (.iload_n 3, 1) := dk_29 (by decide +kernel)
theorem dX11_flat_56 : decode cX11_flat 56 = .ok (.ifCond .ne 13, 3) := dk_154 0 13 (by decide +kernel)
theorem dX11_flat_59 : decode cX11_flat 59 = .ok (.aload_n 0, 1) := dk_42 (by decide +kernel)
theorem dX11_flat_60 : decode cX11_flat 60 = .ok (.getfield 30, 3) := dk_180 0 30 (by decide +kernel)
theorem dX11_flat_63 : decode cX11_flat 63 = .ok (.iload_n 1, 1) := dk_27 (by decide +kernel)
theorem dX11_flat_64 : decode cX11_flat 64 = .ok (.iload_n 2, 1) := dk_28 (by decide +kernel)
theorem dX11_flat_65 : decode cX11_flat 65 = .ok (.invokevirtual 170, 3) := dk_182 0 170 (by decide +kernel)
theorem dX11_flat_68 : decode cX11_flat 68 = .ok (.ireturn, 1) := dk_172 (by decide +kernel)
theorem dX11_flat_69 : decode cX11_flat 69 = .ok (.iconst 0, 1) := dk_3 (by decide +kernel)
theorem dX11_flat_70 : decode cX11_flat 70 = .ok (.istore 4, 2) := dk_54 (by decide +kernel)
theorem dX11_flat_72 : decode cX11_flat 72 = .ok (.iload_n 3, 1) := dk_29 (by decide +kernel)
theorem dX11_flat_73 : decode cX11_flat 73 = .ok (.iconst 1, 1) := dk_4 (by decide +kernel)
theorem dX11_flat_74 : decode cX11_flat 74 = .ok (.if_icmp .ne 7, 3) := dk_160 0 7 (by decide +kernel)
theorem dX11_flat_77 : decode cX11_flat 77 = .ok (.iload_n 2, 1) := dk_28 (by decide +kernel)
theorem dX11_flat_78 : decode cX11_flat 78 = .ok (.goto 4, 3) := dk_167 0 4 (by decide +kernel)
theorem dX11_flat_81 : decode cX11_flat 81 = .ok (.iconst 0, 1) := dk_3 (by decide +kernel)
theorem dX11_flat_82 : decode cX11_flat 82 = .ok (.istore 5, 2) := dk_54 (by decide +kernel)
theorem dX11_flat_84 : decode cX11_flat 84 = .ok (.iload 5, 2) := dk_21 (by decide +kernel)
theorem dX11_flat_86 : decode cX11_flat 86 = .ok (.iload_n 2, 1) := dk_28 (by decide +kernel)
theorem dX11_flat_87 : decode cX11_flat 87 = .ok (.if_icmp .gt 34, 3) := dk_163 0 34 (by decide +kernel)
theorem dX11_flat_90 : decode cX11_flat 90 = .ok (.iload 4, 2) := dk_21 (by decide +kernel)
theorem dX11_flat_92 : decode cX11_flat 92 = .ok (.aload_n 0, 1) := dk_42 (by decide +kernel)
theorem dX11_flat_93 : decode cX11_flat 93 = .ok (.getfield 30, 3) := dk_180 0 30 (by decide +kernel)
theorem dX11_flat_96 : decode cX11_flat 96 = .ok (.iload_n 1, 1) := dk_27 (by decide +kernel)
theorem dX11_flat_97 : decode cX11_flat 97 = .ok (.iload 5, 2) := dk_21 (by decide +kernel)
theorem dX11_flat_99 : decode cX11_flat 99 = .ok (.aload_n 0, 1) := dk_42 (by decide +kernel)
theorem dX11_flat_100 : decode cX11_flat 100 = .ok (.getfield 30, 3) := dk_180 0 30 (by decide +kernel)
theorem dX11_flat_103 : decode cX11_flat 103 = .ok (.iload_n 1, 1) := dk_27 (by decide +kernel)
theorem dX11_flat_104 : decode cX11_flat 104 = .ok (.iload 5, 2) := dk_21 (by decide +kernel)
theorem dX11_flat_106 : decode cX11_flat 106 = .ok (.invokevirtual 170, 3) := dk_182 0 170 (by decide +kernel)
theorem dX11_flat_109 : decode cX11_flat 109 = .ok (.invokevirtual 173, 3) := dk_182 0 173 (by decide +kernel)
theorem dX11_flat_112 : decode cX11_flat 112 = .ok (.iadd, 1) := dk_96 (by decide +kernel)
theorem dX11_flat_113 : decode cX11_flat 113 = .ok (.istore 4, 2) := dk_54 (by decide +kernel)
theorem dX11_flat_115 : decode cX11_flat 115 = .ok (.iinc 5 1, 3) := dk_132 1 (by decide +kernel)
theorem dX11_flat_118 : decode cX11_flat 118 = .ok (.goto (-34), 3) := dk_167 255 222 (by decide +kernel)
theorem dX11_flat_121 : decode cX11_flat 121 = .ok (.iload 4, 2) := dk_21 (by decide +kernel)
theorem dX11_flat_123 : decode cX11_flat 123 = .ok (.ireturn, 1) := dk_172 (by decide +kernel)
set_option maxRecDepth 8000 in
theorem e_X11_flat {g : ch_G} {A R : Nat} (hC : ck_Cx g A R) {d : Nat} {K : Option ck_V → ck_W → Prop} {w : ck_W} {a1 a2 a3 : Int} (h : (1 ≤ a1 ∧ a1 ≤ 4 → ck_i ((a1 * (w 3 0)) - 2) ∧ ((0 ≤ a2 ∧ a2 ≤ ((a1 * (w 3 0)) - 2) → (0 ≤ a3 ∧ a3 ≤ 2 → ck_CI (ch_C g A R) d mX10_settleThoseWith [.inr (.inr 51), .inl a1] w (fun v4 w3 => (¬ v4 = 0 → (¬ a3 = 0 → (¬ a3 = 1 → ck_At (ch_C g A R) (d + 1) mX11_flat K 84 [some (.inr (.inr 0)), some (.inl a1), some (.inl a2), none, some (.inl 0), some (.inl 0)] [] w3) ∧ (a3 = 1 → ck_At (ch_C g A R) (d + 1) mX11_flat K 84 [some (.inr (.inr 0)), some (.inl a1), some (.inl a2), none, some (.inl 0), some (.inl a2)] [] w3)) ∧ (a3 = 0 → ck_CI (ch_C g A R) d mX10_widthAt [.inr (.inr 51), .inl a1, .inl a2] w3 (fun v10 w9 => K (some (.inl v10)) w9))) ∧ (v4 = 0 → K (some (.inl (-1))) w3))) ∧ (¬ (0 ≤ a3 ∧ a3 ≤ 2) → K (some (.inl (-1))) w)) ∧ (¬ (0 ≤ a2 ∧ a2 ≤ ((a1 * (w 3 0)) - 2)) → K (some (.inl (-1))) w))) ∧ (¬ (1 ≤ a1 ∧ a1 ≤ 4) → K (some (.inl (-1))) w)) : ck_Ex (ch_C g A R) (d + 1) mX11_flat [.inr (.inr 0), .inl a1, .inl a2, .inl a3] w K :=
  ck_entry hC.1 [some (.inr (.inr 0)), some (.inl a1), some (.inl a2), some (.inl a3), none, none] (by decide) (Nat.le_of_ble_eq_true rfl) rfl (fun q => q) (ck_in (fun hl => (ck_iload_n 1 rfl 1 dX11_flat_0 rfl rfl (ck_iconst 2 rfl dX11_flat_1 rfl (ck_iconst 3 rfl dX11_flat_2 rfl (have h25 := h; ck_callS 6 rfl [.inl a1, .inl 1, .inl 4] [] dX11_flat_3 cs_X11_82 rfl rfl (Nat.le_of_ble_eq_true rfl) (And.intro hl.2.1 (And.intro (show ck_i 1 by decide) (And.intro (show ck_i 4 by decide) True.intro))) (p_X11_within hC (fun c23 _ => (ck_if_eq 9 rfl 40 dX11_flat_6 rfl (by decide) (fun q => absurd q (by decide)) (fun _ => (ck_iload_n 10 rfl 2 dX11_flat_9 rfl rfl (ck_iconst 11 rfl dX11_flat_10 rfl (ck_iload_n 12 rfl 1 dX11_flat_11 rfl rfl (ck_aload_n 13 rfl 0 dX11_flat_12 rfl rfl (ck_getr 16 rfl dX11_flat_13 fl_X11_14 sh_0 rfl (ck_getr 19 rfl dX11_flat_16 fl_X11_23 sh_1 rfl (ck_geti 22 rfl 0 dX11_flat_19 fl_X11_164 sh_3 rfl rfl _ rfl (fun (q1 : ck_i (w 3 0)) => (ck_imul 23 rfl dX11_flat_22 (ck_iconst 24 rfl dX11_flat_23 rfl (ck_isub 25 rfl dX11_flat_24 (have h27 := (h25.1 c23); have o2 := h27.1; have h26 := h27.2; (have h22 := h26; ck_callS 28 rfl [.inl a2, .inl 0, .inl ((a1 * (w 3 0)) - 2)] [] dX11_flat_25 cs_X11_82 rfl rfl (Nat.le_of_ble_eq_true rfl) (And.intro hl.2.2.1 (And.intro (show ck_i 0 by decide) (And.intro o2 True.intro))) (p_X11_within hC (fun c20 _ => (ck_if_eq 31 rfl 40 dX11_flat_28 rfl (by decide) (fun q => absurd q (by decide)) (fun _ => (ck_iload_n 32 rfl 3 dX11_flat_31 rfl rfl (ck_iconst 33 rfl dX11_flat_32 rfl (ck_iconst 34 rfl dX11_flat_33 rfl (have h19 := (h22.1 c20); ck_callS 37 rfl [.inl a3, .inl 0, .inl 2] [] dX11_flat_34 cs_X11_82 rfl rfl (Nat.le_of_ble_eq_true rfl) (And.intro hl.2.2.2.1 (And.intro (show ck_i 0 by decide) (And.intro (show ck_i 2 by decide) True.intro))) (p_X11_within hC (fun c17 _ => (ck_if_ne 40 rfl 42 dX11_flat_37 rfl (by decide) (fun _ => (ck_aload_n 43 rfl 0 dX11_flat_42 rfl rfl (ck_getr 46 rfl dX11_flat_43 fl_X11_30 sh_0 rfl (ck_iload_n 47 rfl 1 dX11_flat_46 rfl rfl (ck_callV 50 rfl [.inl a1] [] dX11_flat_47 cv_X11_167 sh_51 rfl rfl (Nat.le_of_ble_eq_true rfl) (And.intro hl.2.1 True.intro) (ck_mI (h19.1 c17) (fun v4 w3 q5 h6 => (ck_if_ne 53 rfl 55 dX11_flat_50 rfl q5 (fun c15 => (ck_iload_n 56 rfl 3 dX11_flat_55 rfl rfl (have h28 := (h6.1 c15); (ck_if_ne 59 rfl 69 dX11_flat_56 rfl hl.2.2.2.1 (fun c13 => (ck_iconst 70 rfl dX11_flat_69 rfl (ck_istore 72 rfl [some (.inr (.inr 0)), some (.inl a1), some (.inl a2), some (.inl a3), some (.inl 0), none] dX11_flat_70 (Nat.le_of_ble_eq_true rfl) rfl rfl (show ck_i 0 by decide) (ck_iload_n 73 rfl 3 dX11_flat_72 rfl rfl (ck_iconst 74 rfl dX11_flat_73 rfl (have h29 := (h28.1 c13); (ck_icmp_ne 77 rfl 81 dX11_flat_74 rfl hl.2.2.2.1 (show ck_i 1 by decide) (fun c7 => (ck_iconst 82 rfl dX11_flat_81 rfl (ck_istore 84 rfl [some (.inr (.inr 0)), some (.inl a1), some (.inl a2), some (.inl a3), some (.inl 0), some (.inl 0)] dX11_flat_82 (Nat.le_of_ble_eq_true rfl) rfl rfl (show ck_i 0 by decide) (ck_drop [some (.inr (.inr 0)), some (.inl a1), some (.inl a2), none, some (.inl 0), some (.inl 0)] (And.intro rfl (And.intro rfl (And.intro rfl (And.intro rfl (And.intro rfl True.intro))))) (h29.1 c7))))) (fun c8 => (ck_iload_n 78 rfl 2 dX11_flat_77 rfl rfl (ck_goto 82 dX11_flat_78 rfl (ck_istore 84 rfl [some (.inr (.inr 0)), some (.inl a1), some (.inl a2), some (.inl a3), some (.inl 0), some (.inl a2)] dX11_flat_82 (Nat.le_of_ble_eq_true rfl) rfl rfl hl.2.2.1 (ck_drop [some (.inr (.inr 0)), some (.inl a1), some (.inl a2), none, some (.inl 0), some (.inl a2)] (And.intro rfl (And.intro rfl (And.intro rfl (And.intro rfl (And.intro rfl True.intro))))) (h29.2 c8))))))))))))) (fun c14 => (ck_aload_n 60 rfl 0 dX11_flat_59 rfl rfl (ck_getr 63 rfl dX11_flat_60 fl_X11_30 sh_0 rfl (ck_iload_n 64 rfl 1 dX11_flat_63 rfl rfl (ck_iload_n 65 rfl 2 dX11_flat_64 rfl rfl (ck_callV 68 rfl [.inl a1, .inl a2] [] dX11_flat_65 cv_X11_170 sh_51 rfl rfl (Nat.le_of_ble_eq_true rfl) (And.intro hl.2.1 (And.intro hl.2.2.1 True.intro)) (ck_mI (h28.2 c14) (fun v10 w9 q11 h12 => (ck_iret dX11_flat_68 rfl q11 h12))))))))))))) (fun c16 => (ck_iconst 54 rfl dX11_flat_53 rfl (ck_iret dX11_flat_54 rfl (show ck_i (-1) by decide) (h6.2 c16)))))))))))) (fun q => absurd q (by decide)))) (fun c18 _ => (ck_if_ne 40 rfl 42 dX11_flat_37 rfl (by decide) (fun q => absurd q (by decide)) (fun _ => (ck_iconst 41 rfl dX11_flat_40 rfl (ck_iret dX11_flat_41 rfl (show ck_i (-1) by decide) (h19.2 c18)))))))))))))) (fun c21 _ => (ck_if_eq 31 rfl 40 dX11_flat_28 rfl (by decide) (fun _ => (ck_iconst 41 rfl dX11_flat_40 rfl (ck_iret dX11_flat_41 rfl (show ck_i (-1) by decide) (h22.2 c21)))) (fun q => absurd q (by decide))))))))))))))))))))) (fun c24 _ => (ck_if_eq 9 rfl 40 dX11_flat_6 rfl (by decide) (fun _ => (ck_iconst 41 rfl dX11_flat_40 rfl (ck_iret dX11_flat_41 rfl (show ck_i (-1) by decide) (h25.2 c24)))) (fun q => absurd q (by decide)))))))))))
set_option maxRecDepth 8000 in
theorem r_X11_flat_84 {g : ch_G} {A R : Nat} (hC : ck_Cx g A R) {d : Nat} {K : Option ck_V → ck_W → Prop} {w : ck_W} {a1 a2 a4 a5 : Int} (h : (a2 < a5 → K (some (.inl a4)) w) ∧ (¬ a2 < a5 → ck_CI (ch_C g A R) d mX10_widthAt [.inr (.inr 51), .inl a1, .inl a5] w (fun v2 w1 => ck_CI (ch_C g A R) d mX10_stretchOf [.inr (.inr 51), .inl a1, .inl a5, .inl v2] w1 (fun v6 w5 => ck_i (a4 + v6) ∧ (ck_i (a5 + 1) ∧ (ck_At (ch_C g A R) (d + 1) mX11_flat K 84 [some (.inr (.inr 0)), some (.inl a1), some (.inl a2), none, some (.inl (a4 + v6)), some (.inl (a5 + 1))] [] w5)))))) : ck_At (ch_C g A R) (d + 1) mX11_flat K 84 [some (.inr (.inr 0)), some (.inl a1), some (.inl a2), none, some (.inl a4), some (.inl a5)] [] w :=
  ck_in (fun hl => (ck_iload 86 rfl dX11_flat_84 rfl (ck_iload_n 87 rfl 2 dX11_flat_86 rfl rfl (ck_icmp_gt 90 rfl 121 dX11_flat_87 rfl hl.2.2.2.2.1 hl.2.2.1 (fun c11 => (ck_iload 123 rfl dX11_flat_121 rfl (ck_iret dX11_flat_123 rfl hl.2.2.2.1 (h.1 c11)))) (fun c12 => (ck_iload 92 rfl dX11_flat_90 rfl (ck_aload_n 93 rfl 0 dX11_flat_92 rfl rfl (ck_getr 96 rfl dX11_flat_93 fl_X11_30 sh_0 rfl (ck_iload_n 97 rfl 1 dX11_flat_96 rfl rfl (ck_iload 99 rfl dX11_flat_97 rfl (ck_aload_n 100 rfl 0 dX11_flat_99 rfl rfl (ck_getr 103 rfl dX11_flat_100 fl_X11_30 sh_0 rfl (ck_iload_n 104 rfl 1 dX11_flat_103 rfl rfl (ck_iload 106 rfl dX11_flat_104 rfl (ck_callV 109 rfl [.inl a1, .inl a5] [.inl a5, .inl a1, .inr (.inr 51), .inl a4] dX11_flat_106 cv_X11_170 sh_51 rfl rfl (Nat.le_of_ble_eq_true rfl) (And.intro hl.2.1 (And.intro hl.2.2.2.2.1 True.intro)) (ck_mI (h.2 c12) (fun v2 w1 q3 h4 => (ck_callV 112 rfl [.inl a1, .inl a5, .inl v2] [.inl a4] dX11_flat_109 cv_X11_173 sh_51 rfl rfl (Nat.le_of_ble_eq_true rfl) (And.intro hl.2.1 (And.intro hl.2.2.2.2.1 (And.intro q3 True.intro))) (ck_mI h4 (fun v6 w5 q7 h8 => (ck_iadd 113 rfl dX11_flat_112 (have h14 := h8; have o9 := h14.1; have h13 := h14.2; (ck_istore 115 rfl [some (.inr (.inr 0)), some (.inl a1), some (.inl a2), none, some (.inl (a4 + v6)), some (.inl a5)] dX11_flat_113 (Nat.le_of_ble_eq_true rfl) rfl rfl o9 (have h16 := h13; have o10 := h16.1; have h15 := h16.2; (ck_iinc 118 rfl [some (.inr (.inr 0)), some (.inl a1), some (.inl a2), none, some (.inl (a4 + v6)), some (.inl (a5 + 1))] dX11_flat_115 rfl (Nat.le_of_ble_eq_true rfl) rfl rfl o10 (ck_goto 84 dX11_flat_118 rfl h15))))))))))))))))))))))))))
theorem C_flat {g : ch_G} {A R : Nat} (hC : ck_Cx g A R) {d : Nat} {K : Option ck_V → ck_W → Prop} {w : ck_W} {a1 a2 a3 : Int} (hI : cw_IV A R w) (h1 : ((1 ≤ a1 ∧ a1 ≤ 4) ∧ (0 ≤ a2 ∧ a2 ≤ a1 * (A : Int) - 2) ∧ (0 ≤ a3 ∧ a3 ≤ 2)) → ∀ w', cs_q w w' → cw_IV A R w' → cw_mo w w' → cw_all w' a1 → K (some (.inl (if a3 = 0 then (cs_wd (w' 6) (w' 62) a1 a2 6 0 (0, 0)).1 else if a3 = 1 then cs_fl (w' 6) (w' 62) a1 1 a2 0 else cs_fl (w' 6) (w' 62) a1 (a2 + 1).toNat 0 0))) w') (h0 : ∀ w', cs_q w w' → cw_IV A R w' → cw_mo w w' → (((1 ≤ a1 ∧ a1 ≤ 4) ∧ (0 ≤ a2 ∧ a2 ≤ a1 * (A : Int) - 2) ∧ (0 ≤ a3 ∧ a3 ≤ 2)) → ((∀ z, 0 ≤ z → z ≤ 5 → w' 6 z < a1) ∨ ∃ z, (0 ≤ z ∧ z ≤ 5) ∧ a1 ≤ w' 6 z ∧ w' 59 z ≠ 0 ∧ w' 61 z ≤ 0)) → K (some (.inl (-1))) w') : ck_Ex (ch_C g A R) (d + 7) mX11_flat [.inr (.inr 0), .inl a1, .inl a2, .inl a3] w K := by
  have c := cs_ar hC
  have no : ¬ ((1 ≤ a1 ∧ a1 ≤ 4) ∧ (0 ≤ a2 ∧ a2 ≤ a1 * (A : Int) - 2) ∧ (0 ≤ a3 ∧ a3 ≤ 2)) → K (some (.inl (-1))) w := fun q => h0 w cs_q_rf hI (fun _ x => x) (fun y => absurd y q)
  refine e_X11_flat hC ?_
  rw [hI.1.1.1]
  refine ⟨fun q1 => ?_, fun q => no (fun x => q x.1)⟩
  have kA : a1 * (A : Int) ≤ 4 * (A : Int) := Int.mul_le_mul_of_nonneg_right q1.2 (by omega)
  have kA0 : 1 * (A : Int) ≤ a1 * (A : Int) := Int.mul_le_mul_of_nonneg_right q1.1 (by omega)
  refine ⟨by constructor <;> omega, fun q2 => ⟨fun q3 => S_X10_settleThoseWith hC hI (fun w' k1 k2 k3 k4 => ⟨_, rfl, fun _ => ⟨fun _ => ?_, fun z => absurd z (by decide)⟩⟩) (fun w' k1 k2 k3 k4 => ⟨_, rfl, fun _ => ⟨fun z => absurd rfl z, fun _ => h0 w' k1 k2 k3 (fun _ => k4)⟩⟩), fun q => no (fun x => q x.2.2)⟩, fun q => no (fun x => q x.2.1)⟩
  have k := h1 ⟨q1, q2, q3⟩ w' k1 k2 k3 k4
  have lp : ∀ (n : Nat) (a4 a5 : Int), a2 + 1 - a5 = n → 0 ≤ a5 → (0 ≤ a4 ∧ a4 ≤ 72 * a5) → K (some (.inl (cs_fl (w' 6) (w' 62) a1 n a5 a4))) w' → ck_At (ch_C g A R) (d + 7) mX11_flat K 84 [some (.inr (.inr 0)), some (.inl a1), some (.inl a2), none, some (.inl a4), some (.inl a5)] [] w' := by
    intro n
    induction n with
    | zero =>
      intro a4 a5 g1 g2 g3 h
      rw [cs_fl] at h
      exact r_X11_flat_84 hC ⟨fun _ => h, fun q => absurd (by omega) q⟩
    | succ n ih =>
      intro a4 a5 g1 g2 g3 h
      rw [cs_fl] at h
      have wb := cs_wdb (t := w' 6) (k := a1) k2.2.2.1 (p := a5) (by omega) 6 0 (0, 0) (by omega) (by omega) (by dsimp only; omega)
      have sb := cs_srb (t := w' 6) (k := a1) (p := a5) k2.2.2.1 (by omega) (by omega) (x := (cs_wd (w' 6) (w' 62) a1 a5 6 0 (0, 0)).1) (by omega) 6 0 0 (by omega) (by omega) (by omega)
      exact r_X11_flat_84 hC ⟨fun q => absurd q (by omega), fun _ => p_X10_widthAt hC k2.2.2.1 (by omega) ⟨_, rfl, fun _ => p_X10_stretchOf hC k2.2.2.1 (by omega) (by omega) ⟨_, rfl, fun _ => ⟨by constructor <;> omega, by constructor <;> omega, ih _ _ (by omega) (by omega) (by omega) h⟩⟩⟩⟩
  refine ⟨fun z0 => ⟨fun z1 => ?_, fun z1 => ?_⟩, fun z0 => ?_⟩
  · rw [if_neg z0, if_neg z1] at k
    exact lp (a2 + 1).toNat 0 0 (by omega) (by omega) (by omega) k
  · rw [if_neg z0, if_pos z1] at k
    exact lp 1 0 a2 (by omega) (by omega) (by omega) k
  · rw [if_pos z0] at k
    exact p_X10_widthAt hC k2.2.2.1 (by omega) ⟨_, rfl, fun _ => k⟩
