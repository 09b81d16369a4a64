/-! ===== the reference: a whole text, a reader ===== -/
theorem rt_0 {w : ck_W} {X : Int} : (∀ k, k ≠ 76 → k ≠ 79 → (ck_up (ck_up (ck_up (ck_up (ck_up w 76 24 X) 79 X 0) 76 26 0) 76 30 0) 76 19 0) k = w k) ∧ (∀ j, j ≠ 24 → j ≠ 26 → j ≠ 30 → j ≠ 19 → (ck_up (ck_up (ck_up (ck_up (ck_up w 76 24 X) 79 X 0) 76 26 0) 76 30 0) 76 19 0) 76 j = w 76 j) ∧ (ck_up (ck_up (ck_up (ck_up (ck_up w 76 24 X) 79 X 0) 76 26 0) 76 30 0) 76 19 0) 76 24 = X ∧ (ck_up (ck_up (ck_up (ck_up (ck_up w 76 24 X) 79 X 0) 76 26 0) 76 30 0) 76 19 0) 76 26 = 0 ∧ (ck_up (ck_up (ck_up (ck_up (ck_up w 76 24 X) 79 X 0) 76 26 0) 76 30 0) 76 19 0) 76 30 = 0 ∧ (ck_up (ck_up (ck_up (ck_up (ck_up w 76 24 X) 79 X 0) 76 26 0) 76 30 0) 76 19 0) 76 19 = 0 ∧ (ck_up (ck_up (ck_up (ck_up (ck_up w 76 24 X) 79 X 0) 76 26 0) 76 30 0) 76 19 0) 79 X = 0 ∧ (∀ j, j ≠ X → (ck_up (ck_up (ck_up (ck_up (ck_up w 76 24 X) 79 X 0) 76 26 0) 76 30 0) 76 19 0) 79 j = w 79 j) := by
  refine ⟨fun k x y => ?_, fun j a b c e => ?_, ?_, ?_, ?_, ?_, ?_, fun j hj => ?_⟩
  · rw [ck_up_ne x, ck_up_ne x, ck_up_ne x, ck_up_ne y, ck_up_ne x]
  · rw [ck_up_nj e, ck_up_nj c, ck_up_nj b, ck_up_ne (by decide), ck_up_nj a]
  · rw [ck_up_nj (by decide), ck_up_nj (by decide), ck_up_nj (by decide), ck_up_ne (by decide), ck_up_eq]
  · rw [ck_up_nj (by decide), ck_up_nj (by decide), ck_up_eq]
  · rw [ck_up_nj (by decide), ck_up_eq]
  · rw [ck_up_eq]
  · rw [ck_up_ne (by decide), ck_up_ne (by decide), ck_up_ne (by decide), ck_up_eq]
  · rw [ck_up_ne (by decide), ck_up_ne (by decide), ck_up_ne (by decide), ck_up_nj hj, ck_up_ne (by decide)]
theorem dX12_readText_0 : decode cX12_readText 0 = .ok (.aload_n 0, 1) := dk_42 (by decide +kernel)
theorem dX12_readText_1 : decode cX12_readText 1 = .ok (.sipush 800, 3) := dk_17 3 32 (by decide +kernel)
theorem dX12_readText_4 : decode cX12_readText 4 = .ok (.aload_n 0, 1) := dk_42 (by decide +kernel)
theorem dX12_readText_5 : decode cX12_readText 5 = .ok (.getfield 7, 3) := dk_180 0 7 (by decide +kernel)
theorem dX12_readText_8 : decode cX12_readText 8 = .ok (.iconst 0, 1) := dk_3 (by decide +kernel)
theorem dX12_readText_9 : decode cX12_readText 9 = .ok (.iaload, 1) := dk_46 (by decide +kernel)
theorem dX12_readText_10 : decode cX12_readText 10 = .ok (.imul, 1) := dk_104 (by decide +kernel)
theorem dX12_readText_11 : decode cX12_readText 11 = .ok (.putfield 217, 3) := dk_181 0 217 (by decide +kernel)
theorem dX12_readText_14 : decode cX12_readText 14 = .ok (.aload_n 0, 1) := dk_42 (by decide +kernel)
theorem dX12_readText_15 : decode cX12_readText 15 = .ok (.getfield 16, 3) := dk_180 0 16 (by decide +kernel)
theorem dX12_readText_18 : decode cX12_readText 18 = .ok (.aload_n 0, 1) := dk_42 (by decide +kernel)
theorem dX12_readText_19 : decode cX12_readText 19 = .ok (.getfield 217, 3) := dk_180 0 217 (by decide +kernel)
theorem dX12_readText_22 : decode cX12_readText 22 = .ok (.iconst 0, 1) := dk_3 (by decide +kernel)
theorem dX12_readText_23 : decode cX12_readText 23 = .ok (.iastore, 1) := dk_79 (by decide +kernel)
theorem dX12_readText_24 : decode cX12_readText 24 = .ok (.aload_n 0, 1) := dk_42 (by decide +kernel)
theorem dX12_readText_25 : decode cX12_readText 25 = .ok (.iconst 0, 1) := dk_3 (by decide +kernel)
theorem dX12_readText_26 : decode cX12_readText 26 = .ok (.putfield 220, 3) := dk_181 0 220 (by decide +kernel)
theorem dX12_readText_29 : decode cX12_readText 29 = .ok (.aload_n 0, 1) := dk_42 (by decide +kernel)
theorem dX12_readText_30 : decode cX12_readText 30 = .ok (.iconst 0, 1) := dk_3 (by decide +kernel)
theorem dX12_readText_31 : decode cX12_readText 31 = .ok (.putfield 230, 3) := dk_181 0 230 (by decide +kernel)
theorem dX12_readText_34 : decode cX12_readText 34 = .ok (.aload_n 0, 1) := dk_42 (by decide +kernel)
theorem dX12_readText_35 : decode cX12_readText 35 = .ok (.iconst 0, 1) := dk_3 (by decide +kernel)
theorem dX12_readText_36 : decode cX12_readText 36 = .ok (.putfield 183, 3) := dk_181 0 183 (by decide +kernel)
theorem dX12_readText_39 : decode cX12_readText 39 = .ok (.aload_n 0, 1) := dk_42 (by decide +kernel)
theorem dX12_readText_40 : decode cX12_readText 40 = .ok (.invokevirtual 246, 3) := dk_182 0 246 (by decide +kernel)
theorem dX12_readText_43 : decode cX12_readText 43 = .ok (.aload_n 0, 1) := dk_42 (by decide +kernel)
theorem dX12_readText_44 : decode cX12_readText 44 = .ok (.getfield 192, 3) := dk_180 0 192 (by decide +kernel)
theorem dX12_readText_47 : decode cX12_readText 47 = .ok (.ifCond .eq 17, 3) := dk_153 0 17 (by decide +kernel)
theorem dX12_readText_50 : decode cX12_readText 50 = .ok (.aload_n 0, 1) := dk_42 (by decide +kernel)
theorem dX12_readText_51 : decode cX12_readText 51 = .ok (.invokevirtual 295, 3) := dk_182 1 39 (by decide +kernel)
theorem dX12_readText_54 : decode cX12_readText 54 = .ok (.istore_n 1, 1) := dk_60 (by decide +kernel)
theorem dX12_readText_55 : decode cX12_readText 55 = .ok (.iload_n 1, 1) := dk_27 (by decide +kernel)
theorem dX12_readText_56 : decode cX12_readText 56 = .ok (.ifCond .eq 5, 3) := dk_153 0 5 (by decide +kernel)
theorem dX12_readText_59 : decode cX12_readText 59 = .ok (.iload_n 1, 1) := dk_27 (by decide +kernel)
theorem dX12_readText_60 : decode cX12_readText 60 = .ok (.ireturn, 1) := dk_172 (by decide +kernel)
theorem dX12_readText_61 : decode cX12_readText 61 = .ok (.goto (-18), 3) := dk_167 255 238 (by decide +kernel)
theorem dX12_readText_64 : decode cX12_readText 64 = .ok (.iconst 0, 1) := dk_3 (by decide +kernel)
theorem dX12_readText_65 : decode cX12_readText 65 = .ok (.ireturn, 1) := dk_172 (by decide +kernel)
set_option maxRecDepth 8000 in
theorem e_X12_readText {g : ch_G} {A R : Nat} (hC : ck_Cx g A R) {d : Nat} {K : Option ck_V → ck_W → Prop} {w : ck_W} (h : ck_i (800 * (w 77 0)) ∧ ((0 ≤ (800 * (w 77 0)) ∧ (800 * (w 77 0)) < 3200) ∧ (ck_CN (ch_C g A R) d mX12_nextToken [.inr (.inr 76)] (ck_up (ck_up (ck_up (ck_up (ck_up w 76 24 (800 * (w 77 0))) 79 (800 * (w 77 0)) 0) 76 26 0) 76 30 0) 76 19 0) (fun w5 => ck_At (ch_C g A R) (d + 1) mX12_readText K 43 [some (.inr (.inr 76)), none] [] w5)))) : ck_Ex (ch_C g A R) (d + 1) mX12_readText [.inr (.inr 76)] w K :=
  ck_entry hC.1 [some (.inr (.inr 76)), none] (by decide) (Nat.le_of_ble_eq_true rfl) rfl (fun q => q) (ck_in (fun hl => (ck_aload_n 1 rfl 0 dX12_readText_0 rfl rfl (ck_sipush 4 rfl dX12_readText_1 rfl (ck_aload_n 5 rfl 0 dX12_readText_4 rfl rfl (ck_getr 8 rfl dX12_readText_5 fl_X12_7 sh_76 rfl (ck_iconst 9 rfl dX12_readText_8 rfl (ck_iald 10 rfl dX12_readText_9 sh_77 (shn_77 hC) (by decide) _ rfl (fun (q1 : ck_i (w 77 0)) => (ck_imul 11 rfl dX12_readText_10 (have h8 := h; have o2 := h8.1; have h7 := h8.2; (ck_puti 14 rfl 24 dX12_readText_11 fp_X12_217 sh_76 rfl rfl o2 (ck_aload_n 15 rfl 0 dX12_readText_14 rfl rfl (ck_getr 18 rfl dX12_readText_15 fl_X12_16 sh_76 rfl (ck_aload_n 19 rfl 0 dX12_readText_18 rfl rfl (ck_geti 22 rfl 24 dX12_readText_19 fl_X12_217 sh_76 rfl rfl _ rfl (fun (q3 : ck_i (800 * (w 77 0))) => (ck_iconst 23 rfl dX12_readText_22 rfl (have h10 := h7; have o4 := h10.1; have h9 := h10.2; (ck_iast 24 rfl dX12_readText_23 sh_79 (shn_79 hC) o4 (show ck_i 0 by decide) (ck_aload_n 25 rfl 0 dX12_readText_24 rfl rfl (ck_iconst 26 rfl dX12_readText_25 rfl (ck_puti 29 rfl 26 dX12_readText_26 fp_X12_220 sh_76 rfl rfl (show ck_i 0 by decide) (ck_aload_n 30 rfl 0 dX12_readText_29 rfl rfl (ck_iconst 31 rfl dX12_readText_30 rfl (ck_puti 34 rfl 30 dX12_readText_31 fp_X12_230 sh_76 rfl rfl (show ck_i 0 by decide) (ck_aload_n 35 rfl 0 dX12_readText_34 rfl rfl (ck_iconst 36 rfl dX12_readText_35 rfl (ck_puti 39 rfl 19 dX12_readText_36 fp_X12_183 sh_76 rfl rfl (show ck_i 0 by decide) (ck_aload_n 40 rfl 0 dX12_readText_39 rfl rfl (ck_callV 43 rfl [] [] dX12_readText_40 cv_X12_246 sh_76 rfl rfl (Nat.le_of_ble_eq_true rfl) True.intro (ck_mN h9 (fun w5 h6 => h6)))))))))))))))))))))))))))))))))
set_option maxRecDepth 8000 in
theorem r_X12_readText_43 {g : ch_G} {A R : Nat} (hC : ck_Cx g A R) {d : Nat} {K : Option ck_V → ck_W → Prop} {w : ck_W} (h : ((w 76 21) = 0 → K (some (.inl 0)) w) ∧ (¬ (w 76 21) = 0 → ck_CI (ch_C g A R) d mX12_clause [.inr (.inr 76)] w (fun v3 w2 => (v3 = 0 → ck_At (ch_C g A R) (d + 1) mX12_readText K 43 [some (.inr (.inr 76)), none] [] w2) ∧ (¬ v3 = 0 → K (some (.inl v3)) w2)))) : ck_At (ch_C g A R) (d + 1) mX12_readText K 43 [some (.inr (.inr 76)), none] [] w :=
  ck_in (fun hl => (ck_aload_n 44 rfl 0 dX12_readText_43 rfl rfl (ck_geti 47 rfl 21 dX12_readText_44 fl_X12_192 sh_76 rfl rfl _ rfl (fun (q1 : ck_i (w 76 21)) => (ck_if_eq 50 rfl 64 dX12_readText_47 rfl q1 (fun c8 => (ck_iconst 65 rfl dX12_readText_64 rfl (ck_iret dX12_readText_65 rfl (show ck_i 0 by decide) (h.1 c8)))) (fun c9 => (ck_aload_n 51 rfl 0 dX12_readText_50 rfl rfl (ck_callV 54 rfl [] [] dX12_readText_51 cv_X12_295 sh_76 rfl rfl (Nat.le_of_ble_eq_true rfl) True.intro (ck_mI (h.2 c9) (fun v3 w2 q4 h5 => (ck_istore_n 55 rfl 1 [some (.inr (.inr 76)), some (.inl v3)] dX12_readText_54 rfl (Nat.le_of_ble_eq_true rfl) rfl rfl q4 (ck_iload_n 56 rfl 1 dX12_readText_55 rfl rfl (ck_if_eq 59 rfl 61 dX12_readText_56 rfl q4 (fun c6 => (ck_goto 43 dX12_readText_61 rfl (ck_drop [some (.inr (.inr 76)), none] (And.intro rfl True.intro) (h5.1 c6)))) (fun c7 => (ck_iload_n 60 rfl 1 dX12_readText_59 rfl rfl (ck_iret dX12_readText_60 rfl q4 (h5.2 c7)))))))))))))))))
theorem S_X12_readText {g : ch_G} {A R : Nat} (hC : ck_Cx g A R) {d : Nat} {K : Option ck_V → ck_W → Prop} {w : ck_W} (hI : rm_I A R w) (h4 : w 77 0 < 4) (h : ∀ v w', pt (800 * w 77 0) w w' → (v = 0 → tx_ok (w' 79) (800 * w 77 0)) → K (some (.inl v)) w') : ck_Ex (ch_C g A R) (d + 9) mX12_readText [.inr (.inr 76)] w K := by
  have f0 := rm_c0 hI.2.2.2.1
  have t0 := hI.2.2.2.2.2.2.1
  have t1 := hI.2.2.2.2.2.2.2.1
  have l : ∀ (q : Nat) (u : ck_W), 301 - u 76 20 ≤ q → pt (800 * w 77 0) w u → px (w 76 16) (800 * w 77 0) u → ck_At (ch_C g A R) (d + 9) mX12_readText K 43 [some (.inr (.inr 76)), none] [] u := by
    intro q
    induction q with
    | zero =>
      intro u q1 _ q3
      have := q3.1
      omega
    | succ q ih =>
      intro u q1 q2 q3
      obtain ⟨_, _, _, _, _, _, _, c8, c9⟩ := id q3
      refine r_X12_readText_43 hC ⟨fun _ => h 0 u q2 (fun _ => ⟨c8.1, c8.2, fun k k0 k1 => (c9 k k0 k1).1⟩), fun _ => ?_⟩
      exact S_X12_clause hC (by omega) (by omega) q3 (fun v w2 b1 b2 => ⟨_, rfl, fun _ => ⟨fun e => ih w2 (by have := (b2 e).2; omega) (pt_tr q2 b1) (b2 e).1, fun e => h v w2 (pt_tr q2 b1) (fun e' => absurd e' e)⟩⟩)
  refine e_X12_readText hC ⟨by constructor <;> omega, by omega, ?_⟩
  obtain ⟨a1, a2, a3, a4, a5, a6, a7, a8⟩ := rt_0 (w := w) (X := 800 * w 77 0)
  generalize (ck_up (ck_up (ck_up (ck_up (ck_up w 76 24 (800 * w 77 0)) 79 (800 * w 77 0) 0) 76 26 0) 76 30 0) 76 19 0) = U at *
  have b16 := a2 16 (by decide) (by decide) (by decide) (by decide)
  have b22 := a2 22 (by decide) (by decide) (by decide) (by decide)
  refine S_X12_nextToken hC (by omega) (by omega) (by omega) (fun u i1 i2 i3 i4 => ⟨rfl, l 301 u (by omega) ⟨fun k x y z => (i1.1 k x).trans (a1 k x y), fun j hj => (i1.2 j (by omega)).trans (a2 j (by omega) (by omega) (by omega) (by omega)), fun j hj => ?_, fun _ => i4⟩ ⟨by omega, i3, i4, ?_, ?_, ?_, ?_, ?_, fun k k0 k1 => ?_⟩⟩)
  · rw [i1.1 79 (by decide)]; exact a8 j (by omega)
  · rw [i1.2 16 (by omega), i1.2 24 (by omega)]; exact ⟨b16, a3⟩
  · rw [i1.2 26 (by omega)]; omega
  · rw [i1.2 26 (by omega)]; omega
  · rw [i1.2 30 (by omega)]; omega
  · rw [i1.1 79 (by decide)]; omega
  · rw [i1.1 79 (by decide), a7] at k1; omega
theorem tx_ok_c {t t' : Int → Int} {x : Int} (h : tx_ok t x) (hc : ∀ j, j < x + 800 → t' j = t j) : tx_ok t' x := by
  have e := hc x (by omega)
  have h2 := h.2.1
  refine ⟨by rw [e]; exact h.1, by rw [e]; exact h.2.1, fun k k0 k1 => ?_⟩
  rw [e] at k1
  exact tx_cl_c (e := 300) (h.2.2 k k0 k1) ⟨k0, by omega⟩ (h.2.2 k k0 k1).2.2.1 (fun j _ j1 => hc j (by omega))
theorem rm_T_c {t t' : Int → Int} {n : Int} (h : rm_T t n) (hc : ∀ j, j < 800 * n → t' j = t j) : rm_T t' n := fun r r0 r1 => tx_ok_c (h r r0 r1) (fun j hj => hc j (by omega))
theorem dX12_reader_0 : decode cX12_reader 0 = .ok (.aload_n 0, 1) := dk_42 (by decide +kernel)
theorem dX12_reader_1 : decode cX12_reader 1 = .ok (.getfield 7, 3) := dk_180 0 7 (by decide +kernel)
theorem dX12_reader_4 : decode cX12_reader 4 = .ok (.iconst 0, 1) := dk_3 (by decide +kernel)
theorem dX12_reader_5 : decode cX12_reader 5 = .ok (.iaload, 1) := dk_46 (by decide +kernel)
theorem dX12_reader_6 : decode cX12_reader 6 = .ok (.iconst 4, 1) := dk_7 (by decide +kernel)
theorem dX12_reader_7 : decode cX12_reader 7 = .ok (.if_icmp .ne 5, 3) := dk_160 0 5 (by decide +kernel)
theorem dX12_reader_10 : decode cX12_reader 10 = .ok (.iconst (-1), 1) := dk_2 (by decide +kernel)
theorem dX12_reader_11 : decode cX12_reader 11 = .ok (.ireturn, 1) := dk_172 (by decide +kernel)
theorem dX12_reader_12 : decode cX12_reader 12 = .ok (.aload_n 0, 1) := dk_42 (by decide +kernel)
theorem dX12_reader_13 : decode cX12_reader 13 = .ok (.aload_n 0, 1) := dk_42 (by decide +kernel)
theorem dX12_reader_14 : decode cX12_reader 14 = .ok (.invokevirtual 298, 3) := dk_182 1 42 (by decide +kernel)
theorem dX12_reader_17 : decode cX12_reader 17 = .ok (.putfield 51, 3) := dk_181 0 51 (by decide +kernel)
theorem dX12_reader_20 : decode cX12_reader 20 = .ok (.aload_n 0, 1) := dk_42 (by decide +kernel)
theorem dX12_reader_21 : decode cX12_reader 21 = .ok (.aload_n 0, 1) := dk_42 (by decide +kernel)
theorem dX12_reader_22 : decode cX12_reader 22 = .ok (.getfield 51, 3) := dk_180 0 51 (by decide +kernel)
theorem dX12_reader_25 : decode cX12_reader 25 = .ok (.ifCond .ne 7, 3) := dk_154 0 7 (by decide +kernel)
theorem dX12_reader_28 : decode cX12_reader 28 = .ok (.iconst (-1), 1) := dk_2 (by decide +kernel)
theorem dX12_reader_29 : decode cX12_reader 29 = .ok (.goto 7, 3) := dk_167 0 7 (by decide +kernel)
theorem dX12_reader_32 : decode cX12_reader 32 = .ok (.aload_n 0, 1) := dk_42 (by decide +kernel)
theorem dX12_reader_33 : decode cX12_reader 33 = .ok (.getfield 189, 3) := dk_180 0 189 (by decide +kernel)
theorem dX12_reader_36 : decode cX12_reader 36 = .ok (.putfield 55, 3) := dk_181 0 55 (by decide +kernel)
theorem dX12_reader_39 : decode cX12_reader 39 = .ok (.aload_n 0, 1) := dk_42 (by decide +kernel)
theorem dX12_reader_40 : decode cX12_reader 40 = .ok (.iconst 0, 1) := dk_3 (by decide +kernel)
theorem dX12_reader_41 : decode cX12_reader 41 = .ok (.putfield 177, 3) := dk_181 0 177 (by decide +kernel)
theorem dX12_reader_44 : decode cX12_reader 44 = .ok (.aload_n 0, 1) := dk_42 (by decide +kernel)
theorem dX12_reader_45 : decode cX12_reader 45 = .ok (.getfield 51, 3) := dk_180 0 51 (by decide +kernel)
theorem dX12_reader_48 : decode cX12_reader 48 = .ok (.ifCond .eq 5, 3) := dk_153 0 5 (by decide +kernel)
theorem dX12_reader_51 : decode cX12_reader 51 = .ok (.iconst (-1), 1) := dk_2 (by decide +kernel)
theorem dX12_reader_52 : decode cX12_reader 52 = .ok (.ireturn, 1) := dk_172 (by decide +kernel)
theorem dX12_reader_53 : decode cX12_reader 53 = .ok (.aload_n 0, 1) := dk_42 (by decide +kernel)
theorem dX12_reader_54 : decode cX12_reader 54 = .ok (.getfield 7, 3) := dk_180 0 7 (by decide +kernel)
theorem dX12_reader_57 : decode cX12_reader 57 = .ok (.sipush 1260, 3) := dk_17 4 236 (by decide +kernel)
theorem dX12_reader_60 : decode cX12_reader 60 = .ok (.aload_n 0, 1) := dk_42 (by decide +kernel)
theorem dX12_reader_61 : decode cX12_reader 61 = .ok (.getfield 7, 3) := dk_180 0 7 (by decide +kernel)
theorem dX12_reader_64 : decode cX12_reader 64 = .ok (.iconst 0, 1) := dk_3 (by decide +kernel)
theorem dX12_reader_65 : decode cX12_reader 65 = .ok (.iaload, 1) := dk_46 (by decide +kernel)
theorem dX12_reader_66 : decode cX12_reader 66 = .ok (.iadd, 1) := dk_96 (by decide +kernel)
theorem dX12_reader_67 : decode cX12_reader 67 = .ok (.iconst 0, 1) := dk_3 (by decide +kernel)
theorem dX12_reader_68 : decode cX12_reader 68 = .ok (.iastore, 1) := dk_79 (by decide +kernel)
theorem dX12_reader_69 : decode cX12_reader 69 = .ok (.aload_n 0, 1) := dk_42 (by decide +kernel)
theorem dX12_reader_70 : decode cX12_reader 70 = .ok (.getfield 7, 3) := dk_180 0 7 (by decide +kernel)
theorem dX12_reader_73 : decode cX12_reader 73 = .ok (.iconst 0, 1) := dk_3 (by decide +kernel)
theorem dX12_reader_74 : decode cX12_reader 74 = .ok (.dup2, 1) := dk_92 (by decide +kernel)
theorem dX12_reader_75 : decode cX12_reader 75 = .ok (.iaload, 1) := dk_46 (by decide +kernel)
theorem dX12_reader_76 : decode cX12_reader 76 = .ok (.iconst 1, 1) := dk_4 (by decide +kernel)
theorem dX12_reader_77 : decode cX12_reader 77 = .ok (.iadd, 1) := dk_96 (by decide +kernel)
theorem dX12_reader_78 : decode cX12_reader 78 = .ok (.iastore, 1) := dk_79 (by decide +kernel)
theorem dX12_reader_79 : decode cX12_reader 79 = .ok (.aload_n 0, 1) := dk_42 (by decide +kernel)
theorem dX12_reader_80 : decode cX12_reader 80 = .ok (.getfield 7, 3) := dk_180 0 7 (by decide +kernel)
theorem dX12_reader_83 : decode cX12_reader 83 = .ok (.iconst 0, 1) := dk_3 (by decide +kernel)
theorem dX12_reader_84 : decode cX12_reader 84 = .ok (.iaload, 1) := dk_46 (by decide +kernel)
theorem dX12_reader_85 : decode cX12_reader 85 = .ok (.iconst 1, 1) := dk_4 (by decide +kernel)
theorem dX12_reader_86 : decode cX12_reader 86 = .ok (.isub, 1) := dk_100 (by decide +kernel)
theorem dX12_reader_87 : decode cX12_reader 87 = .ok (.ireturn, 1) := dk_172 (by decide +kernel)
set_option maxRecDepth 8000 in
theorem e_X12_reader {g : ch_G} {A R : Nat} (hC : ck_Cx g A R) {d : Nat} {K : Option ck_V → ck_W → Prop} {w : ck_W} (h : (¬ (w 77 0) = 4 → ck_CI (ch_C g A R) d mX12_readText [.inr (.inr 76)] w (fun v3 w2 => (¬ v3 = 0 → (v3 = 0 → (0 ≤ (1260 + (w2 77 0)) ∧ (1260 + (w2 77 0)) < 1430) ∧ (∀ x12, x12 = (ck_up (ck_up (ck_up (ck_up w2 76 17 v3) 76 18 (w2 76 20)) 76 16 0) 77 (1260 + (w2 77 0)) 0) 77 0 → ck_i (x12 + 1) ∧ (ck_i ((x12 + 1) - 1) ∧ (K (some (.inl ((x12 + 1) - 1))) (ck_up (ck_up (ck_up (ck_up (ck_up w2 76 17 v3) 76 18 (w2 76 20)) 76 16 0) 77 (1260 + (w2 77 0)) 0) 77 0 (x12 + 1)))))) ∧ (¬ v3 = 0 → K (some (.inl (-1))) (ck_up (ck_up (ck_up w2 76 17 v3) 76 18 (w2 76 20)) 76 16 0))) ∧ (v3 = 0 → (v3 = 0 → (0 ≤ (1260 + (w2 77 0)) ∧ (1260 + (w2 77 0)) < 1430) ∧ (∀ x24, x24 = (ck_up (ck_up (ck_up (ck_up w2 76 17 v3) 76 18 (-1)) 76 16 0) 77 (1260 + (w2 77 0)) 0) 77 0 → ck_i (x24 + 1) ∧ (ck_i ((x24 + 1) - 1) ∧ (K (some (.inl ((x24 + 1) - 1))) (ck_up (ck_up (ck_up (ck_up (ck_up w2 76 17 v3) 76 18 (-1)) 76 16 0) 77 (1260 + (w2 77 0)) 0) 77 0 (x24 + 1)))))) ∧ (¬ v3 = 0 → K (some (.inl (-1))) (ck_up (ck_up (ck_up w2 76 17 v3) 76 18 (-1)) 76 16 0))))) ∧ ((w 77 0) = 4 → K (some (.inl (-1))) w)) : ck_Ex (ch_C g A R) (d + 1) mX12_reader [.inr (.inr 76)] w K :=
  ck_entry hC.1 [some (.inr (.inr 76))] (by decide) (Nat.le_of_ble_eq_true rfl) rfl (fun q => q) (ck_in (fun hl => (ck_aload_n 1 rfl 0 dX12_reader_0 rfl rfl (ck_getr 4 rfl dX12_reader_1 fl_X12_7 sh_76 rfl (ck_iconst 5 rfl dX12_reader_4 rfl (ck_iald 6 rfl dX12_reader_5 sh_77 (shn_77 hC) (by decide) _ rfl (fun (q1 : ck_i (w 77 0)) => (ck_iconst 7 rfl dX12_reader_6 rfl (ck_icmp_ne 10 rfl 12 dX12_reader_7 rfl q1 (show ck_i 4 by decide) (fun c34 => (ck_aload_n 13 rfl 0 dX12_reader_12 rfl rfl (ck_aload_n 14 rfl 0 dX12_reader_13 rfl rfl (ck_callV 17 rfl [] [.inr (.inr 76)] dX12_reader_14 cv_X12_298 sh_76 rfl rfl (Nat.le_of_ble_eq_true rfl) True.intro (ck_mI (h.1 c34) (fun v3 w2 q4 h5 => (ck_puti 20 rfl 17 dX12_reader_17 fp_X12_51 sh_76 rfl rfl q4 (ck_aload_n 21 rfl 0 dX12_reader_20 rfl rfl (ck_aload_n 22 rfl 0 dX12_reader_21 rfl rfl (ck_geti 25 rfl 17 dX12_reader_22 fl_X12_51 sh_76 rfl rfl _ rfl (fun (q6 : ck_i v3) => (ck_if_ne 28 rfl 32 dX12_reader_25 rfl q6 (fun c32 => (ck_aload_n 33 rfl 0 dX12_reader_32 rfl rfl (ck_geti 36 rfl 20 dX12_reader_33 fl_X12_189 sh_76 rfl rfl _ rfl (fun (q7 : ck_i (w2 76 20)) => (ck_puti 39 rfl 18 dX12_reader_36 fp_X12_55 sh_76 rfl rfl q7 (ck_aload_n 40 rfl 0 dX12_reader_39 rfl rfl (ck_iconst 41 rfl dX12_reader_40 rfl (ck_puti 44 rfl 16 dX12_reader_41 fp_X12_177 sh_76 rfl rfl (show ck_i 0 by decide) (ck_aload_n 45 rfl 0 dX12_reader_44 rfl rfl (ck_geti 48 rfl 17 dX12_reader_45 fl_X12_51 sh_76 rfl rfl _ rfl (fun (q8 : ck_i v3) => (have h36 := (h5.1 c32); (ck_if_eq 51 rfl 53 dX12_reader_48 rfl q8 (fun c18 => (ck_aload_n 54 rfl 0 dX12_reader_53 rfl rfl (ck_getr 57 rfl dX12_reader_54 fl_X12_7 sh_76 rfl (ck_sipush 60 rfl dX12_reader_57 rfl (ck_aload_n 61 rfl 0 dX12_reader_60 rfl rfl (ck_getr 64 rfl dX12_reader_61 fl_X12_7 sh_76 rfl (ck_iconst 65 rfl dX12_reader_64 rfl (ck_iald 66 rfl dX12_reader_65 sh_77 (shn_77 hC) (by decide) _ rfl (fun (q9 : ck_i (w2 77 0)) => (ck_iadd 67 rfl dX12_reader_66 (ck_iconst 68 rfl dX12_reader_67 rfl (have h38 := (h36.1 c18); have o10 := h38.1; have h37 := h38.2; (ck_iast 69 rfl dX12_reader_68 sh_77 (shn_77 hC) o10 (show ck_i 0 by decide) (ck_aload_n 70 rfl 0 dX12_reader_69 rfl rfl (ck_getr 73 rfl dX12_reader_70 fl_X12_7 sh_76 rfl (ck_iconst 74 rfl dX12_reader_73 rfl (ck_dup2 75 rfl dX12_reader_74 rfl rfl (ck_iald 76 rfl dX12_reader_75 sh_77 (shn_77 hC) (by decide) _ rfl (fun (q11 : ck_i ((ck_up (ck_up (ck_up (ck_up w2 76 17 v3) 76 18 (w2 76 20)) 76 16 0) 77 (1260 + (w2 77 0)) 0) 77 0)) => ck_nmi (fun x12 e13 => (have q14 : ck_i x12 := (by rw [e13]; exact q11); (ck_iconst 77 rfl dX12_reader_76 rfl (ck_iadd 78 rfl dX12_reader_77 (have h40 := (h37 x12 e13); have o15 := h40.1; have h39 := h40.2; (ck_iast 79 rfl dX12_reader_78 sh_77 (shn_77 hC) (by decide) o15 (ck_aload_n 80 rfl 0 dX12_reader_79 rfl rfl (ck_getr 83 rfl dX12_reader_80 fl_X12_7 sh_76 rfl (ck_iconst 84 rfl dX12_reader_83 rfl (ck_iald 85 rfl dX12_reader_84 sh_77 (shn_77 hC) (by decide) _ rfl (fun (q16 : ck_i (x12 + 1)) => (ck_iconst 86 rfl dX12_reader_85 rfl (ck_isub 87 rfl dX12_reader_86 (have h42 := h39; have o17 := h42.1; have h41 := h42.2; (ck_iret dX12_reader_87 rfl o17 h41)))))))))))))))))))))))))))))))))) (fun c19 => (ck_iconst 52 rfl dX12_reader_51 rfl (ck_iret dX12_reader_52 rfl (show ck_i (-1) by decide) (h36.2 c19))))))))))))))))) (fun c33 => (ck_iconst 29 rfl dX12_reader_28 rfl (ck_goto 36 dX12_reader_29 rfl (ck_puti 39 rfl 18 dX12_reader_36 fp_X12_55 sh_76 rfl rfl (show ck_i (-1) by decide) (ck_aload_n 40 rfl 0 dX12_reader_39 rfl rfl (ck_iconst 41 rfl dX12_reader_40 rfl (ck_puti 44 rfl 16 dX12_reader_41 fp_X12_177 sh_76 rfl rfl (show ck_i 0 by decide) (ck_aload_n 45 rfl 0 dX12_reader_44 rfl rfl (ck_geti 48 rfl 17 dX12_reader_45 fl_X12_51 sh_76 rfl rfl _ rfl (fun (q20 : ck_i v3) => (have h43 := (h5.2 c33); (ck_if_eq 51 rfl 53 dX12_reader_48 rfl q20 (fun c30 => (ck_aload_n 54 rfl 0 dX12_reader_53 rfl rfl (ck_getr 57 rfl dX12_reader_54 fl_X12_7 sh_76 rfl (ck_sipush 60 rfl dX12_reader_57 rfl (ck_aload_n 61 rfl 0 dX12_reader_60 rfl rfl (ck_getr 64 rfl dX12_reader_61 fl_X12_7 sh_76 rfl (ck_iconst 65 rfl dX12_reader_64 rfl (ck_iald 66 rfl dX12_reader_65 sh_77 (shn_77 hC) (by decide) _ rfl (fun (q21 : ck_i (w2 77 0)) => (ck_iadd 67 rfl dX12_reader_66 (ck_iconst 68 rfl dX12_reader_67 rfl (have h45 := (h43.1 c30); have o22 := h45.1; have h44 := h45.2; (ck_iast 69 rfl dX12_reader_68 sh_77 (shn_77 hC) o22 (show ck_i 0 by decide) (ck_aload_n 70 rfl 0 dX12_reader_69 rfl rfl (ck_getr 73 rfl dX12_reader_70 fl_X12_7 sh_76 rfl (ck_iconst 74 rfl dX12_reader_73 rfl (ck_dup2 75 rfl dX12_reader_74 rfl rfl (ck_iald 76 rfl dX12_reader_75 sh_77 (shn_77 hC) (by decide) _ rfl (fun (q23 : ck_i ((ck_up (ck_up (ck_up (ck_up w2 76 17 v3) 76 18 (-1)) 76 16 0) 77 (1260 + (w2 77 0)) 0) 77 0)) => ck_nmi (fun x24 e25 => (have q26 : ck_i x24 := (by rw [e25]; exact q23); (ck_iconst 77 rfl dX12_reader_76 rfl (ck_iadd 78 rfl dX12_reader_77 (have h47 := (h44 x24 e25); have o27 := h47.1; have h46 := h47.2; (ck_iast 79 rfl dX12_reader_78 sh_77 (shn_77 hC) (by decide) o27 (ck_aload_n 80 rfl 0 dX12_reader_79 rfl rfl (ck_getr 83 rfl dX12_reader_80 fl_X12_7 sh_76 rfl (ck_iconst 84 rfl dX12_reader_83 rfl (ck_iald 85 rfl dX12_reader_84 sh_77 (shn_77 hC) (by decide) _ rfl (fun (q28 : ck_i (x24 + 1)) => (ck_iconst 86 rfl dX12_reader_85 rfl (ck_isub 87 rfl dX12_reader_86 (have h49 := h46; have o29 := h49.1; have h48 := h49.2; (ck_iret dX12_reader_87 rfl o29 h48)))))))))))))))))))))))))))))))))) (fun c31 => (ck_iconst 52 rfl dX12_reader_51 rfl (ck_iret dX12_reader_52 rfl (show ck_i (-1) by decide) (h43.2 c31)))))))))))))))))))))))))))) (fun c35 => (ck_iconst 11 rfl dX12_reader_10 rfl (ck_iret dX12_reader_11 rfl (show ck_i (-1) by decide) (h.2 c35)))))))))))))
theorem M_reader {g : ch_G} {A R : Nat} (hC : ck_Cx g A R) {d : Nat} {K : Option ck_V → ck_W → Prop} {w : ck_W} (hI : rm_I A R w) (h : ∀ v w', rm_I A R w' → rm_fr w w' → w' 78 = w 78 → ((v = -1 ∧ w' 77 = w 77) ∨ (0 ≤ v ∧ v = w 77 0 ∧ w 77 0 < 4 ∧ w' 77 = rm_u (rm_u (w 77) (1260 + w 77 0) 0) 0 (w 77 0 + 1))) → (w 77 0 = 4 → v = -1 ∧ w' = w) → (¬ w 77 0 = 4 → w' 76 16 = 0) → K (some (.inl v)) w') : ck_Ex (ch_C g A R) (d + 10) mX12_reader [.inr (.inr 76)] w K := by
  have f0 := rm_c0 hI.2.2.2.1
  have t0 := hI.2.2.2.2.2.2.1
  refine e_X12_reader hC ⟨fun z => ?_, fun z => h (-1) w hI rm_fr_rf rfl (Or.inl ⟨rfl, rfl⟩) (fun _ => ⟨rfl, rfl⟩) (fun z' => absurd z z')⟩
  refine S_X12_readText hC hI (by omega) (fun v w2 p t => ⟨_, rfl, fun _ => ?_⟩)
  have e77 := p.1 77 (by decide) (by decide) (by decide)
  have e78 := p.1 78 (by decide) (by decide) (by decide)
  have old : rm_T (w2 79) (w 77 0) := rm_T_c hI.2.2.2.2.2.2.2.2 p.2.2.1
  have e22 := p.2.2.2 t0.2
  -- the fields anew
  have fld : ∀ (a b : Int) (j : Int), j < 16 → (ck_up (ck_up (ck_up w2 76 17 a) 76 18 b) 76 16 0) 76 j = w 76 j := fun a b j hj => by rw [ck_up_nj (by omega), ck_up_nj (by omega), ck_up_nj (by omega)]; exact p.2.1 j (by omega)
  have f16 : ∀ (a b : Int), (ck_up (ck_up (ck_up w2 76 17 a) 76 18 b) 76 16 0) 76 16 = 0 := fun a b => ck_up_eq
  have f22 : ∀ (a b : Int), 0 ≤ (ck_up (ck_up (ck_up w2 76 17 a) 76 18 b) 76 16 0) 76 22 := fun a b => by rw [ck_up_nj (by decide), ck_up_nj (by decide), ck_up_nj (by decide)]; exact e22
  have fot : ∀ (a b : Int) (k : Nat), k ≠ 76 → (ck_up (ck_up (ck_up w2 76 17 a) 76 18 b) 76 16 0) k = w2 k := fun a b k hk => by rw [ck_up_ne hk, ck_up_ne hk, ck_up_ne hk]
  obtain ⟨ia, ib, ic, ie, if', ig, ik, il, im⟩ := hI
  refine ⟨fun e => ⟨fun e' => absurd e' e, fun _ => ?_⟩, fun e => ⟨fun _ => ?_, fun e' => absurd e e'⟩⟩
  · have fl := fld v (w2 76 20)
    have g16 := f16 v (w2 76 20)
    have g22 := f22 v (w2 76 20)
    have ot := fot v (w2 76 20)
    generalize (ck_up (ck_up (ck_up w2 76 17 v) 76 18 (w2 76 20)) 76 16 0) = U at *
    have o77 : U 77 = w 77 := (ot 77 (by decide)).trans e77
    have o78 : U 78 = w 78 := (ot 78 (by decide)).trans e78
    refine h (-1) U ⟨?_, ?_, ?_, ?_, ?_, ?_, ⟨?_, g22⟩, ?_, ?_⟩ (fun k hk => (ot k (by omega)).trans (p.1 k (by omega) (by omega) (by omega))) o78 (Or.inl ⟨rfl, o77⟩) (fun z' => absurd z' z) (fun _ => g16)
    · rw [fl 0 (by decide)]; exact ia
    · rw [fl 1 (by decide)]; exact ib
    · rw [fl 2 (by decide)]; exact ic
    · rw [o77]; exact ie
    · rw [o78]; exact if'
    · rw [o77, o78]; exact ig
    · omega
    · omega
    · rw [ot 79 (by decide), o77]; exact old
  · have fl := fld v (-1)
    have g16 := f16 v (-1)
    have g22 := f22 v (-1)
    have ot := fot v (-1)
    generalize (ck_up (ck_up (ck_up w2 76 17 v) 76 18 (-1)) 76 16 0) = U at *
    have o77 : U 77 = w 77 := (ot 77 (by decide)).trans e77
    have o78 : U 78 = w 78 := (ot 78 (by decide)).trans e78
    rw [e77]
    refine ⟨by omega, fun x ex => ?_⟩
    rw [ck_up_nj (by omega), o77] at ex
    subst ex
    rw [show w 77 0 + 1 - 1 = w 77 0 by omega]
    have row : (ck_up (ck_up U 77 (1260 + w 77 0) 0) 77 0 (w 77 0 + 1)) 77 = rm_u (rm_u (w 77) (1260 + w 77 0) 0) 0 (w 77 0 + 1) := by rw [ck_up_row, ck_up_row, o77]
    have oth : ∀ k, k ≠ 77 → (ck_up (ck_up U 77 (1260 + w 77 0) 0) 77 0 (w 77 0 + 1)) k = U k := fun k hk => by rw [ck_up_ne hk, ck_up_ne hk]
    have b1 := rh_learnt (A := A) (R := R) (r := w 77 0) (by omega) (by omega)
    have b2 : rm_lo 0 = 0 ∧ rm_hi A R 0 = 4 := ⟨rfl, rfl⟩
    have good : rm_A A R (rm_u (rm_u (w 77) (1260 + w 77 0) 0) 0 (w 77 0 + 1)) := rm_up (rm_up ie (by omega) (by omega) (by omega) (by omega) (by omega)) (by omega) (by omega) (by omega) (by omega) (by omega)
    generalize (ck_up (ck_up U 77 (1260 + w 77 0) 0) 77 0 (w 77 0 + 1)) = V at *
    refine ⟨by constructor <;> omega, by constructor <;> omega, h (w 77 0) V ⟨?_, ?_, ?_, ?_, ?_, ?_, ⟨?_, ?_⟩, ?_, ?_⟩ (fun k hk => (oth k (by omega)).trans ((ot k (by omega)).trans (p.1 k (by omega) (by omega) (by omega)))) ((oth 78 (by decide)).trans o78) (Or.inr ⟨by omega, rfl, by omega, row⟩) (fun z' => absurd z' z) (fun _ => by rw [oth 76 (by decide)]; exact g16)⟩
    · rw [oth 76 (by decide), fl 0 (by decide)]; exact ia
    · rw [oth 76 (by decide), fl 1 (by decide)]; exact ib
    · rw [oth 76 (by decide), fl 2 (by decide)]; exact ic
    · rw [row]; exact good
    · rw [oth 78 (by decide), o78]; exact if'
    · rw [row, rm_u_eq, oth 78 (by decide), o78]; omega
    · rw [oth 76 (by decide)]; omega
    · rw [oth 76 (by decide)]; omega
    · rw [oth 76 (by decide)]; omega
    · rw [row, rm_u_eq, oth 79 (by decide), ot 79 (by decide)]
      intro r r0 r1
      by_cases q : r = w 77 0
      · rw [q]; exact t e
      · exact old r r0 (by omega)
