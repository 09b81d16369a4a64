/-! ===== how many bits, by the class's library ===== -/
def bc1 (a : Int) : Int := a - ck_and (ck_ushr a 1) 1431655765
def bc2 (a : Int) : Int := ck_and a 858993459 + ck_and (ck_ushr a 2) 858993459
def bc3 (a : Int) : Int := ck_and (a + ck_ushr a 4) 252645135
def bc4 (a : Int) : Int := a + ck_ushr a 8
def bc5 (a : Int) : Int := bc4 a + ck_ushr (bc4 a) 16
def bcs (n : Nat) : Bool := decide (0 ≤ bc1 n ∧ bc1 n ≤ 1000000) && decide (0 ≤ bc2 (bc1 n) ∧ bc2 (bc1 n) ≤ 1000000) && decide (0 ≤ bc4 (bc3 (bc2 (bc1 n))) ∧ bc4 (bc3 (bc2 (bc1 n))) ≤ 1000000) && decide (0 ≤ bc5 (bc3 (bc2 (bc1 n))) ∧ bc5 (bc3 (bc2 (bc1 n))) ≤ 1000000) && decide (ck_and (bc5 (bc3 (bc2 (bc1 n)))) 63 = ck_on 9 n)
theorem bcs_all : (List.range 512).all bcs = true := by decide +kernel
theorem bcs_at {x : Int} (h : 0 ≤ x ∧ x < 512) : (0 ≤ bc1 x ∧ bc1 x ≤ 1000000) ∧ (0 ≤ bc2 (bc1 x) ∧ bc2 (bc1 x) ≤ 1000000) ∧ (0 ≤ bc4 (bc3 (bc2 (bc1 x))) ∧ bc4 (bc3 (bc2 (bc1 x))) ≤ 1000000) ∧ (0 ≤ bc5 (bc3 (bc2 (bc1 x))) ∧ bc5 (bc3 (bc2 (bc1 x))) ≤ 1000000) ∧ ck_and (bc5 (bc3 (bc2 (bc1 x)))) 63 = ck_on 9 x := by
  have e : ((x.toNat : Nat) : Int) = x := by omega
  have a := List.all_eq_true.mp bcs_all x.toNat (List.mem_range.mpr (by omega))
  unfold bcs at a
  rw [e] at a
  simp only [Bool.and_eq_true, decide_eq_true_eq] at a
  exact ⟨a.1.1.1.1, a.1.1.1.2, a.1.1.2, a.1.2, a.2⟩
theorem dJ6_bitCount_0f7a4_0 : decode cJ6_bitCount_0f7a4 0 = .ok (.iload_n 0, 1) := dk_26 (by decide +kernel)
theorem dJ6_bitCount_0f7a4_1 : decode cJ6_bitCount_0f7a4 1 = .ok (.iload_n 0, 1) := dk_26 (by decide +kernel)
theorem dJ6_bitCount_0f7a4_2 : decode cJ6_bitCount_0f7a4 2 = .ok (.iconst 1, 1) := dk_4 (by decide +kernel)
theorem dJ6_bitCount_0f7a4_3 : decode cJ6_bitCount_0f7a4 3 = .ok (.iushr, 1) := dk_124 (by decide +kernel)
theorem dJ6_bitCount_0f7a4_4 : decode cJ6_bitCount_0f7a4 4 = .ok (.ldc_w 265, 3) := dk_19 1 9 (by decide +kernel)
theorem dJ6_bitCount_0f7a4_7 : decode cJ6_bitCount_0f7a4 7 = .ok (.iand, 1) := dk_126 (by decide +kernel)
theorem dJ6_bitCount_0f7a4_8 : decode cJ6_bitCount_0f7a4 8 = .ok (.isub, 1) := dk_100 (by decide +kernel)
theorem dJ6_bitCount_0f7a4_9 : decode cJ6_bitCount_0f7a4 9 = .ok (.istore_n 0, 1) := dk_59 (by decide +kernel)
theorem dJ6_bitCount_0f7a4_10 : decode cJ6_bitCount_0f7a4 10 = .ok (.iload_n 0, 1) := dk_26 (by decide +kernel)
theorem dJ6_bitCount_0f7a4_11 : decode cJ6_bitCount_0f7a4 11 = .ok (.ldc_w 266, 3) := dk_19 1 10 (by decide +kernel)
theorem dJ6_bitCount_0f7a4_14 : decode cJ6_bitCount_0f7a4 14 = .ok (.iand, 1) := dk_126 (by decide +kernel)
theorem dJ6_bitCount_0f7a4_15 : decode cJ6_bitCount_0f7a4 15 = .ok (.iload_n 0, 1) := dk_26 (by decide +kernel)
theorem dJ6_bitCount_0f7a4_16 : decode cJ6_bitCount_0f7a4 16 = .ok (.iconst 2, 1) := dk_5 (by decide +kernel)
theorem dJ6_bitCount_0f7a4_17 : decode cJ6_bitCount_0f7a4 17 = .ok (.iushr, 1) := dk_124 (by decide +kernel)
theorem dJ6_bitCount_0f7a4_18 : decode cJ6_bitCount_0f7a4 18 = .ok (.ldc_w 266, 3) := dk_19 1 10 (by decide +kernel)
theorem dJ6_bitCount_0f7a4_21 : decode cJ6_bitCount_0f7a4 21 = .ok (.iand, 1) := dk_126 (by decide +kernel)
theorem dJ6_bitCount_0f7a4_22 : decode cJ6_bitCount_0f7a4 22 = .ok (.iadd, 1) := dk_96 (by decide +kernel)
theorem dJ6_bitCount_0f7a4_23 : decode cJ6_bitCount_0f7a4 23 = .ok (.istore_n 0, 1) := dk_59 (by decide +kernel)
theorem dJ6_bitCount_0f7a4_24 : decode cJ6_bitCount_0f7a4 24 = .ok (.iload_n 0, 1) := dk_26 (by decide +kernel)
theorem dJ6_bitCount_0f7a4_25 : decode cJ6_bitCount_0f7a4 25 = .ok (.iload_n 0, 1) := dk_26 (by decide +kernel)
theorem dJ6_bitCount_0f7a4_26 : decode cJ6_bitCount_0f7a4 26 = .ok (.iconst 4, 1) := dk_7 (by decide +kernel)
theorem dJ6_bitCount_0f7a4_27 : decode cJ6_bitCount_0f7a4 27 = .ok (.iushr, 1) := dk_124 (by decide +kernel)
theorem dJ6_bitCount_0f7a4_28 : decode cJ6_bitCount_0f7a4 28 = .ok (.iadd, 1) := dk_96 (by decide +kernel)
theorem dJ6_bitCount_0f7a4_29 : decode cJ6_bitCount_0f7a4 29 = .ok (.ldc_w 267, 3) := dk_19 1 11 (by decide +kernel)
theorem dJ6_bitCount_0f7a4_32 : decode cJ6_bitCount_0f7a4 32 = .ok (.iand, 1) := dk_126 (by decide +kernel)
theorem dJ6_bitCount_0f7a4_33 : decode cJ6_bitCount_0f7a4 33 = .ok (.istore_n 0, 1) := dk_59 (by decide +kernel)
theorem dJ6_bitCount_0f7a4_34 : decode cJ6_bitCount_0f7a4 34 = .ok (.iload_n 0, 1) := dk_26 (by decide +kernel)
theorem dJ6_bitCount_0f7a4_35 : decode cJ6_bitCount_0f7a4 35 = .ok (.iload_n 0, 1) := dk_26 (by decide +kernel)
theorem dJ6_bitCount_0f7a4_36 : decode cJ6_bitCount_0f7a4 36 = .ok (.bipush 8, 2) := dk_16 8 (by decide +kernel)
theorem dJ6_bitCount_0f7a4_38 : decode cJ6_bitCount_0f7a4 38 = .ok (.iushr, 1) := dk_124 (by decide +kernel)
theorem dJ6_bitCount_0f7a4_39 : decode cJ6_bitCount_0f7a4 39 = .ok (.iadd, 1) := dk_96 (by decide +kernel)
theorem dJ6_bitCount_0f7a4_40 : decode cJ6_bitCount_0f7a4 40 = .ok (.istore_n 0, 1) := dk_59 (by decide +kernel)
theorem dJ6_bitCount_0f7a4_41 : decode cJ6_bitCount_0f7a4 41 = .ok (.iload_n 0, 1) := dk_26 (by decide +kernel)
theorem dJ6_bitCount_0f7a4_42 : decode cJ6_bitCount_0f7a4 42 = .ok (.iload_n 0, 1) := dk_26 (by decide +kernel)
theorem dJ6_bitCount_0f7a4_43 : decode cJ6_bitCount_0f7a4 43 = .ok (.bipush 16, 2) := dk_16 16 (by decide +kernel)
theorem dJ6_bitCount_0f7a4_45 : decode cJ6_bitCount_0f7a4 45 = .ok (.iushr, 1) := dk_124 (by decide +kernel)
theorem dJ6_bitCount_0f7a4_46 : decode cJ6_bitCount_0f7a4 46 = .ok (.iadd, 1) := dk_96 (by decide +kernel)
theorem dJ6_bitCount_0f7a4_47 : decode cJ6_bitCount_0f7a4 47 = .ok (.istore_n 0, 1) := dk_59 (by decide +kernel)
theorem dJ6_bitCount_0f7a4_48 : decode cJ6_bitCount_0f7a4 48 = .ok (.iload_n 0, 1) := dk_26 (by decide +kernel)
theorem dJ6_bitCount_0f7a4_49 : decode cJ6_bitCount_0f7a4 49 = .ok (.bipush 63, 2) := dk_16 63 (by decide +kernel)
theorem dJ6_bitCount_0f7a4_51 : decode cJ6_bitCount_0f7a4 51 = .ok (.iand, 1) := dk_126 (by decide +kernel)
theorem dJ6_bitCount_0f7a4_52 : decode cJ6_bitCount_0f7a4 52 = .ok (.ireturn, 1) := dk_172 (by decide +kernel)
set_option maxRecDepth 8000 in
theorem e_J6_bitCount_0f7a4 {g : ch_G} {A R : Nat} (hC : ck_Cx g A R) {d : Nat} {K : Option ck_V → ck_W → Prop} {w : ck_W} {a0 : Int} (h : ∀ x1, x1 = a0 - (ck_and (ck_ushr a0 1) 1431655765) → ck_i x1 ∧ (∀ x4, x4 = (ck_and x1 858993459) + (ck_and (ck_ushr x1 2) 858993459) → ck_i x4 ∧ (∀ x7, x7 = ck_and (x4 + (ck_ushr x4 4)) 252645135 → ck_i (x7 + (ck_ushr x7 8)) ∧ (∀ x10, x10 = (x7 + (ck_ushr x7 8)) + (ck_ushr (x7 + (ck_ushr x7 8)) 16) → ck_i x10 ∧ (K (some (.inl (ck_and x10 63))) w))))) : ck_Ex (ch_C g A R) d mJ6_bitCount_0f7a4 [.inl a0] w K :=
  ck_entry hC.1 [some (.inl a0)] (by decide) (Nat.le_of_ble_eq_true rfl) rfl (fun q => q) (ck_in (fun hl => (ck_iload_n 1 rfl 0 dJ6_bitCount_0f7a4_0 rfl rfl (ck_iload_n 2 rfl 0 dJ6_bitCount_0f7a4_1 rfl rfl (ck_iconst 3 rfl dJ6_bitCount_0f7a4_2 rfl (ck_iushr 4 rfl dJ6_bitCount_0f7a4_3 (ck_ldcw 7 rfl 1431655765 kc_J6_265 dJ6_bitCount_0f7a4_4 rfl (ck_iand 8 rfl dJ6_bitCount_0f7a4_7 (ck_isub 9 rfl dJ6_bitCount_0f7a4_8 (ck_nmi (fun x1 e2 => (have h14 := (h x1 e2); have o3 := h14.1; have h13 := h14.2; (ck_istore_n 10 rfl 0 [some (.inl x1)] dJ6_bitCount_0f7a4_9 rfl (Nat.le_of_ble_eq_true rfl) rfl rfl o3 (ck_iload_n 11 rfl 0 dJ6_bitCount_0f7a4_10 rfl rfl (ck_ldcw 14 rfl 858993459 kc_J6_266 dJ6_bitCount_0f7a4_11 rfl (ck_iand 15 rfl dJ6_bitCount_0f7a4_14 (ck_iload_n 16 rfl 0 dJ6_bitCount_0f7a4_15 rfl rfl (ck_iconst 17 rfl dJ6_bitCount_0f7a4_16 rfl (ck_iushr 18 rfl dJ6_bitCount_0f7a4_17 (ck_ldcw 21 rfl 858993459 kc_J6_266 dJ6_bitCount_0f7a4_18 rfl (ck_iand 22 rfl dJ6_bitCount_0f7a4_21 (ck_iadd 23 rfl dJ6_bitCount_0f7a4_22 (ck_nmi (fun x4 e5 => (have h16 := (h13 x4 e5); have o6 := h16.1; have h15 := h16.2; (ck_istore_n 24 rfl 0 [some (.inl x4)] dJ6_bitCount_0f7a4_23 rfl (Nat.le_of_ble_eq_true rfl) rfl rfl o6 (ck_iload_n 25 rfl 0 dJ6_bitCount_0f7a4_24 rfl rfl (ck_iload_n 26 rfl 0 dJ6_bitCount_0f7a4_25 rfl rfl (ck_iconst 27 rfl dJ6_bitCount_0f7a4_26 rfl (ck_iushr 28 rfl dJ6_bitCount_0f7a4_27 (ck_iadd 29 rfl dJ6_bitCount_0f7a4_28 (ck_ldcw 32 rfl 252645135 kc_J6_267 dJ6_bitCount_0f7a4_29 rfl (ck_iand 33 rfl dJ6_bitCount_0f7a4_32 (ck_nmi (fun x7 e8 => (ck_istore_n 34 rfl 0 [some (.inl x7)] dJ6_bitCount_0f7a4_33 rfl (Nat.le_of_ble_eq_true rfl) rfl rfl (by rw [e8]; exact (ck_rng _)) (ck_iload_n 35 rfl 0 dJ6_bitCount_0f7a4_34 rfl rfl (ck_iload_n 36 rfl 0 dJ6_bitCount_0f7a4_35 rfl rfl (ck_bipush 38 rfl dJ6_bitCount_0f7a4_36 rfl (ck_iushr 39 rfl dJ6_bitCount_0f7a4_38 (ck_iadd 40 rfl dJ6_bitCount_0f7a4_39 (have h18 := (h15 x7 e8); have o9 := h18.1; have h17 := h18.2; (ck_istore_n 41 rfl 0 [some (.inl (x7 + (ck_ushr x7 8)))] dJ6_bitCount_0f7a4_40 rfl (Nat.le_of_ble_eq_true rfl) rfl rfl o9 (ck_iload_n 42 rfl 0 dJ6_bitCount_0f7a4_41 rfl rfl (ck_iload_n 43 rfl 0 dJ6_bitCount_0f7a4_42 rfl rfl (ck_bipush 45 rfl dJ6_bitCount_0f7a4_43 rfl (ck_iushr 46 rfl dJ6_bitCount_0f7a4_45 (ck_iadd 47 rfl dJ6_bitCount_0f7a4_46 (ck_nmi (fun x10 e11 => (have h20 := (h17 x10 e11); have o12 := h20.1; have h19 := h20.2; (ck_istore_n 48 rfl 0 [some (.inl x10)] dJ6_bitCount_0f7a4_47 rfl (Nat.le_of_ble_eq_true rfl) rfl rfl o12 (ck_iload_n 49 rfl 0 dJ6_bitCount_0f7a4_48 rfl rfl (ck_bipush 51 rfl dJ6_bitCount_0f7a4_49 rfl (ck_iand 52 rfl dJ6_bitCount_0f7a4_51 (ck_iret dJ6_bitCount_0f7a4_52 rfl (ck_rng _) h19))))))))))))))))))))))))))))))))))))))))))))))))))))))))
theorem p_bitCount {g : ch_G} {A R : Nat} (hC : ck_Cx g A R) {d : Nat} {K : Option ck_V → ck_W → Prop} {w : ck_W} {a0 : Int} (h0 : 0 ≤ a0 ∧ a0 < 512) (h : K (some (.inl (ck_on 9 a0))) w) : ck_Ex (ch_C g A R) d mJ6_bitCount_0f7a4 [.inl a0] w K := by
  obtain ⟨b1, b2, b4, b5, b6⟩ := bcs_at h0
  refine e_J6_bitCount_0f7a4 hC (fun x1 e1 => ?_)
  have f1 : x1 = bc1 a0 := e1
  rw [f1]
  refine ⟨by constructor <;> omega, fun x4 e4 => ?_⟩
  have f4 : x4 = bc2 (bc1 a0) := e4
  rw [f4]
  refine ⟨by constructor <;> omega, fun x7 e7 => ?_⟩
  have f7 : x7 = bc3 (bc2 (bc1 a0)) := e7
  rw [f7]
  have g7 : bc3 (bc2 (bc1 a0)) + ck_ushr (bc3 (bc2 (bc1 a0))) 8 = bc4 (bc3 (bc2 (bc1 a0))) := rfl
  rw [g7]
  refine ⟨by constructor <;> omega, fun x10 e10 => ?_⟩
  have f10 : x10 = bc5 (bc3 (bc2 (bc1 a0))) := e10
  rw [f10]
  refine ⟨by constructor <;> omega, ?_⟩
  rw [b6]
  exact h
/-- letters as nine bits -/
def cs_L (w : ck_W) : Prop := (0 ≤ w 15 2 ∧ w 15 2 ≤ 12) ∧ ∀ k, 0 ≤ k → k < w 15 2 → 0 ≤ w 16 k ∧ w 16 k < 512
theorem dX2_like_0 : decode cX2_like 0 = .ok (.aload_n 0, 1) := dk_42 (by decide +kernel)
theorem dX2_like_1 : decode cX2_like 1 = .ok (.iload_n 1, 1) := dk_27 (by decide +kernel)
theorem dX2_like_2 : decode cX2_like 2 = .ok (.invokevirtual 45, 3) := dk_182 0 45 (by decide +kernel)
theorem dX2_like_5 : decode cX2_like 5 = .ok (.ifCond .eq 20, 3) := dk_153 0 20 (by decide +kernel)
theorem dX2_like_8 : decode cX2_like 8 = .ok (.bipush 9, 2) := dk_16 9 (by decide +kernel)
theorem dX2_like_10 : decode cX2_like 10 = .ok (.aload_n 0, 1) := dk_42 (by decide +kernel)
theorem dX2_like_11 : decode cX2_like 11 = .ok (.getfield 9, 3) := dk_180 0 9 (by decide +kernel)
theorem dX2_like_14 : decode cX2_like 14 = .ok (.iload_n 1, 1) := dk_27 (by decide +kernel)
theorem dX2_like_15 : decode cX2_like 15 = .ok (.iaload, 1) := dk_46 (by decide +kernel)
theorem dX2_like_16 : decode cX2_like 16 = .ok (.iload_n 2, 1) := dk_28 (by decide +kernel)
theorem dX2_like_17 : decode cX2_like 17 = .ok (.ixor, 1) := dk_130 (by decide +kernel)
theorem dX2_like_18 : decode cX2_like 18 = .ok (.invokestatic 53, 3) := dk_184 0 53 (by decide +kernel)
theorem dX2_like_21 : decode cX2_like 21 = .ok (.isub, 1) := dk_100 (by decide +kernel)
theorem dX2_like_22 : decode cX2_like 22 = .ok (.goto 4, 3) := dk_167 0 4 (by decide +kernel)
theorem dX2_like_25 : decode cX2_like 25 = .ok (.iconst 0, 1) := dk_3 (by decide +kernel)
theorem dX2_like_26 : decode cX2_like 26 = .ok (.ireturn, 1) := dk_172 (by decide +kernel)
set_option maxRecDepth 8000 in
theorem e_X2_like {g : ch_G} {A R : Nat} (hC : ck_Cx g A R) {d : Nat} {K : Option ck_V → ck_W → Prop} {w : ck_W} {a1 a2 : Int} (h : (0 ≤ (w 15 2) ∧ (w 15 2) ≤ 1000) ∧ ((0 ≤ a1 ∧ a1 ≤ (w 15 2) - 1 → (0 ≤ a1 ∧ a1 < 12) ∧ (ck_CI (ch_C g A R) (d + 1) mJ6_bitCount_0f7a4 [.inl (ck_xor (w 16 a1) a2)] w (fun v5 w4 => ck_i (9 - v5) ∧ (K (some (.inl (9 - v5))) w4)))) ∧ (¬ (0 ≤ a1 ∧ a1 ≤ (w 15 2) - 1) → K (some (.inl 0)) w))) : ck_Ex (ch_C g A R) (d + 2) mX2_like [.inr (.inr 15), .inl a1, .inl a2] w K :=
  ck_entry hC.1 [some (.inr (.inr 15)), some (.inl a1), some (.inl a2)] (by decide) (Nat.le_of_ble_eq_true rfl) rfl (fun q => q) (ck_in (fun hl => (ck_aload_n 1 rfl 0 dX2_like_0 rfl rfl (ck_iload_n 2 rfl 1 dX2_like_1 rfl rfl (have h13 := h; have o1 := h13.1; have h12 := h13.2; (have h11 := h12; ck_callV 5 rfl [.inl a1] [] dX2_like_2 cv_X2_45 sh_15 rfl rfl (Nat.le_of_ble_eq_true rfl) (And.intro hl.2.1 True.intro) (p_X2_hasLetter hC o1 (fun c9 _ => (ck_if_eq 8 rfl 25 dX2_like_5 rfl (by decide) (fun q => absurd q (by decide)) (fun _ => (ck_bipush 10 rfl dX2_like_8 rfl (ck_aload_n 11 rfl 0 dX2_like_10 rfl rfl (ck_getr 14 rfl dX2_like_11 fl_X2_9 sh_15 rfl (ck_iload_n 15 rfl 1 dX2_like_14 rfl rfl (have h15 := (h11.1 c9); have o2 := h15.1; have h14 := h15.2; (ck_iald 16 rfl dX2_like_15 sh_16 (shn_16 hC) o2 _ rfl (fun (q3 : ck_i (w 16 a1)) => (ck_iload_n 17 rfl 2 dX2_like_16 rfl rfl (ck_ixor 18 rfl dX2_like_17 (ck_callS 21 rfl [.inl (ck_xor (w 16 a1) a2)] [.inl 9] dX2_like_18 cs_X2_53 rfl rfl (Nat.le_of_ble_eq_true rfl) (And.intro (ck_rng _) True.intro) (ck_mI h14 (fun v5 w4 q6 h7 => (ck_isub 22 rfl dX2_like_21 (ck_goto 26 dX2_like_22 rfl (have h17 := h7; have o8 := h17.1; have h16 := h17.2; (ck_iret dX2_like_26 rfl o8 h16))))))))))))))))))) (fun c10 _ => (ck_if_eq 8 rfl 25 dX2_like_5 rfl (by decide) (fun _ => (ck_iconst 26 rfl dX2_like_25 rfl (ck_iret dX2_like_26 rfl (show ck_i 0 by decide) (h11.2 c10)))) (fun q => absurd q (by decide)))))))))))
theorem p_X2_like {g : ch_G} {A R : Nat} (hC : ck_Cx g A R) {d : Nat} {K : Option ck_V → ck_W → Prop} {w : ck_W} {a1 a2 : Int} (hL : cs_L w) (h2 : 0 ≤ a2 ∧ a2 < 512) (h1 : 0 ≤ a1 ∧ a1 < w 15 2) (h : K (some (.inl (9 - ck_on 9 (ck_xor (w 16 a1) a2)))) w) : ck_Ex (ch_C g A R) (d + 2) mX2_like [.inr (.inr 15), .inl a1, .inl a2] w K := by
  have l0 := hL.1
  have x := kb_xor9 (hL.2 a1 h1.1 h1.2) h2
  have o := ck_onb x 9 (by omega)
  have no : ∀ q : ¬ (0 ≤ a1 ∧ a1 ≤ w 15 2 - 1), K (some (.inl 0)) w := fun q => absurd ⟨h1.1, by clear o; omega⟩ q
  refine e_X2_like hC ⟨⟨l0.1, by clear o; omega⟩, fun _ => ⟨⟨h1.1, by clear o; omega⟩, p_bitCount hC x ?_⟩, no⟩
  generalize ck_on 9 (ck_xor (w 16 a1) a2) = v at *
  refine ⟨v, rfl, fun _ => ⟨by constructor <;> omega, h⟩⟩
theorem dX2_someLike_0 : decode cX2_someLike 0 = .ok (.iconst 0, 1) := dk_3 (by decide +kernel)
theorem dX2_someLike_1 : decode cX2_someLike 1 = .ok (.istore_n 3, 1) := dk_62 (by decide +kernel)
theorem dX2_someLike_2 : decode cX2_someLike 2 = .ok (.iload_n 3, 1) := dk_29 (by decide +kernel)
theorem dX2_someLike_3 : decode cX2_someLike 3 = .ok (.aload_n 0, 1) := dk_42 (by decide +kernel)
theorem dX2_someLike_4 : decode cX2_someLike 4 = .ok (.getfield 35, 3) := dk_180 0 35 (by decide +kernel)
theorem dX2_someLike_7 : decode cX2_someLike 7 = .ok (.if_icmp .ge 29, 3) := dk_162 0 29 (by decide +kernel)
theorem dX2_someLike_10 : decode cX2_someLike 10 = .ok (.bipush 9, 2) := dk_16 9 (by decide +kernel)
theorem dX2_someLike_12 : decode cX2_someLike 12 = .ok (.aload_n 0, 1) := dk_42 (by decide +kernel)
theorem dX2_someLike_13 : decode cX2_someLike 13 = .ok (.getfield 9, 3) := dk_180 0 9 (by decide +kernel)
theorem dX2_someLike_16 : decode cX2_someLike 16 = .ok (.iload_n 3, 1) := dk_29 (by decide +kernel)
theorem dX2_someLike_17 : decode cX2_someLike 17 = .ok (.iaload, 1) := dk_46 (by decide +kernel)
theorem dX2_someLike_18 : decode cX2_someLike 18 = .ok (.iload_n 1, 1) := dk_27 (by decide +kernel)
theorem dX2_someLike_19 : decode cX2_someLike 19 = .ok (.ixor, 1) := dk_130 (by decide +kernel)
theorem dX2_someLike_20 : decode cX2_someLike 20 = .ok (.invokestatic 53, 3) := dk_184 0 53 (by decide +kernel)
theorem dX2_someLike_23 : decode cX2_someLike 23 = .ok (.isub, 1) := dk_100 (by decide +kernel)
theorem dX2_someLike_24 : decode cX2_someLike 24 = .ok (.iload_n 2, 1) := dk_28 (by decide +kernel)
theorem dX2_someLike_25 : decode cX2_someLike 25 = .ok (.if_icmp .lt 5, 3) := dk_161 0 5 (by decide +kernel)
theorem dX2_someLike_28 : decode cX2_someLike 28 = .ok (.iconst 1, 1) := dk_4 (by decide +kernel)
theorem dX2_someLike_29 : decode cX2_someLike 29 = .ok (.ireturn, 1) := dk_172 (by decide +kernel)
theorem dX2_someLike_30 : decode cX2_someLike 30 = .ok (.iinc 3 1, 3) := dk_132 1 (by decide +kernel)
theorem dX2_someLike_33 : decode cX2_someLike 33 = .ok (.goto (-31), 3) := dk_167 255 225 (by decide +kernel)
theorem dX2_someLike_36 : decode cX2_someLike 36 = .ok (.iconst 0, 1) := dk_3 (by decide +kernel)
theorem dX2_someLike_37 : decode cX2_someLike 37 = .ok (.ireturn, 1) := dk_172 (by decide +kernel)
set_option maxRecDepth 8000 in
theorem e_X2_someLike {g : ch_G} {A R : Nat} (hC : ck_Cx g A R) {d : Nat} {K : Option ck_V → ck_W → Prop} {w : ck_W} {a1 a2 : Int} (h : ck_At (ch_C g A R) (d + 1) mX2_someLike K 2 [some (.inr (.inr 15)), some (.inl a1), some (.inl a2), some (.inl 0)] [] w) : ck_Ex (ch_C g A R) (d + 1) mX2_someLike [.inr (.inr 15), .inl a1, .inl a2] w K :=
  ck_entry hC.1 [some (.inr (.inr 15)), some (.inl a1), some (.inl a2), none] (by decide) (Nat.le_of_ble_eq_true rfl) rfl (fun q => q) (ck_in (fun hl => (ck_iconst 1 rfl dX2_someLike_0 rfl (ck_istore_n 2 rfl 3 [some (.inr (.inr 15)), some (.inl a1), some (.inl a2), some (.inl 0)] dX2_someLike_1 rfl (Nat.le_of_ble_eq_true rfl) rfl rfl (show ck_i 0 by decide) h))))
set_option maxRecDepth 8000 in
theorem r_X2_someLike_2 {g : ch_G} {A R : Nat} (hC : ck_Cx g A R) {d : Nat} {K : Option ck_V → ck_W → Prop} {w : ck_W} {a1 a2 a3 : Int} (h : ((w 15 2) ≤ a3 → K (some (.inl 0)) w) ∧ (¬ (w 15 2) ≤ a3 → (0 ≤ a3 ∧ a3 < 12) ∧ (ck_CI (ch_C g A R) d mJ6_bitCount_0f7a4 [.inl (ck_xor (w 16 a3) a1)] w (fun v5 w4 => ck_i (9 - v5) ∧ (((9 - v5) < a2 → ck_i (a3 + 1) ∧ (ck_At (ch_C g A R) (d + 1) mX2_someLike K 2 [some (.inr (.inr 15)), some (.inl a1), some (.inl a2), some (.inl (a3 + 1))] [] w4)) ∧ (¬ (9 - v5) < a2 → K (some (.inl 1)) w4)))))) : ck_At (ch_C g A R) (d + 1) mX2_someLike K 2 [some (.inr (.inr 15)), some (.inl a1), some (.inl a2), some (.inl a3)] [] w :=
  ck_in (fun hl => (ck_iload_n 3 rfl 3 dX2_someLike_2 rfl rfl (ck_aload_n 4 rfl 0 dX2_someLike_3 rfl rfl (ck_geti 7 rfl 2 dX2_someLike_4 fl_X2_35 sh_15 rfl rfl _ rfl (fun (q1 : ck_i (w 15 2)) => (ck_icmp_ge 10 rfl 36 dX2_someLike_7 rfl hl.2.2.2.1 q1 (fun c12 => (ck_iconst 37 rfl dX2_someLike_36 rfl (ck_zret dX2_someLike_37 rfl (by decide) (h.1 c12)))) (fun c13 => (ck_bipush 12 rfl dX2_someLike_10 rfl (ck_aload_n 13 rfl 0 dX2_someLike_12 rfl rfl (ck_getr 16 rfl dX2_someLike_13 fl_X2_9 sh_15 rfl (ck_iload_n 17 rfl 3 dX2_someLike_16 rfl rfl (have h15 := (h.2 c13); have o2 := h15.1; have h14 := h15.2; (ck_iald 18 rfl dX2_someLike_17 sh_16 (shn_16 hC) o2 _ rfl (fun (q3 : ck_i (w 16 a3)) => (ck_iload_n 19 rfl 1 dX2_someLike_18 rfl rfl (ck_ixor 20 rfl dX2_someLike_19 (ck_callS 23 rfl [.inl (ck_xor (w 16 a3) a1)] [.inl 9] dX2_someLike_20 cs_X2_53 rfl rfl (Nat.le_of_ble_eq_true rfl) (And.intro (ck_rng _) True.intro) (ck_mI h14 (fun v5 w4 q6 h7 => (ck_isub 24 rfl dX2_someLike_23 (ck_iload_n 25 rfl 2 dX2_someLike_24 rfl rfl (have h17 := h7; have o8 := h17.1; have h16 := h17.2; (ck_icmp_lt 28 rfl 30 dX2_someLike_25 rfl o8 hl.2.2.1 (fun c10 => (have h19 := (h16.1 c10); have o9 := h19.1; have h18 := h19.2; (ck_iinc 33 rfl [some (.inr (.inr 15)), some (.inl a1), some (.inl a2), some (.inl (a3 + 1))] dX2_someLike_30 rfl (Nat.le_of_ble_eq_true rfl) rfl rfl o9 (ck_goto 2 dX2_someLike_33 rfl h18)))) (fun c11 => (ck_iconst 29 rfl dX2_someLike_28 rfl (ck_zret dX2_someLike_29 rfl (by decide) (h16.2 c11)))))))))))))))))))))))))))
theorem S_X2_someLike {g : ch_G} {A R : Nat} (hC : ck_Cx g A R) {d : Nat} {K : Option ck_V → ck_W → Prop} {w : ck_W} {a1 a2 : Int} (hL : cs_L w) (h1 : 0 ≤ a1 ∧ a1 < 512) (hy : (∃ k, (0 ≤ k ∧ k < w 15 2) ∧ a2 ≤ 9 - ck_on 9 (ck_xor (w 16 k) a1)) → K (some (.inl 1)) w) (hn : (∀ k, 0 ≤ k → k < w 15 2 → 9 - ck_on 9 (ck_xor (w 16 k) a1) < a2) → K (some (.inl 0)) w) : ck_Ex (ch_C g A R) (d + 1) mX2_someLike [.inr (.inr 15), .inl a1, .inl a2] w K := by
  have l0 := hL.1
  have l : ∀ (n : Nat) (a3 : Int), w 15 2 - a3 ≤ n → 0 ≤ a3 → (∀ k, 0 ≤ k → k < a3 → 9 - ck_on 9 (ck_xor (w 16 k) a1) < a2) → ck_At (ch_C g A R) (d + 1) mX2_someLike K 2 [some (.inr (.inr 15)), some (.inl a1), some (.inl a2), some (.inl a3)] [] w := by
    intro n
    induction n with
    | zero =>
      intro a3 g1 g2 g3
      exact r_X2_someLike_2 hC ⟨fun q => hn (fun k k0 k1 => g3 k k0 (by omega)), fun q => absurd (by omega) q⟩
    | succ n ih =>
      intro a3 g1 g2 g3
      refine r_X2_someLike_2 hC ⟨fun q => hn (fun k k0 k1 => g3 k k0 (by omega)), fun q => ⟨by omega, ?_⟩⟩
      have x := kb_xor9 (hL.2 a3 g2 (by omega)) h1
      have o := ck_onb x 9 (by omega)
      refine p_bitCount hC x ⟨_, rfl, fun _ => ⟨by constructor <;> omega, fun z => ⟨by constructor <;> omega, ih (a3 + 1) (by omega) (by omega) (fun k k0 k1 => ?_)⟩, fun z => hy ⟨a3, ⟨g2, by omega⟩, by omega⟩⟩⟩
      by_cases y : k = a3
      · rw [y]; exact z
      · exact g3 k k0 (by omega)
  exact e_X2_someLike hC (l 12 0 (by omega) (by omega) (fun k k0 k1 => by omega))
