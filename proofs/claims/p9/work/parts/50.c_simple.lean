/-! ===== the class: methods that only set and tell ===== -/
def cs_D (A R : Nat) (w : ck_W) : Prop := w 3 0 = (A : Int) ∧ w 3 1 = (R : Int)
/-- where the class keeps a slice's angle and radius -/
def cs_at (A R : Nat) (z a r : Int) : Int := (z * (A : Int) + a) * (R : Int) + r
def cs_ok (A R : Nat) (z a r : Int) : Prop := (0 ≤ z ∧ z ≤ 5) ∧ (0 ≤ a ∧ a < (A : Int)) ∧ (0 ≤ r ∧ r < (R : Int))
theorem cs_ar {A R : Nat} {g : ch_G} (hC : ck_Cx g A R) : (3 ≤ (A : Int) ∧ (A : Int) ≤ 6) ∧ (4 ≤ (R : Int) ∧ (R : Int) ≤ 12) := by
  have c := hC.2
  omega
theorem cs_atb {A R : Nat} {g : ch_G} (hC : ck_Cx g A R) {z a r : Int} (h : cs_ok A R z a r) : 0 ≤ cs_at A R z a r ∧ cs_at A R z a r < ((6 * A * R : Nat) : Int) ∧ ((6 * A * R : Nat) : Int) ≤ 432 := by
  have c := cs_ar hC
  obtain ⟨h1, h2, h3⟩ := h
  unfold cs_at
  have e : ((6 * A * R : Nat) : Int) = 6 * (A : Int) * (R : Int) := by rw [Int.natCast_mul, Int.natCast_mul]; rfl
  rw [e]
  generalize (A : Int) = x at *
  generalize (R : Int) = y at *
  have z0 : 0 ≤ z * x := Int.mul_nonneg h1.1 (by omega)
  have z1 : z * x ≤ 5 * x := Int.mul_le_mul_of_nonneg_right h1.2 (by omega)
  have s0 : 0 ≤ (z * x + a) * y := Int.mul_nonneg (by omega) (by omega)
  have s1 : (z * x + a) * y ≤ (6 * x - 1) * y := Int.mul_le_mul_of_nonneg_right (by omega) (by omega)
  have s2 : (6 * x - 1) * y = 6 * x * y - y := by rw [Int.sub_mul, Int.one_mul]
  have s3 : 6 * x * y ≤ 36 * y := Int.mul_le_mul_of_nonneg_right (by omega) (by omega)
  omega
theorem dX5_cell_0 : decode cX5_cell 0 = .ok (.iload_n 1, 1) := by decide +kernel
theorem dX5_cell_1 : decode cX5_cell 1 = .ok (.ifCond .lt 37, 3) := by decide +kernel
theorem dX5_cell_4 : decode cX5_cell 4 = .ok (.iload_n 1, 1) := by decide +kernel
theorem dX5_cell_5 : decode cX5_cell 5 = .ok (.bipush 6, 2) := by decide +kernel
theorem dX5_cell_7 : decode cX5_cell 7 = .ok (.if_icmp .ge 31, 3) := by decide +kernel
theorem dX5_cell_10 : decode cX5_cell 10 = .ok (.iload_n 2, 1) := by decide +kernel
theorem dX5_cell_11 : decode cX5_cell 11 = .ok (.ifCond .lt 27, 3) := by decide +kernel
theorem dX5_cell_14 : decode cX5_cell 14 = .ok (.iload_n 2, 1) := by decide +kernel
theorem dX5_cell_15 : decode cX5_cell 15 = .ok (.aload_n 0, 1) := by decide +kernel
theorem dX5_cell_16 : decode cX5_cell 16 = .ok (.getfield 27, 3) := by decide +kernel
theorem dX5_cell_19 : decode cX5_cell 19 = .ok (.if_icmp .ge 19, 3) := by decide +kernel
theorem dX5_cell_22 : decode cX5_cell 22 = .ok (.iload_n 3, 1) := by decide +kernel
theorem dX5_cell_23 : decode cX5_cell 23 = .ok (.ifCond .lt 15, 3) := by decide +kernel
theorem dX5_cell_26 : decode cX5_cell 26 = .ok (.iload_n 3, 1) := by decide +kernel
theorem dX5_cell_27 : decode cX5_cell 27 = .ok (.aload_n 0, 1) := by decide +kernel
theorem dX5_cell_28 : decode cX5_cell 28 = .ok (.getfield 31, 3) := by decide +kernel
theorem dX5_cell_31 : decode cX5_cell 31 = .ok (.if_icmp .ge 7, 3) := by decide +kernel
theorem dX5_cell_34 : decode cX5_cell 34 = .ok (.iconst 1, 1) := by decide +kernel
theorem dX5_cell_35 : decode cX5_cell 35 = .ok (.goto 4, 3) := by decide +kernel
theorem dX5_cell_38 : decode cX5_cell 38 = .ok (.iconst 0, 1) := by decide +kernel
theorem dX5_cell_39 : decode cX5_cell 39 = .ok (.istore 4, 2) := by decide +kernel
theorem dX5_cell_41 : decode cX5_cell 41 = .ok (.iload 4, 2) := by decide +kernel
theorem dX5_cell_43 : decode cX5_cell 43 = .ok (.ifCond .eq 21, 3) := by decide +kernel
theorem dX5_cell_46 : decode cX5_cell 46 = .ok (.iload_n 1, 1) := by decide +kernel
theorem dX5_cell_47 : decode cX5_cell 47 = .ok (.aload_n 0, 1) := by decide +kernel
theorem dX5_cell_48 : decode cX5_cell 48 = .ok (.getfield 27, 3) := by decide +kernel
theorem dX5_cell_51 : decode cX5_cell 51 = .ok (.imul, 1) := by decide +kernel
theorem dX5_cell_52 : decode cX5_cell 52 = .ok (.iload_n 2, 1) := by decide +kernel
theorem dX5_cell_53 : decode cX5_cell 53 = .ok (.iadd, 1) := by decide +kernel
theorem dX5_cell_54 : decode cX5_cell 54 = .ok (.aload_n 0, 1) := by decide +kernel
theorem dX5_cell_55 : decode cX5_cell 55 = .ok (.getfield 31, 3) := by decide +kernel
theorem dX5_cell_58 : decode cX5_cell 58 = .ok (.imul, 1) := by decide +kernel
theorem dX5_cell_59 : decode cX5_cell 59 = .ok (.iload_n 3, 1) := by decide +kernel
theorem dX5_cell_60 : decode cX5_cell 60 = .ok (.iadd, 1) := by decide +kernel
theorem dX5_cell_61 : decode cX5_cell 61 = .ok (.goto 4, 3) := by decide +kernel
theorem dX5_cell_64 : decode cX5_cell 64 = .ok (.iconst (-1), 1) := by decide +kernel
theorem dX5_cell_65 : decode cX5_cell 65 = .ok (.ireturn, 1) := by decide +kernel
set_option maxRecDepth 8000 in
theorem e_X5_cell {g : ch_G} {A R : Nat} (hC : ck_Cx g A R) {d : Nat} {K : Option ck_V → ck_W → Prop} {w : ck_W} {a1 a2 a3 : Int} (h : (a1 < 0 → K (some (.inl (-1))) w) ∧ (¬ a1 < 0 → (6 ≤ a1 → K (some (.inl (-1))) w) ∧ (¬ 6 ≤ a1 → (a2 < 0 → K (some (.inl (-1))) w) ∧ (¬ a2 < 0 → ((w 3 0) ≤ a2 → K (some (.inl (-1))) w) ∧ (¬ (w 3 0) ≤ a2 → (a3 < 0 → K (some (.inl (-1))) w) ∧ (¬ a3 < 0 → ((w 3 1) ≤ a3 → K (some (.inl (-1))) w) ∧ (¬ (w 3 1) ≤ a3 → ck_i ((((a1 * (w 3 0)) + a2) * (w 3 1)) + a3) ∧ (K (some (.inl ((((a1 * (w 3 0)) + a2) * (w 3 1)) + a3))) w)))))))) : ck_Ex (ch_C g A R) d mX5_cell [.inr (.inr 3), .inl a1, .inl a2, .inl a3] w K :=
  ck_entry hC.1 [some (.inr (.inr 3)), some (.inl a1), some (.inl a2), some (.inl a3), none] (by decide) (Nat.le_of_ble_eq_true rfl) rfl (fun q => q) (ck_in (fun hl => (ck_iload_n 1 rfl 1 dX5_cell_0 rfl rfl (ck_if_lt 4 rfl 38 dX5_cell_1 rfl hl.2.1 (fun c16 => (ck_iconst 39 rfl dX5_cell_38 rfl (ck_istore 41 rfl [some (.inr (.inr 3)), some (.inl a1), some (.inl a2), some (.inl a3), some (.inl 0)] dX5_cell_39 (Nat.le_of_ble_eq_true rfl) rfl rfl (show ck_i 0 by decide) (ck_iload 43 rfl dX5_cell_41 rfl (ck_if_eq 46 rfl 64 dX5_cell_43 rfl (by decide) (fun _ => (ck_iconst 65 rfl dX5_cell_64 rfl (ck_iret dX5_cell_65 rfl (show ck_i (-1) by decide) (h.1 c16)))) (fun q => absurd q (by decide))))))) (fun c17 => (ck_iload_n 5 rfl 1 dX5_cell_4 rfl rfl (ck_bipush 7 rfl dX5_cell_5 rfl (have h18 := (h.2 c17); (ck_icmp_ge 10 rfl 38 dX5_cell_7 rfl hl.2.1 (show ck_i 6 by decide) (fun c14 => (ck_iconst 39 rfl dX5_cell_38 rfl (ck_istore 41 rfl [some (.inr (.inr 3)), some (.inl a1), some (.inl a2), some (.inl a3), some (.inl 0)] dX5_cell_39 (Nat.le_of_ble_eq_true rfl) rfl rfl (show ck_i 0 by decide) (ck_iload 43 rfl dX5_cell_41 rfl (ck_if_eq 46 rfl 64 dX5_cell_43 rfl (by decide) (fun _ => (ck_iconst 65 rfl dX5_cell_64 rfl (ck_iret dX5_cell_65 rfl (show ck_i (-1) by decide) (h18.1 c14)))) (fun q => absurd q (by decide))))))) (fun c15 => (ck_iload_n 11 rfl 2 dX5_cell_10 rfl rfl (have h19 := (h18.2 c15); (ck_if_lt 14 rfl 38 dX5_cell_11 rfl hl.2.2.1 (fun c12 => (ck_iconst 39 rfl dX5_cell_38 rfl (ck_istore 41 rfl [some (.inr (.inr 3)), some (.inl a1), some (.inl a2), some (.inl a3), some (.inl 0)] dX5_cell_39 (Nat.le_of_ble_eq_true rfl) rfl rfl (show ck_i 0 by decide) (ck_iload 43 rfl dX5_cell_41 rfl (ck_if_eq 46 rfl 64 dX5_cell_43 rfl (by decide) (fun _ => (ck_iconst 65 rfl dX5_cell_64 rfl (ck_iret dX5_cell_65 rfl (show ck_i (-1) by decide) (h19.1 c12)))) (fun q => absurd q (by decide))))))) (fun c13 => (ck_iload_n 15 rfl 2 dX5_cell_14 rfl rfl (ck_aload_n 16 rfl 0 dX5_cell_15 rfl rfl (ck_geti 19 rfl 0 dX5_cell_16 fl_X5_27 sh_3 rfl rfl _ rfl (fun (q1 : ck_i (w 3 0)) => (have h20 := (h19.2 c13); (ck_icmp_ge 22 rfl 38 dX5_cell_19 rfl hl.2.2.1 q1 (fun c10 => (ck_iconst 39 rfl dX5_cell_38 rfl (ck_istore 41 rfl [some (.inr (.inr 3)), some (.inl a1), some (.inl a2), some (.inl a3), some (.inl 0)] dX5_cell_39 (Nat.le_of_ble_eq_true rfl) rfl rfl (show ck_i 0 by decide) (ck_iload 43 rfl dX5_cell_41 rfl (ck_if_eq 46 rfl 64 dX5_cell_43 rfl (by decide) (fun _ => (ck_iconst 65 rfl dX5_cell_64 rfl (ck_iret dX5_cell_65 rfl (show ck_i (-1) by decide) (h20.1 c10)))) (fun q => absurd q (by decide))))))) (fun c11 => (ck_iload_n 23 rfl 3 dX5_cell_22 rfl rfl (have h21 := (h20.2 c11); (ck_if_lt 26 rfl 38 dX5_cell_23 rfl hl.2.2.2.1 (fun c8 => (ck_iconst 39 rfl dX5_cell_38 rfl (ck_istore 41 rfl [some (.inr (.inr 3)), some (.inl a1), some (.inl a2), some (.inl a3), some (.inl 0)] dX5_cell_39 (Nat.le_of_ble_eq_true rfl) rfl rfl (show ck_i 0 by decide) (ck_iload 43 rfl dX5_cell_41 rfl (ck_if_eq 46 rfl 64 dX5_cell_43 rfl (by decide) (fun _ => (ck_iconst 65 rfl dX5_cell_64 rfl (ck_iret dX5_cell_65 rfl (show ck_i (-1) by decide) (h21.1 c8)))) (fun q => absurd q (by decide))))))) (fun c9 => (ck_iload_n 27 rfl 3 dX5_cell_26 rfl rfl (ck_aload_n 28 rfl 0 dX5_cell_27 rfl rfl (ck_geti 31 rfl 1 dX5_cell_28 fl_X5_31 sh_3 rfl rfl _ rfl (fun (q2 : ck_i (w 3 1)) => (have h22 := (h21.2 c9); (ck_icmp_ge 34 rfl 38 dX5_cell_31 rfl hl.2.2.2.1 q2 (fun c6 => (ck_iconst 39 rfl dX5_cell_38 rfl (ck_istore 41 rfl [some (.inr (.inr 3)), some (.inl a1), some (.inl a2), some (.inl a3), some (.inl 0)] dX5_cell_39 (Nat.le_of_ble_eq_true rfl) rfl rfl (show ck_i 0 by decide) (ck_iload 43 rfl dX5_cell_41 rfl (ck_if_eq 46 rfl 64 dX5_cell_43 rfl (by decide) (fun _ => (ck_iconst 65 rfl dX5_cell_64 rfl (ck_iret dX5_cell_65 rfl (show ck_i (-1) by decide) (h22.1 c6)))) (fun q => absurd q (by decide))))))) (fun c7 => (ck_iconst 35 rfl dX5_cell_34 rfl (ck_goto 39 dX5_cell_35 rfl (ck_istore 41 rfl [some (.inr (.inr 3)), some (.inl a1), some (.inl a2), some (.inl a3), some (.inl 1)] dX5_cell_39 (Nat.le_of_ble_eq_true rfl) rfl rfl (show ck_i 1 by decide) (ck_iload 43 rfl dX5_cell_41 rfl (ck_if_eq 46 rfl 64 dX5_cell_43 rfl (by decide) (fun q => absurd q (by decide)) (fun _ => (ck_iload_n 47 rfl 1 dX5_cell_46 rfl rfl (ck_aload_n 48 rfl 0 dX5_cell_47 rfl rfl (ck_geti 51 rfl 0 dX5_cell_48 fl_X5_27 sh_3 rfl rfl _ rfl (fun (q3 : ck_i (w 3 0)) => (ck_imul 52 rfl dX5_cell_51 (ck_iload_n 53 rfl 2 dX5_cell_52 rfl rfl (ck_iadd 54 rfl dX5_cell_53 (ck_aload_n 55 rfl 0 dX5_cell_54 rfl rfl (ck_geti 58 rfl 1 dX5_cell_55 fl_X5_31 sh_3 rfl rfl _ rfl (fun (q4 : ck_i (w 3 1)) => (ck_imul 59 rfl dX5_cell_58 (ck_iload_n 60 rfl 3 dX5_cell_59 rfl rfl (ck_iadd 61 rfl dX5_cell_60 (ck_goto 65 dX5_cell_61 rfl (have h24 := (h22.2 c7); have o5 := h24.1; have h23 := h24.2; (ck_iret dX5_cell_65 rfl o5 h23))))))))))))))))))))))))))))))))))))))))))))))))))))))
theorem p_X5_cell {g : ch_G} {A R : Nat} (hC : ck_Cx g A R) {d : Nat} {K : Option ck_V → ck_W → Prop} {w : ck_W} {a1 a2 a3 : Int} (hD : cs_D A R w) (h1 : cs_ok A R a1 a2 a3 → K (some (.inl (cs_at A R a1 a2 a3))) w) (h0 : ¬ cs_ok A R a1 a2 a3 → K (some (.inl (-1))) w) : ck_Ex (ch_C g A R) d mX5_cell [.inr (.inr 3), .inl a1, .inl a2, .inl a3] w K := by
  refine e_X5_cell hC ?_
  rw [hD.1, hD.2]
  have no : ∀ (q : ¬ cs_ok A R a1 a2 a3), K (some (.inl (-1))) w := h0
  refine ⟨fun q => no (fun x => by have := x.1; omega), fun q1 => ⟨fun q => no (fun x => by have := x.1; omega), fun q2 => ⟨fun q => no (fun x => by have := x.2.1; omega), fun q3 => ⟨fun q => no (fun x => by have := x.2.1; omega), fun q4 => ⟨fun q => no (fun x => by have := x.2.2; omega), fun q5 => ⟨fun q => no (fun x => by have := x.2.2; omega), fun q6 => ?_⟩⟩⟩⟩⟩⟩
  have ok : cs_ok A R a1 a2 a3 := ⟨by omega, by omega, by omega⟩
  have b := cs_atb hC ok
  have k := h1 ok
  unfold cs_at at b k
  exact ⟨by constructor <;> omega, k⟩
theorem dX10_forget_0 : decode cX10_forget 0 = .ok (.iload_n 1, 1) := by decide +kernel
theorem dX10_forget_1 : decode cX10_forget 1 = .ok (.iconst 0, 1) := by decide +kernel
theorem dX10_forget_2 : decode cX10_forget 2 = .ok (.iconst 5, 1) := by decide +kernel
theorem dX10_forget_3 : decode cX10_forget 3 = .ok (.invokestatic 82, 3) := by decide +kernel
theorem dX10_forget_6 : decode cX10_forget 6 = .ok (.ifCond .eq 10, 3) := by decide +kernel
theorem dX10_forget_9 : decode cX10_forget 9 = .ok (.aload_n 0, 1) := by decide +kernel
theorem dX10_forget_10 : decode cX10_forget 10 = .ok (.getfield 11, 3) := by decide +kernel
theorem dX10_forget_13 : decode cX10_forget 13 = .ok (.iload_n 1, 1) := by decide +kernel
theorem dX10_forget_14 : decode cX10_forget 14 = .ok (.iconst 0, 1) := by decide +kernel
theorem dX10_forget_15 : decode cX10_forget 15 = .ok (.bastore, 1) := by decide +kernel
theorem dX10_forget_16 : decode cX10_forget 16 = .ok (.return_, 1) := by decide +kernel
set_option maxRecDepth 8000 in
theorem e_X10_forget {g : ch_G} {A R : Nat} (hC : ck_Cx g A R) {d : Nat} {K : Option ck_V → ck_W → Prop} {w : ck_W} {a1 : Int} (h : (0 ≤ a1 ∧ a1 ≤ 5 → (0 ≤ a1 ∧ a1 < 6) ∧ (K none (ck_up w 59 a1 0))) ∧ (¬ (0 ≤ a1 ∧ a1 ≤ 5) → K none w)) : ck_Ex (ch_C g A R) (d + 1) mX10_forget [.inr (.inr 51), .inl a1] w K :=
  ck_entry hC.1 [some (.inr (.inr 51)), some (.inl a1)] (by decide) (Nat.le_of_ble_eq_true rfl) rfl (fun q => q) (ck_in (fun hl => (ck_iload_n 1 rfl 1 dX10_forget_0 rfl rfl (ck_iconst 2 rfl dX10_forget_1 rfl (ck_iconst 3 rfl dX10_forget_2 rfl (have h4 := h; ck_callSN 6 rfl [.inl a1, .inl 0, .inl 5] [] dX10_forget_3 cn_X10_82 rfl rfl (Nat.le_of_ble_eq_true rfl) (And.intro hl.2.1 (And.intro (show ck_i 0 by decide) (And.intro (show ck_i 5 by decide) True.intro))) (p_X11_within hC (fun c2 _ => (ck_if_eq 9 rfl 16 dX10_forget_6 rfl (by decide) (fun q => absurd q (by decide)) (fun _ => (ck_aload_n 10 rfl 0 dX10_forget_9 rfl rfl (ck_getr 13 rfl dX10_forget_10 fl_X10_11 sh_51 rfl (ck_iload_n 14 rfl 1 dX10_forget_13 rfl rfl (ck_iconst 15 rfl dX10_forget_14 rfl (have h6 := (h4.1 c2); have o1 := h6.1; have h5 := h6.2; (ck_zast 16 rfl dX10_forget_15 sh_59 (shn_59 hC) o1 (by decide) (ck_vret dX10_forget_16 rfl h5)))))))))) (fun c3 _ => (ck_if_eq 9 rfl 16 dX10_forget_6 rfl (by decide) (fun _ => (ck_vret dX10_forget_16 rfl (h4.2 c3))) (fun q => absurd q (by decide)))))))))))
theorem dX11_grey_0 : decode cX11_grey 0 = .ok (.aload_n 0, 1) := by decide +kernel
theorem dX11_grey_1 : decode cX11_grey 1 = .ok (.getfield 14, 3) := by decide +kernel
theorem dX11_grey_4 : decode cX11_grey 4 = .ok (.getfield 23, 3) := by decide +kernel
theorem dX11_grey_7 : decode cX11_grey 7 = .ok (.astore 6, 2) := by decide +kernel
theorem dX11_grey_9 : decode cX11_grey 9 = .ok (.aload 6, 2) := by decide +kernel
theorem dX11_grey_11 : decode cX11_grey 11 = .ok (.iload_n 1, 1) := by decide +kernel
theorem dX11_grey_12 : decode cX11_grey 12 = .ok (.iload_n 2, 1) := by decide +kernel
theorem dX11_grey_13 : decode cX11_grey 13 = .ok (.iload_n 3, 1) := by decide +kernel
theorem dX11_grey_14 : decode cX11_grey 14 = .ok (.invokevirtual 76, 3) := by decide +kernel
theorem dX11_grey_17 : decode cX11_grey 17 = .ok (.istore 7, 2) := by decide +kernel
theorem dX11_grey_19 : decode cX11_grey 19 = .ok (.iload 7, 2) := by decide +kernel
theorem dX11_grey_21 : decode cX11_grey 21 = .ok (.iconst (-1), 1) := by decide +kernel
theorem dX11_grey_22 : decode cX11_grey 22 = .ok (.if_icmp .eq 25, 3) := by decide +kernel
theorem dX11_grey_25 : decode cX11_grey 25 = .ok (.iload 4, 2) := by decide +kernel
theorem dX11_grey_27 : decode cX11_grey 27 = .ok (.iconst 0, 1) := by decide +kernel
theorem dX11_grey_28 : decode cX11_grey 28 = .ok (.bipush 9, 2) := by decide +kernel
theorem dX11_grey_30 : decode cX11_grey 30 = .ok (.invokestatic 82, 3) := by decide +kernel
theorem dX11_grey_33 : decode cX11_grey 33 = .ok (.ifCond .eq 14, 3) := by decide +kernel
theorem dX11_grey_36 : decode cX11_grey 36 = .ok (.iload 5, 2) := by decide +kernel
theorem dX11_grey_38 : decode cX11_grey 38 = .ok (.iconst 0, 1) := by decide +kernel
theorem dX11_grey_39 : decode cX11_grey 39 = .ok (.bipush 9, 2) := by decide +kernel
theorem dX11_grey_41 : decode cX11_grey 41 = .ok (.invokestatic 82, 3) := by decide +kernel
theorem dX11_grey_44 : decode cX11_grey 44 = .ok (.ifCond .ne 5, 3) := by decide +kernel
theorem dX11_grey_47 : decode cX11_grey 47 = .ok (.iconst 0, 1) := by decide +kernel
theorem dX11_grey_48 : decode cX11_grey 48 = .ok (.ireturn, 1) := by decide +kernel
theorem dX11_grey_49 : decode cX11_grey 49 = .ok (.aload 6, 2) := by decide +kernel
theorem dX11_grey_51 : decode cX11_grey 51 = .ok (.getfield 86, 3) := by decide +kernel
theorem dX11_grey_54 : decode cX11_grey 54 = .ok (.iload 7, 2) := by decide +kernel
theorem dX11_grey_56 : decode cX11_grey 56 = .ok (.iload 4, 2) := by decide +kernel
theorem dX11_grey_58 : decode cX11_grey 58 = .ok (.iastore, 1) := by decide +kernel
theorem dX11_grey_59 : decode cX11_grey 59 = .ok (.aload 6, 2) := by decide +kernel
theorem dX11_grey_61 : decode cX11_grey 61 = .ok (.getfield 90, 3) := by decide +kernel
theorem dX11_grey_64 : decode cX11_grey 64 = .ok (.iload 7, 2) := by decide +kernel
theorem dX11_grey_66 : decode cX11_grey 66 = .ok (.iload 5, 2) := by decide +kernel
theorem dX11_grey_68 : decode cX11_grey 68 = .ok (.iastore, 1) := by decide +kernel
theorem dX11_grey_69 : decode cX11_grey 69 = .ok (.aload_n 0, 1) := by decide +kernel
theorem dX11_grey_70 : decode cX11_grey 70 = .ok (.getfield 30, 3) := by decide +kernel
theorem dX11_grey_73 : decode cX11_grey 73 = .ok (.iload_n 1, 1) := by decide +kernel
theorem dX11_grey_74 : decode cX11_grey 74 = .ok (.invokevirtual 93, 3) := by decide +kernel
theorem dX11_grey_77 : decode cX11_grey 77 = .ok (.iconst 1, 1) := by decide +kernel
theorem dX11_grey_78 : decode cX11_grey 78 = .ok (.ireturn, 1) := by decide +kernel
set_option maxRecDepth 8000 in
theorem e_X11_grey {g : ch_G} {A R : Nat} (hC : ck_Cx g A R) {d : Nat} {K : Option ck_V → ck_W → Prop} {w : ck_W} {a1 a2 a3 a4 a5 : Int} (h : ck_CI (ch_C g A R) d mX5_cell [.inr (.inr 3), .inl a1, .inl a2, .inl a3] w (fun v2 w1 => (v2 = (-1) → K (some (.inl 0)) w1) ∧ (¬ v2 = (-1) → (0 ≤ a4 ∧ a4 ≤ 9 → (0 ≤ a5 ∧ a5 ≤ 9 → (0 ≤ v2 ∧ v2 < ((6 * A * R : Nat) : Int)) ∧ (ck_CN (ch_C g A R) d mX10_forget [.inr (.inr 51), .inl a1] (ck_up (ck_up w1 4 v2 a4) 5 v2 a5) (fun w6 => K (some (.inl 1)) w6))) ∧ (¬ (0 ≤ a5 ∧ a5 ≤ 9) → K (some (.inl 0)) w1)) ∧ (¬ (0 ≤ a4 ∧ a4 ≤ 9) → K (some (.inl 0)) w1)))) : ck_Ex (ch_C g A R) (d + 1) mX11_grey [.inr (.inr 0), .inl a1, .inl a2, .inl a3, .inl a4, .inl a5] w K :=
  ck_entry hC.1 [some (.inr (.inr 0)), some (.inl a1), some (.inl a2), some (.inl a3), some (.inl a4), some (.inl a5), none, none] (by decide) (Nat.le_of_ble_eq_true rfl) rfl (fun q => q) (ck_in (fun hl => (ck_aload_n 1 rfl 0 dX11_grey_0 rfl rfl (ck_getr 4 rfl dX11_grey_1 fl_X11_14 sh_0 rfl (ck_getr 7 rfl dX11_grey_4 fl_X11_23 sh_1 rfl (ck_astore 9 rfl [some (.inr (.inr 0)), some (.inl a1), some (.inl a2), some (.inl a3), some (.inl a4), some (.inl a5), some (.inr (.inr 3)), none] dX11_grey_7 (Nat.le_of_ble_eq_true rfl) rfl rfl (ck_aload 11 rfl dX11_grey_9 rfl (ck_iload_n 12 rfl 1 dX11_grey_11 rfl rfl (ck_iload_n 13 rfl 2 dX11_grey_12 rfl rfl (ck_iload_n 14 rfl 3 dX11_grey_13 rfl rfl (ck_callV 17 rfl [.inl a1, .inl a2, .inl a3] [] dX11_grey_14 cv_X11_76 sh_3 rfl rfl (Nat.le_of_ble_eq_true rfl) (And.intro hl.2.1 (And.intro hl.2.2.1 (And.intro hl.2.2.2.1 True.intro))) (ck_mI h (fun v2 w1 q3 h4 => (ck_istore 19 rfl [some (.inr (.inr 0)), some (.inl a1), some (.inl a2), some (.inl a3), some (.inl a4), some (.inl a5), some (.inr (.inr 3)), some (.inl v2)] dX11_grey_17 (Nat.le_of_ble_eq_true rfl) rfl rfl q3 (ck_iload 21 rfl dX11_grey_19 rfl (ck_iconst 22 rfl dX11_grey_21 rfl (ck_icmp_eq 25 rfl 47 dX11_grey_22 rfl q3 (show ck_i (-1) by decide) (fun c14 => (ck_iconst 48 rfl dX11_grey_47 rfl (ck_zret dX11_grey_48 rfl (by decide) (h4.1 c14)))) (fun c15 => (ck_iload 27 rfl dX11_grey_25 rfl (ck_iconst 28 rfl dX11_grey_27 rfl (ck_bipush 30 rfl dX11_grey_28 rfl (have h13 := (h4.2 c15); ck_callS 33 rfl [.inl a4, .inl 0, .inl 9] [] dX11_grey_30 cs_X11_82 rfl rfl (Nat.le_of_ble_eq_true rfl) (And.intro hl.2.2.2.2.1 (And.intro (show ck_i 0 by decide) (And.intro (show ck_i 9 by decide) True.intro))) (p_X11_within hC (fun c11 _ => (ck_if_eq 36 rfl 47 dX11_grey_33 rfl (by decide) (fun q => absurd q (by decide)) (fun _ => (ck_iload 38 rfl dX11_grey_36 rfl (ck_iconst 39 rfl dX11_grey_38 rfl (ck_bipush 41 rfl dX11_grey_39 rfl (have h10 := (h13.1 c11); ck_callS 44 rfl [.inl a5, .inl 0, .inl 9] [] dX11_grey_41 cs_X11_82 rfl rfl (Nat.le_of_ble_eq_true rfl) (And.intro hl.2.2.2.2.2.1 (And.intro (show ck_i 0 by decide) (And.intro (show ck_i 9 by decide) True.intro))) (p_X11_within hC (fun c8 _ => (ck_if_ne 47 rfl 49 dX11_grey_44 rfl (by decide) (fun _ => (ck_aload 51 rfl dX11_grey_49 rfl (ck_getr 54 rfl dX11_grey_51 fl_X11_86 sh_3 rfl (ck_iload 56 rfl dX11_grey_54 rfl (ck_iload 58 rfl dX11_grey_56 rfl (have h17 := (h10.1 c8); have o5 := h17.1; have h16 := h17.2; (ck_iast 59 rfl dX11_grey_58 sh_4 (shn_4 hC) o5 hl.2.2.2.2.1 (ck_aload 61 rfl dX11_grey_59 rfl (ck_getr 64 rfl dX11_grey_61 fl_X11_90 sh_3 rfl (ck_iload 66 rfl dX11_grey_64 rfl (ck_iload 68 rfl dX11_grey_66 rfl (ck_iast 69 rfl dX11_grey_68 sh_5 (shn_5 hC) o5 hl.2.2.2.2.2.1 (ck_aload_n 70 rfl 0 dX11_grey_69 rfl rfl (ck_getr 73 rfl dX11_grey_70 fl_X11_30 sh_0 rfl (ck_iload_n 74 rfl 1 dX11_grey_73 rfl rfl (ck_callV 77 rfl [.inl a1] [] dX11_grey_74 cv_X11_93 sh_51 rfl rfl (Nat.le_of_ble_eq_true rfl) (And.intro hl.2.1 True.intro) (ck_mN h16 (fun w6 h7 => (ck_iconst 78 rfl dX11_grey_77 rfl (ck_zret dX11_grey_78 rfl (by decide) h7)))))))))))))))))))) (fun q => absurd q (by decide)))) (fun c9 _ => (ck_if_ne 47 rfl 49 dX11_grey_44 rfl (by decide) (fun q => absurd q (by decide)) (fun _ => (ck_iconst 48 rfl dX11_grey_47 rfl (ck_zret dX11_grey_48 rfl (by decide) (h10.2 c9)))))))))))))) (fun c12 _ => (ck_if_eq 36 rfl 47 dX11_grey_33 rfl (by decide) (fun _ => (ck_iconst 48 rfl dX11_grey_47 rfl (ck_zret dX11_grey_48 rfl (by decide) (h13.2 c12)))) (fun q => absurd q (by decide)))))))))))))))))))))))))))
theorem C_grey {g : ch_G} {A R : Nat} (hC : ck_Cx g A R) {d : Nat} {K : Option ck_V → ck_W → Prop} {w : ck_W} {a1 a2 a3 a4 a5 : Int} (hD : cs_D A R w) (h1 : cs_ok A R a1 a2 a3 ∧ (0 ≤ a4 ∧ a4 ≤ 9) ∧ (0 ≤ a5 ∧ a5 ≤ 9) → K (some (.inl 1)) (ck_up (ck_up (ck_up w 4 (cs_at A R a1 a2 a3) a4) 5 (cs_at A R a1 a2 a3) a5) 59 a1 0)) (h0 : ¬ (cs_ok A R a1 a2 a3 ∧ (0 ≤ a4 ∧ a4 ≤ 9) ∧ (0 ≤ a5 ∧ a5 ≤ 9)) → K (some (.inl 0)) w) : ck_Ex (ch_C g A R) (d + 2) mX11_grey [.inr (.inr 0), .inl a1, .inl a2, .inl a3, .inl a4, .inl a5] w K := by
  refine e_X11_grey hC (p_X5_cell hC hD (fun ok => ⟨_, rfl, fun _ => ?_⟩) (fun no => ⟨_, rfl, fun _ => ⟨fun _ => h0 (fun x => no x.1), fun q => absurd rfl q⟩⟩))
  have b := cs_atb hC ok
  refine ⟨fun q => by omega, fun _ => ⟨fun q4 => ⟨fun q5 => ⟨⟨b.1, b.2.1⟩, e_X10_forget hC ⟨fun _ => ⟨by have := ok.1; omega, rfl, h1 ⟨ok, q4, q5⟩⟩, fun q => absurd ok.1 q⟩⟩, fun q => h0 (fun x => q x.2.2)⟩, fun q => h0 (fun x => q x.2.1)⟩⟩
theorem dX11_wound_0 : decode cX11_wound 0 = .ok (.iload_n 1, 1) := by decide +kernel
theorem dX11_wound_1 : decode cX11_wound 1 = .ok (.iconst 0, 1) := by decide +kernel
theorem dX11_wound_2 : decode cX11_wound 2 = .ok (.iconst 5, 1) := by decide +kernel
theorem dX11_wound_3 : decode cX11_wound 3 = .ok (.invokestatic 82, 3) := by decide +kernel
theorem dX11_wound_6 : decode cX11_wound 6 = .ok (.ifCond .eq 12, 3) := by decide +kernel
theorem dX11_wound_9 : decode cX11_wound 9 = .ok (.iload_n 2, 1) := by decide +kernel
theorem dX11_wound_10 : decode cX11_wound 10 = .ok (.iconst 1, 1) := by decide +kernel
theorem dX11_wound_11 : decode cX11_wound 11 = .ok (.iconst 4, 1) := by decide +kernel
theorem dX11_wound_12 : decode cX11_wound 12 = .ok (.invokestatic 82, 3) := by decide +kernel
theorem dX11_wound_15 : decode cX11_wound 15 = .ok (.ifCond .ne 5, 3) := by decide +kernel
theorem dX11_wound_18 : decode cX11_wound 18 = .ok (.iconst 0, 1) := by decide +kernel
theorem dX11_wound_19 : decode cX11_wound 19 = .ok (.ireturn, 1) := by decide +kernel
theorem dX11_wound_20 : decode cX11_wound 20 = .ok (.aload_n 0, 1) := by decide +kernel
theorem dX11_wound_21 : decode cX11_wound 21 = .ok (.getfield 14, 3) := by decide +kernel
theorem dX11_wound_24 : decode cX11_wound 24 = .ok (.getfield 23, 3) := by decide +kernel
theorem dX11_wound_27 : decode cX11_wound 27 = .ok (.getfield 107, 3) := by decide +kernel
theorem dX11_wound_30 : decode cX11_wound 30 = .ok (.iload_n 1, 1) := by decide +kernel
theorem dX11_wound_31 : decode cX11_wound 31 = .ok (.iload_n 2, 1) := by decide +kernel
theorem dX11_wound_32 : decode cX11_wound 32 = .ok (.iastore, 1) := by decide +kernel
theorem dX11_wound_33 : decode cX11_wound 33 = .ok (.aload_n 0, 1) := by decide +kernel
theorem dX11_wound_34 : decode cX11_wound 34 = .ok (.getfield 30, 3) := by decide +kernel
theorem dX11_wound_37 : decode cX11_wound 37 = .ok (.iload_n 1, 1) := by decide +kernel
theorem dX11_wound_38 : decode cX11_wound 38 = .ok (.invokevirtual 93, 3) := by decide +kernel
theorem dX11_wound_41 : decode cX11_wound 41 = .ok (.iconst 1, 1) := by decide +kernel
theorem dX11_wound_42 : decode cX11_wound 42 = .ok (.ireturn, 1) := by decide +kernel
set_option maxRecDepth 8000 in
theorem e_X11_wound {g : ch_G} {A R : Nat} (hC : ck_Cx g A R) {d : Nat} {K : Option ck_V → ck_W → Prop} {w : ck_W} {a1 a2 : Int} (h : (0 ≤ a1 ∧ a1 ≤ 5 → (1 ≤ a2 ∧ a2 ≤ 4 → (0 ≤ a1 ∧ a1 < 6) ∧ (ck_CN (ch_C g A R) d mX10_forget [.inr (.inr 51), .inl a1] (ck_up w 6 a1 a2) (fun w2 => K (some (.inl 1)) w2))) ∧ (¬ (1 ≤ a2 ∧ a2 ≤ 4) → K (some (.inl 0)) w)) ∧ (¬ (0 ≤ a1 ∧ a1 ≤ 5) → K (some (.inl 0)) w)) : ck_Ex (ch_C g A R) (d + 1) mX11_wound [.inr (.inr 0), .inl a1, .inl a2] w K :=
  ck_entry hC.1 [some (.inr (.inr 0)), some (.inl a1), some (.inl a2)] (by decide) (Nat.le_of_ble_eq_true rfl) rfl (fun q => q) (ck_in (fun hl => (ck_iload_n 1 rfl 1 dX11_wound_0 rfl rfl (ck_iconst 2 rfl dX11_wound_1 rfl (ck_iconst 3 rfl dX11_wound_2 rfl (have h9 := h; ck_callS 6 rfl [.inl a1, .inl 0, .inl 5] [] dX11_wound_3 cs_X11_82 rfl rfl (Nat.le_of_ble_eq_true rfl) (And.intro hl.2.1 (And.intro (show ck_i 0 by decide) (And.intro (show ck_i 5 by decide) True.intro))) (p_X11_within hC (fun c7 _ => (ck_if_eq 9 rfl 18 dX11_wound_6 rfl (by decide) (fun q => absurd q (by decide)) (fun _ => (ck_iload_n 10 rfl 2 dX11_wound_9 rfl rfl (ck_iconst 11 rfl dX11_wound_10 rfl (ck_iconst 12 rfl dX11_wound_11 rfl (have h6 := (h9.1 c7); ck_callS 15 rfl [.inl a2, .inl 1, .inl 4] [] dX11_wound_12 cs_X11_82 rfl rfl (Nat.le_of_ble_eq_true rfl) (And.intro hl.2.2.1 (And.intro (show ck_i 1 by decide) (And.intro (show ck_i 4 by decide) True.intro))) (p_X11_within hC (fun c4 _ => (ck_if_ne 18 rfl 20 dX11_wound_15 rfl (by decide) (fun _ => (ck_aload_n 21 rfl 0 dX11_wound_20 rfl rfl (ck_getr 24 rfl dX11_wound_21 fl_X11_14 sh_0 rfl (ck_getr 27 rfl dX11_wound_24 fl_X11_23 sh_1 rfl (ck_getr 30 rfl dX11_wound_27 fl_X11_107 sh_3 rfl (ck_iload_n 31 rfl 1 dX11_wound_30 rfl rfl (ck_iload_n 32 rfl 2 dX11_wound_31 rfl rfl (have h11 := (h6.1 c4); have o1 := h11.1; have h10 := h11.2; (ck_iast 33 rfl dX11_wound_32 sh_6 (shn_6 hC) o1 hl.2.2.1 (ck_aload_n 34 rfl 0 dX11_wound_33 rfl rfl (ck_getr 37 rfl dX11_wound_34 fl_X11_30 sh_0 rfl (ck_iload_n 38 rfl 1 dX11_wound_37 rfl rfl (ck_callV 41 rfl [.inl a1] [] dX11_wound_38 cv_X11_93 sh_51 rfl rfl (Nat.le_of_ble_eq_true rfl) (And.intro hl.2.1 True.intro) (ck_mN h10 (fun w2 h3 => (ck_iconst 42 rfl dX11_wound_41 rfl (ck_zret dX11_wound_42 rfl (by decide) h3))))))))))))))))) (fun q => absurd q (by decide)))) (fun c5 _ => (ck_if_ne 18 rfl 20 dX11_wound_15 rfl (by decide) (fun q => absurd q (by decide)) (fun _ => (ck_iconst 19 rfl dX11_wound_18 rfl (ck_zret dX11_wound_19 rfl (by decide) (h6.2 c5)))))))))))))) (fun c8 _ => (ck_if_eq 9 rfl 18 dX11_wound_6 rfl (by decide) (fun _ => (ck_iconst 19 rfl dX11_wound_18 rfl (ck_zret dX11_wound_19 rfl (by decide) (h9.2 c8)))) (fun q => absurd q (by decide)))))))))))
theorem C_wound {g : ch_G} {A R : Nat} (hC : ck_Cx g A R) {d : Nat} {K : Option ck_V → ck_W → Prop} {w : ck_W} {a1 a2 : Int} (h1 : (0 ≤ a1 ∧ a1 ≤ 5) ∧ (1 ≤ a2 ∧ a2 ≤ 4) → K (some (.inl 1)) (ck_up (ck_up w 6 a1 a2) 59 a1 0)) (h0 : ¬ ((0 ≤ a1 ∧ a1 ≤ 5) ∧ (1 ≤ a2 ∧ a2 ≤ 4)) → K (some (.inl 0)) w) : ck_Ex (ch_C g A R) (d + 2) mX11_wound [.inr (.inr 0), .inl a1, .inl a2] w K :=
  e_X11_wound hC ⟨fun q1 => ⟨fun q2 => ⟨by omega, e_X10_forget hC ⟨fun _ => ⟨by omega, rfl, h1 ⟨q1, q2⟩⟩, fun q => absurd q1 q⟩⟩, fun q => h0 (fun x => q x.2)⟩, fun q => h0 (fun x => q x.1)⟩
theorem dX11_step_0 : decode cX11_step 0 = .ok (.aload_n 0, 1) := by decide +kernel
theorem dX11_step_1 : decode cX11_step 1 = .ok (.getfield 14, 3) := by decide +kernel
theorem dX11_step_4 : decode cX11_step 4 = .ok (.getfield 36, 3) := by decide +kernel
theorem dX11_step_7 : decode cX11_step 7 = .ok (.astore_n 2, 1) := by decide +kernel
theorem dX11_step_8 : decode cX11_step 8 = .ok (.iload_n 1, 1) := by decide +kernel
theorem dX11_step_9 : decode cX11_step 9 = .ok (.iconst 0, 1) := by decide +kernel
theorem dX11_step_10 : decode cX11_step 10 = .ok (.aload_n 0, 1) := by decide +kernel
theorem dX11_step_11 : decode cX11_step 11 = .ok (.getfield 14, 3) := by decide +kernel
theorem dX11_step_14 : decode cX11_step 14 = .ok (.getfield 23, 3) := by decide +kernel
theorem dX11_step_17 : decode cX11_step 17 = .ok (.getfield 97, 3) := by decide +kernel
theorem dX11_step_20 : decode cX11_step 20 = .ok (.iconst 1, 1) := by decide +kernel
theorem dX11_step_21 : decode cX11_step 21 = .ok (.isub, 1) := by decide +kernel
theorem dX11_step_22 : decode cX11_step 22 = .ok (.invokestatic 82, 3) := by decide +kernel
theorem dX11_step_25 : decode cX11_step 25 = .ok (.ifCond .eq 12, 3) := by decide +kernel
theorem dX11_step_28 : decode cX11_step 28 = .ok (.aload_n 2, 1) := by decide +kernel
theorem dX11_step_29 : decode cX11_step 29 = .ok (.getfield 140, 3) := by decide +kernel
theorem dX11_step_32 : decode cX11_step 32 = .ok (.bipush 30, 2) := by decide +kernel
theorem dX11_step_34 : decode cX11_step 34 = .ok (.if_icmp .lt 5, 3) := by decide +kernel
theorem dX11_step_37 : decode cX11_step 37 = .ok (.iconst (-1), 1) := by decide +kernel
theorem dX11_step_38 : decode cX11_step 38 = .ok (.ireturn, 1) := by decide +kernel
theorem dX11_step_39 : decode cX11_step 39 = .ok (.aload_n 2, 1) := by decide +kernel
theorem dX11_step_40 : decode cX11_step 40 = .ok (.getfield 145, 3) := by decide +kernel
theorem dX11_step_43 : decode cX11_step 43 = .ok (.aload_n 2, 1) := by decide +kernel
theorem dX11_step_44 : decode cX11_step 44 = .ok (.getfield 140, 3) := by decide +kernel
theorem dX11_step_47 : decode cX11_step 47 = .ok (.iload_n 1, 1) := by decide +kernel
theorem dX11_step_48 : decode cX11_step 48 = .ok (.iastore, 1) := by decide +kernel
theorem dX11_step_49 : decode cX11_step 49 = .ok (.aload_n 2, 1) := by decide +kernel
theorem dX11_step_50 : decode cX11_step 50 = .ok (.dup, 1) := by decide +kernel
theorem dX11_step_51 : decode cX11_step 51 = .ok (.getfield 140, 3) := by decide +kernel
theorem dX11_step_54 : decode cX11_step 54 = .ok (.iconst 1, 1) := by decide +kernel
theorem dX11_step_55 : decode cX11_step 55 = .ok (.iadd, 1) := by decide +kernel
theorem dX11_step_56 : decode cX11_step 56 = .ok (.putfield 140, 3) := by decide +kernel
theorem dX11_step_59 : decode cX11_step 59 = .ok (.aload_n 2, 1) := by decide +kernel
theorem dX11_step_60 : decode cX11_step 60 = .ok (.getfield 140, 3) := by decide +kernel
theorem dX11_step_63 : decode cX11_step 63 = .ok (.ireturn, 1) := by decide +kernel
set_option maxRecDepth 8000 in
theorem e_X11_step {g : ch_G} {A R : Nat} (hC : ck_Cx g A R) {d : Nat} {K : Option ck_V → ck_W → Prop} {w : ck_W} {a1 : Int} (h : ck_i ((w 3 1) - 1) ∧ ((0 ≤ a1 ∧ a1 ≤ ((w 3 1) - 1) → ((w 8 1) < 30 → (0 ≤ (w 8 1) ∧ (w 8 1) < 30) ∧ (ck_i ((w 8 1) + 1) ∧ (K (some (.inl ((w 8 1) + 1))) (ck_up (ck_up w 9 (w 8 1) a1) 8 1 ((w 8 1) + 1))))) ∧ (¬ (w 8 1) < 30 → K (some (.inl (-1))) w)) ∧ (¬ (0 ≤ a1 ∧ a1 ≤ ((w 3 1) - 1)) → K (some (.inl (-1))) w))) : ck_Ex (ch_C g A R) (d + 1) mX11_step [.inr (.inr 0), .inl a1] w K :=
  ck_entry hC.1 [some (.inr (.inr 0)), some (.inl a1), none] (by decide) (Nat.le_of_ble_eq_true rfl) rfl (fun q => q) (ck_in (fun hl => (ck_aload_n 1 rfl 0 dX11_step_0 rfl rfl (ck_getr 4 rfl dX11_step_1 fl_X11_14 sh_0 rfl (ck_getr 7 rfl dX11_step_4 fl_X11_36 sh_1 rfl (ck_astore_n 8 rfl 2 [some (.inr (.inr 0)), some (.inl a1), some (.inr (.inr 8))] dX11_step_7 rfl (Nat.le_of_ble_eq_true rfl) rfl rfl (ck_iload_n 9 rfl 1 dX11_step_8 rfl rfl (ck_iconst 10 rfl dX11_step_9 rfl (ck_aload_n 11 rfl 0 dX11_step_10 rfl rfl (ck_getr 14 rfl dX11_step_11 fl_X11_14 sh_0 rfl (ck_getr 17 rfl dX11_step_14 fl_X11_23 sh_1 rfl (ck_geti 20 rfl 1 dX11_step_17 fl_X11_97 sh_3 rfl rfl _ rfl (fun (q1 : ck_i (w 3 1)) => (ck_iconst 21 rfl dX11_step_20 rfl (ck_isub 22 rfl dX11_step_21 (have h15 := h; have o2 := h15.1; have h14 := h15.2; (have h13 := h14; ck_callS 25 rfl [.inl a1, .inl 0, .inl ((w 3 1) - 1)] [] dX11_step_22 cs_X11_82 rfl rfl (Nat.le_of_ble_eq_true rfl) (And.intro hl.2.1 (And.intro (show ck_i 0 by decide) (And.intro o2 True.intro))) (p_X11_within hC (fun c11 _ => (ck_if_eq 28 rfl 37 dX11_step_25 rfl (by decide) (fun q => absurd q (by decide)) (fun _ => (ck_aload_n 29 rfl 2 dX11_step_28 rfl rfl (ck_geti 32 rfl 1 dX11_step_29 fl_X11_140 sh_8 rfl rfl _ rfl (fun (q3 : ck_i (w 8 1)) => (ck_bipush 34 rfl dX11_step_32 rfl (have h16 := (h13.1 c11); (ck_icmp_lt 37 rfl 39 dX11_step_34 rfl q3 (show ck_i 30 by decide) (fun c9 => (ck_aload_n 40 rfl 2 dX11_step_39 rfl rfl (ck_getr 43 rfl dX11_step_40 fl_X11_145 sh_8 rfl (ck_aload_n 44 rfl 2 dX11_step_43 rfl rfl (ck_geti 47 rfl 1 dX11_step_44 fl_X11_140 sh_8 rfl rfl _ rfl (fun (q4 : ck_i (w 8 1)) => (ck_iload_n 48 rfl 1 dX11_step_47 rfl rfl (have h18 := (h16.1 c9); have o5 := h18.1; have h17 := h18.2; (ck_iast 49 rfl dX11_step_48 sh_9 (shn_9 hC) o5 hl.2.1 (ck_aload_n 50 rfl 2 dX11_step_49 rfl rfl (ck_dup 51 rfl dX11_step_50 rfl (ck_geti 54 rfl 1 dX11_step_51 fl_X11_140 sh_8 rfl rfl _ rfl (fun (q6 : ck_i (w 8 1)) => (ck_iconst 55 rfl dX11_step_54 rfl (ck_iadd 56 rfl dX11_step_55 (have h20 := h17; have o7 := h20.1; have h19 := h20.2; (ck_puti 59 rfl 1 dX11_step_56 fp_X11_140 sh_8 rfl rfl o7 (ck_aload_n 60 rfl 2 dX11_step_59 rfl rfl (ck_geti 63 rfl 1 dX11_step_60 fl_X11_140 sh_8 rfl rfl _ rfl (fun (q8 : ck_i ((w 8 1) + 1)) => (ck_iret dX11_step_63 rfl q8 h19))))))))))))))))))))) (fun c10 => (ck_iconst 38 rfl dX11_step_37 rfl (ck_iret dX11_step_38 rfl (show ck_i (-1) by decide) (h16.2 c10))))))))))))) (fun c12 _ => (ck_if_eq 28 rfl 37 dX11_step_25 rfl (by decide) (fun _ => (ck_iconst 38 rfl dX11_step_37 rfl (ck_iret dX11_step_38 rfl (show ck_i (-1) by decide) (h13.2 c12)))) (fun q => absurd q (by decide))))))))))))))))))))))
theorem C_step {g : ch_G} {A R : Nat} (hC : ck_Cx g A R) {d : Nat} {K : Option ck_V → ck_W → Prop} {w : ck_W} {a1 : Int} (hD : cs_D A R w) (hc : 0 ≤ w 8 1 ∧ w 8 1 ≤ 30) (h1 : (0 ≤ a1 ∧ a1 < (R : Int)) ∧ w 8 1 < 30 → K (some (.inl (w 8 1 + 1))) (ck_up (ck_up w 9 (w 8 1) a1) 8 1 (w 8 1 + 1))) (h0 : ¬ ((0 ≤ a1 ∧ a1 < (R : Int)) ∧ w 8 1 < 30) → K (some (.inl (-1))) w) : ck_Ex (ch_C g A R) (d + 1) mX11_step [.inr (.inr 0), .inl a1] w K := by
  have c := cs_ar hC
  have e := hD.2
  exact e_X11_step hC ⟨by constructor <;> omega, fun q1 => ⟨fun q2 => ⟨by omega, by constructor <;> omega, h1 ⟨by omega, q2⟩⟩, fun q => h0 (fun x => q x.2)⟩, fun q => h0 (fun x => q (by omega))⟩
theorem dX11_unwalk_0 : decode cX11_unwalk 0 = .ok (.aload_n 0, 1) := by decide +kernel
theorem dX11_unwalk_1 : decode cX11_unwalk 1 = .ok (.getfield 14, 3) := by decide +kernel
theorem dX11_unwalk_4 : decode cX11_unwalk 4 = .ok (.getfield 36, 3) := by decide +kernel
theorem dX11_unwalk_7 : decode cX11_unwalk 7 = .ok (.getfield 140, 3) := by decide +kernel
theorem dX11_unwalk_10 : decode cX11_unwalk 10 = .ok (.istore_n 1, 1) := by decide +kernel
theorem dX11_unwalk_11 : decode cX11_unwalk 11 = .ok (.aload_n 0, 1) := by decide +kernel
theorem dX11_unwalk_12 : decode cX11_unwalk 12 = .ok (.getfield 14, 3) := by decide +kernel
theorem dX11_unwalk_15 : decode cX11_unwalk 15 = .ok (.getfield 36, 3) := by decide +kernel
theorem dX11_unwalk_18 : decode cX11_unwalk 18 = .ok (.iconst 0, 1) := by decide +kernel
theorem dX11_unwalk_19 : decode cX11_unwalk 19 = .ok (.putfield 140, 3) := by decide +kernel
theorem dX11_unwalk_22 : decode cX11_unwalk 22 = .ok (.iload_n 1, 1) := by decide +kernel
theorem dX11_unwalk_23 : decode cX11_unwalk 23 = .ok (.ireturn, 1) := by decide +kernel
set_option maxRecDepth 8000 in
theorem e_X11_unwalk {g : ch_G} {A R : Nat} (hC : ck_Cx g A R) {d : Nat} {K : Option ck_V → ck_W → Prop} {w : ck_W} (h : K (some (.inl (w 8 1))) (ck_up w 8 1 0)) : ck_Ex (ch_C g A R) d mX11_unwalk [.inr (.inr 0)] w K :=
  ck_entry hC.1 [some (.inr (.inr 0)), none] (by decide) (Nat.le_of_ble_eq_true rfl) rfl (fun q => q) (ck_in (fun hl => (ck_aload_n 1 rfl 0 dX11_unwalk_0 rfl rfl (ck_getr 4 rfl dX11_unwalk_1 fl_X11_14 sh_0 rfl (ck_getr 7 rfl dX11_unwalk_4 fl_X11_36 sh_1 rfl (ck_geti 10 rfl 1 dX11_unwalk_7 fl_X11_140 sh_8 rfl rfl _ rfl (fun (q1 : ck_i (w 8 1)) => (ck_istore_n 11 rfl 1 [some (.inr (.inr 0)), some (.inl (w 8 1))] dX11_unwalk_10 rfl (Nat.le_of_ble_eq_true rfl) rfl rfl q1 (ck_aload_n 12 rfl 0 dX11_unwalk_11 rfl rfl (ck_getr 15 rfl dX11_unwalk_12 fl_X11_14 sh_0 rfl (ck_getr 18 rfl dX11_unwalk_15 fl_X11_36 sh_1 rfl (ck_iconst 19 rfl dX11_unwalk_18 rfl (ck_puti 22 rfl 1 dX11_unwalk_19 fp_X11_140 sh_8 rfl rfl (show ck_i 0 by decide) (ck_iload_n 23 rfl 1 dX11_unwalk_22 rfl rfl (ck_iret dX11_unwalk_23 rfl q1 h)))))))))))))))
theorem C_unwalk {g : ch_G} {A R : Nat} (hC : ck_Cx g A R) {d : Nat} {K : Option ck_V → ck_W → Prop} {w : ck_W} (h : K (some (.inl (w 8 1))) (ck_up w 8 1 0)) : ck_Ex (ch_C g A R) d mX11_unwalk [.inr (.inr 0)] w K := e_X11_unwalk hC h
theorem dX11_jump_0 : decode cX11_jump 0 = .ok (.iload_n 1, 1) := by decide +kernel
theorem dX11_jump_1 : decode cX11_jump 1 = .ok (.iconst 0, 1) := by decide +kernel
theorem dX11_jump_2 : decode cX11_jump 2 = .ok (.bipush 99, 2) := by decide +kernel
theorem dX11_jump_4 : decode cX11_jump 4 = .ok (.invokestatic 82, 3) := by decide +kernel
theorem dX11_jump_7 : decode cX11_jump 7 = .ok (.ifCond .ne 5, 3) := by decide +kernel
theorem dX11_jump_10 : decode cX11_jump 10 = .ok (.iconst 0, 1) := by decide +kernel
theorem dX11_jump_11 : decode cX11_jump 11 = .ok (.ireturn, 1) := by decide +kernel
theorem dX11_jump_12 : decode cX11_jump 12 = .ok (.aload_n 0, 1) := by decide +kernel
theorem dX11_jump_13 : decode cX11_jump 13 = .ok (.getfield 14, 3) := by decide +kernel
theorem dX11_jump_16 : decode cX11_jump 16 = .ok (.getfield 36, 3) := by decide +kernel
theorem dX11_jump_19 : decode cX11_jump 19 = .ok (.iload_n 1, 1) := by decide +kernel
theorem dX11_jump_20 : decode cX11_jump 20 = .ok (.putfield 148, 3) := by decide +kernel
theorem dX11_jump_23 : decode cX11_jump 23 = .ok (.iconst 1, 1) := by decide +kernel
theorem dX11_jump_24 : decode cX11_jump 24 = .ok (.ireturn, 1) := by decide +kernel
set_option maxRecDepth 8000 in
theorem e_X11_jump {g : ch_G} {A R : Nat} (hC : ck_Cx g A R) {d : Nat} {K : Option ck_V → ck_W → Prop} {w : ck_W} {a1 : Int} (h : (0 ≤ a1 ∧ a1 ≤ 99 → K (some (.inl 1)) (ck_up w 8 2 a1)) ∧ (¬ (0 ≤ a1 ∧ a1 ≤ 99) → K (some (.inl 0)) w)) : ck_Ex (ch_C g A R) (d + 1) mX11_jump [.inr (.inr 0), .inl a1] w K :=
  ck_entry hC.1 [some (.inr (.inr 0)), some (.inl a1)] (by decide) (Nat.le_of_ble_eq_true rfl) rfl (fun q => q) (ck_in (fun hl => (ck_iload_n 1 rfl 1 dX11_jump_0 rfl rfl (ck_iconst 2 rfl dX11_jump_1 rfl (ck_bipush 4 rfl dX11_jump_2 rfl (have h3 := h; ck_callS 7 rfl [.inl a1, .inl 0, .inl 99] [] dX11_jump_4 cs_X11_82 rfl rfl (Nat.le_of_ble_eq_true rfl) (And.intro hl.2.1 (And.intro (show ck_i 0 by decide) (And.intro (show ck_i 99 by decide) True.intro))) (p_X11_within hC (fun c1 _ => (ck_if_ne 10 rfl 12 dX11_jump_7 rfl (by decide) (fun _ => (ck_aload_n 13 rfl 0 dX11_jump_12 rfl rfl (ck_getr 16 rfl dX11_jump_13 fl_X11_14 sh_0 rfl (ck_getr 19 rfl dX11_jump_16 fl_X11_36 sh_1 rfl (ck_iload_n 20 rfl 1 dX11_jump_19 rfl rfl (ck_puti 23 rfl 2 dX11_jump_20 fp_X11_148 sh_8 rfl rfl hl.2.1 (ck_iconst 24 rfl dX11_jump_23 rfl (ck_zret dX11_jump_24 rfl (by decide) (h3.1 c1))))))))) (fun q => absurd q (by decide)))) (fun c2 _ => (ck_if_ne 10 rfl 12 dX11_jump_7 rfl (by decide) (fun q => absurd q (by decide)) (fun _ => (ck_iconst 11 rfl dX11_jump_10 rfl (ck_zret dX11_jump_11 rfl (by decide) (h3.2 c2)))))))))))))
theorem C_jump {g : ch_G} {A R : Nat} (hC : ck_Cx g A R) {d : Nat} {K : Option ck_V → ck_W → Prop} {w : ck_W} {a1 : Int} (h1 : 0 ≤ a1 ∧ a1 ≤ 99 → K (some (.inl 1)) (ck_up w 8 2 a1)) (h0 : ¬ (0 ≤ a1 ∧ a1 ≤ 99) → K (some (.inl 0)) w) : ck_Ex (ch_C g A R) (d + 1) mX11_jump [.inr (.inr 0), .inl a1] w K := e_X11_jump hC ⟨h1, h0⟩
theorem dX11_end_0 : decode cX11_end 0 = .ok (.iload_n 1, 1) := by decide +kernel
theorem dX11_end_1 : decode cX11_end 1 = .ok (.iconst 0, 1) := by decide +kernel
theorem dX11_end_2 : decode cX11_end 2 = .ok (.aload_n 0, 1) := by decide +kernel
theorem dX11_end_3 : decode cX11_end 3 = .ok (.getfield 50, 3) := by decide +kernel
theorem dX11_end_6 : decode cX11_end 6 = .ok (.getfield 176, 3) := by decide +kernel
theorem dX11_end_9 : decode cX11_end 9 = .ok (.invokestatic 82, 3) := by decide +kernel
theorem dX11_end_12 : decode cX11_end 12 = .ok (.ifCond .ne 5, 3) := by decide +kernel
theorem dX11_end_15 : decode cX11_end 15 = .ok (.iconst (-1), 1) := by decide +kernel
theorem dX11_end_16 : decode cX11_end 16 = .ok (.ireturn, 1) := by decide +kernel
theorem dX11_end_17 : decode cX11_end 17 = .ok (.aload_n 0, 1) := by decide +kernel
theorem dX11_end_18 : decode cX11_end 18 = .ok (.getfield 50, 3) := by decide +kernel
theorem dX11_end_21 : decode cX11_end 21 = .ok (.iload_n 1, 1) := by decide +kernel
theorem dX11_end_22 : decode cX11_end 22 = .ok (.putfield 176, 3) := by decide +kernel
theorem dX11_end_25 : decode cX11_end 25 = .ok (.iload_n 1, 1) := by decide +kernel
theorem dX11_end_26 : decode cX11_end 26 = .ok (.ireturn, 1) := by decide +kernel
set_option maxRecDepth 8000 in
theorem e_X11_end {g : ch_G} {A R : Nat} (hC : ck_Cx g A R) {d : Nat} {K : Option ck_V → ck_W → Prop} {w : ck_W} {a1 : Int} (h : (0 ≤ a1 ∧ a1 ≤ (w 67 1) → K (some (.inl a1)) (ck_up w 67 1 a1)) ∧ (¬ (0 ≤ a1 ∧ a1 ≤ (w 67 1)) → K (some (.inl (-1))) w)) : ck_Ex (ch_C g A R) (d + 1) mX11_end [.inr (.inr 0), .inl a1] w K :=
  ck_entry hC.1 [some (.inr (.inr 0)), some (.inl a1)] (by decide) (Nat.le_of_ble_eq_true rfl) rfl (fun q => q) (ck_in (fun hl => (ck_iload_n 1 rfl 1 dX11_end_0 rfl rfl (ck_iconst 2 rfl dX11_end_1 rfl (ck_aload_n 3 rfl 0 dX11_end_2 rfl rfl (ck_getr 6 rfl dX11_end_3 fl_X11_50 sh_0 rfl (ck_geti 9 rfl 1 dX11_end_6 fl_X11_176 sh_67 rfl rfl _ rfl (fun (q1 : ck_i (w 67 1)) => (have h4 := h; ck_callS 12 rfl [.inl a1, .inl 0, .inl (w 67 1)] [] dX11_end_9 cs_X11_82 rfl rfl (Nat.le_of_ble_eq_true rfl) (And.intro hl.2.1 (And.intro (show ck_i 0 by decide) (And.intro q1 True.intro))) (p_X11_within hC (fun c2 _ => (ck_if_ne 15 rfl 17 dX11_end_12 rfl (by decide) (fun _ => (ck_aload_n 18 rfl 0 dX11_end_17 rfl rfl (ck_getr 21 rfl dX11_end_18 fl_X11_50 sh_0 rfl (ck_iload_n 22 rfl 1 dX11_end_21 rfl rfl (ck_puti 25 rfl 1 dX11_end_22 fp_X11_176 sh_67 rfl rfl hl.2.1 (ck_iload_n 26 rfl 1 dX11_end_25 rfl rfl (ck_iret dX11_end_26 rfl hl.2.1 (h4.1 c2)))))))) (fun q => absurd q (by decide)))) (fun c3 _ => (ck_if_ne 15 rfl 17 dX11_end_12 rfl (by decide) (fun q => absurd q (by decide)) (fun _ => (ck_iconst 16 rfl dX11_end_15 rfl (ck_iret dX11_end_16 rfl (show ck_i (-1) by decide) (h4.2 c3))))))))))))))))
theorem C_end {g : ch_G} {A R : Nat} (hC : ck_Cx g A R) {d : Nat} {K : Option ck_V → ck_W → Prop} {w : ck_W} {a1 : Int} (h1 : 0 ≤ a1 ∧ a1 ≤ w 67 1 → K (some (.inl a1)) (ck_up w 67 1 a1)) (h0 : ¬ (0 ≤ a1 ∧ a1 ≤ w 67 1) → K (some (.inl (-1))) w) : ck_Ex (ch_C g A R) (d + 1) mX11_end [.inr (.inr 0), .inl a1] w K := e_X11_end hC ⟨h1, h0⟩
theorem dX11_fault_0 : decode cX11_fault 0 = .ok (.iload_n 1, 1) := by decide +kernel
theorem dX11_fault_1 : decode cX11_fault 1 = .ok (.ifCond .ne 11, 3) := by decide +kernel
theorem dX11_fault_4 : decode cX11_fault 4 = .ok (.aload_n 0, 1) := by decide +kernel
theorem dX11_fault_5 : decode cX11_fault 5 = .ok (.getfield 50, 3) := by decide +kernel
theorem dX11_fault_8 : decode cX11_fault 8 = .ok (.getfield 200, 3) := by decide +kernel
theorem dX11_fault_11 : decode cX11_fault 11 = .ok (.ireturn, 1) := by decide +kernel
theorem dX11_fault_12 : decode cX11_fault 12 = .ok (.iload_n 1, 1) := by decide +kernel
theorem dX11_fault_13 : decode cX11_fault 13 = .ok (.iconst 1, 1) := by decide +kernel
theorem dX11_fault_14 : decode cX11_fault 14 = .ok (.if_icmp .ne 13, 3) := by decide +kernel
theorem dX11_fault_17 : decode cX11_fault 17 = .ok (.aload_n 0, 1) := by decide +kernel
theorem dX11_fault_18 : decode cX11_fault 18 = .ok (.getfield 50, 3) := by decide +kernel
theorem dX11_fault_21 : decode cX11_fault 21 = .ok (.getfield 203, 3) := by decide +kernel
theorem dX11_fault_24 : decode cX11_fault 24 = .ok (.goto 4, 3) := by decide +kernel
theorem dX11_fault_27 : decode cX11_fault 27 = .ok (.iconst (-1), 1) := by decide +kernel
theorem dX11_fault_28 : decode cX11_fault 28 = .ok (.ireturn, 1) := by decide +kernel
set_option maxRecDepth 8000 in
theorem e_X11_fault {g : ch_G} {A R : Nat} (hC : ck_Cx g A R) {d : Nat} {K : Option ck_V → ck_W → Prop} {w : ck_W} {a1 : Int} (h : (¬ a1 = 0 → (¬ a1 = 1 → K (some (.inl (-1))) w) ∧ (a1 = 1 → K (some (.inl (w 67 3))) w)) ∧ (a1 = 0 → K (some (.inl (w 67 2))) w)) : ck_Ex (ch_C g A R) d mX11_fault [.inr (.inr 0), .inl a1] w K :=
  ck_entry hC.1 [some (.inr (.inr 0)), some (.inl a1)] (by decide) (Nat.le_of_ble_eq_true rfl) rfl (fun q => q) (ck_in (fun hl => (ck_iload_n 1 rfl 1 dX11_fault_0 rfl rfl (ck_if_ne 4 rfl 12 dX11_fault_1 rfl hl.2.1 (fun c5 => (ck_iload_n 13 rfl 1 dX11_fault_12 rfl rfl (ck_iconst 14 rfl dX11_fault_13 rfl (have h7 := (h.1 c5); (ck_icmp_ne 17 rfl 27 dX11_fault_14 rfl hl.2.1 (show ck_i 1 by decide) (fun c2 => (ck_iconst 28 rfl dX11_fault_27 rfl (ck_iret dX11_fault_28 rfl (show ck_i (-1) by decide) (h7.1 c2)))) (fun c3 => (ck_aload_n 18 rfl 0 dX11_fault_17 rfl rfl (ck_getr 21 rfl dX11_fault_18 fl_X11_50 sh_0 rfl (ck_geti 24 rfl 3 dX11_fault_21 fl_X11_203 sh_67 rfl rfl _ rfl (fun (q1 : ck_i (w 67 3)) => (ck_goto 28 dX11_fault_24 rfl (ck_iret dX11_fault_28 rfl q1 (h7.2 c3))))))))))))) (fun c6 => (ck_aload_n 5 rfl 0 dX11_fault_4 rfl rfl (ck_getr 8 rfl dX11_fault_5 fl_X11_50 sh_0 rfl (ck_geti 11 rfl 2 dX11_fault_8 fl_X11_200 sh_67 rfl rfl _ rfl (fun (q4 : ck_i (w 67 2)) => (ck_iret dX11_fault_11 rfl q4 (h.2 c6)))))))))))
theorem C_fault {g : ch_G} {A R : Nat} (hC : ck_Cx g A R) {d : Nat} {K : Option ck_V → ck_W → Prop} {w : ck_W} {a1 : Int} (h : K (some (.inl (if a1 = 0 then w 67 2 else if a1 = 1 then w 67 3 else -1))) w) : ck_Ex (ch_C g A R) d mX11_fault [.inr (.inr 0), .inl a1] w K := by
  refine e_X11_fault hC ⟨fun q => ⟨fun q2 => ?_, fun q2 => ?_⟩, fun q => ?_⟩
  · rw [if_neg q, if_neg q2] at h; exact h
  · rw [if_neg q, if_pos q2] at h; exact h
  · rw [if_pos q] at h; exact h
theorem dX11_chances_0 : decode cX11_chances 0 = .ok (.iload_n 1, 1) := by decide +kernel
theorem dX11_chances_1 : decode cX11_chances 1 = .ok (.iconst 1, 1) := by decide +kernel
theorem dX11_chances_2 : decode cX11_chances 2 = .ok (.iconst 3, 1) := by decide +kernel
theorem dX11_chances_3 : decode cX11_chances 3 = .ok (.invokestatic 82, 3) := by decide +kernel
theorem dX11_chances_6 : decode cX11_chances 6 = .ok (.ifCond .eq 12, 3) := by decide +kernel
theorem dX11_chances_9 : decode cX11_chances 9 = .ok (.iload_n 2, 1) := by decide +kernel
theorem dX11_chances_10 : decode cX11_chances 10 = .ok (.iconst 1, 1) := by decide +kernel
theorem dX11_chances_11 : decode cX11_chances 11 = .ok (.iconst 3, 1) := by decide +kernel
theorem dX11_chances_12 : decode cX11_chances 12 = .ok (.invokestatic 82, 3) := by decide +kernel
theorem dX11_chances_15 : decode cX11_chances 15 = .ok (.ifCond .ne 5, 3) := by decide +kernel
theorem dX11_chances_18 : decode cX11_chances 18 = .ok (.iconst 0, 1) := by decide +kernel
theorem dX11_chances_19 : decode cX11_chances 19 = .ok (.ireturn, 1) := by decide +kernel
theorem dX11_chances_20 : decode cX11_chances 20 = .ok (.aload_n 0, 1) := by decide +kernel
theorem dX11_chances_21 : decode cX11_chances 21 = .ok (.getfield 14, 3) := by decide +kernel
theorem dX11_chances_24 : decode cX11_chances 24 = .ok (.getfield 229, 3) := by decide +kernel
theorem dX11_chances_27 : decode cX11_chances 27 = .ok (.iload_n 1, 1) := by decide +kernel
theorem dX11_chances_28 : decode cX11_chances 28 = .ok (.putfield 259, 3) := by decide +kernel
theorem dX11_chances_31 : decode cX11_chances 31 = .ok (.aload_n 0, 1) := by decide +kernel
theorem dX11_chances_32 : decode cX11_chances 32 = .ok (.getfield 14, 3) := by decide +kernel
theorem dX11_chances_35 : decode cX11_chances 35 = .ok (.getfield 229, 3) := by decide +kernel
theorem dX11_chances_38 : decode cX11_chances 38 = .ok (.iload_n 2, 1) := by decide +kernel
theorem dX11_chances_39 : decode cX11_chances 39 = .ok (.putfield 262, 3) := by decide +kernel
theorem dX11_chances_42 : decode cX11_chances 42 = .ok (.iconst 1, 1) := by decide +kernel
theorem dX11_chances_43 : decode cX11_chances 43 = .ok (.ireturn, 1) := by decide +kernel
set_option maxRecDepth 8000 in
theorem e_X11_chances {g : ch_G} {A R : Nat} (hC : ck_Cx g A R) {d : Nat} {K : Option ck_V → ck_W → Prop} {w : ck_W} {a1 a2 : Int} (h : (1 ≤ a1 ∧ a1 ≤ 3 → (1 ≤ a2 ∧ a2 ≤ 3 → K (some (.inl 1)) (ck_up (ck_up w 15 6 a1) 15 7 a2)) ∧ (¬ (1 ≤ a2 ∧ a2 ≤ 3) → K (some (.inl 0)) w)) ∧ (¬ (1 ≤ a1 ∧ a1 ≤ 3) → K (some (.inl 0)) w)) : ck_Ex (ch_C g A R) (d + 1) mX11_chances [.inr (.inr 0), .inl a1, .inl a2] w K :=
  ck_entry hC.1 [some (.inr (.inr 0)), some (.inl a1), some (.inl a2)] (by decide) (Nat.le_of_ble_eq_true rfl) rfl (fun q => q) (ck_in (fun hl => (ck_iload_n 1 rfl 1 dX11_chances_0 rfl rfl (ck_iconst 2 rfl dX11_chances_1 rfl (ck_iconst 3 rfl dX11_chances_2 rfl (have h6 := h; ck_callS 6 rfl [.inl a1, .inl 1, .inl 3] [] dX11_chances_3 cs_X11_82 rfl rfl (Nat.le_of_ble_eq_true rfl) (And.intro hl.2.1 (And.intro (show ck_i 1 by decide) (And.intro (show ck_i 3 by decide) True.intro))) (p_X11_within hC (fun c4 _ => (ck_if_eq 9 rfl 18 dX11_chances_6 rfl (by decide) (fun q => absurd q (by decide)) (fun _ => (ck_iload_n 10 rfl 2 dX11_chances_9 rfl rfl (ck_iconst 11 rfl dX11_chances_10 rfl (ck_iconst 12 rfl dX11_chances_11 rfl (have h3 := (h6.1 c4); ck_callS 15 rfl [.inl a2, .inl 1, .inl 3] [] dX11_chances_12 cs_X11_82 rfl rfl (Nat.le_of_ble_eq_true rfl) (And.intro hl.2.2.1 (And.intro (show ck_i 1 by decide) (And.intro (show ck_i 3 by decide) True.intro))) (p_X11_within hC (fun c1 _ => (ck_if_ne 18 rfl 20 dX11_chances_15 rfl (by decide) (fun _ => (ck_aload_n 21 rfl 0 dX11_chances_20 rfl rfl (ck_getr 24 rfl dX11_chances_21 fl_X11_14 sh_0 rfl (ck_getr 27 rfl dX11_chances_24 fl_X11_229 sh_1 rfl (ck_iload_n 28 rfl 1 dX11_chances_27 rfl rfl (ck_puti 31 rfl 6 dX11_chances_28 fp_X11_259 sh_15 rfl rfl hl.2.1 (ck_aload_n 32 rfl 0 dX11_chances_31 rfl rfl (ck_getr 35 rfl dX11_chances_32 fl_X11_14 sh_0 rfl (ck_getr 38 rfl dX11_chances_35 fl_X11_229 sh_1 rfl (ck_iload_n 39 rfl 2 dX11_chances_38 rfl rfl (ck_puti 42 rfl 7 dX11_chances_39 fp_X11_262 sh_15 rfl rfl hl.2.2.1 (ck_iconst 43 rfl dX11_chances_42 rfl (ck_zret dX11_chances_43 rfl (by decide) (h3.1 c1)))))))))))))) (fun q => absurd q (by decide)))) (fun c2 _ => (ck_if_ne 18 rfl 20 dX11_chances_15 rfl (by decide) (fun q => absurd q (by decide)) (fun _ => (ck_iconst 19 rfl dX11_chances_18 rfl (ck_zret dX11_chances_19 rfl (by decide) (h3.2 c2)))))))))))))) (fun c5 _ => (ck_if_eq 9 rfl 18 dX11_chances_6 rfl (by decide) (fun _ => (ck_iconst 19 rfl dX11_chances_18 rfl (ck_zret dX11_chances_19 rfl (by decide) (h6.2 c5)))) (fun q => absurd q (by decide)))))))))))
theorem C_chances {g : ch_G} {A R : Nat} (hC : ck_Cx g A R) {d : Nat} {K : Option ck_V → ck_W → Prop} {w : ck_W} {a1 a2 : Int} (h1 : (1 ≤ a1 ∧ a1 ≤ 3) ∧ (1 ≤ a2 ∧ a2 ≤ 3) → K (some (.inl 1)) (ck_up (ck_up w 15 6 a1) 15 7 a2)) (h0 : ¬ ((1 ≤ a1 ∧ a1 ≤ 3) ∧ (1 ≤ a2 ∧ a2 ≤ 3)) → K (some (.inl 0)) w) : ck_Ex (ch_C g A R) (d + 1) mX11_chances [.inr (.inr 0), .inl a1, .inl a2] w K :=
  e_X11_chances hC ⟨fun q1 => ⟨fun q2 => h1 ⟨q1, q2⟩, fun q => h0 (fun x => q x.2)⟩, fun q => h0 (fun x => q x.1)⟩
theorem dX11_fetch_0 : decode cX11_fetch 0 = .ok (.iload_n 1, 1) := by decide +kernel
theorem dX11_fetch_1 : decode cX11_fetch 1 = .ok (.iconst 0, 1) := by decide +kernel
theorem dX11_fetch_2 : decode cX11_fetch 2 = .ok (.iconst 3, 1) := by decide +kernel
theorem dX11_fetch_3 : decode cX11_fetch 3 = .ok (.invokestatic 82, 3) := by decide +kernel
theorem dX11_fetch_6 : decode cX11_fetch 6 = .ok (.ifCond .eq 13, 3) := by decide +kernel
theorem dX11_fetch_9 : decode cX11_fetch 9 = .ok (.iload_n 2, 1) := by decide +kernel
theorem dX11_fetch_10 : decode cX11_fetch 10 = .ok (.iconst 0, 1) := by decide +kernel
theorem dX11_fetch_11 : decode cX11_fetch 11 = .ok (.bipush 50, 2) := by decide +kernel
theorem dX11_fetch_13 : decode cX11_fetch 13 = .ok (.invokestatic 82, 3) := by decide +kernel
theorem dX11_fetch_16 : decode cX11_fetch 16 = .ok (.ifCond .ne 5, 3) := by decide +kernel
theorem dX11_fetch_19 : decode cX11_fetch 19 = .ok (.iconst 0, 1) := by decide +kernel
theorem dX11_fetch_20 : decode cX11_fetch 20 = .ok (.ireturn, 1) := by decide +kernel
theorem dX11_fetch_21 : decode cX11_fetch 21 = .ok (.aload_n 0, 1) := by decide +kernel
theorem dX11_fetch_22 : decode cX11_fetch 22 = .ok (.getfield 14, 3) := by decide +kernel
theorem dX11_fetch_25 : decode cX11_fetch 25 = .ok (.getfield 310, 3) := by decide +kernel
theorem dX11_fetch_28 : decode cX11_fetch 28 = .ok (.getfield 326, 3) := by decide +kernel
theorem dX11_fetch_31 : decode cX11_fetch 31 = .ok (.iload_n 1, 1) := by decide +kernel
theorem dX11_fetch_32 : decode cX11_fetch 32 = .ok (.iload_n 2, 1) := by decide +kernel
theorem dX11_fetch_33 : decode cX11_fetch 33 = .ok (.iastore, 1) := by decide +kernel
theorem dX11_fetch_34 : decode cX11_fetch 34 = .ok (.iconst 1, 1) := by decide +kernel
theorem dX11_fetch_35 : decode cX11_fetch 35 = .ok (.ireturn, 1) := by decide +kernel
set_option maxRecDepth 8000 in
theorem e_X11_fetch {g : ch_G} {A R : Nat} (hC : ck_Cx g A R) {d : Nat} {K : Option ck_V → ck_W → Prop} {w : ck_W} {a1 a2 : Int} (h : (0 ≤ a1 ∧ a1 ≤ 3 → (0 ≤ a2 ∧ a2 ≤ 50 → (0 ≤ a1 ∧ a1 < 4) ∧ (K (some (.inl 1)) (ck_up w 24 a1 a2))) ∧ (¬ (0 ≤ a2 ∧ a2 ≤ 50) → K (some (.inl 0)) w)) ∧ (¬ (0 ≤ a1 ∧ a1 ≤ 3) → K (some (.inl 0)) w)) : ck_Ex (ch_C g A R) (d + 1) mX11_fetch [.inr (.inr 0), .inl a1, .inl a2] w K :=
  ck_entry hC.1 [some (.inr (.inr 0)), some (.inl a1), some (.inl a2)] (by decide) (Nat.le_of_ble_eq_true rfl) rfl (fun q => q) (ck_in (fun hl => (ck_iload_n 1 rfl 1 dX11_fetch_0 rfl rfl (ck_iconst 2 rfl dX11_fetch_1 rfl (ck_iconst 3 rfl dX11_fetch_2 rfl (have h7 := h; ck_callS 6 rfl [.inl a1, .inl 0, .inl 3] [] dX11_fetch_3 cs_X11_82 rfl rfl (Nat.le_of_ble_eq_true rfl) (And.intro hl.2.1 (And.intro (show ck_i 0 by decide) (And.intro (show ck_i 3 by decide) True.intro))) (p_X11_within hC (fun c5 _ => (ck_if_eq 9 rfl 19 dX11_fetch_6 rfl (by decide) (fun q => absurd q (by decide)) (fun _ => (ck_iload_n 10 rfl 2 dX11_fetch_9 rfl rfl (ck_iconst 11 rfl dX11_fetch_10 rfl (ck_bipush 13 rfl dX11_fetch_11 rfl (have h4 := (h7.1 c5); ck_callS 16 rfl [.inl a2, .inl 0, .inl 50] [] dX11_fetch_13 cs_X11_82 rfl rfl (Nat.le_of_ble_eq_true rfl) (And.intro hl.2.2.1 (And.intro (show ck_i 0 by decide) (And.intro (show ck_i 50 by decide) True.intro))) (p_X11_within hC (fun c2 _ => (ck_if_ne 19 rfl 21 dX11_fetch_16 rfl (by decide) (fun _ => (ck_aload_n 22 rfl 0 dX11_fetch_21 rfl rfl (ck_getr 25 rfl dX11_fetch_22 fl_X11_14 sh_0 rfl (ck_getr 28 rfl dX11_fetch_25 fl_X11_310 sh_1 rfl (ck_getr 31 rfl dX11_fetch_28 fl_X11_326 sh_20 rfl (ck_iload_n 32 rfl 1 dX11_fetch_31 rfl rfl (ck_iload_n 33 rfl 2 dX11_fetch_32 rfl rfl (have h9 := (h4.1 c2); have o1 := h9.1; have h8 := h9.2; (ck_iast 34 rfl dX11_fetch_33 sh_24 (shn_24 hC) o1 hl.2.2.1 (ck_iconst 35 rfl dX11_fetch_34 rfl (ck_zret dX11_fetch_35 rfl (by decide) h8))))))))))) (fun q => absurd q (by decide)))) (fun c3 _ => (ck_if_ne 19 rfl 21 dX11_fetch_16 rfl (by decide) (fun q => absurd q (by decide)) (fun _ => (ck_iconst 20 rfl dX11_fetch_19 rfl (ck_zret dX11_fetch_20 rfl (by decide) (h4.2 c3)))))))))))))) (fun c6 _ => (ck_if_eq 9 rfl 19 dX11_fetch_6 rfl (by decide) (fun _ => (ck_iconst 20 rfl dX11_fetch_19 rfl (ck_zret dX11_fetch_20 rfl (by decide) (h7.2 c6)))) (fun q => absurd q (by decide)))))))))))
theorem C_fetch {g : ch_G} {A R : Nat} (hC : ck_Cx g A R) {d : Nat} {K : Option ck_V → ck_W → Prop} {w : ck_W} {a1 a2 : Int} (h1 : (0 ≤ a1 ∧ a1 ≤ 3) ∧ (0 ≤ a2 ∧ a2 ≤ 50) → K (some (.inl 1)) (ck_up w 24 a1 a2)) (h0 : ¬ ((0 ≤ a1 ∧ a1 ≤ 3) ∧ (0 ≤ a2 ∧ a2 ≤ 50)) → K (some (.inl 0)) w) : ck_Ex (ch_C g A R) (d + 1) mX11_fetch [.inr (.inr 0), .inl a1, .inl a2] w K :=
  e_X11_fetch hC ⟨fun q1 => ⟨fun q2 => ⟨by omega, h1 ⟨q1, q2⟩⟩, fun q => h0 (fun x => q x.2)⟩, fun q => h0 (fun x => q x.1)⟩
theorem dX11_part_0 : decode cX11_part 0 = .ok (.aload_n 0, 1) := by decide +kernel
theorem dX11_part_1 : decode cX11_part 1 = .ok (.getfield 14, 3) := by decide +kernel
theorem dX11_part_4 : decode cX11_part 4 = .ok (.getfield 310, 3) := by decide +kernel
theorem dX11_part_7 : decode cX11_part 7 = .ok (.astore 4, 2) := by decide +kernel
theorem dX11_part_9 : decode cX11_part 9 = .ok (.iload_n 1, 1) := by decide +kernel
theorem dX11_part_10 : decode cX11_part 10 = .ok (.iconst 1, 1) := by decide +kernel
theorem dX11_part_11 : decode cX11_part 11 = .ok (.bipush 50, 2) := by decide +kernel
theorem dX11_part_13 : decode cX11_part 13 = .ok (.invokestatic 82, 3) := by decide +kernel
theorem dX11_part_16 : decode cX11_part 16 = .ok (.ifCond .eq 23, 3) := by decide +kernel
theorem dX11_part_19 : decode cX11_part 19 = .ok (.iload_n 2, 1) := by decide +kernel
theorem dX11_part_20 : decode cX11_part 20 = .ok (.iconst 1, 1) := by decide +kernel
theorem dX11_part_21 : decode cX11_part 21 = .ok (.sipush 999, 3) := by decide +kernel
theorem dX11_part_24 : decode cX11_part 24 = .ok (.invokestatic 82, 3) := by decide +kernel
theorem dX11_part_27 : decode cX11_part 27 = .ok (.ifCond .eq 12, 3) := by decide +kernel
theorem dX11_part_30 : decode cX11_part 30 = .ok (.iload_n 3, 1) := by decide +kernel
theorem dX11_part_31 : decode cX11_part 31 = .ok (.iconst 0, 1) := by decide +kernel
theorem dX11_part_32 : decode cX11_part 32 = .ok (.iconst 3, 1) := by decide +kernel
theorem dX11_part_33 : decode cX11_part 33 = .ok (.invokestatic 82, 3) := by decide +kernel
theorem dX11_part_36 : decode cX11_part 36 = .ok (.ifCond .ne 5, 3) := by decide +kernel
theorem dX11_part_39 : decode cX11_part 39 = .ok (.iconst (-1), 1) := by decide +kernel
theorem dX11_part_40 : decode cX11_part 40 = .ok (.ireturn, 1) := by decide +kernel
theorem dX11_part_41 : decode cX11_part 41 = .ok (.aload 4, 2) := by decide +kernel
theorem dX11_part_43 : decode cX11_part 43 = .ok (.getfield 314, 3) := by decide +kernel
theorem dX11_part_46 : decode cX11_part 46 = .ok (.bipush 16, 2) := by decide +kernel
theorem dX11_part_48 : decode cX11_part 48 = .ok (.if_icmp .lt 5, 3) := by decide +kernel
theorem dX11_part_51 : decode cX11_part 51 = .ok (.iconst (-1), 1) := by decide +kernel
theorem dX11_part_52 : decode cX11_part 52 = .ok (.ireturn, 1) := by decide +kernel
theorem dX11_part_53 : decode cX11_part 53 = .ok (.aload 4, 2) := by decide +kernel
theorem dX11_part_55 : decode cX11_part 55 = .ok (.getfield 317, 3) := by decide +kernel
theorem dX11_part_58 : decode cX11_part 58 = .ok (.aload 4, 2) := by decide +kernel
theorem dX11_part_60 : decode cX11_part 60 = .ok (.getfield 314, 3) := by decide +kernel
theorem dX11_part_63 : decode cX11_part 63 = .ok (.iload_n 1, 1) := by decide +kernel
theorem dX11_part_64 : decode cX11_part 64 = .ok (.iastore, 1) := by decide +kernel
theorem dX11_part_65 : decode cX11_part 65 = .ok (.aload 4, 2) := by decide +kernel
theorem dX11_part_67 : decode cX11_part 67 = .ok (.getfield 320, 3) := by decide +kernel
theorem dX11_part_70 : decode cX11_part 70 = .ok (.aload 4, 2) := by decide +kernel
theorem dX11_part_72 : decode cX11_part 72 = .ok (.getfield 314, 3) := by decide +kernel
theorem dX11_part_75 : decode cX11_part 75 = .ok (.iload_n 2, 1) := by decide +kernel
theorem dX11_part_76 : decode cX11_part 76 = .ok (.iastore, 1) := by decide +kernel
theorem dX11_part_77 : decode cX11_part 77 = .ok (.aload 4, 2) := by decide +kernel
theorem dX11_part_79 : decode cX11_part 79 = .ok (.getfield 323, 3) := by decide +kernel
theorem dX11_part_82 : decode cX11_part 82 = .ok (.aload 4, 2) := by decide +kernel
theorem dX11_part_84 : decode cX11_part 84 = .ok (.getfield 314, 3) := by decide +kernel
theorem dX11_part_87 : decode cX11_part 87 = .ok (.iload_n 3, 1) := by decide +kernel
theorem dX11_part_88 : decode cX11_part 88 = .ok (.iastore, 1) := by decide +kernel
theorem dX11_part_89 : decode cX11_part 89 = .ok (.aload 4, 2) := by decide +kernel
theorem dX11_part_91 : decode cX11_part 91 = .ok (.dup, 1) := by decide +kernel
theorem dX11_part_92 : decode cX11_part 92 = .ok (.getfield 314, 3) := by decide +kernel
theorem dX11_part_95 : decode cX11_part 95 = .ok (.iconst 1, 1) := by decide +kernel
theorem dX11_part_96 : decode cX11_part 96 = .ok (.iadd, 1) := by decide +kernel
theorem dX11_part_97 : decode cX11_part 97 = .ok (.putfield 314, 3) := by decide +kernel
theorem dX11_part_100 : decode cX11_part 100 = .ok (.aload 4, 2) := by decide +kernel
theorem dX11_part_102 : decode cX11_part 102 = .ok (.getfield 314, 3) := by decide +kernel
theorem dX11_part_105 : decode cX11_part 105 = .ok (.ireturn, 1) := by decide +kernel
set_option maxRecDepth 8000 in
theorem e_X11_part {g : ch_G} {A R : Nat} (hC : ck_Cx g A R) {d : Nat} {K : Option ck_V → ck_W → Prop} {w : ck_W} {a1 a2 a3 : Int} (h : (1 ≤ a1 ∧ a1 ≤ 50 → (1 ≤ a2 ∧ a2 ≤ 999 → (0 ≤ a3 ∧ a3 ≤ 3 → ((w 20 3) < 16 → (0 ≤ (w 20 3) ∧ (w 20 3) < 16) ∧ (ck_i ((w 20 3) + 1) ∧ (K (some (.inl ((w 20 3) + 1))) (ck_up (ck_up (ck_up (ck_up w 21 (w 20 3) a1) 22 (w 20 3) a2) 23 (w 20 3) a3) 20 3 ((w 20 3) + 1))))) ∧ (¬ (w 20 3) < 16 → K (some (.inl (-1))) w)) ∧ (¬ (0 ≤ a3 ∧ a3 ≤ 3) → K (some (.inl (-1))) w)) ∧ (¬ (1 ≤ a2 ∧ a2 ≤ 999) → K (some (.inl (-1))) w)) ∧ (¬ (1 ≤ a1 ∧ a1 ≤ 50) → K (some (.inl (-1))) w)) : ck_Ex (ch_C g A R) (d + 1) mX11_part [.inr (.inr 0), .inl a1, .inl a2, .inl a3] w K :=
  ck_entry hC.1 [some (.inr (.inr 0)), some (.inl a1), some (.inl a2), some (.inl a3), none] (by decide) (Nat.le_of_ble_eq_true rfl) rfl (fun q => q) (ck_in (fun hl => (ck_aload_n 1 rfl 0 dX11_part_0 rfl rfl (ck_getr 4 rfl dX11_part_1 fl_X11_14 sh_0 rfl (ck_getr 7 rfl dX11_part_4 fl_X11_310 sh_1 rfl (ck_astore 9 rfl [some (.inr (.inr 0)), some (.inl a1), some (.inl a2), some (.inl a3), some (.inr (.inr 20))] dX11_part_7 (Nat.le_of_ble_eq_true rfl) rfl rfl (ck_iload_n 10 rfl 1 dX11_part_9 rfl rfl (ck_iconst 11 rfl dX11_part_10 rfl (ck_bipush 13 rfl dX11_part_11 rfl (have h19 := h; ck_callS 16 rfl [.inl a1, .inl 1, .inl 50] [] dX11_part_13 cs_X11_82 rfl rfl (Nat.le_of_ble_eq_true rfl) (And.intro hl.2.1 (And.intro (show ck_i 1 by decide) (And.intro (show ck_i 50 by decide) True.intro))) (p_X11_within hC (fun c17 _ => (ck_if_eq 19 rfl 39 dX11_part_16 rfl (by decide) (fun q => absurd q (by decide)) (fun _ => (ck_iload_n 20 rfl 2 dX11_part_19 rfl rfl (ck_iconst 21 rfl dX11_part_20 rfl (ck_sipush 24 rfl dX11_part_21 rfl (have h16 := (h19.1 c17); ck_callS 27 rfl [.inl a2, .inl 1, .inl 999] [] dX11_part_24 cs_X11_82 rfl rfl (Nat.le_of_ble_eq_true rfl) (And.intro hl.2.2.1 (And.intro (show ck_i 1 by decide) (And.intro (show ck_i 999 by decide) True.intro))) (p_X11_within hC (fun c14 _ => (ck_if_eq 30 rfl 39 dX11_part_27 rfl (by decide) (fun q => absurd q (by decide)) (fun _ => (ck_iload_n 31 rfl 3 dX11_part_30 rfl rfl (ck_iconst 32 rfl dX11_part_31 rfl (ck_iconst 33 rfl dX11_part_32 rfl (have h13 := (h16.1 c14); ck_callS 36 rfl [.inl a3, .inl 0, .inl 3] [] dX11_part_33 cs_X11_82 rfl rfl (Nat.le_of_ble_eq_true rfl) (And.intro hl.2.2.2.1 (And.intro (show ck_i 0 by decide) (And.intro (show ck_i 3 by decide) True.intro))) (p_X11_within hC (fun c11 _ => (ck_if_ne 39 rfl 41 dX11_part_36 rfl (by decide) (fun _ => (ck_aload 43 rfl dX11_part_41 rfl (ck_geti 46 rfl 3 dX11_part_43 fl_X11_314 sh_20 rfl rfl _ rfl (fun (q1 : ck_i (w 20 3)) => (ck_bipush 48 rfl dX11_part_46 rfl (have h20 := (h13.1 c11); (ck_icmp_lt 51 rfl 53 dX11_part_48 rfl q1 (show ck_i 16 by decide) (fun c9 => (ck_aload 55 rfl dX11_part_53 rfl (ck_getr 58 rfl dX11_part_55 fl_X11_317 sh_20 rfl (ck_aload 60 rfl dX11_part_58 rfl (ck_geti 63 rfl 3 dX11_part_60 fl_X11_314 sh_20 rfl rfl _ rfl (fun (q2 : ck_i (w 20 3)) => (ck_iload_n 64 rfl 1 dX11_part_63 rfl rfl (have h22 := (h20.1 c9); have o3 := h22.1; have h21 := h22.2; (ck_iast 65 rfl dX11_part_64 sh_21 (shn_21 hC) o3 hl.2.1 (ck_aload 67 rfl dX11_part_65 rfl (ck_getr 70 rfl dX11_part_67 fl_X11_320 sh_20 rfl (ck_aload 72 rfl dX11_part_70 rfl (ck_geti 75 rfl 3 dX11_part_72 fl_X11_314 sh_20 rfl rfl _ rfl (fun (q4 : ck_i (w 20 3)) => (ck_iload_n 76 rfl 2 dX11_part_75 rfl rfl (ck_iast 77 rfl dX11_part_76 sh_22 (shn_22 hC) o3 hl.2.2.1 (ck_aload 79 rfl dX11_part_77 rfl (ck_getr 82 rfl dX11_part_79 fl_X11_323 sh_20 rfl (ck_aload 84 rfl dX11_part_82 rfl (ck_geti 87 rfl 3 dX11_part_84 fl_X11_314 sh_20 rfl rfl _ rfl (fun (q5 : ck_i (w 20 3)) => (ck_iload_n 88 rfl 3 dX11_part_87 rfl rfl (ck_iast 89 rfl dX11_part_88 sh_23 (shn_23 hC) o3 hl.2.2.2.1 (ck_aload 91 rfl dX11_part_89 rfl (ck_dup 92 rfl dX11_part_91 rfl (ck_geti 95 rfl 3 dX11_part_92 fl_X11_314 sh_20 rfl rfl _ rfl (fun (q6 : ck_i (w 20 3)) => (ck_iconst 96 rfl dX11_part_95 rfl (ck_iadd 97 rfl dX11_part_96 (have h24 := h21; have o7 := h24.1; have h23 := h24.2; (ck_puti 100 rfl 3 dX11_part_97 fp_X11_314 sh_20 rfl rfl o7 (ck_aload 102 rfl dX11_part_100 rfl (ck_geti 105 rfl 3 dX11_part_102 fl_X11_314 sh_20 rfl rfl _ rfl (fun (q8 : ck_i ((w 20 3) + 1)) => (ck_iret dX11_part_105 rfl q8 h23))))))))))))))))))))))))))))))))))) (fun c10 => (ck_iconst 52 rfl dX11_part_51 rfl (ck_iret dX11_part_52 rfl (show ck_i (-1) by decide) (h20.2 c10))))))))))) (fun q => absurd q (by decide)))) (fun c12 _ => (ck_if_ne 39 rfl 41 dX11_part_36 rfl (by decide) (fun q => absurd q (by decide)) (fun _ => (ck_iconst 40 rfl dX11_part_39 rfl (ck_iret dX11_part_40 rfl (show ck_i (-1) by decide) (h13.2 c12)))))))))))))) (fun c15 _ => (ck_if_eq 30 rfl 39 dX11_part_27 rfl (by decide) (fun _ => (ck_iconst 40 rfl dX11_part_39 rfl (ck_iret dX11_part_40 rfl (show ck_i (-1) by decide) (h16.2 c15)))) (fun q => absurd q (by decide)))))))))))) (fun c18 _ => (ck_if_eq 19 rfl 39 dX11_part_16 rfl (by decide) (fun _ => (ck_iconst 40 rfl dX11_part_39 rfl (ck_iret dX11_part_40 rfl (show ck_i (-1) by decide) (h19.2 c18)))) (fun q => absurd q (by decide)))))))))))))))
theorem C_part {g : ch_G} {A R : Nat} (hC : ck_Cx g A R) {d : Nat} {K : Option ck_V → ck_W → Prop} {w : ck_W} {a1 a2 a3 : Int} (hc : 0 ≤ w 20 3 ∧ w 20 3 ≤ 16) (h1 : (1 ≤ a1 ∧ a1 ≤ 50) ∧ (1 ≤ a2 ∧ a2 ≤ 999) ∧ (0 ≤ a3 ∧ a3 ≤ 3) ∧ w 20 3 < 16 → K (some (.inl (w 20 3 + 1))) (ck_up (ck_up (ck_up (ck_up w 21 (w 20 3) a1) 22 (w 20 3) a2) 23 (w 20 3) a3) 20 3 (w 20 3 + 1))) (h0 : ¬ ((1 ≤ a1 ∧ a1 ≤ 50) ∧ (1 ≤ a2 ∧ a2 ≤ 999) ∧ (0 ≤ a3 ∧ a3 ≤ 3) ∧ w 20 3 < 16) → K (some (.inl (-1))) w) : ck_Ex (ch_C g A R) (d + 1) mX11_part [.inr (.inr 0), .inl a1, .inl a2, .inl a3] w K :=
  e_X11_part hC ⟨fun q1 => ⟨fun q2 => ⟨fun q3 => ⟨fun q4 => ⟨by omega, by constructor <;> omega, h1 ⟨q1, q2, q3, q4⟩⟩, fun q => h0 (fun x => q x.2.2.2)⟩, fun q => h0 (fun x => q x.2.2.1)⟩, fun q => h0 (fun x => q x.2.1)⟩, fun q => h0 (fun x => q x.1)⟩
theorem dX11_letter_0 : decode cX11_letter 0 = .ok (.aload_n 0, 1) := by decide +kernel
theorem dX11_letter_1 : decode cX11_letter 1 = .ok (.getfield 14, 3) := by decide +kernel
theorem dX11_letter_4 : decode cX11_letter 4 = .ok (.getfield 229, 3) := by decide +kernel
theorem dX11_letter_7 : decode cX11_letter 7 = .ok (.astore_n 3, 1) := by decide +kernel
theorem dX11_letter_8 : decode cX11_letter 8 = .ok (.aload_n 3, 1) := by decide +kernel
theorem dX11_letter_9 : decode cX11_letter 9 = .ok (.getfield 233, 3) := by decide +kernel
theorem dX11_letter_12 : decode cX11_letter 12 = .ok (.istore 4, 2) := by decide +kernel
theorem dX11_letter_14 : decode cX11_letter 14 = .ok (.iload_n 1, 1) := by decide +kernel
theorem dX11_letter_15 : decode cX11_letter 15 = .ok (.iconst 0, 1) := by decide +kernel
theorem dX11_letter_16 : decode cX11_letter 16 = .ok (.sipush 511, 3) := by decide +kernel
theorem dX11_letter_19 : decode cX11_letter 19 = .ok (.invokestatic 82, 3) := by decide +kernel
theorem dX11_letter_22 : decode cX11_letter 22 = .ok (.ifCond .eq 20, 3) := by decide +kernel
theorem dX11_letter_25 : decode cX11_letter 25 = .ok (.iload_n 2, 1) := by decide +kernel
theorem dX11_letter_26 : decode cX11_letter 26 = .ok (.iconst 1, 1) := by decide +kernel
theorem dX11_letter_27 : decode cX11_letter 27 = .ok (.bipush 99, 2) := by decide +kernel
theorem dX11_letter_29 : decode cX11_letter 29 = .ok (.invokestatic 82, 3) := by decide +kernel
theorem dX11_letter_32 : decode cX11_letter 32 = .ok (.ifCond .eq 10, 3) := by decide +kernel
theorem dX11_letter_35 : decode cX11_letter 35 = .ok (.iload 4, 2) := by decide +kernel
theorem dX11_letter_37 : decode cX11_letter 37 = .ok (.bipush 12, 2) := by decide +kernel
theorem dX11_letter_39 : decode cX11_letter 39 = .ok (.if_icmp .lt 5, 3) := by decide +kernel
theorem dX11_letter_42 : decode cX11_letter 42 = .ok (.iconst (-1), 1) := by decide +kernel
theorem dX11_letter_43 : decode cX11_letter 43 = .ok (.ireturn, 1) := by decide +kernel
theorem dX11_letter_44 : decode cX11_letter 44 = .ok (.aload_n 3, 1) := by decide +kernel
theorem dX11_letter_45 : decode cX11_letter 45 = .ok (.getfield 238, 3) := by decide +kernel
theorem dX11_letter_48 : decode cX11_letter 48 = .ok (.iload 4, 2) := by decide +kernel
theorem dX11_letter_50 : decode cX11_letter 50 = .ok (.iload_n 1, 1) := by decide +kernel
theorem dX11_letter_51 : decode cX11_letter 51 = .ok (.iastore, 1) := by decide +kernel
theorem dX11_letter_52 : decode cX11_letter 52 = .ok (.aload_n 3, 1) := by decide +kernel
theorem dX11_letter_53 : decode cX11_letter 53 = .ok (.getfield 241, 3) := by decide +kernel
theorem dX11_letter_56 : decode cX11_letter 56 = .ok (.iload 4, 2) := by decide +kernel
theorem dX11_letter_58 : decode cX11_letter 58 = .ok (.iload_n 2, 1) := by decide +kernel
theorem dX11_letter_59 : decode cX11_letter 59 = .ok (.iastore, 1) := by decide +kernel
theorem dX11_letter_60 : decode cX11_letter 60 = .ok (.aload_n 3, 1) := by decide +kernel
theorem dX11_letter_61 : decode cX11_letter 61 = .ok (.dup, 1) := by decide +kernel
theorem dX11_letter_62 : decode cX11_letter 62 = .ok (.getfield 233, 3) := by decide +kernel
theorem dX11_letter_65 : decode cX11_letter 65 = .ok (.iconst 1, 1) := by decide +kernel
theorem dX11_letter_66 : decode cX11_letter 66 = .ok (.iadd, 1) := by decide +kernel
theorem dX11_letter_67 : decode cX11_letter 67 = .ok (.putfield 233, 3) := by decide +kernel
theorem dX11_letter_70 : decode cX11_letter 70 = .ok (.iload 4, 2) := by decide +kernel
theorem dX11_letter_72 : decode cX11_letter 72 = .ok (.ireturn, 1) := by decide +kernel
set_option maxRecDepth 8000 in
theorem e_X11_letter {g : ch_G} {A R : Nat} (hC : ck_Cx g A R) {d : Nat} {K : Option ck_V → ck_W → Prop} {w : ck_W} {a1 a2 : Int} (h : (0 ≤ a1 ∧ a1 ≤ 511 → (1 ≤ a2 ∧ a2 ≤ 99 → ((w 15 2) < 12 → (0 ≤ (w 15 2) ∧ (w 15 2) < 12) ∧ (ck_i ((w 15 2) + 1) ∧ (K (some (.inl (w 15 2))) (ck_up (ck_up (ck_up w 16 (w 15 2) a1) 17 (w 15 2) a2) 15 2 ((w 15 2) + 1))))) ∧ (¬ (w 15 2) < 12 → K (some (.inl (-1))) w)) ∧ (¬ (1 ≤ a2 ∧ a2 ≤ 99) → K (some (.inl (-1))) w)) ∧ (¬ (0 ≤ a1 ∧ a1 ≤ 511) → K (some (.inl (-1))) w)) : ck_Ex (ch_C g A R) (d + 1) mX11_letter [.inr (.inr 0), .inl a1, .inl a2] w K :=
  ck_entry hC.1 [some (.inr (.inr 0)), some (.inl a1), some (.inl a2), none, none] (by decide) (Nat.le_of_ble_eq_true rfl) rfl (fun q => q) (ck_in (fun hl => (ck_aload_n 1 rfl 0 dX11_letter_0 rfl rfl (ck_getr 4 rfl dX11_letter_1 fl_X11_14 sh_0 rfl (ck_getr 7 rfl dX11_letter_4 fl_X11_229 sh_1 rfl (ck_astore_n 8 rfl 3 [some (.inr (.inr 0)), some (.inl a1), some (.inl a2), some (.inr (.inr 15)), none] dX11_letter_7 rfl (Nat.le_of_ble_eq_true rfl) rfl rfl (ck_aload_n 9 rfl 3 dX11_letter_8 rfl rfl (ck_geti 12 rfl 2 dX11_letter_9 fl_X11_233 sh_15 rfl rfl _ rfl (fun (q1 : ck_i (w 15 2)) => (ck_istore 14 rfl [some (.inr (.inr 0)), some (.inl a1), some (.inl a2), some (.inr (.inr 15)), some (.inl (w 15 2))] dX11_letter_12 (Nat.le_of_ble_eq_true rfl) rfl rfl q1 (ck_iload_n 15 rfl 1 dX11_letter_14 rfl rfl (ck_iconst 16 rfl dX11_letter_15 rfl (ck_sipush 19 rfl dX11_letter_16 rfl (have h12 := h; ck_callS 22 rfl [.inl a1, .inl 0, .inl 511] [] dX11_letter_19 cs_X11_82 rfl rfl (Nat.le_of_ble_eq_true rfl) (And.intro hl.2.1 (And.intro (show ck_i 0 by decide) (And.intro (show ck_i 511 by decide) True.intro))) (p_X11_within hC (fun c10 _ => (ck_if_eq 25 rfl 42 dX11_letter_22 rfl (by decide) (fun q => absurd q (by decide)) (fun _ => (ck_iload_n 26 rfl 2 dX11_letter_25 rfl rfl (ck_iconst 27 rfl dX11_letter_26 rfl (ck_bipush 29 rfl dX11_letter_27 rfl (have h9 := (h12.1 c10); ck_callS 32 rfl [.inl a2, .inl 1, .inl 99] [] dX11_letter_29 cs_X11_82 rfl rfl (Nat.le_of_ble_eq_true rfl) (And.intro hl.2.2.1 (And.intro (show ck_i 1 by decide) (And.intro (show ck_i 99 by decide) True.intro))) (p_X11_within hC (fun c7 _ => (ck_if_eq 35 rfl 42 dX11_letter_32 rfl (by decide) (fun q => absurd q (by decide)) (fun _ => (ck_iload 37 rfl dX11_letter_35 rfl (ck_bipush 39 rfl dX11_letter_37 rfl (have h13 := (h9.1 c7); (ck_icmp_lt 42 rfl 44 dX11_letter_39 rfl q1 (show ck_i 12 by decide) (fun c5 => (ck_aload_n 45 rfl 3 dX11_letter_44 rfl rfl (ck_getr 48 rfl dX11_letter_45 fl_X11_238 sh_15 rfl (ck_iload 50 rfl dX11_letter_48 rfl (ck_iload_n 51 rfl 1 dX11_letter_50 rfl rfl (have h15 := (h13.1 c5); have o2 := h15.1; have h14 := h15.2; (ck_iast 52 rfl dX11_letter_51 sh_16 (shn_16 hC) o2 hl.2.1 (ck_aload_n 53 rfl 3 dX11_letter_52 rfl rfl (ck_getr 56 rfl dX11_letter_53 fl_X11_241 sh_15 rfl (ck_iload 58 rfl dX11_letter_56 rfl (ck_iload_n 59 rfl 2 dX11_letter_58 rfl rfl (ck_iast 60 rfl dX11_letter_59 sh_17 (shn_17 hC) o2 hl.2.2.1 (ck_aload_n 61 rfl 3 dX11_letter_60 rfl rfl (ck_dup 62 rfl dX11_letter_61 rfl (ck_geti 65 rfl 2 dX11_letter_62 fl_X11_233 sh_15 rfl rfl _ rfl (fun (q3 : ck_i (w 15 2)) => (ck_iconst 66 rfl dX11_letter_65 rfl (ck_iadd 67 rfl dX11_letter_66 (have h17 := h14; have o4 := h17.1; have h16 := h17.2; (ck_puti 70 rfl 2 dX11_letter_67 fp_X11_233 sh_15 rfl rfl o4 (ck_iload 72 rfl dX11_letter_70 rfl (ck_iret dX11_letter_72 rfl q1 h16)))))))))))))))))))))) (fun c6 => (ck_iconst 43 rfl dX11_letter_42 rfl (ck_iret dX11_letter_43 rfl (show ck_i (-1) by decide) (h13.2 c6))))))))))) (fun c8 _ => (ck_if_eq 35 rfl 42 dX11_letter_32 rfl (by decide) (fun _ => (ck_iconst 43 rfl dX11_letter_42 rfl (ck_iret dX11_letter_43 rfl (show ck_i (-1) by decide) (h9.2 c8)))) (fun q => absurd q (by decide)))))))))))) (fun c11 _ => (ck_if_eq 25 rfl 42 dX11_letter_22 rfl (by decide) (fun _ => (ck_iconst 43 rfl dX11_letter_42 rfl (ck_iret dX11_letter_43 rfl (show ck_i (-1) by decide) (h12.2 c11)))) (fun q => absurd q (by decide)))))))))))))))))))
theorem C_letter {g : ch_G} {A R : Nat} (hC : ck_Cx g A R) {d : Nat} {K : Option ck_V → ck_W → Prop} {w : ck_W} {a1 a2 : Int} (hc : 0 ≤ w 15 2 ∧ w 15 2 ≤ 12) (h1 : (0 ≤ a1 ∧ a1 ≤ 511) ∧ (1 ≤ a2 ∧ a2 ≤ 99) ∧ w 15 2 < 12 → K (some (.inl (w 15 2))) (ck_up (ck_up (ck_up w 16 (w 15 2) a1) 17 (w 15 2) a2) 15 2 (w 15 2 + 1))) (h0 : ¬ ((0 ≤ a1 ∧ a1 ≤ 511) ∧ (1 ≤ a2 ∧ a2 ≤ 99) ∧ w 15 2 < 12) → K (some (.inl (-1))) w) : ck_Ex (ch_C g A R) (d + 1) mX11_letter [.inr (.inr 0), .inl a1, .inl a2] w K :=
  e_X11_letter hC ⟨fun q1 => ⟨fun q2 => ⟨fun q3 => ⟨by omega, by constructor <;> omega, h1 ⟨q1, q2, q3⟩⟩, fun q => h0 (fun x => q x.2.2)⟩, fun q => h0 (fun x => q x.2.1)⟩, fun q => h0 (fun x => q x.1)⟩
