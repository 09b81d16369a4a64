/-! ===== the reference: a walk explained ===== -/
/-- the cost of step t with s turns gone over -/
def rm_ct (w : ck_W) (z p t s : Int) : Int := if 0 ≤ p + t + w 76 0 * s ∧ p + t + w 76 0 * s ≤ w 77 (10 + z) * w 76 0 - 1 then max (w 77 (970 + t) - w 85 (24 * z + (p + t + w 76 0 * s))) (-(w 77 (970 + t) - w 85 (24 * z + (p + t + w 76 0 * s)))) else 9
/-- the slice's spiral stands -/
def rm_sp (R : Nat) (z : Int) (w : ck_W) : Prop := ∀ p, 0 ≤ p → p < w 77 (10 + z) * w 76 0 → 0 ≤ w 85 (24 * z + p) ∧ w 85 (24 * z + p) < (R : Int)
theorem rm_ctb {A R : Nat} {g : ch_G} (hC : ck_Cx g A R) {w : ck_W} (hI : rm_I A R w) {z p t s : Int} (hsp : rm_sp R z w) (ht : 0 ≤ t ∧ t < 30) : 0 ≤ rm_ct w z p t s ∧ rm_ct w z p t s ≤ 12 := by
  have c := rm_cp hC hI
  unfold rm_ct
  by_cases q : 0 ≤ p + t + w 76 0 * s ∧ p + t + w 76 0 * s ≤ w 77 (10 + z) * w 76 0 - 1
  · rw [if_pos q]
    have a := rm_step hI.2.2.2.1 ht.1 ht.2
    have b := hsp _ q.1 (by omega)
    omega
  · rw [if_neg q]; omega
theorem rm_ct_c {w w' : ck_W} {z p t s : Int} (e76 : w' 76 = w 76) (e77 : w' 77 = w 77) (e85 : w' 85 = w 85) : rm_ct w' z p t s = rm_ct w z p t s := by
  unfold rm_ct
  rw [e76, e77, e85]
theorem dX12_stepCost_0 : decode cX12_stepCost 0 = .ok (.iload_n 2, 1) := dk_28 (by decide +kernel)
theorem dX12_stepCost_1 : decode cX12_stepCost 1 = .ok (.iload_n 3, 1) := dk_29 (by decide +kernel)
theorem dX12_stepCost_2 : decode cX12_stepCost 2 = .ok (.iadd, 1) := dk_96 (by decide +kernel)
theorem dX12_stepCost_3 : decode cX12_stepCost 3 = .ok (.aload_n 0, 1) := dk_42 (by decide +kernel)
theorem dX12_stepCost_4 : decode cX12_stepCost 4 = .ok (.getfield 80, 3) := dk_180 0 80 (by decide +kernel)
theorem dX12_stepCost_7 : decode cX12_stepCost 7 = .ok (.iload 4, 2) := dk_21 (by decide +kernel)
theorem dX12_stepCost_9 : decode cX12_stepCost 9 = .ok (.imul, 1) := dk_104 (by decide +kernel)
theorem dX12_stepCost_10 : decode cX12_stepCost 10 = .ok (.iadd, 1) := dk_96 (by decide +kernel)
theorem dX12_stepCost_11 : decode cX12_stepCost 11 = .ok (.istore 5, 2) := dk_54 (by decide +kernel)
theorem dX12_stepCost_13 : decode cX12_stepCost 13 = .ok (.iload 5, 2) := dk_21 (by decide +kernel)
theorem dX12_stepCost_15 : decode cX12_stepCost 15 = .ok (.iconst 0, 1) := dk_3 (by decide +kernel)
theorem dX12_stepCost_16 : decode cX12_stepCost 16 = .ok (.aload_n 0, 1) := dk_42 (by decide +kernel)
theorem dX12_stepCost_17 : decode cX12_stepCost 17 = .ok (.iload_n 1, 1) := dk_27 (by decide +kernel)
theorem dX12_stepCost_18 : decode cX12_stepCost 18 = .ok (.invokevirtual 131, 3) := dk_182 0 131 (by decide +kernel)
theorem dX12_stepCost_21 : decode cX12_stepCost 21 = .ok (.iconst 1, 1) := dk_4 (by decide +kernel)
theorem dX12_stepCost_22 : decode cX12_stepCost 22 = .ok (.isub, 1) := dk_100 (by decide +kernel)
theorem dX12_stepCost_23 : decode cX12_stepCost 23 = .ok (.invokestatic 93, 3) := dk_184 0 93 (by decide +kernel)
theorem dX12_stepCost_26 : decode cX12_stepCost 26 = .ok (.ifCond .eq 32, 3) := dk_153 0 32 (by decide +kernel)
theorem dX12_stepCost_29 : decode cX12_stepCost 29 = .ok (.aload_n 0, 1) := dk_42 (by decide +kernel)
theorem dX12_stepCost_30 : decode cX12_stepCost 30 = .ok (.getfield 7, 3) := dk_180 0 7 (by decide +kernel)
theorem dX12_stepCost_33 : decode cX12_stepCost 33 = .ok (.sipush 970, 3) := dk_17 3 202 (by decide +kernel)
theorem dX12_stepCost_36 : decode cX12_stepCost 36 = .ok (.iload_n 3, 1) := dk_29 (by decide +kernel)
theorem dX12_stepCost_37 : decode cX12_stepCost 37 = .ok (.iadd, 1) := dk_96 (by decide +kernel)
theorem dX12_stepCost_38 : decode cX12_stepCost 38 = .ok (.iaload, 1) := dk_46 (by decide +kernel)
theorem dX12_stepCost_39 : decode cX12_stepCost 39 = .ok (.aload_n 0, 1) := dk_42 (by decide +kernel)
theorem dX12_stepCost_40 : decode cX12_stepCost 40 = .ok (.getfield 36, 3) := dk_180 0 36 (by decide +kernel)
theorem dX12_stepCost_43 : decode cX12_stepCost 43 = .ok (.bipush 24, 2) := dk_16 24 (by decide +kernel)
theorem dX12_stepCost_45 : decode cX12_stepCost 45 = .ok (.iload_n 1, 1) := dk_27 (by decide +kernel)
theorem dX12_stepCost_46 : decode cX12_stepCost 46 = .ok (.imul, 1) := dk_104 (by decide +kernel)
theorem dX12_stepCost_47 : decode cX12_stepCost 47 = .ok (.iload 5, 2) := dk_21 (by decide +kernel)
theorem dX12_stepCost_49 : decode cX12_stepCost 49 = .ok (.iadd, 1) := dk_96 (by decide +kernel)
theorem dX12_stepCost_50 : decode cX12_stepCost 50 = .ok (.iaload, 1) := dk_46 (by decide +kernel)
theorem dX12_stepCost_51 : decode cX12_stepCost 51 = .ok (.isub, 1) := dk_100 (by decide +kernel)
theorem dX12_stepCost_52 : decode cX12_stepCost 52 = .ok (.invokestatic 158, 3) := dk_184 0 158 (by decide +kernel)
theorem dX12_stepCost_55 : decode cX12_stepCost 55 = .ok (.goto 5, 3) := dk_167 0 5 (by decide +kernel)
theorem dX12_stepCost_58 : decode cX12_stepCost 58 = .ok (.bipush 9, 2) := dk_16 9 (by decide +kernel)
theorem dX12_stepCost_60 : decode cX12_stepCost 60 = .ok (.ireturn, 1) := dk_172 (by decide +kernel)
set_option maxRecDepth 8000 in
theorem e_X12_stepCost {g : ch_G} {A R : Nat} (hC : ck_Cx g A R) {d : Nat} {K : Option ck_V → ck_W → Prop} {w : ck_W} {a1 a2 a3 a4 : Int} (h : ∀ x2, x2 = (a2 + a3) + ((w 76 0) * a4) → ck_i x2 ∧ ((0 ≤ 10 + a1 ∧ 10 + a1 < 1430) ∧ ((ck_i ((w 77 (10 + a1)) * (w 76 0))) ∧ (ck_i (((w 77 (10 + a1)) * (w 76 0)) - 1) ∧ ((0 ≤ x2 ∧ x2 ≤ (((w 77 (10 + a1)) * (w 76 0)) - 1) → (0 ≤ (970 + a3) ∧ (970 + a3) < 1430) ∧ ((0 ≤ ((24 * a1) + x2) ∧ ((24 * a1) + x2) < 144) ∧ (ck_i ((w 77 (970 + a3)) - (w 85 ((24 * a1) + x2))) ∧ ((-2147483647 ≤ ((w 77 (970 + a3)) - (w 85 ((24 * a1) + x2)))) ∧ (K (some (.inl (max ((w 77 (970 + a3)) - (w 85 ((24 * a1) + x2))) (-((w 77 (970 + a3)) - (w 85 ((24 * a1) + x2))))))) w))))) ∧ (¬ (0 ≤ x2 ∧ x2 ≤ (((w 77 (10 + a1)) * (w 76 0)) - 1)) → K (some (.inl 9)) w)))))) : ck_Ex (ch_C g A R) (d + 1) mX12_stepCost [.inr (.inr 76), .inl a1, .inl a2, .inl a3, .inl a4] w K :=
  ck_entry hC.1 [some (.inr (.inr 76)), some (.inl a1), some (.inl a2), some (.inl a3), some (.inl a4), none] (by decide) (Nat.le_of_ble_eq_true rfl) rfl (fun q => q) (ck_in (fun hl => (ck_iload_n 1 rfl 2 dX12_stepCost_0 rfl rfl (ck_iload_n 2 rfl 3 dX12_stepCost_1 rfl rfl (ck_iadd 3 rfl dX12_stepCost_2 (ck_aload_n 4 rfl 0 dX12_stepCost_3 rfl rfl (ck_geti 7 rfl 0 dX12_stepCost_4 fl_X12_80 sh_76 rfl rfl _ rfl (fun (q1 : ck_i (w 76 0)) => (ck_iload 9 rfl dX12_stepCost_7 rfl (ck_imul 10 rfl dX12_stepCost_9 (ck_iadd 11 rfl dX12_stepCost_10 (ck_nmi (fun x2 e3 => (have h20 := (h x2 e3); have o4 := h20.1; have h19 := h20.2; (ck_istore 13 rfl [some (.inr (.inr 76)), some (.inl a1), some (.inl a2), some (.inl a3), some (.inl a4), some (.inl x2)] dX12_stepCost_11 (Nat.le_of_ble_eq_true rfl) rfl rfl o4 (ck_iload 15 rfl dX12_stepCost_13 rfl (ck_iconst 16 rfl dX12_stepCost_15 rfl (ck_aload_n 17 rfl 0 dX12_stepCost_16 rfl rfl (ck_iload_n 18 rfl 1 dX12_stepCost_17 rfl rfl (have h22 := h19; have o5 := h22.1; have h21 := h22.2; (have h24 := h21; have o6 := h24.1; have h23 := h24.2; (ck_callV 21 rfl [.inl a1] [.inl 0, .inl x2] dX12_stepCost_18 cv_X12_131 sh_76 rfl rfl (Nat.le_of_ble_eq_true rfl) (And.intro hl.2.1 True.intro) (p_X12_places hC o5 o6 (fun q7 => (ck_iconst 22 rfl dX12_stepCost_21 rfl (ck_isub 23 rfl dX12_stepCost_22 (have h26 := h23; have o8 := h26.1; have h25 := h26.2; (have h18 := h25; ck_callS 26 rfl [.inl x2, .inl 0, .inl (((w 77 (10 + a1)) * (w 76 0)) - 1)] [] dX12_stepCost_23 cs_X12_93 rfl rfl (Nat.le_of_ble_eq_true rfl) (And.intro o4 (And.intro (show ck_i 0 by decide) (And.intro o8 True.intro))) (p_X12_isIn hC (fun c16 _ => (ck_if_eq 29 rfl 58 dX12_stepCost_26 rfl (by decide) (fun q => absurd q (by decide)) (fun _ => (ck_aload_n 30 rfl 0 dX12_stepCost_29 rfl rfl (ck_getr 33 rfl dX12_stepCost_30 fl_X12_7 sh_76 rfl (ck_sipush 36 rfl dX12_stepCost_33 rfl (ck_iload_n 37 rfl 3 dX12_stepCost_36 rfl rfl (ck_iadd 38 rfl dX12_stepCost_37 (have h28 := (h18.1 c16); have o9 := h28.1; have h27 := h28.2; (ck_iald 39 rfl dX12_stepCost_38 sh_77 (shn_77 hC) o9 _ rfl (fun (q10 : ck_i (w 77 (970 + a3))) => (ck_aload_n 40 rfl 0 dX12_stepCost_39 rfl rfl (ck_getr 43 rfl dX12_stepCost_40 fl_X12_36 sh_76 rfl (ck_bipush 45 rfl dX12_stepCost_43 rfl (ck_iload_n 46 rfl 1 dX12_stepCost_45 rfl rfl (ck_imul 47 rfl dX12_stepCost_46 (ck_iload 49 rfl dX12_stepCost_47 rfl (ck_iadd 50 rfl dX12_stepCost_49 (have h30 := h27; have o11 := h30.1; have h29 := h30.2; (ck_iald 51 rfl dX12_stepCost_50 sh_85 (shn_85 hC) o11 _ rfl (fun (q12 : ck_i (w 85 ((24 * a1) + x2))) => (ck_isub 52 rfl dX12_stepCost_51 (have h32 := h29; have o13 := h32.1; have h31 := h32.2; (have h34 := h31; have o14 := h34.1; have h33 := h34.2; (ck_callS 55 rfl [.inl ((w 77 (970 + a3)) - (w 85 ((24 * a1) + x2)))] [] dX12_stepCost_52 cs_X12_158 rfl rfl (Nat.le_of_ble_eq_true rfl) (And.intro o13 True.intro) (p_X12_abs hC o14 (fun q15 => (ck_goto 60 dX12_stepCost_55 rfl (ck_iret dX12_stepCost_60 rfl q15.1 h33))))))))))))))))))))))))))))) (fun c17 _ => (ck_if_eq 29 rfl 58 dX12_stepCost_26 rfl (by decide) (fun _ => (ck_bipush 60 rfl dX12_stepCost_58 rfl (ck_iret dX12_stepCost_60 rfl (show ck_i 9 by decide) (h18.2 c17)))) (fun q => absurd q (by decide)))))))))))))))))))))))))))))))))
theorem S_X12_stepCost {g : ch_G} {A R : Nat} (hC : ck_Cx g A R) {d : Nat} {K : Option ck_V → ck_W → Prop} {w : ck_W} {a1 a2 a3 a4 : Int} (hI : rm_I A R w) (h1 : 0 ≤ a1 ∧ a1 ≤ 5) (h2 : 0 ≤ a2 ∧ a2 ≤ 23) (h3 : 0 ≤ a3 ∧ a3 < 30) (h4 : -31 ≤ a4 ∧ a4 ≤ 31) (hsp : rm_sp R a1 w) (h : K (some (.inl (rm_ct w a1 a2 a3 a4))) w) : ck_Ex (ch_C g A R) (d + 1) mX12_stepCost [.inr (.inr 76), .inl a1, .inl a2, .inl a3, .inl a4] w K := by
  have c := rm_cp hC hI
  have pb := rm_pb hC hI h1.1 h1.2
  have mb := rm_mb (a := w 76 0) (s := a4) (by omega) (by omega)
  refine e_X12_stepCost hC (fun x ex => ⟨by constructor <;> omega, by omega, by constructor <;> omega, by constructor <;> omega, fun q => ?_, fun q => ?_⟩)
  · subst ex
    have a := rm_step hI.2.2.2.1 h3.1 h3.2
    have b := hsp _ q.1 (by omega)
    rw [rm_ct, if_pos q] at h
    exact ⟨by omega, by omega, by constructor <;> omega, by omega, h⟩
  · subst ex
    rw [rm_ct, if_neg q] at h
    exact h
/-- the row of what is to come: n steps in all, from step t on -/
def rm_rs (w0 w : ck_W) (z p n t0 : Int) : Prop := ∀ t s, t0 ≤ t → t < n → -t ≤ s → s ≤ t → (0 ≤ w 88 (61 * t + 30 + s) ∧ w 88 (61 * t + 30 + s) ≤ 200 * (n - t)) ∧ (t + 1 = n → w 88 (61 * t + 30 + s) = 0 + rm_ct w0 z p t s) ∧ (t + 1 < n → w 88 (61 * t + 30 + s) = min (min (w 88 (61 * (t + 1) + 30 + s)) (w 88 (61 * (t + 1) + 30 + s + -1) + w0 77 7)) (w 88 (61 * (t + 1) + 30 + s + 1) + w0 77 7) + rm_ct w0 z p t s)
theorem dX12_explain_0 : decode cX12_explain 0 = .ok (.aload_n 0, 1) := dk_42 (by decide +kernel)
theorem dX12_explain_1 : decode cX12_explain 1 = .ok (.getfield 7, 3) := dk_180 0 7 (by decide +kernel)
theorem dX12_explain_4 : decode cX12_explain 4 = .ok (.iconst 2, 1) := dk_5 (by decide +kernel)
theorem dX12_explain_5 : decode cX12_explain 5 = .ok (.iaload, 1) := dk_46 (by decide +kernel)
theorem dX12_explain_6 : decode cX12_explain 6 = .ok (.iconst 1, 1) := dk_4 (by decide +kernel)
theorem dX12_explain_7 : decode cX12_explain 7 = .ok (.isub, 1) := dk_100 (by decide +kernel)
theorem dX12_explain_8 : decode cX12_explain 8 = .ok (.istore_n 3, 1) := dk_62 (by decide +kernel)
theorem dX12_explain_9 : decode cX12_explain 9 = .ok (.iload_n 3, 1) := dk_29 (by decide +kernel)
theorem dX12_explain_10 : decode cX12_explain 10 = .ok (.ifCond .lt 142, 3) := dk_155 0 142 (by decide +kernel)
theorem dX12_explain_13 : decode cX12_explain 13 = .ok (.iload_n 3, 1) := dk_29 (by decide +kernel)
theorem dX12_explain_14 : decode cX12_explain 14 = .ok (.ineg, 1) := dk_116 (by decide +kernel)
theorem dX12_explain_15 : decode cX12_explain 15 = .ok (.istore 4, 2) := dk_54 (by decide +kernel)
theorem dX12_explain_17 : decode cX12_explain 17 = .ok (.iload 4, 2) := dk_21 (by decide +kernel)
theorem dX12_explain_19 : decode cX12_explain 19 = .ok (.iload_n 3, 1) := dk_29 (by decide +kernel)
theorem dX12_explain_20 : decode cX12_explain 20 = .ok (.if_icmp .gt 126, 3) := dk_163 0 126 (by decide +kernel)
theorem dX12_explain_23 : decode cX12_explain 23 = .ok (.iconst 0, 1) := dk_3 (by decide +kernel)
theorem dX12_explain_24 : decode cX12_explain 24 = .ok (.istore 5, 2) := dk_54 (by decide +kernel)
theorem dX12_explain_26 : decode cX12_explain 26 = .ok (.iload_n 3, 1) := dk_29 (by decide +kernel)
theorem dX12_explain_27 : decode cX12_explain 27 = .ok (.iconst 1, 1) := dk_4 (by decide +kernel)
theorem dX12_explain_28 : decode cX12_explain 28 = .ok (.iadd, 1) := dk_96 (by decide +kernel)
theorem dX12_explain_29 : decode cX12_explain 29 = .ok (.aload_n 0, 1) := dk_42 (by decide +kernel)
theorem dX12_explain_30 : decode cX12_explain 30 = .ok (.getfield 7, 3) := dk_180 0 7 (by decide +kernel)
theorem dX12_explain_33 : decode cX12_explain 33 = .ok (.iconst 2, 1) := dk_5 (by decide +kernel)
theorem dX12_explain_34 : decode cX12_explain 34 = .ok (.iaload, 1) := dk_46 (by decide +kernel)
theorem dX12_explain_35 : decode cX12_explain 35 = .ok (.if_icmp .ge 78, 3) := dk_162 0 78 (by decide +kernel)
theorem dX12_explain_38 : decode cX12_explain 38 = .ok (.aload_n 0, 1) := dk_42 (by decide +kernel)
theorem dX12_explain_39 : decode cX12_explain 39 = .ok (.getfield 45, 3) := dk_180 0 45 (by decide +kernel)
theorem dX12_explain_42 : decode cX12_explain 42 = .ok (.bipush 61, 2) := dk_16 61 (by decide +kernel)
theorem dX12_explain_44 : decode cX12_explain 44 = .ok (.iload_n 3, 1) := dk_29 (by decide +kernel)
theorem dX12_explain_45 : decode cX12_explain 45 = .ok (.iconst 1, 1) := dk_4 (by decide +kernel)
theorem dX12_explain_46 : decode cX12_explain 46 = .ok (.iadd, 1) := dk_96 (by decide +kernel)
theorem dX12_explain_47 : decode cX12_explain 47 = .ok (.imul, 1) := dk_104 (by decide +kernel)
theorem dX12_explain_48 : decode cX12_explain 48 = .ok (.bipush 30, 2) := dk_16 30 (by decide +kernel)
theorem dX12_explain_50 : decode cX12_explain 50 = .ok (.iadd, 1) := dk_96 (by decide +kernel)
theorem dX12_explain_51 : decode cX12_explain 51 = .ok (.iload 4, 2) := dk_21 (by decide +kernel)
theorem dX12_explain_53 : decode cX12_explain 53 = .ok (.iadd, 1) := dk_96 (by decide +kernel)
theorem dX12_explain_54 : decode cX12_explain 54 = .ok (.iaload, 1) := dk_46 (by decide +kernel)
theorem dX12_explain_55 : decode cX12_explain 55 = .ok (.istore 5, 2) := dk_54 (by decide +kernel)
theorem dX12_explain_57 : decode cX12_explain 57 = .ok (.iconst (-1), 1) := dk_2 (by decide +kernel)
theorem dX12_explain_58 : decode cX12_explain 58 = .ok (.istore 6, 2) := dk_54 (by decide +kernel)
theorem dX12_explain_60 : decode cX12_explain 60 = .ok (.iload 6, 2) := dk_21 (by decide +kernel)
theorem dX12_explain_62 : decode cX12_explain 62 = .ok (.iconst 1, 1) := dk_4 (by decide +kernel)
theorem dX12_explain_63 : decode cX12_explain 63 = .ok (.if_icmp .gt 50, 3) := dk_163 0 50 (by decide +kernel)
theorem dX12_explain_66 : decode cX12_explain 66 = .ok (.aload_n 0, 1) := dk_42 (by decide +kernel)
theorem dX12_explain_67 : decode cX12_explain 67 = .ok (.getfield 45, 3) := dk_180 0 45 (by decide +kernel)
theorem dX12_explain_70 : decode cX12_explain 70 = .ok (.bipush 61, 2) := dk_16 61 (by decide +kernel)
theorem dX12_explain_72 : decode cX12_explain 72 = .ok (.iload_n 3, 1) := dk_29 (by decide +kernel)
theorem dX12_explain_73 : decode cX12_explain 73 = .ok (.iconst 1, 1) := dk_4 (by decide +kernel)
theorem dX12_explain_74 : decode cX12_explain 74 = .ok (.iadd, 1) := dk_96 (by decide +kernel)
theorem dX12_explain_75 : decode cX12_explain 75 = .ok (.imul, 1) := dk_104 (by decide +kernel)
theorem dX12_explain_76 : decode cX12_explain 76 = .ok (.bipush 30, 2) := dk_16 30 (by decide +kernel)
theorem dX12_explain_78 : decode cX12_explain 78 = .ok (.iadd, 1) := dk_96 (by decide +kernel)
theorem dX12_explain_79 : decode cX12_explain 79 = .ok (.iload 4, 2) := dk_21 (by decide +kernel)
theorem dX12_explain_81 : decode cX12_explain 81 = .ok (.iadd, 1) := dk_96 (by decide +kernel)
theorem dX12_explain_82 : decode cX12_explain 82 = .ok (.iload 6, 2) := dk_21 (by decide +kernel)
theorem dX12_explain_84 : decode cX12_explain 84 = .ok (.iadd, 1) := dk_96 (by decide +kernel)
theorem dX12_explain_85 : decode cX12_explain 85 = .ok (.iaload, 1) := dk_46 (by decide +kernel)
theorem dX12_explain_86 : decode cX12_explain 86 = .ok (.aload_n 0, 1) := dk_42 (by decide +kernel)
theorem dX12_explain_87 : decode cX12_explain 87 = .ok (.getfield 7, 3) := dk_180 0 7 (by decide +kernel)
theorem dX12_explain_90 : decode cX12_explain 90 = .ok (.bipush 7, 2) := dk_16 7 (by decide +kernel)
theorem dX12_explain_92 : decode cX12_explain 92 = .ok (.iaload, 1) := dk_46 (by decide +kernel)
theorem dX12_explain_93 : decode cX12_explain 93 = .ok (.iadd, 1) := dk_96 (by decide +kernel)
theorem dX12_explain_94 : decode cX12_explain 94 = .ok (.istore 7, 2) := dk_54 (by decide +kernel)
theorem dX12_explain_96 : decode cX12_explain 96 = .ok (.iload 7, 2) := dk_21 (by decide +kernel)
theorem dX12_explain_98 : decode cX12_explain 98 = .ok (.iload 5, 2) := dk_21 (by decide +kernel)
theorem dX12_explain_100 : decode cX12_explain 100 = .ok (.if_icmp .ge 7, 3) := dk_162 0 7 (by decide +kernel)
theorem dX12_explain_103 : decode cX12_explain 103 = .ok (.iload 7, 2) := dk_21 (by decide +kernel)
theorem dX12_explain_105 : decode cX12_explain 105 = .ok (.istore 5, 2) := dk_54 (by decide +kernel)
theorem dX12_explain_107 : decode cX12_explain 107 = .ok (.iinc 6 2, 3) := dk_132 2 (by decide +kernel)
theorem dX12_explain_110 : decode cX12_explain 110 = .ok (.goto (-50), 3) := dk_167 255 206 (by decide +kernel)
theorem dX12_explain_113 : decode cX12_explain 113 = .ok (.aload_n 0, 1) := dk_42 (by decide +kernel)
theorem dX12_explain_114 : decode cX12_explain 114 = .ok (.getfield 45, 3) := dk_180 0 45 (by decide +kernel)
theorem dX12_explain_117 : decode cX12_explain 117 = .ok (.bipush 61, 2) := dk_16 61 (by decide +kernel)
theorem dX12_explain_119 : decode cX12_explain 119 = .ok (.iload_n 3, 1) := dk_29 (by decide +kernel)
theorem dX12_explain_120 : decode cX12_explain 120 = .ok (.imul, 1) := dk_104 (by decide +kernel)
theorem dX12_explain_121 : decode cX12_explain 121 = .ok (.bipush 30, 2) := dk_16 30 (by decide +kernel)
theorem dX12_explain_123 : decode cX12_explain 123 = .ok (.iadd, 1) := dk_96 (by decide +kernel)
theorem dX12_explain_124 : decode cX12_explain 124 = .ok (.iload 4, 2) := dk_21 (by decide +kernel)
theorem dX12_explain_126 : decode cX12_explain 126 = .ok (.iadd, 1) := dk_96 (by decide +kernel)
theorem dX12_explain_127 : decode cX12_explain 127 = .ok (.iload 5, 2) := dk_21 (by decide +kernel)
theorem dX12_explain_129 : decode cX12_explain 129 = .ok (.aload_n 0, 1) := dk_42 (by decide +kernel)
theorem dX12_explain_130 : decode cX12_explain 130 = .ok (.iload_n 1, 1) := dk_27 (by decide +kernel)
theorem dX12_explain_131 : decode cX12_explain 131 = .ok (.iload_n 2, 1) := dk_28 (by decide +kernel)
theorem dX12_explain_132 : decode cX12_explain 132 = .ok (.iload_n 3, 1) := dk_29 (by decide +kernel)
theorem dX12_explain_133 : decode cX12_explain 133 = .ok (.iload 4, 2) := dk_21 (by decide +kernel)
theorem dX12_explain_135 : decode cX12_explain 135 = .ok (.invokevirtual 161, 3) := dk_182 0 161 (by decide +kernel)
theorem dX12_explain_138 : decode cX12_explain 138 = .ok (.iadd, 1) := dk_96 (by decide +kernel)
theorem dX12_explain_139 : decode cX12_explain 139 = .ok (.iastore, 1) := dk_79 (by decide +kernel)
theorem dX12_explain_140 : decode cX12_explain 140 = .ok (.iinc 4 1, 3) := dk_132 1 (by decide +kernel)
theorem dX12_explain_143 : decode cX12_explain 143 = .ok (.goto (-126), 3) := dk_167 255 130 (by decide +kernel)
theorem dX12_explain_146 : decode cX12_explain 146 = .ok (.iinc 3 (-1), 3) := dk_132 255 (by decide +kernel)
theorem dX12_explain_149 : decode cX12_explain 149 = .ok (.goto (-140), 3) := dk_167 255 116 (by decide +kernel)
theorem dX12_explain_152 : decode cX12_explain 152 = .ok (.return_, 1) := dk_177 (by decide +kernel)
set_option maxRecDepth 8000 in
theorem e_X12_explain {g : ch_G} {A R : Nat} (hC : ck_Cx g A R) {d : Nat} {K : Option ck_V → ck_W → Prop} {w : ck_W} {a1 a2 : Int} (h : ck_i ((w 77 2) - 1) ∧ (ck_At (ch_C g A R) (d + 1) mX12_explain K 9 [some (.inr (.inr 76)), some (.inl a1), some (.inl a2), some (.inl ((w 77 2) - 1)), none, none, none, none] [] w)) : ck_Ex (ch_C g A R) (d + 1) mX12_explain [.inr (.inr 76), .inl a1, .inl a2] w K :=
  ck_entry hC.1 [some (.inr (.inr 76)), some (.inl a1), some (.inl a2), none, none, none, none, none] (by decide) (Nat.le_of_ble_eq_true rfl) rfl (fun q => q) (ck_in (fun hl => (ck_aload_n 1 rfl 0 dX12_explain_0 rfl rfl (ck_getr 4 rfl dX12_explain_1 fl_X12_7 sh_76 rfl (ck_iconst 5 rfl dX12_explain_4 rfl (ck_iald 6 rfl dX12_explain_5 sh_77 (shn_77 hC) (by decide) _ rfl (fun (q1 : ck_i (w 77 2)) => (ck_iconst 7 rfl dX12_explain_6 rfl (ck_isub 8 rfl dX12_explain_7 (have h4 := h; have o2 := h4.1; have h3 := h4.2; (ck_istore_n 9 rfl 3 [some (.inr (.inr 76)), some (.inl a1), some (.inl a2), some (.inl ((w 77 2) - 1)), none, none, none, none] dX12_explain_8 rfl (Nat.le_of_ble_eq_true rfl) rfl rfl o2 h3)))))))))))
set_option maxRecDepth 8000 in
theorem r_X12_explain_9 {g : ch_G} {A R : Nat} (hC : ck_Cx g A R) {d : Nat} {K : Option ck_V → ck_W → Prop} {w : ck_W} {a1 a2 a3 : Int} (h : (a3 < 0 → K none w) ∧ (¬ a3 < 0 → ck_i (-a3) ∧ (ck_At (ch_C g A R) (d + 1) mX12_explain K 17 [some (.inr (.inr 76)), some (.inl a1), some (.inl a2), some (.inl a3), some (.inl (-a3)), none, none, none] [] w))) : ck_At (ch_C g A R) (d + 1) mX12_explain K 9 [some (.inr (.inr 76)), some (.inl a1), some (.inl a2), some (.inl a3), none, none, none, none] [] w :=
  ck_in (fun hl => (ck_iload_n 10 rfl 3 dX12_explain_9 rfl rfl (ck_if_lt 13 rfl 152 dX12_explain_10 rfl hl.2.2.2.1 (fun c2 => (ck_vret dX12_explain_152 rfl (h.1 c2))) (fun c3 => (ck_iload_n 14 rfl 3 dX12_explain_13 rfl rfl (ck_ineg 15 rfl dX12_explain_14 (have h5 := (h.2 c3); have o1 := h5.1; have h4 := h5.2; (ck_istore 17 rfl [some (.inr (.inr 76)), some (.inl a1), some (.inl a2), some (.inl a3), some (.inl (-a3)), none, none, none] dX12_explain_15 (Nat.le_of_ble_eq_true rfl) rfl rfl o1 h4))))))))
set_option maxRecDepth 8000 in
theorem r_X12_explain_17 {g : ch_G} {A R : Nat} (hC : ck_Cx g A R) {d : Nat} {K : Option ck_V → ck_W → Prop} {w : ck_W} {a1 a2 a3 a4 : Int} (h : (a3 < a4 → ck_i (a3 + (-1)) ∧ (ck_At (ch_C g A R) (d + 1) mX12_explain K 9 [some (.inr (.inr 76)), some (.inl a1), some (.inl a2), some (.inl (a3 + (-1))), none, none, none, none] [] w)) ∧ (¬ a3 < a4 → ck_i (a3 + 1) ∧ (((w 77 2) ≤ (a3 + 1) → ck_CI (ch_C g A R) d mX12_stepCost [.inr (.inr 76), .inl a1, .inl a2, .inl a3, .inl a4] w (fun v5 w4 => ck_i (0 + v5) ∧ ((0 ≤ (((61 * a3) + 30) + a4) ∧ (((61 * a3) + 30) + a4) < 2000) ∧ (ck_i (a4 + 1) ∧ (ck_At (ch_C g A R) (d + 1) mX12_explain K 17 [some (.inr (.inr 76)), some (.inl a1), some (.inl a2), some (.inl a3), some (.inl (a4 + 1)), none, none, none] [] (ck_up w4 88 (((61 * a3) + 30) + a4) (0 + v5))))))) ∧ (¬ (w 77 2) ≤ (a3 + 1) → (0 ≤ (((61 * (a3 + 1)) + 30) + a4) ∧ (((61 * (a3 + 1)) + 30) + a4) < 2000) ∧ (∀ x13, x13 = w 88 (((61 * (a3 + 1)) + 30) + a4) → ck_At (ch_C g A R) (d + 1) mX12_explain K 60 [some (.inr (.inr 76)), some (.inl a1), some (.inl a2), some (.inl a3), some (.inl a4), some (.inl x13), some (.inl (-1)), none] [] w))))) : ck_At (ch_C g A R) (d + 1) mX12_explain K 17 [some (.inr (.inr 76)), some (.inl a1), some (.inl a2), some (.inl a3), some (.inl a4), none, none, none] [] w :=
  ck_in (fun hl => (ck_iload 19 rfl dX12_explain_17 rfl (ck_iload_n 20 rfl 3 dX12_explain_19 rfl rfl (ck_icmp_gt 23 rfl 146 dX12_explain_20 rfl hl.2.2.2.2.1 hl.2.2.2.1 (fun c17 => (have h20 := (h.1 c17); have o1 := h20.1; have h19 := h20.2; (ck_iinc 149 rfl [some (.inr (.inr 76)), some (.inl a1), some (.inl a2), some (.inl (a3 + (-1))), some (.inl a4), none, none, none] dX12_explain_146 rfl (Nat.le_of_ble_eq_true rfl) rfl rfl o1 (ck_goto 9 dX12_explain_149 rfl (ck_drop [some (.inr (.inr 76)), some (.inl a1), some (.inl a2), some (.inl (a3 + (-1))), none, none, none, none] (And.intro rfl (And.intro rfl (And.intro rfl (And.intro rfl True.intro)))) h19))))) (fun c18 => (ck_iconst 24 rfl dX12_explain_23 rfl (ck_istore 26 rfl [some (.inr (.inr 76)), some (.inl a1), some (.inl a2), some (.inl a3), some (.inl a4), some (.inl 0), none, none] dX12_explain_24 (Nat.le_of_ble_eq_true rfl) rfl rfl (show ck_i 0 by decide) (ck_iload_n 27 rfl 3 dX12_explain_26 rfl rfl (ck_iconst 28 rfl dX12_explain_27 rfl (ck_iadd 29 rfl dX12_explain_28 (ck_aload_n 30 rfl 0 dX12_explain_29 rfl rfl (ck_getr 33 rfl dX12_explain_30 fl_X12_7 sh_76 rfl (ck_iconst 34 rfl dX12_explain_33 rfl (ck_iald 35 rfl dX12_explain_34 sh_77 (shn_77 hC) (by decide) _ rfl (fun (q2 : ck_i (w 77 2)) => (have h22 := (h.2 c18); have o3 := h22.1; have h21 := h22.2; (ck_icmp_ge 38 rfl 113 dX12_explain_35 rfl o3 q2 (fun c15 => (ck_aload_n 114 rfl 0 dX12_explain_113 rfl rfl (ck_getr 117 rfl dX12_explain_114 fl_X12_45 sh_76 rfl (ck_bipush 119 rfl dX12_explain_117 rfl (ck_iload_n 120 rfl 3 dX12_explain_119 rfl rfl (ck_imul 121 rfl dX12_explain_120 (ck_bipush 123 rfl dX12_explain_121 rfl (ck_iadd 124 rfl dX12_explain_123 (ck_iload 126 rfl dX12_explain_124 rfl (ck_iadd 127 rfl dX12_explain_126 (ck_iload 129 rfl dX12_explain_127 rfl (ck_aload_n 130 rfl 0 dX12_explain_129 rfl rfl (ck_iload_n 131 rfl 1 dX12_explain_130 rfl rfl (ck_iload_n 132 rfl 2 dX12_explain_131 rfl rfl (ck_iload_n 133 rfl 3 dX12_explain_132 rfl rfl (ck_iload 135 rfl dX12_explain_133 rfl (ck_callV 138 rfl [.inl a1, .inl a2, .inl a3, .inl a4] [.inl 0, .inl (((61 * a3) + 30) + a4), .inr (.inr 88)] dX12_explain_135 cv_X12_161 sh_76 rfl rfl (Nat.le_of_ble_eq_true rfl) (And.intro hl.2.1 (And.intro hl.2.2.1 (And.intro hl.2.2.2.1 (And.intro hl.2.2.2.2.1 True.intro)))) (ck_mI (h21.1 c15) (fun v5 w4 q6 h7 => (ck_iadd 139 rfl dX12_explain_138 (have h24 := h7; have o8 := h24.1; have h23 := h24.2; (have h26 := h23; have o9 := h26.1; have h25 := h26.2; (ck_iast 140 rfl dX12_explain_139 sh_88 (shn_88 hC) o9 o8 (have h28 := h25; have o10 := h28.1; have h27 := h28.2; (ck_iinc 143 rfl [some (.inr (.inr 76)), some (.inl a1), some (.inl a2), some (.inl a3), some (.inl (a4 + 1)), some (.inl 0), none, none] dX12_explain_140 rfl (Nat.le_of_ble_eq_true rfl) rfl rfl o10 (ck_goto 17 dX12_explain_143 rfl (ck_drop [some (.inr (.inr 76)), some (.inl a1), some (.inl a2), some (.inl a3), some (.inl (a4 + 1)), none, none, none] (And.intro rfl (And.intro rfl (And.intro rfl (And.intro rfl (And.intro rfl True.intro))))) h27))))))))))))))))))))))))))) (fun c16 => (ck_aload_n 39 rfl 0 dX12_explain_38 rfl rfl (ck_getr 42 rfl dX12_explain_39 fl_X12_45 sh_76 rfl (ck_bipush 44 rfl dX12_explain_42 rfl (ck_iload_n 45 rfl 3 dX12_explain_44 rfl rfl (ck_iconst 46 rfl dX12_explain_45 rfl (ck_iadd 47 rfl dX12_explain_46 (ck_imul 48 rfl dX12_explain_47 (ck_bipush 50 rfl dX12_explain_48 rfl (ck_iadd 51 rfl dX12_explain_50 (ck_iload 53 rfl dX12_explain_51 rfl (ck_iadd 54 rfl dX12_explain_53 (have h30 := (h21.2 c16); have o11 := h30.1; have h29 := h30.2; (ck_iald 55 rfl dX12_explain_54 sh_88 (shn_88 hC) o11 _ rfl (fun (q12 : ck_i (w 88 (((61 * (a3 + 1)) + 30) + a4))) => (ck_nmi (fun x13 e14 => (ck_istore 57 rfl [some (.inr (.inr 76)), some (.inl a1), some (.inl a2), some (.inl a3), some (.inl a4), some (.inl x13), none, none] dX12_explain_55 (Nat.le_of_ble_eq_true rfl) rfl rfl (by rw [e14]; exact q12) (ck_iconst 58 rfl dX12_explain_57 rfl (ck_istore 60 rfl [some (.inr (.inr 76)), some (.inl a1), some (.inl a2), some (.inl a3), some (.inl a4), some (.inl x13), some (.inl (-1)), none] dX12_explain_58 (Nat.le_of_ble_eq_true rfl) rfl rfl (show ck_i (-1) by decide) (h29 x13 e14))))))))))))))))))))))))))))))))))))))
set_option maxRecDepth 8000 in
theorem r_X12_explain_60 {g : ch_G} {A R : Nat} (hC : ck_Cx g A R) {d : Nat} {K : Option ck_V → ck_W → Prop} {w : ck_W} {a1 a2 a3 a4 a5 a6 : Int} (h : (1 < a6 → ck_CI (ch_C g A R) d mX12_stepCost [.inr (.inr 76), .inl a1, .inl a2, .inl a3, .inl a4] w (fun v2 w1 => ck_i (a5 + v2) ∧ ((0 ≤ (((61 * a3) + 30) + a4) ∧ (((61 * a3) + 30) + a4) < 2000) ∧ (ck_i (a4 + 1) ∧ (ck_At (ch_C g A R) (d + 1) mX12_explain K 17 [some (.inr (.inr 76)), some (.inl a1), some (.inl a2), some (.inl a3), some (.inl (a4 + 1)), none, none, none] [] (ck_up w1 88 (((61 * a3) + 30) + a4) (a5 + v2))))))) ∧ (¬ 1 < a6 → (0 ≤ ((((61 * (a3 + 1)) + 30) + a4) + a6) ∧ ((((61 * (a3 + 1)) + 30) + a4) + a6) < 2000) ∧ (∀ x11, x11 = (w 88 ((((61 * (a3 + 1)) + 30) + a4) + a6)) + (w 77 7) → ck_i x11 ∧ ((a5 ≤ x11 → ck_i (a6 + 2) ∧ (ck_At (ch_C g A R) (d + 1) mX12_explain K 60 [some (.inr (.inr 76)), some (.inl a1), some (.inl a2), some (.inl a3), some (.inl a4), some (.inl a5), some (.inl (a6 + 2)), none] [] w)) ∧ (¬ a5 ≤ x11 → ck_i (a6 + 2) ∧ (ck_At (ch_C g A R) (d + 1) mX12_explain K 60 [some (.inr (.inr 76)), some (.inl a1), some (.inl a2), some (.inl a3), some (.inl a4), some (.inl x11), some (.inl (a6 + 2)), none] [] w)))))) : ck_At (ch_C g A R) (d + 1) mX12_explain K 60 [some (.inr (.inr 76)), some (.inl a1), some (.inl a2), some (.inl a3), some (.inl a4), some (.inl a5), some (.inl a6), none] [] w :=
  ck_in (fun hl => (ck_iload 62 rfl dX12_explain_60 rfl (ck_iconst 63 rfl dX12_explain_62 rfl (ck_icmp_gt 66 rfl 113 dX12_explain_63 rfl hl.2.2.2.2.2.2.1 (show ck_i 1 by decide) (fun c18 => (ck_aload_n 114 rfl 0 dX12_explain_113 rfl rfl (ck_getr 117 rfl dX12_explain_114 fl_X12_45 sh_76 rfl (ck_bipush 119 rfl dX12_explain_117 rfl (ck_iload_n 120 rfl 3 dX12_explain_119 rfl rfl (ck_imul 121 rfl dX12_explain_120 (ck_bipush 123 rfl dX12_explain_121 rfl (ck_iadd 124 rfl dX12_explain_123 (ck_iload 126 rfl dX12_explain_124 rfl (ck_iadd 127 rfl dX12_explain_126 (ck_iload 129 rfl dX12_explain_127 rfl (ck_aload_n 130 rfl 0 dX12_explain_129 rfl rfl (ck_iload_n 131 rfl 1 dX12_explain_130 rfl rfl (ck_iload_n 132 rfl 2 dX12_explain_131 rfl rfl (ck_iload_n 133 rfl 3 dX12_explain_132 rfl rfl (ck_iload 135 rfl dX12_explain_133 rfl (ck_callV 138 rfl [.inl a1, .inl a2, .inl a3, .inl a4] [.inl a5, .inl (((61 * a3) + 30) + a4), .inr (.inr 88)] dX12_explain_135 cv_X12_161 sh_76 rfl rfl (Nat.le_of_ble_eq_true rfl) (And.intro hl.2.1 (And.intro hl.2.2.1 (And.intro hl.2.2.2.1 (And.intro hl.2.2.2.2.1 True.intro)))) (ck_mI (h.1 c18) (fun v2 w1 q3 h4 => (ck_iadd 139 rfl dX12_explain_138 (have h21 := h4; have o5 := h21.1; have h20 := h21.2; (have h23 := h20; have o6 := h23.1; have h22 := h23.2; (ck_iast 140 rfl dX12_explain_139 sh_88 (shn_88 hC) o6 o5 (have h25 := h22; have o7 := h25.1; have h24 := h25.2; (ck_iinc 143 rfl [some (.inr (.inr 76)), some (.inl a1), some (.inl a2), some (.inl a3), some (.inl (a4 + 1)), some (.inl a5), some (.inl a6), none] dX12_explain_140 rfl (Nat.le_of_ble_eq_true rfl) rfl rfl o7 (ck_goto 17 dX12_explain_143 rfl (ck_drop [some (.inr (.inr 76)), some (.inl a1), some (.inl a2), some (.inl a3), some (.inl (a4 + 1)), none, none, none] (And.intro rfl (And.intro rfl (And.intro rfl (And.intro rfl (And.intro rfl True.intro))))) h24))))))))))))))))))))))))))) (fun c19 => (ck_aload_n 67 rfl 0 dX12_explain_66 rfl rfl (ck_getr 70 rfl dX12_explain_67 fl_X12_45 sh_76 rfl (ck_bipush 72 rfl dX12_explain_70 rfl (ck_iload_n 73 rfl 3 dX12_explain_72 rfl rfl (ck_iconst 74 rfl dX12_explain_73 rfl (ck_iadd 75 rfl dX12_explain_74 (ck_imul 76 rfl dX12_explain_75 (ck_bipush 78 rfl dX12_explain_76 rfl (ck_iadd 79 rfl dX12_explain_78 (ck_iload 81 rfl dX12_explain_79 rfl (ck_iadd 82 rfl dX12_explain_81 (ck_iload 84 rfl dX12_explain_82 rfl (ck_iadd 85 rfl dX12_explain_84 (have h27 := (h.2 c19); have o8 := h27.1; have h26 := h27.2; (ck_iald 86 rfl dX12_explain_85 sh_88 (shn_88 hC) o8 _ rfl (fun (q9 : ck_i (w 88 ((((61 * (a3 + 1)) + 30) + a4) + a6))) => (ck_aload_n 87 rfl 0 dX12_explain_86 rfl rfl (ck_getr 90 rfl dX12_explain_87 fl_X12_7 sh_76 rfl (ck_bipush 92 rfl dX12_explain_90 rfl (ck_iald 93 rfl dX12_explain_92 sh_77 (shn_77 hC) (by decide) _ rfl (fun (q10 : ck_i (w 77 7)) => (ck_iadd 94 rfl dX12_explain_93 (ck_nmi (fun x11 e12 => (have h29 := (h26 x11 e12); have o13 := h29.1; have h28 := h29.2; (ck_istore 96 rfl [some (.inr (.inr 76)), some (.inl a1), some (.inl a2), some (.inl a3), some (.inl a4), some (.inl a5), some (.inl a6), some (.inl x11)] dX12_explain_94 (Nat.le_of_ble_eq_true rfl) rfl rfl o13 (ck_iload 98 rfl dX12_explain_96 rfl (ck_iload 100 rfl dX12_explain_98 rfl (ck_icmp_ge 103 rfl 107 dX12_explain_100 rfl o13 hl.2.2.2.2.2.1 (fun c16 => (have h31 := (h28.1 c16); have o14 := h31.1; have h30 := h31.2; (ck_iinc 110 rfl [some (.inr (.inr 76)), some (.inl a1), some (.inl a2), some (.inl a3), some (.inl a4), some (.inl a5), some (.inl (a6 + 2)), some (.inl x11)] dX12_explain_107 rfl (Nat.le_of_ble_eq_true rfl) rfl rfl o14 (ck_goto 60 dX12_explain_110 rfl (ck_drop [some (.inr (.inr 76)), some (.inl a1), some (.inl a2), some (.inl a3), some (.inl a4), some (.inl a5), some (.inl (a6 + 2)), none] (And.intro rfl (And.intro rfl (And.intro rfl (And.intro rfl (And.intro rfl (And.intro rfl (And.intro rfl True.intro))))))) h30))))) (fun c17 => (ck_iload 105 rfl dX12_explain_103 rfl (ck_istore 107 rfl [some (.inr (.inr 76)), some (.inl a1), some (.inl a2), some (.inl a3), some (.inl a4), some (.inl x11), some (.inl a6), some (.inl x11)] dX12_explain_105 (Nat.le_of_ble_eq_true rfl) rfl rfl o13 (have h33 := (h28.2 c17); have o15 := h33.1; have h32 := h33.2; (ck_iinc 110 rfl [some (.inr (.inr 76)), some (.inl a1), some (.inl a2), some (.inl a3), some (.inl a4), some (.inl x11), some (.inl (a6 + 2)), some (.inl x11)] dX12_explain_107 rfl (Nat.le_of_ble_eq_true rfl) rfl rfl o15 (ck_goto 60 dX12_explain_110 rfl (ck_drop [some (.inr (.inr 76)), some (.inl a1), some (.inl a2), some (.inl a3), some (.inl a4), some (.inl x11), some (.inl (a6 + 2)), none] (And.intro rfl (And.intro rfl (And.intro rfl (And.intro rfl (And.intro rfl (And.intro rfl (And.intro rfl True.intro))))))) h32)))))))))))))))))))))))))))))))))))))))))
theorem S_X12_explain {g : ch_G} {A R : Nat} (hC : ck_Cx g A R) {d : Nat} {K : Option ck_V → ck_W → Prop} {w : ck_W} {a1 a2 : Int} (hI : rm_I A R w) (h1 : 0 ≤ a1 ∧ a1 ≤ 5) (h2 : 0 ≤ a2 ∧ a2 ≤ 23) (hsp : rm_sp R a1 w) (h : ∀ w', (∀ k, k ≠ 88 → w' k = w k) → rm_rs w w' a1 a2 (w 77 2) 0 → K none w') : ck_Ex (ch_C g A R) (d + 2) mX12_explain [.inr (.inr 76), .inl a1, .inl a2] w K := by
  have c := rm_cp hC hI
  have f0 := rm_c0 hI.2.2.2.1
  have st : ∀ u : ck_W, (∀ k, k ≠ 88 → u k = w k) → rm_I A R u ∧ rm_sp R a1 u ∧ (∀ t s, rm_ct u a1 a2 t s = rm_ct w a1 a2 t s) := fun u e => ⟨rm_I_c hI (e 76 (by decide)) (e 77 (by decide)) (e 78 (by decide)) (e 79 (by decide)), by unfold rm_sp; rw [e 76 (by decide), e 77 (by decide), e 85 (by decide)]; exact hsp, fun t s => rm_ct_c (e 76 (by decide)) (e 77 (by decide)) (e 85 (by decide))⟩
  -- what stands of a row up to s
  have l2 : ∀ (m : Nat) (a3 a4 : Int) (u : ck_W), a3 + 1 - a4 = m → -a3 ≤ a4 → (0 ≤ a3 ∧ a3 < w 77 2) → (∀ k, k ≠ 88 → u k = w k) → rm_rs w u a1 a2 (w 77 2) (a3 + 1) →
      (∀ s, -a3 ≤ s → s < a4 → (0 ≤ u 88 (61 * a3 + 30 + s) ∧ u 88 (61 * a3 + 30 + s) ≤ 200 * (w 77 2 - a3)) ∧ (a3 + 1 = w 77 2 → u 88 (61 * a3 + 30 + s) = 0 + rm_ct w a1 a2 a3 s) ∧ (a3 + 1 < w 77 2 → u 88 (61 * a3 + 30 + s) = min (min (u 88 (61 * (a3 + 1) + 30 + s)) (u 88 (61 * (a3 + 1) + 30 + s + -1) + w 77 7)) (u 88 (61 * (a3 + 1) + 30 + s + 1) + w 77 7) + rm_ct w a1 a2 a3 s)) →
      (∀ u', (∀ k, k ≠ 88 → u' k = w k) → rm_rs w u' a1 a2 (w 77 2) a3 → ck_At (ch_C g A R) (d + 2) mX12_explain K 9 [some (.inr (.inr 76)), some (.inl a1), some (.inl a2), some (.inl (a3 + -1)), none, none, none, none] [] u') →
      ck_At (ch_C g A R) (d + 2) mX12_explain K 17 [some (.inr (.inr 76)), some (.inl a1), some (.inl a2), some (.inl a3), some (.inl a4), none, none, none] [] u := by
    intro m
    induction m with
    | zero =>
      intro a3 a4 u q1 q2 q3 q4 q5 q6 k
      refine r_X12_explain_17 hC ⟨fun _ => ⟨by constructor <;> omega, k u q4 (fun t s t0 t1 s0 s1 => ?_)⟩, fun z => absurd (by omega) z⟩
      by_cases e : t = a3
      · subst e; exact q6 s s0 (by omega)
      · exact q5 t s (by omega) t1 s0 s1
    | succ m ih =>
      intro a3 a4 u q1 q2 q3 q4 q5 q6 k
      obtain ⟨Iu, su, cu⟩ := st u q4
      have u77 := q4 77 (by decide)
      have cb := rm_ctb hC hI (z := a1) (p := a2) (t := a3) (s := a4) hsp (by omega)
      -- a number put there
      have put : ∀ v, (0 ≤ v ∧ v ≤ 200 * (w 77 2 - a3)) → (a3 + 1 = w 77 2 → v = 0 + rm_ct w a1 a2 a3 a4) → (a3 + 1 < w 77 2 → v = min (min (u 88 (61 * (a3 + 1) + 30 + a4)) (u 88 (61 * (a3 + 1) + 30 + a4 + -1) + w 77 7)) (u 88 (61 * (a3 + 1) + 30 + a4 + 1) + w 77 7) + rm_ct w a1 a2 a3 a4) → ck_At (ch_C g A R) (d + 2) mX12_explain K 17 [some (.inr (.inr 76)), some (.inl a1), some (.inl a2), some (.inl a3), some (.inl (a4 + 1)), none, none, none] [] (ck_up u 88 (61 * a3 + 30 + a4) v) := by
        intro v v0 v1 v2
        refine ih a3 (a4 + 1) _ (by omega) (by omega) q3 (fun k hk => by rw [ck_up_ne hk, q4 k hk]) (fun t s t0 t1 s0 s1 => ?_) (fun s s0 s1 => ?_) k
        · have o := q5 t s t0 t1 s0 s1
          rw [ck_up_nj (by omega), ck_up_nj (by omega), ck_up_nj (by omega), ck_up_nj (by omega)]
          exact o
        · rw [ck_up_nj (j := 61 * (a3 + 1) + 30 + s) (by omega), ck_up_nj (j := 61 * (a3 + 1) + 30 + s + -1) (by omega), ck_up_nj (j := 61 * (a3 + 1) + 30 + s + 1) (by omega)]
          by_cases e : s = a4
          · subst e; rw [ck_up_eq]; exact ⟨v0, v1, v2⟩
          · rw [ck_up_nj (by omega)]; exact q6 s s0 (by omega)
      refine r_X12_explain_17 hC ⟨fun z => absurd z (by omega), fun _ => ⟨by constructor <;> omega, fun z => ?_, fun z => ?_⟩⟩
      · rw [u77] at z
        refine S_X12_stepCost hC Iu h1 h2 (by omega) (by omega) su ⟨_, rfl, fun _ => ?_⟩
        rw [cu]
        exact ⟨by constructor <;> omega, by omega, by constructor <;> omega, put _ (by omega) (fun _ => rfl) (fun e => by omega)⟩
      · rw [u77] at z
        have b0 := (q5 (a3 + 1) a4 (by omega) (by omega) (by omega) (by omega)).1
        have b1 := (q5 (a3 + 1) (a4 - 1) (by omega) (by omega) (by omega) (by omega)).1
        have b2 := (q5 (a3 + 1) (a4 + 1) (by omega) (by omega) (by omega) (by omega)).1
        rw [show 61 * (a3 + 1) + 30 + (a4 - 1) = 61 * (a3 + 1) + 30 + a4 + -1 by omega] at b1
        rw [show 61 * (a3 + 1) + 30 + (a4 + 1) = 61 * (a3 + 1) + 30 + a4 + 1 by omega] at b2
        refine ⟨by omega, fun x ex => ?_⟩
        have fin : ∀ x, x = min (min (u 88 (61 * (a3 + 1) + 30 + a4)) (u 88 (61 * (a3 + 1) + 30 + a4 + -1) + w 77 7)) (u 88 (61 * (a3 + 1) + 30 + a4 + 1) + w 77 7) → ck_At (ch_C g A R) (d + 2) mX12_explain K 60 [some (.inr (.inr 76)), some (.inl a1), some (.inl a2), some (.inl a3), some (.inl a4), some (.inl x), some (.inl (1 + 2)), none] [] u := fun x ex => by
          refine r_X12_explain_60 hC ⟨fun _ => S_X12_stepCost hC Iu h1 h2 (by omega) (by omega) su ⟨_, rfl, fun _ => ?_⟩, fun z => absurd (by decide) z⟩
          rw [cu]
          exact ⟨by constructor <;> omega, by omega, by constructor <;> omega, put _ (by omega) (fun e => by omega) (fun _ => by rw [ex])⟩
        have mid : ∀ x, x = min (u 88 (61 * (a3 + 1) + 30 + a4)) (u 88 (61 * (a3 + 1) + 30 + a4 + -1) + w 77 7) → ck_At (ch_C g A R) (d + 2) mX12_explain K 60 [some (.inr (.inr 76)), some (.inl a1), some (.inl a2), some (.inl a3), some (.inl a4), some (.inl x), some (.inl (-1 + 2)), none] [] u := fun x ex => by
          refine r_X12_explain_60 hC ⟨fun z => absurd z (by decide), fun _ => ⟨by omega, fun y ey => ?_⟩⟩
          rw [u77] at ey
          have ey' : y = u 88 (61 * (a3 + 1) + 30 + a4 + 1) + w 77 7 := ey
          exact ⟨by constructor <;> omega, fun _ => ⟨by decide, fin x (by omega)⟩, fun _ => ⟨by decide, fin y (by omega)⟩⟩
        refine r_X12_explain_60 hC ⟨fun z => absurd z (by decide), fun _ => ⟨by omega, fun y ey => ?_⟩⟩
        rw [u77] at ey
        exact ⟨by constructor <;> omega, fun _ => ⟨by decide, mid x (by omega)⟩, fun _ => ⟨by decide, mid y (by omega)⟩⟩
  have l1 : ∀ (m : Nat) (a3 : Int) (u : ck_W), a3 + 1 = m → a3 < w 77 2 → (∀ k, k ≠ 88 → u k = w k) → rm_rs w u a1 a2 (w 77 2) (a3 + 1) → ck_At (ch_C g A R) (d + 2) mX12_explain K 9 [some (.inr (.inr 76)), some (.inl a1), some (.inl a2), some (.inl a3), none, none, none, none] [] u := by
    intro m
    induction m with
    | zero =>
      intro a3 u q1 q2 q3 q4
      exact r_X12_explain_9 hC ⟨fun _ => h u q3 (by rw [show a3 + 1 = 0 by omega] at q4; exact q4), fun z => absurd (by omega) z⟩
    | succ m ih =>
      intro a3 u q1 q2 q3 q4
      exact r_X12_explain_9 hC ⟨fun z => absurd z (by omega), fun _ => ⟨by constructor <;> omega, l2 (2 * a3 + 1).toNat a3 (-a3) u (by omega) (by omega) (by omega) q3 q4 (fun s s0 s1 => by omega) (fun u' i1 i2 => ih _ _ (by omega) (by omega) i1 (by rw [show a3 + -1 + 1 = a3 by omega]; exact i2))⟩⟩
  exact e_X12_explain hC ⟨by constructor <;> omega, l1 (w 77 2).toNat _ w (by omega) (by omega) (fun _ _ => rfl) (fun t s t0 t1 => by omega)⟩
theorem dX12_walked_0 : decode cX12_walked 0 = .ok (.iload_n 1, 1) := dk_27 (by decide +kernel)
theorem dX12_walked_1 : decode cX12_walked 1 = .ok (.invokestatic 97, 3) := dk_184 0 97 (by decide +kernel)
theorem dX12_walked_4 : decode cX12_walked 4 = .ok (.ifCond .eq 54, 3) := dk_153 0 54 (by decide +kernel)
theorem dX12_walked_7 : decode cX12_walked 7 = .ok (.iload_n 2, 1) := dk_28 (by decide +kernel)
theorem dX12_walked_8 : decode cX12_walked 8 = .ok (.iconst 0, 1) := dk_3 (by decide +kernel)
theorem dX12_walked_9 : decode cX12_walked 9 = .ok (.aload_n 0, 1) := dk_42 (by decide +kernel)
theorem dX12_walked_10 : decode cX12_walked 10 = .ok (.iload_n 1, 1) := dk_27 (by decide +kernel)
theorem dX12_walked_11 : decode cX12_walked 11 = .ok (.invokevirtual 131, 3) := dk_182 0 131 (by decide +kernel)
theorem dX12_walked_14 : decode cX12_walked 14 = .ok (.iconst 1, 1) := dk_4 (by decide +kernel)
theorem dX12_walked_15 : decode cX12_walked 15 = .ok (.isub, 1) := dk_100 (by decide +kernel)
theorem dX12_walked_16 : decode cX12_walked 16 = .ok (.invokestatic 93, 3) := dk_184 0 93 (by decide +kernel)
theorem dX12_walked_19 : decode cX12_walked 19 = .ok (.ifCond .eq 39, 3) := dk_153 0 39 (by decide +kernel)
theorem dX12_walked_22 : decode cX12_walked 22 = .ok (.aload_n 0, 1) := dk_42 (by decide +kernel)
theorem dX12_walked_23 : decode cX12_walked 23 = .ok (.getfield 7, 3) := dk_180 0 7 (by decide +kernel)
theorem dX12_walked_26 : decode cX12_walked 26 = .ok (.iconst 2, 1) := dk_5 (by decide +kernel)
theorem dX12_walked_27 : decode cX12_walked 27 = .ok (.iaload, 1) := dk_46 (by decide +kernel)
theorem dX12_walked_28 : decode cX12_walked 28 = .ok (.ifCond .eq 30, 3) := dk_153 0 30 (by decide +kernel)
theorem dX12_walked_31 : decode cX12_walked 31 = .ok (.iload_n 3, 1) := dk_29 (by decide +kernel)
theorem dX12_walked_32 : decode cX12_walked 32 = .ok (.iconst 0, 1) := dk_3 (by decide +kernel)
theorem dX12_walked_33 : decode cX12_walked 33 = .ok (.iconst 1, 1) := dk_4 (by decide +kernel)
theorem dX12_walked_34 : decode cX12_walked 34 = .ok (.invokestatic 93, 3) := dk_184 0 93 (by decide +kernel)
theorem dX12_walked_37 : decode cX12_walked 37 = .ok (.ifCond .ne 25, 3) := dk_154 0 25 (by decide +kernel)
theorem dX12_walked_40 : decode cX12_walked 40 = .ok (.iload_n 3, 1) := dk_29 (by decide +kernel)
theorem dX12_walked_41 : decode cX12_walked 41 = .ok (.bipush 100, 2) := dk_16 100 (by decide +kernel)
theorem dX12_walked_43 : decode cX12_walked 43 = .ok (.bipush 99, 2) := dk_16 99 (by decide +kernel)
theorem dX12_walked_45 : decode cX12_walked 45 = .ok (.aload_n 0, 1) := dk_42 (by decide +kernel)
theorem dX12_walked_46 : decode cX12_walked 46 = .ok (.getfield 7, 3) := dk_180 0 7 (by decide +kernel)
theorem dX12_walked_49 : decode cX12_walked 49 = .ok (.iconst 2, 1) := dk_5 (by decide +kernel)
theorem dX12_walked_50 : decode cX12_walked 50 = .ok (.iaload, 1) := dk_46 (by decide +kernel)
theorem dX12_walked_51 : decode cX12_walked 51 = .ok (.iadd, 1) := dk_96 (by decide +kernel)
theorem dX12_walked_52 : decode cX12_walked 52 = .ok (.invokestatic 93, 3) := dk_184 0 93 (by decide +kernel)
theorem dX12_walked_55 : decode cX12_walked 55 = .ok (.ifCond .ne 7, 3) := dk_154 0 7 (by decide +kernel)
theorem dX12_walked_58 : decode cX12_walked 58 = .ok (.sipush (-1000), 3) := dk_17 252 24 (by decide +kernel)
theorem dX12_walked_61 : decode cX12_walked 61 = .ok (.ireturn, 1) := dk_172 (by decide +kernel)
theorem dX12_walked_62 : decode cX12_walked 62 = .ok (.aload_n 0, 1) := dk_42 (by decide +kernel)
theorem dX12_walked_63 : decode cX12_walked 63 = .ok (.iload_n 1, 1) := dk_27 (by decide +kernel)
theorem dX12_walked_64 : decode cX12_walked 64 = .ok (.invokevirtual 154, 3) := dk_182 0 154 (by decide +kernel)
theorem dX12_walked_67 : decode cX12_walked 67 = .ok (.aload_n 0, 1) := dk_42 (by decide +kernel)
theorem dX12_walked_68 : decode cX12_walked 68 = .ok (.getfield 30, 3) := dk_180 0 30 (by decide +kernel)
theorem dX12_walked_71 : decode cX12_walked 71 = .ok (.iload_n 1, 1) := dk_27 (by decide +kernel)
theorem dX12_walked_72 : decode cX12_walked 72 = .ok (.iaload, 1) := dk_46 (by decide +kernel)
theorem dX12_walked_73 : decode cX12_walked 73 = .ok (.ifCond .ge 7, 3) := dk_156 0 7 (by decide +kernel)
theorem dX12_walked_76 : decode cX12_walked 76 = .ok (.sipush (-1000), 3) := dk_17 252 24 (by decide +kernel)
theorem dX12_walked_79 : decode cX12_walked 79 = .ok (.ireturn, 1) := dk_172 (by decide +kernel)
theorem dX12_walked_80 : decode cX12_walked 80 = .ok (.aload_n 0, 1) := dk_42 (by decide +kernel)
theorem dX12_walked_81 : decode cX12_walked 81 = .ok (.iload_n 1, 1) := dk_27 (by decide +kernel)
theorem dX12_walked_82 : decode cX12_walked 82 = .ok (.iload_n 2, 1) := dk_28 (by decide +kernel)
theorem dX12_walked_83 : decode cX12_walked 83 = .ok (.invokevirtual 165, 3) := dk_182 0 165 (by decide +kernel)
theorem dX12_walked_86 : decode cX12_walked 86 = .ok (.iload_n 3, 1) := dk_29 (by decide +kernel)
theorem dX12_walked_87 : decode cX12_walked 87 = .ok (.ifCond .ne 11, 3) := dk_154 0 11 (by decide +kernel)
theorem dX12_walked_90 : decode cX12_walked 90 = .ok (.aload_n 0, 1) := dk_42 (by decide +kernel)
theorem dX12_walked_91 : decode cX12_walked 91 = .ok (.getfield 45, 3) := dk_180 0 45 (by decide +kernel)
theorem dX12_walked_94 : decode cX12_walked 94 = .ok (.bipush 30, 2) := dk_16 30 (by decide +kernel)
theorem dX12_walked_96 : decode cX12_walked 96 = .ok (.iaload, 1) := dk_46 (by decide +kernel)
theorem dX12_walked_97 : decode cX12_walked 97 = .ok (.ireturn, 1) := dk_172 (by decide +kernel)
theorem dX12_walked_98 : decode cX12_walked 98 = .ok (.iconst 0, 1) := dk_3 (by decide +kernel)
theorem dX12_walked_99 : decode cX12_walked 99 = .ok (.istore 4, 2) := dk_54 (by decide +kernel)
theorem dX12_walked_101 : decode cX12_walked 101 = .ok (.iconst 0, 1) := dk_3 (by decide +kernel)
theorem dX12_walked_102 : decode cX12_walked 102 = .ok (.istore 5, 2) := dk_54 (by decide +kernel)
theorem dX12_walked_104 : decode cX12_walked 104 = .ok (.iconst 0, 1) := dk_3 (by decide +kernel)
theorem dX12_walked_105 : decode cX12_walked 105 = .ok (.istore 6, 2) := dk_54 (by decide +kernel)
theorem dX12_walked_107 : decode cX12_walked 107 = .ok (.iload 6, 2) := dk_21 (by decide +kernel)
theorem dX12_walked_109 : decode cX12_walked 109 = .ok (.aload_n 0, 1) := dk_42 (by decide +kernel)
theorem dX12_walked_110 : decode cX12_walked 110 = .ok (.getfield 7, 3) := dk_180 0 7 (by decide +kernel)
theorem dX12_walked_113 : decode cX12_walked 113 = .ok (.iconst 2, 1) := dk_5 (by decide +kernel)
theorem dX12_walked_114 : decode cX12_walked 114 = .ok (.iaload, 1) := dk_46 (by decide +kernel)
theorem dX12_walked_115 : decode cX12_walked 115 = .ok (.if_icmp .ge 170, 3) := dk_162 0 170 (by decide +kernel)
theorem dX12_walked_118 : decode cX12_walked 118 = .ok (.iload 6, 2) := dk_21 (by decide +kernel)
theorem dX12_walked_120 : decode cX12_walked 120 = .ok (.ifCond .le 108, 3) := dk_158 0 108 (by decide +kernel)
theorem dX12_walked_123 : decode cX12_walked 123 = .ok (.aload_n 0, 1) := dk_42 (by decide +kernel)
theorem dX12_walked_124 : decode cX12_walked 124 = .ok (.getfield 45, 3) := dk_180 0 45 (by decide +kernel)
theorem dX12_walked_127 : decode cX12_walked 127 = .ok (.bipush 61, 2) := dk_16 61 (by decide +kernel)
theorem dX12_walked_129 : decode cX12_walked 129 = .ok (.iload 6, 2) := dk_21 (by decide +kernel)
theorem dX12_walked_131 : decode cX12_walked 131 = .ok (.iconst 1, 1) := dk_4 (by decide +kernel)
theorem dX12_walked_132 : decode cX12_walked 132 = .ok (.isub, 1) := dk_100 (by decide +kernel)
theorem dX12_walked_133 : decode cX12_walked 133 = .ok (.imul, 1) := dk_104 (by decide +kernel)
theorem dX12_walked_134 : decode cX12_walked 134 = .ok (.bipush 30, 2) := dk_16 30 (by decide +kernel)
theorem dX12_walked_136 : decode cX12_walked 136 = .ok (.iadd, 1) := dk_96 (by decide +kernel)
theorem dX12_walked_137 : decode cX12_walked 137 = .ok (.iload 4, 2) := dk_21 (by decide +kernel)
theorem dX12_walked_139 : decode cX12_walked 139 = .ok (.iadd, 1) := dk_96 (by decide +kernel)
theorem dX12_walked_140 : decode cX12_walked 140 = .ok (.iaload, 1) := dk_46 (by decide +kernel)
theorem dX12_walked_141 : decode cX12_walked 141 = .ok (.aload_n 0, 1) := dk_42 (by decide +kernel)
theorem dX12_walked_142 : decode cX12_walked 142 = .ok (.iload_n 1, 1) := dk_27 (by decide +kernel)
theorem dX12_walked_143 : decode cX12_walked 143 = .ok (.iload_n 2, 1) := dk_28 (by decide +kernel)
theorem dX12_walked_144 : decode cX12_walked 144 = .ok (.iload 6, 2) := dk_21 (by decide +kernel)
theorem dX12_walked_146 : decode cX12_walked 146 = .ok (.iconst 1, 1) := dk_4 (by decide +kernel)
theorem dX12_walked_147 : decode cX12_walked 147 = .ok (.isub, 1) := dk_100 (by decide +kernel)
theorem dX12_walked_148 : decode cX12_walked 148 = .ok (.iload 4, 2) := dk_21 (by decide +kernel)
theorem dX12_walked_150 : decode cX12_walked 150 = .ok (.invokevirtual 161, 3) := dk_182 0 161 (by decide +kernel)
theorem dX12_walked_153 : decode cX12_walked 153 = .ok (.isub, 1) := dk_100 (by decide +kernel)
theorem dX12_walked_154 : decode cX12_walked 154 = .ok (.istore 7, 2) := dk_54 (by decide +kernel)
theorem dX12_walked_156 : decode cX12_walked 156 = .ok (.iconst (-1), 1) := dk_2 (by decide +kernel)
theorem dX12_walked_157 : decode cX12_walked 157 = .ok (.istore 8, 2) := dk_54 (by decide +kernel)
theorem dX12_walked_159 : decode cX12_walked 159 = .ok (.aload_n 0, 1) := dk_42 (by decide +kernel)
theorem dX12_walked_160 : decode cX12_walked 160 = .ok (.getfield 45, 3) := dk_180 0 45 (by decide +kernel)
theorem dX12_walked_163 : decode cX12_walked 163 = .ok (.bipush 61, 2) := dk_16 61 (by decide +kernel)
theorem dX12_walked_165 : decode cX12_walked 165 = .ok (.iload 6, 2) := dk_21 (by decide +kernel)
theorem dX12_walked_167 : decode cX12_walked 167 = .ok (.imul, 1) := dk_104 (by decide +kernel)
theorem dX12_walked_168 : decode cX12_walked 168 = .ok (.bipush 30, 2) := dk_16 30 (by decide +kernel)
theorem dX12_walked_170 : decode cX12_walked 170 = .ok (.iadd, 1) := dk_96 (by decide +kernel)
theorem dX12_walked_171 : decode cX12_walked 171 = .ok (.iload 4, 2) := dk_21 (by decide +kernel)
theorem dX12_walked_173 : decode cX12_walked 173 = .ok (.iadd, 1) := dk_96 (by decide +kernel)
theorem dX12_walked_174 : decode cX12_walked 174 = .ok (.iload 8, 2) := dk_21 (by decide +kernel)
theorem dX12_walked_176 : decode cX12_walked 176 = .ok (.iadd, 1) := dk_96 (by decide +kernel)
theorem dX12_walked_177 : decode cX12_walked 177 = .ok (.iaload, 1) := dk_46 (by decide +kernel)
theorem dX12_walked_178 : decode cX12_walked 178 = .ok (.iload 8, 2) := dk_21 (by decide +kernel)
theorem dX12_walked_180 : decode cX12_walked 180 = .ok (.ifCond .ne 7, 3) := dk_154 0 7 (by decide +kernel)
theorem dX12_walked_183 : decode cX12_walked 183 = .ok (.iconst 0, 1) := dk_3 (by decide +kernel)
theorem dX12_walked_184 : decode cX12_walked 184 = .ok (.goto 10, 3) := dk_167 0 10 (by decide +kernel)
theorem dX12_walked_187 : decode cX12_walked 187 = .ok (.aload_n 0, 1) := dk_42 (by decide +kernel)
theorem dX12_walked_188 : decode cX12_walked 188 = .ok (.getfield 7, 3) := dk_180 0 7 (by decide +kernel)
theorem dX12_walked_191 : decode cX12_walked 191 = .ok (.bipush 7, 2) := dk_16 7 (by decide +kernel)
theorem dX12_walked_193 : decode cX12_walked 193 = .ok (.iaload, 1) := dk_46 (by decide +kernel)
theorem dX12_walked_194 : decode cX12_walked 194 = .ok (.iadd, 1) := dk_96 (by decide +kernel)
theorem dX12_walked_195 : decode cX12_walked 195 = .ok (.iload 7, 2) := dk_21 (by decide +kernel)
theorem dX12_walked_197 : decode cX12_walked 197 = .ok (.if_icmp .eq 9, 3) := dk_159 0 9 (by decide +kernel)
theorem dX12_walked_200 : decode cX12_walked 200 = .ok (.iinc 8 1, 3) := dk_132 1 (by decide +kernel)
theorem dX12_walked_203 : decode cX12_walked 203 = .ok (.goto (-44), 3) := dk_167 255 212 (by decide +kernel)
theorem dX12_walked_206 : decode cX12_walked 206 = .ok (.iload 4, 2) := dk_21 (by decide +kernel)
theorem dX12_walked_208 : decode cX12_walked 208 = .ok (.iload 8, 2) := dk_21 (by decide +kernel)
theorem dX12_walked_210 : decode cX12_walked 210 = .ok (.iadd, 1) := dk_96 (by decide +kernel)
theorem dX12_walked_211 : decode cX12_walked 211 = .ok (.istore 4, 2) := dk_54 (by decide +kernel)
theorem dX12_walked_213 : decode cX12_walked 213 = .ok (.iload 5, 2) := dk_21 (by decide +kernel)
theorem dX12_walked_215 : decode cX12_walked 215 = .ok (.iload 8, 2) := dk_21 (by decide +kernel)
theorem dX12_walked_217 : decode cX12_walked 217 = .ok (.ifCond .ne 7, 3) := dk_154 0 7 (by decide +kernel)
theorem dX12_walked_220 : decode cX12_walked 220 = .ok (.iconst 0, 1) := dk_3 (by decide +kernel)
theorem dX12_walked_221 : decode cX12_walked 221 = .ok (.goto 4, 3) := dk_167 0 4 (by decide +kernel)
theorem dX12_walked_224 : decode cX12_walked 224 = .ok (.iconst 1, 1) := dk_4 (by decide +kernel)
theorem dX12_walked_225 : decode cX12_walked 225 = .ok (.iadd, 1) := dk_96 (by decide +kernel)
theorem dX12_walked_226 : decode cX12_walked 226 = .ok (.istore 5, 2) := dk_54 (by decide +kernel)
theorem dX12_walked_228 : decode cX12_walked 228 = .ok (.iload_n 3, 1) := dk_29 (by decide +kernel)
theorem dX12_walked_229 : decode cX12_walked 229 = .ok (.bipush 100, 2) := dk_16 100 (by decide +kernel)
theorem dX12_walked_231 : decode cX12_walked 231 = .ok (.isub, 1) := dk_100 (by decide +kernel)
theorem dX12_walked_232 : decode cX12_walked 232 = .ok (.iload 6, 2) := dk_21 (by decide +kernel)
theorem dX12_walked_234 : decode cX12_walked 234 = .ok (.if_icmp .eq 6, 3) := dk_159 0 6 (by decide +kernel)
theorem dX12_walked_237 : decode cX12_walked 237 = .ok (.goto 42, 3) := dk_167 0 42 (by decide +kernel)
theorem dX12_walked_240 : decode cX12_walked 240 = .ok (.iload_n 2, 1) := dk_28 (by decide +kernel)
theorem dX12_walked_241 : decode cX12_walked 241 = .ok (.iload 6, 2) := dk_21 (by decide +kernel)
theorem dX12_walked_243 : decode cX12_walked 243 = .ok (.iadd, 1) := dk_96 (by decide +kernel)
theorem dX12_walked_244 : decode cX12_walked 244 = .ok (.aload_n 0, 1) := dk_42 (by decide +kernel)
theorem dX12_walked_245 : decode cX12_walked 245 = .ok (.getfield 80, 3) := dk_180 0 80 (by decide +kernel)
theorem dX12_walked_248 : decode cX12_walked 248 = .ok (.iload 4, 2) := dk_21 (by decide +kernel)
theorem dX12_walked_250 : decode cX12_walked 250 = .ok (.imul, 1) := dk_104 (by decide +kernel)
theorem dX12_walked_251 : decode cX12_walked 251 = .ok (.iadd, 1) := dk_96 (by decide +kernel)
theorem dX12_walked_252 : decode cX12_walked 252 = .ok (.istore 7, 2) := dk_54 (by decide +kernel)
theorem dX12_walked_254 : decode cX12_walked 254 = .ok (.iload 7, 2) := dk_21 (by decide +kernel)
theorem dX12_walked_256 : decode cX12_walked 256 = .ok (.iconst 0, 1) := dk_3 (by decide +kernel)
theorem dX12_walked_257 : decode cX12_walked 257 = .ok (.aload_n 0, 1) := dk_42 (by decide +kernel)
theorem dX12_walked_258 : decode cX12_walked 258 = .ok (.iload_n 1, 1) := dk_27 (by decide +kernel)
theorem dX12_walked_259 : decode cX12_walked 259 = .ok (.invokevirtual 131, 3) := dk_182 0 131 (by decide +kernel)
theorem dX12_walked_262 : decode cX12_walked 262 = .ok (.iconst 1, 1) := dk_4 (by decide +kernel)
theorem dX12_walked_263 : decode cX12_walked 263 = .ok (.isub, 1) := dk_100 (by decide +kernel)
theorem dX12_walked_264 : decode cX12_walked 264 = .ok (.invokestatic 93, 3) := dk_184 0 93 (by decide +kernel)
theorem dX12_walked_267 : decode cX12_walked 267 = .ok (.ifCond .eq 8, 3) := dk_153 0 8 (by decide +kernel)
theorem dX12_walked_270 : decode cX12_walked 270 = .ok (.iload 7, 2) := dk_21 (by decide +kernel)
theorem dX12_walked_272 : decode cX12_walked 272 = .ok (.goto 6, 3) := dk_167 0 6 (by decide +kernel)
theorem dX12_walked_275 : decode cX12_walked 275 = .ok (.sipush (-1000), 3) := dk_17 252 24 (by decide +kernel)
theorem dX12_walked_278 : decode cX12_walked 278 = .ok (.ireturn, 1) := dk_172 (by decide +kernel)
theorem dX12_walked_279 : decode cX12_walked 279 = .ok (.iinc 6 1, 3) := dk_132 1 (by decide +kernel)
theorem dX12_walked_282 : decode cX12_walked 282 = .ok (.goto (-175), 3) := dk_167 255 81 (by decide +kernel)
theorem dX12_walked_285 : decode cX12_walked 285 = .ok (.iload 5, 2) := dk_21 (by decide +kernel)
theorem dX12_walked_287 : decode cX12_walked 287 = .ok (.ireturn, 1) := dk_172 (by decide +kernel)
set_option maxRecDepth 8000 in
theorem e_X12_walked {g : ch_G} {A R : Nat} (hC : ck_Cx g A R) {d : Nat} {K : Option ck_V → ck_W → Prop} {w : ck_W} {a1 a2 a3 : Int} (h : (0 ≤ a1 ∧ a1 ≤ 5 → (0 ≤ 10 + a1 ∧ 10 + a1 < 1430) ∧ ((ck_i ((w 77 (10 + a1)) * (w 76 0))) ∧ (ck_i (((w 77 (10 + a1)) * (w 76 0)) - 1) ∧ ((0 ≤ a2 ∧ a2 ≤ (((w 77 (10 + a1)) * (w 76 0)) - 1) → ((w 77 2) = 0 → K (some (.inl (-1000))) w) ∧ (¬ (w 77 2) = 0 → (0 ≤ a3 ∧ a3 ≤ 1 → ck_At (ch_C g A R) (d + 2) mX12_walked K 62 [some (.inr (.inr 76)), some (.inl a1), some (.inl a2), some (.inl a3), none, none, none, none, none] [] w) ∧ (¬ (0 ≤ a3 ∧ a3 ≤ 1) → ck_i (99 + (w 77 2)) ∧ ((100 ≤ a3 ∧ a3 ≤ (99 + (w 77 2)) → ck_At (ch_C g A R) (d + 2) mX12_walked K 62 [some (.inr (.inr 76)), some (.inl a1), some (.inl a2), some (.inl a3), none, none, none, none, none] [] w) ∧ (¬ (100 ≤ a3 ∧ a3 ≤ (99 + (w 77 2))) → K (some (.inl (-1000))) w))))) ∧ (¬ (0 ≤ a2 ∧ a2 ≤ (((w 77 (10 + a1)) * (w 76 0)) - 1)) → K (some (.inl (-1000))) w))))) ∧ (¬ (0 ≤ a1 ∧ a1 ≤ 5) → K (some (.inl (-1000))) w)) : ck_Ex (ch_C g A R) (d + 2) mX12_walked [.inr (.inr 76), .inl a1, .inl a2, .inl a3] w K :=
  ck_entry hC.1 [some (.inr (.inr 76)), some (.inl a1), some (.inl a2), some (.inl a3), none, none, none, none, none] (by decide) (Nat.le_of_ble_eq_true rfl) rfl (fun q => q) (ck_in (fun hl => (ck_iload_n 1 rfl 1 dX12_walked_0 rfl rfl (have h21 := h; ck_callS 4 rfl [.inl a1] [] dX12_walked_1 cs_X12_97 rfl rfl (Nat.le_of_ble_eq_true rfl) (And.intro hl.2.1 True.intro) (p_X12_isSlice hC (fun c19 _ => (ck_if_eq 7 rfl 58 dX12_walked_4 rfl (by decide) (fun q => absurd q (by decide)) (fun _ => (ck_iload_n 8 rfl 2 dX12_walked_7 rfl rfl (ck_iconst 9 rfl dX12_walked_8 rfl (ck_aload_n 10 rfl 0 dX12_walked_9 rfl rfl (ck_iload_n 11 rfl 1 dX12_walked_10 rfl rfl (have h23 := (h21.1 c19); have o1 := h23.1; have h22 := h23.2; (have h25 := h22; have o2 := h25.1; have h24 := h25.2; (ck_callV 14 rfl [.inl a1] [.inl 0, .inl a2] dX12_walked_11 cv_X12_131 sh_76 rfl rfl (Nat.le_of_ble_eq_true rfl) (And.intro hl.2.1 True.intro) (p_X12_places hC o1 o2 (fun q3 => (ck_iconst 15 rfl dX12_walked_14 rfl (ck_isub 16 rfl dX12_walked_15 (have h27 := h24; have o4 := h27.1; have h26 := h27.2; (have h18 := h26; ck_callS 19 rfl [.inl a2, .inl 0, .inl (((w 77 (10 + a1)) * (w 76 0)) - 1)] [] dX12_walked_16 cs_X12_93 rfl rfl (Nat.le_of_ble_eq_true rfl) (And.intro hl.2.2.1 (And.intro (show ck_i 0 by decide) (And.intro o4 True.intro))) (p_X12_isIn hC (fun c16 _ => (ck_if_eq 22 rfl 58 dX12_walked_19 rfl (by decide) (fun q => absurd q (by decide)) (fun _ => (ck_aload_n 23 rfl 0 dX12_walked_22 rfl rfl (ck_getr 26 rfl dX12_walked_23 fl_X12_7 sh_76 rfl (ck_iconst 27 rfl dX12_walked_26 rfl (ck_iald 28 rfl dX12_walked_27 sh_77 (shn_77 hC) (by decide) _ rfl (fun (q5 : ck_i (w 77 2)) => (have h28 := (h18.1 c16); (ck_if_eq 31 rfl 58 dX12_walked_28 rfl q5 (fun c14 => (ck_sipush 61 rfl dX12_walked_58 rfl (ck_iret dX12_walked_61 rfl (show ck_i (-1000) by decide) (h28.1 c14)))) (fun c15 => (ck_iload_n 32 rfl 3 dX12_walked_31 rfl rfl (ck_iconst 33 rfl dX12_walked_32 rfl (ck_iconst 34 rfl dX12_walked_33 rfl (have h13 := (h28.2 c15); ck_callS 37 rfl [.inl a3, .inl 0, .inl 1] [] dX12_walked_34 cs_X12_93 rfl rfl (Nat.le_of_ble_eq_true rfl) (And.intro hl.2.2.2.1 (And.intro (show ck_i 0 by decide) (And.intro (show ck_i 1 by decide) True.intro))) (p_X12_isIn hC (fun c11 _ => (ck_if_ne 40 rfl 62 dX12_walked_37 rfl (by decide) (fun _ => (h13.1 c11)) (fun q => absurd q (by decide)))) (fun c12 _ => (ck_if_ne 40 rfl 62 dX12_walked_37 rfl (by decide) (fun q => absurd q (by decide)) (fun _ => (ck_iload_n 41 rfl 3 dX12_walked_40 rfl rfl (ck_bipush 43 rfl dX12_walked_41 rfl (ck_bipush 45 rfl dX12_walked_43 rfl (ck_aload_n 46 rfl 0 dX12_walked_45 rfl rfl (ck_getr 49 rfl dX12_walked_46 fl_X12_7 sh_76 rfl (ck_iconst 50 rfl dX12_walked_49 rfl (ck_iald 51 rfl dX12_walked_50 sh_77 (shn_77 hC) (by decide) _ rfl (fun (q6 : ck_i (w 77 2)) => (ck_iadd 52 rfl dX12_walked_51 (have h30 := (h13.2 c12); have o7 := h30.1; have h29 := h30.2; (have h10 := h29; ck_callS 55 rfl [.inl a3, .inl 100, .inl (99 + (w 77 2))] [] dX12_walked_52 cs_X12_93 rfl rfl (Nat.le_of_ble_eq_true rfl) (And.intro hl.2.2.2.1 (And.intro (show ck_i 100 by decide) (And.intro o7 True.intro))) (p_X12_isIn hC (fun c8 _ => (ck_if_ne 58 rfl 62 dX12_walked_55 rfl (by decide) (fun _ => (h10.1 c8)) (fun q => absurd q (by decide)))) (fun c9 _ => (ck_if_ne 58 rfl 62 dX12_walked_55 rfl (by decide) (fun q => absurd q (by decide)) (fun _ => (ck_sipush 61 rfl dX12_walked_58 rfl (ck_iret dX12_walked_61 rfl (show ck_i (-1000) by decide) (h10.2 c9))))))))))))))))))))))))))))))))))))) (fun c17 _ => (ck_if_eq 22 rfl 58 dX12_walked_19 rfl (by decide) (fun _ => (ck_sipush 61 rfl dX12_walked_58 rfl (ck_iret dX12_walked_61 rfl (show ck_i (-1000) by decide) (h18.2 c17)))) (fun q => absurd q (by decide))))))))))))))))))))) (fun c20 _ => (ck_if_eq 7 rfl 58 dX12_walked_4 rfl (by decide) (fun _ => (ck_sipush 61 rfl dX12_walked_58 rfl (ck_iret dX12_walked_61 rfl (show ck_i (-1000) by decide) (h21.2 c20)))) (fun q => absurd q (by decide)))))))))
set_option maxRecDepth 8000 in
theorem r_X12_walked_62 {g : ch_G} {A R : Nat} (hC : ck_Cx g A R) {d : Nat} {K : Option ck_V → ck_W → Prop} {w : ck_W} {a1 a2 a3 : Int} (h : ck_CN (ch_C g A R) (d + 1) mX12_wind [.inr (.inr 76), .inl a1] w (fun w1 => (0 ≤ a1 ∧ a1 < 6) ∧ ((0 ≤ (w1 83 a1) → ck_CN (ch_C g A R) (d + 1) mX12_explain [.inr (.inr 76), .inl a1, .inl a2] w1 (fun w4 => (¬ a3 = 0 → ck_At (ch_C g A R) (d + 2) mX12_walked K 107 [some (.inr (.inr 76)), some (.inl a1), some (.inl a2), some (.inl a3), some (.inl 0), some (.inl 0), some (.inl 0), none, none] [] w4) ∧ (a3 = 0 → K (some (.inl (w4 88 30))) w4))) ∧ (¬ 0 ≤ (w1 83 a1) → K (some (.inl (-1000))) w1)))) : ck_At (ch_C g A R) (d + 2) mX12_walked K 62 [some (.inr (.inr 76)), some (.inl a1), some (.inl a2), some (.inl a3), none, none, none, none, none] [] w :=
  ck_in (fun hl => (ck_aload_n 63 rfl 0 dX12_walked_62 rfl rfl (ck_iload_n 64 rfl 1 dX12_walked_63 rfl rfl (ck_callV 67 rfl [.inl a1] [] dX12_walked_64 cv_X12_154 sh_76 rfl rfl (Nat.le_of_ble_eq_true rfl) (And.intro hl.2.1 True.intro) (ck_mN h (fun w1 h11 => (ck_aload_n 68 rfl 0 dX12_walked_67 rfl rfl (ck_getr 71 rfl dX12_walked_68 fl_X12_30 sh_76 rfl (ck_iload_n 72 rfl 1 dX12_walked_71 rfl rfl (have h13 := h11; have o2 := h13.1; have h12 := h13.2; (ck_iald 73 rfl dX12_walked_72 sh_83 (shn_83 hC) o2 _ rfl (fun (q3 : ck_i (w1 83 a1)) => (ck_if_ge 76 rfl 80 dX12_walked_73 rfl q3 (fun c9 => (ck_aload_n 81 rfl 0 dX12_walked_80 rfl rfl (ck_iload_n 82 rfl 1 dX12_walked_81 rfl rfl (ck_iload_n 83 rfl 2 dX12_walked_82 rfl rfl (ck_callV 86 rfl [.inl a1, .inl a2] [] dX12_walked_83 cv_X12_165 sh_76 rfl rfl (Nat.le_of_ble_eq_true rfl) (And.intro hl.2.1 (And.intro hl.2.2.1 True.intro)) (ck_mN (h12.1 c9) (fun w4 h8 => (ck_iload_n 87 rfl 3 dX12_walked_86 rfl rfl (ck_if_ne 90 rfl 98 dX12_walked_87 rfl hl.2.2.2.1 (fun c6 => (ck_iconst 99 rfl dX12_walked_98 rfl (ck_istore 101 rfl [some (.inr (.inr 76)), some (.inl a1), some (.inl a2), some (.inl a3), some (.inl 0), none, none, none, none] dX12_walked_99 (Nat.le_of_ble_eq_true rfl) rfl rfl (show ck_i 0 by decide) (ck_iconst 102 rfl dX12_walked_101 rfl (ck_istore 104 rfl [some (.inr (.inr 76)), some (.inl a1), some (.inl a2), some (.inl a3), some (.inl 0), some (.inl 0), none, none, none] dX12_walked_102 (Nat.le_of_ble_eq_true rfl) rfl rfl (show ck_i 0 by decide) (ck_iconst 105 rfl dX12_walked_104 rfl (ck_istore 107 rfl [some (.inr (.inr 76)), some (.inl a1), some (.inl a2), some (.inl a3), some (.inl 0), some (.inl 0), some (.inl 0), none, none] dX12_walked_105 (Nat.le_of_ble_eq_true rfl) rfl rfl (show ck_i 0 by decide) (h8.1 c6)))))))) (fun c7 => (ck_aload_n 91 rfl 0 dX12_walked_90 rfl rfl (ck_getr 94 rfl dX12_walked_91 fl_X12_45 sh_76 rfl (ck_bipush 96 rfl dX12_walked_94 rfl (ck_iald 97 rfl dX12_walked_96 sh_88 (shn_88 hC) (by decide) _ rfl (fun (q5 : ck_i (w4 88 30)) => (ck_iret dX12_walked_97 rfl q5 (h8.2 c7))))))))))))))))) (fun c10 => (ck_sipush 79 rfl dX12_walked_76 rfl (ck_iret dX12_walked_79 rfl (show ck_i (-1000) by decide) (h12.2 c10)))))))))))))))))
set_option maxRecDepth 8000 in
theorem r_X12_walked_107 {g : ch_G} {A R : Nat} (hC : ck_Cx g A R) {d : Nat} {K : Option ck_V → ck_W → Prop} {w : ck_W} {a1 a2 a3 a4 a5 a6 : Int} (h : ((w 77 2) ≤ a6 → K (some (.inl a5)) w) ∧ (¬ (w 77 2) ≤ a6 → (a6 ≤ 0 → ck_At (ch_C g A R) (d + 2) mX12_walked K 228 [some (.inr (.inr 76)), some (.inl a1), some (.inl a2), some (.inl a3), some (.inl a4), some (.inl a5), some (.inl a6), none, none] [] w) ∧ (¬ a6 ≤ 0 → (0 ≤ (((61 * (a6 - 1)) + 30) + a4) ∧ (((61 * (a6 - 1)) + 30) + a4) < 2000) ∧ (ck_i (a6 - 1) ∧ (ck_CI (ch_C g A R) (d + 1) mX12_stepCost [.inr (.inr 76), .inl a1, .inl a2, .inl (a6 - 1), .inl a4] w (fun v6 w5 => ∀ x9, x9 = (w 88 (((61 * (a6 - 1)) + 30) + a4)) - v6 → ck_i x9 ∧ (ck_At (ch_C g A R) (d + 2) mX12_walked K 159 [some (.inr (.inr 76)), some (.inl a1), some (.inl a2), some (.inl a3), some (.inl a4), some (.inl a5), some (.inl a6), some (.inl x9), some (.inl (-1))] [] w5))))))) : ck_At (ch_C g A R) (d + 2) mX12_walked K 107 [some (.inr (.inr 76)), some (.inl a1), some (.inl a2), some (.inl a3), some (.inl a4), some (.inl a5), some (.inl a6), none, none] [] w :=
  ck_in (fun hl => (ck_iload 109 rfl dX12_walked_107 rfl (ck_aload_n 110 rfl 0 dX12_walked_109 rfl rfl (ck_getr 113 rfl dX12_walked_110 fl_X12_7 sh_76 rfl (ck_iconst 114 rfl dX12_walked_113 rfl (ck_iald 115 rfl dX12_walked_114 sh_77 (shn_77 hC) (by decide) _ rfl (fun (q1 : ck_i (w 77 2)) => (ck_icmp_ge 118 rfl 285 dX12_walked_115 rfl hl.2.2.2.2.2.2.1 q1 (fun c14 => (ck_iload 287 rfl dX12_walked_285 rfl (ck_iret dX12_walked_287 rfl hl.2.2.2.2.2.1 (h.1 c14)))) (fun c15 => (ck_iload 120 rfl dX12_walked_118 rfl (have h16 := (h.2 c15); (ck_if_le 123 rfl 228 dX12_walked_120 rfl hl.2.2.2.2.2.2.1 (fun c12 => (h16.1 c12)) (fun c13 => (ck_aload_n 124 rfl 0 dX12_walked_123 rfl rfl (ck_getr 127 rfl dX12_walked_124 fl_X12_45 sh_76 rfl (ck_bipush 129 rfl dX12_walked_127 rfl (ck_iload 131 rfl dX12_walked_129 rfl (ck_iconst 132 rfl dX12_walked_131 rfl (ck_isub 133 rfl dX12_walked_132 (ck_imul 134 rfl dX12_walked_133 (ck_bipush 136 rfl dX12_walked_134 rfl (ck_iadd 137 rfl dX12_walked_136 (ck_iload 139 rfl dX12_walked_137 rfl (ck_iadd 140 rfl dX12_walked_139 (have h18 := (h16.2 c13); have o2 := h18.1; have h17 := h18.2; (ck_iald 141 rfl dX12_walked_140 sh_88 (shn_88 hC) o2 _ rfl (fun (q3 : ck_i (w 88 (((61 * (a6 - 1)) + 30) + a4))) => (ck_aload_n 142 rfl 0 dX12_walked_141 rfl rfl (ck_iload_n 143 rfl 1 dX12_walked_142 rfl rfl (ck_iload_n 144 rfl 2 dX12_walked_143 rfl rfl (ck_iload 146 rfl dX12_walked_144 rfl (ck_iconst 147 rfl dX12_walked_146 rfl (ck_isub 148 rfl dX12_walked_147 (ck_iload 150 rfl dX12_walked_148 rfl (have h20 := h17; have o4 := h20.1; have h19 := h20.2; (ck_callV 153 rfl [.inl a1, .inl a2, .inl (a6 - 1), .inl a4] [.inl (w 88 (((61 * (a6 - 1)) + 30) + a4))] dX12_walked_150 cv_X12_161 sh_76 rfl rfl (Nat.le_of_ble_eq_true rfl) (And.intro hl.2.1 (And.intro hl.2.2.1 (And.intro o4 (And.intro hl.2.2.2.2.1 True.intro)))) (ck_mI h19 (fun v6 w5 q7 h8 => (ck_isub 154 rfl dX12_walked_153 (ck_nmi (fun x9 e10 => (have h22 := (h8 x9 e10); have o11 := h22.1; have h21 := h22.2; (ck_istore 156 rfl [some (.inr (.inr 76)), some (.inl a1), some (.inl a2), some (.inl a3), some (.inl a4), some (.inl a5), some (.inl a6), some (.inl x9), none] dX12_walked_154 (Nat.le_of_ble_eq_true rfl) rfl rfl o11 (ck_iconst 157 rfl dX12_walked_156 rfl (ck_istore 159 rfl [some (.inr (.inr 76)), some (.inl a1), some (.inl a2), some (.inl a3), some (.inl a4), some (.inl a5), some (.inl a6), some (.inl x9), some (.inl (-1))] dX12_walked_157 (Nat.le_of_ble_eq_true rfl) rfl rfl (show ck_i (-1) by decide) h21)))))))))))))))))))))))))))))))))))))))))))))
set_option maxRecDepth 8000 in
theorem r_X12_walked_159 {g : ch_G} {A R : Nat} (hC : ck_Cx g A R) {d : Nat} {K : Option ck_V → ck_W → Prop} {w : ck_W} {a1 a2 a3 a4 a5 a6 a7 a8 : Int} (h : (0 ≤ ((((61 * a6) + 30) + a4) + a8) ∧ ((((61 * a6) + 30) + a4) + a8) < 2000) ∧ ((¬ a8 = 0 → ck_i ((w 88 ((((61 * a6) + 30) + a4) + a8)) + (w 77 7)) ∧ ((((w 88 ((((61 * a6) + 30) + a4) + a8)) + (w 77 7)) = a7 → ck_i (a4 + a8) ∧ ((¬ a8 = 0 → ck_i (a5 + 1) ∧ (ck_At (ch_C g A R) (d + 2) mX12_walked K 228 [some (.inr (.inr 76)), some (.inl a1), some (.inl a2), some (.inl a3), some (.inl (a4 + a8)), some (.inl (a5 + 1)), some (.inl a6), none, none] [] w)) ∧ (a8 = 0 → ck_i (a5 + 0) ∧ (ck_At (ch_C g A R) (d + 2) mX12_walked K 228 [some (.inr (.inr 76)), some (.inl a1), some (.inl a2), some (.inl a3), some (.inl (a4 + a8)), some (.inl (a5 + 0)), some (.inl a6), none, none] [] w)))) ∧ (¬ ((w 88 ((((61 * a6) + 30) + a4) + a8)) + (w 77 7)) = a7 → ck_i (a8 + 1) ∧ (ck_At (ch_C g A R) (d + 2) mX12_walked K 159 [some (.inr (.inr 76)), some (.inl a1), some (.inl a2), some (.inl a3), some (.inl a4), some (.inl a5), some (.inl a6), some (.inl a7), some (.inl (a8 + 1))] [] w)))) ∧ (a8 = 0 → ck_i ((w 88 ((((61 * a6) + 30) + a4) + a8)) + 0) ∧ ((((w 88 ((((61 * a6) + 30) + a4) + a8)) + 0) = a7 → ck_i (a4 + a8) ∧ ((¬ a8 = 0 → ck_i (a5 + 1) ∧ (ck_At (ch_C g A R) (d + 2) mX12_walked K 228 [some (.inr (.inr 76)), some (.inl a1), some (.inl a2), some (.inl a3), some (.inl (a4 + a8)), some (.inl (a5 + 1)), some (.inl a6), none, none] [] w)) ∧ (a8 = 0 → ck_i (a5 + 0) ∧ (ck_At (ch_C g A R) (d + 2) mX12_walked K 228 [some (.inr (.inr 76)), some (.inl a1), some (.inl a2), some (.inl a3), some (.inl (a4 + a8)), some (.inl (a5 + 0)), some (.inl a6), none, none] [] w)))) ∧ (¬ ((w 88 ((((61 * a6) + 30) + a4) + a8)) + 0) = a7 → ck_i (a8 + 1) ∧ (ck_At (ch_C g A R) (d + 2) mX12_walked K 159 [some (.inr (.inr 76)), some (.inl a1), some (.inl a2), some (.inl a3), some (.inl a4), some (.inl a5), some (.inl a6), some (.inl a7), some (.inl (a8 + 1))] [] w)))))) : ck_At (ch_C g A R) (d + 2) mX12_walked K 159 [some (.inr (.inr 76)), some (.inl a1), some (.inl a2), some (.inl a3), some (.inl a4), some (.inl a5), some (.inl a6), some (.inl a7), some (.inl a8)] [] w :=
  ck_in (fun hl => (ck_aload_n 160 rfl 0 dX12_walked_159 rfl rfl (ck_getr 163 rfl dX12_walked_160 fl_X12_45 sh_76 rfl (ck_bipush 165 rfl dX12_walked_163 rfl (ck_iload 167 rfl dX12_walked_165 rfl (ck_imul 168 rfl dX12_walked_167 (ck_bipush 170 rfl dX12_walked_168 rfl (ck_iadd 171 rfl dX12_walked_170 (ck_iload 173 rfl dX12_walked_171 rfl (ck_iadd 174 rfl dX12_walked_173 (ck_iload 176 rfl dX12_walked_174 rfl (ck_iadd 177 rfl dX12_walked_176 (have h25 := h; have o1 := h25.1; have h24 := h25.2; (ck_iald 178 rfl dX12_walked_177 sh_88 (shn_88 hC) o1 _ rfl (fun (q2 : ck_i (w 88 ((((61 * a6) + 30) + a4) + a8))) => (ck_iload 180 rfl dX12_walked_178 rfl (ck_if_ne 183 rfl 187 dX12_walked_180 rfl hl.2.2.2.2.2.2.2.2.1 (fun c22 => (ck_aload_n 188 rfl 0 dX12_walked_187 rfl rfl (ck_getr 191 rfl dX12_walked_188 fl_X12_7 sh_76 rfl (ck_bipush 193 rfl dX12_walked_191 rfl (ck_iald 194 rfl dX12_walked_193 sh_77 (shn_77 hC) (by decide) _ rfl (fun (q3 : ck_i (w 77 7)) => (ck_iadd 195 rfl dX12_walked_194 (ck_iload 197 rfl dX12_walked_195 rfl (have h27 := (h24.1 c22); have o4 := h27.1; have h26 := h27.2; (ck_icmp_eq 200 rfl 206 dX12_walked_197 rfl o4 hl.2.2.2.2.2.2.2.1 (fun c11 => (ck_iload 208 rfl dX12_walked_206 rfl (ck_iload 210 rfl dX12_walked_208 rfl (ck_iadd 211 rfl dX12_walked_210 (have h29 := (h26.1 c11); have o5 := h29.1; have h28 := h29.2; (ck_istore 213 rfl [some (.inr (.inr 76)), some (.inl a1), some (.inl a2), some (.inl a3), some (.inl (a4 + a8)), some (.inl a5), some (.inl a6), some (.inl a7), some (.inl a8)] dX12_walked_211 (Nat.le_of_ble_eq_true rfl) rfl rfl o5 (ck_iload 215 rfl dX12_walked_213 rfl (ck_iload 217 rfl dX12_walked_215 rfl (ck_if_ne 220 rfl 224 dX12_walked_217 rfl hl.2.2.2.2.2.2.2.2.1 (fun c8 => (ck_iconst 225 rfl dX12_walked_224 rfl (ck_iadd 226 rfl dX12_walked_225 (have h31 := (h28.1 c8); have o6 := h31.1; have h30 := h31.2; (ck_istore 228 rfl [some (.inr (.inr 76)), some (.inl a1), some (.inl a2), some (.inl a3), some (.inl (a4 + a8)), some (.inl (a5 + 1)), some (.inl a6), some (.inl a7), some (.inl a8)] dX12_walked_226 (Nat.le_of_ble_eq_true rfl) rfl rfl o6 (ck_drop [some (.inr (.inr 76)), some (.inl a1), some (.inl a2), some (.inl a3), some (.inl (a4 + a8)), some (.inl (a5 + 1)), some (.inl a6), none, none] (And.intro rfl (And.intro rfl (And.intro rfl (And.intro rfl (And.intro rfl (And.intro rfl (And.intro rfl True.intro))))))) h30)))))) (fun c9 => (ck_iconst 221 rfl dX12_walked_220 rfl (ck_goto 225 dX12_walked_221 rfl (ck_iadd 226 rfl dX12_walked_225 (have h33 := (h28.2 c9); have o7 := h33.1; have h32 := h33.2; (ck_istore 228 rfl [some (.inr (.inr 76)), some (.inl a1), some (.inl a2), some (.inl a3), some (.inl (a4 + a8)), some (.inl (a5 + 0)), some (.inl a6), some (.inl a7), some (.inl a8)] dX12_walked_226 (Nat.le_of_ble_eq_true rfl) rfl rfl o7 (ck_drop [some (.inr (.inr 76)), some (.inl a1), some (.inl a2), some (.inl a3), some (.inl (a4 + a8)), some (.inl (a5 + 0)), some (.inl a6), none, none] (And.intro rfl (And.intro rfl (And.intro rfl (And.intro rfl (And.intro rfl (And.intro rfl (And.intro rfl True.intro))))))) h32)))))))))))))))) (fun c12 => (have h35 := (h26.2 c12); have o10 := h35.1; have h34 := h35.2; (ck_iinc 203 rfl [some (.inr (.inr 76)), some (.inl a1), some (.inl a2), some (.inl a3), some (.inl a4), some (.inl a5), some (.inl a6), some (.inl a7), some (.inl (a8 + 1))] dX12_walked_200 rfl (Nat.le_of_ble_eq_true rfl) rfl rfl o10 (ck_goto 159 dX12_walked_203 rfl h34)))))))))))))) (fun c23 => (ck_iconst 184 rfl dX12_walked_183 rfl (ck_goto 194 dX12_walked_184 rfl (ck_iadd 195 rfl dX12_walked_194 (ck_iload 197 rfl dX12_walked_195 rfl (have h37 := (h24.2 c23); have o13 := h37.1; have h36 := h37.2; (ck_icmp_eq 200 rfl 206 dX12_walked_197 rfl o13 hl.2.2.2.2.2.2.2.1 (fun c20 => (ck_iload 208 rfl dX12_walked_206 rfl (ck_iload 210 rfl dX12_walked_208 rfl (ck_iadd 211 rfl dX12_walked_210 (have h39 := (h36.1 c20); have o14 := h39.1; have h38 := h39.2; (ck_istore 213 rfl [some (.inr (.inr 76)), some (.inl a1), some (.inl a2), some (.inl a3), some (.inl (a4 + a8)), some (.inl a5), some (.inl a6), some (.inl a7), some (.inl a8)] dX12_walked_211 (Nat.le_of_ble_eq_true rfl) rfl rfl o14 (ck_iload 215 rfl dX12_walked_213 rfl (ck_iload 217 rfl dX12_walked_215 rfl (ck_if_ne 220 rfl 224 dX12_walked_217 rfl hl.2.2.2.2.2.2.2.2.1 (fun c17 => (ck_iconst 225 rfl dX12_walked_224 rfl (ck_iadd 226 rfl dX12_walked_225 (have h41 := (h38.1 c17); have o15 := h41.1; have h40 := h41.2; (ck_istore 228 rfl [some (.inr (.inr 76)), some (.inl a1), some (.inl a2), some (.inl a3), some (.inl (a4 + a8)), some (.inl (a5 + 1)), some (.inl a6), some (.inl a7), some (.inl a8)] dX12_walked_226 (Nat.le_of_ble_eq_true rfl) rfl rfl o15 (ck_drop [some (.inr (.inr 76)), some (.inl a1), some (.inl a2), some (.inl a3), some (.inl (a4 + a8)), some (.inl (a5 + 1)), some (.inl a6), none, none] (And.intro rfl (And.intro rfl (And.intro rfl (And.intro rfl (And.intro rfl (And.intro rfl (And.intro rfl True.intro))))))) h40)))))) (fun c18 => (ck_iconst 221 rfl dX12_walked_220 rfl (ck_goto 225 dX12_walked_221 rfl (ck_iadd 226 rfl dX12_walked_225 (have h43 := (h38.2 c18); have o16 := h43.1; have h42 := h43.2; (ck_istore 228 rfl [some (.inr (.inr 76)), some (.inl a1), some (.inl a2), some (.inl a3), some (.inl (a4 + a8)), some (.inl (a5 + 0)), some (.inl a6), some (.inl a7), some (.inl a8)] dX12_walked_226 (Nat.le_of_ble_eq_true rfl) rfl rfl o16 (ck_drop [some (.inr (.inr 76)), some (.inl a1), some (.inl a2), some (.inl a3), some (.inl (a4 + a8)), some (.inl (a5 + 0)), some (.inl a6), none, none] (And.intro rfl (And.intro rfl (And.intro rfl (And.intro rfl (And.intro rfl (And.intro rfl (And.intro rfl True.intro))))))) h42)))))))))))))))) (fun c21 => (have h45 := (h36.2 c21); have o19 := h45.1; have h44 := h45.2; (ck_iinc 203 rfl [some (.inr (.inr 76)), some (.inl a1), some (.inl a2), some (.inl a3), some (.inl a4), some (.inl a5), some (.inl a6), some (.inl a7), some (.inl (a8 + 1))] dX12_walked_200 rfl (Nat.le_of_ble_eq_true rfl) rfl rfl o19 (ck_goto 159 dX12_walked_203 rfl h44))))))))))))))))))))))))))))
set_option maxRecDepth 8000 in
theorem r_X12_walked_228 {g : ch_G} {A R : Nat} (hC : ck_Cx g A R) {d : Nat} {K : Option ck_V → ck_W → Prop} {w : ck_W} {a1 a2 a3 a4 a5 a6 : Int} (h : ck_i (a3 - 100) ∧ (((a3 - 100) = a6 → ∀ x3, x3 = (a2 + a6) + ((w 76 0) * a4) → ck_i x3 ∧ ((0 ≤ 10 + a1 ∧ 10 + a1 < 1430) ∧ ((ck_i ((w 77 (10 + a1)) * (w 76 0))) ∧ (ck_i (((w 77 (10 + a1)) * (w 76 0)) - 1) ∧ ((0 ≤ x3 ∧ x3 ≤ (((w 77 (10 + a1)) * (w 76 0)) - 1) → K (some (.inl x3)) w) ∧ (¬ (0 ≤ x3 ∧ x3 ≤ (((w 77 (10 + a1)) * (w 76 0)) - 1)) → K (some (.inl (-1000))) w)))))) ∧ (¬ (a3 - 100) = a6 → ck_i (a6 + 1) ∧ (ck_At (ch_C g A R) (d + 2) mX12_walked K 107 [some (.inr (.inr 76)), some (.inl a1), some (.inl a2), some (.inl a3), some (.inl a4), some (.inl a5), some (.inl (a6 + 1)), none, none] [] w)))) : ck_At (ch_C g A R) (d + 2) mX12_walked K 228 [some (.inr (.inr 76)), some (.inl a1), some (.inl a2), some (.inl a3), some (.inl a4), some (.inl a5), some (.inl a6), none, none] [] w :=
  ck_in (fun hl => (ck_iload_n 229 rfl 3 dX12_walked_228 rfl rfl (ck_bipush 231 rfl dX12_walked_229 rfl (ck_isub 232 rfl dX12_walked_231 (ck_iload 234 rfl dX12_walked_232 rfl (have h17 := h; have o1 := h17.1; have h16 := h17.2; (ck_icmp_eq 237 rfl 240 dX12_walked_234 rfl o1 hl.2.2.2.2.2.2.1 (fun c14 => (ck_iload_n 241 rfl 2 dX12_walked_240 rfl rfl (ck_iload 243 rfl dX12_walked_241 rfl (ck_iadd 244 rfl dX12_walked_243 (ck_aload_n 245 rfl 0 dX12_walked_244 rfl rfl (ck_geti 248 rfl 0 dX12_walked_245 fl_X12_80 sh_76 rfl rfl _ rfl (fun (q2 : ck_i (w 76 0)) => (ck_iload 250 rfl dX12_walked_248 rfl (ck_imul 251 rfl dX12_walked_250 (ck_iadd 252 rfl dX12_walked_251 (ck_nmi (fun x3 e4 => (have h19 := ((h16.1 c14) x3 e4); have o5 := h19.1; have h18 := h19.2; (ck_istore 254 rfl [some (.inr (.inr 76)), some (.inl a1), some (.inl a2), some (.inl a3), some (.inl a4), some (.inl a5), some (.inl a6), some (.inl x3), none] dX12_walked_252 (Nat.le_of_ble_eq_true rfl) rfl rfl o5 (ck_iload 256 rfl dX12_walked_254 rfl (ck_iconst 257 rfl dX12_walked_256 rfl (ck_aload_n 258 rfl 0 dX12_walked_257 rfl rfl (ck_iload_n 259 rfl 1 dX12_walked_258 rfl rfl (have h21 := h18; have o6 := h21.1; have h20 := h21.2; (have h23 := h20; have o7 := h23.1; have h22 := h23.2; (ck_callV 262 rfl [.inl a1] [.inl 0, .inl x3] dX12_walked_259 cv_X12_131 sh_76 rfl rfl (Nat.le_of_ble_eq_true rfl) (And.intro hl.2.1 True.intro) (p_X12_places hC o6 o7 (fun q8 => (ck_iconst 263 rfl dX12_walked_262 rfl (ck_isub 264 rfl dX12_walked_263 (have h25 := h22; have o9 := h25.1; have h24 := h25.2; (have h12 := h24; ck_callS 267 rfl [.inl x3, .inl 0, .inl (((w 77 (10 + a1)) * (w 76 0)) - 1)] [] dX12_walked_264 cs_X12_93 rfl rfl (Nat.le_of_ble_eq_true rfl) (And.intro o5 (And.intro (show ck_i 0 by decide) (And.intro o9 True.intro))) (p_X12_isIn hC (fun c10 _ => (ck_if_eq 270 rfl 275 dX12_walked_267 rfl (by decide) (fun q => absurd q (by decide)) (fun _ => (ck_iload 272 rfl dX12_walked_270 rfl (ck_goto 278 dX12_walked_272 rfl (ck_iret dX12_walked_278 rfl o5 (h12.1 c10))))))) (fun c11 _ => (ck_if_eq 270 rfl 275 dX12_walked_267 rfl (by decide) (fun _ => (ck_sipush 278 rfl dX12_walked_275 rfl (ck_iret dX12_walked_278 rfl (show ck_i (-1000) by decide) (h12.2 c11)))) (fun q => absurd q (by decide)))))))))))))))))))))))))))))))) (fun c15 => (ck_goto 279 dX12_walked_237 rfl (have h27 := (h16.2 c15); have o13 := h27.1; have h26 := h27.2; (ck_iinc 282 rfl [some (.inr (.inr 76)), some (.inl a1), some (.inl a2), some (.inl a3), some (.inl a4), some (.inl a5), some (.inl (a6 + 1)), none, none] dX12_walked_279 rfl (Nat.le_of_ble_eq_true rfl) rfl rfl o13 (ck_goto 107 dX12_walked_282 rfl h26))))))))))))
theorem M_walked {g : ch_G} {A R : Nat} (hC : ck_Cx g A R) {d : Nat} {K : Option ck_V → ck_W → Prop} {w : ck_W} {a1 a2 a3 : Int} (hI : rm_I A R w) (h : ∀ v w', rm_q w w' → K (some (.inl v)) w') : ck_Ex (ch_C g A R) (d + 6) mX12_walked [.inr (.inr 76), .inl a1, .inl a2, .inl a3] w K := by
  have c := rm_cp hC hI
  have f0 := rm_c0 hI.2.2.2.1
  have main : (0 ≤ a1 ∧ a1 ≤ 5) → (0 ≤ a2 ∧ a2 ≤ 23) → ¬ w 77 2 = 0 → (0 ≤ a3 ∧ a3 ≤ 1) ∨ (100 ≤ a3 ∧ a3 ≤ 130) → ck_At (ch_C g A R) (d + 6) mX12_walked K 62 [some (.inr (.inr 76)), some (.inl a1), some (.inl a2), some (.inl a3), none, none, none, none, none] [] w := by
    intro q1 q2 q0 qa
    refine r_X12_walked_62 hC (S_X12_wind hC hI q1 (fun w1 i1 i2 i3 i4 => ⟨rfl, ?_⟩))
    have qq := rm_q_wf i1
    refine ⟨by omega, fun z => ?_, fun _ => h _ _ qq⟩
    have I1 := rm_I_q hI qq
    have sp : rm_sp R a1 w1 := fun p p0 p1 => i4.2.2 z p p0 (by rw [qq.1, qq.2.1, c.1] at p1; exact p1)
    refine S_X12_explain hC I1 q1 q2 sp (fun w2 j1 j2 => ⟨rfl, ?_⟩)
    have q3 : rm_q w w2 := rm_q_tr qq ⟨j1 76 (by decide), j1 77 (by decide), j1 78 (by decide), j1 79 (by decide), fun k hk => j1 k (by omega)⟩
    have I2 := rm_I_q hI q3
    have sp2 : rm_sp R a1 w2 := by unfold rm_sp; rw [j1 76 (by decide), j1 77 (by decide), j1 85 (by decide)]; exact sp
    have ce : ∀ t s, rm_ct w2 a1 a2 t s = rm_ct w1 a1 a2 t s := fun t s => rm_ct_c (j1 76 (by decide)) (j1 77 (by decide)) (j1 85 (by decide))
    have e77 := q3.2.1
    have e76 := q3.1
    rw [qq.2.1] at j2
    have pb := rm_pb hC hI q1.1 q1.2
    refine ⟨fun _ => ?_, fun _ => h _ _ q3⟩
    -- behind a step: the place told, or the next
    have l228 : (∀ a4 a5 a6, 0 ≤ a6 → a6 < w 77 2 → -a6 ≤ a4 → a4 ≤ a6 → (0 ≤ a5 ∧ a5 ≤ 100 * (a6 + 1)) → ck_At (ch_C g A R) (d + 6) mX12_walked K 107 [some (.inr (.inr 76)), some (.inl a1), some (.inl a2), some (.inl a3), some (.inl a4), some (.inl a5), some (.inl (a6 + 1)), none, none] [] w2) → ∀ a4 a5 a6, 0 ≤ a6 → a6 < w 77 2 → -a6 ≤ a4 → a4 ≤ a6 → (0 ≤ a5 ∧ a5 ≤ 100 * (a6 + 1)) → ck_At (ch_C g A R) (d + 6) mX12_walked K 228 [some (.inr (.inr 76)), some (.inl a1), some (.inl a2), some (.inl a3), some (.inl a4), some (.inl a5), some (.inl a6), none, none] [] w2 := by
      intro nx a4 a5 a6 b1 b2 b3 b4 b5
      have mb := rm_mb (a := w 76 0) (s := a4) (by omega) (by omega)
      refine r_X12_walked_228 hC ?_
      rw [e76, e77]
      refine ⟨by constructor <;> omega, fun y => fun x ex => ⟨by constructor <;> omega, by omega, by constructor <;> omega, by constructor <;> omega, fun _ => h _ _ q3, fun _ => h _ _ q3⟩, fun _ => ⟨by constructor <;> omega, nx a4 a5 a6 b1 b2 b3 b4 b5⟩⟩
    have l : ∀ (m : Nat) (a4 a5 a6 : Int), w 77 2 - a6 = m → 1 ≤ a6 → (-(a6 - 1) ≤ a4 ∧ a4 ≤ a6 - 1) → (0 ≤ a5 ∧ a5 ≤ 100 * a6) → ck_At (ch_C g A R) (d + 6) mX12_walked K 107 [some (.inr (.inr 76)), some (.inl a1), some (.inl a2), some (.inl a3), some (.inl a4), some (.inl a5), some (.inl a6), none, none] [] w2 := by
      intro m
      induction m with
      | zero =>
        intro a4 a5 a6 b1 b2 b3 b4
        exact r_X12_walked_107 hC ⟨fun _ => h _ _ q3, fun y => absurd (by rw [e77]; omega) y⟩
      | succ m ih =>
        intro a4 a5 a6 b1 b2 b3 b4
        have nx : ∀ a4 a5, -a6 ≤ a4 → a4 ≤ a6 → (0 ≤ a5 ∧ a5 ≤ 100 * (a6 + 1)) → ck_At (ch_C g A R) (d + 6) mX12_walked K 228 [some (.inr (.inr 76)), some (.inl a1), some (.inl a2), some (.inl a3), some (.inl a4), some (.inl a5), some (.inl a6), none, none] [] w2 := fun a4 a5 x1 x2 x3 => by
          have mb := rm_mb (a := w 76 0) (s := a4) (by omega) (by omega)
          refine r_X12_walked_228 hC ?_
          rw [e76, e77]
          exact ⟨by constructor <;> omega, fun y => fun x ex => ⟨by constructor <;> omega, by omega, by constructor <;> omega, by constructor <;> omega, fun _ => h _ _ q3, fun _ => h _ _ q3⟩, fun _ => ⟨by constructor <;> omega, ih a4 a5 (a6 + 1) (by omega) (by omega) (by omega) (by omega)⟩⟩
        refine r_X12_walked_107 hC ⟨fun y => absurd y (by rw [e77]; omega), fun _ => ⟨fun y => absurd y (by omega), fun _ => ⟨by omega, by constructor <;> omega, ?_⟩⟩⟩
        refine S_X12_stepCost hC I2 q1 q2 (by omega) (by omega) sp2 ⟨_, rfl, fun _ => fun x ex => ?_⟩
        rw [ce] at ex
        have o := j2 (a6 - 1) a4 (by omega) (by omega) (by omega) (by omega)
        have o3 := o.2.2 (by omega)
        rw [show a6 - 1 + 1 = a6 by omega, qq.2.1] at o3
        have xe : x = min (min (w2 88 (61 * a6 + 30 + a4)) (w2 88 (61 * a6 + 30 + a4 + -1) + w 77 7)) (w2 88 (61 * a6 + 30 + a4 + 1) + w 77 7) := by omega
        have c0 := (j2 a6 a4 (by omega) (by omega) (by omega) (by omega)).1
        have c1 := (j2 a6 (a4 - 1) (by omega) (by omega) (by omega) (by omega)).1
        have c2 := (j2 a6 (a4 + 1) (by omega) (by omega) (by omega) (by omega)).1
        rw [show 61 * a6 + 30 + (a4 - 1) = 61 * a6 + 30 + a4 + -1 by omega] at c1
        rw [show 61 * a6 + 30 + (a4 + 1) = 61 * a6 + 30 + a4 + 1 by omega] at c2
        refine ⟨by constructor <;> omega, ?_⟩
        -- from the least change on
        have t2 : ¬ w2 88 (61 * a6 + 30 + a4 + -1) + w 77 7 = x → ¬ w2 88 (61 * a6 + 30 + a4) = x → ck_At (ch_C g A R) (d + 6) mX12_walked K 159 [some (.inr (.inr 76)), some (.inl a1), some (.inl a2), some (.inl a3), some (.inl a4), some (.inl a5), some (.inl a6), some (.inl x), some (.inl (0 + 1))] [] w2 := fun n1 n2 => by
          refine r_X12_walked_159 hC ?_
          rw [e77, show 61 * a6 + 30 + a4 + (0 + 1) = 61 * a6 + 30 + a4 + 1 by omega]
          exact ⟨by omega, fun _ => ⟨by constructor <;> omega, fun _ => ⟨by constructor <;> omega, fun _ => ⟨by constructor <;> omega, nx _ _ (by omega) (by omega) (by omega)⟩, fun y => absurd y (by decide)⟩, fun y => absurd (by omega) y⟩, fun y => absurd y (by decide)⟩
        have t1 : ¬ w2 88 (61 * a6 + 30 + a4 + -1) + w 77 7 = x → ck_At (ch_C g A R) (d + 6) mX12_walked K 159 [some (.inr (.inr 76)), some (.inl a1), some (.inl a2), some (.inl a3), some (.inl a4), some (.inl a5), some (.inl a6), some (.inl x), some (.inl (-1 + 1))] [] w2 := fun n1 => by
          refine r_X12_walked_159 hC ?_
          rw [e77, show 61 * a6 + 30 + a4 + (-1 + 1) = 61 * a6 + 30 + a4 by omega]
          exact ⟨by omega, fun y => absurd (by decide) y, fun _ => ⟨by constructor <;> omega, fun _ => ⟨by constructor <;> omega, fun y => absurd (by decide) y, fun _ => ⟨by constructor <;> omega, nx _ _ (by omega) (by omega) (by omega)⟩⟩, fun y => ⟨by decide, t2 n1 (by omega)⟩⟩⟩
        refine r_X12_walked_159 hC ?_
        rw [e77]
        exact ⟨by omega, fun _ => ⟨by constructor <;> omega, fun _ => ⟨by constructor <;> omega, fun _ => ⟨by constructor <;> omega, nx _ _ (by omega) (by omega) (by omega)⟩, fun y => absurd y (by decide)⟩, fun y => ⟨by decide, t1 y⟩⟩, fun y => absurd y (by decide)⟩
    refine r_X12_walked_107 hC ⟨fun y => absurd y (by rw [e77]; omega), fun _ => ⟨fun _ => ?_, fun y => absurd (by decide) y⟩⟩
    exact l228 (fun a4 a5 a6 b1 b2 b3 b4 b5 => l (w 77 2 - (a6 + 1)).toNat a4 a5 (a6 + 1) (by omega) (by omega) (by omega) (by omega)) 0 0 0 (by omega) (by omega) (by omega) (by omega) (by omega)
  refine e_X12_walked hC ⟨fun q1 => ?_, fun _ => h _ _ rm_q_rf⟩
  have pb := rm_pb hC hI q1.1 q1.2
  exact ⟨by omega, by constructor <;> omega, by constructor <;> omega, fun q2 => ⟨fun _ => h _ _ rm_q_rf, fun q3 => ⟨fun q4 => main q1 (by omega) q3 (Or.inl q4), fun _ => ⟨by constructor <;> omega, fun q4 => main q1 (by omega) q3 (by omega), fun _ => h _ _ rm_q_rf⟩⟩⟩, fun _ => h _ _ rm_q_rf⟩
