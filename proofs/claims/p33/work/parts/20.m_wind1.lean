/-! ===== the reference: spirals, a state at a time ===== -/
/-- the radius a turn ahead, by the changes of a turn -/
def rm_old : Nat → Int → Int → Int
  | 0, r, _ => r
  | n + 1, r, c => rm_old n (r - (c.tmod 3 - 1)) (c.tdiv 3)
theorem rm_old_b : ∀ (n : Nat) (r c : Int), 0 ≤ c → r - n ≤ rm_old n r c ∧ rm_old n r c ≤ r + n
  | 0, r, c, _ => by simp [rm_old]
  | n + 1, r, c, h => by
    have t1 : c.tmod 3 = c % 3 := Int.tmod_eq_emod_of_nonneg h
    have t2 : c.tdiv 3 = c / 3 := Int.tdiv_eq_ediv_of_nonneg h
    have := rm_old_b n (r - (c.tmod 3 - 1)) (c.tdiv 3) (by omega)
    simp only [rm_old]
    omega
theorem dX12_oldest_0 : decode cX12_oldest 0 = .ok (.iload_n 1, 1) := dk_27 (by decide +kernel)
theorem dX12_oldest_1 : decode cX12_oldest 1 = .ok (.istore_n 3, 1) := dk_62 (by decide +kernel)
theorem dX12_oldest_2 : decode cX12_oldest 2 = .ok (.iload_n 2, 1) := dk_28 (by decide +kernel)
theorem dX12_oldest_3 : decode cX12_oldest 3 = .ok (.istore 4, 2) := dk_54 (by decide +kernel)
theorem dX12_oldest_5 : decode cX12_oldest 5 = .ok (.iconst 1, 1) := dk_4 (by decide +kernel)
theorem dX12_oldest_6 : decode cX12_oldest 6 = .ok (.istore 5, 2) := dk_54 (by decide +kernel)
theorem dX12_oldest_8 : decode cX12_oldest 8 = .ok (.iload 5, 2) := dk_21 (by decide +kernel)
theorem dX12_oldest_10 : decode cX12_oldest 10 = .ok (.aload_n 0, 1) := dk_42 (by decide +kernel)
theorem dX12_oldest_11 : decode cX12_oldest 11 = .ok (.getfield 80, 3) := dk_180 0 80 (by decide +kernel)
theorem dX12_oldest_14 : decode cX12_oldest 14 = .ok (.if_icmp .ge 24, 3) := dk_162 0 24 (by decide +kernel)
theorem dX12_oldest_17 : decode cX12_oldest 17 = .ok (.iload_n 3, 1) := dk_29 (by decide +kernel)
theorem dX12_oldest_18 : decode cX12_oldest 18 = .ok (.iload 4, 2) := dk_21 (by decide +kernel)
theorem dX12_oldest_20 : decode cX12_oldest 20 = .ok (.iconst 3, 1) := dk_6 (by decide +kernel)
theorem dX12_oldest_21 : decode cX12_oldest 21 = .ok (.irem, 1) := dk_112 (by decide +kernel)
theorem dX12_oldest_22 : decode cX12_oldest 22 = .ok (.iconst 1, 1) := dk_4 (by decide +kernel)
theorem dX12_oldest_23 : decode cX12_oldest 23 = .ok (.isub, 1) := dk_100 (by decide +kernel)
theorem dX12_oldest_24 : decode cX12_oldest 24 = .ok (.isub, 1) := dk_100 (by decide +kernel)
theorem dX12_oldest_25 : decode cX12_oldest 25 = .ok (.istore_n 3, 1) := dk_62 (by decide +kernel)
theorem dX12_oldest_26 : decode cX12_oldest 26 = .ok (.iload 4, 2) := dk_21 (by decide +kernel)
theorem dX12_oldest_28 : decode cX12_oldest 28 = .ok (.iconst 3, 1) := dk_6 (by decide +kernel)
theorem dX12_oldest_29 : decode cX12_oldest 29 = .ok (.idiv, 1) := dk_108 (by decide +kernel)
theorem dX12_oldest_30 : decode cX12_oldest 30 = .ok (.istore 4, 2) := dk_54 (by decide +kernel)
theorem dX12_oldest_32 : decode cX12_oldest 32 = .ok (.iinc 5 1, 3) := dk_132 1 (by decide +kernel)
theorem dX12_oldest_35 : decode cX12_oldest 35 = .ok (.goto (-27), 3) := dk_167 255 229 (by decide +kernel)
theorem dX12_oldest_38 : decode cX12_oldest 38 = .ok (.iload_n 3, 1) := dk_29 (by decide +kernel)
theorem dX12_oldest_39 : decode cX12_oldest 39 = .ok (.ireturn, 1) := dk_172 (by decide +kernel)
set_option maxRecDepth 8000 in
theorem e_X12_oldest {g : ch_G} {A R : Nat} (hC : ck_Cx g A R) {d : Nat} {K : Option ck_V → ck_W → Prop} {w : ck_W} {a1 a2 : Int} (h : ck_At (ch_C g A R) d mX12_oldest K 8 [some (.inr (.inr 76)), none, none, some (.inl a1), some (.inl a2), some (.inl 1)] [] w) : ck_Ex (ch_C g A R) d mX12_oldest [.inr (.inr 76), .inl a1, .inl a2] w K :=
  ck_entry hC.1 [some (.inr (.inr 76)), some (.inl a1), some (.inl a2), none, none, none] (by decide) (Nat.le_of_ble_eq_true rfl) rfl (fun q => q) (ck_in (fun hl => (ck_iload_n 1 rfl 1 dX12_oldest_0 rfl rfl (ck_istore_n 2 rfl 3 [some (.inr (.inr 76)), some (.inl a1), some (.inl a2), some (.inl a1), none, none] dX12_oldest_1 rfl (Nat.le_of_ble_eq_true rfl) rfl rfl hl.2.1 (ck_iload_n 3 rfl 2 dX12_oldest_2 rfl rfl (ck_istore 5 rfl [some (.inr (.inr 76)), some (.inl a1), some (.inl a2), some (.inl a1), some (.inl a2), none] dX12_oldest_3 (Nat.le_of_ble_eq_true rfl) rfl rfl hl.2.2.1 (ck_iconst 6 rfl dX12_oldest_5 rfl (ck_istore 8 rfl [some (.inr (.inr 76)), some (.inl a1), some (.inl a2), some (.inl a1), some (.inl a2), some (.inl 1)] dX12_oldest_6 (Nat.le_of_ble_eq_true rfl) rfl rfl (show ck_i 1 by decide) (ck_drop [some (.inr (.inr 76)), none, none, some (.inl a1), some (.inl a2), some (.inl 1)] (And.intro rfl (And.intro rfl (And.intro rfl (And.intro rfl True.intro)))) h)))))))))
set_option maxRecDepth 8000 in
theorem r_X12_oldest_8 {g : ch_G} {A R : Nat} (hC : ck_Cx g A R) {d : Nat} {K : Option ck_V → ck_W → Prop} {w : ck_W} {a3 a4 a5 : Int} (h : ((w 76 0) ≤ a5 → K (some (.inl a3)) w) ∧ (¬ (w 76 0) ≤ a5 → ck_i (a3 - ((a4.tmod 3) - 1)) ∧ (ck_i (a4.tdiv 3) ∧ (ck_i (a5 + 1) ∧ (ck_At (ch_C g A R) d mX12_oldest K 8 [some (.inr (.inr 76)), none, none, some (.inl (a3 - ((a4.tmod 3) - 1))), some (.inl (a4.tdiv 3)), some (.inl (a5 + 1))] [] w))))) : ck_At (ch_C g A R) d mX12_oldest K 8 [some (.inr (.inr 76)), none, none, some (.inl a3), some (.inl a4), some (.inl a5)] [] w :=
  ck_in (fun hl => (ck_iload 10 rfl dX12_oldest_8 rfl (ck_aload_n 11 rfl 0 dX12_oldest_10 rfl rfl (ck_geti 14 rfl 0 dX12_oldest_11 fl_X12_80 sh_76 rfl rfl _ rfl (fun (q1 : ck_i (w 76 0)) => (ck_icmp_ge 17 rfl 38 dX12_oldest_14 rfl hl.2.2.2.1 q1 (fun c5 => (ck_iload_n 39 rfl 3 dX12_oldest_38 rfl rfl (ck_iret dX12_oldest_39 rfl hl.2.1 (h.1 c5)))) (fun c6 => (ck_iload_n 18 rfl 3 dX12_oldest_17 rfl rfl (ck_iload 20 rfl dX12_oldest_18 rfl (ck_iconst 21 rfl dX12_oldest_20 rfl (ck_irem 22 rfl dX12_oldest_21 hl.2.2.1 (show ck_i 3 by decide) (by decide) (ck_iconst 23 rfl dX12_oldest_22 rfl (ck_isub 24 rfl dX12_oldest_23 (ck_isub 25 rfl dX12_oldest_24 (have h8 := (h.2 c6); have o2 := h8.1; have h7 := h8.2; (ck_istore_n 26 rfl 3 [some (.inr (.inr 76)), none, none, some (.inl (a3 - ((a4.tmod 3) - 1))), some (.inl a4), some (.inl a5)] dX12_oldest_25 rfl (Nat.le_of_ble_eq_true rfl) rfl rfl o2 (ck_iload 28 rfl dX12_oldest_26 rfl (ck_iconst 29 rfl dX12_oldest_28 rfl (ck_idiv 30 rfl dX12_oldest_29 hl.2.2.1 (show ck_i 3 by decide) (by decide) (have h10 := h7; have o3 := h10.1; have h9 := h10.2; (ck_istore 32 rfl [some (.inr (.inr 76)), none, none, some (.inl (a3 - ((a4.tmod 3) - 1))), some (.inl (a4.tdiv 3)), some (.inl a5)] dX12_oldest_30 (Nat.le_of_ble_eq_true rfl) rfl rfl o3 (have h12 := h9; have o4 := h12.1; have h11 := h12.2; (ck_iinc 35 rfl [some (.inr (.inr 76)), none, none, some (.inl (a3 - ((a4.tmod 3) - 1))), some (.inl (a4.tdiv 3)), some (.inl (a5 + 1))] dX12_oldest_32 rfl (Nat.le_of_ble_eq_true rfl) rfl rfl o4 (ck_goto 8 dX12_oldest_35 rfl h11))))))))))))))))))))))))
theorem L_X12_oldest {g : ch_G} {A R : Nat} (hC : ck_Cx g A R) {d : Nat} {K : Option ck_V → ck_W → Prop} {w : ck_W} {a3 a4 a5 : Int} (n : Nat) (hn : w 76 0 - a5 = n) (hA : w 76 0 ≤ 6) (h5 : 1 ≤ a5) (h3 : -2000 ≤ a3 - 10 * n ∧ a3 + 10 * n ≤ 2000) (h4 : 0 ≤ a4 ∧ a4 ≤ 1000) (h : K (some (.inl (rm_old n a3 a4))) w) : ck_At (ch_C g A R) d mX12_oldest K 8 [some (.inr (.inr 76)), none, none, some (.inl a3), some (.inl a4), some (.inl a5)] [] w := by
  induction n generalizing a3 a4 a5 with
  | zero => exact r_X12_oldest_8 hC ⟨fun _ => h, fun q => absurd (by omega) q⟩
  | succ n ih =>
    have t1 : a4.tmod 3 = a4 % 3 := Int.tmod_eq_emod_of_nonneg h4.1
    have t2 : a4.tdiv 3 = a4 / 3 := Int.tdiv_eq_ediv_of_nonneg h4.1
    refine r_X12_oldest_8 hC ⟨fun q => absurd q (by omega), fun _ => ⟨by constructor <;> omega, by constructor <;> omega, by constructor <;> omega, ih (by omega) (by omega) (by omega) (by omega) h⟩⟩
theorem p_X12_oldest {g : ch_G} {A R : Nat} (hC : ck_Cx g A R) {d : Nat} {K : Option ck_V → ck_W → Prop} {w : ck_W} {a1 a2 : Int} (o0 : (1 ≤ w 76 0 ∧ w 76 0 ≤ 6) ∧ (-1000 ≤ a1 ∧ a1 ≤ 1000) ∧ (0 ≤ a2 ∧ a2 ≤ 1000)) (h : K (some (.inl (rm_old (w 76 0 - 1).toNat a1 a2))) w) : ck_Ex (ch_C g A R) d mX12_oldest [.inr (.inr 76), .inl a1, .inl a2] w K :=
  e_X12_oldest hC (L_X12_oldest hC (w 76 0 - 1).toNat (by omega) (by omega) (by omega) (by omega) o0.2.2 h)
/-- whether a spiral may go on to a radius: angles, radii, the pin of the next place, place, radius, code, to -/
abbrev rm_go (a r pn p q c t : Int) : Prop := (0 ≤ t ∧ t ≤ r - 1) ∧ (pn < 0 ∨ pn = t) ∧ (p + 1 < a ∨ rm_old (a - 1).toNat q c < t)
theorem dX12_mayGo_0 : decode cX12_mayGo 0 = .ok (.aload_n 0, 1) := dk_42 (by decide +kernel)
theorem dX12_mayGo_1 : decode cX12_mayGo 1 = .ok (.iload 4, 2) := dk_21 (by decide +kernel)
theorem dX12_mayGo_3 : decode cX12_mayGo 3 = .ok (.invokevirtual 101, 3) := dk_182 0 101 (by decide +kernel)
theorem dX12_mayGo_6 : decode cX12_mayGo 6 = .ok (.ifCond .eq 27, 3) := dk_153 0 27 (by decide +kernel)
theorem dX12_mayGo_9 : decode cX12_mayGo 9 = .ok (.aload_n 0, 1) := dk_42 (by decide +kernel)
theorem dX12_mayGo_10 : decode cX12_mayGo 10 = .ok (.getfield 42, 3) := dk_180 0 42 (by decide +kernel)
theorem dX12_mayGo_13 : decode cX12_mayGo 13 = .ok (.iload_n 1, 1) := dk_27 (by decide +kernel)
theorem dX12_mayGo_14 : decode cX12_mayGo 14 = .ok (.iconst 1, 1) := dk_4 (by decide +kernel)
theorem dX12_mayGo_15 : decode cX12_mayGo 15 = .ok (.iadd, 1) := dk_96 (by decide +kernel)
theorem dX12_mayGo_16 : decode cX12_mayGo 16 = .ok (.iaload, 1) := dk_46 (by decide +kernel)
theorem dX12_mayGo_17 : decode cX12_mayGo 17 = .ok (.ifCond .lt 18, 3) := dk_155 0 18 (by decide +kernel)
theorem dX12_mayGo_20 : decode cX12_mayGo 20 = .ok (.aload_n 0, 1) := dk_42 (by decide +kernel)
theorem dX12_mayGo_21 : decode cX12_mayGo 21 = .ok (.getfield 42, 3) := dk_180 0 42 (by decide +kernel)
theorem dX12_mayGo_24 : decode cX12_mayGo 24 = .ok (.iload_n 1, 1) := dk_27 (by decide +kernel)
theorem dX12_mayGo_25 : decode cX12_mayGo 25 = .ok (.iconst 1, 1) := dk_4 (by decide +kernel)
theorem dX12_mayGo_26 : decode cX12_mayGo 26 = .ok (.iadd, 1) := dk_96 (by decide +kernel)
theorem dX12_mayGo_27 : decode cX12_mayGo 27 = .ok (.iaload, 1) := dk_46 (by decide +kernel)
theorem dX12_mayGo_28 : decode cX12_mayGo 28 = .ok (.iload 4, 2) := dk_21 (by decide +kernel)
theorem dX12_mayGo_30 : decode cX12_mayGo 30 = .ok (.if_icmp .eq 5, 3) := dk_159 0 5 (by decide +kernel)
theorem dX12_mayGo_33 : decode cX12_mayGo 33 = .ok (.iconst 0, 1) := dk_3 (by decide +kernel)
theorem dX12_mayGo_34 : decode cX12_mayGo 34 = .ok (.ireturn, 1) := dk_172 (by decide +kernel)
theorem dX12_mayGo_35 : decode cX12_mayGo 35 = .ok (.iload_n 1, 1) := dk_27 (by decide +kernel)
theorem dX12_mayGo_36 : decode cX12_mayGo 36 = .ok (.iconst 1, 1) := dk_4 (by decide +kernel)
theorem dX12_mayGo_37 : decode cX12_mayGo 37 = .ok (.iadd, 1) := dk_96 (by decide +kernel)
theorem dX12_mayGo_38 : decode cX12_mayGo 38 = .ok (.aload_n 0, 1) := dk_42 (by decide +kernel)
theorem dX12_mayGo_39 : decode cX12_mayGo 39 = .ok (.getfield 80, 3) := dk_180 0 80 (by decide +kernel)
theorem dX12_mayGo_42 : decode cX12_mayGo 42 = .ok (.if_icmp .lt 14, 3) := dk_161 0 14 (by decide +kernel)
theorem dX12_mayGo_45 : decode cX12_mayGo 45 = .ok (.iload 4, 2) := dk_21 (by decide +kernel)
theorem dX12_mayGo_47 : decode cX12_mayGo 47 = .ok (.aload_n 0, 1) := dk_42 (by decide +kernel)
theorem dX12_mayGo_48 : decode cX12_mayGo 48 = .ok (.iload_n 2, 1) := dk_28 (by decide +kernel)
theorem dX12_mayGo_49 : decode cX12_mayGo 49 = .ok (.iload_n 3, 1) := dk_29 (by decide +kernel)
theorem dX12_mayGo_50 : decode cX12_mayGo 50 = .ok (.invokevirtual 116, 3) := dk_182 0 116 (by decide +kernel)
theorem dX12_mayGo_53 : decode cX12_mayGo 53 = .ok (.if_icmp .le 7, 3) := dk_164 0 7 (by decide +kernel)
theorem dX12_mayGo_56 : decode cX12_mayGo 56 = .ok (.iconst 1, 1) := dk_4 (by decide +kernel)
theorem dX12_mayGo_57 : decode cX12_mayGo 57 = .ok (.goto 4, 3) := dk_167 0 4 (by decide +kernel)
theorem dX12_mayGo_60 : decode cX12_mayGo 60 = .ok (.iconst 0, 1) := dk_3 (by decide +kernel)
theorem dX12_mayGo_61 : decode cX12_mayGo 61 = .ok (.ireturn, 1) := dk_172 (by decide +kernel)
set_option maxRecDepth 8000 in
theorem e_X12_mayGo {g : ch_G} {A R : Nat} (hC : ck_Cx g A R) {d : Nat} {K : Option ck_V → ck_W → Prop} {w : ck_W} {a1 a2 a3 a4 : Int} (h : (1 ≤ (w 76 1) ∧ (w 76 1) ≤ 1000) ∧ ((0 ≤ a4 ∧ a4 ≤ (w 76 1) - 1 → (0 ≤ (a1 + 1) ∧ (a1 + 1) < 24) ∧ (((w 87 (a1 + 1)) < 0 → ck_i (a1 + 1) ∧ (((a1 + 1) < (w 76 0) → K (some (.inl 1)) w) ∧ (¬ (a1 + 1) < (w 76 0) → ((1 ≤ (w 76 0) ∧ (w 76 0) ≤ 6) ∧ (-1000 ≤ a2 ∧ a2 ≤ 1000) ∧ (0 ≤ a3 ∧ a3 ≤ 1000)) ∧ ((a4 ≤ (rm_old ((w 76 0) - 1).toNat a2 a3) → K (some (.inl 0)) w) ∧ (¬ a4 ≤ (rm_old ((w 76 0) - 1).toNat a2 a3) → K (some (.inl 1)) w))))) ∧ (¬ (w 87 (a1 + 1)) < 0 → ((w 87 (a1 + 1)) = a4 → ck_i (a1 + 1) ∧ (((a1 + 1) < (w 76 0) → K (some (.inl 1)) w) ∧ (¬ (a1 + 1) < (w 76 0) → ((1 ≤ (w 76 0) ∧ (w 76 0) ≤ 6) ∧ (-1000 ≤ a2 ∧ a2 ≤ 1000) ∧ (0 ≤ a3 ∧ a3 ≤ 1000)) ∧ ((a4 ≤ (rm_old ((w 76 0) - 1).toNat a2 a3) → K (some (.inl 0)) w) ∧ (¬ a4 ≤ (rm_old ((w 76 0) - 1).toNat a2 a3) → K (some (.inl 1)) w))))) ∧ (¬ (w 87 (a1 + 1)) = a4 → K (some (.inl 0)) w)))) ∧ (¬ (0 ≤ a4 ∧ a4 ≤ (w 76 1) - 1) → K (some (.inl 0)) w))) : ck_Ex (ch_C g A R) (d + 2) mX12_mayGo [.inr (.inr 76), .inl a1, .inl a2, .inl a3, .inl a4] w K :=
  ck_entry hC.1 [some (.inr (.inr 76)), some (.inl a1), some (.inl a2), some (.inl a3), some (.inl a4)] (by decide) (Nat.le_of_ble_eq_true rfl) rfl (fun q => q) (ck_in (fun hl => (ck_aload_n 1 rfl 0 dX12_mayGo_0 rfl rfl (ck_iload 3 rfl dX12_mayGo_1 rfl (have h29 := h; have o1 := h29.1; have h28 := h29.2; (have h27 := h28; ck_callV 6 rfl [.inl a4] [] dX12_mayGo_3 cv_X12_101 sh_76 rfl rfl (Nat.le_of_ble_eq_true rfl) (And.intro hl.2.2.2.2.1 True.intro) (p_X12_isRadius hC o1 (fun c25 _ => (ck_if_eq 9 rfl 33 dX12_mayGo_6 rfl (by decide) (fun q => absurd q (by decide)) (fun _ => (ck_aload_n 10 rfl 0 dX12_mayGo_9 rfl rfl (ck_getr 13 rfl dX12_mayGo_10 fl_X12_42 sh_76 rfl (ck_iload_n 14 rfl 1 dX12_mayGo_13 rfl rfl (ck_iconst 15 rfl dX12_mayGo_14 rfl (ck_iadd 16 rfl dX12_mayGo_15 (have h31 := (h27.1 c25); have o2 := h31.1; have h30 := h31.2; (ck_iald 17 rfl dX12_mayGo_16 sh_87 (shn_87 hC) o2 _ rfl (fun (q3 : ck_i (w 87 (a1 + 1))) => (ck_if_lt 20 rfl 35 dX12_mayGo_17 rfl q3 (fun c23 => (ck_iload_n 36 rfl 1 dX12_mayGo_35 rfl rfl (ck_iconst 37 rfl dX12_mayGo_36 rfl (ck_iadd 38 rfl dX12_mayGo_37 (ck_aload_n 39 rfl 0 dX12_mayGo_38 rfl rfl (ck_geti 42 rfl 0 dX12_mayGo_39 fl_X12_80 sh_76 rfl rfl _ rfl (fun (q4 : ck_i (w 76 0)) => (have h33 := (h30.1 c23); have o5 := h33.1; have h32 := h33.2; (ck_icmp_lt 45 rfl 56 dX12_mayGo_42 rfl o5 q4 (fun c10 => (ck_iconst 57 rfl dX12_mayGo_56 rfl (ck_goto 61 dX12_mayGo_57 rfl (ck_zret dX12_mayGo_61 rfl (by decide) (h32.1 c10))))) (fun c11 => (ck_iload 47 rfl dX12_mayGo_45 rfl (ck_aload_n 48 rfl 0 dX12_mayGo_47 rfl rfl (ck_iload_n 49 rfl 2 dX12_mayGo_48 rfl rfl (ck_iload_n 50 rfl 3 dX12_mayGo_49 rfl rfl (have h35 := (h32.2 c11); have o6 := h35.1; have h34 := h35.2; (ck_callV 53 rfl [.inl a2, .inl a3] [.inl a4] dX12_mayGo_50 cv_X12_116 sh_76 rfl rfl (Nat.le_of_ble_eq_true rfl) (And.intro hl.2.2.1 (And.intro hl.2.2.2.1 True.intro)) (p_X12_oldest hC o6 (fun q7 => (ck_icmp_le 56 rfl 60 dX12_mayGo_53 rfl hl.2.2.2.2.1 q7.1 (fun c8 => (ck_iconst 61 rfl dX12_mayGo_60 rfl (ck_zret dX12_mayGo_61 rfl (by decide) (h34.1 c8)))) (fun c9 => (ck_iconst 57 rfl dX12_mayGo_56 rfl (ck_goto 61 dX12_mayGo_57 rfl (ck_zret dX12_mayGo_61 rfl (by decide) (h34.2 c9)))))))))))))))))))))))) (fun c24 => (ck_aload_n 21 rfl 0 dX12_mayGo_20 rfl rfl (ck_getr 24 rfl dX12_mayGo_21 fl_X12_42 sh_76 rfl (ck_iload_n 25 rfl 1 dX12_mayGo_24 rfl rfl (ck_iconst 26 rfl dX12_mayGo_25 rfl (ck_iadd 27 rfl dX12_mayGo_26 (ck_iald 28 rfl dX12_mayGo_27 sh_87 (shn_87 hC) o2 _ rfl (fun (q12 : ck_i (w 87 (a1 + 1))) => (ck_iload 30 rfl dX12_mayGo_28 rfl (have h36 := (h30.2 c24); (ck_icmp_eq 33 rfl 35 dX12_mayGo_30 rfl q12 hl.2.2.2.2.1 (fun c21 => (ck_iload_n 36 rfl 1 dX12_mayGo_35 rfl rfl (ck_iconst 37 rfl dX12_mayGo_36 rfl (ck_iadd 38 rfl dX12_mayGo_37 (ck_aload_n 39 rfl 0 dX12_mayGo_38 rfl rfl (ck_geti 42 rfl 0 dX12_mayGo_39 fl_X12_80 sh_76 rfl rfl _ rfl (fun (q13 : ck_i (w 76 0)) => (have h38 := (h36.1 c21); have o14 := h38.1; have h37 := h38.2; (ck_icmp_lt 45 rfl 56 dX12_mayGo_42 rfl o14 q13 (fun c19 => (ck_iconst 57 rfl dX12_mayGo_56 rfl (ck_goto 61 dX12_mayGo_57 rfl (ck_zret dX12_mayGo_61 rfl (by decide) (h37.1 c19))))) (fun c20 => (ck_iload 47 rfl dX12_mayGo_45 rfl (ck_aload_n 48 rfl 0 dX12_mayGo_47 rfl rfl (ck_iload_n 49 rfl 2 dX12_mayGo_48 rfl rfl (ck_iload_n 50 rfl 3 dX12_mayGo_49 rfl rfl (have h40 := (h37.2 c20); have o15 := h40.1; have h39 := h40.2; (ck_callV 53 rfl [.inl a2, .inl a3] [.inl a4] dX12_mayGo_50 cv_X12_116 sh_76 rfl rfl (Nat.le_of_ble_eq_true rfl) (And.intro hl.2.2.1 (And.intro hl.2.2.2.1 True.intro)) (p_X12_oldest hC o15 (fun q16 => (ck_icmp_le 56 rfl 60 dX12_mayGo_53 rfl hl.2.2.2.2.1 q16.1 (fun c17 => (ck_iconst 61 rfl dX12_mayGo_60 rfl (ck_zret dX12_mayGo_61 rfl (by decide) (h39.1 c17)))) (fun c18 => (ck_iconst 57 rfl dX12_mayGo_56 rfl (ck_goto 61 dX12_mayGo_57 rfl (ck_zret dX12_mayGo_61 rfl (by decide) (h39.2 c18)))))))))))))))))))))))) (fun c22 => (ck_iconst 34 rfl dX12_mayGo_33 rfl (ck_zret dX12_mayGo_34 rfl (by decide) (h36.2 c22))))))))))))))))))))))))))) (fun c26 _ => (ck_if_eq 9 rfl 33 dX12_mayGo_6 rfl (by decide) (fun _ => (ck_iconst 34 rfl dX12_mayGo_33 rfl (ck_zret dX12_mayGo_34 rfl (by decide) (h27.2 c26)))) (fun q => absurd q (by decide)))))))))))
theorem p_X12_mayGo {g : ch_G} {A R : Nat} (hC : ck_Cx g A R) {d : Nat} {K : Option ck_V → ck_W → Prop} {w : ck_W} {a1 a2 a3 a4 : Int} (o0 : ((1 ≤ w 76 0 ∧ w 76 0 ≤ 6) ∧ (1 ≤ w 76 1 ∧ w 76 1 ≤ 1000)) ∧ (-1 ≤ a1 ∧ a1 ≤ 22) ∧ (-1000 ≤ a2 ∧ a2 ≤ 1000) ∧ (0 ≤ a3 ∧ a3 ≤ 1000))
    (h1 : rm_go (w 76 0) (w 76 1) (w 87 (a1 + 1)) a1 a2 a3 a4 → K (some (.inl 1)) w) (h0 : ¬ rm_go (w 76 0) (w 76 1) (w 87 (a1 + 1)) a1 a2 a3 a4 → K (some (.inl 0)) w) : ck_Ex (ch_C g A R) (d + 2) mX12_mayGo [.inr (.inr 76), .inl a1, .inl a2, .inl a3, .inl a4] w K := by
  unfold rm_go at h1 h0
  refine e_X12_mayGo hC ?_
  with_reducible repeat' (first | apply And.intro | intro _)
  all_goals first | omega | exact h1 (by omega) | exact h0 (by omega)
abbrev rm_x (p r c : Int) : Int := (12 * p + r) * 243 + c
abbrev rm_nc (m c e : Int) : Int := (3 * c + e + 1).tmod m
/-- the better of what is known and a way on: its fit f, its number m, the grey g -/
def rm_cb (s : Int × Int) (f g m : Int) : Int × Int := if f < 0 ∨ f + g < s.1 then s else (f + g, min ((if f + g = s.1 then s.2 else 0) + m) 1000000)
/-- one change e from a state -/
def rm_s1 (w : ck_W) (g p r c e : Int) (s : Int × Int) : Int × Int := if rm_go (w 76 0) (w 76 1) (w 87 (p + 1)) p r c (r + e) then rm_cb s (w 80 (rm_x (p + 1) (r + e) (rm_nc (w 76 2) c e))) g (w 81 (rm_x (p + 1) (r + e) (rm_nc (w 76 2) c e))) else s
def rm_gr (w : ck_W) (z p r : Int) : Int := w 77 (20 + (72 * z + 12 * p.tmod (w 76 0) + r))
/-- fit and number of a state by those of the next place -/
def rm_ws (w : ck_W) (z n p r c : Int) : Int × Int :=
  if p + 1 = n then (rm_gr w z p r, 1) else rm_s1 w (rm_gr w z p r) p r c 1 (rm_s1 w (rm_gr w z p r) p r c 0 (rm_s1 w (rm_gr w z p r) p r c (-1) (-1, 0)))
theorem rm_cp {A R : Nat} {g : ch_G} (hC : ck_Cx g A R) {w : ck_W} (hI : rm_I A R w) : w 76 0 = (A : Int) ∧ w 76 1 = (R : Int) ∧ 9 ≤ w 76 2 ∧ w 76 2 ≤ 243 ∧ 3 ≤ w 76 0 ∧ w 76 0 ≤ 6 ∧ 4 ≤ w 76 1 ∧ w 76 1 ≤ 12 := by
  obtain ⟨h1, h2, h3, -⟩ := hI
  have c := hC.2
  refine ⟨h1, h2, ?_, ?_, by omega, by omega, by omega, by omega⟩
  · rw [h3]
    have : 3 ^ 2 ≤ 3 ^ (A - 1) := Nat.pow_le_pow_right (by decide) (by omega)
    omega
  · rw [h3]
    have : 3 ^ (A - 1) ≤ 3 ^ 5 := Nat.pow_le_pow_right (by decide) (by omega)
    omega
theorem rm_ncb {m c e : Int} (hm : 1 ≤ m) (h : 0 ≤ 3 * c + e + 1) : 0 ≤ rm_nc m c e ∧ rm_nc m c e < m := by
  unfold rm_nc
  rw [Int.tmod_eq_emod_of_nonneg h]
  exact ⟨Int.emod_nonneg _ (by omega), Int.emod_lt_of_pos _ (by omega)⟩
theorem rm_tmb {p a : Int} (ha : 1 ≤ a) (h : 0 ≤ p) : 0 ≤ p.tmod a ∧ p.tmod a < a := by
  rw [Int.tmod_eq_emod_of_nonneg h]
  exact ⟨Int.emod_nonneg _ (by omega), Int.emod_lt_of_pos _ (by omega)⟩
theorem rm_grb {A R : Nat} {g : ch_G} (hC : ck_Cx g A R) {w : ck_W} (hI : rm_I A R w) {z p r : Int} (hz : 0 ≤ z ∧ z ≤ 5) (hp : 0 ≤ p) (hr : 0 ≤ r ∧ r < (R : Int)) : 0 ≤ rm_gr w z p r ∧ rm_gr w z p r ≤ 9 := by
  have c := rm_cp hC hI
  have t := rm_tmb (p := p) (a := w 76 0) (by omega) hp
  exact rm_grey hI.2.2.2.1 (by omega) (by omega)
theorem dX12_windState_0 : decode cX12_windState 0 = .ok (.iload_n 3, 1) := dk_29 (by decide +kernel)
theorem dX12_windState_1 : decode cX12_windState 1 = .ok (.iload 4, 2) := dk_21 (by decide +kernel)
theorem dX12_windState_3 : decode cX12_windState 3 = .ok (.iload 5, 2) := dk_21 (by decide +kernel)
theorem dX12_windState_5 : decode cX12_windState 5 = .ok (.invokestatic 120, 3) := dk_184 0 120 (by decide +kernel)
theorem dX12_windState_8 : decode cX12_windState 8 = .ok (.istore 6, 2) := dk_54 (by decide +kernel)
theorem dX12_windState_10 : decode cX12_windState 10 = .ok (.aload_n 0, 1) := dk_42 (by decide +kernel)
theorem dX12_windState_11 : decode cX12_windState 11 = .ok (.getfield 7, 3) := dk_180 0 7 (by decide +kernel)
theorem dX12_windState_14 : decode cX12_windState 14 = .ok (.bipush 20, 2) := dk_16 20 (by decide +kernel)
theorem dX12_windState_16 : decode cX12_windState 16 = .ok (.iload_n 1, 1) := dk_27 (by decide +kernel)
theorem dX12_windState_17 : decode cX12_windState 17 = .ok (.iload_n 3, 1) := dk_29 (by decide +kernel)
theorem dX12_windState_18 : decode cX12_windState 18 = .ok (.aload_n 0, 1) := dk_42 (by decide +kernel)
theorem dX12_windState_19 : decode cX12_windState 19 = .ok (.getfield 80, 3) := dk_180 0 80 (by decide +kernel)
theorem dX12_windState_22 : decode cX12_windState 22 = .ok (.irem, 1) := dk_112 (by decide +kernel)
theorem dX12_windState_23 : decode cX12_windState 23 = .ok (.iload 4, 2) := dk_21 (by decide +kernel)
theorem dX12_windState_25 : decode cX12_windState 25 = .ok (.invokestatic 107, 3) := dk_184 0 107 (by decide +kernel)
theorem dX12_windState_28 : decode cX12_windState 28 = .ok (.iadd, 1) := dk_96 (by decide +kernel)
theorem dX12_windState_29 : decode cX12_windState 29 = .ok (.iaload, 1) := dk_46 (by decide +kernel)
theorem dX12_windState_30 : decode cX12_windState 30 = .ok (.istore 7, 2) := dk_54 (by decide +kernel)
theorem dX12_windState_32 : decode cX12_windState 32 = .ok (.aload_n 0, 1) := dk_42 (by decide +kernel)
theorem dX12_windState_33 : decode cX12_windState 33 = .ok (.getfield 20, 3) := dk_180 0 20 (by decide +kernel)
theorem dX12_windState_36 : decode cX12_windState 36 = .ok (.iload 6, 2) := dk_21 (by decide +kernel)
theorem dX12_windState_38 : decode cX12_windState 38 = .ok (.iload_n 3, 1) := dk_29 (by decide +kernel)
theorem dX12_windState_39 : decode cX12_windState 39 = .ok (.iconst 1, 1) := dk_4 (by decide +kernel)
theorem dX12_windState_40 : decode cX12_windState 40 = .ok (.iadd, 1) := dk_96 (by decide +kernel)
theorem dX12_windState_41 : decode cX12_windState 41 = .ok (.iload_n 2, 1) := dk_28 (by decide +kernel)
theorem dX12_windState_42 : decode cX12_windState 42 = .ok (.if_icmp .ne 8, 3) := dk_160 0 8 (by decide +kernel)
theorem dX12_windState_45 : decode cX12_windState 45 = .ok (.iload 7, 2) := dk_21 (by decide +kernel)
theorem dX12_windState_47 : decode cX12_windState 47 = .ok (.goto 4, 3) := dk_167 0 4 (by decide +kernel)
theorem dX12_windState_50 : decode cX12_windState 50 = .ok (.iconst (-1), 1) := dk_2 (by decide +kernel)
theorem dX12_windState_51 : decode cX12_windState 51 = .ok (.iastore, 1) := dk_79 (by decide +kernel)
theorem dX12_windState_52 : decode cX12_windState 52 = .ok (.aload_n 0, 1) := dk_42 (by decide +kernel)
theorem dX12_windState_53 : decode cX12_windState 53 = .ok (.getfield 23, 3) := dk_180 0 23 (by decide +kernel)
theorem dX12_windState_56 : decode cX12_windState 56 = .ok (.iload 6, 2) := dk_21 (by decide +kernel)
theorem dX12_windState_58 : decode cX12_windState 58 = .ok (.iload_n 3, 1) := dk_29 (by decide +kernel)
theorem dX12_windState_59 : decode cX12_windState 59 = .ok (.iconst 1, 1) := dk_4 (by decide +kernel)
theorem dX12_windState_60 : decode cX12_windState 60 = .ok (.iadd, 1) := dk_96 (by decide +kernel)
theorem dX12_windState_61 : decode cX12_windState 61 = .ok (.iload_n 2, 1) := dk_28 (by decide +kernel)
theorem dX12_windState_62 : decode cX12_windState 62 = .ok (.if_icmp .ne 7, 3) := dk_160 0 7 (by decide +kernel)
theorem dX12_windState_65 : decode cX12_windState 65 = .ok (.iconst 1, 1) := dk_4 (by decide +kernel)
theorem dX12_windState_66 : decode cX12_windState 66 = .ok (.goto 4, 3) := dk_167 0 4 (by decide +kernel)
theorem dX12_windState_69 : decode cX12_windState 69 = .ok (.iconst 0, 1) := dk_3 (by decide +kernel)
theorem dX12_windState_70 : decode cX12_windState 70 = .ok (.iastore, 1) := dk_79 (by decide +kernel)
theorem dX12_windState_71 : decode cX12_windState 71 = .ok (.aload_n 0, 1) := dk_42 (by decide +kernel)
theorem dX12_windState_72 : decode cX12_windState 72 = .ok (.getfield 26, 3) := dk_180 0 26 (by decide +kernel)
theorem dX12_windState_75 : decode cX12_windState 75 = .ok (.iload 6, 2) := dk_21 (by decide +kernel)
theorem dX12_windState_77 : decode cX12_windState 77 = .ok (.iconst 0, 1) := dk_3 (by decide +kernel)
theorem dX12_windState_78 : decode cX12_windState 78 = .ok (.bastore, 1) := dk_84 (by decide +kernel)
theorem dX12_windState_79 : decode cX12_windState 79 = .ok (.iconst (-1), 1) := dk_2 (by decide +kernel)
theorem dX12_windState_80 : decode cX12_windState 80 = .ok (.istore 8, 2) := dk_54 (by decide +kernel)
theorem dX12_windState_82 : decode cX12_windState 82 = .ok (.iload 8, 2) := dk_21 (by decide +kernel)
theorem dX12_windState_84 : decode cX12_windState 84 = .ok (.iconst 1, 1) := dk_4 (by decide +kernel)
theorem dX12_windState_85 : decode cX12_windState 85 = .ok (.if_icmp .gt 174, 3) := dk_163 0 174 (by decide +kernel)
theorem dX12_windState_88 : decode cX12_windState 88 = .ok (.iload_n 3, 1) := dk_29 (by decide +kernel)
theorem dX12_windState_89 : decode cX12_windState 89 = .ok (.iconst 1, 1) := dk_4 (by decide +kernel)
theorem dX12_windState_90 : decode cX12_windState 90 = .ok (.iadd, 1) := dk_96 (by decide +kernel)
theorem dX12_windState_91 : decode cX12_windState 91 = .ok (.iload_n 2, 1) := dk_28 (by decide +kernel)
theorem dX12_windState_92 : decode cX12_windState 92 = .ok (.if_icmp .ge 167, 3) := dk_162 0 167 (by decide +kernel)
theorem dX12_windState_95 : decode cX12_windState 95 = .ok (.aload_n 0, 1) := dk_42 (by decide +kernel)
theorem dX12_windState_96 : decode cX12_windState 96 = .ok (.iload_n 3, 1) := dk_29 (by decide +kernel)
theorem dX12_windState_97 : decode cX12_windState 97 = .ok (.iload 4, 2) := dk_21 (by decide +kernel)
theorem dX12_windState_99 : decode cX12_windState 99 = .ok (.iload 5, 2) := dk_21 (by decide +kernel)
theorem dX12_windState_101 : decode cX12_windState 101 = .ok (.iload 4, 2) := dk_21 (by decide +kernel)
theorem dX12_windState_103 : decode cX12_windState 103 = .ok (.iload 8, 2) := dk_21 (by decide +kernel)
theorem dX12_windState_105 : decode cX12_windState 105 = .ok (.iadd, 1) := dk_96 (by decide +kernel)
theorem dX12_windState_106 : decode cX12_windState 106 = .ok (.invokevirtual 123, 3) := dk_182 0 123 (by decide +kernel)
theorem dX12_windState_109 : decode cX12_windState 109 = .ok (.ifCond .ne 6, 3) := dk_154 0 6 (by decide +kernel)
theorem dX12_windState_112 : decode cX12_windState 112 = .ok (.goto 141, 3) := dk_167 0 141 (by decide +kernel)
theorem dX12_windState_115 : decode cX12_windState 115 = .ok (.iload_n 3, 1) := dk_29 (by decide +kernel)
theorem dX12_windState_116 : decode cX12_windState 116 = .ok (.iconst 1, 1) := dk_4 (by decide +kernel)
theorem dX12_windState_117 : decode cX12_windState 117 = .ok (.iadd, 1) := dk_96 (by decide +kernel)
theorem dX12_windState_118 : decode cX12_windState 118 = .ok (.iload 4, 2) := dk_21 (by decide +kernel)
theorem dX12_windState_120 : decode cX12_windState 120 = .ok (.iload 8, 2) := dk_21 (by decide +kernel)
theorem dX12_windState_122 : decode cX12_windState 122 = .ok (.iadd, 1) := dk_96 (by decide +kernel)
theorem dX12_windState_123 : decode cX12_windState 123 = .ok (.aload_n 0, 1) := dk_42 (by decide +kernel)
theorem dX12_windState_124 : decode cX12_windState 124 = .ok (.iload 5, 2) := dk_21 (by decide +kernel)
theorem dX12_windState_126 : decode cX12_windState 126 = .ok (.iload 8, 2) := dk_21 (by decide +kernel)
theorem dX12_windState_128 : decode cX12_windState 128 = .ok (.invokevirtual 127, 3) := dk_182 0 127 (by decide +kernel)
theorem dX12_windState_131 : decode cX12_windState 131 = .ok (.invokestatic 120, 3) := dk_184 0 120 (by decide +kernel)
theorem dX12_windState_134 : decode cX12_windState 134 = .ok (.istore 9, 2) := dk_54 (by decide +kernel)
theorem dX12_windState_136 : decode cX12_windState 136 = .ok (.aload_n 0, 1) := dk_42 (by decide +kernel)
theorem dX12_windState_137 : decode cX12_windState 137 = .ok (.getfield 20, 3) := dk_180 0 20 (by decide +kernel)
theorem dX12_windState_140 : decode cX12_windState 140 = .ok (.iload 9, 2) := dk_21 (by decide +kernel)
theorem dX12_windState_142 : decode cX12_windState 142 = .ok (.iaload, 1) := dk_46 (by decide +kernel)
theorem dX12_windState_143 : decode cX12_windState 143 = .ok (.ifCond .lt 110, 3) := dk_155 0 110 (by decide +kernel)
theorem dX12_windState_146 : decode cX12_windState 146 = .ok (.aload_n 0, 1) := dk_42 (by decide +kernel)
theorem dX12_windState_147 : decode cX12_windState 147 = .ok (.getfield 20, 3) := dk_180 0 20 (by decide +kernel)
theorem dX12_windState_150 : decode cX12_windState 150 = .ok (.iload 9, 2) := dk_21 (by decide +kernel)
theorem dX12_windState_152 : decode cX12_windState 152 = .ok (.iaload, 1) := dk_46 (by decide +kernel)
theorem dX12_windState_153 : decode cX12_windState 153 = .ok (.iload 7, 2) := dk_21 (by decide +kernel)
theorem dX12_windState_155 : decode cX12_windState 155 = .ok (.iadd, 1) := dk_96 (by decide +kernel)
theorem dX12_windState_156 : decode cX12_windState 156 = .ok (.aload_n 0, 1) := dk_42 (by decide +kernel)
theorem dX12_windState_157 : decode cX12_windState 157 = .ok (.getfield 20, 3) := dk_180 0 20 (by decide +kernel)
theorem dX12_windState_160 : decode cX12_windState 160 = .ok (.iload 6, 2) := dk_21 (by decide +kernel)
theorem dX12_windState_162 : decode cX12_windState 162 = .ok (.iaload, 1) := dk_46 (by decide +kernel)
theorem dX12_windState_163 : decode cX12_windState 163 = .ok (.if_icmp .ge 6, 3) := dk_162 0 6 (by decide +kernel)
theorem dX12_windState_166 : decode cX12_windState 166 = .ok (.goto 87, 3) := dk_167 0 87 (by decide +kernel)
theorem dX12_windState_169 : decode cX12_windState 169 = .ok (.aload_n 0, 1) := dk_42 (by decide +kernel)
theorem dX12_windState_170 : decode cX12_windState 170 = .ok (.getfield 23, 3) := dk_180 0 23 (by decide +kernel)
theorem dX12_windState_173 : decode cX12_windState 173 = .ok (.iload 6, 2) := dk_21 (by decide +kernel)
theorem dX12_windState_175 : decode cX12_windState 175 = .ok (.aload_n 0, 1) := dk_42 (by decide +kernel)
theorem dX12_windState_176 : decode cX12_windState 176 = .ok (.getfield 20, 3) := dk_180 0 20 (by decide +kernel)
theorem dX12_windState_179 : decode cX12_windState 179 = .ok (.iload 9, 2) := dk_21 (by decide +kernel)
theorem dX12_windState_181 : decode cX12_windState 181 = .ok (.iaload, 1) := dk_46 (by decide +kernel)
theorem dX12_windState_182 : decode cX12_windState 182 = .ok (.iload 7, 2) := dk_21 (by decide +kernel)
theorem dX12_windState_184 : decode cX12_windState 184 = .ok (.iadd, 1) := dk_96 (by decide +kernel)
theorem dX12_windState_185 : decode cX12_windState 185 = .ok (.aload_n 0, 1) := dk_42 (by decide +kernel)
theorem dX12_windState_186 : decode cX12_windState 186 = .ok (.getfield 20, 3) := dk_180 0 20 (by decide +kernel)
theorem dX12_windState_189 : decode cX12_windState 189 = .ok (.iload 6, 2) := dk_21 (by decide +kernel)
theorem dX12_windState_191 : decode cX12_windState 191 = .ok (.iaload, 1) := dk_46 (by decide +kernel)
theorem dX12_windState_192 : decode cX12_windState 192 = .ok (.if_icmp .ne 13, 3) := dk_160 0 13 (by decide +kernel)
theorem dX12_windState_195 : decode cX12_windState 195 = .ok (.aload_n 0, 1) := dk_42 (by decide +kernel)
theorem dX12_windState_196 : decode cX12_windState 196 = .ok (.getfield 23, 3) := dk_180 0 23 (by decide +kernel)
theorem dX12_windState_199 : decode cX12_windState 199 = .ok (.iload 6, 2) := dk_21 (by decide +kernel)
theorem dX12_windState_201 : decode cX12_windState 201 = .ok (.iaload, 1) := dk_46 (by decide +kernel)
theorem dX12_windState_202 : decode cX12_windState 202 = .ok (.goto 4, 3) := dk_167 0 4 (by decide +kernel)
theorem dX12_windState_205 : decode cX12_windState 205 = .ok (.iconst 0, 1) := dk_3 (by decide +kernel)
theorem dX12_windState_206 : decode cX12_windState 206 = .ok (.aload_n 0, 1) := dk_42 (by decide +kernel)
theorem dX12_windState_207 : decode cX12_windState 207 = .ok (.getfield 23, 3) := dk_180 0 23 (by decide +kernel)
theorem dX12_windState_210 : decode cX12_windState 210 = .ok (.iload 9, 2) := dk_21 (by decide +kernel)
theorem dX12_windState_212 : decode cX12_windState 212 = .ok (.iaload, 1) := dk_46 (by decide +kernel)
theorem dX12_windState_213 : decode cX12_windState 213 = .ok (.iadd, 1) := dk_96 (by decide +kernel)
theorem dX12_windState_214 : decode cX12_windState 214 = .ok (.iastore, 1) := dk_79 (by decide +kernel)
theorem dX12_windState_215 : decode cX12_windState 215 = .ok (.aload_n 0, 1) := dk_42 (by decide +kernel)
theorem dX12_windState_216 : decode cX12_windState 216 = .ok (.getfield 23, 3) := dk_180 0 23 (by decide +kernel)
theorem dX12_windState_219 : decode cX12_windState 219 = .ok (.iload 6, 2) := dk_21 (by decide +kernel)
theorem dX12_windState_221 : decode cX12_windState 221 = .ok (.iaload, 1) := dk_46 (by decide +kernel)
theorem dX12_windState_222 : decode cX12_windState 222 = .ok (.ldc 130, 2) := dk_18 (by decide +kernel)
theorem dX12_windState_224 : decode cX12_windState 224 = .ok (.if_icmp .le 12, 3) := dk_164 0 12 (by decide +kernel)
theorem dX12_windState_227 : decode cX12_windState 227 = .ok (.aload_n 0, 1) := dk_42 (by decide +kernel)
theorem dX12_windState_228 : decode cX12_windState 228 = .ok (.getfield 23, 3) := dk_180 0 23 (by decide +kernel)
theorem dX12_windState_231 : decode cX12_windState 231 = .ok (.iload 6, 2) := dk_21 (by decide +kernel)
theorem dX12_windState_233 : decode cX12_windState 233 = .ok (.ldc 130, 2) := dk_18 (by decide +kernel)
theorem dX12_windState_235 : decode cX12_windState 235 = .ok (.iastore, 1) := dk_79 (by decide +kernel)
theorem dX12_windState_236 : decode cX12_windState 236 = .ok (.aload_n 0, 1) := dk_42 (by decide +kernel)
theorem dX12_windState_237 : decode cX12_windState 237 = .ok (.getfield 20, 3) := dk_180 0 20 (by decide +kernel)
theorem dX12_windState_240 : decode cX12_windState 240 = .ok (.iload 6, 2) := dk_21 (by decide +kernel)
theorem dX12_windState_242 : decode cX12_windState 242 = .ok (.aload_n 0, 1) := dk_42 (by decide +kernel)
theorem dX12_windState_243 : decode cX12_windState 243 = .ok (.getfield 20, 3) := dk_180 0 20 (by decide +kernel)
theorem dX12_windState_246 : decode cX12_windState 246 = .ok (.iload 9, 2) := dk_21 (by decide +kernel)
theorem dX12_windState_248 : decode cX12_windState 248 = .ok (.iaload, 1) := dk_46 (by decide +kernel)
theorem dX12_windState_249 : decode cX12_windState 249 = .ok (.iload 7, 2) := dk_21 (by decide +kernel)
theorem dX12_windState_251 : decode cX12_windState 251 = .ok (.iadd, 1) := dk_96 (by decide +kernel)
theorem dX12_windState_252 : decode cX12_windState 252 = .ok (.iastore, 1) := dk_79 (by decide +kernel)
theorem dX12_windState_253 : decode cX12_windState 253 = .ok (.iinc 8 1, 3) := dk_132 1 (by decide +kernel)
theorem dX12_windState_256 : decode cX12_windState 256 = .ok (.goto (-174), 3) := dk_167 255 82 (by decide +kernel)
theorem dX12_windState_259 : decode cX12_windState 259 = .ok (.return_, 1) := dk_177 (by decide +kernel)
set_option maxRecDepth 8000 in
theorem e_X12_windState {g : ch_G} {A R : Nat} (hC : ck_Cx g A R) {d : Nat} {K : Option ck_V → ck_W → Prop} {w : ck_W} {a1 a2 a3 a4 a5 : Int} (h : (ck_i ((12 * a3 + a4) * 243 + a5)) ∧ (∀ x3, x3 = (12 * a3 + a4) * 243 + a5 → (¬ (w 76 0) = 0) ∧ (ck_i (a3.tmod (w 76 0)) ∧ ((ck_i (72 * a1 + 12 * (a3.tmod (w 76 0)) + a4)) ∧ ((0 ≤ (20 + (72 * a1 + 12 * (a3.tmod (w 76 0)) + a4)) ∧ (20 + (72 * a1 + 12 * (a3.tmod (w 76 0)) + a4)) < 1430) ∧ (∀ x12, x12 = w 77 (20 + (72 * a1 + 12 * (a3.tmod (w 76 0)) + a4)) → ck_i (a3 + 1) ∧ ((¬ (a3 + 1) = a2 → (0 ≤ x3 ∧ x3 < 70000) ∧ ((¬ (a3 + 1) = a2 → ck_At (ch_C g A R) (d + 3) mX12_windState K 82 [some (.inr (.inr 76)), none, some (.inl a2), some (.inl a3), some (.inl a4), some (.inl a5), some (.inl x3), some (.inl x12), some (.inl (-1)), none] [] (ck_up (ck_up (ck_up w 80 x3 (-1)) 81 x3 0) 82 x3 0)) ∧ ((a3 + 1) = a2 → ck_At (ch_C g A R) (d + 3) mX12_windState K 82 [some (.inr (.inr 76)), none, some (.inl a2), some (.inl a3), some (.inl a4), some (.inl a5), some (.inl x3), some (.inl x12), some (.inl (-1)), none] [] (ck_up (ck_up (ck_up w 80 x3 (-1)) 81 x3 1) 82 x3 0)))) ∧ ((a3 + 1) = a2 → (0 ≤ x3 ∧ x3 < 70000) ∧ ((¬ (a3 + 1) = a2 → ck_At (ch_C g A R) (d + 3) mX12_windState K 82 [some (.inr (.inr 76)), none, some (.inl a2), some (.inl a3), some (.inl a4), some (.inl a5), some (.inl x3), some (.inl x12), some (.inl (-1)), none] [] (ck_up (ck_up (ck_up w 80 x3 x12) 81 x3 0) 82 x3 0)) ∧ ((a3 + 1) = a2 → ck_At (ch_C g A R) (d + 3) mX12_windState K 82 [some (.inr (.inr 76)), none, some (.inl a2), some (.inl a3), some (.inl a4), some (.inl a5), some (.inl x3), some (.inl x12), some (.inl (-1)), none] [] (ck_up (ck_up (ck_up w 80 x3 x12) 81 x3 1) 82 x3 0))))))))))) : ck_Ex (ch_C g A R) (d + 3) mX12_windState [.inr (.inr 76), .inl a1, .inl a2, .inl a3, .inl a4, .inl a5] w K :=
  ck_entry hC.1 [some (.inr (.inr 76)), some (.inl a1), some (.inl a2), some (.inl a3), some (.inl a4), some (.inl a5), none, none, none, none] (by decide) (Nat.le_of_ble_eq_true rfl) rfl (fun q => q) (ck_in (fun hl => (ck_iload_n 1 rfl 3 dX12_windState_0 rfl rfl (ck_iload 3 rfl dX12_windState_1 rfl (ck_iload 5 rfl dX12_windState_3 rfl (have h24 := h; have o1 := h24.1; have h23 := h24.2; (ck_callS 8 rfl [.inl a3, .inl a4, .inl a5] [] dX12_windState_5 cs_X12_120 rfl rfl (Nat.le_of_ble_eq_true rfl) (And.intro hl.2.2.2.1 (And.intro hl.2.2.2.2.1 (And.intro hl.2.2.2.2.2.1 True.intro))) (p_X12_state hC o1 (fun q2 => (ck_nmi (fun x3 e4 => (ck_istore 10 rfl [some (.inr (.inr 76)), some (.inl a1), some (.inl a2), some (.inl a3), some (.inl a4), some (.inl a5), some (.inl x3), none, none, none] dX12_windState_8 (Nat.le_of_ble_eq_true rfl) rfl rfl (by rw [e4]; exact q2.1) (ck_aload_n 11 rfl 0 dX12_windState_10 rfl rfl (ck_getr 14 rfl dX12_windState_11 fl_X12_7 sh_76 rfl (ck_bipush 16 rfl dX12_windState_14 rfl (ck_iload_n 17 rfl 1 dX12_windState_16 rfl rfl (ck_iload_n 18 rfl 3 dX12_windState_17 rfl rfl (ck_aload_n 19 rfl 0 dX12_windState_18 rfl rfl (ck_geti 22 rfl 0 dX12_windState_19 fl_X12_80 sh_76 rfl rfl _ rfl (fun (q5 : ck_i (w 76 0)) => (have h26 := (h23 x3 e4); have o6 := h26.1; have h25 := h26.2; (ck_irem 23 rfl dX12_windState_22 hl.2.2.2.1 q5 o6 (ck_iload 25 rfl dX12_windState_23 rfl (have h28 := h25; have o7 := h28.1; have h27 := h28.2; (have h30 := h27; have o8 := h30.1; have h29 := h30.2; (ck_callS 28 rfl [.inl a1, .inl (a3.tmod (w 76 0)), .inl a4] [.inl 20, .inr (.inr 77)] dX12_windState_25 cs_X12_107 rfl rfl (Nat.le_of_ble_eq_true rfl) (And.intro hl.2.1 (And.intro o7 (And.intro hl.2.2.2.2.1 True.intro))) (p_X12_spot hC o8 (fun q9 => (ck_iadd 29 rfl dX12_windState_28 (have h32 := h29; have o10 := h32.1; have h31 := h32.2; (ck_iald 30 rfl dX12_windState_29 sh_77 (shn_77 hC) o10 _ rfl (fun (q11 : ck_i (w 77 (20 + (72 * a1 + 12 * (a3.tmod (w 76 0)) + a4)))) => (ck_nmi (fun x12 e13 => (ck_istore 32 rfl [some (.inr (.inr 76)), some (.inl a1), some (.inl a2), some (.inl a3), some (.inl a4), some (.inl a5), some (.inl x3), some (.inl x12), none, none] dX12_windState_30 (Nat.le_of_ble_eq_true rfl) rfl rfl (by rw [e13]; exact q11) (ck_aload_n 33 rfl 0 dX12_windState_32 rfl rfl (ck_getr 36 rfl dX12_windState_33 fl_X12_20 sh_76 rfl (ck_iload 38 rfl dX12_windState_36 rfl (ck_iload_n 39 rfl 3 dX12_windState_38 rfl rfl (ck_iconst 40 rfl dX12_windState_39 rfl (ck_iadd 41 rfl dX12_windState_40 (ck_iload_n 42 rfl 2 dX12_windState_41 rfl rfl (have h34 := (h31 x12 e13); have o14 := h34.1; have h33 := h34.2; (ck_icmp_ne 45 rfl 50 dX12_windState_42 rfl o14 hl.2.2.1 (fun c21 => (ck_iconst 51 rfl dX12_windState_50 rfl (have h36 := (h33.1 c21); have o15 := h36.1; have h35 := h36.2; (ck_iast 52 rfl dX12_windState_51 sh_80 (shn_80 hC) o15 (show ck_i (-1) by decide) (ck_aload_n 53 rfl 0 dX12_windState_52 rfl rfl (ck_getr 56 rfl dX12_windState_53 fl_X12_23 sh_76 rfl (ck_iload 58 rfl dX12_windState_56 rfl (ck_iload_n 59 rfl 3 dX12_windState_58 rfl rfl (ck_iconst 60 rfl dX12_windState_59 rfl (ck_iadd 61 rfl dX12_windState_60 (ck_iload_n 62 rfl 2 dX12_windState_61 rfl rfl (ck_icmp_ne 65 rfl 69 dX12_windState_62 rfl o14 hl.2.2.1 (fun c16 => (ck_iconst 70 rfl dX12_windState_69 rfl (ck_iast 71 rfl dX12_windState_70 sh_81 (shn_81 hC) o15 (show ck_i 0 by decide) (ck_aload_n 72 rfl 0 dX12_windState_71 rfl rfl (ck_getr 75 rfl dX12_windState_72 fl_X12_26 sh_76 rfl (ck_iload 77 rfl dX12_windState_75 rfl (ck_iconst 78 rfl dX12_windState_77 rfl (ck_zast 79 rfl dX12_windState_78 sh_82 (shn_82 hC) o15 (by decide) (ck_iconst 80 rfl dX12_windState_79 rfl (ck_istore 82 rfl [some (.inr (.inr 76)), some (.inl a1), some (.inl a2), some (.inl a3), some (.inl a4), some (.inl a5), some (.inl x3), some (.inl x12), some (.inl (-1)), none] dX12_windState_80 (Nat.le_of_ble_eq_true rfl) rfl rfl (show ck_i (-1) by decide) (ck_drop [some (.inr (.inr 76)), none, some (.inl a2), some (.inl a3), some (.inl a4), some (.inl a5), some (.inl x3), some (.inl x12), some (.inl (-1)), none] (And.intro rfl (And.intro rfl (And.intro rfl (And.intro rfl (And.intro rfl (And.intro rfl (And.intro rfl (And.intro rfl True.intro)))))))) (h35.1 c16)))))))))))) (fun c17 => (ck_iconst 66 rfl dX12_windState_65 rfl (ck_goto 70 dX12_windState_66 rfl (ck_iast 71 rfl dX12_windState_70 sh_81 (shn_81 hC) o15 (show ck_i 1 by decide) (ck_aload_n 72 rfl 0 dX12_windState_71 rfl rfl (ck_getr 75 rfl dX12_windState_72 fl_X12_26 sh_76 rfl (ck_iload 77 rfl dX12_windState_75 rfl (ck_iconst 78 rfl dX12_windState_77 rfl (ck_zast 79 rfl dX12_windState_78 sh_82 (shn_82 hC) o15 (by decide) (ck_iconst 80 rfl dX12_windState_79 rfl (ck_istore 82 rfl [some (.inr (.inr 76)), some (.inl a1), some (.inl a2), some (.inl a3), some (.inl a4), some (.inl a5), some (.inl x3), some (.inl x12), some (.inl (-1)), none] dX12_windState_80 (Nat.le_of_ble_eq_true rfl) rfl rfl (show ck_i (-1) by decide) (ck_drop [some (.inr (.inr 76)), none, some (.inl a2), some (.inl a3), some (.inl a4), some (.inl a5), some (.inl x3), some (.inl x12), some (.inl (-1)), none] (And.intro rfl (And.intro rfl (And.intro rfl (And.intro rfl (And.intro rfl (And.intro rfl (And.intro rfl (And.intro rfl True.intro)))))))) (h35.2 c17))))))))))))))))))))))))) (fun c22 => (ck_iload 47 rfl dX12_windState_45 rfl (ck_goto 51 dX12_windState_47 rfl (have h38 := (h33.2 c22); have o18 := h38.1; have h37 := h38.2; (ck_iast 52 rfl dX12_windState_51 sh_80 (shn_80 hC) o18 (by rw [e13]; exact q11) (ck_aload_n 53 rfl 0 dX12_windState_52 rfl rfl (ck_getr 56 rfl dX12_windState_53 fl_X12_23 sh_76 rfl (ck_iload 58 rfl dX12_windState_56 rfl (ck_iload_n 59 rfl 3 dX12_windState_58 rfl rfl (ck_iconst 60 rfl dX12_windState_59 rfl (ck_iadd 61 rfl dX12_windState_60 (ck_iload_n 62 rfl 2 dX12_windState_61 rfl rfl (ck_icmp_ne 65 rfl 69 dX12_windState_62 rfl o14 hl.2.2.1 (fun c19 => (ck_iconst 70 rfl dX12_windState_69 rfl (ck_iast 71 rfl dX12_windState_70 sh_81 (shn_81 hC) o18 (show ck_i 0 by decide) (ck_aload_n 72 rfl 0 dX12_windState_71 rfl rfl (ck_getr 75 rfl dX12_windState_72 fl_X12_26 sh_76 rfl (ck_iload 77 rfl dX12_windState_75 rfl (ck_iconst 78 rfl dX12_windState_77 rfl (ck_zast 79 rfl dX12_windState_78 sh_82 (shn_82 hC) o18 (by decide) (ck_iconst 80 rfl dX12_windState_79 rfl (ck_istore 82 rfl [some (.inr (.inr 76)), some (.inl a1), some (.inl a2), some (.inl a3), some (.inl a4), some (.inl a5), some (.inl x3), some (.inl x12), some (.inl (-1)), none] dX12_windState_80 (Nat.le_of_ble_eq_true rfl) rfl rfl (show ck_i (-1) by decide) (ck_drop [some (.inr (.inr 76)), none, some (.inl a2), some (.inl a3), some (.inl a4), some (.inl a5), some (.inl x3), some (.inl x12), some (.inl (-1)), none] (And.intro rfl (And.intro rfl (And.intro rfl (And.intro rfl (And.intro rfl (And.intro rfl (And.intro rfl (And.intro rfl True.intro)))))))) (h37.1 c19)))))))))))) (fun c20 => (ck_iconst 66 rfl dX12_windState_65 rfl (ck_goto 70 dX12_windState_66 rfl (ck_iast 71 rfl dX12_windState_70 sh_81 (shn_81 hC) o18 (show ck_i 1 by decide) (ck_aload_n 72 rfl 0 dX12_windState_71 rfl rfl (ck_getr 75 rfl dX12_windState_72 fl_X12_26 sh_76 rfl (ck_iload 77 rfl dX12_windState_75 rfl (ck_iconst 78 rfl dX12_windState_77 rfl (ck_zast 79 rfl dX12_windState_78 sh_82 (shn_82 hC) o18 (by decide) (ck_iconst 80 rfl dX12_windState_79 rfl (ck_istore 82 rfl [some (.inr (.inr 76)), some (.inl a1), some (.inl a2), some (.inl a3), some (.inl a4), some (.inl a5), some (.inl x3), some (.inl x12), some (.inl (-1)), none] dX12_windState_80 (Nat.le_of_ble_eq_true rfl) rfl rfl (show ck_i (-1) by decide) (ck_drop [some (.inr (.inr 76)), none, some (.inl a2), some (.inl a3), some (.inl a4), some (.inl a5), some (.inl x3), some (.inl x12), some (.inl (-1)), none] (And.intro rfl (And.intro rfl (And.intro rfl (And.intro rfl (And.intro rfl (And.intro rfl (And.intro rfl (And.intro rfl True.intro)))))))) (h37.2 c20))))))))))))))))))))))))))))))))))))))))))))))))))))))))))))))))))))))
set_option maxRecDepth 8000 in
theorem r_X12_windState_82 {g : ch_G} {A R : Nat} (hC : ck_Cx g A R) {d : Nat} {K : Option ck_V → ck_W → Prop} {w : ck_W} {a2 a3 a4 a5 a6 a7 a8 : Int} (h : (1 < a8 → K none w) ∧ (¬ 1 < a8 → ck_i (a3 + 1) ∧ ((a2 ≤ (a3 + 1) → K none w) ∧ (¬ a2 ≤ (a3 + 1) → ck_i (a4 + a8) ∧ ((((1 ≤ (w 76 0) ∧ (w 76 0) ≤ 6) ∧ (1 ≤ (w 76 1) ∧ (w 76 1) ≤ 1000)) ∧ (-1 ≤ a3 ∧ a3 ≤ 22) ∧ (-1000 ≤ a4 ∧ a4 ≤ 1000) ∧ (0 ≤ a5 ∧ a5 ≤ 1000)) ∧ ((rm_go (w 76 0) (w 76 1) (w 87 (a3 + 1)) a3 a4 a5 (a4 + a8) → (ck_i (3 * a5 + a8 + 1)) ∧ ((1 ≤ (w 76 2)) ∧ ((ck_i ((3 * a5 + a8 + 1).tmod (w 76 2))) ∧ ((ck_i ((12 * (a3 + 1) + (a4 + a8)) * 243 + ((3 * a5 + a8 + 1).tmod (w 76 2)))) ∧ (∀ x10, x10 = (12 * (a3 + 1) + (a4 + a8)) * 243 + ((3 * a5 + a8 + 1).tmod (w 76 2)) → (0 ≤ x10 ∧ x10 < 70000) ∧ (((w 80 x10) < 0 → ck_i (a8 + 1) ∧ (ck_At (ch_C g A R) (d + 3) mX12_windState K 82 [some (.inr (.inr 76)), none, some (.inl a2), some (.inl a3), some (.inl a4), some (.inl a5), some (.inl a6), some (.inl a7), some (.inl (a8 + 1)), none] [] w)) ∧ (¬ (w 80 x10) < 0 → (0 ≤ a6 ∧ a6 < 70000) ∧ (ck_i ((w 80 x10) + a7) ∧ (((w 80 a6) ≤ ((w 80 x10) + a7) → (¬ ((w 80 x10) + a7) = (w 80 a6) → ck_i (0 + (w 81 x10)) ∧ (∀ x24, x24 = (ck_up w 81 a6 (0 + (w 81 x10))) 81 a6 → (x24 ≤ 1000000 → ck_i (a8 + 1) ∧ (ck_At (ch_C g A R) (d + 3) mX12_windState K 82 [some (.inr (.inr 76)), none, some (.inl a2), some (.inl a3), some (.inl a4), some (.inl a5), some (.inl a6), some (.inl a7), some (.inl (a8 + 1)), none] [] (ck_up (ck_up w 81 a6 (0 + (w 81 x10))) 80 a6 ((w 80 x10) + a7)))) ∧ (¬ x24 ≤ 1000000 → ck_i (a8 + 1) ∧ (ck_At (ch_C g A R) (d + 3) mX12_windState K 82 [some (.inr (.inr 76)), none, some (.inl a2), some (.inl a3), some (.inl a4), some (.inl a5), some (.inl a6), some (.inl a7), some (.inl (a8 + 1)), none] [] (ck_up (ck_up (ck_up w 81 a6 (0 + (w 81 x10))) 81 a6 1000000) 80 a6 ((w 80 x10) + a7)))))) ∧ (((w 80 x10) + a7) = (w 80 a6) → ck_i ((w 81 a6) + (w 81 x10)) ∧ (∀ x37, x37 = (ck_up w 81 a6 ((w 81 a6) + (w 81 x10))) 81 a6 → (x37 ≤ 1000000 → ck_i (a8 + 1) ∧ (ck_At (ch_C g A R) (d + 3) mX12_windState K 82 [some (.inr (.inr 76)), none, some (.inl a2), some (.inl a3), some (.inl a4), some (.inl a5), some (.inl a6), some (.inl a7), some (.inl (a8 + 1)), none] [] (ck_up (ck_up w 81 a6 ((w 81 a6) + (w 81 x10))) 80 a6 ((w 80 x10) + a7)))) ∧ (¬ x37 ≤ 1000000 → ck_i (a8 + 1) ∧ (ck_At (ch_C g A R) (d + 3) mX12_windState K 82 [some (.inr (.inr 76)), none, some (.inl a2), some (.inl a3), some (.inl a4), some (.inl a5), some (.inl a6), some (.inl a7), some (.inl (a8 + 1)), none] [] (ck_up (ck_up (ck_up w 81 a6 ((w 81 a6) + (w 81 x10))) 81 a6 1000000) 80 a6 ((w 80 x10) + a7))))))) ∧ (¬ (w 80 a6) ≤ ((w 80 x10) + a7) → ck_i (a8 + 1) ∧ (ck_At (ch_C g A R) (d + 3) mX12_windState K 82 [some (.inr (.inr 76)), none, some (.inl a2), some (.inl a3), some (.inl a4), some (.inl a5), some (.inl a6), some (.inl a7), some (.inl (a8 + 1)), none] [] w))))))))))) ∧ (¬ (rm_go (w 76 0) (w 76 1) (w 87 (a3 + 1)) a3 a4 a5 (a4 + a8)) → ck_i (a8 + 1) ∧ (ck_At (ch_C g A R) (d + 3) mX12_windState K 82 [some (.inr (.inr 76)), none, some (.inl a2), some (.inl a3), some (.inl a4), some (.inl a5), some (.inl a6), some (.inl a7), some (.inl (a8 + 1)), none] [] w)))))))) : ck_At (ch_C g A R) (d + 3) mX12_windState K 82 [some (.inr (.inr 76)), none, some (.inl a2), some (.inl a3), some (.inl a4), some (.inl a5), some (.inl a6), some (.inl a7), some (.inl a8), none] [] w :=
  ck_in (fun hl => (ck_iload 84 rfl dX12_windState_82 rfl (ck_iconst 85 rfl dX12_windState_84 rfl (ck_icmp_gt 88 rfl 259 dX12_windState_85 rfl hl.2.2.2.2.2.2.2.1 (show ck_i 1 by decide) (fun c59 => (ck_vret dX12_windState_259 rfl (h.1 c59))) (fun c60 => (ck_iload_n 89 rfl 3 dX12_windState_88 rfl rfl (ck_iconst 90 rfl dX12_windState_89 rfl (ck_iadd 91 rfl dX12_windState_90 (ck_iload_n 92 rfl 2 dX12_windState_91 rfl rfl (have h62 := (h.2 c60); have o1 := h62.1; have h61 := h62.2; (ck_icmp_ge 95 rfl 259 dX12_windState_92 rfl o1 hl.2.1 (fun c57 => (ck_vret dX12_windState_259 rfl (h61.1 c57))) (fun c58 => (ck_aload_n 96 rfl 0 dX12_windState_95 rfl rfl (ck_iload_n 97 rfl 3 dX12_windState_96 rfl rfl (ck_iload 99 rfl dX12_windState_97 rfl (ck_iload 101 rfl dX12_windState_99 rfl (ck_iload 103 rfl dX12_windState_101 rfl (ck_iload 105 rfl dX12_windState_103 rfl (ck_iadd 106 rfl dX12_windState_105 (have h64 := (h61.2 c58); have o2 := h64.1; have h63 := h64.2; (have h66 := h63; have o3 := h66.1; have h65 := h66.2; (have h56 := h65; ck_callV 109 rfl [.inl a3, .inl a4, .inl a5, .inl (a4 + a8)] [] dX12_windState_106 cv_X12_123 sh_76 rfl rfl (Nat.le_of_ble_eq_true rfl) (And.intro hl.2.2.1 (And.intro hl.2.2.2.1 (And.intro hl.2.2.2.2.1 (And.intro o2 True.intro)))) (p_X12_mayGo hC o3 (fun c54 _ => (ck_if_ne 112 rfl 115 dX12_windState_109 rfl (by decide) (fun _ => (ck_iload_n 116 rfl 3 dX12_windState_115 rfl rfl (ck_iconst 117 rfl dX12_windState_116 rfl (ck_iadd 118 rfl dX12_windState_117 (ck_iload 120 rfl dX12_windState_118 rfl (ck_iload 122 rfl dX12_windState_120 rfl (ck_iadd 123 rfl dX12_windState_122 (ck_aload_n 124 rfl 0 dX12_windState_123 rfl rfl (ck_iload 126 rfl dX12_windState_124 rfl (ck_iload 128 rfl dX12_windState_126 rfl (have h68 := (h56.1 c54); have o4 := h68.1; have h67 := h68.2; (have h70 := h67; have o5 := h70.1; have h69 := h70.2; (have h72 := h69; have o6 := h72.1; have h71 := h72.2; (ck_callV 131 rfl [.inl a5, .inl a8] [.inl (a4 + a8), .inl (a3 + 1)] dX12_windState_128 cv_X12_127 sh_76 rfl rfl (Nat.le_of_ble_eq_true rfl) (And.intro hl.2.2.2.2.1 (And.intro hl.2.2.2.2.2.2.2.1 True.intro)) (p_X12_nextCode hC o4 o5 o6 (fun q7 => (have h74 := h71; have o8 := h74.1; have h73 := h74.2; (ck_callS 134 rfl [.inl (a3 + 1), .inl (a4 + a8), .inl ((3 * a5 + a8 + 1).tmod (w 76 2))] [] dX12_windState_131 cs_X12_120 rfl rfl (Nat.le_of_ble_eq_true rfl) (And.intro o1 (And.intro o2 (And.intro q7.1 True.intro))) (p_X12_state hC o8 (fun q9 => (ck_nmi (fun x10 e11 => (ck_istore 136 rfl [some (.inr (.inr 76)), none, some (.inl a2), some (.inl a3), some (.inl a4), some (.inl a5), some (.inl a6), some (.inl a7), some (.inl a8), some (.inl x10)] dX12_windState_134 (Nat.le_of_ble_eq_true rfl) rfl rfl (by rw [e11]; exact q9.1) (ck_aload_n 137 rfl 0 dX12_windState_136 rfl rfl (ck_getr 140 rfl dX12_windState_137 fl_X12_20 sh_76 rfl (ck_iload 142 rfl dX12_windState_140 rfl (have h76 := (h73 x10 e11); have o12 := h76.1; have h75 := h76.2; (ck_iald 143 rfl dX12_windState_142 sh_80 (shn_80 hC) o12 _ rfl (fun (q13 : ck_i (w 80 x10)) => (ck_if_lt 146 rfl 253 dX12_windState_143 rfl q13 (fun c51 => (have h78 := (h75.1 c51); have o14 := h78.1; have h77 := h78.2; (ck_iinc 256 rfl [some (.inr (.inr 76)), none, some (.inl a2), some (.inl a3), some (.inl a4), some (.inl a5), some (.inl a6), some (.inl a7), some (.inl (a8 + 1)), some (.inl x10)] dX12_windState_253 rfl (Nat.le_of_ble_eq_true rfl) rfl rfl o14 (ck_goto 82 dX12_windState_256 rfl (ck_drop [some (.inr (.inr 76)), none, some (.inl a2), some (.inl a3), some (.inl a4), some (.inl a5), some (.inl a6), some (.inl a7), some (.inl (a8 + 1)), none] (And.intro rfl (And.intro rfl (And.intro rfl (And.intro rfl (And.intro rfl (And.intro rfl (And.intro rfl (And.intro rfl True.intro)))))))) h77))))) (fun c52 => (ck_aload_n 147 rfl 0 dX12_windState_146 rfl rfl (ck_getr 150 rfl dX12_windState_147 fl_X12_20 sh_76 rfl (ck_iload 152 rfl dX12_windState_150 rfl (ck_iald 153 rfl dX12_windState_152 sh_80 (shn_80 hC) o12 _ rfl (fun (q15 : ck_i (w 80 x10)) => (ck_iload 155 rfl dX12_windState_153 rfl (ck_iadd 156 rfl dX12_windState_155 (ck_aload_n 157 rfl 0 dX12_windState_156 rfl rfl (ck_getr 160 rfl dX12_windState_157 fl_X12_20 sh_76 rfl (ck_iload 162 rfl dX12_windState_160 rfl (have h80 := (h75.2 c52); have o16 := h80.1; have h79 := h80.2; (ck_iald 163 rfl dX12_windState_162 sh_80 (shn_80 hC) o16 _ rfl (fun (q17 : ck_i (w 80 a6)) => (have h82 := h79; have o18 := h82.1; have h81 := h82.2; (ck_icmp_ge 166 rfl 169 dX12_windState_163 rfl o18 q17 (fun c49 => (ck_aload_n 170 rfl 0 dX12_windState_169 rfl rfl (ck_getr 173 rfl dX12_windState_170 fl_X12_23 sh_76 rfl (ck_iload 175 rfl dX12_windState_173 rfl (ck_aload_n 176 rfl 0 dX12_windState_175 rfl rfl (ck_getr 179 rfl dX12_windState_176 fl_X12_20 sh_76 rfl (ck_iload 181 rfl dX12_windState_179 rfl (ck_iald 182 rfl dX12_windState_181 sh_80 (shn_80 hC) o12 _ rfl (fun (q19 : ck_i (w 80 x10)) => (ck_iload 184 rfl dX12_windState_182 rfl (ck_iadd 185 rfl dX12_windState_184 (ck_aload_n 186 rfl 0 dX12_windState_185 rfl rfl (ck_getr 189 rfl dX12_windState_186 fl_X12_20 sh_76 rfl (ck_iload 191 rfl dX12_windState_189 rfl (ck_iald 192 rfl dX12_windState_191 sh_80 (shn_80 hC) o16 _ rfl (fun (q20 : ck_i (w 80 a6)) => (have h83 := (h81.1 c49); (ck_icmp_ne 195 rfl 205 dX12_windState_192 rfl o18 q20 (fun c46 => (ck_iconst 206 rfl dX12_windState_205 rfl (ck_aload_n 207 rfl 0 dX12_windState_206 rfl rfl (ck_getr 210 rfl dX12_windState_207 fl_X12_23 sh_76 rfl (ck_iload 212 rfl dX12_windState_210 rfl (ck_iald 213 rfl dX12_windState_212 sh_81 (shn_81 hC) o12 _ rfl (fun (q21 : ck_i (w 81 x10)) => (ck_iadd 214 rfl dX12_windState_213 (have h85 := (h83.1 c46); have o22 := h85.1; have h84 := h85.2; (ck_iast 215 rfl dX12_windState_214 sh_81 (shn_81 hC) o16 o22 (ck_aload_n 216 rfl 0 dX12_windState_215 rfl rfl (ck_getr 219 rfl dX12_windState_216 fl_X12_23 sh_76 rfl (ck_iload 221 rfl dX12_windState_219 rfl (ck_iald 222 rfl dX12_windState_221 sh_81 (shn_81 hC) o16 _ rfl (fun (q23 : ck_i ((ck_up w 81 a6 (0 + (w 81 x10))) 81 a6)) => ck_nmi (fun x24 e25 => (have q26 : ck_i x24 := (by rw [e25]; exact q23); (ck_ldc 224 rfl 1000000 kc_X12_130 dX12_windState_222 rfl (have h86 := (h84 x24 e25); (ck_icmp_le 227 rfl 236 dX12_windState_224 rfl q26 (show ck_i 1000000 by decide) (fun c31 => (ck_aload_n 237 rfl 0 dX12_windState_236 rfl rfl (ck_getr 240 rfl dX12_windState_237 fl_X12_20 sh_76 rfl (ck_iload 242 rfl dX12_windState_240 rfl (ck_aload_n 243 rfl 0 dX12_windState_242 rfl rfl (ck_getr 246 rfl dX12_windState_243 fl_X12_20 sh_76 rfl (ck_iload 248 rfl dX12_windState_246 rfl (ck_iald 249 rfl dX12_windState_248 sh_80 (shn_80 hC) o12 _ rfl (fun (q27 : ck_i (w 80 x10)) => (ck_iload 251 rfl dX12_windState_249 rfl (ck_iadd 252 rfl dX12_windState_251 (ck_iast 253 rfl dX12_windState_252 sh_80 (shn_80 hC) o16 o18 (have h88 := (h86.1 c31); have o28 := h88.1; have h87 := h88.2; (ck_iinc 256 rfl [some (.inr (.inr 76)), none, some (.inl a2), some (.inl a3), some (.inl a4), some (.inl a5), some (.inl a6), some (.inl a7), some (.inl (a8 + 1)), some (.inl x10)] dX12_windState_253 rfl (Nat.le_of_ble_eq_true rfl) rfl rfl o28 (ck_goto 82 dX12_windState_256 rfl (ck_drop [some (.inr (.inr 76)), none, some (.inl a2), some (.inl a3), some (.inl a4), some (.inl a5), some (.inl a6), some (.inl a7), some (.inl (a8 + 1)), none] (And.intro rfl (And.intro rfl (And.intro rfl (And.intro rfl (And.intro rfl (And.intro rfl (And.intro rfl (And.intro rfl True.intro)))))))) h87)))))))))))))))) (fun c32 => (ck_aload_n 228 rfl 0 dX12_windState_227 rfl rfl (ck_getr 231 rfl dX12_windState_228 fl_X12_23 sh_76 rfl (ck_iload 233 rfl dX12_windState_231 rfl (ck_ldc 235 rfl 1000000 kc_X12_130 dX12_windState_233 rfl (ck_iast 236 rfl dX12_windState_235 sh_81 (shn_81 hC) o16 (show ck_i 1000000 by decide) (ck_aload_n 237 rfl 0 dX12_windState_236 rfl rfl (ck_getr 240 rfl dX12_windState_237 fl_X12_20 sh_76 rfl (ck_iload 242 rfl dX12_windState_240 rfl (ck_aload_n 243 rfl 0 dX12_windState_242 rfl rfl (ck_getr 246 rfl dX12_windState_243 fl_X12_20 sh_76 rfl (ck_iload 248 rfl dX12_windState_246 rfl (ck_iald 249 rfl dX12_windState_248 sh_80 (shn_80 hC) o12 _ rfl (fun (q29 : ck_i (w 80 x10)) => (ck_iload 251 rfl dX12_windState_249 rfl (ck_iadd 252 rfl dX12_windState_251 (ck_iast 253 rfl dX12_windState_252 sh_80 (shn_80 hC) o16 o18 (have h90 := (h86.2 c32); have o30 := h90.1; have h89 := h90.2; (ck_iinc 256 rfl [some (.inr (.inr 76)), none, some (.inl a2), some (.inl a3), some (.inl a4), some (.inl a5), some (.inl a6), some (.inl a7), some (.inl (a8 + 1)), some (.inl x10)] dX12_windState_253 rfl (Nat.le_of_ble_eq_true rfl) rfl rfl o30 (ck_goto 82 dX12_windState_256 rfl (ck_drop [some (.inr (.inr 76)), none, some (.inl a2), some (.inl a3), some (.inl a4), some (.inl a5), some (.inl a6), some (.inl a7), some (.inl (a8 + 1)), none] (And.intro rfl (And.intro rfl (And.intro rfl (And.intro rfl (And.intro rfl (And.intro rfl (And.intro rfl (And.intro rfl True.intro)))))))) h89))))))))))))))))))))))))))))))))))))))))) (fun c47 => (ck_aload_n 196 rfl 0 dX12_windState_195 rfl rfl (ck_getr 199 rfl dX12_windState_196 fl_X12_23 sh_76 rfl (ck_iload 201 rfl dX12_windState_199 rfl (ck_iald 202 rfl dX12_windState_201 sh_81 (shn_81 hC) o16 _ rfl (fun (q33 : ck_i (w 81 a6)) => (ck_goto 206 dX12_windState_202 rfl (ck_aload_n 207 rfl 0 dX12_windState_206 rfl rfl (ck_getr 210 rfl dX12_windState_207 fl_X12_23 sh_76 rfl (ck_iload 212 rfl dX12_windState_210 rfl (ck_iald 213 rfl dX12_windState_212 sh_81 (shn_81 hC) o12 _ rfl (fun (q34 : ck_i (w 81 x10)) => (ck_iadd 214 rfl dX12_windState_213 (have h92 := (h83.2 c47); have o35 := h92.1; have h91 := h92.2; (ck_iast 215 rfl dX12_windState_214 sh_81 (shn_81 hC) o16 o35 (ck_aload_n 216 rfl 0 dX12_windState_215 rfl rfl (ck_getr 219 rfl dX12_windState_216 fl_X12_23 sh_76 rfl (ck_iload 221 rfl dX12_windState_219 rfl (ck_iald 222 rfl dX12_windState_221 sh_81 (shn_81 hC) o16 _ rfl (fun (q36 : ck_i ((ck_up w 81 a6 ((w 81 a6) + (w 81 x10))) 81 a6)) => ck_nmi (fun x37 e38 => (have q39 : ck_i x37 := (by rw [e38]; exact q36); (ck_ldc 224 rfl 1000000 kc_X12_130 dX12_windState_222 rfl (have h93 := (h91 x37 e38); (ck_icmp_le 227 rfl 236 dX12_windState_224 rfl q39 (show ck_i 1000000 by decide) (fun c44 => (ck_aload_n 237 rfl 0 dX12_windState_236 rfl rfl (ck_getr 240 rfl dX12_windState_237 fl_X12_20 sh_76 rfl (ck_iload 242 rfl dX12_windState_240 rfl (ck_aload_n 243 rfl 0 dX12_windState_242 rfl rfl (ck_getr 246 rfl dX12_windState_243 fl_X12_20 sh_76 rfl (ck_iload 248 rfl dX12_windState_246 rfl (ck_iald 249 rfl dX12_windState_248 sh_80 (shn_80 hC) o12 _ rfl (fun (q40 : ck_i (w 80 x10)) => (ck_iload 251 rfl dX12_windState_249 rfl (ck_iadd 252 rfl dX12_windState_251 (ck_iast 253 rfl dX12_windState_252 sh_80 (shn_80 hC) o16 o18 (have h95 := (h93.1 c44); have o41 := h95.1; have h94 := h95.2; (ck_iinc 256 rfl [some (.inr (.inr 76)), none, some (.inl a2), some (.inl a3), some (.inl a4), some (.inl a5), some (.inl a6), some (.inl a7), some (.inl (a8 + 1)), some (.inl x10)] dX12_windState_253 rfl (Nat.le_of_ble_eq_true rfl) rfl rfl o41 (ck_goto 82 dX12_windState_256 rfl (ck_drop [some (.inr (.inr 76)), none, some (.inl a2), some (.inl a3), some (.inl a4), some (.inl a5), some (.inl a6), some (.inl a7), some (.inl (a8 + 1)), none] (And.intro rfl (And.intro rfl (And.intro rfl (And.intro rfl (And.intro rfl (And.intro rfl (And.intro rfl (And.intro rfl True.intro)))))))) h94)))))))))))))))) (fun c45 => (ck_aload_n 228 rfl 0 dX12_windState_227 rfl rfl (ck_getr 231 rfl dX12_windState_228 fl_X12_23 sh_76 rfl (ck_iload 233 rfl dX12_windState_231 rfl (ck_ldc 235 rfl 1000000 kc_X12_130 dX12_windState_233 rfl (ck_iast 236 rfl dX12_windState_235 sh_81 (shn_81 hC) o16 (show ck_i 1000000 by decide) (ck_aload_n 237 rfl 0 dX12_windState_236 rfl rfl (ck_getr 240 rfl dX12_windState_237 fl_X12_20 sh_76 rfl (ck_iload 242 rfl dX12_windState_240 rfl (ck_aload_n 243 rfl 0 dX12_windState_242 rfl rfl (ck_getr 246 rfl dX12_windState_243 fl_X12_20 sh_76 rfl (ck_iload 248 rfl dX12_windState_246 rfl (ck_iald 249 rfl dX12_windState_248 sh_80 (shn_80 hC) o12 _ rfl (fun (q42 : ck_i (w 80 x10)) => (ck_iload 251 rfl dX12_windState_249 rfl (ck_iadd 252 rfl dX12_windState_251 (ck_iast 253 rfl dX12_windState_252 sh_80 (shn_80 hC) o16 o18 (have h97 := (h93.2 c45); have o43 := h97.1; have h96 := h97.2; (ck_iinc 256 rfl [some (.inr (.inr 76)), none, some (.inl a2), some (.inl a3), some (.inl a4), some (.inl a5), some (.inl a6), some (.inl a7), some (.inl (a8 + 1)), some (.inl x10)] dX12_windState_253 rfl (Nat.le_of_ble_eq_true rfl) rfl rfl o43 (ck_goto 82 dX12_windState_256 rfl (ck_drop [some (.inr (.inr 76)), none, some (.inl a2), some (.inl a3), some (.inl a4), some (.inl a5), some (.inl a6), some (.inl a7), some (.inl (a8 + 1)), none] (And.intro rfl (And.intro rfl (And.intro rfl (And.intro rfl (And.intro rfl (And.intro rfl (And.intro rfl (And.intro rfl True.intro)))))))) h96)))))))))))))))))))))))))))))))))))))))))))))))))))))))))))))))) (fun c50 => (ck_goto 253 dX12_windState_166 rfl (have h99 := (h81.2 c50); have o48 := h99.1; have h98 := h99.2; (ck_iinc 256 rfl [some (.inr (.inr 76)), none, some (.inl a2), some (.inl a3), some (.inl a4), some (.inl a5), some (.inl a6), some (.inl a7), some (.inl (a8 + 1)), some (.inl x10)] dX12_windState_253 rfl (Nat.le_of_ble_eq_true rfl) rfl rfl o48 (ck_goto 82 dX12_windState_256 rfl (ck_drop [some (.inr (.inr 76)), none, some (.inl a2), some (.inl a3), some (.inl a4), some (.inl a5), some (.inl a6), some (.inl a7), some (.inl (a8 + 1)), none] (And.intro rfl (And.intro rfl (And.intro rfl (And.intro rfl (And.intro rfl (And.intro rfl (And.intro rfl (And.intro rfl True.intro)))))))) h98)))))))))))))))))))))))))))))))))))))))))))))))))))) (fun q => absurd q (by decide)))) (fun c55 _ => (ck_if_ne 112 rfl 115 dX12_windState_109 rfl (by decide) (fun q => absurd q (by decide)) (fun _ => (ck_goto 253 dX12_windState_112 rfl (have h101 := (h56.2 c55); have o53 := h101.1; have h100 := h101.2; (ck_iinc 256 rfl [some (.inr (.inr 76)), none, some (.inl a2), some (.inl a3), some (.inl a4), some (.inl a5), some (.inl a6), some (.inl a7), some (.inl (a8 + 1)), none] dX12_windState_253 rfl (Nat.le_of_ble_eq_true rfl) rfl rfl o53 (ck_goto 82 dX12_windState_256 rfl h100))))))))))))))))))))))))))))))
theorem L_X12_windState {g : ch_G} {A R : Nat} (hC : ck_Cx g A R) {d : Nat} {K : Option ck_V → ck_W → Prop} {w : ck_W} {a2 a3 a4 a5 a6 a7 a8 : Int} {u : ck_W} (s : Int × Int) (hI : rm_I A R w) (n : Nat) (hn : 2 - a8 = n) (h8 : -1 ≤ a8) (h3 : 0 ≤ a3 ∧ a3 + 1 < a2 ∧ a2 ≤ 24) (h4 : 0 ≤ a4 ∧ a4 < (R : Int)) (h5 : 0 ≤ a5 ∧ a5 < w 76 2) (h6 : a6 = rm_x a3 a4 a5) (h7 : 0 ≤ a7 ∧ a7 ≤ 9)
    (hf : ∀ r c, 0 ≤ r → r < (R : Int) → 0 ≤ c → c < w 76 2 → (-1 ≤ w 80 (rm_x (a3 + 1) r c) ∧ w 80 (rm_x (a3 + 1) r c) ≤ 1000) ∧ (0 ≤ w 81 (rm_x (a3 + 1) r c) ∧ w 81 (rm_x (a3 + 1) r c) ≤ 1000000))
    (hu : (∀ k, k ≠ 80 → k ≠ 81 → u k = w k) ∧ (∀ j, j ≠ a6 → u 80 j = w 80 j ∧ u 81 j = w 81 j) ∧ u 80 a6 = s.1 ∧ u 81 a6 = s.2) (hs : (-1 ≤ s.1 ∧ s.1 ≤ 1009) ∧ (0 ≤ s.2 ∧ s.2 ≤ 1000000))
    (h : ∀ w', (∀ k, k ≠ 80 → k ≠ 81 → w' k = w k) → (∀ j, j ≠ a6 → w' 80 j = w 80 j ∧ w' 81 j = w 81 j) → (n = 3 → (w' 80 a6, w' 81 a6) = rm_s1 w a7 a3 a4 a5 1 (rm_s1 w a7 a3 a4 a5 0 (rm_s1 w a7 a3 a4 a5 (-1) s))) → (n = 2 → (w' 80 a6, w' 81 a6) = rm_s1 w a7 a3 a4 a5 1 (rm_s1 w a7 a3 a4 a5 0 s)) → (n = 1 → (w' 80 a6, w' 81 a6) = rm_s1 w a7 a3 a4 a5 1 s) → (n = 0 → (w' 80 a6, w' 81 a6) = s) → K none w') :
    ck_At (ch_C g A R) (d + 3) mX12_windState K 82 [some (.inr (.inr 76)), none, some (.inl a2), some (.inl a3), some (.inl a4), some (.inl a5), some (.inl a6), some (.inl a7), some (.inl a8), none] [] u := by
  have c := rm_cp hC hI
  induction n generalizing a8 u s with
  | zero => exact r_X12_windState_82 hC ⟨fun _ => h u hu.1 hu.2.1 (fun z => by omega) (fun z => by omega) (fun z => by omega) (fun _ => Prod.ext hu.2.2.1 hu.2.2.2), fun q => absurd (by omega) q⟩
  | succ n ih =>
    have u76 := hu.1 76 (by decide) (by decide)
    have u87 := hu.1 87 (by decide) (by decide)
    -- one change
    have one : ∀ u', (∀ k, k ≠ 80 → k ≠ 81 → u' k = w k) → (∀ j, j ≠ a6 → u' 80 j = w 80 j ∧ u' 81 j = w 81 j) → (u' 80 a6, u' 81 a6) = rm_s1 w a7 a3 a4 a5 a8 s → (-1 ≤ u' 80 a6 ∧ u' 80 a6 ≤ 1009) ∧ (0 ≤ u' 81 a6 ∧ u' 81 a6 ≤ 1000000) → ck_At (ch_C g A R) (d + 3) mX12_windState K 82 [some (.inr (.inr 76)), none, some (.inl a2), some (.inl a3), some (.inl a4), some (.inl a5), some (.inl a6), some (.inl a7), some (.inl (a8 + 1)), none] [] u' := by
      intro u' i1 i2 i3 i4
      refine ih (a8 := a8 + 1) (u := u') (rm_s1 w a7 a3 a4 a5 a8 s) (by omega) (by omega) ⟨i1, i2, by rw [← i3], by rw [← i3]⟩ (by rw [← i3]; exact i4) (fun w' k1 k2 k3 k4 k5 k6 => h w' k1 k2 ?_ ?_ ?_ ?_)
      · intro z
        obtain rfl : a8 = -1 := by omega
        exact k4 (by omega)
      · intro z
        obtain rfl : a8 = 0 := by omega
        exact k5 (by omega)
      · intro z
        obtain rfl : a8 = 1 := by omega
        exact k6 (by omega)
      · intro z; omega
    have nb := rm_ncb (m := w 76 2) (c := a5) (e := a8) (by omega) (by omega)
    have nb' : 0 ≤ (3 * a5 + a8 + 1).tmod (w 76 2) ∧ (3 * a5 + a8 + 1).tmod (w 76 2) < w 76 2 := nb
    refine r_X12_windState_82 hC ⟨fun q => absurd q (by omega), fun _ => ⟨by constructor <;> omega, fun q => absurd q (by omega), fun _ => ⟨by constructor <;> omega, ?_⟩⟩⟩
    rw [u76, u87]
    refine ⟨by omega, fun go => ?_, fun go => ⟨by constructor <;> omega, one u hu.1 hu.2.1 (by rw [rm_s1, if_neg go]; exact Prod.ext hu.2.2.1 hu.2.2.2) (by rw [hu.2.2.1, hu.2.2.2]; exact hs)⟩⟩
    have gg := go.1
    refine ⟨by constructor <;> omega, by omega, by constructor <;> omega, by constructor <;> omega, fun x ex => ?_⟩
    have xne : x ≠ a6 := by rw [ex, h6]; unfold rm_x; omega
    have fx := hf (a4 + a8) (rm_nc (w 76 2) a5 a8) (by omega) (by omega) nb.1 nb.2
    have ux := hu.2.1 x xne
    have ex' : x = rm_x (a3 + 1) (a4 + a8) (rm_nc (w 76 2) a5 a8) := ex
    rw [← ex'] at fx
    have bx : 0 ≤ x ∧ x < 70000 := by rw [ex']; unfold rm_x; omega
    have b6 : 0 ≤ a6 ∧ a6 < 70000 := by rw [h6]; unfold rm_x; omega
    have st : rm_s1 w a7 a3 a4 a5 a8 s = rm_cb s (w 80 x) a7 (w 81 x) := by rw [rm_s1, if_pos go, ex']
    rw [ux.1, ux.2, hu.2.2.1]
    refine ⟨bx, fun q => ⟨by constructor <;> omega, one u hu.1 hu.2.1 (by rw [st, rm_cb, if_pos (Or.inl q)]; exact Prod.ext hu.2.2.1 hu.2.2.2) (by rw [hu.2.2.1, hu.2.2.2]; exact hs)⟩, fun q => ⟨b6, by constructor <;> omega, fun q2 => ?_, fun q2 => ⟨by constructor <;> omega, one u hu.1 hu.2.1 (by rw [st, rm_cb, if_pos (Or.inr (by omega))]; exact Prod.ext hu.2.2.1 hu.2.2.2) (by rw [hu.2.2.1, hu.2.2.2]; exact hs)⟩⟩⟩
    -- a new world: fit v, number m
    have new : ∀ m, m = min ((if w 80 x + a7 = s.1 then s.2 else 0) + w 81 x) 1000000 → ∀ u', (∀ k, k ≠ 80 → k ≠ 81 → u' k = u k) → (∀ j, j ≠ a6 → u' 80 j = u 80 j ∧ u' 81 j = u 81 j) → u' 80 a6 = w 80 x + a7 → u' 81 a6 = m → ck_At (ch_C g A R) (d + 3) mX12_windState K 82 [some (.inr (.inr 76)), none, some (.inl a2), some (.inl a3), some (.inl a4), some (.inl a5), some (.inl a6), some (.inl a7), some (.inl (a8 + 1)), none] [] u' := by
      intro m em u' i1 i2 i3 i4
      refine one u' (fun k k1 k2 => by rw [i1 k k1 k2, hu.1 k k1 k2]) (fun j hj => by rw [(i2 j hj).1, (i2 j hj).2]; exact hu.2.1 j hj) (by rw [st, rm_cb, if_neg (by omega), i3, i4, em]) ?_
      rw [i3, i4, em]
      refine ⟨by omega, ?_⟩
      split <;> omega
    refine ⟨fun q3 => ?_, fun q3 => ?_⟩
    · refine ⟨by constructor <;> omega, fun y ey => ?_⟩
      rw [ck_up_eq] at ey
      subst ey
      refine ⟨fun q4 => ⟨by constructor <;> omega, new (0 + w 81 x) (by rw [if_neg q3]; omega) _ (fun k k1 k2 => by rw [ck_up_ne k1, ck_up_ne k2]) (fun j hj => ⟨by rw [ck_up_nj hj]; rfl, by rw [ck_up_ne (by decide), ck_up_nj hj]⟩) ck_up_eq (by rw [ck_up_ne (by decide), ck_up_eq])⟩, fun q4 => ⟨by constructor <;> omega, new 1000000 (by rw [if_neg q3]; omega) _ (fun k k1 k2 => by rw [ck_up_ne k1, ck_up_ne k2, ck_up_ne k2]) (fun j hj => ⟨by rw [ck_up_nj hj]; rfl, by rw [ck_up_ne (by decide), ck_up_nj hj, ck_up_nj hj]⟩) ck_up_eq (by rw [ck_up_ne (by decide), ck_up_eq])⟩⟩
    · rw [hu.2.2.2]
      refine ⟨by constructor <;> omega, fun y ey => ?_⟩
      rw [ck_up_eq] at ey
      subst ey
      refine ⟨fun q4 => ⟨by constructor <;> omega, new (s.2 + w 81 x) (by rw [if_pos q3]; omega) _ (fun k k1 k2 => by rw [ck_up_ne k1, ck_up_ne k2]) (fun j hj => ⟨by rw [ck_up_nj hj]; rfl, by rw [ck_up_ne (by decide), ck_up_nj hj]⟩) ck_up_eq (by rw [ck_up_ne (by decide), ck_up_eq])⟩, fun q4 => ⟨by constructor <;> omega, new 1000000 (by rw [if_pos q3]; omega) _ (fun k k1 k2 => by rw [ck_up_ne k1, ck_up_ne k2, ck_up_ne k2]) (fun j hj => ⟨by rw [ck_up_nj hj]; rfl, by rw [ck_up_ne (by decide), ck_up_nj hj, ck_up_nj hj]⟩) ck_up_eq (by rw [ck_up_ne (by decide), ck_up_eq])⟩⟩
theorem S_X12_windState {g : ch_G} {A R : Nat} (hC : ck_Cx g A R) {d : Nat} {K : Option ck_V → ck_W → Prop} {w : ck_W} {a1 a2 a3 a4 a5 : Int} (hI : rm_I A R w) (h1 : 0 ≤ a1 ∧ a1 ≤ 5) (h3 : 0 ≤ a3 ∧ a3 < a2 ∧ a2 ≤ 24) (h4 : 0 ≤ a4 ∧ a4 < (R : Int)) (h5 : 0 ≤ a5 ∧ a5 < w 76 2)
    (hf : a3 + 1 < a2 → ∀ r c, 0 ≤ r → r < (R : Int) → 0 ≤ c → c < w 76 2 → (-1 ≤ w 80 (rm_x (a3 + 1) r c) ∧ w 80 (rm_x (a3 + 1) r c) ≤ 1000) ∧ (0 ≤ w 81 (rm_x (a3 + 1) r c) ∧ w 81 (rm_x (a3 + 1) r c) ≤ 1000000))
    (h : ∀ w', (∀ k, k ≠ 80 → k ≠ 81 → k ≠ 82 → w' k = w k) → (∀ j, j ≠ rm_x a3 a4 a5 → w' 80 j = w 80 j ∧ w' 81 j = w 81 j ∧ w' 82 j = w 82 j) → (w' 80 (rm_x a3 a4 a5), w' 81 (rm_x a3 a4 a5)) = rm_ws w a1 a2 a3 a4 a5 → w' 82 (rm_x a3 a4 a5) = 0 → K none w') :
    ck_Ex (ch_C g A R) (d + 3) mX12_windState [.inr (.inr 76), .inl a1, .inl a2, .inl a3, .inl a4, .inl a5] w K := by
  have c := rm_cp hC hI
  have t := rm_tmb (p := a3) (a := w 76 0) (by omega) h3.1
  have gb := rm_grb hC hI (z := a1) (p := a3) (r := a4) h1 h3.1 h4
  have bx : 0 ≤ rm_x a3 a4 a5 ∧ rm_x a3 a4 a5 < 70000 := by unfold rm_x; omega
  refine e_X12_windState hC ⟨by unfold rm_x at bx; constructor <;> omega, fun x ex => ?_⟩
  obtain rfl : x = rm_x a3 a4 a5 := ex
  refine ⟨by omega, by constructor <;> omega, by constructor <;> omega, by omega, fun y ey => ?_⟩
  obtain rfl : y = rm_gr w a1 a3 a4 := ey
  refine ⟨by constructor <;> omega, fun q => ⟨bx, fun _ => ?_, fun q' => absurd q' q⟩, fun q => ⟨bx, fun q' => absurd q q', fun _ => ?_⟩⟩
  · refine L_X12_windState hC (w := ck_up w 82 (rm_x a3 a4 a5) 0) (-1, 0) (by exact hI) 3 (by omega) (by omega) (by omega) h4 h5 rfl gb (fun r c => hf (by omega) r c) ⟨fun k k1 k2 => ?_, fun j hj => ⟨?_, ?_⟩, ?_, ?_⟩ ⟨by decide, by decide⟩ (fun w' k1 k2 k3 k4 k5 k6 => ?_)
    · by_cases e : k = 82
      · subst e; rw [ck_up_row, ck_up_row, ck_up_ne (by decide), ck_up_ne (by decide)]
      · rw [ck_up_ne e, ck_up_ne k2, ck_up_ne k1, ck_up_ne e]
    · rw [ck_up_ne (by decide), ck_up_ne (by decide), ck_up_nj hj, ck_up_ne (by decide)]
    · rw [ck_up_ne (by decide), ck_up_nj hj, ck_up_ne (by decide), ck_up_ne (by decide)]
    · rw [ck_up_ne (by decide), ck_up_ne (by decide), ck_up_eq]
    · rw [ck_up_ne (by decide), ck_up_eq]
    · have k3' := k3 rfl
      refine h w' (fun k q1 q2 q3 => by rw [k1 k q1 q2, ck_up_ne q3]) (fun j hj => ⟨(k2 j hj).1, (k2 j hj).2, by rw [k1 82 (by decide) (by decide), ck_up_nj hj]⟩) ?_ (by rw [k1 82 (by decide) (by decide), ck_up_eq])
      rw [k3', rm_ws, if_neg q]
      rfl
  · refine r_X12_windState_82 hC ⟨fun q' => absurd q' (by decide), fun _ => ⟨by constructor <;> omega, fun _ => ?_, fun q' => absurd (by omega) q'⟩⟩
    refine h _ (fun k k1 k2 k3 => by rw [ck_up_ne k3, ck_up_ne k2, ck_up_ne k1]) (fun j hj => ⟨?_, ?_, by rw [ck_up_nj hj]; rfl⟩) ?_ ck_up_eq
    · rw [ck_up_ne (by decide), ck_up_ne (by decide), ck_up_nj hj]
    · rw [ck_up_ne (by decide), ck_up_nj hj, ck_up_ne (by decide)]
    · rw [rm_ws, if_pos q, ck_up_ne (by decide), ck_up_ne (by decide), ck_up_eq, ck_up_ne (by decide), ck_up_eq]
