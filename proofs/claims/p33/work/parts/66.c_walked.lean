/-! ===== the class: walks explained ===== -/
/-- of three the first that costs least -/
def cx_nx (f : Int → Int) (s : Int) : Int := if f (s + 1) < f (if f s < f (s - 1) then s else s - 1) then s + 1 else if f s < f (s - 1) then s else s - 1
theorem cx_nxb {f : Int → Int} {s : Int} : s - 1 ≤ cx_nx f s ∧ cx_nx f s ≤ s + 1 := by
  unfold cx_nx
  split
  · omega
  · split <;> omega
theorem cx_nx_fr {f g : Int → Int} {s : Int} (h : ∀ x, s - 1 ≤ x → x ≤ s + 1 → f x = g x) : cx_nx f s = cx_nx g s := by
  have e0 := h (s - 1) (by omega) (by omega)
  have e1 := h s (by omega) (by omega)
  have e2 := h (s + 1) (by omega) (by omega)
  unfold cx_nx
  rw [e0, e1, e2]
  split
  · rw [e1]
  · rw [e0]
/-- what step and the steps behind it cost -/
def cx_L (J : Int) (c : Int → Int → Int) : Nat → Int → Int → Int
  | 0, t, s => c t s
  | m + 1, t, s => c t s + (cx_L J c m (t + 1) (cx_nx (fun x => cx_L J c m (t + 1) x + if x = s then 0 else J) s) + if cx_nx (fun x => cx_L J c m (t + 1) x + if x = s then 0 else J) s = s then 0 else J)
theorem cx_Lb {J : Int} {c : Int → Int → Int} (hJ : 0 ≤ J ∧ J ≤ 99) (hc : ∀ t s, 0 ≤ c t s ∧ c t s ≤ 20) : ∀ (m : Nat) (t s : Int), 0 ≤ cx_L J c m t s ∧ cx_L J c m t s ≤ 20 + 120 * m
  | 0, t, s => by rw [cx_L]; have := hc t s; omega
  | m + 1, t, s => by
    rw [cx_L]
    have a := hc t s
    have b := cx_Lb hJ hc m (t + 1) (cx_nx (fun x => cx_L J c m (t + 1) x + if x = s then 0 else J) s)
    split <;> omega
/-- what a next step costs, by the rows of the class -/
def cx_cf (w : ck_W) (t s x : Int) : Int := if t + 1 < w 8 1 then w 65 ((t + 1) * 61 + 30 + x) + (if x = s then 0 else w 8 2) else 0
theorem dX1_index_0 : decode cX1_index 0 = .ok (.iload_n 0, 1) := dk_26 (by decide +kernel)
theorem dX1_index_1 : decode cX1_index 1 = .ok (.bipush 61, 2) := dk_16 61 (by decide +kernel)
theorem dX1_index_3 : decode cX1_index 3 = .ok (.imul, 1) := dk_104 (by decide +kernel)
theorem dX1_index_4 : decode cX1_index 4 = .ok (.bipush 30, 2) := dk_16 30 (by decide +kernel)
theorem dX1_index_6 : decode cX1_index 6 = .ok (.iadd, 1) := dk_96 (by decide +kernel)
theorem dX1_index_7 : decode cX1_index 7 = .ok (.iload_n 1, 1) := dk_27 (by decide +kernel)
theorem dX1_index_8 : decode cX1_index 8 = .ok (.iadd, 1) := dk_96 (by decide +kernel)
theorem dX1_index_9 : decode cX1_index 9 = .ok (.ireturn, 1) := dk_172 (by decide +kernel)
set_option maxRecDepth 8000 in
theorem e_X1_index {g : ch_G} {A R : Nat} (hC : ck_Cx g A R) {d : Nat} {K : Option ck_V → ck_W → Prop} {w : ck_W} {a0 a1 : Int} (h : ck_i (((a0 * 61) + 30) + a1) ∧ (K (some (.inl (((a0 * 61) + 30) + a1))) w)) : ck_Ex (ch_C g A R) d mX1_index [.inl a0, .inl a1] w K :=
  ck_entry hC.1 [some (.inl a0), some (.inl a1)] (by decide) (Nat.le_of_ble_eq_true rfl) rfl (fun q => q) (ck_in (fun hl => (ck_iload_n 1 rfl 0 dX1_index_0 rfl rfl (ck_bipush 3 rfl dX1_index_1 rfl (ck_imul 4 rfl dX1_index_3 (ck_bipush 6 rfl dX1_index_4 rfl (ck_iadd 7 rfl dX1_index_6 (ck_iload_n 8 rfl 1 dX1_index_7 rfl rfl (ck_iadd 9 rfl dX1_index_8 (have h3 := h; have o1 := h3.1; have h2 := h3.2; (ck_iret dX1_index_9 rfl o1 h2)))))))))))
theorem p_X1_index {g : ch_G} {A R : Nat} (hC : ck_Cx g A R) {d : Nat} {K : Option ck_V → ck_W → Prop} {w : ck_W} {a0 a1 : Int} (h0 : 0 ≤ a0 ∧ a0 ≤ 100) (h1 : -100 ≤ a1 ∧ a1 ≤ 100) (h : K (some (.inl (a0 * 61 + 30 + a1))) w) : ck_Ex (ch_C g A R) d mX1_index [.inl a0, .inl a1] w K :=
  e_X1_index hC ⟨by constructor <;> omega, h⟩
/-- the walk as it may be -/
def cs_K (R : Nat) (w : ck_W) : Prop := (0 ≤ w 8 1 ∧ w 8 1 ≤ 30) ∧ (0 ≤ w 8 2 ∧ w 8 2 ≤ 99) ∧ ∀ t, 0 ≤ t → t < w 8 1 → 0 ≤ w 9 t ∧ w 9 t < (R : Int)
theorem dX1_costOf_0 : decode cX1_costOf 0 = .ok (.iload_n 1, 1) := dk_27 (by decide +kernel)
theorem dX1_costOf_1 : decode cX1_costOf 1 = .ok (.iconst 1, 1) := dk_4 (by decide +kernel)
theorem dX1_costOf_2 : decode cX1_costOf 2 = .ok (.iadd, 1) := dk_96 (by decide +kernel)
theorem dX1_costOf_3 : decode cX1_costOf 3 = .ok (.aload_n 0, 1) := dk_42 (by decide +kernel)
theorem dX1_costOf_4 : decode cX1_costOf 4 = .ok (.getfield 22, 3) := dk_180 0 22 (by decide +kernel)
theorem dX1_costOf_7 : decode cX1_costOf 7 = .ok (.getfield 30, 3) := dk_180 0 30 (by decide +kernel)
theorem dX1_costOf_10 : decode cX1_costOf 10 = .ok (.if_icmp .lt 5, 3) := dk_161 0 5 (by decide +kernel)
theorem dX1_costOf_13 : decode cX1_costOf 13 = .ok (.iconst 0, 1) := dk_3 (by decide +kernel)
theorem dX1_costOf_14 : decode cX1_costOf 14 = .ok (.ireturn, 1) := dk_172 (by decide +kernel)
theorem dX1_costOf_15 : decode cX1_costOf 15 = .ok (.aload_n 0, 1) := dk_42 (by decide +kernel)
theorem dX1_costOf_16 : decode cX1_costOf 16 = .ok (.getfield 11, 3) := dk_180 0 11 (by decide +kernel)
theorem dX1_costOf_19 : decode cX1_costOf 19 = .ok (.iload_n 1, 1) := dk_27 (by decide +kernel)
theorem dX1_costOf_20 : decode cX1_costOf 20 = .ok (.iconst 1, 1) := dk_4 (by decide +kernel)
theorem dX1_costOf_21 : decode cX1_costOf 21 = .ok (.iadd, 1) := dk_96 (by decide +kernel)
theorem dX1_costOf_22 : decode cX1_costOf 22 = .ok (.iload_n 3, 1) := dk_29 (by decide +kernel)
theorem dX1_costOf_23 : decode cX1_costOf 23 = .ok (.invokestatic 60, 3) := dk_184 0 60 (by decide +kernel)
theorem dX1_costOf_26 : decode cX1_costOf 26 = .ok (.iaload, 1) := dk_46 (by decide +kernel)
theorem dX1_costOf_27 : decode cX1_costOf 27 = .ok (.iload_n 3, 1) := dk_29 (by decide +kernel)
theorem dX1_costOf_28 : decode cX1_costOf 28 = .ok (.iload_n 2, 1) := dk_28 (by decide +kernel)
theorem dX1_costOf_29 : decode cX1_costOf 29 = .ok (.if_icmp .ne 7, 3) := dk_160 0 7 (by decide +kernel)
theorem dX1_costOf_32 : decode cX1_costOf 32 = .ok (.iconst 0, 1) := dk_3 (by decide +kernel)
theorem dX1_costOf_33 : decode cX1_costOf 33 = .ok (.goto 10, 3) := dk_167 0 10 (by decide +kernel)
theorem dX1_costOf_36 : decode cX1_costOf 36 = .ok (.aload_n 0, 1) := dk_42 (by decide +kernel)
theorem dX1_costOf_37 : decode cX1_costOf 37 = .ok (.getfield 22, 3) := dk_180 0 22 (by decide +kernel)
theorem dX1_costOf_40 : decode cX1_costOf 40 = .ok (.getfield 70, 3) := dk_180 0 70 (by decide +kernel)
theorem dX1_costOf_43 : decode cX1_costOf 43 = .ok (.iadd, 1) := dk_96 (by decide +kernel)
theorem dX1_costOf_44 : decode cX1_costOf 44 = .ok (.ireturn, 1) := dk_172 (by decide +kernel)
set_option maxRecDepth 8000 in
theorem e_X1_costOf {g : ch_G} {A R : Nat} (hC : ck_Cx g A R) {d : Nat} {K : Option ck_V → ck_W → Prop} {w : ck_W} {a1 a2 a3 : Int} (h : ck_i (a1 + 1) ∧ (((a1 + 1) < (w 8 1) → ck_CI (ch_C g A R) d mX1_index [.inl (a1 + 1), .inl a3] w (fun v4 w3 => (0 ≤ v4 ∧ v4 < 1830) ∧ ((¬ a3 = a2 → ck_i ((w3 65 v4) + (w3 8 2)) ∧ (K (some (.inl ((w3 65 v4) + (w3 8 2)))) w3)) ∧ (a3 = a2 → ck_i ((w3 65 v4) + 0) ∧ (K (some (.inl ((w3 65 v4) + 0))) w3))))) ∧ (¬ (a1 + 1) < (w 8 1) → K (some (.inl 0)) w))) : ck_Ex (ch_C g A R) (d + 1) mX1_costOf [.inr (.inr 64), .inl a1, .inl a2, .inl a3] w K :=
  ck_entry hC.1 [some (.inr (.inr 64)), some (.inl a1), some (.inl a2), some (.inl a3)] (by decide) (Nat.le_of_ble_eq_true rfl) rfl (fun q => q) (ck_in (fun hl => (ck_iload_n 1 rfl 1 dX1_costOf_0 rfl rfl (ck_iconst 2 rfl dX1_costOf_1 rfl (ck_iadd 3 rfl dX1_costOf_2 (ck_aload_n 4 rfl 0 dX1_costOf_3 rfl rfl (ck_getr 7 rfl dX1_costOf_4 fl_X1_22 sh_64 rfl (ck_geti 10 rfl 1 dX1_costOf_7 fl_X1_30 sh_8 rfl rfl _ rfl (fun (q1 : ck_i (w 8 1)) => (have h17 := h; have o2 := h17.1; have h16 := h17.2; (ck_icmp_lt 13 rfl 15 dX1_costOf_10 rfl o2 q1 (fun c14 => (ck_aload_n 16 rfl 0 dX1_costOf_15 rfl rfl (ck_getr 19 rfl dX1_costOf_16 fl_X1_11 sh_64 rfl (ck_iload_n 20 rfl 1 dX1_costOf_19 rfl rfl (ck_iconst 21 rfl dX1_costOf_20 rfl (ck_iadd 22 rfl dX1_costOf_21 (ck_iload_n 23 rfl 3 dX1_costOf_22 rfl rfl (ck_callS 26 rfl [.inl (a1 + 1), .inl a3] [.inr (.inr 65)] dX1_costOf_23 cs_X1_60 rfl rfl (Nat.le_of_ble_eq_true rfl) (And.intro o2 (And.intro hl.2.2.2.1 True.intro)) (ck_mI (h16.1 c14) (fun v4 w3 q5 h6 => (have h19 := h6; have o7 := h19.1; have h18 := h19.2; (ck_iald 27 rfl dX1_costOf_26 sh_65 (shn_65 hC) o7 _ rfl (fun (q8 : ck_i (w3 65 v4)) => (ck_iload_n 28 rfl 3 dX1_costOf_27 rfl rfl (ck_iload_n 29 rfl 2 dX1_costOf_28 rfl rfl (ck_icmp_ne 32 rfl 36 dX1_costOf_29 rfl hl.2.2.2.1 hl.2.2.1 (fun c12 => (ck_aload_n 37 rfl 0 dX1_costOf_36 rfl rfl (ck_getr 40 rfl dX1_costOf_37 fl_X1_22 sh_64 rfl (ck_geti 43 rfl 2 dX1_costOf_40 fl_X1_70 sh_8 rfl rfl _ rfl (fun (q9 : ck_i (w3 8 2)) => (ck_iadd 44 rfl dX1_costOf_43 (have h21 := (h18.1 c12); have o10 := h21.1; have h20 := h21.2; (ck_iret dX1_costOf_44 rfl o10 h20)))))))) (fun c13 => (ck_iconst 33 rfl dX1_costOf_32 rfl (ck_goto 43 dX1_costOf_33 rfl (ck_iadd 44 rfl dX1_costOf_43 (have h23 := (h18.2 c13); have o11 := h23.1; have h22 := h23.2; (ck_iret dX1_costOf_44 rfl o11 h22)))))))))))))))))))))) (fun c15 => (ck_iconst 14 rfl dX1_costOf_13 rfl (ck_iret dX1_costOf_14 rfl (show ck_i 0 by decide) (h16.2 c15)))))))))))))))
theorem p_X1_costOf {g : ch_G} {A R : Nat} (hC : ck_Cx g A R) {d : Nat} {K : Option ck_V → ck_W → Prop} {w : ck_W} {a1 a2 a3 : Int} (hK : cs_K R w) (h1 : 0 ≤ a1 ∧ a1 < 30) (h3 : -30 ≤ a3 ∧ a3 ≤ 30) (hb : a1 + 1 < w 8 1 → 0 ≤ w 65 ((a1 + 1) * 61 + 30 + a3) ∧ w 65 ((a1 + 1) * 61 + 30 + a3) ≤ 100000) (h : K (some (.inl (cx_cf w a1 a2 a3))) w) : ck_Ex (ch_C g A R) (d + 1) mX1_costOf [.inr (.inr 64), .inl a1, .inl a2, .inl a3] w K := by
  have k1 := hK.1
  have k2 := hK.2.1
  unfold cx_cf at h
  refine e_X1_costOf hC ⟨by constructor <;> omega, fun q => p_X1_index hC (by omega) (by omega) ⟨_, rfl, fun _ => ?_⟩, fun q => by rw [if_neg q] at h; exact h⟩
  have b := hb q
  rw [if_pos q] at h
  refine ⟨by omega, fun z => ⟨by constructor <;> omega, by rw [if_neg z] at h; exact h⟩, fun z => ⟨by constructor <;> omega, by rw [if_pos z] at h; exact h⟩⟩
theorem dX1_nextOver_0 : decode cX1_nextOver 0 = .ok (.iload_n 2, 1) := dk_28 (by decide +kernel)
theorem dX1_nextOver_1 : decode cX1_nextOver 1 = .ok (.iconst 1, 1) := dk_4 (by decide +kernel)
theorem dX1_nextOver_2 : decode cX1_nextOver 2 = .ok (.isub, 1) := dk_100 (by decide +kernel)
theorem dX1_nextOver_3 : decode cX1_nextOver 3 = .ok (.istore_n 3, 1) := dk_62 (by decide +kernel)
theorem dX1_nextOver_4 : decode cX1_nextOver 4 = .ok (.iload_n 2, 1) := dk_28 (by decide +kernel)
theorem dX1_nextOver_5 : decode cX1_nextOver 5 = .ok (.istore 4, 2) := dk_54 (by decide +kernel)
theorem dX1_nextOver_7 : decode cX1_nextOver 7 = .ok (.iload 4, 2) := dk_21 (by decide +kernel)
theorem dX1_nextOver_9 : decode cX1_nextOver 9 = .ok (.iload_n 2, 1) := dk_28 (by decide +kernel)
theorem dX1_nextOver_10 : decode cX1_nextOver 10 = .ok (.iconst 1, 1) := dk_4 (by decide +kernel)
theorem dX1_nextOver_11 : decode cX1_nextOver 11 = .ok (.iadd, 1) := dk_96 (by decide +kernel)
theorem dX1_nextOver_12 : decode cX1_nextOver 12 = .ok (.if_icmp .gt 30, 3) := dk_163 0 30 (by decide +kernel)
theorem dX1_nextOver_15 : decode cX1_nextOver 15 = .ok (.aload_n 0, 1) := dk_42 (by decide +kernel)
theorem dX1_nextOver_16 : decode cX1_nextOver 16 = .ok (.iload_n 1, 1) := dk_27 (by decide +kernel)
theorem dX1_nextOver_17 : decode cX1_nextOver 17 = .ok (.iload_n 2, 1) := dk_28 (by decide +kernel)
theorem dX1_nextOver_18 : decode cX1_nextOver 18 = .ok (.iload 4, 2) := dk_21 (by decide +kernel)
theorem dX1_nextOver_20 : decode cX1_nextOver 20 = .ok (.invokevirtual 66, 3) := dk_182 0 66 (by decide +kernel)
theorem dX1_nextOver_23 : decode cX1_nextOver 23 = .ok (.aload_n 0, 1) := dk_42 (by decide +kernel)
theorem dX1_nextOver_24 : decode cX1_nextOver 24 = .ok (.iload_n 1, 1) := dk_27 (by decide +kernel)
theorem dX1_nextOver_25 : decode cX1_nextOver 25 = .ok (.iload_n 2, 1) := dk_28 (by decide +kernel)
theorem dX1_nextOver_26 : decode cX1_nextOver 26 = .ok (.iload_n 3, 1) := dk_29 (by decide +kernel)
theorem dX1_nextOver_27 : decode cX1_nextOver 27 = .ok (.invokevirtual 66, 3) := dk_182 0 66 (by decide +kernel)
theorem dX1_nextOver_30 : decode cX1_nextOver 30 = .ok (.if_icmp .ge 6, 3) := dk_162 0 6 (by decide +kernel)
theorem dX1_nextOver_33 : decode cX1_nextOver 33 = .ok (.iload 4, 2) := dk_21 (by decide +kernel)
theorem dX1_nextOver_35 : decode cX1_nextOver 35 = .ok (.istore_n 3, 1) := dk_62 (by decide +kernel)
theorem dX1_nextOver_36 : decode cX1_nextOver 36 = .ok (.iinc 4 1, 3) := dk_132 1 (by decide +kernel)
theorem dX1_nextOver_39 : decode cX1_nextOver 39 = .ok (.goto (-32), 3) := dk_167 255 224 (by decide +kernel)
theorem dX1_nextOver_42 : decode cX1_nextOver 42 = .ok (.iload_n 3, 1) := dk_29 (by decide +kernel)
theorem dX1_nextOver_43 : decode cX1_nextOver 43 = .ok (.ireturn, 1) := dk_172 (by decide +kernel)
set_option maxRecDepth 8000 in
theorem e_X1_nextOver {g : ch_G} {A R : Nat} (hC : ck_Cx g A R) {d : Nat} {K : Option ck_V → ck_W → Prop} {w : ck_W} {a1 a2 : Int} (h : ck_i (a2 - 1) ∧ (ck_At (ch_C g A R) (d + 1) mX1_nextOver K 7 [some (.inr (.inr 64)), some (.inl a1), some (.inl a2), some (.inl (a2 - 1)), some (.inl a2)] [] w)) : ck_Ex (ch_C g A R) (d + 1) mX1_nextOver [.inr (.inr 64), .inl a1, .inl a2] w K :=
  ck_entry hC.1 [some (.inr (.inr 64)), some (.inl a1), some (.inl a2), none, none] (by decide) (Nat.le_of_ble_eq_true rfl) rfl (fun q => q) (ck_in (fun hl => (ck_iload_n 1 rfl 2 dX1_nextOver_0 rfl rfl (ck_iconst 2 rfl dX1_nextOver_1 rfl (ck_isub 3 rfl dX1_nextOver_2 (have h3 := h; have o1 := h3.1; have h2 := h3.2; (ck_istore_n 4 rfl 3 [some (.inr (.inr 64)), some (.inl a1), some (.inl a2), some (.inl (a2 - 1)), none] dX1_nextOver_3 rfl (Nat.le_of_ble_eq_true rfl) rfl rfl o1 (ck_iload_n 5 rfl 2 dX1_nextOver_4 rfl rfl (ck_istore 7 rfl [some (.inr (.inr 64)), some (.inl a1), some (.inl a2), some (.inl (a2 - 1)), some (.inl a2)] dX1_nextOver_5 (Nat.le_of_ble_eq_true rfl) rfl rfl hl.2.2.1 h2)))))))))
set_option maxRecDepth 8000 in
theorem r_X1_nextOver_7 {g : ch_G} {A R : Nat} (hC : ck_Cx g A R) {d : Nat} {K : Option ck_V → ck_W → Prop} {w : ck_W} {a1 a2 a3 a4 : Int} (h : ck_i (a2 + 1) ∧ (((a2 + 1) < a4 → K (some (.inl a3)) w) ∧ (¬ (a2 + 1) < a4 → ck_CI (ch_C g A R) d mX1_costOf [.inr (.inr 64), .inl a1, .inl a2, .inl a4] w (fun v3 w2 => ck_CI (ch_C g A R) d mX1_costOf [.inr (.inr 64), .inl a1, .inl a2, .inl a3] w2 (fun v7 w6 => (v7 ≤ v3 → ck_i (a4 + 1) ∧ (ck_At (ch_C g A R) (d + 1) mX1_nextOver K 7 [some (.inr (.inr 64)), some (.inl a1), some (.inl a2), some (.inl a3), some (.inl (a4 + 1))] [] w6)) ∧ (¬ v7 ≤ v3 → ck_i (a4 + 1) ∧ (ck_At (ch_C g A R) (d + 1) mX1_nextOver K 7 [some (.inr (.inr 64)), some (.inl a1), some (.inl a2), some (.inl a4), some (.inl (a4 + 1))] [] w6))))))) : ck_At (ch_C g A R) (d + 1) mX1_nextOver K 7 [some (.inr (.inr 64)), some (.inl a1), some (.inl a2), some (.inl a3), some (.inl a4)] [] w :=
  ck_in (fun hl => (ck_iload 9 rfl dX1_nextOver_7 rfl (ck_iload_n 10 rfl 2 dX1_nextOver_9 rfl rfl (ck_iconst 11 rfl dX1_nextOver_10 rfl (ck_iadd 12 rfl dX1_nextOver_11 (have h17 := h; have o1 := h17.1; have h16 := h17.2; (ck_icmp_gt 15 rfl 42 dX1_nextOver_12 rfl hl.2.2.2.2.1 o1 (fun c14 => (ck_iload_n 43 rfl 3 dX1_nextOver_42 rfl rfl (ck_iret dX1_nextOver_43 rfl hl.2.2.2.1 (h16.1 c14)))) (fun c15 => (ck_aload_n 16 rfl 0 dX1_nextOver_15 rfl rfl (ck_iload_n 17 rfl 1 dX1_nextOver_16 rfl rfl (ck_iload_n 18 rfl 2 dX1_nextOver_17 rfl rfl (ck_iload 20 rfl dX1_nextOver_18 rfl (ck_callV 23 rfl [.inl a1, .inl a2, .inl a4] [] dX1_nextOver_20 cv_X1_66 sh_64 rfl rfl (Nat.le_of_ble_eq_true rfl) (And.intro hl.2.1 (And.intro hl.2.2.1 (And.intro hl.2.2.2.2.1 True.intro))) (ck_mI (h16.2 c15) (fun v3 w2 q4 h5 => (ck_aload_n 24 rfl 0 dX1_nextOver_23 rfl rfl (ck_iload_n 25 rfl 1 dX1_nextOver_24 rfl rfl (ck_iload_n 26 rfl 2 dX1_nextOver_25 rfl rfl (ck_iload_n 27 rfl 3 dX1_nextOver_26 rfl rfl (ck_callV 30 rfl [.inl a1, .inl a2, .inl a3] [.inl v3] dX1_nextOver_27 cv_X1_66 sh_64 rfl rfl (Nat.le_of_ble_eq_true rfl) (And.intro hl.2.1 (And.intro hl.2.2.1 (And.intro hl.2.2.2.1 True.intro))) (ck_mI h5 (fun v7 w6 q8 h9 => (ck_icmp_ge 33 rfl 36 dX1_nextOver_30 rfl q4 q8 (fun c12 => (have h19 := (h9.1 c12); have o10 := h19.1; have h18 := h19.2; (ck_iinc 39 rfl [some (.inr (.inr 64)), some (.inl a1), some (.inl a2), some (.inl a3), some (.inl (a4 + 1))] dX1_nextOver_36 rfl (Nat.le_of_ble_eq_true rfl) rfl rfl o10 (ck_goto 7 dX1_nextOver_39 rfl h18)))) (fun c13 => (ck_iload 35 rfl dX1_nextOver_33 rfl (ck_istore_n 36 rfl 3 [some (.inr (.inr 64)), some (.inl a1), some (.inl a2), some (.inl a4), some (.inl a4)] dX1_nextOver_35 rfl (Nat.le_of_ble_eq_true rfl) rfl rfl hl.2.2.2.2.1 (have h21 := (h9.2 c13); have o11 := h21.1; have h20 := h21.2; (ck_iinc 39 rfl [some (.inr (.inr 64)), some (.inl a1), some (.inl a2), some (.inl a4), some (.inl (a4 + 1))] dX1_nextOver_36 rfl (Nat.le_of_ble_eq_true rfl) rfl rfl o11 (ck_goto 7 dX1_nextOver_39 rfl h20)))))))))))))))))))))))))))))
theorem p_X1_nextOver {g : ch_G} {A R : Nat} (hC : ck_Cx g A R) {d : Nat} {K : Option ck_V → ck_W → Prop} {w : ck_W} {a1 a2 : Int} (hK : cs_K R w) (h1 : 0 ≤ a1 ∧ a1 < 30) (h2 : -a1 ≤ a2 ∧ a2 ≤ a1) (hb : a1 + 1 < w 8 1 → ∀ x, a2 - 1 ≤ x → x ≤ a2 + 1 → 0 ≤ w 65 ((a1 + 1) * 61 + 30 + x) ∧ w 65 ((a1 + 1) * 61 + 30 + x) ≤ 100000) (h : K (some (.inl (cx_nx (cx_cf w a1 a2) a2))) w) : ck_Ex (ch_C g A R) (d + 2) mX1_nextOver [.inr (.inr 64), .inl a1, .inl a2] w K := by
  have pc : ∀ (x : Int) (Q : Int → ck_W → Prop), a2 - 1 ≤ x → x ≤ a2 + 1 → Q (cx_cf w a1 a2 x) w → ck_CI (ch_C g A R) (d + 1) mX1_costOf [.inr (.inr 64), .inl a1, .inl a2, .inl x] w Q := fun x Q x0 x1 hQ => p_X1_costOf hC hK h1 (by omega) (fun q => hb q x x0 x1) ⟨_, rfl, fun _ => hQ⟩
  unfold cx_nx at h
  refine e_X1_nextOver hC ⟨by constructor <;> omega, r_X1_nextOver_7 hC ⟨by constructor <;> omega, fun q => absurd q (by omega), fun _ => pc a2 _ (by omega) (by omega) (pc (a2 - 1) _ (by omega) (by omega) ?_)⟩⟩
  refine ⟨fun z => ⟨by constructor <;> omega, r_X1_nextOver_7 hC ⟨by constructor <;> omega, fun q => absurd q (by omega), fun _ => pc (a2 + 1) _ (by omega) (by omega) (pc (a2 - 1) _ (by omega) (by omega) ?_)⟩⟩, fun z => ⟨by constructor <;> omega, r_X1_nextOver_7 hC ⟨by constructor <;> omega, fun q => absurd q (by omega), fun _ => pc (a2 + 1) _ (by omega) (by omega) (pc a2 _ (by omega) (by omega) ?_)⟩⟩⟩
  · have y : ¬ cx_cf w a1 a2 a2 < cx_cf w a1 a2 (a2 - 1) := by omega
    rw [if_neg y] at h
    refine ⟨fun z2 => ⟨by constructor <;> omega, r_X1_nextOver_7 hC ⟨by constructor <;> omega, fun _ => ?_, fun q => absurd (by omega) q⟩⟩, fun z2 => ⟨by constructor <;> omega, r_X1_nextOver_7 hC ⟨by constructor <;> omega, fun _ => ?_, fun q => absurd (by omega) q⟩⟩⟩
    · rw [if_neg (by omega)] at h; exact h
    · rw [if_pos (by omega)] at h; exact h
  · have y : cx_cf w a1 a2 a2 < cx_cf w a1 a2 (a2 - 1) := by omega
    rw [if_pos y] at h
    refine ⟨fun z2 => ⟨by constructor <;> omega, r_X1_nextOver_7 hC ⟨by constructor <;> omega, fun _ => ?_, fun q => absurd (by omega) q⟩⟩, fun z2 => ⟨by constructor <;> omega, r_X1_nextOver_7 hC ⟨by constructor <;> omega, fun _ => ?_, fun q => absurd (by omega) q⟩⟩⟩
    · rw [if_neg (by omega)] at h; exact h
    · rw [if_pos (by omega)] at h; exact h
/-- what a step costs at a place -/
def cx_c (A : Nat) (w : ck_W) (z p t s : Int) : Int := if 0 ≤ p + t + (A : Int) * s ∧ p + t + (A : Int) * s < w 6 z * (A : Int) then max (w 9 t - w 62 (z * 24 + (p + t + (A : Int) * s))) (-(w 9 t - w 62 (z * 24 + (p + t + (A : Int) * s)))) else 9
/-- how many turns a step went over -/
def cx_ov (J n : Int) (c : Int → Int → Int) : Nat → Int
  | 0 => 0
  | t + 1 => cx_nx (fun x => cx_L J c (n - 2 - t).toNat ((t : Int) + 1) x + if x = cx_ov J n c t then 0 else J) (cx_ov J n c t)
theorem cx_ovb (J n : Int) (c : Int → Int → Int) : ∀ t : Nat, -(t : Int) ≤ cx_ov J n c t ∧ cx_ov J n c t ≤ t
  | 0 => by rw [cx_ov]; omega
  | t + 1 => by
    have i := cx_ovb J n c t
    rw [cx_ov]
    have b := cx_nxb (f := fun x => cx_L J c (n - 2 - t).toNat ((t : Int) + 1) x + if x = cx_ov J n c t then 0 else J) (s := cx_ov J n c t)
    omega
theorem dX1_explain_0 : decode cX1_explain 0 = .ok (.aload_n 0, 1) := dk_42 (by decide +kernel)
theorem dX1_explain_1 : decode cX1_explain 1 = .ok (.getfield 22, 3) := dk_180 0 22 (by decide +kernel)
theorem dX1_explain_4 : decode cX1_explain 4 = .ok (.getfield 30, 3) := dk_180 0 30 (by decide +kernel)
theorem dX1_explain_7 : decode cX1_explain 7 = .ok (.iconst 1, 1) := dk_4 (by decide +kernel)
theorem dX1_explain_8 : decode cX1_explain 8 = .ok (.isub, 1) := dk_100 (by decide +kernel)
theorem dX1_explain_9 : decode cX1_explain 9 = .ok (.istore_n 3, 1) := dk_62 (by decide +kernel)
theorem dX1_explain_10 : decode cX1_explain 10 = .ok (.iload_n 3, 1) := dk_29 (by decide +kernel)
theorem dX1_explain_11 : decode cX1_explain 11 = .ok (.ifCond .lt 112, 3) := dk_155 0 112 (by decide +kernel)
theorem dX1_explain_14 : decode cX1_explain 14 = .ok (.iload_n 3, 1) := dk_29 (by decide +kernel)
theorem dX1_explain_15 : decode cX1_explain 15 = .ok (.ineg, 1) := dk_116 (by decide +kernel)
theorem dX1_explain_16 : decode cX1_explain 16 = .ok (.istore 4, 2) := dk_54 (by decide +kernel)
theorem dX1_explain_18 : decode cX1_explain 18 = .ok (.iload 4, 2) := dk_21 (by decide +kernel)
theorem dX1_explain_20 : decode cX1_explain 20 = .ok (.iload_n 3, 1) := dk_29 (by decide +kernel)
theorem dX1_explain_21 : decode cX1_explain 21 = .ok (.if_icmp .gt 96, 3) := dk_163 0 96 (by decide +kernel)
theorem dX1_explain_24 : decode cX1_explain 24 = .ok (.iload_n 2, 1) := dk_28 (by decide +kernel)
theorem dX1_explain_25 : decode cX1_explain 25 = .ok (.iload_n 3, 1) := dk_29 (by decide +kernel)
theorem dX1_explain_26 : decode cX1_explain 26 = .ok (.iadd, 1) := dk_96 (by decide +kernel)
theorem dX1_explain_27 : decode cX1_explain 27 = .ok (.aload_n 0, 1) := dk_42 (by decide +kernel)
theorem dX1_explain_28 : decode cX1_explain 28 = .ok (.getfield 18, 3) := dk_180 0 18 (by decide +kernel)
theorem dX1_explain_31 : decode cX1_explain 31 = .ok (.getfield 36, 3) := dk_180 0 36 (by decide +kernel)
theorem dX1_explain_34 : decode cX1_explain 34 = .ok (.iload 4, 2) := dk_21 (by decide +kernel)
theorem dX1_explain_36 : decode cX1_explain 36 = .ok (.imul, 1) := dk_104 (by decide +kernel)
theorem dX1_explain_37 : decode cX1_explain 37 = .ok (.iadd, 1) := dk_96 (by decide +kernel)
theorem dX1_explain_38 : decode cX1_explain 38 = .ok (.istore 5, 2) := dk_54 (by decide +kernel)
theorem dX1_explain_40 : decode cX1_explain 40 = .ok (.aload_n 0, 1) := dk_42 (by decide +kernel)
theorem dX1_explain_41 : decode cX1_explain 41 = .ok (.getfield 18, 3) := dk_180 0 18 (by decide +kernel)
theorem dX1_explain_44 : decode cX1_explain 44 = .ok (.iload_n 1, 1) := dk_27 (by decide +kernel)
theorem dX1_explain_45 : decode cX1_explain 45 = .ok (.iload 5, 2) := dk_21 (by decide +kernel)
theorem dX1_explain_47 : decode cX1_explain 47 = .ok (.invokevirtual 41, 3) := dk_182 0 41 (by decide +kernel)
theorem dX1_explain_50 : decode cX1_explain 50 = .ok (.ifCond .eq 29, 3) := dk_153 0 29 (by decide +kernel)
theorem dX1_explain_53 : decode cX1_explain 53 = .ok (.aload_n 0, 1) := dk_42 (by decide +kernel)
theorem dX1_explain_54 : decode cX1_explain 54 = .ok (.getfield 22, 3) := dk_180 0 22 (by decide +kernel)
theorem dX1_explain_57 : decode cX1_explain 57 = .ok (.getfield 45, 3) := dk_180 0 45 (by decide +kernel)
theorem dX1_explain_60 : decode cX1_explain 60 = .ok (.iload_n 3, 1) := dk_29 (by decide +kernel)
theorem dX1_explain_61 : decode cX1_explain 61 = .ok (.iaload, 1) := dk_46 (by decide +kernel)
theorem dX1_explain_62 : decode cX1_explain 62 = .ok (.aload_n 0, 1) := dk_42 (by decide +kernel)
theorem dX1_explain_63 : decode cX1_explain 63 = .ok (.getfield 26, 3) := dk_180 0 26 (by decide +kernel)
theorem dX1_explain_66 : decode cX1_explain 66 = .ok (.iload_n 1, 1) := dk_27 (by decide +kernel)
theorem dX1_explain_67 : decode cX1_explain 67 = .ok (.iload 5, 2) := dk_21 (by decide +kernel)
theorem dX1_explain_69 : decode cX1_explain 69 = .ok (.invokevirtual 48, 3) := dk_182 0 48 (by decide +kernel)
theorem dX1_explain_72 : decode cX1_explain 72 = .ok (.isub, 1) := dk_100 (by decide +kernel)
theorem dX1_explain_73 : decode cX1_explain 73 = .ok (.invokestatic 54, 3) := dk_184 0 54 (by decide +kernel)
theorem dX1_explain_76 : decode cX1_explain 76 = .ok (.goto 5, 3) := dk_167 0 5 (by decide +kernel)
theorem dX1_explain_79 : decode cX1_explain 79 = .ok (.bipush 9, 2) := dk_16 9 (by decide +kernel)
theorem dX1_explain_81 : decode cX1_explain 81 = .ok (.istore 6, 2) := dk_54 (by decide +kernel)
theorem dX1_explain_83 : decode cX1_explain 83 = .ok (.aload_n 0, 1) := dk_42 (by decide +kernel)
theorem dX1_explain_84 : decode cX1_explain 84 = .ok (.getfield 11, 3) := dk_180 0 11 (by decide +kernel)
theorem dX1_explain_87 : decode cX1_explain 87 = .ok (.iload_n 3, 1) := dk_29 (by decide +kernel)
theorem dX1_explain_88 : decode cX1_explain 88 = .ok (.iload 4, 2) := dk_21 (by decide +kernel)
theorem dX1_explain_90 : decode cX1_explain 90 = .ok (.invokestatic 60, 3) := dk_184 0 60 (by decide +kernel)
theorem dX1_explain_93 : decode cX1_explain 93 = .ok (.iload 6, 2) := dk_21 (by decide +kernel)
theorem dX1_explain_95 : decode cX1_explain 95 = .ok (.aload_n 0, 1) := dk_42 (by decide +kernel)
theorem dX1_explain_96 : decode cX1_explain 96 = .ok (.iload_n 3, 1) := dk_29 (by decide +kernel)
theorem dX1_explain_97 : decode cX1_explain 97 = .ok (.iload 4, 2) := dk_21 (by decide +kernel)
theorem dX1_explain_99 : decode cX1_explain 99 = .ok (.aload_n 0, 1) := dk_42 (by decide +kernel)
theorem dX1_explain_100 : decode cX1_explain 100 = .ok (.iload_n 3, 1) := dk_29 (by decide +kernel)
theorem dX1_explain_101 : decode cX1_explain 101 = .ok (.iload 4, 2) := dk_21 (by decide +kernel)
theorem dX1_explain_103 : decode cX1_explain 103 = .ok (.invokevirtual 63, 3) := dk_182 0 63 (by decide +kernel)
theorem dX1_explain_106 : decode cX1_explain 106 = .ok (.invokevirtual 66, 3) := dk_182 0 66 (by decide +kernel)
theorem dX1_explain_109 : decode cX1_explain 109 = .ok (.iadd, 1) := dk_96 (by decide +kernel)
theorem dX1_explain_110 : decode cX1_explain 110 = .ok (.iastore, 1) := dk_79 (by decide +kernel)
theorem dX1_explain_111 : decode cX1_explain 111 = .ok (.iinc 4 1, 3) := dk_132 1 (by decide +kernel)
theorem dX1_explain_114 : decode cX1_explain 114 = .ok (.goto (-96), 3) := dk_167 255 160 (by decide +kernel)
theorem dX1_explain_117 : decode cX1_explain 117 = .ok (.iinc 3 (-1), 3) := dk_132 255 (by decide +kernel)
theorem dX1_explain_120 : decode cX1_explain 120 = .ok (.goto (-110), 3) := dk_167 255 146 (by decide +kernel)
theorem dX1_explain_123 : decode cX1_explain 123 = .ok (.aload_n 0, 1) := dk_42 (by decide +kernel)
theorem dX1_explain_124 : decode cX1_explain 124 = .ok (.getfield 15, 3) := dk_180 0 15 (by decide +kernel)
theorem dX1_explain_127 : decode cX1_explain 127 = .ok (.iconst 0, 1) := dk_3 (by decide +kernel)
theorem dX1_explain_128 : decode cX1_explain 128 = .ok (.iconst 0, 1) := dk_3 (by decide +kernel)
theorem dX1_explain_129 : decode cX1_explain 129 = .ok (.iastore, 1) := dk_79 (by decide +kernel)
theorem dX1_explain_130 : decode cX1_explain 130 = .ok (.iconst 1, 1) := dk_4 (by decide +kernel)
theorem dX1_explain_131 : decode cX1_explain 131 = .ok (.istore_n 3, 1) := dk_62 (by decide +kernel)
theorem dX1_explain_132 : decode cX1_explain 132 = .ok (.iload_n 3, 1) := dk_29 (by decide +kernel)
theorem dX1_explain_133 : decode cX1_explain 133 = .ok (.aload_n 0, 1) := dk_42 (by decide +kernel)
theorem dX1_explain_134 : decode cX1_explain 134 = .ok (.getfield 22, 3) := dk_180 0 22 (by decide +kernel)
theorem dX1_explain_137 : decode cX1_explain 137 = .ok (.getfield 30, 3) := dk_180 0 30 (by decide +kernel)
theorem dX1_explain_140 : decode cX1_explain 140 = .ok (.if_icmp .ge 30, 3) := dk_162 0 30 (by decide +kernel)
theorem dX1_explain_143 : decode cX1_explain 143 = .ok (.aload_n 0, 1) := dk_42 (by decide +kernel)
theorem dX1_explain_144 : decode cX1_explain 144 = .ok (.getfield 15, 3) := dk_180 0 15 (by decide +kernel)
theorem dX1_explain_147 : decode cX1_explain 147 = .ok (.iload_n 3, 1) := dk_29 (by decide +kernel)
theorem dX1_explain_148 : decode cX1_explain 148 = .ok (.aload_n 0, 1) := dk_42 (by decide +kernel)
theorem dX1_explain_149 : decode cX1_explain 149 = .ok (.iload_n 3, 1) := dk_29 (by decide +kernel)
theorem dX1_explain_150 : decode cX1_explain 150 = .ok (.iconst 1, 1) := dk_4 (by decide +kernel)
theorem dX1_explain_151 : decode cX1_explain 151 = .ok (.isub, 1) := dk_100 (by decide +kernel)
theorem dX1_explain_152 : decode cX1_explain 152 = .ok (.aload_n 0, 1) := dk_42 (by decide +kernel)
theorem dX1_explain_153 : decode cX1_explain 153 = .ok (.getfield 15, 3) := dk_180 0 15 (by decide +kernel)
theorem dX1_explain_156 : decode cX1_explain 156 = .ok (.iload_n 3, 1) := dk_29 (by decide +kernel)
theorem dX1_explain_157 : decode cX1_explain 157 = .ok (.iconst 1, 1) := dk_4 (by decide +kernel)
theorem dX1_explain_158 : decode cX1_explain 158 = .ok (.isub, 1) := dk_100 (by decide +kernel)
theorem dX1_explain_159 : decode cX1_explain 159 = .ok (.iaload, 1) := dk_46 (by decide +kernel)
theorem dX1_explain_160 : decode cX1_explain 160 = .ok (.invokevirtual 63, 3) := dk_182 0 63 (by decide +kernel)
theorem dX1_explain_163 : decode cX1_explain 163 = .ok (.iastore, 1) := dk_79 (by decide +kernel)
theorem dX1_explain_164 : decode cX1_explain 164 = .ok (.iinc 3 1, 3) := dk_132 1 (by decide +kernel)
theorem dX1_explain_167 : decode cX1_explain 167 = .ok (.goto (-35), 3) := dk_167 255 221 (by decide +kernel)
theorem dX1_explain_170 : decode cX1_explain 170 = .ok (.return_, 1) := dk_177 (by decide +kernel)
set_option maxRecDepth 8000 in
theorem e_X1_explain {g : ch_G} {A R : Nat} (hC : ck_Cx g A R) {d : Nat} {K : Option ck_V → ck_W → Prop} {w : ck_W} {a1 a2 : Int} (h : ck_i ((w 8 1) - 1) ∧ (ck_At (ch_C g A R) (d + 1) mX1_explain K 10 [some (.inr (.inr 64)), some (.inl a1), some (.inl a2), some (.inl ((w 8 1) - 1)), none, none, none] [] w)) : ck_Ex (ch_C g A R) (d + 1) mX1_explain [.inr (.inr 64), .inl a1, .inl a2] w K :=
  ck_entry hC.1 [some (.inr (.inr 64)), some (.inl a1), some (.inl a2), none, none, none, none] (by decide) (Nat.le_of_ble_eq_true rfl) rfl (fun q => q) (ck_in (fun hl => (ck_aload_n 1 rfl 0 dX1_explain_0 rfl rfl (ck_getr 4 rfl dX1_explain_1 fl_X1_22 sh_64 rfl (ck_geti 7 rfl 1 dX1_explain_4 fl_X1_30 sh_8 rfl rfl _ rfl (fun (q1 : ck_i (w 8 1)) => (ck_iconst 8 rfl dX1_explain_7 rfl (ck_isub 9 rfl dX1_explain_8 (have h4 := h; have o2 := h4.1; have h3 := h4.2; (ck_istore_n 10 rfl 3 [some (.inr (.inr 64)), some (.inl a1), some (.inl a2), some (.inl ((w 8 1) - 1)), none, none, none] dX1_explain_9 rfl (Nat.le_of_ble_eq_true rfl) rfl rfl o2 h3))))))))))
set_option maxRecDepth 8000 in
theorem r_X1_explain_10 {g : ch_G} {A R : Nat} (hC : ck_Cx g A R) {d : Nat} {K : Option ck_V → ck_W → Prop} {w : ck_W} {a1 a2 a3 : Int} (h : (a3 < 0 → ck_At (ch_C g A R) (d + 1) mX1_explain K 132 [some (.inr (.inr 64)), none, none, some (.inl 1), none, none, none] [] (ck_up w 66 0 0)) ∧ (¬ a3 < 0 → ck_i (-a3) ∧ (ck_At (ch_C g A R) (d + 1) mX1_explain K 18 [some (.inr (.inr 64)), some (.inl a1), some (.inl a2), some (.inl a3), some (.inl (-a3)), none, none] [] w))) : ck_At (ch_C g A R) (d + 1) mX1_explain K 10 [some (.inr (.inr 64)), some (.inl a1), some (.inl a2), some (.inl a3), none, none, none] [] w :=
  ck_in (fun hl => (ck_iload_n 11 rfl 3 dX1_explain_10 rfl rfl (ck_if_lt 14 rfl 123 dX1_explain_11 rfl hl.2.2.2.1 (fun c2 => (ck_aload_n 124 rfl 0 dX1_explain_123 rfl rfl (ck_getr 127 rfl dX1_explain_124 fl_X1_15 sh_64 rfl (ck_iconst 128 rfl dX1_explain_127 rfl (ck_iconst 129 rfl dX1_explain_128 rfl (ck_iast 130 rfl dX1_explain_129 sh_66 (shn_66 hC) (by decide) (show ck_i 0 by decide) (ck_iconst 131 rfl dX1_explain_130 rfl (ck_istore_n 132 rfl 3 [some (.inr (.inr 64)), some (.inl a1), some (.inl a2), some (.inl 1), none, none, none] dX1_explain_131 rfl (Nat.le_of_ble_eq_true rfl) rfl rfl (show ck_i 1 by decide) (ck_drop [some (.inr (.inr 64)), none, none, some (.inl 1), none, none, none] (And.intro rfl (And.intro rfl True.intro)) (h.1 c2)))))))))) (fun c3 => (ck_iload_n 15 rfl 3 dX1_explain_14 rfl rfl (ck_ineg 16 rfl dX1_explain_15 (have h5 := (h.2 c3); have o1 := h5.1; have h4 := h5.2; (ck_istore 18 rfl [some (.inr (.inr 64)), some (.inl a1), some (.inl a2), some (.inl a3), some (.inl (-a3)), none, none] dX1_explain_16 (Nat.le_of_ble_eq_true rfl) rfl rfl o1 h4))))))))
set_option maxRecDepth 8000 in
theorem r_X1_explain_18 {g : ch_G} {A R : Nat} (hC : ck_Cx g A R) {d : Nat} {K : Option ck_V → ck_W → Prop} {w : ck_W} {a1 a2 a3 a4 : Int} (h : (a3 < a4 → ck_i (a3 + (-1)) ∧ (ck_At (ch_C g A R) (d + 1) mX1_explain K 10 [some (.inr (.inr 64)), some (.inl a1), some (.inl a2), some (.inl (a3 + (-1))), none, none, none] [] w)) ∧ (¬ a3 < a4 → ∀ x3, x3 = (a2 + a3) + ((w 3 0) * a4) → ck_i x3 ∧ (ck_CI (ch_C g A R) d mX5_hasPlace [.inr (.inr 3), .inl a1, .inl x3] w (fun v7 w6 => (v7 = 0 → ck_CI (ch_C g A R) d mX1_index [.inl a3, .inl a4] w6 (fun v11 w10 => ck_CI (ch_C g A R) d mX1_nextOver [.inr (.inr 64), .inl a3, .inl a4] w10 (fun v15 w14 => ck_CI (ch_C g A R) d mX1_costOf [.inr (.inr 64), .inl a3, .inl a4, .inl v15] w14 (fun v19 w18 => ck_i (9 + v19) ∧ ((0 ≤ v11 ∧ v11 < 1830) ∧ (ck_i (a4 + 1) ∧ (ck_At (ch_C g A R) (d + 1) mX1_explain K 18 [some (.inr (.inr 64)), some (.inl a1), some (.inl a2), some (.inl a3), some (.inl (a4 + 1)), none, none] [] (ck_up w18 65 v11 (9 + v19))))))))) ∧ (¬ v7 = 0 → (0 ≤ a3 ∧ a3 < 30) ∧ (ck_CI (ch_C g A R) d mX10_radiusAt [.inr (.inr 51), .inl a1, .inl x3] w6 (fun v28 w27 => ck_i ((w6 9 a3) - v28) ∧ ((-2147483647 ≤ ((w6 9 a3) - v28)) ∧ (∀ x34, x34 = max ((w6 9 a3) - v28) (-((w6 9 a3) - v28)) → ck_CI (ch_C g A R) d mX1_index [.inl a3, .inl a4] w27 (fun v37 w36 => ck_CI (ch_C g A R) d mX1_nextOver [.inr (.inr 64), .inl a3, .inl a4] w36 (fun v41 w40 => ck_CI (ch_C g A R) d mX1_costOf [.inr (.inr 64), .inl a3, .inl a4, .inl v41] w40 (fun v45 w44 => ck_i (x34 + v45) ∧ ((0 ≤ v37 ∧ v37 < 1830) ∧ (ck_i (a4 + 1) ∧ (ck_At (ch_C g A R) (d + 1) mX1_explain K 18 [some (.inr (.inr 64)), some (.inl a1), some (.inl a2), some (.inl a3), some (.inl (a4 + 1)), none, none] [] (ck_up w44 65 v37 (x34 + v45))))))))))))))))) : ck_At (ch_C g A R) (d + 1) mX1_explain K 18 [some (.inr (.inr 64)), some (.inl a1), some (.inl a2), some (.inl a3), some (.inl a4), none, none] [] w :=
  ck_in (fun hl => (ck_iload 20 rfl dX1_explain_18 rfl (ck_iload_n 21 rfl 3 dX1_explain_20 rfl rfl (ck_icmp_gt 24 rfl 117 dX1_explain_21 rfl hl.2.2.2.2.1 hl.2.2.2.1 (fun c53 => (have h56 := (h.1 c53); have o1 := h56.1; have h55 := h56.2; (ck_iinc 120 rfl [some (.inr (.inr 64)), some (.inl a1), some (.inl a2), some (.inl (a3 + (-1))), some (.inl a4), none, none] dX1_explain_117 rfl (Nat.le_of_ble_eq_true rfl) rfl rfl o1 (ck_goto 10 dX1_explain_120 rfl (ck_drop [some (.inr (.inr 64)), some (.inl a1), some (.inl a2), some (.inl (a3 + (-1))), none, none, none] (And.intro rfl (And.intro rfl (And.intro rfl (And.intro rfl True.intro)))) h55))))) (fun c54 => (ck_iload_n 25 rfl 2 dX1_explain_24 rfl rfl (ck_iload_n 26 rfl 3 dX1_explain_25 rfl rfl (ck_iadd 27 rfl dX1_explain_26 (ck_aload_n 28 rfl 0 dX1_explain_27 rfl rfl (ck_getr 31 rfl dX1_explain_28 fl_X1_18 sh_64 rfl (ck_geti 34 rfl 0 dX1_explain_31 fl_X1_36 sh_3 rfl rfl _ rfl (fun (q2 : ck_i (w 3 0)) => (ck_iload 36 rfl dX1_explain_34 rfl (ck_imul 37 rfl dX1_explain_36 (ck_iadd 38 rfl dX1_explain_37 (ck_nmi (fun x3 e4 => (have h58 := ((h.2 c54) x3 e4); have o5 := h58.1; have h57 := h58.2; (ck_istore 40 rfl [some (.inr (.inr 64)), some (.inl a1), some (.inl a2), some (.inl a3), some (.inl a4), some (.inl x3), none] dX1_explain_38 (Nat.le_of_ble_eq_true rfl) rfl rfl o5 (ck_aload_n 41 rfl 0 dX1_explain_40 rfl rfl (ck_getr 44 rfl dX1_explain_41 fl_X1_18 sh_64 rfl (ck_iload_n 45 rfl 1 dX1_explain_44 rfl rfl (ck_iload 47 rfl dX1_explain_45 rfl (ck_callV 50 rfl [.inl a1, .inl x3] [] dX1_explain_47 cv_X1_41 sh_3 rfl rfl (Nat.le_of_ble_eq_true rfl) (And.intro hl.2.1 (And.intro o5 True.intro)) (ck_mI h57 (fun v7 w6 q8 h9 => (ck_if_eq 53 rfl 79 dX1_explain_50 rfl q8 (fun c51 => (ck_bipush 81 rfl dX1_explain_79 rfl (ck_istore 83 rfl [some (.inr (.inr 64)), some (.inl a1), some (.inl a2), some (.inl a3), some (.inl a4), some (.inl x3), some (.inl 9)] dX1_explain_81 (Nat.le_of_ble_eq_true rfl) rfl rfl (show ck_i 9 by decide) (ck_aload_n 84 rfl 0 dX1_explain_83 rfl rfl (ck_getr 87 rfl dX1_explain_84 fl_X1_11 sh_64 rfl (ck_iload_n 88 rfl 3 dX1_explain_87 rfl rfl (ck_iload 90 rfl dX1_explain_88 rfl (ck_callS 93 rfl [.inl a3, .inl a4] [.inr (.inr 65)] dX1_explain_90 cs_X1_60 rfl rfl (Nat.le_of_ble_eq_true rfl) (And.intro hl.2.2.2.1 (And.intro hl.2.2.2.2.1 True.intro)) (ck_mI (h9.1 c51) (fun v11 w10 q12 h13 => (ck_iload 95 rfl dX1_explain_93 rfl (ck_aload_n 96 rfl 0 dX1_explain_95 rfl rfl (ck_iload_n 97 rfl 3 dX1_explain_96 rfl rfl (ck_iload 99 rfl dX1_explain_97 rfl (ck_aload_n 100 rfl 0 dX1_explain_99 rfl rfl (ck_iload_n 101 rfl 3 dX1_explain_100 rfl rfl (ck_iload 103 rfl dX1_explain_101 rfl (ck_callV 106 rfl [.inl a3, .inl a4] [.inl a4, .inl a3, .inr (.inr 64), .inl 9, .inl v11, .inr (.inr 65)] dX1_explain_103 cv_X1_63 sh_64 rfl rfl (Nat.le_of_ble_eq_true rfl) (And.intro hl.2.2.2.1 (And.intro hl.2.2.2.2.1 True.intro)) (ck_mI h13 (fun v15 w14 q16 h17 => (ck_callV 109 rfl [.inl a3, .inl a4, .inl v15] [.inl 9, .inl v11, .inr (.inr 65)] dX1_explain_106 cv_X1_66 sh_64 rfl rfl (Nat.le_of_ble_eq_true rfl) (And.intro hl.2.2.2.1 (And.intro hl.2.2.2.2.1 (And.intro q16 True.intro))) (ck_mI h17 (fun v19 w18 q20 h21 => (ck_iadd 110 rfl dX1_explain_109 (have h60 := h21; have o22 := h60.1; have h59 := h60.2; (have h62 := h59; have o23 := h62.1; have h61 := h62.2; (ck_iast 111 rfl dX1_explain_110 sh_65 (shn_65 hC) o23 o22 (have h64 := h61; have o24 := h64.1; have h63 := h64.2; (ck_iinc 114 rfl [some (.inr (.inr 64)), some (.inl a1), some (.inl a2), some (.inl a3), some (.inl (a4 + 1)), some (.inl x3), some (.inl 9)] dX1_explain_111 rfl (Nat.le_of_ble_eq_true rfl) rfl rfl o24 (ck_goto 18 dX1_explain_114 rfl (ck_drop [some (.inr (.inr 64)), some (.inl a1), some (.inl a2), some (.inl a3), some (.inl (a4 + 1)), none, none] (And.intro rfl (And.intro rfl (And.intro rfl (And.intro rfl (And.intro rfl True.intro))))) h63))))))))))))))))))))))))))))))) (fun c52 => (ck_aload_n 54 rfl 0 dX1_explain_53 rfl rfl (ck_getr 57 rfl dX1_explain_54 fl_X1_22 sh_64 rfl (ck_getr 60 rfl dX1_explain_57 fl_X1_45 sh_8 rfl (ck_iload_n 61 rfl 3 dX1_explain_60 rfl rfl (have h66 := (h9.2 c52); have o25 := h66.1; have h65 := h66.2; (ck_iald 62 rfl dX1_explain_61 sh_9 (shn_9 hC) o25 _ rfl (fun (q26 : ck_i (w6 9 a3)) => (ck_aload_n 63 rfl 0 dX1_explain_62 rfl rfl (ck_getr 66 rfl dX1_explain_63 fl_X1_26 sh_64 rfl (ck_iload_n 67 rfl 1 dX1_explain_66 rfl rfl (ck_iload 69 rfl dX1_explain_67 rfl (ck_callV 72 rfl [.inl a1, .inl x3] [.inl (w6 9 a3)] dX1_explain_69 cv_X1_48 sh_51 rfl rfl (Nat.le_of_ble_eq_true rfl) (And.intro hl.2.1 (And.intro o5 True.intro)) (ck_mI h65 (fun v28 w27 q29 h30 => (ck_isub 73 rfl dX1_explain_72 (have h68 := h30; have o31 := h68.1; have h67 := h68.2; (have h70 := h67; have o32 := h70.1; have h69 := h70.2; (ck_callS 76 rfl [.inl ((w6 9 a3) - v28)] [] dX1_explain_73 cs_X1_54 rfl rfl (Nat.le_of_ble_eq_true rfl) (And.intro o31 True.intro) (p_J9_abs_0f7a4 hC o32 (fun q33 => (ck_goto 81 dX1_explain_76 rfl (ck_nmi (fun x34 e35 => (ck_istore 83 rfl [some (.inr (.inr 64)), some (.inl a1), some (.inl a2), some (.inl a3), some (.inl a4), some (.inl x3), some (.inl x34)] dX1_explain_81 (Nat.le_of_ble_eq_true rfl) rfl rfl (by rw [e35]; exact q33.1) (ck_aload_n 84 rfl 0 dX1_explain_83 rfl rfl (ck_getr 87 rfl dX1_explain_84 fl_X1_11 sh_64 rfl (ck_iload_n 88 rfl 3 dX1_explain_87 rfl rfl (ck_iload 90 rfl dX1_explain_88 rfl (ck_callS 93 rfl [.inl a3, .inl a4] [.inr (.inr 65)] dX1_explain_90 cs_X1_60 rfl rfl (Nat.le_of_ble_eq_true rfl) (And.intro hl.2.2.2.1 (And.intro hl.2.2.2.2.1 True.intro)) (ck_mI (h69 x34 e35) (fun v37 w36 q38 h39 => (ck_iload 95 rfl dX1_explain_93 rfl (ck_aload_n 96 rfl 0 dX1_explain_95 rfl rfl (ck_iload_n 97 rfl 3 dX1_explain_96 rfl rfl (ck_iload 99 rfl dX1_explain_97 rfl (ck_aload_n 100 rfl 0 dX1_explain_99 rfl rfl (ck_iload_n 101 rfl 3 dX1_explain_100 rfl rfl (ck_iload 103 rfl dX1_explain_101 rfl (ck_callV 106 rfl [.inl a3, .inl a4] [.inl a4, .inl a3, .inr (.inr 64), .inl x34, .inl v37, .inr (.inr 65)] dX1_explain_103 cv_X1_63 sh_64 rfl rfl (Nat.le_of_ble_eq_true rfl) (And.intro hl.2.2.2.1 (And.intro hl.2.2.2.2.1 True.intro)) (ck_mI h39 (fun v41 w40 q42 h43 => (ck_callV 109 rfl [.inl a3, .inl a4, .inl v41] [.inl x34, .inl v37, .inr (.inr 65)] dX1_explain_106 cv_X1_66 sh_64 rfl rfl (Nat.le_of_ble_eq_true rfl) (And.intro hl.2.2.2.1 (And.intro hl.2.2.2.2.1 (And.intro q42 True.intro))) (ck_mI h43 (fun v45 w44 q46 h47 => (ck_iadd 110 rfl dX1_explain_109 (have h72 := h47; have o48 := h72.1; have h71 := h72.2; (have h74 := h71; have o49 := h74.1; have h73 := h74.2; (ck_iast 111 rfl dX1_explain_110 sh_65 (shn_65 hC) o49 o48 (have h76 := h73; have o50 := h76.1; have h75 := h76.2; (ck_iinc 114 rfl [some (.inr (.inr 64)), some (.inl a1), some (.inl a2), some (.inl a3), some (.inl (a4 + 1)), some (.inl x3), some (.inl x34)] dX1_explain_111 rfl (Nat.le_of_ble_eq_true rfl) rfl rfl o50 (ck_goto 18 dX1_explain_114 rfl (ck_drop [some (.inr (.inr 64)), some (.inl a1), some (.inl a2), some (.inl a3), some (.inl (a4 + 1)), none, none] (And.intro rfl (And.intro rfl (And.intro rfl (And.intro rfl (And.intro rfl True.intro))))) h75))))))))))))))))))))))))))))))))))))))))))))))))))))))))))))))))))))))))))))))))
set_option maxRecDepth 8000 in
theorem r_X1_explain_132 {g : ch_G} {A R : Nat} (hC : ck_Cx g A R) {d : Nat} {K : Option ck_V → ck_W → Prop} {w : ck_W} {a3 : Int} (h : ((w 8 1) ≤ a3 → K none w) ∧ (¬ (w 8 1) ≤ a3 → (0 ≤ (a3 - 1) ∧ (a3 - 1) < 30) ∧ (ck_i (a3 - 1) ∧ (ck_CI (ch_C g A R) d mX1_nextOver [.inr (.inr 64), .inl (a3 - 1), .inl (w 66 (a3 - 1))] w (fun v6 w5 => (0 ≤ a3 ∧ a3 < 30) ∧ (ck_i (a3 + 1) ∧ (ck_At (ch_C g A R) (d + 1) mX1_explain K 132 [some (.inr (.inr 64)), none, none, some (.inl (a3 + 1)), none, none, none] [] (ck_up w5 66 a3 v6)))))))) : ck_At (ch_C g A R) (d + 1) mX1_explain K 132 [some (.inr (.inr 64)), none, none, some (.inl a3), none, none, none] [] w :=
  ck_in (fun hl => (ck_iload_n 133 rfl 3 dX1_explain_132 rfl rfl (ck_aload_n 134 rfl 0 dX1_explain_133 rfl rfl (ck_getr 137 rfl dX1_explain_134 fl_X1_22 sh_64 rfl (ck_geti 140 rfl 1 dX1_explain_137 fl_X1_30 sh_8 rfl rfl _ rfl (fun (q1 : ck_i (w 8 1)) => (ck_icmp_ge 143 rfl 170 dX1_explain_140 rfl hl.2.1 q1 (fun c11 => (ck_vret dX1_explain_170 rfl (h.1 c11))) (fun c12 => (ck_aload_n 144 rfl 0 dX1_explain_143 rfl rfl (ck_getr 147 rfl dX1_explain_144 fl_X1_15 sh_64 rfl (ck_iload_n 148 rfl 3 dX1_explain_147 rfl rfl (ck_aload_n 149 rfl 0 dX1_explain_148 rfl rfl (ck_iload_n 150 rfl 3 dX1_explain_149 rfl rfl (ck_iconst 151 rfl dX1_explain_150 rfl (ck_isub 152 rfl dX1_explain_151 (ck_aload_n 153 rfl 0 dX1_explain_152 rfl rfl (ck_getr 156 rfl dX1_explain_153 fl_X1_15 sh_64 rfl (ck_iload_n 157 rfl 3 dX1_explain_156 rfl rfl (ck_iconst 158 rfl dX1_explain_157 rfl (ck_isub 159 rfl dX1_explain_158 (have h14 := (h.2 c12); have o2 := h14.1; have h13 := h14.2; (ck_iald 160 rfl dX1_explain_159 sh_66 (shn_66 hC) o2 _ rfl (fun (q3 : ck_i (w 66 (a3 - 1))) => (have h16 := h13; have o4 := h16.1; have h15 := h16.2; (ck_callV 163 rfl [.inl (a3 - 1), .inl (w 66 (a3 - 1))] [.inl a3, .inr (.inr 66)] dX1_explain_160 cv_X1_63 sh_64 rfl rfl (Nat.le_of_ble_eq_true rfl) (And.intro o4 (And.intro q3 True.intro)) (ck_mI h15 (fun v6 w5 q7 h8 => (have h18 := h8; have o9 := h18.1; have h17 := h18.2; (ck_iast 164 rfl dX1_explain_163 sh_66 (shn_66 hC) o9 q7 (have h20 := h17; have o10 := h20.1; have h19 := h20.2; (ck_iinc 167 rfl [some (.inr (.inr 64)), none, none, some (.inl (a3 + 1)), none, none, none] dX1_explain_164 rfl (Nat.le_of_ble_eq_true rfl) rfl rfl o10 (ck_goto 132 dX1_explain_167 rfl h19))))))))))))))))))))))))))))))))
theorem S_X1_explain {g : ch_G} {A R : Nat} (hC : ck_Cx g A R) {d : Nat} {K : Option ck_V → ck_W → Prop} {w : ck_W} {a1 a2 : Int} (hD : cs_D A R w) (hT : cs_T w) (hK : cs_K R w) (hf : ∀ j, 0 ≤ j → j < 144 → 0 ≤ w 62 j ∧ w 62 j < (R : Int)) (h1 : 0 ≤ a1 ∧ a1 ≤ 5) (h2 : 0 ≤ a2 ∧ a2 < 24) (hn : 1 ≤ w 8 1) (h : ∀ w', (∀ k, k ≠ 65 → k ≠ 66 → w' k = w k) → w' 65 30 = cx_L (w 8 2) (cx_c A w a1 a2) (w 8 1 - 1).toNat 0 0 → (∀ t : Nat, (t : Int) < w 8 1 → w' 66 t = cx_ov (w 8 2) (w 8 1) (cx_c A w a1 a2) t) → K none w') : ck_Ex (ch_C g A R) (d + 3) mX1_explain [.inr (.inr 64), .inl a1, .inl a2] w K := by
  have c := cs_ar hC
  have k1 := hK.1
  have k2 := hK.2.1
  have tb := cs_tb hC hT h1
  have cb : ∀ t s, 0 ≤ t → t < w 8 1 → 0 ≤ cx_c A w a1 a2 t s ∧ cx_c A w a1 a2 t s ≤ 20 := fun t s t0 t1 => by
    unfold cx_c
    split
    · rename_i e
      have a := hK.2.2 t t0 t1
      have b := hf (a1 * 24 + (a2 + t + (A : Int) * s)) (by omega) (by omega)
      omega
    · omega
  -- rows of steps behind have this bound
  have Lb : ∀ (m : Nat) (t s : Int), 0 ≤ t → t + m < w 8 1 → 0 ≤ cx_L (w 8 2) (cx_c A w a1 a2) m t s ∧ cx_L (w 8 2) (cx_c A w a1 a2) m t s ≤ 20 + 120 * m := by
    intro m
    induction m with
    | zero => intro t s t0 t1; rw [cx_L]; have := cb t s t0 (by omega); omega
    | succ m ih =>
      intro t s t0 t1
      rw [cx_L]
      have a := cb t s t0 (by omega)
      have b := ih (t + 1) (cx_nx (fun x => cx_L (w 8 2) (cx_c A w a1 a2) m (t + 1) x + if x = s then 0 else w 8 2) s) (by omega) (by omega)
      split <;> omega
  -- over, at the end
  have lo : ∀ (m a : Nat) (u : ck_W), w 8 1 - (a : Int) = m → 1 ≤ a → (∀ k, k ≠ 65 → k ≠ 66 → u k = w k) → (∀ t s, 0 ≤ t → t < w 8 1 → -t ≤ s → s ≤ t → u 65 (t * 61 + 30 + s) = cx_L (w 8 2) (cx_c A w a1 a2) (w 8 1 - 1 - t).toNat t s) → (∀ t : Nat, t < a → u 66 t = cx_ov (w 8 2) (w 8 1) (cx_c A w a1 a2) t) → ck_At (ch_C g A R) (d + 3) mX1_explain K 132 [some (.inr (.inr 64)), none, none, some (.inl (a : Int)), none, none, none] [] u := by
    intro m
    induction m with
    | zero =>
      intro a u g1 g2 g3 g4 g5
      have e8 : u 8 1 = w 8 1 := by rw [g3 8 (by decide) (by decide)]
      refine r_X1_explain_132 hC ⟨fun _ => h u g3 ?_ (fun t ht => g5 t (by omega)), fun q => absurd (by omega) q⟩
      have e := g4 0 0 (by omega) (by omega) (by omega) (by omega)
      rw [show (0 : Int) * 61 + 30 + 0 = 30 by decide] at e
      rw [e, show w 8 1 - 1 - 0 = w 8 1 - 1 by omega]
    | succ m ih =>
      intro a u g1 g2 g3 g4 g5
      have e8 : u 8 1 = w 8 1 := by rw [g3 8 (by decide) (by decide)]
      have e82 : u 8 2 = w 8 2 := by rw [g3 8 (by decide) (by decide)]
      obtain ⟨b, rfl⟩ : ∃ b, a = b + 1 := ⟨a - 1, by omega⟩
      have eb : ((b + 1 : Nat) : Int) - 1 = (b : Int) := by omega
      have ob := cx_ovb (w 8 2) (w 8 1) (cx_c A w a1 a2) b
      have uK : cs_K R u := by unfold cs_K; rw [g3 8 (by decide) (by decide), g3 9 (by decide) (by decide)]; exact hK
      refine r_X1_explain_132 hC ⟨fun q => absurd q (by omega), fun _ => ?_⟩
      rw [eb, g5 b (by omega)]
      have rw65 : ∀ x, cx_ov (w 8 2) (w 8 1) (cx_c A w a1 a2) b - 1 ≤ x → x ≤ cx_ov (w 8 2) (w 8 1) (cx_c A w a1 a2) b + 1 → u 65 (((b : Int) + 1) * 61 + 30 + x) = cx_L (w 8 2) (cx_c A w a1 a2) (w 8 1 - 2 - b).toNat ((b : Int) + 1) x := fun x x0 x1 => by
        rw [g4 ((b : Int) + 1) x (by omega) (by omega) (by omega) (by omega), show w 8 1 - 1 - ((b : Int) + 1) = w 8 1 - 2 - b by omega]
      refine ⟨by omega, by constructor <;> omega, p_X1_nextOver hC uK (by omega) (by omega) (fun q x x0 x1 => ?_) ⟨_, rfl, fun _ => ⟨by omega, by constructor <;> omega, ?_⟩⟩⟩
      · rw [rw65 x x0 x1]
        have := Lb (w 8 1 - 2 - b).toNat ((b : Int) + 1) x (by omega) (by omega)
        omega
      · have en : cx_nx (cx_cf u (b : Int) (cx_ov (w 8 2) (w 8 1) (cx_c A w a1 a2) b)) (cx_ov (w 8 2) (w 8 1) (cx_c A w a1 a2) b) = cx_ov (w 8 2) (w 8 1) (cx_c A w a1 a2) (b + 1) := by
          rw [cx_ov]
          refine cx_nx_fr (fun x x0 x1 => ?_)
          unfold cx_cf
          rw [if_pos (by omega), rw65 x x0 x1, e82]
        rw [en, show ((b + 1 : Nat) : Int) + 1 = ((b + 1 + 1 : Nat) : Int) by omega]
        refine ih (b + 1 + 1) _ (by omega) (by omega) (fun k x y => by rw [ck_up_ne y]; exact g3 k x y) (fun t s t0 t1 s0 s1 => by rw [ck_up_ne (by decide)]; exact g4 t s t0 t1 s0 s1) (fun t ht => ?_)
        by_cases e : t = b + 1
        · rw [e, ck_up_eq]
        · rw [ck_up_nj (by omega)]; exact g5 t (by omega)
  -- steps, from the last
  have ls : ∀ (m : Nat) (a3 : Int) (u : ck_W), a3 + 1 = m → a3 < w 8 1 → (∀ k, k ≠ 65 → u k = w k) → (∀ t s, a3 < t → t < w 8 1 → -t ≤ s → s ≤ t → u 65 (t * 61 + 30 + s) = cx_L (w 8 2) (cx_c A w a1 a2) (w 8 1 - 1 - t).toNat t s) → ck_At (ch_C g A R) (d + 3) mX1_explain K 10 [some (.inr (.inr 64)), some (.inl a1), some (.inl a2), some (.inl a3), none, none, none] [] u := by
    intro m
    induction m with
    | zero =>
      intro a3 u g1 g2 g3 g4
      refine r_X1_explain_10 hC ⟨fun _ => ?_, fun q => absurd (by omega) q⟩
      have l := lo (w 8 1 - 1).toNat 1 (ck_up u 66 0 0) (by omega) (by omega) (fun k x y => by rw [ck_up_ne y]; exact g3 k x) (fun t s t0 t1 s0 s1 => by rw [ck_up_ne (by decide)]; exact g4 t s (by omega) t1 s0 s1) (fun t ht => by rw [show t = 0 by omega, cx_ov]; exact ck_up_eq)
      exact l
    | succ m ih =>
      intro a3 u g1 g2 g3 g4
      refine r_X1_explain_10 hC ⟨fun q => absurd q (by omega), fun _ => ⟨by constructor <;> omega, ?_⟩⟩
      have li : ∀ (n : Nat) (a4 : Int) (v : ck_W), a3 + 1 - a4 = n → -a3 ≤ a4 → (∀ k, k ≠ 65 → v k = w k) → (∀ t s, a3 < t → t < w 8 1 → -t ≤ s → s ≤ t → v 65 (t * 61 + 30 + s) = cx_L (w 8 2) (cx_c A w a1 a2) (w 8 1 - 1 - t).toNat t s) → (∀ s, -a3 ≤ s → s < a4 → v 65 (a3 * 61 + 30 + s) = cx_L (w 8 2) (cx_c A w a1 a2) (w 8 1 - 1 - a3).toNat a3 s) → ck_At (ch_C g A R) (d + 3) mX1_explain K 18 [some (.inr (.inr 64)), some (.inl a1), some (.inl a2), some (.inl a3), some (.inl a4), none, none] [] v := by
        intro n
        induction n with
        | zero =>
          intro a4 v e1 e2 e3 e4 e5
          refine r_X1_explain_18 hC ⟨fun _ => ⟨by constructor <;> omega, ih (a3 + -1) v (by omega) (by omega) e3 (fun t s t0 t1 s0 s1 => ?_)⟩, fun q => absurd (by omega) q⟩
          by_cases y : t = a3
          · rw [y]; exact e5 s (by omega) (by omega)
          · exact e4 t s (by omega) t1 s0 s1
        | succ n ih2 =>
          intro a4 v e1 e2 e3 e4 e5
          have e8 : v 8 1 = w 8 1 := by rw [e3 8 (by decide)]
          have e82 : v 8 2 = w 8 2 := by rw [e3 8 (by decide)]
          have vD := cs_hD hD (e3 3 (by decide))
          have vT := cs_hT hT (e3 6 (by decide))
          have v62 : v 62 = w 62 := e3 62 (by decide)
          have v9 : v 9 = w 9 := e3 9 (by decide)
          have v6 : v 6 = w 6 := e3 6 (by decide)
          have vK : cs_K R v := by unfold cs_K; rw [e3 8 (by decide), v9]; exact hK
          have as0 : -174 ≤ (A : Int) * a4 ∧ (A : Int) * a4 ≤ 180 := by
            have a : (A : Int) * a4 ≤ 6 * 30 := by
              rcases Int.le_total 0 a4 with z | z
              · exact Int.mul_le_mul (by omega) (by omega) z (by omega)
              · have := Int.mul_nonpos_of_nonneg_of_nonpos (a := (A : Int)) (b := a4) (by omega) z
                omega
            have b : (A : Int) * (-a4) ≤ 6 * 29 := by
              rcases Int.le_total 0 (-a4) with z | z
              · exact Int.mul_le_mul (by omega) (by omega) z (by omega)
              · have := Int.mul_nonpos_of_nonneg_of_nonpos (a := (A : Int)) (b := -a4) (by omega) z
                omega
            rw [Int.mul_neg] at b
            omega
          have nb := cx_nxb (f := cx_cf v a3 a4) (s := a4)
          have row1 : a3 + 1 < w 8 1 → ∀ x, a4 - 1 ≤ x → x ≤ a4 + 1 → v 65 ((a3 + 1) * 61 + 30 + x) = cx_L (w 8 2) (cx_c A w a1 a2) (w 8 1 - 2 - a3).toNat (a3 + 1) x := fun q x x0 x1 => by
            rw [e4 (a3 + 1) x (by omega) q (by omega) (by omega), show w 8 1 - 1 - (a3 + 1) = w 8 1 - 2 - a3 by omega]
          have bd : a3 + 1 < v 8 1 → ∀ x, a4 - 1 ≤ x → x ≤ a4 + 1 → 0 ≤ v 65 ((a3 + 1) * 61 + 30 + x) ∧ v 65 ((a3 + 1) * 61 + 30 + x) ≤ 100000 := fun q x x0 x1 => by
            rw [row1 (by omega) x x0 x1]
            have := Lb (w 8 1 - 2 - a3).toNat (a3 + 1) x (by omega) (by omega)
            omega
          have hv : cx_c A w a1 a2 a3 a4 + cx_cf v a3 a4 (cx_nx (cx_cf v a3 a4) a4) = cx_L (w 8 2) (cx_c A w a1 a2) (w 8 1 - 1 - a3).toNat a3 a4 := by
            by_cases q : a3 + 1 < w 8 1
            · rw [show (w 8 1 - 1 - a3).toNat = (w 8 1 - 2 - a3).toNat + 1 by omega, cx_L]
              have ef : ∀ x, a4 - 1 ≤ x → x ≤ a4 + 1 → cx_cf v a3 a4 x = cx_L (w 8 2) (cx_c A w a1 a2) (w 8 1 - 2 - a3).toNat (a3 + 1) x + if x = a4 then 0 else w 8 2 := fun x x0 x1 => by
                unfold cx_cf
                rw [if_pos (by omega), row1 q x x0 x1, e82]
              have en : cx_nx (cx_cf v a3 a4) a4 = cx_nx (fun x => cx_L (w 8 2) (cx_c A w a1 a2) (w 8 1 - 2 - a3).toNat (a3 + 1) x + if x = a4 then 0 else w 8 2) a4 := cx_nx_fr ef
              rw [ef _ nb.1 nb.2, en]
            · rw [show (w 8 1 - 1 - a3).toNat = 0 by omega, cx_L]
              unfold cx_cf
              rw [if_neg (by omega)]
              omega
          have vb : 0 ≤ cx_L (w 8 2) (cx_c A w a1 a2) (w 8 1 - 1 - a3).toNat a3 a4 ∧ cx_L (w 8 2) (cx_c A w a1 a2) (w 8 1 - 1 - a3).toNat a3 a4 ≤ 4000 := by
            have := Lb (w 8 1 - 1 - a3).toNat a3 a4 (by omega) (by omega)
            omega
          -- what is laid
          have lay : ∀ cost, cost = cx_c A w a1 a2 a3 a4 → ck_CI (ch_C g A R) (d + 2) mX1_index [.inl a3, .inl a4] v (fun v11 w10 => ck_CI (ch_C g A R) (d + 2) mX1_nextOver [.inr (.inr 64), .inl a3, .inl a4] w10 (fun v15 w14 => ck_CI (ch_C g A R) (d + 2) mX1_costOf [.inr (.inr 64), .inl a3, .inl a4, .inl v15] w14 (fun v19 w18 => ck_i (cost + v19) ∧ ((0 ≤ v11 ∧ v11 < 1830) ∧ (ck_i (a4 + 1) ∧ (ck_At (ch_C g A R) (d + 3) mX1_explain K 18 [some (.inr (.inr 64)), some (.inl a1), some (.inl a2), some (.inl a3), some (.inl (a4 + 1)), none, none] [] (ck_up w18 65 v11 (cost + v19)))))))) := by
            intro cost ec
            refine p_X1_index hC (by omega) (by omega) ⟨_, rfl, fun _ => p_X1_nextOver hC vK (by omega) (by omega) bd ⟨_, rfl, fun _ => p_X1_costOf hC vK (by omega) (by omega) (fun q => bd q _ nb.1 nb.2) ⟨_, rfl, fun _ => ?_⟩⟩⟩
            dsimp only
            rw [ec, hv]
            refine ⟨by constructor <;> omega, by omega, by constructor <;> omega, ih2 (a4 + 1) _ (by omega) (by omega) (fun k x => by rw [ck_up_ne x]; exact e3 k x) (fun t s t0 t1 s0 s1 => by rw [ck_up_nj (by omega)]; exact e4 t s t0 t1 s0 s1) (fun s s0 s1 => ?_)⟩
            by_cases y : s = a4
            · rw [y, ck_up_eq]
            · rw [ck_up_nj (by omega)]; exact e5 s s0 (by omega)
          refine r_X1_explain_18 hC ⟨fun q => absurd q (by omega), fun _ x3 ex => ?_⟩
          rw [vD.1] at ex
          refine ⟨by constructor <;> omega, p_X5_hasPlace hC vD vT (fun y => ⟨_, rfl, fun _ => ⟨fun q => absurd q (by decide), fun _ => ⟨by omega, p_X10_radiusAt hC (fun _ => ⟨_, rfl, fun _ => ?_⟩) (fun no => absurd ⟨h1, by have y2 := y.2; rw [v6] at y2; omega⟩ no)⟩⟩⟩) (fun no => ⟨_, rfl, fun _ => ⟨fun _ => lay 9 ?_, fun q => absurd rfl q⟩⟩)⟩
          · have y2 := y.2
            rw [v6] at y2
            have rb := hf (a1 * 24 + x3) (by omega) (by omega)
            have wb := hK.2.2 a3 (by omega) (by omega)
            dsimp only
            rw [v9, v62]
            refine ⟨by constructor <;> omega, by omega, fun x34 e34 => lay x34 ?_⟩
            rw [e34]
            unfold cx_c
            rw [if_pos (by omega), ex]
          · unfold cx_c
            rw [if_neg (fun z => no ⟨h1, by rw [v6]; omega⟩)]
      exact li (2 * a3 + 1).toNat (-a3) u (by omega) (by omega) g3 g4 (fun s s0 s1 => by omega)
  exact e_X1_explain hC ⟨by constructor <;> omega, ls (w 8 1).toNat (w 8 1 - 1) w (by omega) (by omega) (fun _ _ => rfl) (fun t s t0 t1 => by omega)⟩
theorem dX1_leastCost_0 : decode cX1_leastCost 0 = .ok (.aload_n 0, 1) := dk_42 (by decide +kernel)
theorem dX1_leastCost_1 : decode cX1_leastCost 1 = .ok (.getfield 11, 3) := dk_180 0 11 (by decide +kernel)
theorem dX1_leastCost_4 : decode cX1_leastCost 4 = .ok (.iconst 0, 1) := dk_3 (by decide +kernel)
theorem dX1_leastCost_5 : decode cX1_leastCost 5 = .ok (.iconst 0, 1) := dk_3 (by decide +kernel)
theorem dX1_leastCost_6 : decode cX1_leastCost 6 = .ok (.invokestatic 60, 3) := dk_184 0 60 (by decide +kernel)
theorem dX1_leastCost_9 : decode cX1_leastCost 9 = .ok (.iaload, 1) := dk_46 (by decide +kernel)
theorem dX1_leastCost_10 : decode cX1_leastCost 10 = .ok (.ireturn, 1) := dk_172 (by decide +kernel)
set_option maxRecDepth 8000 in
theorem e_X1_leastCost {g : ch_G} {A R : Nat} (hC : ck_Cx g A R) {d : Nat} {K : Option ck_V → ck_W → Prop} {w : ck_W} (h : ck_CI (ch_C g A R) d mX1_index [.inl 0, .inl 0] w (fun v2 w1 => (0 ≤ v2 ∧ v2 < 1830) ∧ (K (some (.inl (w1 65 v2))) w1))) : ck_Ex (ch_C g A R) (d + 1) mX1_leastCost [.inr (.inr 64)] w K :=
  ck_entry hC.1 [some (.inr (.inr 64))] (by decide) (Nat.le_of_ble_eq_true rfl) rfl (fun q => q) (ck_in (fun hl => (ck_aload_n 1 rfl 0 dX1_leastCost_0 rfl rfl (ck_getr 4 rfl dX1_leastCost_1 fl_X1_11 sh_64 rfl (ck_iconst 5 rfl dX1_leastCost_4 rfl (ck_iconst 6 rfl dX1_leastCost_5 rfl (ck_callS 9 rfl [.inl 0, .inl 0] [.inr (.inr 65)] dX1_leastCost_6 cs_X1_60 rfl rfl (Nat.le_of_ble_eq_true rfl) (And.intro (show ck_i 0 by decide) (And.intro (show ck_i 0 by decide) True.intro)) (ck_mI h (fun v2 w1 q3 h4 => (have h8 := h4; have o5 := h8.1; have h7 := h8.2; (ck_iald 10 rfl dX1_leastCost_9 sh_65 (shn_65 hC) o5 _ rfl (fun (q6 : ck_i (w1 65 v2)) => (ck_iret dX1_leastCost_10 rfl q6 h7)))))))))))))
theorem dX1_changes_0 : decode cX1_changes 0 = .ok (.iconst 0, 1) := dk_3 (by decide +kernel)
theorem dX1_changes_1 : decode cX1_changes 1 = .ok (.istore_n 1, 1) := dk_60 (by decide +kernel)
theorem dX1_changes_2 : decode cX1_changes 2 = .ok (.iconst 1, 1) := dk_4 (by decide +kernel)
theorem dX1_changes_3 : decode cX1_changes 3 = .ok (.istore_n 2, 1) := dk_61 (by decide +kernel)
theorem dX1_changes_4 : decode cX1_changes 4 = .ok (.iload_n 2, 1) := dk_28 (by decide +kernel)
theorem dX1_changes_5 : decode cX1_changes 5 = .ok (.aload_n 0, 1) := dk_42 (by decide +kernel)
theorem dX1_changes_6 : decode cX1_changes 6 = .ok (.getfield 22, 3) := dk_180 0 22 (by decide +kernel)
theorem dX1_changes_9 : decode cX1_changes 9 = .ok (.getfield 30, 3) := dk_180 0 30 (by decide +kernel)
theorem dX1_changes_12 : decode cX1_changes 12 = .ok (.if_icmp .ge 29, 3) := dk_162 0 29 (by decide +kernel)
theorem dX1_changes_15 : decode cX1_changes 15 = .ok (.aload_n 0, 1) := dk_42 (by decide +kernel)
theorem dX1_changes_16 : decode cX1_changes 16 = .ok (.getfield 15, 3) := dk_180 0 15 (by decide +kernel)
theorem dX1_changes_19 : decode cX1_changes 19 = .ok (.iload_n 2, 1) := dk_28 (by decide +kernel)
theorem dX1_changes_20 : decode cX1_changes 20 = .ok (.iaload, 1) := dk_46 (by decide +kernel)
theorem dX1_changes_21 : decode cX1_changes 21 = .ok (.aload_n 0, 1) := dk_42 (by decide +kernel)
theorem dX1_changes_22 : decode cX1_changes 22 = .ok (.getfield 15, 3) := dk_180 0 15 (by decide +kernel)
theorem dX1_changes_25 : decode cX1_changes 25 = .ok (.iload_n 2, 1) := dk_28 (by decide +kernel)
theorem dX1_changes_26 : decode cX1_changes 26 = .ok (.iconst 1, 1) := dk_4 (by decide +kernel)
theorem dX1_changes_27 : decode cX1_changes 27 = .ok (.isub, 1) := dk_100 (by decide +kernel)
theorem dX1_changes_28 : decode cX1_changes 28 = .ok (.iaload, 1) := dk_46 (by decide +kernel)
theorem dX1_changes_29 : decode cX1_changes 29 = .ok (.if_icmp .eq 6, 3) := dk_159 0 6 (by decide +kernel)
theorem dX1_changes_32 : decode cX1_changes 32 = .ok (.iinc 1 1, 3) := dk_132 1 (by decide +kernel)
theorem dX1_changes_35 : decode cX1_changes 35 = .ok (.iinc 2 1, 3) := dk_132 1 (by decide +kernel)
theorem dX1_changes_38 : decode cX1_changes 38 = .ok (.goto (-34), 3) := dk_167 255 222 (by decide +kernel)
theorem dX1_changes_41 : decode cX1_changes 41 = .ok (.iload_n 1, 1) := dk_27 (by decide +kernel)
theorem dX1_changes_42 : decode cX1_changes 42 = .ok (.ireturn, 1) := dk_172 (by decide +kernel)
set_option maxRecDepth 8000 in
theorem e_X1_changes {g : ch_G} {A R : Nat} (hC : ck_Cx g A R) {d : Nat} {K : Option ck_V → ck_W → Prop} {w : ck_W} (h : ck_At (ch_C g A R) d mX1_changes K 4 [some (.inr (.inr 64)), some (.inl 0), some (.inl 1)] [] w) : ck_Ex (ch_C g A R) d mX1_changes [.inr (.inr 64)] w K :=
  ck_entry hC.1 [some (.inr (.inr 64)), none, none] (by decide) (Nat.le_of_ble_eq_true rfl) rfl (fun q => q) (ck_in (fun hl => (ck_iconst 1 rfl dX1_changes_0 rfl (ck_istore_n 2 rfl 1 [some (.inr (.inr 64)), some (.inl 0), none] dX1_changes_1 rfl (Nat.le_of_ble_eq_true rfl) rfl rfl (show ck_i 0 by decide) (ck_iconst 3 rfl dX1_changes_2 rfl (ck_istore_n 4 rfl 2 [some (.inr (.inr 64)), some (.inl 0), some (.inl 1)] dX1_changes_3 rfl (Nat.le_of_ble_eq_true rfl) rfl rfl (show ck_i 1 by decide) h))))))
set_option maxRecDepth 8000 in
theorem r_X1_changes_4 {g : ch_G} {A R : Nat} (hC : ck_Cx g A R) {d : Nat} {K : Option ck_V → ck_W → Prop} {w : ck_W} {a1 a2 : Int} (h : ((w 8 1) ≤ a2 → K (some (.inl a1)) w) ∧ (¬ (w 8 1) ≤ a2 → (0 ≤ a2 ∧ a2 < 30) ∧ ((0 ≤ (a2 - 1) ∧ (a2 - 1) < 30) ∧ (((w 66 a2) = (w 66 (a2 - 1)) → ck_i (a2 + 1) ∧ (ck_At (ch_C g A R) d mX1_changes K 4 [some (.inr (.inr 64)), some (.inl a1), some (.inl (a2 + 1))] [] w)) ∧ (¬ (w 66 a2) = (w 66 (a2 - 1)) → ck_i (a1 + 1) ∧ (ck_i (a2 + 1) ∧ (ck_At (ch_C g A R) d mX1_changes K 4 [some (.inr (.inr 64)), some (.inl (a1 + 1)), some (.inl (a2 + 1))] [] w))))))) : ck_At (ch_C g A R) d mX1_changes K 4 [some (.inr (.inr 64)), some (.inl a1), some (.inl a2)] [] w :=
  ck_in (fun hl => (ck_iload_n 5 rfl 2 dX1_changes_4 rfl rfl (ck_aload_n 6 rfl 0 dX1_changes_5 rfl rfl (ck_getr 9 rfl dX1_changes_6 fl_X1_22 sh_64 rfl (ck_geti 12 rfl 1 dX1_changes_9 fl_X1_30 sh_8 rfl rfl _ rfl (fun (q1 : ck_i (w 8 1)) => (ck_icmp_ge 15 rfl 41 dX1_changes_12 rfl hl.2.2.1 q1 (fun c11 => (ck_iload_n 42 rfl 1 dX1_changes_41 rfl rfl (ck_iret dX1_changes_42 rfl hl.2.1 (h.1 c11)))) (fun c12 => (ck_aload_n 16 rfl 0 dX1_changes_15 rfl rfl (ck_getr 19 rfl dX1_changes_16 fl_X1_15 sh_64 rfl (ck_iload_n 20 rfl 2 dX1_changes_19 rfl rfl (have h14 := (h.2 c12); have o2 := h14.1; have h13 := h14.2; (ck_iald 21 rfl dX1_changes_20 sh_66 (shn_66 hC) o2 _ rfl (fun (q3 : ck_i (w 66 a2)) => (ck_aload_n 22 rfl 0 dX1_changes_21 rfl rfl (ck_getr 25 rfl dX1_changes_22 fl_X1_15 sh_64 rfl (ck_iload_n 26 rfl 2 dX1_changes_25 rfl rfl (ck_iconst 27 rfl dX1_changes_26 rfl (ck_isub 28 rfl dX1_changes_27 (have h16 := h13; have o4 := h16.1; have h15 := h16.2; (ck_iald 29 rfl dX1_changes_28 sh_66 (shn_66 hC) o4 _ rfl (fun (q5 : ck_i (w 66 (a2 - 1))) => (ck_icmp_eq 32 rfl 35 dX1_changes_29 rfl q3 q5 (fun c9 => (have h18 := (h15.1 c9); have o6 := h18.1; have h17 := h18.2; (ck_iinc 38 rfl [some (.inr (.inr 64)), some (.inl a1), some (.inl (a2 + 1))] dX1_changes_35 rfl (Nat.le_of_ble_eq_true rfl) rfl rfl o6 (ck_goto 4 dX1_changes_38 rfl h17)))) (fun c10 => (have h20 := (h15.2 c10); have o7 := h20.1; have h19 := h20.2; (ck_iinc 35 rfl [some (.inr (.inr 64)), some (.inl (a1 + 1)), some (.inl a2)] dX1_changes_32 rfl (Nat.le_of_ble_eq_true rfl) rfl rfl o7 (have h22 := h19; have o8 := h22.1; have h21 := h22.2; (ck_iinc 38 rfl [some (.inr (.inr 64)), some (.inl (a1 + 1)), some (.inl (a2 + 1))] dX1_changes_35 rfl (Nat.le_of_ble_eq_true rfl) rfl rfl o8 (ck_goto 4 dX1_changes_38 rfl h21)))))))))))))))))))))))))))))
theorem dX1_placeOf_0 : decode cX1_placeOf 0 = .ok (.iload_n 2, 1) := dk_28 (by decide +kernel)
theorem dX1_placeOf_1 : decode cX1_placeOf 1 = .ok (.iconst 0, 1) := dk_3 (by decide +kernel)
theorem dX1_placeOf_2 : decode cX1_placeOf 2 = .ok (.bipush 29, 2) := dk_16 29 (by decide +kernel)
theorem dX1_placeOf_4 : decode cX1_placeOf 4 = .ok (.invokestatic 73, 3) := dk_184 0 73 (by decide +kernel)
theorem dX1_placeOf_7 : decode cX1_placeOf 7 = .ok (.ifCond .eq 24, 3) := dk_153 0 24 (by decide +kernel)
theorem dX1_placeOf_10 : decode cX1_placeOf 10 = .ok (.iload_n 1, 1) := dk_27 (by decide +kernel)
theorem dX1_placeOf_11 : decode cX1_placeOf 11 = .ok (.iload_n 2, 1) := dk_28 (by decide +kernel)
theorem dX1_placeOf_12 : decode cX1_placeOf 12 = .ok (.iadd, 1) := dk_96 (by decide +kernel)
theorem dX1_placeOf_13 : decode cX1_placeOf 13 = .ok (.aload_n 0, 1) := dk_42 (by decide +kernel)
theorem dX1_placeOf_14 : decode cX1_placeOf 14 = .ok (.getfield 18, 3) := dk_180 0 18 (by decide +kernel)
theorem dX1_placeOf_17 : decode cX1_placeOf 17 = .ok (.getfield 36, 3) := dk_180 0 36 (by decide +kernel)
theorem dX1_placeOf_20 : decode cX1_placeOf 20 = .ok (.aload_n 0, 1) := dk_42 (by decide +kernel)
theorem dX1_placeOf_21 : decode cX1_placeOf 21 = .ok (.getfield 15, 3) := dk_180 0 15 (by decide +kernel)
theorem dX1_placeOf_24 : decode cX1_placeOf 24 = .ok (.iload_n 2, 1) := dk_28 (by decide +kernel)
theorem dX1_placeOf_25 : decode cX1_placeOf 25 = .ok (.iaload, 1) := dk_46 (by decide +kernel)
theorem dX1_placeOf_26 : decode cX1_placeOf 26 = .ok (.imul, 1) := dk_104 (by decide +kernel)
theorem dX1_placeOf_27 : decode cX1_placeOf 27 = .ok (.iadd, 1) := dk_96 (by decide +kernel)
theorem dX1_placeOf_28 : decode cX1_placeOf 28 = .ok (.goto 4, 3) := dk_167 0 4 (by decide +kernel)
theorem dX1_placeOf_31 : decode cX1_placeOf 31 = .ok (.iconst (-1), 1) := dk_2 (by decide +kernel)
theorem dX1_placeOf_32 : decode cX1_placeOf 32 = .ok (.ireturn, 1) := dk_172 (by decide +kernel)
set_option maxRecDepth 8000 in
theorem e_X1_placeOf {g : ch_G} {A R : Nat} (hC : ck_Cx g A R) {d : Nat} {K : Option ck_V → ck_W → Prop} {w : ck_W} {a1 a2 : Int} (h : (0 ≤ a2 ∧ a2 ≤ 29 → (0 ≤ a2 ∧ a2 < 30) ∧ (ck_i ((a1 + a2) + ((w 3 0) * (w 66 a2))) ∧ (K (some (.inl ((a1 + a2) + ((w 3 0) * (w 66 a2))))) w))) ∧ (¬ (0 ≤ a2 ∧ a2 ≤ 29) → K (some (.inl (-1))) w)) : ck_Ex (ch_C g A R) (d + 1) mX1_placeOf [.inr (.inr 64), .inl a1, .inl a2] w K :=
  ck_entry hC.1 [some (.inr (.inr 64)), some (.inl a1), some (.inl a2)] (by decide) (Nat.le_of_ble_eq_true rfl) rfl (fun q => q) (ck_in (fun hl => (ck_iload_n 1 rfl 2 dX1_placeOf_0 rfl rfl (ck_iconst 2 rfl dX1_placeOf_1 rfl (ck_bipush 4 rfl dX1_placeOf_2 rfl (have h7 := h; ck_callSN 7 rfl [.inl a2, .inl 0, .inl 29] [] dX1_placeOf_4 cn_X1_73 rfl rfl (Nat.le_of_ble_eq_true rfl) (And.intro hl.2.2.1 (And.intro (show ck_i 0 by decide) (And.intro (show ck_i 29 by decide) True.intro))) (p_X11_within hC (fun c5 _ => (ck_if_eq 10 rfl 31 dX1_placeOf_7 rfl (by decide) (fun q => absurd q (by decide)) (fun _ => (ck_iload_n 11 rfl 1 dX1_placeOf_10 rfl rfl (ck_iload_n 12 rfl 2 dX1_placeOf_11 rfl rfl (ck_iadd 13 rfl dX1_placeOf_12 (ck_aload_n 14 rfl 0 dX1_placeOf_13 rfl rfl (ck_getr 17 rfl dX1_placeOf_14 fl_X1_18 sh_64 rfl (ck_geti 20 rfl 0 dX1_placeOf_17 fl_X1_36 sh_3 rfl rfl _ rfl (fun (q1 : ck_i (w 3 0)) => (ck_aload_n 21 rfl 0 dX1_placeOf_20 rfl rfl (ck_getr 24 rfl dX1_placeOf_21 fl_X1_15 sh_64 rfl (ck_iload_n 25 rfl 2 dX1_placeOf_24 rfl rfl (have h9 := (h7.1 c5); have o2 := h9.1; have h8 := h9.2; (ck_iald 26 rfl dX1_placeOf_25 sh_66 (shn_66 hC) o2 _ rfl (fun (q3 : ck_i (w 66 a2)) => (ck_imul 27 rfl dX1_placeOf_26 (ck_iadd 28 rfl dX1_placeOf_27 (ck_goto 32 dX1_placeOf_28 rfl (have h11 := h8; have o4 := h11.1; have h10 := h11.2; (ck_iret dX1_placeOf_32 rfl o4 h10))))))))))))))))))))) (fun c6 _ => (ck_if_eq 10 rfl 31 dX1_placeOf_7 rfl (by decide) (fun _ => (ck_iconst 32 rfl dX1_placeOf_31 rfl (ck_iret dX1_placeOf_32 rfl (show ck_i (-1) by decide) (h7.2 c6)))) (fun q => absurd q (by decide)))))))))))
/-- how many changes -/
def cx_ct (f : Int → Int) : Nat → Int → Int → Int
  | 0, _, s => s
  | n + 1, t, s => cx_ct f n (t + 1) (if f t = f (t - 1) then s else s + 1)
theorem p_X1_changes {g : ch_G} {A R : Nat} (hC : ck_Cx g A R) {d : Nat} {K : Option ck_V → ck_W → Prop} {w : ck_W} (hK : cs_K R w) (h : K (some (.inl (cx_ct (w 66) (w 8 1 - 1).toNat 1 0))) w) : ck_Ex (ch_C g A R) d mX1_changes [.inr (.inr 64)] w K := by
  have k1 := hK.1
  have lp : ∀ (n : Nat) (a1 a2 : Int), w 8 1 - a2 = n → 1 ≤ a2 → (0 ≤ a1 ∧ a1 ≤ a2) → K (some (.inl (cx_ct (w 66) n a2 a1))) w → ck_At (ch_C g A R) d mX1_changes K 4 [some (.inr (.inr 64)), some (.inl a1), some (.inl a2)] [] w := by
    intro n
    induction n with
    | zero =>
      intro a1 a2 g1 g2 g3 h
      rw [cx_ct] at h
      exact r_X1_changes_4 hC ⟨fun _ => h, fun q => absurd (by omega) q⟩
    | succ n ih =>
      intro a1 a2 g1 g2 g3 h
      rw [cx_ct] at h
      exact r_X1_changes_4 hC ⟨fun q => absurd q (by omega), fun _ => ⟨by omega, by omega, fun z => ⟨by constructor <;> omega, ih a1 (a2 + 1) (by omega) (by omega) (by omega) (by rw [if_pos z] at h; exact h)⟩, fun z => ⟨by constructor <;> omega, by constructor <;> omega, ih (a1 + 1) (a2 + 1) (by omega) (by omega) (by omega) (by rw [if_neg z] at h; exact h)⟩⟩⟩
  refine e_X1_changes hC ?_
  by_cases z : 1 ≤ w 8 1
  · exact lp (w 8 1 - 1).toNat 0 1 (by omega) (by omega) (by omega) h
  · rw [show (w 8 1 - 1).toNat = 0 by omega, cx_ct] at h
    exact r_X1_changes_4 hC ⟨fun _ => h, fun q => absurd (by omega) q⟩
theorem dX11_walked_0 : decode cX11_walked 0 = .ok (.aload_n 0, 1) := dk_42 (by decide +kernel)
theorem dX11_walked_1 : decode cX11_walked 1 = .ok (.getfield 14, 3) := dk_180 0 14 (by decide +kernel)
theorem dX11_walked_4 : decode cX11_walked 4 = .ok (.getfield 23, 3) := dk_180 0 23 (by decide +kernel)
theorem dX11_walked_7 : decode cX11_walked 7 = .ok (.iload_n 1, 1) := dk_27 (by decide +kernel)
theorem dX11_walked_8 : decode cX11_walked 8 = .ok (.iload_n 2, 1) := dk_28 (by decide +kernel)
theorem dX11_walked_9 : decode cX11_walked 9 = .ok (.invokevirtual 130, 3) := dk_182 0 130 (by decide +kernel)
theorem dX11_walked_12 : decode cX11_walked 12 = .ok (.ifCond .eq 27, 3) := dk_153 0 27 (by decide +kernel)
theorem dX11_walked_15 : decode cX11_walked 15 = .ok (.aload_n 0, 1) := dk_42 (by decide +kernel)
theorem dX11_walked_16 : decode cX11_walked 16 = .ok (.getfield 14, 3) := dk_180 0 14 (by decide +kernel)
theorem dX11_walked_19 : decode cX11_walked 19 = .ok (.getfield 36, 3) := dk_180 0 36 (by decide +kernel)
theorem dX11_walked_22 : decode cX11_walked 22 = .ok (.getfield 140, 3) := dk_180 0 140 (by decide +kernel)
theorem dX11_walked_25 : decode cX11_walked 25 = .ok (.ifCond .eq 14, 3) := dk_153 0 14 (by decide +kernel)
theorem dX11_walked_28 : decode cX11_walked 28 = .ok (.aload_n 0, 1) := dk_42 (by decide +kernel)
theorem dX11_walked_29 : decode cX11_walked 29 = .ok (.getfield 30, 3) := dk_180 0 30 (by decide +kernel)
theorem dX11_walked_32 : decode cX11_walked 32 = .ok (.iload_n 1, 1) := dk_27 (by decide +kernel)
theorem dX11_walked_33 : decode cX11_walked 33 = .ok (.invokevirtual 120, 3) := dk_182 0 120 (by decide +kernel)
theorem dX11_walked_36 : decode cX11_walked 36 = .ok (.ifCond .ne 7, 3) := dk_154 0 7 (by decide +kernel)
theorem dX11_walked_39 : decode cX11_walked 39 = .ok (.sipush (-1000), 3) := dk_17 252 24 (by decide +kernel)
theorem dX11_walked_42 : decode cX11_walked 42 = .ok (.ireturn, 1) := dk_172 (by decide +kernel)
theorem dX11_walked_43 : decode cX11_walked 43 = .ok (.iload_n 3, 1) := dk_29 (by decide +kernel)
theorem dX11_walked_44 : decode cX11_walked 44 = .ok (.bipush 100, 2) := dk_16 100 (by decide +kernel)
theorem dX11_walked_46 : decode cX11_walked 46 = .ok (.bipush 99, 2) := dk_16 99 (by decide +kernel)
theorem dX11_walked_48 : decode cX11_walked 48 = .ok (.aload_n 0, 1) := dk_42 (by decide +kernel)
theorem dX11_walked_49 : decode cX11_walked 49 = .ok (.getfield 14, 3) := dk_180 0 14 (by decide +kernel)
theorem dX11_walked_52 : decode cX11_walked 52 = .ok (.getfield 36, 3) := dk_180 0 36 (by decide +kernel)
theorem dX11_walked_55 : decode cX11_walked 55 = .ok (.getfield 140, 3) := dk_180 0 140 (by decide +kernel)
theorem dX11_walked_58 : decode cX11_walked 58 = .ok (.iadd, 1) := dk_96 (by decide +kernel)
theorem dX11_walked_59 : decode cX11_walked 59 = .ok (.invokestatic 82, 3) := dk_184 0 82 (by decide +kernel)
theorem dX11_walked_62 : decode cX11_walked 62 = .ok (.istore 4, 2) := dk_54 (by decide +kernel)
theorem dX11_walked_64 : decode cX11_walked 64 = .ok (.iload 4, 2) := dk_21 (by decide +kernel)
theorem dX11_walked_66 : decode cX11_walked 66 = .ok (.ifCond .ne 16, 3) := dk_154 0 16 (by decide +kernel)
theorem dX11_walked_69 : decode cX11_walked 69 = .ok (.iload_n 3, 1) := dk_29 (by decide +kernel)
theorem dX11_walked_70 : decode cX11_walked 70 = .ok (.iconst 0, 1) := dk_3 (by decide +kernel)
theorem dX11_walked_71 : decode cX11_walked 71 = .ok (.iconst 1, 1) := dk_4 (by decide +kernel)
theorem dX11_walked_72 : decode cX11_walked 72 = .ok (.invokestatic 82, 3) := dk_184 0 82 (by decide +kernel)
theorem dX11_walked_75 : decode cX11_walked 75 = .ok (.ifCond .ne 7, 3) := dk_154 0 7 (by decide +kernel)
theorem dX11_walked_78 : decode cX11_walked 78 = .ok (.sipush (-1000), 3) := dk_17 252 24 (by decide +kernel)
theorem dX11_walked_81 : decode cX11_walked 81 = .ok (.ireturn, 1) := dk_172 (by decide +kernel)
theorem dX11_walked_82 : decode cX11_walked 82 = .ok (.aload_n 0, 1) := dk_42 (by decide +kernel)
theorem dX11_walked_83 : decode cX11_walked 83 = .ok (.getfield 43, 3) := dk_180 0 43 (by decide +kernel)
theorem dX11_walked_86 : decode cX11_walked 86 = .ok (.iload_n 1, 1) := dk_27 (by decide +kernel)
theorem dX11_walked_87 : decode cX11_walked 87 = .ok (.iload_n 2, 1) := dk_28 (by decide +kernel)
theorem dX11_walked_88 : decode cX11_walked 88 = .ok (.invokevirtual 151, 3) := dk_182 0 151 (by decide +kernel)
theorem dX11_walked_91 : decode cX11_walked 91 = .ok (.iload_n 3, 1) := dk_29 (by decide +kernel)
theorem dX11_walked_92 : decode cX11_walked 92 = .ok (.ifCond .ne 11, 3) := dk_154 0 11 (by decide +kernel)
theorem dX11_walked_95 : decode cX11_walked 95 = .ok (.aload_n 0, 1) := dk_42 (by decide +kernel)
theorem dX11_walked_96 : decode cX11_walked 96 = .ok (.getfield 43, 3) := dk_180 0 43 (by decide +kernel)
theorem dX11_walked_99 : decode cX11_walked 99 = .ok (.invokevirtual 154, 3) := dk_182 0 154 (by decide +kernel)
theorem dX11_walked_102 : decode cX11_walked 102 = .ok (.ireturn, 1) := dk_172 (by decide +kernel)
theorem dX11_walked_103 : decode cX11_walked 103 = .ok (.iload_n 3, 1) := dk_29 (by decide +kernel)
theorem dX11_walked_104 : decode cX11_walked 104 = .ok (.iconst 1, 1) := dk_4 (by decide +kernel)
theorem dX11_walked_105 : decode cX11_walked 105 = .ok (.if_icmp .ne 11, 3) := dk_160 0 11 (by decide +kernel)
theorem dX11_walked_108 : decode cX11_walked 108 = .ok (.aload_n 0, 1) := dk_42 (by decide +kernel)
theorem dX11_walked_109 : decode cX11_walked 109 = .ok (.getfield 43, 3) := dk_180 0 43 (by decide +kernel)
theorem dX11_walked_112 : decode cX11_walked 112 = .ok (.invokevirtual 158, 3) := dk_182 0 158 (by decide +kernel)
theorem dX11_walked_115 : decode cX11_walked 115 = .ok (.ireturn, 1) := dk_172 (by decide +kernel)
theorem dX11_walked_116 : decode cX11_walked 116 = .ok (.aload_n 0, 1) := dk_42 (by decide +kernel)
theorem dX11_walked_117 : decode cX11_walked 117 = .ok (.getfield 43, 3) := dk_180 0 43 (by decide +kernel)
theorem dX11_walked_120 : decode cX11_walked 120 = .ok (.iload_n 2, 1) := dk_28 (by decide +kernel)
theorem dX11_walked_121 : decode cX11_walked 121 = .ok (.iload_n 3, 1) := dk_29 (by decide +kernel)
theorem dX11_walked_122 : decode cX11_walked 122 = .ok (.bipush 100, 2) := dk_16 100 (by decide +kernel)
theorem dX11_walked_124 : decode cX11_walked 124 = .ok (.isub, 1) := dk_100 (by decide +kernel)
theorem dX11_walked_125 : decode cX11_walked 125 = .ok (.invokevirtual 161, 3) := dk_182 0 161 (by decide +kernel)
theorem dX11_walked_128 : decode cX11_walked 128 = .ok (.istore 5, 2) := dk_54 (by decide +kernel)
theorem dX11_walked_130 : decode cX11_walked 130 = .ok (.aload_n 0, 1) := dk_42 (by decide +kernel)
theorem dX11_walked_131 : decode cX11_walked 131 = .ok (.getfield 14, 3) := dk_180 0 14 (by decide +kernel)
theorem dX11_walked_134 : decode cX11_walked 134 = .ok (.getfield 23, 3) := dk_180 0 23 (by decide +kernel)
theorem dX11_walked_137 : decode cX11_walked 137 = .ok (.iload_n 1, 1) := dk_27 (by decide +kernel)
theorem dX11_walked_138 : decode cX11_walked 138 = .ok (.iload 5, 2) := dk_21 (by decide +kernel)
theorem dX11_walked_140 : decode cX11_walked 140 = .ok (.invokevirtual 130, 3) := dk_182 0 130 (by decide +kernel)
theorem dX11_walked_143 : decode cX11_walked 143 = .ok (.ifCond .eq 8, 3) := dk_153 0 8 (by decide +kernel)
theorem dX11_walked_146 : decode cX11_walked 146 = .ok (.iload 5, 2) := dk_21 (by decide +kernel)
theorem dX11_walked_148 : decode cX11_walked 148 = .ok (.goto 6, 3) := dk_167 0 6 (by decide +kernel)
theorem dX11_walked_151 : decode cX11_walked 151 = .ok (.sipush (-1000), 3) := dk_17 252 24 (by decide +kernel)
theorem dX11_walked_154 : decode cX11_walked 154 = .ok (.ireturn, 1) := dk_172 (by decide +kernel)
set_option maxRecDepth 8000 in
theorem e_X11_walked {g : ch_G} {A R : Nat} (hC : ck_Cx g A R) {d : Nat} {K : Option ck_V → ck_W → Prop} {w : ck_W} {a1 a2 a3 : Int} (h : ck_CI (ch_C g A R) d mX5_hasPlace [.inr (.inr 3), .inl a1, .inl a2] w (fun v2 w1 => (v2 = 0 → K (some (.inl (-1000))) w1) ∧ (¬ v2 = 0 → ((w1 8 1) = 0 → K (some (.inl (-1000))) w1) ∧ (¬ (w1 8 1) = 0 → ck_CI (ch_C g A R) d mX10_settle [.inr (.inr 51), .inl a1] w1 (fun v7 w6 => (¬ v7 = 0 → ck_i (99 + (w6 8 1)) ∧ ((100 ≤ a3 ∧ a3 ≤ (99 + (w6 8 1)) → ck_CN (ch_C g A R) d mX1_explain [.inr (.inr 64), .inl a1, .inl a2] w6 (fun w12 => (¬ a3 = 0 → (¬ a3 = 1 → ck_i (a3 - 100) ∧ (ck_CI (ch_C g A R) d mX1_placeOf [.inr (.inr 64), .inl a2, .inl (a3 - 100)] w12 (fun v15 w14 => ck_CI (ch_C g A R) d mX5_hasPlace [.inr (.inr 3), .inl a1, .inl v15] w14 (fun v19 w18 => (v19 = 0 → K (some (.inl (-1000))) w18) ∧ (¬ v19 = 0 → K (some (.inl v15)) w18))))) ∧ (a3 = 1 → ck_CI (ch_C g A R) d mX1_changes [.inr (.inr 64)] w12 (fun v25 w24 => K (some (.inl v25)) w24))) ∧ (a3 = 0 → ck_CI (ch_C g A R) d mX1_leastCost [.inr (.inr 64)] w12 (fun v31 w30 => K (some (.inl v31)) w30)))) ∧ (¬ (100 ≤ a3 ∧ a3 ≤ (99 + (w6 8 1))) → (0 ≤ a3 ∧ a3 ≤ 1 → ck_CN (ch_C g A R) d mX1_explain [.inr (.inr 64), .inl a1, .inl a2] w6 (fun w37 => (¬ a3 = 0 → (¬ a3 = 1 → ck_i (a3 - 100) ∧ (ck_CI (ch_C g A R) d mX1_placeOf [.inr (.inr 64), .inl a2, .inl (a3 - 100)] w37 (fun v40 w39 => ck_CI (ch_C g A R) d mX5_hasPlace [.inr (.inr 3), .inl a1, .inl v40] w39 (fun v44 w43 => (v44 = 0 → K (some (.inl (-1000))) w43) ∧ (¬ v44 = 0 → K (some (.inl v40)) w43))))) ∧ (a3 = 1 → ck_CI (ch_C g A R) d mX1_changes [.inr (.inr 64)] w37 (fun v50 w49 => K (some (.inl v50)) w49))) ∧ (a3 = 0 → ck_CI (ch_C g A R) d mX1_leastCost [.inr (.inr 64)] w37 (fun v56 w55 => K (some (.inl v56)) w55)))) ∧ (¬ (0 ≤ a3 ∧ a3 ≤ 1) → K (some (.inl (-1000))) w6)))) ∧ (v7 = 0 → K (some (.inl (-1000))) w6)))))) : ck_Ex (ch_C g A R) (d + 1) mX11_walked [.inr (.inr 0), .inl a1, .inl a2, .inl a3] w K :=
  ck_entry hC.1 [some (.inr (.inr 0)), some (.inl a1), some (.inl a2), some (.inl a3), none, none] (by decide) (Nat.le_of_ble_eq_true rfl) rfl (fun q => q) (ck_in (fun hl => (ck_aload_n 1 rfl 0 dX11_walked_0 rfl rfl (ck_getr 4 rfl dX11_walked_1 fl_X11_14 sh_0 rfl (ck_getr 7 rfl dX11_walked_4 fl_X11_23 sh_1 rfl (ck_iload_n 8 rfl 1 dX11_walked_7 rfl rfl (ck_iload_n 9 rfl 2 dX11_walked_8 rfl rfl (ck_callV 12 rfl [.inl a1, .inl a2] [] dX11_walked_9 cv_X11_130 sh_3 rfl rfl (Nat.le_of_ble_eq_true rfl) (And.intro hl.2.1 (And.intro hl.2.2.1 True.intro)) (ck_mI h (fun v2 w1 q3 h4 => (ck_if_eq 15 rfl 39 dX11_walked_12 rfl q3 (fun c72 => (ck_sipush 42 rfl dX11_walked_39 rfl (ck_iret dX11_walked_42 rfl (show ck_i (-1000) by decide) (h4.1 c72)))) (fun c73 => (ck_aload_n 16 rfl 0 dX11_walked_15 rfl rfl (ck_getr 19 rfl dX11_walked_16 fl_X11_14 sh_0 rfl (ck_getr 22 rfl dX11_walked_19 fl_X11_36 sh_1 rfl (ck_geti 25 rfl 1 dX11_walked_22 fl_X11_140 sh_8 rfl rfl _ rfl (fun (q5 : ck_i (w1 8 1)) => (have h74 := (h4.2 c73); (ck_if_eq 28 rfl 39 dX11_walked_25 rfl q5 (fun c70 => (ck_sipush 42 rfl dX11_walked_39 rfl (ck_iret dX11_walked_42 rfl (show ck_i (-1000) by decide) (h74.1 c70)))) (fun c71 => (ck_aload_n 29 rfl 0 dX11_walked_28 rfl rfl (ck_getr 32 rfl dX11_walked_29 fl_X11_30 sh_0 rfl (ck_iload_n 33 rfl 1 dX11_walked_32 rfl rfl (ck_callV 36 rfl [.inl a1] [] dX11_walked_33 cv_X11_120 sh_51 rfl rfl (Nat.le_of_ble_eq_true rfl) (And.intro hl.2.1 True.intro) (ck_mI (h74.2 c71) (fun v7 w6 q8 h9 => (ck_if_ne 39 rfl 43 dX11_walked_36 rfl q8 (fun c68 => (ck_iload_n 44 rfl 3 dX11_walked_43 rfl rfl (ck_bipush 46 rfl dX11_walked_44 rfl (ck_bipush 48 rfl dX11_walked_46 rfl (ck_aload_n 49 rfl 0 dX11_walked_48 rfl rfl (ck_getr 52 rfl dX11_walked_49 fl_X11_14 sh_0 rfl (ck_getr 55 rfl dX11_walked_52 fl_X11_36 sh_1 rfl (ck_geti 58 rfl 1 dX11_walked_55 fl_X11_140 sh_8 rfl rfl _ rfl (fun (q10 : ck_i (w6 8 1)) => (ck_iadd 59 rfl dX11_walked_58 (have h76 := (h9.1 c68); have o11 := h76.1; have h75 := h76.2; (have h67 := h75; ck_callS 62 rfl [.inl a3, .inl 100, .inl (99 + (w6 8 1))] [] dX11_walked_59 cs_X11_82 rfl rfl (Nat.le_of_ble_eq_true rfl) (And.intro hl.2.2.2.1 (And.intro (show ck_i 100 by decide) (And.intro o11 True.intro))) (p_X11_within hC (fun c65 _ => (ck_istore 64 rfl [some (.inr (.inr 0)), some (.inl a1), some (.inl a2), some (.inl a3), some (.inl 1), none] dX11_walked_62 (Nat.le_of_ble_eq_true rfl) rfl rfl (show ck_i 1 by decide) (ck_iload 66 rfl dX11_walked_64 rfl (ck_if_ne 69 rfl 82 dX11_walked_66 rfl (by decide) (fun _ => (ck_aload_n 83 rfl 0 dX11_walked_82 rfl rfl (ck_getr 86 rfl dX11_walked_83 fl_X11_43 sh_0 rfl (ck_iload_n 87 rfl 1 dX11_walked_86 rfl rfl (ck_iload_n 88 rfl 2 dX11_walked_87 rfl rfl (ck_callV 91 rfl [.inl a1, .inl a2] [] dX11_walked_88 cv_X11_151 sh_64 rfl rfl (Nat.le_of_ble_eq_true rfl) (And.intro hl.2.1 (And.intro hl.2.2.1 True.intro)) (ck_mN (h67.1 c65) (fun w12 h36 => (ck_iload_n 92 rfl 3 dX11_walked_91 rfl rfl (ck_if_ne 95 rfl 103 dX11_walked_92 rfl hl.2.2.2.1 (fun c34 => (ck_iload_n 104 rfl 3 dX11_walked_103 rfl rfl (ck_iconst 105 rfl dX11_walked_104 rfl (have h77 := (h36.1 c34); (ck_icmp_ne 108 rfl 116 dX11_walked_105 rfl hl.2.2.2.1 (show ck_i 1 by decide) (fun c28 => (ck_aload_n 117 rfl 0 dX11_walked_116 rfl rfl (ck_getr 120 rfl dX11_walked_117 fl_X11_43 sh_0 rfl (ck_iload_n 121 rfl 2 dX11_walked_120 rfl rfl (ck_iload_n 122 rfl 3 dX11_walked_121 rfl rfl (ck_bipush 124 rfl dX11_walked_122 rfl (ck_isub 125 rfl dX11_walked_124 (have h79 := (h77.1 c28); have o13 := h79.1; have h78 := h79.2; (ck_callV 128 rfl [.inl a2, .inl (a3 - 100)] [] dX11_walked_125 cv_X11_161 sh_64 rfl rfl (Nat.le_of_ble_eq_true rfl) (And.intro hl.2.2.1 (And.intro o13 True.intro)) (ck_mI h78 (fun v15 w14 q16 h17 => (ck_istore 130 rfl [some (.inr (.inr 0)), some (.inl a1), some (.inl a2), some (.inl a3), some (.inl 1), some (.inl v15)] dX11_walked_128 (Nat.le_of_ble_eq_true rfl) rfl rfl q16 (ck_aload_n 131 rfl 0 dX11_walked_130 rfl rfl (ck_getr 134 rfl dX11_walked_131 fl_X11_14 sh_0 rfl (ck_getr 137 rfl dX11_walked_134 fl_X11_23 sh_1 rfl (ck_iload_n 138 rfl 1 dX11_walked_137 rfl rfl (ck_iload 140 rfl dX11_walked_138 rfl (ck_callV 143 rfl [.inl a1, .inl v15] [] dX11_walked_140 cv_X11_130 sh_3 rfl rfl (Nat.le_of_ble_eq_true rfl) (And.intro hl.2.1 (And.intro q16 True.intro)) (ck_mI h17 (fun v19 w18 q20 h21 => (ck_if_eq 146 rfl 151 dX11_walked_143 rfl q20 (fun c22 => (ck_sipush 154 rfl dX11_walked_151 rfl (ck_iret dX11_walked_154 rfl (show ck_i (-1000) by decide) (h21.1 c22)))) (fun c23 => (ck_iload 148 rfl dX11_walked_146 rfl (ck_goto 154 dX11_walked_148 rfl (ck_iret dX11_walked_154 rfl q16 (h21.2 c23)))))))))))))))))))))))))) (fun c29 => (ck_aload_n 109 rfl 0 dX11_walked_108 rfl rfl (ck_getr 112 rfl dX11_walked_109 fl_X11_43 sh_0 rfl (ck_callV 115 rfl [] [] dX11_walked_112 cv_X11_158 sh_64 rfl rfl (Nat.le_of_ble_eq_true rfl) True.intro (ck_mI (h77.2 c29) (fun v25 w24 q26 h27 => (ck_iret dX11_walked_115 rfl q26 h27)))))))))))) (fun c35 => (ck_aload_n 96 rfl 0 dX11_walked_95 rfl rfl (ck_getr 99 rfl dX11_walked_96 fl_X11_43 sh_0 rfl (ck_callV 102 rfl [] [] dX11_walked_99 cv_X11_154 sh_64 rfl rfl (Nat.le_of_ble_eq_true rfl) True.intro (ck_mI (h36.2 c35) (fun v31 w30 q32 h33 => (ck_iret dX11_walked_102 rfl q32 h33))))))))))))))))) (fun q => absurd q (by decide)))))) (fun c66 _ => (ck_istore 64 rfl [some (.inr (.inr 0)), some (.inl a1), some (.inl a2), some (.inl a3), some (.inl 0), none] dX11_walked_62 (Nat.le_of_ble_eq_true rfl) rfl rfl (show ck_i 0 by decide) (ck_iload 66 rfl dX11_walked_64 rfl (ck_if_ne 69 rfl 82 dX11_walked_66 rfl (by decide) (fun q => absurd q (by decide)) (fun _ => (ck_iload_n 70 rfl 3 dX11_walked_69 rfl rfl (ck_iconst 71 rfl dX11_walked_70 rfl (ck_iconst 72 rfl dX11_walked_71 rfl (have h64 := (h67.2 c66); ck_callS 75 rfl [.inl a3, .inl 0, .inl 1] [] dX11_walked_72 cs_X11_82 rfl rfl (Nat.le_of_ble_eq_true rfl) (And.intro hl.2.2.2.1 (And.intro (show ck_i 0 by decide) (And.intro (show ck_i 1 by decide) True.intro))) (p_X11_within hC (fun c62 _ => (ck_if_ne 78 rfl 82 dX11_walked_75 rfl (by decide) (fun _ => (ck_aload_n 83 rfl 0 dX11_walked_82 rfl rfl (ck_getr 86 rfl dX11_walked_83 fl_X11_43 sh_0 rfl (ck_iload_n 87 rfl 1 dX11_walked_86 rfl rfl (ck_iload_n 88 rfl 2 dX11_walked_87 rfl rfl (ck_callV 91 rfl [.inl a1, .inl a2] [] dX11_walked_88 cv_X11_151 sh_64 rfl rfl (Nat.le_of_ble_eq_true rfl) (And.intro hl.2.1 (And.intro hl.2.2.1 True.intro)) (ck_mN (h64.1 c62) (fun w37 h61 => (ck_iload_n 92 rfl 3 dX11_walked_91 rfl rfl (ck_if_ne 95 rfl 103 dX11_walked_92 rfl hl.2.2.2.1 (fun c59 => (ck_iload_n 104 rfl 3 dX11_walked_103 rfl rfl (ck_iconst 105 rfl dX11_walked_104 rfl (have h80 := (h61.1 c59); (ck_icmp_ne 108 rfl 116 dX11_walked_105 rfl hl.2.2.2.1 (show ck_i 1 by decide) (fun c53 => (ck_aload_n 117 rfl 0 dX11_walked_116 rfl rfl (ck_getr 120 rfl dX11_walked_117 fl_X11_43 sh_0 rfl (ck_iload_n 121 rfl 2 dX11_walked_120 rfl rfl (ck_iload_n 122 rfl 3 dX11_walked_121 rfl rfl (ck_bipush 124 rfl dX11_walked_122 rfl (ck_isub 125 rfl dX11_walked_124 (have h82 := (h80.1 c53); have o38 := h82.1; have h81 := h82.2; (ck_callV 128 rfl [.inl a2, .inl (a3 - 100)] [] dX11_walked_125 cv_X11_161 sh_64 rfl rfl (Nat.le_of_ble_eq_true rfl) (And.intro hl.2.2.1 (And.intro o38 True.intro)) (ck_mI h81 (fun v40 w39 q41 h42 => (ck_istore 130 rfl [some (.inr (.inr 0)), some (.inl a1), some (.inl a2), some (.inl a3), some (.inl 0), some (.inl v40)] dX11_walked_128 (Nat.le_of_ble_eq_true rfl) rfl rfl q41 (ck_aload_n 131 rfl 0 dX11_walked_130 rfl rfl (ck_getr 134 rfl dX11_walked_131 fl_X11_14 sh_0 rfl (ck_getr 137 rfl dX11_walked_134 fl_X11_23 sh_1 rfl (ck_iload_n 138 rfl 1 dX11_walked_137 rfl rfl (ck_iload 140 rfl dX11_walked_138 rfl (ck_callV 143 rfl [.inl a1, .inl v40] [] dX11_walked_140 cv_X11_130 sh_3 rfl rfl (Nat.le_of_ble_eq_true rfl) (And.intro hl.2.1 (And.intro q41 True.intro)) (ck_mI h42 (fun v44 w43 q45 h46 => (ck_if_eq 146 rfl 151 dX11_walked_143 rfl q45 (fun c47 => (ck_sipush 154 rfl dX11_walked_151 rfl (ck_iret dX11_walked_154 rfl (show ck_i (-1000) by decide) (h46.1 c47)))) (fun c48 => (ck_iload 148 rfl dX11_walked_146 rfl (ck_goto 154 dX11_walked_148 rfl (ck_iret dX11_walked_154 rfl q41 (h46.2 c48)))))))))))))))))))))))))) (fun c54 => (ck_aload_n 109 rfl 0 dX11_walked_108 rfl rfl (ck_getr 112 rfl dX11_walked_109 fl_X11_43 sh_0 rfl (ck_callV 115 rfl [] [] dX11_walked_112 cv_X11_158 sh_64 rfl rfl (Nat.le_of_ble_eq_true rfl) True.intro (ck_mI (h80.2 c54) (fun v50 w49 q51 h52 => (ck_iret dX11_walked_115 rfl q51 h52)))))))))))) (fun c60 => (ck_aload_n 96 rfl 0 dX11_walked_95 rfl rfl (ck_getr 99 rfl dX11_walked_96 fl_X11_43 sh_0 rfl (ck_callV 102 rfl [] [] dX11_walked_99 cv_X11_154 sh_64 rfl rfl (Nat.le_of_ble_eq_true rfl) True.intro (ck_mI (h61.2 c60) (fun v56 w55 q57 h58 => (ck_iret dX11_walked_102 rfl q57 h58))))))))))))))))) (fun q => absurd q (by decide)))) (fun c63 _ => (ck_if_ne 78 rfl 82 dX11_walked_75 rfl (by decide) (fun q => absurd q (by decide)) (fun _ => (ck_sipush 81 rfl dX11_walked_78 rfl (ck_iret dX11_walked_81 rfl (show ck_i (-1000) by decide) (h64.2 c63))))))))))))))))))))))))))))) (fun c69 => (ck_sipush 42 rfl dX11_walked_39 rfl (ck_iret dX11_walked_42 rfl (show ck_i (-1000) by decide) (h9.2 c69)))))))))))))))))))))))))))))))
/-- what is answered of a walk -/
def cx_an (A : Nat) (w : ck_W) (z p what : Int) : Int := if what = 0 then cx_L (w 8 2) (cx_c A w z p) (w 8 1 - 1).toNat 0 0 else if what = 1 then cx_ct (fun t => cx_ov (w 8 2) (w 8 1) (cx_c A w z p) t.toNat) (w 8 1 - 1).toNat 1 0 else if 0 ≤ p + (what - 100) + (A : Int) * cx_ov (w 8 2) (w 8 1) (cx_c A w z p) (what - 100).toNat ∧ p + (what - 100) + (A : Int) * cx_ov (w 8 2) (w 8 1) (cx_c A w z p) (what - 100).toNat < w 6 z * (A : Int) then p + (what - 100) + (A : Int) * cx_ov (w 8 2) (w 8 1) (cx_c A w z p) (what - 100).toNat else -1000
theorem cx_ct_fr {f g : Int → Int} : ∀ (n : Nat) (t s : Int), 1 ≤ t → (∀ x, t - 1 ≤ x → x < t + n → f x = g x) → cx_ct f n t s = cx_ct g n t s
  | 0, _, _, _, _ => rfl
  | n + 1, t, s, h, k => by
    rw [cx_ct, cx_ct, k t (by omega) (by omega), k (t - 1) (by omega) (by omega)]
    exact cx_ct_fr n (t + 1) _ (by omega) (fun x x0 x1 => k x (by omega) (by omega))
theorem C_walked {g : ch_G} {A R : Nat} (hC : ck_Cx g A R) {d : Nat} {K : Option ck_V → ck_W → Prop} {w : ck_W} {a1 a2 a3 : Int} (hI : cw_IV A R w) (hK : cs_K R w) (h1 : cs_has A w a1 a2 → 1 ≤ w 8 1 → ((0 ≤ a3 ∧ a3 ≤ 1) ∨ (100 ≤ a3 ∧ a3 ≤ 99 + w 8 1)) → ∀ w1 w', cs_q w w1 → cw_IV A R w1 → cw_mo w w1 → w1 59 a1 ≠ 0 → 0 < w1 61 a1 → (∀ k, k ≠ 65 → k ≠ 66 → w' k = w1 k) → K (some (.inl (cx_an A w1 a1 a2 a3))) w') (h0 : ∀ w', cs_q w w' → cw_IV A R w' → cw_mo w w' → (cs_has A w a1 a2 → 1 ≤ w 8 1 → ((0 ≤ a3 ∧ a3 ≤ 1) ∨ (100 ≤ a3 ∧ a3 ≤ 99 + w 8 1)) → w' 59 a1 ≠ 0 ∧ w' 61 a1 ≤ 0) → K (some (.inl (-1000))) w') : ck_Ex (ch_C g A R) (d + 6) mX11_walked [.inr (.inr 0), .inl a1, .inl a2, .inl a3] w K := by
  have c := cs_ar hC
  have k1 := hK.1
  refine e_X11_walked hC (p_X5_hasPlace hC hI.1.1 hI.1.2.1 (fun y => ⟨_, rfl, fun _ => ⟨fun q => absurd q (by decide), fun _ => ⟨fun q => h0 w cs_q_rf hI (fun _ x => x) (fun _ z => by omega), fun q => S_X10_settle hC hI (fun no => absurd y.1 no) (fun ok w1 m1 m2 m3 m4 => ⟨_, rfl, fun _ => ?_⟩)⟩⟩⟩) (fun no => ⟨_, rfl, fun _ => ⟨fun _ => h0 w cs_q_rf hI (fun _ x => x) (fun z => absurd z no), fun q => absurd rfl q⟩⟩))
  by_cases x : w1 61 a1 ≤ 0
  · rw [if_pos x]
    exact ⟨fun z => absurd rfl z, fun _ => h0 w1 m1 m2 m3 (fun _ _ _ => ⟨m4, x⟩)⟩
  rw [if_neg x]
  have e8 : w1 8 = w 8 := m1 8 (by decide)
  have e6 : w1 6 = w 6 := m1 6 (by decide)
  have wK : cs_K R w1 := by unfold cs_K; rw [e8, m1 9 (by decide)]; exact hK
  have tb := cs_tb hC hI.1.2.1 y.1
  have y2 := y.2
  dsimp only
  rw [e8]
  refine ⟨fun _ => ⟨by constructor <;> omega, ?_⟩, fun z => absurd z (by decide)⟩
  have ex : ((0 ≤ a3 ∧ a3 ≤ 1) ∨ (100 ≤ a3 ∧ a3 ≤ 99 + w 8 1)) → ck_CN (ch_C g A R) (d + 5) mX1_explain [.inr (.inr 64), .inl a1, .inl a2] w1 (fun w12 => (¬ a3 = 0 → (¬ a3 = 1 → ck_i (a3 - 100) ∧ (ck_CI (ch_C g A R) (d + 5) mX1_placeOf [.inr (.inr 64), .inl a2, .inl (a3 - 100)] w12 (fun v15 w14 => ck_CI (ch_C g A R) (d + 5) mX5_hasPlace [.inr (.inr 3), .inl a1, .inl v15] w14 (fun v19 w18 => (v19 = 0 → K (some (.inl (-1000))) w18) ∧ (¬ v19 = 0 → K (some (.inl v15)) w18))))) ∧ (a3 = 1 → ck_CI (ch_C g A R) (d + 5) mX1_changes [.inr (.inr 64)] w12 (fun v25 w24 => K (some (.inl v25)) w24))) ∧ (a3 = 0 → ck_CI (ch_C g A R) (d + 5) mX1_leastCost [.inr (.inr 64)] w12 (fun v31 w30 => K (some (.inl v31)) w30))) := by
    intro rng
    refine S_X1_explain hC m2.1.1 m2.1.2.1 wK m2.2.2.1 ok (by omega) (by rw [e8]; omega) (fun w' p1 p2 p3 => ⟨rfl, ?_⟩)
    have k := h1 y (by omega) rng w1 w' m1 m2 m3 m4 (by omega) p1
    have w'8 : w' 8 = w1 8 := p1 8 (by decide) (by decide)
    have w'D := cs_hD m2.1.1 (p1 3 (by decide) (by decide))
    have w'T := cs_hT m2.1.2.1 (p1 6 (by decide) (by decide))
    have w'K : cs_K R w' := by unfold cs_K; rw [w'8, p1 9 (by decide) (by decide)]; exact wK
    unfold cx_an at k
    refine ⟨fun z0 => ⟨fun z1 => ?_, fun z1 => ?_⟩, fun z0 => ?_⟩
    · rw [if_neg z0, if_neg z1] at k
      have e3 := p3 (a3 - 100).toNat (by rw [e8]; omega)
      rw [show (((a3 - 100).toNat : Nat) : Int) = a3 - 100 by omega] at e3
      have ob := cx_ovb (w1 8 2) (w1 8 1) (cx_c A w1 a1 a2) (a3 - 100).toNat
      generalize cx_ov (w1 8 2) (w1 8 1) (cx_c A w1 a1 a2) (a3 - 100).toNat = ov at *
      have as0 : -174 ≤ (A : Int) * ov ∧ (A : Int) * ov ≤ 180 := by
        have a : (A : Int) * ov ≤ 6 * 30 := by
          rcases Int.le_total 0 ov with z | z
          · exact Int.mul_le_mul (by omega) (by omega) z (by omega)
          · have := Int.mul_nonpos_of_nonneg_of_nonpos (a := (A : Int)) (b := ov) (by omega) z
            omega
        have b : (A : Int) * (-ov) ≤ 6 * 29 := by
          rcases Int.le_total 0 (-ov) with z | z
          · exact Int.mul_le_mul (by omega) (by omega) z (by omega)
          · have := Int.mul_nonpos_of_nonneg_of_nonpos (a := (A : Int)) (b := -ov) (by omega) z
            omega
        rw [Int.mul_neg] at b
        omega
      refine ⟨by constructor <;> omega, e_X1_placeOf hC ⟨fun _ => ⟨by omega, ?_⟩, fun q => absurd (by omega) q⟩⟩
      rw [w'D.1, e3]
      refine ⟨by constructor <;> omega, ⟨_, rfl, fun _ => p_X5_hasPlace hC w'D w'T (fun y => ⟨_, rfl, fun _ => ⟨fun q => absurd q (by decide), fun _ => ?_⟩⟩) (fun no => ⟨_, rfl, fun _ => ⟨fun _ => ?_, fun q => absurd rfl q⟩⟩)⟩⟩
      · have yy := y.2
        rw [p1 6 (by decide) (by decide)] at yy
        rw [if_pos yy] at k
        exact k
      · rw [if_neg (fun z => no ⟨ok, by rw [p1 6 (by decide) (by decide)]; exact z⟩)] at k
        exact k
    · rw [if_neg z0, if_pos z1] at k
      refine p_X1_changes hC w'K ⟨_, rfl, fun _ => ?_⟩
      rw [w'8, cx_ct_fr (g := fun t => cx_ov (w1 8 2) (w1 8 1) (cx_c A w1 a1 a2) t.toNat) _ _ _ (by omega) (fun x x0 x1 => ?_)]
      · exact k
      · have e := p3 x.toNat (by rw [e8] at x1 ⊢; omega)
        rw [show ((x.toNat : Nat) : Int) = x by omega] at e
        exact e
    · rw [if_pos z0] at k
      refine e_X1_leastCost hC (p_X1_index hC (by omega) (by omega) ⟨_, rfl, fun _ => ⟨by omega, ?_⟩⟩)
      dsimp only
      rw [show (0 : Int) * 61 + 30 + 0 = 30 by decide, p2]
      exact ⟨_, rfl, fun _ => k⟩
  refine ⟨fun q => ex (Or.inr q), fun q => ⟨fun q2 => ex (Or.inl q2), fun q2 => h0 w1 m1 m2 m3 (fun _ _ z => ?_)⟩⟩
  rcases z with z | z
  · exact absurd z q2
  · exact absurd z q
