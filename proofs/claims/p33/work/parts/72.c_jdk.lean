/-! ===== texts: the library's own methods over the two constants ===== -/
theorem dci_0 : decode cJ0_checkIndex_df160 0 = .ok (.iload_n 0, 1) := dk_26 (by decide +kernel)
theorem dci_1 : decode cJ0_checkIndex_df160 1 = .ok (.iload_n 1, 1) := dk_27 (by decide +kernel)
theorem dci_2 : decode cJ0_checkIndex_df160 2 = .ok (.getstatic 1053, 3) := dk_178 4 29 (by decide +kernel)
theorem dci_5 : decode cJ0_checkIndex_df160 5 = .ok (.invokestatic 1059, 3) := dk_184 4 35 (by decide +kernel)
theorem dci_8 : decode cJ0_checkIndex_df160 8 = .ok (.pop, 1) := dk_87 (by decide +kernel)
theorem dci_9 : decode cJ0_checkIndex_df160 9 = .ok (.return_, 1) := dk_177 (by decide +kernel)
theorem dpc_0 : decode cJ3_checkIndex_8e157 0 = .ok (.iload_n 0, 1) := dk_26 (by decide +kernel)
theorem dpc_1 : decode cJ3_checkIndex_8e157 1 = .ok (.ifCond .lt 8, 3) := dk_155 0 8 (by decide +kernel)
theorem dpc_4 : decode cJ3_checkIndex_8e157 4 = .ok (.iload_n 0, 1) := dk_26 (by decide +kernel)
theorem dpc_5 : decode cJ3_checkIndex_8e157 5 = .ok (.iload_n 1, 1) := dk_27 (by decide +kernel)
theorem dpc_6 : decode cJ3_checkIndex_8e157 6 = .ok (.if_icmp .lt 10, 3) := dk_161 0 10 (by decide +kernel)
theorem dpc_16 : decode cJ3_checkIndex_8e157 16 = .ok (.iload_n 0, 1) := dk_26 (by decide +kernel)
theorem dpc_17 : decode cJ3_checkIndex_8e157 17 = .ok (.ireturn, 1) := dk_172 (by decide +kernel)
theorem pf_pc : plainFor mJ3_checkIndex_8e157.1 = true := pk_of (i := 18) rfl
theorem pf_ci : plainFor mJ0_checkIndex_df160.1 = true := pk_of (i := 17) rfl
theorem q_J3 {X : ch_X} (hO : ch_Ok X) {d : Nat} {K : Option Value → ch_W → Prop} {w : ch_W} {x z : Int32} {v : Value} (hv : v = .null ∨ v = .ref 101) (h0 : ¬ x < 0) (h1 : x < z) (h : K (some (.int x)) w) : ch_Ex X d mJ3_checkIndex_8e157 [.int x, .int z, v] w K := by
  refine ck_chentry hO [some (.int x), some (.int z), some v] pf_pc ?_ ?_ ?_
  · rcases hv with e | e <;> subst e <;> exact Nat.le_of_ble_eq_true rfl
  · rcases hv with e | e <;> subst e <;> rfl
  · exact ch_iload_n 0 dpc_0 rfl rfl (ch_if_lt 9 dpc_1 rfl (fun q => absurd q h0) (fun _ => ch_iload_n 0 dpc_4 rfl rfl (ch_iload_n 1 dpc_5 rfl rfl (ch_icmp_lt 16 dpc_6 rfl (fun _ => ch_iload_n 0 dpc_16 rfl rfl (ch_iret dpc_17 rfl rfl h)) (fun q => absurd h1 q)))))
theorem q_J0 {X : ch_X} (hO : ch_Ok X) {d : Nat} {K : Option Value → ch_W → Prop} {w : ch_W} {x z : Int32} (h0 : ¬ x < 0) (h1 : x < z) (h : K none w) : ch_Ex X (d + 1) mJ0_checkIndex_df160 [.int x, .int z] w K := by
  refine ck_chentry hO [some (.int x), some (.int z)] pf_ci (Nat.le_of_ble_eq_true rfl) rfl ?_
  refine ch_iload_n 0 dci_0 rfl rfl (ch_iload_n 1 dci_1 rfl rfl (ch_getsq dci_2 rfl (fun v hv => ?_)))
  refine ch_callS [.int x, .int z, v] [] dci_5 cs_J0_1059 rfl rfl (Nat.le_of_ble_eq_true rfl) (q_J3 hO hv h0 h1 ?_)
  exact ch_pop dci_8 rfl (ch_vret dci_9 rfl h)
theorem p_checkIndex {g : ch_G} {A R : Nat} (hC : ck_Cx g A R) {d : Nat} {K : Option ck_V → ck_W → Prop} {w : ck_W} {a0 a1 : Int} (h : 0 ≤ a0 ∧ a0 < a1) (hK : K none w) : ck_Ex (ch_C g A R) (d + 1) mJ0_checkIndex_df160 [.inl a0, .inl a1] w K := fun hw ha => by
  have h1 : ck_i a0 := ha.1
  have h2 : ck_i a1 := ha.2.1
  refine q_J0 hC.1 (fun q => ?_) ((ck_lt32 h1 h2).mpr h.2) ⟨none, w, rfl, rfl, hw, trivial, hK⟩
  have := (ck_lt32 h1 ck_i0).mp q
  omega
theorem dJ0_coder_7d493_0 : decode cJ0_coder_7d493 0 = .ok (.getstatic 38, 3) := dk_178 0 38 (by decide +kernel)
theorem dJ0_coder_7d493_3 : decode cJ0_coder_7d493 3 = .ok (.ifCond .eq 10, 3) := dk_153 0 10 (by decide +kernel)
theorem dJ0_coder_7d493_6 : decode cJ0_coder_7d493 6 = .ok (.aload_n 0, 1) := dk_42 (by decide +kernel)
theorem dJ0_coder_7d493_7 : decode cJ0_coder_7d493 7 = .ok (.getfield 15, 3) := dk_180 0 15 (by decide +kernel)
theorem dJ0_coder_7d493_10 : decode cJ0_coder_7d493 10 = .ok (.goto 4, 3) := dk_167 0 4 (by decide +kernel)
theorem dJ0_coder_7d493_14 : decode cJ0_coder_7d493 14 = .ok (.ireturn, 1) := dk_172 (by decide +kernel)
set_option maxRecDepth 8000 in
theorem e_coder97 {g : ch_G} {A R : Nat} (hC : ck_Cx g A R) {d : Nat} {K : Option ck_V → ck_W → Prop} {w : ck_W} (h : (narrow .byte (.int (Int32.ofInt 0)) = .int (Int32.ofInt 0)) ∧ (K (some (.inl 0)) w)) : ck_Ex (ch_C g A R) d mcoder [.inr (.inr 97)] w K :=
  ck_entryF hC.1 [some (.inr (.inr 97))] (pk_of (i := 7) rfl) (Nat.le_of_ble_eq_true rfl) rfl (fun q => q) (ck_in (fun hl => (ck_getsS 3 rfl dJ0_coder_7d493_0 rfl (ck_if_eq 6 rfl 13 dJ0_coder_7d493_3 rfl (by decide) (fun q => absurd q (by decide)) (fun _ => (ck_aload_n 7 rfl 0 dJ0_coder_7d493_6 rfl rfl (ck_getSc 10 rfl dJ0_coder_7d493_7 rfl (i := 0) (by decide) (ck_goto 14 dJ0_coder_7d493_10 rfl (have h3 := h; have o1 := h3.1; have h2 := h3.2; (ck_nret dJ0_coder_7d493_14 rfl o1 (show ck_i 0 by decide) h2))))))))))
set_option maxRecDepth 8000 in
theorem e_coder98 {g : ch_G} {A R : Nat} (hC : ck_Cx g A R) {d : Nat} {K : Option ck_V → ck_W → Prop} {w : ck_W} (h : (narrow .byte (.int (Int32.ofInt 0)) = .int (Int32.ofInt 0)) ∧ (K (some (.inl 0)) w)) : ck_Ex (ch_C g A R) d mcoder [.inr (.inr 98)] w K :=
  ck_entryF hC.1 [some (.inr (.inr 98))] (pk_of (i := 7) rfl) (Nat.le_of_ble_eq_true rfl) rfl (fun q => q) (ck_in (fun hl => (ck_getsS 3 rfl dJ0_coder_7d493_0 rfl (ck_if_eq 6 rfl 13 dJ0_coder_7d493_3 rfl (by decide) (fun q => absurd q (by decide)) (fun _ => (ck_aload_n 7 rfl 0 dJ0_coder_7d493_6 rfl rfl (ck_getSc 10 rfl dJ0_coder_7d493_7 rfl (i := 1) (by decide) (ck_goto 14 dJ0_coder_7d493_10 rfl (have h3 := h; have o1 := h3.1; have h2 := h3.2; (ck_nret dJ0_coder_7d493_14 rfl o1 (show ck_i 0 by decide) h2))))))))))
theorem p_coder97 {g : ch_G} {A R : Nat} (hC : ck_Cx g A R) {d : Nat} {K : Option ck_V → ck_W → Prop} {w : ck_W} (h : K (some (.inl 0)) w) : ck_Ex (ch_C g A R) d mcoder [.inr (.inr 97)] w K := e_coder97 hC ⟨rfl, h⟩
theorem p_coder98 {g : ch_G} {A R : Nat} (hC : ck_Cx g A R) {d : Nat} {K : Option ck_V → ck_W → Prop} {w : ck_W} (h : K (some (.inl 0)) w) : ck_Ex (ch_C g A R) d mcoder [.inr (.inr 98)] w K := e_coder98 hC ⟨rfl, h⟩
theorem dJ0_length_8abf5_0 : decode cJ0_length_8abf5 0 = .ok (.aload_n 0, 1) := dk_42 (by decide +kernel)
theorem dJ0_length_8abf5_1 : decode cJ0_length_8abf5 1 = .ok (.getfield 9, 3) := dk_180 0 9 (by decide +kernel)
theorem dJ0_length_8abf5_4 : decode cJ0_length_8abf5 4 = .ok (.arraylength, 1) := dk_190 (by decide +kernel)
theorem dJ0_length_8abf5_5 : decode cJ0_length_8abf5 5 = .ok (.aload_n 0, 1) := dk_42 (by decide +kernel)
theorem dJ0_length_8abf5_6 : decode cJ0_length_8abf5 6 = .ok (.invokevirtual 335, 3) := dk_182 1 79 (by decide +kernel)
theorem dJ0_length_8abf5_9 : decode cJ0_length_8abf5 9 = .ok (.ishr, 1) := dk_122 (by decide +kernel)
theorem dJ0_length_8abf5_10 : decode cJ0_length_8abf5 10 = .ok (.ireturn, 1) := dk_172 (by decide +kernel)
set_option maxRecDepth 8000 in
theorem e_len97 {g : ch_G} {A R : Nat} (hC : ck_Cx g A R) {d : Nat} {K : Option ck_V → ck_W → Prop} {w : ck_W} (h : ck_CI (ch_C g A R) d mcoder [.inr (.inr 97)] w (fun v2 w1 => K (some (.inl (ck_shr 68 v2))) w1)) : ck_Ex (ch_C g A R) (d + 1) mJ0_length_8abf5 [.inr (.inr 97)] w K :=
  ck_entryF hC.1 [some (.inr (.inr 97))] (pk_of (i := 8) rfl) (Nat.le_of_ble_eq_true rfl) rfl (fun q => q) (ck_in (fun hl => (ck_aload_n 1 rfl 0 dJ0_length_8abf5_0 rfl rfl (ck_getSv 4 rfl dJ0_length_8abf5_1 rfl (i := 0) (by decide) (ck_alenS 5 rfl dJ0_length_8abf5_4 (i := 0) (by decide) (n := 68) rfl (ck_aload_n 6 rfl 0 dJ0_length_8abf5_5 rfl rfl (ck_callVS 9 rfl [] [.inl 68] dJ0_length_8abf5_6 cz_J0_335 (i := 0) (by decide) rfl rfl (Nat.le_of_ble_eq_true rfl) True.intro (ck_mI h (fun v2 w1 q3 h4 => (ck_ishr 10 rfl dJ0_length_8abf5_9 (ck_iret dJ0_length_8abf5_10 rfl (ck_rng _) h4)))))))))))
set_option maxRecDepth 8000 in
theorem e_len98 {g : ch_G} {A R : Nat} (hC : ck_Cx g A R) {d : Nat} {K : Option ck_V → ck_W → Prop} {w : ck_W} (h : ck_CI (ch_C g A R) d mcoder [.inr (.inr 98)] w (fun v2 w1 => K (some (.inl (ck_shr 13 v2))) w1)) : ck_Ex (ch_C g A R) (d + 1) mJ0_length_8abf5 [.inr (.inr 98)] w K :=
  ck_entryF hC.1 [some (.inr (.inr 98))] (pk_of (i := 8) rfl) (Nat.le_of_ble_eq_true rfl) rfl (fun q => q) (ck_in (fun hl => (ck_aload_n 1 rfl 0 dJ0_length_8abf5_0 rfl rfl (ck_getSv 4 rfl dJ0_length_8abf5_1 rfl (i := 1) (by decide) (ck_alenS 5 rfl dJ0_length_8abf5_4 (i := 1) (by decide) (n := 13) rfl (ck_aload_n 6 rfl 0 dJ0_length_8abf5_5 rfl rfl (ck_callVS 9 rfl [] [.inl 13] dJ0_length_8abf5_6 cz_J0_335 (i := 1) (by decide) rfl rfl (Nat.le_of_ble_eq_true rfl) True.intro (ck_mI h (fun v2 w1 q3 h4 => (ck_ishr 10 rfl dJ0_length_8abf5_9 (ck_iret dJ0_length_8abf5_10 rfl (ck_rng _) h4)))))))))))
theorem p_len97 {g : ch_G} {A R : Nat} (hC : ck_Cx g A R) {d : Nat} {K : Option ck_V → ck_W → Prop} {w : ck_W} (h : K (some (.inl 68)) w) : ck_Ex (ch_C g A R) (d + 1) mJ0_length_8abf5 [.inr (.inr 97)] w K := e_len97 hC (p_coder97 hC ⟨_, rfl, fun _ => h⟩)
theorem p_len98 {g : ch_G} {A R : Nat} (hC : ck_Cx g A R) {d : Nat} {K : Option ck_V → ck_W → Prop} {w : ck_W} (h : K (some (.inl 13)) w) : ck_Ex (ch_C g A R) (d + 1) mJ0_length_8abf5 [.inr (.inr 98)] w K := e_len98 hC (p_coder98 hC ⟨_, rfl, fun _ => h⟩)
theorem dJ0_isLatin1_aae02_0 : decode cJ0_isLatin1_aae02 0 = .ok (.getstatic 38, 3) := dk_178 0 38 (by decide +kernel)
theorem dJ0_isLatin1_aae02_3 : decode cJ0_isLatin1_aae02 3 = .ok (.ifCond .eq 14, 3) := dk_153 0 14 (by decide +kernel)
theorem dJ0_isLatin1_aae02_6 : decode cJ0_isLatin1_aae02 6 = .ok (.aload_n 0, 1) := dk_42 (by decide +kernel)
theorem dJ0_isLatin1_aae02_7 : decode cJ0_isLatin1_aae02 7 = .ok (.getfield 15, 3) := dk_180 0 15 (by decide +kernel)
theorem dJ0_isLatin1_aae02_10 : decode cJ0_isLatin1_aae02 10 = .ok (.ifCond .ne 7, 3) := dk_154 0 7 (by decide +kernel)
theorem dJ0_isLatin1_aae02_13 : decode cJ0_isLatin1_aae02 13 = .ok (.iconst 1, 1) := dk_4 (by decide +kernel)
theorem dJ0_isLatin1_aae02_14 : decode cJ0_isLatin1_aae02 14 = .ok (.goto 4, 3) := dk_167 0 4 (by decide +kernel)
theorem dJ0_isLatin1_aae02_18 : decode cJ0_isLatin1_aae02 18 = .ok (.ireturn, 1) := dk_172 (by decide +kernel)
set_option maxRecDepth 8000 in
theorem e_isl97 {g : ch_G} {A R : Nat} (hC : ck_Cx g A R) {d : Nat} {K : Option ck_V → ck_W → Prop} {w : ck_W} (h : K (some (.inl 1)) w) : ck_Ex (ch_C g A R) d mJ0_isLatin1_aae02 [.inr (.inr 97)] w K :=
  ck_entryF hC.1 [some (.inr (.inr 97))] (pk_of (i := 9) rfl) (Nat.le_of_ble_eq_true rfl) rfl (fun q => q) (ck_in (fun hl => (ck_getsS 3 rfl dJ0_isLatin1_aae02_0 rfl (ck_if_eq 6 rfl 17 dJ0_isLatin1_aae02_3 rfl (by decide) (fun q => absurd q (by decide)) (fun _ => (ck_aload_n 7 rfl 0 dJ0_isLatin1_aae02_6 rfl rfl (ck_getSc 10 rfl dJ0_isLatin1_aae02_7 rfl (i := 0) (by decide) (ck_if_ne 13 rfl 17 dJ0_isLatin1_aae02_10 rfl (by decide) (fun q => absurd q (by decide)) (fun _ => (ck_iconst 14 rfl dJ0_isLatin1_aae02_13 rfl (ck_goto 18 dJ0_isLatin1_aae02_14 rfl (ck_zret dJ0_isLatin1_aae02_18 rfl (by decide) h))))))))))))
set_option maxRecDepth 8000 in
theorem e_isl98 {g : ch_G} {A R : Nat} (hC : ck_Cx g A R) {d : Nat} {K : Option ck_V → ck_W → Prop} {w : ck_W} (h : K (some (.inl 1)) w) : ck_Ex (ch_C g A R) d mJ0_isLatin1_aae02 [.inr (.inr 98)] w K :=
  ck_entryF hC.1 [some (.inr (.inr 98))] (pk_of (i := 9) rfl) (Nat.le_of_ble_eq_true rfl) rfl (fun q => q) (ck_in (fun hl => (ck_getsS 3 rfl dJ0_isLatin1_aae02_0 rfl (ck_if_eq 6 rfl 17 dJ0_isLatin1_aae02_3 rfl (by decide) (fun q => absurd q (by decide)) (fun _ => (ck_aload_n 7 rfl 0 dJ0_isLatin1_aae02_6 rfl rfl (ck_getSc 10 rfl dJ0_isLatin1_aae02_7 rfl (i := 1) (by decide) (ck_if_ne 13 rfl 17 dJ0_isLatin1_aae02_10 rfl (by decide) (fun q => absurd q (by decide)) (fun _ => (ck_iconst 14 rfl dJ0_isLatin1_aae02_13 rfl (ck_goto 18 dJ0_isLatin1_aae02_14 rfl (ck_zret dJ0_isLatin1_aae02_18 rfl (by decide) h))))))))))))
theorem p_isl97 {g : ch_G} {A R : Nat} (hC : ck_Cx g A R) {d : Nat} {K : Option ck_V → ck_W → Prop} {w : ck_W} (h : K (some (.inl 1)) w) : ck_Ex (ch_C g A R) d mJ0_isLatin1_aae02 [.inr (.inr 97)] w K := e_isl97 hC h
theorem p_isl98 {g : ch_G} {A R : Nat} (hC : ck_Cx g A R) {d : Nat} {K : Option ck_V → ck_W → Prop} {w : ck_W} (h : K (some (.inl 1)) w) : ck_Ex (ch_C g A R) d mJ0_isLatin1_aae02 [.inr (.inr 98)] w K := e_isl98 hC h
theorem dJ1_charAt_3b067_0 : decode cJ1_charAt_3b067 0 = .ok (.iload_n 1, 1) := dk_27 (by decide +kernel)
theorem dJ1_charAt_3b067_1 : decode cJ1_charAt_3b067 1 = .ok (.aload_n 0, 1) := dk_42 (by decide +kernel)
theorem dJ1_charAt_3b067_2 : decode cJ1_charAt_3b067 2 = .ok (.arraylength, 1) := dk_190 (by decide +kernel)
theorem dJ1_charAt_3b067_3 : decode cJ1_charAt_3b067 3 = .ok (.invokestatic 9, 3) := dk_184 0 9 (by decide +kernel)
theorem dJ1_charAt_3b067_6 : decode cJ1_charAt_3b067 6 = .ok (.aload_n 0, 1) := dk_42 (by decide +kernel)
theorem dJ1_charAt_3b067_7 : decode cJ1_charAt_3b067 7 = .ok (.iload_n 1, 1) := dk_27 (by decide +kernel)
theorem dJ1_charAt_3b067_8 : decode cJ1_charAt_3b067 8 = .ok (.baload, 1) := dk_51 (by decide +kernel)
theorem dJ1_charAt_3b067_9 : decode cJ1_charAt_3b067 9 = .ok (.sipush 255, 3) := dk_17 0 255 (by decide +kernel)
theorem dJ1_charAt_3b067_12 : decode cJ1_charAt_3b067 12 = .ok (.iand, 1) := dk_126 (by decide +kernel)
theorem dJ1_charAt_3b067_13 : decode cJ1_charAt_3b067 13 = .ok (.i2c, 1) := dk_146 (by decide +kernel)
theorem dJ1_charAt_3b067_14 : decode cJ1_charAt_3b067 14 = .ok (.ireturn, 1) := dk_172 (by decide +kernel)
set_option maxRecDepth 8000 in
theorem e_ca99 {g : ch_G} {A R : Nat} (hC : ck_Cx g A R) {d : Nat} {K : Option ck_V → ck_W → Prop} {w : ck_W} {a1 : Int} (h : (0 ≤ a1 ∧ a1 < 68) ∧ ((narrow .char (.int (Int32.ofInt (ck_i2c (ck_and (sx 0 a1) 255)))) = .int (Int32.ofInt (ck_i2c (ck_and (sx 0 a1) 255)))) ∧ (K (some (.inl (ck_i2c (ck_and (sx 0 a1) 255)))) w))) : ck_Ex (ch_C g A R) (d + 2) mJ1_charAt_3b067 [.inr (.inr 99), .inl a1] w K :=
  ck_entryF hC.1 [some (.inr (.inr 99)), some (.inl a1)] (pk_of (i := 10) rfl) (Nat.le_of_ble_eq_true rfl) rfl (fun q => q) (ck_in (fun hl => (ck_iload_n 1 rfl 1 dJ1_charAt_3b067_0 rfl rfl (ck_aload_n 2 rfl 0 dJ1_charAt_3b067_1 rfl rfl (ck_alenS 3 rfl dJ1_charAt_3b067_2 (i := 0) (by decide) (n := 68) rfl (have h4 := h; have o1 := h4.1; have h3 := h4.2; (ck_callS 6 rfl [.inl a1, .inl 68] [] dJ1_charAt_3b067_3 cs_J1_9 rfl rfl (Nat.le_of_ble_eq_true rfl) (And.intro hl.2.1 (And.intro (show ck_i 68 by decide) True.intro)) (p_checkIndex hC o1 (fun _ => (ck_aload_n 7 rfl 0 dJ1_charAt_3b067_6 rfl rfl (ck_iload_n 8 rfl 1 dJ1_charAt_3b067_7 rfl rfl (ck_baldS 9 rfl dJ1_charAt_3b067_8 (i := 0) (by decide) (n := 68) rfl o1 (by decide) (ck_sipush 12 rfl dJ1_charAt_3b067_9 rfl (ck_iand 13 rfl dJ1_charAt_3b067_12 (ck_i2cr 14 rfl dJ1_charAt_3b067_13 (have h6 := h3; have o2 := h6.1; have h5 := h6.2; (ck_nret dJ1_charAt_3b067_14 rfl o2 (ck_rng _) h5)))))))))))))))))
theorem dJ0_charAt_5068e_0 : decode cJ0_charAt_5068e 0 = .ok (.aload_n 0, 1) := dk_42 (by decide +kernel)
theorem dJ0_charAt_5068e_1 : decode cJ0_charAt_5068e 1 = .ok (.invokevirtual 492, 3) := dk_182 1 236 (by decide +kernel)
theorem dJ0_charAt_5068e_4 : decode cJ0_charAt_5068e 4 = .ok (.ifCond .eq 12, 3) := dk_153 0 12 (by decide +kernel)
theorem dJ0_charAt_5068e_7 : decode cJ0_charAt_5068e 7 = .ok (.aload_n 0, 1) := dk_42 (by decide +kernel)
theorem dJ0_charAt_5068e_8 : decode cJ0_charAt_5068e 8 = .ok (.getfield 9, 3) := dk_180 0 9 (by decide +kernel)
theorem dJ0_charAt_5068e_11 : decode cJ0_charAt_5068e 11 = .ok (.iload_n 1, 1) := dk_27 (by decide +kernel)
theorem dJ0_charAt_5068e_12 : decode cJ0_charAt_5068e 12 = .ok (.invokestatic 495, 3) := dk_184 1 239 (by decide +kernel)
theorem dJ0_charAt_5068e_15 : decode cJ0_charAt_5068e 15 = .ok (.ireturn, 1) := dk_172 (by decide +kernel)
theorem dJ0_charAt_5068e_16 : decode cJ0_charAt_5068e 16 = .ok (.aload_n 0, 1) := dk_42 (by decide +kernel)
theorem dJ0_charAt_5068e_17 : decode cJ0_charAt_5068e 17 = .ok (.getfield 9, 3) := dk_180 0 9 (by decide +kernel)
theorem dJ0_charAt_5068e_20 : decode cJ0_charAt_5068e 20 = .ok (.iload_n 1, 1) := dk_27 (by decide +kernel)
theorem dJ0_charAt_5068e_21 : decode cJ0_charAt_5068e 21 = .ok (.invokestatic 498, 3) := dk_184 1 242 (by decide +kernel)
theorem dJ0_charAt_5068e_24 : decode cJ0_charAt_5068e 24 = .ok (.ireturn, 1) := dk_172 (by decide +kernel)
set_option maxRecDepth 8000 in
theorem e_chAt97 {g : ch_G} {A R : Nat} (hC : ck_Cx g A R) {d : Nat} {K : Option ck_V → ck_W → Prop} {w : ck_W} {a1 : Int} (h : ck_CI (ch_C g A R) d mJ0_isLatin1_aae02 [.inr (.inr 97)] w (fun v2 w1 => (v2 = 0 → ck_CI (ch_C g A R) d mJ2_charAt_3b067 [.inr (.inr 99), .inl a1] w1 (fun v6 w5 => (narrow .char (.int (Int32.ofInt v6)) = .int (Int32.ofInt v6)) ∧ (K (some (.inl v6)) w5))) ∧ (¬ v2 = 0 → ck_CI (ch_C g A R) d mJ1_charAt_3b067 [.inr (.inr 99), .inl a1] w1 (fun v11 w10 => (narrow .char (.int (Int32.ofInt v11)) = .int (Int32.ofInt v11)) ∧ (K (some (.inl v11)) w10))))) : ck_Ex (ch_C g A R) (d + 1) mJ0_charAt_5068e [.inr (.inr 97), .inl a1] w K :=
  ck_entryF hC.1 [some (.inr (.inr 97)), some (.inl a1)] (pk_of (i := 11) rfl) (Nat.le_of_ble_eq_true rfl) rfl (fun q => q) (ck_in (fun hl => (ck_aload_n 1 rfl 0 dJ0_charAt_5068e_0 rfl rfl (ck_callVS 4 rfl [] [] dJ0_charAt_5068e_1 cz_J0_492 (i := 0) (by decide) rfl rfl (Nat.le_of_ble_eq_true rfl) True.intro (ck_mI h (fun v2 w1 q3 h4 => (ck_if_eq 7 rfl 16 dJ0_charAt_5068e_4 rfl q3 (fun c15 => (ck_aload_n 17 rfl 0 dJ0_charAt_5068e_16 rfl rfl (ck_getSv 20 rfl dJ0_charAt_5068e_17 rfl (i := 0) (by decide) (ck_iload_n 21 rfl 1 dJ0_charAt_5068e_20 rfl rfl (ck_callS 24 rfl [.inr (.inr 99), .inl a1] [] dJ0_charAt_5068e_21 cs_J0_498 rfl rfl (Nat.le_of_ble_eq_true rfl) (And.intro True.intro (And.intro hl.2.1 True.intro)) (ck_mI (h4.1 c15) (fun v6 w5 q7 h8 => (have h18 := h8; have o9 := h18.1; have h17 := h18.2; (ck_nret dJ0_charAt_5068e_24 rfl o9 q7 h17))))))))) (fun c16 => (ck_aload_n 8 rfl 0 dJ0_charAt_5068e_7 rfl rfl (ck_getSv 11 rfl dJ0_charAt_5068e_8 rfl (i := 0) (by decide) (ck_iload_n 12 rfl 1 dJ0_charAt_5068e_11 rfl rfl (ck_callS 15 rfl [.inr (.inr 99), .inl a1] [] dJ0_charAt_5068e_12 cs_J0_495 rfl rfl (Nat.le_of_ble_eq_true rfl) (And.intro True.intro (And.intro hl.2.1 True.intro)) (ck_mI (h4.2 c16) (fun v11 w10 q12 h13 => (have h20 := h13; have o14 := h20.1; have h19 := h20.2; (ck_nret dJ0_charAt_5068e_15 rfl o14 q12 h19))))))))))))))))
def tx_k (j : Nat) : Bool := decide (ck_i2c (ck_and (sx 0 j) 255) = sx 0 j) && decide (0 ≤ sx 0 j ∧ sx 0 j ≤ 127) && decide (vp_nar .char (Int32.ofInt (sx 0 j)) = Int32.ofInt (sx 0 j))
theorem tx_ka : (List.range 68).all tx_k = true := by decide +kernel
theorem tx_k0 {j : Int} (h : 0 ≤ j ∧ j < 68) : ck_i2c (ck_and (sx 0 j) 255) = sx 0 j ∧ (0 ≤ sx 0 j ∧ sx 0 j ≤ 127) ∧ narrow .char (.int (Int32.ofInt (sx 0 j))) = .int (Int32.ofInt (sx 0 j)) := by
  have e : ((j.toNat : Nat) : Int) = j := by omega
  have a := List.all_eq_true.mp tx_ka j.toNat (List.mem_range.mpr (by omega))
  unfold tx_k at a
  rw [e] at a
  simp only [Bool.and_eq_true, decide_eq_true_eq] at a
  refine ⟨a.1.1, a.1.2, ?_⟩
  show Value.int (vp_nar .char (Int32.ofInt (sx 0 j))) = _
  rw [a.2]
theorem p_charAt97 {g : ch_G} {A R : Nat} (hC : ck_Cx g A R) {d : Nat} {K : Option ck_V → ck_W → Prop} {w : ck_W} {a1 : Int} (h1 : 0 ≤ a1 ∧ a1 < 68) (h : K (some (.inl (sx 0 a1))) w) : ck_Ex (ch_C g A R) (d + 3) mJ0_charAt_5068e [.inr (.inr 97), .inl a1] w K := by
  have k := tx_k0 h1
  refine e_chAt97 hC (p_isl97 hC ⟨_, rfl, fun _ => ⟨fun q => absurd q (by decide), fun _ => e_ca99 hC ⟨h1, ?_⟩⟩⟩)
  rw [k.1]
  exact ⟨k.2.2, _, rfl, fun _ => ⟨k.2.2, h⟩⟩
theorem dJ1_canEncode_9a6ad_0 : decode cJ1_canEncode_9a6ad 0 = .ok (.iload_n 0, 1) := dk_26 (by decide +kernel)
theorem dJ1_canEncode_9a6ad_1 : decode cJ1_canEncode_9a6ad 1 = .ok (.ifCond .lt 14, 3) := dk_155 0 14 (by decide +kernel)
theorem dJ1_canEncode_9a6ad_4 : decode cJ1_canEncode_9a6ad 4 = .ok (.iload_n 0, 1) := dk_26 (by decide +kernel)
theorem dJ1_canEncode_9a6ad_5 : decode cJ1_canEncode_9a6ad 5 = .ok (.sipush 255, 3) := dk_17 0 255 (by decide +kernel)
theorem dJ1_canEncode_9a6ad_8 : decode cJ1_canEncode_9a6ad 8 = .ok (.if_icmp .gt 7, 3) := dk_163 0 7 (by decide +kernel)
theorem dJ1_canEncode_9a6ad_11 : decode cJ1_canEncode_9a6ad 11 = .ok (.iconst 1, 1) := dk_4 (by decide +kernel)
theorem dJ1_canEncode_9a6ad_12 : decode cJ1_canEncode_9a6ad 12 = .ok (.goto 4, 3) := dk_167 0 4 (by decide +kernel)
theorem dJ1_canEncode_9a6ad_15 : decode cJ1_canEncode_9a6ad 15 = .ok (.iconst 0, 1) := dk_3 (by decide +kernel)
theorem dJ1_canEncode_9a6ad_16 : decode cJ1_canEncode_9a6ad 16 = .ok (.ireturn, 1) := dk_172 (by decide +kernel)
set_option maxRecDepth 8000 in
theorem e_J1_canEncode_9a6ad {g : ch_G} {A R : Nat} (hC : ck_Cx g A R) {d : Nat} {K : Option ck_V → ck_W → Prop} {w : ck_W} {a0 : Int} (h : (a0 < 0 → K (some (.inl 0)) w) ∧ (¬ a0 < 0 → (255 < a0 → K (some (.inl 0)) w) ∧ (¬ 255 < a0 → K (some (.inl 1)) w))) : ck_Ex (ch_C g A R) d mJ1_canEncode_9a6ad [.inl a0] w K :=
  ck_entryF hC.1 [some (.inl a0)] (pk_of (i := 12) rfl) (Nat.le_of_ble_eq_true rfl) rfl (fun q => q) (ck_in (fun hl => (ck_iload_n 1 rfl 0 dJ1_canEncode_9a6ad_0 rfl rfl (ck_if_lt 4 rfl 15 dJ1_canEncode_9a6ad_1 rfl hl.1 (fun c3 => (ck_iconst 16 rfl dJ1_canEncode_9a6ad_15 rfl (ck_zret dJ1_canEncode_9a6ad_16 rfl (by decide) (h.1 c3)))) (fun c4 => (ck_iload_n 5 rfl 0 dJ1_canEncode_9a6ad_4 rfl rfl (ck_sipush 8 rfl dJ1_canEncode_9a6ad_5 rfl (have h5 := (h.2 c4); (ck_icmp_gt 11 rfl 15 dJ1_canEncode_9a6ad_8 rfl hl.1 (show ck_i 255 by decide) (fun c1 => (ck_iconst 16 rfl dJ1_canEncode_9a6ad_15 rfl (ck_zret dJ1_canEncode_9a6ad_16 rfl (by decide) (h5.1 c1)))) (fun c2 => (ck_iconst 12 rfl dJ1_canEncode_9a6ad_11 rfl (ck_goto 16 dJ1_canEncode_9a6ad_12 rfl (ck_zret dJ1_canEncode_9a6ad_16 rfl (by decide) (h5.2 c2))))))))))))))
theorem dJ1_indexOfChar_4cfef_0 : decode cJ1_indexOfChar_4cfef 0 = .ok (.iload_n 1, 1) := dk_27 (by decide +kernel)
theorem dJ1_indexOfChar_4cfef_1 : decode cJ1_indexOfChar_4cfef 1 = .ok (.i2b, 1) := dk_145 (by decide +kernel)
theorem dJ1_indexOfChar_4cfef_2 : decode cJ1_indexOfChar_4cfef 2 = .ok (.istore 4, 2) := dk_54 (by decide +kernel)
theorem dJ1_indexOfChar_4cfef_4 : decode cJ1_indexOfChar_4cfef 4 = .ok (.iload_n 2, 1) := dk_28 (by decide +kernel)
theorem dJ1_indexOfChar_4cfef_5 : decode cJ1_indexOfChar_4cfef 5 = .ok (.istore 5, 2) := dk_54 (by decide +kernel)
theorem dJ1_indexOfChar_4cfef_7 : decode cJ1_indexOfChar_4cfef 7 = .ok (.iload 5, 2) := dk_21 (by decide +kernel)
theorem dJ1_indexOfChar_4cfef_9 : decode cJ1_indexOfChar_4cfef 9 = .ok (.iload_n 3, 1) := dk_29 (by decide +kernel)
theorem dJ1_indexOfChar_4cfef_10 : decode cJ1_indexOfChar_4cfef 10 = .ok (.if_icmp .ge 21, 3) := dk_162 0 21 (by decide +kernel)
theorem dJ1_indexOfChar_4cfef_13 : decode cJ1_indexOfChar_4cfef 13 = .ok (.aload_n 0, 1) := dk_42 (by decide +kernel)
theorem dJ1_indexOfChar_4cfef_14 : decode cJ1_indexOfChar_4cfef 14 = .ok (.iload 5, 2) := dk_21 (by decide +kernel)
theorem dJ1_indexOfChar_4cfef_16 : decode cJ1_indexOfChar_4cfef 16 = .ok (.baload, 1) := dk_51 (by decide +kernel)
theorem dJ1_indexOfChar_4cfef_17 : decode cJ1_indexOfChar_4cfef 17 = .ok (.iload 4, 2) := dk_21 (by decide +kernel)
theorem dJ1_indexOfChar_4cfef_19 : decode cJ1_indexOfChar_4cfef 19 = .ok (.if_icmp .ne 6, 3) := dk_160 0 6 (by decide +kernel)
theorem dJ1_indexOfChar_4cfef_22 : decode cJ1_indexOfChar_4cfef 22 = .ok (.iload 5, 2) := dk_21 (by decide +kernel)
theorem dJ1_indexOfChar_4cfef_24 : decode cJ1_indexOfChar_4cfef 24 = .ok (.ireturn, 1) := dk_172 (by decide +kernel)
theorem dJ1_indexOfChar_4cfef_25 : decode cJ1_indexOfChar_4cfef 25 = .ok (.iinc 5 1, 3) := dk_132 1 (by decide +kernel)
theorem dJ1_indexOfChar_4cfef_28 : decode cJ1_indexOfChar_4cfef 28 = .ok (.goto (-21), 3) := dk_167 255 235 (by decide +kernel)
theorem dJ1_indexOfChar_4cfef_31 : decode cJ1_indexOfChar_4cfef 31 = .ok (.iconst (-1), 1) := dk_2 (by decide +kernel)
theorem dJ1_indexOfChar_4cfef_32 : decode cJ1_indexOfChar_4cfef 32 = .ok (.ireturn, 1) := dk_172 (by decide +kernel)
set_option maxRecDepth 8000 in
theorem e_ioc {g : ch_G} {A R : Nat} (hC : ck_Cx g A R) {d : Nat} {K : Option ck_V → ck_W → Prop} {w : ck_W} {a1 a2 a3 : Int} (h : ck_At (ch_C g A R) d mJ1_indexOfChar_4cfef K 7 [some (.inr (.inr 100)), none, none, some (.inl a3), some (.inl (ck_i2b a1)), some (.inl a2)] [] w) : ck_Ex (ch_C g A R) d mJ1_indexOfChar_4cfef [.inr (.inr 100), .inl a1, .inl a2, .inl a3] w K :=
  ck_entryF hC.1 [some (.inr (.inr 100)), some (.inl a1), some (.inl a2), some (.inl a3), none, none] (pk_of (i := 13) rfl) (Nat.le_of_ble_eq_true rfl) rfl (fun q => q) (ck_in (fun hl => (ck_iload_n 1 rfl 1 dJ1_indexOfChar_4cfef_0 rfl rfl (ck_i2br 2 rfl dJ1_indexOfChar_4cfef_1 (ck_istore 4 rfl [some (.inr (.inr 100)), some (.inl a1), some (.inl a2), some (.inl a3), some (.inl (ck_i2b a1)), none] dJ1_indexOfChar_4cfef_2 (Nat.le_of_ble_eq_true rfl) rfl rfl (ck_rng _) (ck_iload_n 5 rfl 2 dJ1_indexOfChar_4cfef_4 rfl rfl (ck_istore 7 rfl [some (.inr (.inr 100)), some (.inl a1), some (.inl a2), some (.inl a3), some (.inl (ck_i2b a1)), some (.inl a2)] dJ1_indexOfChar_4cfef_5 (Nat.le_of_ble_eq_true rfl) rfl rfl hl.2.2.1 (ck_drop [some (.inr (.inr 100)), none, none, some (.inl a3), some (.inl (ck_i2b a1)), some (.inl a2)] (And.intro rfl (And.intro rfl (And.intro rfl (And.intro rfl True.intro)))) h))))))))
set_option maxRecDepth 8000 in
theorem r_ioc_7 {g : ch_G} {A R : Nat} (hC : ck_Cx g A R) {d : Nat} {K : Option ck_V → ck_W → Prop} {w : ck_W} {a3 a4 a5 : Int} (h : (a3 ≤ a5 → K (some (.inl (-1))) w) ∧ (¬ a3 ≤ a5 → (0 ≤ a5 ∧ a5 < 13) ∧ ((¬ (sx 1 a5) = a4 → ck_i (a5 + 1) ∧ (ck_At (ch_C g A R) d mJ1_indexOfChar_4cfef K 7 [some (.inr (.inr 100)), none, none, some (.inl a3), some (.inl a4), some (.inl (a5 + 1))] [] w)) ∧ ((sx 1 a5) = a4 → K (some (.inl a5)) w)))) : ck_At (ch_C g A R) d mJ1_indexOfChar_4cfef K 7 [some (.inr (.inr 100)), none, none, some (.inl a3), some (.inl a4), some (.inl a5)] [] w :=
  ck_in (fun hl => (ck_iload 9 rfl dJ1_indexOfChar_4cfef_7 rfl (ck_iload_n 10 rfl 3 dJ1_indexOfChar_4cfef_9 rfl rfl (ck_icmp_ge 13 rfl 31 dJ1_indexOfChar_4cfef_10 rfl hl.2.2.2.1 hl.2.1 (fun c5 => (ck_iconst 32 rfl dJ1_indexOfChar_4cfef_31 rfl (ck_iret dJ1_indexOfChar_4cfef_32 rfl (show ck_i (-1) by decide) (h.1 c5)))) (fun c6 => (ck_aload_n 14 rfl 0 dJ1_indexOfChar_4cfef_13 rfl rfl (ck_iload 16 rfl dJ1_indexOfChar_4cfef_14 rfl (have h8 := (h.2 c6); have o1 := h8.1; have h7 := h8.2; (ck_baldS 17 rfl dJ1_indexOfChar_4cfef_16 (i := 1) (by decide) (n := 13) rfl o1 (by decide) (ck_iload 19 rfl dJ1_indexOfChar_4cfef_17 rfl (ck_icmp_ne 22 rfl 25 dJ1_indexOfChar_4cfef_19 rfl (sx_rng _ _) hl.2.2.1 (fun c3 => (have h10 := (h7.1 c3); have o2 := h10.1; have h9 := h10.2; (ck_iinc 28 rfl [some (.inr (.inr 100)), none, none, some (.inl a3), some (.inl a4), some (.inl (a5 + 1))] dJ1_indexOfChar_4cfef_25 rfl (Nat.le_of_ble_eq_true rfl) rfl rfl o2 (ck_goto 7 dJ1_indexOfChar_4cfef_28 rfl h9)))) (fun c4 => (ck_iload 24 rfl dJ1_indexOfChar_4cfef_22 rfl (ck_iret dJ1_indexOfChar_4cfef_24 rfl hl.2.2.2.1 (h7.2 c4)))))))))))))))
theorem dJ1_indexOf_4cfef_0 : decode cJ1_indexOf_4cfef 0 = .ok (.iload_n 1, 1) := dk_27 (by decide +kernel)
theorem dJ1_indexOf_4cfef_1 : decode cJ1_indexOf_4cfef 1 = .ok (.invokestatic 88, 3) := dk_184 0 88 (by decide +kernel)
theorem dJ1_indexOf_4cfef_4 : decode cJ1_indexOf_4cfef 4 = .ok (.ifCond .ne 5, 3) := dk_154 0 5 (by decide +kernel)
theorem dJ1_indexOf_4cfef_7 : decode cJ1_indexOf_4cfef 7 = .ok (.iconst (-1), 1) := dk_2 (by decide +kernel)
theorem dJ1_indexOf_4cfef_8 : decode cJ1_indexOf_4cfef 8 = .ok (.ireturn, 1) := dk_172 (by decide +kernel)
theorem dJ1_indexOf_4cfef_9 : decode cJ1_indexOf_4cfef 9 = .ok (.iload_n 2, 1) := dk_28 (by decide +kernel)
theorem dJ1_indexOf_4cfef_10 : decode cJ1_indexOf_4cfef 10 = .ok (.iconst 0, 1) := dk_3 (by decide +kernel)
theorem dJ1_indexOf_4cfef_11 : decode cJ1_indexOf_4cfef 11 = .ok (.invokestatic 92, 3) := dk_184 0 92 (by decide +kernel)
theorem dJ1_indexOf_4cfef_14 : decode cJ1_indexOf_4cfef 14 = .ok (.istore_n 2, 1) := dk_61 (by decide +kernel)
theorem dJ1_indexOf_4cfef_15 : decode cJ1_indexOf_4cfef 15 = .ok (.iload_n 3, 1) := dk_29 (by decide +kernel)
theorem dJ1_indexOf_4cfef_16 : decode cJ1_indexOf_4cfef 16 = .ok (.aload_n 0, 1) := dk_42 (by decide +kernel)
theorem dJ1_indexOf_4cfef_17 : decode cJ1_indexOf_4cfef 17 = .ok (.arraylength, 1) := dk_190 (by decide +kernel)
theorem dJ1_indexOf_4cfef_18 : decode cJ1_indexOf_4cfef 18 = .ok (.invokestatic 38, 3) := dk_184 0 38 (by decide +kernel)
theorem dJ1_indexOf_4cfef_21 : decode cJ1_indexOf_4cfef 21 = .ok (.istore_n 3, 1) := dk_62 (by decide +kernel)
theorem dJ1_indexOf_4cfef_22 : decode cJ1_indexOf_4cfef 22 = .ok (.iload_n 2, 1) := dk_28 (by decide +kernel)
theorem dJ1_indexOf_4cfef_23 : decode cJ1_indexOf_4cfef 23 = .ok (.iload_n 3, 1) := dk_29 (by decide +kernel)
theorem dJ1_indexOf_4cfef_24 : decode cJ1_indexOf_4cfef 24 = .ok (.if_icmp .lt 5, 3) := dk_161 0 5 (by decide +kernel)
theorem dJ1_indexOf_4cfef_27 : decode cJ1_indexOf_4cfef 27 = .ok (.iconst (-1), 1) := dk_2 (by decide +kernel)
theorem dJ1_indexOf_4cfef_28 : decode cJ1_indexOf_4cfef 28 = .ok (.ireturn, 1) := dk_172 (by decide +kernel)
theorem dJ1_indexOf_4cfef_29 : decode cJ1_indexOf_4cfef 29 = .ok (.aload_n 0, 1) := dk_42 (by decide +kernel)
theorem dJ1_indexOf_4cfef_30 : decode cJ1_indexOf_4cfef 30 = .ok (.iload_n 1, 1) := dk_27 (by decide +kernel)
theorem dJ1_indexOf_4cfef_31 : decode cJ1_indexOf_4cfef 31 = .ok (.iload_n 2, 1) := dk_28 (by decide +kernel)
theorem dJ1_indexOf_4cfef_32 : decode cJ1_indexOf_4cfef 32 = .ok (.iload_n 3, 1) := dk_29 (by decide +kernel)
theorem dJ1_indexOf_4cfef_33 : decode cJ1_indexOf_4cfef 33 = .ok (.invokestatic 95, 3) := dk_184 0 95 (by decide +kernel)
theorem dJ1_indexOf_4cfef_36 : decode cJ1_indexOf_4cfef 36 = .ok (.ireturn, 1) := dk_172 (by decide +kernel)
set_option maxRecDepth 8000 in
theorem e_io1 {g : ch_G} {A R : Nat} (hC : ck_Cx g A R) {d : Nat} {K : Option ck_V → ck_W → Prop} {w : ck_W} {a1 a2 a3 : Int} (h : ck_CI (ch_C g A R) d mJ1_canEncode_9a6ad [.inl a1] w (fun v2 w1 => (¬ v2 = 0 → ((max a2 0) < (min a3 13) → ck_CI (ch_C g A R) d mJ1_indexOfChar_4cfef [.inr (.inr 100), .inl a1, .inl (max a2 0), .inl (min a3 13)] w1 (fun v8 w7 => K (some (.inl v8)) w7)) ∧ (¬ (max a2 0) < (min a3 13) → K (some (.inl (-1))) w1)) ∧ (v2 = 0 → K (some (.inl (-1))) w1))) : ck_Ex (ch_C g A R) (d + 1) mJ1_indexOf_4cfef [.inr (.inr 100), .inl a1, .inl a2, .inl a3] w K :=
  ck_entryF hC.1 [some (.inr (.inr 100)), some (.inl a1), some (.inl a2), some (.inl a3)] (pk_of (i := 14) rfl) (Nat.le_of_ble_eq_true rfl) rfl (fun q => q) (ck_in (fun hl => (ck_iload_n 1 rfl 1 dJ1_indexOf_4cfef_0 rfl rfl (ck_callS 4 rfl [.inl a1] [] dJ1_indexOf_4cfef_1 cs_J1_88 rfl rfl (Nat.le_of_ble_eq_true rfl) (And.intro hl.2.1 True.intro) (ck_mI h (fun v2 w1 q3 h4 => (ck_if_ne 7 rfl 9 dJ1_indexOf_4cfef_4 rfl q3 (fun c13 => (ck_iload_n 10 rfl 2 dJ1_indexOf_4cfef_9 rfl rfl (ck_iconst 11 rfl dJ1_indexOf_4cfef_10 rfl (ck_callS 14 rfl [.inl a2, .inl 0] [] dJ1_indexOf_4cfef_11 cs_J1_92 rfl rfl (Nat.le_of_ble_eq_true rfl) (And.intro hl.2.2.1 (And.intro (show ck_i 0 by decide) True.intro)) (p_J9_max_7cf53 hC (fun q5 => (ck_istore_n 15 rfl 2 [some (.inr (.inr 100)), some (.inl a1), some (.inl (max a2 0)), some (.inl a3)] dJ1_indexOf_4cfef_14 rfl (Nat.le_of_ble_eq_true rfl) rfl rfl q5.1 (ck_iload_n 16 rfl 3 dJ1_indexOf_4cfef_15 rfl rfl (ck_aload_n 17 rfl 0 dJ1_indexOf_4cfef_16 rfl rfl (ck_alenS 18 rfl dJ1_indexOf_4cfef_17 (i := 1) (by decide) (n := 13) rfl (ck_callS 21 rfl [.inl a3, .inl 13] [] dJ1_indexOf_4cfef_18 cs_J1_38 rfl rfl (Nat.le_of_ble_eq_true rfl) (And.intro hl.2.2.2.1 (And.intro (show ck_i 13 by decide) True.intro)) (p_J9_min_7cf53 hC (fun q6 => (ck_istore_n 22 rfl 3 [some (.inr (.inr 100)), some (.inl a1), some (.inl (max a2 0)), some (.inl (min a3 13))] dJ1_indexOf_4cfef_21 rfl (Nat.le_of_ble_eq_true rfl) rfl rfl q6.1 (ck_iload_n 23 rfl 2 dJ1_indexOf_4cfef_22 rfl rfl (ck_iload_n 24 rfl 3 dJ1_indexOf_4cfef_23 rfl rfl (have h15 := (h4.1 c13); (ck_icmp_lt 27 rfl 29 dJ1_indexOf_4cfef_24 rfl q5.1 q6.1 (fun c11 => (ck_aload_n 30 rfl 0 dJ1_indexOf_4cfef_29 rfl rfl (ck_iload_n 31 rfl 1 dJ1_indexOf_4cfef_30 rfl rfl (ck_iload_n 32 rfl 2 dJ1_indexOf_4cfef_31 rfl rfl (ck_iload_n 33 rfl 3 dJ1_indexOf_4cfef_32 rfl rfl (ck_callS 36 rfl [.inr (.inr 100), .inl a1, .inl (max a2 0), .inl (min a3 13)] [] dJ1_indexOf_4cfef_33 cs_J1_95 rfl rfl (Nat.le_of_ble_eq_true rfl) (And.intro True.intro (And.intro hl.2.1 (And.intro q5.1 (And.intro q6.1 True.intro)))) (ck_mI (h15.1 c11) (fun v8 w7 q9 h10 => (ck_iret dJ1_indexOf_4cfef_36 rfl q9 h10))))))))) (fun c12 => (ck_iconst 28 rfl dJ1_indexOf_4cfef_27 rfl (ck_iret dJ1_indexOf_4cfef_28 rfl (show ck_i (-1) by decide) (h15.2 c12)))))))))))))))))))))) (fun c14 => (ck_iconst 8 rfl dJ1_indexOf_4cfef_7 rfl (ck_iret dJ1_indexOf_4cfef_8 rfl (show ck_i (-1) by decide) (h4.2 c14)))))))))))
theorem dJ0_indexOf_7cf53_0 : decode cJ0_indexOf_7cf53 0 = .ok (.aload_n 0, 1) := dk_42 (by decide +kernel)
theorem dJ0_indexOf_7cf53_1 : decode cJ0_indexOf_7cf53 1 = .ok (.invokevirtual 492, 3) := dk_182 1 236 (by decide +kernel)
theorem dJ0_indexOf_7cf53_4 : decode cJ0_indexOf_7cf53 4 = .ok (.ifCond .eq 19, 3) := dk_153 0 19 (by decide +kernel)
theorem dJ0_indexOf_7cf53_7 : decode cJ0_indexOf_7cf53 7 = .ok (.aload_n 0, 1) := dk_42 (by decide +kernel)
theorem dJ0_indexOf_7cf53_8 : decode cJ0_indexOf_7cf53 8 = .ok (.getfield 9, 3) := dk_180 0 9 (by decide +kernel)
theorem dJ0_indexOf_7cf53_11 : decode cJ0_indexOf_7cf53 11 = .ok (.iload_n 1, 1) := dk_27 (by decide +kernel)
theorem dJ0_indexOf_7cf53_12 : decode cJ0_indexOf_7cf53 12 = .ok (.iload_n 2, 1) := dk_28 (by decide +kernel)
theorem dJ0_indexOf_7cf53_13 : decode cJ0_indexOf_7cf53 13 = .ok (.aload_n 0, 1) := dk_42 (by decide +kernel)
theorem dJ0_indexOf_7cf53_14 : decode cJ0_indexOf_7cf53 14 = .ok (.invokevirtual 505, 3) := dk_182 1 249 (by decide +kernel)
theorem dJ0_indexOf_7cf53_17 : decode cJ0_indexOf_7cf53 17 = .ok (.invokestatic 637, 3) := dk_184 2 125 (by decide +kernel)
theorem dJ0_indexOf_7cf53_20 : decode cJ0_indexOf_7cf53 20 = .ok (.goto 16, 3) := dk_167 0 16 (by decide +kernel)
theorem dJ0_indexOf_7cf53_23 : decode cJ0_indexOf_7cf53 23 = .ok (.aload_n 0, 1) := dk_42 (by decide +kernel)
theorem dJ0_indexOf_7cf53_24 : decode cJ0_indexOf_7cf53 24 = .ok (.getfield 9, 3) := dk_180 0 9 (by decide +kernel)
theorem dJ0_indexOf_7cf53_27 : decode cJ0_indexOf_7cf53 27 = .ok (.iload_n 1, 1) := dk_27 (by decide +kernel)
theorem dJ0_indexOf_7cf53_28 : decode cJ0_indexOf_7cf53 28 = .ok (.iload_n 2, 1) := dk_28 (by decide +kernel)
theorem dJ0_indexOf_7cf53_29 : decode cJ0_indexOf_7cf53 29 = .ok (.aload_n 0, 1) := dk_42 (by decide +kernel)
theorem dJ0_indexOf_7cf53_30 : decode cJ0_indexOf_7cf53 30 = .ok (.invokevirtual 505, 3) := dk_182 1 249 (by decide +kernel)
theorem dJ0_indexOf_7cf53_33 : decode cJ0_indexOf_7cf53 33 = .ok (.invokestatic 640, 3) := dk_184 2 128 (by decide +kernel)
theorem dJ0_indexOf_7cf53_36 : decode cJ0_indexOf_7cf53 36 = .ok (.ireturn, 1) := dk_172 (by decide +kernel)
set_option maxRecDepth 8000 in
theorem e_io2 {g : ch_G} {A R : Nat} (hC : ck_Cx g A R) {d : Nat} {K : Option ck_V → ck_W → Prop} {w : ck_W} {a1 a2 : Int} (h : ck_CI (ch_C g A R) d mJ0_isLatin1_aae02 [.inr (.inr 98)] w (fun v2 w1 => (v2 = 0 → ck_CI (ch_C g A R) d mJ0_length_8abf5 [.inr (.inr 98)] w1 (fun v6 w5 => ck_CI (ch_C g A R) d mJ2_indexOf_4cfef [.inr (.inr 100), .inl a1, .inl a2, .inl v6] w5 (fun v10 w9 => K (some (.inl v10)) w9))) ∧ (¬ v2 = 0 → ck_CI (ch_C g A R) d mJ0_length_8abf5 [.inr (.inr 98)] w1 (fun v14 w13 => ck_CI (ch_C g A R) d mJ1_indexOf_4cfef [.inr (.inr 100), .inl a1, .inl a2, .inl v14] w13 (fun v18 w17 => K (some (.inl v18)) w17))))) : ck_Ex (ch_C g A R) (d + 1) mJ0_indexOf_7cf53 [.inr (.inr 98), .inl a1, .inl a2] w K :=
  ck_entryF hC.1 [some (.inr (.inr 98)), some (.inl a1), some (.inl a2)] (pk_of (i := 15) rfl) (Nat.le_of_ble_eq_true rfl) rfl (fun q => q) (ck_in (fun hl => (ck_aload_n 1 rfl 0 dJ0_indexOf_7cf53_0 rfl rfl (ck_callVS 4 rfl [] [] dJ0_indexOf_7cf53_1 cz_J0_492 (i := 1) (by decide) rfl rfl (Nat.le_of_ble_eq_true rfl) True.intro (ck_mI h (fun v2 w1 q3 h4 => (ck_if_eq 7 rfl 23 dJ0_indexOf_7cf53_4 rfl q3 (fun c21 => (ck_aload_n 24 rfl 0 dJ0_indexOf_7cf53_23 rfl rfl (ck_getSv 27 rfl dJ0_indexOf_7cf53_24 rfl (i := 1) (by decide) (ck_iload_n 28 rfl 1 dJ0_indexOf_7cf53_27 rfl rfl (ck_iload_n 29 rfl 2 dJ0_indexOf_7cf53_28 rfl rfl (ck_aload_n 30 rfl 0 dJ0_indexOf_7cf53_29 rfl rfl (ck_callVS 33 rfl [] [.inl a2, .inl a1, .inr (.inr 100)] dJ0_indexOf_7cf53_30 cz_J0_505 (i := 1) (by decide) rfl rfl (Nat.le_of_ble_eq_true rfl) True.intro (ck_mI (h4.1 c21) (fun v6 w5 q7 h8 => (ck_callS 36 rfl [.inr (.inr 100), .inl a1, .inl a2, .inl v6] [] dJ0_indexOf_7cf53_33 cs_J0_640 rfl rfl (Nat.le_of_ble_eq_true rfl) (And.intro True.intro (And.intro hl.2.1 (And.intro hl.2.2.1 (And.intro q7 True.intro)))) (ck_mI h8 (fun v10 w9 q11 h12 => (ck_iret dJ0_indexOf_7cf53_36 rfl q11 h12))))))))))))) (fun c22 => (ck_aload_n 8 rfl 0 dJ0_indexOf_7cf53_7 rfl rfl (ck_getSv 11 rfl dJ0_indexOf_7cf53_8 rfl (i := 1) (by decide) (ck_iload_n 12 rfl 1 dJ0_indexOf_7cf53_11 rfl rfl (ck_iload_n 13 rfl 2 dJ0_indexOf_7cf53_12 rfl rfl (ck_aload_n 14 rfl 0 dJ0_indexOf_7cf53_13 rfl rfl (ck_callVS 17 rfl [] [.inl a2, .inl a1, .inr (.inr 100)] dJ0_indexOf_7cf53_14 cz_J0_505 (i := 1) (by decide) rfl rfl (Nat.le_of_ble_eq_true rfl) True.intro (ck_mI (h4.2 c22) (fun v14 w13 q15 h16 => (ck_callS 20 rfl [.inr (.inr 100), .inl a1, .inl a2, .inl v14] [] dJ0_indexOf_7cf53_17 cs_J0_637 rfl rfl (Nat.le_of_ble_eq_true rfl) (And.intro True.intro (And.intro hl.2.1 (And.intro hl.2.2.1 (And.intro q15 True.intro)))) (ck_mI h16 (fun v18 w17 q19 h20 => (ck_goto 36 dJ0_indexOf_7cf53_20 rfl (ck_iret dJ0_indexOf_7cf53_36 rfl q19 h20)))))))))))))))))))))
theorem dJ0_indexOf_0f7a4_0 : decode cJ0_indexOf_0f7a4 0 = .ok (.aload_n 0, 1) := dk_42 (by decide +kernel)
theorem dJ0_indexOf_0f7a4_1 : decode cJ0_indexOf_0f7a4 1 = .ok (.iload_n 1, 1) := dk_27 (by decide +kernel)
theorem dJ0_indexOf_0f7a4_2 : decode cJ0_indexOf_0f7a4 2 = .ok (.iconst 0, 1) := dk_3 (by decide +kernel)
theorem dJ0_indexOf_0f7a4_3 : decode cJ0_indexOf_0f7a4 3 = .ok (.invokevirtual 633, 3) := dk_182 2 121 (by decide +kernel)
theorem dJ0_indexOf_0f7a4_6 : decode cJ0_indexOf_0f7a4 6 = .ok (.ireturn, 1) := dk_172 (by decide +kernel)
set_option maxRecDepth 8000 in
theorem e_io3 {g : ch_G} {A R : Nat} (hC : ck_Cx g A R) {d : Nat} {K : Option ck_V → ck_W → Prop} {w : ck_W} {a1 : Int} (h : ck_CI (ch_C g A R) d mJ0_indexOf_7cf53 [.inr (.inr 98), .inl a1, .inl 0] w (fun v2 w1 => K (some (.inl v2)) w1)) : ck_Ex (ch_C g A R) (d + 1) mJ0_indexOf_0f7a4 [.inr (.inr 98), .inl a1] w K :=
  ck_entryF hC.1 [some (.inr (.inr 98)), some (.inl a1)] (pk_of (i := 16) rfl) (Nat.le_of_ble_eq_true rfl) rfl (fun q => q) (ck_in (fun hl => (ck_aload_n 1 rfl 0 dJ0_indexOf_0f7a4_0 rfl rfl (ck_iload_n 2 rfl 1 dJ0_indexOf_0f7a4_1 rfl rfl (ck_iconst 3 rfl dJ0_indexOf_0f7a4_2 rfl (ck_callVS 6 rfl [.inl a1, .inl 0] [] dJ0_indexOf_0f7a4_3 cz_J0_633 (i := 1) (by decide) rfl rfl (Nat.le_of_ble_eq_true rfl) (And.intro hl.2.1 (And.intro (show ck_i 0 by decide) True.intro)) (ck_mI h (fun v2 w1 q3 h4 => (ck_iret dJ0_indexOf_0f7a4_6 rfl q3 h4)))))))))
/-- where a sign stands among the signs -/
def tx_f (c : Int) : Nat → Int → Int
  | 0, _ => -1
  | n + 1, j => if sx 1 j = c then j else tx_f c n (j + 1)
theorem p_ioc {g : ch_G} {A R : Nat} (hC : ck_Cx g A R) {d : Nat} {K : Option ck_V → ck_W → Prop} {w : ck_W} {a1 : Int} (h : K (some (.inl (tx_f (ck_i2b a1) 13 0))) w) : ck_Ex (ch_C g A R) d mJ1_indexOfChar_4cfef [.inr (.inr 100), .inl a1, .inl 0, .inl 13] w K := by
  have lp : ∀ (n : Nat) (j : Int), 13 - j = n → 0 ≤ j → K (some (.inl (tx_f (ck_i2b a1) n j))) w → ck_At (ch_C g A R) d mJ1_indexOfChar_4cfef K 7 [some (.inr (.inr 100)), none, none, some (.inl 13), some (.inl (ck_i2b a1)), some (.inl j)] [] w := by
    intro n
    induction n with
    | zero =>
      intro j g1 g2 h
      rw [tx_f] at h
      exact r_ioc_7 hC ⟨fun _ => h, fun q => absurd (by omega) q⟩
    | succ n ih =>
      intro j g1 g2 h
      rw [tx_f] at h
      exact r_ioc_7 hC ⟨fun q => absurd q (by omega), fun _ => ⟨by omega, fun z => ⟨by constructor <;> omega, ih (j + 1) (by omega) (by omega) (by rw [if_neg z] at h; exact h)⟩, fun z => by rw [if_pos z] at h; exact h⟩⟩
  exact e_ioc hC (lp 13 0 (by omega) (by omega) h)
theorem p_indexOf98 {g : ch_G} {A R : Nat} (hC : ck_Cx g A R) {d : Nat} {K : Option ck_V → ck_W → Prop} {w : ck_W} {a1 : Int} (h1 : 0 ≤ a1 ∧ a1 ≤ 255) (h : K (some (.inl (tx_f (ck_i2b a1) 13 0))) w) : ck_Ex (ch_C g A R) (d + 3) mJ0_indexOf_0f7a4 [.inr (.inr 98), .inl a1] w K := by
  refine e_io3 hC (e_io2 hC (p_isl98 hC ⟨_, rfl, fun _ => ⟨fun q => absurd q (by decide), fun _ => p_len98 hC ⟨_, rfl, fun _ => e_io1 hC (e_J1_canEncode_9a6ad hC ⟨fun q => absurd q (by omega), fun _ => ⟨fun q => absurd q (by omega), fun _ => ⟨_, rfl, fun _ => ⟨fun _ => ⟨fun _ => ?_, fun q => absurd (by decide) q⟩, fun q => absurd q (by decide)⟩⟩⟩⟩)⟩⟩⟩))
  exact p_ioc hC ⟨_, rfl, fun _ => ⟨_, rfl, fun _ => ⟨_, rfl, fun _ => h⟩⟩⟩
