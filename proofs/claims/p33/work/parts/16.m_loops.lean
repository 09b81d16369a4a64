/-! ===== powers ===== -/
def ck_pw (b e : Int) : Int := b ^ e.toNat
theorem ck_pw_s {b : Int} {k : Int} (h : 0 ≤ k) : ck_pw b (k + 1) = ck_pw b k * b := by
  unfold ck_pw
  rw [show (k + 1).toNat = k.toNat + 1 by omega, Int.pow_succ]
theorem ck_pw_0 {b : Int} : ck_pw b 0 = 1 := by simp [ck_pw]
theorem ck_pn {b n : Nat} : ∀ {k : Nat}, (b : Int) ≤ (n : Int) → ((b : Int) ^ k) ≤ ((n ^ k : Nat) : Int) ∧ 0 ≤ (b : Int) ^ k := by
  intro k h
  have e : ((b : Int) ^ k) = ((b ^ k : Nat) : Int) := by simp
  rw [e]
  exact ⟨by exact_mod_cast Nat.pow_le_pow_left (by omega) k, by omega⟩
theorem ck_pw_b {b e : Int} (hb : 0 ≤ b) (h : (b ≤ 3 ∧ e ≤ 27) ∨ (b ≤ 10 ∧ e ≤ 12)) : 0 ≤ ck_pw b e ∧ ck_pw b e ≤ 7625597484987 := by
  obtain ⟨n, rfl⟩ : ∃ n : Nat, b = n := ⟨b.toNat, by omega⟩
  unfold ck_pw
  rcases h with ⟨h1, h2⟩ | ⟨h1, h2⟩
  · have q := ck_pn (b := n) (n := 3) (k := e.toNat) h1
    have r : 3 ^ e.toNat ≤ 3 ^ 27 := Nat.pow_le_pow_right (by decide) (by omega)
    have r2 : (3 : Nat) ^ 27 = 7625597484987 := by decide
    exact ⟨q.2, by omega⟩
  · have q := ck_pn (b := n) (n := 10) (k := e.toNat) h1
    have r : 10 ^ e.toNat ≤ 10 ^ 12 := Nat.pow_le_pow_right (by decide) (by omega)
    have r2 : (10 : Nat) ^ 12 = 1000000000000 := by decide
    exact ⟨q.2, by omega⟩
theorem ck_pw_pos {b e : Int} (hb : 1 ≤ b) : 1 ≤ ck_pw b e := by
  unfold ck_pw
  have : 0 < b ^ e.toNat := Int.pow_pos (by omega)
  omega
theorem dX12_power_0 : decode cX12_power 0 = .ok (.lconst 1, 1) := dk_10 (by decide +kernel)
theorem dX12_power_1 : decode cX12_power 1 = .ok (.lstore_n 3, 1) := dk_66 (by decide +kernel)
theorem dX12_power_2 : decode cX12_power 2 = .ok (.iconst 0, 1) := dk_3 (by decide +kernel)
theorem dX12_power_3 : decode cX12_power 3 = .ok (.istore 5, 2) := dk_54 (by decide +kernel)
theorem dX12_power_5 : decode cX12_power 5 = .ok (.iload 5, 2) := dk_21 (by decide +kernel)
theorem dX12_power_7 : decode cX12_power 7 = .ok (.iload_n 2, 1) := dk_28 (by decide +kernel)
theorem dX12_power_8 : decode cX12_power 8 = .ok (.if_icmp .ge 14, 3) := dk_162 0 14 (by decide +kernel)
theorem dX12_power_11 : decode cX12_power 11 = .ok (.lload_n 3, 1) := dk_33 (by decide +kernel)
theorem dX12_power_12 : decode cX12_power 12 = .ok (.iload_n 1, 1) := dk_27 (by decide +kernel)
theorem dX12_power_13 : decode cX12_power 13 = .ok (.i2l, 1) := dk_133 (by decide +kernel)
theorem dX12_power_14 : decode cX12_power 14 = .ok (.lmul, 1) := dk_105 (by decide +kernel)
theorem dX12_power_15 : decode cX12_power 15 = .ok (.lstore_n 3, 1) := dk_66 (by decide +kernel)
theorem dX12_power_16 : decode cX12_power 16 = .ok (.iinc 5 1, 3) := dk_132 1 (by decide +kernel)
theorem dX12_power_19 : decode cX12_power 19 = .ok (.goto (-14), 3) := dk_167 255 242 (by decide +kernel)
theorem dX12_power_22 : decode cX12_power 22 = .ok (.lload_n 3, 1) := dk_33 (by decide +kernel)
theorem dX12_power_23 : decode cX12_power 23 = .ok (.lreturn, 1) := dk_173 (by decide +kernel)
set_option maxRecDepth 8000 in
theorem e_X12_power {g : ch_G} {A R : Nat} (hC : ck_Cx g A R) {d : Nat} {K : Option ck_V → ck_W → Prop} {w : ck_W} {a1 a2 : Int} (h : ck_At (ch_C g A R) d mX12_power K 5 [none, some (.inl a1), some (.inl a2), some (.inr (.inl 1)), none, some (.inl 0)] [] w) : ck_Ex (ch_C g A R) d mX12_power [.inr (.inr 76), .inl a1, .inl a2] w K :=
  ck_entry hC.1 [some (.inr (.inr 76)), some (.inl a1), some (.inl a2), none, none, none] (by decide) (Nat.le_of_ble_eq_true rfl) rfl (fun q => q) (ck_in (fun hl => (ck_lconst 1 rfl 1 dX12_power_0 rfl (ck_lstore_n 2 rfl 3 [some (.inr (.inr 76)), some (.inl a1), some (.inl a2), some (.inr (.inl 1)), none, none] dX12_power_1 rfl (Nat.le_of_ble_eq_true rfl) rfl rfl (show ck_l 1 by decide) (ck_iconst 3 rfl dX12_power_2 rfl (ck_istore 5 rfl [some (.inr (.inr 76)), some (.inl a1), some (.inl a2), some (.inr (.inl 1)), none, some (.inl 0)] dX12_power_3 (Nat.le_of_ble_eq_true rfl) rfl rfl (show ck_i 0 by decide) (ck_drop [none, some (.inl a1), some (.inl a2), some (.inr (.inl 1)), none, some (.inl 0)] (And.intro rfl (And.intro rfl (And.intro rfl (And.intro rfl True.intro)))) h)))))))
set_option maxRecDepth 8000 in
theorem r_X12_power_5 {g : ch_G} {A R : Nat} (hC : ck_Cx g A R) {d : Nat} {K : Option ck_V → ck_W → Prop} {w : ck_W} {a1 a2 a3 a5 : Int} (h : (a2 ≤ a5 → K (some (.inr (.inl a3))) w) ∧ (¬ a2 ≤ a5 → ck_l (a3 * a1) ∧ (ck_i (a5 + 1) ∧ (ck_At (ch_C g A R) d mX12_power K 5 [none, some (.inl a1), some (.inl a2), some (.inr (.inl (a3 * a1))), none, some (.inl (a5 + 1))] [] w)))) : ck_At (ch_C g A R) d mX12_power K 5 [none, some (.inl a1), some (.inl a2), some (.inr (.inl a3)), none, some (.inl a5)] [] w :=
  ck_in (fun hl => (ck_iload 7 rfl dX12_power_5 rfl (ck_iload_n 8 rfl 2 dX12_power_7 rfl rfl (ck_icmp_ge 11 rfl 22 dX12_power_8 rfl hl.2.2.2.1 hl.2.1 (fun c3 => (ck_lload_n 23 rfl 3 dX12_power_22 rfl rfl (ck_lret dX12_power_23 rfl hl.2.2.1 (h.1 c3)))) (fun c4 => (ck_lload_n 12 rfl 3 dX12_power_11 rfl rfl (ck_iload_n 13 rfl 1 dX12_power_12 rfl rfl (ck_i2l 14 rfl dX12_power_13 hl.1 (ck_lmul 15 rfl dX12_power_14 (have h6 := (h.2 c4); have o1 := h6.1; have h5 := h6.2; (ck_lstore_n 16 rfl 3 [none, some (.inl a1), some (.inl a2), some (.inr (.inl (a3 * a1))), none, some (.inl a5)] dX12_power_15 rfl (Nat.le_of_ble_eq_true rfl) rfl rfl o1 (have h8 := h5; have o2 := h8.1; have h7 := h8.2; (ck_iinc 19 rfl [none, some (.inl a1), some (.inl a2), some (.inr (.inl (a3 * a1))), none, some (.inl (a5 + 1))] dX12_power_16 rfl (Nat.le_of_ble_eq_true rfl) rfl rfl o2 (ck_goto 5 dX12_power_19 rfl h7))))))))))))))
theorem L_X12_power {g : ch_G} {A R : Nat} (hC : ck_Cx g A R) {d : Nat} {K : Option ck_V → ck_W → Prop} {w : ck_W} {a1 a2 a3 a5 : Int} (n : Nat) (hn : a2 - a5 ≤ n) (h0 : 0 ≤ a5) (h1 : a5 ≤ a2) (hb : 0 ≤ a1) (he : (a1 ≤ 3 ∧ a2 ≤ 27) ∨ (a1 ≤ 10 ∧ a2 ≤ 12)) (h3 : a3 = ck_pw a1 a5) (h : K (some (.inr (.inl (ck_pw a1 a2)))) w) : ck_At (ch_C g A R) d mX12_power K 5 [none, some (.inl a1), some (.inl a2), some (.inr (.inl a3)), none, some (.inl a5)] [] w := by
  induction n generalizing a3 a5 with
  | zero => exact r_X12_power_5 hC ⟨fun q => by rw [h3, show a5 = a2 by omega]; exact h, fun q => absurd (by omega) q⟩
  | succ n ih =>
    refine r_X12_power_5 hC ⟨fun q => by rw [h3, show a5 = a2 by omega]; exact h, fun q => ?_⟩
    have e1 : a3 * a1 = ck_pw a1 (a5 + 1) := by rw [ck_pw_s h0, h3]
    have e2 := ck_pw_b (b := a1) (e := a5 + 1) hb (by omega)
    refine ⟨?_, ?_, ih (by omega) (by omega) (by omega) e1⟩
    · rw [e1]; exact ⟨by omega, by omega⟩
    · constructor <;> omega
theorem p_X12_power {g : ch_G} {A R : Nat} (hC : ck_Cx g A R) {d : Nat} {K : Option ck_V → ck_W → Prop} {w : ck_W} {a1 a2 : Int} (o0 : 0 ≤ a1) (o1 : 0 ≤ a2) (o2 : (a1 ≤ 3 ∧ a2 ≤ 27) ∨ (a1 ≤ 10 ∧ a2 ≤ 12)) (h : K (some (.inr (.inl (ck_pw a1 a2)))) w) : ck_Ex (ch_C g A R) d mX12_power [.inr (.inr 76), .inl a1, .inl a2] w K :=
  e_X12_power hC (L_X12_power hC a2.toNat (by omega) (by omega) o1 o0 o2 ck_pw_0.symm h)
theorem dX11_power_0 : decode cX11_power 0 = .ok (.lconst 1, 1) := dk_10 (by decide +kernel)
theorem dX11_power_1 : decode cX11_power 1 = .ok (.lstore_n 2, 1) := dk_65 (by decide +kernel)
theorem dX11_power_2 : decode cX11_power 2 = .ok (.iconst 0, 1) := dk_3 (by decide +kernel)
theorem dX11_power_3 : decode cX11_power 3 = .ok (.istore 4, 2) := dk_54 (by decide +kernel)
theorem dX11_power_5 : decode cX11_power 5 = .ok (.iload 4, 2) := dk_21 (by decide +kernel)
theorem dX11_power_7 : decode cX11_power 7 = .ok (.iload_n 1, 1) := dk_27 (by decide +kernel)
theorem dX11_power_8 : decode cX11_power 8 = .ok (.if_icmp .ge 14, 3) := dk_162 0 14 (by decide +kernel)
theorem dX11_power_11 : decode cX11_power 11 = .ok (.lload_n 2, 1) := dk_32 (by decide +kernel)
theorem dX11_power_12 : decode cX11_power 12 = .ok (.iload_n 0, 1) := dk_26 (by decide +kernel)
theorem dX11_power_13 : decode cX11_power 13 = .ok (.i2l, 1) := dk_133 (by decide +kernel)
theorem dX11_power_14 : decode cX11_power 14 = .ok (.lmul, 1) := dk_105 (by decide +kernel)
theorem dX11_power_15 : decode cX11_power 15 = .ok (.lstore_n 2, 1) := dk_65 (by decide +kernel)
theorem dX11_power_16 : decode cX11_power 16 = .ok (.iinc 4 1, 3) := dk_132 1 (by decide +kernel)
theorem dX11_power_19 : decode cX11_power 19 = .ok (.goto (-14), 3) := dk_167 255 242 (by decide +kernel)
theorem dX11_power_22 : decode cX11_power 22 = .ok (.lload_n 2, 1) := dk_32 (by decide +kernel)
theorem dX11_power_23 : decode cX11_power 23 = .ok (.lreturn, 1) := dk_173 (by decide +kernel)
set_option maxRecDepth 8000 in
theorem e_X11_power {g : ch_G} {A R : Nat} (hC : ck_Cx g A R) {d : Nat} {K : Option ck_V → ck_W → Prop} {w : ck_W} {a0 a1 : Int} (h : ck_At (ch_C g A R) d mX11_power K 5 [some (.inl a0), some (.inl a1), some (.inr (.inl 1)), none, some (.inl 0)] [] w) : ck_Ex (ch_C g A R) d mX11_power [.inl a0, .inl a1] w K :=
  ck_entry hC.1 [some (.inl a0), some (.inl a1), none, none, none] (by decide) (Nat.le_of_ble_eq_true rfl) rfl (fun q => q) (ck_in (fun hl => (ck_lconst 1 rfl 1 dX11_power_0 rfl (ck_lstore_n 2 rfl 2 [some (.inl a0), some (.inl a1), some (.inr (.inl 1)), none, none] dX11_power_1 rfl (Nat.le_of_ble_eq_true rfl) rfl rfl (show ck_l 1 by decide) (ck_iconst 3 rfl dX11_power_2 rfl (ck_istore 5 rfl [some (.inl a0), some (.inl a1), some (.inr (.inl 1)), none, some (.inl 0)] dX11_power_3 (Nat.le_of_ble_eq_true rfl) rfl rfl (show ck_i 0 by decide) h))))))
set_option maxRecDepth 8000 in
theorem r_X11_power_5 {g : ch_G} {A R : Nat} (hC : ck_Cx g A R) {d : Nat} {K : Option ck_V → ck_W → Prop} {w : ck_W} {a0 a1 a2 a4 : Int} (h : (a1 ≤ a4 → K (some (.inr (.inl a2))) w) ∧ (¬ a1 ≤ a4 → ck_l (a2 * a0) ∧ (ck_i (a4 + 1) ∧ (ck_At (ch_C g A R) d mX11_power K 5 [some (.inl a0), some (.inl a1), some (.inr (.inl (a2 * a0))), none, some (.inl (a4 + 1))] [] w)))) : ck_At (ch_C g A R) d mX11_power K 5 [some (.inl a0), some (.inl a1), some (.inr (.inl a2)), none, some (.inl a4)] [] w :=
  ck_in (fun hl => (ck_iload 7 rfl dX11_power_5 rfl (ck_iload_n 8 rfl 1 dX11_power_7 rfl rfl (ck_icmp_ge 11 rfl 22 dX11_power_8 rfl hl.2.2.2.1 hl.2.1 (fun c3 => (ck_lload_n 23 rfl 2 dX11_power_22 rfl rfl (ck_lret dX11_power_23 rfl hl.2.2.1 (h.1 c3)))) (fun c4 => (ck_lload_n 12 rfl 2 dX11_power_11 rfl rfl (ck_iload_n 13 rfl 0 dX11_power_12 rfl rfl (ck_i2l 14 rfl dX11_power_13 hl.1 (ck_lmul 15 rfl dX11_power_14 (have h6 := (h.2 c4); have o1 := h6.1; have h5 := h6.2; (ck_lstore_n 16 rfl 2 [some (.inl a0), some (.inl a1), some (.inr (.inl (a2 * a0))), none, some (.inl a4)] dX11_power_15 rfl (Nat.le_of_ble_eq_true rfl) rfl rfl o1 (have h8 := h5; have o2 := h8.1; have h7 := h8.2; (ck_iinc 19 rfl [some (.inl a0), some (.inl a1), some (.inr (.inl (a2 * a0))), none, some (.inl (a4 + 1))] dX11_power_16 rfl (Nat.le_of_ble_eq_true rfl) rfl rfl o2 (ck_goto 5 dX11_power_19 rfl h7))))))))))))))
theorem L_X11_power {g : ch_G} {A R : Nat} (hC : ck_Cx g A R) {d : Nat} {K : Option ck_V → ck_W → Prop} {w : ck_W} {a0 a1 a2 a4 : Int} (n : Nat) (hn : a1 - a4 ≤ n) (h0 : 0 ≤ a4) (h1 : a4 ≤ a1) (hb : 0 ≤ a0) (he : (a0 ≤ 3 ∧ a1 ≤ 27) ∨ (a0 ≤ 10 ∧ a1 ≤ 12)) (h3 : a2 = ck_pw a0 a4) (h : K (some (.inr (.inl (ck_pw a0 a1)))) w) : ck_At (ch_C g A R) d mX11_power K 5 [some (.inl a0), some (.inl a1), some (.inr (.inl a2)), none, some (.inl a4)] [] w := by
  induction n generalizing a2 a4 with
  | zero => exact r_X11_power_5 hC ⟨fun q => by rw [h3, show a4 = a1 by omega]; exact h, fun q => absurd (by omega) q⟩
  | succ n ih =>
    refine r_X11_power_5 hC ⟨fun q => by rw [h3, show a4 = a1 by omega]; exact h, fun q => ?_⟩
    have e1 : a2 * a0 = ck_pw a0 (a4 + 1) := by rw [ck_pw_s h0, h3]
    have e2 := ck_pw_b (b := a0) (e := a4 + 1) hb (by omega)
    refine ⟨?_, ?_, ih (by omega) (by omega) (by omega) e1⟩
    · rw [e1]; exact ⟨by omega, by omega⟩
    · constructor <;> omega
theorem p_X11_power {g : ch_G} {A R : Nat} (hC : ck_Cx g A R) {d : Nat} {K : Option ck_V → ck_W → Prop} {w : ck_W} {a0 a1 : Int} (o0 : 0 ≤ a0) (o1 : 0 ≤ a1) (o2 : (a0 ≤ 3 ∧ a1 ≤ 27) ∨ (a0 ≤ 10 ∧ a1 ≤ 12)) (h : K (some (.inr (.inl (ck_pw a0 a1)))) w) : ck_Ex (ch_C g A R) d mX11_power [.inl a0, .inl a1] w K :=
  e_X11_power hC (L_X11_power hC a1.toNat (by omega) (by omega) o1 o0 o2 ck_pw_0.symm h)
/-! ===== the image ===== -/
theorem dX12_copy_0 : decode cX12_copy 0 = .ok (.iconst 0, 1) := dk_3 (by decide +kernel)
theorem dX12_copy_1 : decode cX12_copy 1 = .ok (.istore_n 2, 1) := dk_61 (by decide +kernel)
theorem dX12_copy_2 : decode cX12_copy 2 = .ok (.iload_n 2, 1) := dk_28 (by decide +kernel)
theorem dX12_copy_3 : decode cX12_copy 3 = .ok (.sipush 1430, 3) := dk_17 5 150 (by decide +kernel)
theorem dX12_copy_6 : decode cX12_copy 6 = .ok (.if_icmp .ge 15, 3) := dk_162 0 15 (by decide +kernel)
theorem dX12_copy_9 : decode cX12_copy 9 = .ok (.aload_n 1, 1) := dk_43 (by decide +kernel)
theorem dX12_copy_10 : decode cX12_copy 10 = .ok (.iload_n 2, 1) := dk_28 (by decide +kernel)
theorem dX12_copy_11 : decode cX12_copy 11 = .ok (.aload_n 0, 1) := dk_42 (by decide +kernel)
theorem dX12_copy_12 : decode cX12_copy 12 = .ok (.iload_n 2, 1) := dk_28 (by decide +kernel)
theorem dX12_copy_13 : decode cX12_copy 13 = .ok (.iaload, 1) := dk_46 (by decide +kernel)
theorem dX12_copy_14 : decode cX12_copy 14 = .ok (.iastore, 1) := dk_79 (by decide +kernel)
theorem dX12_copy_15 : decode cX12_copy 15 = .ok (.iinc 2 1, 3) := dk_132 1 (by decide +kernel)
theorem dX12_copy_18 : decode cX12_copy 18 = .ok (.goto (-16), 3) := dk_167 255 240 (by decide +kernel)
theorem dX12_copy_21 : decode cX12_copy 21 = .ok (.return_, 1) := dk_177 (by decide +kernel)
set_option maxRecDepth 8000 in
theorem e_X12_copyAI {g : ch_G} {A R : Nat} (hC : ck_Cx g A R) {d : Nat} {K : Option ck_V → ck_W → Prop} {w : ck_W} (h : ck_At (ch_C g A R) d mX12_copy K 2 [some (.inr (.inr 77)), some (.inr (.inr 78)), some (.inl 0)] [] w) : ck_Ex (ch_C g A R) d mX12_copy [.inr (.inr 77), .inr (.inr 78)] w K :=
  ck_entry hC.1 [some (.inr (.inr 77)), some (.inr (.inr 78)), none] (by decide) (Nat.le_of_ble_eq_true rfl) rfl (fun q => q) (ck_in (fun hl => (ck_iconst 1 rfl dX12_copy_0 rfl (ck_istore_n 2 rfl 2 [some (.inr (.inr 77)), some (.inr (.inr 78)), some (.inl 0)] dX12_copy_1 rfl (Nat.le_of_ble_eq_true rfl) rfl rfl (show ck_i 0 by decide) h))))
set_option maxRecDepth 8000 in
theorem r_X12_copyAI_2 {g : ch_G} {A R : Nat} (hC : ck_Cx g A R) {d : Nat} {K : Option ck_V → ck_W → Prop} {w : ck_W} {a2 : Int} (h : (1430 ≤ a2 → K none w) ∧ (¬ 1430 ≤ a2 → (0 ≤ a2 ∧ a2 < 1430) ∧ (ck_i (a2 + 1) ∧ (ck_At (ch_C g A R) d mX12_copy K 2 [some (.inr (.inr 77)), some (.inr (.inr 78)), some (.inl (a2 + 1))] [] (ck_up w 78 a2 (w 77 a2)))))) : ck_At (ch_C g A R) d mX12_copy K 2 [some (.inr (.inr 77)), some (.inr (.inr 78)), some (.inl a2)] [] w :=
  ck_in (fun hl => (ck_iload_n 3 rfl 2 dX12_copy_2 rfl rfl (ck_sipush 6 rfl dX12_copy_3 rfl (ck_icmp_ge 9 rfl 21 dX12_copy_6 rfl hl.2.2.1 (show ck_i 1430 by decide) (fun c4 => (ck_vret dX12_copy_21 rfl (h.1 c4))) (fun c5 => (ck_aload_n 10 rfl 1 dX12_copy_9 rfl rfl (ck_iload_n 11 rfl 2 dX12_copy_10 rfl rfl (ck_aload_n 12 rfl 0 dX12_copy_11 rfl rfl (ck_iload_n 13 rfl 2 dX12_copy_12 rfl rfl (have h7 := (h.2 c5); have o1 := h7.1; have h6 := h7.2; (ck_iald 14 rfl dX12_copy_13 sh_77 (shn_77 hC) o1 _ rfl (fun (q2 : ck_i (w 77 a2)) => (ck_iast 15 rfl dX12_copy_14 sh_78 (shn_78 hC) o1 q2 (have h9 := h6; have o3 := h9.1; have h8 := h9.2; (ck_iinc 18 rfl [some (.inr (.inr 77)), some (.inr (.inr 78)), some (.inl (a2 + 1))] dX12_copy_15 rfl (Nat.le_of_ble_eq_true rfl) rfl rfl o3 (ck_goto 2 dX12_copy_18 rfl h8))))))))))))))))
set_option maxRecDepth 8000 in
theorem e_X12_copyIA {g : ch_G} {A R : Nat} (hC : ck_Cx g A R) {d : Nat} {K : Option ck_V → ck_W → Prop} {w : ck_W} (h : ck_At (ch_C g A R) d mX12_copy K 2 [some (.inr (.inr 78)), some (.inr (.inr 77)), some (.inl 0)] [] w) : ck_Ex (ch_C g A R) d mX12_copy [.inr (.inr 78), .inr (.inr 77)] w K :=
  ck_entry hC.1 [some (.inr (.inr 78)), some (.inr (.inr 77)), none] (by decide) (Nat.le_of_ble_eq_true rfl) rfl (fun q => q) (ck_in (fun hl => (ck_iconst 1 rfl dX12_copy_0 rfl (ck_istore_n 2 rfl 2 [some (.inr (.inr 78)), some (.inr (.inr 77)), some (.inl 0)] dX12_copy_1 rfl (Nat.le_of_ble_eq_true rfl) rfl rfl (show ck_i 0 by decide) h))))
set_option maxRecDepth 8000 in
theorem r_X12_copyIA_2 {g : ch_G} {A R : Nat} (hC : ck_Cx g A R) {d : Nat} {K : Option ck_V → ck_W → Prop} {w : ck_W} {a2 : Int} (h : (1430 ≤ a2 → K none w) ∧ (¬ 1430 ≤ a2 → (0 ≤ a2 ∧ a2 < 1430) ∧ (ck_i (a2 + 1) ∧ (ck_At (ch_C g A R) d mX12_copy K 2 [some (.inr (.inr 78)), some (.inr (.inr 77)), some (.inl (a2 + 1))] [] (ck_up w 77 a2 (w 78 a2)))))) : ck_At (ch_C g A R) d mX12_copy K 2 [some (.inr (.inr 78)), some (.inr (.inr 77)), some (.inl a2)] [] w :=
  ck_in (fun hl => (ck_iload_n 3 rfl 2 dX12_copy_2 rfl rfl (ck_sipush 6 rfl dX12_copy_3 rfl (ck_icmp_ge 9 rfl 21 dX12_copy_6 rfl hl.2.2.1 (show ck_i 1430 by decide) (fun c4 => (ck_vret dX12_copy_21 rfl (h.1 c4))) (fun c5 => (ck_aload_n 10 rfl 1 dX12_copy_9 rfl rfl (ck_iload_n 11 rfl 2 dX12_copy_10 rfl rfl (ck_aload_n 12 rfl 0 dX12_copy_11 rfl rfl (ck_iload_n 13 rfl 2 dX12_copy_12 rfl rfl (have h7 := (h.2 c5); have o1 := h7.1; have h6 := h7.2; (ck_iald 14 rfl dX12_copy_13 sh_78 (shn_78 hC) o1 _ rfl (fun (q2 : ck_i (w 78 a2)) => (ck_iast 15 rfl dX12_copy_14 sh_77 (shn_77 hC) o1 q2 (have h9 := h6; have o3 := h9.1; have h8 := h9.2; (ck_iinc 18 rfl [some (.inr (.inr 78)), some (.inr (.inr 77)), some (.inl (a2 + 1))] dX12_copy_15 rfl (Nat.le_of_ble_eq_true rfl) rfl rfl o3 (ck_goto 2 dX12_copy_18 rfl h8))))))))))))))))
theorem L_X12_copyAI {g : ch_G} {A R : Nat} (hC : ck_Cx g A R) {d : Nat} {K : Option ck_V → ck_W → Prop} {w : ck_W} {a2 : Int} (n : Nat) (hn : 1430 - a2 ≤ n) (h0 : 0 ≤ a2) (h1 : a2 ≤ 1430) (h : ∀ w', (∀ k, k ≠ 78 → w' k = w k) → (∀ j, 0 ≤ j → j < 1430 → w' 78 j = if a2 ≤ j then w 77 j else w 78 j) → K none w') : ck_At (ch_C g A R) d mX12_copy K 2 [some (.inr (.inr 77)), some (.inr (.inr 78)), some (.inl a2)] [] w := by
  induction n generalizing w a2 with
  | zero => exact r_X12_copyAI_2 hC ⟨fun q => h w (fun _ _ => rfl) (fun j _ _ => by rw [if_neg (by omega)]), fun q => absurd (by omega) q⟩
  | succ n ih =>
    refine r_X12_copyAI_2 hC ⟨fun q => h w (fun _ _ => rfl) (fun j _ _ => by rw [if_neg (by omega)]), fun q => ⟨⟨h0, by omega⟩, by constructor <;> omega, ih (by omega) (by omega) (by omega) (fun w' hk hj => h w' (fun k hk' => by rw [hk k hk', ck_up_ne hk']) (fun j j0 j1 => ?_))⟩⟩
    rw [hj j j0 j1, ck_up_ne (by decide)]
    by_cases e : a2 = j
    · rw [if_neg (by omega), if_pos (by omega), e, ck_up_eq]
    · by_cases e2 : a2 ≤ j
      · rw [if_pos (by omega), if_pos e2]
      · rw [if_neg (by omega), if_neg e2, ck_up_nj (by omega)]
theorem L_X12_copyIA {g : ch_G} {A R : Nat} (hC : ck_Cx g A R) {d : Nat} {K : Option ck_V → ck_W → Prop} {w : ck_W} {a2 : Int} (n : Nat) (hn : 1430 - a2 ≤ n) (h0 : 0 ≤ a2) (h1 : a2 ≤ 1430) (h : ∀ w', (∀ k, k ≠ 77 → w' k = w k) → (∀ j, 0 ≤ j → j < 1430 → w' 77 j = if a2 ≤ j then w 78 j else w 77 j) → K none w') : ck_At (ch_C g A R) d mX12_copy K 2 [some (.inr (.inr 78)), some (.inr (.inr 77)), some (.inl a2)] [] w := by
  induction n generalizing w a2 with
  | zero => exact r_X12_copyIA_2 hC ⟨fun q => h w (fun _ _ => rfl) (fun j _ _ => by rw [if_neg (by omega)]), fun q => absurd (by omega) q⟩
  | succ n ih =>
    refine r_X12_copyIA_2 hC ⟨fun q => h w (fun _ _ => rfl) (fun j _ _ => by rw [if_neg (by omega)]), fun q => ⟨⟨h0, by omega⟩, by constructor <;> omega, ih (by omega) (by omega) (by omega) (fun w' hk hj => h w' (fun k hk' => by rw [hk k hk', ck_up_ne hk']) (fun j j0 j1 => ?_))⟩⟩
    rw [hj j j0 j1, ck_up_ne (by decide)]
    by_cases e : a2 = j
    · rw [if_neg (by omega), if_pos (by omega), e, ck_up_eq]
    · by_cases e2 : a2 ≤ j
      · rw [if_pos (by omega), if_pos e2]
      · rw [if_neg (by omega), if_neg e2, ck_up_nj (by omega)]
theorem rm_Ac {A R : Nat} {f f' : Int → Int} (h : rm_A A R f) (e : ∀ j, 0 ≤ j → j < 1430 → f' j = f j) : rm_A A R f' := by
  have c := rm_c0 h
  have e4 := e 4 (by decide) (by decide)
  have e5 := e 5 (by decide) (by decide)
  exact ⟨fun j h0 h1 => by rw [e j h0 h1]; exact h.1 j h0 h1, fun k h0 h1 => by rw [e _ (by omega) (by omega)]; exact h.2.1 k h0 (by omega), fun k h0 h1 => by rw [e _ (by omega) (by omega)]; exact h.2.2 k h0 (by omega)⟩
theorem dX12_image_0 : decode cX12_image 0 = .ok (.aload_n 0, 1) := dk_42 (by decide +kernel)
theorem dX12_image_1 : decode cX12_image 1 = .ok (.getfield 7, 3) := dk_180 0 7 (by decide +kernel)
theorem dX12_image_4 : decode cX12_image 4 = .ok (.aload_n 0, 1) := dk_42 (by decide +kernel)
theorem dX12_image_5 : decode cX12_image 5 = .ok (.getfield 13, 3) := dk_180 0 13 (by decide +kernel)
theorem dX12_image_8 : decode cX12_image 8 = .ok (.invokestatic 89, 3) := dk_184 0 89 (by decide +kernel)
theorem dX12_image_11 : decode cX12_image 11 = .ok (.aload_n 0, 1) := dk_42 (by decide +kernel)
theorem dX12_image_12 : decode cX12_image 12 = .ok (.getfield 7, 3) := dk_180 0 7 (by decide +kernel)
theorem dX12_image_15 : decode cX12_image 15 = .ok (.iconst 3, 1) := dk_6 (by decide +kernel)
theorem dX12_image_16 : decode cX12_image 16 = .ok (.iaload, 1) := dk_46 (by decide +kernel)
theorem dX12_image_17 : decode cX12_image 17 = .ok (.ireturn, 1) := dk_172 (by decide +kernel)
set_option maxRecDepth 8000 in
theorem e_X12_image {g : ch_G} {A R : Nat} (hC : ck_Cx g A R) {d : Nat} {K : Option ck_V → ck_W → Prop} {w : ck_W} (h : ck_CN (ch_C g A R) d mX12_copy [.inr (.inr 77), .inr (.inr 78)] w (fun w1 => K (some (.inl (w1 77 3))) w1)) : ck_Ex (ch_C g A R) (d + 1) mX12_image [.inr (.inr 76)] w K :=
  ck_entry hC.1 [some (.inr (.inr 76))] (by decide) (Nat.le_of_ble_eq_true rfl) rfl (fun q => q) (ck_in (fun hl => (ck_aload_n 1 rfl 0 dX12_image_0 rfl rfl (ck_getr 4 rfl dX12_image_1 fl_X12_7 sh_76 rfl (ck_aload_n 5 rfl 0 dX12_image_4 rfl rfl (ck_getr 8 rfl dX12_image_5 fl_X12_13 sh_76 rfl (ck_callS 11 rfl [.inr (.inr 77), .inr (.inr 78)] [] dX12_image_8 cs_X12_89 rfl rfl (Nat.le_of_ble_eq_true rfl) (And.intro True.intro (And.intro True.intro True.intro)) (ck_mN h (fun w1 h3 => (ck_aload_n 12 rfl 0 dX12_image_11 rfl rfl (ck_getr 15 rfl dX12_image_12 fl_X12_7 sh_76 rfl (ck_iconst 16 rfl dX12_image_15 rfl (ck_iald 17 rfl dX12_image_16 sh_77 (shn_77 hC) (by decide) _ rfl (fun (q2 : ck_i (w1 77 3)) => (ck_iret dX12_image_17 rfl q2 h3)))))))))))))))
theorem dX12_back_0 : decode cX12_back 0 = .ok (.aload_n 0, 1) := dk_42 (by decide +kernel)
theorem dX12_back_1 : decode cX12_back 1 = .ok (.getfield 13, 3) := dk_180 0 13 (by decide +kernel)
theorem dX12_back_4 : decode cX12_back 4 = .ok (.aload_n 0, 1) := dk_42 (by decide +kernel)
theorem dX12_back_5 : decode cX12_back 5 = .ok (.getfield 7, 3) := dk_180 0 7 (by decide +kernel)
theorem dX12_back_8 : decode cX12_back 8 = .ok (.invokestatic 89, 3) := dk_184 0 89 (by decide +kernel)
theorem dX12_back_11 : decode cX12_back 11 = .ok (.aload_n 0, 1) := dk_42 (by decide +kernel)
theorem dX12_back_12 : decode cX12_back 12 = .ok (.getfield 7, 3) := dk_180 0 7 (by decide +kernel)
theorem dX12_back_15 : decode cX12_back 15 = .ok (.iconst 3, 1) := dk_6 (by decide +kernel)
theorem dX12_back_16 : decode cX12_back 16 = .ok (.iaload, 1) := dk_46 (by decide +kernel)
theorem dX12_back_17 : decode cX12_back 17 = .ok (.ireturn, 1) := dk_172 (by decide +kernel)
set_option maxRecDepth 8000 in
theorem e_X12_back {g : ch_G} {A R : Nat} (hC : ck_Cx g A R) {d : Nat} {K : Option ck_V → ck_W → Prop} {w : ck_W} (h : ck_CN (ch_C g A R) d mX12_copy [.inr (.inr 78), .inr (.inr 77)] w (fun w1 => K (some (.inl (w1 77 3))) w1)) : ck_Ex (ch_C g A R) (d + 1) mX12_back [.inr (.inr 76)] w K :=
  ck_entry hC.1 [some (.inr (.inr 76))] (by decide) (Nat.le_of_ble_eq_true rfl) rfl (fun q => q) (ck_in (fun hl => (ck_aload_n 1 rfl 0 dX12_back_0 rfl rfl (ck_getr 4 rfl dX12_back_1 fl_X12_13 sh_76 rfl (ck_aload_n 5 rfl 0 dX12_back_4 rfl rfl (ck_getr 8 rfl dX12_back_5 fl_X12_7 sh_76 rfl (ck_callS 11 rfl [.inr (.inr 78), .inr (.inr 77)] [] dX12_back_8 cs_X12_89 rfl rfl (Nat.le_of_ble_eq_true rfl) (And.intro True.intro (And.intro True.intro True.intro)) (ck_mN h (fun w1 h3 => (ck_aload_n 12 rfl 0 dX12_back_11 rfl rfl (ck_getr 15 rfl dX12_back_12 fl_X12_7 sh_76 rfl (ck_iconst 16 rfl dX12_back_15 rfl (ck_iald 17 rfl dX12_back_16 sh_77 (shn_77 hC) (by decide) _ rfl (fun (q2 : ck_i (w1 77 3)) => (ck_iret dX12_back_17 rfl q2 h3)))))))))))))))
theorem M_image {g : ch_G} {A R : Nat} (hC : ck_Cx g A R) {d : Nat} {K : Option ck_V → ck_W → Prop} {w : ck_W} (hI : rm_I A R w) (h : ∀ w', rm_I A R w' → rm_fr w w' → (∀ k, k ≠ 78 → w' k = w k) → (∀ j, 0 ≤ j → j < 1430 → w' 78 j = w 77 j) → K (some (.inl (w 77 3))) w') : ck_Ex (ch_C g A R) (d + 1) mX12_image [.inr (.inr 76)] w K := by
  refine e_X12_image hC (e_X12_copyAI hC (L_X12_copyAI hC 1430 (by omega) (by omega) (by omega) (fun w' hk hj => ⟨rfl, ?_⟩)))
  have e77 := hk 77 (by decide)
  have e76 := hk 76 (by decide)
  have hj' : ∀ j, 0 ≤ j → j < 1430 → w' 78 j = w 77 j := fun j j0 j1 => by rw [hj j j0 j1, if_pos j0]
  dsimp only
  rw [e77]
  refine h w' ?_ (fun k hk' => hk k (by omega)) hk hj'
  obtain ⟨a, b, c, e, f, g, k, l, m⟩ := hI
  exact ⟨by rw [e76]; exact a, by rw [e76]; exact b, by rw [e76]; exact c, by rw [e77]; exact e, rm_Ac e hj', by rw [hj' 0 (by decide) (by decide), e77]; omega, by rw [e76]; exact k, by rw [e76]; exact l, by rw [hk 79 (by decide), e77]; exact m⟩
theorem M_back {g : ch_G} {A R : Nat} (hC : ck_Cx g A R) {d : Nat} {K : Option ck_V → ck_W → Prop} {w : ck_W} (hI : rm_I A R w) (h : ∀ w', rm_I A R w' → rm_fr w w' → (∀ k, k ≠ 77 → w' k = w k) → (∀ j, 0 ≤ j → j < 1430 → w' 77 j = w 78 j) → K (some (.inl (w 78 3))) w') : ck_Ex (ch_C g A R) (d + 1) mX12_back [.inr (.inr 76)] w K := by
  refine e_X12_back hC (e_X12_copyIA hC (L_X12_copyIA hC 1430 (by omega) (by omega) (by omega) (fun w' hk hj => ⟨rfl, ?_⟩)))
  have e78 := hk 78 (by decide)
  have e76 := hk 76 (by decide)
  have hj' : ∀ j, 0 ≤ j → j < 1430 → w' 77 j = w 78 j := fun j j0 j1 => by rw [hj j j0 j1, if_pos j0]
  dsimp only
  rw [hj' 3 (by decide) (by decide)]
  refine h w' ?_ (fun k hk' => hk k (by omega)) hk hj'
  obtain ⟨a, b, c, e, f, g, k, l, m⟩ := hI
  have z := hj' 0 (by decide) (by decide)
  exact ⟨by rw [e76]; exact a, by rw [e76]; exact b, by rw [e76]; exact c, rm_Ac f hj', by rw [e78]; exact f, by rw [z, e78]; omega, by rw [e76]; exact k, by rw [e76]; exact l, by rw [hk 79 (by decide), z]; exact fun r r0 r1 => m r r0 (by omega)⟩
/-! ===== length ===== -/
def ck_len : Nat → Int → Int → Int → Int → Int
  | 0, _, _, _, s => s
  | n + 1, v, l, t, s => if v < l then s else ck_len n (v - t) l t (s + v)
theorem dX12_length_0 : decode cX12_length 0 = .ok (.iload_n 1, 1) := dk_27 (by decide +kernel)
theorem dX12_length_1 : decode cX12_length 1 = .ok (.iconst 1, 1) := dk_4 (by decide +kernel)
theorem dX12_length_2 : decode cX12_length 2 = .ok (.sipush 9999, 3) := dk_17 39 15 (by decide +kernel)
theorem dX12_length_5 : decode cX12_length 5 = .ok (.invokestatic 93, 3) := dk_184 0 93 (by decide +kernel)
theorem dX12_length_8 : decode cX12_length 8 = .ok (.ifCond .eq 35, 3) := dk_153 0 35 (by decide +kernel)
theorem dX12_length_11 : decode cX12_length 11 = .ok (.iload_n 2, 1) := dk_28 (by decide +kernel)
theorem dX12_length_12 : decode cX12_length 12 = .ok (.iconst 1, 1) := dk_4 (by decide +kernel)
theorem dX12_length_13 : decode cX12_length 13 = .ok (.sipush 999, 3) := dk_17 3 231 (by decide +kernel)
theorem dX12_length_16 : decode cX12_length 16 = .ok (.invokestatic 93, 3) := dk_184 0 93 (by decide +kernel)
theorem dX12_length_19 : decode cX12_length 19 = .ok (.ifCond .eq 24, 3) := dk_153 0 24 (by decide +kernel)
theorem dX12_length_22 : decode cX12_length 22 = .ok (.iload_n 3, 1) := dk_29 (by decide +kernel)
theorem dX12_length_23 : decode cX12_length 23 = .ok (.iload_n 2, 1) := dk_28 (by decide +kernel)
theorem dX12_length_24 : decode cX12_length 24 = .ok (.sipush 999, 3) := dk_17 3 231 (by decide +kernel)
theorem dX12_length_27 : decode cX12_length 27 = .ok (.invokestatic 93, 3) := dk_184 0 93 (by decide +kernel)
theorem dX12_length_30 : decode cX12_length 30 = .ok (.ifCond .eq 13, 3) := dk_153 0 13 (by decide +kernel)
theorem dX12_length_33 : decode cX12_length 33 = .ok (.iload 4, 2) := dk_21 (by decide +kernel)
theorem dX12_length_35 : decode cX12_length 35 = .ok (.iconst 1, 1) := dk_4 (by decide +kernel)
theorem dX12_length_36 : decode cX12_length 36 = .ok (.iload_n 1, 1) := dk_27 (by decide +kernel)
theorem dX12_length_37 : decode cX12_length 37 = .ok (.invokestatic 93, 3) := dk_184 0 93 (by decide +kernel)
theorem dX12_length_40 : decode cX12_length 40 = .ok (.ifCond .ne 5, 3) := dk_154 0 5 (by decide +kernel)
theorem dX12_length_43 : decode cX12_length 43 = .ok (.iconst (-1), 1) := dk_2 (by decide +kernel)
theorem dX12_length_44 : decode cX12_length 44 = .ok (.ireturn, 1) := dk_172 (by decide +kernel)
theorem dX12_length_45 : decode cX12_length 45 = .ok (.iconst 0, 1) := dk_3 (by decide +kernel)
theorem dX12_length_46 : decode cX12_length 46 = .ok (.istore 6, 2) := dk_54 (by decide +kernel)
theorem dX12_length_48 : decode cX12_length 48 = .ok (.iload_n 1, 1) := dk_27 (by decide +kernel)
theorem dX12_length_49 : decode cX12_length 49 = .ok (.istore 7, 2) := dk_54 (by decide +kernel)
theorem dX12_length_51 : decode cX12_length 51 = .ok (.iload 7, 2) := dk_21 (by decide +kernel)
theorem dX12_length_53 : decode cX12_length 53 = .ok (.iload 4, 2) := dk_21 (by decide +kernel)
theorem dX12_length_55 : decode cX12_length 55 = .ok (.if_icmp .lt 28, 3) := dk_161 0 28 (by decide +kernel)
theorem dX12_length_58 : decode cX12_length 58 = .ok (.iload 6, 2) := dk_21 (by decide +kernel)
theorem dX12_length_60 : decode cX12_length 60 = .ok (.iload 7, 2) := dk_21 (by decide +kernel)
theorem dX12_length_62 : decode cX12_length 62 = .ok (.iadd, 1) := dk_96 (by decide +kernel)
theorem dX12_length_63 : decode cX12_length 63 = .ok (.istore 6, 2) := dk_54 (by decide +kernel)
theorem dX12_length_65 : decode cX12_length 65 = .ok (.iload 7, 2) := dk_21 (by decide +kernel)
theorem dX12_length_67 : decode cX12_length 67 = .ok (.iload 5, 2) := dk_21 (by decide +kernel)
theorem dX12_length_69 : decode cX12_length 69 = .ok (.ifCond .eq 7, 3) := dk_153 0 7 (by decide +kernel)
theorem dX12_length_72 : decode cX12_length 72 = .ok (.iload_n 2, 1) := dk_28 (by decide +kernel)
theorem dX12_length_73 : decode cX12_length 73 = .ok (.goto 4, 3) := dk_167 0 4 (by decide +kernel)
theorem dX12_length_76 : decode cX12_length 76 = .ok (.iload_n 3, 1) := dk_29 (by decide +kernel)
theorem dX12_length_77 : decode cX12_length 77 = .ok (.isub, 1) := dk_100 (by decide +kernel)
theorem dX12_length_78 : decode cX12_length 78 = .ok (.istore 7, 2) := dk_54 (by decide +kernel)
theorem dX12_length_80 : decode cX12_length 80 = .ok (.goto (-29), 3) := dk_167 255 227 (by decide +kernel)
theorem dX12_length_83 : decode cX12_length 83 = .ok (.iload 6, 2) := dk_21 (by decide +kernel)
theorem dX12_length_85 : decode cX12_length 85 = .ok (.ireturn, 1) := dk_172 (by decide +kernel)
set_option maxRecDepth 8000 in
theorem e_X12_length {g : ch_G} {A R : Nat} (hC : ck_Cx g A R) {d : Nat} {K : Option ck_V → ck_W → Prop} {w : ck_W} {a1 a2 a3 a4 a5 : Int} (h : (1 ≤ a1 ∧ a1 ≤ 9999 → (1 ≤ a2 ∧ a2 ≤ 999 → (a2 ≤ a3 ∧ a3 ≤ 999 → (1 ≤ a4 ∧ a4 ≤ a1 → ck_At (ch_C g A R) (d + 1) mX12_length K 51 [none, none, some (.inl a2), some (.inl a3), some (.inl a4), some (.inl a5), some (.inl 0), some (.inl a1)] [] w) ∧ (¬ (1 ≤ a4 ∧ a4 ≤ a1) → K (some (.inl (-1))) w)) ∧ (¬ (a2 ≤ a3 ∧ a3 ≤ 999) → K (some (.inl (-1))) w)) ∧ (¬ (1 ≤ a2 ∧ a2 ≤ 999) → K (some (.inl (-1))) w)) ∧ (¬ (1 ≤ a1 ∧ a1 ≤ 9999) → K (some (.inl (-1))) w)) : ck_Ex (ch_C g A R) (d + 1) mX12_length [.inr (.inr 76), .inl a1, .inl a2, .inl a3, .inl a4, .inl a5] w K :=
  ck_entry hC.1 [some (.inr (.inr 76)), some (.inl a1), some (.inl a2), some (.inl a3), some (.inl a4), some (.inl a5), none, none] (by decide) (Nat.le_of_ble_eq_true rfl) rfl (fun q => q) (ck_in (fun hl => (ck_iload_n 1 rfl 1 dX12_length_0 rfl rfl (ck_iconst 2 rfl dX12_length_1 rfl (ck_sipush 5 rfl dX12_length_2 rfl (have h12 := h; ck_callS 8 rfl [.inl a1, .inl 1, .inl 9999] [] dX12_length_5 cs_X12_93 rfl rfl (Nat.le_of_ble_eq_true rfl) (And.intro hl.2.1 (And.intro (show ck_i 1 by decide) (And.intro (show ck_i 9999 by decide) True.intro))) (p_X12_isIn hC (fun c10 _ => (ck_if_eq 11 rfl 43 dX12_length_8 rfl (by decide) (fun q => absurd q (by decide)) (fun _ => (ck_iload_n 12 rfl 2 dX12_length_11 rfl rfl (ck_iconst 13 rfl dX12_length_12 rfl (ck_sipush 16 rfl dX12_length_13 rfl (have h9 := (h12.1 c10); ck_callS 19 rfl [.inl a2, .inl 1, .inl 999] [] dX12_length_16 cs_X12_93 rfl rfl (Nat.le_of_ble_eq_true rfl) (And.intro hl.2.2.1 (And.intro (show ck_i 1 by decide) (And.intro (show ck_i 999 by decide) True.intro))) (p_X12_isIn hC (fun c7 _ => (ck_if_eq 22 rfl 43 dX12_length_19 rfl (by decide) (fun q => absurd q (by decide)) (fun _ => (ck_iload_n 23 rfl 3 dX12_length_22 rfl rfl (ck_iload_n 24 rfl 2 dX12_length_23 rfl rfl (ck_sipush 27 rfl dX12_length_24 rfl (have h6 := (h9.1 c7); ck_callS 30 rfl [.inl a3, .inl a2, .inl 999] [] dX12_length_27 cs_X12_93 rfl rfl (Nat.le_of_ble_eq_true rfl) (And.intro hl.2.2.2.1 (And.intro hl.2.2.1 (And.intro (show ck_i 999 by decide) True.intro))) (p_X12_isIn hC (fun c4 _ => (ck_if_eq 33 rfl 43 dX12_length_30 rfl (by decide) (fun q => absurd q (by decide)) (fun _ => (ck_iload 35 rfl dX12_length_33 rfl (ck_iconst 36 rfl dX12_length_35 rfl (ck_iload_n 37 rfl 1 dX12_length_36 rfl rfl (have h3 := (h6.1 c4); ck_callS 40 rfl [.inl a4, .inl 1, .inl a1] [] dX12_length_37 cs_X12_93 rfl rfl (Nat.le_of_ble_eq_true rfl) (And.intro hl.2.2.2.2.1 (And.intro (show ck_i 1 by decide) (And.intro hl.2.1 True.intro))) (p_X12_isIn hC (fun c1 _ => (ck_if_ne 43 rfl 45 dX12_length_40 rfl (by decide) (fun _ => (ck_iconst 46 rfl dX12_length_45 rfl (ck_istore 48 rfl [some (.inr (.inr 76)), some (.inl a1), some (.inl a2), some (.inl a3), some (.inl a4), some (.inl a5), some (.inl 0), none] dX12_length_46 (Nat.le_of_ble_eq_true rfl) rfl rfl (show ck_i 0 by decide) (ck_iload_n 49 rfl 1 dX12_length_48 rfl rfl (ck_istore 51 rfl [some (.inr (.inr 76)), some (.inl a1), some (.inl a2), some (.inl a3), some (.inl a4), some (.inl a5), some (.inl 0), some (.inl a1)] dX12_length_49 (Nat.le_of_ble_eq_true rfl) rfl rfl hl.2.1 (ck_drop [none, none, some (.inl a2), some (.inl a3), some (.inl a4), some (.inl a5), some (.inl 0), some (.inl a1)] (And.intro rfl (And.intro rfl (And.intro rfl (And.intro rfl (And.intro rfl (And.intro rfl True.intro)))))) (h3.1 c1))))))) (fun q => absurd q (by decide)))) (fun c2 _ => (ck_if_ne 43 rfl 45 dX12_length_40 rfl (by decide) (fun q => absurd q (by decide)) (fun _ => (ck_iconst 44 rfl dX12_length_43 rfl (ck_iret dX12_length_44 rfl (show ck_i (-1) by decide) (h3.2 c2)))))))))))))) (fun c5 _ => (ck_if_eq 33 rfl 43 dX12_length_30 rfl (by decide) (fun _ => (ck_iconst 44 rfl dX12_length_43 rfl (ck_iret dX12_length_44 rfl (show ck_i (-1) by decide) (h6.2 c5)))) (fun q => absurd q (by decide)))))))))))) (fun c8 _ => (ck_if_eq 22 rfl 43 dX12_length_19 rfl (by decide) (fun _ => (ck_iconst 44 rfl dX12_length_43 rfl (ck_iret dX12_length_44 rfl (show ck_i (-1) by decide) (h9.2 c8)))) (fun q => absurd q (by decide)))))))))))) (fun c11 _ => (ck_if_eq 11 rfl 43 dX12_length_8 rfl (by decide) (fun _ => (ck_iconst 44 rfl dX12_length_43 rfl (ck_iret dX12_length_44 rfl (show ck_i (-1) by decide) (h12.2 c11)))) (fun q => absurd q (by decide)))))))))))
set_option maxRecDepth 8000 in
theorem r_X12_length_51 {g : ch_G} {A R : Nat} (hC : ck_Cx g A R) {d : Nat} {K : Option ck_V → ck_W → Prop} {w : ck_W} {a2 a3 a4 a5 a6 a7 : Int} (h : (a7 < a4 → K (some (.inl a6)) w) ∧ (¬ a7 < a4 → ck_i (a6 + a7) ∧ ((a5 = 0 → ck_i (a7 - a3) ∧ (ck_At (ch_C g A R) (d + 1) mX12_length K 51 [none, none, some (.inl a2), some (.inl a3), some (.inl a4), some (.inl a5), some (.inl (a6 + a7)), some (.inl (a7 - a3))] [] w)) ∧ (¬ a5 = 0 → ck_i (a7 - a2) ∧ (ck_At (ch_C g A R) (d + 1) mX12_length K 51 [none, none, some (.inl a2), some (.inl a3), some (.inl a4), some (.inl a5), some (.inl (a6 + a7)), some (.inl (a7 - a2))] [] w))))) : ck_At (ch_C g A R) (d + 1) mX12_length K 51 [none, none, some (.inl a2), some (.inl a3), some (.inl a4), some (.inl a5), some (.inl a6), some (.inl a7)] [] w :=
  ck_in (fun hl => (ck_iload 53 rfl dX12_length_51 rfl (ck_iload 55 rfl dX12_length_53 rfl (ck_icmp_lt 58 rfl 83 dX12_length_55 rfl hl.2.2.2.2.2.1 hl.2.2.1 (fun c6 => (ck_iload 85 rfl dX12_length_83 rfl (ck_iret dX12_length_85 rfl hl.2.2.2.2.1 (h.1 c6)))) (fun c7 => (ck_iload 60 rfl dX12_length_58 rfl (ck_iload 62 rfl dX12_length_60 rfl (ck_iadd 63 rfl dX12_length_62 (have h9 := (h.2 c7); have o1 := h9.1; have h8 := h9.2; (ck_istore 65 rfl [none, none, some (.inl a2), some (.inl a3), some (.inl a4), some (.inl a5), some (.inl (a6 + a7)), some (.inl a7)] dX12_length_63 (Nat.le_of_ble_eq_true rfl) rfl rfl o1 (ck_iload 67 rfl dX12_length_65 rfl (ck_iload 69 rfl dX12_length_67 rfl (ck_if_eq 72 rfl 76 dX12_length_69 rfl hl.2.2.2.1 (fun c4 => (ck_iload_n 77 rfl 3 dX12_length_76 rfl rfl (ck_isub 78 rfl dX12_length_77 (have h11 := (h8.1 c4); have o2 := h11.1; have h10 := h11.2; (ck_istore 80 rfl [none, none, some (.inl a2), some (.inl a3), some (.inl a4), some (.inl a5), some (.inl (a6 + a7)), some (.inl (a7 - a3))] dX12_length_78 (Nat.le_of_ble_eq_true rfl) rfl rfl o2 (ck_goto 51 dX12_length_80 rfl h10)))))) (fun c5 => (ck_iload_n 73 rfl 2 dX12_length_72 rfl rfl (ck_goto 77 dX12_length_73 rfl (ck_isub 78 rfl dX12_length_77 (have h13 := (h8.2 c5); have o3 := h13.1; have h12 := h13.2; (ck_istore 80 rfl [none, none, some (.inl a2), some (.inl a3), some (.inl a4), some (.inl a5), some (.inl (a6 + a7)), some (.inl (a7 - a2))] dX12_length_78 (Nat.le_of_ble_eq_true rfl) rfl rfl o3 (ck_goto 51 dX12_length_80 rfl h12))))))))))))))))))))
theorem L_X12_length {g : ch_G} {A R : Nat} (hC : ck_Cx g A R) {d : Nat} {K : Option ck_V → ck_W → Prop} {w : ck_W} {a2 a3 a4 a5 a6 a7 : Int} (n : Nat) (hn : a7 ≤ n) (o : Int) (h0 : 0 ≤ a6 ∧ a6 + 9999 * a7 ≤ 9999 * o) (ho : o ≤ 9999) (h7 : a7 ≤ 9999 ∧ -1000 ≤ a7) (h4 : 1 ≤ a4) (h2 : 1 ≤ a2 ∧ a2 ≤ 999) (h3 : 1 ≤ a3 ∧ a3 ≤ 999) (h : K (some (.inl (ck_len n a7 a4 (if a5 = 0 then a3 else a2) a6))) w) : ck_At (ch_C g A R) (d + 1) mX12_length K 51 [none, none, some (.inl a2), some (.inl a3), some (.inl a4), some (.inl a5), some (.inl a6), some (.inl a7)] [] w := by
  induction n generalizing a6 a7 with
  | zero => exact r_X12_length_51 hC ⟨fun q => h, fun q => absurd (by omega) q⟩
  | succ n ih =>
    rw [ck_len] at h
    refine r_X12_length_51 hC ⟨fun q => by rw [if_pos q] at h; exact h, fun q => ?_⟩
    rw [if_neg q] at h
    refine ⟨by constructor <;> omega, fun z => ⟨by constructor <;> omega, ih (by omega) (by omega) (by omega) ?_⟩, fun z => ⟨by constructor <;> omega, ih (by omega) (by omega) (by omega) ?_⟩⟩
    · rw [if_pos z] at h ⊢; exact h
    · rw [if_neg z] at h ⊢; exact h
theorem M_length {g : ch_G} {A R : Nat} (hC : ck_Cx g A R) {d : Nat} {K : Option ck_V → ck_W → Prop} {w : ck_W} {a1 a2 a3 a4 a5 : Int} (h1 : (1 ≤ a1 ∧ a1 ≤ 9999) ∧ (1 ≤ a2 ∧ a2 ≤ 999) ∧ (a2 ≤ a3 ∧ a3 ≤ 999) ∧ (1 ≤ a4 ∧ a4 ≤ a1) → K (some (.inl (ck_len 9999 a1 a4 (if a5 = 0 then a3 else a2) 0))) w) (h0 : ¬ ((1 ≤ a1 ∧ a1 ≤ 9999) ∧ (1 ≤ a2 ∧ a2 ≤ 999) ∧ (a2 ≤ a3 ∧ a3 ≤ 999) ∧ (1 ≤ a4 ∧ a4 ≤ a1)) → K (some (.inl (-1))) w) : ck_Ex (ch_C g A R) (d + 1) mX12_length [.inr (.inr 76), .inl a1, .inl a2, .inl a3, .inl a4, .inl a5] w K := by
  refine e_X12_length hC ⟨fun q1 => ⟨fun q2 => ⟨fun q3 => ⟨fun q4 => ?_, fun q4 => h0 (by omega)⟩, fun q3 => h0 (by omega)⟩, fun q2 => h0 (by omega)⟩, fun q1 => h0 (by omega)⟩
  exact L_X12_length hC 9999 (by omega) a1 (by omega) (by omega) (by omega) (by omega) (by omega) (by omega) (h1 ⟨q1, q2, q3, q4⟩)
/-! ===== the tape ===== -/
theorem dX12_four_0 : decode cX12_four 0 = .ok (.bipush 24, 2) := dk_16 24 (by decide +kernel)
theorem dX12_four_2 : decode cX12_four 2 = .ok (.istore_n 2, 1) := dk_61 (by decide +kernel)
theorem dX12_four_3 : decode cX12_four 3 = .ok (.iload_n 2, 1) := dk_28 (by decide +kernel)
theorem dX12_four_4 : decode cX12_four 4 = .ok (.ifCond .lt 35, 3) := dk_155 0 35 (by decide +kernel)
theorem dX12_four_7 : decode cX12_four 7 = .ok (.aload_n 0, 1) := dk_42 (by decide +kernel)
theorem dX12_four_8 : decode cX12_four 8 = .ok (.getfield 48, 3) := dk_180 0 48 (by decide +kernel)
theorem dX12_four_11 : decode cX12_four 11 = .ok (.aload_n 0, 1) := dk_42 (by decide +kernel)
theorem dX12_four_12 : decode cX12_four 12 = .ok (.getfield 177, 3) := dk_180 0 177 (by decide +kernel)
theorem dX12_four_15 : decode cX12_four 15 = .ok (.iload_n 1, 1) := dk_27 (by decide +kernel)
theorem dX12_four_16 : decode cX12_four 16 = .ok (.iload_n 2, 1) := dk_28 (by decide +kernel)
theorem dX12_four_17 : decode cX12_four 17 = .ok (.ishr, 1) := dk_122 (by decide +kernel)
theorem dX12_four_18 : decode cX12_four 18 = .ok (.sipush 255, 3) := dk_17 0 255 (by decide +kernel)
theorem dX12_four_21 : decode cX12_four 21 = .ok (.iand, 1) := dk_126 (by decide +kernel)
theorem dX12_four_22 : decode cX12_four 22 = .ok (.iastore, 1) := dk_79 (by decide +kernel)
theorem dX12_four_23 : decode cX12_four 23 = .ok (.aload_n 0, 1) := dk_42 (by decide +kernel)
theorem dX12_four_24 : decode cX12_four 24 = .ok (.dup, 1) := dk_89 (by decide +kernel)
theorem dX12_four_25 : decode cX12_four 25 = .ok (.getfield 177, 3) := dk_180 0 177 (by decide +kernel)
theorem dX12_four_28 : decode cX12_four 28 = .ok (.iconst 1, 1) := dk_4 (by decide +kernel)
theorem dX12_four_29 : decode cX12_four 29 = .ok (.iadd, 1) := dk_96 (by decide +kernel)
theorem dX12_four_30 : decode cX12_four 30 = .ok (.putfield 177, 3) := dk_181 0 177 (by decide +kernel)
theorem dX12_four_33 : decode cX12_four 33 = .ok (.iinc 2 (-8), 3) := dk_132 248 (by decide +kernel)
theorem dX12_four_36 : decode cX12_four 36 = .ok (.goto (-33), 3) := dk_167 255 223 (by decide +kernel)
theorem dX12_four_39 : decode cX12_four 39 = .ok (.return_, 1) := dk_177 (by decide +kernel)
set_option maxRecDepth 8000 in
theorem e_X12_four {g : ch_G} {A R : Nat} (hC : ck_Cx g A R) {d : Nat} {K : Option ck_V → ck_W → Prop} {w : ck_W} {a1 : Int} (h : ck_At (ch_C g A R) d mX12_four K 3 [some (.inr (.inr 76)), some (.inl a1), some (.inl 24)] [] w) : ck_Ex (ch_C g A R) d mX12_four [.inr (.inr 76), .inl a1] w K :=
  ck_entry hC.1 [some (.inr (.inr 76)), some (.inl a1), none] (by decide) (Nat.le_of_ble_eq_true rfl) rfl (fun q => q) (ck_in (fun hl => (ck_bipush 2 rfl dX12_four_0 rfl (ck_istore_n 3 rfl 2 [some (.inr (.inr 76)), some (.inl a1), some (.inl 24)] dX12_four_2 rfl (Nat.le_of_ble_eq_true rfl) rfl rfl (show ck_i 24 by decide) h))))
set_option maxRecDepth 8000 in
theorem r_X12_four_3 {g : ch_G} {A R : Nat} (hC : ck_Cx g A R) {d : Nat} {K : Option ck_V → ck_W → Prop} {w : ck_W} {a1 a2 : Int} (h : (a2 < 0 → K none w) ∧ (¬ a2 < 0 → (0 ≤ (w 76 16) ∧ (w 76 16) < 300) ∧ (ck_i ((w 76 16) + 1) ∧ (ck_i (a2 + (-8)) ∧ (ck_At (ch_C g A R) d mX12_four K 3 [some (.inr (.inr 76)), some (.inl a1), some (.inl (a2 + (-8)))] [] (ck_up (ck_up w 89 (w 76 16) (ck_and (ck_shr a1 a2) 255)) 76 16 ((w 76 16) + 1))))))) : ck_At (ch_C g A R) d mX12_four K 3 [some (.inr (.inr 76)), some (.inl a1), some (.inl a2)] [] w :=
  ck_in (fun hl => (ck_iload_n 4 rfl 2 dX12_four_3 rfl rfl (ck_if_lt 7 rfl 39 dX12_four_4 rfl hl.2.2.1 (fun c6 => (ck_vret dX12_four_39 rfl (h.1 c6))) (fun c7 => (ck_aload_n 8 rfl 0 dX12_four_7 rfl rfl (ck_getr 11 rfl dX12_four_8 fl_X12_48 sh_76 rfl (ck_aload_n 12 rfl 0 dX12_four_11 rfl rfl (ck_geti 15 rfl 16 dX12_four_12 fl_X12_177 sh_76 rfl rfl _ rfl (fun (q1 : ck_i (w 76 16)) => (ck_iload_n 16 rfl 1 dX12_four_15 rfl rfl (ck_iload_n 17 rfl 2 dX12_four_16 rfl rfl (ck_ishr 18 rfl dX12_four_17 (ck_sipush 21 rfl dX12_four_18 rfl (ck_iand 22 rfl dX12_four_21 (have h9 := (h.2 c7); have o2 := h9.1; have h8 := h9.2; (ck_iast 23 rfl dX12_four_22 sh_89 (shn_89 hC) o2 (ck_rng _) (ck_aload_n 24 rfl 0 dX12_four_23 rfl rfl (ck_dup 25 rfl dX12_four_24 rfl (ck_geti 28 rfl 16 dX12_four_25 fl_X12_177 sh_76 rfl rfl _ rfl (fun (q3 : ck_i (w 76 16)) => (ck_iconst 29 rfl dX12_four_28 rfl (ck_iadd 30 rfl dX12_four_29 (have h11 := h8; have o4 := h11.1; have h10 := h11.2; (ck_puti 33 rfl 16 dX12_four_30 fp_X12_177 sh_76 rfl rfl o4 (have h13 := h10; have o5 := h13.1; have h12 := h13.2; (ck_iinc 36 rfl [some (.inr (.inr 76)), some (.inl a1), some (.inl (a2 + (-8)))] dX12_four_33 rfl (Nat.le_of_ble_eq_true rfl) rfl rfl o5 (ck_goto 3 dX12_four_36 rfl h12)))))))))))))))))))))))))))
theorem L_X12_four {g : ch_G} {A R : Nat} (hC : ck_Cx g A R) {d : Nat} {K : Option ck_V → ck_W → Prop} {w : ck_W} {a1 a2 : Int} (n : Nat) (hn : a2 + 8 = 8 * n) (h2 : a2 ≤ 24) (hI : rm_I A R w) (ht : w 76 16 + n ≤ 300) (h : ∀ w', rm_I A R w' → (∀ k, k ≠ 76 → k ≠ 89 → w' k = w k) → (w' 76 16 = w 76 16 + n) → K none w') : ck_At (ch_C g A R) d mX12_four K 3 [some (.inr (.inr 76)), some (.inl a1), some (.inl a2)] [] w := by
  induction n generalizing w a2 with
  | zero => exact r_X12_four_3 hC ⟨fun q => h w hI (fun _ _ _ => rfl) (by omega), fun q => absurd (by omega) q⟩
  | succ n ih =>
    have t0 := hI.2.2.2.2.2.2.1
    refine r_X12_four_3 hC ⟨fun q => absurd q (by omega), fun q => ⟨by omega, by constructor <;> omega, by constructor <;> omega, ih (by omega) (by omega) (rm_Itaped ?_ (by omega) (by omega)) ?_ (fun w' i1 i2 i3 => h w' i1 (fun k k1 k2 => by rw [i2 k k1 k2, ck_up_ne k1, ck_up_ne k2]) ?_)⟩⟩
    · exact hI
    · rw [ck_up_eq]; omega
    · rw [i3, ck_up_eq]; omega
theorem S_X12_four {g : ch_G} {A R : Nat} (hC : ck_Cx g A R) {d : Nat} {K : Option ck_V → ck_W → Prop} {w : ck_W} {a1 : Int} (hI : rm_I A R w) (ht : w 76 16 + 4 ≤ 300) (h : ∀ w', rm_I A R w' → (∀ k, k ≠ 76 → k ≠ 89 → w' k = w k) → (w' 76 16 = w 76 16 + 4) → K none w') : ck_Ex (ch_C g A R) d mX12_four [.inr (.inr 76), .inl a1] w K :=
  e_X12_four hC (L_X12_four hC 4 (by omega) (by omega) hI (by omega) (fun w' a b c => h w' a b (by omega)))
theorem dX12_feed_0 : decode cX12_feed 0 = .ok (.aload_n 0, 1) := dk_42 (by decide +kernel)
theorem dX12_feed_1 : decode cX12_feed 1 = .ok (.getfield 177, 3) := dk_180 0 177 (by decide +kernel)
theorem dX12_feed_4 : decode cX12_feed 4 = .ok (.bipush 20, 2) := dk_16 20 (by decide +kernel)
theorem dX12_feed_6 : decode cX12_feed 6 = .ok (.iadd, 1) := dk_96 (by decide +kernel)
theorem dX12_feed_7 : decode cX12_feed 7 = .ok (.sipush 300, 3) := dk_17 1 44 (by decide +kernel)
theorem dX12_feed_10 : decode cX12_feed 10 = .ok (.if_icmp .le 5, 3) := dk_164 0 5 (by decide +kernel)
theorem dX12_feed_13 : decode cX12_feed 13 = .ok (.iconst (-1), 1) := dk_2 (by decide +kernel)
theorem dX12_feed_14 : decode cX12_feed 14 = .ok (.ireturn, 1) := dk_172 (by decide +kernel)
theorem dX12_feed_15 : decode cX12_feed 15 = .ok (.aload_n 0, 1) := dk_42 (by decide +kernel)
theorem dX12_feed_16 : decode cX12_feed 16 = .ok (.iload_n 1, 1) := dk_27 (by decide +kernel)
theorem dX12_feed_17 : decode cX12_feed 17 = .ok (.invokevirtual 180, 3) := dk_182 0 180 (by decide +kernel)
theorem dX12_feed_20 : decode cX12_feed 20 = .ok (.aload_n 0, 1) := dk_42 (by decide +kernel)
theorem dX12_feed_21 : decode cX12_feed 21 = .ok (.iload_n 2, 1) := dk_28 (by decide +kernel)
theorem dX12_feed_22 : decode cX12_feed 22 = .ok (.invokevirtual 180, 3) := dk_182 0 180 (by decide +kernel)
theorem dX12_feed_25 : decode cX12_feed 25 = .ok (.aload_n 0, 1) := dk_42 (by decide +kernel)
theorem dX12_feed_26 : decode cX12_feed 26 = .ok (.iload_n 3, 1) := dk_29 (by decide +kernel)
theorem dX12_feed_27 : decode cX12_feed 27 = .ok (.invokevirtual 180, 3) := dk_182 0 180 (by decide +kernel)
theorem dX12_feed_30 : decode cX12_feed 30 = .ok (.aload_n 0, 1) := dk_42 (by decide +kernel)
theorem dX12_feed_31 : decode cX12_feed 31 = .ok (.iload 4, 2) := dk_21 (by decide +kernel)
theorem dX12_feed_33 : decode cX12_feed 33 = .ok (.invokevirtual 180, 3) := dk_182 0 180 (by decide +kernel)
theorem dX12_feed_36 : decode cX12_feed 36 = .ok (.aload_n 0, 1) := dk_42 (by decide +kernel)
theorem dX12_feed_37 : decode cX12_feed 37 = .ok (.iload 5, 2) := dk_21 (by decide +kernel)
theorem dX12_feed_39 : decode cX12_feed 39 = .ok (.invokevirtual 180, 3) := dk_182 0 180 (by decide +kernel)
theorem dX12_feed_42 : decode cX12_feed 42 = .ok (.aload_n 0, 1) := dk_42 (by decide +kernel)
theorem dX12_feed_43 : decode cX12_feed 43 = .ok (.getfield 177, 3) := dk_180 0 177 (by decide +kernel)
theorem dX12_feed_46 : decode cX12_feed 46 = .ok (.ireturn, 1) := dk_172 (by decide +kernel)
set_option maxRecDepth 8000 in
theorem e_X12_feed {g : ch_G} {A R : Nat} (hC : ck_Cx g A R) {d : Nat} {K : Option ck_V → ck_W → Prop} {w : ck_W} {a1 a2 a3 a4 a5 : Int} (h : ck_i ((w 76 16) + 20) ∧ ((((w 76 16) + 20) ≤ 300 → ck_CN (ch_C g A R) d mX12_four [.inr (.inr 76), .inl a1] w (fun w3 => ck_CN (ch_C g A R) d mX12_four [.inr (.inr 76), .inl a2] w3 (fun w4 => ck_CN (ch_C g A R) d mX12_four [.inr (.inr 76), .inl a3] w4 (fun w5 => ck_CN (ch_C g A R) d mX12_four [.inr (.inr 76), .inl a4] w5 (fun w6 => ck_CN (ch_C g A R) d mX12_four [.inr (.inr 76), .inl a5] w6 (fun w7 => K (some (.inl (w7 76 16))) w7)))))) ∧ (¬ ((w 76 16) + 20) ≤ 300 → K (some (.inl (-1))) w))) : ck_Ex (ch_C g A R) (d + 1) mX12_feed [.inr (.inr 76), .inl a1, .inl a2, .inl a3, .inl a4, .inl a5] w K :=
  ck_entry hC.1 [some (.inr (.inr 76)), some (.inl a1), some (.inl a2), some (.inl a3), some (.inl a4), some (.inl a5)] (by decide) (Nat.le_of_ble_eq_true rfl) rfl (fun q => q) (ck_in (fun hl => (ck_aload_n 1 rfl 0 dX12_feed_0 rfl rfl (ck_geti 4 rfl 16 dX12_feed_1 fl_X12_177 sh_76 rfl rfl _ rfl (fun (q1 : ck_i (w 76 16)) => (ck_bipush 6 rfl dX12_feed_4 rfl (ck_iadd 7 rfl dX12_feed_6 (ck_sipush 10 rfl dX12_feed_7 rfl (have h17 := h; have o2 := h17.1; have h16 := h17.2; (ck_icmp_le 13 rfl 15 dX12_feed_10 rfl o2 (show ck_i 300 by decide) (fun c14 => (ck_aload_n 16 rfl 0 dX12_feed_15 rfl rfl (ck_iload_n 17 rfl 1 dX12_feed_16 rfl rfl (ck_callV 20 rfl [.inl a1] [] dX12_feed_17 cv_X12_180 sh_76 rfl rfl (Nat.le_of_ble_eq_true rfl) (And.intro hl.2.1 True.intro) (ck_mN (h16.1 c14) (fun w3 h13 => (ck_aload_n 21 rfl 0 dX12_feed_20 rfl rfl (ck_iload_n 22 rfl 2 dX12_feed_21 rfl rfl (ck_callV 25 rfl [.inl a2] [] dX12_feed_22 cv_X12_180 sh_76 rfl rfl (Nat.le_of_ble_eq_true rfl) (And.intro hl.2.2.1 True.intro) (ck_mN h13 (fun w4 h12 => (ck_aload_n 26 rfl 0 dX12_feed_25 rfl rfl (ck_iload_n 27 rfl 3 dX12_feed_26 rfl rfl (ck_callV 30 rfl [.inl a3] [] dX12_feed_27 cv_X12_180 sh_76 rfl rfl (Nat.le_of_ble_eq_true rfl) (And.intro hl.2.2.2.1 True.intro) (ck_mN h12 (fun w5 h11 => (ck_aload_n 31 rfl 0 dX12_feed_30 rfl rfl (ck_iload 33 rfl dX12_feed_31 rfl (ck_callV 36 rfl [.inl a4] [] dX12_feed_33 cv_X12_180 sh_76 rfl rfl (Nat.le_of_ble_eq_true rfl) (And.intro hl.2.2.2.2.1 True.intro) (ck_mN h11 (fun w6 h10 => (ck_aload_n 37 rfl 0 dX12_feed_36 rfl rfl (ck_iload 39 rfl dX12_feed_37 rfl (ck_callV 42 rfl [.inl a5] [] dX12_feed_39 cv_X12_180 sh_76 rfl rfl (Nat.le_of_ble_eq_true rfl) (And.intro hl.2.2.2.2.2.1 True.intro) (ck_mN h10 (fun w7 h9 => (ck_aload_n 43 rfl 0 dX12_feed_42 rfl rfl (ck_geti 46 rfl 16 dX12_feed_43 fl_X12_177 sh_76 rfl rfl _ rfl (fun (q8 : ck_i (w7 76 16)) => (ck_iret dX12_feed_46 rfl q8 h9)))))))))))))))))))))))))))))) (fun c15 => (ck_iconst 14 rfl dX12_feed_13 rfl (ck_iret dX12_feed_14 rfl (show ck_i (-1) by decide) (h16.2 c15))))))))))))))
theorem M_feed {g : ch_G} {A R : Nat} (hC : ck_Cx g A R) {d : Nat} {K : Option ck_V → ck_W → Prop} {w : ck_W} {a1 a2 a3 a4 a5 : Int} (hI : rm_I A R w) (h : ∀ v w', rm_I A R w' → (∀ k, k < 76 → w' k = w k) → (w 76 16 ≤ 280 → v = w 76 16 + 20 ∧ w' 76 16 = w 76 16 + 20) → (¬ w 76 16 ≤ 280 → v = -1 ∧ w' 76 16 = w 76 16) → w' 77 = w 77 → w' 78 = w 78 → K (some (.inl v)) w') : ck_Ex (ch_C g A R) (d + 1) mX12_feed [.inr (.inr 76), .inl a1, .inl a2, .inl a3, .inl a4, .inl a5] w K := by
  have t0 := hI.2.2.2.2.2.2.1
  have t1 := hI.2.2.2.2.2.2.2.1
  refine e_X12_feed hC ⟨by constructor <;> omega, fun q => ?_, fun q => h (-1) w hI (fun _ _ => rfl) (fun q' => absurd q' (by omega)) (fun _ => ⟨rfl, rfl⟩) rfl rfl⟩
  refine S_X12_four hC hI (by omega) (fun w1 i1 k1 t1 => ⟨rfl, ?_⟩)
  refine S_X12_four hC i1 (by omega) (fun w2 i2 k2 t2 => ⟨rfl, ?_⟩)
  refine S_X12_four hC i2 (by omega) (fun w3 i3 k3 t3 => ⟨rfl, ?_⟩)
  refine S_X12_four hC i3 (by omega) (fun w4 i4 k4 t4 => ⟨rfl, ?_⟩)
  refine S_X12_four hC i4 (by omega) (fun w5 i5 k5 t5 => ⟨rfl, ?_⟩)
  have kk : ∀ k, k ≠ 76 → k ≠ 89 → w5 k = w k := fun k a b => by rw [k5 k a b, k4 k a b, k3 k a b, k2 k a b, k1 k a b]
  exact h _ w5 i5 (fun k hk => kk k (by omega) (by omega)) (fun _ => ⟨by omega, by omega⟩) (fun q' => absurd (by omega) q') (kk 77 (by decide) (by decide)) (kk 78 (by decide) (by decide))
