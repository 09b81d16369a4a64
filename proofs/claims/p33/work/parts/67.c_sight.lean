/-! ===== the class: a reader's code is run at a place ===== -/
abbrev cv_S : Type := Int × (Int → Int)
def cv_ps (s : cv_S) (v : Int) : cv_S := if 0 ≤ s.1 ∧ s.1 ≤ 63 then (s.1 + 1, rm_u s.2 s.1 v) else s
def cv_pp (s : cv_S) : Int × cv_S := if 1 ≤ s.1 ∧ s.1 ≤ 64 then (s.2 (s.1 - 1), (s.1 - 1, s.2)) else (0, s)
/-- the pile is s, all else as in w0 -/
def cv_at (w0 w : ck_W) (s : cv_S) : Prop := (∀ k, k ≠ 70 → k ≠ 71 → w k = w0 k) ∧ w 70 4 = s.1 ∧ w 71 = s.2
def cv_b (B : Int) (s : cv_S) : Prop := (0 ≤ s.1 ∧ s.1 ≤ 64) ∧ ∀ i, 0 ≤ i → i < s.1 → -B ≤ s.2 i ∧ s.2 i ≤ B
theorem cv_bm {B C : Int} {s : cv_S} (h : cv_b B s) (hc : B ≤ C) : cv_b C s := ⟨h.1, fun i a b => by have := h.2 i a b; omega⟩
theorem cv_ps_b {B v : Int} {s : cv_S} (h : cv_b B s) (hv : -B ≤ v ∧ v ≤ B) : cv_b B (cv_ps s v) := by
  have h1 := h.1
  unfold cv_ps
  split
  · refine ⟨by dsimp only; omega, fun i a b => ?_⟩
    dsimp only at b ⊢
    unfold rm_u
    split
    · exact hv
    · exact h.2 i a (by omega)
  · exact h
theorem cv_pp_b {B : Int} {s : cv_S} (hB : 0 ≤ B) (h : cv_b B s) : cv_b B (cv_pp s).2 ∧ -B ≤ (cv_pp s).1 ∧ (cv_pp s).1 ≤ B := by
  have h1 := h.1
  unfold cv_pp
  split
  · refine ⟨⟨by dsimp only; omega, fun i a b => ?_⟩, h.2 _ (by omega) (by omega)⟩
    dsimp only at b ⊢
    exact h.2 i a (by omega)
  · exact ⟨h, by dsimp only; omega⟩
theorem dX7_push_0 : decode cX7_push 0 = .ok (.aload_n 0, 1) := dk_42 (by decide +kernel)
theorem dX7_push_1 : decode cX7_push 1 = .ok (.getfield 44, 3) := dk_180 0 44 (by decide +kernel)
theorem dX7_push_4 : decode cX7_push 4 = .ok (.iconst 0, 1) := dk_3 (by decide +kernel)
theorem dX7_push_5 : decode cX7_push 5 = .ok (.bipush 63, 2) := dk_16 63 (by decide +kernel)
theorem dX7_push_7 : decode cX7_push 7 = .ok (.invokestatic 91, 3) := dk_184 0 91 (by decide +kernel)
theorem dX7_push_10 : decode cX7_push 10 = .ok (.ifCond .eq 23, 3) := dk_153 0 23 (by decide +kernel)
theorem dX7_push_13 : decode cX7_push 13 = .ok (.aload_n 0, 1) := dk_42 (by decide +kernel)
theorem dX7_push_14 : decode cX7_push 14 = .ok (.getfield 11, 3) := dk_180 0 11 (by decide +kernel)
theorem dX7_push_17 : decode cX7_push 17 = .ok (.aload_n 0, 1) := dk_42 (by decide +kernel)
theorem dX7_push_18 : decode cX7_push 18 = .ok (.getfield 44, 3) := dk_180 0 44 (by decide +kernel)
theorem dX7_push_21 : decode cX7_push 21 = .ok (.iload_n 1, 1) := dk_27 (by decide +kernel)
theorem dX7_push_22 : decode cX7_push 22 = .ok (.iastore, 1) := dk_79 (by decide +kernel)
theorem dX7_push_23 : decode cX7_push 23 = .ok (.aload_n 0, 1) := dk_42 (by decide +kernel)
theorem dX7_push_24 : decode cX7_push 24 = .ok (.dup, 1) := dk_89 (by decide +kernel)
theorem dX7_push_25 : decode cX7_push 25 = .ok (.getfield 44, 3) := dk_180 0 44 (by decide +kernel)
theorem dX7_push_28 : decode cX7_push 28 = .ok (.iconst 1, 1) := dk_4 (by decide +kernel)
theorem dX7_push_29 : decode cX7_push 29 = .ok (.iadd, 1) := dk_96 (by decide +kernel)
theorem dX7_push_30 : decode cX7_push 30 = .ok (.putfield 44, 3) := dk_181 0 44 (by decide +kernel)
theorem dX7_push_33 : decode cX7_push 33 = .ok (.return_, 1) := dk_177 (by decide +kernel)
set_option maxRecDepth 8000 in
theorem e_X7_push {g : ch_G} {A R : Nat} (hC : ck_Cx g A R) {d : Nat} {K : Option ck_V → ck_W → Prop} {w : ck_W} {a1 : Int} (h : (0 ≤ (w 70 4) ∧ (w 70 4) ≤ 63 → (0 ≤ (w 70 4) ∧ (w 70 4) < 64) ∧ (ck_i ((w 70 4) + 1) ∧ (K none (ck_up (ck_up w 71 (w 70 4) a1) 70 4 ((w 70 4) + 1))))) ∧ (¬ (0 ≤ (w 70 4) ∧ (w 70 4) ≤ 63) → K none w)) : ck_Ex (ch_C g A R) (d + 1) mX7_push [.inr (.inr 70), .inl a1] w K :=
  ck_entry hC.1 [some (.inr (.inr 70)), some (.inl a1)] (by decide) (Nat.le_of_ble_eq_true rfl) rfl (fun q => q) (ck_in (fun hl => (ck_aload_n 1 rfl 0 dX7_push_0 rfl rfl (ck_geti 4 rfl 4 dX7_push_1 fl_X7_44 sh_70 rfl rfl _ rfl (fun (q1 : ck_i (w 70 4)) => (ck_iconst 5 rfl dX7_push_4 rfl (ck_bipush 7 rfl dX7_push_5 rfl (have h8 := h; ck_callSN 10 rfl [.inl (w 70 4), .inl 0, .inl 63] [] dX7_push_7 cn_X7_91 rfl rfl (Nat.le_of_ble_eq_true rfl) (And.intro q1 (And.intro (show ck_i 0 by decide) (And.intro (show ck_i 63 by decide) True.intro))) (p_X11_within hC (fun c6 _ => (ck_if_eq 13 rfl 33 dX7_push_10 rfl (by decide) (fun q => absurd q (by decide)) (fun _ => (ck_aload_n 14 rfl 0 dX7_push_13 rfl rfl (ck_getr 17 rfl dX7_push_14 fl_X7_11 sh_70 rfl (ck_aload_n 18 rfl 0 dX7_push_17 rfl rfl (ck_geti 21 rfl 4 dX7_push_18 fl_X7_44 sh_70 rfl rfl _ rfl (fun (q2 : ck_i (w 70 4)) => (ck_iload_n 22 rfl 1 dX7_push_21 rfl rfl (have h10 := (h8.1 c6); have o3 := h10.1; have h9 := h10.2; (ck_iast 23 rfl dX7_push_22 sh_71 (shn_71 hC) o3 hl.2.1 (ck_aload_n 24 rfl 0 dX7_push_23 rfl rfl (ck_dup 25 rfl dX7_push_24 rfl (ck_geti 28 rfl 4 dX7_push_25 fl_X7_44 sh_70 rfl rfl _ rfl (fun (q4 : ck_i (w 70 4)) => (ck_iconst 29 rfl dX7_push_28 rfl (ck_iadd 30 rfl dX7_push_29 (have h12 := h9; have o5 := h12.1; have h11 := h12.2; (ck_puti 33 rfl 4 dX7_push_30 fp_X7_44 sh_70 rfl rfl o5 (ck_vret dX7_push_33 rfl h11)))))))))))))))))))) (fun c7 _ => (ck_if_eq 13 rfl 33 dX7_push_10 rfl (by decide) (fun _ => (ck_vret dX7_push_33 rfl (h8.2 c7))) (fun q => absurd q (by decide)))))))))))))
theorem p_X7_push {g : ch_G} {A R : Nat} (hC : ck_Cx g A R) {d : Nat} {K : Option ck_V → ck_W → Prop} {w : ck_W} {a1 : Int} {w0 : ck_W} {s : cv_S} (hs : cv_at w0 w s) (h : ∀ w', cv_at w0 w' (cv_ps s a1) → K none w') : ck_Ex (ch_C g A R) (d + 1) mX7_push [.inr (.inr 70), .inl a1] w K := by
  obtain ⟨g1, g2, g3⟩ := hs
  unfold cv_ps at h
  rw [← g2] at h
  refine e_X7_push hC ⟨fun q => ⟨by omega, by constructor <;> omega, h _ ?_⟩, fun q => h _ ?_⟩
  · rw [if_pos q]
    refine ⟨fun k a b => by rw [ck_up_ne a, ck_up_ne b]; exact g1 k a b, by rw [ck_up_eq], ?_⟩
    rw [ck_up_ne (by decide), ck_up_row, g3]
  · rw [if_neg q]
    exact ⟨g1, g2, g3⟩
theorem dX7_pop_0 : decode cX7_pop 0 = .ok (.aload_n 0, 1) := dk_42 (by decide +kernel)
theorem dX7_pop_1 : decode cX7_pop 1 = .ok (.getfield 44, 3) := dk_180 0 44 (by decide +kernel)
theorem dX7_pop_4 : decode cX7_pop 4 = .ok (.iconst 1, 1) := dk_4 (by decide +kernel)
theorem dX7_pop_5 : decode cX7_pop 5 = .ok (.bipush 64, 2) := dk_16 64 (by decide +kernel)
theorem dX7_pop_7 : decode cX7_pop 7 = .ok (.invokestatic 91, 3) := dk_184 0 91 (by decide +kernel)
theorem dX7_pop_10 : decode cX7_pop 10 = .ok (.ifCond .ne 5, 3) := dk_154 0 5 (by decide +kernel)
theorem dX7_pop_13 : decode cX7_pop 13 = .ok (.iconst 0, 1) := dk_3 (by decide +kernel)
theorem dX7_pop_14 : decode cX7_pop 14 = .ok (.ireturn, 1) := dk_172 (by decide +kernel)
theorem dX7_pop_15 : decode cX7_pop 15 = .ok (.aload_n 0, 1) := dk_42 (by decide +kernel)
theorem dX7_pop_16 : decode cX7_pop 16 = .ok (.dup, 1) := dk_89 (by decide +kernel)
theorem dX7_pop_17 : decode cX7_pop 17 = .ok (.getfield 44, 3) := dk_180 0 44 (by decide +kernel)
theorem dX7_pop_20 : decode cX7_pop 20 = .ok (.iconst 1, 1) := dk_4 (by decide +kernel)
theorem dX7_pop_21 : decode cX7_pop 21 = .ok (.isub, 1) := dk_100 (by decide +kernel)
theorem dX7_pop_22 : decode cX7_pop 22 = .ok (.putfield 44, 3) := dk_181 0 44 (by decide +kernel)
theorem dX7_pop_25 : decode cX7_pop 25 = .ok (.aload_n 0, 1) := dk_42 (by decide +kernel)
theorem dX7_pop_26 : decode cX7_pop 26 = .ok (.getfield 11, 3) := dk_180 0 11 (by decide +kernel)
theorem dX7_pop_29 : decode cX7_pop 29 = .ok (.aload_n 0, 1) := dk_42 (by decide +kernel)
theorem dX7_pop_30 : decode cX7_pop 30 = .ok (.getfield 44, 3) := dk_180 0 44 (by decide +kernel)
theorem dX7_pop_33 : decode cX7_pop 33 = .ok (.iaload, 1) := dk_46 (by decide +kernel)
theorem dX7_pop_34 : decode cX7_pop 34 = .ok (.ireturn, 1) := dk_172 (by decide +kernel)
set_option maxRecDepth 8000 in
theorem e_X7_pop {g : ch_G} {A R : Nat} (hC : ck_Cx g A R) {d : Nat} {K : Option ck_V → ck_W → Prop} {w : ck_W} (h : (1 ≤ (w 70 4) ∧ (w 70 4) ≤ 64 → ck_i ((w 70 4) - 1) ∧ ((0 ≤ ((w 70 4) - 1) ∧ ((w 70 4) - 1) < 64) ∧ (K (some (.inl (w 71 ((w 70 4) - 1)))) (ck_up w 70 4 ((w 70 4) - 1))))) ∧ (¬ (1 ≤ (w 70 4) ∧ (w 70 4) ≤ 64) → K (some (.inl 0)) w)) : ck_Ex (ch_C g A R) (d + 1) mX7_pop [.inr (.inr 70)] w K :=
  ck_entry hC.1 [some (.inr (.inr 70))] (by decide) (Nat.le_of_ble_eq_true rfl) rfl (fun q => q) (ck_in (fun hl => (ck_aload_n 1 rfl 0 dX7_pop_0 rfl rfl (ck_geti 4 rfl 4 dX7_pop_1 fl_X7_44 sh_70 rfl rfl _ rfl (fun (q1 : ck_i (w 70 4)) => (ck_iconst 5 rfl dX7_pop_4 rfl (ck_bipush 7 rfl dX7_pop_5 rfl (have h9 := h; ck_callSN 10 rfl [.inl (w 70 4), .inl 1, .inl 64] [] dX7_pop_7 cn_X7_91 rfl rfl (Nat.le_of_ble_eq_true rfl) (And.intro q1 (And.intro (show ck_i 1 by decide) (And.intro (show ck_i 64 by decide) True.intro))) (p_X11_within hC (fun c7 _ => (ck_if_ne 13 rfl 15 dX7_pop_10 rfl (by decide) (fun _ => (ck_aload_n 16 rfl 0 dX7_pop_15 rfl rfl (ck_dup 17 rfl dX7_pop_16 rfl (ck_geti 20 rfl 4 dX7_pop_17 fl_X7_44 sh_70 rfl rfl _ rfl (fun (q2 : ck_i (w 70 4)) => (ck_iconst 21 rfl dX7_pop_20 rfl (ck_isub 22 rfl dX7_pop_21 (have h11 := (h9.1 c7); have o3 := h11.1; have h10 := h11.2; (ck_puti 25 rfl 4 dX7_pop_22 fp_X7_44 sh_70 rfl rfl o3 (ck_aload_n 26 rfl 0 dX7_pop_25 rfl rfl (ck_getr 29 rfl dX7_pop_26 fl_X7_11 sh_70 rfl (ck_aload_n 30 rfl 0 dX7_pop_29 rfl rfl (ck_geti 33 rfl 4 dX7_pop_30 fl_X7_44 sh_70 rfl rfl _ rfl (fun (q4 : ck_i ((w 70 4) - 1)) => (have h13 := h10; have o5 := h13.1; have h12 := h13.2; (ck_iald 34 rfl dX7_pop_33 sh_71 (shn_71 hC) o5 _ rfl (fun (q6 : ck_i (w 71 ((w 70 4) - 1))) => (ck_iret dX7_pop_34 rfl q6 h12)))))))))))))))))) (fun q => absurd q (by decide)))) (fun c8 _ => (ck_if_ne 13 rfl 15 dX7_pop_10 rfl (by decide) (fun q => absurd q (by decide)) (fun _ => (ck_iconst 14 rfl dX7_pop_13 rfl (ck_iret dX7_pop_14 rfl (show ck_i 0 by decide) (h9.2 c8)))))))))))))))
theorem p_X7_pop {g : ch_G} {A R : Nat} (hC : ck_Cx g A R) {d : Nat} {K : Option ck_V → ck_W → Prop} {w : ck_W} {w0 : ck_W} {s : cv_S} (hs : cv_at w0 w s) (h : ∀ w', cv_at w0 w' (cv_pp s).2 → K (some (.inl (cv_pp s).1)) w') : ck_Ex (ch_C g A R) (d + 1) mX7_pop [.inr (.inr 70)] w K := by
  obtain ⟨g1, g2, g3⟩ := hs
  unfold cv_pp at h
  rw [← g2] at h
  refine e_X7_pop hC ⟨fun q => ⟨by constructor <;> omega, by omega, ?_⟩, fun q => ?_⟩
  · have k := h (ck_up w 70 4 (w 70 4 - 1)) (by
      rw [if_pos q]
      exact ⟨fun k a b => by rw [ck_up_ne a]; exact g1 k a b, by rw [ck_up_eq], by rw [ck_up_ne (by decide)]; exact g3⟩)
    rw [if_pos q] at k
    dsimp only at k
    rw [← g3] at k
    exact k
  · have k := h w (by rw [if_neg q]; exact ⟨g1, g2, g3⟩)
    rw [if_neg q] at k
    exact k
def cv_re (o x y : Int) : Int := max (-1000000) (min 1000000 (if o = 15 then x + y else if o = 16 then x - y else if o = 17 then x * y else if y = 0 then 0 else x.tdiv y))
theorem cv_reb (o x y : Int) : -1000000 ≤ cv_re o x y ∧ cv_re o x y ≤ 1000000 := by unfold cv_re; omega
theorem cv_tdb {x y : Int} (h : -2000000 ≤ x ∧ x ≤ 2000000) : -2000000 ≤ x.tdiv y ∧ x.tdiv y ≤ 2000000 := by
  have a : (x.tdiv y).natAbs ≤ x.natAbs := by rw [Int.natAbs_tdiv]; exact Nat.div_le_self _ _
  omega
theorem cv_mub {x y : Int} (hx : -2000000 ≤ x ∧ x ≤ 2000000) (hy : -2000000 ≤ y ∧ y ≤ 2000000) : -4000000000000 ≤ x * y ∧ x * y ≤ 4000000000000 := by
  have a : (x * y).natAbs ≤ 2000000 * 2000000 := by rw [Int.natAbs_mul]; exact Nat.mul_le_mul (by omega) (by omega)
  omega
theorem dX7_reckoned_0 : decode cX7_reckoned 0 = .ok (.lconst 0, 1) := dk_9 (by decide +kernel)
theorem dX7_reckoned_1 : decode cX7_reckoned 1 = .ok (.lstore_n 3, 1) := dk_66 (by decide +kernel)
theorem dX7_reckoned_2 : decode cX7_reckoned 2 = .ok (.iload_n 0, 1) := dk_26 (by decide +kernel)
theorem dX7_reckoned_3 : decode cX7_reckoned 3 = .ok (.bipush 15, 2) := dk_16 15 (by decide +kernel)
theorem dX7_reckoned_5 : decode cX7_reckoned 5 = .ok (.if_icmp .ne 12, 3) := dk_160 0 12 (by decide +kernel)
theorem dX7_reckoned_8 : decode cX7_reckoned 8 = .ok (.iload_n 1, 1) := dk_27 (by decide +kernel)
theorem dX7_reckoned_9 : decode cX7_reckoned 9 = .ok (.i2l, 1) := dk_133 (by decide +kernel)
theorem dX7_reckoned_10 : decode cX7_reckoned 10 = .ok (.iload_n 2, 1) := dk_28 (by decide +kernel)
theorem dX7_reckoned_11 : decode cX7_reckoned 11 = .ok (.i2l, 1) := dk_133 (by decide +kernel)
theorem dX7_reckoned_12 : decode cX7_reckoned 12 = .ok (.ladd, 1) := dk_97 (by decide +kernel)
theorem dX7_reckoned_13 : decode cX7_reckoned 13 = .ok (.lstore_n 3, 1) := dk_66 (by decide +kernel)
theorem dX7_reckoned_14 : decode cX7_reckoned 14 = .ok (.goto 42, 3) := dk_167 0 42 (by decide +kernel)
theorem dX7_reckoned_17 : decode cX7_reckoned 17 = .ok (.iload_n 0, 1) := dk_26 (by decide +kernel)
theorem dX7_reckoned_18 : decode cX7_reckoned 18 = .ok (.bipush 16, 2) := dk_16 16 (by decide +kernel)
theorem dX7_reckoned_20 : decode cX7_reckoned 20 = .ok (.if_icmp .ne 12, 3) := dk_160 0 12 (by decide +kernel)
theorem dX7_reckoned_23 : decode cX7_reckoned 23 = .ok (.iload_n 1, 1) := dk_27 (by decide +kernel)
theorem dX7_reckoned_24 : decode cX7_reckoned 24 = .ok (.i2l, 1) := dk_133 (by decide +kernel)
theorem dX7_reckoned_25 : decode cX7_reckoned 25 = .ok (.iload_n 2, 1) := dk_28 (by decide +kernel)
theorem dX7_reckoned_26 : decode cX7_reckoned 26 = .ok (.i2l, 1) := dk_133 (by decide +kernel)
theorem dX7_reckoned_27 : decode cX7_reckoned 27 = .ok (.lsub, 1) := dk_101 (by decide +kernel)
theorem dX7_reckoned_28 : decode cX7_reckoned 28 = .ok (.lstore_n 3, 1) := dk_66 (by decide +kernel)
theorem dX7_reckoned_29 : decode cX7_reckoned 29 = .ok (.goto 27, 3) := dk_167 0 27 (by decide +kernel)
theorem dX7_reckoned_32 : decode cX7_reckoned 32 = .ok (.iload_n 0, 1) := dk_26 (by decide +kernel)
theorem dX7_reckoned_33 : decode cX7_reckoned 33 = .ok (.bipush 17, 2) := dk_16 17 (by decide +kernel)
theorem dX7_reckoned_35 : decode cX7_reckoned 35 = .ok (.if_icmp .ne 12, 3) := dk_160 0 12 (by decide +kernel)
theorem dX7_reckoned_38 : decode cX7_reckoned 38 = .ok (.iload_n 1, 1) := dk_27 (by decide +kernel)
theorem dX7_reckoned_39 : decode cX7_reckoned 39 = .ok (.i2l, 1) := dk_133 (by decide +kernel)
theorem dX7_reckoned_40 : decode cX7_reckoned 40 = .ok (.iload_n 2, 1) := dk_28 (by decide +kernel)
theorem dX7_reckoned_41 : decode cX7_reckoned 41 = .ok (.i2l, 1) := dk_133 (by decide +kernel)
theorem dX7_reckoned_42 : decode cX7_reckoned 42 = .ok (.lmul, 1) := dk_105 (by decide +kernel)
theorem dX7_reckoned_43 : decode cX7_reckoned 43 = .ok (.lstore_n 3, 1) := dk_66 (by decide +kernel)
theorem dX7_reckoned_44 : decode cX7_reckoned 44 = .ok (.goto 12, 3) := dk_167 0 12 (by decide +kernel)
theorem dX7_reckoned_47 : decode cX7_reckoned 47 = .ok (.iload_n 2, 1) := dk_28 (by decide +kernel)
theorem dX7_reckoned_48 : decode cX7_reckoned 48 = .ok (.ifCond .eq 8, 3) := dk_153 0 8 (by decide +kernel)
theorem dX7_reckoned_51 : decode cX7_reckoned 51 = .ok (.iload_n 1, 1) := dk_27 (by decide +kernel)
theorem dX7_reckoned_52 : decode cX7_reckoned 52 = .ok (.iload_n 2, 1) := dk_28 (by decide +kernel)
theorem dX7_reckoned_53 : decode cX7_reckoned 53 = .ok (.idiv, 1) := dk_108 (by decide +kernel)
theorem dX7_reckoned_54 : decode cX7_reckoned 54 = .ok (.i2l, 1) := dk_133 (by decide +kernel)
theorem dX7_reckoned_55 : decode cX7_reckoned 55 = .ok (.lstore_n 3, 1) := dk_66 (by decide +kernel)
theorem dX7_reckoned_56 : decode cX7_reckoned 56 = .ok (.ldc2_w 101, 3) := dk_20 0 101 (by decide +kernel)
theorem dX7_reckoned_59 : decode cX7_reckoned 59 = .ok (.ldc2_w 103, 3) := dk_20 0 103 (by decide +kernel)
theorem dX7_reckoned_62 : decode cX7_reckoned 62 = .ok (.lload_n 3, 1) := dk_33 (by decide +kernel)
theorem dX7_reckoned_63 : decode cX7_reckoned 63 = .ok (.invokestatic 105, 3) := dk_184 0 105 (by decide +kernel)
theorem dX7_reckoned_66 : decode cX7_reckoned 66 = .ok (.invokestatic 111, 3) := dk_184 0 111 (by decide +kernel)
theorem dX7_reckoned_69 : decode cX7_reckoned 69 = .ok (.l2i, 1) := dk_136 (by decide +kernel)
theorem dX7_reckoned_70 : decode cX7_reckoned 70 = .ok (.ireturn, 1) := dk_172 (by decide +kernel)
set_option maxRecDepth 8000 in
theorem e_X7_reckoned {g : ch_G} {A R : Nat} (hC : ck_Cx g A R) {d : Nat} {K : Option ck_V → ck_W → Prop} {w : ck_W} {a0 a1 a2 : Int} (h : (¬ a0 = 15 → (¬ a0 = 16 → (¬ a0 = 17 → (a2 = 0 → ck_i (max (-1000000) (min 1000000 0)) ∧ (K (some (.inl (max (-1000000) (min 1000000 0)))) w)) ∧ (¬ a2 = 0 → (¬ a2 = 0) ∧ (ck_i (a1.tdiv a2) ∧ (ck_i (max (-1000000) (min 1000000 (a1.tdiv a2))) ∧ (K (some (.inl (max (-1000000) (min 1000000 (a1.tdiv a2))))) w))))) ∧ (a0 = 17 → ck_l (a1 * a2) ∧ (ck_i (max (-1000000) (min 1000000 (a1 * a2))) ∧ (K (some (.inl (max (-1000000) (min 1000000 (a1 * a2))))) w)))) ∧ (a0 = 16 → ck_l (a1 - a2) ∧ (ck_i (max (-1000000) (min 1000000 (a1 - a2))) ∧ (K (some (.inl (max (-1000000) (min 1000000 (a1 - a2))))) w)))) ∧ (a0 = 15 → ck_l (a1 + a2) ∧ (ck_i (max (-1000000) (min 1000000 (a1 + a2))) ∧ (K (some (.inl (max (-1000000) (min 1000000 (a1 + a2))))) w)))) : ck_Ex (ch_C g A R) (d + 1) mX7_reckoned [.inl a0, .inl a1, .inl a2] w K :=
  ck_entry hC.1 [some (.inl a0), some (.inl a1), some (.inl a2), none, none] (by decide) (Nat.le_of_ble_eq_true rfl) rfl (fun q => q) (ck_in (fun hl => (ck_lconst 1 rfl 0 dX7_reckoned_0 rfl (ck_lstore_n 2 rfl 3 [some (.inl a0), some (.inl a1), some (.inl a2), some (.inr (.inl 0)), none] dX7_reckoned_1 rfl (Nat.le_of_ble_eq_true rfl) rfl rfl (show ck_l 0 by decide) (ck_iload_n 3 rfl 0 dX7_reckoned_2 rfl rfl (ck_bipush 5 rfl dX7_reckoned_3 rfl (ck_icmp_ne 8 rfl 17 dX7_reckoned_5 rfl hl.1 (show ck_i 15 by decide) (fun c27 => (ck_iload_n 18 rfl 0 dX7_reckoned_17 rfl rfl (ck_bipush 20 rfl dX7_reckoned_18 rfl (have h29 := (h.1 c27); (ck_icmp_ne 23 rfl 32 dX7_reckoned_20 rfl hl.1 (show ck_i 16 by decide) (fun c21 => (ck_iload_n 33 rfl 0 dX7_reckoned_32 rfl rfl (ck_bipush 35 rfl dX7_reckoned_33 rfl (have h30 := (h29.1 c21); (ck_icmp_ne 38 rfl 47 dX7_reckoned_35 rfl hl.1 (show ck_i 17 by decide) (fun c15 => (ck_iload_n 48 rfl 2 dX7_reckoned_47 rfl rfl (have h31 := (h30.1 c15); (ck_if_eq 51 rfl 56 dX7_reckoned_48 rfl hl.2.2.1 (fun c9 => (ck_ldc2 59 rfl (-1000000) kl_X7_101 dX7_reckoned_56 rfl (ck_ldc2 62 rfl 1000000 kl_X7_103 dX7_reckoned_59 rfl (ck_lload_n 63 rfl 3 dX7_reckoned_62 rfl rfl (ck_callS 66 rfl [.inr (.inl 1000000), .inr (.inl 0)] [.inr (.inl (-1000000))] dX7_reckoned_63 cs_X7_105 rfl rfl (Nat.le_of_ble_eq_true rfl) (And.intro (show ck_l 1000000 by decide) (And.intro (show ck_l 0 by decide) True.intro)) (p_J9_min_f86c9 hC (fun q1 => (ck_callS 69 rfl [.inr (.inl (-1000000)), .inr (.inl (min 1000000 0))] [] dX7_reckoned_66 cs_X7_111 rfl rfl (Nat.le_of_ble_eq_true rfl) (And.intro (show ck_l (-1000000) by decide) (And.intro q1.1 True.intro)) (p_J9_max_f86c9 hC (fun q2 => (ck_l2i 70 rfl dX7_reckoned_69 (have h33 := (h31.1 c9); have o3 := h33.1; have h32 := h33.2; (ck_iret dX7_reckoned_70 rfl o3 h32))))))))))))) (fun c10 => (ck_iload_n 52 rfl 1 dX7_reckoned_51 rfl rfl (ck_iload_n 53 rfl 2 dX7_reckoned_52 rfl rfl (have h35 := (h31.2 c10); have o4 := h35.1; have h34 := h35.2; (ck_idiv 54 rfl dX7_reckoned_53 hl.2.1 hl.2.2.1 o4 (have h37 := h34; have o5 := h37.1; have h36 := h37.2; (ck_i2l 55 rfl dX7_reckoned_54 o5 (ck_lstore_n 56 rfl 3 [some (.inl a0), some (.inl a1), some (.inl a2), some (.inr (.inl (a1.tdiv a2))), none] dX7_reckoned_55 rfl (Nat.le_of_ble_eq_true rfl) rfl rfl (ck_il o5) (ck_ldc2 59 rfl (-1000000) kl_X7_101 dX7_reckoned_56 rfl (ck_ldc2 62 rfl 1000000 kl_X7_103 dX7_reckoned_59 rfl (ck_lload_n 63 rfl 3 dX7_reckoned_62 rfl rfl (ck_callS 66 rfl [.inr (.inl 1000000), .inr (.inl (a1.tdiv a2))] [.inr (.inl (-1000000))] dX7_reckoned_63 cs_X7_105 rfl rfl (Nat.le_of_ble_eq_true rfl) (And.intro (show ck_l 1000000 by decide) (And.intro (ck_il o5) True.intro)) (p_J9_min_f86c9 hC (fun q6 => (ck_callS 69 rfl [.inr (.inl (-1000000)), .inr (.inl (min 1000000 (a1.tdiv a2)))] [] dX7_reckoned_66 cs_X7_111 rfl rfl (Nat.le_of_ble_eq_true rfl) (And.intro (show ck_l (-1000000) by decide) (And.intro q6.1 True.intro)) (p_J9_max_f86c9 hC (fun q7 => (ck_l2i 70 rfl dX7_reckoned_69 (have h39 := h36; have o8 := h39.1; have h38 := h39.2; (ck_iret dX7_reckoned_70 rfl o8 h38)))))))))))))))))))))))) (fun c16 => (ck_iload_n 39 rfl 1 dX7_reckoned_38 rfl rfl (ck_i2l 40 rfl dX7_reckoned_39 hl.2.1 (ck_iload_n 41 rfl 2 dX7_reckoned_40 rfl rfl (ck_i2l 42 rfl dX7_reckoned_41 hl.2.2.1 (ck_lmul 43 rfl dX7_reckoned_42 (have h41 := (h30.2 c16); have o11 := h41.1; have h40 := h41.2; (ck_lstore_n 44 rfl 3 [some (.inl a0), some (.inl a1), some (.inl a2), some (.inr (.inl (a1 * a2))), none] dX7_reckoned_43 rfl (Nat.le_of_ble_eq_true rfl) rfl rfl o11 (ck_goto 56 dX7_reckoned_44 rfl (ck_ldc2 59 rfl (-1000000) kl_X7_101 dX7_reckoned_56 rfl (ck_ldc2 62 rfl 1000000 kl_X7_103 dX7_reckoned_59 rfl (ck_lload_n 63 rfl 3 dX7_reckoned_62 rfl rfl (ck_callS 66 rfl [.inr (.inl 1000000), .inr (.inl (a1 * a2))] [.inr (.inl (-1000000))] dX7_reckoned_63 cs_X7_105 rfl rfl (Nat.le_of_ble_eq_true rfl) (And.intro (show ck_l 1000000 by decide) (And.intro o11 True.intro)) (p_J9_min_f86c9 hC (fun q12 => (ck_callS 69 rfl [.inr (.inl (-1000000)), .inr (.inl (min 1000000 (a1 * a2)))] [] dX7_reckoned_66 cs_X7_111 rfl rfl (Nat.le_of_ble_eq_true rfl) (And.intro (show ck_l (-1000000) by decide) (And.intro q12.1 True.intro)) (p_J9_max_f86c9 hC (fun q13 => (ck_l2i 70 rfl dX7_reckoned_69 (have h43 := h40; have o14 := h43.1; have h42 := h43.2; (ck_iret dX7_reckoned_70 rfl o14 h42)))))))))))))))))))))))))) (fun c22 => (ck_iload_n 24 rfl 1 dX7_reckoned_23 rfl rfl (ck_i2l 25 rfl dX7_reckoned_24 hl.2.1 (ck_iload_n 26 rfl 2 dX7_reckoned_25 rfl rfl (ck_i2l 27 rfl dX7_reckoned_26 hl.2.2.1 (ck_lsub 28 rfl dX7_reckoned_27 (have h45 := (h29.2 c22); have o17 := h45.1; have h44 := h45.2; (ck_lstore_n 29 rfl 3 [some (.inl a0), some (.inl a1), some (.inl a2), some (.inr (.inl (a1 - a2))), none] dX7_reckoned_28 rfl (Nat.le_of_ble_eq_true rfl) rfl rfl o17 (ck_goto 56 dX7_reckoned_29 rfl (ck_ldc2 59 rfl (-1000000) kl_X7_101 dX7_reckoned_56 rfl (ck_ldc2 62 rfl 1000000 kl_X7_103 dX7_reckoned_59 rfl (ck_lload_n 63 rfl 3 dX7_reckoned_62 rfl rfl (ck_callS 66 rfl [.inr (.inl 1000000), .inr (.inl (a1 - a2))] [.inr (.inl (-1000000))] dX7_reckoned_63 cs_X7_105 rfl rfl (Nat.le_of_ble_eq_true rfl) (And.intro (show ck_l 1000000 by decide) (And.intro o17 True.intro)) (p_J9_min_f86c9 hC (fun q18 => (ck_callS 69 rfl [.inr (.inl (-1000000)), .inr (.inl (min 1000000 (a1 - a2)))] [] dX7_reckoned_66 cs_X7_111 rfl rfl (Nat.le_of_ble_eq_true rfl) (And.intro (show ck_l (-1000000) by decide) (And.intro q18.1 True.intro)) (p_J9_max_f86c9 hC (fun q19 => (ck_l2i 70 rfl dX7_reckoned_69 (have h47 := h44; have o20 := h47.1; have h46 := h47.2; (ck_iret dX7_reckoned_70 rfl o20 h46)))))))))))))))))))))))))) (fun c28 => (ck_iload_n 9 rfl 1 dX7_reckoned_8 rfl rfl (ck_i2l 10 rfl dX7_reckoned_9 hl.2.1 (ck_iload_n 11 rfl 2 dX7_reckoned_10 rfl rfl (ck_i2l 12 rfl dX7_reckoned_11 hl.2.2.1 (ck_ladd 13 rfl dX7_reckoned_12 (have h49 := (h.2 c28); have o23 := h49.1; have h48 := h49.2; (ck_lstore_n 14 rfl 3 [some (.inl a0), some (.inl a1), some (.inl a2), some (.inr (.inl (a1 + a2))), none] dX7_reckoned_13 rfl (Nat.le_of_ble_eq_true rfl) rfl rfl o23 (ck_goto 56 dX7_reckoned_14 rfl (ck_ldc2 59 rfl (-1000000) kl_X7_101 dX7_reckoned_56 rfl (ck_ldc2 62 rfl 1000000 kl_X7_103 dX7_reckoned_59 rfl (ck_lload_n 63 rfl 3 dX7_reckoned_62 rfl rfl (ck_callS 66 rfl [.inr (.inl 1000000), .inr (.inl (a1 + a2))] [.inr (.inl (-1000000))] dX7_reckoned_63 cs_X7_105 rfl rfl (Nat.le_of_ble_eq_true rfl) (And.intro (show ck_l 1000000 by decide) (And.intro o23 True.intro)) (p_J9_min_f86c9 hC (fun q24 => (ck_callS 69 rfl [.inr (.inl (-1000000)), .inr (.inl (min 1000000 (a1 + a2)))] [] dX7_reckoned_66 cs_X7_111 rfl rfl (Nat.le_of_ble_eq_true rfl) (And.intro (show ck_l (-1000000) by decide) (And.intro q24.1 True.intro)) (p_J9_max_f86c9 hC (fun q25 => (ck_l2i 70 rfl dX7_reckoned_69 (have h51 := h48; have o26 := h51.1; have h50 := h51.2; (ck_iret dX7_reckoned_70 rfl o26 h50))))))))))))))))))))))))))))
theorem p_X7_reckoned {g : ch_G} {A R : Nat} (hC : ck_Cx g A R) {d : Nat} {K : Option ck_V → ck_W → Prop} {w : ck_W} {a0 a1 a2 : Int} (h1 : -2000000 ≤ a1 ∧ a1 ≤ 2000000) (h2 : -2000000 ≤ a2 ∧ a2 ≤ 2000000) (h : K (some (.inl (cv_re a0 a1 a2))) w) : ck_Ex (ch_C g A R) (d + 1) mX7_reckoned [.inl a0, .inl a1, .inl a2] w K := by
  have t := cv_tdb (y := a2) h1
  have m := cv_mub h1 h2
  unfold cv_re at h
  refine e_X7_reckoned hC ⟨fun q => ⟨fun q1 => ⟨fun q2 => ⟨fun q3 => ⟨by constructor <;> omega, ?_⟩, fun q3 => ⟨q3, by constructor <;> omega, by constructor <;> omega, ?_⟩⟩, fun q2 => ⟨by constructor <;> omega, by constructor <;> omega, ?_⟩⟩, fun q1 => ⟨by constructor <;> omega, by constructor <;> omega, ?_⟩⟩, fun q => ⟨by constructor <;> omega, by constructor <;> omega, ?_⟩⟩
  · rw [if_neg q, if_neg q1, if_neg q2, if_pos q3] at h; exact h
  · rw [if_neg q, if_neg q1, if_neg q2, if_neg q3] at h; exact h
  · rw [if_neg q, if_neg q1, if_pos q2] at h; exact h
  · rw [if_neg q, if_pos q1] at h; exact h
  · rw [if_pos q] at h; exact h
def cv_as (o x y : Int) : Int := if o = 6 then (if x + y ≤ 0 then 0 else 1) else if o = 7 then (if x + y ≤ 1 then 0 else 1) else if o = 9 then (if y ≤ x then 0 else 1) else if o = 10 then (if y < x then 0 else 1) else if o = 11 then (if x ≤ y then 0 else 1) else if o = 12 then (if x < y then 0 else 1) else if o = 13 then (if x = y then 1 else 0) else if x = y then 0 else 1
theorem cv_asb (o x y : Int) : cv_as o x y = 0 ∨ cv_as o x y = 1 := by unfold cv_as; repeat' split <;> omega
theorem dX7_answered_0 : decode cX7_answered 0 = .ok (.iload_n 0, 1) := dk_26 (by decide +kernel)
theorem dX7_answered_1 : decode cX7_answered 1 = .ok (.tableswitch 127 6 13 #[47, 59, 127, 72, 83, 94, 105, 116], 47) := by decide +kernel
theorem dX7_answered_48 : decode cX7_answered 48 = .ok (.iload_n 1, 1) := dk_27 (by decide +kernel)
theorem dX7_answered_49 : decode cX7_answered 49 = .ok (.iload_n 2, 1) := dk_28 (by decide +kernel)
theorem dX7_answered_50 : decode cX7_answered 50 = .ok (.iadd, 1) := dk_96 (by decide +kernel)
theorem dX7_answered_51 : decode cX7_answered 51 = .ok (.ifCond .le 7, 3) := dk_158 0 7 (by decide +kernel)
theorem dX7_answered_54 : decode cX7_answered 54 = .ok (.iconst 1, 1) := dk_4 (by decide +kernel)
theorem dX7_answered_55 : decode cX7_answered 55 = .ok (.goto 4, 3) := dk_167 0 4 (by decide +kernel)
theorem dX7_answered_58 : decode cX7_answered 58 = .ok (.iconst 0, 1) := dk_3 (by decide +kernel)
theorem dX7_answered_59 : decode cX7_answered 59 = .ok (.ireturn, 1) := dk_172 (by decide +kernel)
theorem dX7_answered_60 : decode cX7_answered 60 = .ok (.iload_n 1, 1) := dk_27 (by decide +kernel)
theorem dX7_answered_61 : decode cX7_answered 61 = .ok (.iload_n 2, 1) := dk_28 (by decide +kernel)
theorem dX7_answered_62 : decode cX7_answered 62 = .ok (.iadd, 1) := dk_96 (by decide +kernel)
theorem dX7_answered_63 : decode cX7_answered 63 = .ok (.iconst 1, 1) := dk_4 (by decide +kernel)
theorem dX7_answered_64 : decode cX7_answered 64 = .ok (.if_icmp .le 7, 3) := dk_164 0 7 (by decide +kernel)
theorem dX7_answered_67 : decode cX7_answered 67 = .ok (.iconst 1, 1) := dk_4 (by decide +kernel)
theorem dX7_answered_68 : decode cX7_answered 68 = .ok (.goto 4, 3) := dk_167 0 4 (by decide +kernel)
theorem dX7_answered_71 : decode cX7_answered 71 = .ok (.iconst 0, 1) := dk_3 (by decide +kernel)
theorem dX7_answered_72 : decode cX7_answered 72 = .ok (.ireturn, 1) := dk_172 (by decide +kernel)
theorem dX7_answered_73 : decode cX7_answered 73 = .ok (.iload_n 1, 1) := dk_27 (by decide +kernel)
theorem dX7_answered_74 : decode cX7_answered 74 = .ok (.iload_n 2, 1) := dk_28 (by decide +kernel)
theorem dX7_answered_75 : decode cX7_answered 75 = .ok (.if_icmp .ge 7, 3) := dk_162 0 7 (by decide +kernel)
theorem dX7_answered_78 : decode cX7_answered 78 = .ok (.iconst 1, 1) := dk_4 (by decide +kernel)
theorem dX7_answered_79 : decode cX7_answered 79 = .ok (.goto 4, 3) := dk_167 0 4 (by decide +kernel)
theorem dX7_answered_82 : decode cX7_answered 82 = .ok (.iconst 0, 1) := dk_3 (by decide +kernel)
theorem dX7_answered_83 : decode cX7_answered 83 = .ok (.ireturn, 1) := dk_172 (by decide +kernel)
theorem dX7_answered_84 : decode cX7_answered 84 = .ok (.iload_n 1, 1) := dk_27 (by decide +kernel)
theorem dX7_answered_85 : decode cX7_answered 85 = .ok (.iload_n 2, 1) := dk_28 (by decide +kernel)
theorem dX7_answered_86 : decode cX7_answered 86 = .ok (.if_icmp .gt 7, 3) := dk_163 0 7 (by decide +kernel)
theorem dX7_answered_89 : decode cX7_answered 89 = .ok (.iconst 1, 1) := dk_4 (by decide +kernel)
theorem dX7_answered_90 : decode cX7_answered 90 = .ok (.goto 4, 3) := dk_167 0 4 (by decide +kernel)
theorem dX7_answered_93 : decode cX7_answered 93 = .ok (.iconst 0, 1) := dk_3 (by decide +kernel)
theorem dX7_answered_94 : decode cX7_answered 94 = .ok (.ireturn, 1) := dk_172 (by decide +kernel)
theorem dX7_answered_95 : decode cX7_answered 95 = .ok (.iload_n 1, 1) := dk_27 (by decide +kernel)
theorem dX7_answered_96 : decode cX7_answered 96 = .ok (.iload_n 2, 1) := dk_28 (by decide +kernel)
theorem dX7_answered_97 : decode cX7_answered 97 = .ok (.if_icmp .le 7, 3) := dk_164 0 7 (by decide +kernel)
theorem dX7_answered_100 : decode cX7_answered 100 = .ok (.iconst 1, 1) := dk_4 (by decide +kernel)
theorem dX7_answered_101 : decode cX7_answered 101 = .ok (.goto 4, 3) := dk_167 0 4 (by decide +kernel)
theorem dX7_answered_104 : decode cX7_answered 104 = .ok (.iconst 0, 1) := dk_3 (by decide +kernel)
theorem dX7_answered_105 : decode cX7_answered 105 = .ok (.ireturn, 1) := dk_172 (by decide +kernel)
theorem dX7_answered_106 : decode cX7_answered 106 = .ok (.iload_n 1, 1) := dk_27 (by decide +kernel)
theorem dX7_answered_107 : decode cX7_answered 107 = .ok (.iload_n 2, 1) := dk_28 (by decide +kernel)
theorem dX7_answered_108 : decode cX7_answered 108 = .ok (.if_icmp .lt 7, 3) := dk_161 0 7 (by decide +kernel)
theorem dX7_answered_111 : decode cX7_answered 111 = .ok (.iconst 1, 1) := dk_4 (by decide +kernel)
theorem dX7_answered_112 : decode cX7_answered 112 = .ok (.goto 4, 3) := dk_167 0 4 (by decide +kernel)
theorem dX7_answered_115 : decode cX7_answered 115 = .ok (.iconst 0, 1) := dk_3 (by decide +kernel)
theorem dX7_answered_116 : decode cX7_answered 116 = .ok (.ireturn, 1) := dk_172 (by decide +kernel)
theorem dX7_answered_117 : decode cX7_answered 117 = .ok (.iload_n 1, 1) := dk_27 (by decide +kernel)
theorem dX7_answered_118 : decode cX7_answered 118 = .ok (.iload_n 2, 1) := dk_28 (by decide +kernel)
theorem dX7_answered_119 : decode cX7_answered 119 = .ok (.if_icmp .ne 7, 3) := dk_160 0 7 (by decide +kernel)
theorem dX7_answered_122 : decode cX7_answered 122 = .ok (.iconst 1, 1) := dk_4 (by decide +kernel)
theorem dX7_answered_123 : decode cX7_answered 123 = .ok (.goto 4, 3) := dk_167 0 4 (by decide +kernel)
theorem dX7_answered_126 : decode cX7_answered 126 = .ok (.iconst 0, 1) := dk_3 (by decide +kernel)
theorem dX7_answered_127 : decode cX7_answered 127 = .ok (.ireturn, 1) := dk_172 (by decide +kernel)
theorem dX7_answered_128 : decode cX7_answered 128 = .ok (.iload_n 1, 1) := dk_27 (by decide +kernel)
theorem dX7_answered_129 : decode cX7_answered 129 = .ok (.iload_n 2, 1) := dk_28 (by decide +kernel)
theorem dX7_answered_130 : decode cX7_answered 130 = .ok (.if_icmp .eq 7, 3) := dk_159 0 7 (by decide +kernel)
theorem dX7_answered_133 : decode cX7_answered 133 = .ok (.iconst 1, 1) := dk_4 (by decide +kernel)
theorem dX7_answered_134 : decode cX7_answered 134 = .ok (.goto 4, 3) := dk_167 0 4 (by decide +kernel)
theorem dX7_answered_137 : decode cX7_answered 137 = .ok (.iconst 0, 1) := dk_3 (by decide +kernel)
theorem dX7_answered_138 : decode cX7_answered 138 = .ok (.ireturn, 1) := dk_172 (by decide +kernel)
set_option maxRecDepth 8000 in
theorem sX7_answered_1_0 : (#[47, 59, 127, 72, 83, 94, 105, 116] : Array Int)[0]? = some (47) := by decide +kernel
set_option maxRecDepth 8000 in
theorem sX7_answered_1_1 : (#[47, 59, 127, 72, 83, 94, 105, 116] : Array Int)[1]? = some (59) := by decide +kernel
set_option maxRecDepth 8000 in
theorem sX7_answered_1_2 : (#[47, 59, 127, 72, 83, 94, 105, 116] : Array Int)[2]? = some (127) := by decide +kernel
set_option maxRecDepth 8000 in
theorem sX7_answered_1_3 : (#[47, 59, 127, 72, 83, 94, 105, 116] : Array Int)[3]? = some (72) := by decide +kernel
set_option maxRecDepth 8000 in
theorem sX7_answered_1_4 : (#[47, 59, 127, 72, 83, 94, 105, 116] : Array Int)[4]? = some (83) := by decide +kernel
set_option maxRecDepth 8000 in
theorem sX7_answered_1_5 : (#[47, 59, 127, 72, 83, 94, 105, 116] : Array Int)[5]? = some (94) := by decide +kernel
set_option maxRecDepth 8000 in
theorem sX7_answered_1_6 : (#[47, 59, 127, 72, 83, 94, 105, 116] : Array Int)[6]? = some (105) := by decide +kernel
set_option maxRecDepth 8000 in
theorem sX7_answered_1_7 : (#[47, 59, 127, 72, 83, 94, 105, 116] : Array Int)[7]? = some (116) := by decide +kernel
set_option maxRecDepth 8000 in
theorem oX7_answered_1 {a : Int} (c0 : ¬ a = 6 + ((0 : Nat) : Int)) (c1 : ¬ a = 6 + ((1 : Nat) : Int)) (c2 : ¬ a = 6 + ((2 : Nat) : Int)) (c3 : ¬ a = 6 + ((3 : Nat) : Int)) (c4 : ¬ a = 6 + ((4 : Nat) : Int)) (c5 : ¬ a = 6 + ((5 : Nat) : Int)) (c6 : ¬ a = 6 + ((6 : Nat) : Int)) (c7 : ¬ a = 6 + ((7 : Nat) : Int)) : a < 6 ∨ 13 < a := by omega
set_option maxRecDepth 8000 in
theorem e_X7_answered {g : ch_G} {A R : Nat} (hC : ck_Cx g A R) {d : Nat} {K : Option ck_V → ck_W → Prop} {w : ck_W} {a0 a1 a2 : Int} (h : (a0 = 6 → ck_i (a1 + a2) ∧ (((a1 + a2) ≤ 0 → K (some (.inl 0)) w) ∧ (¬ (a1 + a2) ≤ 0 → K (some (.inl 1)) w))) ∧ (¬ a0 = 6 → (a0 = 7 → ck_i (a1 + a2) ∧ (((a1 + a2) ≤ 1 → K (some (.inl 0)) w) ∧ (¬ (a1 + a2) ≤ 1 → K (some (.inl 1)) w))) ∧ (¬ a0 = 7 → (a0 = 8 → (a1 = a2 → K (some (.inl 0)) w) ∧ (¬ a1 = a2 → K (some (.inl 1)) w)) ∧ (¬ a0 = 8 → (a0 = 9 → (a2 ≤ a1 → K (some (.inl 0)) w) ∧ (¬ a2 ≤ a1 → K (some (.inl 1)) w)) ∧ (¬ a0 = 9 → (a0 = 10 → (a2 < a1 → K (some (.inl 0)) w) ∧ (¬ a2 < a1 → K (some (.inl 1)) w)) ∧ (¬ a0 = 10 → (a0 = 11 → (a1 ≤ a2 → K (some (.inl 0)) w) ∧ (¬ a1 ≤ a2 → K (some (.inl 1)) w)) ∧ (¬ a0 = 11 → (a0 = 12 → (a1 < a2 → K (some (.inl 0)) w) ∧ (¬ a1 < a2 → K (some (.inl 1)) w)) ∧ (¬ a0 = 12 → (a0 = 13 → (¬ a1 = a2 → K (some (.inl 0)) w) ∧ (a1 = a2 → K (some (.inl 1)) w)) ∧ (¬ a0 = 13 → (a1 = a2 → K (some (.inl 0)) w) ∧ (¬ a1 = a2 → K (some (.inl 1)) w)))))))))) : ck_Ex (ch_C g A R) d mX7_answered [.inl a0, .inl a1, .inl a2] w K :=
  ck_entry hC.1 [some (.inl a0), some (.inl a1), some (.inl a2)] (by decide) (Nat.le_of_ble_eq_true rfl) rfl (fun q => q) (ck_in (fun hl => (ck_iload_n 1 rfl 0 dX7_answered_0 rfl rfl (have h29 := h; if c4 : a0 = 6 + ((0 : Nat) : Int) then (ck_tswI 0 (47) 48 dX7_answered_1 hl.1 c4 (by decide) sX7_answered_1_0 rfl (ck_iload_n 49 rfl 1 dX7_answered_48 rfl rfl (ck_iload_n 50 rfl 2 dX7_answered_49 rfl rfl (ck_iadd 51 rfl dX7_answered_50 (have h31 := (h29.1 c4); have o1 := h31.1; have h30 := h31.2; (ck_if_le 54 rfl 58 dX7_answered_51 rfl o1 (fun c2 => (ck_iconst 59 rfl dX7_answered_58 rfl (ck_zret dX7_answered_59 rfl (by decide) (h30.1 c2)))) (fun c3 => (ck_iconst 55 rfl dX7_answered_54 rfl (ck_goto 59 dX7_answered_55 rfl (ck_zret dX7_answered_59 rfl (by decide) (h30.2 c3))))))))))) else (have h32 := (h29.2 c4); if c8 : a0 = 6 + ((1 : Nat) : Int) then (ck_tswI 1 (59) 60 dX7_answered_1 hl.1 c8 (by decide) sX7_answered_1_1 rfl (ck_iload_n 61 rfl 1 dX7_answered_60 rfl rfl (ck_iload_n 62 rfl 2 dX7_answered_61 rfl rfl (ck_iadd 63 rfl dX7_answered_62 (ck_iconst 64 rfl dX7_answered_63 rfl (have h34 := (h32.1 c8); have o5 := h34.1; have h33 := h34.2; (ck_icmp_le 67 rfl 71 dX7_answered_64 rfl o5 (show ck_i 1 by decide) (fun c6 => (ck_iconst 72 rfl dX7_answered_71 rfl (ck_zret dX7_answered_72 rfl (by decide) (h33.1 c6)))) (fun c7 => (ck_iconst 68 rfl dX7_answered_67 rfl (ck_goto 72 dX7_answered_68 rfl (ck_zret dX7_answered_72 rfl (by decide) (h33.2 c7)))))))))))) else (have h35 := (h32.2 c8); if c11 : a0 = 6 + ((2 : Nat) : Int) then (ck_tswI 2 (127) 128 dX7_answered_1 hl.1 c11 (by decide) sX7_answered_1_2 rfl (ck_iload_n 129 rfl 1 dX7_answered_128 rfl rfl (ck_iload_n 130 rfl 2 dX7_answered_129 rfl rfl (have h36 := (h35.1 c11); (ck_icmp_eq 133 rfl 137 dX7_answered_130 rfl hl.2.1 hl.2.2.1 (fun c9 => (ck_iconst 138 rfl dX7_answered_137 rfl (ck_zret dX7_answered_138 rfl (by decide) (h36.1 c9)))) (fun c10 => (ck_iconst 134 rfl dX7_answered_133 rfl (ck_goto 138 dX7_answered_134 rfl (ck_zret dX7_answered_138 rfl (by decide) (h36.2 c10)))))))))) else (have h37 := (h35.2 c11); if c14 : a0 = 6 + ((3 : Nat) : Int) then (ck_tswI 3 (72) 73 dX7_answered_1 hl.1 c14 (by decide) sX7_answered_1_3 rfl (ck_iload_n 74 rfl 1 dX7_answered_73 rfl rfl (ck_iload_n 75 rfl 2 dX7_answered_74 rfl rfl (have h38 := (h37.1 c14); (ck_icmp_ge 78 rfl 82 dX7_answered_75 rfl hl.2.1 hl.2.2.1 (fun c12 => (ck_iconst 83 rfl dX7_answered_82 rfl (ck_zret dX7_answered_83 rfl (by decide) (h38.1 c12)))) (fun c13 => (ck_iconst 79 rfl dX7_answered_78 rfl (ck_goto 83 dX7_answered_79 rfl (ck_zret dX7_answered_83 rfl (by decide) (h38.2 c13)))))))))) else (have h39 := (h37.2 c14); if c17 : a0 = 6 + ((4 : Nat) : Int) then (ck_tswI 4 (83) 84 dX7_answered_1 hl.1 c17 (by decide) sX7_answered_1_4 rfl (ck_iload_n 85 rfl 1 dX7_answered_84 rfl rfl (ck_iload_n 86 rfl 2 dX7_answered_85 rfl rfl (have h40 := (h39.1 c17); (ck_icmp_gt 89 rfl 93 dX7_answered_86 rfl hl.2.1 hl.2.2.1 (fun c15 => (ck_iconst 94 rfl dX7_answered_93 rfl (ck_zret dX7_answered_94 rfl (by decide) (h40.1 c15)))) (fun c16 => (ck_iconst 90 rfl dX7_answered_89 rfl (ck_goto 94 dX7_answered_90 rfl (ck_zret dX7_answered_94 rfl (by decide) (h40.2 c16)))))))))) else (have h41 := (h39.2 c17); if c20 : a0 = 6 + ((5 : Nat) : Int) then (ck_tswI 5 (94) 95 dX7_answered_1 hl.1 c20 (by decide) sX7_answered_1_5 rfl (ck_iload_n 96 rfl 1 dX7_answered_95 rfl rfl (ck_iload_n 97 rfl 2 dX7_answered_96 rfl rfl (have h42 := (h41.1 c20); (ck_icmp_le 100 rfl 104 dX7_answered_97 rfl hl.2.1 hl.2.2.1 (fun c18 => (ck_iconst 105 rfl dX7_answered_104 rfl (ck_zret dX7_answered_105 rfl (by decide) (h42.1 c18)))) (fun c19 => (ck_iconst 101 rfl dX7_answered_100 rfl (ck_goto 105 dX7_answered_101 rfl (ck_zret dX7_answered_105 rfl (by decide) (h42.2 c19)))))))))) else (have h43 := (h41.2 c20); if c23 : a0 = 6 + ((6 : Nat) : Int) then (ck_tswI 6 (105) 106 dX7_answered_1 hl.1 c23 (by decide) sX7_answered_1_6 rfl (ck_iload_n 107 rfl 1 dX7_answered_106 rfl rfl (ck_iload_n 108 rfl 2 dX7_answered_107 rfl rfl (have h44 := (h43.1 c23); (ck_icmp_lt 111 rfl 115 dX7_answered_108 rfl hl.2.1 hl.2.2.1 (fun c21 => (ck_iconst 116 rfl dX7_answered_115 rfl (ck_zret dX7_answered_116 rfl (by decide) (h44.1 c21)))) (fun c22 => (ck_iconst 112 rfl dX7_answered_111 rfl (ck_goto 116 dX7_answered_112 rfl (ck_zret dX7_answered_116 rfl (by decide) (h44.2 c22)))))))))) else (have h45 := (h43.2 c23); if c26 : a0 = 6 + ((7 : Nat) : Int) then (ck_tswI 7 (116) 117 dX7_answered_1 hl.1 c26 (by decide) sX7_answered_1_7 rfl (ck_iload_n 118 rfl 1 dX7_answered_117 rfl rfl (ck_iload_n 119 rfl 2 dX7_answered_118 rfl rfl (have h46 := (h45.1 c26); (ck_icmp_ne 122 rfl 126 dX7_answered_119 rfl hl.2.1 hl.2.2.1 (fun c24 => (ck_iconst 127 rfl dX7_answered_126 rfl (ck_zret dX7_answered_127 rfl (by decide) (h46.1 c24)))) (fun c25 => (ck_iconst 123 rfl dX7_answered_122 rfl (ck_goto 127 dX7_answered_123 rfl (ck_zret dX7_answered_127 rfl (by decide) (h46.2 c25)))))))))) else (ck_tswO 128 dX7_answered_1 hl.1 (oX7_answered_1 c4 c8 c11 c14 c17 c20 c23 c26) rfl (ck_iload_n 129 rfl 1 dX7_answered_128 rfl rfl (ck_iload_n 130 rfl 2 dX7_answered_129 rfl rfl (have h47 := (h45.2 c26); (ck_icmp_eq 133 rfl 137 dX7_answered_130 rfl hl.2.1 hl.2.2.1 (fun c27 => (ck_iconst 138 rfl dX7_answered_137 rfl (ck_zret dX7_answered_138 rfl (by decide) (h47.1 c27)))) (fun c28 => (ck_iconst 134 rfl dX7_answered_133 rfl (ck_goto 138 dX7_answered_134 rfl (ck_zret dX7_answered_138 rfl (by decide) (h47.2 c28)))))))))))))))))))))
theorem p_X7_answered {g : ch_G} {A R : Nat} (hC : ck_Cx g A R) {d : Nat} {K : Option ck_V → ck_W → Prop} {w : ck_W} {a0 a1 a2 : Int} (h1 : -2000000 ≤ a1 ∧ a1 ≤ 2000000) (h2 : -2000000 ≤ a2 ∧ a2 ≤ 2000000) (h : K (some (.inl (cv_as a0 a1 a2))) w) : ck_Ex (ch_C g A R) d mX7_answered [.inl a0, .inl a1, .inl a2] w K := by
  have fin : ∀ v : Int, cv_as a0 a1 a2 = v → K (some (.inl v)) w := fun v e => by rw [← e]; exact h
  refine e_X7_answered hC ?_
  with_reducible repeat' (first | apply And.intro | intro _)
  all_goals first | omega | (refine fin _ ?_; unfold cv_as; repeat' split <;> omega)
def cv_wk (o : Int) (s : cv_S) : cv_S := if o = 8 then cv_ps (cv_pp s).2 (1 - (cv_pp s).1) else if o = 22 then cv_ps (cv_pp s).2 (-(cv_pp s).1) else cv_ps (cv_pp (cv_pp s).2).2 (if 15 ≤ o ∧ o ≤ 18 then cv_re o (cv_pp (cv_pp s).2).1 (cv_pp s).1 else cv_as o (cv_pp (cv_pp s).2).1 (cv_pp s).1)
theorem cv_wk_b {B o : Int} {s : cv_S} (hB : 1000000 ≤ B) (h : cv_b B s) : cv_b (B + 1) (cv_wk o s) := by
  have p1 := cv_pp_b (by omega) h
  have p2 := cv_pp_b (by omega) p1.1
  unfold cv_wk
  split
  · exact cv_ps_b (cv_bm p1.1 (by omega)) (by omega)
  · split
    · exact cv_ps_b (cv_bm p1.1 (by omega)) (by omega)
    · refine cv_ps_b (cv_bm p2.1 (by omega)) ?_
      split
      · have := cv_reb o (cv_pp (cv_pp s).2).1 (cv_pp s).1; omega
      · have := cv_asb o (cv_pp (cv_pp s).2).1 (cv_pp s).1; omega
theorem dX7_work_0 : decode cX7_work 0 = .ok (.aload_n 0, 1) := dk_42 (by decide +kernel)
theorem dX7_work_1 : decode cX7_work 1 = .ok (.invokevirtual 64, 3) := dk_182 0 64 (by decide +kernel)
theorem dX7_work_4 : decode cX7_work 4 = .ok (.istore_n 2, 1) := dk_61 (by decide +kernel)
theorem dX7_work_5 : decode cX7_work 5 = .ok (.iload_n 1, 1) := dk_27 (by decide +kernel)
theorem dX7_work_6 : decode cX7_work 6 = .ok (.bipush 8, 2) := dk_16 8 (by decide +kernel)
theorem dX7_work_8 : decode cX7_work 8 = .ok (.if_icmp .ne 13, 3) := dk_160 0 13 (by decide +kernel)
theorem dX7_work_11 : decode cX7_work 11 = .ok (.aload_n 0, 1) := dk_42 (by decide +kernel)
theorem dX7_work_12 : decode cX7_work 12 = .ok (.iconst 1, 1) := dk_4 (by decide +kernel)
theorem dX7_work_13 : decode cX7_work 13 = .ok (.iload_n 2, 1) := dk_28 (by decide +kernel)
theorem dX7_work_14 : decode cX7_work 14 = .ok (.isub, 1) := dk_100 (by decide +kernel)
theorem dX7_work_15 : decode cX7_work 15 = .ok (.invokevirtual 56, 3) := dk_182 0 56 (by decide +kernel)
theorem dX7_work_18 : decode cX7_work 18 = .ok (.goto 61, 3) := dk_167 0 61 (by decide +kernel)
theorem dX7_work_21 : decode cX7_work 21 = .ok (.iload_n 1, 1) := dk_27 (by decide +kernel)
theorem dX7_work_22 : decode cX7_work 22 = .ok (.bipush 22, 2) := dk_16 22 (by decide +kernel)
theorem dX7_work_24 : decode cX7_work 24 = .ok (.if_icmp .ne 12, 3) := dk_160 0 12 (by decide +kernel)
theorem dX7_work_27 : decode cX7_work 27 = .ok (.aload_n 0, 1) := dk_42 (by decide +kernel)
theorem dX7_work_28 : decode cX7_work 28 = .ok (.iload_n 2, 1) := dk_28 (by decide +kernel)
theorem dX7_work_29 : decode cX7_work 29 = .ok (.ineg, 1) := dk_116 (by decide +kernel)
theorem dX7_work_30 : decode cX7_work 30 = .ok (.invokevirtual 56, 3) := dk_182 0 56 (by decide +kernel)
theorem dX7_work_33 : decode cX7_work 33 = .ok (.goto 46, 3) := dk_167 0 46 (by decide +kernel)
theorem dX7_work_36 : decode cX7_work 36 = .ok (.aload_n 0, 1) := dk_42 (by decide +kernel)
theorem dX7_work_37 : decode cX7_work 37 = .ok (.invokevirtual 64, 3) := dk_182 0 64 (by decide +kernel)
theorem dX7_work_40 : decode cX7_work 40 = .ok (.istore_n 3, 1) := dk_62 (by decide +kernel)
theorem dX7_work_41 : decode cX7_work 41 = .ok (.aload_n 0, 1) := dk_42 (by decide +kernel)
theorem dX7_work_42 : decode cX7_work 42 = .ok (.iload_n 1, 1) := dk_27 (by decide +kernel)
theorem dX7_work_43 : decode cX7_work 43 = .ok (.bipush 15, 2) := dk_16 15 (by decide +kernel)
theorem dX7_work_45 : decode cX7_work 45 = .ok (.bipush 18, 2) := dk_16 18 (by decide +kernel)
theorem dX7_work_47 : decode cX7_work 47 = .ok (.invokestatic 91, 3) := dk_184 0 91 (by decide +kernel)
theorem dX7_work_50 : decode cX7_work 50 = .ok (.ifCond .eq 12, 3) := dk_153 0 12 (by decide +kernel)
theorem dX7_work_53 : decode cX7_work 53 = .ok (.iload_n 1, 1) := dk_27 (by decide +kernel)
theorem dX7_work_54 : decode cX7_work 54 = .ok (.iload_n 3, 1) := dk_29 (by decide +kernel)
theorem dX7_work_55 : decode cX7_work 55 = .ok (.iload_n 2, 1) := dk_28 (by decide +kernel)
theorem dX7_work_56 : decode cX7_work 56 = .ok (.invokestatic 95, 3) := dk_184 0 95 (by decide +kernel)
theorem dX7_work_59 : decode cX7_work 59 = .ok (.goto 17, 3) := dk_167 0 17 (by decide +kernel)
theorem dX7_work_62 : decode cX7_work 62 = .ok (.iload_n 1, 1) := dk_27 (by decide +kernel)
theorem dX7_work_63 : decode cX7_work 63 = .ok (.iload_n 3, 1) := dk_29 (by decide +kernel)
theorem dX7_work_64 : decode cX7_work 64 = .ok (.iload_n 2, 1) := dk_28 (by decide +kernel)
theorem dX7_work_65 : decode cX7_work 65 = .ok (.invokestatic 98, 3) := dk_184 0 98 (by decide +kernel)
theorem dX7_work_68 : decode cX7_work 68 = .ok (.ifCond .eq 7, 3) := dk_153 0 7 (by decide +kernel)
theorem dX7_work_71 : decode cX7_work 71 = .ok (.iconst 1, 1) := dk_4 (by decide +kernel)
theorem dX7_work_72 : decode cX7_work 72 = .ok (.goto 4, 3) := dk_167 0 4 (by decide +kernel)
theorem dX7_work_75 : decode cX7_work 75 = .ok (.iconst 0, 1) := dk_3 (by decide +kernel)
theorem dX7_work_76 : decode cX7_work 76 = .ok (.invokevirtual 56, 3) := dk_182 0 56 (by decide +kernel)
theorem dX7_work_79 : decode cX7_work 79 = .ok (.return_, 1) := dk_177 (by decide +kernel)
set_option maxRecDepth 8000 in
theorem e_X7_work {g : ch_G} {A R : Nat} (hC : ck_Cx g A R) {d : Nat} {K : Option ck_V → ck_W → Prop} {w : ck_W} {a1 : Int} (h : ck_CI (ch_C g A R) d mX7_pop [.inr (.inr 70)] w (fun v2 w1 => (¬ a1 = 8 → (¬ a1 = 22 → ck_CI (ch_C g A R) d mX7_pop [.inr (.inr 70)] w1 (fun v6 w5 => (15 ≤ a1 ∧ a1 ≤ 18 → ck_CI (ch_C g A R) d mX7_reckoned [.inl a1, .inl v6, .inl v2] w5 (fun v10 w9 => ck_CN (ch_C g A R) d mX7_push [.inr (.inr 70), .inl v10] w9 (fun w13 => K none w13))) ∧ (¬ (15 ≤ a1 ∧ a1 ≤ 18) → ck_CI (ch_C g A R) d mX7_answered [.inl a1, .inl v6, .inl v2] w5 (fun v16 w15 => (v16 = 0 → ck_CN (ch_C g A R) d mX7_push [.inr (.inr 70), .inl 0] w15 (fun w19 => K none w19)) ∧ (¬ v16 = 0 → ck_CN (ch_C g A R) d mX7_push [.inr (.inr 70), .inl 1] w15 (fun w21 => K none w21)))))) ∧ (a1 = 22 → ck_i (-v2) ∧ (ck_CN (ch_C g A R) d mX7_push [.inr (.inr 70), .inl (-v2)] w1 (fun w29 => K none w29)))) ∧ (a1 = 8 → ck_i (1 - v2) ∧ (ck_CN (ch_C g A R) d mX7_push [.inr (.inr 70), .inl (1 - v2)] w1 (fun w34 => K none w34))))) : ck_Ex (ch_C g A R) (d + 1) mX7_work [.inr (.inr 70), .inl a1] w K :=
  ck_entry hC.1 [some (.inr (.inr 70)), some (.inl a1), none, none] (by decide) (Nat.le_of_ble_eq_true rfl) rfl (fun q => q) (ck_in (fun hl => (ck_aload_n 1 rfl 0 dX7_work_0 rfl rfl (ck_callV 4 rfl [] [] dX7_work_1 cv_X7_64 sh_70 rfl rfl (Nat.le_of_ble_eq_true rfl) True.intro (ck_mI h (fun v2 w1 q3 h4 => (ck_istore_n 5 rfl 2 [some (.inr (.inr 70)), some (.inl a1), some (.inl v2), none] dX7_work_4 rfl (Nat.le_of_ble_eq_true rfl) rfl rfl q3 (ck_iload_n 6 rfl 1 dX7_work_5 rfl rfl (ck_bipush 8 rfl dX7_work_6 rfl (ck_icmp_ne 11 rfl 21 dX7_work_8 rfl hl.2.1 (show ck_i 8 by decide) (fun c36 => (ck_iload_n 22 rfl 1 dX7_work_21 rfl rfl (ck_bipush 24 rfl dX7_work_22 rfl (have h38 := (h4.1 c36); (ck_icmp_ne 27 rfl 36 dX7_work_24 rfl hl.2.1 (show ck_i 22 by decide) (fun c31 => (ck_aload_n 37 rfl 0 dX7_work_36 rfl rfl (ck_callV 40 rfl [] [] dX7_work_37 cv_X7_64 sh_70 rfl rfl (Nat.le_of_ble_eq_true rfl) True.intro (ck_mI (h38.1 c31) (fun v6 w5 q7 h8 => (ck_istore_n 41 rfl 3 [some (.inr (.inr 70)), some (.inl a1), some (.inl v2), some (.inl v6)] dX7_work_40 rfl (Nat.le_of_ble_eq_true rfl) rfl rfl q7 (ck_aload_n 42 rfl 0 dX7_work_41 rfl rfl (ck_iload_n 43 rfl 1 dX7_work_42 rfl rfl (ck_bipush 45 rfl dX7_work_43 rfl (ck_bipush 47 rfl dX7_work_45 rfl (have h27 := h8; ck_callSN 50 rfl [.inl a1, .inl 15, .inl 18] [.inr (.inr 70)] dX7_work_47 cn_X7_91 rfl rfl (Nat.le_of_ble_eq_true rfl) (And.intro hl.2.1 (And.intro (show ck_i 15 by decide) (And.intro (show ck_i 18 by decide) True.intro))) (p_X11_within hC (fun c25 _ => (ck_if_eq 53 rfl 62 dX7_work_50 rfl (by decide) (fun q => absurd q (by decide)) (fun _ => (ck_iload_n 54 rfl 1 dX7_work_53 rfl rfl (ck_iload_n 55 rfl 3 dX7_work_54 rfl rfl (ck_iload_n 56 rfl 2 dX7_work_55 rfl rfl (ck_callS 59 rfl [.inl a1, .inl v6, .inl v2] [.inr (.inr 70)] dX7_work_56 cs_X7_95 rfl rfl (Nat.le_of_ble_eq_true rfl) (And.intro hl.2.1 (And.intro q7 (And.intro q3 True.intro))) (ck_mI (h27.1 c25) (fun v10 w9 q11 h12 => (ck_goto 76 dX7_work_59 rfl (ck_callV 79 rfl [.inl v10] [] dX7_work_76 cv_X7_56 sh_70 rfl rfl (Nat.le_of_ble_eq_true rfl) (And.intro q11 True.intro) (ck_mN h12 (fun w13 h14 => (ck_vret dX7_work_79 rfl h14)))))))))))))) (fun c26 _ => (ck_if_eq 53 rfl 62 dX7_work_50 rfl (by decide) (fun _ => (ck_iload_n 63 rfl 1 dX7_work_62 rfl rfl (ck_iload_n 64 rfl 3 dX7_work_63 rfl rfl (ck_iload_n 65 rfl 2 dX7_work_64 rfl rfl (ck_callS 68 rfl [.inl a1, .inl v6, .inl v2] [.inr (.inr 70)] dX7_work_65 cs_X7_98 rfl rfl (Nat.le_of_ble_eq_true rfl) (And.intro hl.2.1 (And.intro q7 (And.intro q3 True.intro))) (ck_mI (h27.2 c26) (fun v16 w15 q17 h18 => (ck_if_eq 71 rfl 75 dX7_work_68 rfl q17 (fun c23 => (ck_iconst 76 rfl dX7_work_75 rfl (ck_callV 79 rfl [.inl 0] [] dX7_work_76 cv_X7_56 sh_70 rfl rfl (Nat.le_of_ble_eq_true rfl) (And.intro (show ck_i 0 by decide) True.intro) (ck_mN (h18.1 c23) (fun w19 h20 => (ck_vret dX7_work_79 rfl h20)))))) (fun c24 => (ck_iconst 72 rfl dX7_work_71 rfl (ck_goto 76 dX7_work_72 rfl (ck_callV 79 rfl [.inl 1] [] dX7_work_76 cv_X7_56 sh_70 rfl rfl (Nat.le_of_ble_eq_true rfl) (And.intro (show ck_i 1 by decide) True.intro) (ck_mN (h18.2 c24) (fun w21 h22 => (ck_vret dX7_work_79 rfl h22))))))))))))))) (fun q => absurd q (by decide)))))))))))))))) (fun c32 => (ck_aload_n 28 rfl 0 dX7_work_27 rfl rfl (ck_iload_n 29 rfl 2 dX7_work_28 rfl rfl (ck_ineg 30 rfl dX7_work_29 (have h40 := (h38.2 c32); have o28 := h40.1; have h39 := h40.2; (ck_callV 33 rfl [.inl (-v2)] [] dX7_work_30 cv_X7_56 sh_70 rfl rfl (Nat.le_of_ble_eq_true rfl) (And.intro o28 True.intro) (ck_mN h39 (fun w29 h30 => (ck_goto 79 dX7_work_33 rfl (ck_vret dX7_work_79 rfl h30))))))))))))))) (fun c37 => (ck_aload_n 12 rfl 0 dX7_work_11 rfl rfl (ck_iconst 13 rfl dX7_work_12 rfl (ck_iload_n 14 rfl 2 dX7_work_13 rfl rfl (ck_isub 15 rfl dX7_work_14 (have h42 := (h4.2 c37); have o33 := h42.1; have h41 := h42.2; (ck_callV 18 rfl [.inl (1 - v2)] [] dX7_work_15 cv_X7_56 sh_70 rfl rfl (Nat.le_of_ble_eq_true rfl) (And.intro o33 True.intro) (ck_mN h41 (fun w34 h35 => (ck_goto 79 dX7_work_18 rfl (ck_vret dX7_work_79 rfl h35)))))))))))))))))))))
theorem p_X7_work {g : ch_G} {A R : Nat} (hC : ck_Cx g A R) {d : Nat} {K : Option ck_V → ck_W → Prop} {w : ck_W} {a1 B : Int} {w0 : ck_W} {s : cv_S} (hB : 1000000 ≤ B ∧ B ≤ 1900000) (hb : cv_b B s) (hs : cv_at w0 w s) (h : ∀ w', cv_at w0 w' (cv_wk a1 s) → K none w') : ck_Ex (ch_C g A R) (d + 2) mX7_work [.inr (.inr 70), .inl a1] w K := by
  have p1 := cv_pp_b (by omega) hb
  have p2 := cv_pp_b (by omega) p1.1
  unfold cv_wk at h
  refine e_X7_work hC (p_X7_pop hC hs (fun w1 k1 => ⟨_, rfl, fun _ => ⟨fun q => ⟨fun q2 => p_X7_pop hC k1 (fun w2 k2 => ⟨_, rfl, fun _ => ⟨fun q3 => p_X7_reckoned hC (by omega) (by omega) ⟨_, rfl, fun _ => p_X7_push hC k2 (fun w3 k3 => ⟨rfl, h w3 ?_⟩)⟩, fun q3 => p_X7_answered hC (by omega) (by omega) ⟨_, rfl, fun _ => ⟨fun z => p_X7_push hC k2 (fun w3 k3 => ⟨rfl, h w3 ?_⟩), fun z => p_X7_push hC k2 (fun w3 k3 => ⟨rfl, h w3 ?_⟩)⟩⟩⟩⟩), fun q2 => ⟨by constructor <;> omega, p_X7_push hC k1 (fun w3 k3 => ⟨rfl, h w3 ?_⟩)⟩⟩, fun q => ⟨by constructor <;> omega, p_X7_push hC k1 (fun w3 k3 => ⟨rfl, h w3 ?_⟩)⟩⟩⟩))
  · rw [if_neg q, if_neg q2, if_pos q3]; exact k3
  · rw [if_neg q, if_neg q2, if_neg q3, z]; exact k3
  · rw [if_neg q, if_neg q2, if_neg q3, show cv_as a1 (cv_pp (cv_pp s).2).1 (cv_pp s).1 = 1 from (cv_asb a1 _ _).resolve_left z]; exact k3
  · rw [if_neg q, if_pos q2]; exact k3
  · rw [if_pos q]; exact k3
/-- crack as it may be -/
def cs_Yc (A R : Nat) (w : ck_W) : Prop := ∀ j, 0 ≤ j → j < ((6 * A * R : Nat) : Int) → 0 ≤ w 5 j ∧ w 5 j ≤ 9
def cv_g (A R : Nat) (w : ck_W) (z a r : Int) : Int := if 0 ≤ r ∧ r < (R : Int) then w 4 (cs_at A R z a r) else 0
def cv_k (A R : Nat) (w : ck_W) (z p : Int) : Int := w 5 (cs_at A R z (p % (A : Int)) (w 62 (z * 24 + p)))
/-- what a name says at a place -/
def cv_v (A R : Nat) (w : ck_W) (z p n : Int) : Int := if n = 0 then cv_g A R w z (p % (A : Int)) (w 62 (z * 24 + p)) else if n = 1 then cv_k A R w z p else if n = 2 then w 62 (z * 24 + p) else if n = 3 then p / (A : Int) else if n = 4 then p % (A : Int) else if n = 5 then z else if n = 6 then cv_g A R w z (p % (A : Int)) (w 62 (z * 24 + p) - 1) else if n = 7 then cv_g A R w z (p % (A : Int)) (w 62 (z * 24 + p) + 1) else cv_k A R w z p - if p = 0 then 0 else cv_k A R w z (p - 1)
/-- what a reader's run needs of the rest -/
def cv_H (A R : Nat) (w : ck_W) : Prop := cs_D A R w ∧ cs_Y A R w ∧ cs_Yc A R w ∧ ∀ j, 0 ≤ j → j < 144 → 0 ≤ w 62 j ∧ w 62 j < (R : Int)
theorem cv_H_fr {A R : Nat} {w0 w : ck_W} {s : cv_S} (h : cv_H A R w0) (hs : cv_at w0 w s) : cv_H A R w := by
  unfold cv_H cs_D cs_Y cs_Yc
  rw [hs.1 3 (by decide) (by decide), hs.1 4 (by decide) (by decide), hs.1 5 (by decide) (by decide), hs.1 62 (by decide) (by decide)]
  exact h
theorem cv_v_fr {A R : Nat} {w0 w : ck_W} {s : cv_S} (hs : cv_at w0 w s) (z p n : Int) : cv_v A R w z p n = cv_v A R w0 z p n := by
  unfold cv_v cv_g cv_k
  rw [hs.1 4 (by decide) (by decide), hs.1 5 (by decide) (by decide), hs.1 62 (by decide) (by decide)]
theorem cv_kb {A R : Nat} {g : ch_G} (hC : ck_Cx g A R) {w : ck_W} (hH : cv_H A R w) {z p : Int} (hz : 0 ≤ z ∧ z ≤ 5) (hp : 0 ≤ p ∧ p < 24) : cs_ok A R z (p % (A : Int)) (w 62 (z * 24 + p)) ∧ 0 ≤ cv_k A R w z p ∧ cv_k A R w z p ≤ 9 := by
  have c := cs_ar hC
  have m0 := Int.emod_nonneg p (b := (A : Int)) (by omega)
  have m1 := Int.emod_lt_of_pos p (b := (A : Int)) (by omega)
  have r := hH.2.2.2 (z * 24 + p) (by omega) (by omega)
  have ok : cs_ok A R z (p % (A : Int)) (w 62 (z * 24 + p)) := ⟨hz, ⟨m0, m1⟩, r⟩
  have b := cs_atb hC ok
  exact ⟨ok, hH.2.2.1 _ b.1 b.2.1⟩
theorem cv_gb {A R : Nat} {g : ch_G} (hC : ck_Cx g A R) {w : ck_W} (hH : cv_H A R w) {z a r : Int} (hz : 0 ≤ z ∧ z ≤ 5) (ha : 0 ≤ a ∧ a < (A : Int)) : 0 ≤ cv_g A R w z a r ∧ cv_g A R w z a r ≤ 9 := by
  unfold cv_g
  split
  · rename_i e
    have b := cs_atb hC (z := z) (a := a) (r := r) ⟨hz, ha, e⟩
    exact hH.2.1 _ b.1 b.2.1
  · omega
theorem cv_vb {A R : Nat} {g : ch_G} (hC : ck_Cx g A R) {w : ck_W} (hH : cv_H A R w) {z p n : Int} (hz : 0 ≤ z ∧ z ≤ 5) (hp : 0 ≤ p ∧ p < 24) : -100 ≤ cv_v A R w z p n ∧ cv_v A R w z p n ≤ 100 := by
  have c := cs_ar hC
  have k := cv_kb hC hH hz hp
  have m := k.1.2.1
  have r := k.1.2.2
  have g0 := cv_gb hC hH (r := w 62 (z * 24 + p)) hz m
  have g1 := cv_gb hC hH (r := w 62 (z * 24 + p) - 1) hz m
  have g2 := cv_gb hC hH (r := w 62 (z * 24 + p) + 1) hz m
  have q0 : 0 ≤ p / (A : Int) := Int.ediv_nonneg hp.1 (by omega)
  have q1 : p / (A : Int) ≤ p := Int.ediv_le_self _ hp.1
  have kb : p = 0 ∨ (0 ≤ cv_k A R w z (p - 1) ∧ cv_k A R w z (p - 1) ≤ 9) := by
    by_cases e : p = 0
    · exact Or.inl e
    · exact Or.inr (cv_kb hC hH hz (p := p - 1) (by omega)).2
  unfold cv_v
  repeat' split <;> omega
theorem p_greyAt2 {g : ch_G} {A R : Nat} (hC : ck_Cx g A R) {d : Nat} {K : Option ck_V → ck_W → Prop} {w : ck_W} {a1 a2 a3 : Int} (hD : cs_D A R w) (h1 : 0 ≤ a1 ∧ a1 ≤ 5) (h2 : 0 ≤ a2 ∧ a2 < (A : Int)) (h : K (some (.inl (cv_g A R w a1 a2 a3))) w) : ck_Ex (ch_C g A R) (d + 1) mX5_greyAt [.inr (.inr 3), .inl a1, .inl a2, .inl a3] w K := by
  unfold cv_g at h
  exact p_X5_greyAt hC hD (fun ok => by rw [if_pos ok.2.2] at h; exact h) (fun no => by rw [if_neg (fun y => no ⟨h1, h2, y⟩)] at h; exact h)
theorem dX7_crackBefore_0 : decode cX7_crackBefore 0 = .ok (.iload_n 2, 1) := dk_28 (by decide +kernel)
theorem dX7_crackBefore_1 : decode cX7_crackBefore 1 = .ok (.ifCond .ne 5, 3) := dk_154 0 5 (by decide +kernel)
theorem dX7_crackBefore_4 : decode cX7_crackBefore 4 = .ok (.iconst 0, 1) := dk_3 (by decide +kernel)
theorem dX7_crackBefore_5 : decode cX7_crackBefore 5 = .ok (.ireturn, 1) := dk_172 (by decide +kernel)
theorem dX7_crackBefore_6 : decode cX7_crackBefore 6 = .ok (.aload_n 0, 1) := dk_42 (by decide +kernel)
theorem dX7_crackBefore_7 : decode cX7_crackBefore 7 = .ok (.getfield 15, 3) := dk_180 0 15 (by decide +kernel)
theorem dX7_crackBefore_10 : decode cX7_crackBefore 10 = .ok (.iload_n 1, 1) := dk_27 (by decide +kernel)
theorem dX7_crackBefore_11 : decode cX7_crackBefore 11 = .ok (.aload_n 0, 1) := dk_42 (by decide +kernel)
theorem dX7_crackBefore_12 : decode cX7_crackBefore 12 = .ok (.getfield 15, 3) := dk_180 0 15 (by decide +kernel)
theorem dX7_crackBefore_15 : decode cX7_crackBefore 15 = .ok (.iload_n 2, 1) := dk_28 (by decide +kernel)
theorem dX7_crackBefore_16 : decode cX7_crackBefore 16 = .ok (.iconst 1, 1) := dk_4 (by decide +kernel)
theorem dX7_crackBefore_17 : decode cX7_crackBefore 17 = .ok (.isub, 1) := dk_100 (by decide +kernel)
theorem dX7_crackBefore_18 : decode cX7_crackBefore 18 = .ok (.invokevirtual 75, 3) := dk_182 0 75 (by decide +kernel)
theorem dX7_crackBefore_21 : decode cX7_crackBefore 21 = .ok (.aload_n 0, 1) := dk_42 (by decide +kernel)
theorem dX7_crackBefore_22 : decode cX7_crackBefore 22 = .ok (.getfield 23, 3) := dk_180 0 23 (by decide +kernel)
theorem dX7_crackBefore_25 : decode cX7_crackBefore 25 = .ok (.iload_n 1, 1) := dk_27 (by decide +kernel)
theorem dX7_crackBefore_26 : decode cX7_crackBefore 26 = .ok (.iload_n 2, 1) := dk_28 (by decide +kernel)
theorem dX7_crackBefore_27 : decode cX7_crackBefore 27 = .ok (.iconst 1, 1) := dk_4 (by decide +kernel)
theorem dX7_crackBefore_28 : decode cX7_crackBefore 28 = .ok (.isub, 1) := dk_100 (by decide +kernel)
theorem dX7_crackBefore_29 : decode cX7_crackBefore 29 = .ok (.invokevirtual 71, 3) := dk_182 0 71 (by decide +kernel)
theorem dX7_crackBefore_32 : decode cX7_crackBefore 32 = .ok (.invokevirtual 82, 3) := dk_182 0 82 (by decide +kernel)
theorem dX7_crackBefore_35 : decode cX7_crackBefore 35 = .ok (.ireturn, 1) := dk_172 (by decide +kernel)
set_option maxRecDepth 8000 in
theorem e_X7_crackBefore {g : ch_G} {A R : Nat} (hC : ck_Cx g A R) {d : Nat} {K : Option ck_V → ck_W → Prop} {w : ck_W} {a1 a2 : Int} (h : (¬ a2 = 0 → ck_i (a2 - 1) ∧ (ck_CI (ch_C g A R) d mX5_angleOf [.inr (.inr 3), .inl (a2 - 1)] w (fun v3 w2 => ck_CI (ch_C g A R) d mX10_radiusAt [.inr (.inr 51), .inl a1, .inl (a2 - 1)] w2 (fun v7 w6 => ck_CI (ch_C g A R) d mX5_crackAt [.inr (.inr 3), .inl a1, .inl v3, .inl v7] w6 (fun v11 w10 => K (some (.inl v11)) w10))))) ∧ (a2 = 0 → K (some (.inl 0)) w)) : ck_Ex (ch_C g A R) (d + 1) mX7_crackBefore [.inr (.inr 70), .inl a1, .inl a2] w K :=
  ck_entry hC.1 [some (.inr (.inr 70)), some (.inl a1), some (.inl a2)] (by decide) (Nat.le_of_ble_eq_true rfl) rfl (fun q => q) (ck_in (fun hl => (ck_iload_n 1 rfl 2 dX7_crackBefore_0 rfl rfl (ck_if_ne 4 rfl 6 dX7_crackBefore_1 rfl hl.2.2.1 (fun c14 => (ck_aload_n 7 rfl 0 dX7_crackBefore_6 rfl rfl (ck_getr 10 rfl dX7_crackBefore_7 fl_X7_15 sh_70 rfl (ck_iload_n 11 rfl 1 dX7_crackBefore_10 rfl rfl (ck_aload_n 12 rfl 0 dX7_crackBefore_11 rfl rfl (ck_getr 15 rfl dX7_crackBefore_12 fl_X7_15 sh_70 rfl (ck_iload_n 16 rfl 2 dX7_crackBefore_15 rfl rfl (ck_iconst 17 rfl dX7_crackBefore_16 rfl (ck_isub 18 rfl dX7_crackBefore_17 (have h17 := (h.1 c14); have o1 := h17.1; have h16 := h17.2; (ck_callV 21 rfl [.inl (a2 - 1)] [.inl a1, .inr (.inr 3)] dX7_crackBefore_18 cv_X7_75 sh_3 rfl rfl (Nat.le_of_ble_eq_true rfl) (And.intro o1 True.intro) (ck_mI h16 (fun v3 w2 q4 h5 => (ck_aload_n 22 rfl 0 dX7_crackBefore_21 rfl rfl (ck_getr 25 rfl dX7_crackBefore_22 fl_X7_23 sh_70 rfl (ck_iload_n 26 rfl 1 dX7_crackBefore_25 rfl rfl (ck_iload_n 27 rfl 2 dX7_crackBefore_26 rfl rfl (ck_iconst 28 rfl dX7_crackBefore_27 rfl (ck_isub 29 rfl dX7_crackBefore_28 (ck_callV 32 rfl [.inl a1, .inl (a2 - 1)] [.inl v3, .inl a1, .inr (.inr 3)] dX7_crackBefore_29 cv_X7_71 sh_51 rfl rfl (Nat.le_of_ble_eq_true rfl) (And.intro hl.2.1 (And.intro o1 True.intro)) (ck_mI h5 (fun v7 w6 q8 h9 => (ck_callV 35 rfl [.inl a1, .inl v3, .inl v7] [] dX7_crackBefore_32 cv_X7_82 sh_3 rfl rfl (Nat.le_of_ble_eq_true rfl) (And.intro hl.2.1 (And.intro q4 (And.intro q8 True.intro))) (ck_mI h9 (fun v11 w10 q12 h13 => (ck_iret dX7_crackBefore_35 rfl q12 h13)))))))))))))))))))))))))) (fun c15 => (ck_iconst 5 rfl dX7_crackBefore_4 rfl (ck_iret dX7_crackBefore_5 rfl (show ck_i 0 by decide) (h.2 c15))))))))
theorem dX7_valueOf_0 : decode cX7_valueOf 0 = .ok (.aload_n 0, 1) := dk_42 (by decide +kernel)
theorem dX7_valueOf_1 : decode cX7_valueOf 1 = .ok (.getfield 23, 3) := dk_180 0 23 (by decide +kernel)
theorem dX7_valueOf_4 : decode cX7_valueOf 4 = .ok (.iload_n 2, 1) := dk_28 (by decide +kernel)
theorem dX7_valueOf_5 : decode cX7_valueOf 5 = .ok (.iload_n 3, 1) := dk_29 (by decide +kernel)
theorem dX7_valueOf_6 : decode cX7_valueOf 6 = .ok (.invokevirtual 71, 3) := dk_182 0 71 (by decide +kernel)
theorem dX7_valueOf_9 : decode cX7_valueOf 9 = .ok (.istore 4, 2) := dk_54 (by decide +kernel)
theorem dX7_valueOf_11 : decode cX7_valueOf 11 = .ok (.aload_n 0, 1) := dk_42 (by decide +kernel)
theorem dX7_valueOf_12 : decode cX7_valueOf 12 = .ok (.getfield 15, 3) := dk_180 0 15 (by decide +kernel)
theorem dX7_valueOf_15 : decode cX7_valueOf 15 = .ok (.iload_n 3, 1) := dk_29 (by decide +kernel)
theorem dX7_valueOf_16 : decode cX7_valueOf 16 = .ok (.invokevirtual 75, 3) := dk_182 0 75 (by decide +kernel)
theorem dX7_valueOf_19 : decode cX7_valueOf 19 = .ok (.istore 5, 2) := dk_54 (by decide +kernel)
theorem dX7_valueOf_21 : decode cX7_valueOf 21 = .ok (.iload_n 1, 1) := dk_27 (by decide +kernel)
theorem dX7_valueOf_22 : decode cX7_valueOf 22 = .ok (.tableswitch 119 0 7 #[46, 59, 72, 75, 84, 87, 89, 104], 46) := by decide +kernel
theorem dX7_valueOf_68 : decode cX7_valueOf 68 = .ok (.aload_n 0, 1) := dk_42 (by decide +kernel)
theorem dX7_valueOf_69 : decode cX7_valueOf 69 = .ok (.getfield 15, 3) := dk_180 0 15 (by decide +kernel)
theorem dX7_valueOf_72 : decode cX7_valueOf 72 = .ok (.iload_n 2, 1) := dk_28 (by decide +kernel)
theorem dX7_valueOf_73 : decode cX7_valueOf 73 = .ok (.iload 5, 2) := dk_21 (by decide +kernel)
theorem dX7_valueOf_75 : decode cX7_valueOf 75 = .ok (.iload 4, 2) := dk_21 (by decide +kernel)
theorem dX7_valueOf_77 : decode cX7_valueOf 77 = .ok (.invokevirtual 79, 3) := dk_182 0 79 (by decide +kernel)
theorem dX7_valueOf_80 : decode cX7_valueOf 80 = .ok (.ireturn, 1) := dk_172 (by decide +kernel)
theorem dX7_valueOf_81 : decode cX7_valueOf 81 = .ok (.aload_n 0, 1) := dk_42 (by decide +kernel)
theorem dX7_valueOf_82 : decode cX7_valueOf 82 = .ok (.getfield 15, 3) := dk_180 0 15 (by decide +kernel)
theorem dX7_valueOf_85 : decode cX7_valueOf 85 = .ok (.iload_n 2, 1) := dk_28 (by decide +kernel)
theorem dX7_valueOf_86 : decode cX7_valueOf 86 = .ok (.iload 5, 2) := dk_21 (by decide +kernel)
theorem dX7_valueOf_88 : decode cX7_valueOf 88 = .ok (.iload 4, 2) := dk_21 (by decide +kernel)
theorem dX7_valueOf_90 : decode cX7_valueOf 90 = .ok (.invokevirtual 82, 3) := dk_182 0 82 (by decide +kernel)
theorem dX7_valueOf_93 : decode cX7_valueOf 93 = .ok (.ireturn, 1) := dk_172 (by decide +kernel)
theorem dX7_valueOf_94 : decode cX7_valueOf 94 = .ok (.iload 4, 2) := dk_21 (by decide +kernel)
theorem dX7_valueOf_96 : decode cX7_valueOf 96 = .ok (.ireturn, 1) := dk_172 (by decide +kernel)
theorem dX7_valueOf_97 : decode cX7_valueOf 97 = .ok (.aload_n 0, 1) := dk_42 (by decide +kernel)
theorem dX7_valueOf_98 : decode cX7_valueOf 98 = .ok (.getfield 15, 3) := dk_180 0 15 (by decide +kernel)
theorem dX7_valueOf_101 : decode cX7_valueOf 101 = .ok (.iload_n 3, 1) := dk_29 (by decide +kernel)
theorem dX7_valueOf_102 : decode cX7_valueOf 102 = .ok (.invokevirtual 85, 3) := dk_182 0 85 (by decide +kernel)
theorem dX7_valueOf_105 : decode cX7_valueOf 105 = .ok (.ireturn, 1) := dk_172 (by decide +kernel)
theorem dX7_valueOf_106 : decode cX7_valueOf 106 = .ok (.iload 5, 2) := dk_21 (by decide +kernel)
theorem dX7_valueOf_108 : decode cX7_valueOf 108 = .ok (.ireturn, 1) := dk_172 (by decide +kernel)
theorem dX7_valueOf_109 : decode cX7_valueOf 109 = .ok (.iload_n 2, 1) := dk_28 (by decide +kernel)
theorem dX7_valueOf_110 : decode cX7_valueOf 110 = .ok (.ireturn, 1) := dk_172 (by decide +kernel)
theorem dX7_valueOf_111 : decode cX7_valueOf 111 = .ok (.aload_n 0, 1) := dk_42 (by decide +kernel)
theorem dX7_valueOf_112 : decode cX7_valueOf 112 = .ok (.getfield 15, 3) := dk_180 0 15 (by decide +kernel)
theorem dX7_valueOf_115 : decode cX7_valueOf 115 = .ok (.iload_n 2, 1) := dk_28 (by decide +kernel)
theorem dX7_valueOf_116 : decode cX7_valueOf 116 = .ok (.iload 5, 2) := dk_21 (by decide +kernel)
theorem dX7_valueOf_118 : decode cX7_valueOf 118 = .ok (.iload 4, 2) := dk_21 (by decide +kernel)
theorem dX7_valueOf_120 : decode cX7_valueOf 120 = .ok (.iconst 1, 1) := dk_4 (by decide +kernel)
theorem dX7_valueOf_121 : decode cX7_valueOf 121 = .ok (.isub, 1) := dk_100 (by decide +kernel)
theorem dX7_valueOf_122 : decode cX7_valueOf 122 = .ok (.invokevirtual 79, 3) := dk_182 0 79 (by decide +kernel)
theorem dX7_valueOf_125 : decode cX7_valueOf 125 = .ok (.ireturn, 1) := dk_172 (by decide +kernel)
theorem dX7_valueOf_126 : decode cX7_valueOf 126 = .ok (.aload_n 0, 1) := dk_42 (by decide +kernel)
theorem dX7_valueOf_127 : decode cX7_valueOf 127 = .ok (.getfield 15, 3) := dk_180 0 15 (by decide +kernel)
theorem dX7_valueOf_130 : decode cX7_valueOf 130 = .ok (.iload_n 2, 1) := dk_28 (by decide +kernel)
theorem dX7_valueOf_131 : decode cX7_valueOf 131 = .ok (.iload 5, 2) := dk_21 (by decide +kernel)
theorem dX7_valueOf_133 : decode cX7_valueOf 133 = .ok (.iload 4, 2) := dk_21 (by decide +kernel)
theorem dX7_valueOf_135 : decode cX7_valueOf 135 = .ok (.iconst 1, 1) := dk_4 (by decide +kernel)
theorem dX7_valueOf_136 : decode cX7_valueOf 136 = .ok (.iadd, 1) := dk_96 (by decide +kernel)
theorem dX7_valueOf_137 : decode cX7_valueOf 137 = .ok (.invokevirtual 79, 3) := dk_182 0 79 (by decide +kernel)
theorem dX7_valueOf_140 : decode cX7_valueOf 140 = .ok (.ireturn, 1) := dk_172 (by decide +kernel)
theorem dX7_valueOf_141 : decode cX7_valueOf 141 = .ok (.aload_n 0, 1) := dk_42 (by decide +kernel)
theorem dX7_valueOf_142 : decode cX7_valueOf 142 = .ok (.getfield 15, 3) := dk_180 0 15 (by decide +kernel)
theorem dX7_valueOf_145 : decode cX7_valueOf 145 = .ok (.iload_n 2, 1) := dk_28 (by decide +kernel)
theorem dX7_valueOf_146 : decode cX7_valueOf 146 = .ok (.iload 5, 2) := dk_21 (by decide +kernel)
theorem dX7_valueOf_148 : decode cX7_valueOf 148 = .ok (.iload 4, 2) := dk_21 (by decide +kernel)
theorem dX7_valueOf_150 : decode cX7_valueOf 150 = .ok (.invokevirtual 82, 3) := dk_182 0 82 (by decide +kernel)
theorem dX7_valueOf_153 : decode cX7_valueOf 153 = .ok (.aload_n 0, 1) := dk_42 (by decide +kernel)
theorem dX7_valueOf_154 : decode cX7_valueOf 154 = .ok (.iload_n 2, 1) := dk_28 (by decide +kernel)
theorem dX7_valueOf_155 : decode cX7_valueOf 155 = .ok (.iload_n 3, 1) := dk_29 (by decide +kernel)
theorem dX7_valueOf_156 : decode cX7_valueOf 156 = .ok (.invokevirtual 88, 3) := dk_182 0 88 (by decide +kernel)
theorem dX7_valueOf_159 : decode cX7_valueOf 159 = .ok (.isub, 1) := dk_100 (by decide +kernel)
theorem dX7_valueOf_160 : decode cX7_valueOf 160 = .ok (.ireturn, 1) := dk_172 (by decide +kernel)
set_option maxRecDepth 8000 in
theorem sX7_valueOf_22_0 : (#[46, 59, 72, 75, 84, 87, 89, 104] : Array Int)[0]? = some (46) := by decide +kernel
set_option maxRecDepth 8000 in
theorem sX7_valueOf_22_1 : (#[46, 59, 72, 75, 84, 87, 89, 104] : Array Int)[1]? = some (59) := by decide +kernel
set_option maxRecDepth 8000 in
theorem sX7_valueOf_22_2 : (#[46, 59, 72, 75, 84, 87, 89, 104] : Array Int)[2]? = some (72) := by decide +kernel
set_option maxRecDepth 8000 in
theorem sX7_valueOf_22_3 : (#[46, 59, 72, 75, 84, 87, 89, 104] : Array Int)[3]? = some (75) := by decide +kernel
set_option maxRecDepth 8000 in
theorem sX7_valueOf_22_4 : (#[46, 59, 72, 75, 84, 87, 89, 104] : Array Int)[4]? = some (84) := by decide +kernel
set_option maxRecDepth 8000 in
theorem sX7_valueOf_22_5 : (#[46, 59, 72, 75, 84, 87, 89, 104] : Array Int)[5]? = some (87) := by decide +kernel
set_option maxRecDepth 8000 in
theorem sX7_valueOf_22_6 : (#[46, 59, 72, 75, 84, 87, 89, 104] : Array Int)[6]? = some (89) := by decide +kernel
set_option maxRecDepth 8000 in
theorem sX7_valueOf_22_7 : (#[46, 59, 72, 75, 84, 87, 89, 104] : Array Int)[7]? = some (104) := by decide +kernel
set_option maxRecDepth 8000 in
theorem oX7_valueOf_22 {a : Int} (c0 : ¬ a = 0 + ((0 : Nat) : Int)) (c1 : ¬ a = 0 + ((1 : Nat) : Int)) (c2 : ¬ a = 0 + ((2 : Nat) : Int)) (c3 : ¬ a = 0 + ((3 : Nat) : Int)) (c4 : ¬ a = 0 + ((4 : Nat) : Int)) (c5 : ¬ a = 0 + ((5 : Nat) : Int)) (c6 : ¬ a = 0 + ((6 : Nat) : Int)) (c7 : ¬ a = 0 + ((7 : Nat) : Int)) : a < 0 ∨ 7 < a := by omega
set_option maxRecDepth 8000 in
theorem e_X7_valueOf {g : ch_G} {A R : Nat} (hC : ck_Cx g A R) {d : Nat} {K : Option ck_V → ck_W → Prop} {w : ck_W} {a1 a2 a3 : Int} (h : ck_CI (ch_C g A R) d mX10_radiusAt [.inr (.inr 51), .inl a2, .inl a3] w (fun v2 w1 => ck_CI (ch_C g A R) d mX5_angleOf [.inr (.inr 3), .inl a3] w1 (fun v6 w5 => (a1 = 0 → ck_CI (ch_C g A R) d mX5_greyAt [.inr (.inr 3), .inl a2, .inl v6, .inl v2] w5 (fun v10 w9 => K (some (.inl v10)) w9)) ∧ (¬ a1 = 0 → (a1 = 1 → ck_CI (ch_C g A R) d mX5_crackAt [.inr (.inr 3), .inl a2, .inl v6, .inl v2] w5 (fun v15 w14 => K (some (.inl v15)) w14)) ∧ (¬ a1 = 1 → (a1 = 2 → K (some (.inl v2)) w5) ∧ (¬ a1 = 2 → (a1 = 3 → ck_CI (ch_C g A R) d mX5_turnOf [.inr (.inr 3), .inl a3] w5 (fun v21 w20 => K (some (.inl v21)) w20)) ∧ (¬ a1 = 3 → (a1 = 4 → K (some (.inl v6)) w5) ∧ (¬ a1 = 4 → (a1 = 5 → K (some (.inl a2)) w5) ∧ (¬ a1 = 5 → (a1 = 6 → ck_i (v2 - 1) ∧ (ck_CI (ch_C g A R) d mX5_greyAt [.inr (.inr 3), .inl a2, .inl v6, .inl (v2 - 1)] w5 (fun v29 w28 => K (some (.inl v29)) w28))) ∧ (¬ a1 = 6 → (a1 = 7 → ck_i (v2 + 1) ∧ (ck_CI (ch_C g A R) d mX5_greyAt [.inr (.inr 3), .inl a2, .inl v6, .inl (v2 + 1)] w5 (fun v35 w34 => K (some (.inl v35)) w34))) ∧ (¬ a1 = 7 → ck_CI (ch_C g A R) d mX5_crackAt [.inr (.inr 3), .inl a2, .inl v6, .inl v2] w5 (fun v40 w39 => ck_CI (ch_C g A R) d mX7_crackBefore [.inr (.inr 70), .inl a2, .inl a3] w39 (fun v44 w43 => ck_i (v40 - v44) ∧ (K (some (.inl (v40 - v44))) w43)))))))))))))) : ck_Ex (ch_C g A R) (d + 1) mX7_valueOf [.inr (.inr 70), .inl a1, .inl a2, .inl a3] w K :=
  ck_entry hC.1 [some (.inr (.inr 70)), some (.inl a1), some (.inl a2), some (.inl a3), none, none] (by decide) (Nat.le_of_ble_eq_true rfl) rfl (fun q => q) (ck_in (fun hl => (ck_aload_n 1 rfl 0 dX7_valueOf_0 rfl rfl (ck_getr 4 rfl dX7_valueOf_1 fl_X7_23 sh_70 rfl (ck_iload_n 5 rfl 2 dX7_valueOf_4 rfl rfl (ck_iload_n 6 rfl 3 dX7_valueOf_5 rfl rfl (ck_callV 9 rfl [.inl a2, .inl a3] [] dX7_valueOf_6 cv_X7_71 sh_51 rfl rfl (Nat.le_of_ble_eq_true rfl) (And.intro hl.2.2.1 (And.intro hl.2.2.2.1 True.intro)) (ck_mI h (fun v2 w1 q3 h4 => (ck_istore 11 rfl [some (.inr (.inr 70)), some (.inl a1), some (.inl a2), some (.inl a3), some (.inl v2), none] dX7_valueOf_9 (Nat.le_of_ble_eq_true rfl) rfl rfl q3 (ck_aload_n 12 rfl 0 dX7_valueOf_11 rfl rfl (ck_getr 15 rfl dX7_valueOf_12 fl_X7_15 sh_70 rfl (ck_iload_n 16 rfl 3 dX7_valueOf_15 rfl rfl (ck_callV 19 rfl [.inl a3] [] dX7_valueOf_16 cv_X7_75 sh_3 rfl rfl (Nat.le_of_ble_eq_true rfl) (And.intro hl.2.2.2.1 True.intro) (ck_mI h4 (fun v6 w5 q7 h8 => (ck_istore 21 rfl [some (.inr (.inr 70)), some (.inl a1), some (.inl a2), some (.inl a3), some (.inl v2), some (.inl v6)] dX7_valueOf_19 (Nat.le_of_ble_eq_true rfl) rfl rfl q7 (ck_iload_n 22 rfl 1 dX7_valueOf_21 rfl rfl (have h48 := h8; if c13 : a1 = 0 + ((0 : Nat) : Int) then (ck_tswI 0 (46) 68 dX7_valueOf_22 hl.2.1 c13 (by decide) sX7_valueOf_22_0 rfl (ck_aload_n 69 rfl 0 dX7_valueOf_68 rfl rfl (ck_getr 72 rfl dX7_valueOf_69 fl_X7_15 sh_70 rfl (ck_iload_n 73 rfl 2 dX7_valueOf_72 rfl rfl (ck_iload 75 rfl dX7_valueOf_73 rfl (ck_iload 77 rfl dX7_valueOf_75 rfl (ck_callV 80 rfl [.inl a2, .inl v6, .inl v2] [] dX7_valueOf_77 cv_X7_79 sh_3 rfl rfl (Nat.le_of_ble_eq_true rfl) (And.intro hl.2.2.1 (And.intro q7 (And.intro q3 True.intro))) (ck_mI (h48.1 c13) (fun v10 w9 q11 h12 => (ck_iret dX7_valueOf_80 rfl q11 h12)))))))))) else (have h49 := (h48.2 c13); if c18 : a1 = 0 + ((1 : Nat) : Int) then (ck_tswI 1 (59) 81 dX7_valueOf_22 hl.2.1 c18 (by decide) sX7_valueOf_22_1 rfl (ck_aload_n 82 rfl 0 dX7_valueOf_81 rfl rfl (ck_getr 85 rfl dX7_valueOf_82 fl_X7_15 sh_70 rfl (ck_iload_n 86 rfl 2 dX7_valueOf_85 rfl rfl (ck_iload 88 rfl dX7_valueOf_86 rfl (ck_iload 90 rfl dX7_valueOf_88 rfl (ck_callV 93 rfl [.inl a2, .inl v6, .inl v2] [] dX7_valueOf_90 cv_X7_82 sh_3 rfl rfl (Nat.le_of_ble_eq_true rfl) (And.intro hl.2.2.1 (And.intro q7 (And.intro q3 True.intro))) (ck_mI (h49.1 c18) (fun v15 w14 q16 h17 => (ck_iret dX7_valueOf_93 rfl q16 h17)))))))))) else (have h50 := (h49.2 c18); if c19 : a1 = 0 + ((2 : Nat) : Int) then (ck_tswI 2 (72) 94 dX7_valueOf_22 hl.2.1 c19 (by decide) sX7_valueOf_22_2 rfl (ck_iload 96 rfl dX7_valueOf_94 rfl (ck_iret dX7_valueOf_96 rfl q3 (h50.1 c19)))) else (have h51 := (h50.2 c19); if c24 : a1 = 0 + ((3 : Nat) : Int) then (ck_tswI 3 (75) 97 dX7_valueOf_22 hl.2.1 c24 (by decide) sX7_valueOf_22_3 rfl (ck_aload_n 98 rfl 0 dX7_valueOf_97 rfl rfl (ck_getr 101 rfl dX7_valueOf_98 fl_X7_15 sh_70 rfl (ck_iload_n 102 rfl 3 dX7_valueOf_101 rfl rfl (ck_callV 105 rfl [.inl a3] [] dX7_valueOf_102 cv_X7_85 sh_3 rfl rfl (Nat.le_of_ble_eq_true rfl) (And.intro hl.2.2.2.1 True.intro) (ck_mI (h51.1 c24) (fun v21 w20 q22 h23 => (ck_iret dX7_valueOf_105 rfl q22 h23)))))))) else (have h52 := (h51.2 c24); if c25 : a1 = 0 + ((4 : Nat) : Int) then (ck_tswI 4 (84) 106 dX7_valueOf_22 hl.2.1 c25 (by decide) sX7_valueOf_22_4 rfl (ck_iload 108 rfl dX7_valueOf_106 rfl (ck_iret dX7_valueOf_108 rfl q7 (h52.1 c25)))) else (have h53 := (h52.2 c25); if c26 : a1 = 0 + ((5 : Nat) : Int) then (ck_tswI 5 (87) 109 dX7_valueOf_22 hl.2.1 c26 (by decide) sX7_valueOf_22_5 rfl (ck_iload_n 110 rfl 2 dX7_valueOf_109 rfl rfl (ck_iret dX7_valueOf_110 rfl hl.2.2.1 (h53.1 c26)))) else (have h54 := (h53.2 c26); if c32 : a1 = 0 + ((6 : Nat) : Int) then (ck_tswI 6 (89) 111 dX7_valueOf_22 hl.2.1 c32 (by decide) sX7_valueOf_22_6 rfl (ck_aload_n 112 rfl 0 dX7_valueOf_111 rfl rfl (ck_getr 115 rfl dX7_valueOf_112 fl_X7_15 sh_70 rfl (ck_iload_n 116 rfl 2 dX7_valueOf_115 rfl rfl (ck_iload 118 rfl dX7_valueOf_116 rfl (ck_iload 120 rfl dX7_valueOf_118 rfl (ck_iconst 121 rfl dX7_valueOf_120 rfl (ck_isub 122 rfl dX7_valueOf_121 (have h56 := (h54.1 c32); have o27 := h56.1; have h55 := h56.2; (ck_callV 125 rfl [.inl a2, .inl v6, .inl (v2 - 1)] [] dX7_valueOf_122 cv_X7_79 sh_3 rfl rfl (Nat.le_of_ble_eq_true rfl) (And.intro hl.2.2.1 (And.intro q7 (And.intro o27 True.intro))) (ck_mI h55 (fun v29 w28 q30 h31 => (ck_iret dX7_valueOf_125 rfl q30 h31))))))))))))) else (have h57 := (h54.2 c32); if c38 : a1 = 0 + ((7 : Nat) : Int) then (ck_tswI 7 (104) 126 dX7_valueOf_22 hl.2.1 c38 (by decide) sX7_valueOf_22_7 rfl (ck_aload_n 127 rfl 0 dX7_valueOf_126 rfl rfl (ck_getr 130 rfl dX7_valueOf_127 fl_X7_15 sh_70 rfl (ck_iload_n 131 rfl 2 dX7_valueOf_130 rfl rfl (ck_iload 133 rfl dX7_valueOf_131 rfl (ck_iload 135 rfl dX7_valueOf_133 rfl (ck_iconst 136 rfl dX7_valueOf_135 rfl (ck_iadd 137 rfl dX7_valueOf_136 (have h59 := (h57.1 c38); have o33 := h59.1; have h58 := h59.2; (ck_callV 140 rfl [.inl a2, .inl v6, .inl (v2 + 1)] [] dX7_valueOf_137 cv_X7_79 sh_3 rfl rfl (Nat.le_of_ble_eq_true rfl) (And.intro hl.2.2.1 (And.intro q7 (And.intro o33 True.intro))) (ck_mI h58 (fun v35 w34 q36 h37 => (ck_iret dX7_valueOf_140 rfl q36 h37))))))))))))) else (ck_tswO 141 dX7_valueOf_22 hl.2.1 (oX7_valueOf_22 c13 c18 c19 c24 c25 c26 c32 c38) rfl (ck_aload_n 142 rfl 0 dX7_valueOf_141 rfl rfl (ck_getr 145 rfl dX7_valueOf_142 fl_X7_15 sh_70 rfl (ck_iload_n 146 rfl 2 dX7_valueOf_145 rfl rfl (ck_iload 148 rfl dX7_valueOf_146 rfl (ck_iload 150 rfl dX7_valueOf_148 rfl (ck_callV 153 rfl [.inl a2, .inl v6, .inl v2] [] dX7_valueOf_150 cv_X7_82 sh_3 rfl rfl (Nat.le_of_ble_eq_true rfl) (And.intro hl.2.2.1 (And.intro q7 (And.intro q3 True.intro))) (ck_mI (h57.2 c38) (fun v40 w39 q41 h42 => (ck_aload_n 154 rfl 0 dX7_valueOf_153 rfl rfl (ck_iload_n 155 rfl 2 dX7_valueOf_154 rfl rfl (ck_iload_n 156 rfl 3 dX7_valueOf_155 rfl rfl (ck_callV 159 rfl [.inl a2, .inl a3] [.inl v40] dX7_valueOf_156 cv_X7_88 sh_70 rfl rfl (Nat.le_of_ble_eq_true rfl) (And.intro hl.2.2.1 (And.intro hl.2.2.2.1 True.intro)) (ck_mI h42 (fun v44 w43 q45 h46 => (ck_isub 160 rfl dX7_valueOf_159 (have h61 := h46; have o47 := h61.1; have h60 := h61.2; (ck_iret dX7_valueOf_160 rfl o47 h60))))))))))))))))))))))))))))))))))))))))))))
theorem p_X7_valueOf {g : ch_G} {A R : Nat} (hC : ck_Cx g A R) {d : Nat} {K : Option ck_V → ck_W → Prop} {w : ck_W} {a1 a2 a3 : Int} (hH : cv_H A R w) (h2 : 0 ≤ a2 ∧ a2 ≤ 5) (h3 : 0 ≤ a3 ∧ a3 < 24) (h : K (some (.inl (cv_v A R w a2 a3 a1))) w) : ck_Ex (ch_C g A R) (d + 3) mX7_valueOf [.inr (.inr 70), .inl a1, .inl a2, .inl a3] w K := by
  have c := cs_ar hC
  have k := cv_kb hC hH h2 h3
  have hD := hH.1
  have ck : ∀ (p : Int) (Q : Int → ck_W → Prop), 0 ≤ p ∧ p < 24 → Q (cv_k A R w a2 p) w → ck_CI (ch_C g A R) (d + 2) mX5_crackAt [.inr (.inr 3), .inl a2, .inl (p % (A : Int)), .inl (w 62 (a2 * 24 + p))] w Q := fun p Q hp hQ => p_X5_crackAt hC hD (fun _ => ⟨_, rfl, fun _ => hQ⟩) (fun no => absurd (cv_kb hC hH h2 hp).1 no)
  have ck1 : ∀ (p : Int) (Q : Int → ck_W → Prop), 0 ≤ p ∧ p < 24 → Q (cv_k A R w a2 p) w → ck_CI (ch_C g A R) (d + 1) mX5_crackAt [.inr (.inr 3), .inl a2, .inl (p % (A : Int)), .inl (w 62 (a2 * 24 + p))] w Q := fun p Q hp hQ => p_X5_crackAt hC hD (fun _ => ⟨_, rfl, fun _ => hQ⟩) (fun no => absurd (cv_kb hC hH h2 hp).1 no)
  have r := k.1.2.2
  have m := k.1.2.1
  unfold cv_v at h
  refine e_X7_valueOf hC (p_X10_radiusAt hC (fun _ => ⟨_, rfl, fun _ => p_X5_angleOf hC hD (by omega) ⟨_, rfl, fun _ => ?_⟩⟩) (fun no => absurd ⟨h2, h3⟩ no))
  refine ⟨fun q => p_greyAt2 hC hD h2 m ⟨_, rfl, fun _ => by rw [if_pos q] at h; exact h⟩, fun q0 => ?_⟩
  rw [if_neg q0] at h
  refine ⟨fun q => ck a3 _ h3 (by rw [if_pos q] at h; exact h), fun q1 => ?_⟩
  rw [if_neg q1] at h
  refine ⟨fun q => by rw [if_pos q] at h; exact h, fun q2 => ?_⟩
  rw [if_neg q2] at h
  refine ⟨fun q => p_X5_turnOf hC hD (by omega) ⟨_, rfl, fun _ => by rw [if_pos q] at h; exact h⟩, fun q3 => ?_⟩
  rw [if_neg q3] at h
  refine ⟨fun q => by rw [if_pos q] at h; exact h, fun q4 => ?_⟩
  rw [if_neg q4] at h
  refine ⟨fun q => by rw [if_pos q] at h; exact h, fun q5 => ?_⟩
  rw [if_neg q5] at h
  refine ⟨fun q => ⟨by constructor <;> omega, p_greyAt2 hC hD h2 m ⟨_, rfl, fun _ => by rw [if_pos q] at h; exact h⟩⟩, fun q6 => ?_⟩
  rw [if_neg q6] at h
  refine ⟨fun q => ⟨by constructor <;> omega, p_greyAt2 hC hD h2 m ⟨_, rfl, fun _ => by rw [if_pos q] at h; exact h⟩⟩, fun q7 => ?_⟩
  rw [if_neg q7] at h
  refine ck a3 _ h3 (e_X7_crackBefore hC ⟨fun q => ⟨by constructor <;> omega, p_X5_angleOf hC hD (by omega) ⟨_, rfl, fun _ => p_X10_radiusAt hC (fun _ => ⟨_, rfl, fun _ => ck1 (a3 - 1) _ (by omega) ⟨_, rfl, fun _ => ?_⟩⟩) (fun no => absurd ⟨h2, by omega⟩ no)⟩⟩, fun q => ⟨_, rfl, fun _ => ?_⟩⟩)
  · rw [if_neg q] at h
    have kb := (cv_kb hC hH h2 (p := a3 - 1) (by omega)).2
    exact ⟨by constructor <;> omega, h⟩
  · rw [if_pos q] at h
    exact ⟨by constructor <;> omega, h⟩
/-- a step of a reader's code -/
def cv_st (val : Int → Int) (x : Int) (t : (Int × Int) × cv_S) : (Int × Int) × cv_S := if x < 10000 then (t.1, cv_ps t.2 x) else if x < 20000 then (t.1, cv_ps t.2 (val (x - 10000))) else if x = 20004 then ((if (cv_pp t.2).1 = 0 then t.1.1 else 1, t.1.2), (cv_pp t.2).2) else if x = 20005 then ((t.1.1, if (cv_pp t.2).1 = 0 then t.1.2 else 1), (cv_pp t.2).2) else (t.1, cv_wk (x - 20000) t.2)
def cv_rn (val code : Int → Int) : Nat → Int → (Int × Int) × cv_S → (Int × Int) × cv_S
  | 0, _, t => t
  | n + 1, i, t => cv_rn val code n (i + 1) (cv_st val (code i) t)
/-- ink at a place by a reader -/
def cv_ik (A R : Nat) (w : ck_W) (r z p : Int) : Int := if (cv_rn (cv_v A R w z p) (w 11) (w 12 r).toNat (r * 300) ((0, 0), (0, w 71))).1.1 = 0 then 0 else if (cv_rn (cv_v A R w z p) (w 11) (w 12 r).toNat (r * 300) ((0, 0), (0, w 71))).1.2 = 0 then 1 else 0
theorem cv_ik01 (A R : Nat) (w : ck_W) (r z p : Int) : cv_ik A R w r z p = 0 ∨ cv_ik A R w r z p = 1 := by unfold cv_ik; repeat' split <;> omega
/-- readers' code as it may be -/
def cs_Cd (w : ck_W) : Prop := (0 ≤ w 10 3 ∧ w 10 3 ≤ 4) ∧ ∀ r, 0 ≤ r → r < w 10 3 → (0 ≤ w 12 r ∧ w 12 r ≤ 300) ∧ ∀ i, 0 ≤ i → i < w 12 r → 0 ≤ w 11 (r * 300 + i) ∧ w 11 (r * 300 + i) ≤ 30000
theorem cv_or0 {x : Int} (h : x = 0 ∨ x = 1) : ck_or x 0 = x := by rcases h with e | e <;> subst e <;> decide
theorem cv_or1 {x : Int} (h : x = 0 ∨ x = 1) : ck_or x 1 = 1 := by rcases h with e | e <;> subst e <;> decide
theorem dX7_inkAt_0 : decode cX7_inkAt 0 = .ok (.aload_n 0, 1) := dk_42 (by decide +kernel)
theorem dX7_inkAt_1 : decode cX7_inkAt 1 = .ok (.getfield 19, 3) := dk_180 0 19 (by decide +kernel)
theorem dX7_inkAt_4 : decode cX7_inkAt 4 = .ok (.iload_n 1, 1) := dk_27 (by decide +kernel)
theorem dX7_inkAt_5 : decode cX7_inkAt 5 = .ok (.invokevirtual 27, 3) := dk_182 0 27 (by decide +kernel)
theorem dX7_inkAt_8 : decode cX7_inkAt 8 = .ok (.ifCond .eq 27, 3) := dk_153 0 27 (by decide +kernel)
theorem dX7_inkAt_11 : decode cX7_inkAt 11 = .ok (.aload_n 0, 1) := dk_42 (by decide +kernel)
theorem dX7_inkAt_12 : decode cX7_inkAt 12 = .ok (.getfield 15, 3) := dk_180 0 15 (by decide +kernel)
theorem dX7_inkAt_15 : decode cX7_inkAt 15 = .ok (.iload_n 2, 1) := dk_28 (by decide +kernel)
theorem dX7_inkAt_16 : decode cX7_inkAt 16 = .ok (.iload_n 3, 1) := dk_29 (by decide +kernel)
theorem dX7_inkAt_17 : decode cX7_inkAt 17 = .ok (.invokevirtual 33, 3) := dk_182 0 33 (by decide +kernel)
theorem dX7_inkAt_20 : decode cX7_inkAt 20 = .ok (.ifCond .eq 15, 3) := dk_153 0 15 (by decide +kernel)
theorem dX7_inkAt_23 : decode cX7_inkAt 23 = .ok (.aload_n 0, 1) := dk_42 (by decide +kernel)
theorem dX7_inkAt_24 : decode cX7_inkAt 24 = .ok (.getfield 23, 3) := dk_180 0 23 (by decide +kernel)
theorem dX7_inkAt_27 : decode cX7_inkAt 27 = .ok (.getfield 39, 3) := dk_180 0 39 (by decide +kernel)
theorem dX7_inkAt_30 : decode cX7_inkAt 30 = .ok (.iload_n 2, 1) := dk_28 (by decide +kernel)
theorem dX7_inkAt_31 : decode cX7_inkAt 31 = .ok (.iaload, 1) := dk_46 (by decide +kernel)
theorem dX7_inkAt_32 : decode cX7_inkAt 32 = .ok (.ifCond .ne 5, 3) := dk_154 0 5 (by decide +kernel)
theorem dX7_inkAt_35 : decode cX7_inkAt 35 = .ok (.iconst (-1), 1) := dk_2 (by decide +kernel)
theorem dX7_inkAt_36 : decode cX7_inkAt 36 = .ok (.ireturn, 1) := dk_172 (by decide +kernel)
theorem dX7_inkAt_37 : decode cX7_inkAt 37 = .ok (.iconst 0, 1) := dk_3 (by decide +kernel)
theorem dX7_inkAt_38 : decode cX7_inkAt 38 = .ok (.istore 4, 2) := dk_54 (by decide +kernel)
theorem dX7_inkAt_40 : decode cX7_inkAt 40 = .ok (.iconst 0, 1) := dk_3 (by decide +kernel)
theorem dX7_inkAt_41 : decode cX7_inkAt 41 = .ok (.istore 5, 2) := dk_54 (by decide +kernel)
theorem dX7_inkAt_43 : decode cX7_inkAt 43 = .ok (.aload_n 0, 1) := dk_42 (by decide +kernel)
theorem dX7_inkAt_44 : decode cX7_inkAt 44 = .ok (.iconst 0, 1) := dk_3 (by decide +kernel)
theorem dX7_inkAt_45 : decode cX7_inkAt 45 = .ok (.putfield 44, 3) := dk_181 0 44 (by decide +kernel)
theorem dX7_inkAt_48 : decode cX7_inkAt 48 = .ok (.iload_n 1, 1) := dk_27 (by decide +kernel)
theorem dX7_inkAt_49 : decode cX7_inkAt 49 = .ok (.sipush 300, 3) := dk_17 1 44 (by decide +kernel)
theorem dX7_inkAt_52 : decode cX7_inkAt 52 = .ok (.imul, 1) := dk_104 (by decide +kernel)
theorem dX7_inkAt_53 : decode cX7_inkAt 53 = .ok (.istore 6, 2) := dk_54 (by decide +kernel)
theorem dX7_inkAt_55 : decode cX7_inkAt 55 = .ok (.iload 6, 2) := dk_21 (by decide +kernel)
theorem dX7_inkAt_57 : decode cX7_inkAt 57 = .ok (.aload_n 0, 1) := dk_42 (by decide +kernel)
theorem dX7_inkAt_58 : decode cX7_inkAt 58 = .ok (.getfield 19, 3) := dk_180 0 19 (by decide +kernel)
theorem dX7_inkAt_61 : decode cX7_inkAt 61 = .ok (.getfield 48, 3) := dk_180 0 48 (by decide +kernel)
theorem dX7_inkAt_64 : decode cX7_inkAt 64 = .ok (.iload_n 1, 1) := dk_27 (by decide +kernel)
theorem dX7_inkAt_65 : decode cX7_inkAt 65 = .ok (.iaload, 1) := dk_46 (by decide +kernel)
theorem dX7_inkAt_66 : decode cX7_inkAt 66 = .ok (.iadd, 1) := dk_96 (by decide +kernel)
theorem dX7_inkAt_67 : decode cX7_inkAt 67 = .ok (.istore 7, 2) := dk_54 (by decide +kernel)
theorem dX7_inkAt_69 : decode cX7_inkAt 69 = .ok (.iload 6, 2) := dk_21 (by decide +kernel)
theorem dX7_inkAt_71 : decode cX7_inkAt 71 = .ok (.istore 8, 2) := dk_54 (by decide +kernel)
theorem dX7_inkAt_73 : decode cX7_inkAt 73 = .ok (.iload 8, 2) := dk_21 (by decide +kernel)
theorem dX7_inkAt_75 : decode cX7_inkAt 75 = .ok (.iload 7, 2) := dk_21 (by decide +kernel)
theorem dX7_inkAt_77 : decode cX7_inkAt 77 = .ok (.if_icmp .ge 131, 3) := dk_162 0 131 (by decide +kernel)
theorem dX7_inkAt_80 : decode cX7_inkAt 80 = .ok (.aload_n 0, 1) := dk_42 (by decide +kernel)
theorem dX7_inkAt_81 : decode cX7_inkAt 81 = .ok (.getfield 19, 3) := dk_180 0 19 (by decide +kernel)
theorem dX7_inkAt_84 : decode cX7_inkAt 84 = .ok (.getfield 51, 3) := dk_180 0 51 (by decide +kernel)
theorem dX7_inkAt_87 : decode cX7_inkAt 87 = .ok (.iload 8, 2) := dk_21 (by decide +kernel)
theorem dX7_inkAt_89 : decode cX7_inkAt 89 = .ok (.iaload, 1) := dk_46 (by decide +kernel)
theorem dX7_inkAt_90 : decode cX7_inkAt 90 = .ok (.istore 9, 2) := dk_54 (by decide +kernel)
theorem dX7_inkAt_92 : decode cX7_inkAt 92 = .ok (.iload 9, 2) := dk_21 (by decide +kernel)
theorem dX7_inkAt_94 : decode cX7_inkAt 94 = .ok (.sipush 10000, 3) := dk_17 39 16 (by decide +kernel)
theorem dX7_inkAt_97 : decode cX7_inkAt 97 = .ok (.if_icmp .ge 12, 3) := dk_162 0 12 (by decide +kernel)
theorem dX7_inkAt_100 : decode cX7_inkAt 100 = .ok (.aload_n 0, 1) := dk_42 (by decide +kernel)
theorem dX7_inkAt_101 : decode cX7_inkAt 101 = .ok (.iload 9, 2) := dk_21 (by decide +kernel)
theorem dX7_inkAt_103 : decode cX7_inkAt 103 = .ok (.invokevirtual 56, 3) := dk_182 0 56 (by decide +kernel)
theorem dX7_inkAt_106 : decode cX7_inkAt 106 = .ok (.goto 96, 3) := dk_167 0 96 (by decide +kernel)
theorem dX7_inkAt_109 : decode cX7_inkAt 109 = .ok (.iload 9, 2) := dk_21 (by decide +kernel)
theorem dX7_inkAt_111 : decode cX7_inkAt 111 = .ok (.sipush 20000, 3) := dk_17 78 32 (by decide +kernel)
theorem dX7_inkAt_114 : decode cX7_inkAt 114 = .ok (.if_icmp .ge 22, 3) := dk_162 0 22 (by decide +kernel)
theorem dX7_inkAt_117 : decode cX7_inkAt 117 = .ok (.aload_n 0, 1) := dk_42 (by decide +kernel)
theorem dX7_inkAt_118 : decode cX7_inkAt 118 = .ok (.aload_n 0, 1) := dk_42 (by decide +kernel)
theorem dX7_inkAt_119 : decode cX7_inkAt 119 = .ok (.iload 9, 2) := dk_21 (by decide +kernel)
theorem dX7_inkAt_121 : decode cX7_inkAt 121 = .ok (.sipush 10000, 3) := dk_17 39 16 (by decide +kernel)
theorem dX7_inkAt_124 : decode cX7_inkAt 124 = .ok (.isub, 1) := dk_100 (by decide +kernel)
theorem dX7_inkAt_125 : decode cX7_inkAt 125 = .ok (.iload_n 2, 1) := dk_28 (by decide +kernel)
theorem dX7_inkAt_126 : decode cX7_inkAt 126 = .ok (.iload_n 3, 1) := dk_29 (by decide +kernel)
theorem dX7_inkAt_127 : decode cX7_inkAt 127 = .ok (.invokevirtual 60, 3) := dk_182 0 60 (by decide +kernel)
theorem dX7_inkAt_130 : decode cX7_inkAt 130 = .ok (.invokevirtual 56, 3) := dk_182 0 56 (by decide +kernel)
theorem dX7_inkAt_133 : decode cX7_inkAt 133 = .ok (.goto 69, 3) := dk_167 0 69 (by decide +kernel)
theorem dX7_inkAt_136 : decode cX7_inkAt 136 = .ok (.iload 9, 2) := dk_21 (by decide +kernel)
theorem dX7_inkAt_138 : decode cX7_inkAt 138 = .ok (.sipush 20004, 3) := dk_17 78 36 (by decide +kernel)
theorem dX7_inkAt_141 : decode cX7_inkAt 141 = .ok (.if_icmp .ne 23, 3) := dk_160 0 23 (by decide +kernel)
theorem dX7_inkAt_144 : decode cX7_inkAt 144 = .ok (.iload 4, 2) := dk_21 (by decide +kernel)
theorem dX7_inkAt_146 : decode cX7_inkAt 146 = .ok (.aload_n 0, 1) := dk_42 (by decide +kernel)
theorem dX7_inkAt_147 : decode cX7_inkAt 147 = .ok (.invokevirtual 64, 3) := dk_182 0 64 (by decide +kernel)
theorem dX7_inkAt_150 : decode cX7_inkAt 150 = .ok (.ifCond .eq 7, 3) := dk_153 0 7 (by decide +kernel)
theorem dX7_inkAt_153 : decode cX7_inkAt 153 = .ok (.iconst 1, 1) := dk_4 (by decide +kernel)
theorem dX7_inkAt_154 : decode cX7_inkAt 154 = .ok (.goto 4, 3) := dk_167 0 4 (by decide +kernel)
theorem dX7_inkAt_157 : decode cX7_inkAt 157 = .ok (.iconst 0, 1) := dk_3 (by decide +kernel)
theorem dX7_inkAt_158 : decode cX7_inkAt 158 = .ok (.ior, 1) := dk_128 (by decide +kernel)
theorem dX7_inkAt_159 : decode cX7_inkAt 159 = .ok (.istore 4, 2) := dk_54 (by decide +kernel)
theorem dX7_inkAt_161 : decode cX7_inkAt 161 = .ok (.goto 41, 3) := dk_167 0 41 (by decide +kernel)
theorem dX7_inkAt_164 : decode cX7_inkAt 164 = .ok (.iload 9, 2) := dk_21 (by decide +kernel)
theorem dX7_inkAt_166 : decode cX7_inkAt 166 = .ok (.sipush 20005, 3) := dk_17 78 37 (by decide +kernel)
theorem dX7_inkAt_169 : decode cX7_inkAt 169 = .ok (.if_icmp .ne 23, 3) := dk_160 0 23 (by decide +kernel)
theorem dX7_inkAt_172 : decode cX7_inkAt 172 = .ok (.iload 5, 2) := dk_21 (by decide +kernel)
theorem dX7_inkAt_174 : decode cX7_inkAt 174 = .ok (.aload_n 0, 1) := dk_42 (by decide +kernel)
theorem dX7_inkAt_175 : decode cX7_inkAt 175 = .ok (.invokevirtual 64, 3) := dk_182 0 64 (by decide +kernel)
theorem dX7_inkAt_178 : decode cX7_inkAt 178 = .ok (.ifCond .eq 7, 3) := dk_153 0 7 (by decide +kernel)
theorem dX7_inkAt_181 : decode cX7_inkAt 181 = .ok (.iconst 1, 1) := dk_4 (by decide +kernel)
theorem dX7_inkAt_182 : decode cX7_inkAt 182 = .ok (.goto 4, 3) := dk_167 0 4 (by decide +kernel)
theorem dX7_inkAt_185 : decode cX7_inkAt 185 = .ok (.iconst 0, 1) := dk_3 (by decide +kernel)
theorem dX7_inkAt_186 : decode cX7_inkAt 186 = .ok (.ior, 1) := dk_128 (by decide +kernel)
theorem dX7_inkAt_187 : decode cX7_inkAt 187 = .ok (.istore 5, 2) := dk_54 (by decide +kernel)
theorem dX7_inkAt_189 : decode cX7_inkAt 189 = .ok (.goto 13, 3) := dk_167 0 13 (by decide +kernel)
theorem dX7_inkAt_192 : decode cX7_inkAt 192 = .ok (.aload_n 0, 1) := dk_42 (by decide +kernel)
theorem dX7_inkAt_193 : decode cX7_inkAt 193 = .ok (.iload 9, 2) := dk_21 (by decide +kernel)
theorem dX7_inkAt_195 : decode cX7_inkAt 195 = .ok (.sipush 20000, 3) := dk_17 78 32 (by decide +kernel)
theorem dX7_inkAt_198 : decode cX7_inkAt 198 = .ok (.isub, 1) := dk_100 (by decide +kernel)
theorem dX7_inkAt_199 : decode cX7_inkAt 199 = .ok (.invokevirtual 68, 3) := dk_182 0 68 (by decide +kernel)
theorem dX7_inkAt_202 : decode cX7_inkAt 202 = .ok (.iinc 8 1, 3) := dk_132 1 (by decide +kernel)
theorem dX7_inkAt_205 : decode cX7_inkAt 205 = .ok (.goto (-132), 3) := dk_167 255 124 (by decide +kernel)
theorem dX7_inkAt_208 : decode cX7_inkAt 208 = .ok (.iload 4, 2) := dk_21 (by decide +kernel)
theorem dX7_inkAt_210 : decode cX7_inkAt 210 = .ok (.ifCond .eq 12, 3) := dk_153 0 12 (by decide +kernel)
theorem dX7_inkAt_213 : decode cX7_inkAt 213 = .ok (.iload 5, 2) := dk_21 (by decide +kernel)
theorem dX7_inkAt_215 : decode cX7_inkAt 215 = .ok (.ifCond .ne 7, 3) := dk_154 0 7 (by decide +kernel)
theorem dX7_inkAt_218 : decode cX7_inkAt 218 = .ok (.iconst 1, 1) := dk_4 (by decide +kernel)
theorem dX7_inkAt_219 : decode cX7_inkAt 219 = .ok (.goto 4, 3) := dk_167 0 4 (by decide +kernel)
theorem dX7_inkAt_222 : decode cX7_inkAt 222 = .ok (.iconst 0, 1) := dk_3 (by decide +kernel)
theorem dX7_inkAt_223 : decode cX7_inkAt 223 = .ok (.ireturn, 1) := dk_172 (by decide +kernel)
set_option maxRecDepth 8000 in
theorem e_X7_inkAt {g : ch_G} {A R : Nat} (hC : ck_Cx g A R) {d : Nat} {K : Option ck_V → ck_W → Prop} {w : ck_W} {a1 a2 a3 : Int} (h : ck_CI (ch_C g A R) d mX4_has [.inr (.inr 10), .inl a1] w (fun v2 w1 => (v2 = 0 → K (some (.inl (-1))) w1) ∧ (¬ v2 = 0 → ck_CI (ch_C g A R) d mX5_hasPlace [.inr (.inr 3), .inl a2, .inl a3] w1 (fun v6 w5 => (v6 = 0 → K (some (.inl (-1))) w5) ∧ (¬ v6 = 0 → (0 ≤ a2 ∧ a2 < 6) ∧ ((¬ (w5 61 a2) = 0 → ck_i (a1 * 300) ∧ ((0 ≤ a1 ∧ a1 < 4) ∧ (ck_i ((a1 * 300) + (w5 12 a1)) ∧ (ck_At (ch_C g A R) (d + 1) mX7_inkAt K 73 [some (.inr (.inr 70)), none, some (.inl a2), some (.inl a3), some (.inl 0), some (.inl 0), none, some (.inl ((a1 * 300) + (w5 12 a1))), some (.inl (a1 * 300)), none] [] (ck_up w5 70 4 0))))) ∧ ((w5 61 a2) = 0 → K (some (.inl (-1))) w5))))))) : ck_Ex (ch_C g A R) (d + 1) mX7_inkAt [.inr (.inr 70), .inl a1, .inl a2, .inl a3] w K :=
  ck_entry hC.1 [some (.inr (.inr 70)), some (.inl a1), some (.inl a2), some (.inl a3), none, none, none, none, none, none] (by decide) (Nat.le_of_ble_eq_true rfl) rfl (fun q => q) (ck_in (fun hl => (ck_aload_n 1 rfl 0 dX7_inkAt_0 rfl rfl (ck_getr 4 rfl dX7_inkAt_1 fl_X7_19 sh_70 rfl (ck_iload_n 5 rfl 1 dX7_inkAt_4 rfl rfl (ck_callV 8 rfl [.inl a1] [] dX7_inkAt_5 cv_X7_27 sh_10 rfl rfl (Nat.le_of_ble_eq_true rfl) (And.intro hl.2.1 True.intro) (ck_mI h (fun v2 w1 q3 h4 => (ck_if_eq 11 rfl 35 dX7_inkAt_8 rfl q3 (fun c19 => (ck_iconst 36 rfl dX7_inkAt_35 rfl (ck_iret dX7_inkAt_36 rfl (show ck_i (-1) by decide) (h4.1 c19)))) (fun c20 => (ck_aload_n 12 rfl 0 dX7_inkAt_11 rfl rfl (ck_getr 15 rfl dX7_inkAt_12 fl_X7_15 sh_70 rfl (ck_iload_n 16 rfl 2 dX7_inkAt_15 rfl rfl (ck_iload_n 17 rfl 3 dX7_inkAt_16 rfl rfl (ck_callV 20 rfl [.inl a2, .inl a3] [] dX7_inkAt_17 cv_X7_33 sh_3 rfl rfl (Nat.le_of_ble_eq_true rfl) (And.intro hl.2.2.1 (And.intro hl.2.2.2.1 True.intro)) (ck_mI (h4.2 c20) (fun v6 w5 q7 h8 => (ck_if_eq 23 rfl 35 dX7_inkAt_20 rfl q7 (fun c17 => (ck_iconst 36 rfl dX7_inkAt_35 rfl (ck_iret dX7_inkAt_36 rfl (show ck_i (-1) by decide) (h8.1 c17)))) (fun c18 => (ck_aload_n 24 rfl 0 dX7_inkAt_23 rfl rfl (ck_getr 27 rfl dX7_inkAt_24 fl_X7_23 sh_70 rfl (ck_getr 30 rfl dX7_inkAt_27 fl_X7_39 sh_51 rfl (ck_iload_n 31 rfl 2 dX7_inkAt_30 rfl rfl (have h22 := (h8.2 c18); have o9 := h22.1; have h21 := h22.2; (ck_iald 32 rfl dX7_inkAt_31 sh_61 (shn_61 hC) o9 _ rfl (fun (q10 : ck_i (w5 61 a2)) => (ck_if_ne 35 rfl 37 dX7_inkAt_32 rfl q10 (fun c15 => (ck_iconst 38 rfl dX7_inkAt_37 rfl (ck_istore 40 rfl [some (.inr (.inr 70)), some (.inl a1), some (.inl a2), some (.inl a3), some (.inl 0), none, none, none, none, none] dX7_inkAt_38 (Nat.le_of_ble_eq_true rfl) rfl rfl (show ck_i 0 by decide) (ck_iconst 41 rfl dX7_inkAt_40 rfl (ck_istore 43 rfl [some (.inr (.inr 70)), some (.inl a1), some (.inl a2), some (.inl a3), some (.inl 0), some (.inl 0), none, none, none, none] dX7_inkAt_41 (Nat.le_of_ble_eq_true rfl) rfl rfl (show ck_i 0 by decide) (ck_aload_n 44 rfl 0 dX7_inkAt_43 rfl rfl (ck_iconst 45 rfl dX7_inkAt_44 rfl (ck_puti 48 rfl 4 dX7_inkAt_45 fp_X7_44 sh_70 rfl rfl (show ck_i 0 by decide) (ck_iload_n 49 rfl 1 dX7_inkAt_48 rfl rfl (ck_sipush 52 rfl dX7_inkAt_49 rfl (ck_imul 53 rfl dX7_inkAt_52 (have h24 := (h21.1 c15); have o11 := h24.1; have h23 := h24.2; (ck_istore 55 rfl [some (.inr (.inr 70)), some (.inl a1), some (.inl a2), some (.inl a3), some (.inl 0), some (.inl 0), some (.inl (a1 * 300)), none, none, none] dX7_inkAt_53 (Nat.le_of_ble_eq_true rfl) rfl rfl o11 (ck_iload 57 rfl dX7_inkAt_55 rfl (ck_aload_n 58 rfl 0 dX7_inkAt_57 rfl rfl (ck_getr 61 rfl dX7_inkAt_58 fl_X7_19 sh_70 rfl (ck_getr 64 rfl dX7_inkAt_61 fl_X7_48 sh_10 rfl (ck_iload_n 65 rfl 1 dX7_inkAt_64 rfl rfl (have h26 := h23; have o12 := h26.1; have h25 := h26.2; (ck_iald 66 rfl dX7_inkAt_65 sh_12 (shn_12 hC) o12 _ rfl (fun (q13 : ck_i (w5 12 a1)) => (ck_iadd 67 rfl dX7_inkAt_66 (have h28 := h25; have o14 := h28.1; have h27 := h28.2; (ck_istore 69 rfl [some (.inr (.inr 70)), some (.inl a1), some (.inl a2), some (.inl a3), some (.inl 0), some (.inl 0), some (.inl (a1 * 300)), some (.inl ((a1 * 300) + (w5 12 a1))), none, none] dX7_inkAt_67 (Nat.le_of_ble_eq_true rfl) rfl rfl o14 (ck_iload 71 rfl dX7_inkAt_69 rfl (ck_istore 73 rfl [some (.inr (.inr 70)), some (.inl a1), some (.inl a2), some (.inl a3), some (.inl 0), some (.inl 0), some (.inl (a1 * 300)), some (.inl ((a1 * 300) + (w5 12 a1))), some (.inl (a1 * 300)), none] dX7_inkAt_71 (Nat.le_of_ble_eq_true rfl) rfl rfl o11 (ck_drop [some (.inr (.inr 70)), none, some (.inl a2), some (.inl a3), some (.inl 0), some (.inl 0), none, some (.inl ((a1 * 300) + (w5 12 a1))), some (.inl (a1 * 300)), none] (And.intro rfl (And.intro rfl (And.intro rfl (And.intro rfl (And.intro rfl (And.intro rfl (And.intro rfl True.intro))))))) h27))))))))))))))))))))))))))) (fun c16 => (ck_iconst 36 rfl dX7_inkAt_35 rfl (ck_iret dX7_inkAt_36 rfl (show ck_i (-1) by decide) (h21.2 c16)))))))))))))))))))))))))))))))
set_option maxRecDepth 8000 in
theorem r_X7_inkAt_73 {g : ch_G} {A R : Nat} (hC : ck_Cx g A R) {d : Nat} {K : Option ck_V → ck_W → Prop} {w : ck_W} {a2 a3 a4 a5 a7 a8 : Int} (h : (a7 ≤ a8 → (a4 = 0 → K (some (.inl 0)) w) ∧ (¬ a4 = 0 → (¬ a5 = 0 → K (some (.inl 0)) w) ∧ (a5 = 0 → K (some (.inl 1)) w))) ∧ (¬ a7 ≤ a8 → (0 ≤ a8 ∧ a8 < 1200) ∧ ((10000 ≤ (w 11 a8) → (20000 ≤ (w 11 a8) → (¬ (w 11 a8) = 20004 → (¬ (w 11 a8) = 20005 → ck_i ((w 11 a8) - 20000) ∧ (ck_CN (ch_C g A R) d mX7_work [.inr (.inr 70), .inl ((w 11 a8) - 20000)] w (fun w8 => ck_i (a8 + 1) ∧ (ck_At (ch_C g A R) (d + 1) mX7_inkAt K 73 [some (.inr (.inr 70)), none, some (.inl a2), some (.inl a3), some (.inl a4), some (.inl a5), none, some (.inl a7), some (.inl (a8 + 1)), none] [] w8)))) ∧ ((w 11 a8) = 20005 → ck_CI (ch_C g A R) d mX7_pop [.inr (.inr 70)] w (fun v12 w11 => (v12 = 0 → ck_i (a8 + 1) ∧ (ck_At (ch_C g A R) (d + 1) mX7_inkAt K 73 [some (.inr (.inr 70)), none, some (.inl a2), some (.inl a3), some (.inl a4), some (.inl (ck_or a5 0)), none, some (.inl a7), some (.inl (a8 + 1)), none] [] w11)) ∧ (¬ v12 = 0 → ck_i (a8 + 1) ∧ (ck_At (ch_C g A R) (d + 1) mX7_inkAt K 73 [some (.inr (.inr 70)), none, some (.inl a2), some (.inl a3), some (.inl a4), some (.inl (ck_or a5 1)), none, some (.inl a7), some (.inl (a8 + 1)), none] [] w11))))) ∧ ((w 11 a8) = 20004 → ck_CI (ch_C g A R) d mX7_pop [.inr (.inr 70)] w (fun v22 w21 => (v22 = 0 → ck_i (a8 + 1) ∧ (ck_At (ch_C g A R) (d + 1) mX7_inkAt K 73 [some (.inr (.inr 70)), none, some (.inl a2), some (.inl a3), some (.inl (ck_or a4 0)), some (.inl a5), none, some (.inl a7), some (.inl (a8 + 1)), none] [] w21)) ∧ (¬ v22 = 0 → ck_i (a8 + 1) ∧ (ck_At (ch_C g A R) (d + 1) mX7_inkAt K 73 [some (.inr (.inr 70)), none, some (.inl a2), some (.inl a3), some (.inl (ck_or a4 1)), some (.inl a5), none, some (.inl a7), some (.inl (a8 + 1)), none] [] w21))))) ∧ (¬ 20000 ≤ (w 11 a8) → ck_i ((w 11 a8) - 10000) ∧ (ck_CI (ch_C g A R) d mX7_valueOf [.inr (.inr 70), .inl ((w 11 a8) - 10000), .inl a2, .inl a3] w (fun v33 w32 => ck_CN (ch_C g A R) d mX7_push [.inr (.inr 70), .inl v33] w32 (fun w36 => ck_i (a8 + 1) ∧ (ck_At (ch_C g A R) (d + 1) mX7_inkAt K 73 [some (.inr (.inr 70)), none, some (.inl a2), some (.inl a3), some (.inl a4), some (.inl a5), none, some (.inl a7), some (.inl (a8 + 1)), none] [] w36)))))) ∧ (¬ 10000 ≤ (w 11 a8) → ck_CN (ch_C g A R) d mX7_push [.inr (.inr 70), .inl (w 11 a8)] w (fun w41 => ck_i (a8 + 1) ∧ (ck_At (ch_C g A R) (d + 1) mX7_inkAt K 73 [some (.inr (.inr 70)), none, some (.inl a2), some (.inl a3), some (.inl a4), some (.inl a5), none, some (.inl a7), some (.inl (a8 + 1)), none] [] w41)))))) : ck_At (ch_C g A R) (d + 1) mX7_inkAt K 73 [some (.inr (.inr 70)), none, some (.inl a2), some (.inl a3), some (.inl a4), some (.inl a5), none, some (.inl a7), some (.inl a8), none] [] w :=
  ck_in (fun hl => (ck_iload 75 rfl dX7_inkAt_73 rfl (ck_iload 77 rfl dX7_inkAt_75 rfl (ck_icmp_ge 80 rfl 208 dX7_inkAt_77 rfl hl.2.2.2.2.2.2.1 hl.2.2.2.2.2.1 (fun c46 => (ck_iload 210 rfl dX7_inkAt_208 rfl (have h48 := (h.1 c46); (ck_if_eq 213 rfl 222 dX7_inkAt_210 rfl hl.2.2.2.1 (fun c3 => (ck_iconst 223 rfl dX7_inkAt_222 rfl (ck_iret dX7_inkAt_223 rfl (show ck_i 0 by decide) (h48.1 c3)))) (fun c4 => (ck_iload 215 rfl dX7_inkAt_213 rfl (have h49 := (h48.2 c4); (ck_if_ne 218 rfl 222 dX7_inkAt_215 rfl hl.2.2.2.2.1 (fun c1 => (ck_iconst 223 rfl dX7_inkAt_222 rfl (ck_iret dX7_inkAt_223 rfl (show ck_i 0 by decide) (h49.1 c1)))) (fun c2 => (ck_iconst 219 rfl dX7_inkAt_218 rfl (ck_goto 223 dX7_inkAt_219 rfl (ck_iret dX7_inkAt_223 rfl (show ck_i 1 by decide) (h49.2 c2))))))))))))) (fun c47 => (ck_aload_n 81 rfl 0 dX7_inkAt_80 rfl rfl (ck_getr 84 rfl dX7_inkAt_81 fl_X7_19 sh_70 rfl (ck_getr 87 rfl dX7_inkAt_84 fl_X7_51 sh_10 rfl (ck_iload 89 rfl dX7_inkAt_87 rfl (have h51 := (h.2 c47); have o5 := h51.1; have h50 := h51.2; (ck_iald 90 rfl dX7_inkAt_89 sh_11 (shn_11 hC) o5 _ rfl (fun (q6 : ck_i (w 11 a8)) => (ck_istore 92 rfl [some (.inr (.inr 70)), none, some (.inl a2), some (.inl a3), some (.inl a4), some (.inl a5), none, some (.inl a7), some (.inl a8), some (.inl (w 11 a8))] dX7_inkAt_90 (Nat.le_of_ble_eq_true rfl) rfl rfl q6 (ck_iload 94 rfl dX7_inkAt_92 rfl (ck_sipush 97 rfl dX7_inkAt_94 rfl (ck_icmp_ge 100 rfl 109 dX7_inkAt_97 rfl q6 (show ck_i 10000 by decide) (fun c44 => (ck_iload 111 rfl dX7_inkAt_109 rfl (ck_sipush 114 rfl dX7_inkAt_111 rfl (have h52 := (h50.1 c44); (ck_icmp_ge 117 rfl 136 dX7_inkAt_114 rfl q6 (show ck_i 20000 by decide) (fun c39 => (ck_iload 138 rfl dX7_inkAt_136 rfl (ck_sipush 141 rfl dX7_inkAt_138 rfl (have h53 := (h52.1 c39); (ck_icmp_ne 144 rfl 164 dX7_inkAt_141 rfl q6 (show ck_i 20004 by decide) (fun c29 => (ck_iload 166 rfl dX7_inkAt_164 rfl (ck_sipush 169 rfl dX7_inkAt_166 rfl (have h54 := (h53.1 c29); (ck_icmp_ne 172 rfl 192 dX7_inkAt_169 rfl q6 (show ck_i 20005 by decide) (fun c19 => (ck_aload_n 193 rfl 0 dX7_inkAt_192 rfl rfl (ck_iload 195 rfl dX7_inkAt_193 rfl (ck_sipush 198 rfl dX7_inkAt_195 rfl (ck_isub 199 rfl dX7_inkAt_198 (have h56 := (h54.1 c19); have o7 := h56.1; have h55 := h56.2; (ck_callV 202 rfl [.inl ((w 11 a8) - 20000)] [] dX7_inkAt_199 cv_X7_68 sh_70 rfl rfl (Nat.le_of_ble_eq_true rfl) (And.intro o7 True.intro) (ck_mN h55 (fun w8 h10 => (have h58 := h10; have o9 := h58.1; have h57 := h58.2; (ck_iinc 205 rfl [some (.inr (.inr 70)), none, some (.inl a2), some (.inl a3), some (.inl a4), some (.inl a5), none, some (.inl a7), some (.inl (a8 + 1)), some (.inl (w 11 a8))] dX7_inkAt_202 rfl (Nat.le_of_ble_eq_true rfl) rfl rfl o9 (ck_goto 73 dX7_inkAt_205 rfl (ck_drop [some (.inr (.inr 70)), none, some (.inl a2), some (.inl a3), some (.inl a4), some (.inl a5), none, some (.inl a7), some (.inl (a8 + 1)), none] (And.intro rfl (And.intro rfl (And.intro rfl (And.intro rfl (And.intro rfl (And.intro rfl (And.intro rfl True.intro))))))) h57))))))))))))) (fun c20 => (ck_iload 174 rfl dX7_inkAt_172 rfl (ck_aload_n 175 rfl 0 dX7_inkAt_174 rfl rfl (ck_callV 178 rfl [] [.inl a5] dX7_inkAt_175 cv_X7_64 sh_70 rfl rfl (Nat.le_of_ble_eq_true rfl) True.intro (ck_mI (h54.2 c20) (fun v12 w11 q13 h14 => (ck_if_eq 181 rfl 185 dX7_inkAt_178 rfl q13 (fun c17 => (ck_iconst 186 rfl dX7_inkAt_185 rfl (ck_ior 187 rfl dX7_inkAt_186 (ck_istore 189 rfl [some (.inr (.inr 70)), none, some (.inl a2), some (.inl a3), some (.inl a4), some (.inl (ck_or a5 0)), none, some (.inl a7), some (.inl a8), some (.inl (w 11 a8))] dX7_inkAt_187 (Nat.le_of_ble_eq_true rfl) rfl rfl (ck_rng _) (ck_goto 202 dX7_inkAt_189 rfl (have h60 := (h14.1 c17); have o15 := h60.1; have h59 := h60.2; (ck_iinc 205 rfl [some (.inr (.inr 70)), none, some (.inl a2), some (.inl a3), some (.inl a4), some (.inl (ck_or a5 0)), none, some (.inl a7), some (.inl (a8 + 1)), some (.inl (w 11 a8))] dX7_inkAt_202 rfl (Nat.le_of_ble_eq_true rfl) rfl rfl o15 (ck_goto 73 dX7_inkAt_205 rfl (ck_drop [some (.inr (.inr 70)), none, some (.inl a2), some (.inl a3), some (.inl a4), some (.inl (ck_or a5 0)), none, some (.inl a7), some (.inl (a8 + 1)), none] (And.intro rfl (And.intro rfl (And.intro rfl (And.intro rfl (And.intro rfl (And.intro rfl (And.intro rfl True.intro))))))) h59))))))))) (fun c18 => (ck_iconst 182 rfl dX7_inkAt_181 rfl (ck_goto 186 dX7_inkAt_182 rfl (ck_ior 187 rfl dX7_inkAt_186 (ck_istore 189 rfl [some (.inr (.inr 70)), none, some (.inl a2), some (.inl a3), some (.inl a4), some (.inl (ck_or a5 1)), none, some (.inl a7), some (.inl a8), some (.inl (w 11 a8))] dX7_inkAt_187 (Nat.le_of_ble_eq_true rfl) rfl rfl (ck_rng _) (ck_goto 202 dX7_inkAt_189 rfl (have h62 := (h14.2 c18); have o16 := h62.1; have h61 := h62.2; (ck_iinc 205 rfl [some (.inr (.inr 70)), none, some (.inl a2), some (.inl a3), some (.inl a4), some (.inl (ck_or a5 1)), none, some (.inl a7), some (.inl (a8 + 1)), some (.inl (w 11 a8))] dX7_inkAt_202 rfl (Nat.le_of_ble_eq_true rfl) rfl rfl o16 (ck_goto 73 dX7_inkAt_205 rfl (ck_drop [some (.inr (.inr 70)), none, some (.inl a2), some (.inl a3), some (.inl a4), some (.inl (ck_or a5 1)), none, some (.inl a7), some (.inl (a8 + 1)), none] (And.intro rfl (And.intro rfl (And.intro rfl (And.intro rfl (And.intro rfl (And.intro rfl (And.intro rfl True.intro))))))) h61)))))))))))))))))))))) (fun c30 => (ck_iload 146 rfl dX7_inkAt_144 rfl (ck_aload_n 147 rfl 0 dX7_inkAt_146 rfl rfl (ck_callV 150 rfl [] [.inl a4] dX7_inkAt_147 cv_X7_64 sh_70 rfl rfl (Nat.le_of_ble_eq_true rfl) True.intro (ck_mI (h53.2 c30) (fun v22 w21 q23 h24 => (ck_if_eq 153 rfl 157 dX7_inkAt_150 rfl q23 (fun c27 => (ck_iconst 158 rfl dX7_inkAt_157 rfl (ck_ior 159 rfl dX7_inkAt_158 (ck_istore 161 rfl [some (.inr (.inr 70)), none, some (.inl a2), some (.inl a3), some (.inl (ck_or a4 0)), some (.inl a5), none, some (.inl a7), some (.inl a8), some (.inl (w 11 a8))] dX7_inkAt_159 (Nat.le_of_ble_eq_true rfl) rfl rfl (ck_rng _) (ck_goto 202 dX7_inkAt_161 rfl (have h64 := (h24.1 c27); have o25 := h64.1; have h63 := h64.2; (ck_iinc 205 rfl [some (.inr (.inr 70)), none, some (.inl a2), some (.inl a3), some (.inl (ck_or a4 0)), some (.inl a5), none, some (.inl a7), some (.inl (a8 + 1)), some (.inl (w 11 a8))] dX7_inkAt_202 rfl (Nat.le_of_ble_eq_true rfl) rfl rfl o25 (ck_goto 73 dX7_inkAt_205 rfl (ck_drop [some (.inr (.inr 70)), none, some (.inl a2), some (.inl a3), some (.inl (ck_or a4 0)), some (.inl a5), none, some (.inl a7), some (.inl (a8 + 1)), none] (And.intro rfl (And.intro rfl (And.intro rfl (And.intro rfl (And.intro rfl (And.intro rfl (And.intro rfl True.intro))))))) h63))))))))) (fun c28 => (ck_iconst 154 rfl dX7_inkAt_153 rfl (ck_goto 158 dX7_inkAt_154 rfl (ck_ior 159 rfl dX7_inkAt_158 (ck_istore 161 rfl [some (.inr (.inr 70)), none, some (.inl a2), some (.inl a3), some (.inl (ck_or a4 1)), some (.inl a5), none, some (.inl a7), some (.inl a8), some (.inl (w 11 a8))] dX7_inkAt_159 (Nat.le_of_ble_eq_true rfl) rfl rfl (ck_rng _) (ck_goto 202 dX7_inkAt_161 rfl (have h66 := (h24.2 c28); have o26 := h66.1; have h65 := h66.2; (ck_iinc 205 rfl [some (.inr (.inr 70)), none, some (.inl a2), some (.inl a3), some (.inl (ck_or a4 1)), some (.inl a5), none, some (.inl a7), some (.inl (a8 + 1)), some (.inl (w 11 a8))] dX7_inkAt_202 rfl (Nat.le_of_ble_eq_true rfl) rfl rfl o26 (ck_goto 73 dX7_inkAt_205 rfl (ck_drop [some (.inr (.inr 70)), none, some (.inl a2), some (.inl a3), some (.inl (ck_or a4 1)), some (.inl a5), none, some (.inl a7), some (.inl (a8 + 1)), none] (And.intro rfl (And.intro rfl (And.intro rfl (And.intro rfl (And.intro rfl (And.intro rfl (And.intro rfl True.intro))))))) h65)))))))))))))))))))))) (fun c40 => (ck_aload_n 118 rfl 0 dX7_inkAt_117 rfl rfl (ck_aload_n 119 rfl 0 dX7_inkAt_118 rfl rfl (ck_iload 121 rfl dX7_inkAt_119 rfl (ck_sipush 124 rfl dX7_inkAt_121 rfl (ck_isub 125 rfl dX7_inkAt_124 (ck_iload_n 126 rfl 2 dX7_inkAt_125 rfl rfl (ck_iload_n 127 rfl 3 dX7_inkAt_126 rfl rfl (have h68 := (h52.2 c40); have o31 := h68.1; have h67 := h68.2; (ck_callV 130 rfl [.inl ((w 11 a8) - 10000), .inl a2, .inl a3] [.inr (.inr 70)] dX7_inkAt_127 cv_X7_60 sh_70 rfl rfl (Nat.le_of_ble_eq_true rfl) (And.intro o31 (And.intro hl.2.1 (And.intro hl.2.2.1 True.intro))) (ck_mI h67 (fun v33 w32 q34 h35 => (ck_callV 133 rfl [.inl v33] [] dX7_inkAt_130 cv_X7_56 sh_70 rfl rfl (Nat.le_of_ble_eq_true rfl) (And.intro q34 True.intro) (ck_mN h35 (fun w36 h38 => (ck_goto 202 dX7_inkAt_133 rfl (have h70 := h38; have o37 := h70.1; have h69 := h70.2; (ck_iinc 205 rfl [some (.inr (.inr 70)), none, some (.inl a2), some (.inl a3), some (.inl a4), some (.inl a5), none, some (.inl a7), some (.inl (a8 + 1)), some (.inl (w 11 a8))] dX7_inkAt_202 rfl (Nat.le_of_ble_eq_true rfl) rfl rfl o37 (ck_goto 73 dX7_inkAt_205 rfl (ck_drop [some (.inr (.inr 70)), none, some (.inl a2), some (.inl a3), some (.inl a4), some (.inl a5), none, some (.inl a7), some (.inl (a8 + 1)), none] (And.intro rfl (And.intro rfl (And.intro rfl (And.intro rfl (And.intro rfl (And.intro rfl (And.intro rfl True.intro))))))) h69))))))))))))))))))))))))) (fun c45 => (ck_aload_n 101 rfl 0 dX7_inkAt_100 rfl rfl (ck_iload 103 rfl dX7_inkAt_101 rfl (ck_callV 106 rfl [.inl (w 11 a8)] [] dX7_inkAt_103 cv_X7_56 sh_70 rfl rfl (Nat.le_of_ble_eq_true rfl) (And.intro q6 True.intro) (ck_mN (h50.2 c45) (fun w41 h43 => (ck_goto 202 dX7_inkAt_106 rfl (have h72 := h43; have o42 := h72.1; have h71 := h72.2; (ck_iinc 205 rfl [some (.inr (.inr 70)), none, some (.inl a2), some (.inl a3), some (.inl a4), some (.inl a5), none, some (.inl a7), some (.inl (a8 + 1)), some (.inl (w 11 a8))] dX7_inkAt_202 rfl (Nat.le_of_ble_eq_true rfl) rfl rfl o42 (ck_goto 73 dX7_inkAt_205 rfl (ck_drop [some (.inr (.inr 70)), none, some (.inl a2), some (.inl a3), some (.inl a4), some (.inl a5), none, some (.inl a7), some (.inl (a8 + 1)), none] (And.intro rfl (And.intro rfl (And.intro rfl (And.intro rfl (And.intro rfl (And.intro rfl (And.intro rfl True.intro))))))) h71)))))))))))))))))))))))))))
theorem p_X7_inkAt {g : ch_G} {A R : Nat} (hC : ck_Cx g A R) {d : Nat} {K : Option ck_V → ck_W → Prop} {w : ck_W} {a1 a2 a3 : Int} (hH : cv_H A R w) (hT : cs_T w) (hR : cs_Cd w) (h1 : (0 ≤ a1 ∧ a1 < w 10 3) → cs_has A w a2 a3 → w 61 a2 ≠ 0 → ∀ w', (∀ k, k ≠ 70 → k ≠ 71 → w' k = w k) → K (some (.inl (cv_ik A R w a1 a2 a3))) w') (h0 : ¬ ((0 ≤ a1 ∧ a1 < w 10 3) ∧ cs_has A w a2 a3 ∧ w 61 a2 ≠ 0) → K (some (.inl (-1))) w) : ck_Ex (ch_C g A R) (d + 4) mX7_inkAt [.inr (.inr 70), .inl a1, .inl a2, .inl a3] w K := by
  refine e_X7_inkAt hC (p_X4_has hC hR.1 (fun ok => ⟨_, rfl, fun _ => ⟨fun z => absurd z (by decide), fun _ => p_X5_hasPlace hC hH.1 hT (fun y => ⟨_, rfl, fun _ => ⟨fun z => absurd z (by decide), fun _ => ?_⟩⟩) (fun no => ⟨_, rfl, fun _ => ⟨fun _ => h0 (fun x => no x.2.1), fun z => absurd rfl z⟩⟩)⟩⟩) (fun no => ⟨_, rfl, fun _ => ⟨fun _ => h0 (fun x => no x.1), fun z => absurd rfl z⟩⟩))
  have y1 := y.1
  have y2 := y.2
  have tb := cs_tb hC hT y.1
  have rc := hR.2 a1 ok.1 ok.2
  have r1 := rc.1
  have cn := hR.1
  refine ⟨by omega, fun z => ⟨by constructor <;> omega, by omega, by constructor <;> omega, ?_⟩, fun z => h0 (fun x => x.2.2 z)⟩
  have k := h1 ok y z
  unfold cv_ik at k
  have lp : ∀ (n : Nat) (i : Int) (t : (Int × Int) × cv_S) (u : ck_W), a1 * 300 + w 12 a1 - i = n → a1 * 300 ≤ i → (t.1.1 = 0 ∨ t.1.1 = 1) → (t.1.2 = 0 ∨ t.1.2 = 1) → cv_at w u t.2 → cv_b (1000000 + (i - a1 * 300)) t.2 → cv_rn (cv_v A R w a2 a3) (w 11) n i t = cv_rn (cv_v A R w a2 a3) (w 11) (w 12 a1).toNat (a1 * 300) ((0, 0), (0, w 71)) → ck_At (ch_C g A R) (d + 4) mX7_inkAt K 73 [some (.inr (.inr 70)), none, some (.inl a2), some (.inl a3), some (.inl t.1.1), some (.inl t.1.2), none, some (.inl (a1 * 300 + w 12 a1)), some (.inl i), none] [] u := by
    intro n
    induction n with
    | zero =>
      intro i t u g1 g2 g3 g4 g5 g6 g7
      rw [cv_rn] at g7
      rw [← g7] at k
      have k2 := k u g5.1
      refine r_X7_inkAt_73 hC ⟨fun _ => ⟨fun x => by rw [if_pos x] at k2; exact k2, fun x => ⟨fun x2 => by rw [if_neg x, if_neg x2] at k2; exact k2, fun x2 => by rw [if_neg x, if_pos x2] at k2; exact k2⟩⟩, fun x => absurd (by omega) x⟩
    | succ n ih =>
      intro i t u g1 g2 g3 g4 g5 g6 g7
      rw [cv_rn] at g7
      have u11 : u 11 i = w 11 i := by rw [g5.1 11 (by decide) (by decide)]
      have cb := rc.2 (i - a1 * 300) (by omega) (by omega)
      rw [show a1 * 300 + (i - a1 * 300) = i by omega] at cb
      have uH := cv_H_fr hH g5
      have pb := cv_pp_b (by omega) g6
      unfold cv_st at g7
      refine r_X7_inkAt_73 hC ?_
      rw [u11, cv_or0 g3, cv_or0 g4, cv_or1 g3, cv_or1 g4]
      refine ⟨fun x => absurd x (by omega), fun _ => ⟨by omega, fun x1 => ⟨fun x2 => ⟨fun x3 => ⟨fun x4 => ?_, fun x4 => ?_⟩, fun x3 => ?_⟩, fun x2 => ?_⟩, fun x1 => ?_⟩⟩
      · rw [if_neg (by omega), if_neg (by omega), if_neg x3, if_neg x4] at g7
        refine ⟨by constructor <;> omega, p_X7_work hC (B := 1000000 + (i - a1 * 300)) (by omega) g6 g5 (fun w' k1 => ⟨rfl, by constructor <;> omega, ih (i + 1) (t.1, cv_wk (w 11 i - 20000) t.2) w' (by omega) (by omega) g3 g4 k1 (cv_bm (cv_wk_b (by omega) g6) (by omega)) g7⟩)⟩
      · rw [if_neg (by omega), if_neg (by omega), if_neg x3, if_pos x4] at g7
        refine p_X7_pop hC g5 (fun w' k1 => ⟨_, rfl, fun _ => ⟨fun v => ⟨by constructor <;> omega, ?_⟩, fun v => ⟨by constructor <;> omega, ?_⟩⟩⟩)
        · rw [if_pos v] at g7
          exact ih (i + 1) ((t.1.1, t.1.2), (cv_pp t.2).2) w' (by omega) (by omega) g3 g4 k1 (cv_bm pb.1 (by omega)) g7
        · rw [if_neg v] at g7
          exact ih (i + 1) ((t.1.1, 1), (cv_pp t.2).2) w' (by omega) (by omega) g3 (Or.inr rfl) k1 (cv_bm pb.1 (by omega)) g7
      · rw [if_neg (by omega), if_neg (by omega), if_pos x3] at g7
        refine p_X7_pop hC g5 (fun w' k1 => ⟨_, rfl, fun _ => ⟨fun v => ⟨by constructor <;> omega, ?_⟩, fun v => ⟨by constructor <;> omega, ?_⟩⟩⟩)
        · rw [if_pos v] at g7
          exact ih (i + 1) ((t.1.1, t.1.2), (cv_pp t.2).2) w' (by omega) (by omega) g3 g4 k1 (cv_bm pb.1 (by omega)) g7
        · rw [if_neg v] at g7
          exact ih (i + 1) ((1, t.1.2), (cv_pp t.2).2) w' (by omega) (by omega) (Or.inr rfl) g4 k1 (cv_bm pb.1 (by omega)) g7
      · rw [if_neg (by omega), if_pos (by omega)] at g7
        have vb := cv_vb hC hH (n := w 11 i - 10000) y.1 (p := a3) (by omega)
        refine ⟨by constructor <;> omega, p_X7_valueOf hC uH y.1 (by omega) ⟨_, rfl, fun _ => ?_⟩⟩
        rw [cv_v_fr g5]
        exact p_X7_push hC g5 (fun w' k1 => ⟨rfl, by constructor <;> omega, ih (i + 1) (t.1, cv_ps t.2 (cv_v A R w a2 a3 (w 11 i - 10000))) w' (by omega) (by omega) g3 g4 k1 (cv_bm (cv_ps_b g6 (by omega)) (by omega)) g7⟩)
      · rw [if_pos (by omega)] at g7
        exact p_X7_push hC g5 (fun w' k1 => ⟨rfl, by constructor <;> omega, ih (i + 1) (t.1, cv_ps t.2 (w 11 i)) w' (by omega) (by omega) g3 g4 k1 (cv_bm (cv_ps_b g6 (by omega)) (by omega)) g7⟩)
  exact lp (w 12 a1).toNat (a1 * 300) ((0, 0), (0, w 71)) (ck_up w 70 4 0) (by omega) (by omega) (Or.inl rfl) (Or.inl rfl) ⟨fun k a _ => by rw [ck_up_ne a], by rw [ck_up_eq], by rw [ck_up_ne (by decide)]⟩ ⟨by dsimp only; omega, fun i a b => by dsimp only at b; omega⟩ rfl
