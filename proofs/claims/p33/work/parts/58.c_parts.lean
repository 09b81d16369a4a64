/-! ===== the class: odds of letters, seen, parts ===== -/
theorem cs_lcp {w : ck_W} (hL : cs_L w) (hW : cs_Lw w) (hH : cs_H w) {k s : Int} (hk : 0 ≤ k ∧ k < w 15 2) (hs : 0 ≤ s ∧ s < 512) : 1 ≤ cs_lc w k s := by
  have t := hW k hk.1 hk.2
  unfold cs_lc
  generalize ck_on 9 (ck_xor (w 16 k) s) = v
  have p1 := ck_pw_pos (b := w 15 6) (e := 9 - v) hH.1.1
  have p2 := ck_pw_pos (b := w 15 7) (e := 9 - (9 - v)) hH.2.1
  generalize ck_pw (w 15 6) (9 - v) = x at *
  generalize ck_pw (w 15 7) (9 - (9 - v)) = y at *
  have u1 : 1 * 1 ≤ x * y := Int.mul_le_mul p1 p2 (by decide) (by omega)
  have u2 : 1 * 1 ≤ w 17 k * (x * y) := Int.mul_le_mul t.1 u1 (by decide) (by omega)
  omega
/-- the letter that ink shows is one -/
theorem cs_bl_in {w : ck_W} {s : Int} : ∀ (n : Nat) (k : Int) (x : Int × Int), (0 ≤ x.1 ∧ x.1 < k) → 0 ≤ k → 0 ≤ (cs_bl w s n k x).1 ∧ (cs_bl w s n k x).1 < k + n
  | 0, k, x, h, _ => by rw [cs_bl]; omega
  | n + 1, k, x, h, h0 => by
    rw [cs_bl]
    have i := cs_bl_in (w := w) (s := s) n (k + 1) (if cs_lc w k s ≤ x.2 then x else (k, cs_lc w k s)) (by split <;> first | omega | (dsimp only; omega)) (by omega)
    omega
theorem cs_bl_one {w : ck_W} (hL : cs_L w) (hW : cs_Lw w) (hH : cs_H w) {s : Int} (hs : 0 ≤ s ∧ s < 512) (h : 1 ≤ w 15 2) : 0 ≤ (cs_bl w s (w 15 2).toNat 0 (-1, 0)).1 ∧ (cs_bl w s (w 15 2).toNat 0 (-1, 0)).1 < w 15 2 := by
  obtain ⟨n, e⟩ : ∃ n : Nat, (w 15 2).toNat = n + 1 := ⟨(w 15 2).toNat - 1, by omega⟩
  have p := cs_lcp hL hW hH (k := 0) ⟨by omega, by omega⟩ hs
  rw [e, cs_bl, if_neg (by dsimp only; omega)]
  have i := cs_bl_in (w := w) (s := s) n (0 + 1) (0, cs_lc w 0 s) (by dsimp only; omega) (by omega)
  omega
def cs_la (w : ck_W) (s : Int) : Nat → Int → Int → Int
  | 0, _, x => x
  | n + 1, k, x => cs_la w s n (k + 1) (x + cs_lc w k s)
theorem dX2_letterOdds_0 : decode cX2_letterOdds 0 = .ok (.lconst 0, 1) := dk_9 (by decide +kernel)
theorem dX2_letterOdds_1 : decode cX2_letterOdds 1 = .ok (.lstore_n 3, 1) := dk_66 (by decide +kernel)
theorem dX2_letterOdds_2 : decode cX2_letterOdds 2 = .ok (.iconst 0, 1) := dk_3 (by decide +kernel)
theorem dX2_letterOdds_3 : decode cX2_letterOdds 3 = .ok (.istore 5, 2) := dk_54 (by decide +kernel)
theorem dX2_letterOdds_5 : decode cX2_letterOdds 5 = .ok (.iload 5, 2) := dk_21 (by decide +kernel)
theorem dX2_letterOdds_7 : decode cX2_letterOdds 7 = .ok (.aload_n 0, 1) := dk_42 (by decide +kernel)
theorem dX2_letterOdds_8 : decode cX2_letterOdds 8 = .ok (.getfield 35, 3) := dk_180 0 35 (by decide +kernel)
theorem dX2_letterOdds_11 : decode cX2_letterOdds 11 = .ok (.if_icmp .ge 19, 3) := dk_162 0 19 (by decide +kernel)
theorem dX2_letterOdds_14 : decode cX2_letterOdds 14 = .ok (.lload_n 3, 1) := dk_33 (by decide +kernel)
theorem dX2_letterOdds_15 : decode cX2_letterOdds 15 = .ok (.aload_n 0, 1) := dk_42 (by decide +kernel)
theorem dX2_letterOdds_16 : decode cX2_letterOdds 16 = .ok (.iload 5, 2) := dk_21 (by decide +kernel)
theorem dX2_letterOdds_18 : decode cX2_letterOdds 18 = .ok (.iload_n 2, 1) := dk_28 (by decide +kernel)
theorem dX2_letterOdds_19 : decode cX2_letterOdds 19 = .ok (.invokevirtual 69, 3) := dk_182 0 69 (by decide +kernel)
theorem dX2_letterOdds_22 : decode cX2_letterOdds 22 = .ok (.ladd, 1) := dk_97 (by decide +kernel)
theorem dX2_letterOdds_23 : decode cX2_letterOdds 23 = .ok (.lstore_n 3, 1) := dk_66 (by decide +kernel)
theorem dX2_letterOdds_24 : decode cX2_letterOdds 24 = .ok (.iinc 5 1, 3) := dk_132 1 (by decide +kernel)
theorem dX2_letterOdds_27 : decode cX2_letterOdds 27 = .ok (.goto (-22), 3) := dk_167 255 234 (by decide +kernel)
theorem dX2_letterOdds_30 : decode cX2_letterOdds 30 = .ok (.aload_n 0, 1) := dk_42 (by decide +kernel)
theorem dX2_letterOdds_31 : decode cX2_letterOdds 31 = .ok (.iload_n 1, 1) := dk_27 (by decide +kernel)
theorem dX2_letterOdds_32 : decode cX2_letterOdds 32 = .ok (.iload_n 2, 1) := dk_28 (by decide +kernel)
theorem dX2_letterOdds_33 : decode cX2_letterOdds 33 = .ok (.invokevirtual 69, 3) := dk_182 0 69 (by decide +kernel)
theorem dX2_letterOdds_36 : decode cX2_letterOdds 36 = .ok (.lload_n 3, 1) := dk_33 (by decide +kernel)
theorem dX2_letterOdds_37 : decode cX2_letterOdds 37 = .ok (.invokestatic 72, 3) := dk_184 0 72 (by decide +kernel)
theorem dX2_letterOdds_40 : decode cX2_letterOdds 40 = .ok (.ireturn, 1) := dk_172 (by decide +kernel)
set_option maxRecDepth 8000 in
theorem e_X2_letterOdds {g : ch_G} {A R : Nat} (hC : ck_Cx g A R) {d : Nat} {K : Option ck_V → ck_W → Prop} {w : ck_W} {a1 a2 : Int} (h : ck_At (ch_C g A R) (d + 1) mX2_letterOdds K 5 [some (.inr (.inr 15)), some (.inl a1), some (.inl a2), some (.inr (.inl 0)), none, some (.inl 0)] [] w) : ck_Ex (ch_C g A R) (d + 1) mX2_letterOdds [.inr (.inr 15), .inl a1, .inl a2] w K :=
  ck_entry hC.1 [some (.inr (.inr 15)), some (.inl a1), some (.inl a2), none, none, none] (by decide) (Nat.le_of_ble_eq_true rfl) rfl (fun q => q) (ck_in (fun hl => (ck_lconst 1 rfl 0 dX2_letterOdds_0 rfl (ck_lstore_n 2 rfl 3 [some (.inr (.inr 15)), some (.inl a1), some (.inl a2), some (.inr (.inl 0)), none, none] dX2_letterOdds_1 rfl (Nat.le_of_ble_eq_true rfl) rfl rfl (show ck_l 0 by decide) (ck_iconst 3 rfl dX2_letterOdds_2 rfl (ck_istore 5 rfl [some (.inr (.inr 15)), some (.inl a1), some (.inl a2), some (.inr (.inl 0)), none, some (.inl 0)] dX2_letterOdds_3 (Nat.le_of_ble_eq_true rfl) rfl rfl (show ck_i 0 by decide) h))))))
set_option maxRecDepth 8000 in
theorem r_X2_letterOdds_5 {g : ch_G} {A R : Nat} (hC : ck_Cx g A R) {d : Nat} {K : Option ck_V → ck_W → Prop} {w : ck_W} {a1 a2 a3 a5 : Int} (h : ((w 15 2) ≤ a5 → ck_CJ (ch_C g A R) d mX2_letterChance [.inr (.inr 15), .inl a1, .inl a2] w (fun v3 w2 => ck_CI (ch_C g A R) d mX2_thousandths [.inr (.inl v3), .inr (.inl a3)] w2 (fun v7 w6 => K (some (.inl v7)) w6))) ∧ (¬ (w 15 2) ≤ a5 → ck_CJ (ch_C g A R) d mX2_letterChance [.inr (.inr 15), .inl a5, .inl a2] w (fun v11 w10 => ck_l (a3 + v11) ∧ (ck_i (a5 + 1) ∧ (ck_At (ch_C g A R) (d + 1) mX2_letterOdds K 5 [some (.inr (.inr 15)), some (.inl a1), some (.inl a2), some (.inr (.inl (a3 + v11))), none, some (.inl (a5 + 1))] [] w10))))) : ck_At (ch_C g A R) (d + 1) mX2_letterOdds K 5 [some (.inr (.inr 15)), some (.inl a1), some (.inl a2), some (.inr (.inl a3)), none, some (.inl a5)] [] w :=
  ck_in (fun hl => (ck_iload 7 rfl dX2_letterOdds_5 rfl (ck_aload_n 8 rfl 0 dX2_letterOdds_7 rfl rfl (ck_geti 11 rfl 2 dX2_letterOdds_8 fl_X2_35 sh_15 rfl rfl _ rfl (fun (q1 : ck_i (w 15 2)) => (ck_icmp_ge 14 rfl 30 dX2_letterOdds_11 rfl hl.2.2.2.2.1 q1 (fun c16 => (ck_aload_n 31 rfl 0 dX2_letterOdds_30 rfl rfl (ck_iload_n 32 rfl 1 dX2_letterOdds_31 rfl rfl (ck_iload_n 33 rfl 2 dX2_letterOdds_32 rfl rfl (ck_callV 36 rfl [.inl a1, .inl a2] [] dX2_letterOdds_33 cv_X2_69 sh_15 rfl rfl (Nat.le_of_ble_eq_true rfl) (And.intro hl.2.1 (And.intro hl.2.2.1 True.intro)) (ck_mJ (h.1 c16) (fun v3 w2 q4 h5 => (ck_lload_n 37 rfl 3 dX2_letterOdds_36 rfl rfl (ck_callS 40 rfl [.inr (.inl v3), .inr (.inl a3)] [] dX2_letterOdds_37 cs_X2_72 rfl rfl (Nat.le_of_ble_eq_true rfl) (And.intro q4 (And.intro hl.2.2.2.1 True.intro)) (ck_mI h5 (fun v7 w6 q8 h9 => (ck_iret dX2_letterOdds_40 rfl q8 h9)))))))))))) (fun c17 => (ck_lload_n 15 rfl 3 dX2_letterOdds_14 rfl rfl (ck_aload_n 16 rfl 0 dX2_letterOdds_15 rfl rfl (ck_iload 18 rfl dX2_letterOdds_16 rfl (ck_iload_n 19 rfl 2 dX2_letterOdds_18 rfl rfl (ck_callV 22 rfl [.inl a5, .inl a2] [.inr (.inl a3)] dX2_letterOdds_19 cv_X2_69 sh_15 rfl rfl (Nat.le_of_ble_eq_true rfl) (And.intro hl.2.2.2.2.1 (And.intro hl.2.2.1 True.intro)) (ck_mJ (h.2 c17) (fun v11 w10 q12 h13 => (ck_ladd 23 rfl dX2_letterOdds_22 (have h19 := h13; have o14 := h19.1; have h18 := h19.2; (ck_lstore_n 24 rfl 3 [some (.inr (.inr 15)), some (.inl a1), some (.inl a2), some (.inr (.inl (a3 + v11))), none, some (.inl a5)] dX2_letterOdds_23 rfl (Nat.le_of_ble_eq_true rfl) rfl rfl o14 (have h21 := h18; have o15 := h21.1; have h20 := h21.2; (ck_iinc 27 rfl [some (.inr (.inr 15)), some (.inl a1), some (.inl a2), some (.inr (.inl (a3 + v11))), none, some (.inl (a5 + 1))] dX2_letterOdds_24 rfl (Nat.le_of_ble_eq_true rfl) rfl rfl o15 (ck_goto 5 dX2_letterOdds_27 rfl h20))))))))))))))))))))
theorem L_X2_letterOdds {g : ch_G} {A R : Nat} (hC : ck_Cx g A R) {d : Nat} {K : Option ck_V → ck_W → Prop} {w : ck_W} {a1 a2 : Int} (hL : cs_L w) (hW : cs_Lw w) (hH : cs_H w) (h2 : 0 ≤ a2 ∧ a2 < 512) (h1 : 0 ≤ a1 ∧ a1 < w 15 2) (n : Nat) : ∀ (a3 a5 : Int), w 15 2 - a5 = n → 0 ≤ a5 → (0 ≤ a3 ∧ a3 ≤ 754934151013713 * a5) → (a1 < a5 → cs_lc w a1 a2 ≤ a3) → K (some (.inl (cs_th (cs_lc w a1 a2) (cs_la w a2 n a5 a3)))) w → ck_At (ch_C g A R) (d + 4) mX2_letterOdds K 5 [some (.inr (.inr 15)), some (.inl a1), some (.inl a2), some (.inr (.inl a3)), none, some (.inl a5)] [] w := by
  have l0 := hL.1
  have b1 := cs_lcb hL hW hH h1 h2
  induction n with
  | zero =>
    intro a3 a5 g1 g2 g3 g4 h
    exact r_X2_letterOdds_5 hC ⟨fun _ => p_X2_letterChance hC hL hW hH h2 h1 ⟨_, rfl, fun _ => p_X2_thousandths hC (by omega) (g4 (by omega)) ⟨_, rfl, fun _ => h⟩⟩, fun q => absurd (by omega) q⟩
  | succ n ih =>
    intro a3 a5 g1 g2 g3 g4 h
    rw [cs_la] at h
    have b5 := cs_lcb hL hW hH (k := a5) ⟨g2, by omega⟩ h2
    refine r_X2_letterOdds_5 hC ⟨fun q => absurd q (by omega), fun q => p_X2_letterChance hC hL hW hH h2 ⟨g2, by omega⟩ ⟨_, rfl, fun _ => ⟨by constructor <;> omega, by constructor <;> omega, ih _ (a5 + 1) (by omega) (by omega) (by omega) (fun q2 => ?_) h⟩⟩⟩
    by_cases e : a1 = a5
    · rw [e]; omega
    · have := g4 (by omega); omega
theorem S_X2_letterOdds {g : ch_G} {A R : Nat} (hC : ck_Cx g A R) {d : Nat} {K : Option ck_V → ck_W → Prop} {w : ck_W} {a1 a2 : Int} (hL : cs_L w) (hW : cs_Lw w) (hH : cs_H w) (h2 : 0 ≤ a2 ∧ a2 < 512) (h1 : 0 ≤ a1 ∧ a1 < w 15 2) (h : K (some (.inl (cs_th (cs_lc w a1 a2) (cs_la w a2 (w 15 2).toNat 0 0)))) w) : ck_Ex (ch_C g A R) (d + 4) mX2_letterOdds [.inr (.inr 15), .inl a1, .inl a2] w K :=
  e_X2_letterOdds hC (L_X2_letterOdds hC hL hW hH h2 h1 (w 15 2).toNat 0 0 (by omega) (by omega) (by omega) (fun q => by omega) h)
/-- some letter is like a shape at so many bits -/
def cs_some (w : ck_W) (m s : Int) : Prop := ∃ k, (0 ≤ k ∧ k < w 15 2) ∧ m ≤ 9 - ck_on 9 (ck_xor (w 16 k) s)
noncomputable def cs_tm (P : Prop) (x : Int) : Int := @ite _ P (Classical.propDecidable P) x 0
theorem cs_tm1 {P : Prop} {x : Int} (h : P) : cs_tm P x = x := by unfold cs_tm; rw [if_pos h]
theorem cs_tm0 {P : Prop} {x : Int} (h : ¬ P) : cs_tm P x = 0 := by unfold cs_tm; rw [if_neg h]
def cs_sm (f : Int → Int) : Nat → Int
  | 0 => 0
  | n + 1 => cs_sm f n + f n
noncomputable def cs_st (w : ck_W) (q m s : Int) : Int := cs_tm (cs_some w m s) (ck_pw q (ck_on 9 s) * ck_pw (10 - q) (9 - ck_on 9 s))
theorem dX11_seen_0 : decode cX11_seen 0 = .ok (.iload_n 1, 1) := dk_27 (by decide +kernel)
theorem dX11_seen_1 : decode cX11_seen 1 = .ok (.iconst 0, 1) := dk_3 (by decide +kernel)
theorem dX11_seen_2 : decode cX11_seen 2 = .ok (.bipush 10, 2) := dk_16 10 (by decide +kernel)
theorem dX11_seen_4 : decode cX11_seen 4 = .ok (.invokestatic 82, 3) := dk_184 0 82 (by decide +kernel)
theorem dX11_seen_7 : decode cX11_seen 7 = .ok (.ifCond .eq 13, 3) := dk_153 0 13 (by decide +kernel)
theorem dX11_seen_10 : decode cX11_seen 10 = .ok (.iload_n 2, 1) := dk_28 (by decide +kernel)
theorem dX11_seen_11 : decode cX11_seen 11 = .ok (.iconst 0, 1) := dk_3 (by decide +kernel)
theorem dX11_seen_12 : decode cX11_seen 12 = .ok (.bipush 9, 2) := dk_16 9 (by decide +kernel)
theorem dX11_seen_14 : decode cX11_seen 14 = .ok (.invokestatic 82, 3) := dk_184 0 82 (by decide +kernel)
theorem dX11_seen_17 : decode cX11_seen 17 = .ok (.ifCond .ne 5, 3) := dk_154 0 5 (by decide +kernel)
theorem dX11_seen_20 : decode cX11_seen 20 = .ok (.iconst (-1), 1) := dk_2 (by decide +kernel)
theorem dX11_seen_21 : decode cX11_seen 21 = .ok (.ireturn, 1) := dk_172 (by decide +kernel)
theorem dX11_seen_22 : decode cX11_seen 22 = .ok (.lconst 0, 1) := dk_9 (by decide +kernel)
theorem dX11_seen_23 : decode cX11_seen 23 = .ok (.lstore_n 3, 1) := dk_66 (by decide +kernel)
theorem dX11_seen_24 : decode cX11_seen 24 = .ok (.iconst 0, 1) := dk_3 (by decide +kernel)
theorem dX11_seen_25 : decode cX11_seen 25 = .ok (.istore 5, 2) := dk_54 (by decide +kernel)
theorem dX11_seen_27 : decode cX11_seen 27 = .ok (.iload 5, 2) := dk_21 (by decide +kernel)
theorem dX11_seen_29 : decode cX11_seen 29 = .ok (.sipush 512, 3) := dk_17 2 0 (by decide +kernel)
theorem dX11_seen_32 : decode cX11_seen 32 = .ok (.if_icmp .ge 54, 3) := dk_162 0 54 (by decide +kernel)
theorem dX11_seen_35 : decode cX11_seen 35 = .ok (.aload_n 0, 1) := dk_42 (by decide +kernel)
theorem dX11_seen_36 : decode cX11_seen 36 = .ok (.getfield 14, 3) := dk_180 0 14 (by decide +kernel)
theorem dX11_seen_39 : decode cX11_seen 39 = .ok (.getfield 229, 3) := dk_180 0 229 (by decide +kernel)
theorem dX11_seen_42 : decode cX11_seen 42 = .ok (.iload 5, 2) := dk_21 (by decide +kernel)
theorem dX11_seen_44 : decode cX11_seen 44 = .ok (.iload_n 2, 1) := dk_28 (by decide +kernel)
theorem dX11_seen_45 : decode cX11_seen 45 = .ok (.invokevirtual 293, 3) := dk_182 1 37 (by decide +kernel)
theorem dX11_seen_48 : decode cX11_seen 48 = .ok (.ifCond .eq 32, 3) := dk_153 0 32 (by decide +kernel)
theorem dX11_seen_51 : decode cX11_seen 51 = .ok (.iload 5, 2) := dk_21 (by decide +kernel)
theorem dX11_seen_53 : decode cX11_seen 53 = .ok (.invokestatic 296, 3) := dk_184 1 40 (by decide +kernel)
theorem dX11_seen_56 : decode cX11_seen 56 = .ok (.istore 6, 2) := dk_54 (by decide +kernel)
theorem dX11_seen_58 : decode cX11_seen 58 = .ok (.lload_n 3, 1) := dk_33 (by decide +kernel)
theorem dX11_seen_59 : decode cX11_seen 59 = .ok (.iload_n 1, 1) := dk_27 (by decide +kernel)
theorem dX11_seen_60 : decode cX11_seen 60 = .ok (.iload 6, 2) := dk_21 (by decide +kernel)
theorem dX11_seen_62 : decode cX11_seen 62 = .ok (.invokestatic 101, 3) := dk_184 0 101 (by decide +kernel)
theorem dX11_seen_65 : decode cX11_seen 65 = .ok (.bipush 10, 2) := dk_16 10 (by decide +kernel)
theorem dX11_seen_67 : decode cX11_seen 67 = .ok (.iload_n 1, 1) := dk_27 (by decide +kernel)
theorem dX11_seen_68 : decode cX11_seen 68 = .ok (.isub, 1) := dk_100 (by decide +kernel)
theorem dX11_seen_69 : decode cX11_seen 69 = .ok (.bipush 9, 2) := dk_16 9 (by decide +kernel)
theorem dX11_seen_71 : decode cX11_seen 71 = .ok (.iload 6, 2) := dk_21 (by decide +kernel)
theorem dX11_seen_73 : decode cX11_seen 73 = .ok (.isub, 1) := dk_100 (by decide +kernel)
theorem dX11_seen_74 : decode cX11_seen 74 = .ok (.invokestatic 101, 3) := dk_184 0 101 (by decide +kernel)
theorem dX11_seen_77 : decode cX11_seen 77 = .ok (.lmul, 1) := dk_105 (by decide +kernel)
theorem dX11_seen_78 : decode cX11_seen 78 = .ok (.ladd, 1) := dk_97 (by decide +kernel)
theorem dX11_seen_79 : decode cX11_seen 79 = .ok (.lstore_n 3, 1) := dk_66 (by decide +kernel)
theorem dX11_seen_80 : decode cX11_seen 80 = .ok (.iinc 5 1, 3) := dk_132 1 (by decide +kernel)
theorem dX11_seen_83 : decode cX11_seen 83 = .ok (.goto (-56), 3) := dk_167 255 200 (by decide +kernel)
theorem dX11_seen_86 : decode cX11_seen 86 = .ok (.lload_n 3, 1) := dk_33 (by decide +kernel)
theorem dX11_seen_87 : decode cX11_seen 87 = .ok (.l2i, 1) := dk_136 (by decide +kernel)
theorem dX11_seen_88 : decode cX11_seen 88 = .ok (.ireturn, 1) := dk_172 (by decide +kernel)
set_option maxRecDepth 8000 in
theorem e_X11_seen {g : ch_G} {A R : Nat} (hC : ck_Cx g A R) {d : Nat} {K : Option ck_V → ck_W → Prop} {w : ck_W} {a1 a2 : Int} (h : (0 ≤ a1 ∧ a1 ≤ 10 → (0 ≤ a2 ∧ a2 ≤ 9 → ck_At (ch_C g A R) (d + 1) mX11_seen K 27 [some (.inr (.inr 0)), some (.inl a1), some (.inl a2), some (.inr (.inl 0)), none, some (.inl 0), none] [] w) ∧ (¬ (0 ≤ a2 ∧ a2 ≤ 9) → K (some (.inl (-1))) w)) ∧ (¬ (0 ≤ a1 ∧ a1 ≤ 10) → K (some (.inl (-1))) w)) : ck_Ex (ch_C g A R) (d + 1) mX11_seen [.inr (.inr 0), .inl a1, .inl a2] w K :=
  ck_entry hC.1 [some (.inr (.inr 0)), some (.inl a1), some (.inl a2), none, none, none, none] (by decide) (Nat.le_of_ble_eq_true rfl) rfl (fun q => q) (ck_in (fun hl => (ck_iload_n 1 rfl 1 dX11_seen_0 rfl rfl (ck_iconst 2 rfl dX11_seen_1 rfl (ck_bipush 4 rfl dX11_seen_2 rfl (have h6 := h; ck_callS 7 rfl [.inl a1, .inl 0, .inl 10] [] dX11_seen_4 cs_X11_82 rfl rfl (Nat.le_of_ble_eq_true rfl) (And.intro hl.2.1 (And.intro (show ck_i 0 by decide) (And.intro (show ck_i 10 by decide) True.intro))) (p_X11_within hC (fun c4 _ => (ck_if_eq 10 rfl 20 dX11_seen_7 rfl (by decide) (fun q => absurd q (by decide)) (fun _ => (ck_iload_n 11 rfl 2 dX11_seen_10 rfl rfl (ck_iconst 12 rfl dX11_seen_11 rfl (ck_bipush 14 rfl dX11_seen_12 rfl (have h3 := (h6.1 c4); ck_callS 17 rfl [.inl a2, .inl 0, .inl 9] [] dX11_seen_14 cs_X11_82 rfl rfl (Nat.le_of_ble_eq_true rfl) (And.intro hl.2.2.1 (And.intro (show ck_i 0 by decide) (And.intro (show ck_i 9 by decide) True.intro))) (p_X11_within hC (fun c1 _ => (ck_if_ne 20 rfl 22 dX11_seen_17 rfl (by decide) (fun _ => (ck_lconst 23 rfl 0 dX11_seen_22 rfl (ck_lstore_n 24 rfl 3 [some (.inr (.inr 0)), some (.inl a1), some (.inl a2), some (.inr (.inl 0)), none, none, none] dX11_seen_23 rfl (Nat.le_of_ble_eq_true rfl) rfl rfl (show ck_l 0 by decide) (ck_iconst 25 rfl dX11_seen_24 rfl (ck_istore 27 rfl [some (.inr (.inr 0)), some (.inl a1), some (.inl a2), some (.inr (.inl 0)), none, some (.inl 0), none] dX11_seen_25 (Nat.le_of_ble_eq_true rfl) rfl rfl (show ck_i 0 by decide) (h3.1 c1)))))) (fun q => absurd q (by decide)))) (fun c2 _ => (ck_if_ne 20 rfl 22 dX11_seen_17 rfl (by decide) (fun q => absurd q (by decide)) (fun _ => (ck_iconst 21 rfl dX11_seen_20 rfl (ck_iret dX11_seen_21 rfl (show ck_i (-1) by decide) (h3.2 c2)))))))))))))) (fun c5 _ => (ck_if_eq 10 rfl 20 dX11_seen_7 rfl (by decide) (fun _ => (ck_iconst 21 rfl dX11_seen_20 rfl (ck_iret dX11_seen_21 rfl (show ck_i (-1) by decide) (h6.2 c5)))) (fun q => absurd q (by decide)))))))))))
set_option maxRecDepth 8000 in
theorem r_X11_seen_27 {g : ch_G} {A R : Nat} (hC : ck_Cx g A R) {d : Nat} {K : Option ck_V → ck_W → Prop} {w : ck_W} {a1 a2 a3 a5 : Int} (h : (512 ≤ a5 → K (some (.inl (ck_wr a3))) w) ∧ (¬ 512 ≤ a5 → ck_CI (ch_C g A R) d mX2_someLike [.inr (.inr 15), .inl a5, .inl a2] w (fun v2 w1 => (v2 = 0 → ck_i (a5 + 1) ∧ (ck_At (ch_C g A R) (d + 1) mX11_seen K 27 [some (.inr (.inr 0)), some (.inl a1), some (.inl a2), some (.inr (.inl a3)), none, some (.inl (a5 + 1)), none] [] w1)) ∧ (¬ v2 = 0 → ck_CI (ch_C g A R) d mJ6_bitCount_0f7a4 [.inl a5] w1 (fun v7 w6 => (0 ≤ a1) ∧ ((0 ≤ v7) ∧ (((a1 ≤ 3 ∧ v7 ≤ 27) ∨ (a1 ≤ 10 ∧ v7 ≤ 12)) ∧ (ck_i (10 - a1) ∧ (ck_i (9 - v7) ∧ ((0 ≤ (10 - a1)) ∧ ((0 ≤ (9 - v7)) ∧ ((((10 - a1) ≤ 3 ∧ (9 - v7) ≤ 27) ∨ ((10 - a1) ≤ 10 ∧ (9 - v7) ≤ 12)) ∧ (∀ x20, x20 = a3 + ((ck_pw a1 v7) * (ck_pw (10 - a1) (9 - v7))) → ck_l x20 ∧ (ck_i (a5 + 1) ∧ (ck_At (ch_C g A R) (d + 1) mX11_seen K 27 [some (.inr (.inr 0)), some (.inl a1), some (.inl a2), some (.inr (.inl x20)), none, some (.inl (a5 + 1)), none] [] w6))))))))))))))) : ck_At (ch_C g A R) (d + 1) mX11_seen K 27 [some (.inr (.inr 0)), some (.inl a1), some (.inl a2), some (.inr (.inl a3)), none, some (.inl a5), none] [] w :=
  ck_in (fun hl => (ck_iload 29 rfl dX11_seen_27 rfl (ck_sipush 32 rfl dX11_seen_29 rfl (ck_icmp_ge 35 rfl 86 dX11_seen_32 rfl hl.2.2.2.2.1 (show ck_i 512 by decide) (fun c26 => (ck_lload_n 87 rfl 3 dX11_seen_86 rfl rfl (ck_l2i 88 rfl dX11_seen_87 (ck_wrp (ck_iret dX11_seen_88 rfl (ck_rng _) (h.1 c26)))))) (fun c27 => (ck_aload_n 36 rfl 0 dX11_seen_35 rfl rfl (ck_getr 39 rfl dX11_seen_36 fl_X11_14 sh_0 rfl (ck_getr 42 rfl dX11_seen_39 fl_X11_229 sh_1 rfl (ck_iload 44 rfl dX11_seen_42 rfl (ck_iload_n 45 rfl 2 dX11_seen_44 rfl rfl (ck_callV 48 rfl [.inl a5, .inl a2] [] dX11_seen_45 cv_X11_293 sh_15 rfl rfl (Nat.le_of_ble_eq_true rfl) (And.intro hl.2.2.2.2.1 (And.intro hl.2.2.1 True.intro)) (ck_mI (h.2 c27) (fun v2 w1 q3 h4 => (ck_if_eq 51 rfl 80 dX11_seen_48 rfl q3 (fun c24 => (have h29 := (h4.1 c24); have o5 := h29.1; have h28 := h29.2; (ck_iinc 83 rfl [some (.inr (.inr 0)), some (.inl a1), some (.inl a2), some (.inr (.inl a3)), none, some (.inl (a5 + 1)), none] dX11_seen_80 rfl (Nat.le_of_ble_eq_true rfl) rfl rfl o5 (ck_goto 27 dX11_seen_83 rfl h28)))) (fun c25 => (ck_iload 53 rfl dX11_seen_51 rfl (ck_callS 56 rfl [.inl a5] [] dX11_seen_53 cs_X11_296 rfl rfl (Nat.le_of_ble_eq_true rfl) (And.intro hl.2.2.2.2.1 True.intro) (ck_mI (h4.2 c25) (fun v7 w6 q8 h9 => (ck_istore 58 rfl [some (.inr (.inr 0)), some (.inl a1), some (.inl a2), some (.inr (.inl a3)), none, some (.inl a5), some (.inl v7)] dX11_seen_56 (Nat.le_of_ble_eq_true rfl) rfl rfl q8 (ck_lload_n 59 rfl 3 dX11_seen_58 rfl rfl (ck_iload_n 60 rfl 1 dX11_seen_59 rfl rfl (ck_iload 62 rfl dX11_seen_60 rfl (have h31 := h9; have o10 := h31.1; have h30 := h31.2; (have h33 := h30; have o11 := h33.1; have h32 := h33.2; (have h35 := h32; have o12 := h35.1; have h34 := h35.2; (ck_callS 65 rfl [.inl a1, .inl v7] [.inr (.inl a3)] dX11_seen_62 cs_X11_101 rfl rfl (Nat.le_of_ble_eq_true rfl) (And.intro hl.2.1 (And.intro q8 True.intro)) (p_X11_power hC o10 o11 o12 (fun q13 => (ck_bipush 67 rfl dX11_seen_65 rfl (ck_iload_n 68 rfl 1 dX11_seen_67 rfl rfl (ck_isub 69 rfl dX11_seen_68 (ck_bipush 71 rfl dX11_seen_69 rfl (ck_iload 73 rfl dX11_seen_71 rfl (ck_isub 74 rfl dX11_seen_73 (have h37 := h34; have o14 := h37.1; have h36 := h37.2; (have h39 := h36; have o15 := h39.1; have h38 := h39.2; (have h41 := h38; have o16 := h41.1; have h40 := h41.2; (have h43 := h40; have o17 := h43.1; have h42 := h43.2; (have h45 := h42; have o18 := h45.1; have h44 := h45.2; (ck_callS 77 rfl [.inl (10 - a1), .inl (9 - v7)] [.inr (.inl (ck_pw a1 v7)), .inr (.inl a3)] dX11_seen_74 cs_X11_101 rfl rfl (Nat.le_of_ble_eq_true rfl) (And.intro o14 (And.intro o15 True.intro)) (p_X11_power hC o16 o17 o18 (fun q19 => (ck_lmul 78 rfl dX11_seen_77 (ck_ladd 79 rfl dX11_seen_78 (ck_nml (fun x20 e21 => (have h47 := (h44 x20 e21); have o22 := h47.1; have h46 := h47.2; (ck_lstore_n 80 rfl 3 [some (.inr (.inr 0)), some (.inl a1), some (.inl a2), some (.inr (.inl x20)), none, some (.inl a5), some (.inl v7)] dX11_seen_79 rfl (Nat.le_of_ble_eq_true rfl) rfl rfl o22 (have h49 := h46; have o23 := h49.1; have h48 := h49.2; (ck_iinc 83 rfl [some (.inr (.inr 0)), some (.inl a1), some (.inl a2), some (.inr (.inl x20)), none, some (.inl (a5 + 1)), some (.inl v7)] dX11_seen_80 rfl (Nat.le_of_ble_eq_true rfl) rfl rfl o23 (ck_goto 27 dX11_seen_83 rfl (ck_drop [some (.inr (.inr 0)), some (.inl a1), some (.inl a2), some (.inr (.inl x20)), none, some (.inl (a5 + 1)), none] (And.intro rfl (And.intro rfl (And.intro rfl (And.intro rfl (And.intro rfl True.intro))))) h48)))))))))))))))))))))))))))))))))))))))))))))))))))))
theorem L_X11_seen {g : ch_G} {A R : Nat} (hC : ck_Cx g A R) {d : Nat} {K : Option ck_V → ck_W → Prop} {w : ck_W} {a1 a2 : Int} (hL : cs_L w) (h1 : 0 ≤ a1 ∧ a1 ≤ 10) (h : K (some (.inl (ck_wr (cs_sm (cs_st w a1 a2) 512)))) w) : ∀ (n m : Nat) (a3 a5 : Int), 512 - a5 = n → a5 = m → (0 ≤ a3 ∧ a3 ≤ 1000000000 * a5) → a3 = cs_sm (cs_st w a1 a2) m → ck_At (ch_C g A R) (d + 2) mX11_seen K 27 [some (.inr (.inr 0)), some (.inl a1), some (.inl a2), some (.inr (.inl a3)), none, some (.inl a5), none] [] w := by
  intro n
  induction n with
  | zero =>
    intro m a3 a5 g1 g2 g3 g4
    have e : m = 512 := by omega
    rw [e] at g4
    rw [← g4] at h
    exact r_X11_seen_27 hC ⟨fun _ => h, fun q => absurd (by omega) q⟩
  | succ n ih =>
    intro m a3 a5 g1 g2 g3 g4
    have ob := ck_onb (x := a5) (by omega) 9 (by decide)
    have fb := ck_fitb (h := a1) (m := 10 - a1) (a := ck_on 9 a5) (n := 9) (top := 10) (by omega) (by omega) (by omega)
    rw [show ck_pw ((10 : Nat) : Int) 9 = 1000000000 by decide] at fb
    have p1 := (ck_pw_b (b := a1) (e := ck_on 9 a5) (by omega) (by omega)).1
    have p2 := (ck_pw_b (b := 10 - a1) (e := 9 - ck_on 9 a5) (by omega) (by omega)).1
    have pp := Int.mul_nonneg p1 p2
    refine r_X11_seen_27 hC ⟨fun q => absurd q (by omega), fun q => S_X2_someLike hC hL (by omega) (fun hy => ⟨_, rfl, fun _ => ⟨fun z => absurd z (by decide), fun _ => ?_⟩⟩) (fun hn => ⟨_, rfl, fun _ => ⟨fun _ => ⟨by constructor <;> omega, ?_⟩, fun z => absurd rfl z⟩⟩)⟩
    · have e : cs_st w a1 a2 a5 = ck_pw a1 (ck_on 9 a5) * ck_pw (10 - a1) (9 - ck_on 9 a5) := cs_tm1 hy
      refine p_bitCount hC (by omega) ⟨_, rfl, fun _ => ⟨by omega, by omega, by omega, by constructor <;> omega, by constructor <;> omega, by omega, by omega, by omega, fun x ex => ?_⟩⟩
      refine ⟨by constructor <;> omega, by constructor <;> omega, ih (m + 1) _ _ (by omega) (by omega) (by omega) ?_⟩
      rw [cs_sm, ← g2, e, ex, g4]
    · have e : cs_st w a1 a2 a5 = 0 := cs_tm0 (fun ⟨k, hk, ho⟩ => by have := hn k hk.1 hk.2; omega)
      refine ih (m + 1) _ _ (by omega) (by omega) (by omega) ?_
      rw [cs_sm, ← g2, e, g4]; omega
theorem C_seen {g : ch_G} {A R : Nat} (hC : ck_Cx g A R) {d : Nat} {K : Option ck_V → ck_W → Prop} {w : ck_W} {a1 a2 : Int} (hL : cs_L w) (h1 : (0 ≤ a1 ∧ a1 ≤ 10) ∧ (0 ≤ a2 ∧ a2 ≤ 9) → K (some (.inl (ck_wr (cs_sm (cs_st w a1 a2) 512)))) w) (h0 : ¬ ((0 ≤ a1 ∧ a1 ≤ 10) ∧ (0 ≤ a2 ∧ a2 ≤ 9)) → K (some (.inl (-1))) w) : ck_Ex (ch_C g A R) (d + 2) mX11_seen [.inr (.inr 0), .inl a1, .inl a2] w K :=
  e_X11_seen hC ⟨fun q1 => ⟨fun q2 => L_X11_seen hC hL q1 (h1 ⟨q1, q2⟩) 512 0 0 0 (by omega) (by omega) (by omega) rfl, fun q => h0 (fun x => q x.2)⟩, fun q => h0 (fun x => q x.1)⟩
/-- parts as they may be -/
def cs_P (w : ck_W) : Prop := (0 ≤ w 20 3 ∧ w 20 3 ≤ 16) ∧ (∀ k, 0 ≤ k → k < w 20 3 → (1 ≤ w 21 k ∧ w 21 k ≤ 50) ∧ (1 ≤ w 22 k ∧ w 22 k ≤ 999) ∧ (0 ≤ w 23 k ∧ w 23 k ≤ 3)) ∧ (∀ r, 0 ≤ r → r < 4 → 0 ≤ w 24 r ∧ w 24 r ≤ 50)
def cs_vb (m : Int) (f : Int → Int) (B : Int) : Prop := ∀ h, 0 ≤ h → h ≤ m → -1 ≤ f h ∧ f h ≤ 65470464 * B
def cs_cl (f : Int → Int) (r : Int) : Nat → Int
  | 0 => 0
  | n + 1 => cs_cl f r n + if f n < r then 1 else 0
def cs_ce (f : Int → Int) (r : Int) : Nat → Int
  | 0 => 0
  | n + 1 => cs_ce f r n + if f n = r then 1 else 0
theorem cs_cls (f : Int → Int) (r : Int) : ∀ n, cs_cl f (r + 1) n = cs_cl f r n + cs_ce f r n
  | 0 => rfl
  | n + 1 => by
    rw [cs_cl, cs_cl, cs_ce, cs_cls f r n]
    by_cases a : f n < r
    · rw [if_pos (by omega), if_pos a, if_neg (by omega)]; omega
    · by_cases b : f n = r
      · rw [if_pos (by omega), if_neg a, if_pos b]; omega
      · rw [if_neg (by omega), if_neg a, if_neg b]; omega
theorem cs_clb (f : Int → Int) (r : Int) : ∀ n : Nat, 0 ≤ cs_cl f r n ∧ cs_cl f r n ≤ n
  | 0 => by rw [cs_cl]; omega
  | n + 1 => by
    have i := cs_clb f r n
    rw [cs_cl]
    split <;> omega
theorem cs_ceb (f : Int → Int) (r : Int) : ∀ n : Nat, 0 ≤ cs_ce f r n ∧ cs_ce f r n ≤ n
  | 0 => by rw [cs_ce]; omega
  | n + 1 => by
    have i := cs_ceb f r n
    rw [cs_ce]
    split <;> omega
theorem cs_cem (f : Int → Int) (r : Int) (n : Nat) : ∀ m : Nat, cs_ce f r n ≤ cs_ce f r (n + m)
  | 0 => by show cs_ce f r n ≤ cs_ce f r n; omega
  | m + 1 => by
    have i := cs_cem f r n m
    show cs_ce f r n ≤ cs_ce f r ((n + m) + 1)
    rw [cs_ce]
    split <;> omega
theorem cs_cl0 (f : Int → Int) : ∀ n : Nat, (∀ k : Int, 0 ≤ k → k < n → 0 ≤ f k) → cs_cl f 0 n = 0
  | 0, _ => rfl
  | n + 1, h => by
    rw [cs_cl, cs_cl0 f n (fun k a b => h k a (by omega)), if_neg (by have := h n (by omega) (by omega); omega)]; rfl
theorem cs_vbm {m : Int} {f : Int → Int} {B C : Int} (h : cs_vb m f B) (hc : B ≤ C) : cs_vb m f C := fun k a b => by
  have := h k a b; omega
theorem cs_pp {k : Int} (h : 0 ≤ k ∧ k ≤ 15) : 1 ≤ ck_shl 1 k ∧ ck_shl 1 k ≤ 32768 := by
  have e := kb_shl1 (k := k) (by omega) (by omega)
  rw [e]
  have p : (2 : Nat) ^ k.toNat ≤ 2 ^ 15 := Nat.pow_le_pow_right (by decide) (by omega)
  have p2 : 0 < (2 : Nat) ^ k.toNat := Nat.pow_pos (by decide)
  have c1 : ((2 ^ k.toNat : Nat) : Int) = (2 : Int) ^ k.toNat := by simp
  rw [← c1]; omega
theorem dX3_addFetched_0 : decode cX3_addFetched 0 = .ok (.aload_n 0, 1) := dk_42 (by decide +kernel)
theorem dX3_addFetched_1 : decode cX3_addFetched 1 = .ok (.getfield 15, 3) := dk_180 0 15 (by decide +kernel)
theorem dX3_addFetched_4 : decode cX3_addFetched 4 = .ok (.iload_n 1, 1) := dk_27 (by decide +kernel)
theorem dX3_addFetched_5 : decode cX3_addFetched 5 = .ok (.iaload, 1) := dk_46 (by decide +kernel)
theorem dX3_addFetched_6 : decode cX3_addFetched 6 = .ok (.ldc 57, 2) := dk_18 (by decide +kernel)
theorem dX3_addFetched_8 : decode cX3_addFetched 8 = .ok (.imul, 1) := dk_104 (by decide +kernel)
theorem dX3_addFetched_9 : decode cX3_addFetched 9 = .ok (.iconst 1, 1) := dk_4 (by decide +kernel)
theorem dX3_addFetched_10 : decode cX3_addFetched 10 = .ok (.iload_n 1, 1) := dk_27 (by decide +kernel)
theorem dX3_addFetched_11 : decode cX3_addFetched 11 = .ok (.ishl, 1) := dk_120 (by decide +kernel)
theorem dX3_addFetched_12 : decode cX3_addFetched 12 = .ok (.isub, 1) := dk_100 (by decide +kernel)
theorem dX3_addFetched_13 : decode cX3_addFetched 13 = .ok (.istore_n 3, 1) := dk_62 (by decide +kernel)
theorem dX3_addFetched_14 : decode cX3_addFetched 14 = .ok (.iload_n 2, 1) := dk_28 (by decide +kernel)
theorem dX3_addFetched_15 : decode cX3_addFetched 15 = .ok (.istore 4, 2) := dk_54 (by decide +kernel)
theorem dX3_addFetched_17 : decode cX3_addFetched 17 = .ok (.iload 4, 2) := dk_21 (by decide +kernel)
theorem dX3_addFetched_19 : decode cX3_addFetched 19 = .ok (.aload_n 0, 1) := dk_42 (by decide +kernel)
theorem dX3_addFetched_20 : decode cX3_addFetched 20 = .ok (.getfield 11, 3) := dk_180 0 11 (by decide +kernel)
theorem dX3_addFetched_23 : decode cX3_addFetched 23 = .ok (.iload_n 1, 1) := dk_27 (by decide +kernel)
theorem dX3_addFetched_24 : decode cX3_addFetched 24 = .ok (.iaload, 1) := dk_46 (by decide +kernel)
theorem dX3_addFetched_25 : decode cX3_addFetched 25 = .ok (.if_icmp .lt 52, 3) := dk_161 0 52 (by decide +kernel)
theorem dX3_addFetched_28 : decode cX3_addFetched 28 = .ok (.aload_n 0, 1) := dk_42 (by decide +kernel)
theorem dX3_addFetched_29 : decode cX3_addFetched 29 = .ok (.getfield 27, 3) := dk_180 0 27 (by decide +kernel)
theorem dX3_addFetched_32 : decode cX3_addFetched 32 = .ok (.iload 4, 2) := dk_21 (by decide +kernel)
theorem dX3_addFetched_34 : decode cX3_addFetched 34 = .ok (.aload_n 0, 1) := dk_42 (by decide +kernel)
theorem dX3_addFetched_35 : decode cX3_addFetched 35 = .ok (.getfield 11, 3) := dk_180 0 11 (by decide +kernel)
theorem dX3_addFetched_38 : decode cX3_addFetched 38 = .ok (.iload_n 1, 1) := dk_27 (by decide +kernel)
theorem dX3_addFetched_39 : decode cX3_addFetched 39 = .ok (.iaload, 1) := dk_46 (by decide +kernel)
theorem dX3_addFetched_40 : decode cX3_addFetched 40 = .ok (.isub, 1) := dk_100 (by decide +kernel)
theorem dX3_addFetched_41 : decode cX3_addFetched 41 = .ok (.iaload, 1) := dk_46 (by decide +kernel)
theorem dX3_addFetched_42 : decode cX3_addFetched 42 = .ok (.istore 5, 2) := dk_54 (by decide +kernel)
theorem dX3_addFetched_44 : decode cX3_addFetched 44 = .ok (.iload 5, 2) := dk_21 (by decide +kernel)
theorem dX3_addFetched_46 : decode cX3_addFetched 46 = .ok (.iconst (-1), 1) := dk_2 (by decide +kernel)
theorem dX3_addFetched_47 : decode cX3_addFetched 47 = .ok (.if_icmp .eq 24, 3) := dk_159 0 24 (by decide +kernel)
theorem dX3_addFetched_50 : decode cX3_addFetched 50 = .ok (.aload_n 0, 1) := dk_42 (by decide +kernel)
theorem dX3_addFetched_51 : decode cX3_addFetched 51 = .ok (.getfield 27, 3) := dk_180 0 27 (by decide +kernel)
theorem dX3_addFetched_54 : decode cX3_addFetched 54 = .ok (.iload 4, 2) := dk_21 (by decide +kernel)
theorem dX3_addFetched_56 : decode cX3_addFetched 56 = .ok (.aload_n 0, 1) := dk_42 (by decide +kernel)
theorem dX3_addFetched_57 : decode cX3_addFetched 57 = .ok (.getfield 27, 3) := dk_180 0 27 (by decide +kernel)
theorem dX3_addFetched_60 : decode cX3_addFetched 60 = .ok (.iload 4, 2) := dk_21 (by decide +kernel)
theorem dX3_addFetched_62 : decode cX3_addFetched 62 = .ok (.iaload, 1) := dk_46 (by decide +kernel)
theorem dX3_addFetched_63 : decode cX3_addFetched 63 = .ok (.iload 5, 2) := dk_21 (by decide +kernel)
theorem dX3_addFetched_65 : decode cX3_addFetched 65 = .ok (.iload_n 3, 1) := dk_29 (by decide +kernel)
theorem dX3_addFetched_66 : decode cX3_addFetched 66 = .ok (.iadd, 1) := dk_96 (by decide +kernel)
theorem dX3_addFetched_67 : decode cX3_addFetched 67 = .ok (.invokestatic 54, 3) := dk_184 0 54 (by decide +kernel)
theorem dX3_addFetched_70 : decode cX3_addFetched 70 = .ok (.iastore, 1) := dk_79 (by decide +kernel)
theorem dX3_addFetched_71 : decode cX3_addFetched 71 = .ok (.iinc 4 (-1), 3) := dk_132 255 (by decide +kernel)
theorem dX3_addFetched_74 : decode cX3_addFetched 74 = .ok (.goto (-57), 3) := dk_167 255 199 (by decide +kernel)
theorem dX3_addFetched_77 : decode cX3_addFetched 77 = .ok (.return_, 1) := dk_177 (by decide +kernel)
set_option maxRecDepth 8000 in
theorem e_X3_addFetched {g : ch_G} {A R : Nat} (hC : ck_Cx g A R) {d : Nat} {K : Option ck_V → ck_W → Prop} {w : ck_W} {a1 a2 : Int} (h : (0 ≤ a1 ∧ a1 < 16) ∧ (∀ x3, x3 = ((w 22 a1) * 65536) - (ck_shl 1 a1) → ck_i x3 ∧ (ck_At (ch_C g A R) (d + 1) mX3_addFetched K 17 [some (.inr (.inr 20)), some (.inl a1), none, some (.inl x3), some (.inl a2), none] [] w))) : ck_Ex (ch_C g A R) (d + 1) mX3_addFetched [.inr (.inr 20), .inl a1, .inl a2] w K :=
  ck_entry hC.1 [some (.inr (.inr 20)), some (.inl a1), some (.inl a2), none, none, none] (by decide) (Nat.le_of_ble_eq_true rfl) rfl (fun q => q) (ck_in (fun hl => (ck_aload_n 1 rfl 0 dX3_addFetched_0 rfl rfl (ck_getr 4 rfl dX3_addFetched_1 fl_X3_15 sh_20 rfl (ck_iload_n 5 rfl 1 dX3_addFetched_4 rfl rfl (have h7 := h; have o1 := h7.1; have h6 := h7.2; (ck_iald 6 rfl dX3_addFetched_5 sh_22 (shn_22 hC) o1 _ rfl (fun (q2 : ck_i (w 22 a1)) => (ck_ldc 8 rfl 65536 kc_X3_57 dX3_addFetched_6 rfl (ck_imul 9 rfl dX3_addFetched_8 (ck_iconst 10 rfl dX3_addFetched_9 rfl (ck_iload_n 11 rfl 1 dX3_addFetched_10 rfl rfl (ck_ishl 12 rfl dX3_addFetched_11 (ck_isub 13 rfl dX3_addFetched_12 (ck_nmi (fun x3 e4 => (have h9 := (h6 x3 e4); have o5 := h9.1; have h8 := h9.2; (ck_istore_n 14 rfl 3 [some (.inr (.inr 20)), some (.inl a1), some (.inl a2), some (.inl x3), none, none] dX3_addFetched_13 rfl (Nat.le_of_ble_eq_true rfl) rfl rfl o5 (ck_iload_n 15 rfl 2 dX3_addFetched_14 rfl rfl (ck_istore 17 rfl [some (.inr (.inr 20)), some (.inl a1), some (.inl a2), some (.inl x3), some (.inl a2), none] dX3_addFetched_15 (Nat.le_of_ble_eq_true rfl) rfl rfl hl.2.2.1 (ck_drop [some (.inr (.inr 20)), some (.inl a1), none, some (.inl x3), some (.inl a2), none] (And.intro rfl (And.intro rfl (And.intro rfl (And.intro rfl True.intro)))) h8)))))))))))))))))))))
set_option maxRecDepth 8000 in
theorem r_X3_addFetched_17 {g : ch_G} {A R : Nat} (hC : ck_Cx g A R) {d : Nat} {K : Option ck_V → ck_W → Prop} {w : ck_W} {a1 a3 a4 : Int} (h : (0 ≤ a1 ∧ a1 < 16) ∧ ((a4 < (w 21 a1) → K none w) ∧ (¬ a4 < (w 21 a1) → (0 ≤ (a4 - (w 21 a1)) ∧ (a4 - (w 21 a1)) < 401) ∧ (((w 26 (a4 - (w 21 a1))) = (-1) → ck_i (a4 + (-1)) ∧ (ck_At (ch_C g A R) (d + 1) mX3_addFetched K 17 [some (.inr (.inr 20)), some (.inl a1), none, some (.inl a3), some (.inl (a4 + (-1))), none] [] w)) ∧ (¬ (w 26 (a4 - (w 21 a1))) = (-1) → (0 ≤ a4 ∧ a4 < 401) ∧ (ck_i ((w 26 (a4 - (w 21 a1))) + a3) ∧ (ck_i (a4 + (-1)) ∧ (ck_At (ch_C g A R) (d + 1) mX3_addFetched K 17 [some (.inr (.inr 20)), some (.inl a1), none, some (.inl a3), some (.inl (a4 + (-1))), none] [] (ck_up w 26 a4 (max (w 26 a4) ((w 26 (a4 - (w 21 a1))) + a3))))))))))) : ck_At (ch_C g A R) (d + 1) mX3_addFetched K 17 [some (.inr (.inr 20)), some (.inl a1), none, some (.inl a3), some (.inl a4), none] [] w :=
  ck_in (fun hl => (ck_iload 19 rfl dX3_addFetched_17 rfl (ck_aload_n 20 rfl 0 dX3_addFetched_19 rfl rfl (ck_getr 23 rfl dX3_addFetched_20 fl_X3_11 sh_20 rfl (ck_iload_n 24 rfl 1 dX3_addFetched_23 rfl rfl (have h17 := h; have o1 := h17.1; have h16 := h17.2; (ck_iald 25 rfl dX3_addFetched_24 sh_21 (shn_21 hC) o1 _ rfl (fun (q2 : ck_i (w 21 a1)) => (ck_icmp_lt 28 rfl 77 dX3_addFetched_25 rfl hl.2.2.2.1 q2 (fun c14 => (ck_vret dX3_addFetched_77 rfl (h16.1 c14))) (fun c15 => (ck_aload_n 29 rfl 0 dX3_addFetched_28 rfl rfl (ck_getr 32 rfl dX3_addFetched_29 fl_X3_27 sh_20 rfl (ck_iload 34 rfl dX3_addFetched_32 rfl (ck_aload_n 35 rfl 0 dX3_addFetched_34 rfl rfl (ck_getr 38 rfl dX3_addFetched_35 fl_X3_11 sh_20 rfl (ck_iload_n 39 rfl 1 dX3_addFetched_38 rfl rfl (ck_iald 40 rfl dX3_addFetched_39 sh_21 (shn_21 hC) o1 _ rfl (fun (q3 : ck_i (w 21 a1)) => (ck_isub 41 rfl dX3_addFetched_40 (have h19 := (h16.2 c15); have o4 := h19.1; have h18 := h19.2; (ck_iald 42 rfl dX3_addFetched_41 sh_26 (shn_26 hC) o4 _ rfl (fun (q5 : ck_i (w 26 (a4 - (w 21 a1)))) => (ck_istore 44 rfl [some (.inr (.inr 20)), some (.inl a1), none, some (.inl a3), some (.inl a4), some (.inl (w 26 (a4 - (w 21 a1))))] dX3_addFetched_42 (Nat.le_of_ble_eq_true rfl) rfl rfl q5 (ck_iload 46 rfl dX3_addFetched_44 rfl (ck_iconst 47 rfl dX3_addFetched_46 rfl (ck_icmp_eq 50 rfl 71 dX3_addFetched_47 rfl q5 (show ck_i (-1) by decide) (fun c12 => (have h21 := (h18.1 c12); have o6 := h21.1; have h20 := h21.2; (ck_iinc 74 rfl [some (.inr (.inr 20)), some (.inl a1), none, some (.inl a3), some (.inl (a4 + (-1))), some (.inl (w 26 (a4 - (w 21 a1))))] dX3_addFetched_71 rfl (Nat.le_of_ble_eq_true rfl) rfl rfl o6 (ck_goto 17 dX3_addFetched_74 rfl (ck_drop [some (.inr (.inr 20)), some (.inl a1), none, some (.inl a3), some (.inl (a4 + (-1))), none] (And.intro rfl (And.intro rfl (And.intro rfl (And.intro rfl True.intro)))) h20))))) (fun c13 => (ck_aload_n 51 rfl 0 dX3_addFetched_50 rfl rfl (ck_getr 54 rfl dX3_addFetched_51 fl_X3_27 sh_20 rfl (ck_iload 56 rfl dX3_addFetched_54 rfl (ck_aload_n 57 rfl 0 dX3_addFetched_56 rfl rfl (ck_getr 60 rfl dX3_addFetched_57 fl_X3_27 sh_20 rfl (ck_iload 62 rfl dX3_addFetched_60 rfl (have h23 := (h18.2 c13); have o7 := h23.1; have h22 := h23.2; (ck_iald 63 rfl dX3_addFetched_62 sh_26 (shn_26 hC) o7 _ rfl (fun (q8 : ck_i (w 26 a4)) => (ck_iload 65 rfl dX3_addFetched_63 rfl (ck_iload_n 66 rfl 3 dX3_addFetched_65 rfl rfl (ck_iadd 67 rfl dX3_addFetched_66 (have h25 := h22; have o9 := h25.1; have h24 := h25.2; (ck_callS 70 rfl [.inl (w 26 a4), .inl ((w 26 (a4 - (w 21 a1))) + a3)] [.inl a4, .inr (.inr 26)] dX3_addFetched_67 cs_X3_54 rfl rfl (Nat.le_of_ble_eq_true rfl) (And.intro q8 (And.intro o9 True.intro)) (p_J9_max_7cf53 hC (fun q10 => (ck_iast 71 rfl dX3_addFetched_70 sh_26 (shn_26 hC) o7 q10.1 (have h27 := h24; have o11 := h27.1; have h26 := h27.2; (ck_iinc 74 rfl [some (.inr (.inr 20)), some (.inl a1), none, some (.inl a3), some (.inl (a4 + (-1))), some (.inl (w 26 (a4 - (w 21 a1))))] dX3_addFetched_71 rfl (Nat.le_of_ble_eq_true rfl) rfl rfl o11 (ck_goto 17 dX3_addFetched_74 rfl (ck_drop [some (.inr (.inr 20)), some (.inl a1), none, some (.inl a3), some (.inl (a4 + (-1))), none] (And.intro rfl (And.intro rfl (And.intro rfl (And.intro rfl True.intro)))) h26))))))))))))))))))))))))))))))))))))))))))))))))
theorem S_X3_addFetched {g : ch_G} {A R : Nat} (hC : ck_Cx g A R) {d : Nat} {K : Option ck_V → ck_W → Prop} {w : ck_W} {a1 a2 : Int} (hP : cs_P w) (h1 : 0 ≤ a1 ∧ a1 < w 20 3) (h2 : 0 ≤ a2 ∧ a2 ≤ 400) (B : Int) (hB : 0 ≤ B ∧ B ≤ 15) (hv : cs_vb a2 (w 26) B) (h : ∀ w', (∀ k, k ≠ 26 → w' k = w k) → cs_vb a2 (w' 26) (B + 1) → K none w') : ck_Ex (ch_C g A R) (d + 1) mX3_addFetched [.inr (.inr 20), .inl a1, .inl a2] w K := by
  have p0 := hP.1
  have p1 := hP.2.1 a1 h1.1 h1.2
  have pp := cs_pp (k := a1) (by omega)
  have l : ∀ (n : Nat) (a3 a4 : Int) (u : ck_W), a4 ≤ n → -50 ≤ a4 → a4 ≤ a2 → (0 ≤ a3 ∧ a3 ≤ 65470464) → (∀ k, k ≠ 26 → u k = w k) → cs_vb a2 (u 26) (B + 1) → (∀ h, 0 ≤ h → h ≤ a4 → u 26 h = w 26 h) → ck_At (ch_C g A R) (d + 1) mX3_addFetched K 17 [some (.inr (.inr 20)), some (.inl a1), none, some (.inl a3), some (.inl a4), none] [] u := by
    intro n
    induction n with
    | zero =>
      intro a3 a4 u g1 g2 g3 g4 g5 g6 g7
      have e : u 21 a1 = w 21 a1 := by rw [g5 21 (by decide)]
      exact r_X3_addFetched_17 hC ⟨by omega, fun _ => h u g5 g6, fun q => absurd (by omega) q⟩
    | succ n ih =>
      intro a3 a4 u g1 g2 g3 g4 g5 g6 g7
      have e : u 21 a1 = w 21 a1 := by rw [g5 21 (by decide)]
      refine r_X3_addFetched_17 hC ⟨by omega, fun _ => h u g5 g6, fun q => ?_⟩
      rw [e] at q ⊢
      have k1 := g7 (a4 - w 21 a1) (by omega) (by omega)
      have k2 := hv (a4 - w 21 a1) (by omega) (by omega)
      have k3 := g6 a4 (by omega) (by omega)
      rw [k1]
      refine ⟨by omega, fun _ => ⟨by constructor <;> omega, ih a3 _ u (by omega) (by omega) (by omega) g4 g5 g6 (fun x y z => g7 x y (by omega))⟩, fun z => ⟨by omega, by constructor <;> omega, by constructor <;> omega, ih a3 _ _ (by omega) (by omega) (by omega) g4 (fun k hk => by rw [ck_up_ne hk]; exact g5 k hk) (fun x y z2 => ?_) (fun x y z2 => ?_)⟩⟩
      · rw [ck_up_at]
        split
        · have m1 := Int.le_max_left (u 26 a4) (w 26 (a4 - w 21 a1) + a3)
          refine ⟨by omega, Int.max_le.mpr ⟨by omega, by omega⟩⟩
        · exact g6 x y z2
      · rw [ck_up_nj (by omega)]; exact g7 x y (by omega)
  exact e_X3_addFetched hC ⟨by omega, fun x3 e3 => ⟨by constructor <;> omega, l 400 x3 a2 w (by omega) (by omega) (by omega) (by omega) (fun _ _ => rfl) (cs_vbm hv (by omega)) (fun _ _ _ => rfl)⟩⟩
theorem dJ7_fill_53178_0 : decode cJ7_fill_53178 0 = .ok (.iconst 0, 1) := dk_3 (by decide +kernel)
theorem dJ7_fill_53178_1 : decode cJ7_fill_53178 1 = .ok (.istore_n 2, 1) := dk_61 (by decide +kernel)
theorem dJ7_fill_53178_2 : decode cJ7_fill_53178 2 = .ok (.aload_n 0, 1) := dk_42 (by decide +kernel)
theorem dJ7_fill_53178_3 : decode cJ7_fill_53178 3 = .ok (.arraylength, 1) := dk_190 (by decide +kernel)
theorem dJ7_fill_53178_4 : decode cJ7_fill_53178 4 = .ok (.istore_n 3, 1) := dk_62 (by decide +kernel)
theorem dJ7_fill_53178_5 : decode cJ7_fill_53178 5 = .ok (.iload_n 2, 1) := dk_28 (by decide +kernel)
theorem dJ7_fill_53178_6 : decode cJ7_fill_53178 6 = .ok (.iload_n 3, 1) := dk_29 (by decide +kernel)
theorem dJ7_fill_53178_7 : decode cJ7_fill_53178 7 = .ok (.if_icmp .ge 13, 3) := dk_162 0 13 (by decide +kernel)
theorem dJ7_fill_53178_10 : decode cJ7_fill_53178 10 = .ok (.aload_n 0, 1) := dk_42 (by decide +kernel)
theorem dJ7_fill_53178_11 : decode cJ7_fill_53178 11 = .ok (.iload_n 2, 1) := dk_28 (by decide +kernel)
theorem dJ7_fill_53178_12 : decode cJ7_fill_53178 12 = .ok (.iload_n 1, 1) := dk_27 (by decide +kernel)
theorem dJ7_fill_53178_13 : decode cJ7_fill_53178 13 = .ok (.iastore, 1) := dk_79 (by decide +kernel)
theorem dJ7_fill_53178_14 : decode cJ7_fill_53178 14 = .ok (.iinc 2 1, 3) := dk_132 1 (by decide +kernel)
theorem dJ7_fill_53178_17 : decode cJ7_fill_53178 17 = .ok (.goto (-12), 3) := dk_167 255 244 (by decide +kernel)
theorem dJ7_fill_53178_20 : decode cJ7_fill_53178 20 = .ok (.return_, 1) := dk_177 (by decide +kernel)
set_option maxRecDepth 8000 in
theorem e_fill_25 {g : ch_G} {A R : Nat} (hC : ck_Cx g A R) {d : Nat} {K : Option ck_V → ck_W → Prop} {w : ck_W} {a1 : Int} (h : ck_At (ch_C g A R) d mJ7_fill_53178 K 5 [some (.inr (.inr 25)), some (.inl a1), some (.inl 0), some (.inl 401)] [] w) : ck_Ex (ch_C g A R) d mJ7_fill_53178 [.inr (.inr 25), .inl a1] w K :=
  ck_entry hC.1 [some (.inr (.inr 25)), some (.inl a1), none, none] (by decide) (Nat.le_of_ble_eq_true rfl) rfl (fun q => q) (ck_in (fun hl => (ck_iconst 1 rfl dJ7_fill_53178_0 rfl (ck_istore_n 2 rfl 2 [some (.inr (.inr 25)), some (.inl a1), some (.inl 0), none] dJ7_fill_53178_1 rfl (Nat.le_of_ble_eq_true rfl) rfl rfl (show ck_i 0 by decide) (ck_aload_n 3 rfl 0 dJ7_fill_53178_2 rfl rfl (ck_alen 4 rfl 0 401 dJ7_fill_53178_3 sh_25 rfl rfl (ck_istore_n 5 rfl 3 [some (.inr (.inr 25)), some (.inl a1), some (.inl 0), some (.inl 401)] dJ7_fill_53178_4 rfl (Nat.le_of_ble_eq_true rfl) rfl rfl (ck_ln (shn_25 hC)) h)))))))
set_option maxRecDepth 8000 in
theorem r_fill_25_5 {g : ch_G} {A R : Nat} (hC : ck_Cx g A R) {d : Nat} {K : Option ck_V → ck_W → Prop} {w : ck_W} {a1 a2 a3 : Int} (h : (a3 ≤ a2 → K none w) ∧ (¬ a3 ≤ a2 → (0 ≤ a2 ∧ a2 < 401) ∧ (ck_i (a2 + 1) ∧ (ck_At (ch_C g A R) d mJ7_fill_53178 K 5 [some (.inr (.inr 25)), some (.inl a1), some (.inl (a2 + 1)), some (.inl a3)] [] (ck_up w 25 a2 a1))))) : ck_At (ch_C g A R) d mJ7_fill_53178 K 5 [some (.inr (.inr 25)), some (.inl a1), some (.inl a2), some (.inl a3)] [] w :=
  ck_in (fun hl => (ck_iload_n 6 rfl 2 dJ7_fill_53178_5 rfl rfl (ck_iload_n 7 rfl 3 dJ7_fill_53178_6 rfl rfl (ck_icmp_ge 10 rfl 20 dJ7_fill_53178_7 rfl hl.2.2.1 hl.2.2.2.1 (fun c3 => (ck_vret dJ7_fill_53178_20 rfl (h.1 c3))) (fun c4 => (ck_aload_n 11 rfl 0 dJ7_fill_53178_10 rfl rfl (ck_iload_n 12 rfl 2 dJ7_fill_53178_11 rfl rfl (ck_iload_n 13 rfl 1 dJ7_fill_53178_12 rfl rfl (have h6 := (h.2 c4); have o1 := h6.1; have h5 := h6.2; (ck_iast 14 rfl dJ7_fill_53178_13 sh_25 (shn_25 hC) o1 hl.2.1 (have h8 := h5; have o2 := h8.1; have h7 := h8.2; (ck_iinc 17 rfl [some (.inr (.inr 25)), some (.inl a1), some (.inl (a2 + 1)), some (.inl a3)] dJ7_fill_53178_14 rfl (Nat.le_of_ble_eq_true rfl) rfl rfl o2 (ck_goto 5 dJ7_fill_53178_17 rfl h7)))))))))))))
theorem S_fill_25 {g : ch_G} {A R : Nat} (hC : ck_Cx g A R) {d : Nat} {K : Option ck_V → ck_W → Prop} {w : ck_W} {a1 : Int} (h : ∀ w', (∀ k, k ≠ 25 → w' k = w k) → (∀ j, 0 ≤ j → j < 401 → w' 25 j = a1) → K none w') : ck_Ex (ch_C g A R) d mJ7_fill_53178 [.inr (.inr 25), .inl a1] w K := by
  have l : ∀ (n : Nat) (a2 : Int) (u : ck_W), 401 - a2 = n → 0 ≤ a2 → (∀ k, k ≠ 25 → u k = w k) → (∀ j, 0 ≤ j → j < a2 → u 25 j = a1) → ck_At (ch_C g A R) d mJ7_fill_53178 K 5 [some (.inr (.inr 25)), some (.inl a1), some (.inl a2), some (.inl 401)] [] u := by
    intro n
    induction n with
    | zero =>
      intro a2 u g1 g2 g3 g4
      exact r_fill_25_5 hC ⟨fun _ => h u g3 (fun j a b => g4 j a (by omega)), fun q => absurd (by omega) q⟩
    | succ n ih =>
      intro a2 u g1 g2 g3 g4
      refine r_fill_25_5 hC ⟨fun q => absurd q (by omega), fun q => ⟨by omega, by constructor <;> omega, ih _ _ (by omega) (by omega) (fun k hk => by rw [ck_up_ne hk]; exact g3 k hk) (fun j a b => ?_)⟩⟩
      rw [ck_up_at]
      split
      · rfl
      · exact g4 j a (by omega)
  exact e_fill_25 hC (l 401 0 w (by omega) (by omega) (fun _ _ => rfl) (fun j a b => by omega))
theorem dX3_fill_0 : decode cX3_fill 0 = .ok (.iload_n 1, 1) := dk_27 (by decide +kernel)
theorem dX3_fill_1 : decode cX3_fill 1 = .ok (.sipush 400, 3) := dk_17 1 144 (by decide +kernel)
theorem dX3_fill_4 : decode cX3_fill 4 = .ok (.invokestatic 38, 3) := dk_184 0 38 (by decide +kernel)
theorem dX3_fill_7 : decode cX3_fill 7 = .ok (.istore_n 2, 1) := dk_61 (by decide +kernel)
theorem dX3_fill_8 : decode cX3_fill 8 = .ok (.aload_n 0, 1) := dk_42 (by decide +kernel)
theorem dX3_fill_9 : decode cX3_fill 9 = .ok (.getfield 24, 3) := dk_180 0 24 (by decide +kernel)
theorem dX3_fill_12 : decode cX3_fill 12 = .ok (.iconst (-1), 1) := dk_2 (by decide +kernel)
theorem dX3_fill_13 : decode cX3_fill 13 = .ok (.invokestatic 44, 3) := dk_184 0 44 (by decide +kernel)
theorem dX3_fill_16 : decode cX3_fill 16 = .ok (.aload_n 0, 1) := dk_42 (by decide +kernel)
theorem dX3_fill_17 : decode cX3_fill 17 = .ok (.getfield 24, 3) := dk_180 0 24 (by decide +kernel)
theorem dX3_fill_20 : decode cX3_fill 20 = .ok (.iconst 0, 1) := dk_3 (by decide +kernel)
theorem dX3_fill_21 : decode cX3_fill 21 = .ok (.iconst 0, 1) := dk_3 (by decide +kernel)
theorem dX3_fill_22 : decode cX3_fill 22 = .ok (.iastore, 1) := dk_79 (by decide +kernel)
theorem dX3_fill_23 : decode cX3_fill 23 = .ok (.iconst 0, 1) := dk_3 (by decide +kernel)
theorem dX3_fill_24 : decode cX3_fill 24 = .ok (.istore_n 3, 1) := dk_62 (by decide +kernel)
theorem dX3_fill_25 : decode cX3_fill 25 = .ok (.iload_n 3, 1) := dk_29 (by decide +kernel)
theorem dX3_fill_26 : decode cX3_fill 26 = .ok (.iconst 4, 1) := dk_7 (by decide +kernel)
theorem dX3_fill_27 : decode cX3_fill 27 = .ok (.if_icmp .ge 135, 3) := dk_162 0 135 (by decide +kernel)
theorem dX3_fill_30 : decode cX3_fill 30 = .ok (.iconst 0, 1) := dk_3 (by decide +kernel)
theorem dX3_fill_31 : decode cX3_fill 31 = .ok (.istore 4, 2) := dk_54 (by decide +kernel)
theorem dX3_fill_33 : decode cX3_fill 33 = .ok (.iload 4, 2) := dk_21 (by decide +kernel)
theorem dX3_fill_35 : decode cX3_fill 35 = .ok (.iload_n 2, 1) := dk_28 (by decide +kernel)
theorem dX3_fill_36 : decode cX3_fill 36 = .ok (.if_icmp .gt 45, 3) := dk_163 0 45 (by decide +kernel)
theorem dX3_fill_39 : decode cX3_fill 39 = .ok (.aload_n 0, 1) := dk_42 (by decide +kernel)
theorem dX3_fill_40 : decode cX3_fill 40 = .ok (.getfield 27, 3) := dk_180 0 27 (by decide +kernel)
theorem dX3_fill_43 : decode cX3_fill 43 = .ok (.iload 4, 2) := dk_21 (by decide +kernel)
theorem dX3_fill_45 : decode cX3_fill 45 = .ok (.iload 4, 2) := dk_21 (by decide +kernel)
theorem dX3_fill_47 : decode cX3_fill 47 = .ok (.aload_n 0, 1) := dk_42 (by decide +kernel)
theorem dX3_fill_48 : decode cX3_fill 48 = .ok (.getfield 21, 3) := dk_180 0 21 (by decide +kernel)
theorem dX3_fill_51 : decode cX3_fill 51 = .ok (.iload_n 3, 1) := dk_29 (by decide +kernel)
theorem dX3_fill_52 : decode cX3_fill 52 = .ok (.iaload, 1) := dk_46 (by decide +kernel)
theorem dX3_fill_53 : decode cX3_fill 53 = .ok (.if_icmp .lt 20, 3) := dk_161 0 20 (by decide +kernel)
theorem dX3_fill_56 : decode cX3_fill 56 = .ok (.aload_n 0, 1) := dk_42 (by decide +kernel)
theorem dX3_fill_57 : decode cX3_fill 57 = .ok (.getfield 24, 3) := dk_180 0 24 (by decide +kernel)
theorem dX3_fill_60 : decode cX3_fill 60 = .ok (.iload 4, 2) := dk_21 (by decide +kernel)
theorem dX3_fill_62 : decode cX3_fill 62 = .ok (.aload_n 0, 1) := dk_42 (by decide +kernel)
theorem dX3_fill_63 : decode cX3_fill 63 = .ok (.getfield 21, 3) := dk_180 0 21 (by decide +kernel)
theorem dX3_fill_66 : decode cX3_fill 66 = .ok (.iload_n 3, 1) := dk_29 (by decide +kernel)
theorem dX3_fill_67 : decode cX3_fill 67 = .ok (.iaload, 1) := dk_46 (by decide +kernel)
theorem dX3_fill_68 : decode cX3_fill 68 = .ok (.isub, 1) := dk_100 (by decide +kernel)
theorem dX3_fill_69 : decode cX3_fill 69 = .ok (.iaload, 1) := dk_46 (by decide +kernel)
theorem dX3_fill_70 : decode cX3_fill 70 = .ok (.goto 4, 3) := dk_167 0 4 (by decide +kernel)
theorem dX3_fill_73 : decode cX3_fill 73 = .ok (.iconst (-1), 1) := dk_2 (by decide +kernel)
theorem dX3_fill_74 : decode cX3_fill 74 = .ok (.iastore, 1) := dk_79 (by decide +kernel)
theorem dX3_fill_75 : decode cX3_fill 75 = .ok (.iinc 4 1, 3) := dk_132 1 (by decide +kernel)
theorem dX3_fill_78 : decode cX3_fill 78 = .ok (.goto (-45), 3) := dk_167 255 211 (by decide +kernel)
theorem dX3_fill_81 : decode cX3_fill 81 = .ok (.iconst 0, 1) := dk_3 (by decide +kernel)
theorem dX3_fill_82 : decode cX3_fill 82 = .ok (.istore 4, 2) := dk_54 (by decide +kernel)
theorem dX3_fill_84 : decode cX3_fill 84 = .ok (.iload 4, 2) := dk_21 (by decide +kernel)
theorem dX3_fill_86 : decode cX3_fill 86 = .ok (.aload_n 0, 1) := dk_42 (by decide +kernel)
theorem dX3_fill_87 : decode cX3_fill 87 = .ok (.getfield 34, 3) := dk_180 0 34 (by decide +kernel)
theorem dX3_fill_90 : decode cX3_fill 90 = .ok (.if_icmp .ge 27, 3) := dk_162 0 27 (by decide +kernel)
theorem dX3_fill_93 : decode cX3_fill 93 = .ok (.aload_n 0, 1) := dk_42 (by decide +kernel)
theorem dX3_fill_94 : decode cX3_fill 94 = .ok (.getfield 18, 3) := dk_180 0 18 (by decide +kernel)
theorem dX3_fill_97 : decode cX3_fill 97 = .ok (.iload 4, 2) := dk_21 (by decide +kernel)
theorem dX3_fill_99 : decode cX3_fill 99 = .ok (.iaload, 1) := dk_46 (by decide +kernel)
theorem dX3_fill_100 : decode cX3_fill 100 = .ok (.iload_n 3, 1) := dk_29 (by decide +kernel)
theorem dX3_fill_101 : decode cX3_fill 101 = .ok (.if_icmp .ne 10, 3) := dk_160 0 10 (by decide +kernel)
theorem dX3_fill_104 : decode cX3_fill 104 = .ok (.aload_n 0, 1) := dk_42 (by decide +kernel)
theorem dX3_fill_105 : decode cX3_fill 105 = .ok (.iload 4, 2) := dk_21 (by decide +kernel)
theorem dX3_fill_107 : decode cX3_fill 107 = .ok (.iload_n 2, 1) := dk_28 (by decide +kernel)
theorem dX3_fill_108 : decode cX3_fill 108 = .ok (.invokevirtual 50, 3) := dk_182 0 50 (by decide +kernel)
theorem dX3_fill_111 : decode cX3_fill 111 = .ok (.iinc 4 1, 3) := dk_132 1 (by decide +kernel)
theorem dX3_fill_114 : decode cX3_fill 114 = .ok (.goto (-30), 3) := dk_167 255 226 (by decide +kernel)
theorem dX3_fill_117 : decode cX3_fill 117 = .ok (.iconst 0, 1) := dk_3 (by decide +kernel)
theorem dX3_fill_118 : decode cX3_fill 118 = .ok (.istore 4, 2) := dk_54 (by decide +kernel)
theorem dX3_fill_120 : decode cX3_fill 120 = .ok (.iload 4, 2) := dk_21 (by decide +kernel)
theorem dX3_fill_122 : decode cX3_fill 122 = .ok (.iload_n 2, 1) := dk_28 (by decide +kernel)
theorem dX3_fill_123 : decode cX3_fill 123 = .ok (.if_icmp .gt 33, 3) := dk_163 0 33 (by decide +kernel)
theorem dX3_fill_126 : decode cX3_fill 126 = .ok (.aload_n 0, 1) := dk_42 (by decide +kernel)
theorem dX3_fill_127 : decode cX3_fill 127 = .ok (.getfield 24, 3) := dk_180 0 24 (by decide +kernel)
theorem dX3_fill_130 : decode cX3_fill 130 = .ok (.iload 4, 2) := dk_21 (by decide +kernel)
theorem dX3_fill_132 : decode cX3_fill 132 = .ok (.aload_n 0, 1) := dk_42 (by decide +kernel)
theorem dX3_fill_133 : decode cX3_fill 133 = .ok (.getfield 24, 3) := dk_180 0 24 (by decide +kernel)
theorem dX3_fill_136 : decode cX3_fill 136 = .ok (.iload 4, 2) := dk_21 (by decide +kernel)
theorem dX3_fill_138 : decode cX3_fill 138 = .ok (.iaload, 1) := dk_46 (by decide +kernel)
theorem dX3_fill_139 : decode cX3_fill 139 = .ok (.aload_n 0, 1) := dk_42 (by decide +kernel)
theorem dX3_fill_140 : decode cX3_fill 140 = .ok (.getfield 27, 3) := dk_180 0 27 (by decide +kernel)
theorem dX3_fill_143 : decode cX3_fill 143 = .ok (.iload 4, 2) := dk_21 (by decide +kernel)
theorem dX3_fill_145 : decode cX3_fill 145 = .ok (.iaload, 1) := dk_46 (by decide +kernel)
theorem dX3_fill_146 : decode cX3_fill 146 = .ok (.invokestatic 54, 3) := dk_184 0 54 (by decide +kernel)
theorem dX3_fill_149 : decode cX3_fill 149 = .ok (.iastore, 1) := dk_79 (by decide +kernel)
theorem dX3_fill_150 : decode cX3_fill 150 = .ok (.iinc 4 1, 3) := dk_132 1 (by decide +kernel)
theorem dX3_fill_153 : decode cX3_fill 153 = .ok (.goto (-33), 3) := dk_167 255 223 (by decide +kernel)
theorem dX3_fill_156 : decode cX3_fill 156 = .ok (.iinc 3 1, 3) := dk_132 1 (by decide +kernel)
theorem dX3_fill_159 : decode cX3_fill 159 = .ok (.goto (-134), 3) := dk_167 255 122 (by decide +kernel)
theorem dX3_fill_162 : decode cX3_fill 162 = .ok (.return_, 1) := dk_177 (by decide +kernel)
set_option maxRecDepth 8000 in
theorem e_X3_fill {g : ch_G} {A R : Nat} (hC : ck_Cx g A R) {d : Nat} {K : Option ck_V → ck_W → Prop} {w : ck_W} {a1 : Int} (h : ck_CN (ch_C g A R) d mJ7_fill_53178 [.inr (.inr 25), .inl (-1)] w (fun w2 => ck_At (ch_C g A R) (d + 1) mX3_fill K 25 [some (.inr (.inr 20)), none, some (.inl (min a1 400)), some (.inl 0), none] [] (ck_up w2 25 0 0))) : ck_Ex (ch_C g A R) (d + 1) mX3_fill [.inr (.inr 20), .inl a1] w K :=
  ck_entry hC.1 [some (.inr (.inr 20)), some (.inl a1), none, none, none] (by decide) (Nat.le_of_ble_eq_true rfl) rfl (fun q => q) (ck_in (fun hl => (ck_iload_n 1 rfl 1 dX3_fill_0 rfl rfl (ck_sipush 4 rfl dX3_fill_1 rfl (ck_callS 7 rfl [.inl a1, .inl 400] [] dX3_fill_4 cs_X3_38 rfl rfl (Nat.le_of_ble_eq_true rfl) (And.intro hl.2.1 (And.intro (show ck_i 400 by decide) True.intro)) (p_J9_min_7cf53 hC (fun q1 => (ck_istore_n 8 rfl 2 [some (.inr (.inr 20)), some (.inl a1), some (.inl (min a1 400)), none, none] dX3_fill_7 rfl (Nat.le_of_ble_eq_true rfl) rfl rfl q1.1 (ck_aload_n 9 rfl 0 dX3_fill_8 rfl rfl (ck_getr 12 rfl dX3_fill_9 fl_X3_24 sh_20 rfl (ck_iconst 13 rfl dX3_fill_12 rfl (ck_callS 16 rfl [.inr (.inr 25), .inl (-1)] [] dX3_fill_13 cs_X3_44 rfl rfl (Nat.le_of_ble_eq_true rfl) (And.intro True.intro (And.intro (show ck_i (-1) by decide) True.intro)) (ck_mN h (fun w2 h3 => (ck_aload_n 17 rfl 0 dX3_fill_16 rfl rfl (ck_getr 20 rfl dX3_fill_17 fl_X3_24 sh_20 rfl (ck_iconst 21 rfl dX3_fill_20 rfl (ck_iconst 22 rfl dX3_fill_21 rfl (ck_iast 23 rfl dX3_fill_22 sh_25 (shn_25 hC) (by decide) (show ck_i 0 by decide) (ck_iconst 24 rfl dX3_fill_23 rfl (ck_istore_n 25 rfl 3 [some (.inr (.inr 20)), some (.inl a1), some (.inl (min a1 400)), some (.inl 0), none] dX3_fill_24 rfl (Nat.le_of_ble_eq_true rfl) rfl rfl (show ck_i 0 by decide) (ck_drop [some (.inr (.inr 20)), none, some (.inl (min a1 400)), some (.inl 0), none] (And.intro rfl (And.intro rfl (And.intro rfl True.intro))) h3))))))))))))))))))))))
set_option maxRecDepth 8000 in
theorem r_X3_fill_25 {g : ch_G} {A R : Nat} (hC : ck_Cx g A R) {d : Nat} {K : Option ck_V → ck_W → Prop} {w : ck_W} {a2 a3 : Int} (h : (4 ≤ a3 → K none w) ∧ (¬ 4 ≤ a3 → ck_At (ch_C g A R) (d + 1) mX3_fill K 33 [some (.inr (.inr 20)), none, some (.inl a2), some (.inl a3), some (.inl 0)] [] w)) : ck_At (ch_C g A R) (d + 1) mX3_fill K 25 [some (.inr (.inr 20)), none, some (.inl a2), some (.inl a3), none] [] w :=
  ck_in (fun hl => (ck_iload_n 26 rfl 3 dX3_fill_25 rfl rfl (ck_iconst 27 rfl dX3_fill_26 rfl (ck_icmp_ge 30 rfl 162 dX3_fill_27 rfl hl.2.2.1 (show ck_i 4 by decide) (fun c1 => (ck_vret dX3_fill_162 rfl (h.1 c1))) (fun c2 => (ck_iconst 31 rfl dX3_fill_30 rfl (ck_istore 33 rfl [some (.inr (.inr 20)), none, some (.inl a2), some (.inl a3), some (.inl 0)] dX3_fill_31 (Nat.le_of_ble_eq_true rfl) rfl rfl (show ck_i 0 by decide) (h.2 c2))))))))
set_option maxRecDepth 8000 in
theorem r_X3_fill_33 {g : ch_G} {A R : Nat} (hC : ck_Cx g A R) {d : Nat} {K : Option ck_V → ck_W → Prop} {w : ck_W} {a2 a3 a4 : Int} (h : (a2 < a4 → ck_At (ch_C g A R) (d + 1) mX3_fill K 84 [some (.inr (.inr 20)), none, some (.inl a2), some (.inl a3), some (.inl 0)] [] w) ∧ (¬ a2 < a4 → (0 ≤ a3 ∧ a3 < 4) ∧ ((a4 < (w 24 a3) → (0 ≤ a4 ∧ a4 < 401) ∧ (ck_i (a4 + 1) ∧ (ck_At (ch_C g A R) (d + 1) mX3_fill K 33 [some (.inr (.inr 20)), none, some (.inl a2), some (.inl a3), some (.inl (a4 + 1))] [] (ck_up w 26 a4 (-1))))) ∧ (¬ a4 < (w 24 a3) → (0 ≤ (a4 - (w 24 a3)) ∧ (a4 - (w 24 a3)) < 401) ∧ ((0 ≤ a4 ∧ a4 < 401) ∧ (ck_i (a4 + 1) ∧ (ck_At (ch_C g A R) (d + 1) mX3_fill K 33 [some (.inr (.inr 20)), none, some (.inl a2), some (.inl a3), some (.inl (a4 + 1))] [] (ck_up w 26 a4 (w 25 (a4 - (w 24 a3))))))))))) : ck_At (ch_C g A R) (d + 1) mX3_fill K 33 [some (.inr (.inr 20)), none, some (.inl a2), some (.inl a3), some (.inl a4)] [] w :=
  ck_in (fun hl => (ck_iload 35 rfl dX3_fill_33 rfl (ck_iload_n 36 rfl 2 dX3_fill_35 rfl rfl (ck_icmp_gt 39 rfl 81 dX3_fill_36 rfl hl.2.2.2.1 hl.2.1 (fun c12 => (ck_iconst 82 rfl dX3_fill_81 rfl (ck_istore 84 rfl [some (.inr (.inr 20)), none, some (.inl a2), some (.inl a3), some (.inl 0)] dX3_fill_82 (Nat.le_of_ble_eq_true rfl) rfl rfl (show ck_i 0 by decide) (h.1 c12)))) (fun c13 => (ck_aload_n 40 rfl 0 dX3_fill_39 rfl rfl (ck_getr 43 rfl dX3_fill_40 fl_X3_27 sh_20 rfl (ck_iload 45 rfl dX3_fill_43 rfl (ck_iload 47 rfl dX3_fill_45 rfl (ck_aload_n 48 rfl 0 dX3_fill_47 rfl rfl (ck_getr 51 rfl dX3_fill_48 fl_X3_21 sh_20 rfl (ck_iload_n 52 rfl 3 dX3_fill_51 rfl rfl (have h15 := (h.2 c13); have o1 := h15.1; have h14 := h15.2; (ck_iald 53 rfl dX3_fill_52 sh_24 (shn_24 hC) o1 _ rfl (fun (q2 : ck_i (w 24 a3)) => (ck_icmp_lt 56 rfl 73 dX3_fill_53 rfl hl.2.2.2.1 q2 (fun c10 => (ck_iconst 74 rfl dX3_fill_73 rfl (have h17 := (h14.1 c10); have o3 := h17.1; have h16 := h17.2; (ck_iast 75 rfl dX3_fill_74 sh_26 (shn_26 hC) o3 (show ck_i (-1) by decide) (have h19 := h16; have o4 := h19.1; have h18 := h19.2; (ck_iinc 78 rfl [some (.inr (.inr 20)), none, some (.inl a2), some (.inl a3), some (.inl (a4 + 1))] dX3_fill_75 rfl (Nat.le_of_ble_eq_true rfl) rfl rfl o4 (ck_goto 33 dX3_fill_78 rfl h18))))))) (fun c11 => (ck_aload_n 57 rfl 0 dX3_fill_56 rfl rfl (ck_getr 60 rfl dX3_fill_57 fl_X3_24 sh_20 rfl (ck_iload 62 rfl dX3_fill_60 rfl (ck_aload_n 63 rfl 0 dX3_fill_62 rfl rfl (ck_getr 66 rfl dX3_fill_63 fl_X3_21 sh_20 rfl (ck_iload_n 67 rfl 3 dX3_fill_66 rfl rfl (ck_iald 68 rfl dX3_fill_67 sh_24 (shn_24 hC) o1 _ rfl (fun (q5 : ck_i (w 24 a3)) => (ck_isub 69 rfl dX3_fill_68 (have h21 := (h14.2 c11); have o6 := h21.1; have h20 := h21.2; (ck_iald 70 rfl dX3_fill_69 sh_25 (shn_25 hC) o6 _ rfl (fun (q7 : ck_i (w 25 (a4 - (w 24 a3)))) => (ck_goto 74 dX3_fill_70 rfl (have h23 := h20; have o8 := h23.1; have h22 := h23.2; (ck_iast 75 rfl dX3_fill_74 sh_26 (shn_26 hC) o8 q7 (have h25 := h22; have o9 := h25.1; have h24 := h25.2; (ck_iinc 78 rfl [some (.inr (.inr 20)), none, some (.inl a2), some (.inl a3), some (.inl (a4 + 1))] dX3_fill_75 rfl (Nat.le_of_ble_eq_true rfl) rfl rfl o9 (ck_goto 33 dX3_fill_78 rfl h24)))))))))))))))))))))))))))))))))))
set_option maxRecDepth 8000 in
theorem r_X3_fill_84 {g : ch_G} {A R : Nat} (hC : ck_Cx g A R) {d : Nat} {K : Option ck_V → ck_W → Prop} {w : ck_W} {a2 a3 a4 : Int} (h : ((w 20 3) ≤ a4 → ck_At (ch_C g A R) (d + 1) mX3_fill K 120 [some (.inr (.inr 20)), none, some (.inl a2), some (.inl a3), some (.inl 0)] [] w) ∧ (¬ (w 20 3) ≤ a4 → (0 ≤ a4 ∧ a4 < 16) ∧ ((¬ (w 23 a4) = a3 → ck_i (a4 + 1) ∧ (ck_At (ch_C g A R) (d + 1) mX3_fill K 84 [some (.inr (.inr 20)), none, some (.inl a2), some (.inl a3), some (.inl (a4 + 1))] [] w)) ∧ ((w 23 a4) = a3 → ck_CN (ch_C g A R) d mX3_addFetched [.inr (.inr 20), .inl a4, .inl a2] w (fun w5 => ck_i (a4 + 1) ∧ (ck_At (ch_C g A R) (d + 1) mX3_fill K 84 [some (.inr (.inr 20)), none, some (.inl a2), some (.inl a3), some (.inl (a4 + 1))] [] w5)))))) : ck_At (ch_C g A R) (d + 1) mX3_fill K 84 [some (.inr (.inr 20)), none, some (.inl a2), some (.inl a3), some (.inl a4)] [] w :=
  ck_in (fun hl => (ck_iload 86 rfl dX3_fill_84 rfl (ck_aload_n 87 rfl 0 dX3_fill_86 rfl rfl (ck_geti 90 rfl 3 dX3_fill_87 fl_X3_34 sh_20 rfl rfl _ rfl (fun (q1 : ck_i (w 20 3)) => (ck_icmp_ge 93 rfl 117 dX3_fill_90 rfl hl.2.2.2.1 q1 (fun c10 => (ck_iconst 118 rfl dX3_fill_117 rfl (ck_istore 120 rfl [some (.inr (.inr 20)), none, some (.inl a2), some (.inl a3), some (.inl 0)] dX3_fill_118 (Nat.le_of_ble_eq_true rfl) rfl rfl (show ck_i 0 by decide) (h.1 c10)))) (fun c11 => (ck_aload_n 94 rfl 0 dX3_fill_93 rfl rfl (ck_getr 97 rfl dX3_fill_94 fl_X3_18 sh_20 rfl (ck_iload 99 rfl dX3_fill_97 rfl (have h13 := (h.2 c11); have o2 := h13.1; have h12 := h13.2; (ck_iald 100 rfl dX3_fill_99 sh_23 (shn_23 hC) o2 _ rfl (fun (q3 : ck_i (w 23 a4)) => (ck_iload_n 101 rfl 3 dX3_fill_100 rfl rfl (ck_icmp_ne 104 rfl 111 dX3_fill_101 rfl q3 hl.2.2.1 (fun c8 => (have h15 := (h12.1 c8); have o4 := h15.1; have h14 := h15.2; (ck_iinc 114 rfl [some (.inr (.inr 20)), none, some (.inl a2), some (.inl a3), some (.inl (a4 + 1))] dX3_fill_111 rfl (Nat.le_of_ble_eq_true rfl) rfl rfl o4 (ck_goto 84 dX3_fill_114 rfl h14)))) (fun c9 => (ck_aload_n 105 rfl 0 dX3_fill_104 rfl rfl (ck_iload 107 rfl dX3_fill_105 rfl (ck_iload_n 108 rfl 2 dX3_fill_107 rfl rfl (ck_callV 111 rfl [.inl a4, .inl a2] [] dX3_fill_108 cv_X3_50 sh_20 rfl rfl (Nat.le_of_ble_eq_true rfl) (And.intro hl.2.2.2.1 (And.intro hl.2.1 True.intro)) (ck_mN (h12.2 c9) (fun w5 h7 => (have h17 := h7; have o6 := h17.1; have h16 := h17.2; (ck_iinc 114 rfl [some (.inr (.inr 20)), none, some (.inl a2), some (.inl a3), some (.inl (a4 + 1))] dX3_fill_111 rfl (Nat.le_of_ble_eq_true rfl) rfl rfl o6 (ck_goto 84 dX3_fill_114 rfl h16)))))))))))))))))))))))))
set_option maxRecDepth 8000 in
theorem r_X3_fill_120 {g : ch_G} {A R : Nat} (hC : ck_Cx g A R) {d : Nat} {K : Option ck_V → ck_W → Prop} {w : ck_W} {a2 a3 a4 : Int} (h : (a2 < a4 → ck_i (a3 + 1) ∧ (ck_At (ch_C g A R) (d + 1) mX3_fill K 25 [some (.inr (.inr 20)), none, some (.inl a2), some (.inl (a3 + 1)), none] [] w)) ∧ (¬ a2 < a4 → (0 ≤ a4 ∧ a4 < 401) ∧ (ck_i (a4 + 1) ∧ (ck_At (ch_C g A R) (d + 1) mX3_fill K 120 [some (.inr (.inr 20)), none, some (.inl a2), some (.inl a3), some (.inl (a4 + 1))] [] (ck_up w 25 a4 (max (w 25 a4) (w 26 a4))))))) : ck_At (ch_C g A R) (d + 1) mX3_fill K 120 [some (.inr (.inr 20)), none, some (.inl a2), some (.inl a3), some (.inl a4)] [] w :=
  ck_in (fun hl => (ck_iload 122 rfl dX3_fill_120 rfl (ck_iload_n 123 rfl 2 dX3_fill_122 rfl rfl (ck_icmp_gt 126 rfl 156 dX3_fill_123 rfl hl.2.2.2.1 hl.2.1 (fun c7 => (have h10 := (h.1 c7); have o1 := h10.1; have h9 := h10.2; (ck_iinc 159 rfl [some (.inr (.inr 20)), none, some (.inl a2), some (.inl (a3 + 1)), some (.inl a4)] dX3_fill_156 rfl (Nat.le_of_ble_eq_true rfl) rfl rfl o1 (ck_goto 25 dX3_fill_159 rfl (ck_drop [some (.inr (.inr 20)), none, some (.inl a2), some (.inl (a3 + 1)), none] (And.intro rfl (And.intro rfl (And.intro rfl True.intro))) h9))))) (fun c8 => (ck_aload_n 127 rfl 0 dX3_fill_126 rfl rfl (ck_getr 130 rfl dX3_fill_127 fl_X3_24 sh_20 rfl (ck_iload 132 rfl dX3_fill_130 rfl (ck_aload_n 133 rfl 0 dX3_fill_132 rfl rfl (ck_getr 136 rfl dX3_fill_133 fl_X3_24 sh_20 rfl (ck_iload 138 rfl dX3_fill_136 rfl (have h12 := (h.2 c8); have o2 := h12.1; have h11 := h12.2; (ck_iald 139 rfl dX3_fill_138 sh_25 (shn_25 hC) o2 _ rfl (fun (q3 : ck_i (w 25 a4)) => (ck_aload_n 140 rfl 0 dX3_fill_139 rfl rfl (ck_getr 143 rfl dX3_fill_140 fl_X3_27 sh_20 rfl (ck_iload 145 rfl dX3_fill_143 rfl (ck_iald 146 rfl dX3_fill_145 sh_26 (shn_26 hC) o2 _ rfl (fun (q4 : ck_i (w 26 a4)) => (ck_callS 149 rfl [.inl (w 25 a4), .inl (w 26 a4)] [.inl a4, .inr (.inr 25)] dX3_fill_146 cs_X3_54 rfl rfl (Nat.le_of_ble_eq_true rfl) (And.intro q3 (And.intro q4 True.intro)) (p_J9_max_7cf53 hC (fun q5 => (ck_iast 150 rfl dX3_fill_149 sh_25 (shn_25 hC) o2 q5.1 (have h14 := h11; have o6 := h14.1; have h13 := h14.2; (ck_iinc 153 rfl [some (.inr (.inr 20)), none, some (.inl a2), some (.inl a3), some (.inl (a4 + 1))] dX3_fill_150 rfl (Nat.le_of_ble_eq_true rfl) rfl rfl o6 (ck_goto 120 dX3_fill_153 rfl h13))))))))))))))))))))))))))
theorem S_X3_fill {g : ch_G} {A R : Nat} (hC : ck_Cx g A R) {d : Nat} {K : Option ck_V → ck_W → Prop} {w : ck_W} {a1 : Int} (hP : cs_P w) (h1 : 0 ≤ a1 ∧ a1 ≤ 400) (h : ∀ w', (∀ k, k ≠ 25 → k ≠ 26 → w' k = w k) → cs_vb a1 (w' 25) 16 → K none w') : ck_Ex (ch_C g A R) (d + 2) mX3_fill [.inr (.inr 20), .inl a1] w K := by
  have p0 := hP.1
  have cb := fun r => cs_clb (w 23) r (w 20 3).toNat
  have em : min a1 400 = a1 := by omega
  have fr : ∀ u : ck_W, (∀ k, k ≠ 25 → k ≠ 26 → u k = w k) → cs_P u := fun u g => by
    unfold cs_P
    rw [g 20 (by decide) (by decide), g 21 (by decide) (by decide), g 22 (by decide) (by decide), g 23 (by decide) (by decide), g 24 (by decide) (by decide)]
    exact hP
  have lo : ∀ (n : Nat) (a3 : Int) (u : ck_W), 4 - a3 = n → 0 ≤ a3 → (∀ k, k ≠ 25 → k ≠ 26 → u k = w k) → cs_vb a1 (u 25) (cs_cl (w 23) a3 (w 20 3).toNat) → ck_At (ch_C g A R) (d + 2) mX3_fill K 25 [some (.inr (.inr 20)), none, some (.inl a1), some (.inl a3), none] [] u := by
    intro n
    induction n with
    | zero =>
      intro a3 u g1 g2 g3 g4
      exact r_X3_fill_25 hC ⟨fun _ => h u g3 (cs_vbm g4 (by have := cb a3; omega)), fun q => absurd (by omega) q⟩
    | succ n ih =>
      intro a3 u g1 g2 g3 g4
      have c0 := cb a3
      have c1 := cs_cls (w 23) a3 (w 20 3).toNat
      have c2 := cs_ceb (w 23) a3 (w 20 3).toNat
      have c3 := cb (a3 + 1)
      -- the last loop
      have l3 : ∀ (m : Nat) (a4 : Int) (v : ck_W), a1 + 1 - a4 = m → 0 ≤ a4 → (∀ k, k ≠ 25 → k ≠ 26 → v k = w k) → cs_vb a1 (v 25) (cs_cl (w 23) (a3 + 1) (w 20 3).toNat) → cs_vb a1 (v 26) (cs_cl (w 23) (a3 + 1) (w 20 3).toNat) → ck_At (ch_C g A R) (d + 2) mX3_fill K 120 [some (.inr (.inr 20)), none, some (.inl a1), some (.inl a3), some (.inl a4)] [] v := by
        intro m
        induction m with
        | zero =>
          intro a4 v e1 e2 e3 e4 e5
          exact r_X3_fill_120 hC ⟨fun _ => ⟨by constructor <;> omega, ih (a3 + 1) v (by omega) (by omega) e3 e4⟩, fun q => absurd (by omega) q⟩
        | succ m ih3 =>
          intro a4 v e1 e2 e3 e4 e5
          refine r_X3_fill_120 hC ⟨fun q => absurd q (by omega), fun _ => ⟨by omega, by constructor <;> omega, ih3 (a4 + 1) _ (by omega) (by omega) (fun k x y => by rw [ck_up_ne x]; exact e3 k x y) (fun j x y => ?_) (by rw [ck_up_ne (by decide)]; exact e5)⟩⟩
          rw [ck_up_at]
          split
          · have b1 := e4 a4 (by omega) (by omega)
            have b2 := e5 a4 (by omega) (by omega)
            have m1 := Int.le_max_left (v 25 a4) (v 26 a4)
            exact ⟨by omega, Int.max_le.mpr ⟨by omega, by omega⟩⟩
          · exact e4 j x y
      -- the loop over parts
      have l2 : ∀ (m n4 : Nat) (a4 : Int) (v : ck_W), w 20 3 - a4 = m → a4 = n4 → (∀ k, k ≠ 25 → k ≠ 26 → v k = w k) → cs_vb a1 (v 25) (cs_cl (w 23) a3 (w 20 3).toNat) → cs_vb a1 (v 26) (cs_cl (w 23) a3 (w 20 3).toNat + cs_ce (w 23) a3 n4) → ck_At (ch_C g A R) (d + 2) mX3_fill K 84 [some (.inr (.inr 20)), none, some (.inl a1), some (.inl a3), some (.inl a4)] [] v := by
        intro m
        induction m with
        | zero =>
          intro n4 a4 v e1 e2 e3 e4 e5
          have e0 : v 20 3 = w 20 3 := by rw [e3 20 (by decide) (by decide)]
          have en : n4 = (w 20 3).toNat := by omega
          rw [en] at e5
          exact r_X3_fill_84 hC ⟨fun _ => l3 (a1 + 1).toNat 0 v (by omega) (by omega) e3 (cs_vbm e4 (by omega)) (cs_vbm e5 (by omega)), fun q => absurd (by omega) q⟩
        | succ m ih2 =>
          intro n4 a4 v e1 e2 e3 e4 e5
          have e0 : v 20 3 = w 20 3 := by rw [e3 20 (by decide) (by decide)]
          have er : v 23 a4 = w 23 a4 := by rw [e3 23 (by decide) (by decide)]
          have st : cs_ce (w 23) a3 (n4 + 1) = cs_ce (w 23) a3 n4 + if w 23 a4 = a3 then 1 else 0 := by rw [cs_ce, e2]
          have cm := cs_cem (w 23) a3 (n4 + 1) ((w 20 3).toNat - (n4 + 1))
          rw [show n4 + 1 + ((w 20 3).toNat - (n4 + 1)) = (w 20 3).toNat by omega] at cm
          have cz := cs_ceb (w 23) a3 n4
          refine r_X3_fill_84 hC ⟨fun q => absurd q (by omega), fun q => ⟨by omega, fun z => ⟨by constructor <;> omega, ih2 (n4 + 1) (a4 + 1) v (by omega) (by omega) e3 e4 ?_⟩, fun z => ?_⟩⟩
          · rw [er] at z
            rw [st, if_neg z]
            exact cs_vbm e5 (by omega)
          · rw [er] at z
            rw [if_pos z] at st
            refine S_X3_addFetched hC (fr v e3) (by omega) h1 (cs_cl (w 23) a3 (w 20 3).toNat + cs_ce (w 23) a3 n4) (by omega) e5 (fun w' k1 k2 => ⟨rfl, by constructor <;> omega, ih2 (n4 + 1) (a4 + 1) w' (by omega) (by omega) (fun k x y => by rw [k1 k y]; exact e3 k x y) (by rw [k1 25 (by decide)]; exact e4) ?_⟩)
            rw [st]
            exact cs_vbm k2 (by omega)
      -- the first loop
      have l1 : ∀ (m : Nat) (a4 : Int) (v : ck_W), a1 + 1 - a4 = m → 0 ≤ a4 → (∀ k, k ≠ 25 → k ≠ 26 → v k = w k) → cs_vb a1 (v 25) (cs_cl (w 23) a3 (w 20 3).toNat) → (∀ j, 0 ≤ j → j < a4 → -1 ≤ v 26 j ∧ v 26 j ≤ 65470464 * (cs_cl (w 23) a3 (w 20 3).toNat)) → ck_At (ch_C g A R) (d + 2) mX3_fill K 33 [some (.inr (.inr 20)), none, some (.inl a1), some (.inl a3), some (.inl a4)] [] v := by
        intro m
        induction m with
        | zero =>
          intro a4 v e1 e2 e3 e4 e5
          exact r_X3_fill_33 hC ⟨fun _ => l2 (w 20 3).toNat 0 0 v (by omega) (by omega) e3 e4 (fun j x y => by have := e5 j x (by omega); rw [cs_ce]; omega), fun q => absurd (by omega) q⟩
        | succ m ih1 =>
          intro a4 v e1 e2 e3 e4 e5
          have ef : v 24 a3 = w 24 a3 := by rw [e3 24 (by decide) (by decide)]
          have fb := hP.2.2 a3 (by omega) (by omega)
          refine r_X3_fill_33 hC ⟨fun q => absurd q (by omega), fun q => ⟨by omega, fun z => ⟨by omega, by constructor <;> omega, ih1 (a4 + 1) _ (by omega) (by omega) (fun k x y => by rw [ck_up_ne y]; exact e3 k x y) (by rw [ck_up_ne (by decide)]; exact e4) (fun j x y => ?_)⟩, fun z => ⟨by omega, by omega, by constructor <;> omega, ih1 (a4 + 1) _ (by omega) (by omega) (fun k x y => by rw [ck_up_ne y]; exact e3 k x y) (by rw [ck_up_ne (by decide)]; exact e4) (fun j x y => ?_)⟩⟩⟩
          · rw [ck_up_at]
            split
            · omega
            · exact e5 j x (by omega)
          · rw [ck_up_at]
            split
            · exact e4 _ (by omega) (by omega)
            · exact e5 j x (by omega)
      exact r_X3_fill_25 hC ⟨fun q => absurd q (by omega), fun _ => l1 (a1 + 1).toNat 0 u (by omega) (by omega) g3 g4 (fun j a b => by omega)⟩
  have e := e_X3_fill (K := K) (d := d + 1) (w := w) (a1 := a1) hC
  rw [em] at e
  refine e (S_fill_25 hC (fun w' k1 k2 => ⟨rfl, lo 4 0 _ (by omega) (by omega) (fun k x y => by rw [ck_up_ne x]; exact k1 k x) (fun j x y => ?_)⟩))
  have c0 := cb 0
  rw [ck_up_at]
  split
  · omega
  · rw [k2 j x (by omega)]; omega
theorem dX3_worthAt_0 : decode cX3_worthAt 0 = .ok (.iload_n 1, 1) := dk_27 (by decide +kernel)
theorem dX3_worthAt_1 : decode cX3_worthAt 1 = .ok (.iconst 0, 1) := dk_3 (by decide +kernel)
theorem dX3_worthAt_2 : decode cX3_worthAt 2 = .ok (.sipush 400, 3) := dk_17 1 144 (by decide +kernel)
theorem dX3_worthAt_5 : decode cX3_worthAt 5 = .ok (.invokestatic 62, 3) := dk_184 0 62 (by decide +kernel)
theorem dX3_worthAt_8 : decode cX3_worthAt 8 = .ok (.ifCond .eq 30, 3) := dk_153 0 30 (by decide +kernel)
theorem dX3_worthAt_11 : decode cX3_worthAt 11 = .ok (.aload_n 0, 1) := dk_42 (by decide +kernel)
theorem dX3_worthAt_12 : decode cX3_worthAt 12 = .ok (.getfield 24, 3) := dk_180 0 24 (by decide +kernel)
theorem dX3_worthAt_15 : decode cX3_worthAt 15 = .ok (.iload_n 1, 1) := dk_27 (by decide +kernel)
theorem dX3_worthAt_16 : decode cX3_worthAt 16 = .ok (.iaload, 1) := dk_46 (by decide +kernel)
theorem dX3_worthAt_17 : decode cX3_worthAt 17 = .ok (.iconst (-1), 1) := dk_2 (by decide +kernel)
theorem dX3_worthAt_18 : decode cX3_worthAt 18 = .ok (.if_icmp .eq 20, 3) := dk_159 0 20 (by decide +kernel)
theorem dX3_worthAt_21 : decode cX3_worthAt 21 = .ok (.aload_n 0, 1) := dk_42 (by decide +kernel)
theorem dX3_worthAt_22 : decode cX3_worthAt 22 = .ok (.getfield 24, 3) := dk_180 0 24 (by decide +kernel)
theorem dX3_worthAt_25 : decode cX3_worthAt 25 = .ok (.iload_n 1, 1) := dk_27 (by decide +kernel)
theorem dX3_worthAt_26 : decode cX3_worthAt 26 = .ok (.iaload, 1) := dk_46 (by decide +kernel)
theorem dX3_worthAt_27 : decode cX3_worthAt 27 = .ok (.ldc 57, 2) := dk_18 (by decide +kernel)
theorem dX3_worthAt_29 : decode cX3_worthAt 29 = .ok (.iadd, 1) := dk_96 (by decide +kernel)
theorem dX3_worthAt_30 : decode cX3_worthAt 30 = .ok (.iconst 1, 1) := dk_4 (by decide +kernel)
theorem dX3_worthAt_31 : decode cX3_worthAt 31 = .ok (.isub, 1) := dk_100 (by decide +kernel)
theorem dX3_worthAt_32 : decode cX3_worthAt 32 = .ok (.bipush 16, 2) := dk_16 16 (by decide +kernel)
theorem dX3_worthAt_34 : decode cX3_worthAt 34 = .ok (.ishr, 1) := dk_122 (by decide +kernel)
theorem dX3_worthAt_35 : decode cX3_worthAt 35 = .ok (.goto 4, 3) := dk_167 0 4 (by decide +kernel)
theorem dX3_worthAt_38 : decode cX3_worthAt 38 = .ok (.iconst (-1), 1) := dk_2 (by decide +kernel)
theorem dX3_worthAt_39 : decode cX3_worthAt 39 = .ok (.ireturn, 1) := dk_172 (by decide +kernel)
set_option maxRecDepth 8000 in
theorem e_X3_worthAt {g : ch_G} {A R : Nat} (hC : ck_Cx g A R) {d : Nat} {K : Option ck_V → ck_W → Prop} {w : ck_W} {a1 : Int} (h : (0 ≤ a1 ∧ a1 ≤ 400 → (0 ≤ a1 ∧ a1 < 401) ∧ (((w 25 a1) = (-1) → K (some (.inl (-1))) w) ∧ (¬ (w 25 a1) = (-1) → K (some (.inl (ck_shr (((w 25 a1) + 65536) - 1) 16))) w))) ∧ (¬ (0 ≤ a1 ∧ a1 ≤ 400) → K (some (.inl (-1))) w)) : ck_Ex (ch_C g A R) (d + 1) mX3_worthAt [.inr (.inr 20), .inl a1] w K :=
  ck_entry hC.1 [some (.inr (.inr 20)), some (.inl a1)] (by decide) (Nat.le_of_ble_eq_true rfl) rfl (fun q => q) (ck_in (fun hl => (ck_iload_n 1 rfl 1 dX3_worthAt_0 rfl rfl (ck_iconst 2 rfl dX3_worthAt_1 rfl (ck_sipush 5 rfl dX3_worthAt_2 rfl (have h8 := h; ck_callSN 8 rfl [.inl a1, .inl 0, .inl 400] [] dX3_worthAt_5 cn_X3_62 rfl rfl (Nat.le_of_ble_eq_true rfl) (And.intro hl.2.1 (And.intro (show ck_i 0 by decide) (And.intro (show ck_i 400 by decide) True.intro))) (p_X11_within hC (fun c6 _ => (ck_if_eq 11 rfl 38 dX3_worthAt_8 rfl (by decide) (fun q => absurd q (by decide)) (fun _ => (ck_aload_n 12 rfl 0 dX3_worthAt_11 rfl rfl (ck_getr 15 rfl dX3_worthAt_12 fl_X3_24 sh_20 rfl (ck_iload_n 16 rfl 1 dX3_worthAt_15 rfl rfl (have h10 := (h8.1 c6); have o1 := h10.1; have h9 := h10.2; (ck_iald 17 rfl dX3_worthAt_16 sh_25 (shn_25 hC) o1 _ rfl (fun (q2 : ck_i (w 25 a1)) => (ck_iconst 18 rfl dX3_worthAt_17 rfl (ck_icmp_eq 21 rfl 38 dX3_worthAt_18 rfl q2 (show ck_i (-1) by decide) (fun c4 => (ck_iconst 39 rfl dX3_worthAt_38 rfl (ck_iret dX3_worthAt_39 rfl (show ck_i (-1) by decide) (h9.1 c4)))) (fun c5 => (ck_aload_n 22 rfl 0 dX3_worthAt_21 rfl rfl (ck_getr 25 rfl dX3_worthAt_22 fl_X3_24 sh_20 rfl (ck_iload_n 26 rfl 1 dX3_worthAt_25 rfl rfl (ck_iald 27 rfl dX3_worthAt_26 sh_25 (shn_25 hC) o1 _ rfl (fun (q3 : ck_i (w 25 a1)) => (ck_ldc 29 rfl 65536 kc_X3_57 dX3_worthAt_27 rfl (ck_iadd 30 rfl dX3_worthAt_29 (ck_iconst 31 rfl dX3_worthAt_30 rfl (ck_isub 32 rfl dX3_worthAt_31 (ck_bipush 34 rfl dX3_worthAt_32 rfl (ck_ishr 35 rfl dX3_worthAt_34 (ck_goto 39 dX3_worthAt_35 rfl (ck_iret dX3_worthAt_39 rfl (ck_rng _) (h9.2 c5)))))))))))))))))))))))))) (fun c7 _ => (ck_if_eq 11 rfl 38 dX3_worthAt_8 rfl (by decide) (fun _ => (ck_iconst 39 rfl dX3_worthAt_38 rfl (ck_iret dX3_worthAt_39 rfl (show ck_i (-1) by decide) (h8.2 c7)))) (fun q => absurd q (by decide)))))))))))
def cs_wo (v : Int) : Int := if v = -1 then -1 else (v + 65535) / 65536
theorem p_X3_worthAt {g : ch_G} {A R : Nat} (hC : ck_Cx g A R) {d : Nat} {K : Option ck_V → ck_W → Prop} {w : ck_W} {a1 m : Int} (h1 : 0 ≤ a1 ∧ a1 ≤ m) (hm : m ≤ 400) (hv : cs_vb m (w 25) 16) (h : K (some (.inl (cs_wo (w 25 a1)))) w) : ck_Ex (ch_C g A R) (d + 1) mX3_worthAt [.inr (.inr 20), .inl a1] w K := by
  have b := hv a1 h1.1 h1.2
  unfold cs_wo at h
  refine e_X3_worthAt hC ⟨fun _ => ⟨by omega, fun z => by rw [if_pos z] at h; exact h, fun z => ?_⟩, fun q => absurd (by omega) q⟩
  rw [if_neg z] at h
  obtain ⟨n, e⟩ := kb_nat (x := w 25 a1 + 65536 - 1) (by omega)
  have s : ck_shr (w 25 a1 + 65536 - 1) 16 = (w 25 a1 + 65535) / 65536 := by
    rw [e]
    rw [show (16 : Int) = ((16 : Nat) : Int) by rfl, kb_shr (by decide) (by omega)]
    have : w 25 a1 + 65535 = (n : Int) := by omega
    rw [this]; rfl
  rw [s]
  exact h
theorem dX3_setAt_0 : decode cX3_setAt 0 = .ok (.iload_n 1, 1) := dk_27 (by decide +kernel)
theorem dX3_setAt_1 : decode cX3_setAt 1 = .ok (.iconst 0, 1) := dk_3 (by decide +kernel)
theorem dX3_setAt_2 : decode cX3_setAt 2 = .ok (.sipush 400, 3) := dk_17 1 144 (by decide +kernel)
theorem dX3_setAt_5 : decode cX3_setAt 5 = .ok (.invokestatic 62, 3) := dk_184 0 62 (by decide +kernel)
theorem dX3_setAt_8 : decode cX3_setAt 8 = .ok (.ifCond .eq 31, 3) := dk_153 0 31 (by decide +kernel)
theorem dX3_setAt_11 : decode cX3_setAt 11 = .ok (.aload_n 0, 1) := dk_42 (by decide +kernel)
theorem dX3_setAt_12 : decode cX3_setAt 12 = .ok (.getfield 24, 3) := dk_180 0 24 (by decide +kernel)
theorem dX3_setAt_15 : decode cX3_setAt 15 = .ok (.iload_n 1, 1) := dk_27 (by decide +kernel)
theorem dX3_setAt_16 : decode cX3_setAt 16 = .ok (.iaload, 1) := dk_46 (by decide +kernel)
theorem dX3_setAt_17 : decode cX3_setAt 17 = .ok (.iconst (-1), 1) := dk_2 (by decide +kernel)
theorem dX3_setAt_18 : decode cX3_setAt 18 = .ok (.if_icmp .eq 21, 3) := dk_159 0 21 (by decide +kernel)
theorem dX3_setAt_21 : decode cX3_setAt 21 = .ok (.aload_n 0, 1) := dk_42 (by decide +kernel)
theorem dX3_setAt_22 : decode cX3_setAt 22 = .ok (.iload_n 1, 1) := dk_27 (by decide +kernel)
theorem dX3_setAt_23 : decode cX3_setAt 23 = .ok (.invokevirtual 58, 3) := dk_182 0 58 (by decide +kernel)
theorem dX3_setAt_26 : decode cX3_setAt 26 = .ok (.ldc 57, 2) := dk_18 (by decide +kernel)
theorem dX3_setAt_28 : decode cX3_setAt 28 = .ok (.imul, 1) := dk_104 (by decide +kernel)
theorem dX3_setAt_29 : decode cX3_setAt 29 = .ok (.aload_n 0, 1) := dk_42 (by decide +kernel)
theorem dX3_setAt_30 : decode cX3_setAt 30 = .ok (.getfield 24, 3) := dk_180 0 24 (by decide +kernel)
theorem dX3_setAt_33 : decode cX3_setAt 33 = .ok (.iload_n 1, 1) := dk_27 (by decide +kernel)
theorem dX3_setAt_34 : decode cX3_setAt 34 = .ok (.iaload, 1) := dk_46 (by decide +kernel)
theorem dX3_setAt_35 : decode cX3_setAt 35 = .ok (.isub, 1) := dk_100 (by decide +kernel)
theorem dX3_setAt_36 : decode cX3_setAt 36 = .ok (.goto 4, 3) := dk_167 0 4 (by decide +kernel)
theorem dX3_setAt_39 : decode cX3_setAt 39 = .ok (.iconst (-1), 1) := dk_2 (by decide +kernel)
theorem dX3_setAt_40 : decode cX3_setAt 40 = .ok (.ireturn, 1) := dk_172 (by decide +kernel)
set_option maxRecDepth 8000 in
theorem e_X3_setAt {g : ch_G} {A R : Nat} (hC : ck_Cx g A R) {d : Nat} {K : Option ck_V → ck_W → Prop} {w : ck_W} {a1 : Int} (h : (0 ≤ a1 ∧ a1 ≤ 400 → (0 ≤ a1 ∧ a1 < 401) ∧ (((w 25 a1) = (-1) → K (some (.inl (-1))) w) ∧ (¬ (w 25 a1) = (-1) → ck_CI (ch_C g A R) d mX3_worthAt [.inr (.inr 20), .inl a1] w (fun v4 w3 => ck_i ((v4 * 65536) - (w3 25 a1)) ∧ (K (some (.inl ((v4 * 65536) - (w3 25 a1)))) w3))))) ∧ (¬ (0 ≤ a1 ∧ a1 ≤ 400) → K (some (.inl (-1))) w)) : ck_Ex (ch_C g A R) (d + 1) mX3_setAt [.inr (.inr 20), .inl a1] w K :=
  ck_entry hC.1 [some (.inr (.inr 20)), some (.inl a1)] (by decide) (Nat.le_of_ble_eq_true rfl) rfl (fun q => q) (ck_in (fun hl => (ck_iload_n 1 rfl 1 dX3_setAt_0 rfl rfl (ck_iconst 2 rfl dX3_setAt_1 rfl (ck_sipush 5 rfl dX3_setAt_2 rfl (have h13 := h; ck_callSN 8 rfl [.inl a1, .inl 0, .inl 400] [] dX3_setAt_5 cn_X3_62 rfl rfl (Nat.le_of_ble_eq_true rfl) (And.intro hl.2.1 (And.intro (show ck_i 0 by decide) (And.intro (show ck_i 400 by decide) True.intro))) (p_X11_within hC (fun c11 _ => (ck_if_eq 11 rfl 39 dX3_setAt_8 rfl (by decide) (fun q => absurd q (by decide)) (fun _ => (ck_aload_n 12 rfl 0 dX3_setAt_11 rfl rfl (ck_getr 15 rfl dX3_setAt_12 fl_X3_24 sh_20 rfl (ck_iload_n 16 rfl 1 dX3_setAt_15 rfl rfl (have h15 := (h13.1 c11); have o1 := h15.1; have h14 := h15.2; (ck_iald 17 rfl dX3_setAt_16 sh_25 (shn_25 hC) o1 _ rfl (fun (q2 : ck_i (w 25 a1)) => (ck_iconst 18 rfl dX3_setAt_17 rfl (ck_icmp_eq 21 rfl 39 dX3_setAt_18 rfl q2 (show ck_i (-1) by decide) (fun c9 => (ck_iconst 40 rfl dX3_setAt_39 rfl (ck_iret dX3_setAt_40 rfl (show ck_i (-1) by decide) (h14.1 c9)))) (fun c10 => (ck_aload_n 22 rfl 0 dX3_setAt_21 rfl rfl (ck_iload_n 23 rfl 1 dX3_setAt_22 rfl rfl (ck_callV 26 rfl [.inl a1] [] dX3_setAt_23 cv_X3_58 sh_20 rfl rfl (Nat.le_of_ble_eq_true rfl) (And.intro hl.2.1 True.intro) (ck_mI (h14.2 c10) (fun v4 w3 q5 h6 => (ck_ldc 28 rfl 65536 kc_X3_57 dX3_setAt_26 rfl (ck_imul 29 rfl dX3_setAt_28 (ck_aload_n 30 rfl 0 dX3_setAt_29 rfl rfl (ck_getr 33 rfl dX3_setAt_30 fl_X3_24 sh_20 rfl (ck_iload_n 34 rfl 1 dX3_setAt_33 rfl rfl (ck_iald 35 rfl dX3_setAt_34 sh_25 (shn_25 hC) o1 _ rfl (fun (q7 : ck_i (w3 25 a1)) => (ck_isub 36 rfl dX3_setAt_35 (ck_goto 40 dX3_setAt_36 rfl (have h17 := h6; have o8 := h17.1; have h16 := h17.2; (ck_iret dX3_setAt_40 rfl o8 h16)))))))))))))))))))))))))))) (fun c12 _ => (ck_if_eq 11 rfl 39 dX3_setAt_8 rfl (by decide) (fun _ => (ck_iconst 40 rfl dX3_setAt_39 rfl (ck_iret dX3_setAt_40 rfl (show ck_i (-1) by decide) (h13.2 c12)))) (fun q => absurd q (by decide)))))))))))
theorem p_X3_setAt {g : ch_G} {A R : Nat} (hC : ck_Cx g A R) {d : Nat} {K : Option ck_V → ck_W → Prop} {w : ck_W} {a1 m : Int} (h1 : 0 ≤ a1 ∧ a1 ≤ m) (hm : m ≤ 400) (hv : cs_vb m (w 25) 16) (h : K (some (.inl (if w 25 a1 = -1 then -1 else cs_wo (w 25 a1) * 65536 - w 25 a1))) w) : ck_Ex (ch_C g A R) (d + 2) mX3_setAt [.inr (.inr 20), .inl a1] w K := by
  have b := hv a1 h1.1 h1.2
  refine e_X3_setAt hC ⟨fun _ => ⟨by omega, fun z => by rw [if_pos z] at h; exact h, fun z => ?_⟩, fun q => absurd (by omega) q⟩
  rw [if_neg z] at h
  have s : cs_wo (w 25 a1) = (w 25 a1 + 65535) / 65536 := by unfold cs_wo; rw [if_neg z]
  refine p_X3_worthAt hC h1 hm hv ⟨_, rfl, fun _ => ⟨?_, h⟩⟩
  rw [s]
  constructor <;> omega
theorem dX3_hoursOfBest_0 : decode cX3_hoursOfBest 0 = .ok (.iconst 0, 1) := dk_3 (by decide +kernel)
theorem dX3_hoursOfBest_1 : decode cX3_hoursOfBest 1 = .ok (.istore_n 2, 1) := dk_61 (by decide +kernel)
theorem dX3_hoursOfBest_2 : decode cX3_hoursOfBest 2 = .ok (.iconst 1, 1) := dk_4 (by decide +kernel)
theorem dX3_hoursOfBest_3 : decode cX3_hoursOfBest 3 = .ok (.istore_n 3, 1) := dk_62 (by decide +kernel)
theorem dX3_hoursOfBest_4 : decode cX3_hoursOfBest 4 = .ok (.iload_n 3, 1) := dk_29 (by decide +kernel)
theorem dX3_hoursOfBest_5 : decode cX3_hoursOfBest 5 = .ok (.iload_n 1, 1) := dk_27 (by decide +kernel)
theorem dX3_hoursOfBest_6 : decode cX3_hoursOfBest 6 = .ok (.if_icmp .gt 31, 3) := dk_163 0 31 (by decide +kernel)
theorem dX3_hoursOfBest_9 : decode cX3_hoursOfBest 9 = .ok (.iload_n 3, 1) := dk_29 (by decide +kernel)
theorem dX3_hoursOfBest_10 : decode cX3_hoursOfBest 10 = .ok (.sipush 400, 3) := dk_17 1 144 (by decide +kernel)
theorem dX3_hoursOfBest_13 : decode cX3_hoursOfBest 13 = .ok (.if_icmp .gt 24, 3) := dk_163 0 24 (by decide +kernel)
theorem dX3_hoursOfBest_16 : decode cX3_hoursOfBest 16 = .ok (.aload_n 0, 1) := dk_42 (by decide +kernel)
theorem dX3_hoursOfBest_17 : decode cX3_hoursOfBest 17 = .ok (.iload_n 3, 1) := dk_29 (by decide +kernel)
theorem dX3_hoursOfBest_18 : decode cX3_hoursOfBest 18 = .ok (.invokevirtual 58, 3) := dk_182 0 58 (by decide +kernel)
theorem dX3_hoursOfBest_21 : decode cX3_hoursOfBest 21 = .ok (.aload_n 0, 1) := dk_42 (by decide +kernel)
theorem dX3_hoursOfBest_22 : decode cX3_hoursOfBest 22 = .ok (.iload_n 2, 1) := dk_28 (by decide +kernel)
theorem dX3_hoursOfBest_23 : decode cX3_hoursOfBest 23 = .ok (.invokevirtual 58, 3) := dk_182 0 58 (by decide +kernel)
theorem dX3_hoursOfBest_26 : decode cX3_hoursOfBest 26 = .ok (.if_icmp .le 5, 3) := dk_164 0 5 (by decide +kernel)
theorem dX3_hoursOfBest_29 : decode cX3_hoursOfBest 29 = .ok (.iload_n 3, 1) := dk_29 (by decide +kernel)
theorem dX3_hoursOfBest_30 : decode cX3_hoursOfBest 30 = .ok (.istore_n 2, 1) := dk_61 (by decide +kernel)
theorem dX3_hoursOfBest_31 : decode cX3_hoursOfBest 31 = .ok (.iinc 3 1, 3) := dk_132 1 (by decide +kernel)
theorem dX3_hoursOfBest_34 : decode cX3_hoursOfBest 34 = .ok (.goto (-30), 3) := dk_167 255 226 (by decide +kernel)
theorem dX3_hoursOfBest_37 : decode cX3_hoursOfBest 37 = .ok (.iload_n 2, 1) := dk_28 (by decide +kernel)
theorem dX3_hoursOfBest_38 : decode cX3_hoursOfBest 38 = .ok (.ireturn, 1) := dk_172 (by decide +kernel)
set_option maxRecDepth 8000 in
theorem e_X3_hoursOfBest {g : ch_G} {A R : Nat} (hC : ck_Cx g A R) {d : Nat} {K : Option ck_V → ck_W → Prop} {w : ck_W} {a1 : Int} (h : ck_At (ch_C g A R) (d + 1) mX3_hoursOfBest K 4 [some (.inr (.inr 20)), some (.inl a1), some (.inl 0), some (.inl 1)] [] w) : ck_Ex (ch_C g A R) (d + 1) mX3_hoursOfBest [.inr (.inr 20), .inl a1] w K :=
  ck_entry hC.1 [some (.inr (.inr 20)), some (.inl a1), none, none] (by decide) (Nat.le_of_ble_eq_true rfl) rfl (fun q => q) (ck_in (fun hl => (ck_iconst 1 rfl dX3_hoursOfBest_0 rfl (ck_istore_n 2 rfl 2 [some (.inr (.inr 20)), some (.inl a1), some (.inl 0), none] dX3_hoursOfBest_1 rfl (Nat.le_of_ble_eq_true rfl) rfl rfl (show ck_i 0 by decide) (ck_iconst 3 rfl dX3_hoursOfBest_2 rfl (ck_istore_n 4 rfl 3 [some (.inr (.inr 20)), some (.inl a1), some (.inl 0), some (.inl 1)] dX3_hoursOfBest_3 rfl (Nat.le_of_ble_eq_true rfl) rfl rfl (show ck_i 1 by decide) h))))))
set_option maxRecDepth 8000 in
theorem r_X3_hoursOfBest_4 {g : ch_G} {A R : Nat} (hC : ck_Cx g A R) {d : Nat} {K : Option ck_V → ck_W → Prop} {w : ck_W} {a1 a2 a3 : Int} (h : (a1 < a3 → K (some (.inl a2)) w) ∧ (¬ a1 < a3 → (400 < a3 → K (some (.inl a2)) w) ∧ (¬ 400 < a3 → ck_CI (ch_C g A R) d mX3_worthAt [.inr (.inr 20), .inl a3] w (fun v2 w1 => ck_CI (ch_C g A R) d mX3_worthAt [.inr (.inr 20), .inl a2] w1 (fun v6 w5 => (v2 ≤ v6 → ck_i (a3 + 1) ∧ (ck_At (ch_C g A R) (d + 1) mX3_hoursOfBest K 4 [some (.inr (.inr 20)), some (.inl a1), some (.inl a2), some (.inl (a3 + 1))] [] w5)) ∧ (¬ v2 ≤ v6 → ck_i (a3 + 1) ∧ (ck_At (ch_C g A R) (d + 1) mX3_hoursOfBest K 4 [some (.inr (.inr 20)), some (.inl a1), some (.inl a3), some (.inl (a3 + 1))] [] w5))))))) : ck_At (ch_C g A R) (d + 1) mX3_hoursOfBest K 4 [some (.inr (.inr 20)), some (.inl a1), some (.inl a2), some (.inl a3)] [] w :=
  ck_in (fun hl => (ck_iload_n 5 rfl 3 dX3_hoursOfBest_4 rfl rfl (ck_iload_n 6 rfl 1 dX3_hoursOfBest_5 rfl rfl (ck_icmp_gt 9 rfl 37 dX3_hoursOfBest_6 rfl hl.2.2.2.1 hl.2.1 (fun c15 => (ck_iload_n 38 rfl 2 dX3_hoursOfBest_37 rfl rfl (ck_iret dX3_hoursOfBest_38 rfl hl.2.2.1 (h.1 c15)))) (fun c16 => (ck_iload_n 10 rfl 3 dX3_hoursOfBest_9 rfl rfl (ck_sipush 13 rfl dX3_hoursOfBest_10 rfl (have h17 := (h.2 c16); (ck_icmp_gt 16 rfl 37 dX3_hoursOfBest_13 rfl hl.2.2.2.1 (show ck_i 400 by decide) (fun c13 => (ck_iload_n 38 rfl 2 dX3_hoursOfBest_37 rfl rfl (ck_iret dX3_hoursOfBest_38 rfl hl.2.2.1 (h17.1 c13)))) (fun c14 => (ck_aload_n 17 rfl 0 dX3_hoursOfBest_16 rfl rfl (ck_iload_n 18 rfl 3 dX3_hoursOfBest_17 rfl rfl (ck_callV 21 rfl [.inl a3] [] dX3_hoursOfBest_18 cv_X3_58 sh_20 rfl rfl (Nat.le_of_ble_eq_true rfl) (And.intro hl.2.2.2.1 True.intro) (ck_mI (h17.2 c14) (fun v2 w1 q3 h4 => (ck_aload_n 22 rfl 0 dX3_hoursOfBest_21 rfl rfl (ck_iload_n 23 rfl 2 dX3_hoursOfBest_22 rfl rfl (ck_callV 26 rfl [.inl a2] [.inl v2] dX3_hoursOfBest_23 cv_X3_58 sh_20 rfl rfl (Nat.le_of_ble_eq_true rfl) (And.intro hl.2.2.1 True.intro) (ck_mI h4 (fun v6 w5 q7 h8 => (ck_icmp_le 29 rfl 31 dX3_hoursOfBest_26 rfl q3 q7 (fun c11 => (have h19 := (h8.1 c11); have o9 := h19.1; have h18 := h19.2; (ck_iinc 34 rfl [some (.inr (.inr 20)), some (.inl a1), some (.inl a2), some (.inl (a3 + 1))] dX3_hoursOfBest_31 rfl (Nat.le_of_ble_eq_true rfl) rfl rfl o9 (ck_goto 4 dX3_hoursOfBest_34 rfl h18)))) (fun c12 => (ck_iload_n 30 rfl 3 dX3_hoursOfBest_29 rfl rfl (ck_istore_n 31 rfl 2 [some (.inr (.inr 20)), some (.inl a1), some (.inl a3), some (.inl a3)] dX3_hoursOfBest_30 rfl (Nat.le_of_ble_eq_true rfl) rfl rfl hl.2.2.2.1 (have h21 := (h8.2 c12); have o10 := h21.1; have h20 := h21.2; (ck_iinc 34 rfl [some (.inr (.inr 20)), some (.inl a1), some (.inl a3), some (.inl (a3 + 1))] dX3_hoursOfBest_31 rfl (Nat.le_of_ble_eq_true rfl) rfl rfl o10 (ck_goto 4 dX3_hoursOfBest_34 rfl h20)))))))))))))))))))))))))))
/-- the hours of the greatest worth, the fewest of like ones -/
def cs_hb (f : Int → Int) : Nat → Int → Int → Int
  | 0, _, b => b
  | n + 1, k, b => cs_hb f n (k + 1) (if cs_wo (f k) ≤ cs_wo (f b) then b else k)
theorem cs_hbb (f : Int → Int) : ∀ (n : Nat) (k b : Int), 0 ≤ b → b < k → 0 ≤ cs_hb f n k b ∧ cs_hb f n k b < k + n
  | 0, k, b, h0, h1 => by rw [cs_hb]; omega
  | n + 1, k, b, h0, h1 => by
    rw [cs_hb]
    have := cs_hbb f n (k + 1) (if cs_wo (f k) ≤ cs_wo (f b) then b else k) (by split <;> omega) (by split <;> omega)
    omega
theorem L_X3_hoursOfBest {g : ch_G} {A R : Nat} (hC : ck_Cx g A R) {d : Nat} {K : Option ck_V → ck_W → Prop} {w : ck_W} {a1 : Int} (h1 : 0 ≤ a1 ∧ a1 ≤ 400) (hv : cs_vb a1 (w 25) 16) : ∀ (n : Nat) (a2 a3 : Int), a1 + 1 - a3 = n → 1 ≤ a3 → (0 ≤ a2 ∧ a2 ≤ a1) → K (some (.inl (cs_hb (w 25) n a3 a2))) w → ck_At (ch_C g A R) (d + 2) mX3_hoursOfBest K 4 [some (.inr (.inr 20)), some (.inl a1), some (.inl a2), some (.inl a3)] [] w := by
  intro n
  induction n with
  | zero =>
    intro a2 a3 g1 g2 g3 h
    exact r_X3_hoursOfBest_4 hC ⟨fun _ => h, fun q => absurd (by omega) q⟩
  | succ n ih =>
    intro a2 a3 g1 g2 g3 h
    rw [cs_hb] at h
    refine r_X3_hoursOfBest_4 hC ⟨fun q => absurd q (by omega), fun _ => ⟨fun q => absurd q (by omega), fun _ => p_X3_worthAt hC (m := a1) (by omega) h1.2 hv ⟨_, rfl, fun _ => p_X3_worthAt hC (m := a1) (by omega) h1.2 hv ⟨_, rfl, fun _ => ⟨fun z => ⟨by constructor <;> omega, ih a2 (a3 + 1) (by omega) (by omega) (by omega) ?_⟩, fun z => ⟨by constructor <;> omega, ih a3 (a3 + 1) (by omega) (by omega) (by omega) ?_⟩⟩⟩⟩⟩⟩
    · rw [if_pos z] at h; exact h
    · rw [if_neg z] at h; exact h
theorem S_X3_hoursOfBest {g : ch_G} {A R : Nat} (hC : ck_Cx g A R) {d : Nat} {K : Option ck_V → ck_W → Prop} {w : ck_W} {a1 : Int} (h1 : 0 ≤ a1 ∧ a1 ≤ 400) (hv : cs_vb a1 (w 25) 16) (h : K (some (.inl (cs_hb (w 25) a1.toNat 1 0))) w) : ck_Ex (ch_C g A R) (d + 2) mX3_hoursOfBest [.inr (.inr 20), .inl a1] w K :=
  e_X3_hoursOfBest hC (L_X3_hoursOfBest hC h1 hv a1.toNat 0 1 (by omega) (by omega) (by omega) h)
theorem dX11_plan_0 : decode cX11_plan 0 = .ok (.iload_n 1, 1) := dk_27 (by decide +kernel)
theorem dX11_plan_1 : decode cX11_plan 1 = .ok (.iconst 0, 1) := dk_3 (by decide +kernel)
theorem dX11_plan_2 : decode cX11_plan 2 = .ok (.sipush 400, 3) := dk_17 1 144 (by decide +kernel)
theorem dX11_plan_5 : decode cX11_plan 5 = .ok (.invokestatic 82, 3) := dk_184 0 82 (by decide +kernel)
theorem dX11_plan_8 : decode cX11_plan 8 = .ok (.ifCond .eq 12, 3) := dk_153 0 12 (by decide +kernel)
theorem dX11_plan_11 : decode cX11_plan 11 = .ok (.iload_n 2, 1) := dk_28 (by decide +kernel)
theorem dX11_plan_12 : decode cX11_plan 12 = .ok (.iconst 0, 1) := dk_3 (by decide +kernel)
theorem dX11_plan_13 : decode cX11_plan 13 = .ok (.iconst 2, 1) := dk_5 (by decide +kernel)
theorem dX11_plan_14 : decode cX11_plan 14 = .ok (.invokestatic 82, 3) := dk_184 0 82 (by decide +kernel)
theorem dX11_plan_17 : decode cX11_plan 17 = .ok (.ifCond .ne 5, 3) := dk_154 0 5 (by decide +kernel)
theorem dX11_plan_20 : decode cX11_plan 20 = .ok (.iconst (-1), 1) := dk_2 (by decide +kernel)
theorem dX11_plan_21 : decode cX11_plan 21 = .ok (.ireturn, 1) := dk_172 (by decide +kernel)
theorem dX11_plan_22 : decode cX11_plan 22 = .ok (.aload_n 0, 1) := dk_42 (by decide +kernel)
theorem dX11_plan_23 : decode cX11_plan 23 = .ok (.getfield 14, 3) := dk_180 0 14 (by decide +kernel)
theorem dX11_plan_26 : decode cX11_plan 26 = .ok (.getfield 310, 3) := dk_180 1 54 (by decide +kernel)
theorem dX11_plan_29 : decode cX11_plan 29 = .ok (.astore_n 3, 1) := dk_78 (by decide +kernel)
theorem dX11_plan_30 : decode cX11_plan 30 = .ok (.aload_n 3, 1) := dk_45 (by decide +kernel)
theorem dX11_plan_31 : decode cX11_plan 31 = .ok (.iload_n 1, 1) := dk_27 (by decide +kernel)
theorem dX11_plan_32 : decode cX11_plan 32 = .ok (.invokevirtual 329, 3) := dk_182 1 73 (by decide +kernel)
theorem dX11_plan_35 : decode cX11_plan 35 = .ok (.aload_n 3, 1) := dk_45 (by decide +kernel)
theorem dX11_plan_36 : decode cX11_plan 36 = .ok (.iload_n 1, 1) := dk_27 (by decide +kernel)
theorem dX11_plan_37 : decode cX11_plan 37 = .ok (.invokevirtual 332, 3) := dk_182 1 76 (by decide +kernel)
theorem dX11_plan_40 : decode cX11_plan 40 = .ok (.istore 4, 2) := dk_54 (by decide +kernel)
theorem dX11_plan_42 : decode cX11_plan 42 = .ok (.iload_n 2, 1) := dk_28 (by decide +kernel)
theorem dX11_plan_43 : decode cX11_plan 43 = .ok (.iconst 2, 1) := dk_5 (by decide +kernel)
theorem dX11_plan_44 : decode cX11_plan 44 = .ok (.if_icmp .ne 6, 3) := dk_160 0 6 (by decide +kernel)
theorem dX11_plan_47 : decode cX11_plan 47 = .ok (.iload 4, 2) := dk_21 (by decide +kernel)
theorem dX11_plan_49 : decode cX11_plan 49 = .ok (.ireturn, 1) := dk_172 (by decide +kernel)
theorem dX11_plan_50 : decode cX11_plan 50 = .ok (.iload_n 2, 1) := dk_28 (by decide +kernel)
theorem dX11_plan_51 : decode cX11_plan 51 = .ok (.iconst 1, 1) := dk_4 (by decide +kernel)
theorem dX11_plan_52 : decode cX11_plan 52 = .ok (.if_icmp .ne 12, 3) := dk_160 0 12 (by decide +kernel)
theorem dX11_plan_55 : decode cX11_plan 55 = .ok (.aload_n 3, 1) := dk_45 (by decide +kernel)
theorem dX11_plan_56 : decode cX11_plan 56 = .ok (.iload 4, 2) := dk_21 (by decide +kernel)
theorem dX11_plan_58 : decode cX11_plan 58 = .ok (.invokevirtual 335, 3) := dk_182 1 79 (by decide +kernel)
theorem dX11_plan_61 : decode cX11_plan 61 = .ok (.goto 9, 3) := dk_167 0 9 (by decide +kernel)
theorem dX11_plan_64 : decode cX11_plan 64 = .ok (.aload_n 3, 1) := dk_45 (by decide +kernel)
theorem dX11_plan_65 : decode cX11_plan 65 = .ok (.iload 4, 2) := dk_21 (by decide +kernel)
theorem dX11_plan_67 : decode cX11_plan 67 = .ok (.invokevirtual 338, 3) := dk_182 1 82 (by decide +kernel)
theorem dX11_plan_70 : decode cX11_plan 70 = .ok (.ireturn, 1) := dk_172 (by decide +kernel)
set_option maxRecDepth 8000 in
theorem e_X11_plan {g : ch_G} {A R : Nat} (hC : ck_Cx g A R) {d : Nat} {K : Option ck_V → ck_W → Prop} {w : ck_W} {a1 a2 : Int} (h : (0 ≤ a1 ∧ a1 ≤ 400 → (0 ≤ a2 ∧ a2 ≤ 2 → ck_CN (ch_C g A R) d mX3_fill [.inr (.inr 20), .inl a1] w (fun w1 => ck_CI (ch_C g A R) d mX3_hoursOfBest [.inr (.inr 20), .inl a1] w1 (fun v3 w2 => (¬ a2 = 2 → (¬ a2 = 1 → ck_CI (ch_C g A R) d mX3_setAt [.inr (.inr 20), .inl v3] w2 (fun v7 w6 => K (some (.inl v7)) w6)) ∧ (a2 = 1 → ck_CI (ch_C g A R) d mX3_worthAt [.inr (.inr 20), .inl v3] w2 (fun v11 w10 => K (some (.inl v11)) w10))) ∧ (a2 = 2 → K (some (.inl v3)) w2)))) ∧ (¬ (0 ≤ a2 ∧ a2 ≤ 2) → K (some (.inl (-1))) w)) ∧ (¬ (0 ≤ a1 ∧ a1 ≤ 400) → K (some (.inl (-1))) w)) : ck_Ex (ch_C g A R) (d + 1) mX11_plan [.inr (.inr 0), .inl a1, .inl a2] w K :=
  ck_entry hC.1 [some (.inr (.inr 0)), some (.inl a1), some (.inl a2), none, none] (by decide) (Nat.le_of_ble_eq_true rfl) rfl (fun q => q) (ck_in (fun hl => (ck_iload_n 1 rfl 1 dX11_plan_0 rfl rfl (ck_iconst 2 rfl dX11_plan_1 rfl (ck_sipush 5 rfl dX11_plan_2 rfl (have h24 := h; ck_callS 8 rfl [.inl a1, .inl 0, .inl 400] [] dX11_plan_5 cs_X11_82 rfl rfl (Nat.le_of_ble_eq_true rfl) (And.intro hl.2.1 (And.intro (show ck_i 0 by decide) (And.intro (show ck_i 400 by decide) True.intro))) (p_X11_within hC (fun c22 _ => (ck_if_eq 11 rfl 20 dX11_plan_8 rfl (by decide) (fun q => absurd q (by decide)) (fun _ => (ck_iload_n 12 rfl 2 dX11_plan_11 rfl rfl (ck_iconst 13 rfl dX11_plan_12 rfl (ck_iconst 14 rfl dX11_plan_13 rfl (have h21 := (h24.1 c22); ck_callS 17 rfl [.inl a2, .inl 0, .inl 2] [] dX11_plan_14 cs_X11_82 rfl rfl (Nat.le_of_ble_eq_true rfl) (And.intro hl.2.2.1 (And.intro (show ck_i 0 by decide) (And.intro (show ck_i 2 by decide) True.intro))) (p_X11_within hC (fun c19 _ => (ck_if_ne 20 rfl 22 dX11_plan_17 rfl (by decide) (fun _ => (ck_aload_n 23 rfl 0 dX11_plan_22 rfl rfl (ck_getr 26 rfl dX11_plan_23 fl_X11_14 sh_0 rfl (ck_getr 29 rfl dX11_plan_26 fl_X11_310 sh_1 rfl (ck_astore_n 30 rfl 3 [some (.inr (.inr 0)), some (.inl a1), some (.inl a2), some (.inr (.inr 20)), none] dX11_plan_29 rfl (Nat.le_of_ble_eq_true rfl) rfl rfl (ck_aload_n 31 rfl 3 dX11_plan_30 rfl rfl (ck_iload_n 32 rfl 1 dX11_plan_31 rfl rfl (ck_callV 35 rfl [.inl a1] [] dX11_plan_32 cv_X11_329 sh_20 rfl rfl (Nat.le_of_ble_eq_true rfl) (And.intro hl.2.1 True.intro) (ck_mN (h21.1 c19) (fun w1 h18 => (ck_aload_n 36 rfl 3 dX11_plan_35 rfl rfl (ck_iload_n 37 rfl 1 dX11_plan_36 rfl rfl (ck_callV 40 rfl [.inl a1] [] dX11_plan_37 cv_X11_332 sh_20 rfl rfl (Nat.le_of_ble_eq_true rfl) (And.intro hl.2.1 True.intro) (ck_mI h18 (fun v3 w2 q4 h5 => (ck_istore 42 rfl [some (.inr (.inr 0)), some (.inl a1), some (.inl a2), some (.inr (.inr 20)), some (.inl v3)] dX11_plan_40 (Nat.le_of_ble_eq_true rfl) rfl rfl q4 (ck_iload_n 43 rfl 2 dX11_plan_42 rfl rfl (ck_iconst 44 rfl dX11_plan_43 rfl (ck_icmp_ne 47 rfl 50 dX11_plan_44 rfl hl.2.2.1 (show ck_i 2 by decide) (fun c16 => (ck_iload_n 51 rfl 2 dX11_plan_50 rfl rfl (ck_iconst 52 rfl dX11_plan_51 rfl (have h25 := (h5.1 c16); (ck_icmp_ne 55 rfl 64 dX11_plan_52 rfl hl.2.2.1 (show ck_i 1 by decide) (fun c14 => (ck_aload_n 65 rfl 3 dX11_plan_64 rfl rfl (ck_iload 67 rfl dX11_plan_65 rfl (ck_callV 70 rfl [.inl v3] [] dX11_plan_67 cv_X11_338 sh_20 rfl rfl (Nat.le_of_ble_eq_true rfl) (And.intro q4 True.intro) (ck_mI (h25.1 c14) (fun v7 w6 q8 h9 => (ck_iret dX11_plan_70 rfl q8 h9))))))) (fun c15 => (ck_aload_n 56 rfl 3 dX11_plan_55 rfl rfl (ck_iload 58 rfl dX11_plan_56 rfl (ck_callV 61 rfl [.inl v3] [] dX11_plan_58 cv_X11_335 sh_20 rfl rfl (Nat.le_of_ble_eq_true rfl) (And.intro q4 True.intro) (ck_mI (h25.2 c15) (fun v11 w10 q12 h13 => (ck_goto 70 dX11_plan_61 rfl (ck_iret dX11_plan_70 rfl q12 h13))))))))))))) (fun c17 => (ck_iload 49 rfl dX11_plan_47 rfl (ck_iret dX11_plan_49 rfl q4 (h5.2 c17))))))))))))))))))))))) (fun q => absurd q (by decide)))) (fun c20 _ => (ck_if_ne 20 rfl 22 dX11_plan_17 rfl (by decide) (fun q => absurd q (by decide)) (fun _ => (ck_iconst 21 rfl dX11_plan_20 rfl (ck_iret dX11_plan_21 rfl (show ck_i (-1) by decide) (h21.2 c20)))))))))))))) (fun c23 _ => (ck_if_eq 11 rfl 20 dX11_plan_8 rfl (by decide) (fun _ => (ck_iconst 21 rfl dX11_plan_20 rfl (ck_iret dX11_plan_21 rfl (show ck_i (-1) by decide) (h24.2 c23)))) (fun q => absurd q (by decide)))))))))))
theorem C_plan {g : ch_G} {A R : Nat} (hC : ck_Cx g A R) {d : Nat} {K : Option ck_V → ck_W → Prop} {w : ck_W} {a1 a2 : Int} (hP : cs_P w) (h1 : ∀ v w', (∀ k, k ≠ 25 → k ≠ 26 → w' k = w k) → K (some (.inl v)) w') : ck_Ex (ch_C g A R) (d + 3) mX11_plan [.inr (.inr 0), .inl a1, .inl a2] w K := by
  have no : K (some (.inl (-1))) w := h1 _ w (fun _ _ _ => rfl)
  refine e_X11_plan hC ⟨fun q1 => ⟨fun q2 => S_X3_fill hC hP q1 (fun w' k1 k2 => ⟨rfl, S_X3_hoursOfBest hC q1 k2 ⟨_, rfl, fun _ => ?_⟩⟩), fun _ => no⟩, fun _ => no⟩
  have b := cs_hbb (w' 25) a1.toNat 1 0 (by omega) (by omega)
  exact ⟨fun _ => ⟨fun _ => p_X3_setAt hC (m := a1) (by omega) q1.2 k2 ⟨_, rfl, fun _ => h1 _ _ k1⟩, fun _ => p_X3_worthAt hC (m := a1) (by omega) q1.2 k2 ⟨_, rfl, fun _ => h1 _ _ k1⟩⟩, fun _ => h1 _ _ k1⟩
