/-! ===== the reference: marks, the best way, a slice wound ===== -/
/-- the tables of a slice stand, whatever is marked -/
def rm_ft (R : Nat) (z n : Int) (w : ck_W) : Prop := ∀ p r c, 0 ≤ p → p < n → 0 ≤ r → r < (R : Int) → 0 ≤ c → c < w 76 2 → rm_en w z n p r c
theorem rm_I_c {A R : Nat} {w w' : ck_W} (h : rm_I A R w) (e76 : w' 76 = w 76) (e77 : w' 77 = w 77) (e78 : w' 78 = w 78) (e79 : w' 79 = w 79) : rm_I A R w' := by
  obtain ⟨a, b, c, e, f, g, k, l, m⟩ := h
  exact ⟨by rw [e76]; exact a, by rw [e76]; exact b, by rw [e76]; exact c, by rw [e77]; exact e, by rw [e78]; exact f, by rw [e77, e78]; exact g, by rw [e76]; exact k, by rw [e76]; exact l, by rw [e77, e79]; exact m⟩
theorem rm_ft_c {A R : Nat} {gg : ch_G} (hC : ck_Cx gg A R) {w w' : ck_W} (hI : rm_I A R w) {z n : Int} (h : rm_ft R z n w) (e76 : w' 76 = w 76) (e77 : w' 77 = w 77) (e87 : w' 87 = w 87) (e80 : w' 80 = w 80) (e81 : w' 81 = w 81) : rm_ft R z n w' := by
  intro p r c a1 a2 a3 a4 a5 a6
  rw [e76] at a6
  have o := h p r c a1 a2 a3 a4 a5 a6
  unfold rm_en at o ⊢
  rw [e80, e81, rm_ws_cg hC hI e76 e77 e87 (fun _ r c _ _ _ _ => by rw [e80, e81]; exact ⟨rfl, rfl⟩) a2 a5]
  exact o
theorem rm_ft_f {R : Nat} {w : ck_W} {z n p : Int} (h : rm_ft R z n w) (h0 : 0 ≤ p) (h1 : p < n) (hn : n ≤ 24) : ∀ r c, 0 ≤ r → r < (R : Int) → 0 ≤ c → c < w 76 2 → w 80 (rm_x p r c) ≤ 1000 := fun r c a b e f => by
  have := (h p r c h0 h1 a b e f).2.1
  omega
theorem dX12_markBest_0 : decode cX12_markBest 0 = .ok (.iconst 0, 1) := dk_3 (by decide +kernel)
theorem dX12_markBest_1 : decode cX12_markBest 1 = .ok (.istore_n 3, 1) := dk_62 (by decide +kernel)
theorem dX12_markBest_2 : decode cX12_markBest 2 = .ok (.iload_n 3, 1) := dk_29 (by decide +kernel)
theorem dX12_markBest_3 : decode cX12_markBest 3 = .ok (.iload_n 2, 1) := dk_28 (by decide +kernel)
theorem dX12_markBest_4 : decode cX12_markBest 4 = .ok (.if_icmp .ge 148, 3) := dk_162 0 148 (by decide +kernel)
theorem dX12_markBest_7 : decode cX12_markBest 7 = .ok (.iconst 0, 1) := dk_3 (by decide +kernel)
theorem dX12_markBest_8 : decode cX12_markBest 8 = .ok (.istore 4, 2) := dk_54 (by decide +kernel)
theorem dX12_markBest_10 : decode cX12_markBest 10 = .ok (.iload 4, 2) := dk_21 (by decide +kernel)
theorem dX12_markBest_12 : decode cX12_markBest 12 = .ok (.aload_n 0, 1) := dk_42 (by decide +kernel)
theorem dX12_markBest_13 : decode cX12_markBest 13 = .ok (.getfield 83, 3) := dk_180 0 83 (by decide +kernel)
theorem dX12_markBest_16 : decode cX12_markBest 16 = .ok (.if_icmp .ge 130, 3) := dk_162 0 130 (by decide +kernel)
theorem dX12_markBest_19 : decode cX12_markBest 19 = .ok (.iconst 0, 1) := dk_3 (by decide +kernel)
theorem dX12_markBest_20 : decode cX12_markBest 20 = .ok (.istore 5, 2) := dk_54 (by decide +kernel)
theorem dX12_markBest_22 : decode cX12_markBest 22 = .ok (.iload 5, 2) := dk_21 (by decide +kernel)
theorem dX12_markBest_24 : decode cX12_markBest 24 = .ok (.aload_n 0, 1) := dk_42 (by decide +kernel)
theorem dX12_markBest_25 : decode cX12_markBest 25 = .ok (.getfield 86, 3) := dk_180 0 86 (by decide +kernel)
theorem dX12_markBest_28 : decode cX12_markBest 28 = .ok (.if_icmp .ge 112, 3) := dk_162 0 112 (by decide +kernel)
theorem dX12_markBest_31 : decode cX12_markBest 31 = .ok (.iload_n 3, 1) := dk_29 (by decide +kernel)
theorem dX12_markBest_32 : decode cX12_markBest 32 = .ok (.iload 4, 2) := dk_21 (by decide +kernel)
theorem dX12_markBest_34 : decode cX12_markBest 34 = .ok (.iload 5, 2) := dk_21 (by decide +kernel)
theorem dX12_markBest_36 : decode cX12_markBest 36 = .ok (.invokestatic 120, 3) := dk_184 0 120 (by decide +kernel)
theorem dX12_markBest_39 : decode cX12_markBest 39 = .ok (.istore 6, 2) := dk_54 (by decide +kernel)
theorem dX12_markBest_41 : decode cX12_markBest 41 = .ok (.aload_n 0, 1) := dk_42 (by decide +kernel)
theorem dX12_markBest_42 : decode cX12_markBest 42 = .ok (.getfield 26, 3) := dk_180 0 26 (by decide +kernel)
theorem dX12_markBest_45 : decode cX12_markBest 45 = .ok (.iload 6, 2) := dk_21 (by decide +kernel)
theorem dX12_markBest_47 : decode cX12_markBest 47 = .ok (.baload, 1) := dk_51 (by decide +kernel)
theorem dX12_markBest_48 : decode cX12_markBest 48 = .ok (.ifCond .ne 6, 3) := dk_154 0 6 (by decide +kernel)
theorem dX12_markBest_51 : decode cX12_markBest 51 = .ok (.goto 83, 3) := dk_167 0 83 (by decide +kernel)
theorem dX12_markBest_54 : decode cX12_markBest 54 = .ok (.aload_n 0, 1) := dk_42 (by decide +kernel)
theorem dX12_markBest_55 : decode cX12_markBest 55 = .ok (.getfield 39, 3) := dk_180 0 39 (by decide +kernel)
theorem dX12_markBest_58 : decode cX12_markBest 58 = .ok (.bipush 24, 2) := dk_16 24 (by decide +kernel)
theorem dX12_markBest_60 : decode cX12_markBest 60 = .ok (.iload_n 1, 1) := dk_27 (by decide +kernel)
theorem dX12_markBest_61 : decode cX12_markBest 61 = .ok (.imul, 1) := dk_104 (by decide +kernel)
theorem dX12_markBest_62 : decode cX12_markBest 62 = .ok (.iload_n 3, 1) := dk_29 (by decide +kernel)
theorem dX12_markBest_63 : decode cX12_markBest 63 = .ok (.iadd, 1) := dk_96 (by decide +kernel)
theorem dX12_markBest_64 : decode cX12_markBest 64 = .ok (.dup2, 1) := dk_92 (by decide +kernel)
theorem dX12_markBest_65 : decode cX12_markBest 65 = .ok (.iaload, 1) := dk_46 (by decide +kernel)
theorem dX12_markBest_66 : decode cX12_markBest 66 = .ok (.iconst 1, 1) := dk_4 (by decide +kernel)
theorem dX12_markBest_67 : decode cX12_markBest 67 = .ok (.iload 4, 2) := dk_21 (by decide +kernel)
theorem dX12_markBest_69 : decode cX12_markBest 69 = .ok (.ishl, 1) := dk_120 (by decide +kernel)
theorem dX12_markBest_70 : decode cX12_markBest 70 = .ok (.ior, 1) := dk_128 (by decide +kernel)
theorem dX12_markBest_71 : decode cX12_markBest 71 = .ok (.iastore, 1) := dk_79 (by decide +kernel)
theorem dX12_markBest_72 : decode cX12_markBest 72 = .ok (.iconst (-1), 1) := dk_2 (by decide +kernel)
theorem dX12_markBest_73 : decode cX12_markBest 73 = .ok (.istore 7, 2) := dk_54 (by decide +kernel)
theorem dX12_markBest_75 : decode cX12_markBest 75 = .ok (.iload 7, 2) := dk_21 (by decide +kernel)
theorem dX12_markBest_77 : decode cX12_markBest 77 = .ok (.iconst 1, 1) := dk_4 (by decide +kernel)
theorem dX12_markBest_78 : decode cX12_markBest 78 = .ok (.if_icmp .gt 56, 3) := dk_163 0 56 (by decide +kernel)
theorem dX12_markBest_81 : decode cX12_markBest 81 = .ok (.iload_n 3, 1) := dk_29 (by decide +kernel)
theorem dX12_markBest_82 : decode cX12_markBest 82 = .ok (.iconst 1, 1) := dk_4 (by decide +kernel)
theorem dX12_markBest_83 : decode cX12_markBest 83 = .ok (.iadd, 1) := dk_96 (by decide +kernel)
theorem dX12_markBest_84 : decode cX12_markBest 84 = .ok (.iload_n 2, 1) := dk_28 (by decide +kernel)
theorem dX12_markBest_85 : decode cX12_markBest 85 = .ok (.if_icmp .ge 49, 3) := dk_162 0 49 (by decide +kernel)
theorem dX12_markBest_88 : decode cX12_markBest 88 = .ok (.aload_n 0, 1) := dk_42 (by decide +kernel)
theorem dX12_markBest_89 : decode cX12_markBest 89 = .ok (.iload_n 1, 1) := dk_27 (by decide +kernel)
theorem dX12_markBest_90 : decode cX12_markBest 90 = .ok (.iload_n 3, 1) := dk_29 (by decide +kernel)
theorem dX12_markBest_91 : decode cX12_markBest 91 = .ok (.iload 4, 2) := dk_21 (by decide +kernel)
theorem dX12_markBest_93 : decode cX12_markBest 93 = .ok (.iload 5, 2) := dk_21 (by decide +kernel)
theorem dX12_markBest_95 : decode cX12_markBest 95 = .ok (.iload 7, 2) := dk_21 (by decide +kernel)
theorem dX12_markBest_97 : decode cX12_markBest 97 = .ok (.invokevirtual 150, 3) := dk_182 0 150 (by decide +kernel)
theorem dX12_markBest_100 : decode cX12_markBest 100 = .ok (.ifCond .eq 28, 3) := dk_153 0 28 (by decide +kernel)
theorem dX12_markBest_103 : decode cX12_markBest 103 = .ok (.aload_n 0, 1) := dk_42 (by decide +kernel)
theorem dX12_markBest_104 : decode cX12_markBest 104 = .ok (.getfield 26, 3) := dk_180 0 26 (by decide +kernel)
theorem dX12_markBest_107 : decode cX12_markBest 107 = .ok (.iload_n 3, 1) := dk_29 (by decide +kernel)
theorem dX12_markBest_108 : decode cX12_markBest 108 = .ok (.iconst 1, 1) := dk_4 (by decide +kernel)
theorem dX12_markBest_109 : decode cX12_markBest 109 = .ok (.iadd, 1) := dk_96 (by decide +kernel)
theorem dX12_markBest_110 : decode cX12_markBest 110 = .ok (.iload 4, 2) := dk_21 (by decide +kernel)
theorem dX12_markBest_112 : decode cX12_markBest 112 = .ok (.iload 7, 2) := dk_21 (by decide +kernel)
theorem dX12_markBest_114 : decode cX12_markBest 114 = .ok (.iadd, 1) := dk_96 (by decide +kernel)
theorem dX12_markBest_115 : decode cX12_markBest 115 = .ok (.aload_n 0, 1) := dk_42 (by decide +kernel)
theorem dX12_markBest_116 : decode cX12_markBest 116 = .ok (.iload 5, 2) := dk_21 (by decide +kernel)
theorem dX12_markBest_118 : decode cX12_markBest 118 = .ok (.iload 7, 2) := dk_21 (by decide +kernel)
theorem dX12_markBest_120 : decode cX12_markBest 120 = .ok (.invokevirtual 127, 3) := dk_182 0 127 (by decide +kernel)
theorem dX12_markBest_123 : decode cX12_markBest 123 = .ok (.invokestatic 120, 3) := dk_184 0 120 (by decide +kernel)
theorem dX12_markBest_126 : decode cX12_markBest 126 = .ok (.iconst 1, 1) := dk_4 (by decide +kernel)
theorem dX12_markBest_127 : decode cX12_markBest 127 = .ok (.bastore, 1) := dk_84 (by decide +kernel)
theorem dX12_markBest_128 : decode cX12_markBest 128 = .ok (.iinc 7 1, 3) := dk_132 1 (by decide +kernel)
theorem dX12_markBest_131 : decode cX12_markBest 131 = .ok (.goto (-56), 3) := dk_167 255 200 (by decide +kernel)
theorem dX12_markBest_134 : decode cX12_markBest 134 = .ok (.iinc 5 1, 3) := dk_132 1 (by decide +kernel)
theorem dX12_markBest_137 : decode cX12_markBest 137 = .ok (.goto (-115), 3) := dk_167 255 141 (by decide +kernel)
theorem dX12_markBest_140 : decode cX12_markBest 140 = .ok (.iinc 4 1, 3) := dk_132 1 (by decide +kernel)
theorem dX12_markBest_143 : decode cX12_markBest 143 = .ok (.goto (-133), 3) := dk_167 255 123 (by decide +kernel)
theorem dX12_markBest_146 : decode cX12_markBest 146 = .ok (.iinc 3 1, 3) := dk_132 1 (by decide +kernel)
theorem dX12_markBest_149 : decode cX12_markBest 149 = .ok (.goto (-147), 3) := dk_167 255 109 (by decide +kernel)
theorem dX12_markBest_152 : decode cX12_markBest 152 = .ok (.return_, 1) := dk_177 (by decide +kernel)
set_option maxRecDepth 8000 in
theorem e_X12_markBest {g : ch_G} {A R : Nat} (hC : ck_Cx g A R) {d : Nat} {K : Option ck_V → ck_W → Prop} {w : ck_W} {a1 a2 : Int} (h : ck_At (ch_C g A R) (d + 1) mX12_markBest K 2 [some (.inr (.inr 76)), some (.inl a1), some (.inl a2), some (.inl 0), none, none, none, none] [] w) : ck_Ex (ch_C g A R) (d + 1) mX12_markBest [.inr (.inr 76), .inl a1, .inl a2] w K :=
  ck_entry hC.1 [some (.inr (.inr 76)), some (.inl a1), some (.inl a2), none, none, none, none, none] (by decide) (Nat.le_of_ble_eq_true rfl) rfl (fun q => q) (ck_in (fun hl => (ck_iconst 1 rfl dX12_markBest_0 rfl (ck_istore_n 2 rfl 3 [some (.inr (.inr 76)), some (.inl a1), some (.inl a2), some (.inl 0), none, none, none, none] dX12_markBest_1 rfl (Nat.le_of_ble_eq_true rfl) rfl rfl (show ck_i 0 by decide) h))))
set_option maxRecDepth 8000 in
theorem r_X12_markBest_2 {g : ch_G} {A R : Nat} (hC : ck_Cx g A R) {d : Nat} {K : Option ck_V → ck_W → Prop} {w : ck_W} {a1 a2 a3 : Int} (h : (a2 ≤ a3 → K none w) ∧ (¬ a2 ≤ a3 → ck_At (ch_C g A R) (d + 1) mX12_markBest K 10 [some (.inr (.inr 76)), some (.inl a1), some (.inl a2), some (.inl a3), some (.inl 0), none, none, none] [] w)) : ck_At (ch_C g A R) (d + 1) mX12_markBest K 2 [some (.inr (.inr 76)), some (.inl a1), some (.inl a2), some (.inl a3), none, none, none, none] [] w :=
  ck_in (fun hl => (ck_iload_n 3 rfl 3 dX12_markBest_2 rfl rfl (ck_iload_n 4 rfl 2 dX12_markBest_3 rfl rfl (ck_icmp_ge 7 rfl 152 dX12_markBest_4 rfl hl.2.2.2.1 hl.2.2.1 (fun c1 => (ck_vret dX12_markBest_152 rfl (h.1 c1))) (fun c2 => (ck_iconst 8 rfl dX12_markBest_7 rfl (ck_istore 10 rfl [some (.inr (.inr 76)), some (.inl a1), some (.inl a2), some (.inl a3), some (.inl 0), none, none, none] dX12_markBest_8 (Nat.le_of_ble_eq_true rfl) rfl rfl (show ck_i 0 by decide) (h.2 c2))))))))
set_option maxRecDepth 8000 in
theorem r_X12_markBest_10 {g : ch_G} {A R : Nat} (hC : ck_Cx g A R) {d : Nat} {K : Option ck_V → ck_W → Prop} {w : ck_W} {a1 a2 a3 a4 : Int} (h : ((w 76 1) ≤ a4 → ck_i (a3 + 1) ∧ (ck_At (ch_C g A R) (d + 1) mX12_markBest K 2 [some (.inr (.inr 76)), some (.inl a1), some (.inl a2), some (.inl (a3 + 1)), none, none, none, none] [] w)) ∧ (¬ (w 76 1) ≤ a4 → ck_At (ch_C g A R) (d + 1) mX12_markBest K 22 [some (.inr (.inr 76)), some (.inl a1), some (.inl a2), some (.inl a3), some (.inl a4), some (.inl 0), none, none] [] w)) : ck_At (ch_C g A R) (d + 1) mX12_markBest K 10 [some (.inr (.inr 76)), some (.inl a1), some (.inl a2), some (.inl a3), some (.inl a4), none, none, none] [] w :=
  ck_in (fun hl => (ck_iload 12 rfl dX12_markBest_10 rfl (ck_aload_n 13 rfl 0 dX12_markBest_12 rfl rfl (ck_geti 16 rfl 1 dX12_markBest_13 fl_X12_83 sh_76 rfl rfl _ rfl (fun (q1 : ck_i (w 76 1)) => (ck_icmp_ge 19 rfl 146 dX12_markBest_16 rfl hl.2.2.2.2.1 q1 (fun c3 => (have h6 := (h.1 c3); have o2 := h6.1; have h5 := h6.2; (ck_iinc 149 rfl [some (.inr (.inr 76)), some (.inl a1), some (.inl a2), some (.inl (a3 + 1)), some (.inl a4), none, none, none] dX12_markBest_146 rfl (Nat.le_of_ble_eq_true rfl) rfl rfl o2 (ck_goto 2 dX12_markBest_149 rfl (ck_drop [some (.inr (.inr 76)), some (.inl a1), some (.inl a2), some (.inl (a3 + 1)), none, none, none, none] (And.intro rfl (And.intro rfl (And.intro rfl (And.intro rfl True.intro)))) h5))))) (fun c4 => (ck_iconst 20 rfl dX12_markBest_19 rfl (ck_istore 22 rfl [some (.inr (.inr 76)), some (.inl a1), some (.inl a2), some (.inl a3), some (.inl a4), some (.inl 0), none, none] dX12_markBest_20 (Nat.le_of_ble_eq_true rfl) rfl rfl (show ck_i 0 by decide) (h.2 c4))))))))))
set_option maxRecDepth 8000 in
theorem r_X12_markBest_22 {g : ch_G} {A R : Nat} (hC : ck_Cx g A R) {d : Nat} {K : Option ck_V → ck_W → Prop} {w : ck_W} {a1 a2 a3 a4 a5 : Int} (h : ((w 76 2) ≤ a5 → ck_i (a4 + 1) ∧ (ck_At (ch_C g A R) (d + 1) mX12_markBest K 10 [some (.inr (.inr 76)), some (.inl a1), some (.inl a2), some (.inl a3), some (.inl (a4 + 1)), none, none, none] [] w)) ∧ (¬ (w 76 2) ≤ a5 → (ck_i ((12 * a3 + a4) * 243 + a5)) ∧ (∀ x5, x5 = (12 * a3 + a4) * 243 + a5 → (0 ≤ x5 ∧ x5 < 70000) ∧ ((¬ (w 82 x5) = 0 → (0 ≤ ((24 * a1) + a3) ∧ ((24 * a1) + a3) < 144) ∧ (ck_At (ch_C g A R) (d + 1) mX12_markBest K 75 [some (.inr (.inr 76)), some (.inl a1), some (.inl a2), some (.inl a3), some (.inl a4), some (.inl a5), none, some (.inl (-1))] [] (ck_up w 86 ((24 * a1) + a3) (ck_or (w 86 ((24 * a1) + a3)) (ck_shl 1 a4))))) ∧ ((w 82 x5) = 0 → ck_i (a5 + 1) ∧ (ck_At (ch_C g A R) (d + 1) mX12_markBest K 22 [some (.inr (.inr 76)), some (.inl a1), some (.inl a2), some (.inl a3), some (.inl a4), some (.inl (a5 + 1)), none, none] [] w)))))) : ck_At (ch_C g A R) (d + 1) mX12_markBest K 22 [some (.inr (.inr 76)), some (.inl a1), some (.inl a2), some (.inl a3), some (.inl a4), some (.inl a5), none, none] [] w :=
  ck_in (fun hl => (ck_iload 24 rfl dX12_markBest_22 rfl (ck_aload_n 25 rfl 0 dX12_markBest_24 rfl rfl (ck_geti 28 rfl 2 dX12_markBest_25 fl_X12_86 sh_76 rfl rfl _ rfl (fun (q1 : ck_i (w 76 2)) => (ck_icmp_ge 31 rfl 140 dX12_markBest_28 rfl hl.2.2.2.2.2.1 q1 (fun c14 => (have h17 := (h.1 c14); have o2 := h17.1; have h16 := h17.2; (ck_iinc 143 rfl [some (.inr (.inr 76)), some (.inl a1), some (.inl a2), some (.inl a3), some (.inl (a4 + 1)), some (.inl a5), none, none] dX12_markBest_140 rfl (Nat.le_of_ble_eq_true rfl) rfl rfl o2 (ck_goto 10 dX12_markBest_143 rfl (ck_drop [some (.inr (.inr 76)), some (.inl a1), some (.inl a2), some (.inl a3), some (.inl (a4 + 1)), none, none, none] (And.intro rfl (And.intro rfl (And.intro rfl (And.intro rfl (And.intro rfl True.intro))))) h16))))) (fun c15 => (ck_iload_n 32 rfl 3 dX12_markBest_31 rfl rfl (ck_iload 34 rfl dX12_markBest_32 rfl (ck_iload 36 rfl dX12_markBest_34 rfl (have h19 := (h.2 c15); have o3 := h19.1; have h18 := h19.2; (ck_callS 39 rfl [.inl a3, .inl a4, .inl a5] [] dX12_markBest_36 cs_X12_120 rfl rfl (Nat.le_of_ble_eq_true rfl) (And.intro hl.2.2.2.1 (And.intro hl.2.2.2.2.1 (And.intro hl.2.2.2.2.2.1 True.intro))) (p_X12_state hC o3 (fun q4 => (ck_nmi (fun x5 e6 => (ck_istore 41 rfl [some (.inr (.inr 76)), some (.inl a1), some (.inl a2), some (.inl a3), some (.inl a4), some (.inl a5), some (.inl x5), none] dX12_markBest_39 (Nat.le_of_ble_eq_true rfl) rfl rfl (by rw [e6]; exact q4.1) (ck_aload_n 42 rfl 0 dX12_markBest_41 rfl rfl (ck_getr 45 rfl dX12_markBest_42 fl_X12_26 sh_76 rfl (ck_iload 47 rfl dX12_markBest_45 rfl (have h21 := (h18 x5 e6); have o7 := h21.1; have h20 := h21.2; (ck_zald 48 rfl dX12_markBest_47 sh_82 (shn_82 hC) o7 _ rfl (fun (q8 : ck_i (w 82 x5)) => (ck_if_ne 51 rfl 54 dX12_markBest_48 rfl q8 (fun c12 => (ck_aload_n 55 rfl 0 dX12_markBest_54 rfl rfl (ck_getr 58 rfl dX12_markBest_55 fl_X12_39 sh_76 rfl (ck_bipush 60 rfl dX12_markBest_58 rfl (ck_iload_n 61 rfl 1 dX12_markBest_60 rfl rfl (ck_imul 62 rfl dX12_markBest_61 (ck_iload_n 63 rfl 3 dX12_markBest_62 rfl rfl (ck_iadd 64 rfl dX12_markBest_63 (ck_dup2 65 rfl dX12_markBest_64 rfl rfl (have h23 := (h20.1 c12); have o9 := h23.1; have h22 := h23.2; (ck_iald 66 rfl dX12_markBest_65 sh_86 (shn_86 hC) o9 _ rfl (fun (q10 : ck_i (w 86 ((24 * a1) + a3))) => (ck_iconst 67 rfl dX12_markBest_66 rfl (ck_iload 69 rfl dX12_markBest_67 rfl (ck_ishl 70 rfl dX12_markBest_69 (ck_ior 71 rfl dX12_markBest_70 (ck_iast 72 rfl dX12_markBest_71 sh_86 (shn_86 hC) o9 (ck_rng _) (ck_iconst 73 rfl dX12_markBest_72 rfl (ck_istore 75 rfl [some (.inr (.inr 76)), some (.inl a1), some (.inl a2), some (.inl a3), some (.inl a4), some (.inl a5), some (.inl x5), some (.inl (-1))] dX12_markBest_73 (Nat.le_of_ble_eq_true rfl) rfl rfl (show ck_i (-1) by decide) (ck_drop [some (.inr (.inr 76)), some (.inl a1), some (.inl a2), some (.inl a3), some (.inl a4), some (.inl a5), none, some (.inl (-1))] (And.intro rfl (And.intro rfl (And.intro rfl (And.intro rfl (And.intro rfl (And.intro rfl (And.intro rfl True.intro))))))) h22)))))))))))))))))))) (fun c13 => (ck_goto 134 dX12_markBest_51 rfl (have h25 := (h20.2 c13); have o11 := h25.1; have h24 := h25.2; (ck_iinc 137 rfl [some (.inr (.inr 76)), some (.inl a1), some (.inl a2), some (.inl a3), some (.inl a4), some (.inl (a5 + 1)), some (.inl x5), none] dX12_markBest_134 rfl (Nat.le_of_ble_eq_true rfl) rfl rfl o11 (ck_goto 22 dX12_markBest_137 rfl (ck_drop [some (.inr (.inr 76)), some (.inl a1), some (.inl a2), some (.inl a3), some (.inl a4), some (.inl (a5 + 1)), none, none] (And.intro rfl (And.intro rfl (And.intro rfl (And.intro rfl (And.intro rfl (And.intro rfl True.intro)))))) h24))))))))))))))))))))))))))))))
set_option maxRecDepth 8000 in
theorem r_X12_markBest_75 {g : ch_G} {A R : Nat} (hC : ck_Cx g A R) {d : Nat} {K : Option ck_V → ck_W → Prop} {w : ck_W} {a1 a2 a3 a4 a5 a7 : Int} (h : (1 < a7 → ck_i (a5 + 1) ∧ (ck_At (ch_C g A R) (d + 1) mX12_markBest K 22 [some (.inr (.inr 76)), some (.inl a1), some (.inl a2), some (.inl a3), some (.inl a4), some (.inl (a5 + 1)), none, none] [] w)) ∧ (¬ 1 < a7 → ck_i (a3 + 1) ∧ ((a2 ≤ (a3 + 1) → ck_i (a5 + 1) ∧ (ck_At (ch_C g A R) (d + 1) mX12_markBest K 22 [some (.inr (.inr 76)), some (.inl a1), some (.inl a2), some (.inl a3), some (.inl a4), some (.inl (a5 + 1)), none, none] [] w)) ∧ (¬ a2 ≤ (a3 + 1) → ck_CI (ch_C g A R) d mX12_isNext [.inr (.inr 76), .inl a1, .inl a3, .inl a4, .inl a5, .inl a7] w (fun v5 w4 => (v5 = 0 → ck_i (a7 + 1) ∧ (ck_At (ch_C g A R) (d + 1) mX12_markBest K 75 [some (.inr (.inr 76)), some (.inl a1), some (.inl a2), some (.inl a3), some (.inl a4), some (.inl a5), none, some (.inl (a7 + 1))] [] w4)) ∧ (¬ v5 = 0 → (ck_i (3 * a5 + a7 + 1)) ∧ ((1 ≤ (w4 76 2)) ∧ ((ck_i ((3 * a5 + a7 + 1).tmod (w4 76 2))) ∧ (ck_i (a4 + a7) ∧ ((ck_i ((12 * (a3 + 1) + (a4 + a7)) * 243 + ((3 * a5 + a7 + 1).tmod (w4 76 2)))) ∧ ((0 ≤ ((12 * (a3 + 1) + (a4 + a7)) * 243 + ((3 * a5 + a7 + 1).tmod (w4 76 2))) ∧ ((12 * (a3 + 1) + (a4 + a7)) * 243 + ((3 * a5 + a7 + 1).tmod (w4 76 2))) < 70000) ∧ (ck_i (a7 + 1) ∧ (ck_At (ch_C g A R) (d + 1) mX12_markBest K 75 [some (.inr (.inr 76)), some (.inl a1), some (.inl a2), some (.inl a3), some (.inl a4), some (.inl a5), none, some (.inl (a7 + 1))] [] (ck_up w4 82 ((12 * (a3 + 1) + (a4 + a7)) * 243 + ((3 * a5 + a7 + 1).tmod (w4 76 2))) 1)))))))))))))) : ck_At (ch_C g A R) (d + 1) mX12_markBest K 75 [some (.inr (.inr 76)), some (.inl a1), some (.inl a2), some (.inl a3), some (.inl a4), some (.inl a5), none, some (.inl a7)] [] w :=
  ck_in (fun hl => (ck_iload 77 rfl dX12_markBest_75 rfl (ck_iconst 78 rfl dX12_markBest_77 rfl (ck_icmp_gt 81 rfl 134 dX12_markBest_78 rfl hl.2.2.2.2.2.2.1 (show ck_i 1 by decide) (fun c22 => (have h25 := (h.1 c22); have o1 := h25.1; have h24 := h25.2; (ck_iinc 137 rfl [some (.inr (.inr 76)), some (.inl a1), some (.inl a2), some (.inl a3), some (.inl a4), some (.inl (a5 + 1)), none, some (.inl a7)] dX12_markBest_134 rfl (Nat.le_of_ble_eq_true rfl) rfl rfl o1 (ck_goto 22 dX12_markBest_137 rfl (ck_drop [some (.inr (.inr 76)), some (.inl a1), some (.inl a2), some (.inl a3), some (.inl a4), some (.inl (a5 + 1)), none, none] (And.intro rfl (And.intro rfl (And.intro rfl (And.intro rfl (And.intro rfl (And.intro rfl True.intro)))))) h24))))) (fun c23 => (ck_iload_n 82 rfl 3 dX12_markBest_81 rfl rfl (ck_iconst 83 rfl dX12_markBest_82 rfl (ck_iadd 84 rfl dX12_markBest_83 (ck_iload_n 85 rfl 2 dX12_markBest_84 rfl rfl (have h27 := (h.2 c23); have o2 := h27.1; have h26 := h27.2; (ck_icmp_ge 88 rfl 134 dX12_markBest_85 rfl o2 hl.2.2.1 (fun c20 => (have h29 := (h26.1 c20); have o3 := h29.1; have h28 := h29.2; (ck_iinc 137 rfl [some (.inr (.inr 76)), some (.inl a1), some (.inl a2), some (.inl a3), some (.inl a4), some (.inl (a5 + 1)), none, some (.inl a7)] dX12_markBest_134 rfl (Nat.le_of_ble_eq_true rfl) rfl rfl o3 (ck_goto 22 dX12_markBest_137 rfl (ck_drop [some (.inr (.inr 76)), some (.inl a1), some (.inl a2), some (.inl a3), some (.inl a4), some (.inl (a5 + 1)), none, none] (And.intro rfl (And.intro rfl (And.intro rfl (And.intro rfl (And.intro rfl (And.intro rfl True.intro)))))) h28))))) (fun c21 => (ck_aload_n 89 rfl 0 dX12_markBest_88 rfl rfl (ck_iload_n 90 rfl 1 dX12_markBest_89 rfl rfl (ck_iload_n 91 rfl 3 dX12_markBest_90 rfl rfl (ck_iload 93 rfl dX12_markBest_91 rfl (ck_iload 95 rfl dX12_markBest_93 rfl (ck_iload 97 rfl dX12_markBest_95 rfl (ck_callV 100 rfl [.inl a1, .inl a3, .inl a4, .inl a5, .inl a7] [] dX12_markBest_97 cv_X12_150 sh_76 rfl rfl (Nat.le_of_ble_eq_true rfl) (And.intro hl.2.1 (And.intro hl.2.2.2.1 (And.intro hl.2.2.2.2.1 (And.intro hl.2.2.2.2.2.1 (And.intro hl.2.2.2.2.2.2.1 True.intro))))) (ck_mI (h26.2 c21) (fun v5 w4 q6 h7 => (ck_if_eq 103 rfl 128 dX12_markBest_100 rfl q6 (fun c18 => (have h31 := (h7.1 c18); have o8 := h31.1; have h30 := h31.2; (ck_iinc 131 rfl [some (.inr (.inr 76)), some (.inl a1), some (.inl a2), some (.inl a3), some (.inl a4), some (.inl a5), none, some (.inl (a7 + 1))] dX12_markBest_128 rfl (Nat.le_of_ble_eq_true rfl) rfl rfl o8 (ck_goto 75 dX12_markBest_131 rfl h30)))) (fun c19 => (ck_aload_n 104 rfl 0 dX12_markBest_103 rfl rfl (ck_getr 107 rfl dX12_markBest_104 fl_X12_26 sh_76 rfl (ck_iload_n 108 rfl 3 dX12_markBest_107 rfl rfl (ck_iconst 109 rfl dX12_markBest_108 rfl (ck_iadd 110 rfl dX12_markBest_109 (ck_iload 112 rfl dX12_markBest_110 rfl (ck_iload 114 rfl dX12_markBest_112 rfl (ck_iadd 115 rfl dX12_markBest_114 (ck_aload_n 116 rfl 0 dX12_markBest_115 rfl rfl (ck_iload 118 rfl dX12_markBest_116 rfl (ck_iload 120 rfl dX12_markBest_118 rfl (have h33 := (h7.2 c19); have o9 := h33.1; have h32 := h33.2; (have h35 := h32; have o10 := h35.1; have h34 := h35.2; (have h37 := h34; have o11 := h37.1; have h36 := h37.2; (ck_callV 123 rfl [.inl a5, .inl a7] [.inl (a4 + a7), .inl (a3 + 1), .inr (.inr 82)] dX12_markBest_120 cv_X12_127 sh_76 rfl rfl (Nat.le_of_ble_eq_true rfl) (And.intro hl.2.2.2.2.2.1 (And.intro hl.2.2.2.2.2.2.1 True.intro)) (p_X12_nextCode hC o9 o10 o11 (fun q12 => (have h39 := h36; have o13 := h39.1; have h38 := h39.2; (have h41 := h38; have o14 := h41.1; have h40 := h41.2; (ck_callS 126 rfl [.inl (a3 + 1), .inl (a4 + a7), .inl ((3 * a5 + a7 + 1).tmod (w4 76 2))] [.inr (.inr 82)] dX12_markBest_123 cs_X12_120 rfl rfl (Nat.le_of_ble_eq_true rfl) (And.intro o2 (And.intro o13 (And.intro q12.1 True.intro))) (p_X12_state hC o14 (fun q15 => (ck_iconst 127 rfl dX12_markBest_126 rfl (have h43 := h40; have o16 := h43.1; have h42 := h43.2; (ck_zast 128 rfl dX12_markBest_127 sh_82 (shn_82 hC) o16 (by decide) (have h45 := h42; have o17 := h45.1; have h44 := h45.2; (ck_iinc 131 rfl [some (.inr (.inr 76)), some (.inl a1), some (.inl a2), some (.inl a3), some (.inl a4), some (.inl a5), none, some (.inl (a7 + 1))] dX12_markBest_128 rfl (Nat.le_of_ble_eq_true rfl) rfl rfl o17 (ck_goto 75 dX12_markBest_131 rfl h44)))))))))))))))))))))))))))))))))))))))))))))))))))
theorem S_X12_markBest {g : ch_G} {A R : Nat} (hC : ck_Cx g A R) {d : Nat} {K : Option ck_V → ck_W → Prop} {w : ck_W} {a1 a2 : Int} (hI : rm_I A R w) (h1 : 0 ≤ a1 ∧ a1 ≤ 5) (h2 : a2 ≤ 24) (hf : rm_ft R a1 a2 w)
    (h : ∀ w', (∀ k, k ≠ 82 → k ≠ 86 → w' k = w k) → (∀ j, j < 12 * 243 → w' 82 j = w 82 j) → (∀ j, j < 24 * a1 ∨ 24 * a1 + 24 ≤ j → w' 86 j = w 86 j) → K none w') : ck_Ex (ch_C g A R) (d + 4) mX12_markBest [.inr (.inr 76), .inl a1, .inl a2] w K := by
  have c := rm_cp hC hI
  -- what stays
  have st : ∀ u : ck_W, (∀ k, k ≠ 82 → k ≠ 86 → u k = w k) → rm_I A R u ∧ rm_ft R a1 a2 u := fun u hu => by
    have e : ∀ k, k ≠ 82 → k ≠ 86 → u k = w k := hu
    exact ⟨rm_I_c hI (e 76 (by decide) (by decide)) (e 77 (by decide) (by decide)) (e 78 (by decide) (by decide)) (e 79 (by decide) (by decide)), rm_ft_c hC hI hf (e 76 (by decide) (by decide)) (e 77 (by decide) (by decide)) (e 87 (by decide) (by decide)) (e 80 (by decide) (by decide)) (e 81 (by decide) (by decide))⟩
  -- the changes of a state
  have l4 : ∀ (n : Nat) (a3 a4 a5 a7 : Int) (u : ck_W), 2 - a7 = n → -1 ≤ a7 → (0 ≤ a3 ∧ a3 < a2) → (0 ≤ a4 ∧ a4 < (R : Int)) → (0 ≤ a5 ∧ a5 < w 76 2) → (∀ k, k ≠ 82 → k ≠ 86 → u k = w k) → (∀ j, j < 12 * 243 → u 82 j = w 82 j) → (∀ j, j < 24 * a1 ∨ 24 * a1 + 24 ≤ j → u 86 j = w 86 j) →
      (∀ u' : ck_W, (∀ k, k ≠ 82 → k ≠ 86 → u' k = w k) → (∀ j, j < 12 * 243 → u' 82 j = w 82 j) → (∀ j, j < 24 * a1 ∨ 24 * a1 + 24 ≤ j → u' 86 j = w 86 j) → ck_At (ch_C g A R) (d + 4) mX12_markBest K 22 [some (.inr (.inr 76)), some (.inl a1), some (.inl a2), some (.inl a3), some (.inl a4), some (.inl (a5 + 1)), none, none] [] u') →
      ck_At (ch_C g A R) (d + 4) mX12_markBest K 75 [some (.inr (.inr 76)), some (.inl a1), some (.inl a2), some (.inl a3), some (.inl a4), some (.inl a5), none, some (.inl a7)] [] u := by
    intro n
    induction n with
    | zero =>
      intro a3 a4 a5 a7 u q1 q2 q3 q4 q5 q6 q7 q8 k
      exact r_X12_markBest_75 hC ⟨fun _ => ⟨by constructor <;> omega, k u q6 q7 q8⟩, fun z => absurd (by omega) z⟩
    | succ n ih =>
      intro a3 a4 a5 a7 u q1 q2 q3 q4 q5 q6 q7 q8 k
      have u76 := q6 76 (by decide) (by decide)
      refine r_X12_markBest_75 hC ⟨fun z => absurd z (by omega), fun _ => ⟨by constructor <;> omega, fun _ => ⟨by constructor <;> omega, k u q6 q7 q8⟩, fun z => ?_⟩⟩
      refine S_X12_isNext hC (st u q6).1 h1 (by omega) q4 (by rw [u76]; exact q5) (by omega) (rm_ft_f (st u q6).2 (by omega) (by omega) h2) (fun nx => ⟨_, rfl, fun _ => ⟨fun y => absurd y (by decide), fun _ => ?_⟩⟩) (fun nx => ⟨_, rfl, fun _ => ⟨fun _ => ⟨by constructor <;> omega, ih _ _ _ _ _ (by omega) (by omega) q3 q4 q5 q6 q7 q8 k⟩, fun y => absurd rfl y⟩⟩)
      have gg := nx.1.1
      rw [u76] at gg
      rw [u76]
      have nb : 0 ≤ (3 * a5 + a7 + 1).tmod (w 76 2) ∧ (3 * a5 + a7 + 1).tmod (w 76 2) < w 76 2 := rm_ncb (m := w 76 2) (c := a5) (e := a7) (by omega) (by omega)
      refine ⟨by constructor <;> omega, by omega, by constructor <;> omega, by constructor <;> omega, by constructor <;> omega, by omega, by constructor <;> omega, ih _ _ _ _ _ (by omega) (by omega) q3 q4 q5 (fun k k1 k2 => by rw [ck_up_ne k1, q6 k k1 k2]) (fun j hj => by rw [ck_up_nj (by omega), q7 j hj]) (fun j hj => by rw [ck_up_ne (by decide), q8 j hj]) k⟩
  have l3 : ∀ (n : Nat) (a3 a4 a5 : Int) (u : ck_W), w 76 2 - a5 = n → 0 ≤ a5 → (0 ≤ a3 ∧ a3 < a2) → (0 ≤ a4 ∧ a4 < (R : Int)) → (∀ k, k ≠ 82 → k ≠ 86 → u k = w k) → (∀ j, j < 12 * 243 → u 82 j = w 82 j) → (∀ j, j < 24 * a1 ∨ 24 * a1 + 24 ≤ j → u 86 j = w 86 j) →
      (∀ u' : ck_W, (∀ k, k ≠ 82 → k ≠ 86 → u' k = w k) → (∀ j, j < 12 * 243 → u' 82 j = w 82 j) → (∀ j, j < 24 * a1 ∨ 24 * a1 + 24 ≤ j → u' 86 j = w 86 j) → ck_At (ch_C g A R) (d + 4) mX12_markBest K 10 [some (.inr (.inr 76)), some (.inl a1), some (.inl a2), some (.inl a3), some (.inl (a4 + 1)), none, none, none] [] u') →
      ck_At (ch_C g A R) (d + 4) mX12_markBest K 22 [some (.inr (.inr 76)), some (.inl a1), some (.inl a2), some (.inl a3), some (.inl a4), some (.inl a5), none, none] [] u := by
    intro n
    induction n with
    | zero =>
      intro a3 a4 a5 u q1 q2 q3 q4 q6 q7 q8 k
      have u76 := q6 76 (by decide) (by decide)
      exact r_X12_markBest_22 hC ⟨fun _ => ⟨by constructor <;> omega, k u q6 q7 q8⟩, fun z => absurd (by rw [u76]; omega) z⟩
    | succ n ih =>
      intro a3 a4 a5 u q1 q2 q3 q4 q6 q7 q8 k
      have u76 := q6 76 (by decide) (by decide)
      refine r_X12_markBest_22 hC ⟨fun z => absurd z (by rw [u76]; omega), fun _ => ⟨by constructor <;> omega, fun x ex => ⟨by omega, fun z => ⟨by omega, ?_⟩, fun z => ⟨by constructor <;> omega, ih _ _ _ _ (by omega) (by omega) q3 q4 q6 q7 q8 k⟩⟩⟩⟩
      refine l4 3 a3 a4 a5 (-1) _ (by omega) (by omega) q3 q4 (by omega) (fun k k1 k2 => by rw [ck_up_ne k2, q6 k k1 k2]) (fun j hj => by rw [ck_up_ne (by decide), q7 j hj]) (fun j hj => by rw [ck_up_nj (by omega), q8 j hj]) (fun u' i1 i2 i3 => ih _ _ _ _ (by omega) (by omega) q3 q4 i1 i2 i3 k)
  have l2 : ∀ (n : Nat) (a3 a4 : Int) (u : ck_W), (R : Int) - a4 = n → 0 ≤ a4 → (0 ≤ a3 ∧ a3 < a2) → (∀ k, k ≠ 82 → k ≠ 86 → u k = w k) → (∀ j, j < 12 * 243 → u 82 j = w 82 j) → (∀ j, j < 24 * a1 ∨ 24 * a1 + 24 ≤ j → u 86 j = w 86 j) →
      (∀ u' : ck_W, (∀ k, k ≠ 82 → k ≠ 86 → u' k = w k) → (∀ j, j < 12 * 243 → u' 82 j = w 82 j) → (∀ j, j < 24 * a1 ∨ 24 * a1 + 24 ≤ j → u' 86 j = w 86 j) → ck_At (ch_C g A R) (d + 4) mX12_markBest K 2 [some (.inr (.inr 76)), some (.inl a1), some (.inl a2), some (.inl (a3 + 1)), none, none, none, none] [] u') →
      ck_At (ch_C g A R) (d + 4) mX12_markBest K 10 [some (.inr (.inr 76)), some (.inl a1), some (.inl a2), some (.inl a3), some (.inl a4), none, none, none] [] u := by
    intro n
    induction n with
    | zero =>
      intro a3 a4 u q1 q2 q3 q6 q7 q8 k
      have u76 := q6 76 (by decide) (by decide)
      exact r_X12_markBest_10 hC ⟨fun _ => ⟨by constructor <;> omega, k u q6 q7 q8⟩, fun z => absurd (by rw [u76]; omega) z⟩
    | succ n ih =>
      intro a3 a4 u q1 q2 q3 q6 q7 q8 k
      have u76 := q6 76 (by decide) (by decide)
      exact r_X12_markBest_10 hC ⟨fun z => absurd z (by rw [u76]; omega), fun _ => l3 (w 76 2).toNat a3 a4 0 u (by omega) (by omega) q3 (by omega) q6 q7 q8 (fun u' i1 i2 i3 => ih _ _ _ (by omega) (by omega) q3 i1 i2 i3 k)⟩
  have l1 : ∀ (n : Nat) (a3 : Int) (u : ck_W), a2 - a3 ≤ n → 0 ≤ a3 → (∀ k, k ≠ 82 → k ≠ 86 → u k = w k) → (∀ j, j < 12 * 243 → u 82 j = w 82 j) → (∀ j, j < 24 * a1 ∨ 24 * a1 + 24 ≤ j → u 86 j = w 86 j) → ck_At (ch_C g A R) (d + 4) mX12_markBest K 2 [some (.inr (.inr 76)), some (.inl a1), some (.inl a2), some (.inl a3), none, none, none, none] [] u := by
    intro n
    induction n with
    | zero =>
      intro a3 u q1 q2 q6 q7 q8
      exact r_X12_markBest_2 hC ⟨fun _ => h u q6 q7 q8, fun z => absurd (by omega) z⟩
    | succ n ih =>
      intro a3 u q1 q2 q6 q7 q8
      exact r_X12_markBest_2 hC ⟨fun _ => h u q6 q7 q8, fun z => l2 R a3 0 u (by omega) (by omega) (by omega) q6 q7 q8 (fun u' i1 i2 i3 => ih _ _ (by omega) (by omega) i1 i2 i3)⟩
  exact e_X12_markBest hC (l1 a2.toNat 0 w (by omega) (by omega) (fun _ _ _ => rfl) (fun _ _ => rfl) (fun _ _ => rfl))
theorem dX12_goBest_0 : decode cX12_goBest 0 = .ok (.iconst 0, 1) := dk_3 (by decide +kernel)
theorem dX12_goBest_1 : decode cX12_goBest 1 = .ok (.istore_n 3, 1) := dk_62 (by decide +kernel)
theorem dX12_goBest_2 : decode cX12_goBest 2 = .ok (.aload_n 0, 1) := dk_42 (by decide +kernel)
theorem dX12_goBest_3 : decode cX12_goBest 3 = .ok (.getfield 26, 3) := dk_180 0 26 (by decide +kernel)
theorem dX12_goBest_6 : decode cX12_goBest 6 = .ok (.iconst 0, 1) := dk_3 (by decide +kernel)
theorem dX12_goBest_7 : decode cX12_goBest 7 = .ok (.iload_n 3, 1) := dk_29 (by decide +kernel)
theorem dX12_goBest_8 : decode cX12_goBest 8 = .ok (.aload_n 0, 1) := dk_42 (by decide +kernel)
theorem dX12_goBest_9 : decode cX12_goBest 9 = .ok (.invokevirtual 139, 3) := dk_182 0 139 (by decide +kernel)
theorem dX12_goBest_12 : decode cX12_goBest 12 = .ok (.invokestatic 120, 3) := dk_184 0 120 (by decide +kernel)
theorem dX12_goBest_15 : decode cX12_goBest 15 = .ok (.baload, 1) := dk_51 (by decide +kernel)
theorem dX12_goBest_16 : decode cX12_goBest 16 = .ok (.ifCond .ne 9, 3) := dk_154 0 9 (by decide +kernel)
theorem dX12_goBest_19 : decode cX12_goBest 19 = .ok (.iinc 3 1, 3) := dk_132 1 (by decide +kernel)
theorem dX12_goBest_22 : decode cX12_goBest 22 = .ok (.goto (-20), 3) := dk_167 255 236 (by decide +kernel)
theorem dX12_goBest_25 : decode cX12_goBest 25 = .ok (.aload_n 0, 1) := dk_42 (by decide +kernel)
theorem dX12_goBest_26 : decode cX12_goBest 26 = .ok (.invokevirtual 139, 3) := dk_182 0 139 (by decide +kernel)
theorem dX12_goBest_29 : decode cX12_goBest 29 = .ok (.istore 4, 2) := dk_54 (by decide +kernel)
theorem dX12_goBest_31 : decode cX12_goBest 31 = .ok (.iconst 0, 1) := dk_3 (by decide +kernel)
theorem dX12_goBest_32 : decode cX12_goBest 32 = .ok (.istore 5, 2) := dk_54 (by decide +kernel)
theorem dX12_goBest_34 : decode cX12_goBest 34 = .ok (.iload 5, 2) := dk_21 (by decide +kernel)
theorem dX12_goBest_36 : decode cX12_goBest 36 = .ok (.iload_n 2, 1) := dk_28 (by decide +kernel)
theorem dX12_goBest_37 : decode cX12_goBest 37 = .ok (.if_icmp .ge 70, 3) := dk_162 0 70 (by decide +kernel)
theorem dX12_goBest_40 : decode cX12_goBest 40 = .ok (.aload_n 0, 1) := dk_42 (by decide +kernel)
theorem dX12_goBest_41 : decode cX12_goBest 41 = .ok (.getfield 36, 3) := dk_180 0 36 (by decide +kernel)
theorem dX12_goBest_44 : decode cX12_goBest 44 = .ok (.bipush 24, 2) := dk_16 24 (by decide +kernel)
theorem dX12_goBest_46 : decode cX12_goBest 46 = .ok (.iload_n 1, 1) := dk_27 (by decide +kernel)
theorem dX12_goBest_47 : decode cX12_goBest 47 = .ok (.imul, 1) := dk_104 (by decide +kernel)
theorem dX12_goBest_48 : decode cX12_goBest 48 = .ok (.iload 5, 2) := dk_21 (by decide +kernel)
theorem dX12_goBest_50 : decode cX12_goBest 50 = .ok (.iadd, 1) := dk_96 (by decide +kernel)
theorem dX12_goBest_51 : decode cX12_goBest 51 = .ok (.iload_n 3, 1) := dk_29 (by decide +kernel)
theorem dX12_goBest_52 : decode cX12_goBest 52 = .ok (.iastore, 1) := dk_79 (by decide +kernel)
theorem dX12_goBest_53 : decode cX12_goBest 53 = .ok (.iload 5, 2) := dk_21 (by decide +kernel)
theorem dX12_goBest_55 : decode cX12_goBest 55 = .ok (.iconst 1, 1) := dk_4 (by decide +kernel)
theorem dX12_goBest_56 : decode cX12_goBest 56 = .ok (.iadd, 1) := dk_96 (by decide +kernel)
theorem dX12_goBest_57 : decode cX12_goBest 57 = .ok (.iload_n 2, 1) := dk_28 (by decide +kernel)
theorem dX12_goBest_58 : decode cX12_goBest 58 = .ok (.if_icmp .ne 4, 3) := dk_160 0 4 (by decide +kernel)
theorem dX12_goBest_61 : decode cX12_goBest 61 = .ok (.return_, 1) := dk_177 (by decide +kernel)
theorem dX12_goBest_62 : decode cX12_goBest 62 = .ok (.iconst (-1), 1) := dk_2 (by decide +kernel)
theorem dX12_goBest_63 : decode cX12_goBest 63 = .ok (.istore 6, 2) := dk_54 (by decide +kernel)
theorem dX12_goBest_65 : decode cX12_goBest 65 = .ok (.aload_n 0, 1) := dk_42 (by decide +kernel)
theorem dX12_goBest_66 : decode cX12_goBest 66 = .ok (.iload_n 1, 1) := dk_27 (by decide +kernel)
theorem dX12_goBest_67 : decode cX12_goBest 67 = .ok (.iload 5, 2) := dk_21 (by decide +kernel)
theorem dX12_goBest_69 : decode cX12_goBest 69 = .ok (.iload_n 3, 1) := dk_29 (by decide +kernel)
theorem dX12_goBest_70 : decode cX12_goBest 70 = .ok (.iload 4, 2) := dk_21 (by decide +kernel)
theorem dX12_goBest_72 : decode cX12_goBest 72 = .ok (.iload 6, 2) := dk_21 (by decide +kernel)
theorem dX12_goBest_74 : decode cX12_goBest 74 = .ok (.invokevirtual 150, 3) := dk_182 0 150 (by decide +kernel)
theorem dX12_goBest_77 : decode cX12_goBest 77 = .ok (.ifCond .ne 9, 3) := dk_154 0 9 (by decide +kernel)
theorem dX12_goBest_80 : decode cX12_goBest 80 = .ok (.iinc 6 1, 3) := dk_132 1 (by decide +kernel)
theorem dX12_goBest_83 : decode cX12_goBest 83 = .ok (.goto (-18), 3) := dk_167 255 238 (by decide +kernel)
theorem dX12_goBest_86 : decode cX12_goBest 86 = .ok (.iload_n 3, 1) := dk_29 (by decide +kernel)
theorem dX12_goBest_87 : decode cX12_goBest 87 = .ok (.iload 6, 2) := dk_21 (by decide +kernel)
theorem dX12_goBest_89 : decode cX12_goBest 89 = .ok (.iadd, 1) := dk_96 (by decide +kernel)
theorem dX12_goBest_90 : decode cX12_goBest 90 = .ok (.istore_n 3, 1) := dk_62 (by decide +kernel)
theorem dX12_goBest_91 : decode cX12_goBest 91 = .ok (.aload_n 0, 1) := dk_42 (by decide +kernel)
theorem dX12_goBest_92 : decode cX12_goBest 92 = .ok (.iload 4, 2) := dk_21 (by decide +kernel)
theorem dX12_goBest_94 : decode cX12_goBest 94 = .ok (.iload 6, 2) := dk_21 (by decide +kernel)
theorem dX12_goBest_96 : decode cX12_goBest 96 = .ok (.invokevirtual 127, 3) := dk_182 0 127 (by decide +kernel)
theorem dX12_goBest_99 : decode cX12_goBest 99 = .ok (.istore 4, 2) := dk_54 (by decide +kernel)
theorem dX12_goBest_101 : decode cX12_goBest 101 = .ok (.iinc 5 1, 3) := dk_132 1 (by decide +kernel)
theorem dX12_goBest_104 : decode cX12_goBest 104 = .ok (.goto (-70), 3) := dk_167 255 186 (by decide +kernel)
theorem dX12_goBest_107 : decode cX12_goBest 107 = .ok (.return_, 1) := dk_177 (by decide +kernel)
set_option maxRecDepth 8000 in
theorem e_X12_goBest {g : ch_G} {A R : Nat} (hC : ck_Cx g A R) {d : Nat} {K : Option ck_V → ck_W → Prop} {w : ck_W} {a1 a2 : Int} (h : ck_At (ch_C g A R) (d + 1) mX12_goBest K 2 [some (.inr (.inr 76)), some (.inl a1), some (.inl a2), some (.inl 0), none, none, none] [] w) : ck_Ex (ch_C g A R) (d + 1) mX12_goBest [.inr (.inr 76), .inl a1, .inl a2] w K :=
  ck_entry hC.1 [some (.inr (.inr 76)), some (.inl a1), some (.inl a2), none, none, none, none] (by decide) (Nat.le_of_ble_eq_true rfl) rfl (fun q => q) (ck_in (fun hl => (ck_iconst 1 rfl dX12_goBest_0 rfl (ck_istore_n 2 rfl 3 [some (.inr (.inr 76)), some (.inl a1), some (.inl a2), some (.inl 0), none, none, none] dX12_goBest_1 rfl (Nat.le_of_ble_eq_true rfl) rfl rfl (show ck_i 0 by decide) h))))
set_option maxRecDepth 8000 in
theorem r_X12_goBest_2 {g : ch_G} {A R : Nat} (hC : ck_Cx g A R) {d : Nat} {K : Option ck_V → ck_W → Prop} {w : ck_W} {a1 a2 a3 : Int} (h : (1 ≤ (w 76 2) ∧ (w 76 2) ≤ 1000 ∧ ck_i (((w 76 2) - 1).tdiv 2)) ∧ ((ck_i ((12 * 0 + a3) * 243 + (((w 76 2) - 1).tdiv 2))) ∧ ((0 ≤ ((12 * 0 + a3) * 243 + (((w 76 2) - 1).tdiv 2)) ∧ ((12 * 0 + a3) * 243 + (((w 76 2) - 1).tdiv 2)) < 70000) ∧ ((¬ (w 82 ((12 * 0 + a3) * 243 + (((w 76 2) - 1).tdiv 2))) = 0 → ck_At (ch_C g A R) (d + 1) mX12_goBest K 34 [some (.inr (.inr 76)), some (.inl a1), some (.inl a2), some (.inl a3), some (.inl (((w 76 2) - 1).tdiv 2)), some (.inl 0), none] [] w) ∧ ((w 82 ((12 * 0 + a3) * 243 + (((w 76 2) - 1).tdiv 2))) = 0 → ck_i (a3 + 1) ∧ (ck_At (ch_C g A R) (d + 1) mX12_goBest K 2 [some (.inr (.inr 76)), some (.inl a1), some (.inl a2), some (.inl (a3 + 1)), none, none, none] [] w)))))) : ck_At (ch_C g A R) (d + 1) mX12_goBest K 2 [some (.inr (.inr 76)), some (.inl a1), some (.inl a2), some (.inl a3), none, none, none] [] w :=
  ck_in (fun hl => (ck_aload_n 3 rfl 0 dX12_goBest_2 rfl rfl (ck_getr 6 rfl dX12_goBest_3 fl_X12_26 sh_76 rfl (ck_iconst 7 rfl dX12_goBest_6 rfl (ck_iload_n 8 rfl 3 dX12_goBest_7 rfl rfl (ck_aload_n 9 rfl 0 dX12_goBest_8 rfl rfl (have h12 := h; have o1 := h12.1; have h11 := h12.2; (ck_callV 12 rfl [] [.inl a3, .inl 0, .inr (.inr 82)] dX12_goBest_9 cv_X12_139 sh_76 rfl rfl (Nat.le_of_ble_eq_true rfl) True.intro (p_X12_still hC o1 (fun q2 => (have h14 := h11; have o3 := h14.1; have h13 := h14.2; (ck_callS 15 rfl [.inl 0, .inl a3, .inl (((w 76 2) - 1).tdiv 2)] [.inr (.inr 82)] dX12_goBest_12 cs_X12_120 rfl rfl (Nat.le_of_ble_eq_true rfl) (And.intro (show ck_i 0 by decide) (And.intro hl.2.2.2.1 (And.intro q2.1 True.intro))) (p_X12_state hC o3 (fun q4 => (have h16 := h13; have o5 := h16.1; have h15 := h16.2; (ck_zald 16 rfl dX12_goBest_15 sh_82 (shn_82 hC) o5 _ rfl (fun (q6 : ck_i (w 82 ((12 * 0 + a3) * 243 + (((w 76 2) - 1).tdiv 2)))) => (ck_if_ne 19 rfl 25 dX12_goBest_16 rfl q6 (fun c9 => (ck_aload_n 26 rfl 0 dX12_goBest_25 rfl rfl (ck_callV 29 rfl [] [] dX12_goBest_26 cv_X12_139 sh_76 rfl rfl (Nat.le_of_ble_eq_true rfl) True.intro (p_X12_still hC o1 (fun q7 => (ck_istore 31 rfl [some (.inr (.inr 76)), some (.inl a1), some (.inl a2), some (.inl a3), some (.inl (((w 76 2) - 1).tdiv 2)), none, none] dX12_goBest_29 (Nat.le_of_ble_eq_true rfl) rfl rfl q7.1 (ck_iconst 32 rfl dX12_goBest_31 rfl (ck_istore 34 rfl [some (.inr (.inr 76)), some (.inl a1), some (.inl a2), some (.inl a3), some (.inl (((w 76 2) - 1).tdiv 2)), some (.inl 0), none] dX12_goBest_32 (Nat.le_of_ble_eq_true rfl) rfl rfl (show ck_i 0 by decide) (h15.1 c9))))))))) (fun c10 => (have h18 := (h15.2 c10); have o8 := h18.1; have h17 := h18.2; (ck_iinc 22 rfl [some (.inr (.inr 76)), some (.inl a1), some (.inl a2), some (.inl (a3 + 1)), none, none, none] dX12_goBest_19 rfl (Nat.le_of_ble_eq_true rfl) rfl rfl o8 (ck_goto 2 dX12_goBest_22 rfl h17))))))))))))))))))))))
set_option maxRecDepth 8000 in
theorem r_X12_goBest_34 {g : ch_G} {A R : Nat} (hC : ck_Cx g A R) {d : Nat} {K : Option ck_V → ck_W → Prop} {w : ck_W} {a1 a2 a3 a4 a5 : Int} (h : (a2 ≤ a5 → K none w) ∧ (¬ a2 ≤ a5 → (0 ≤ ((24 * a1) + a5) ∧ ((24 * a1) + a5) < 144) ∧ (ck_i (a5 + 1) ∧ ((¬ (a5 + 1) = a2 → ck_At (ch_C g A R) (d + 1) mX12_goBest K 65 [some (.inr (.inr 76)), some (.inl a1), some (.inl a2), some (.inl a3), some (.inl a4), some (.inl a5), some (.inl (-1))] [] (ck_up w 85 ((24 * a1) + a5) a3)) ∧ ((a5 + 1) = a2 → K none (ck_up w 85 ((24 * a1) + a5) a3)))))) : ck_At (ch_C g A R) (d + 1) mX12_goBest K 34 [some (.inr (.inr 76)), some (.inl a1), some (.inl a2), some (.inl a3), some (.inl a4), some (.inl a5), none] [] w :=
  ck_in (fun hl => (ck_iload 36 rfl dX12_goBest_34 rfl (ck_iload_n 37 rfl 2 dX12_goBest_36 rfl rfl (ck_icmp_ge 40 rfl 107 dX12_goBest_37 rfl hl.2.2.2.2.2.1 hl.2.2.1 (fun c5 => (ck_vret dX12_goBest_107 rfl (h.1 c5))) (fun c6 => (ck_aload_n 41 rfl 0 dX12_goBest_40 rfl rfl (ck_getr 44 rfl dX12_goBest_41 fl_X12_36 sh_76 rfl (ck_bipush 46 rfl dX12_goBest_44 rfl (ck_iload_n 47 rfl 1 dX12_goBest_46 rfl rfl (ck_imul 48 rfl dX12_goBest_47 (ck_iload 50 rfl dX12_goBest_48 rfl (ck_iadd 51 rfl dX12_goBest_50 (ck_iload_n 52 rfl 3 dX12_goBest_51 rfl rfl (have h8 := (h.2 c6); have o1 := h8.1; have h7 := h8.2; (ck_iast 53 rfl dX12_goBest_52 sh_85 (shn_85 hC) o1 hl.2.2.2.1 (ck_iload 55 rfl dX12_goBest_53 rfl (ck_iconst 56 rfl dX12_goBest_55 rfl (ck_iadd 57 rfl dX12_goBest_56 (ck_iload_n 58 rfl 2 dX12_goBest_57 rfl rfl (have h10 := h7; have o2 := h10.1; have h9 := h10.2; (ck_icmp_ne 61 rfl 62 dX12_goBest_58 rfl o2 hl.2.2.1 (fun c3 => (ck_iconst 63 rfl dX12_goBest_62 rfl (ck_istore 65 rfl [some (.inr (.inr 76)), some (.inl a1), some (.inl a2), some (.inl a3), some (.inl a4), some (.inl a5), some (.inl (-1))] dX12_goBest_63 (Nat.le_of_ble_eq_true rfl) rfl rfl (show ck_i (-1) by decide) (h9.1 c3)))) (fun c4 => (ck_vret dX12_goBest_61 rfl (h9.2 c4))))))))))))))))))))))))
set_option maxRecDepth 8000 in
theorem r_X12_goBest_65 {g : ch_G} {A R : Nat} (hC : ck_Cx g A R) {d : Nat} {K : Option ck_V → ck_W → Prop} {w : ck_W} {a1 a2 a3 a4 a5 a6 : Int} (h : ck_CI (ch_C g A R) d mX12_isNext [.inr (.inr 76), .inl a1, .inl a5, .inl a3, .inl a4, .inl a6] w (fun v2 w1 => (¬ v2 = 0 → ck_i (a3 + a6) ∧ ((ck_i (3 * a4 + a6 + 1)) ∧ ((1 ≤ (w1 76 2)) ∧ ((ck_i ((3 * a4 + a6 + 1).tmod (w1 76 2))) ∧ (∀ x10, x10 = (3 * a4 + a6 + 1).tmod (w1 76 2) → ck_i (a5 + 1) ∧ (ck_At (ch_C g A R) (d + 1) mX12_goBest K 34 [some (.inr (.inr 76)), some (.inl a1), some (.inl a2), some (.inl (a3 + a6)), some (.inl x10), some (.inl (a5 + 1)), none] [] w1)))))) ∧ (v2 = 0 → ck_i (a6 + 1) ∧ (ck_At (ch_C g A R) (d + 1) mX12_goBest K 65 [some (.inr (.inr 76)), some (.inl a1), some (.inl a2), some (.inl a3), some (.inl a4), some (.inl a5), some (.inl (a6 + 1))] [] w1)))) : ck_At (ch_C g A R) (d + 1) mX12_goBest K 65 [some (.inr (.inr 76)), some (.inl a1), some (.inl a2), some (.inl a3), some (.inl a4), some (.inl a5), some (.inl a6)] [] w :=
  ck_in (fun hl => (ck_aload_n 66 rfl 0 dX12_goBest_65 rfl rfl (ck_iload_n 67 rfl 1 dX12_goBest_66 rfl rfl (ck_iload 69 rfl dX12_goBest_67 rfl (ck_iload_n 70 rfl 3 dX12_goBest_69 rfl rfl (ck_iload 72 rfl dX12_goBest_70 rfl (ck_iload 74 rfl dX12_goBest_72 rfl (ck_callV 77 rfl [.inl a1, .inl a5, .inl a3, .inl a4, .inl a6] [] dX12_goBest_74 cv_X12_150 sh_76 rfl rfl (Nat.le_of_ble_eq_true rfl) (And.intro hl.2.1 (And.intro hl.2.2.2.2.2.1 (And.intro hl.2.2.2.1 (And.intro hl.2.2.2.2.1 (And.intro hl.2.2.2.2.2.2.1 True.intro))))) (ck_mI h (fun v2 w1 q3 h4 => (ck_if_ne 80 rfl 86 dX12_goBest_77 rfl q3 (fun c14 => (ck_iload_n 87 rfl 3 dX12_goBest_86 rfl rfl (ck_iload 89 rfl dX12_goBest_87 rfl (ck_iadd 90 rfl dX12_goBest_89 (have h17 := (h4.1 c14); have o5 := h17.1; have h16 := h17.2; (ck_istore_n 91 rfl 3 [some (.inr (.inr 76)), some (.inl a1), some (.inl a2), some (.inl (a3 + a6)), some (.inl a4), some (.inl a5), some (.inl a6)] dX12_goBest_90 rfl (Nat.le_of_ble_eq_true rfl) rfl rfl o5 (ck_aload_n 92 rfl 0 dX12_goBest_91 rfl rfl (ck_iload 94 rfl dX12_goBest_92 rfl (ck_iload 96 rfl dX12_goBest_94 rfl (have h19 := h16; have o6 := h19.1; have h18 := h19.2; (have h21 := h18; have o7 := h21.1; have h20 := h21.2; (have h23 := h20; have o8 := h23.1; have h22 := h23.2; (ck_callV 99 rfl [.inl a4, .inl a6] [] dX12_goBest_96 cv_X12_127 sh_76 rfl rfl (Nat.le_of_ble_eq_true rfl) (And.intro hl.2.2.2.2.1 (And.intro hl.2.2.2.2.2.2.1 True.intro)) (p_X12_nextCode hC o6 o7 o8 (fun q9 => (ck_nmi (fun x10 e11 => (ck_istore 101 rfl [some (.inr (.inr 76)), some (.inl a1), some (.inl a2), some (.inl (a3 + a6)), some (.inl x10), some (.inl a5), some (.inl a6)] dX12_goBest_99 (Nat.le_of_ble_eq_true rfl) rfl rfl (by rw [e11]; exact q9.1) (have h25 := (h22 x10 e11); have o12 := h25.1; have h24 := h25.2; (ck_iinc 104 rfl [some (.inr (.inr 76)), some (.inl a1), some (.inl a2), some (.inl (a3 + a6)), some (.inl x10), some (.inl (a5 + 1)), some (.inl a6)] dX12_goBest_101 rfl (Nat.le_of_ble_eq_true rfl) rfl rfl o12 (ck_goto 34 dX12_goBest_104 rfl (ck_drop [some (.inr (.inr 76)), some (.inl a1), some (.inl a2), some (.inl (a3 + a6)), some (.inl x10), some (.inl (a5 + 1)), none] (And.intro rfl (And.intro rfl (And.intro rfl (And.intro rfl (And.intro rfl (And.intro rfl True.intro)))))) h24)))))))))))))))))))))) (fun c15 => (have h27 := (h4.2 c15); have o13 := h27.1; have h26 := h27.2; (ck_iinc 83 rfl [some (.inr (.inr 76)), some (.inl a1), some (.inl a2), some (.inl a3), some (.inl a4), some (.inl a5), some (.inl (a6 + 1))] dX12_goBest_80 rfl (Nat.le_of_ble_eq_true rfl) rfl rfl o13 (ck_goto 65 dX12_goBest_83 rfl h26)))))))))))))))
theorem S_X12_goBest {g : ch_G} {A R : Nat} (hC : ck_Cx g A R) {d : Nat} {K : Option ck_V → ck_W → Prop} {w : ck_W} {a1 a2 : Int} (hI : rm_I A R w) (h1 : 0 ≤ a1 ∧ a1 ≤ 5) (h2 : 1 ≤ a2 ∧ a2 ≤ 24) (hf : rm_ft R a1 a2 w) (hm : ∀ r, 0 ≤ r → r < (R : Int) → w 82 (rm_x 0 r ((w 76 2 - 1).tdiv 2)) ≠ 0 → 0 ≤ w 80 (rm_x 0 r ((w 76 2 - 1).tdiv 2))) (he : ∃ r, 0 ≤ r ∧ r < (R : Int) ∧ w 82 (rm_x 0 r ((w 76 2 - 1).tdiv 2)) ≠ 0)
    (h : ∀ w', (∀ k, k ≠ 85 → w' k = w k) → (∀ j, j < 24 * a1 ∨ 24 * a1 + 24 ≤ j → w' 85 j = w 85 j) → (∀ p, 0 ≤ p → p < a2 → 0 ≤ w' 85 (24 * a1 + p) ∧ w' 85 (24 * a1 + p) < (R : Int)) → K none w') : ck_Ex (ch_C g A R) (d + 4) mX12_goBest [.inr (.inr 76), .inl a1, .inl a2] w K := by
  have c := rm_cp hC hI
  have sb : 0 ≤ (w 76 2 - 1).tdiv 2 ∧ (w 76 2 - 1).tdiv 2 < w 76 2 := by
    rw [Int.tdiv_eq_ediv_of_nonneg (by omega)]; omega
  have st : ∀ u : ck_W, (∀ k, k ≠ 85 → u k = w k) → rm_I A R u ∧ rm_ft R a1 a2 u := fun u e =>
    ⟨rm_I_c hI (e 76 (by decide)) (e 77 (by decide)) (e 78 (by decide)) (e 79 (by decide)), rm_ft_c hC hI hf (e 76 (by decide)) (e 77 (by decide)) (e 87 (by decide)) (e 80 (by decide)) (e 81 (by decide))⟩
  -- from a place on; n: places to come
  have l2 : ∀ (n : Nat) (a3 a4 a5 : Int) (u : ck_W), a2 - a5 = n → 0 ≤ a5 → a5 < a2 → (0 ≤ a3 ∧ a3 < (R : Int)) → (0 ≤ a4 ∧ a4 < w 76 2) → 0 ≤ w 80 (rm_x a5 a3 a4) → (∀ k, k ≠ 85 → u k = w k) → (∀ j, j < 24 * a1 ∨ 24 * a1 + 24 ≤ j → u 85 j = w 85 j) → (∀ p, 0 ≤ p → p < a5 → 0 ≤ u 85 (24 * a1 + p) ∧ u 85 (24 * a1 + p) < (R : Int)) → ck_At (ch_C g A R) (d + 4) mX12_goBest K 34 [some (.inr (.inr 76)), some (.inl a1), some (.inl a2), some (.inl a3), some (.inl a4), some (.inl a5), none] [] u := by
    intro n
    induction n with
    | zero => intro a3 a4 a5 u q1 q2 q3; omega
    | succ n ih =>
      intro a3 a4 a5 u q1 q2 q3 q4 q5 q6 q7 q8 q9
      have pl : ∀ p, 0 ≤ p → p < a5 + 1 → 0 ≤ (ck_up u 85 (24 * a1 + a5) a3) 85 (24 * a1 + p) ∧ (ck_up u 85 (24 * a1 + a5) a3) 85 (24 * a1 + p) < (R : Int) := fun p p0 p1 => by
        by_cases e : p = a5
        · subst e; rw [ck_up_eq]; exact q4
        · rw [ck_up_nj (by omega)]; exact q9 p p0 (by omega)
      have k1 : ∀ k, k ≠ 85 → (ck_up u 85 (24 * a1 + a5) a3) k = w k := fun k k1 => by rw [ck_up_ne k1, q7 k k1]
      have k2 : ∀ j, j < 24 * a1 ∨ 24 * a1 + 24 ≤ j → (ck_up u 85 (24 * a1 + a5) a3) 85 j = w 85 j := fun j hj => by rw [ck_up_nj (by omega), q8 j hj]
      refine r_X12_goBest_34 hC ⟨fun z => absurd z (by omega), fun _ => ⟨by omega, by constructor <;> omega, fun z => ?_, fun z => h _ k1 k2 (fun p p0 p1 => pl p p0 (by omega))⟩⟩
      -- there is a change
      obtain ⟨I2, F2⟩ := st _ k1
      have en := hf a5 a3 a4 q2 q3 q4.1 q4.2 q5.1 q5.2
      obtain ⟨e, e1, e2, e3⟩ := rm_ws_src z (by rw [← en.1]; exact q6) (by rw [← en.1])
      have k76 := k1 76 (by decide)
      have nxe : ∀ e, rm_nx (ck_up u 85 (24 * a1 + a5) a3) a1 a5 a3 a4 e ↔ rm_nx w a1 a5 a3 a4 e := fun e => by
        unfold rm_nx rm_gr
        rw [k1 76 (by decide), k1 77 (by decide), k1 80 (by decide), k1 87 (by decide)]
      have l3 : ∀ (m : Nat) (a6 : Int), e - a6 = m → -1 ≤ a6 → ck_At (ch_C g A R) (d + 4) mX12_goBest K 65 [some (.inr (.inr 76)), some (.inl a1), some (.inl a2), some (.inl a3), some (.inl a4), some (.inl a5), some (.inl a6)] [] (ck_up u 85 (24 * a1 + a5) a3) := by
        intro m
        induction m with
        | zero =>
          intro a6 r1 r2
          obtain rfl : a6 = e := by omega
          refine r_X12_goBest_65 hC (S_X12_isNext hC I2 h1 (by omega) q4 (by rw [k76]; exact q5) (by omega) (rm_ft_f F2 (by omega) (by omega) h2.2) (fun nx => ⟨_, rfl, fun _ => ⟨fun _ => ?_, fun y => absurd y (by decide)⟩⟩) (fun nx => absurd ((nxe _).mpr e3) nx))
          have gg := e3.1.1
          rw [k76]
          have nb : 0 ≤ (3 * a4 + a6 + 1).tmod (w 76 2) ∧ (3 * a4 + a6 + 1).tmod (w 76 2) < w 76 2 := rm_ncb (m := w 76 2) (c := a4) (e := a6) (by omega) (by omega)
          refine ⟨by constructor <;> omega, by constructor <;> omega, by omega, by constructor <;> omega, fun x ex => ⟨by constructor <;> omega, ?_⟩⟩
          subst ex
          exact ih _ _ _ _ (by omega) (by omega) (by omega) (by omega) nb e3.2.1 k1 k2 pl
        | succ m ih2 =>
          intro a6 r1 r2
          refine r_X12_goBest_65 hC (S_X12_isNext hC I2 h1 (by omega) q4 (by rw [k76]; exact q5) (by omega) (rm_ft_f F2 (by omega) (by omega) h2.2) (fun nx => ⟨_, rfl, fun _ => ⟨fun _ => ?_, fun y => absurd y (by decide)⟩⟩) (fun nx => ⟨_, rfl, fun _ => ⟨fun y => absurd rfl y, fun _ => ⟨by constructor <;> omega, ih2 _ (by omega) (by omega)⟩⟩⟩))
          have nx' := (nxe _).mp nx
          have gg := nx'.1.1
          rw [k76]
          have nb : 0 ≤ (3 * a4 + a6 + 1).tmod (w 76 2) ∧ (3 * a4 + a6 + 1).tmod (w 76 2) < w 76 2 := rm_ncb (m := w 76 2) (c := a4) (e := a6) (by omega) (by omega)
          refine ⟨by constructor <;> omega, by constructor <;> omega, by omega, by constructor <;> omega, fun x ex => ⟨by constructor <;> omega, ?_⟩⟩
          subst ex
          exact ih _ _ _ _ (by omega) (by omega) (by omega) (by omega) nb nx'.2.1 k1 k2 pl
      exact l3 (e + 1).toNat (-1) (by omega) (by omega)
  obtain ⟨r0, r1, r2, r3⟩ := he
  have l1 : ∀ (n : Nat) (a3 : Int), r0 - a3 = n → 0 ≤ a3 → ck_At (ch_C g A R) (d + 4) mX12_goBest K 2 [some (.inr (.inr 76)), some (.inl a1), some (.inl a2), some (.inl a3), none, none, none] [] w := by
    intro n
    have go : ∀ a3, 0 ≤ a3 → a3 < (R : Int) → w 82 (rm_x 0 a3 ((w 76 2 - 1).tdiv 2)) ≠ 0 → ck_At (ch_C g A R) (d + 4) mX12_goBest K 34 [some (.inr (.inr 76)), some (.inl a1), some (.inl a2), some (.inl a3), some (.inl ((w 76 2 - 1).tdiv 2)), some (.inl 0), none] [] w := fun a3 b1 b2 b3 => l2 a2.toNat _ _ _ _ (by omega) (by omega) (by omega) ⟨b1, b2⟩ sb (hm a3 b1 b2 b3) (fun _ _ => rfl) (fun _ _ => rfl) (fun p p0 p1 => by omega)
    induction n with
    | zero =>
      intro a3 q1 q2
      obtain rfl : a3 = r0 := by omega
      exact r_X12_goBest_2 hC ⟨⟨by omega, by omega, by constructor <;> omega⟩, by constructor <;> omega, by omega, fun z => go _ r1 r2 r3, fun z => absurd z r3⟩
    | succ n ih =>
      intro a3 q1 q2
      exact r_X12_goBest_2 hC ⟨⟨by omega, by omega, by constructor <;> omega⟩, by constructor <;> omega, by omega, fun z => go _ q2 (by omega) z, fun z => ⟨by constructor <;> omega, ih _ (by omega) (by omega)⟩⟩
  exact e_X12_goBest hC (l1 r0.toNat 0 (by omega) (by omega))
